/-! What the reference reads: a sample -/
set_option maxHeartbeats 8000000 in
set_option maxRecDepth 100000 in
theorem X6s_sampleTold (l : Launch) (κ : Kt) (σ0 : Gh) (this : Nat) {tc : Nat → Int} {Ln : Nat} {sp nn : Nat} {vv : Int} (t_this : zk σ0 this 20) (h0 : TXm κ σ0 this tc Ln) (h1 : (zI σ0 this 17).toInt = 0) (h2 : (zI σ0 this 14).toInt = (sp : Nat)) (h3 : sp ≤ Ln) (h4 : uWd tc Ln 12 sp) (h5 : (zI σ0 this 18).toInt = (nn : Nat)) (h6 : nn ≤ 48) (h7 : (nn = 0 ∧ vv = -1) ∨ (0 < nn ∧ (zI σ0 (kR κ this 25) (nn - 1)).toInt = vv)) (h8 : -1 ≤ vv) (h9 : vv ≤ 9999) : TC l yX6_sampleTold cX6_sampleTold 2 none 2 49 [.ref this] κ σ0 (tqv κ gS2 σ0 (fun (τ : Gh) => (((zI τ this 17).toInt = 0 ∧ (∃ (s9 a9 : Nat) (v9 : Int), umGo (utkK tc Ln) (unxt tc Ln) (uvl tc Ln) (uWd tc Ln) sp nn vv s9 (nn + 1) v9 ∧ (zI τ this 14).toInt = (a9 : Nat) ∧ a9 ≤ Ln ∧ uscn uisBl tc Ln a9 = s9 ∧ (zI τ this 18).toInt = nn + 1 ∧ nn + 1 ≤ 48 ∧ (zI τ (kR κ this 25) nn).toInt = v9 ∧ v9 ≤ 9999 ∧ vv < v9) ∧ (∀ j, j < nn → zI τ (kR κ this 25) j = zI σ0 (kR κ this 25) j) ∧ zI τ this 15 = zI σ0 this 15 ∧ zI τ this 16 = zI σ0 this 16) ∨ ((zI τ this 17).toInt = 1 ∧ 0 ≤ (zI τ this 18).toInt ∧ (zI τ this 18).toInt ≤ 48 ∧ ∃ co po : Int, umBad (utkK tc Ln) (unxt tc Ln) (uvl tc Ln) (uWd tc Ln) sp nn vv co po ∧ co ≠ 0 ∧ (zI τ this 15).toInt = co ∧ (zI τ this 16).toInt = po)))) := by
  refine TC.of gS2 (by decide +kernel) (Nat.le_of_ble_eq_true rfl) ?_
  intro p e s m below meth c ls hcs hK hX hT hl
  obtain ⟨hx, hb, hr, hml, hown, hg, hlocks, hin⟩ := hcs
  have hown : s.vm.findClass RX6 = some m.cls := hown
  have hl : lv_has ls 2 [(0, .ref this)] := hl
  have hT0 := hT
  have n0 : (0 : Int32).toInt = 0 := by decide
  have n1 : (1 : Int32).toInt = 1 := by decide
  have n4 : (4 : Int32).toInt = 4 := by decide
  have n45 : (45 : Int32).toInt = 45 := by decide
  have n48 : (48 : Int32).toInt = 48 := by decide
  have n9999 : (9999 : Int32).toInt = 9999 := by decide
  generalize hQ9 : tQ _ _ _ _ _ _ = Q9
  have hTX := h0
  obtain ⟨rT, erT⟩ : ∃ z, kR κ this 12 = z := ⟨_, rfl⟩
  have trT : zk σ0 rT 23 := by rw [← erT]; exact hT0.ref t_this (by decide) (by decide) (by decide)
  have hpc : ∀ j, tc j = (zI σ0 rT j).toInt := by rw [← erT]; exact hTX.1
  have hLn : (zI σ0 this 13).toInt = Ln := hTX.2.1
  have hL7 : Ln ≤ 700 := hTX.2.2.1
  have hnn := hTX.2.2.2
  obtain ⟨rQ, erQ⟩ : ∃ z, kR κ this 25 = z := ⟨_, rfl⟩
  have trQ : zk σ0 rQ 27 := by rw [← erQ]; exact hT0.ref t_this (by decide) (by decide) (by decide)
  obtain ⟨v1, ev1⟩ : ∃ zz9 : Int32, zI σ0 this 17 = zz9 := ⟨_, rfl⟩
  have qv1 : v1.toInt = (zI σ0 this 17).toInt := by rw [ev1]
  have b2 : isB v1 := by have q9 : isB (zI σ0 this 17) := hT.P (hT.k t_this (by decide)) (by decide); rw [ev1] at q9; exact q9
  have b2t := isB_t b2
  obtain ⟨v3, ev3⟩ : ∃ zz9 : Int32, zI σ0 this 14 = zz9 := ⟨_, rfl⟩
  have qv3 : v3.toInt = (zI σ0 this 14).toInt := by rw [ev3]
  obtain ⟨v4, ev4⟩ : ∃ zz9 : Int32, zI σ0 this 18 = zz9 := ⟨_, rfl⟩
  have qv4 : v4.toInt = (zI σ0 this 18).toInt := by rw [ev4]
  obtain ⟨v5, ev5⟩ : ∃ zz9 : Int32, zI σ0 this 15 = zz9 := ⟨_, rfl⟩
  have qv5 : v5.toInt = (zI σ0 this 15).toInt := by rw [ev5]
  have zthis15 : zI σ0 this 15 = v5 := ev5
  obtain ⟨v6, ev6⟩ : ∃ zz9 : Int32, zI σ0 this 16 = zz9 := ⟨_, rfl⟩
  have qv6 : v6.toInt = (zI σ0 this 16).toInt := by rw [ev6]
  have zthis16 : zI σ0 this 16 = v6 := ev6
  have hE9 := utkE_word (uIsW_K h4.1 h4.2)
  rw [erQ] at h7
  have q0 : zI σ0 rQ = zI σ0 rQ := rfl
  refine lv_aload_n hx hb dX6_sampleTold_0 rfl (lv_at hl 0 rfl) ?_
  refine va_get (D := κ.1) (ci := 6) (v := .int (zI σ0 this 18)) (C := RX6) (T := TX6) (N := 27) hx hb hg inX6 hown hK (hT.o20 (hT.k t_this (by decide))).one 0 rfl rfl 18 (by decide) (hg _ k1237) (fun _ h9 => h9) rfl dX6_sampleTold_1 ?_
  rw [ev4]
  refine lv_bipush (v := 48) hx hb dX6_sampleTold_4 (by decide) ?_
  refine lv_icmp_ne (tgt := 19) hx hb dX6_sampleTold_6 (by decide) (fun c9 => ?_) (fun c9 => ?_)
  · have c1 := gi_ne c9
    have loop119 : ∀ (n9 : Nat) (ib : Int32) (u : Int32) (bb : Int32) (H : Heap) (locs : List Loc) (sg : Gh) (ls : Array Slot), TS κ gS2 σ0 sg s H locs → (zI sg this 18 = v4) → (zI sg this 14 = u) → (zI sg this 17 = bb) → ((bb.toInt = 0 ∧ (utkK tc Ln (unxt tc Ln sp) = 2 ∧ vv < uvl tc Ln (unxt tc Ln sp)) ∧ utkK tc Ln (svq (utkK tc Ln) (unxt tc Ln) (unxt tc Ln sp)) = 2 ∧ u.toInt = (utkE tc Ln (svq (utkK tc Ln) (unxt tc Ln) (unxt tc Ln sp)) : Nat) ∧ zI sg this 15 = zI σ0 this 15 ∧ zI sg this 16 = zI σ0 this 16 ∧ (zI sg rQ nn).toInt = uvl tc Ln (unxt tc Ln sp) ∧ (∀ j : Nat, j < nn → zI sg rQ j = zI σ0 rQ j)) ∨ (bb.toInt = 1 ∧ ∃ co po : Int, umBad (utkK tc Ln) (unxt tc Ln) (uvl tc Ln) (uWd tc Ln) sp nn vv co po ∧ co ≠ 0 ∧ (zI sg this 15).toInt = co ∧ (zI sg this 16).toInt = po)) → lv_has ls 2 [(1, .int ib), (0, .ref this)] → ((0 : Int)) < n9 → tW p l e 2 49 κ s m #[.ref this] below meth c H locs Q9 (F0 m 119 ls []) := by
      intro n9
      induction n9 with
      | zero =>
        intro ib u bb H locs sg ls hT kthis_18 kthis_14 kthis_17 s3 hl hm9
        exfalso
        omega
      | succ n9 ih9 =>
        have ih119 := ih9
        clear ih9
        intro ib u bb H locs s7 ls hT kthis_18 kthis_14 kthis_17 s3 hl hm9
        have b8 : isB (zI s7 this 17) := hT.P (hT.k t_this (by decide)) (by decide)
        rw [kthis_17] at b8
        have b8t := isB_t b8
        rcases s3 with ⟨g1, g2, g3, g4, g6, g7, g8, g9⟩ | ⟨g1, co, po, z1, z2, z3, z4⟩
        · skip
          obtain ⟨v9, ev9⟩ : ∃ zz9 : Int32, zI s7 this 15 = zz9 := ⟨_, rfl⟩
          have qv9 : v9.toInt = (zI s7 this 15).toInt := by rw [ev9]
          have zthis15 : zI σ0 this 15 = v9 := g6.symm.trans ev9
          obtain ⟨v10, ev10⟩ : ∃ zz9 : Int32, zI s7 this 16 = zz9 := ⟨_, rfl⟩
          have qv10 : v10.toInt = (zI s7 this 16).toInt := by rw [ev10]
          have zthis16 : zI σ0 this 16 = v10 := g7.symm.trans ev10
          refine lv_aload_n hx hb dX6_sampleTold_119 rfl (lv_at hl 1 rfl) ?_
          obtain ⟨r11, er11⟩ : ∃ z, kR κ this 26 = z := ⟨_, rfl⟩
          have tr11 : zk σ0 r11 28 := by rw [← er11]; exact hT0.ref t_this (by decide) (by decide) (by decide)
          refine va_get (D := κ.1) (ci := 6) (v := .ref (kR κ this 26)) (C := RX6) (T := TX6) (N := 27) hx hb hg inX6 hown hK (hT.o20 (hT.k t_this (by decide))).one 0 rfl rfl 26 (by decide) (hg _ k1245) (fun _ h9 => h9) rfl dX6_sampleTold_120 ?_
          rw [er11]
          refine lv_aload_n hx hb dX6_sampleTold_123 rfl (lv_at hl 1 rfl) ?_
          refine va_get (D := κ.1) (ci := 6) (v := .int (zI s7 this 18)) (C := RX6) (T := TX6) (N := 27) hx hb hg inX6 hown hK (hT.o20 (hT.k t_this (by decide))).one 0 rfl rfl 18 (by decide) (hg _ k1237) (fun _ h9 => h9) rfl dX6_sampleTold_124 ?_
          rw [kthis_18]
          refine lv_iload_n hx hb dX6_sampleTold_127 rfl (lv_at hl 0 rfl) ?_
          refine lv_if_eq (tgt := 139) hx hb dX6_sampleTold_128 (by decide) (fun c9 => ?_) (fun c9 => ?_)
          · have c2 := gi_eq c9
            refine lv_aload_n hx hb dX6_sampleTold_139 rfl (lv_at hl 1 rfl) ?_
            obtain ⟨v12, ev12⟩ : ∃ zz9 : Int32, zI s7 this 24 = zz9 := ⟨_, rfl⟩
            have qv12 : v12.toInt = (zI s7 this 24).toInt := by rw [ev12]
            refine va_get (D := κ.1) (ci := 6) (v := .int (zI s7 this 24)) (C := RX6) (T := TX6) (N := 27) hx hb hg inX6 hown hK (hT.o20 (hT.k t_this (by decide))).one 0 rfl rfl 24 (by decide) (hg _ k1243) (fun _ h9 => h9) rfl dX6_sampleTold_140 ?_
            rw [ev12]
            have hTo := hT
            refine tasti (n := 48) hx hb hK hT (hT.k tr11 (by decide)) ⟨by decide, by decide⟩ (fun _ _ _ => rfl) (fun _ _ => trivial) (fun _ => rfl) (by omega) (by omega) dX6_sampleTold_143 (fun H locs s13 hus13 hT => ?_)
            have kthis_18 : zI s13 this 18 = v4 := (zput_o hus13 (Or.inl ((hTo.k t_this (by decide)).ne (hTo.k tr11 (by decide)) (by decide)))).trans kthis_18
            have kthis_14 : zI s13 this 14 = u := (zput_o hus13 (Or.inl ((hTo.k t_this (by decide)).ne (hTo.k tr11 (by decide)) (by decide)))).trans kthis_14
            have kthis_17 : zI s13 this 17 = bb := (zput_o hus13 (Or.inl ((hTo.k t_this (by decide)).ne (hTo.k tr11 (by decide)) (by decide)))).trans kthis_17
            have ev9 : zI s13 this 15 = v9 := (zput_o hus13 (Or.inl ((hTo.k t_this (by decide)).ne (hTo.k tr11 (by decide)) (by decide)))).trans ev9
            have ev10 : zI s13 this 16 = v10 := (zput_o hus13 (Or.inl ((hTo.k t_this (by decide)).ne (hTo.k tr11 (by decide)) (by decide)))).trans ev10
            have ev12 : zI s13 this 24 = v12 := (zput_o hus13 (Or.inl ((hTo.k t_this (by decide)).ne (hTo.k tr11 (by decide)) (by decide)))).trans ev12
            have Y14 : (zI s13 rQ nn).toInt = uvl tc Ln (unxt tc Ln sp) := by first | (rw [show zI s13 rQ = zI s7 rQ from zput_Io hus13 ((hTo.k trQ (by decide)).ne (hTo.k tr11 (by decide)) (by decide))]; exact g8) | rw [show zI s13 rQ = zI s7 rQ from zput_Io hus13 ((hTo.k trQ (by decide)).ne (hTo.k tr11 (by decide)) (by decide))]
            have Y15 : ∀ j : Nat, j < nn → zI s13 rQ j = zI σ0 rQ j := by first | (rw [show zI s13 rQ = zI s7 rQ from zput_Io hus13 ((hTo.k trQ (by decide)).ne (hTo.k tr11 (by decide)) (by decide))]; exact g9) | rw [show zI s13 rQ = zI s7 rQ from zput_Io hus13 ((hTo.k trQ (by decide)).ne (hTo.k tr11 (by decide)) (by decide))]
            refine lv_aload_n hx hb dX6_sampleTold_144 rfl (lv_at hl 1 rfl) ?_
            have cz16 : zI s13 this 15 = v9 := ev9
            have cz17 : zI s13 this 16 = v10 := ev10
            have cz18 : zI s13 this 17 = bb := kthis_17
            have cz19 : zI s13 this 17 = bb := kthis_17
            have hTo := hT
            refine tVv (n := 0) (As := []) (rest := []) hx hb hml hown hg hT hK hX (X6s_ends l κ s13 this  (hT.k t_this (by decide)) (hTX.tr (funext fun k => by rw [erT]; exact hT.eI trT (by decide) rfl rfl) (hT.eI t_this (by decide) rfl rfl)) (show (zI s13 this 17).toInt = 0 → (zI s13 this 14).toInt = (utkE tc Ln (svq (utkK tc Ln) (unxt tc Ln) (unxt tc Ln sp)) : Nat) ∧ utkE tc Ln (svq (utkK tc Ln) (unxt tc Ln) (unxt tc Ln sp)) ≤ Ln from fun q9 => ⟨by rw [(show zI s13 this 14 = u from kthis_14)]; omega, utkE_le (svq_le (unxt_le h3))⟩)) sub_gHB_gS2 (mwV k1386 k1388 k49 k92 k1389) ⟨rfl, by decide, by decide, by decide +kernel⟩ ⟨(Nat.le_of_ble_eq_true rfl), (Nat.le_of_ble_eq_true rfl)⟩ (hT.o20 (hT.k t_this (by decide))) rfl rfl hl.1 rfl (Nat.le_of_ble_eq_true rfl) dX6_sampleTold_145 zroom.rf (fun s21 H locs hφ hEs21 hT => ?_)
            have kthis_18 : zI s21 this 18 = v4 := ((hTo.k t_this (by decide)).eI hEs21 (by decide) rfl).trans kthis_18
            have ev12 : zI s21 this 24 = v12 := ((hTo.k t_this (by decide)).eI hEs21 (by decide) rfl).trans ev12
            have Y22 : (zI s21 rQ nn).toInt = uvl tc Ln (unxt tc Ln sp) := by first | (rw [show zI s21 rQ = zI s13 rQ from funext fun k => (hTo.k trQ (by decide)).eI hEs21 (by decide) rfl]; exact Y14) | rw [show zI s21 rQ = zI s13 rQ from funext fun k => (hTo.k trQ (by decide)).eI hEs21 (by decide) rfl]
            have Y23 : ∀ j : Nat, j < nn → zI s21 rQ j = zI σ0 rQ j := by first | (rw [show zI s21 rQ = zI s13 rQ from funext fun k => (hTo.k trQ (by decide)).eI hEs21 (by decide) rfl]; exact Y15) | rw [show zI s21 rQ = zI s13 rQ from funext fun k => (hTo.k trQ (by decide)).eI hEs21 (by decide) rfl]
            obtain ⟨f24, f25⟩ := hφ
            have d9 := f25 (show (zI s13 this 17).toInt = 0 from by rw [cz18]; omega)
            rw [show uscn uisBl tc Ln (utkE tc Ln (svq (utkK tc Ln) (unxt tc Ln) (unxt tc Ln sp))) = unxt tc Ln (svq (utkK tc Ln) (unxt tc Ln) (unxt tc Ln sp)) from rfl] at d9
            rcases d9 with ⟨d1, d2, d3, d4, d5⟩ | ⟨d1, d2, d3, d4⟩
            · skip
              obtain ⟨v26, ev26⟩ : ∃ zz9 : Int32, zI s21 this 17 = zz9 := ⟨_, rfl⟩
              have qv26 : v26.toInt = (zI s21 this 17).toInt := by rw [ev26]
              have b27 : isB v26 := by have q9 : isB (zI s21 this 17) := hT.P (hT.k t_this (by decide)) (by decide); rw [ev26] at q9; exact q9
              have b27t := isB_t b27
              rw [(show zI s21 this 17 = v26 from ev26)] at d2
              obtain ⟨v28, ev28⟩ : ∃ zz9 : Int32, zI s21 this 14 = zz9 := ⟨_, rfl⟩
              have qv28 : v28.toInt = (zI s21 this 14).toInt := by rw [ev28]
              rw [(show zI s21 this 14 = v28 from ev28)] at d5
              obtain ⟨v29, ev29⟩ : ∃ zz9 : Int32, zI s21 this 15 = zz9 := ⟨_, rfl⟩
              have qv29 : v29.toInt = (zI s21 this 15).toInt := by rw [ev29]
              have zthis15 : zI σ0 this 15 = v29 := zthis15.trans (cz16.symm.trans (d3.symm.trans ev29))
              obtain ⟨v30, ev30⟩ : ∃ zz9 : Int32, zI s21 this 16 = zz9 := ⟨_, rfl⟩
              have qv30 : v30.toInt = (zI s21 this 16).toInt := by rw [ev30]
              have zthis16 : zI σ0 this 16 = v30 := zthis16.trans (cz17.symm.trans (d4.symm.trans ev30))
              refine lv_aload_n hx hb dX6_sampleTold_148 rfl (lv_at hl 1 rfl) ?_
              refine lv_dup hx hb dX6_sampleTold_149 rfl ?_
              refine va_get (D := κ.1) (ci := 6) (v := .int (zI s21 this 18)) (C := RX6) (T := TX6) (N := 27) hx hb hg inX6 hown hK (hT.o20 (hT.k t_this (by decide))).one 0 rfl rfl 18 (by decide) (hg _ k1237) (fun _ h9 => h9) rfl dX6_sampleTold_150 ?_
              rw [kthis_18]
              refine lv_iconst (v := 1) hx hb dX6_sampleTold_153 (by decide) ?_
              refine lv_iadd hx hb dX6_sampleTold_154 ?_
              first | refine g_add (by omega) (by omega) (fun t31 ht31 => ?_) | refine lv_topi (fun t31 ht31 => ?_)
              have hTo := hT
              refine pf20_18 hx hb hg hown hK hT (hT.k t_this (by decide)) rfl (hg _ k1237) dX6_sampleTold_155 (fun H locs s32 hus32 hT => ?_)
              have ev12 : zI s32 this 24 = v12 := (zput_o hus32 (Or.inr (by decide))).trans ev12
              have ev26 : zI s32 this 17 = v26 := (zput_o hus32 (Or.inr (by decide))).trans ev26
              have ev28 : zI s32 this 14 = v28 := (zput_o hus32 (Or.inr (by decide))).trans ev28
              have ev29 : zI s32 this 15 = v29 := (zput_o hus32 (Or.inr (by decide))).trans ev29
              have ev30 : zI s32 this 16 = v30 := (zput_o hus32 (Or.inr (by decide))).trans ev30
              have Y33 : (zI s32 rQ nn).toInt = uvl tc Ln (unxt tc Ln sp) := by first | (rw [show zI s32 rQ = zI s21 rQ from zput_Io hus32 ((hTo.k trQ (by decide)).ne (hTo.k t_this (by decide)) (by decide))]; exact Y22) | rw [show zI s32 rQ = zI s21 rQ from zput_Io hus32 ((hTo.k trQ (by decide)).ne (hTo.k t_this (by decide)) (by decide))]
              have Y34 : ∀ j : Nat, j < nn → zI s32 rQ j = zI σ0 rQ j := by first | (rw [show zI s32 rQ = zI s21 rQ from zput_Io hus32 ((hTo.k trQ (by decide)).ne (hTo.k t_this (by decide)) (by decide))]; exact Y23) | rw [show zI s32 rQ = zI s21 rQ from zput_Io hus32 ((hTo.k trQ (by decide)).ne (hTo.k t_this (by decide)) (by decide))]
              have e35 : zI s32 this 18 = t31 := zput_at hus32
              subst hQ9
              exact t_v hx hb hr hlocks hT (Or.inl ⟨by rw [(show zI s32 this 17 = v26 from ev26)]; omega, ⟨unxt tc Ln (unxt tc Ln (svq (utkK tc Ln) (unxt tc Ln) (unxt tc Ln sp))), utkE tc Ln (unxt tc Ln (svq (utkK tc Ln) (unxt tc Ln) (unxt tc Ln sp))), uvl tc Ln (unxt tc Ln sp), ⟨h4, by omega, g2.1, g2.2, by rw [svl_q]; exact g3, by rw [svl_q]; exact d1, by rw [svl_q], rfl, rfl⟩, by rw [(show zI s32 this 14 = v28 from ev28)]; omega, utkE_le (unxt_le (svq_le (unxt_le h3))), rfl, by rw [(show zI s32 this 18 = t31 from e35)]; omega, by omega, by rw [erQ]; exact Y33, (uvl_b g2.1).2, g2.2⟩, fun j hj => by rw [erQ]; exact Y34 j hj, ((show zI s32 this 15 = v29 from ev29).trans zthis15.symm), ((show zI s32 this 16 = v30 from ev30).trans zthis16.symm)⟩) dX6_sampleTold_158
            · skip
              obtain ⟨v36, ev36⟩ : ∃ zz9 : Int32, zI s21 this 17 = zz9 := ⟨_, rfl⟩
              have qv36 : v36.toInt = (zI s21 this 17).toInt := by rw [ev36]
              have b37 : isB v36 := by have q9 : isB (zI s21 this 17) := hT.P (hT.k t_this (by decide)) (by decide); rw [ev36] at q9; exact q9
              have b37t := isB_t b37
              rw [(show zI s21 this 17 = v36 from ev36)] at d2
              obtain ⟨v38, ev38⟩ : ∃ zz9 : Int32, zI s21 this 15 = zz9 := ⟨_, rfl⟩
              have qv38 : v38.toInt = (zI s21 this 15).toInt := by rw [ev38]
              rw [(show zI s21 this 15 = v38 from ev38)] at d3
              obtain ⟨v39, ev39⟩ : ∃ zz9 : Int32, zI s21 this 16 = zz9 := ⟨_, rfl⟩
              have qv39 : v39.toInt = (zI s21 this 16).toInt := by rw [ev39]
              rw [(show zI s21 this 16 = v39 from ev39)] at d4
              refine lv_aload_n hx hb dX6_sampleTold_148 rfl (lv_at hl 1 rfl) ?_
              refine lv_dup hx hb dX6_sampleTold_149 rfl ?_
              refine va_get (D := κ.1) (ci := 6) (v := .int (zI s21 this 18)) (C := RX6) (T := TX6) (N := 27) hx hb hg inX6 hown hK (hT.o20 (hT.k t_this (by decide))).one 0 rfl rfl 18 (by decide) (hg _ k1237) (fun _ h9 => h9) rfl dX6_sampleTold_150 ?_
              rw [kthis_18]
              refine lv_iconst (v := 1) hx hb dX6_sampleTold_153 (by decide) ?_
              refine lv_iadd hx hb dX6_sampleTold_154 ?_
              first | refine g_add (by omega) (by omega) (fun t40 ht40 => ?_) | refine lv_topi (fun t40 ht40 => ?_)
              have hTo := hT
              refine pf20_18 hx hb hg hown hK hT (hT.k t_this (by decide)) rfl (hg _ k1237) dX6_sampleTold_155 (fun H locs s41 hus41 hT => ?_)
              have ev12 : zI s41 this 24 = v12 := (zput_o hus41 (Or.inr (by decide))).trans ev12
              have ev36 : zI s41 this 17 = v36 := (zput_o hus41 (Or.inr (by decide))).trans ev36
              have ev38 : zI s41 this 15 = v38 := (zput_o hus41 (Or.inr (by decide))).trans ev38
              have ev39 : zI s41 this 16 = v39 := (zput_o hus41 (Or.inr (by decide))).trans ev39
              have Y42 : (zI s41 rQ nn).toInt = uvl tc Ln (unxt tc Ln sp) := by first | (rw [show zI s41 rQ = zI s21 rQ from zput_Io hus41 ((hTo.k trQ (by decide)).ne (hTo.k t_this (by decide)) (by decide))]; exact Y22) | rw [show zI s41 rQ = zI s21 rQ from zput_Io hus41 ((hTo.k trQ (by decide)).ne (hTo.k t_this (by decide)) (by decide))]
              have Y43 : ∀ j : Nat, j < nn → zI s41 rQ j = zI σ0 rQ j := by first | (rw [show zI s41 rQ = zI s21 rQ from zput_Io hus41 ((hTo.k trQ (by decide)).ne (hTo.k t_this (by decide)) (by decide))]; exact Y23) | rw [show zI s41 rQ = zI s21 rQ from zput_Io hus41 ((hTo.k trQ (by decide)).ne (hTo.k t_this (by decide)) (by decide))]
              have e44 : zI s41 this 18 = t40 := zput_at hus41
              subst hQ9
              exact t_v hx hb hr hlocks hT (Or.inr ⟨by rw [(show zI s41 this 17 = v36 from ev36)]; omega, by rw [(show zI s41 this 18 = t40 from e44)]; omega, by rw [(show zI s41 this 18 = t40 from e44)]; omega, 1, (unxt tc Ln (svq (utkK tc Ln) (unxt tc Ln) (unxt tc Ln sp)) : Nat), Or.inr (Or.inr ⟨h4, by omega, Or.inr (Or.inr ⟨g2.1, g2.2, Or.inr ⟨by rw [svl_q]; exact g3, by rw [svl_q]; exact d1, rfl, by rw [svl_q]⟩⟩)⟩), by decide, by rw [(show zI s41 this 15 = v38 from ev38)]; omega, by rw [(show zI s41 this 16 = v39 from ev39)]; omega⟩) dX6_sampleTold_158
          · have c3 := gi_ne c9
            refine lv_aload_n hx hb dX6_sampleTold_131 rfl (lv_at hl 1 rfl) ?_
            obtain ⟨v45, ev45⟩ : ∃ zz9 : Int32, zI s7 this 24 = zz9 := ⟨_, rfl⟩
            have qv45 : v45.toInt = (zI s7 this 24).toInt := by rw [ev45]
            refine va_get (D := κ.1) (ci := 6) (v := .int (zI s7 this 24)) (C := RX6) (T := TX6) (N := 27) hx hb hg inX6 hown hK (hT.o20 (hT.k t_this (by decide))).one 0 rfl rfl 24 (by decide) (hg _ k1243) (fun _ h9 => h9) rfl dX6_sampleTold_132 ?_
            rw [ev45]
            refine lv_ineg hx hb dX6_sampleTold_135 ?_
            refine lv_topi (fun t46 ht46 => ?_)
            refine lv_goto (tgt := 143) hx hb dX6_sampleTold_136 (by decide) ?_
            have hTo := hT
            refine tasti (n := 48) hx hb hK hT (hT.k tr11 (by decide)) ⟨by decide, by decide⟩ (fun _ _ _ => rfl) (fun _ _ => trivial) (fun _ => rfl) (by omega) (by omega) dX6_sampleTold_143 (fun H locs s47 hus47 hT => ?_)
            have kthis_18 : zI s47 this 18 = v4 := (zput_o hus47 (Or.inl ((hTo.k t_this (by decide)).ne (hTo.k tr11 (by decide)) (by decide)))).trans kthis_18
            have kthis_14 : zI s47 this 14 = u := (zput_o hus47 (Or.inl ((hTo.k t_this (by decide)).ne (hTo.k tr11 (by decide)) (by decide)))).trans kthis_14
            have kthis_17 : zI s47 this 17 = bb := (zput_o hus47 (Or.inl ((hTo.k t_this (by decide)).ne (hTo.k tr11 (by decide)) (by decide)))).trans kthis_17
            have ev9 : zI s47 this 15 = v9 := (zput_o hus47 (Or.inl ((hTo.k t_this (by decide)).ne (hTo.k tr11 (by decide)) (by decide)))).trans ev9
            have ev10 : zI s47 this 16 = v10 := (zput_o hus47 (Or.inl ((hTo.k t_this (by decide)).ne (hTo.k tr11 (by decide)) (by decide)))).trans ev10
            have ev45 : zI s47 this 24 = v45 := (zput_o hus47 (Or.inl ((hTo.k t_this (by decide)).ne (hTo.k tr11 (by decide)) (by decide)))).trans ev45
            have Y48 : (zI s47 rQ nn).toInt = uvl tc Ln (unxt tc Ln sp) := by first | (rw [show zI s47 rQ = zI s7 rQ from zput_Io hus47 ((hTo.k trQ (by decide)).ne (hTo.k tr11 (by decide)) (by decide))]; exact g8) | rw [show zI s47 rQ = zI s7 rQ from zput_Io hus47 ((hTo.k trQ (by decide)).ne (hTo.k tr11 (by decide)) (by decide))]
            have Y49 : ∀ j : Nat, j < nn → zI s47 rQ j = zI σ0 rQ j := by first | (rw [show zI s47 rQ = zI s7 rQ from zput_Io hus47 ((hTo.k trQ (by decide)).ne (hTo.k tr11 (by decide)) (by decide))]; exact g9) | rw [show zI s47 rQ = zI s7 rQ from zput_Io hus47 ((hTo.k trQ (by decide)).ne (hTo.k tr11 (by decide)) (by decide))]
            refine lv_aload_n hx hb dX6_sampleTold_144 rfl (lv_at hl 1 rfl) ?_
            have cz50 : zI s47 this 15 = v9 := ev9
            have cz51 : zI s47 this 16 = v10 := ev10
            have cz52 : zI s47 this 17 = bb := kthis_17
            have cz53 : zI s47 this 17 = bb := kthis_17
            have hTo := hT
            refine tVv (n := 0) (As := []) (rest := []) hx hb hml hown hg hT hK hX (X6s_ends l κ s47 this  (hT.k t_this (by decide)) (hTX.tr (funext fun k => by rw [erT]; exact hT.eI trT (by decide) rfl rfl) (hT.eI t_this (by decide) rfl rfl)) (show (zI s47 this 17).toInt = 0 → (zI s47 this 14).toInt = (utkE tc Ln (svq (utkK tc Ln) (unxt tc Ln) (unxt tc Ln sp)) : Nat) ∧ utkE tc Ln (svq (utkK tc Ln) (unxt tc Ln) (unxt tc Ln sp)) ≤ Ln from fun q9 => ⟨by rw [(show zI s47 this 14 = u from kthis_14)]; omega, utkE_le (svq_le (unxt_le h3))⟩)) sub_gHB_gS2 (mwV k1386 k1388 k49 k92 k1389) ⟨rfl, by decide, by decide, by decide +kernel⟩ ⟨(Nat.le_of_ble_eq_true rfl), (Nat.le_of_ble_eq_true rfl)⟩ (hT.o20 (hT.k t_this (by decide))) rfl rfl hl.1 rfl (Nat.le_of_ble_eq_true rfl) dX6_sampleTold_145 zroom.rf (fun s55 H locs hφ hEs55 hT => ?_)
            have kthis_18 : zI s55 this 18 = v4 := ((hTo.k t_this (by decide)).eI hEs55 (by decide) rfl).trans kthis_18
            have ev45 : zI s55 this 24 = v45 := ((hTo.k t_this (by decide)).eI hEs55 (by decide) rfl).trans ev45
            have Y56 : (zI s55 rQ nn).toInt = uvl tc Ln (unxt tc Ln sp) := by first | (rw [show zI s55 rQ = zI s47 rQ from funext fun k => (hTo.k trQ (by decide)).eI hEs55 (by decide) rfl]; exact Y48) | rw [show zI s55 rQ = zI s47 rQ from funext fun k => (hTo.k trQ (by decide)).eI hEs55 (by decide) rfl]
            have Y57 : ∀ j : Nat, j < nn → zI s55 rQ j = zI σ0 rQ j := by first | (rw [show zI s55 rQ = zI s47 rQ from funext fun k => (hTo.k trQ (by decide)).eI hEs55 (by decide) rfl]; exact Y49) | rw [show zI s55 rQ = zI s47 rQ from funext fun k => (hTo.k trQ (by decide)).eI hEs55 (by decide) rfl]
            obtain ⟨f58, f59⟩ := hφ
            have d9 := f59 (show (zI s47 this 17).toInt = 0 from by rw [cz52]; omega)
            rw [show uscn uisBl tc Ln (utkE tc Ln (svq (utkK tc Ln) (unxt tc Ln) (unxt tc Ln sp))) = unxt tc Ln (svq (utkK tc Ln) (unxt tc Ln) (unxt tc Ln sp)) from rfl] at d9
            rcases d9 with ⟨d1, d2, d3, d4, d5⟩ | ⟨d1, d2, d3, d4⟩
            · skip
              obtain ⟨v60, ev60⟩ : ∃ zz9 : Int32, zI s55 this 17 = zz9 := ⟨_, rfl⟩
              have qv60 : v60.toInt = (zI s55 this 17).toInt := by rw [ev60]
              have b61 : isB v60 := by have q9 : isB (zI s55 this 17) := hT.P (hT.k t_this (by decide)) (by decide); rw [ev60] at q9; exact q9
              have b61t := isB_t b61
              rw [(show zI s55 this 17 = v60 from ev60)] at d2
              obtain ⟨v62, ev62⟩ : ∃ zz9 : Int32, zI s55 this 14 = zz9 := ⟨_, rfl⟩
              have qv62 : v62.toInt = (zI s55 this 14).toInt := by rw [ev62]
              rw [(show zI s55 this 14 = v62 from ev62)] at d5
              obtain ⟨v63, ev63⟩ : ∃ zz9 : Int32, zI s55 this 15 = zz9 := ⟨_, rfl⟩
              have qv63 : v63.toInt = (zI s55 this 15).toInt := by rw [ev63]
              have zthis15 : zI σ0 this 15 = v63 := zthis15.trans (cz50.symm.trans (d3.symm.trans ev63))
              obtain ⟨v64, ev64⟩ : ∃ zz9 : Int32, zI s55 this 16 = zz9 := ⟨_, rfl⟩
              have qv64 : v64.toInt = (zI s55 this 16).toInt := by rw [ev64]
              have zthis16 : zI σ0 this 16 = v64 := zthis16.trans (cz51.symm.trans (d4.symm.trans ev64))
              refine lv_aload_n hx hb dX6_sampleTold_148 rfl (lv_at hl 1 rfl) ?_
              refine lv_dup hx hb dX6_sampleTold_149 rfl ?_
              refine va_get (D := κ.1) (ci := 6) (v := .int (zI s55 this 18)) (C := RX6) (T := TX6) (N := 27) hx hb hg inX6 hown hK (hT.o20 (hT.k t_this (by decide))).one 0 rfl rfl 18 (by decide) (hg _ k1237) (fun _ h9 => h9) rfl dX6_sampleTold_150 ?_
              rw [kthis_18]
              refine lv_iconst (v := 1) hx hb dX6_sampleTold_153 (by decide) ?_
              refine lv_iadd hx hb dX6_sampleTold_154 ?_
              first | refine g_add (by omega) (by omega) (fun t65 ht65 => ?_) | refine lv_topi (fun t65 ht65 => ?_)
              have hTo := hT
              refine pf20_18 hx hb hg hown hK hT (hT.k t_this (by decide)) rfl (hg _ k1237) dX6_sampleTold_155 (fun H locs s66 hus66 hT => ?_)
              have ev45 : zI s66 this 24 = v45 := (zput_o hus66 (Or.inr (by decide))).trans ev45
              have ev60 : zI s66 this 17 = v60 := (zput_o hus66 (Or.inr (by decide))).trans ev60
              have ev62 : zI s66 this 14 = v62 := (zput_o hus66 (Or.inr (by decide))).trans ev62
              have ev63 : zI s66 this 15 = v63 := (zput_o hus66 (Or.inr (by decide))).trans ev63
              have ev64 : zI s66 this 16 = v64 := (zput_o hus66 (Or.inr (by decide))).trans ev64
              have Y67 : (zI s66 rQ nn).toInt = uvl tc Ln (unxt tc Ln sp) := by first | (rw [show zI s66 rQ = zI s55 rQ from zput_Io hus66 ((hTo.k trQ (by decide)).ne (hTo.k t_this (by decide)) (by decide))]; exact Y56) | rw [show zI s66 rQ = zI s55 rQ from zput_Io hus66 ((hTo.k trQ (by decide)).ne (hTo.k t_this (by decide)) (by decide))]
              have Y68 : ∀ j : Nat, j < nn → zI s66 rQ j = zI σ0 rQ j := by first | (rw [show zI s66 rQ = zI s55 rQ from zput_Io hus66 ((hTo.k trQ (by decide)).ne (hTo.k t_this (by decide)) (by decide))]; exact Y57) | rw [show zI s66 rQ = zI s55 rQ from zput_Io hus66 ((hTo.k trQ (by decide)).ne (hTo.k t_this (by decide)) (by decide))]
              have e69 : zI s66 this 18 = t65 := zput_at hus66
              subst hQ9
              exact t_v hx hb hr hlocks hT (Or.inl ⟨by rw [(show zI s66 this 17 = v60 from ev60)]; omega, ⟨unxt tc Ln (unxt tc Ln (svq (utkK tc Ln) (unxt tc Ln) (unxt tc Ln sp))), utkE tc Ln (unxt tc Ln (svq (utkK tc Ln) (unxt tc Ln) (unxt tc Ln sp))), uvl tc Ln (unxt tc Ln sp), ⟨h4, by omega, g2.1, g2.2, by rw [svl_q]; exact g3, by rw [svl_q]; exact d1, by rw [svl_q], rfl, rfl⟩, by rw [(show zI s66 this 14 = v62 from ev62)]; omega, utkE_le (unxt_le (svq_le (unxt_le h3))), rfl, by rw [(show zI s66 this 18 = t65 from e69)]; omega, by omega, by rw [erQ]; exact Y67, (uvl_b g2.1).2, g2.2⟩, fun j hj => by rw [erQ]; exact Y68 j hj, ((show zI s66 this 15 = v63 from ev63).trans zthis15.symm), ((show zI s66 this 16 = v64 from ev64).trans zthis16.symm)⟩) dX6_sampleTold_158
            · skip
              obtain ⟨v70, ev70⟩ : ∃ zz9 : Int32, zI s55 this 17 = zz9 := ⟨_, rfl⟩
              have qv70 : v70.toInt = (zI s55 this 17).toInt := by rw [ev70]
              have b71 : isB v70 := by have q9 : isB (zI s55 this 17) := hT.P (hT.k t_this (by decide)) (by decide); rw [ev70] at q9; exact q9
              have b71t := isB_t b71
              rw [(show zI s55 this 17 = v70 from ev70)] at d2
              obtain ⟨v72, ev72⟩ : ∃ zz9 : Int32, zI s55 this 15 = zz9 := ⟨_, rfl⟩
              have qv72 : v72.toInt = (zI s55 this 15).toInt := by rw [ev72]
              rw [(show zI s55 this 15 = v72 from ev72)] at d3
              obtain ⟨v73, ev73⟩ : ∃ zz9 : Int32, zI s55 this 16 = zz9 := ⟨_, rfl⟩
              have qv73 : v73.toInt = (zI s55 this 16).toInt := by rw [ev73]
              rw [(show zI s55 this 16 = v73 from ev73)] at d4
              refine lv_aload_n hx hb dX6_sampleTold_148 rfl (lv_at hl 1 rfl) ?_
              refine lv_dup hx hb dX6_sampleTold_149 rfl ?_
              refine va_get (D := κ.1) (ci := 6) (v := .int (zI s55 this 18)) (C := RX6) (T := TX6) (N := 27) hx hb hg inX6 hown hK (hT.o20 (hT.k t_this (by decide))).one 0 rfl rfl 18 (by decide) (hg _ k1237) (fun _ h9 => h9) rfl dX6_sampleTold_150 ?_
              rw [kthis_18]
              refine lv_iconst (v := 1) hx hb dX6_sampleTold_153 (by decide) ?_
              refine lv_iadd hx hb dX6_sampleTold_154 ?_
              first | refine g_add (by omega) (by omega) (fun t74 ht74 => ?_) | refine lv_topi (fun t74 ht74 => ?_)
              have hTo := hT
              refine pf20_18 hx hb hg hown hK hT (hT.k t_this (by decide)) rfl (hg _ k1237) dX6_sampleTold_155 (fun H locs s75 hus75 hT => ?_)
              have ev45 : zI s75 this 24 = v45 := (zput_o hus75 (Or.inr (by decide))).trans ev45
              have ev70 : zI s75 this 17 = v70 := (zput_o hus75 (Or.inr (by decide))).trans ev70
              have ev72 : zI s75 this 15 = v72 := (zput_o hus75 (Or.inr (by decide))).trans ev72
              have ev73 : zI s75 this 16 = v73 := (zput_o hus75 (Or.inr (by decide))).trans ev73
              have Y76 : (zI s75 rQ nn).toInt = uvl tc Ln (unxt tc Ln sp) := by first | (rw [show zI s75 rQ = zI s55 rQ from zput_Io hus75 ((hTo.k trQ (by decide)).ne (hTo.k t_this (by decide)) (by decide))]; exact Y56) | rw [show zI s75 rQ = zI s55 rQ from zput_Io hus75 ((hTo.k trQ (by decide)).ne (hTo.k t_this (by decide)) (by decide))]
              have Y77 : ∀ j : Nat, j < nn → zI s75 rQ j = zI σ0 rQ j := by first | (rw [show zI s75 rQ = zI s55 rQ from zput_Io hus75 ((hTo.k trQ (by decide)).ne (hTo.k t_this (by decide)) (by decide))]; exact Y57) | rw [show zI s75 rQ = zI s55 rQ from zput_Io hus75 ((hTo.k trQ (by decide)).ne (hTo.k t_this (by decide)) (by decide))]
              have e78 : zI s75 this 18 = t74 := zput_at hus75
              subst hQ9
              exact t_v hx hb hr hlocks hT (Or.inr ⟨by rw [(show zI s75 this 17 = v70 from ev70)]; omega, by rw [(show zI s75 this 18 = t74 from e78)]; omega, by rw [(show zI s75 this 18 = t74 from e78)]; omega, 1, (unxt tc Ln (svq (utkK tc Ln) (unxt tc Ln) (unxt tc Ln sp)) : Nat), Or.inr (Or.inr ⟨h4, by omega, Or.inr (Or.inr ⟨g2.1, g2.2, Or.inr ⟨by rw [svl_q]; exact g3, by rw [svl_q]; exact d1, rfl, by rw [svl_q]⟩⟩)⟩), by decide, by rw [(show zI s75 this 15 = v72 from ev72)]; omega, by rw [(show zI s75 this 16 = v73 from ev73)]; omega⟩) dX6_sampleTold_158
        · skip
          obtain ⟨v79, ev79⟩ : ∃ zz9 : Int32, zI s7 this 15 = zz9 := ⟨_, rfl⟩
          have qv79 : v79.toInt = (zI s7 this 15).toInt := by rw [ev79]
          rw [(show zI s7 this 15 = v79 from ev79)] at z3
          obtain ⟨v80, ev80⟩ : ∃ zz9 : Int32, zI s7 this 16 = zz9 := ⟨_, rfl⟩
          have qv80 : v80.toInt = (zI s7 this 16).toInt := by rw [ev80]
          rw [(show zI s7 this 16 = v80 from ev80)] at z4
          refine lv_aload_n hx hb dX6_sampleTold_119 rfl (lv_at hl 1 rfl) ?_
          obtain ⟨r81, er81⟩ : ∃ z, kR κ this 26 = z := ⟨_, rfl⟩
          have tr81 : zk σ0 r81 28 := by rw [← er81]; exact hT0.ref t_this (by decide) (by decide) (by decide)
          refine va_get (D := κ.1) (ci := 6) (v := .ref (kR κ this 26)) (C := RX6) (T := TX6) (N := 27) hx hb hg inX6 hown hK (hT.o20 (hT.k t_this (by decide))).one 0 rfl rfl 26 (by decide) (hg _ k1245) (fun _ h9 => h9) rfl dX6_sampleTold_120 ?_
          rw [er81]
          refine lv_aload_n hx hb dX6_sampleTold_123 rfl (lv_at hl 1 rfl) ?_
          refine va_get (D := κ.1) (ci := 6) (v := .int (zI s7 this 18)) (C := RX6) (T := TX6) (N := 27) hx hb hg inX6 hown hK (hT.o20 (hT.k t_this (by decide))).one 0 rfl rfl 18 (by decide) (hg _ k1237) (fun _ h9 => h9) rfl dX6_sampleTold_124 ?_
          rw [kthis_18]
          refine lv_iload_n hx hb dX6_sampleTold_127 rfl (lv_at hl 0 rfl) ?_
          refine lv_if_eq (tgt := 139) hx hb dX6_sampleTold_128 (by decide) (fun c9 => ?_) (fun c9 => ?_)
          · have c4 := gi_eq c9
            refine lv_aload_n hx hb dX6_sampleTold_139 rfl (lv_at hl 1 rfl) ?_
            obtain ⟨v82, ev82⟩ : ∃ zz9 : Int32, zI s7 this 24 = zz9 := ⟨_, rfl⟩
            have qv82 : v82.toInt = (zI s7 this 24).toInt := by rw [ev82]
            refine va_get (D := κ.1) (ci := 6) (v := .int (zI s7 this 24)) (C := RX6) (T := TX6) (N := 27) hx hb hg inX6 hown hK (hT.o20 (hT.k t_this (by decide))).one 0 rfl rfl 24 (by decide) (hg _ k1243) (fun _ h9 => h9) rfl dX6_sampleTold_140 ?_
            rw [ev82]
            have hTo := hT
            refine tasti (n := 48) hx hb hK hT (hT.k tr81 (by decide)) ⟨by decide, by decide⟩ (fun _ _ _ => rfl) (fun _ _ => trivial) (fun _ => rfl) (by omega) (by omega) dX6_sampleTold_143 (fun H locs s83 hus83 hT => ?_)
            have kthis_18 : zI s83 this 18 = v4 := (zput_o hus83 (Or.inl ((hTo.k t_this (by decide)).ne (hTo.k tr81 (by decide)) (by decide)))).trans kthis_18
            have kthis_14 : zI s83 this 14 = u := (zput_o hus83 (Or.inl ((hTo.k t_this (by decide)).ne (hTo.k tr81 (by decide)) (by decide)))).trans kthis_14
            have kthis_17 : zI s83 this 17 = bb := (zput_o hus83 (Or.inl ((hTo.k t_this (by decide)).ne (hTo.k tr81 (by decide)) (by decide)))).trans kthis_17
            have ev79 : zI s83 this 15 = v79 := (zput_o hus83 (Or.inl ((hTo.k t_this (by decide)).ne (hTo.k tr81 (by decide)) (by decide)))).trans ev79
            have ev80 : zI s83 this 16 = v80 := (zput_o hus83 (Or.inl ((hTo.k t_this (by decide)).ne (hTo.k tr81 (by decide)) (by decide)))).trans ev80
            have ev82 : zI s83 this 24 = v82 := (zput_o hus83 (Or.inl ((hTo.k t_this (by decide)).ne (hTo.k tr81 (by decide)) (by decide)))).trans ev82
            refine lv_aload_n hx hb dX6_sampleTold_144 rfl (lv_at hl 1 rfl) ?_
            have cz84 : zI s83 this 15 = v79 := ev79
            have cz85 : zI s83 this 16 = v80 := ev80
            have cz86 : zI s83 this 17 = bb := kthis_17
            have cz87 : zI s83 this 17 = bb := kthis_17
            have hTo := hT
            refine tVv (n := 0) (As := []) (rest := []) hx hb hml hown hg hT hK hX (X6s_ends l κ s83 this  (hT.k t_this (by decide)) (hTX.tr (funext fun k => by rw [erT]; exact hT.eI trT (by decide) rfl rfl) (hT.eI t_this (by decide) rfl rfl)) (show (zI s83 this 17).toInt = 0 → (zI s83 this 14).toInt = ((0 : Nat) : Int) ∧ 0 ≤ Ln from fun q9 => absurd q9 (by rw [(show zI s83 this 17 = bb from kthis_17)]; omega))) sub_gHB_gS2 (mwV k1386 k1388 k49 k92 k1389) ⟨rfl, by decide, by decide, by decide +kernel⟩ ⟨(Nat.le_of_ble_eq_true rfl), (Nat.le_of_ble_eq_true rfl)⟩ (hT.o20 (hT.k t_this (by decide))) rfl rfl hl.1 rfl (Nat.le_of_ble_eq_true rfl) dX6_sampleTold_145 zroom.rf (fun s89 H locs hφ hEs89 hT => ?_)
            have kthis_18 : zI s89 this 18 = v4 := ((hTo.k t_this (by decide)).eI hEs89 (by decide) rfl).trans kthis_18
            have ev82 : zI s89 this 24 = v82 := ((hTo.k t_this (by decide)).eI hEs89 (by decide) rfl).trans ev82
            obtain ⟨f90, f91⟩ := hφ
            obtain ⟨e92, e93, e94⟩ := f90 (show (zI s83 this 17).toInt = 1 from by rw [cz87]; omega)
            obtain ⟨v95, ev95⟩ : ∃ zz9 : Int32, zI s89 this 17 = zz9 := ⟨_, rfl⟩
            have qv95 : v95.toInt = (zI s89 this 17).toInt := by rw [ev95]
            have b96 : isB v95 := by have q9 : isB (zI s89 this 17) := hT.P (hT.k t_this (by decide)) (by decide); rw [ev95] at q9; exact q9
            have b96t := isB_t b96
            rw [(show zI s89 this 17 = v95 from ev95)] at e92
            rw [cz84] at e93
            rw [cz85] at e94
            refine lv_aload_n hx hb dX6_sampleTold_148 rfl (lv_at hl 1 rfl) ?_
            refine lv_dup hx hb dX6_sampleTold_149 rfl ?_
            refine va_get (D := κ.1) (ci := 6) (v := .int (zI s89 this 18)) (C := RX6) (T := TX6) (N := 27) hx hb hg inX6 hown hK (hT.o20 (hT.k t_this (by decide))).one 0 rfl rfl 18 (by decide) (hg _ k1237) (fun _ h9 => h9) rfl dX6_sampleTold_150 ?_
            rw [kthis_18]
            refine lv_iconst (v := 1) hx hb dX6_sampleTold_153 (by decide) ?_
            refine lv_iadd hx hb dX6_sampleTold_154 ?_
            first | refine g_add (by omega) (by omega) (fun t97 ht97 => ?_) | refine lv_topi (fun t97 ht97 => ?_)
            have hTo := hT
            refine pf20_18 hx hb hg hown hK hT (hT.k t_this (by decide)) rfl (hg _ k1237) dX6_sampleTold_155 (fun H locs s98 hus98 hT => ?_)
            have ev82 : zI s98 this 24 = v82 := (zput_o hus98 (Or.inr (by decide))).trans ev82
            have ev95 : zI s98 this 17 = v95 := (zput_o hus98 (Or.inr (by decide))).trans ev95
            have e93 : zI s98 this 15 = v79 := (zput_o hus98 (Or.inr (by decide))).trans e93
            have e94 : zI s98 this 16 = v80 := (zput_o hus98 (Or.inr (by decide))).trans e94
            have e99 : zI s98 this 18 = t97 := zput_at hus98
            subst hQ9
            exact t_v hx hb hr hlocks hT (Or.inr ⟨by rw [(show zI s98 this 17 = v95 from ev95)]; omega, by rw [(show zI s98 this 18 = t97 from e99)]; omega, by rw [(show zI s98 this 18 = t97 from e99)]; omega, co, po, z1, z2, by rw [(show zI s98 this 15 = v79 from e93)]; exact z3, by rw [(show zI s98 this 16 = v80 from e94)]; exact z4⟩) dX6_sampleTold_158
          · have c5 := gi_ne c9
            refine lv_aload_n hx hb dX6_sampleTold_131 rfl (lv_at hl 1 rfl) ?_
            obtain ⟨v100, ev100⟩ : ∃ zz9 : Int32, zI s7 this 24 = zz9 := ⟨_, rfl⟩
            have qv100 : v100.toInt = (zI s7 this 24).toInt := by rw [ev100]
            refine va_get (D := κ.1) (ci := 6) (v := .int (zI s7 this 24)) (C := RX6) (T := TX6) (N := 27) hx hb hg inX6 hown hK (hT.o20 (hT.k t_this (by decide))).one 0 rfl rfl 24 (by decide) (hg _ k1243) (fun _ h9 => h9) rfl dX6_sampleTold_132 ?_
            rw [ev100]
            refine lv_ineg hx hb dX6_sampleTold_135 ?_
            refine lv_topi (fun t101 ht101 => ?_)
            refine lv_goto (tgt := 143) hx hb dX6_sampleTold_136 (by decide) ?_
            have hTo := hT
            refine tasti (n := 48) hx hb hK hT (hT.k tr81 (by decide)) ⟨by decide, by decide⟩ (fun _ _ _ => rfl) (fun _ _ => trivial) (fun _ => rfl) (by omega) (by omega) dX6_sampleTold_143 (fun H locs s102 hus102 hT => ?_)
            have kthis_18 : zI s102 this 18 = v4 := (zput_o hus102 (Or.inl ((hTo.k t_this (by decide)).ne (hTo.k tr81 (by decide)) (by decide)))).trans kthis_18
            have kthis_14 : zI s102 this 14 = u := (zput_o hus102 (Or.inl ((hTo.k t_this (by decide)).ne (hTo.k tr81 (by decide)) (by decide)))).trans kthis_14
            have kthis_17 : zI s102 this 17 = bb := (zput_o hus102 (Or.inl ((hTo.k t_this (by decide)).ne (hTo.k tr81 (by decide)) (by decide)))).trans kthis_17
            have ev79 : zI s102 this 15 = v79 := (zput_o hus102 (Or.inl ((hTo.k t_this (by decide)).ne (hTo.k tr81 (by decide)) (by decide)))).trans ev79
            have ev80 : zI s102 this 16 = v80 := (zput_o hus102 (Or.inl ((hTo.k t_this (by decide)).ne (hTo.k tr81 (by decide)) (by decide)))).trans ev80
            have ev100 : zI s102 this 24 = v100 := (zput_o hus102 (Or.inl ((hTo.k t_this (by decide)).ne (hTo.k tr81 (by decide)) (by decide)))).trans ev100
            refine lv_aload_n hx hb dX6_sampleTold_144 rfl (lv_at hl 1 rfl) ?_
            have cz103 : zI s102 this 15 = v79 := ev79
            have cz104 : zI s102 this 16 = v80 := ev80
            have cz105 : zI s102 this 17 = bb := kthis_17
            have cz106 : zI s102 this 17 = bb := kthis_17
            have hTo := hT
            refine tVv (n := 0) (As := []) (rest := []) hx hb hml hown hg hT hK hX (X6s_ends l κ s102 this  (hT.k t_this (by decide)) (hTX.tr (funext fun k => by rw [erT]; exact hT.eI trT (by decide) rfl rfl) (hT.eI t_this (by decide) rfl rfl)) (show (zI s102 this 17).toInt = 0 → (zI s102 this 14).toInt = ((0 : Nat) : Int) ∧ 0 ≤ Ln from fun q9 => absurd q9 (by rw [(show zI s102 this 17 = bb from kthis_17)]; omega))) sub_gHB_gS2 (mwV k1386 k1388 k49 k92 k1389) ⟨rfl, by decide, by decide, by decide +kernel⟩ ⟨(Nat.le_of_ble_eq_true rfl), (Nat.le_of_ble_eq_true rfl)⟩ (hT.o20 (hT.k t_this (by decide))) rfl rfl hl.1 rfl (Nat.le_of_ble_eq_true rfl) dX6_sampleTold_145 zroom.rf (fun s108 H locs hφ hEs108 hT => ?_)
            have kthis_18 : zI s108 this 18 = v4 := ((hTo.k t_this (by decide)).eI hEs108 (by decide) rfl).trans kthis_18
            have ev100 : zI s108 this 24 = v100 := ((hTo.k t_this (by decide)).eI hEs108 (by decide) rfl).trans ev100
            obtain ⟨f109, f110⟩ := hφ
            obtain ⟨e111, e112, e113⟩ := f109 (show (zI s102 this 17).toInt = 1 from by rw [cz106]; omega)
            obtain ⟨v114, ev114⟩ : ∃ zz9 : Int32, zI s108 this 17 = zz9 := ⟨_, rfl⟩
            have qv114 : v114.toInt = (zI s108 this 17).toInt := by rw [ev114]
            have b115 : isB v114 := by have q9 : isB (zI s108 this 17) := hT.P (hT.k t_this (by decide)) (by decide); rw [ev114] at q9; exact q9
            have b115t := isB_t b115
            rw [(show zI s108 this 17 = v114 from ev114)] at e111
            rw [cz103] at e112
            rw [cz104] at e113
            refine lv_aload_n hx hb dX6_sampleTold_148 rfl (lv_at hl 1 rfl) ?_
            refine lv_dup hx hb dX6_sampleTold_149 rfl ?_
            refine va_get (D := κ.1) (ci := 6) (v := .int (zI s108 this 18)) (C := RX6) (T := TX6) (N := 27) hx hb hg inX6 hown hK (hT.o20 (hT.k t_this (by decide))).one 0 rfl rfl 18 (by decide) (hg _ k1237) (fun _ h9 => h9) rfl dX6_sampleTold_150 ?_
            rw [kthis_18]
            refine lv_iconst (v := 1) hx hb dX6_sampleTold_153 (by decide) ?_
            refine lv_iadd hx hb dX6_sampleTold_154 ?_
            first | refine g_add (by omega) (by omega) (fun t116 ht116 => ?_) | refine lv_topi (fun t116 ht116 => ?_)
            have hTo := hT
            refine pf20_18 hx hb hg hown hK hT (hT.k t_this (by decide)) rfl (hg _ k1237) dX6_sampleTold_155 (fun H locs s117 hus117 hT => ?_)
            have ev100 : zI s117 this 24 = v100 := (zput_o hus117 (Or.inr (by decide))).trans ev100
            have ev114 : zI s117 this 17 = v114 := (zput_o hus117 (Or.inr (by decide))).trans ev114
            have e112 : zI s117 this 15 = v79 := (zput_o hus117 (Or.inr (by decide))).trans e112
            have e113 : zI s117 this 16 = v80 := (zput_o hus117 (Or.inr (by decide))).trans e113
            have e118 : zI s117 this 18 = t116 := zput_at hus117
            subst hQ9
            exact t_v hx hb hr hlocks hT (Or.inr ⟨by rw [(show zI s117 this 17 = v114 from ev114)]; omega, by rw [(show zI s117 this 18 = t116 from e118)]; omega, by rw [(show zI s117 this 18 = t116 from e118)]; omega, co, po, z1, z2, by rw [(show zI s117 this 15 = v79 from e112)]; exact z3, by rw [(show zI s117 this 16 = v80 from e113)]; exact z4⟩) dX6_sampleTold_158
    have loop111 : ∀ (n9 : Nat) (ib : Int32) (u : Int32) (bb : Int32) (H : Heap) (locs : List Loc) (sg : Gh) (ls : Array Slot), TS κ gS2 σ0 sg s H locs → (zI sg this 18 = v4) → (zI sg this 14 = u) → (zI sg this 17 = bb) → ((bb.toInt = 0 ∧ (utkK tc Ln (unxt tc Ln sp) = 2 ∧ vv < uvl tc Ln (unxt tc Ln sp)) ∧ (∃ a : Nat, u.toInt = (a : Nat) ∧ a ≤ Ln ∧ uscn uisBl tc Ln a = (svq (utkK tc Ln) (unxt tc Ln) (unxt tc Ln sp))) ∧ zI sg this 15 = zI σ0 this 15 ∧ zI sg this 16 = zI σ0 this 16 ∧ (zI sg rQ nn).toInt = uvl tc Ln (unxt tc Ln sp) ∧ (∀ j : Nat, j < nn → zI sg rQ j = zI σ0 rQ j)) ∨ (bb.toInt = 1 ∧ ∃ co po : Int, umBad (utkK tc Ln) (unxt tc Ln) (uvl tc Ln) (uWd tc Ln) sp nn vv co po ∧ co ≠ 0 ∧ (zI sg this 15).toInt = co ∧ (zI sg this 16).toInt = po)) → lv_has ls 2 [(1, .int ib), (0, .ref this)] → ((0 : Int)) < n9 → tW p l e 2 49 κ s m #[.ref this] below meth c H locs Q9 (F0 m 111 ls []) := by
      intro n9
      induction n9 with
      | zero =>
        intro ib u bb H locs sg ls hT kthis_18 kthis_14 kthis_17 r3 hl hm9
        exfalso
        omega
      | succ n9 ih9 =>
        have ih111 := ih9
        clear ih9
        intro ib u bb H locs s119 ls hT kthis_18 kthis_14 kthis_17 r3 hl hm9
        have b120 : isB (zI s119 this 17) := hT.P (hT.k t_this (by decide)) (by decide)
        rw [kthis_17] at b120
        have b120t := isB_t b120
        rcases r3 with ⟨g1, g2, ⟨a, g3, g4, g5⟩, g6, g7, g8, g9⟩ | ⟨g1, co, po, z1, z2, z3, z4⟩
        · skip
          obtain ⟨v121, ev121⟩ : ∃ zz9 : Int32, zI s119 this 15 = zz9 := ⟨_, rfl⟩
          have qv121 : v121.toInt = (zI s119 this 15).toInt := by rw [ev121]
          have zthis15 : zI σ0 this 15 = v121 := g6.symm.trans ev121
          obtain ⟨v122, ev122⟩ : ∃ zz9 : Int32, zI s119 this 16 = zz9 := ⟨_, rfl⟩
          have qv122 : v122.toInt = (zI s119 this 16).toInt := by rw [ev122]
          have zthis16 : zI σ0 this 16 = v122 := g7.symm.trans ev122
          refine lv_aload_n hx hb dX6_sampleTold_111 rfl (lv_at hl 1 rfl) ?_
          refine lv_iconst (v := 0) hx hb dX6_sampleTold_112 (by decide) ?_
          refine lv_sipush (v := 9999) hx hb dX6_sampleTold_113 (by decide) ?_
          have cz123 : zI s119 this 15 = v121 := ev121
          have cz124 : zI s119 this 16 = v122 := ev122
          have cz125 : zI s119 this 17 = bb := kthis_17
          have cz126 : zI s119 this 17 = bb := kthis_17
          have hTo := hT
          refine tVv (n := 2) (As := [.int 0, .int 9999]) (rest := []) hx hb hml hown hg hT hK hX (X6s_number l κ s119 this 0 9999  (hT.k t_this (by decide)) (hTX.tr (funext fun k => by rw [erT]; exact hT.eI trT (by decide) rfl rfl) (hT.eI t_this (by decide) rfl rfl)) (show (zI s119 this 17).toInt = 0 → (zI s119 this 14).toInt = (a : Nat) ∧ a ≤ Ln from fun q9 => ⟨by rw [(show zI s119 this 14 = u from kthis_14)]; omega, g4⟩)) sub_gN_gS2 (mwV k1380 k1382 k48 k92 k1383) ⟨rfl, by decide, by decide, by decide +kernel⟩ ⟨(Nat.le_of_ble_eq_true rfl), (Nat.le_of_ble_eq_true rfl)⟩ (hT.o20 (hT.k t_this (by decide))) rfl rfl hl.1 rfl (Nat.le_of_ble_eq_true rfl) dX6_sampleTold_116 zroom.rf (fun s128 H locs hφ hEs128 hT => ?_)
          have kthis_18 : zI s128 this 18 = v4 := ((hTo.k t_this (by decide)).eI hEs128 (by decide) rfl).trans kthis_18
          have Y129 : (zI s128 rQ nn).toInt = uvl tc Ln (unxt tc Ln sp) := by first | (rw [show zI s128 rQ = zI s119 rQ from funext fun k => (hTo.k trQ (by decide)).eI hEs128 (by decide) rfl]; exact g8) | rw [show zI s128 rQ = zI s119 rQ from funext fun k => (hTo.k trQ (by decide)).eI hEs128 (by decide) rfl]
          have Y130 : ∀ j : Nat, j < nn → zI s128 rQ j = zI σ0 rQ j := by first | (rw [show zI s128 rQ = zI s119 rQ from funext fun k => (hTo.k trQ (by decide)).eI hEs128 (by decide) rfl]; exact g9) | rw [show zI s128 rQ = zI s119 rQ from funext fun k => (hTo.k trQ (by decide)).eI hEs128 (by decide) rfl]
          obtain ⟨f131, f132⟩ := hφ
          have p9 := f132 (show (zI s119 this 17).toInt = 0 from by rw [cz125]; omega)
          rw [g5] at p9
          clear f131 f132
          rcases p9 with ⟨p1, p2, p3, p4, p5, p6, p7, p8⟩ | ⟨co, p1, p2, p3, p4⟩
          · skip
            obtain ⟨v133, ev133⟩ : ∃ zz9 : Int32, zI s128 this 14 = zz9 := ⟨_, rfl⟩
            have qv133 : v133.toInt = (zI s128 this 14).toInt := by rw [ev133]
            rw [(show zI s128 this 14 = v133 from ev133)] at p2
            obtain ⟨v134, ev134⟩ : ∃ zz9 : Int32, zI s128 this 17 = zz9 := ⟨_, rfl⟩
            have qv134 : v134.toInt = (zI s128 this 17).toInt := by rw [ev134]
            have b135 : isB v134 := by have q9 : isB (zI s128 this 17) := hT.P (hT.k t_this (by decide)) (by decide); rw [ev134] at q9; exact q9
            have b135t := isB_t b135
            rw [(show zI s128 this 17 = v134 from ev134)] at p6
            obtain ⟨v136, ev136⟩ : ∃ zz9 : Int32, zI s128 this 15 = zz9 := ⟨_, rfl⟩
            have qv136 : v136.toInt = (zI s128 this 15).toInt := by rw [ev136]
            have zthis15 : zI σ0 this 15 = v136 := zthis15.trans (cz123.symm.trans (p7.symm.trans ev136))
            obtain ⟨v137, ev137⟩ : ∃ zz9 : Int32, zI s128 this 16 = zz9 := ⟨_, rfl⟩
            have qv137 : v137.toInt = (zI s128 this 16).toInt := by rw [ev137]
            have zthis16 : zI σ0 this 16 = v137 := zthis16.trans (cz124.symm.trans (p8.symm.trans ev137))
            exact loop119 (((0 : Int)).toNat + 1) ib v133 v134 _ _ _ _ hT kthis_18 ev133 ev134 (Or.inl ⟨by omega, g2, p1, by omega, ((show zI s128 this 15 = v136 from ev136).trans zthis15.symm), ((show zI s128 this 16 = v137 from ev137).trans zthis16.symm), Y129, Y130⟩) hl (by omega)
          · skip
            obtain ⟨v138, ev138⟩ : ∃ zz9 : Int32, zI s128 this 17 = zz9 := ⟨_, rfl⟩
            have qv138 : v138.toInt = (zI s128 this 17).toInt := by rw [ev138]
            have b139 : isB v138 := by have q9 : isB (zI s128 this 17) := hT.P (hT.k t_this (by decide)) (by decide); rw [ev138] at q9; exact q9
            have b139t := isB_t b139
            rw [(show zI s128 this 17 = v138 from ev138)] at p2
            obtain ⟨v140, ev140⟩ : ∃ zz9 : Int32, zI s128 this 15 = zz9 := ⟨_, rfl⟩
            have qv140 : v140.toInt = (zI s128 this 15).toInt := by rw [ev140]
            rw [(show zI s128 this 15 = v140 from ev140)] at p3
            obtain ⟨v141, ev141⟩ : ∃ zz9 : Int32, zI s128 this 16 = zz9 := ⟨_, rfl⟩
            have qv141 : v141.toInt = (zI s128 this 16).toInt := by rw [ev141]
            rw [(show zI s128 this 16 = v141 from ev141)] at p4
            obtain ⟨v142, ev142⟩ : ∃ zz9 : Int32, zI s128 this 14 = zz9 := ⟨_, rfl⟩
            have qv142 : v142.toInt = (zI s128 this 14).toInt := by rw [ev142]
            exact loop119 (((0 : Int)).toNat + 1) ib v142 v138 _ _ _ _ hT kthis_18 ev142 ev138 (Or.inr ⟨by omega, co, ((svq (utkK tc Ln) (unxt tc Ln) (unxt tc Ln sp)) : Nat), Or.inr (Or.inr ⟨h4, by omega, Or.inr (Or.inr ⟨g2.1, g2.2, Or.inl ⟨by rw [svl_q]; exact (p1.elim (fun q9 => q9.1) (fun q9 => by exfalso; have z9 := uvl_b q9.1; omega)), p1.elim (fun q9 => q9.2) (fun q9 => by exfalso; have z9 := uvl_b q9.1; omega), by rw [svl_q]⟩⟩)⟩), by omega, by rw [(show zI s128 this 15 = v140 from ev140)]; exact p3, by rw [(show zI s128 this 16 = v141 from ev141)]; exact p4⟩) hl (by omega)
        · skip
          obtain ⟨v143, ev143⟩ : ∃ zz9 : Int32, zI s119 this 15 = zz9 := ⟨_, rfl⟩
          have qv143 : v143.toInt = (zI s119 this 15).toInt := by rw [ev143]
          rw [(show zI s119 this 15 = v143 from ev143)] at z3
          obtain ⟨v144, ev144⟩ : ∃ zz9 : Int32, zI s119 this 16 = zz9 := ⟨_, rfl⟩
          have qv144 : v144.toInt = (zI s119 this 16).toInt := by rw [ev144]
          rw [(show zI s119 this 16 = v144 from ev144)] at z4
          refine lv_aload_n hx hb dX6_sampleTold_111 rfl (lv_at hl 1 rfl) ?_
          refine lv_iconst (v := 0) hx hb dX6_sampleTold_112 (by decide) ?_
          refine lv_sipush (v := 9999) hx hb dX6_sampleTold_113 (by decide) ?_
          have cz145 : zI s119 this 15 = v143 := ev143
          have cz146 : zI s119 this 16 = v144 := ev144
          have cz147 : zI s119 this 17 = bb := kthis_17
          have cz148 : zI s119 this 17 = bb := kthis_17
          have hTo := hT
          refine tVv (n := 2) (As := [.int 0, .int 9999]) (rest := []) hx hb hml hown hg hT hK hX (X6s_number l κ s119 this 0 9999  (hT.k t_this (by decide)) (hTX.tr (funext fun k => by rw [erT]; exact hT.eI trT (by decide) rfl rfl) (hT.eI t_this (by decide) rfl rfl)) (show (zI s119 this 17).toInt = 0 → (zI s119 this 14).toInt = ((0 : Nat) : Int) ∧ 0 ≤ Ln from fun q9 => absurd q9 (by rw [(show zI s119 this 17 = bb from kthis_17)]; omega))) sub_gN_gS2 (mwV k1380 k1382 k48 k92 k1383) ⟨rfl, by decide, by decide, by decide +kernel⟩ ⟨(Nat.le_of_ble_eq_true rfl), (Nat.le_of_ble_eq_true rfl)⟩ (hT.o20 (hT.k t_this (by decide))) rfl rfl hl.1 rfl (Nat.le_of_ble_eq_true rfl) dX6_sampleTold_116 zroom.rf (fun s150 H locs hφ hEs150 hT => ?_)
          have kthis_18 : zI s150 this 18 = v4 := ((hTo.k t_this (by decide)).eI hEs150 (by decide) rfl).trans kthis_18
          obtain ⟨f151, f152⟩ := hφ
          obtain ⟨e153, e154, e155⟩ := f151 (show (zI s119 this 17).toInt = 1 from by rw [cz148]; omega)
          obtain ⟨v156, ev156⟩ : ∃ zz9 : Int32, zI s150 this 17 = zz9 := ⟨_, rfl⟩
          have qv156 : v156.toInt = (zI s150 this 17).toInt := by rw [ev156]
          have b157 : isB v156 := by have q9 : isB (zI s150 this 17) := hT.P (hT.k t_this (by decide)) (by decide); rw [ev156] at q9; exact q9
          have b157t := isB_t b157
          rw [(show zI s150 this 17 = v156 from ev156)] at e153
          rw [cz145] at e154
          rw [cz146] at e155
          obtain ⟨v158, ev158⟩ : ∃ zz9 : Int32, zI s150 this 14 = zz9 := ⟨_, rfl⟩
          have qv158 : v158.toInt = (zI s150 this 14).toInt := by rw [ev158]
          exact loop119 (((0 : Int)).toNat + 1) ib v158 v156 _ _ _ _ hT kthis_18 ev158 ev156 (Or.inr ⟨by omega, co, po, z1, z2, by rw [(show zI s150 this 15 = v143 from e154)]; exact z3, by rw [(show zI s150 this 16 = v144 from e155)]; exact z4⟩) hl (by omega)
    have loop58 : ∀ (n9 : Nat)  (u : Int32) (bb : Int32) (val : Int32) (H : Heap) (locs : List Loc) (sg : Gh) (ls : Array Slot), TS κ gS2 σ0 sg s H locs → (zI sg this 18 = v4) → (zI sg this 14 = u) → (zI sg this 17 = bb) → (zI sg this 24 = val) → ((bb.toInt = 0 ∧ (utkK tc Ln (unxt tc Ln sp) = 2 ∧ vv < uvl tc Ln (unxt tc Ln sp)) ∧ u.toInt = (utkE tc Ln (unxt tc Ln sp) : Nat) ∧ val.toInt = uvl tc Ln (unxt tc Ln sp) ∧ zI sg this 15 = zI σ0 this 15 ∧ zI sg this 16 = zI σ0 this 16) ∨ (bb.toInt = 1 ∧ ∃ co po : Int, umBad (utkK tc Ln) (unxt tc Ln) (uvl tc Ln) (uWd tc Ln) sp nn vv co po ∧ co ≠ 0 ∧ (zI sg this 15).toInt = co ∧ (zI sg this 16).toInt = po)) → (zI sg rQ = zI σ0 rQ) → lv_has ls 2 [(0, .ref this)] → ((0 : Int)) < n9 → tW p l e 2 49 κ s m #[.ref this] below meth c H locs Q9 (F0 m 58 ls []) := by
      intro n9
      induction n9 with
      | zero =>
        intro u bb val H locs sg ls hT kthis_18 kthis_14 kthis_17 kthis_24 p3 q1 hl hm9
        exfalso
        omega
      | succ n9 ih9 =>
        have ih58 := ih9
        clear ih9
        intro u bb val H locs s159 ls hT kthis_18 kthis_14 kthis_17 kthis_24 p3 q1 hl hm9
        have b160 : isB (zI s159 this 17) := hT.P (hT.k t_this (by decide)) (by decide)
        rw [kthis_17] at b160
        have b160t := isB_t b160
        rcases p3 with ⟨g1, g2, g3, g4, g6, g7⟩ | ⟨g1, co, po, z1, z2, z3, z4⟩
        · skip
          obtain ⟨v161, ev161⟩ : ∃ zz9 : Int32, zI s159 this 15 = zz9 := ⟨_, rfl⟩
          have qv161 : v161.toInt = (zI s159 this 15).toInt := by rw [ev161]
          have zthis15 : zI σ0 this 15 = v161 := g6.symm.trans ev161
          obtain ⟨v162, ev162⟩ : ∃ zz9 : Int32, zI s159 this 16 = zz9 := ⟨_, rfl⟩
          have qv162 : v162.toInt = (zI s159 this 16).toInt := by rw [ev162]
          have zthis16 : zI σ0 this 16 = v162 := g7.symm.trans ev162
          refine lv_aload_n hx hb dX6_sampleTold_58 rfl (lv_at hl 0 rfl) ?_
          refine va_get (D := κ.1) (ci := 6) (v := .ref (kR κ this 25)) (C := RX6) (T := TX6) (N := 27) hx hb hg inX6 hown hK (hT.o20 (hT.k t_this (by decide))).one 0 rfl rfl 25 (by decide) (hg _ k1244) (fun _ h9 => h9) rfl dX6_sampleTold_59 ?_
          rw [erQ]
          refine lv_aload_n hx hb dX6_sampleTold_62 rfl (lv_at hl 0 rfl) ?_
          refine va_get (D := κ.1) (ci := 6) (v := .int (zI s159 this 18)) (C := RX6) (T := TX6) (N := 27) hx hb hg inX6 hown hK (hT.o20 (hT.k t_this (by decide))).one 0 rfl rfl 18 (by decide) (hg _ k1237) (fun _ h9 => h9) rfl dX6_sampleTold_63 ?_
          rw [kthis_18]
          refine lv_aload_n hx hb dX6_sampleTold_66 rfl (lv_at hl 0 rfl) ?_
          refine va_get (D := κ.1) (ci := 6) (v := .int (zI s159 this 24)) (C := RX6) (T := TX6) (N := 27) hx hb hg inX6 hown hK (hT.o20 (hT.k t_this (by decide))).one 0 rfl rfl 24 (by decide) (hg _ k1243) (fun _ h9 => h9) rfl dX6_sampleTold_67 ?_
          rw [kthis_24]
          have hTo := hT
          refine tasti (n := 48) hx hb hK hT (hT.k trQ (by decide)) ⟨by decide, by decide⟩ (fun _ _ _ => rfl) (fun _ _ => trivial) (fun _ => rfl) (by omega) (by omega) dX6_sampleTold_70 (fun H locs s163 hus163 hT => ?_)
          have kthis_18 : zI s163 this 18 = v4 := (zput_o hus163 (Or.inl ((hTo.k t_this (by decide)).ne (hTo.k trQ (by decide)) (by decide)))).trans kthis_18
          have kthis_14 : zI s163 this 14 = u := (zput_o hus163 (Or.inl ((hTo.k t_this (by decide)).ne (hTo.k trQ (by decide)) (by decide)))).trans kthis_14
          have kthis_17 : zI s163 this 17 = bb := (zput_o hus163 (Or.inl ((hTo.k t_this (by decide)).ne (hTo.k trQ (by decide)) (by decide)))).trans kthis_17
          have kthis_24 : zI s163 this 24 = val := (zput_o hus163 (Or.inl ((hTo.k t_this (by decide)).ne (hTo.k trQ (by decide)) (by decide)))).trans kthis_24
          have ev161 : zI s163 this 15 = v161 := (zput_o hus163 (Or.inl ((hTo.k t_this (by decide)).ne (hTo.k trQ (by decide)) (by decide)))).trans ev161
          have ev162 : zI s163 this 16 = v162 := (zput_o hus163 (Or.inl ((hTo.k t_this (by decide)).ne (hTo.k trQ (by decide)) (by decide)))).trans ev162
          have w9 : ix v4 = nn := by unfold ix; omega
          have Y164 : (zI s163 rQ nn).toInt = uvl tc Ln (unxt tc Ln sp) := by rw [← w9, zput_at hus163]; omega
          have Y165 : ∀ j : Nat, j < nn → zI s163 rQ j = zI σ0 rQ j := fun j hj => by rw [zput_o hus163 (Or.inr (by omega)), q1]
          refine lv_aload_n hx hb dX6_sampleTold_71 rfl (lv_at hl 0 rfl) ?_
          refine va_get (D := κ.1) (ci := 6) (v := .int (zI s163 this 17)) (C := RX6) (T := TX6) (N := 27) hx hb hg inX6 hown hK (hT.o20 (hT.k t_this (by decide))).one 0 rfl rfl 17 (by decide) (hg _ k1236) (fun _ h9 => h9) rfl dX6_sampleTold_72 ?_
          rw [kthis_17]
          refine lv_if_ne (tgt := 91) hx hb dX6_sampleTold_75 (by decide) (fun c9 => absurd (gi_ne c9) (by omega)) (fun _ => ?_)
          refine lv_aload_n hx hb dX6_sampleTold_78 rfl (lv_at hl 0 rfl) ?_
          have hTo := hT
          refine tVi (n := 0) (As := []) (rest := []) hx hb hml hown hg hT hK hX (X6s_here l κ s163 this  (hT.k t_this (by decide)) (hTX.tr (funext fun k => by rw [erT]; exact hT.eI trT (by decide) rfl rfl) (hT.eI t_this (by decide) rfl rfl)) (show (zI s163 this 14).toInt = (utkE tc Ln (unxt tc Ln sp) : Nat) from by rw [(show zI s163 this 14 = u from kthis_14)]; omega) (utkE_le (unxt_le h3))) sub_gH_gS2 (mwV k1341 k1343 k42 k92 k1344) ⟨rfl, by decide, by decide, by decide +kernel⟩ ⟨(Nat.le_of_ble_eq_true rfl), (Nat.le_of_ble_eq_true rfl)⟩ (hT.o20 (hT.k t_this (by decide))) rfl rfl hl.1 rfl (Nat.le_of_ble_eq_true rfl) dX6_sampleTold_79 zroom.rf (fun x166 s167 H locs hφ hEs167 hT => ?_)
          have kthis_18 : zI s167 this 18 = v4 := ((hTo.k t_this (by decide)).eI hEs167 (by decide) rfl).trans kthis_18
          have kthis_17 : zI s167 this 17 = bb := ((hTo.k t_this (by decide)).eI hEs167 (by decide) rfl).trans kthis_17
          have kthis_24 : zI s167 this 24 = val := ((hTo.k t_this (by decide)).eI hEs167 (by decide) rfl).trans kthis_24
          have ev161 : zI s167 this 15 = v161 := ((hTo.k t_this (by decide)).eI hEs167 (by decide) rfl).trans ev161
          have ev162 : zI s167 this 16 = v162 := ((hTo.k t_this (by decide)).eI hEs167 (by decide) rfl).trans ev162
          have Y168 : (zI s167 rQ nn).toInt = uvl tc Ln (unxt tc Ln sp) := by first | (rw [show zI s167 rQ = zI s163 rQ from funext fun k => (hTo.k trQ (by decide)).eI hEs167 (by decide) rfl]; exact Y164) | rw [show zI s167 rQ = zI s163 rQ from funext fun k => (hTo.k trQ (by decide)).eI hEs167 (by decide) rfl]
          have Y169 : ∀ j : Nat, j < nn → zI s167 rQ j = zI σ0 rQ j := by first | (rw [show zI s167 rQ = zI s163 rQ from funext fun k => (hTo.k trQ (by decide)).eI hEs167 (by decide) rfl]; exact Y165) | rw [show zI s167 rQ = zI s163 rQ from funext fun k => (hTo.k trQ (by decide)).eI hEs167 (by decide) rfl]
          obtain ⟨f170, f171⟩ := hφ
          rw [show uscn uisBl tc Ln (utkE tc Ln (unxt tc Ln sp)) = unxt tc Ln (unxt tc Ln sp) from rfl] at f170 f171
          obtain ⟨v172, ev172⟩ : ∃ zz9 : Int32, zI s167 this 14 = zz9 := ⟨_, rfl⟩
          have qv172 : v172.toInt = (zI s167 this 14).toInt := by rw [ev172]
          rw [(show zI s167 this 14 = v172 from ev172)] at f170
          refine lv_bipush (v := 45) hx hb dX6_sampleTold_82 (by decide) ?_
          refine lv_icmp_ne (tgt := 91) hx hb dX6_sampleTold_84 (by decide) (fun c9 => ?_) (fun c9 => ?_)
          · have c6 := gi_ne c9
            have hk4 : utkK tc Ln (unxt tc Ln (unxt tc Ln sp)) ≠ 4 := fun q9 => by have z9 := tk4_iff.mp q9; omega
            have hsv : (svq (utkK tc Ln) (unxt tc Ln) (unxt tc Ln sp)) = (unxt tc Ln (unxt tc Ln sp)) := if_neg hk4
            refine lv_iconst (v := 0) hx hb dX6_sampleTold_91 (by decide) ?_
            refine lv_istore_n (lv' := [(1, .int 0), (0, .ref this)]) hx hb dX6_sampleTold_92 rfl hl (by decide) rfl (fun ls hl => ?_)
            refine lv_aload_n hx hb dX6_sampleTold_93 rfl (lv_at hl 1 rfl) ?_
            refine lv_dup hx hb dX6_sampleTold_94 rfl ?_
            refine va_get (D := κ.1) (ci := 6) (v := .int (zI s167 this 14)) (C := RX6) (T := TX6) (N := 27) hx hb hg inX6 hown hK (hT.o20 (hT.k t_this (by decide))).one 0 rfl rfl 14 (by decide) (hg _ k1233) (fun _ h9 => h9) rfl dX6_sampleTold_95 ?_
            rw [ev172]
            refine lv_iload_n hx hb dX6_sampleTold_98 rfl (lv_at hl 0 rfl) ?_
            refine lv_if_eq (tgt := 106) hx hb dX6_sampleTold_99 (by decide) (fun _ => ?_) (fun c9 => absurd (by decide) c9)
            refine lv_iconst (v := 0) hx hb dX6_sampleTold_106 (by decide) ?_
            refine lv_iadd hx hb dX6_sampleTold_107 ?_
            first | refine g_add (by omega) (by omega) (fun t173 ht173 => ?_) | refine lv_topi (fun t173 ht173 => ?_)
            have hTo := hT
            refine pf20_14 hx hb hg hown hK hT (hT.k t_this (by decide)) rfl (hg _ k1233) dX6_sampleTold_108 (fun H locs s174 hus174 hT => ?_)
            have kthis_18 : zI s174 this 18 = v4 := (zput_o hus174 (Or.inr (by decide))).trans kthis_18
            have kthis_17 : zI s174 this 17 = bb := (zput_o hus174 (Or.inr (by decide))).trans kthis_17
            have kthis_24 : zI s174 this 24 = val := (zput_o hus174 (Or.inr (by decide))).trans kthis_24
            have ev161 : zI s174 this 15 = v161 := (zput_o hus174 (Or.inr (by decide))).trans ev161
            have ev162 : zI s174 this 16 = v162 := (zput_o hus174 (Or.inr (by decide))).trans ev162
            have Y175 : (zI s174 rQ nn).toInt = uvl tc Ln (unxt tc Ln sp) := by first | (rw [show zI s174 rQ = zI s167 rQ from zput_Io hus174 ((hTo.k trQ (by decide)).ne (hTo.k t_this (by decide)) (by decide))]; exact Y168) | rw [show zI s174 rQ = zI s167 rQ from zput_Io hus174 ((hTo.k trQ (by decide)).ne (hTo.k t_this (by decide)) (by decide))]
            have Y176 : ∀ j : Nat, j < nn → zI s174 rQ j = zI σ0 rQ j := by first | (rw [show zI s174 rQ = zI s167 rQ from zput_Io hus174 ((hTo.k trQ (by decide)).ne (hTo.k t_this (by decide)) (by decide))]; exact Y169) | rw [show zI s174 rQ = zI s167 rQ from zput_Io hus174 ((hTo.k trQ (by decide)).ne (hTo.k t_this (by decide)) (by decide))]
            have e177 : zI s174 this 14 = t173 := zput_at hus174
            exact loop111 (((0 : Int)).toNat + 1) 0 t173 bb _ _ _ _ hT kthis_18 e177 kthis_17 (Or.inl ⟨by omega, g2, ⟨(unxt tc Ln (unxt tc Ln sp)), by omega, unxt_le (unxt_le h3), by rw [hsv]; exact uscn_id⟩, ((show zI s174 this 15 = v161 from ev161).trans zthis15.symm), ((show zI s174 this 16 = v162 from ev162).trans zthis16.symm), Y175, Y176⟩) hl (by omega)
          · have c7 := gi_eq c9
            have hk4 : utkK tc Ln (unxt tc Ln (unxt tc Ln sp)) = 4 := tk4_iff.mpr (by omega)
            have hE4 := (utk_minus (c := tc) (L := Ln) (s := (unxt tc Ln (unxt tc Ln sp))) (tk4_iff.mp hk4).1 (tk4_iff.mp hk4).2).2
            have hsv : (svq (utkK tc Ln) (unxt tc Ln) (unxt tc Ln sp)) = unxt tc Ln (unxt tc Ln (unxt tc Ln sp)) := if_pos hk4
            refine lv_iconst (v := 1) hx hb dX6_sampleTold_87 (by decide) ?_
            refine lv_goto (tgt := 92) hx hb dX6_sampleTold_88 (by decide) ?_
            refine lv_istore_n (lv' := [(1, .int 1), (0, .ref this)]) hx hb dX6_sampleTold_92 rfl hl (by decide) rfl (fun ls hl => ?_)
            refine lv_aload_n hx hb dX6_sampleTold_93 rfl (lv_at hl 1 rfl) ?_
            refine lv_dup hx hb dX6_sampleTold_94 rfl ?_
            refine va_get (D := κ.1) (ci := 6) (v := .int (zI s167 this 14)) (C := RX6) (T := TX6) (N := 27) hx hb hg inX6 hown hK (hT.o20 (hT.k t_this (by decide))).one 0 rfl rfl 14 (by decide) (hg _ k1233) (fun _ h9 => h9) rfl dX6_sampleTold_95 ?_
            rw [ev172]
            refine lv_iload_n hx hb dX6_sampleTold_98 rfl (lv_at hl 0 rfl) ?_
            refine lv_if_eq (tgt := 106) hx hb dX6_sampleTold_99 (by decide) (fun c9 => absurd c9 (by decide)) (fun _ => ?_)
            refine lv_iconst (v := 1) hx hb dX6_sampleTold_102 (by decide) ?_
            refine lv_goto (tgt := 107) hx hb dX6_sampleTold_103 (by decide) ?_
            refine lv_iadd hx hb dX6_sampleTold_107 ?_
            first | refine g_add (by omega) (by omega) (fun t178 ht178 => ?_) | refine lv_topi (fun t178 ht178 => ?_)
            have hTo := hT
            refine pf20_14 hx hb hg hown hK hT (hT.k t_this (by decide)) rfl (hg _ k1233) dX6_sampleTold_108 (fun H locs s179 hus179 hT => ?_)
            have kthis_18 : zI s179 this 18 = v4 := (zput_o hus179 (Or.inr (by decide))).trans kthis_18
            have kthis_17 : zI s179 this 17 = bb := (zput_o hus179 (Or.inr (by decide))).trans kthis_17
            have kthis_24 : zI s179 this 24 = val := (zput_o hus179 (Or.inr (by decide))).trans kthis_24
            have ev161 : zI s179 this 15 = v161 := (zput_o hus179 (Or.inr (by decide))).trans ev161
            have ev162 : zI s179 this 16 = v162 := (zput_o hus179 (Or.inr (by decide))).trans ev162
            have Y180 : (zI s179 rQ nn).toInt = uvl tc Ln (unxt tc Ln sp) := by first | (rw [show zI s179 rQ = zI s167 rQ from zput_Io hus179 ((hTo.k trQ (by decide)).ne (hTo.k t_this (by decide)) (by decide))]; exact Y168) | rw [show zI s179 rQ = zI s167 rQ from zput_Io hus179 ((hTo.k trQ (by decide)).ne (hTo.k t_this (by decide)) (by decide))]
            have Y181 : ∀ j : Nat, j < nn → zI s179 rQ j = zI σ0 rQ j := by first | (rw [show zI s179 rQ = zI s167 rQ from zput_Io hus179 ((hTo.k trQ (by decide)).ne (hTo.k t_this (by decide)) (by decide))]; exact Y169) | rw [show zI s179 rQ = zI s167 rQ from zput_Io hus179 ((hTo.k trQ (by decide)).ne (hTo.k t_this (by decide)) (by decide))]
            have e182 : zI s179 this 14 = t178 := zput_at hus179
            exact loop111 (((0 : Int)).toNat + 1) 1 t178 bb _ _ _ _ hT kthis_18 e182 kthis_17 (Or.inl ⟨by omega, g2, ⟨utkE tc Ln (unxt tc Ln (unxt tc Ln sp)), by omega, utkE_le (unxt_le (unxt_le h3)), by rw [hsv]; rfl⟩, ((show zI s179 this 15 = v161 from ev161).trans zthis15.symm), ((show zI s179 this 16 = v162 from ev162).trans zthis16.symm), Y180, Y181⟩) hl (by omega)
        · skip
          obtain ⟨v183, ev183⟩ : ∃ zz9 : Int32, zI s159 this 15 = zz9 := ⟨_, rfl⟩
          have qv183 : v183.toInt = (zI s159 this 15).toInt := by rw [ev183]
          rw [(show zI s159 this 15 = v183 from ev183)] at z3
          obtain ⟨v184, ev184⟩ : ∃ zz9 : Int32, zI s159 this 16 = zz9 := ⟨_, rfl⟩
          have qv184 : v184.toInt = (zI s159 this 16).toInt := by rw [ev184]
          rw [(show zI s159 this 16 = v184 from ev184)] at z4
          refine lv_aload_n hx hb dX6_sampleTold_58 rfl (lv_at hl 0 rfl) ?_
          refine va_get (D := κ.1) (ci := 6) (v := .ref (kR κ this 25)) (C := RX6) (T := TX6) (N := 27) hx hb hg inX6 hown hK (hT.o20 (hT.k t_this (by decide))).one 0 rfl rfl 25 (by decide) (hg _ k1244) (fun _ h9 => h9) rfl dX6_sampleTold_59 ?_
          rw [erQ]
          refine lv_aload_n hx hb dX6_sampleTold_62 rfl (lv_at hl 0 rfl) ?_
          refine va_get (D := κ.1) (ci := 6) (v := .int (zI s159 this 18)) (C := RX6) (T := TX6) (N := 27) hx hb hg inX6 hown hK (hT.o20 (hT.k t_this (by decide))).one 0 rfl rfl 18 (by decide) (hg _ k1237) (fun _ h9 => h9) rfl dX6_sampleTold_63 ?_
          rw [kthis_18]
          refine lv_aload_n hx hb dX6_sampleTold_66 rfl (lv_at hl 0 rfl) ?_
          refine va_get (D := κ.1) (ci := 6) (v := .int (zI s159 this 24)) (C := RX6) (T := TX6) (N := 27) hx hb hg inX6 hown hK (hT.o20 (hT.k t_this (by decide))).one 0 rfl rfl 24 (by decide) (hg _ k1243) (fun _ h9 => h9) rfl dX6_sampleTold_67 ?_
          rw [kthis_24]
          have hTo := hT
          refine tasti (n := 48) hx hb hK hT (hT.k trQ (by decide)) ⟨by decide, by decide⟩ (fun _ _ _ => rfl) (fun _ _ => trivial) (fun _ => rfl) (by omega) (by omega) dX6_sampleTold_70 (fun H locs s185 hus185 hT => ?_)
          have kthis_18 : zI s185 this 18 = v4 := (zput_o hus185 (Or.inl ((hTo.k t_this (by decide)).ne (hTo.k trQ (by decide)) (by decide)))).trans kthis_18
          have kthis_14 : zI s185 this 14 = u := (zput_o hus185 (Or.inl ((hTo.k t_this (by decide)).ne (hTo.k trQ (by decide)) (by decide)))).trans kthis_14
          have kthis_17 : zI s185 this 17 = bb := (zput_o hus185 (Or.inl ((hTo.k t_this (by decide)).ne (hTo.k trQ (by decide)) (by decide)))).trans kthis_17
          have kthis_24 : zI s185 this 24 = val := (zput_o hus185 (Or.inl ((hTo.k t_this (by decide)).ne (hTo.k trQ (by decide)) (by decide)))).trans kthis_24
          have ev183 : zI s185 this 15 = v183 := (zput_o hus185 (Or.inl ((hTo.k t_this (by decide)).ne (hTo.k trQ (by decide)) (by decide)))).trans ev183
          have ev184 : zI s185 this 16 = v184 := (zput_o hus185 (Or.inl ((hTo.k t_this (by decide)).ne (hTo.k trQ (by decide)) (by decide)))).trans ev184
          refine lv_aload_n hx hb dX6_sampleTold_71 rfl (lv_at hl 0 rfl) ?_
          refine va_get (D := κ.1) (ci := 6) (v := .int (zI s185 this 17)) (C := RX6) (T := TX6) (N := 27) hx hb hg inX6 hown hK (hT.o20 (hT.k t_this (by decide))).one 0 rfl rfl 17 (by decide) (hg _ k1236) (fun _ h9 => h9) rfl dX6_sampleTold_72 ?_
          rw [kthis_17]
          refine lv_if_ne (tgt := 91) hx hb dX6_sampleTold_75 (by decide) (fun _ => ?_) (fun c9 => absurd (gi_eq c9) (by omega))
          refine lv_iconst (v := 0) hx hb dX6_sampleTold_91 (by decide) ?_
          refine lv_istore_n (lv' := [(1, .int 0), (0, .ref this)]) hx hb dX6_sampleTold_92 rfl hl (by decide) rfl (fun ls hl => ?_)
          refine lv_aload_n hx hb dX6_sampleTold_93 rfl (lv_at hl 1 rfl) ?_
          refine lv_dup hx hb dX6_sampleTold_94 rfl ?_
          refine va_get (D := κ.1) (ci := 6) (v := .int (zI s185 this 14)) (C := RX6) (T := TX6) (N := 27) hx hb hg inX6 hown hK (hT.o20 (hT.k t_this (by decide))).one 0 rfl rfl 14 (by decide) (hg _ k1233) (fun _ h9 => h9) rfl dX6_sampleTold_95 ?_
          rw [kthis_14]
          refine lv_iload_n hx hb dX6_sampleTold_98 rfl (lv_at hl 0 rfl) ?_
          refine lv_if_eq (tgt := 106) hx hb dX6_sampleTold_99 (by decide) (fun _ => ?_) (fun c9 => absurd (by decide) c9)
          refine lv_iconst (v := 0) hx hb dX6_sampleTold_106 (by decide) ?_
          refine lv_iadd hx hb dX6_sampleTold_107 ?_
          first | refine g_add (by omega) (by omega) (fun t186 ht186 => ?_) | refine lv_topi (fun t186 ht186 => ?_)
          have hTo := hT
          refine pf20_14 hx hb hg hown hK hT (hT.k t_this (by decide)) rfl (hg _ k1233) dX6_sampleTold_108 (fun H locs s187 hus187 hT => ?_)
          have kthis_18 : zI s187 this 18 = v4 := (zput_o hus187 (Or.inr (by decide))).trans kthis_18
          have kthis_17 : zI s187 this 17 = bb := (zput_o hus187 (Or.inr (by decide))).trans kthis_17
          have kthis_24 : zI s187 this 24 = val := (zput_o hus187 (Or.inr (by decide))).trans kthis_24
          have ev183 : zI s187 this 15 = v183 := (zput_o hus187 (Or.inr (by decide))).trans ev183
          have ev184 : zI s187 this 16 = v184 := (zput_o hus187 (Or.inr (by decide))).trans ev184
          have e188 : zI s187 this 14 = t186 := zput_at hus187
          exact loop111 (((0 : Int)).toNat + 1) 0 t186 bb _ _ _ _ hT kthis_18 e188 kthis_17 (Or.inr ⟨by omega, co, po, z1, z2, by rw [(show zI s187 this 15 = v183 from ev183)]; exact z3, by rw [(show zI s187 this 16 = v184 from ev184)]; exact z4⟩) hl (by omega)
    refine lv_aload_n hx hb dX6_sampleTold_19 rfl (lv_at hl 0 rfl) ?_
    refine lv_aload_n hx hb dX6_sampleTold_20 rfl (lv_at hl 0 rfl) ?_
    have hTo := hT
    refine tVi (n := 0) (As := []) (rest := [.ref this]) hx hb hml hown hg hT hK hX (X6s_wordEnd l κ σ0 this  (hT.k t_this (by decide)) hTX (show (zI σ0 this 14).toInt = ((sp : Nat) : Int) from by rw [(show zI σ0 this 14 = v3 from ev3)]; omega) h3) sub_fE_gS2 (mwV k1345 k1347 k43 k92 k1348) ⟨rfl, by decide, by decide, by decide +kernel⟩ ⟨(Nat.le_of_ble_eq_true rfl), (Nat.le_of_ble_eq_true rfl)⟩ (hT.o20 (hT.k t_this (by decide))) rfl rfl hl.1 rfl (Nat.le_of_ble_eq_true rfl) dX6_sampleTold_21 zroom.rf (fun x189 s190 H locs hφ hEs190 hT => ?_)
    have ev1 : zI s190 this 17 = v1 := ((hTo.k t_this (by decide)).eI hEs190 (by decide) rfl).trans ev1
    have ev3 : zI s190 this 14 = v3 := ((hTo.k t_this (by decide)).eI hEs190 (by decide) rfl).trans ev3
    have ev4 : zI s190 this 18 = v4 := ((hTo.k t_this (by decide)).eI hEs190 (by decide) rfl).trans ev4
    have ev5 : zI s190 this 15 = v5 := ((hTo.k t_this (by decide)).eI hEs190 (by decide) rfl).trans ev5
    have ev6 : zI s190 this 16 = v6 := ((hTo.k t_this (by decide)).eI hEs190 (by decide) rfl).trans ev6
    have Y191 : zI s190 rQ = zI σ0 rQ := by first | (rw [show zI s190 rQ = zI σ0 rQ from funext fun k => (hTo.k trQ (by decide)).eI hEs190 (by decide) rfl]; exact q0) | rw [show zI s190 rQ = zI σ0 rQ from funext fun k => (hTo.k trQ (by decide)).eI hEs190 (by decide) rfl]
    have f192 := hφ
    have hTo := hT
    refine pf20_14 hx hb hg hown hK hT (hT.k t_this (by decide)) rfl (hg _ k1233) dX6_sampleTold_24 (fun H locs s193 hus193 hT => ?_)
    have ev1 : zI s193 this 17 = v1 := (zput_o hus193 (Or.inr (by decide))).trans ev1
    have ev4 : zI s193 this 18 = v4 := (zput_o hus193 (Or.inr (by decide))).trans ev4
    have ev5 : zI s193 this 15 = v5 := (zput_o hus193 (Or.inr (by decide))).trans ev5
    have ev6 : zI s193 this 16 = v6 := (zput_o hus193 (Or.inr (by decide))).trans ev6
    have Y194 : zI s193 rQ = zI σ0 rQ := by first | (rw [show zI s193 rQ = zI s190 rQ from zput_Io hus193 ((hTo.k trQ (by decide)).ne (hTo.k t_this (by decide)) (by decide))]; exact Y191) | rw [show zI s193 rQ = zI s190 rQ from zput_Io hus193 ((hTo.k trQ (by decide)).ne (hTo.k t_this (by decide)) (by decide))]
    have e195 : zI s193 this 14 = x189 := zput_at hus193
    refine lv_aload_n hx hb dX6_sampleTold_27 rfl (lv_at hl 0 rfl) ?_
    refine lv_aload_n hx hb dX6_sampleTold_28 rfl (lv_at hl 0 rfl) ?_
    refine va_get (D := κ.1) (ci := 6) (v := .int (zI s193 this 18)) (C := RX6) (T := TX6) (N := 27) hx hb hg inX6 hown hK (hT.o20 (hT.k t_this (by decide))).one 0 rfl rfl 18 (by decide) (hg _ k1237) (fun _ h9 => h9) rfl dX6_sampleTold_29 ?_
    rw [ev4]
    refine lv_if_ne (tgt := 39) hx hb dX6_sampleTold_32 (by decide) (fun c9 => ?_) (fun c9 => ?_)
    · have c8 := gi_ne c9
      refine lv_aload_n hx hb dX6_sampleTold_39 rfl (lv_at hl 0 rfl) ?_
      refine va_get (D := κ.1) (ci := 6) (v := .ref (kR κ this 25)) (C := RX6) (T := TX6) (N := 27) hx hb hg inX6 hown hK (hT.o20 (hT.k t_this (by decide))).one 0 rfl rfl 25 (by decide) (hg _ k1244) (fun _ h9 => h9) rfl dX6_sampleTold_40 ?_
      rw [erQ]
      refine lv_aload_n hx hb dX6_sampleTold_43 rfl (lv_at hl 0 rfl) ?_
      refine va_get (D := κ.1) (ci := 6) (v := .int (zI s193 this 18)) (C := RX6) (T := TX6) (N := 27) hx hb hg inX6 hown hK (hT.o20 (hT.k t_this (by decide))).one 0 rfl rfl 18 (by decide) (hg _ k1237) (fun _ h9 => h9) rfl dX6_sampleTold_44 ?_
      rw [ev4]
      refine lv_iconst (v := 1) hx hb dX6_sampleTold_47 (by decide) ?_
      refine lv_isub hx hb dX6_sampleTold_48 ?_
      first | refine g_sub (by omega) (by omega) (fun t196 ht196 => ?_) | refine lv_topi (fun t196 ht196 => ?_)
      refine va_iald hx hb hK (hT.o27 (hT.k trQ (by decide))).one 0 0 rfl rfl (g_in (by omega) (by omega)) dX6_sampleTold_49 ?_
      refine lv_topi (fun t197 ht197 => ?_)
      have y9 : t197.toInt = vv := by have z9 := h7.resolve_left (by omega); rw [← z9.2, ht197, show nn - 1 = ix t196 from by unfold ix; omega]; exact congrArg (fun q9 => (q9 (ix t196)).toInt) Y194
      refine lv_iconst (v := 1) hx hb dX6_sampleTold_50 (by decide) ?_
      refine lv_iadd hx hb dX6_sampleTold_51 ?_
      first | refine g_add (by omega) (by omega) (fun t198 ht198 => ?_) | refine lv_topi (fun t198 ht198 => ?_)
      refine lv_sipush (v := 9999) hx hb dX6_sampleTold_52 (by decide) ?_
      have cz199 : zI s193 this 15 = v5 := ev5
      have cz200 : zI s193 this 16 = v6 := ev6
      have cz201 : zI s193 this 17 = v1 := ev1
      have hTo := hT
      refine tVv (n := 2) (As := [.int t198, .int 9999]) (rest := []) hx hb hml hown hg hT hK hX (X6s_number l κ s193 this t198 9999  (hT.k t_this (by decide)) (hTX.tr (funext fun k => by rw [erT]; exact hT.eI trT (by decide) rfl rfl) (hT.eI t_this (by decide) rfl rfl)) (show (zI s193 this 17).toInt = 0 → (zI s193 this 14).toInt = (utkE tc Ln sp : Nat) ∧ utkE tc Ln sp ≤ Ln from fun q9 => ⟨by rw [(show zI s193 this 14 = x189 from e195)]; omega, utkE_le h3⟩)) sub_gN_gS2 (mwV k1380 k1382 k48 k92 k1383) ⟨rfl, by decide, by decide, by decide +kernel⟩ ⟨(Nat.le_of_ble_eq_true rfl), (Nat.le_of_ble_eq_true rfl)⟩ (hT.o20 (hT.k t_this (by decide))) rfl rfl hl.1 rfl (Nat.le_of_ble_eq_true rfl) dX6_sampleTold_55 zroom.rf (fun s203 H locs hφ hEs203 hT => ?_)
      have ev4 : zI s203 this 18 = v4 := ((hTo.k t_this (by decide)).eI hEs203 (by decide) rfl).trans ev4
      have Y204 : zI s203 rQ = zI σ0 rQ := by first | (rw [show zI s203 rQ = zI s193 rQ from funext fun k => (hTo.k trQ (by decide)).eI hEs203 (by decide) rfl]; exact Y194) | rw [show zI s203 rQ = zI s193 rQ from funext fun k => (hTo.k trQ (by decide)).eI hEs203 (by decide) rfl]
      obtain ⟨f205, f206⟩ := hφ
      have m9 := f206 (show (zI s193 this 17).toInt = 0 from by rw [cz201]; omega)
      rw [show uscn uisBl tc Ln (utkE tc Ln sp) = unxt tc Ln sp from rfl] at m9
      clear f205 f206
      rcases m9 with ⟨m1, m2, m3, m4, m5, m6, m7, m8⟩ | ⟨co, m1, m2, m3, m4⟩
      · skip
        obtain ⟨v207, ev207⟩ : ∃ zz9 : Int32, zI s203 this 14 = zz9 := ⟨_, rfl⟩
        have qv207 : v207.toInt = (zI s203 this 14).toInt := by rw [ev207]
        rw [(show zI s203 this 14 = v207 from ev207)] at m2
        obtain ⟨v208, ev208⟩ : ∃ zz9 : Int32, zI s203 this 24 = zz9 := ⟨_, rfl⟩
        have qv208 : v208.toInt = (zI s203 this 24).toInt := by rw [ev208]
        rw [(show zI s203 this 24 = v208 from ev208)] at m3
        obtain ⟨v209, ev209⟩ : ∃ zz9 : Int32, zI s203 this 17 = zz9 := ⟨_, rfl⟩
        have qv209 : v209.toInt = (zI s203 this 17).toInt := by rw [ev209]
        have b210 : isB v209 := by have q9 : isB (zI s203 this 17) := hT.P (hT.k t_this (by decide)) (by decide); rw [ev209] at q9; exact q9
        have b210t := isB_t b210
        rw [(show zI s203 this 17 = v209 from ev209)] at m6
        obtain ⟨v211, ev211⟩ : ∃ zz9 : Int32, zI s203 this 15 = zz9 := ⟨_, rfl⟩
        have qv211 : v211.toInt = (zI s203 this 15).toInt := by rw [ev211]
        have zthis15 : zI σ0 this 15 = v211 := zthis15.trans (cz199.symm.trans (m7.symm.trans ev211))
        obtain ⟨v212, ev212⟩ : ∃ zz9 : Int32, zI s203 this 16 = zz9 := ⟨_, rfl⟩
        have qv212 : v212.toInt = (zI s203 this 16).toInt := by rw [ev212]
        have zthis16 : zI σ0 this 16 = v212 := zthis16.trans (cz200.symm.trans (m8.symm.trans ev212))
        exact loop58 (((0 : Int)).toNat + 1) v207 v209 v208 _ _ _ _ hT ev4 ev207 ev209 ev208 (Or.inl ⟨by omega, ⟨m1, by omega⟩, by omega, by omega, ((show zI s203 this 15 = v211 from ev211).trans zthis15.symm), ((show zI s203 this 16 = v212 from ev212).trans zthis16.symm)⟩) Y204 hl (by omega)
      · skip
        obtain ⟨v213, ev213⟩ : ∃ zz9 : Int32, zI s203 this 17 = zz9 := ⟨_, rfl⟩
        have qv213 : v213.toInt = (zI s203 this 17).toInt := by rw [ev213]
        have b214 : isB v213 := by have q9 : isB (zI s203 this 17) := hT.P (hT.k t_this (by decide)) (by decide); rw [ev213] at q9; exact q9
        have b214t := isB_t b214
        rw [(show zI s203 this 17 = v213 from ev213)] at m2
        obtain ⟨v215, ev215⟩ : ∃ zz9 : Int32, zI s203 this 15 = zz9 := ⟨_, rfl⟩
        have qv215 : v215.toInt = (zI s203 this 15).toInt := by rw [ev215]
        rw [(show zI s203 this 15 = v215 from ev215)] at m3
        obtain ⟨v216, ev216⟩ : ∃ zz9 : Int32, zI s203 this 16 = zz9 := ⟨_, rfl⟩
        have qv216 : v216.toInt = (zI s203 this 16).toInt := by rw [ev216]
        rw [(show zI s203 this 16 = v216 from ev216)] at m4
        obtain ⟨v217, ev217⟩ : ∃ zz9 : Int32, zI s203 this 14 = zz9 := ⟨_, rfl⟩
        have qv217 : v217.toInt = (zI s203 this 14).toInt := by rw [ev217]
        obtain ⟨v218, ev218⟩ : ∃ zz9 : Int32, zI s203 this 24 = zz9 := ⟨_, rfl⟩
        have qv218 : v218.toInt = (zI s203 this 24).toInt := by rw [ev218]
        exact loop58 (((0 : Int)).toNat + 1) v217 v213 v218 _ _ _ _ hT ev4 ev217 ev213 ev218 (Or.inr ⟨by omega, co, ((unxt tc Ln sp) : Nat), Or.inr (Or.inr ⟨h4, by omega, m1.elim (fun q9 => Or.inl ⟨q9.1, q9.2, rfl⟩) (fun q9 => Or.inr (Or.inl ⟨q9.1, by have z9 := uvl_b q9.1; omega, q9.2.2, rfl⟩))⟩), by omega, by rw [(show zI s203 this 15 = v215 from ev215)]; omega, by rw [(show zI s203 this 16 = v216 from ev216)]; omega⟩) Y204 hl (by omega)
    · have c9 := gi_eq c9
      refine lv_iconst (v := 0) hx hb dX6_sampleTold_35 (by decide) ?_
      refine lv_goto (tgt := 52) hx hb dX6_sampleTold_36 (by decide) ?_
      refine lv_sipush (v := 9999) hx hb dX6_sampleTold_52 (by decide) ?_
      have cz219 : zI s193 this 15 = v5 := ev5
      have cz220 : zI s193 this 16 = v6 := ev6
      have cz221 : zI s193 this 17 = v1 := ev1
      have hTo := hT
      refine tVv (n := 2) (As := [.int 0, .int 9999]) (rest := []) hx hb hml hown hg hT hK hX (X6s_number l κ s193 this 0 9999  (hT.k t_this (by decide)) (hTX.tr (funext fun k => by rw [erT]; exact hT.eI trT (by decide) rfl rfl) (hT.eI t_this (by decide) rfl rfl)) (show (zI s193 this 17).toInt = 0 → (zI s193 this 14).toInt = (utkE tc Ln sp : Nat) ∧ utkE tc Ln sp ≤ Ln from fun q9 => ⟨by rw [(show zI s193 this 14 = x189 from e195)]; omega, utkE_le h3⟩)) sub_gN_gS2 (mwV k1380 k1382 k48 k92 k1383) ⟨rfl, by decide, by decide, by decide +kernel⟩ ⟨(Nat.le_of_ble_eq_true rfl), (Nat.le_of_ble_eq_true rfl)⟩ (hT.o20 (hT.k t_this (by decide))) rfl rfl hl.1 rfl (Nat.le_of_ble_eq_true rfl) dX6_sampleTold_55 zroom.rf (fun s223 H locs hφ hEs223 hT => ?_)
      have ev4 : zI s223 this 18 = v4 := ((hTo.k t_this (by decide)).eI hEs223 (by decide) rfl).trans ev4
      have Y224 : zI s223 rQ = zI σ0 rQ := by first | (rw [show zI s223 rQ = zI s193 rQ from funext fun k => (hTo.k trQ (by decide)).eI hEs223 (by decide) rfl]; exact Y194) | rw [show zI s223 rQ = zI s193 rQ from funext fun k => (hTo.k trQ (by decide)).eI hEs223 (by decide) rfl]
      obtain ⟨f225, f226⟩ := hφ
      have m9 := f226 (show (zI s193 this 17).toInt = 0 from by rw [cz221]; omega)
      rw [show uscn uisBl tc Ln (utkE tc Ln sp) = unxt tc Ln sp from rfl] at m9
      clear f225 f226
      rcases m9 with ⟨m1, m2, m3, m4, m5, m6, m7, m8⟩ | ⟨co, m1, m2, m3, m4⟩
      · skip
        obtain ⟨v227, ev227⟩ : ∃ zz9 : Int32, zI s223 this 14 = zz9 := ⟨_, rfl⟩
        have qv227 : v227.toInt = (zI s223 this 14).toInt := by rw [ev227]
        rw [(show zI s223 this 14 = v227 from ev227)] at m2
        obtain ⟨v228, ev228⟩ : ∃ zz9 : Int32, zI s223 this 24 = zz9 := ⟨_, rfl⟩
        have qv228 : v228.toInt = (zI s223 this 24).toInt := by rw [ev228]
        rw [(show zI s223 this 24 = v228 from ev228)] at m3
        obtain ⟨v229, ev229⟩ : ∃ zz9 : Int32, zI s223 this 17 = zz9 := ⟨_, rfl⟩
        have qv229 : v229.toInt = (zI s223 this 17).toInt := by rw [ev229]
        have b230 : isB v229 := by have q9 : isB (zI s223 this 17) := hT.P (hT.k t_this (by decide)) (by decide); rw [ev229] at q9; exact q9
        have b230t := isB_t b230
        rw [(show zI s223 this 17 = v229 from ev229)] at m6
        obtain ⟨v231, ev231⟩ : ∃ zz9 : Int32, zI s223 this 15 = zz9 := ⟨_, rfl⟩
        have qv231 : v231.toInt = (zI s223 this 15).toInt := by rw [ev231]
        have zthis15 : zI σ0 this 15 = v231 := zthis15.trans (cz219.symm.trans (m7.symm.trans ev231))
        obtain ⟨v232, ev232⟩ : ∃ zz9 : Int32, zI s223 this 16 = zz9 := ⟨_, rfl⟩
        have qv232 : v232.toInt = (zI s223 this 16).toInt := by rw [ev232]
        have zthis16 : zI σ0 this 16 = v232 := zthis16.trans (cz220.symm.trans (m8.symm.trans ev232))
        exact loop58 (((0 : Int)).toNat + 1) v227 v229 v228 _ _ _ _ hT ev4 ev227 ev229 ev228 (Or.inl ⟨by omega, ⟨m1, by omega⟩, by omega, by omega, ((show zI s223 this 15 = v231 from ev231).trans zthis15.symm), ((show zI s223 this 16 = v232 from ev232).trans zthis16.symm)⟩) Y224 hl (by omega)
      · skip
        obtain ⟨v233, ev233⟩ : ∃ zz9 : Int32, zI s223 this 17 = zz9 := ⟨_, rfl⟩
        have qv233 : v233.toInt = (zI s223 this 17).toInt := by rw [ev233]
        have b234 : isB v233 := by have q9 : isB (zI s223 this 17) := hT.P (hT.k t_this (by decide)) (by decide); rw [ev233] at q9; exact q9
        have b234t := isB_t b234
        rw [(show zI s223 this 17 = v233 from ev233)] at m2
        obtain ⟨v235, ev235⟩ : ∃ zz9 : Int32, zI s223 this 15 = zz9 := ⟨_, rfl⟩
        have qv235 : v235.toInt = (zI s223 this 15).toInt := by rw [ev235]
        rw [(show zI s223 this 15 = v235 from ev235)] at m3
        obtain ⟨v236, ev236⟩ : ∃ zz9 : Int32, zI s223 this 16 = zz9 := ⟨_, rfl⟩
        have qv236 : v236.toInt = (zI s223 this 16).toInt := by rw [ev236]
        rw [(show zI s223 this 16 = v236 from ev236)] at m4
        obtain ⟨v237, ev237⟩ : ∃ zz9 : Int32, zI s223 this 14 = zz9 := ⟨_, rfl⟩
        have qv237 : v237.toInt = (zI s223 this 14).toInt := by rw [ev237]
        obtain ⟨v238, ev238⟩ : ∃ zz9 : Int32, zI s223 this 24 = zz9 := ⟨_, rfl⟩
        have qv238 : v238.toInt = (zI s223 this 24).toInt := by rw [ev238]
        exact loop58 (((0 : Int)).toNat + 1) v237 v233 v238 _ _ _ _ hT ev4 ev237 ev233 ev238 (Or.inr ⟨by omega, co, ((unxt tc Ln sp) : Nat), Or.inr (Or.inr ⟨h4, by omega, m1.elim (fun q9 => Or.inl ⟨q9.1, q9.2, rfl⟩) (fun q9 => Or.inr (Or.inl ⟨q9.1, by have z9 := uvl_b q9.1; omega, q9.2.2, rfl⟩))⟩), by omega, by rw [(show zI s223 this 15 = v235 from ev235)]; omega, by rw [(show zI s223 this 16 = v236 from ev236)]; omega⟩) Y224 hl (by omega)
  · have c10 := gi_eq c9
    refine lv_aload_n hx hb dX6_sampleTold_9 rfl (lv_at hl 0 rfl) ?_
    refine lv_iconst (v := 4) hx hb dX6_sampleTold_10 (by decide) ?_
    refine lv_aload_n hx hb dX6_sampleTold_11 rfl (lv_at hl 0 rfl) ?_
    refine va_get (D := κ.1) (ci := 6) (v := .int (zI σ0 this 14)) (C := RX6) (T := TX6) (N := 27) hx hb hg inX6 hown hK (hT.o20 (hT.k t_this (by decide))).one 0 rfl rfl 14 (by decide) (hg _ k1233) (fun _ h9 => h9) rfl dX6_sampleTold_12 ?_
    rw [ev3]
    have cz239 : zI σ0 this 17 = v1 := ev1
    have hTo := hT
    refine tVv (n := 2) (As := [.int 4, .int v3]) (rest := []) hx hb hml hown hg hT hK hX (X6s_wrong l κ σ0 this 4 v3  (hT.k t_this (by decide)) ) sub_gB_gS2 (mwV k1357 k1359 k45 k92 k1360) ⟨rfl, by decide, by decide, by decide +kernel⟩ ⟨(Nat.le_of_ble_eq_true rfl), (Nat.le_of_ble_eq_true rfl)⟩ (hT.o20 (hT.k t_this (by decide))) rfl rfl hl.1 rfl (Nat.le_of_ble_eq_true rfl) dX6_sampleTold_15 zroom.rf (fun s241 H locs hφ hEs241 hT => ?_)
    have ev3 : zI s241 this 14 = v3 := ((hTo.k t_this (by decide)).eI hEs241 (by decide) rfl).trans ev3
    have ev4 : zI s241 this 18 = v4 := ((hTo.k t_this (by decide)).eI hEs241 (by decide) rfl).trans ev4
    have Y242 : zI s241 rQ = zI σ0 rQ := by first | (rw [show zI s241 rQ = zI σ0 rQ from funext fun k => (hTo.k trQ (by decide)).eI hEs241 (by decide) rfl]; exact q0) | rw [show zI s241 rQ = zI σ0 rQ from funext fun k => (hTo.k trQ (by decide)).eI hEs241 (by decide) rfl]
    have f243 := hφ
    obtain ⟨wb91, wb92, wb93⟩ := (f243.resolve_left (fun q9 => by have z9 := q9.1; rw [cz239] at z9; omega)).2
    obtain ⟨v244, ev244⟩ : ∃ zz9 : Int32, zI s241 this 17 = zz9 := ⟨_, rfl⟩
    have qv244 : v244.toInt = (zI s241 this 17).toInt := by rw [ev244]
    have b245 : isB v244 := by have q9 : isB (zI s241 this 17) := hT.P (hT.k t_this (by decide)) (by decide); rw [ev244] at q9; exact q9
    have b245t := isB_t b245
    rw [(show zI s241 this 17 = v244 from ev244)] at wb91
    obtain ⟨v246, ev246⟩ : ∃ zz9 : Int32, zI s241 this 15 = zz9 := ⟨_, rfl⟩
    have qv246 : v246.toInt = (zI s241 this 15).toInt := by rw [ev246]
    rw [(show zI s241 this 15 = v246 from ev246)] at wb92
    obtain ⟨v247, ev247⟩ : ∃ zz9 : Int32, zI s241 this 16 = zz9 := ⟨_, rfl⟩
    have qv247 : v247.toInt = (zI s241 this 16).toInt := by rw [ev247]
    rw [(show zI s241 this 16 = v247 from ev247)] at wb93
    subst hQ9
    exact t_v hx hb hr hlocks hT (Or.inr ⟨by rw [(show zI s241 this 17 = v244 from ev244)]; omega, by rw [(show zI s241 this 18 = v4 from ev4)]; omega, by rw [(show zI s241 this 18 = v4 from ev4)]; omega, 4, (sp : Nat), Or.inr (Or.inl ⟨h4, by omega, rfl, rfl⟩), by decide, by rw [(show zI s241 this 15 = v246 from ev246)]; omega, by rw [(show zI s241 this 16 = v247 from ev247)]; omega⟩) dX6_sampleTold_18
