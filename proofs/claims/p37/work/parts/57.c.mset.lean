/-! What the reference reads: a setting -/
set_option maxHeartbeats 8000000 in
set_option maxRecDepth 100000 in
theorem X6s_setting (l : Launch) (κ : Kt) (σ0 : Gh) (this : Nat) {tc : Nat → Int} {Ln : Nat} {aa nb : Nat} {gg : Nat → Int} (t_this : zk σ0 this 20) (h0 : TXm κ σ0 this tc Ln) (h1 : (zI σ0 this 17).toInt = 0) (h2 : (zI σ0 this 14).toInt = (aa : Nat)) (h3 : aa ≤ Ln) (h4 : (zI σ0 this 23).toInt = (nb : Nat)) (h5 : nb < 16) (h6 : GSm σ0 this gg) : TC l yX6_setting cX6_setting 1 (some .boolean) 6 143 [.ref this] κ σ0 (tqi κ gS1 σ0 (fun (r : Int32) (τ : Gh) => ((r.toInt = 0 ∧ usNo (uWd tc Ln) (uscn uisBl tc Ln aa) ∧ (zI τ this 17).toInt = 0 ∧ (zI τ this 14).toInt = ((uscn uisBl tc Ln aa) : Nat) ∧ GSm τ this gg ∧ zI τ this 15 = zI σ0 this 15 ∧ zI τ this 16 = zI σ0 this 16 ∧ (zI τ this 23).toInt = nb) ∨ (r.toInt = 1 ∧ (zI τ this 17).toInt = 0 ∧ (∃ (s9 n9 a9 : Nat) (g9 : Nat → Int), usGo (utkK tc Ln) (unxt tc Ln) (uvl tc Ln) (uWd tc Ln) (uscn uisBl tc Ln aa) nb gg s9 n9 g9 ∧ n9 < 16 ∧ pc4 n9 = pc4 nb + 1 ∧ (zI τ this 14).toInt = (a9 : Nat) ∧ a9 ≤ Ln ∧ uscn uisBl tc Ln a9 = s9 ∧ (zI τ this 23).toInt = (n9 : Nat) ∧ GSm τ this g9) ∧ zI τ this 15 = zI σ0 this 15 ∧ zI τ this 16 = zI σ0 this 16) ∨ (r.toInt = 1 ∧ (zI τ this 17).toInt = 1 ∧ (∃ n9 : Nat, (zI τ this 23).toInt = n9 ∧ n9 < 16) ∧ ∃ co po : Int, usBad (utkK tc Ln) (unxt tc Ln) (uvl tc Ln) (uWd tc Ln) (uscn uisBl tc Ln aa) nb co po ∧ co ≠ 0 ∧ (zI τ this 15).toInt = co ∧ (zI τ this 16).toInt = po)) ∧ (isB r))) := by
  refine TC.of gS1 (by decide +kernel) (Nat.le_of_ble_eq_true rfl) ?_
  intro p e s m below meth c ls hcs hK hX hT hl
  obtain ⟨hx, hb, hr, hml, hown, hg, hlocks, hin⟩ := hcs
  have hown : s.vm.findClass RX6 = some m.cls := hown
  have hl : lv_has ls 1 [(0, .ref this)] := hl
  have hT0 := hT
  have n0 : (0 : Int32).toInt = 0 := by decide
  have n1 : (1 : Int32).toInt = 1 := by decide
  have n2 : (2 : Int32).toInt = 2 := by decide
  have n3 : (3 : Int32).toInt = 3 := by decide
  have n48 : (48 : Int32).toInt = 48 := by decide
  have j0 : (0 : Int64).toInt = 0 := by decide
  have j220309 : (220309 : Int64).toInt = 220309 := by decide
  have j240023 : (240023 : Int64).toInt = 240023 := by decide
  have j279252 : (279252 : Int64).toInt = 279252 := by decide
  have j286880 : (286880 : Int64).toInt = 286880 := by decide
  have j385682 : (385682 : Int64).toInt = 385682 := by decide
  have j6476969 : (6476969 : Int64).toInt = 6476969 := by decide
  have j10421318 : (10421318 : Int64).toInt = 10421318 := by decide
  have j60447477 : (60447477 : Int64).toInt = 60447477 := by decide
  have j70704498 : (70704498 : Int64).toInt = 70704498 := by decide
  have j177249105 : (177249105 : Int64).toInt = 177249105 := by decide
  have j309910109 : (309910109 : Int64).toInt = 309910109 := by decide
  have j6459750749 : (6459750749 : Int64).toInt = 6459750749 := by decide
  generalize hQ9 : tQ _ _ _ _ _ _ = Q9
  have hTX := h0
  obtain ⟨rT, erT⟩ : ∃ z, kR κ this 12 = z := ⟨_, rfl⟩
  have trT : zk σ0 rT 23 := by rw [← erT]; exact hT0.ref t_this (by decide) (by decide) (by decide)
  have hpc : ∀ j, tc j = (zI σ0 rT j).toInt := by rw [← erT]; exact hTX.1
  have hLn : (zI σ0 this 13).toInt = Ln := hTX.2.1
  have hL7 : Ln ≤ 700 := hTX.2.2.1
  have hnn := hTX.2.2.2
  obtain ⟨v1, ev1⟩ : ∃ zz9 : Int32, zI σ0 this 17 = zz9 := ⟨_, rfl⟩
  have qv1 : v1.toInt = (zI σ0 this 17).toInt := by rw [ev1]
  have b2 : isB v1 := by have q9 : isB (zI σ0 this 17) := hT.P (hT.k t_this (by decide)) (by decide); rw [ev1] at q9; exact q9
  have b2t := isB_t b2
  obtain ⟨v3, ev3⟩ : ∃ zz9 : Int32, zI σ0 this 14 = zz9 := ⟨_, rfl⟩
  have qv3 : v3.toInt = (zI σ0 this 14).toInt := by rw [ev3]
  obtain ⟨v4, ev4⟩ : ∃ zz9 : Int32, zI σ0 this 23 = zz9 := ⟨_, rfl⟩
  have qv4 : v4.toInt = (zI σ0 this 23).toInt := by rw [ev4]
  obtain ⟨v5, ev5⟩ : ∃ zz9 : Int32, zI σ0 this 15 = zz9 := ⟨_, rfl⟩
  have qv5 : v5.toInt = (zI σ0 this 15).toInt := by rw [ev5]
  have zthis15 : zI σ0 this 15 = v5 := ev5
  obtain ⟨v6, ev6⟩ : ∃ zz9 : Int32, zI σ0 this 16 = zz9 := ⟨_, rfl⟩
  have qv6 : v6.toInt = (zI σ0 this 16).toInt := by rw [ev6]
  have zthis16 : zI σ0 this 16 = v6 := ev6
  obtain ⟨ss, hss⟩ : ∃ z, (uscn uisBl tc Ln aa) = z := ⟨_, rfl⟩
  have hsL : aa ≤ Ln → ss ≤ Ln := fun q9 => by rw [← hss]; exact uscn_le q9
  have hs2 : uscn uisBl tc Ln ss = ss := by rw [← hss]; exact uscn_id
  have hsl9 := hsL h3
  obtain ⟨v7, ev7⟩ : ∃ zz9 : Int32, zI σ0 this 20 = zz9 := ⟨_, rfl⟩
  have qv7 : v7.toInt = (zI σ0 this 20).toInt := by rw [ev7]
  obtain ⟨v8, ev8⟩ : ∃ zz9 : Int32, zI σ0 this 21 = zz9 := ⟨_, rfl⟩
  have qv8 : v8.toInt = (zI σ0 this 21).toInt := by rw [ev8]
  obtain ⟨v9, ev9⟩ : ∃ zz9 : Int32, zI σ0 this 22 = zz9 := ⟨_, rfl⟩
  have qv9 : v9.toInt = (zI σ0 this 22).toInt := by rw [ev9]
  obtain ⟨v10, ev10⟩ : ∃ zz9 : Int32, zI σ0 this 19 = zz9 := ⟨_, rfl⟩
  have qv10 : v10.toInt = (zI σ0 this 19).toInt := by rw [ev10]
  have gm11 : v7.toInt = gg 0 ∧ v8.toInt = gg 1 ∧ v9.toInt = gg 2 ∧ v10.toInt = gg 3 := by have z9 := h6; unfold GSm at z9; rw [(show zI σ0 this 20 = v7 from ev7), (show zI σ0 this 21 = v8 from ev8), (show zI σ0 this 22 = v9 from ev9), (show zI σ0 this 19 = v10 from ev10)] at z9; exact z9
  refine lv_aload_n hx hb dX6_setting_0 rfl (lv_at hl 0 rfl) ?_
  refine lv_ldc2 hx hb hown (hg _ k1336) dX6_setting_1 ?_
  have cz12 : zI σ0 this 15 = v5 := ev5
  have cz13 : zI σ0 this 16 = v6 := ev6
  have cz14 : zI σ0 this 17 = v1 := ev1
  have hTo := hT
  refine tVi (n := 1) (As := [.long 10421318]) (rest := []) hx hb hml hown hg hT hK hX (X6s_isWord l κ σ0 this 10421318  (hT.k t_this (by decide)) hTX (show (zI σ0 this 17).toInt = 0 → (zI σ0 this 14).toInt = ((aa : Nat) : Int) ∧ aa ≤ Ln from fun q9 => ⟨by rw [(show zI σ0 this 14 = v3 from ev3)]; omega, by omega⟩) (show encP 10421318 0 from ⟨by decide, by decide +kernel⟩)) sub_gH_gS1 (mwV k1337 k1339 k40 k92 k1340) ⟨rfl, by decide, by decide, by decide +kernel⟩ ⟨(Nat.le_of_ble_eq_true rfl), (Nat.le_of_ble_eq_true rfl)⟩ (hT.o20 (hT.k t_this (by decide))) rfl rfl hl.1 rfl (Nat.le_of_ble_eq_true rfl) dX6_setting_4 zroom.rf (fun x15 s16 H locs hφ hEs16 hT => ?_)
  have ev1 : zI s16 this 17 = v1 := ((hTo.k t_this (by decide)).eI hEs16 (by decide) rfl).trans ev1
  have ev4 : zI s16 this 23 = v4 := ((hTo.k t_this (by decide)).eI hEs16 (by decide) rfl).trans ev4
  have ev5 : zI s16 this 15 = v5 := ((hTo.k t_this (by decide)).eI hEs16 (by decide) rfl).trans ev5
  have ev6 : zI s16 this 16 = v6 := ((hTo.k t_this (by decide)).eI hEs16 (by decide) rfl).trans ev6
  have ev7 : zI s16 this 20 = v7 := ((hTo.k t_this (by decide)).eI hEs16 (by decide) rfl).trans ev7
  have ev8 : zI s16 this 21 = v8 := ((hTo.k t_this (by decide)).eI hEs16 (by decide) rfl).trans ev8
  have ev9 : zI s16 this 22 = v9 := ((hTo.k t_this (by decide)).eI hEs16 (by decide) rfl).trans ev9
  have ev10 : zI s16 this 19 = v10 := ((hTo.k t_this (by decide)).eI hEs16 (by decide) rfl).trans ev10
  obtain ⟨f17, f18, f19⟩ := hφ
  obtain ⟨a9, w9⟩ := f18 (show (zI σ0 this 17).toInt = 0 from by rw [cz14]; omega)
  rw [hss] at a9 w9
  obtain ⟨v20, ev20⟩ : ∃ zz9 : Int32, zI s16 this 14 = zz9 := ⟨_, rfl⟩
  have qv20 : v20.toInt = (zI s16 this 14).toInt := by rw [ev20]
  rw [(show zI s16 this 14 = v20 from ev20)] at a9
  rcases w9 with ⟨w01, w02⟩ | ⟨w01, w02⟩
  · skip
    have hE9 := utkE_word (uIsW_K (by decide) w02)
    refine lv_if_eq (tgt := 38) hx hb dX6_setting_7 (by decide) (fun c9 => absurd (gi_eq c9) (by omega)) (fun _ => ?_)
    refine lv_aload_n hx hb dX6_setting_10 rfl (lv_at hl 0 rfl) ?_
    refine lv_iconst (v := 0) hx hb dX6_setting_11 (by decide) ?_
    have cz21 : zI s16 this 15 = v5 := ev5
    have cz22 : zI s16 this 16 = v6 := ev6
    have cz23 : zI s16 this 17 = v1 := ev1
    have hTo := hT
    refine tVi (n := 1) (As := [.int 0]) (rest := []) hx hb hml hown hg hT hK hX (X6s_begins l κ s16 this 0  (hT.k t_this (by decide)) (hTX.tr (funext fun k => by rw [erT]; exact hT.eI trT (by decide) rfl rfl) (hT.eI t_this (by decide) rfl rfl)) (show (zI s16 this 17).toInt = 0 from by rw [(show zI s16 this 17 = v1 from ev1)]; omega) (show (zI s16 this 14).toInt = ((ss : Nat) : Int) from by rw [(show zI s16 this 14 = v20 from ev20)]; omega) hsl9 (show (zI s16 this 23).toInt = (nb : Nat) from by rw [(show zI s16 this 23 = v4 from ev4)]; omega) h5 (show (0 : Int32).toInt = ((0 : Nat) : Int) from n0) (by decide)) sub_gBe_gS1 (mwV k1357 k1359 k44 k92 k1360) ⟨rfl, by decide, by decide, by decide +kernel⟩ ⟨(Nat.le_of_ble_eq_true rfl), (Nat.le_of_ble_eq_true rfl)⟩ (hT.o20 (hT.k t_this (by decide))) rfl rfl hl.1 rfl (Nat.le_of_ble_eq_true rfl) dX6_setting_12 zroom.rf (fun x24 s25 H locs hφ hEs25 hT => ?_)
    have ev7 : zI s25 this 20 = v7 := ((hTo.k t_this (by decide)).eI hEs25 (by decide) rfl).trans ev7
    have ev8 : zI s25 this 21 = v8 := ((hTo.k t_this (by decide)).eI hEs25 (by decide) rfl).trans ev8
    have ev9 : zI s25 this 22 = v9 := ((hTo.k t_this (by decide)).eI hEs25 (by decide) rfl).trans ev9
    have ev10 : zI s25 this 19 = v10 := ((hTo.k t_this (by decide)).eI hEs25 (by decide) rfl).trans ev10
    obtain ⟨f26, f27⟩ := hφ
    rcases f26 with ⟨hbt, r0, wb91, wb92, wb93, to9⟩ | ⟨hbt, r1, bb9, sm9, to9, at9⟩
    · skip
      obtain ⟨v28, ev28⟩ : ∃ zz9 : Int32, zI s25 this 17 = zz9 := ⟨_, rfl⟩
      have qv28 : v28.toInt = (zI s25 this 17).toInt := by rw [ev28]
      have b29 : isB v28 := by have q9 : isB (zI s25 this 17) := hT.P (hT.k t_this (by decide)) (by decide); rw [ev28] at q9; exact q9
      have b29t := isB_t b29
      rw [(show zI s25 this 17 = v28 from ev28)] at wb91
      obtain ⟨v30, ev30⟩ : ∃ zz9 : Int32, zI s25 this 15 = zz9 := ⟨_, rfl⟩
      have qv30 : v30.toInt = (zI s25 this 15).toInt := by rw [ev30]
      rw [(show zI s25 this 15 = v30 from ev30)] at wb92
      obtain ⟨v31, ev31⟩ : ∃ zz9 : Int32, zI s25 this 16 = zz9 := ⟨_, rfl⟩
      have qv31 : v31.toInt = (zI s25 this 16).toInt := by rw [ev31]
      rw [(show zI s25 this 16 = v31 from ev31)] at wb93
      obtain ⟨v32, ev32⟩ : ∃ zz9 : Int32, zI s25 this 23 = zz9 := ⟨_, rfl⟩
      have qv32 : v32.toInt = (zI s25 this 23).toInt := by rw [ev32]
      rw [(show zI s25 this 23 = v32 from ev32)] at to9
      have hn9 := h5
      refine lv_if_eq (tgt := 150) hx hb dX6_setting_15 (by decide) (fun _ => ?_) (fun c9 => absurd (gi_ne c9) (by omega))
      refine lv_aload_n hx hb dX6_setting_150 rfl (lv_at hl 0 rfl) ?_
      have cz33 : zI s25 this 15 = v30 := ev30
      have cz34 : zI s25 this 16 = v31 := ev31
      have cz35 : zI s25 this 17 = v28 := ev28
      have cz36 : zI s25 this 17 = v28 := ev28
      have hTo := hT
      refine tVv (n := 0) (As := []) (rest := []) hx hb hml hown hg hT hK hX (X6s_ends l κ s25 this  (hT.k t_this (by decide)) (hTX.tr (funext fun k => by rw [erT]; exact hT.eI trT (by decide) rfl rfl) (hT.eI t_this (by decide) rfl rfl)) (show (zI s25 this 17).toInt = 0 → (zI s25 this 14).toInt = ((0 : Nat) : Int) ∧ 0 ≤ Ln from fun q9 => absurd q9 (by rw [(show zI s25 this 17 = v28 from ev28)]; omega))) sub_gHB_gS1 (mwV k1390 k1392 k49 k92 k1393) ⟨rfl, by decide, by decide, by decide +kernel⟩ ⟨(Nat.le_of_ble_eq_true rfl), (Nat.le_of_ble_eq_true rfl)⟩ (hT.o20 (hT.k t_this (by decide))) rfl rfl hl.1 rfl (Nat.le_of_ble_eq_true rfl) dX6_setting_151 zroom.rf (fun s38 H locs hφ hEs38 hT => ?_)
      have ev7 : zI s38 this 20 = v7 := ((hTo.k t_this (by decide)).eI hEs38 (by decide) rfl).trans ev7
      have ev8 : zI s38 this 21 = v8 := ((hTo.k t_this (by decide)).eI hEs38 (by decide) rfl).trans ev8
      have ev9 : zI s38 this 22 = v9 := ((hTo.k t_this (by decide)).eI hEs38 (by decide) rfl).trans ev9
      have ev10 : zI s38 this 19 = v10 := ((hTo.k t_this (by decide)).eI hEs38 (by decide) rfl).trans ev10
      have ev32 : zI s38 this 23 = v32 := ((hTo.k t_this (by decide)).eI hEs38 (by decide) rfl).trans ev32
      obtain ⟨f39, f40⟩ := hφ
      obtain ⟨e41, e42, e43⟩ := f39 (show (zI s25 this 17).toInt = 1 from by rw [cz36]; omega)
      obtain ⟨v44, ev44⟩ : ∃ zz9 : Int32, zI s38 this 17 = zz9 := ⟨_, rfl⟩
      have qv44 : v44.toInt = (zI s38 this 17).toInt := by rw [ev44]
      have b45 : isB v44 := by have q9 : isB (zI s38 this 17) := hT.P (hT.k t_this (by decide)) (by decide); rw [ev44] at q9; exact q9
      have b45t := isB_t b45
      rw [(show zI s38 this 17 = v44 from ev44)] at e41
      rw [cz33] at e42
      rw [cz34] at e43
      refine lv_iconst (v := 1) hx hb dX6_setting_154 (by decide) ?_
      subst hQ9
      exact t_z hx hb hr isB1 hlocks hT ⟨Or.inr (Or.inr ⟨n1, by rw [(show zI s38 this 17 = v44 from ev44)]; omega, ⟨_, by rw [(show zI s38 this 23 = v32 from ev32)]; exact to9, hn9⟩, 3, (ss : Nat), ⟨0, by decide, by rw [hss]; exact ⟨by decide, w02⟩, by rw [hss]; exact Or.inl ⟨hbt, rfl, rfl⟩⟩, by decide, by rw [(show zI s38 this 15 = v30 from e42)]; omega, by rw [(show zI s38 this 16 = v31 from e43)]; omega⟩), isB1⟩ dX6_setting_155
    · skip
      obtain ⟨v46, ev46⟩ : ∃ zz9 : Int32, zI s25 this 17 = zz9 := ⟨_, rfl⟩
      have qv46 : v46.toInt = (zI s25 this 17).toInt := by rw [ev46]
      have b47 : isB v46 := by have q9 : isB (zI s25 this 17) := hT.P (hT.k t_this (by decide)) (by decide); rw [ev46] at q9; exact q9
      have b47t := isB_t b47
      rw [(show zI s25 this 17 = v46 from ev46)] at bb9
      obtain ⟨v48, ev48⟩ : ∃ zz9 : Int32, zI s25 this 23 = zz9 := ⟨_, rfl⟩
      have qv48 : v48.toInt = (zI s25 this 23).toInt := by rw [ev48]
      rw [(show zI s25 this 23 = v48 from ev48)] at to9
      obtain ⟨v49, ev49⟩ : ∃ zz9 : Int32, zI s25 this 14 = zz9 := ⟨_, rfl⟩
      have qv49 : v49.toInt = (zI s25 this 14).toInt := by rw [ev49]
      rw [(show zI s25 this 14 = v49 from ev49)] at at9
      obtain ⟨v50, ev50⟩ : ∃ zz9 : Int32, zI s25 this 15 = zz9 := ⟨_, rfl⟩
      have qv50 : v50.toInt = (zI s25 this 15).toInt := by rw [ev50]
      have zthis15 : zI σ0 this 15 = v50 := zthis15.trans (cz21.symm.trans (sm9.1.symm.trans ev50))
      obtain ⟨v51, ev51⟩ : ∃ zz9 : Int32, zI s25 this 16 = zz9 := ⟨_, rfl⟩
      have qv51 : v51.toInt = (zI s25 this 16).toInt := by rw [ev51]
      have zthis16 : zI σ0 this 16 = v51 := zthis16.trans (cz22.symm.trans (sm9.2.symm.trans ev51))
      have hb9 := bits_d nb h5 0 (by decide)
      have hn9 := hb9.2.2.1
      refine lv_if_eq (tgt := 150) hx hb dX6_setting_15 (by decide) (fun c9 => absurd (gi_eq c9) (by omega)) (fun _ => ?_)
      refine lv_aload_n hx hb dX6_setting_18 rfl (lv_at hl 0 rfl) ?_
      refine lv_aload_n hx hb dX6_setting_19 rfl (lv_at hl 0 rfl) ?_
      refine lv_ldc2 hx hb hown (hg _ k1365) dX6_setting_20 ?_
      refine lv_ldc2 hx hb hown (hg _ k1366) dX6_setting_23 ?_
      refine lv_ldc2 hx hb hown (hg _ k1367) dX6_setting_26 ?_
      have cz52 : zI s25 this 15 = v50 := ev50
      have cz53 : zI s25 this 16 = v51 := ev51
      have cz54 : zI s25 this 17 = v46 := ev46
      have hTo := hT
      refine tVi (n := 3) (As := [.long 385682, .long 70704498, .long 60447477]) (rest := [.ref this]) hx hb hml hown hg hT hK hX (X6s_choice l κ s25 this 385682 70704498 60447477  (hT.k t_this (by decide)) (hTX.tr (funext fun k => by rw [erT]; exact hT.eI trT (by decide) rfl rfl) (hT.eI t_this (by decide) rfl rfl)) (show (zI s25 this 17).toInt = 0 from by rw [(show zI s25 this 17 = v46 from ev46)]; omega) (show (zI s25 this 14).toInt = (utkE tc Ln ss : Nat) from by rw [(show zI s25 this 14 = v49 from ev49)]; omega) (utkE_le hsl9) (show encP 385682 4 from ⟨by decide, by decide +kernel⟩) (show encP 70704498 5 from ⟨by decide, by decide +kernel⟩) (show ((60447477 : Int64).toInt = 0 ∧ 6 = 13) ∨ (0 < (60447477 : Int64).toInt ∧ encP 60447477 6) from Or.inr ⟨by decide, (show encP 60447477 6 from ⟨by decide, by decide +kernel⟩)⟩)) sub_gHB_gS1 (mwV k1368 k1370 k46 k92 k1371) ⟨rfl, by decide, by decide, by decide +kernel⟩ ⟨(Nat.le_of_ble_eq_true rfl), (Nat.le_of_ble_eq_true rfl)⟩ (hT.o20 (hT.k t_this (by decide))) rfl rfl hl.1 rfl (Nat.le_of_ble_eq_true rfl) dX6_setting_29 zroom.rf (fun x55 s56 H locs hφ hEs56 hT => ?_)
      have ev7 : zI s56 this 20 = v7 := ((hTo.k t_this (by decide)).eI hEs56 (by decide) rfl).trans ev7
      have ev8 : zI s56 this 21 = v8 := ((hTo.k t_this (by decide)).eI hEs56 (by decide) rfl).trans ev8
      have ev9 : zI s56 this 22 = v9 := ((hTo.k t_this (by decide)).eI hEs56 (by decide) rfl).trans ev9
      have ev10 : zI s56 this 19 = v10 := ((hTo.k t_this (by decide)).eI hEs56 (by decide) rfl).trans ev10
      have ev48 : zI s56 this 23 = v48 := ((hTo.k t_this (by decide)).eI hEs56 (by decide) rfl).trans ev48
      have f57 := hφ
      rw [show uscn uisBl tc Ln (utkE tc Ln ss) = unxt tc Ln ss from rfl] at f57
      rcases f57 with ⟨c1, c2, c3, c4, c5, c6⟩ | ⟨c1, c2, c3, c4, c5, c6⟩ | ⟨c1, c2, c3, c4, c5, c6⟩ | ⟨c1, c2, c3, c4, c5, c6, c7⟩
      · skip
        obtain ⟨v58, ev58⟩ : ∃ zz9 : Int32, zI s56 this 14 = zz9 := ⟨_, rfl⟩
        have qv58 : v58.toInt = (zI s56 this 14).toInt := by rw [ev58]
        rw [(show zI s56 this 14 = v58 from ev58)] at c3
        obtain ⟨v59, ev59⟩ : ∃ zz9 : Int32, zI s56 this 17 = zz9 := ⟨_, rfl⟩
        have qv59 : v59.toInt = (zI s56 this 17).toInt := by rw [ev59]
        have b60 : isB v59 := by have q9 : isB (zI s56 this 17) := hT.P (hT.k t_this (by decide)) (by decide); rw [ev59] at q9; exact q9
        have b60t := isB_t b60
        rw [(show zI s56 this 17 = v59 from ev59)] at c4
        obtain ⟨v61, ev61⟩ : ∃ zz9 : Int32, zI s56 this 15 = zz9 := ⟨_, rfl⟩
        have qv61 : v61.toInt = (zI s56 this 15).toInt := by rw [ev61]
        have zthis15 : zI σ0 this 15 = v61 := zthis15.trans (cz52.symm.trans (c5.symm.trans ev61))
        obtain ⟨v62, ev62⟩ : ∃ zz9 : Int32, zI s56 this 16 = zz9 := ⟨_, rfl⟩
        have qv62 : v62.toInt = (zI s56 this 16).toInt := by rw [ev62]
        have zthis16 : zI σ0 this 16 = v62 := zthis16.trans (cz53.symm.trans (c6.symm.trans ev62))
        have hE8 := utkE_word (uIsW_K c2.1 c2.2)
        have hTo := hT
        refine pf20_20 hx hb hg hown hK hT (hT.k t_this (by decide)) rfl (hg _ k1239) dX6_setting_32 (fun H locs s63 hus63 hT => ?_)
        have ev8 : zI s63 this 21 = v8 := (zput_o hus63 (Or.inr (by decide))).trans ev8
        have ev9 : zI s63 this 22 = v9 := (zput_o hus63 (Or.inr (by decide))).trans ev9
        have ev10 : zI s63 this 19 = v10 := (zput_o hus63 (Or.inr (by decide))).trans ev10
        have ev48 : zI s63 this 23 = v48 := (zput_o hus63 (Or.inr (by decide))).trans ev48
        have ev58 : zI s63 this 14 = v58 := (zput_o hus63 (Or.inr (by decide))).trans ev58
        have ev59 : zI s63 this 17 = v59 := (zput_o hus63 (Or.inr (by decide))).trans ev59
        have ev61 : zI s63 this 15 = v61 := (zput_o hus63 (Or.inr (by decide))).trans ev61
        have ev62 : zI s63 this 16 = v62 := (zput_o hus63 (Or.inr (by decide))).trans ev62
        have e64 : zI s63 this 20 = x55 := zput_at hus63
        refine lv_goto (tgt := 150) hx hb dX6_setting_35 (by decide) ?_
        refine lv_aload_n hx hb dX6_setting_150 rfl (lv_at hl 0 rfl) ?_
        have cz65 : zI s63 this 15 = v61 := ev61
        have cz66 : zI s63 this 16 = v62 := ev62
        have cz67 : zI s63 this 17 = v59 := ev59
        have cz68 : zI s63 this 17 = v59 := ev59
        have hTo := hT
        refine tVv (n := 0) (As := []) (rest := []) hx hb hml hown hg hT hK hX (X6s_ends l κ s63 this  (hT.k t_this (by decide)) (hTX.tr (funext fun k => by rw [erT]; exact hT.eI trT (by decide) rfl rfl) (hT.eI t_this (by decide) rfl rfl)) (show (zI s63 this 17).toInt = 0 → (zI s63 this 14).toInt = (utkE tc Ln (unxt tc Ln ss) : Nat) ∧ utkE tc Ln (unxt tc Ln ss) ≤ Ln from fun q9 => ⟨by rw [(show zI s63 this 14 = v58 from ev58)]; omega, utkE_le (unxt_le hsl9)⟩)) sub_gHB_gS1 (mwV k1390 k1392 k49 k92 k1393) ⟨rfl, by decide, by decide, by decide +kernel⟩ ⟨(Nat.le_of_ble_eq_true rfl), (Nat.le_of_ble_eq_true rfl)⟩ (hT.o20 (hT.k t_this (by decide))) rfl rfl hl.1 rfl (Nat.le_of_ble_eq_true rfl) dX6_setting_151 zroom.rf (fun s70 H locs hφ hEs70 hT => ?_)
        have ev8 : zI s70 this 21 = v8 := ((hTo.k t_this (by decide)).eI hEs70 (by decide) rfl).trans ev8
        have ev9 : zI s70 this 22 = v9 := ((hTo.k t_this (by decide)).eI hEs70 (by decide) rfl).trans ev9
        have ev10 : zI s70 this 19 = v10 := ((hTo.k t_this (by decide)).eI hEs70 (by decide) rfl).trans ev10
        have ev48 : zI s70 this 23 = v48 := ((hTo.k t_this (by decide)).eI hEs70 (by decide) rfl).trans ev48
        have e64 : zI s70 this 20 = x55 := ((hTo.k t_this (by decide)).eI hEs70 (by decide) rfl).trans e64
        obtain ⟨f71, f72⟩ := hφ
        have d9 := f72 (show (zI s63 this 17).toInt = 0 from by rw [cz67]; omega)
        rw [show uscn uisBl tc Ln (utkE tc Ln (unxt tc Ln ss)) = unxt tc Ln (unxt tc Ln ss) from rfl] at d9
        rcases d9 with ⟨d1, d2, d3, d4, d5⟩ | ⟨d1, d2, d3, d4⟩
        · skip
          obtain ⟨v73, ev73⟩ : ∃ zz9 : Int32, zI s70 this 17 = zz9 := ⟨_, rfl⟩
          have qv73 : v73.toInt = (zI s70 this 17).toInt := by rw [ev73]
          have b74 : isB v73 := by have q9 : isB (zI s70 this 17) := hT.P (hT.k t_this (by decide)) (by decide); rw [ev73] at q9; exact q9
          have b74t := isB_t b74
          rw [(show zI s70 this 17 = v73 from ev73)] at d2
          obtain ⟨v75, ev75⟩ : ∃ zz9 : Int32, zI s70 this 14 = zz9 := ⟨_, rfl⟩
          have qv75 : v75.toInt = (zI s70 this 14).toInt := by rw [ev75]
          rw [(show zI s70 this 14 = v75 from ev75)] at d5
          obtain ⟨v76, ev76⟩ : ∃ zz9 : Int32, zI s70 this 15 = zz9 := ⟨_, rfl⟩
          have qv76 : v76.toInt = (zI s70 this 15).toInt := by rw [ev76]
          have zthis15 : zI σ0 this 15 = v76 := zthis15.trans (cz65.symm.trans (d3.symm.trans ev76))
          obtain ⟨v77, ev77⟩ : ∃ zz9 : Int32, zI s70 this 16 = zz9 := ⟨_, rfl⟩
          have qv77 : v77.toInt = (zI s70 this 16).toInt := by rw [ev77]
          have zthis16 : zI σ0 this 16 = v77 := zthis16.trans (cz66.symm.trans (d4.symm.trans ev77))
          refine lv_iconst (v := 1) hx hb dX6_setting_154 (by decide) ?_
          subst hQ9
          exact t_z hx hb hr isB1 hlocks hT ⟨Or.inr (Or.inl ⟨n1, by rw [(show zI s70 this 17 = v73 from ev73)]; omega, ⟨unxt tc Ln (unxt tc Ln (unxt tc Ln ss)), nb ||| 2 ^ 0, utkE tc Ln (unxt tc Ln (unxt tc Ln ss)), (fun j => if j = 0 then 0 else gg j), ⟨0, 0, by decide, by rw [hss]; exact ⟨by decide, w02⟩, hbt, by rw [hss]; exact (show uvIs (utkK tc Ln) (uvl tc Ln) (uWd tc Ln) 0 (unxt tc Ln ss) 0 from Or.inl ⟨rfl, 4, by decide, by decide, c2, by decide⟩), by rw [hss]; exact d1, by rw [hss], rfl, rfl⟩, hb9.2.2.1, hb9.2.2.2.1 hbt, by rw [(show zI s70 this 14 = v75 from ev75)]; omega, utkE_le (unxt_le (unxt_le hsl9)), rfl, by rw [(show zI s70 this 23 = v48 from ev48)]; omega, (show GSm s70 this (fun j => if j = 0 then 0 else gg j) from ⟨by rw [(show zI s70 this 20 = x55 from e64)]; exact (show _ = (0 : Int) from by omega), by rw [(show zI s70 this 21 = v8 from ev8)]; exact gm11.2.1, by rw [(show zI s70 this 22 = v9 from ev9)]; exact gm11.2.2.1, by rw [(show zI s70 this 19 = v10 from ev10)]; exact gm11.2.2.2⟩)⟩, ((show zI s70 this 15 = v76 from ev76).trans zthis15.symm), ((show zI s70 this 16 = v77 from ev77).trans zthis16.symm)⟩), isB1⟩ dX6_setting_155
        · skip
          obtain ⟨v78, ev78⟩ : ∃ zz9 : Int32, zI s70 this 17 = zz9 := ⟨_, rfl⟩
          have qv78 : v78.toInt = (zI s70 this 17).toInt := by rw [ev78]
          have b79 : isB v78 := by have q9 : isB (zI s70 this 17) := hT.P (hT.k t_this (by decide)) (by decide); rw [ev78] at q9; exact q9
          have b79t := isB_t b79
          rw [(show zI s70 this 17 = v78 from ev78)] at d2
          obtain ⟨v80, ev80⟩ : ∃ zz9 : Int32, zI s70 this 15 = zz9 := ⟨_, rfl⟩
          have qv80 : v80.toInt = (zI s70 this 15).toInt := by rw [ev80]
          rw [(show zI s70 this 15 = v80 from ev80)] at d3
          obtain ⟨v81, ev81⟩ : ∃ zz9 : Int32, zI s70 this 16 = zz9 := ⟨_, rfl⟩
          have qv81 : v81.toInt = (zI s70 this 16).toInt := by rw [ev81]
          rw [(show zI s70 this 16 = v81 from ev81)] at d4
          refine lv_iconst (v := 1) hx hb dX6_setting_154 (by decide) ?_
          subst hQ9
          exact t_z hx hb hr isB1 hlocks hT ⟨Or.inr (Or.inr ⟨n1, by rw [(show zI s70 this 17 = v78 from ev78)]; omega, ⟨_, by rw [(show zI s70 this 23 = v48 from ev48)]; exact to9, hn9⟩, 1, ((unxt tc Ln (unxt tc Ln ss)) : Nat), ⟨0, by decide, by rw [hss]; exact ⟨by decide, w02⟩, by rw [hss]; exact Or.inr (Or.inr ⟨hbt, ⟨_, (show uvIs (utkK tc Ln) (uvl tc Ln) (uWd tc Ln) 0 (unxt tc Ln ss) 0 from Or.inl ⟨rfl, 4, by decide, by decide, c2, by decide⟩)⟩, d1, rfl, rfl⟩)⟩, by decide, by rw [(show zI s70 this 15 = v80 from ev80)]; omega, by rw [(show zI s70 this 16 = v81 from ev81)]; omega⟩), isB1⟩ dX6_setting_155
      · skip
        obtain ⟨v82, ev82⟩ : ∃ zz9 : Int32, zI s56 this 14 = zz9 := ⟨_, rfl⟩
        have qv82 : v82.toInt = (zI s56 this 14).toInt := by rw [ev82]
        rw [(show zI s56 this 14 = v82 from ev82)] at c3
        obtain ⟨v83, ev83⟩ : ∃ zz9 : Int32, zI s56 this 17 = zz9 := ⟨_, rfl⟩
        have qv83 : v83.toInt = (zI s56 this 17).toInt := by rw [ev83]
        have b84 : isB v83 := by have q9 : isB (zI s56 this 17) := hT.P (hT.k t_this (by decide)) (by decide); rw [ev83] at q9; exact q9
        have b84t := isB_t b84
        rw [(show zI s56 this 17 = v83 from ev83)] at c4
        obtain ⟨v85, ev85⟩ : ∃ zz9 : Int32, zI s56 this 15 = zz9 := ⟨_, rfl⟩
        have qv85 : v85.toInt = (zI s56 this 15).toInt := by rw [ev85]
        have zthis15 : zI σ0 this 15 = v85 := zthis15.trans (cz52.symm.trans (c5.symm.trans ev85))
        obtain ⟨v86, ev86⟩ : ∃ zz9 : Int32, zI s56 this 16 = zz9 := ⟨_, rfl⟩
        have qv86 : v86.toInt = (zI s56 this 16).toInt := by rw [ev86]
        have zthis16 : zI σ0 this 16 = v86 := zthis16.trans (cz53.symm.trans (c6.symm.trans ev86))
        have hE8 := utkE_word (uIsW_K c2.1 c2.2)
        have hTo := hT
        refine pf20_20 hx hb hg hown hK hT (hT.k t_this (by decide)) rfl (hg _ k1239) dX6_setting_32 (fun H locs s87 hus87 hT => ?_)
        have ev8 : zI s87 this 21 = v8 := (zput_o hus87 (Or.inr (by decide))).trans ev8
        have ev9 : zI s87 this 22 = v9 := (zput_o hus87 (Or.inr (by decide))).trans ev9
        have ev10 : zI s87 this 19 = v10 := (zput_o hus87 (Or.inr (by decide))).trans ev10
        have ev48 : zI s87 this 23 = v48 := (zput_o hus87 (Or.inr (by decide))).trans ev48
        have ev82 : zI s87 this 14 = v82 := (zput_o hus87 (Or.inr (by decide))).trans ev82
        have ev83 : zI s87 this 17 = v83 := (zput_o hus87 (Or.inr (by decide))).trans ev83
        have ev85 : zI s87 this 15 = v85 := (zput_o hus87 (Or.inr (by decide))).trans ev85
        have ev86 : zI s87 this 16 = v86 := (zput_o hus87 (Or.inr (by decide))).trans ev86
        have e88 : zI s87 this 20 = x55 := zput_at hus87
        refine lv_goto (tgt := 150) hx hb dX6_setting_35 (by decide) ?_
        refine lv_aload_n hx hb dX6_setting_150 rfl (lv_at hl 0 rfl) ?_
        have cz89 : zI s87 this 15 = v85 := ev85
        have cz90 : zI s87 this 16 = v86 := ev86
        have cz91 : zI s87 this 17 = v83 := ev83
        have cz92 : zI s87 this 17 = v83 := ev83
        have hTo := hT
        refine tVv (n := 0) (As := []) (rest := []) hx hb hml hown hg hT hK hX (X6s_ends l κ s87 this  (hT.k t_this (by decide)) (hTX.tr (funext fun k => by rw [erT]; exact hT.eI trT (by decide) rfl rfl) (hT.eI t_this (by decide) rfl rfl)) (show (zI s87 this 17).toInt = 0 → (zI s87 this 14).toInt = (utkE tc Ln (unxt tc Ln ss) : Nat) ∧ utkE tc Ln (unxt tc Ln ss) ≤ Ln from fun q9 => ⟨by rw [(show zI s87 this 14 = v82 from ev82)]; omega, utkE_le (unxt_le hsl9)⟩)) sub_gHB_gS1 (mwV k1390 k1392 k49 k92 k1393) ⟨rfl, by decide, by decide, by decide +kernel⟩ ⟨(Nat.le_of_ble_eq_true rfl), (Nat.le_of_ble_eq_true rfl)⟩ (hT.o20 (hT.k t_this (by decide))) rfl rfl hl.1 rfl (Nat.le_of_ble_eq_true rfl) dX6_setting_151 zroom.rf (fun s94 H locs hφ hEs94 hT => ?_)
        have ev8 : zI s94 this 21 = v8 := ((hTo.k t_this (by decide)).eI hEs94 (by decide) rfl).trans ev8
        have ev9 : zI s94 this 22 = v9 := ((hTo.k t_this (by decide)).eI hEs94 (by decide) rfl).trans ev9
        have ev10 : zI s94 this 19 = v10 := ((hTo.k t_this (by decide)).eI hEs94 (by decide) rfl).trans ev10
        have ev48 : zI s94 this 23 = v48 := ((hTo.k t_this (by decide)).eI hEs94 (by decide) rfl).trans ev48
        have e88 : zI s94 this 20 = x55 := ((hTo.k t_this (by decide)).eI hEs94 (by decide) rfl).trans e88
        obtain ⟨f95, f96⟩ := hφ
        have d9 := f96 (show (zI s87 this 17).toInt = 0 from by rw [cz91]; omega)
        rw [show uscn uisBl tc Ln (utkE tc Ln (unxt tc Ln ss)) = unxt tc Ln (unxt tc Ln ss) from rfl] at d9
        rcases d9 with ⟨d1, d2, d3, d4, d5⟩ | ⟨d1, d2, d3, d4⟩
        · skip
          obtain ⟨v97, ev97⟩ : ∃ zz9 : Int32, zI s94 this 17 = zz9 := ⟨_, rfl⟩
          have qv97 : v97.toInt = (zI s94 this 17).toInt := by rw [ev97]
          have b98 : isB v97 := by have q9 : isB (zI s94 this 17) := hT.P (hT.k t_this (by decide)) (by decide); rw [ev97] at q9; exact q9
          have b98t := isB_t b98
          rw [(show zI s94 this 17 = v97 from ev97)] at d2
          obtain ⟨v99, ev99⟩ : ∃ zz9 : Int32, zI s94 this 14 = zz9 := ⟨_, rfl⟩
          have qv99 : v99.toInt = (zI s94 this 14).toInt := by rw [ev99]
          rw [(show zI s94 this 14 = v99 from ev99)] at d5
          obtain ⟨v100, ev100⟩ : ∃ zz9 : Int32, zI s94 this 15 = zz9 := ⟨_, rfl⟩
          have qv100 : v100.toInt = (zI s94 this 15).toInt := by rw [ev100]
          have zthis15 : zI σ0 this 15 = v100 := zthis15.trans (cz89.symm.trans (d3.symm.trans ev100))
          obtain ⟨v101, ev101⟩ : ∃ zz9 : Int32, zI s94 this 16 = zz9 := ⟨_, rfl⟩
          have qv101 : v101.toInt = (zI s94 this 16).toInt := by rw [ev101]
          have zthis16 : zI σ0 this 16 = v101 := zthis16.trans (cz90.symm.trans (d4.symm.trans ev101))
          refine lv_iconst (v := 1) hx hb dX6_setting_154 (by decide) ?_
          subst hQ9
          exact t_z hx hb hr isB1 hlocks hT ⟨Or.inr (Or.inl ⟨n1, by rw [(show zI s94 this 17 = v97 from ev97)]; omega, ⟨unxt tc Ln (unxt tc Ln (unxt tc Ln ss)), nb ||| 2 ^ 0, utkE tc Ln (unxt tc Ln (unxt tc Ln ss)), (fun j => if j = 0 then 1 else gg j), ⟨0, 1, by decide, by rw [hss]; exact ⟨by decide, w02⟩, hbt, by rw [hss]; exact (show uvIs (utkK tc Ln) (uvl tc Ln) (uWd tc Ln) 0 (unxt tc Ln ss) 1 from Or.inl ⟨rfl, 5, by decide, by decide, c2, by decide⟩), by rw [hss]; exact d1, by rw [hss], rfl, rfl⟩, hb9.2.2.1, hb9.2.2.2.1 hbt, by rw [(show zI s94 this 14 = v99 from ev99)]; omega, utkE_le (unxt_le (unxt_le hsl9)), rfl, by rw [(show zI s94 this 23 = v48 from ev48)]; omega, (show GSm s94 this (fun j => if j = 0 then 1 else gg j) from ⟨by rw [(show zI s94 this 20 = x55 from e88)]; exact (show _ = (1 : Int) from by omega), by rw [(show zI s94 this 21 = v8 from ev8)]; exact gm11.2.1, by rw [(show zI s94 this 22 = v9 from ev9)]; exact gm11.2.2.1, by rw [(show zI s94 this 19 = v10 from ev10)]; exact gm11.2.2.2⟩)⟩, ((show zI s94 this 15 = v100 from ev100).trans zthis15.symm), ((show zI s94 this 16 = v101 from ev101).trans zthis16.symm)⟩), isB1⟩ dX6_setting_155
        · skip
          obtain ⟨v102, ev102⟩ : ∃ zz9 : Int32, zI s94 this 17 = zz9 := ⟨_, rfl⟩
          have qv102 : v102.toInt = (zI s94 this 17).toInt := by rw [ev102]
          have b103 : isB v102 := by have q9 : isB (zI s94 this 17) := hT.P (hT.k t_this (by decide)) (by decide); rw [ev102] at q9; exact q9
          have b103t := isB_t b103
          rw [(show zI s94 this 17 = v102 from ev102)] at d2
          obtain ⟨v104, ev104⟩ : ∃ zz9 : Int32, zI s94 this 15 = zz9 := ⟨_, rfl⟩
          have qv104 : v104.toInt = (zI s94 this 15).toInt := by rw [ev104]
          rw [(show zI s94 this 15 = v104 from ev104)] at d3
          obtain ⟨v105, ev105⟩ : ∃ zz9 : Int32, zI s94 this 16 = zz9 := ⟨_, rfl⟩
          have qv105 : v105.toInt = (zI s94 this 16).toInt := by rw [ev105]
          rw [(show zI s94 this 16 = v105 from ev105)] at d4
          refine lv_iconst (v := 1) hx hb dX6_setting_154 (by decide) ?_
          subst hQ9
          exact t_z hx hb hr isB1 hlocks hT ⟨Or.inr (Or.inr ⟨n1, by rw [(show zI s94 this 17 = v102 from ev102)]; omega, ⟨_, by rw [(show zI s94 this 23 = v48 from ev48)]; exact to9, hn9⟩, 1, ((unxt tc Ln (unxt tc Ln ss)) : Nat), ⟨0, by decide, by rw [hss]; exact ⟨by decide, w02⟩, by rw [hss]; exact Or.inr (Or.inr ⟨hbt, ⟨_, (show uvIs (utkK tc Ln) (uvl tc Ln) (uWd tc Ln) 0 (unxt tc Ln ss) 1 from Or.inl ⟨rfl, 5, by decide, by decide, c2, by decide⟩)⟩, d1, rfl, rfl⟩)⟩, by decide, by rw [(show zI s94 this 15 = v104 from ev104)]; omega, by rw [(show zI s94 this 16 = v105 from ev105)]; omega⟩), isB1⟩ dX6_setting_155
      · skip
        obtain ⟨v106, ev106⟩ : ∃ zz9 : Int32, zI s56 this 14 = zz9 := ⟨_, rfl⟩
        have qv106 : v106.toInt = (zI s56 this 14).toInt := by rw [ev106]
        rw [(show zI s56 this 14 = v106 from ev106)] at c3
        obtain ⟨v107, ev107⟩ : ∃ zz9 : Int32, zI s56 this 17 = zz9 := ⟨_, rfl⟩
        have qv107 : v107.toInt = (zI s56 this 17).toInt := by rw [ev107]
        have b108 : isB v107 := by have q9 : isB (zI s56 this 17) := hT.P (hT.k t_this (by decide)) (by decide); rw [ev107] at q9; exact q9
        have b108t := isB_t b108
        rw [(show zI s56 this 17 = v107 from ev107)] at c4
        obtain ⟨v109, ev109⟩ : ∃ zz9 : Int32, zI s56 this 15 = zz9 := ⟨_, rfl⟩
        have qv109 : v109.toInt = (zI s56 this 15).toInt := by rw [ev109]
        have zthis15 : zI σ0 this 15 = v109 := zthis15.trans (cz52.symm.trans (c5.symm.trans ev109))
        obtain ⟨v110, ev110⟩ : ∃ zz9 : Int32, zI s56 this 16 = zz9 := ⟨_, rfl⟩
        have qv110 : v110.toInt = (zI s56 this 16).toInt := by rw [ev110]
        have zthis16 : zI σ0 this 16 = v110 := zthis16.trans (cz53.symm.trans (c6.symm.trans ev110))
        have hE8 := utkE_word (uIsW_K c2.1 c2.2)
        have hTo := hT
        refine pf20_20 hx hb hg hown hK hT (hT.k t_this (by decide)) rfl (hg _ k1239) dX6_setting_32 (fun H locs s111 hus111 hT => ?_)
        have ev8 : zI s111 this 21 = v8 := (zput_o hus111 (Or.inr (by decide))).trans ev8
        have ev9 : zI s111 this 22 = v9 := (zput_o hus111 (Or.inr (by decide))).trans ev9
        have ev10 : zI s111 this 19 = v10 := (zput_o hus111 (Or.inr (by decide))).trans ev10
        have ev48 : zI s111 this 23 = v48 := (zput_o hus111 (Or.inr (by decide))).trans ev48
        have ev106 : zI s111 this 14 = v106 := (zput_o hus111 (Or.inr (by decide))).trans ev106
        have ev107 : zI s111 this 17 = v107 := (zput_o hus111 (Or.inr (by decide))).trans ev107
        have ev109 : zI s111 this 15 = v109 := (zput_o hus111 (Or.inr (by decide))).trans ev109
        have ev110 : zI s111 this 16 = v110 := (zput_o hus111 (Or.inr (by decide))).trans ev110
        have e112 : zI s111 this 20 = x55 := zput_at hus111
        refine lv_goto (tgt := 150) hx hb dX6_setting_35 (by decide) ?_
        refine lv_aload_n hx hb dX6_setting_150 rfl (lv_at hl 0 rfl) ?_
        have cz113 : zI s111 this 15 = v109 := ev109
        have cz114 : zI s111 this 16 = v110 := ev110
        have cz115 : zI s111 this 17 = v107 := ev107
        have cz116 : zI s111 this 17 = v107 := ev107
        have hTo := hT
        refine tVv (n := 0) (As := []) (rest := []) hx hb hml hown hg hT hK hX (X6s_ends l κ s111 this  (hT.k t_this (by decide)) (hTX.tr (funext fun k => by rw [erT]; exact hT.eI trT (by decide) rfl rfl) (hT.eI t_this (by decide) rfl rfl)) (show (zI s111 this 17).toInt = 0 → (zI s111 this 14).toInt = (utkE tc Ln (unxt tc Ln ss) : Nat) ∧ utkE tc Ln (unxt tc Ln ss) ≤ Ln from fun q9 => ⟨by rw [(show zI s111 this 14 = v106 from ev106)]; omega, utkE_le (unxt_le hsl9)⟩)) sub_gHB_gS1 (mwV k1390 k1392 k49 k92 k1393) ⟨rfl, by decide, by decide, by decide +kernel⟩ ⟨(Nat.le_of_ble_eq_true rfl), (Nat.le_of_ble_eq_true rfl)⟩ (hT.o20 (hT.k t_this (by decide))) rfl rfl hl.1 rfl (Nat.le_of_ble_eq_true rfl) dX6_setting_151 zroom.rf (fun s118 H locs hφ hEs118 hT => ?_)
        have ev8 : zI s118 this 21 = v8 := ((hTo.k t_this (by decide)).eI hEs118 (by decide) rfl).trans ev8
        have ev9 : zI s118 this 22 = v9 := ((hTo.k t_this (by decide)).eI hEs118 (by decide) rfl).trans ev9
        have ev10 : zI s118 this 19 = v10 := ((hTo.k t_this (by decide)).eI hEs118 (by decide) rfl).trans ev10
        have ev48 : zI s118 this 23 = v48 := ((hTo.k t_this (by decide)).eI hEs118 (by decide) rfl).trans ev48
        have e112 : zI s118 this 20 = x55 := ((hTo.k t_this (by decide)).eI hEs118 (by decide) rfl).trans e112
        obtain ⟨f119, f120⟩ := hφ
        have d9 := f120 (show (zI s111 this 17).toInt = 0 from by rw [cz115]; omega)
        rw [show uscn uisBl tc Ln (utkE tc Ln (unxt tc Ln ss)) = unxt tc Ln (unxt tc Ln ss) from rfl] at d9
        rcases d9 with ⟨d1, d2, d3, d4, d5⟩ | ⟨d1, d2, d3, d4⟩
        · skip
          obtain ⟨v121, ev121⟩ : ∃ zz9 : Int32, zI s118 this 17 = zz9 := ⟨_, rfl⟩
          have qv121 : v121.toInt = (zI s118 this 17).toInt := by rw [ev121]
          have b122 : isB v121 := by have q9 : isB (zI s118 this 17) := hT.P (hT.k t_this (by decide)) (by decide); rw [ev121] at q9; exact q9
          have b122t := isB_t b122
          rw [(show zI s118 this 17 = v121 from ev121)] at d2
          obtain ⟨v123, ev123⟩ : ∃ zz9 : Int32, zI s118 this 14 = zz9 := ⟨_, rfl⟩
          have qv123 : v123.toInt = (zI s118 this 14).toInt := by rw [ev123]
          rw [(show zI s118 this 14 = v123 from ev123)] at d5
          obtain ⟨v124, ev124⟩ : ∃ zz9 : Int32, zI s118 this 15 = zz9 := ⟨_, rfl⟩
          have qv124 : v124.toInt = (zI s118 this 15).toInt := by rw [ev124]
          have zthis15 : zI σ0 this 15 = v124 := zthis15.trans (cz113.symm.trans (d3.symm.trans ev124))
          obtain ⟨v125, ev125⟩ : ∃ zz9 : Int32, zI s118 this 16 = zz9 := ⟨_, rfl⟩
          have qv125 : v125.toInt = (zI s118 this 16).toInt := by rw [ev125]
          have zthis16 : zI σ0 this 16 = v125 := zthis16.trans (cz114.symm.trans (d4.symm.trans ev125))
          refine lv_iconst (v := 1) hx hb dX6_setting_154 (by decide) ?_
          subst hQ9
          exact t_z hx hb hr isB1 hlocks hT ⟨Or.inr (Or.inl ⟨n1, by rw [(show zI s118 this 17 = v121 from ev121)]; omega, ⟨unxt tc Ln (unxt tc Ln (unxt tc Ln ss)), nb ||| 2 ^ 0, utkE tc Ln (unxt tc Ln (unxt tc Ln ss)), (fun j => if j = 0 then 2 else gg j), ⟨0, 2, by decide, by rw [hss]; exact ⟨by decide, w02⟩, hbt, by rw [hss]; exact (show uvIs (utkK tc Ln) (uvl tc Ln) (uWd tc Ln) 0 (unxt tc Ln ss) 2 from Or.inl ⟨rfl, 6, by decide, by decide, c2, by decide⟩), by rw [hss]; exact d1, by rw [hss], rfl, rfl⟩, hb9.2.2.1, hb9.2.2.2.1 hbt, by rw [(show zI s118 this 14 = v123 from ev123)]; omega, utkE_le (unxt_le (unxt_le hsl9)), rfl, by rw [(show zI s118 this 23 = v48 from ev48)]; omega, (show GSm s118 this (fun j => if j = 0 then 2 else gg j) from ⟨by rw [(show zI s118 this 20 = x55 from e112)]; exact (show _ = (2 : Int) from by omega), by rw [(show zI s118 this 21 = v8 from ev8)]; exact gm11.2.1, by rw [(show zI s118 this 22 = v9 from ev9)]; exact gm11.2.2.1, by rw [(show zI s118 this 19 = v10 from ev10)]; exact gm11.2.2.2⟩)⟩, ((show zI s118 this 15 = v124 from ev124).trans zthis15.symm), ((show zI s118 this 16 = v125 from ev125).trans zthis16.symm)⟩), isB1⟩ dX6_setting_155
        · skip
          obtain ⟨v126, ev126⟩ : ∃ zz9 : Int32, zI s118 this 17 = zz9 := ⟨_, rfl⟩
          have qv126 : v126.toInt = (zI s118 this 17).toInt := by rw [ev126]
          have b127 : isB v126 := by have q9 : isB (zI s118 this 17) := hT.P (hT.k t_this (by decide)) (by decide); rw [ev126] at q9; exact q9
          have b127t := isB_t b127
          rw [(show zI s118 this 17 = v126 from ev126)] at d2
          obtain ⟨v128, ev128⟩ : ∃ zz9 : Int32, zI s118 this 15 = zz9 := ⟨_, rfl⟩
          have qv128 : v128.toInt = (zI s118 this 15).toInt := by rw [ev128]
          rw [(show zI s118 this 15 = v128 from ev128)] at d3
          obtain ⟨v129, ev129⟩ : ∃ zz9 : Int32, zI s118 this 16 = zz9 := ⟨_, rfl⟩
          have qv129 : v129.toInt = (zI s118 this 16).toInt := by rw [ev129]
          rw [(show zI s118 this 16 = v129 from ev129)] at d4
          refine lv_iconst (v := 1) hx hb dX6_setting_154 (by decide) ?_
          subst hQ9
          exact t_z hx hb hr isB1 hlocks hT ⟨Or.inr (Or.inr ⟨n1, by rw [(show zI s118 this 17 = v126 from ev126)]; omega, ⟨_, by rw [(show zI s118 this 23 = v48 from ev48)]; exact to9, hn9⟩, 1, ((unxt tc Ln (unxt tc Ln ss)) : Nat), ⟨0, by decide, by rw [hss]; exact ⟨by decide, w02⟩, by rw [hss]; exact Or.inr (Or.inr ⟨hbt, ⟨_, (show uvIs (utkK tc Ln) (uvl tc Ln) (uWd tc Ln) 0 (unxt tc Ln ss) 2 from Or.inl ⟨rfl, 6, by decide, by decide, c2, by decide⟩)⟩, d1, rfl, rfl⟩)⟩, by decide, by rw [(show zI s118 this 15 = v128 from ev128)]; omega, by rw [(show zI s118 this 16 = v129 from ev129)]; omega⟩), isB1⟩ dX6_setting_155
      · skip
        obtain ⟨v130, ev130⟩ : ∃ zz9 : Int32, zI s56 this 17 = zz9 := ⟨_, rfl⟩
        have qv130 : v130.toInt = (zI s56 this 17).toInt := by rw [ev130]
        have b131 : isB v130 := by have q9 : isB (zI s56 this 17) := hT.P (hT.k t_this (by decide)) (by decide); rw [ev130] at q9; exact q9
        have b131t := isB_t b131
        rw [(show zI s56 this 17 = v130 from ev130)] at c5
        obtain ⟨v132, ev132⟩ : ∃ zz9 : Int32, zI s56 this 15 = zz9 := ⟨_, rfl⟩
        have qv132 : v132.toInt = (zI s56 this 15).toInt := by rw [ev132]
        rw [(show zI s56 this 15 = v132 from ev132)] at c6
        obtain ⟨v133, ev133⟩ : ∃ zz9 : Int32, zI s56 this 16 = zz9 := ⟨_, rfl⟩
        have qv133 : v133.toInt = (zI s56 this 16).toInt := by rw [ev133]
        rw [(show zI s56 this 16 = v133 from ev133)] at c7
        have hTo := hT
        refine pf20_20 hx hb hg hown hK hT (hT.k t_this (by decide)) rfl (hg _ k1239) dX6_setting_32 (fun H locs s134 hus134 hT => ?_)
        have ev8 : zI s134 this 21 = v8 := (zput_o hus134 (Or.inr (by decide))).trans ev8
        have ev9 : zI s134 this 22 = v9 := (zput_o hus134 (Or.inr (by decide))).trans ev9
        have ev10 : zI s134 this 19 = v10 := (zput_o hus134 (Or.inr (by decide))).trans ev10
        have ev48 : zI s134 this 23 = v48 := (zput_o hus134 (Or.inr (by decide))).trans ev48
        have ev130 : zI s134 this 17 = v130 := (zput_o hus134 (Or.inr (by decide))).trans ev130
        have ev132 : zI s134 this 15 = v132 := (zput_o hus134 (Or.inr (by decide))).trans ev132
        have ev133 : zI s134 this 16 = v133 := (zput_o hus134 (Or.inr (by decide))).trans ev133
        have e135 : zI s134 this 20 = x55 := zput_at hus134
        refine lv_goto (tgt := 150) hx hb dX6_setting_35 (by decide) ?_
        refine lv_aload_n hx hb dX6_setting_150 rfl (lv_at hl 0 rfl) ?_
        have cz136 : zI s134 this 15 = v132 := ev132
        have cz137 : zI s134 this 16 = v133 := ev133
        have cz138 : zI s134 this 17 = v130 := ev130
        have cz139 : zI s134 this 17 = v130 := ev130
        have hTo := hT
        refine tVv (n := 0) (As := []) (rest := []) hx hb hml hown hg hT hK hX (X6s_ends l κ s134 this  (hT.k t_this (by decide)) (hTX.tr (funext fun k => by rw [erT]; exact hT.eI trT (by decide) rfl rfl) (hT.eI t_this (by decide) rfl rfl)) (show (zI s134 this 17).toInt = 0 → (zI s134 this 14).toInt = ((0 : Nat) : Int) ∧ 0 ≤ Ln from fun q9 => absurd q9 (by rw [(show zI s134 this 17 = v130 from ev130)]; omega))) sub_gHB_gS1 (mwV k1390 k1392 k49 k92 k1393) ⟨rfl, by decide, by decide, by decide +kernel⟩ ⟨(Nat.le_of_ble_eq_true rfl), (Nat.le_of_ble_eq_true rfl)⟩ (hT.o20 (hT.k t_this (by decide))) rfl rfl hl.1 rfl (Nat.le_of_ble_eq_true rfl) dX6_setting_151 zroom.rf (fun s141 H locs hφ hEs141 hT => ?_)
        have ev8 : zI s141 this 21 = v8 := ((hTo.k t_this (by decide)).eI hEs141 (by decide) rfl).trans ev8
        have ev9 : zI s141 this 22 = v9 := ((hTo.k t_this (by decide)).eI hEs141 (by decide) rfl).trans ev9
        have ev10 : zI s141 this 19 = v10 := ((hTo.k t_this (by decide)).eI hEs141 (by decide) rfl).trans ev10
        have ev48 : zI s141 this 23 = v48 := ((hTo.k t_this (by decide)).eI hEs141 (by decide) rfl).trans ev48
        have e135 : zI s141 this 20 = x55 := ((hTo.k t_this (by decide)).eI hEs141 (by decide) rfl).trans e135
        obtain ⟨f142, f143⟩ := hφ
        obtain ⟨e144, e145, e146⟩ := f142 (show (zI s134 this 17).toInt = 1 from by rw [cz139]; omega)
        obtain ⟨v147, ev147⟩ : ∃ zz9 : Int32, zI s141 this 17 = zz9 := ⟨_, rfl⟩
        have qv147 : v147.toInt = (zI s141 this 17).toInt := by rw [ev147]
        have b148 : isB v147 := by have q9 : isB (zI s141 this 17) := hT.P (hT.k t_this (by decide)) (by decide); rw [ev147] at q9; exact q9
        have b148t := isB_t b148
        rw [(show zI s141 this 17 = v147 from ev147)] at e144
        rw [cz136] at e145
        rw [cz137] at e146
        refine lv_iconst (v := 1) hx hb dX6_setting_154 (by decide) ?_
        subst hQ9
        exact t_z hx hb hr isB1 hlocks hT ⟨Or.inr (Or.inr ⟨n1, by rw [(show zI s141 this 17 = v147 from ev147)]; omega, ⟨_, by rw [(show zI s141 this 23 = v48 from ev48)]; exact to9, hn9⟩, 1, ((unxt tc Ln ss) : Nat), ⟨0, by decide, by rw [hss]; exact ⟨by decide, w02⟩, by rw [hss]; exact Or.inr (Or.inl ⟨hbt, fun v q9 => by rcases q9 with ⟨q8, q7⟩ | ⟨q8, q7⟩ | ⟨q8, q7⟩ | ⟨q8, q7⟩ <;> first | (exact absurd q8 (by decide)) | (obtain ⟨j, q1, q2, q5, -⟩ := q7; rcases (show j = 4 ∨ j = 5 ∨ j = 6 by omega) with rfl | rfl | rfl <;> first | exact c2 q5 | exact c3 q5 | exact c4 q5), Or.inr ⟨fun q9 => absurd q9.1 (by decide), rfl⟩, rfl⟩)⟩, by decide, by rw [(show zI s141 this 15 = v132 from e145)]; omega, by rw [(show zI s141 this 16 = v133 from e146)]; omega⟩), isB1⟩ dX6_setting_155
  · skip
    refine lv_if_eq (tgt := 38) hx hb dX6_setting_7 (by decide) (fun _ => ?_) (fun c9 => absurd (gi_ne c9) (by omega))
    refine lv_aload_n hx hb dX6_setting_38 rfl (lv_at hl 0 rfl) ?_
    refine lv_ldc2 hx hb hown (hg _ k1376) dX6_setting_39 ?_
    have cz149 : zI s16 this 15 = v5 := ev5
    have cz150 : zI s16 this 16 = v6 := ev6
    have cz151 : zI s16 this 17 = v1 := ev1
    have hTo := hT
    refine tVi (n := 1) (As := [.long 6459750749]) (rest := []) hx hb hml hown hg hT hK hX (X6s_isWord l κ s16 this 6459750749  (hT.k t_this (by decide)) (hTX.tr (funext fun k => by rw [erT]; exact hT.eI trT (by decide) rfl rfl) (hT.eI t_this (by decide) rfl rfl)) (show (zI s16 this 17).toInt = 0 → (zI s16 this 14).toInt = ((ss : Nat) : Int) ∧ ss ≤ Ln from fun q9 => ⟨by rw [(show zI s16 this 14 = v20 from ev20)]; omega, by omega⟩) (show encP 6459750749 1 from ⟨by decide, by decide +kernel⟩)) sub_gH_gS1 (mwV k1337 k1339 k40 k92 k1340) ⟨rfl, by decide, by decide, by decide +kernel⟩ ⟨(Nat.le_of_ble_eq_true rfl), (Nat.le_of_ble_eq_true rfl)⟩ (hT.o20 (hT.k t_this (by decide))) rfl rfl hl.1 rfl (Nat.le_of_ble_eq_true rfl) dX6_setting_42 zroom.rf (fun x152 s153 H locs hφ hEs153 hT => ?_)
    have ev1 : zI s153 this 17 = v1 := ((hTo.k t_this (by decide)).eI hEs153 (by decide) rfl).trans ev1
    have ev4 : zI s153 this 23 = v4 := ((hTo.k t_this (by decide)).eI hEs153 (by decide) rfl).trans ev4
    have ev5 : zI s153 this 15 = v5 := ((hTo.k t_this (by decide)).eI hEs153 (by decide) rfl).trans ev5
    have ev6 : zI s153 this 16 = v6 := ((hTo.k t_this (by decide)).eI hEs153 (by decide) rfl).trans ev6
    have ev7 : zI s153 this 20 = v7 := ((hTo.k t_this (by decide)).eI hEs153 (by decide) rfl).trans ev7
    have ev8 : zI s153 this 21 = v8 := ((hTo.k t_this (by decide)).eI hEs153 (by decide) rfl).trans ev8
    have ev9 : zI s153 this 22 = v9 := ((hTo.k t_this (by decide)).eI hEs153 (by decide) rfl).trans ev9
    have ev10 : zI s153 this 19 = v10 := ((hTo.k t_this (by decide)).eI hEs153 (by decide) rfl).trans ev10
    obtain ⟨f154, f155, f156⟩ := hφ
    obtain ⟨a9, w9⟩ := f155 (show (zI s16 this 17).toInt = 0 from by rw [cz151]; omega)
    rw [hs2] at a9 w9
    obtain ⟨v157, ev157⟩ : ∃ zz9 : Int32, zI s153 this 14 = zz9 := ⟨_, rfl⟩
    have qv157 : v157.toInt = (zI s153 this 14).toInt := by rw [ev157]
    rw [(show zI s153 this 14 = v157 from ev157)] at a9
    rcases w9 with ⟨w11, w12⟩ | ⟨w11, w12⟩
    · skip
      have hE9 := utkE_word (uIsW_K (by decide) w12)
      refine lv_if_eq (tgt := 76) hx hb dX6_setting_45 (by decide) (fun c9 => absurd (gi_eq c9) (by omega)) (fun _ => ?_)
      refine lv_aload_n hx hb dX6_setting_48 rfl (lv_at hl 0 rfl) ?_
      refine lv_iconst (v := 1) hx hb dX6_setting_49 (by decide) ?_
      have cz158 : zI s153 this 15 = v5 := ev5
      have cz159 : zI s153 this 16 = v6 := ev6
      have cz160 : zI s153 this 17 = v1 := ev1
      have hTo := hT
      refine tVi (n := 1) (As := [.int 1]) (rest := []) hx hb hml hown hg hT hK hX (X6s_begins l κ s153 this 1  (hT.k t_this (by decide)) (hTX.tr (funext fun k => by rw [erT]; exact hT.eI trT (by decide) rfl rfl) (hT.eI t_this (by decide) rfl rfl)) (show (zI s153 this 17).toInt = 0 from by rw [(show zI s153 this 17 = v1 from ev1)]; omega) (show (zI s153 this 14).toInt = ((ss : Nat) : Int) from by rw [(show zI s153 this 14 = v157 from ev157)]; omega) hsl9 (show (zI s153 this 23).toInt = (nb : Nat) from by rw [(show zI s153 this 23 = v4 from ev4)]; omega) h5 (show (1 : Int32).toInt = ((1 : Nat) : Int) from n1) (by decide)) sub_gBe_gS1 (mwV k1357 k1359 k44 k92 k1360) ⟨rfl, by decide, by decide, by decide +kernel⟩ ⟨(Nat.le_of_ble_eq_true rfl), (Nat.le_of_ble_eq_true rfl)⟩ (hT.o20 (hT.k t_this (by decide))) rfl rfl hl.1 rfl (Nat.le_of_ble_eq_true rfl) dX6_setting_50 zroom.rf (fun x161 s162 H locs hφ hEs162 hT => ?_)
      have ev7 : zI s162 this 20 = v7 := ((hTo.k t_this (by decide)).eI hEs162 (by decide) rfl).trans ev7
      have ev8 : zI s162 this 21 = v8 := ((hTo.k t_this (by decide)).eI hEs162 (by decide) rfl).trans ev8
      have ev9 : zI s162 this 22 = v9 := ((hTo.k t_this (by decide)).eI hEs162 (by decide) rfl).trans ev9
      have ev10 : zI s162 this 19 = v10 := ((hTo.k t_this (by decide)).eI hEs162 (by decide) rfl).trans ev10
      obtain ⟨f163, f164⟩ := hφ
      rcases f163 with ⟨hbt, r0, wb91, wb92, wb93, to9⟩ | ⟨hbt, r1, bb9, sm9, to9, at9⟩
      · skip
        obtain ⟨v165, ev165⟩ : ∃ zz9 : Int32, zI s162 this 17 = zz9 := ⟨_, rfl⟩
        have qv165 : v165.toInt = (zI s162 this 17).toInt := by rw [ev165]
        have b166 : isB v165 := by have q9 : isB (zI s162 this 17) := hT.P (hT.k t_this (by decide)) (by decide); rw [ev165] at q9; exact q9
        have b166t := isB_t b166
        rw [(show zI s162 this 17 = v165 from ev165)] at wb91
        obtain ⟨v167, ev167⟩ : ∃ zz9 : Int32, zI s162 this 15 = zz9 := ⟨_, rfl⟩
        have qv167 : v167.toInt = (zI s162 this 15).toInt := by rw [ev167]
        rw [(show zI s162 this 15 = v167 from ev167)] at wb92
        obtain ⟨v168, ev168⟩ : ∃ zz9 : Int32, zI s162 this 16 = zz9 := ⟨_, rfl⟩
        have qv168 : v168.toInt = (zI s162 this 16).toInt := by rw [ev168]
        rw [(show zI s162 this 16 = v168 from ev168)] at wb93
        obtain ⟨v169, ev169⟩ : ∃ zz9 : Int32, zI s162 this 23 = zz9 := ⟨_, rfl⟩
        have qv169 : v169.toInt = (zI s162 this 23).toInt := by rw [ev169]
        rw [(show zI s162 this 23 = v169 from ev169)] at to9
        have hn9 := h5
        refine lv_if_eq (tgt := 150) hx hb dX6_setting_53 (by decide) (fun _ => ?_) (fun c9 => absurd (gi_ne c9) (by omega))
        refine lv_aload_n hx hb dX6_setting_150 rfl (lv_at hl 0 rfl) ?_
        have cz170 : zI s162 this 15 = v167 := ev167
        have cz171 : zI s162 this 16 = v168 := ev168
        have cz172 : zI s162 this 17 = v165 := ev165
        have cz173 : zI s162 this 17 = v165 := ev165
        have hTo := hT
        refine tVv (n := 0) (As := []) (rest := []) hx hb hml hown hg hT hK hX (X6s_ends l κ s162 this  (hT.k t_this (by decide)) (hTX.tr (funext fun k => by rw [erT]; exact hT.eI trT (by decide) rfl rfl) (hT.eI t_this (by decide) rfl rfl)) (show (zI s162 this 17).toInt = 0 → (zI s162 this 14).toInt = ((0 : Nat) : Int) ∧ 0 ≤ Ln from fun q9 => absurd q9 (by rw [(show zI s162 this 17 = v165 from ev165)]; omega))) sub_gHB_gS1 (mwV k1390 k1392 k49 k92 k1393) ⟨rfl, by decide, by decide, by decide +kernel⟩ ⟨(Nat.le_of_ble_eq_true rfl), (Nat.le_of_ble_eq_true rfl)⟩ (hT.o20 (hT.k t_this (by decide))) rfl rfl hl.1 rfl (Nat.le_of_ble_eq_true rfl) dX6_setting_151 zroom.rf (fun s175 H locs hφ hEs175 hT => ?_)
        have ev7 : zI s175 this 20 = v7 := ((hTo.k t_this (by decide)).eI hEs175 (by decide) rfl).trans ev7
        have ev8 : zI s175 this 21 = v8 := ((hTo.k t_this (by decide)).eI hEs175 (by decide) rfl).trans ev8
        have ev9 : zI s175 this 22 = v9 := ((hTo.k t_this (by decide)).eI hEs175 (by decide) rfl).trans ev9
        have ev10 : zI s175 this 19 = v10 := ((hTo.k t_this (by decide)).eI hEs175 (by decide) rfl).trans ev10
        have ev169 : zI s175 this 23 = v169 := ((hTo.k t_this (by decide)).eI hEs175 (by decide) rfl).trans ev169
        obtain ⟨f176, f177⟩ := hφ
        obtain ⟨e178, e179, e180⟩ := f176 (show (zI s162 this 17).toInt = 1 from by rw [cz173]; omega)
        obtain ⟨v181, ev181⟩ : ∃ zz9 : Int32, zI s175 this 17 = zz9 := ⟨_, rfl⟩
        have qv181 : v181.toInt = (zI s175 this 17).toInt := by rw [ev181]
        have b182 : isB v181 := by have q9 : isB (zI s175 this 17) := hT.P (hT.k t_this (by decide)) (by decide); rw [ev181] at q9; exact q9
        have b182t := isB_t b182
        rw [(show zI s175 this 17 = v181 from ev181)] at e178
        rw [cz170] at e179
        rw [cz171] at e180
        refine lv_iconst (v := 1) hx hb dX6_setting_154 (by decide) ?_
        subst hQ9
        exact t_z hx hb hr isB1 hlocks hT ⟨Or.inr (Or.inr ⟨n1, by rw [(show zI s175 this 17 = v181 from ev181)]; omega, ⟨_, by rw [(show zI s175 this 23 = v169 from ev169)]; exact to9, hn9⟩, 3, (ss : Nat), ⟨1, by decide, by rw [hss]; exact ⟨by decide, w12⟩, by rw [hss]; exact Or.inl ⟨hbt, rfl, rfl⟩⟩, by decide, by rw [(show zI s175 this 15 = v167 from e179)]; omega, by rw [(show zI s175 this 16 = v168 from e180)]; omega⟩), isB1⟩ dX6_setting_155
      · skip
        obtain ⟨v183, ev183⟩ : ∃ zz9 : Int32, zI s162 this 17 = zz9 := ⟨_, rfl⟩
        have qv183 : v183.toInt = (zI s162 this 17).toInt := by rw [ev183]
        have b184 : isB v183 := by have q9 : isB (zI s162 this 17) := hT.P (hT.k t_this (by decide)) (by decide); rw [ev183] at q9; exact q9
        have b184t := isB_t b184
        rw [(show zI s162 this 17 = v183 from ev183)] at bb9
        obtain ⟨v185, ev185⟩ : ∃ zz9 : Int32, zI s162 this 23 = zz9 := ⟨_, rfl⟩
        have qv185 : v185.toInt = (zI s162 this 23).toInt := by rw [ev185]
        rw [(show zI s162 this 23 = v185 from ev185)] at to9
        obtain ⟨v186, ev186⟩ : ∃ zz9 : Int32, zI s162 this 14 = zz9 := ⟨_, rfl⟩
        have qv186 : v186.toInt = (zI s162 this 14).toInt := by rw [ev186]
        rw [(show zI s162 this 14 = v186 from ev186)] at at9
        obtain ⟨v187, ev187⟩ : ∃ zz9 : Int32, zI s162 this 15 = zz9 := ⟨_, rfl⟩
        have qv187 : v187.toInt = (zI s162 this 15).toInt := by rw [ev187]
        have zthis15 : zI σ0 this 15 = v187 := zthis15.trans (cz158.symm.trans (sm9.1.symm.trans ev187))
        obtain ⟨v188, ev188⟩ : ∃ zz9 : Int32, zI s162 this 16 = zz9 := ⟨_, rfl⟩
        have qv188 : v188.toInt = (zI s162 this 16).toInt := by rw [ev188]
        have zthis16 : zI σ0 this 16 = v188 := zthis16.trans (cz159.symm.trans (sm9.2.symm.trans ev188))
        have hb9 := bits_d nb h5 1 (by decide)
        have hn9 := hb9.2.2.1
        refine lv_if_eq (tgt := 150) hx hb dX6_setting_53 (by decide) (fun c9 => absurd (gi_eq c9) (by omega)) (fun _ => ?_)
        refine lv_aload_n hx hb dX6_setting_56 rfl (lv_at hl 0 rfl) ?_
        refine lv_aload_n hx hb dX6_setting_57 rfl (lv_at hl 0 rfl) ?_
        refine lv_ldc2 hx hb hown (hg _ k1377) dX6_setting_58 ?_
        refine lv_ldc2 hx hb hown (hg _ k1378) dX6_setting_61 ?_
        refine lv_ldc2 hx hb hown (hg _ k1379) dX6_setting_64 ?_
        have cz189 : zI s162 this 15 = v187 := ev187
        have cz190 : zI s162 this 16 = v188 := ev188
        have cz191 : zI s162 this 17 = v183 := ev183
        have hTo := hT
        refine tVi (n := 3) (As := [.long 240023, .long 279252, .long 177249105]) (rest := [.ref this]) hx hb hml hown hg hT hK hX (X6s_choice l κ s162 this 240023 279252 177249105  (hT.k t_this (by decide)) (hTX.tr (funext fun k => by rw [erT]; exact hT.eI trT (by decide) rfl rfl) (hT.eI t_this (by decide) rfl rfl)) (show (zI s162 this 17).toInt = 0 from by rw [(show zI s162 this 17 = v183 from ev183)]; omega) (show (zI s162 this 14).toInt = (utkE tc Ln ss : Nat) from by rw [(show zI s162 this 14 = v186 from ev186)]; omega) (utkE_le hsl9) (show encP 240023 7 from ⟨by decide, by decide +kernel⟩) (show encP 279252 8 from ⟨by decide, by decide +kernel⟩) (show ((177249105 : Int64).toInt = 0 ∧ 9 = 13) ∨ (0 < (177249105 : Int64).toInt ∧ encP 177249105 9) from Or.inr ⟨by decide, (show encP 177249105 9 from ⟨by decide, by decide +kernel⟩)⟩)) sub_gHB_gS1 (mwV k1368 k1370 k46 k92 k1371) ⟨rfl, by decide, by decide, by decide +kernel⟩ ⟨(Nat.le_of_ble_eq_true rfl), (Nat.le_of_ble_eq_true rfl)⟩ (hT.o20 (hT.k t_this (by decide))) rfl rfl hl.1 rfl (Nat.le_of_ble_eq_true rfl) dX6_setting_67 zroom.rf (fun x192 s193 H locs hφ hEs193 hT => ?_)
        have ev7 : zI s193 this 20 = v7 := ((hTo.k t_this (by decide)).eI hEs193 (by decide) rfl).trans ev7
        have ev8 : zI s193 this 21 = v8 := ((hTo.k t_this (by decide)).eI hEs193 (by decide) rfl).trans ev8
        have ev9 : zI s193 this 22 = v9 := ((hTo.k t_this (by decide)).eI hEs193 (by decide) rfl).trans ev9
        have ev10 : zI s193 this 19 = v10 := ((hTo.k t_this (by decide)).eI hEs193 (by decide) rfl).trans ev10
        have ev185 : zI s193 this 23 = v185 := ((hTo.k t_this (by decide)).eI hEs193 (by decide) rfl).trans ev185
        have f194 := hφ
        rw [show uscn uisBl tc Ln (utkE tc Ln ss) = unxt tc Ln ss from rfl] at f194
        rcases f194 with ⟨c1, c2, c3, c4, c5, c6⟩ | ⟨c1, c2, c3, c4, c5, c6⟩ | ⟨c1, c2, c3, c4, c5, c6⟩ | ⟨c1, c2, c3, c4, c5, c6, c7⟩
        · skip
          obtain ⟨v195, ev195⟩ : ∃ zz9 : Int32, zI s193 this 14 = zz9 := ⟨_, rfl⟩
          have qv195 : v195.toInt = (zI s193 this 14).toInt := by rw [ev195]
          rw [(show zI s193 this 14 = v195 from ev195)] at c3
          obtain ⟨v196, ev196⟩ : ∃ zz9 : Int32, zI s193 this 17 = zz9 := ⟨_, rfl⟩
          have qv196 : v196.toInt = (zI s193 this 17).toInt := by rw [ev196]
          have b197 : isB v196 := by have q9 : isB (zI s193 this 17) := hT.P (hT.k t_this (by decide)) (by decide); rw [ev196] at q9; exact q9
          have b197t := isB_t b197
          rw [(show zI s193 this 17 = v196 from ev196)] at c4
          obtain ⟨v198, ev198⟩ : ∃ zz9 : Int32, zI s193 this 15 = zz9 := ⟨_, rfl⟩
          have qv198 : v198.toInt = (zI s193 this 15).toInt := by rw [ev198]
          have zthis15 : zI σ0 this 15 = v198 := zthis15.trans (cz189.symm.trans (c5.symm.trans ev198))
          obtain ⟨v199, ev199⟩ : ∃ zz9 : Int32, zI s193 this 16 = zz9 := ⟨_, rfl⟩
          have qv199 : v199.toInt = (zI s193 this 16).toInt := by rw [ev199]
          have zthis16 : zI σ0 this 16 = v199 := zthis16.trans (cz190.symm.trans (c6.symm.trans ev199))
          have hE8 := utkE_word (uIsW_K c2.1 c2.2)
          have hTo := hT
          refine pf20_21 hx hb hg hown hK hT (hT.k t_this (by decide)) rfl (hg _ k1240) dX6_setting_70 (fun H locs s200 hus200 hT => ?_)
          have ev7 : zI s200 this 20 = v7 := (zput_o hus200 (Or.inr (by decide))).trans ev7
          have ev9 : zI s200 this 22 = v9 := (zput_o hus200 (Or.inr (by decide))).trans ev9
          have ev10 : zI s200 this 19 = v10 := (zput_o hus200 (Or.inr (by decide))).trans ev10
          have ev185 : zI s200 this 23 = v185 := (zput_o hus200 (Or.inr (by decide))).trans ev185
          have ev195 : zI s200 this 14 = v195 := (zput_o hus200 (Or.inr (by decide))).trans ev195
          have ev196 : zI s200 this 17 = v196 := (zput_o hus200 (Or.inr (by decide))).trans ev196
          have ev198 : zI s200 this 15 = v198 := (zput_o hus200 (Or.inr (by decide))).trans ev198
          have ev199 : zI s200 this 16 = v199 := (zput_o hus200 (Or.inr (by decide))).trans ev199
          have e201 : zI s200 this 21 = x192 := zput_at hus200
          refine lv_goto (tgt := 150) hx hb dX6_setting_73 (by decide) ?_
          refine lv_aload_n hx hb dX6_setting_150 rfl (lv_at hl 0 rfl) ?_
          have cz202 : zI s200 this 15 = v198 := ev198
          have cz203 : zI s200 this 16 = v199 := ev199
          have cz204 : zI s200 this 17 = v196 := ev196
          have cz205 : zI s200 this 17 = v196 := ev196
          have hTo := hT
          refine tVv (n := 0) (As := []) (rest := []) hx hb hml hown hg hT hK hX (X6s_ends l κ s200 this  (hT.k t_this (by decide)) (hTX.tr (funext fun k => by rw [erT]; exact hT.eI trT (by decide) rfl rfl) (hT.eI t_this (by decide) rfl rfl)) (show (zI s200 this 17).toInt = 0 → (zI s200 this 14).toInt = (utkE tc Ln (unxt tc Ln ss) : Nat) ∧ utkE tc Ln (unxt tc Ln ss) ≤ Ln from fun q9 => ⟨by rw [(show zI s200 this 14 = v195 from ev195)]; omega, utkE_le (unxt_le hsl9)⟩)) sub_gHB_gS1 (mwV k1390 k1392 k49 k92 k1393) ⟨rfl, by decide, by decide, by decide +kernel⟩ ⟨(Nat.le_of_ble_eq_true rfl), (Nat.le_of_ble_eq_true rfl)⟩ (hT.o20 (hT.k t_this (by decide))) rfl rfl hl.1 rfl (Nat.le_of_ble_eq_true rfl) dX6_setting_151 zroom.rf (fun s207 H locs hφ hEs207 hT => ?_)
          have ev7 : zI s207 this 20 = v7 := ((hTo.k t_this (by decide)).eI hEs207 (by decide) rfl).trans ev7
          have ev9 : zI s207 this 22 = v9 := ((hTo.k t_this (by decide)).eI hEs207 (by decide) rfl).trans ev9
          have ev10 : zI s207 this 19 = v10 := ((hTo.k t_this (by decide)).eI hEs207 (by decide) rfl).trans ev10
          have ev185 : zI s207 this 23 = v185 := ((hTo.k t_this (by decide)).eI hEs207 (by decide) rfl).trans ev185
          have e201 : zI s207 this 21 = x192 := ((hTo.k t_this (by decide)).eI hEs207 (by decide) rfl).trans e201
          obtain ⟨f208, f209⟩ := hφ
          have d9 := f209 (show (zI s200 this 17).toInt = 0 from by rw [cz204]; omega)
          rw [show uscn uisBl tc Ln (utkE tc Ln (unxt tc Ln ss)) = unxt tc Ln (unxt tc Ln ss) from rfl] at d9
          rcases d9 with ⟨d1, d2, d3, d4, d5⟩ | ⟨d1, d2, d3, d4⟩
          · skip
            obtain ⟨v210, ev210⟩ : ∃ zz9 : Int32, zI s207 this 17 = zz9 := ⟨_, rfl⟩
            have qv210 : v210.toInt = (zI s207 this 17).toInt := by rw [ev210]
            have b211 : isB v210 := by have q9 : isB (zI s207 this 17) := hT.P (hT.k t_this (by decide)) (by decide); rw [ev210] at q9; exact q9
            have b211t := isB_t b211
            rw [(show zI s207 this 17 = v210 from ev210)] at d2
            obtain ⟨v212, ev212⟩ : ∃ zz9 : Int32, zI s207 this 14 = zz9 := ⟨_, rfl⟩
            have qv212 : v212.toInt = (zI s207 this 14).toInt := by rw [ev212]
            rw [(show zI s207 this 14 = v212 from ev212)] at d5
            obtain ⟨v213, ev213⟩ : ∃ zz9 : Int32, zI s207 this 15 = zz9 := ⟨_, rfl⟩
            have qv213 : v213.toInt = (zI s207 this 15).toInt := by rw [ev213]
            have zthis15 : zI σ0 this 15 = v213 := zthis15.trans (cz202.symm.trans (d3.symm.trans ev213))
            obtain ⟨v214, ev214⟩ : ∃ zz9 : Int32, zI s207 this 16 = zz9 := ⟨_, rfl⟩
            have qv214 : v214.toInt = (zI s207 this 16).toInt := by rw [ev214]
            have zthis16 : zI σ0 this 16 = v214 := zthis16.trans (cz203.symm.trans (d4.symm.trans ev214))
            refine lv_iconst (v := 1) hx hb dX6_setting_154 (by decide) ?_
            subst hQ9
            exact t_z hx hb hr isB1 hlocks hT ⟨Or.inr (Or.inl ⟨n1, by rw [(show zI s207 this 17 = v210 from ev210)]; omega, ⟨unxt tc Ln (unxt tc Ln (unxt tc Ln ss)), nb ||| 2 ^ 1, utkE tc Ln (unxt tc Ln (unxt tc Ln ss)), (fun j => if j = 1 then 0 else gg j), ⟨1, 0, by decide, by rw [hss]; exact ⟨by decide, w12⟩, hbt, by rw [hss]; exact (show uvIs (utkK tc Ln) (uvl tc Ln) (uWd tc Ln) 1 (unxt tc Ln ss) 0 from Or.inr (Or.inl ⟨rfl, 7, by decide, by decide, c2, by decide⟩)), by rw [hss]; exact d1, by rw [hss], rfl, rfl⟩, hb9.2.2.1, hb9.2.2.2.1 hbt, by rw [(show zI s207 this 14 = v212 from ev212)]; omega, utkE_le (unxt_le (unxt_le hsl9)), rfl, by rw [(show zI s207 this 23 = v185 from ev185)]; omega, (show GSm s207 this (fun j => if j = 1 then 0 else gg j) from ⟨by rw [(show zI s207 this 20 = v7 from ev7)]; exact gm11.1, by rw [(show zI s207 this 21 = x192 from e201)]; exact (show _ = (0 : Int) from by omega), by rw [(show zI s207 this 22 = v9 from ev9)]; exact gm11.2.2.1, by rw [(show zI s207 this 19 = v10 from ev10)]; exact gm11.2.2.2⟩)⟩, ((show zI s207 this 15 = v213 from ev213).trans zthis15.symm), ((show zI s207 this 16 = v214 from ev214).trans zthis16.symm)⟩), isB1⟩ dX6_setting_155
          · skip
            obtain ⟨v215, ev215⟩ : ∃ zz9 : Int32, zI s207 this 17 = zz9 := ⟨_, rfl⟩
            have qv215 : v215.toInt = (zI s207 this 17).toInt := by rw [ev215]
            have b216 : isB v215 := by have q9 : isB (zI s207 this 17) := hT.P (hT.k t_this (by decide)) (by decide); rw [ev215] at q9; exact q9
            have b216t := isB_t b216
            rw [(show zI s207 this 17 = v215 from ev215)] at d2
            obtain ⟨v217, ev217⟩ : ∃ zz9 : Int32, zI s207 this 15 = zz9 := ⟨_, rfl⟩
            have qv217 : v217.toInt = (zI s207 this 15).toInt := by rw [ev217]
            rw [(show zI s207 this 15 = v217 from ev217)] at d3
            obtain ⟨v218, ev218⟩ : ∃ zz9 : Int32, zI s207 this 16 = zz9 := ⟨_, rfl⟩
            have qv218 : v218.toInt = (zI s207 this 16).toInt := by rw [ev218]
            rw [(show zI s207 this 16 = v218 from ev218)] at d4
            refine lv_iconst (v := 1) hx hb dX6_setting_154 (by decide) ?_
            subst hQ9
            exact t_z hx hb hr isB1 hlocks hT ⟨Or.inr (Or.inr ⟨n1, by rw [(show zI s207 this 17 = v215 from ev215)]; omega, ⟨_, by rw [(show zI s207 this 23 = v185 from ev185)]; exact to9, hn9⟩, 1, ((unxt tc Ln (unxt tc Ln ss)) : Nat), ⟨1, by decide, by rw [hss]; exact ⟨by decide, w12⟩, by rw [hss]; exact Or.inr (Or.inr ⟨hbt, ⟨_, (show uvIs (utkK tc Ln) (uvl tc Ln) (uWd tc Ln) 1 (unxt tc Ln ss) 0 from Or.inr (Or.inl ⟨rfl, 7, by decide, by decide, c2, by decide⟩))⟩, d1, rfl, rfl⟩)⟩, by decide, by rw [(show zI s207 this 15 = v217 from ev217)]; omega, by rw [(show zI s207 this 16 = v218 from ev218)]; omega⟩), isB1⟩ dX6_setting_155
        · skip
          obtain ⟨v219, ev219⟩ : ∃ zz9 : Int32, zI s193 this 14 = zz9 := ⟨_, rfl⟩
          have qv219 : v219.toInt = (zI s193 this 14).toInt := by rw [ev219]
          rw [(show zI s193 this 14 = v219 from ev219)] at c3
          obtain ⟨v220, ev220⟩ : ∃ zz9 : Int32, zI s193 this 17 = zz9 := ⟨_, rfl⟩
          have qv220 : v220.toInt = (zI s193 this 17).toInt := by rw [ev220]
          have b221 : isB v220 := by have q9 : isB (zI s193 this 17) := hT.P (hT.k t_this (by decide)) (by decide); rw [ev220] at q9; exact q9
          have b221t := isB_t b221
          rw [(show zI s193 this 17 = v220 from ev220)] at c4
          obtain ⟨v222, ev222⟩ : ∃ zz9 : Int32, zI s193 this 15 = zz9 := ⟨_, rfl⟩
          have qv222 : v222.toInt = (zI s193 this 15).toInt := by rw [ev222]
          have zthis15 : zI σ0 this 15 = v222 := zthis15.trans (cz189.symm.trans (c5.symm.trans ev222))
          obtain ⟨v223, ev223⟩ : ∃ zz9 : Int32, zI s193 this 16 = zz9 := ⟨_, rfl⟩
          have qv223 : v223.toInt = (zI s193 this 16).toInt := by rw [ev223]
          have zthis16 : zI σ0 this 16 = v223 := zthis16.trans (cz190.symm.trans (c6.symm.trans ev223))
          have hE8 := utkE_word (uIsW_K c2.1 c2.2)
          have hTo := hT
          refine pf20_21 hx hb hg hown hK hT (hT.k t_this (by decide)) rfl (hg _ k1240) dX6_setting_70 (fun H locs s224 hus224 hT => ?_)
          have ev7 : zI s224 this 20 = v7 := (zput_o hus224 (Or.inr (by decide))).trans ev7
          have ev9 : zI s224 this 22 = v9 := (zput_o hus224 (Or.inr (by decide))).trans ev9
          have ev10 : zI s224 this 19 = v10 := (zput_o hus224 (Or.inr (by decide))).trans ev10
          have ev185 : zI s224 this 23 = v185 := (zput_o hus224 (Or.inr (by decide))).trans ev185
          have ev219 : zI s224 this 14 = v219 := (zput_o hus224 (Or.inr (by decide))).trans ev219
          have ev220 : zI s224 this 17 = v220 := (zput_o hus224 (Or.inr (by decide))).trans ev220
          have ev222 : zI s224 this 15 = v222 := (zput_o hus224 (Or.inr (by decide))).trans ev222
          have ev223 : zI s224 this 16 = v223 := (zput_o hus224 (Or.inr (by decide))).trans ev223
          have e225 : zI s224 this 21 = x192 := zput_at hus224
          refine lv_goto (tgt := 150) hx hb dX6_setting_73 (by decide) ?_
          refine lv_aload_n hx hb dX6_setting_150 rfl (lv_at hl 0 rfl) ?_
          have cz226 : zI s224 this 15 = v222 := ev222
          have cz227 : zI s224 this 16 = v223 := ev223
          have cz228 : zI s224 this 17 = v220 := ev220
          have cz229 : zI s224 this 17 = v220 := ev220
          have hTo := hT
          refine tVv (n := 0) (As := []) (rest := []) hx hb hml hown hg hT hK hX (X6s_ends l κ s224 this  (hT.k t_this (by decide)) (hTX.tr (funext fun k => by rw [erT]; exact hT.eI trT (by decide) rfl rfl) (hT.eI t_this (by decide) rfl rfl)) (show (zI s224 this 17).toInt = 0 → (zI s224 this 14).toInt = (utkE tc Ln (unxt tc Ln ss) : Nat) ∧ utkE tc Ln (unxt tc Ln ss) ≤ Ln from fun q9 => ⟨by rw [(show zI s224 this 14 = v219 from ev219)]; omega, utkE_le (unxt_le hsl9)⟩)) sub_gHB_gS1 (mwV k1390 k1392 k49 k92 k1393) ⟨rfl, by decide, by decide, by decide +kernel⟩ ⟨(Nat.le_of_ble_eq_true rfl), (Nat.le_of_ble_eq_true rfl)⟩ (hT.o20 (hT.k t_this (by decide))) rfl rfl hl.1 rfl (Nat.le_of_ble_eq_true rfl) dX6_setting_151 zroom.rf (fun s231 H locs hφ hEs231 hT => ?_)
          have ev7 : zI s231 this 20 = v7 := ((hTo.k t_this (by decide)).eI hEs231 (by decide) rfl).trans ev7
          have ev9 : zI s231 this 22 = v9 := ((hTo.k t_this (by decide)).eI hEs231 (by decide) rfl).trans ev9
          have ev10 : zI s231 this 19 = v10 := ((hTo.k t_this (by decide)).eI hEs231 (by decide) rfl).trans ev10
          have ev185 : zI s231 this 23 = v185 := ((hTo.k t_this (by decide)).eI hEs231 (by decide) rfl).trans ev185
          have e225 : zI s231 this 21 = x192 := ((hTo.k t_this (by decide)).eI hEs231 (by decide) rfl).trans e225
          obtain ⟨f232, f233⟩ := hφ
          have d9 := f233 (show (zI s224 this 17).toInt = 0 from by rw [cz228]; omega)
          rw [show uscn uisBl tc Ln (utkE tc Ln (unxt tc Ln ss)) = unxt tc Ln (unxt tc Ln ss) from rfl] at d9
          rcases d9 with ⟨d1, d2, d3, d4, d5⟩ | ⟨d1, d2, d3, d4⟩
          · skip
            obtain ⟨v234, ev234⟩ : ∃ zz9 : Int32, zI s231 this 17 = zz9 := ⟨_, rfl⟩
            have qv234 : v234.toInt = (zI s231 this 17).toInt := by rw [ev234]
            have b235 : isB v234 := by have q9 : isB (zI s231 this 17) := hT.P (hT.k t_this (by decide)) (by decide); rw [ev234] at q9; exact q9
            have b235t := isB_t b235
            rw [(show zI s231 this 17 = v234 from ev234)] at d2
            obtain ⟨v236, ev236⟩ : ∃ zz9 : Int32, zI s231 this 14 = zz9 := ⟨_, rfl⟩
            have qv236 : v236.toInt = (zI s231 this 14).toInt := by rw [ev236]
            rw [(show zI s231 this 14 = v236 from ev236)] at d5
            obtain ⟨v237, ev237⟩ : ∃ zz9 : Int32, zI s231 this 15 = zz9 := ⟨_, rfl⟩
            have qv237 : v237.toInt = (zI s231 this 15).toInt := by rw [ev237]
            have zthis15 : zI σ0 this 15 = v237 := zthis15.trans (cz226.symm.trans (d3.symm.trans ev237))
            obtain ⟨v238, ev238⟩ : ∃ zz9 : Int32, zI s231 this 16 = zz9 := ⟨_, rfl⟩
            have qv238 : v238.toInt = (zI s231 this 16).toInt := by rw [ev238]
            have zthis16 : zI σ0 this 16 = v238 := zthis16.trans (cz227.symm.trans (d4.symm.trans ev238))
            refine lv_iconst (v := 1) hx hb dX6_setting_154 (by decide) ?_
            subst hQ9
            exact t_z hx hb hr isB1 hlocks hT ⟨Or.inr (Or.inl ⟨n1, by rw [(show zI s231 this 17 = v234 from ev234)]; omega, ⟨unxt tc Ln (unxt tc Ln (unxt tc Ln ss)), nb ||| 2 ^ 1, utkE tc Ln (unxt tc Ln (unxt tc Ln ss)), (fun j => if j = 1 then 1 else gg j), ⟨1, 1, by decide, by rw [hss]; exact ⟨by decide, w12⟩, hbt, by rw [hss]; exact (show uvIs (utkK tc Ln) (uvl tc Ln) (uWd tc Ln) 1 (unxt tc Ln ss) 1 from Or.inr (Or.inl ⟨rfl, 8, by decide, by decide, c2, by decide⟩)), by rw [hss]; exact d1, by rw [hss], rfl, rfl⟩, hb9.2.2.1, hb9.2.2.2.1 hbt, by rw [(show zI s231 this 14 = v236 from ev236)]; omega, utkE_le (unxt_le (unxt_le hsl9)), rfl, by rw [(show zI s231 this 23 = v185 from ev185)]; omega, (show GSm s231 this (fun j => if j = 1 then 1 else gg j) from ⟨by rw [(show zI s231 this 20 = v7 from ev7)]; exact gm11.1, by rw [(show zI s231 this 21 = x192 from e225)]; exact (show _ = (1 : Int) from by omega), by rw [(show zI s231 this 22 = v9 from ev9)]; exact gm11.2.2.1, by rw [(show zI s231 this 19 = v10 from ev10)]; exact gm11.2.2.2⟩)⟩, ((show zI s231 this 15 = v237 from ev237).trans zthis15.symm), ((show zI s231 this 16 = v238 from ev238).trans zthis16.symm)⟩), isB1⟩ dX6_setting_155
          · skip
            obtain ⟨v239, ev239⟩ : ∃ zz9 : Int32, zI s231 this 17 = zz9 := ⟨_, rfl⟩
            have qv239 : v239.toInt = (zI s231 this 17).toInt := by rw [ev239]
            have b240 : isB v239 := by have q9 : isB (zI s231 this 17) := hT.P (hT.k t_this (by decide)) (by decide); rw [ev239] at q9; exact q9
            have b240t := isB_t b240
            rw [(show zI s231 this 17 = v239 from ev239)] at d2
            obtain ⟨v241, ev241⟩ : ∃ zz9 : Int32, zI s231 this 15 = zz9 := ⟨_, rfl⟩
            have qv241 : v241.toInt = (zI s231 this 15).toInt := by rw [ev241]
            rw [(show zI s231 this 15 = v241 from ev241)] at d3
            obtain ⟨v242, ev242⟩ : ∃ zz9 : Int32, zI s231 this 16 = zz9 := ⟨_, rfl⟩
            have qv242 : v242.toInt = (zI s231 this 16).toInt := by rw [ev242]
            rw [(show zI s231 this 16 = v242 from ev242)] at d4
            refine lv_iconst (v := 1) hx hb dX6_setting_154 (by decide) ?_
            subst hQ9
            exact t_z hx hb hr isB1 hlocks hT ⟨Or.inr (Or.inr ⟨n1, by rw [(show zI s231 this 17 = v239 from ev239)]; omega, ⟨_, by rw [(show zI s231 this 23 = v185 from ev185)]; exact to9, hn9⟩, 1, ((unxt tc Ln (unxt tc Ln ss)) : Nat), ⟨1, by decide, by rw [hss]; exact ⟨by decide, w12⟩, by rw [hss]; exact Or.inr (Or.inr ⟨hbt, ⟨_, (show uvIs (utkK tc Ln) (uvl tc Ln) (uWd tc Ln) 1 (unxt tc Ln ss) 1 from Or.inr (Or.inl ⟨rfl, 8, by decide, by decide, c2, by decide⟩))⟩, d1, rfl, rfl⟩)⟩, by decide, by rw [(show zI s231 this 15 = v241 from ev241)]; omega, by rw [(show zI s231 this 16 = v242 from ev242)]; omega⟩), isB1⟩ dX6_setting_155
        · skip
          obtain ⟨v243, ev243⟩ : ∃ zz9 : Int32, zI s193 this 14 = zz9 := ⟨_, rfl⟩
          have qv243 : v243.toInt = (zI s193 this 14).toInt := by rw [ev243]
          rw [(show zI s193 this 14 = v243 from ev243)] at c3
          obtain ⟨v244, ev244⟩ : ∃ zz9 : Int32, zI s193 this 17 = zz9 := ⟨_, rfl⟩
          have qv244 : v244.toInt = (zI s193 this 17).toInt := by rw [ev244]
          have b245 : isB v244 := by have q9 : isB (zI s193 this 17) := hT.P (hT.k t_this (by decide)) (by decide); rw [ev244] at q9; exact q9
          have b245t := isB_t b245
          rw [(show zI s193 this 17 = v244 from ev244)] at c4
          obtain ⟨v246, ev246⟩ : ∃ zz9 : Int32, zI s193 this 15 = zz9 := ⟨_, rfl⟩
          have qv246 : v246.toInt = (zI s193 this 15).toInt := by rw [ev246]
          have zthis15 : zI σ0 this 15 = v246 := zthis15.trans (cz189.symm.trans (c5.symm.trans ev246))
          obtain ⟨v247, ev247⟩ : ∃ zz9 : Int32, zI s193 this 16 = zz9 := ⟨_, rfl⟩
          have qv247 : v247.toInt = (zI s193 this 16).toInt := by rw [ev247]
          have zthis16 : zI σ0 this 16 = v247 := zthis16.trans (cz190.symm.trans (c6.symm.trans ev247))
          have hE8 := utkE_word (uIsW_K c2.1 c2.2)
          have hTo := hT
          refine pf20_21 hx hb hg hown hK hT (hT.k t_this (by decide)) rfl (hg _ k1240) dX6_setting_70 (fun H locs s248 hus248 hT => ?_)
          have ev7 : zI s248 this 20 = v7 := (zput_o hus248 (Or.inr (by decide))).trans ev7
          have ev9 : zI s248 this 22 = v9 := (zput_o hus248 (Or.inr (by decide))).trans ev9
          have ev10 : zI s248 this 19 = v10 := (zput_o hus248 (Or.inr (by decide))).trans ev10
          have ev185 : zI s248 this 23 = v185 := (zput_o hus248 (Or.inr (by decide))).trans ev185
          have ev243 : zI s248 this 14 = v243 := (zput_o hus248 (Or.inr (by decide))).trans ev243
          have ev244 : zI s248 this 17 = v244 := (zput_o hus248 (Or.inr (by decide))).trans ev244
          have ev246 : zI s248 this 15 = v246 := (zput_o hus248 (Or.inr (by decide))).trans ev246
          have ev247 : zI s248 this 16 = v247 := (zput_o hus248 (Or.inr (by decide))).trans ev247
          have e249 : zI s248 this 21 = x192 := zput_at hus248
          refine lv_goto (tgt := 150) hx hb dX6_setting_73 (by decide) ?_
          refine lv_aload_n hx hb dX6_setting_150 rfl (lv_at hl 0 rfl) ?_
          have cz250 : zI s248 this 15 = v246 := ev246
          have cz251 : zI s248 this 16 = v247 := ev247
          have cz252 : zI s248 this 17 = v244 := ev244
          have cz253 : zI s248 this 17 = v244 := ev244
          have hTo := hT
          refine tVv (n := 0) (As := []) (rest := []) hx hb hml hown hg hT hK hX (X6s_ends l κ s248 this  (hT.k t_this (by decide)) (hTX.tr (funext fun k => by rw [erT]; exact hT.eI trT (by decide) rfl rfl) (hT.eI t_this (by decide) rfl rfl)) (show (zI s248 this 17).toInt = 0 → (zI s248 this 14).toInt = (utkE tc Ln (unxt tc Ln ss) : Nat) ∧ utkE tc Ln (unxt tc Ln ss) ≤ Ln from fun q9 => ⟨by rw [(show zI s248 this 14 = v243 from ev243)]; omega, utkE_le (unxt_le hsl9)⟩)) sub_gHB_gS1 (mwV k1390 k1392 k49 k92 k1393) ⟨rfl, by decide, by decide, by decide +kernel⟩ ⟨(Nat.le_of_ble_eq_true rfl), (Nat.le_of_ble_eq_true rfl)⟩ (hT.o20 (hT.k t_this (by decide))) rfl rfl hl.1 rfl (Nat.le_of_ble_eq_true rfl) dX6_setting_151 zroom.rf (fun s255 H locs hφ hEs255 hT => ?_)
          have ev7 : zI s255 this 20 = v7 := ((hTo.k t_this (by decide)).eI hEs255 (by decide) rfl).trans ev7
          have ev9 : zI s255 this 22 = v9 := ((hTo.k t_this (by decide)).eI hEs255 (by decide) rfl).trans ev9
          have ev10 : zI s255 this 19 = v10 := ((hTo.k t_this (by decide)).eI hEs255 (by decide) rfl).trans ev10
          have ev185 : zI s255 this 23 = v185 := ((hTo.k t_this (by decide)).eI hEs255 (by decide) rfl).trans ev185
          have e249 : zI s255 this 21 = x192 := ((hTo.k t_this (by decide)).eI hEs255 (by decide) rfl).trans e249
          obtain ⟨f256, f257⟩ := hφ
          have d9 := f257 (show (zI s248 this 17).toInt = 0 from by rw [cz252]; omega)
          rw [show uscn uisBl tc Ln (utkE tc Ln (unxt tc Ln ss)) = unxt tc Ln (unxt tc Ln ss) from rfl] at d9
          rcases d9 with ⟨d1, d2, d3, d4, d5⟩ | ⟨d1, d2, d3, d4⟩
          · skip
            obtain ⟨v258, ev258⟩ : ∃ zz9 : Int32, zI s255 this 17 = zz9 := ⟨_, rfl⟩
            have qv258 : v258.toInt = (zI s255 this 17).toInt := by rw [ev258]
            have b259 : isB v258 := by have q9 : isB (zI s255 this 17) := hT.P (hT.k t_this (by decide)) (by decide); rw [ev258] at q9; exact q9
            have b259t := isB_t b259
            rw [(show zI s255 this 17 = v258 from ev258)] at d2
            obtain ⟨v260, ev260⟩ : ∃ zz9 : Int32, zI s255 this 14 = zz9 := ⟨_, rfl⟩
            have qv260 : v260.toInt = (zI s255 this 14).toInt := by rw [ev260]
            rw [(show zI s255 this 14 = v260 from ev260)] at d5
            obtain ⟨v261, ev261⟩ : ∃ zz9 : Int32, zI s255 this 15 = zz9 := ⟨_, rfl⟩
            have qv261 : v261.toInt = (zI s255 this 15).toInt := by rw [ev261]
            have zthis15 : zI σ0 this 15 = v261 := zthis15.trans (cz250.symm.trans (d3.symm.trans ev261))
            obtain ⟨v262, ev262⟩ : ∃ zz9 : Int32, zI s255 this 16 = zz9 := ⟨_, rfl⟩
            have qv262 : v262.toInt = (zI s255 this 16).toInt := by rw [ev262]
            have zthis16 : zI σ0 this 16 = v262 := zthis16.trans (cz251.symm.trans (d4.symm.trans ev262))
            refine lv_iconst (v := 1) hx hb dX6_setting_154 (by decide) ?_
            subst hQ9
            exact t_z hx hb hr isB1 hlocks hT ⟨Or.inr (Or.inl ⟨n1, by rw [(show zI s255 this 17 = v258 from ev258)]; omega, ⟨unxt tc Ln (unxt tc Ln (unxt tc Ln ss)), nb ||| 2 ^ 1, utkE tc Ln (unxt tc Ln (unxt tc Ln ss)), (fun j => if j = 1 then 2 else gg j), ⟨1, 2, by decide, by rw [hss]; exact ⟨by decide, w12⟩, hbt, by rw [hss]; exact (show uvIs (utkK tc Ln) (uvl tc Ln) (uWd tc Ln) 1 (unxt tc Ln ss) 2 from Or.inr (Or.inl ⟨rfl, 9, by decide, by decide, c2, by decide⟩)), by rw [hss]; exact d1, by rw [hss], rfl, rfl⟩, hb9.2.2.1, hb9.2.2.2.1 hbt, by rw [(show zI s255 this 14 = v260 from ev260)]; omega, utkE_le (unxt_le (unxt_le hsl9)), rfl, by rw [(show zI s255 this 23 = v185 from ev185)]; omega, (show GSm s255 this (fun j => if j = 1 then 2 else gg j) from ⟨by rw [(show zI s255 this 20 = v7 from ev7)]; exact gm11.1, by rw [(show zI s255 this 21 = x192 from e249)]; exact (show _ = (2 : Int) from by omega), by rw [(show zI s255 this 22 = v9 from ev9)]; exact gm11.2.2.1, by rw [(show zI s255 this 19 = v10 from ev10)]; exact gm11.2.2.2⟩)⟩, ((show zI s255 this 15 = v261 from ev261).trans zthis15.symm), ((show zI s255 this 16 = v262 from ev262).trans zthis16.symm)⟩), isB1⟩ dX6_setting_155
          · skip
            obtain ⟨v263, ev263⟩ : ∃ zz9 : Int32, zI s255 this 17 = zz9 := ⟨_, rfl⟩
            have qv263 : v263.toInt = (zI s255 this 17).toInt := by rw [ev263]
            have b264 : isB v263 := by have q9 : isB (zI s255 this 17) := hT.P (hT.k t_this (by decide)) (by decide); rw [ev263] at q9; exact q9
            have b264t := isB_t b264
            rw [(show zI s255 this 17 = v263 from ev263)] at d2
            obtain ⟨v265, ev265⟩ : ∃ zz9 : Int32, zI s255 this 15 = zz9 := ⟨_, rfl⟩
            have qv265 : v265.toInt = (zI s255 this 15).toInt := by rw [ev265]
            rw [(show zI s255 this 15 = v265 from ev265)] at d3
            obtain ⟨v266, ev266⟩ : ∃ zz9 : Int32, zI s255 this 16 = zz9 := ⟨_, rfl⟩
            have qv266 : v266.toInt = (zI s255 this 16).toInt := by rw [ev266]
            rw [(show zI s255 this 16 = v266 from ev266)] at d4
            refine lv_iconst (v := 1) hx hb dX6_setting_154 (by decide) ?_
            subst hQ9
            exact t_z hx hb hr isB1 hlocks hT ⟨Or.inr (Or.inr ⟨n1, by rw [(show zI s255 this 17 = v263 from ev263)]; omega, ⟨_, by rw [(show zI s255 this 23 = v185 from ev185)]; exact to9, hn9⟩, 1, ((unxt tc Ln (unxt tc Ln ss)) : Nat), ⟨1, by decide, by rw [hss]; exact ⟨by decide, w12⟩, by rw [hss]; exact Or.inr (Or.inr ⟨hbt, ⟨_, (show uvIs (utkK tc Ln) (uvl tc Ln) (uWd tc Ln) 1 (unxt tc Ln ss) 2 from Or.inr (Or.inl ⟨rfl, 9, by decide, by decide, c2, by decide⟩))⟩, d1, rfl, rfl⟩)⟩, by decide, by rw [(show zI s255 this 15 = v265 from ev265)]; omega, by rw [(show zI s255 this 16 = v266 from ev266)]; omega⟩), isB1⟩ dX6_setting_155
        · skip
          obtain ⟨v267, ev267⟩ : ∃ zz9 : Int32, zI s193 this 17 = zz9 := ⟨_, rfl⟩
          have qv267 : v267.toInt = (zI s193 this 17).toInt := by rw [ev267]
          have b268 : isB v267 := by have q9 : isB (zI s193 this 17) := hT.P (hT.k t_this (by decide)) (by decide); rw [ev267] at q9; exact q9
          have b268t := isB_t b268
          rw [(show zI s193 this 17 = v267 from ev267)] at c5
          obtain ⟨v269, ev269⟩ : ∃ zz9 : Int32, zI s193 this 15 = zz9 := ⟨_, rfl⟩
          have qv269 : v269.toInt = (zI s193 this 15).toInt := by rw [ev269]
          rw [(show zI s193 this 15 = v269 from ev269)] at c6
          obtain ⟨v270, ev270⟩ : ∃ zz9 : Int32, zI s193 this 16 = zz9 := ⟨_, rfl⟩
          have qv270 : v270.toInt = (zI s193 this 16).toInt := by rw [ev270]
          rw [(show zI s193 this 16 = v270 from ev270)] at c7
          have hTo := hT
          refine pf20_21 hx hb hg hown hK hT (hT.k t_this (by decide)) rfl (hg _ k1240) dX6_setting_70 (fun H locs s271 hus271 hT => ?_)
          have ev7 : zI s271 this 20 = v7 := (zput_o hus271 (Or.inr (by decide))).trans ev7
          have ev9 : zI s271 this 22 = v9 := (zput_o hus271 (Or.inr (by decide))).trans ev9
          have ev10 : zI s271 this 19 = v10 := (zput_o hus271 (Or.inr (by decide))).trans ev10
          have ev185 : zI s271 this 23 = v185 := (zput_o hus271 (Or.inr (by decide))).trans ev185
          have ev267 : zI s271 this 17 = v267 := (zput_o hus271 (Or.inr (by decide))).trans ev267
          have ev269 : zI s271 this 15 = v269 := (zput_o hus271 (Or.inr (by decide))).trans ev269
          have ev270 : zI s271 this 16 = v270 := (zput_o hus271 (Or.inr (by decide))).trans ev270
          have e272 : zI s271 this 21 = x192 := zput_at hus271
          refine lv_goto (tgt := 150) hx hb dX6_setting_73 (by decide) ?_
          refine lv_aload_n hx hb dX6_setting_150 rfl (lv_at hl 0 rfl) ?_
          have cz273 : zI s271 this 15 = v269 := ev269
          have cz274 : zI s271 this 16 = v270 := ev270
          have cz275 : zI s271 this 17 = v267 := ev267
          have cz276 : zI s271 this 17 = v267 := ev267
          have hTo := hT
          refine tVv (n := 0) (As := []) (rest := []) hx hb hml hown hg hT hK hX (X6s_ends l κ s271 this  (hT.k t_this (by decide)) (hTX.tr (funext fun k => by rw [erT]; exact hT.eI trT (by decide) rfl rfl) (hT.eI t_this (by decide) rfl rfl)) (show (zI s271 this 17).toInt = 0 → (zI s271 this 14).toInt = ((0 : Nat) : Int) ∧ 0 ≤ Ln from fun q9 => absurd q9 (by rw [(show zI s271 this 17 = v267 from ev267)]; omega))) sub_gHB_gS1 (mwV k1390 k1392 k49 k92 k1393) ⟨rfl, by decide, by decide, by decide +kernel⟩ ⟨(Nat.le_of_ble_eq_true rfl), (Nat.le_of_ble_eq_true rfl)⟩ (hT.o20 (hT.k t_this (by decide))) rfl rfl hl.1 rfl (Nat.le_of_ble_eq_true rfl) dX6_setting_151 zroom.rf (fun s278 H locs hφ hEs278 hT => ?_)
          have ev7 : zI s278 this 20 = v7 := ((hTo.k t_this (by decide)).eI hEs278 (by decide) rfl).trans ev7
          have ev9 : zI s278 this 22 = v9 := ((hTo.k t_this (by decide)).eI hEs278 (by decide) rfl).trans ev9
          have ev10 : zI s278 this 19 = v10 := ((hTo.k t_this (by decide)).eI hEs278 (by decide) rfl).trans ev10
          have ev185 : zI s278 this 23 = v185 := ((hTo.k t_this (by decide)).eI hEs278 (by decide) rfl).trans ev185
          have e272 : zI s278 this 21 = x192 := ((hTo.k t_this (by decide)).eI hEs278 (by decide) rfl).trans e272
          obtain ⟨f279, f280⟩ := hφ
          obtain ⟨e281, e282, e283⟩ := f279 (show (zI s271 this 17).toInt = 1 from by rw [cz276]; omega)
          obtain ⟨v284, ev284⟩ : ∃ zz9 : Int32, zI s278 this 17 = zz9 := ⟨_, rfl⟩
          have qv284 : v284.toInt = (zI s278 this 17).toInt := by rw [ev284]
          have b285 : isB v284 := by have q9 : isB (zI s278 this 17) := hT.P (hT.k t_this (by decide)) (by decide); rw [ev284] at q9; exact q9
          have b285t := isB_t b285
          rw [(show zI s278 this 17 = v284 from ev284)] at e281
          rw [cz273] at e282
          rw [cz274] at e283
          refine lv_iconst (v := 1) hx hb dX6_setting_154 (by decide) ?_
          subst hQ9
          exact t_z hx hb hr isB1 hlocks hT ⟨Or.inr (Or.inr ⟨n1, by rw [(show zI s278 this 17 = v284 from ev284)]; omega, ⟨_, by rw [(show zI s278 this 23 = v185 from ev185)]; exact to9, hn9⟩, 1, ((unxt tc Ln ss) : Nat), ⟨1, by decide, by rw [hss]; exact ⟨by decide, w12⟩, by rw [hss]; exact Or.inr (Or.inl ⟨hbt, fun v q9 => by rcases q9 with ⟨q8, q7⟩ | ⟨q8, q7⟩ | ⟨q8, q7⟩ | ⟨q8, q7⟩ <;> first | (exact absurd q8 (by decide)) | (obtain ⟨j, q1, q2, q5, -⟩ := q7; rcases (show j = 7 ∨ j = 8 ∨ j = 9 by omega) with rfl | rfl | rfl <;> first | exact c2 q5 | exact c3 q5 | exact c4 q5), Or.inr ⟨fun q9 => absurd q9.1 (by decide), rfl⟩, rfl⟩)⟩, by decide, by rw [(show zI s278 this 15 = v269 from e282)]; omega, by rw [(show zI s278 this 16 = v270 from e283)]; omega⟩), isB1⟩ dX6_setting_155
    · skip
      refine lv_if_eq (tgt := 76) hx hb dX6_setting_45 (by decide) (fun _ => ?_) (fun c9 => absurd (gi_ne c9) (by omega))
      refine lv_aload_n hx hb dX6_setting_76 rfl (lv_at hl 0 rfl) ?_
      refine lv_ldc2 hx hb hown (hg _ k1380) dX6_setting_77 ?_
      have cz286 : zI s153 this 15 = v5 := ev5
      have cz287 : zI s153 this 16 = v6 := ev6
      have cz288 : zI s153 this 17 = v1 := ev1
      have hTo := hT
      refine tVi (n := 1) (As := [.long 309910109]) (rest := []) hx hb hml hown hg hT hK hX (X6s_isWord l κ s153 this 309910109  (hT.k t_this (by decide)) (hTX.tr (funext fun k => by rw [erT]; exact hT.eI trT (by decide) rfl rfl) (hT.eI t_this (by decide) rfl rfl)) (show (zI s153 this 17).toInt = 0 → (zI s153 this 14).toInt = ((ss : Nat) : Int) ∧ ss ≤ Ln from fun q9 => ⟨by rw [(show zI s153 this 14 = v157 from ev157)]; omega, by omega⟩) (show encP 309910109 2 from ⟨by decide, by decide +kernel⟩)) sub_gH_gS1 (mwV k1337 k1339 k40 k92 k1340) ⟨rfl, by decide, by decide, by decide +kernel⟩ ⟨(Nat.le_of_ble_eq_true rfl), (Nat.le_of_ble_eq_true rfl)⟩ (hT.o20 (hT.k t_this (by decide))) rfl rfl hl.1 rfl (Nat.le_of_ble_eq_true rfl) dX6_setting_80 zroom.rf (fun x289 s290 H locs hφ hEs290 hT => ?_)
      have ev1 : zI s290 this 17 = v1 := ((hTo.k t_this (by decide)).eI hEs290 (by decide) rfl).trans ev1
      have ev4 : zI s290 this 23 = v4 := ((hTo.k t_this (by decide)).eI hEs290 (by decide) rfl).trans ev4
      have ev5 : zI s290 this 15 = v5 := ((hTo.k t_this (by decide)).eI hEs290 (by decide) rfl).trans ev5
      have ev6 : zI s290 this 16 = v6 := ((hTo.k t_this (by decide)).eI hEs290 (by decide) rfl).trans ev6
      have ev7 : zI s290 this 20 = v7 := ((hTo.k t_this (by decide)).eI hEs290 (by decide) rfl).trans ev7
      have ev8 : zI s290 this 21 = v8 := ((hTo.k t_this (by decide)).eI hEs290 (by decide) rfl).trans ev8
      have ev9 : zI s290 this 22 = v9 := ((hTo.k t_this (by decide)).eI hEs290 (by decide) rfl).trans ev9
      have ev10 : zI s290 this 19 = v10 := ((hTo.k t_this (by decide)).eI hEs290 (by decide) rfl).trans ev10
      obtain ⟨f291, f292, f293⟩ := hφ
      obtain ⟨a9, w9⟩ := f292 (show (zI s153 this 17).toInt = 0 from by rw [cz288]; omega)
      rw [hs2] at a9 w9
      obtain ⟨v294, ev294⟩ : ∃ zz9 : Int32, zI s290 this 14 = zz9 := ⟨_, rfl⟩
      have qv294 : v294.toInt = (zI s290 this 14).toInt := by rw [ev294]
      rw [(show zI s290 this 14 = v294 from ev294)] at a9
      rcases w9 with ⟨w21, w22⟩ | ⟨w21, w22⟩
      · skip
        have hE9 := utkE_word (uIsW_K (by decide) w22)
        refine lv_if_eq (tgt := 112) hx hb dX6_setting_83 (by decide) (fun c9 => absurd (gi_eq c9) (by omega)) (fun _ => ?_)
        refine lv_aload_n hx hb dX6_setting_86 rfl (lv_at hl 0 rfl) ?_
        refine lv_iconst (v := 2) hx hb dX6_setting_87 (by decide) ?_
        have cz295 : zI s290 this 15 = v5 := ev5
        have cz296 : zI s290 this 16 = v6 := ev6
        have cz297 : zI s290 this 17 = v1 := ev1
        have hTo := hT
        refine tVi (n := 1) (As := [.int 2]) (rest := []) hx hb hml hown hg hT hK hX (X6s_begins l κ s290 this 2  (hT.k t_this (by decide)) (hTX.tr (funext fun k => by rw [erT]; exact hT.eI trT (by decide) rfl rfl) (hT.eI t_this (by decide) rfl rfl)) (show (zI s290 this 17).toInt = 0 from by rw [(show zI s290 this 17 = v1 from ev1)]; omega) (show (zI s290 this 14).toInt = ((ss : Nat) : Int) from by rw [(show zI s290 this 14 = v294 from ev294)]; omega) hsl9 (show (zI s290 this 23).toInt = (nb : Nat) from by rw [(show zI s290 this 23 = v4 from ev4)]; omega) h5 (show (2 : Int32).toInt = ((2 : Nat) : Int) from n2) (by decide)) sub_gBe_gS1 (mwV k1357 k1359 k44 k92 k1360) ⟨rfl, by decide, by decide, by decide +kernel⟩ ⟨(Nat.le_of_ble_eq_true rfl), (Nat.le_of_ble_eq_true rfl)⟩ (hT.o20 (hT.k t_this (by decide))) rfl rfl hl.1 rfl (Nat.le_of_ble_eq_true rfl) dX6_setting_88 zroom.rf (fun x298 s299 H locs hφ hEs299 hT => ?_)
        have ev7 : zI s299 this 20 = v7 := ((hTo.k t_this (by decide)).eI hEs299 (by decide) rfl).trans ev7
        have ev8 : zI s299 this 21 = v8 := ((hTo.k t_this (by decide)).eI hEs299 (by decide) rfl).trans ev8
        have ev9 : zI s299 this 22 = v9 := ((hTo.k t_this (by decide)).eI hEs299 (by decide) rfl).trans ev9
        have ev10 : zI s299 this 19 = v10 := ((hTo.k t_this (by decide)).eI hEs299 (by decide) rfl).trans ev10
        obtain ⟨f300, f301⟩ := hφ
        rcases f300 with ⟨hbt, r0, wb91, wb92, wb93, to9⟩ | ⟨hbt, r1, bb9, sm9, to9, at9⟩
        · skip
          obtain ⟨v302, ev302⟩ : ∃ zz9 : Int32, zI s299 this 17 = zz9 := ⟨_, rfl⟩
          have qv302 : v302.toInt = (zI s299 this 17).toInt := by rw [ev302]
          have b303 : isB v302 := by have q9 : isB (zI s299 this 17) := hT.P (hT.k t_this (by decide)) (by decide); rw [ev302] at q9; exact q9
          have b303t := isB_t b303
          rw [(show zI s299 this 17 = v302 from ev302)] at wb91
          obtain ⟨v304, ev304⟩ : ∃ zz9 : Int32, zI s299 this 15 = zz9 := ⟨_, rfl⟩
          have qv304 : v304.toInt = (zI s299 this 15).toInt := by rw [ev304]
          rw [(show zI s299 this 15 = v304 from ev304)] at wb92
          obtain ⟨v305, ev305⟩ : ∃ zz9 : Int32, zI s299 this 16 = zz9 := ⟨_, rfl⟩
          have qv305 : v305.toInt = (zI s299 this 16).toInt := by rw [ev305]
          rw [(show zI s299 this 16 = v305 from ev305)] at wb93
          obtain ⟨v306, ev306⟩ : ∃ zz9 : Int32, zI s299 this 23 = zz9 := ⟨_, rfl⟩
          have qv306 : v306.toInt = (zI s299 this 23).toInt := by rw [ev306]
          rw [(show zI s299 this 23 = v306 from ev306)] at to9
          have hn9 := h5
          refine lv_if_eq (tgt := 150) hx hb dX6_setting_91 (by decide) (fun _ => ?_) (fun c9 => absurd (gi_ne c9) (by omega))
          refine lv_aload_n hx hb dX6_setting_150 rfl (lv_at hl 0 rfl) ?_
          have cz307 : zI s299 this 15 = v304 := ev304
          have cz308 : zI s299 this 16 = v305 := ev305
          have cz309 : zI s299 this 17 = v302 := ev302
          have cz310 : zI s299 this 17 = v302 := ev302
          have hTo := hT
          refine tVv (n := 0) (As := []) (rest := []) hx hb hml hown hg hT hK hX (X6s_ends l κ s299 this  (hT.k t_this (by decide)) (hTX.tr (funext fun k => by rw [erT]; exact hT.eI trT (by decide) rfl rfl) (hT.eI t_this (by decide) rfl rfl)) (show (zI s299 this 17).toInt = 0 → (zI s299 this 14).toInt = ((0 : Nat) : Int) ∧ 0 ≤ Ln from fun q9 => absurd q9 (by rw [(show zI s299 this 17 = v302 from ev302)]; omega))) sub_gHB_gS1 (mwV k1390 k1392 k49 k92 k1393) ⟨rfl, by decide, by decide, by decide +kernel⟩ ⟨(Nat.le_of_ble_eq_true rfl), (Nat.le_of_ble_eq_true rfl)⟩ (hT.o20 (hT.k t_this (by decide))) rfl rfl hl.1 rfl (Nat.le_of_ble_eq_true rfl) dX6_setting_151 zroom.rf (fun s312 H locs hφ hEs312 hT => ?_)
          have ev7 : zI s312 this 20 = v7 := ((hTo.k t_this (by decide)).eI hEs312 (by decide) rfl).trans ev7
          have ev8 : zI s312 this 21 = v8 := ((hTo.k t_this (by decide)).eI hEs312 (by decide) rfl).trans ev8
          have ev9 : zI s312 this 22 = v9 := ((hTo.k t_this (by decide)).eI hEs312 (by decide) rfl).trans ev9
          have ev10 : zI s312 this 19 = v10 := ((hTo.k t_this (by decide)).eI hEs312 (by decide) rfl).trans ev10
          have ev306 : zI s312 this 23 = v306 := ((hTo.k t_this (by decide)).eI hEs312 (by decide) rfl).trans ev306
          obtain ⟨f313, f314⟩ := hφ
          obtain ⟨e315, e316, e317⟩ := f313 (show (zI s299 this 17).toInt = 1 from by rw [cz310]; omega)
          obtain ⟨v318, ev318⟩ : ∃ zz9 : Int32, zI s312 this 17 = zz9 := ⟨_, rfl⟩
          have qv318 : v318.toInt = (zI s312 this 17).toInt := by rw [ev318]
          have b319 : isB v318 := by have q9 : isB (zI s312 this 17) := hT.P (hT.k t_this (by decide)) (by decide); rw [ev318] at q9; exact q9
          have b319t := isB_t b319
          rw [(show zI s312 this 17 = v318 from ev318)] at e315
          rw [cz307] at e316
          rw [cz308] at e317
          refine lv_iconst (v := 1) hx hb dX6_setting_154 (by decide) ?_
          subst hQ9
          exact t_z hx hb hr isB1 hlocks hT ⟨Or.inr (Or.inr ⟨n1, by rw [(show zI s312 this 17 = v318 from ev318)]; omega, ⟨_, by rw [(show zI s312 this 23 = v306 from ev306)]; exact to9, hn9⟩, 3, (ss : Nat), ⟨2, by decide, by rw [hss]; exact ⟨by decide, w22⟩, by rw [hss]; exact Or.inl ⟨hbt, rfl, rfl⟩⟩, by decide, by rw [(show zI s312 this 15 = v304 from e316)]; omega, by rw [(show zI s312 this 16 = v305 from e317)]; omega⟩), isB1⟩ dX6_setting_155
        · skip
          obtain ⟨v320, ev320⟩ : ∃ zz9 : Int32, zI s299 this 17 = zz9 := ⟨_, rfl⟩
          have qv320 : v320.toInt = (zI s299 this 17).toInt := by rw [ev320]
          have b321 : isB v320 := by have q9 : isB (zI s299 this 17) := hT.P (hT.k t_this (by decide)) (by decide); rw [ev320] at q9; exact q9
          have b321t := isB_t b321
          rw [(show zI s299 this 17 = v320 from ev320)] at bb9
          obtain ⟨v322, ev322⟩ : ∃ zz9 : Int32, zI s299 this 23 = zz9 := ⟨_, rfl⟩
          have qv322 : v322.toInt = (zI s299 this 23).toInt := by rw [ev322]
          rw [(show zI s299 this 23 = v322 from ev322)] at to9
          obtain ⟨v323, ev323⟩ : ∃ zz9 : Int32, zI s299 this 14 = zz9 := ⟨_, rfl⟩
          have qv323 : v323.toInt = (zI s299 this 14).toInt := by rw [ev323]
          rw [(show zI s299 this 14 = v323 from ev323)] at at9
          obtain ⟨v324, ev324⟩ : ∃ zz9 : Int32, zI s299 this 15 = zz9 := ⟨_, rfl⟩
          have qv324 : v324.toInt = (zI s299 this 15).toInt := by rw [ev324]
          have zthis15 : zI σ0 this 15 = v324 := zthis15.trans (cz295.symm.trans (sm9.1.symm.trans ev324))
          obtain ⟨v325, ev325⟩ : ∃ zz9 : Int32, zI s299 this 16 = zz9 := ⟨_, rfl⟩
          have qv325 : v325.toInt = (zI s299 this 16).toInt := by rw [ev325]
          have zthis16 : zI σ0 this 16 = v325 := zthis16.trans (cz296.symm.trans (sm9.2.symm.trans ev325))
          have hb9 := bits_d nb h5 2 (by decide)
          have hn9 := hb9.2.2.1
          refine lv_if_eq (tgt := 150) hx hb dX6_setting_91 (by decide) (fun c9 => absurd (gi_eq c9) (by omega)) (fun _ => ?_)
          refine lv_aload_n hx hb dX6_setting_94 rfl (lv_at hl 0 rfl) ?_
          refine lv_aload_n hx hb dX6_setting_95 rfl (lv_at hl 0 rfl) ?_
          refine lv_ldc2 hx hb hown (hg _ k1381) dX6_setting_96 ?_
          refine lv_ldc2 hx hb hown (hg _ k1382) dX6_setting_99 ?_
          refine lv_lconst (v := 0) hx hb dX6_setting_102 (by decide) ?_
          have cz326 : zI s299 this 15 = v324 := ev324
          have cz327 : zI s299 this 16 = v325 := ev325
          have cz328 : zI s299 this 17 = v320 := ev320
          have hTo := hT
          refine tVi (n := 3) (As := [.long 286880, .long 220309, .long 0]) (rest := [.ref this]) hx hb hml hown hg hT hK hX (X6s_choice l κ s299 this 286880 220309 0  (hT.k t_this (by decide)) (hTX.tr (funext fun k => by rw [erT]; exact hT.eI trT (by decide) rfl rfl) (hT.eI t_this (by decide) rfl rfl)) (show (zI s299 this 17).toInt = 0 from by rw [(show zI s299 this 17 = v320 from ev320)]; omega) (show (zI s299 this 14).toInt = (utkE tc Ln ss : Nat) from by rw [(show zI s299 this 14 = v323 from ev323)]; omega) (utkE_le hsl9) (show encP 286880 11 from ⟨by decide, by decide +kernel⟩) (show encP 220309 10 from ⟨by decide, by decide +kernel⟩) (show ((0 : Int64).toInt = 0 ∧ 13 = 13) ∨ (0 < (0 : Int64).toInt ∧ encP 0 13) from Or.inl ⟨j0, rfl⟩)) sub_gHB_gS1 (mwV k1368 k1370 k46 k92 k1371) ⟨rfl, by decide, by decide, by decide +kernel⟩ ⟨(Nat.le_of_ble_eq_true rfl), (Nat.le_of_ble_eq_true rfl)⟩ (hT.o20 (hT.k t_this (by decide))) rfl rfl hl.1 rfl (Nat.le_of_ble_eq_true rfl) dX6_setting_103 zroom.rf (fun x329 s330 H locs hφ hEs330 hT => ?_)
          have ev7 : zI s330 this 20 = v7 := ((hTo.k t_this (by decide)).eI hEs330 (by decide) rfl).trans ev7
          have ev8 : zI s330 this 21 = v8 := ((hTo.k t_this (by decide)).eI hEs330 (by decide) rfl).trans ev8
          have ev9 : zI s330 this 22 = v9 := ((hTo.k t_this (by decide)).eI hEs330 (by decide) rfl).trans ev9
          have ev10 : zI s330 this 19 = v10 := ((hTo.k t_this (by decide)).eI hEs330 (by decide) rfl).trans ev10
          have ev322 : zI s330 this 23 = v322 := ((hTo.k t_this (by decide)).eI hEs330 (by decide) rfl).trans ev322
          have f331 := hφ
          rw [show uscn uisBl tc Ln (utkE tc Ln ss) = unxt tc Ln ss from rfl] at f331
          rcases f331 with ⟨c1, c2, c3, c4, c5, c6⟩ | ⟨c1, c2, c3, c4, c5, c6⟩ | ⟨c1, c2, c3, c4, c5, c6⟩ | ⟨c1, c2, c3, c4, c5, c6, c7⟩
          · skip
            obtain ⟨v332, ev332⟩ : ∃ zz9 : Int32, zI s330 this 14 = zz9 := ⟨_, rfl⟩
            have qv332 : v332.toInt = (zI s330 this 14).toInt := by rw [ev332]
            rw [(show zI s330 this 14 = v332 from ev332)] at c3
            obtain ⟨v333, ev333⟩ : ∃ zz9 : Int32, zI s330 this 17 = zz9 := ⟨_, rfl⟩
            have qv333 : v333.toInt = (zI s330 this 17).toInt := by rw [ev333]
            have b334 : isB v333 := by have q9 : isB (zI s330 this 17) := hT.P (hT.k t_this (by decide)) (by decide); rw [ev333] at q9; exact q9
            have b334t := isB_t b334
            rw [(show zI s330 this 17 = v333 from ev333)] at c4
            obtain ⟨v335, ev335⟩ : ∃ zz9 : Int32, zI s330 this 15 = zz9 := ⟨_, rfl⟩
            have qv335 : v335.toInt = (zI s330 this 15).toInt := by rw [ev335]
            have zthis15 : zI σ0 this 15 = v335 := zthis15.trans (cz326.symm.trans (c5.symm.trans ev335))
            obtain ⟨v336, ev336⟩ : ∃ zz9 : Int32, zI s330 this 16 = zz9 := ⟨_, rfl⟩
            have qv336 : v336.toInt = (zI s330 this 16).toInt := by rw [ev336]
            have zthis16 : zI σ0 this 16 = v336 := zthis16.trans (cz327.symm.trans (c6.symm.trans ev336))
            have hE8 := utkE_word (uIsW_K c2.1 c2.2)
            have hTo := hT
            refine pf20_22 hx hb hg hown hK hT (hT.k t_this (by decide)) rfl (hg _ k1241) dX6_setting_106 (fun H locs s337 hus337 hT => ?_)
            have ev7 : zI s337 this 20 = v7 := (zput_o hus337 (Or.inr (by decide))).trans ev7
            have ev8 : zI s337 this 21 = v8 := (zput_o hus337 (Or.inr (by decide))).trans ev8
            have ev10 : zI s337 this 19 = v10 := (zput_o hus337 (Or.inr (by decide))).trans ev10
            have ev322 : zI s337 this 23 = v322 := (zput_o hus337 (Or.inr (by decide))).trans ev322
            have ev332 : zI s337 this 14 = v332 := (zput_o hus337 (Or.inr (by decide))).trans ev332
            have ev333 : zI s337 this 17 = v333 := (zput_o hus337 (Or.inr (by decide))).trans ev333
            have ev335 : zI s337 this 15 = v335 := (zput_o hus337 (Or.inr (by decide))).trans ev335
            have ev336 : zI s337 this 16 = v336 := (zput_o hus337 (Or.inr (by decide))).trans ev336
            have e338 : zI s337 this 22 = x329 := zput_at hus337
            refine lv_goto (tgt := 150) hx hb dX6_setting_109 (by decide) ?_
            refine lv_aload_n hx hb dX6_setting_150 rfl (lv_at hl 0 rfl) ?_
            have cz339 : zI s337 this 15 = v335 := ev335
            have cz340 : zI s337 this 16 = v336 := ev336
            have cz341 : zI s337 this 17 = v333 := ev333
            have cz342 : zI s337 this 17 = v333 := ev333
            have hTo := hT
            refine tVv (n := 0) (As := []) (rest := []) hx hb hml hown hg hT hK hX (X6s_ends l κ s337 this  (hT.k t_this (by decide)) (hTX.tr (funext fun k => by rw [erT]; exact hT.eI trT (by decide) rfl rfl) (hT.eI t_this (by decide) rfl rfl)) (show (zI s337 this 17).toInt = 0 → (zI s337 this 14).toInt = (utkE tc Ln (unxt tc Ln ss) : Nat) ∧ utkE tc Ln (unxt tc Ln ss) ≤ Ln from fun q9 => ⟨by rw [(show zI s337 this 14 = v332 from ev332)]; omega, utkE_le (unxt_le hsl9)⟩)) sub_gHB_gS1 (mwV k1390 k1392 k49 k92 k1393) ⟨rfl, by decide, by decide, by decide +kernel⟩ ⟨(Nat.le_of_ble_eq_true rfl), (Nat.le_of_ble_eq_true rfl)⟩ (hT.o20 (hT.k t_this (by decide))) rfl rfl hl.1 rfl (Nat.le_of_ble_eq_true rfl) dX6_setting_151 zroom.rf (fun s344 H locs hφ hEs344 hT => ?_)
            have ev7 : zI s344 this 20 = v7 := ((hTo.k t_this (by decide)).eI hEs344 (by decide) rfl).trans ev7
            have ev8 : zI s344 this 21 = v8 := ((hTo.k t_this (by decide)).eI hEs344 (by decide) rfl).trans ev8
            have ev10 : zI s344 this 19 = v10 := ((hTo.k t_this (by decide)).eI hEs344 (by decide) rfl).trans ev10
            have ev322 : zI s344 this 23 = v322 := ((hTo.k t_this (by decide)).eI hEs344 (by decide) rfl).trans ev322
            have e338 : zI s344 this 22 = x329 := ((hTo.k t_this (by decide)).eI hEs344 (by decide) rfl).trans e338
            obtain ⟨f345, f346⟩ := hφ
            have d9 := f346 (show (zI s337 this 17).toInt = 0 from by rw [cz341]; omega)
            rw [show uscn uisBl tc Ln (utkE tc Ln (unxt tc Ln ss)) = unxt tc Ln (unxt tc Ln ss) from rfl] at d9
            rcases d9 with ⟨d1, d2, d3, d4, d5⟩ | ⟨d1, d2, d3, d4⟩
            · skip
              obtain ⟨v347, ev347⟩ : ∃ zz9 : Int32, zI s344 this 17 = zz9 := ⟨_, rfl⟩
              have qv347 : v347.toInt = (zI s344 this 17).toInt := by rw [ev347]
              have b348 : isB v347 := by have q9 : isB (zI s344 this 17) := hT.P (hT.k t_this (by decide)) (by decide); rw [ev347] at q9; exact q9
              have b348t := isB_t b348
              rw [(show zI s344 this 17 = v347 from ev347)] at d2
              obtain ⟨v349, ev349⟩ : ∃ zz9 : Int32, zI s344 this 14 = zz9 := ⟨_, rfl⟩
              have qv349 : v349.toInt = (zI s344 this 14).toInt := by rw [ev349]
              rw [(show zI s344 this 14 = v349 from ev349)] at d5
              obtain ⟨v350, ev350⟩ : ∃ zz9 : Int32, zI s344 this 15 = zz9 := ⟨_, rfl⟩
              have qv350 : v350.toInt = (zI s344 this 15).toInt := by rw [ev350]
              have zthis15 : zI σ0 this 15 = v350 := zthis15.trans (cz339.symm.trans (d3.symm.trans ev350))
              obtain ⟨v351, ev351⟩ : ∃ zz9 : Int32, zI s344 this 16 = zz9 := ⟨_, rfl⟩
              have qv351 : v351.toInt = (zI s344 this 16).toInt := by rw [ev351]
              have zthis16 : zI σ0 this 16 = v351 := zthis16.trans (cz340.symm.trans (d4.symm.trans ev351))
              refine lv_iconst (v := 1) hx hb dX6_setting_154 (by decide) ?_
              subst hQ9
              exact t_z hx hb hr isB1 hlocks hT ⟨Or.inr (Or.inl ⟨n1, by rw [(show zI s344 this 17 = v347 from ev347)]; omega, ⟨unxt tc Ln (unxt tc Ln (unxt tc Ln ss)), nb ||| 2 ^ 2, utkE tc Ln (unxt tc Ln (unxt tc Ln ss)), (fun j => if j = 2 then 0 else gg j), ⟨2, 0, by decide, by rw [hss]; exact ⟨by decide, w22⟩, hbt, by rw [hss]; exact (show uvIs (utkK tc Ln) (uvl tc Ln) (uWd tc Ln) 2 (unxt tc Ln ss) 0 from Or.inr (Or.inr (Or.inl ⟨rfl, 11, by decide, by decide, c2, by decide⟩))), by rw [hss]; exact d1, by rw [hss], rfl, rfl⟩, hb9.2.2.1, hb9.2.2.2.1 hbt, by rw [(show zI s344 this 14 = v349 from ev349)]; omega, utkE_le (unxt_le (unxt_le hsl9)), rfl, by rw [(show zI s344 this 23 = v322 from ev322)]; omega, (show GSm s344 this (fun j => if j = 2 then 0 else gg j) from ⟨by rw [(show zI s344 this 20 = v7 from ev7)]; exact gm11.1, by rw [(show zI s344 this 21 = v8 from ev8)]; exact gm11.2.1, by rw [(show zI s344 this 22 = x329 from e338)]; exact (show _ = (0 : Int) from by omega), by rw [(show zI s344 this 19 = v10 from ev10)]; exact gm11.2.2.2⟩)⟩, ((show zI s344 this 15 = v350 from ev350).trans zthis15.symm), ((show zI s344 this 16 = v351 from ev351).trans zthis16.symm)⟩), isB1⟩ dX6_setting_155
            · skip
              obtain ⟨v352, ev352⟩ : ∃ zz9 : Int32, zI s344 this 17 = zz9 := ⟨_, rfl⟩
              have qv352 : v352.toInt = (zI s344 this 17).toInt := by rw [ev352]
              have b353 : isB v352 := by have q9 : isB (zI s344 this 17) := hT.P (hT.k t_this (by decide)) (by decide); rw [ev352] at q9; exact q9
              have b353t := isB_t b353
              rw [(show zI s344 this 17 = v352 from ev352)] at d2
              obtain ⟨v354, ev354⟩ : ∃ zz9 : Int32, zI s344 this 15 = zz9 := ⟨_, rfl⟩
              have qv354 : v354.toInt = (zI s344 this 15).toInt := by rw [ev354]
              rw [(show zI s344 this 15 = v354 from ev354)] at d3
              obtain ⟨v355, ev355⟩ : ∃ zz9 : Int32, zI s344 this 16 = zz9 := ⟨_, rfl⟩
              have qv355 : v355.toInt = (zI s344 this 16).toInt := by rw [ev355]
              rw [(show zI s344 this 16 = v355 from ev355)] at d4
              refine lv_iconst (v := 1) hx hb dX6_setting_154 (by decide) ?_
              subst hQ9
              exact t_z hx hb hr isB1 hlocks hT ⟨Or.inr (Or.inr ⟨n1, by rw [(show zI s344 this 17 = v352 from ev352)]; omega, ⟨_, by rw [(show zI s344 this 23 = v322 from ev322)]; exact to9, hn9⟩, 1, ((unxt tc Ln (unxt tc Ln ss)) : Nat), ⟨2, by decide, by rw [hss]; exact ⟨by decide, w22⟩, by rw [hss]; exact Or.inr (Or.inr ⟨hbt, ⟨_, (show uvIs (utkK tc Ln) (uvl tc Ln) (uWd tc Ln) 2 (unxt tc Ln ss) 0 from Or.inr (Or.inr (Or.inl ⟨rfl, 11, by decide, by decide, c2, by decide⟩)))⟩, d1, rfl, rfl⟩)⟩, by decide, by rw [(show zI s344 this 15 = v354 from ev354)]; omega, by rw [(show zI s344 this 16 = v355 from ev355)]; omega⟩), isB1⟩ dX6_setting_155
          · skip
            obtain ⟨v356, ev356⟩ : ∃ zz9 : Int32, zI s330 this 14 = zz9 := ⟨_, rfl⟩
            have qv356 : v356.toInt = (zI s330 this 14).toInt := by rw [ev356]
            rw [(show zI s330 this 14 = v356 from ev356)] at c3
            obtain ⟨v357, ev357⟩ : ∃ zz9 : Int32, zI s330 this 17 = zz9 := ⟨_, rfl⟩
            have qv357 : v357.toInt = (zI s330 this 17).toInt := by rw [ev357]
            have b358 : isB v357 := by have q9 : isB (zI s330 this 17) := hT.P (hT.k t_this (by decide)) (by decide); rw [ev357] at q9; exact q9
            have b358t := isB_t b358
            rw [(show zI s330 this 17 = v357 from ev357)] at c4
            obtain ⟨v359, ev359⟩ : ∃ zz9 : Int32, zI s330 this 15 = zz9 := ⟨_, rfl⟩
            have qv359 : v359.toInt = (zI s330 this 15).toInt := by rw [ev359]
            have zthis15 : zI σ0 this 15 = v359 := zthis15.trans (cz326.symm.trans (c5.symm.trans ev359))
            obtain ⟨v360, ev360⟩ : ∃ zz9 : Int32, zI s330 this 16 = zz9 := ⟨_, rfl⟩
            have qv360 : v360.toInt = (zI s330 this 16).toInt := by rw [ev360]
            have zthis16 : zI σ0 this 16 = v360 := zthis16.trans (cz327.symm.trans (c6.symm.trans ev360))
            have hE8 := utkE_word (uIsW_K c2.1 c2.2)
            have hTo := hT
            refine pf20_22 hx hb hg hown hK hT (hT.k t_this (by decide)) rfl (hg _ k1241) dX6_setting_106 (fun H locs s361 hus361 hT => ?_)
            have ev7 : zI s361 this 20 = v7 := (zput_o hus361 (Or.inr (by decide))).trans ev7
            have ev8 : zI s361 this 21 = v8 := (zput_o hus361 (Or.inr (by decide))).trans ev8
            have ev10 : zI s361 this 19 = v10 := (zput_o hus361 (Or.inr (by decide))).trans ev10
            have ev322 : zI s361 this 23 = v322 := (zput_o hus361 (Or.inr (by decide))).trans ev322
            have ev356 : zI s361 this 14 = v356 := (zput_o hus361 (Or.inr (by decide))).trans ev356
            have ev357 : zI s361 this 17 = v357 := (zput_o hus361 (Or.inr (by decide))).trans ev357
            have ev359 : zI s361 this 15 = v359 := (zput_o hus361 (Or.inr (by decide))).trans ev359
            have ev360 : zI s361 this 16 = v360 := (zput_o hus361 (Or.inr (by decide))).trans ev360
            have e362 : zI s361 this 22 = x329 := zput_at hus361
            refine lv_goto (tgt := 150) hx hb dX6_setting_109 (by decide) ?_
            refine lv_aload_n hx hb dX6_setting_150 rfl (lv_at hl 0 rfl) ?_
            have cz363 : zI s361 this 15 = v359 := ev359
            have cz364 : zI s361 this 16 = v360 := ev360
            have cz365 : zI s361 this 17 = v357 := ev357
            have cz366 : zI s361 this 17 = v357 := ev357
            have hTo := hT
            refine tVv (n := 0) (As := []) (rest := []) hx hb hml hown hg hT hK hX (X6s_ends l κ s361 this  (hT.k t_this (by decide)) (hTX.tr (funext fun k => by rw [erT]; exact hT.eI trT (by decide) rfl rfl) (hT.eI t_this (by decide) rfl rfl)) (show (zI s361 this 17).toInt = 0 → (zI s361 this 14).toInt = (utkE tc Ln (unxt tc Ln ss) : Nat) ∧ utkE tc Ln (unxt tc Ln ss) ≤ Ln from fun q9 => ⟨by rw [(show zI s361 this 14 = v356 from ev356)]; omega, utkE_le (unxt_le hsl9)⟩)) sub_gHB_gS1 (mwV k1390 k1392 k49 k92 k1393) ⟨rfl, by decide, by decide, by decide +kernel⟩ ⟨(Nat.le_of_ble_eq_true rfl), (Nat.le_of_ble_eq_true rfl)⟩ (hT.o20 (hT.k t_this (by decide))) rfl rfl hl.1 rfl (Nat.le_of_ble_eq_true rfl) dX6_setting_151 zroom.rf (fun s368 H locs hφ hEs368 hT => ?_)
            have ev7 : zI s368 this 20 = v7 := ((hTo.k t_this (by decide)).eI hEs368 (by decide) rfl).trans ev7
            have ev8 : zI s368 this 21 = v8 := ((hTo.k t_this (by decide)).eI hEs368 (by decide) rfl).trans ev8
            have ev10 : zI s368 this 19 = v10 := ((hTo.k t_this (by decide)).eI hEs368 (by decide) rfl).trans ev10
            have ev322 : zI s368 this 23 = v322 := ((hTo.k t_this (by decide)).eI hEs368 (by decide) rfl).trans ev322
            have e362 : zI s368 this 22 = x329 := ((hTo.k t_this (by decide)).eI hEs368 (by decide) rfl).trans e362
            obtain ⟨f369, f370⟩ := hφ
            have d9 := f370 (show (zI s361 this 17).toInt = 0 from by rw [cz365]; omega)
            rw [show uscn uisBl tc Ln (utkE tc Ln (unxt tc Ln ss)) = unxt tc Ln (unxt tc Ln ss) from rfl] at d9
            rcases d9 with ⟨d1, d2, d3, d4, d5⟩ | ⟨d1, d2, d3, d4⟩
            · skip
              obtain ⟨v371, ev371⟩ : ∃ zz9 : Int32, zI s368 this 17 = zz9 := ⟨_, rfl⟩
              have qv371 : v371.toInt = (zI s368 this 17).toInt := by rw [ev371]
              have b372 : isB v371 := by have q9 : isB (zI s368 this 17) := hT.P (hT.k t_this (by decide)) (by decide); rw [ev371] at q9; exact q9
              have b372t := isB_t b372
              rw [(show zI s368 this 17 = v371 from ev371)] at d2
              obtain ⟨v373, ev373⟩ : ∃ zz9 : Int32, zI s368 this 14 = zz9 := ⟨_, rfl⟩
              have qv373 : v373.toInt = (zI s368 this 14).toInt := by rw [ev373]
              rw [(show zI s368 this 14 = v373 from ev373)] at d5
              obtain ⟨v374, ev374⟩ : ∃ zz9 : Int32, zI s368 this 15 = zz9 := ⟨_, rfl⟩
              have qv374 : v374.toInt = (zI s368 this 15).toInt := by rw [ev374]
              have zthis15 : zI σ0 this 15 = v374 := zthis15.trans (cz363.symm.trans (d3.symm.trans ev374))
              obtain ⟨v375, ev375⟩ : ∃ zz9 : Int32, zI s368 this 16 = zz9 := ⟨_, rfl⟩
              have qv375 : v375.toInt = (zI s368 this 16).toInt := by rw [ev375]
              have zthis16 : zI σ0 this 16 = v375 := zthis16.trans (cz364.symm.trans (d4.symm.trans ev375))
              refine lv_iconst (v := 1) hx hb dX6_setting_154 (by decide) ?_
              subst hQ9
              exact t_z hx hb hr isB1 hlocks hT ⟨Or.inr (Or.inl ⟨n1, by rw [(show zI s368 this 17 = v371 from ev371)]; omega, ⟨unxt tc Ln (unxt tc Ln (unxt tc Ln ss)), nb ||| 2 ^ 2, utkE tc Ln (unxt tc Ln (unxt tc Ln ss)), (fun j => if j = 2 then 1 else gg j), ⟨2, 1, by decide, by rw [hss]; exact ⟨by decide, w22⟩, hbt, by rw [hss]; exact (show uvIs (utkK tc Ln) (uvl tc Ln) (uWd tc Ln) 2 (unxt tc Ln ss) 1 from Or.inr (Or.inr (Or.inl ⟨rfl, 10, by decide, by decide, c2, by decide⟩))), by rw [hss]; exact d1, by rw [hss], rfl, rfl⟩, hb9.2.2.1, hb9.2.2.2.1 hbt, by rw [(show zI s368 this 14 = v373 from ev373)]; omega, utkE_le (unxt_le (unxt_le hsl9)), rfl, by rw [(show zI s368 this 23 = v322 from ev322)]; omega, (show GSm s368 this (fun j => if j = 2 then 1 else gg j) from ⟨by rw [(show zI s368 this 20 = v7 from ev7)]; exact gm11.1, by rw [(show zI s368 this 21 = v8 from ev8)]; exact gm11.2.1, by rw [(show zI s368 this 22 = x329 from e362)]; exact (show _ = (1 : Int) from by omega), by rw [(show zI s368 this 19 = v10 from ev10)]; exact gm11.2.2.2⟩)⟩, ((show zI s368 this 15 = v374 from ev374).trans zthis15.symm), ((show zI s368 this 16 = v375 from ev375).trans zthis16.symm)⟩), isB1⟩ dX6_setting_155
            · skip
              obtain ⟨v376, ev376⟩ : ∃ zz9 : Int32, zI s368 this 17 = zz9 := ⟨_, rfl⟩
              have qv376 : v376.toInt = (zI s368 this 17).toInt := by rw [ev376]
              have b377 : isB v376 := by have q9 : isB (zI s368 this 17) := hT.P (hT.k t_this (by decide)) (by decide); rw [ev376] at q9; exact q9
              have b377t := isB_t b377
              rw [(show zI s368 this 17 = v376 from ev376)] at d2
              obtain ⟨v378, ev378⟩ : ∃ zz9 : Int32, zI s368 this 15 = zz9 := ⟨_, rfl⟩
              have qv378 : v378.toInt = (zI s368 this 15).toInt := by rw [ev378]
              rw [(show zI s368 this 15 = v378 from ev378)] at d3
              obtain ⟨v379, ev379⟩ : ∃ zz9 : Int32, zI s368 this 16 = zz9 := ⟨_, rfl⟩
              have qv379 : v379.toInt = (zI s368 this 16).toInt := by rw [ev379]
              rw [(show zI s368 this 16 = v379 from ev379)] at d4
              refine lv_iconst (v := 1) hx hb dX6_setting_154 (by decide) ?_
              subst hQ9
              exact t_z hx hb hr isB1 hlocks hT ⟨Or.inr (Or.inr ⟨n1, by rw [(show zI s368 this 17 = v376 from ev376)]; omega, ⟨_, by rw [(show zI s368 this 23 = v322 from ev322)]; exact to9, hn9⟩, 1, ((unxt tc Ln (unxt tc Ln ss)) : Nat), ⟨2, by decide, by rw [hss]; exact ⟨by decide, w22⟩, by rw [hss]; exact Or.inr (Or.inr ⟨hbt, ⟨_, (show uvIs (utkK tc Ln) (uvl tc Ln) (uWd tc Ln) 2 (unxt tc Ln ss) 1 from Or.inr (Or.inr (Or.inl ⟨rfl, 10, by decide, by decide, c2, by decide⟩)))⟩, d1, rfl, rfl⟩)⟩, by decide, by rw [(show zI s368 this 15 = v378 from ev378)]; omega, by rw [(show zI s368 this 16 = v379 from ev379)]; omega⟩), isB1⟩ dX6_setting_155
          · skip
            exact absurd c2.1 (by decide)
          · skip
            obtain ⟨v380, ev380⟩ : ∃ zz9 : Int32, zI s330 this 17 = zz9 := ⟨_, rfl⟩
            have qv380 : v380.toInt = (zI s330 this 17).toInt := by rw [ev380]
            have b381 : isB v380 := by have q9 : isB (zI s330 this 17) := hT.P (hT.k t_this (by decide)) (by decide); rw [ev380] at q9; exact q9
            have b381t := isB_t b381
            rw [(show zI s330 this 17 = v380 from ev380)] at c5
            obtain ⟨v382, ev382⟩ : ∃ zz9 : Int32, zI s330 this 15 = zz9 := ⟨_, rfl⟩
            have qv382 : v382.toInt = (zI s330 this 15).toInt := by rw [ev382]
            rw [(show zI s330 this 15 = v382 from ev382)] at c6
            obtain ⟨v383, ev383⟩ : ∃ zz9 : Int32, zI s330 this 16 = zz9 := ⟨_, rfl⟩
            have qv383 : v383.toInt = (zI s330 this 16).toInt := by rw [ev383]
            rw [(show zI s330 this 16 = v383 from ev383)] at c7
            have hTo := hT
            refine pf20_22 hx hb hg hown hK hT (hT.k t_this (by decide)) rfl (hg _ k1241) dX6_setting_106 (fun H locs s384 hus384 hT => ?_)
            have ev7 : zI s384 this 20 = v7 := (zput_o hus384 (Or.inr (by decide))).trans ev7
            have ev8 : zI s384 this 21 = v8 := (zput_o hus384 (Or.inr (by decide))).trans ev8
            have ev10 : zI s384 this 19 = v10 := (zput_o hus384 (Or.inr (by decide))).trans ev10
            have ev322 : zI s384 this 23 = v322 := (zput_o hus384 (Or.inr (by decide))).trans ev322
            have ev380 : zI s384 this 17 = v380 := (zput_o hus384 (Or.inr (by decide))).trans ev380
            have ev382 : zI s384 this 15 = v382 := (zput_o hus384 (Or.inr (by decide))).trans ev382
            have ev383 : zI s384 this 16 = v383 := (zput_o hus384 (Or.inr (by decide))).trans ev383
            have e385 : zI s384 this 22 = x329 := zput_at hus384
            refine lv_goto (tgt := 150) hx hb dX6_setting_109 (by decide) ?_
            refine lv_aload_n hx hb dX6_setting_150 rfl (lv_at hl 0 rfl) ?_
            have cz386 : zI s384 this 15 = v382 := ev382
            have cz387 : zI s384 this 16 = v383 := ev383
            have cz388 : zI s384 this 17 = v380 := ev380
            have cz389 : zI s384 this 17 = v380 := ev380
            have hTo := hT
            refine tVv (n := 0) (As := []) (rest := []) hx hb hml hown hg hT hK hX (X6s_ends l κ s384 this  (hT.k t_this (by decide)) (hTX.tr (funext fun k => by rw [erT]; exact hT.eI trT (by decide) rfl rfl) (hT.eI t_this (by decide) rfl rfl)) (show (zI s384 this 17).toInt = 0 → (zI s384 this 14).toInt = ((0 : Nat) : Int) ∧ 0 ≤ Ln from fun q9 => absurd q9 (by rw [(show zI s384 this 17 = v380 from ev380)]; omega))) sub_gHB_gS1 (mwV k1390 k1392 k49 k92 k1393) ⟨rfl, by decide, by decide, by decide +kernel⟩ ⟨(Nat.le_of_ble_eq_true rfl), (Nat.le_of_ble_eq_true rfl)⟩ (hT.o20 (hT.k t_this (by decide))) rfl rfl hl.1 rfl (Nat.le_of_ble_eq_true rfl) dX6_setting_151 zroom.rf (fun s391 H locs hφ hEs391 hT => ?_)
            have ev7 : zI s391 this 20 = v7 := ((hTo.k t_this (by decide)).eI hEs391 (by decide) rfl).trans ev7
            have ev8 : zI s391 this 21 = v8 := ((hTo.k t_this (by decide)).eI hEs391 (by decide) rfl).trans ev8
            have ev10 : zI s391 this 19 = v10 := ((hTo.k t_this (by decide)).eI hEs391 (by decide) rfl).trans ev10
            have ev322 : zI s391 this 23 = v322 := ((hTo.k t_this (by decide)).eI hEs391 (by decide) rfl).trans ev322
            have e385 : zI s391 this 22 = x329 := ((hTo.k t_this (by decide)).eI hEs391 (by decide) rfl).trans e385
            obtain ⟨f392, f393⟩ := hφ
            obtain ⟨e394, e395, e396⟩ := f392 (show (zI s384 this 17).toInt = 1 from by rw [cz389]; omega)
            obtain ⟨v397, ev397⟩ : ∃ zz9 : Int32, zI s391 this 17 = zz9 := ⟨_, rfl⟩
            have qv397 : v397.toInt = (zI s391 this 17).toInt := by rw [ev397]
            have b398 : isB v397 := by have q9 : isB (zI s391 this 17) := hT.P (hT.k t_this (by decide)) (by decide); rw [ev397] at q9; exact q9
            have b398t := isB_t b398
            rw [(show zI s391 this 17 = v397 from ev397)] at e394
            rw [cz386] at e395
            rw [cz387] at e396
            refine lv_iconst (v := 1) hx hb dX6_setting_154 (by decide) ?_
            subst hQ9
            exact t_z hx hb hr isB1 hlocks hT ⟨Or.inr (Or.inr ⟨n1, by rw [(show zI s391 this 17 = v397 from ev397)]; omega, ⟨_, by rw [(show zI s391 this 23 = v322 from ev322)]; exact to9, hn9⟩, 1, ((unxt tc Ln ss) : Nat), ⟨2, by decide, by rw [hss]; exact ⟨by decide, w22⟩, by rw [hss]; exact Or.inr (Or.inl ⟨hbt, fun v q9 => by rcases q9 with ⟨q8, q7⟩ | ⟨q8, q7⟩ | ⟨q8, q7⟩ | ⟨q8, q7⟩ <;> first | (exact absurd q8 (by decide)) | (obtain ⟨j, q1, q2, q5, -⟩ := q7; rcases (show j = 10 ∨ j = 11 by omega) with rfl | rfl <;> first | exact c2 q5 | exact c3 q5 | exact c4 q5), Or.inr ⟨fun q9 => absurd q9.1 (by decide), rfl⟩, rfl⟩)⟩, by decide, by rw [(show zI s391 this 15 = v382 from e395)]; omega, by rw [(show zI s391 this 16 = v383 from e396)]; omega⟩), isB1⟩ dX6_setting_155
      · skip
        refine lv_if_eq (tgt := 112) hx hb dX6_setting_83 (by decide) (fun _ => ?_) (fun c9 => absurd (gi_ne c9) (by omega))
        refine lv_aload_n hx hb dX6_setting_112 rfl (lv_at hl 0 rfl) ?_
        refine lv_ldc2 hx hb hown (hg _ k1383) dX6_setting_113 ?_
        have cz399 : zI s290 this 15 = v5 := ev5
        have cz400 : zI s290 this 16 = v6 := ev6
        have cz401 : zI s290 this 17 = v1 := ev1
        have hTo := hT
        refine tVi (n := 1) (As := [.long 6476969]) (rest := []) hx hb hml hown hg hT hK hX (X6s_isWord l κ s290 this 6476969  (hT.k t_this (by decide)) (hTX.tr (funext fun k => by rw [erT]; exact hT.eI trT (by decide) rfl rfl) (hT.eI t_this (by decide) rfl rfl)) (show (zI s290 this 17).toInt = 0 → (zI s290 this 14).toInt = ((ss : Nat) : Int) ∧ ss ≤ Ln from fun q9 => ⟨by rw [(show zI s290 this 14 = v294 from ev294)]; omega, by omega⟩) (show encP 6476969 3 from ⟨by decide, by decide +kernel⟩)) sub_gH_gS1 (mwV k1337 k1339 k40 k92 k1340) ⟨rfl, by decide, by decide, by decide +kernel⟩ ⟨(Nat.le_of_ble_eq_true rfl), (Nat.le_of_ble_eq_true rfl)⟩ (hT.o20 (hT.k t_this (by decide))) rfl rfl hl.1 rfl (Nat.le_of_ble_eq_true rfl) dX6_setting_116 zroom.rf (fun x402 s403 H locs hφ hEs403 hT => ?_)
        have ev1 : zI s403 this 17 = v1 := ((hTo.k t_this (by decide)).eI hEs403 (by decide) rfl).trans ev1
        have ev4 : zI s403 this 23 = v4 := ((hTo.k t_this (by decide)).eI hEs403 (by decide) rfl).trans ev4
        have ev5 : zI s403 this 15 = v5 := ((hTo.k t_this (by decide)).eI hEs403 (by decide) rfl).trans ev5
        have ev6 : zI s403 this 16 = v6 := ((hTo.k t_this (by decide)).eI hEs403 (by decide) rfl).trans ev6
        have ev7 : zI s403 this 20 = v7 := ((hTo.k t_this (by decide)).eI hEs403 (by decide) rfl).trans ev7
        have ev8 : zI s403 this 21 = v8 := ((hTo.k t_this (by decide)).eI hEs403 (by decide) rfl).trans ev8
        have ev9 : zI s403 this 22 = v9 := ((hTo.k t_this (by decide)).eI hEs403 (by decide) rfl).trans ev9
        have ev10 : zI s403 this 19 = v10 := ((hTo.k t_this (by decide)).eI hEs403 (by decide) rfl).trans ev10
        obtain ⟨f404, f405, f406⟩ := hφ
        obtain ⟨a9, w9⟩ := f405 (show (zI s290 this 17).toInt = 0 from by rw [cz401]; omega)
        rw [hs2] at a9 w9
        obtain ⟨v407, ev407⟩ : ∃ zz9 : Int32, zI s403 this 14 = zz9 := ⟨_, rfl⟩
        have qv407 : v407.toInt = (zI s403 this 14).toInt := by rw [ev407]
        rw [(show zI s403 this 14 = v407 from ev407)] at a9
        rcases w9 with ⟨w31, w32⟩ | ⟨w31, w32⟩
        · skip
          have hE9 := utkE_word (uIsW_K (by decide) w32)
          refine lv_if_eq (tgt := 148) hx hb dX6_setting_119 (by decide) (fun c9 => absurd (gi_eq c9) (by omega)) (fun _ => ?_)
          refine lv_aload_n hx hb dX6_setting_122 rfl (lv_at hl 0 rfl) ?_
          refine lv_iconst (v := 3) hx hb dX6_setting_123 (by decide) ?_
          have cz408 : zI s403 this 15 = v5 := ev5
          have cz409 : zI s403 this 16 = v6 := ev6
          have cz410 : zI s403 this 17 = v1 := ev1
          have hTo := hT
          refine tVi (n := 1) (As := [.int 3]) (rest := []) hx hb hml hown hg hT hK hX (X6s_begins l κ s403 this 3  (hT.k t_this (by decide)) (hTX.tr (funext fun k => by rw [erT]; exact hT.eI trT (by decide) rfl rfl) (hT.eI t_this (by decide) rfl rfl)) (show (zI s403 this 17).toInt = 0 from by rw [(show zI s403 this 17 = v1 from ev1)]; omega) (show (zI s403 this 14).toInt = ((ss : Nat) : Int) from by rw [(show zI s403 this 14 = v407 from ev407)]; omega) hsl9 (show (zI s403 this 23).toInt = (nb : Nat) from by rw [(show zI s403 this 23 = v4 from ev4)]; omega) h5 (show (3 : Int32).toInt = ((3 : Nat) : Int) from n3) (by decide)) sub_gBe_gS1 (mwV k1357 k1359 k44 k92 k1360) ⟨rfl, by decide, by decide, by decide +kernel⟩ ⟨(Nat.le_of_ble_eq_true rfl), (Nat.le_of_ble_eq_true rfl)⟩ (hT.o20 (hT.k t_this (by decide))) rfl rfl hl.1 rfl (Nat.le_of_ble_eq_true rfl) dX6_setting_124 zroom.rf (fun x411 s412 H locs hφ hEs412 hT => ?_)
          have ev7 : zI s412 this 20 = v7 := ((hTo.k t_this (by decide)).eI hEs412 (by decide) rfl).trans ev7
          have ev8 : zI s412 this 21 = v8 := ((hTo.k t_this (by decide)).eI hEs412 (by decide) rfl).trans ev8
          have ev9 : zI s412 this 22 = v9 := ((hTo.k t_this (by decide)).eI hEs412 (by decide) rfl).trans ev9
          have ev10 : zI s412 this 19 = v10 := ((hTo.k t_this (by decide)).eI hEs412 (by decide) rfl).trans ev10
          obtain ⟨f413, f414⟩ := hφ
          rcases f413 with ⟨hbt, r0, wb91, wb92, wb93, to9⟩ | ⟨hbt, r1, bb9, sm9, to9, at9⟩
          · skip
            obtain ⟨v415, ev415⟩ : ∃ zz9 : Int32, zI s412 this 17 = zz9 := ⟨_, rfl⟩
            have qv415 : v415.toInt = (zI s412 this 17).toInt := by rw [ev415]
            have b416 : isB v415 := by have q9 : isB (zI s412 this 17) := hT.P (hT.k t_this (by decide)) (by decide); rw [ev415] at q9; exact q9
            have b416t := isB_t b416
            rw [(show zI s412 this 17 = v415 from ev415)] at wb91
            obtain ⟨v417, ev417⟩ : ∃ zz9 : Int32, zI s412 this 15 = zz9 := ⟨_, rfl⟩
            have qv417 : v417.toInt = (zI s412 this 15).toInt := by rw [ev417]
            rw [(show zI s412 this 15 = v417 from ev417)] at wb92
            obtain ⟨v418, ev418⟩ : ∃ zz9 : Int32, zI s412 this 16 = zz9 := ⟨_, rfl⟩
            have qv418 : v418.toInt = (zI s412 this 16).toInt := by rw [ev418]
            rw [(show zI s412 this 16 = v418 from ev418)] at wb93
            obtain ⟨v419, ev419⟩ : ∃ zz9 : Int32, zI s412 this 23 = zz9 := ⟨_, rfl⟩
            have qv419 : v419.toInt = (zI s412 this 23).toInt := by rw [ev419]
            rw [(show zI s412 this 23 = v419 from ev419)] at to9
            have hn9 := h5
            refine lv_if_eq (tgt := 150) hx hb dX6_setting_127 (by decide) (fun _ => ?_) (fun c9 => absurd (gi_ne c9) (by omega))
            refine lv_aload_n hx hb dX6_setting_150 rfl (lv_at hl 0 rfl) ?_
            have cz420 : zI s412 this 15 = v417 := ev417
            have cz421 : zI s412 this 16 = v418 := ev418
            have cz422 : zI s412 this 17 = v415 := ev415
            have cz423 : zI s412 this 17 = v415 := ev415
            have hTo := hT
            refine tVv (n := 0) (As := []) (rest := []) hx hb hml hown hg hT hK hX (X6s_ends l κ s412 this  (hT.k t_this (by decide)) (hTX.tr (funext fun k => by rw [erT]; exact hT.eI trT (by decide) rfl rfl) (hT.eI t_this (by decide) rfl rfl)) (show (zI s412 this 17).toInt = 0 → (zI s412 this 14).toInt = ((0 : Nat) : Int) ∧ 0 ≤ Ln from fun q9 => absurd q9 (by rw [(show zI s412 this 17 = v415 from ev415)]; omega))) sub_gHB_gS1 (mwV k1390 k1392 k49 k92 k1393) ⟨rfl, by decide, by decide, by decide +kernel⟩ ⟨(Nat.le_of_ble_eq_true rfl), (Nat.le_of_ble_eq_true rfl)⟩ (hT.o20 (hT.k t_this (by decide))) rfl rfl hl.1 rfl (Nat.le_of_ble_eq_true rfl) dX6_setting_151 zroom.rf (fun s425 H locs hφ hEs425 hT => ?_)
            have ev7 : zI s425 this 20 = v7 := ((hTo.k t_this (by decide)).eI hEs425 (by decide) rfl).trans ev7
            have ev8 : zI s425 this 21 = v8 := ((hTo.k t_this (by decide)).eI hEs425 (by decide) rfl).trans ev8
            have ev9 : zI s425 this 22 = v9 := ((hTo.k t_this (by decide)).eI hEs425 (by decide) rfl).trans ev9
            have ev10 : zI s425 this 19 = v10 := ((hTo.k t_this (by decide)).eI hEs425 (by decide) rfl).trans ev10
            have ev419 : zI s425 this 23 = v419 := ((hTo.k t_this (by decide)).eI hEs425 (by decide) rfl).trans ev419
            obtain ⟨f426, f427⟩ := hφ
            obtain ⟨e428, e429, e430⟩ := f426 (show (zI s412 this 17).toInt = 1 from by rw [cz423]; omega)
            obtain ⟨v431, ev431⟩ : ∃ zz9 : Int32, zI s425 this 17 = zz9 := ⟨_, rfl⟩
            have qv431 : v431.toInt = (zI s425 this 17).toInt := by rw [ev431]
            have b432 : isB v431 := by have q9 : isB (zI s425 this 17) := hT.P (hT.k t_this (by decide)) (by decide); rw [ev431] at q9; exact q9
            have b432t := isB_t b432
            rw [(show zI s425 this 17 = v431 from ev431)] at e428
            rw [cz420] at e429
            rw [cz421] at e430
            refine lv_iconst (v := 1) hx hb dX6_setting_154 (by decide) ?_
            subst hQ9
            exact t_z hx hb hr isB1 hlocks hT ⟨Or.inr (Or.inr ⟨n1, by rw [(show zI s425 this 17 = v431 from ev431)]; omega, ⟨_, by rw [(show zI s425 this 23 = v419 from ev419)]; exact to9, hn9⟩, 3, (ss : Nat), ⟨3, by decide, by rw [hss]; exact ⟨by decide, w32⟩, by rw [hss]; exact Or.inl ⟨hbt, rfl, rfl⟩⟩, by decide, by rw [(show zI s425 this 15 = v417 from e429)]; omega, by rw [(show zI s425 this 16 = v418 from e430)]; omega⟩), isB1⟩ dX6_setting_155
          · skip
            obtain ⟨v433, ev433⟩ : ∃ zz9 : Int32, zI s412 this 17 = zz9 := ⟨_, rfl⟩
            have qv433 : v433.toInt = (zI s412 this 17).toInt := by rw [ev433]
            have b434 : isB v433 := by have q9 : isB (zI s412 this 17) := hT.P (hT.k t_this (by decide)) (by decide); rw [ev433] at q9; exact q9
            have b434t := isB_t b434
            rw [(show zI s412 this 17 = v433 from ev433)] at bb9
            obtain ⟨v435, ev435⟩ : ∃ zz9 : Int32, zI s412 this 23 = zz9 := ⟨_, rfl⟩
            have qv435 : v435.toInt = (zI s412 this 23).toInt := by rw [ev435]
            rw [(show zI s412 this 23 = v435 from ev435)] at to9
            obtain ⟨v436, ev436⟩ : ∃ zz9 : Int32, zI s412 this 14 = zz9 := ⟨_, rfl⟩
            have qv436 : v436.toInt = (zI s412 this 14).toInt := by rw [ev436]
            rw [(show zI s412 this 14 = v436 from ev436)] at at9
            obtain ⟨v437, ev437⟩ : ∃ zz9 : Int32, zI s412 this 15 = zz9 := ⟨_, rfl⟩
            have qv437 : v437.toInt = (zI s412 this 15).toInt := by rw [ev437]
            have zthis15 : zI σ0 this 15 = v437 := zthis15.trans (cz408.symm.trans (sm9.1.symm.trans ev437))
            obtain ⟨v438, ev438⟩ : ∃ zz9 : Int32, zI s412 this 16 = zz9 := ⟨_, rfl⟩
            have qv438 : v438.toInt = (zI s412 this 16).toInt := by rw [ev438]
            have zthis16 : zI σ0 this 16 = v438 := zthis16.trans (cz409.symm.trans (sm9.2.symm.trans ev438))
            have hb9 := bits_d nb h5 3 (by decide)
            have hn9 := hb9.2.2.1
            refine lv_if_eq (tgt := 150) hx hb dX6_setting_127 (by decide) (fun c9 => absurd (gi_eq c9) (by omega)) (fun _ => ?_)
            refine lv_aload_n hx hb dX6_setting_130 rfl (lv_at hl 0 rfl) ?_
            refine lv_iconst (v := 2) hx hb dX6_setting_131 (by decide) ?_
            refine lv_bipush (v := 48) hx hb dX6_setting_132 (by decide) ?_
            have cz439 : zI s412 this 15 = v437 := ev437
            have cz440 : zI s412 this 16 = v438 := ev438
            have cz441 : zI s412 this 17 = v433 := ev433
            have hTo := hT
            refine tVv (n := 2) (As := [.int 2, .int 48]) (rest := []) hx hb hml hown hg hT hK hX (X6s_number l κ s412 this 2 48  (hT.k t_this (by decide)) (hTX.tr (funext fun k => by rw [erT]; exact hT.eI trT (by decide) rfl rfl) (hT.eI t_this (by decide) rfl rfl)) (show (zI s412 this 17).toInt = 0 → (zI s412 this 14).toInt = (utkE tc Ln ss : Nat) ∧ utkE tc Ln ss ≤ Ln from fun q9 => ⟨by rw [(show zI s412 this 14 = v436 from ev436)]; omega, utkE_le hsl9⟩)) sub_gN_gS1 (mwV k1384 k1386 k48 k92 k1387) ⟨rfl, by decide, by decide, by decide +kernel⟩ ⟨(Nat.le_of_ble_eq_true rfl), (Nat.le_of_ble_eq_true rfl)⟩ (hT.o20 (hT.k t_this (by decide))) rfl rfl hl.1 rfl (Nat.le_of_ble_eq_true rfl) dX6_setting_134 zroom.rf (fun s443 H locs hφ hEs443 hT => ?_)
            have ev7 : zI s443 this 20 = v7 := ((hTo.k t_this (by decide)).eI hEs443 (by decide) rfl).trans ev7
            have ev8 : zI s443 this 21 = v8 := ((hTo.k t_this (by decide)).eI hEs443 (by decide) rfl).trans ev8
            have ev9 : zI s443 this 22 = v9 := ((hTo.k t_this (by decide)).eI hEs443 (by decide) rfl).trans ev9
            have ev10 : zI s443 this 19 = v10 := ((hTo.k t_this (by decide)).eI hEs443 (by decide) rfl).trans ev10
            have ev435 : zI s443 this 23 = v435 := ((hTo.k t_this (by decide)).eI hEs443 (by decide) rfl).trans ev435
            obtain ⟨f444, f445⟩ := hφ
            have f445 := f445 (show (zI s412 this 17).toInt = 0 from by rw [cz441]; omega)
            rw [show uscn uisBl tc Ln (utkE tc Ln ss) = unxt tc Ln ss from rfl] at f445
            rcases f445 with ⟨c1, c2, c3, c4, c5, c6, c7, c8⟩ | ⟨co, c1, c2, c3, c4⟩
            · skip
              obtain ⟨v446, ev446⟩ : ∃ zz9 : Int32, zI s443 this 14 = zz9 := ⟨_, rfl⟩
              have qv446 : v446.toInt = (zI s443 this 14).toInt := by rw [ev446]
              rw [(show zI s443 this 14 = v446 from ev446)] at c2
              obtain ⟨v447, ev447⟩ : ∃ zz9 : Int32, zI s443 this 24 = zz9 := ⟨_, rfl⟩
              have qv447 : v447.toInt = (zI s443 this 24).toInt := by rw [ev447]
              rw [(show zI s443 this 24 = v447 from ev447)] at c3
              obtain ⟨v448, ev448⟩ : ∃ zz9 : Int32, zI s443 this 17 = zz9 := ⟨_, rfl⟩
              have qv448 : v448.toInt = (zI s443 this 17).toInt := by rw [ev448]
              have b449 : isB v448 := by have q9 : isB (zI s443 this 17) := hT.P (hT.k t_this (by decide)) (by decide); rw [ev448] at q9; exact q9
              have b449t := isB_t b449
              rw [(show zI s443 this 17 = v448 from ev448)] at c6
              obtain ⟨v450, ev450⟩ : ∃ zz9 : Int32, zI s443 this 15 = zz9 := ⟨_, rfl⟩
              have qv450 : v450.toInt = (zI s443 this 15).toInt := by rw [ev450]
              have zthis15 : zI σ0 this 15 = v450 := zthis15.trans (cz439.symm.trans (c7.symm.trans ev450))
              obtain ⟨v451, ev451⟩ : ∃ zz9 : Int32, zI s443 this 16 = zz9 := ⟨_, rfl⟩
              have qv451 : v451.toInt = (zI s443 this 16).toInt := by rw [ev451]
              have zthis16 : zI σ0 this 16 = v451 := zthis16.trans (cz440.symm.trans (c8.symm.trans ev451))
              refine lv_aload_n hx hb dX6_setting_137 rfl (lv_at hl 0 rfl) ?_
              refine lv_aload_n hx hb dX6_setting_138 rfl (lv_at hl 0 rfl) ?_
              refine va_get (D := κ.1) (ci := 6) (v := .int (zI s443 this 24)) (C := RX6) (T := TX6) (N := 27) hx hb hg inX6 hown hK (hT.o20 (hT.k t_this (by decide))).one 0 rfl rfl 24 (by decide) (hg _ k1243) (fun _ h9 => h9) rfl dX6_setting_139 ?_
              rw [ev447]
              have hTo := hT
              refine pf20_19 hx hb hg hown hK hT (hT.k t_this (by decide)) rfl (hg _ k1238) dX6_setting_142 (fun H locs s452 hus452 hT => ?_)
              have ev7 : zI s452 this 20 = v7 := (zput_o hus452 (Or.inr (by decide))).trans ev7
              have ev8 : zI s452 this 21 = v8 := (zput_o hus452 (Or.inr (by decide))).trans ev8
              have ev9 : zI s452 this 22 = v9 := (zput_o hus452 (Or.inr (by decide))).trans ev9
              have ev435 : zI s452 this 23 = v435 := (zput_o hus452 (Or.inr (by decide))).trans ev435
              have ev446 : zI s452 this 14 = v446 := (zput_o hus452 (Or.inr (by decide))).trans ev446
              have ev447 : zI s452 this 24 = v447 := (zput_o hus452 (Or.inr (by decide))).trans ev447
              have ev448 : zI s452 this 17 = v448 := (zput_o hus452 (Or.inr (by decide))).trans ev448
              have ev450 : zI s452 this 15 = v450 := (zput_o hus452 (Or.inr (by decide))).trans ev450
              have ev451 : zI s452 this 16 = v451 := (zput_o hus452 (Or.inr (by decide))).trans ev451
              have e453 : zI s452 this 19 = v447 := zput_at hus452
              refine lv_goto (tgt := 150) hx hb dX6_setting_145 (by decide) ?_
              refine lv_aload_n hx hb dX6_setting_150 rfl (lv_at hl 0 rfl) ?_
              have cz454 : zI s452 this 15 = v450 := ev450
              have cz455 : zI s452 this 16 = v451 := ev451
              have cz456 : zI s452 this 17 = v448 := ev448
              have cz457 : zI s452 this 17 = v448 := ev448
              have hTo := hT
              refine tVv (n := 0) (As := []) (rest := []) hx hb hml hown hg hT hK hX (X6s_ends l κ s452 this  (hT.k t_this (by decide)) (hTX.tr (funext fun k => by rw [erT]; exact hT.eI trT (by decide) rfl rfl) (hT.eI t_this (by decide) rfl rfl)) (show (zI s452 this 17).toInt = 0 → (zI s452 this 14).toInt = (utkE tc Ln (unxt tc Ln ss) : Nat) ∧ utkE tc Ln (unxt tc Ln ss) ≤ Ln from fun q9 => ⟨by rw [(show zI s452 this 14 = v446 from ev446)]; omega, utkE_le (unxt_le hsl9)⟩)) sub_gHB_gS1 (mwV k1390 k1392 k49 k92 k1393) ⟨rfl, by decide, by decide, by decide +kernel⟩ ⟨(Nat.le_of_ble_eq_true rfl), (Nat.le_of_ble_eq_true rfl)⟩ (hT.o20 (hT.k t_this (by decide))) rfl rfl hl.1 rfl (Nat.le_of_ble_eq_true rfl) dX6_setting_151 zroom.rf (fun s459 H locs hφ hEs459 hT => ?_)
              have ev7 : zI s459 this 20 = v7 := ((hTo.k t_this (by decide)).eI hEs459 (by decide) rfl).trans ev7
              have ev8 : zI s459 this 21 = v8 := ((hTo.k t_this (by decide)).eI hEs459 (by decide) rfl).trans ev8
              have ev9 : zI s459 this 22 = v9 := ((hTo.k t_this (by decide)).eI hEs459 (by decide) rfl).trans ev9
              have ev435 : zI s459 this 23 = v435 := ((hTo.k t_this (by decide)).eI hEs459 (by decide) rfl).trans ev435
              have ev447 : zI s459 this 24 = v447 := ((hTo.k t_this (by decide)).eI hEs459 (by decide) rfl).trans ev447
              have e453 : zI s459 this 19 = v447 := ((hTo.k t_this (by decide)).eI hEs459 (by decide) rfl).trans e453
              obtain ⟨f460, f461⟩ := hφ
              have d9 := f461 (show (zI s452 this 17).toInt = 0 from by rw [cz456]; omega)
              rw [show uscn uisBl tc Ln (utkE tc Ln (unxt tc Ln ss)) = unxt tc Ln (unxt tc Ln ss) from rfl] at d9
              rcases d9 with ⟨d1, d2, d3, d4, d5⟩ | ⟨d1, d2, d3, d4⟩
              · skip
                obtain ⟨v462, ev462⟩ : ∃ zz9 : Int32, zI s459 this 17 = zz9 := ⟨_, rfl⟩
                have qv462 : v462.toInt = (zI s459 this 17).toInt := by rw [ev462]
                have b463 : isB v462 := by have q9 : isB (zI s459 this 17) := hT.P (hT.k t_this (by decide)) (by decide); rw [ev462] at q9; exact q9
                have b463t := isB_t b463
                rw [(show zI s459 this 17 = v462 from ev462)] at d2
                obtain ⟨v464, ev464⟩ : ∃ zz9 : Int32, zI s459 this 14 = zz9 := ⟨_, rfl⟩
                have qv464 : v464.toInt = (zI s459 this 14).toInt := by rw [ev464]
                rw [(show zI s459 this 14 = v464 from ev464)] at d5
                obtain ⟨v465, ev465⟩ : ∃ zz9 : Int32, zI s459 this 15 = zz9 := ⟨_, rfl⟩
                have qv465 : v465.toInt = (zI s459 this 15).toInt := by rw [ev465]
                have zthis15 : zI σ0 this 15 = v465 := zthis15.trans (cz454.symm.trans (d3.symm.trans ev465))
                obtain ⟨v466, ev466⟩ : ∃ zz9 : Int32, zI s459 this 16 = zz9 := ⟨_, rfl⟩
                have qv466 : v466.toInt = (zI s459 this 16).toInt := by rw [ev466]
                have zthis16 : zI σ0 this 16 = v466 := zthis16.trans (cz455.symm.trans (d4.symm.trans ev466))
                refine lv_iconst (v := 1) hx hb dX6_setting_154 (by decide) ?_
                subst hQ9
                exact t_z hx hb hr isB1 hlocks hT ⟨Or.inr (Or.inl ⟨n1, by rw [(show zI s459 this 17 = v462 from ev462)]; omega, ⟨unxt tc Ln (unxt tc Ln (unxt tc Ln ss)), nb ||| 2 ^ 3, utkE tc Ln (unxt tc Ln (unxt tc Ln ss)), (fun j => if j = 3 then (uvl tc Ln (unxt tc Ln ss)) else gg j), ⟨3, (uvl tc Ln (unxt tc Ln ss)), by decide, by rw [hss]; exact ⟨by decide, w32⟩, hbt, by rw [hss]; exact (show uvIs (utkK tc Ln) (uvl tc Ln) (uWd tc Ln) 3 (unxt tc Ln ss) (uvl tc Ln (unxt tc Ln ss)) from Or.inr (Or.inr (Or.inr ⟨rfl, c1, by omega, by omega, rfl⟩))), by rw [hss]; exact d1, by rw [hss], rfl, rfl⟩, hb9.2.2.1, hb9.2.2.2.1 hbt, by rw [(show zI s459 this 14 = v464 from ev464)]; omega, utkE_le (unxt_le (unxt_le hsl9)), rfl, by rw [(show zI s459 this 23 = v435 from ev435)]; omega, (show GSm s459 this (fun j => if j = 3 then (uvl tc Ln (unxt tc Ln ss)) else gg j) from ⟨by rw [(show zI s459 this 20 = v7 from ev7)]; exact gm11.1, by rw [(show zI s459 this 21 = v8 from ev8)]; exact gm11.2.1, by rw [(show zI s459 this 22 = v9 from ev9)]; exact gm11.2.2.1, by rw [(show zI s459 this 19 = v447 from e453)]; exact (show _ = ((uvl tc Ln (unxt tc Ln ss)) : Int) from by omega)⟩)⟩, ((show zI s459 this 15 = v465 from ev465).trans zthis15.symm), ((show zI s459 this 16 = v466 from ev466).trans zthis16.symm)⟩), isB1⟩ dX6_setting_155
              · skip
                obtain ⟨v467, ev467⟩ : ∃ zz9 : Int32, zI s459 this 17 = zz9 := ⟨_, rfl⟩
                have qv467 : v467.toInt = (zI s459 this 17).toInt := by rw [ev467]
                have b468 : isB v467 := by have q9 : isB (zI s459 this 17) := hT.P (hT.k t_this (by decide)) (by decide); rw [ev467] at q9; exact q9
                have b468t := isB_t b468
                rw [(show zI s459 this 17 = v467 from ev467)] at d2
                obtain ⟨v469, ev469⟩ : ∃ zz9 : Int32, zI s459 this 15 = zz9 := ⟨_, rfl⟩
                have qv469 : v469.toInt = (zI s459 this 15).toInt := by rw [ev469]
                rw [(show zI s459 this 15 = v469 from ev469)] at d3
                obtain ⟨v470, ev470⟩ : ∃ zz9 : Int32, zI s459 this 16 = zz9 := ⟨_, rfl⟩
                have qv470 : v470.toInt = (zI s459 this 16).toInt := by rw [ev470]
                rw [(show zI s459 this 16 = v470 from ev470)] at d4
                refine lv_iconst (v := 1) hx hb dX6_setting_154 (by decide) ?_
                subst hQ9
                exact t_z hx hb hr isB1 hlocks hT ⟨Or.inr (Or.inr ⟨n1, by rw [(show zI s459 this 17 = v467 from ev467)]; omega, ⟨_, by rw [(show zI s459 this 23 = v435 from ev435)]; exact to9, hn9⟩, 1, ((unxt tc Ln (unxt tc Ln ss)) : Nat), ⟨3, by decide, by rw [hss]; exact ⟨by decide, w32⟩, by rw [hss]; exact Or.inr (Or.inr ⟨hbt, ⟨_, (show uvIs (utkK tc Ln) (uvl tc Ln) (uWd tc Ln) 3 (unxt tc Ln ss) (uvl tc Ln (unxt tc Ln ss)) from Or.inr (Or.inr (Or.inr ⟨rfl, c1, by omega, by omega, rfl⟩)))⟩, d1, rfl, rfl⟩)⟩, by decide, by rw [(show zI s459 this 15 = v469 from ev469)]; omega, by rw [(show zI s459 this 16 = v470 from ev470)]; omega⟩), isB1⟩ dX6_setting_155
            · skip
              obtain ⟨v471, ev471⟩ : ∃ zz9 : Int32, zI s443 this 17 = zz9 := ⟨_, rfl⟩
              have qv471 : v471.toInt = (zI s443 this 17).toInt := by rw [ev471]
              have b472 : isB v471 := by have q9 : isB (zI s443 this 17) := hT.P (hT.k t_this (by decide)) (by decide); rw [ev471] at q9; exact q9
              have b472t := isB_t b472
              rw [(show zI s443 this 17 = v471 from ev471)] at c2
              obtain ⟨v473, ev473⟩ : ∃ zz9 : Int32, zI s443 this 15 = zz9 := ⟨_, rfl⟩
              have qv473 : v473.toInt = (zI s443 this 15).toInt := by rw [ev473]
              rw [(show zI s443 this 15 = v473 from ev473)] at c3
              obtain ⟨v474, ev474⟩ : ∃ zz9 : Int32, zI s443 this 16 = zz9 := ⟨_, rfl⟩
              have qv474 : v474.toInt = (zI s443 this 16).toInt := by rw [ev474]
              rw [(show zI s443 this 16 = v474 from ev474)] at c4
              refine lv_aload_n hx hb dX6_setting_137 rfl (lv_at hl 0 rfl) ?_
              refine lv_aload_n hx hb dX6_setting_138 rfl (lv_at hl 0 rfl) ?_
              obtain ⟨v475, ev475⟩ : ∃ zz9 : Int32, zI s443 this 24 = zz9 := ⟨_, rfl⟩
              have qv475 : v475.toInt = (zI s443 this 24).toInt := by rw [ev475]
              refine va_get (D := κ.1) (ci := 6) (v := .int (zI s443 this 24)) (C := RX6) (T := TX6) (N := 27) hx hb hg inX6 hown hK (hT.o20 (hT.k t_this (by decide))).one 0 rfl rfl 24 (by decide) (hg _ k1243) (fun _ h9 => h9) rfl dX6_setting_139 ?_
              rw [ev475]
              have hTo := hT
              refine pf20_19 hx hb hg hown hK hT (hT.k t_this (by decide)) rfl (hg _ k1238) dX6_setting_142 (fun H locs s476 hus476 hT => ?_)
              have ev7 : zI s476 this 20 = v7 := (zput_o hus476 (Or.inr (by decide))).trans ev7
              have ev8 : zI s476 this 21 = v8 := (zput_o hus476 (Or.inr (by decide))).trans ev8
              have ev9 : zI s476 this 22 = v9 := (zput_o hus476 (Or.inr (by decide))).trans ev9
              have ev435 : zI s476 this 23 = v435 := (zput_o hus476 (Or.inr (by decide))).trans ev435
              have ev471 : zI s476 this 17 = v471 := (zput_o hus476 (Or.inr (by decide))).trans ev471
              have ev473 : zI s476 this 15 = v473 := (zput_o hus476 (Or.inr (by decide))).trans ev473
              have ev474 : zI s476 this 16 = v474 := (zput_o hus476 (Or.inr (by decide))).trans ev474
              have ev475 : zI s476 this 24 = v475 := (zput_o hus476 (Or.inr (by decide))).trans ev475
              have e477 : zI s476 this 19 = v475 := zput_at hus476
              refine lv_goto (tgt := 150) hx hb dX6_setting_145 (by decide) ?_
              refine lv_aload_n hx hb dX6_setting_150 rfl (lv_at hl 0 rfl) ?_
              have cz478 : zI s476 this 15 = v473 := ev473
              have cz479 : zI s476 this 16 = v474 := ev474
              have cz480 : zI s476 this 17 = v471 := ev471
              have cz481 : zI s476 this 17 = v471 := ev471
              have hTo := hT
              refine tVv (n := 0) (As := []) (rest := []) hx hb hml hown hg hT hK hX (X6s_ends l κ s476 this  (hT.k t_this (by decide)) (hTX.tr (funext fun k => by rw [erT]; exact hT.eI trT (by decide) rfl rfl) (hT.eI t_this (by decide) rfl rfl)) (show (zI s476 this 17).toInt = 0 → (zI s476 this 14).toInt = ((0 : Nat) : Int) ∧ 0 ≤ Ln from fun q9 => absurd q9 (by rw [(show zI s476 this 17 = v471 from ev471)]; omega))) sub_gHB_gS1 (mwV k1390 k1392 k49 k92 k1393) ⟨rfl, by decide, by decide, by decide +kernel⟩ ⟨(Nat.le_of_ble_eq_true rfl), (Nat.le_of_ble_eq_true rfl)⟩ (hT.o20 (hT.k t_this (by decide))) rfl rfl hl.1 rfl (Nat.le_of_ble_eq_true rfl) dX6_setting_151 zroom.rf (fun s483 H locs hφ hEs483 hT => ?_)
              have ev7 : zI s483 this 20 = v7 := ((hTo.k t_this (by decide)).eI hEs483 (by decide) rfl).trans ev7
              have ev8 : zI s483 this 21 = v8 := ((hTo.k t_this (by decide)).eI hEs483 (by decide) rfl).trans ev8
              have ev9 : zI s483 this 22 = v9 := ((hTo.k t_this (by decide)).eI hEs483 (by decide) rfl).trans ev9
              have ev435 : zI s483 this 23 = v435 := ((hTo.k t_this (by decide)).eI hEs483 (by decide) rfl).trans ev435
              have ev475 : zI s483 this 24 = v475 := ((hTo.k t_this (by decide)).eI hEs483 (by decide) rfl).trans ev475
              have e477 : zI s483 this 19 = v475 := ((hTo.k t_this (by decide)).eI hEs483 (by decide) rfl).trans e477
              obtain ⟨f484, f485⟩ := hφ
              obtain ⟨e486, e487, e488⟩ := f484 (show (zI s476 this 17).toInt = 1 from by rw [cz481]; omega)
              obtain ⟨v489, ev489⟩ : ∃ zz9 : Int32, zI s483 this 17 = zz9 := ⟨_, rfl⟩
              have qv489 : v489.toInt = (zI s483 this 17).toInt := by rw [ev489]
              have b490 : isB v489 := by have q9 : isB (zI s483 this 17) := hT.P (hT.k t_this (by decide)) (by decide); rw [ev489] at q9; exact q9
              have b490t := isB_t b490
              rw [(show zI s483 this 17 = v489 from ev489)] at e486
              rw [cz478] at e487
              rw [cz479] at e488
              refine lv_iconst (v := 1) hx hb dX6_setting_154 (by decide) ?_
              subst hQ9
              exact t_z hx hb hr isB1 hlocks hT ⟨Or.inr (Or.inr ⟨n1, by rw [(show zI s483 this 17 = v489 from ev489)]; omega, ⟨_, by rw [(show zI s483 this 23 = v435 from ev435)]; exact to9, hn9⟩, co, ((unxt tc Ln ss) : Nat), ⟨3, by decide, by rw [hss]; exact ⟨by decide, w32⟩, by rw [hss]; exact Or.inr (Or.inl ⟨hbt, fun v q9 => by rcases q9 with ⟨q8, q7⟩ | ⟨q8, q7⟩ | ⟨q8, q7⟩ | ⟨q8, q7, q6, q5, _⟩ <;> first | (exact absurd q8 (by decide)) | omega, c1.elim (fun q9 => Or.inr ⟨fun q8 => q9.1 q8.2, q9.2⟩) (fun q9 => Or.inl ⟨rfl, q9.1, q9.2.2⟩), rfl⟩)⟩, by omega, by rw [(show zI s483 this 15 = v473 from e487)]; omega, by rw [(show zI s483 this 16 = v474 from e488)]; omega⟩), isB1⟩ dX6_setting_155
        · skip
          refine lv_if_eq (tgt := 148) hx hb dX6_setting_119 (by decide) (fun _ => ?_) (fun c9 => absurd (gi_ne c9) (by omega))
          refine lv_iconst (v := 0) hx hb dX6_setting_148 (by decide) ?_
          subst hQ9
          exact t_z hx hb hr isB0 hlocks hT ⟨Or.inl ⟨n0, fun i hi q9 => by rcases (show i = 0 ∨ i = 1 ∨ i = 2 ∨ i = 3 by omega) with rfl | rfl | rfl | rfl <;> first | exact w02 (by rw [hss] at q9; exact q9.2) | exact w12 (by rw [hss] at q9; exact q9.2) | exact w22 (by rw [hss] at q9; exact q9.2) | exact w32 (by rw [hss] at q9; exact q9.2), by rw [(show zI s403 this 17 = v1 from ev1)]; omega, by rw [(show zI s403 this 14 = v407 from ev407), hss]; omega, (show GSm s403 this gg from ⟨by rw [(show zI s403 this 20 = v7 from ev7)]; exact gm11.1, by rw [(show zI s403 this 21 = v8 from ev8)]; exact gm11.2.1, by rw [(show zI s403 this 22 = v9 from ev9)]; exact gm11.2.2.1, by rw [(show zI s403 this 19 = v10 from ev10)]; exact gm11.2.2.2⟩), ((show zI s403 this 15 = v5 from ev5).trans zthis15.symm), ((show zI s403 this 16 = v6 from ev6).trans zthis16.symm), by rw [(show zI s403 this 23 = v4 from ev4)]; omega⟩, isB0⟩ dX6_setting_149
