/-! What the reference reads: the whole text -/
set_option maxHeartbeats 8000000 in
set_option maxRecDepth 100000 in
theorem X6s_reads (l : Launch) (κ : Kt) (σ0 : Gh) (this : Nat) {tc : Nat → Int} {Ln : Nat} (t_this : zk σ0 this 20) (h0 : TXm κ σ0 this tc Ln) (h1 : (zI σ0 this 17).toInt = 0) (h2 : (zI σ0 this 14).toInt = 0) (h3 : (zI σ0 this 18).toInt = 0) (h4 : (zI σ0 this 23).toInt = 0) (h5 : GSm σ0 this ugs0) : TC l yX6_reads cX6_reads 3 none 7 163 [.ref this] κ σ0 (tqv κ gS3 σ0 (fun (τ : Gh) => ((zI τ this 17).toInt = 1 ∨ (2 ≤ (zI τ this 18).toInt ∧ (zI τ this 18).toInt ≤ 48)) ∧ ((zI τ this 17).toInt = 1 ∨ PL (zI τ this 18).toInt.toNat (zI τ (kR κ this 25))) ∧ (∃ (x : uRd) (co po : Int), uRds tc Ln x co po ∧ (((zI τ this 17).toInt = 0 ∧ co = 0 ∧ (zI τ this 18).toInt = po ∧ GSm τ this x.2.2.2.2 ∧ zI τ this 15 = zI σ0 this 15 ∧ zI τ this 16 = zI σ0 this 16) ∨ ((zI τ this 17).toInt = 1 ∧ co ≠ 0 ∧ (zI τ this 15).toInt = co ∧ (zI τ this 16).toInt = po))))) := by
  refine TC.of gS3 (by decide +kernel) (Nat.le_of_ble_eq_true rfl) ?_
  intro p e s m below meth c ls hcs hK hX hT hl
  obtain ⟨hx, hb, hr, hml, hown, hg, hlocks, hin⟩ := hcs
  have hown : s.vm.findClass RX6 = some m.cls := hown
  have hl : lv_has ls 3 [(0, .ref this)] := hl
  have hT0 := hT
  have nm1 : ((-1) : Int32).toInt = (-1) := by decide
  have n0 : (0 : Int32).toInt = 0 := by decide
  have n1 : (1 : Int32).toInt = 1 := by decide
  have n2 : (2 : Int32).toInt = 2 := by decide
  have j47 : (47 : Int64).toInt = 47 := by decide
  generalize hQ9 : tQ _ _ _ _ _ _ = Q9
  have hTX := h0
  obtain ⟨rT, erT⟩ : ∃ z, kR κ this 12 = z := ⟨_, rfl⟩
  have trT : zk σ0 rT 23 := by rw [← erT]; exact hT0.ref t_this (by decide) (by decide) (by decide)
  have hpc : ∀ j, tc j = (zI σ0 rT j).toInt := by rw [← erT]; exact hTX.1
  have hLn : (zI σ0 this 13).toInt = Ln := hTX.2.1
  have hL7 : Ln ≤ 700 := hTX.2.2.1
  have hnn := hTX.2.2.2
  obtain ⟨rQ, erQ⟩ : ∃ z, kR κ this 25 = z := ⟨_, rfl⟩
  have trQ : zk σ0 rQ 27 := by rw [← erQ]; exact hT0.ref t_this (by decide) (by decide) (by decide)
  refine lv_iconst (v := 1) hx hb dX6_reads_0 (by decide) ?_
  refine lv_istore_n (lv' := [(1, .int 1), (0, .ref this)]) hx hb dX6_reads_1 rfl hl (by decide) rfl (fun ls hl => ?_)
  obtain ⟨v1, ev1⟩ : ∃ zz9 : Int32, zI σ0 this 18 = zz9 := ⟨_, rfl⟩
  have qv1 : v1.toInt = (zI σ0 this 18).toInt := by rw [ev1]
  have loop2 : ∀ (n9 : Nat) (iz : Int32) (u : Int32) (bb : Int32) (td : Int32) (H : Heap) (locs : List Loc) (sg : Gh) (ls : Array Slot), TS κ gS3 σ0 sg s H locs → (zI sg this 18 = v1) → (zI sg this 14 = u) → (zI sg this 17 = bb) → (zI sg this 23 = td) → (pc4 (ix td) ≤ 4) → (0 ≤ bb.toInt) → (bb.toInt ≤ 1) → (0 ≤ iz.toInt) → (iz.toInt ≤ 1) → ((bb.toInt = 0 ∧ ∃ (aa nb : Nat) (g : Nat → Int), u.toInt = (aa : Nat) ∧ aa ≤ Ln ∧ td.toInt = (nb : Nat) ∧ nb < 16 ∧ GSm sg this g ∧ zI sg this 15 = zI σ0 this 15 ∧ zI sg this 16 = zI σ0 this 16 ∧ ((iz.toInt = 1 ∧ utrt tc Ln (urd0 tc Ln) (false, (uscn uisBl tc Ln aa), nb, -1, g)) ∨ (iz.toInt = 0 ∧ utrt tc Ln (urd0 tc Ln) (true, (uscn uisBl tc Ln aa), 0, -1, g)))) ∨ (bb.toInt = 1 ∧ ∃ (x : uRd) (co po : Int), utrt tc Ln (urd0 tc Ln) x ∧ utfi tc Ln x co po ∧ co ≠ 0 ∧ (zI sg this 15).toInt = co ∧ (zI sg this 16).toInt = po)) → lv_has ls 3 [(1, .int iz), (0, .ref this)] → (20 * (1 - bb.toInt) + iz.toInt + 2 * (4 - (pc4 (ix td) : Int))) < n9 → tW p l e 7 163 κ s m #[.ref this] below meth c H locs Q9 (F0 m 2 ls []) := by
    intro n9
    induction n9 with
    | zero =>
      intro iz u bb td H locs sg ls hT kthis_18 kthis_14 kthis_17 kthis_23 q4 q5 q6 q7 q8 q3 hl hm9
      exfalso
      omega
    | succ n9 ih9 =>
      have ih2 := ih9
      clear ih9
      intro iz u bb td H locs s2 ls hT kthis_18 kthis_14 kthis_17 kthis_23 q4 q5 q6 q7 q8 q3 hl hm9
      have b3 : isB (zI s2 this 17) := hT.P (hT.k t_this (by decide)) (by decide)
      rw [kthis_17] at b3
      have b3t := isB_t b3
      rcases q3 with ⟨qb, aa, nb, g, y1, y2, y3, y4, y5, y6, y7, y8⟩ | ⟨qb, x9, co, po, z1, z2, z3, z4, z5⟩
      · skip
        obtain ⟨v4, ev4⟩ : ∃ zz9 : Int32, zI s2 this 15 = zz9 := ⟨_, rfl⟩
        have qv4 : v4.toInt = (zI s2 this 15).toInt := by rw [ev4]
        have zthis15 : zI σ0 this 15 = v4 := y6.symm.trans ev4
        obtain ⟨v5, ev5⟩ : ∃ zz9 : Int32, zI s2 this 16 = zz9 := ⟨_, rfl⟩
        have qv5 : v5.toInt = (zI s2 this 16).toInt := by rw [ev5]
        have zthis16 : zI σ0 this 16 = v5 := y7.symm.trans ev5
        obtain ⟨v6, ev6⟩ : ∃ zz9 : Int32, zI s2 this 20 = zz9 := ⟨_, rfl⟩
        have qv6 : v6.toInt = (zI s2 this 20).toInt := by rw [ev6]
        obtain ⟨v7, ev7⟩ : ∃ zz9 : Int32, zI s2 this 21 = zz9 := ⟨_, rfl⟩
        have qv7 : v7.toInt = (zI s2 this 21).toInt := by rw [ev7]
        obtain ⟨v8, ev8⟩ : ∃ zz9 : Int32, zI s2 this 22 = zz9 := ⟨_, rfl⟩
        have qv8 : v8.toInt = (zI s2 this 22).toInt := by rw [ev8]
        obtain ⟨v9, ev9⟩ : ∃ zz9 : Int32, zI s2 this 19 = zz9 := ⟨_, rfl⟩
        have qv9 : v9.toInt = (zI s2 this 19).toInt := by rw [ev9]
        have gm10 : v6.toInt = g 0 ∧ v7.toInt = g 1 ∧ v8.toInt = g 2 ∧ v9.toInt = g 3 := by have z9 := y5; unfold GSm at z9; rw [(show zI s2 this 20 = v6 from ev6), (show zI s2 this 21 = v7 from ev7), (show zI s2 this 22 = v8 from ev8), (show zI s2 this 19 = v9 from ev9)] at z9; exact z9
        refine lv_aload_n hx hb dX6_reads_2 rfl (lv_at hl 1 rfl) ?_
        refine va_get (D := κ.1) (ci := 6) (v := .int (zI s2 this 17)) (C := RX6) (T := TX6) (N := 27) hx hb hg inX6 hown hK (hT.o20 (hT.k t_this (by decide))).one 0 rfl rfl 17 (by decide) (hg _ k1236) (fun _ h9 => h9) rfl dX6_reads_3 ?_
        rw [kthis_17]
        refine lv_if_ne (tgt := 21) hx hb dX6_reads_6 (by decide) (fun c9 => absurd (gi_ne c9) (by omega)) (fun _ => ?_)
        refine lv_iload_n hx hb dX6_reads_9 rfl (lv_at hl 0 rfl) ?_
        refine lv_if_eq (tgt := 21) hx hb dX6_reads_10 (by decide) (fun c9 => ?_) (fun c9 => ?_)
        · have c1 := gi_eq c9
          have loop21 : ∀ (n9 : Nat)  (u2 : Int32) (b2 : Int32) (ns : Int32) (H : Heap) (locs : List Loc) (sg : Gh) (ls : Array Slot), TS κ gS3 σ0 sg s H locs → (zI sg this 14 = u2) → (zI sg this 17 = b2) → (zI sg this 18 = ns) → (0 ≤ b2.toInt) → (b2.toInt ≤ 1) → (0 ≤ ns.toInt) → (ns.toInt ≤ 48) → ((b2.toInt = 0 ∧ ∃ (aa nn : Nat) (vv : Int) (g : Nat → Int), u2.toInt = (aa : Nat) ∧ aa ≤ Ln ∧ ns.toInt = (nn : Nat) ∧ nn ≤ 48 ∧ utrt tc Ln (urd0 tc Ln) (true, (uscn uisBl tc Ln aa), nn, vv, g) ∧ GSm sg this g ∧ zI sg this 15 = zI σ0 this 15 ∧ zI sg this 16 = zI σ0 this 16 ∧ PL nn (zI sg rQ) ∧ ((nn = 0 ∧ vv = -1) ∨ (0 < nn ∧ (zI sg rQ (nn - 1)).toInt = vv)) ∧ -1 ≤ vv ∧ vv ≤ 9999) ∨ (b2.toInt = 1 ∧ ∃ (x : uRd) (co po : Int), utrt tc Ln (urd0 tc Ln) x ∧ utfi tc Ln x co po ∧ co ≠ 0 ∧ (zI sg this 15).toInt = co ∧ (zI sg this 16).toInt = po)) → lv_has ls 3 [(0, .ref this)] → (100 * (1 - b2.toInt) + (49 - ns.toInt)) < n9 → tW p l e 7 163 κ s m #[.ref this] below meth c H locs Q9 (F0 m 21 ls []) := by
            intro n9
            induction n9 with
            | zero =>
              intro u2 b2 ns H locs sg ls hT kthis_14 kthis_17 kthis_18 p4 p5 p6 p7 p3 hl hm9
              exfalso
              omega
            | succ n9 ih9 =>
              have ih21 := ih9
              clear ih9
              intro u2 b2 ns H locs s11 ls hT kthis_14 kthis_17 kthis_18 p4 p5 p6 p7 p3 hl hm9
              have b12 : isB (zI s11 this 17) := hT.P (hT.k t_this (by decide)) (by decide)
              rw [kthis_17] at b12
              have b12t := isB_t b12
              rcases p3 with ⟨pb, aa, nn, vv, g, y1, y2, y3, y4, y5, y6, y7, y8, y9, y10, y11, y12⟩ | ⟨pb, x9, co, po, z1, z2, z3, z4, z5⟩
              · skip
                obtain ⟨v13, ev13⟩ : ∃ zz9 : Int32, zI s11 this 15 = zz9 := ⟨_, rfl⟩
                have qv13 : v13.toInt = (zI s11 this 15).toInt := by rw [ev13]
                have zthis15 : zI σ0 this 15 = v13 := y7.symm.trans ev13
                obtain ⟨v14, ev14⟩ : ∃ zz9 : Int32, zI s11 this 16 = zz9 := ⟨_, rfl⟩
                have qv14 : v14.toInt = (zI s11 this 16).toInt := by rw [ev14]
                have zthis16 : zI σ0 this 16 = v14 := y8.symm.trans ev14
                obtain ⟨v15, ev15⟩ : ∃ zz9 : Int32, zI s11 this 20 = zz9 := ⟨_, rfl⟩
                have qv15 : v15.toInt = (zI s11 this 20).toInt := by rw [ev15]
                obtain ⟨v16, ev16⟩ : ∃ zz9 : Int32, zI s11 this 21 = zz9 := ⟨_, rfl⟩
                have qv16 : v16.toInt = (zI s11 this 21).toInt := by rw [ev16]
                obtain ⟨v17, ev17⟩ : ∃ zz9 : Int32, zI s11 this 22 = zz9 := ⟨_, rfl⟩
                have qv17 : v17.toInt = (zI s11 this 22).toInt := by rw [ev17]
                obtain ⟨v18, ev18⟩ : ∃ zz9 : Int32, zI s11 this 19 = zz9 := ⟨_, rfl⟩
                have qv18 : v18.toInt = (zI s11 this 19).toInt := by rw [ev18]
                have gm19 : v15.toInt = g 0 ∧ v16.toInt = g 1 ∧ v17.toInt = g 2 ∧ v18.toInt = g 3 := by have z9 := y6; unfold GSm at z9; rw [(show zI s11 this 20 = v15 from ev15), (show zI s11 this 21 = v16 from ev16), (show zI s11 this 22 = v17 from ev17), (show zI s11 this 19 = v18 from ev18)] at z9; exact z9
                refine lv_aload_n hx hb dX6_reads_21 rfl (lv_at hl 0 rfl) ?_
                refine lv_ldc2 hx hb hown (hg _ k1390) dX6_reads_22 ?_
                have cz20 : zI s11 this 15 = v13 := ev13
                have cz21 : zI s11 this 16 = v14 := ev14
                have cz22 : zI s11 this 17 = b2 := kthis_17
                have cz23 : zI s11 this 17 = b2 := kthis_17
                have cz24 : zI s11 this 15 = v13 := ev13
                have cz25 : zI s11 this 16 = v14 := ev14
                have hTo := hT
                refine tVi (n := 1) (As := [.long 47]) (rest := []) hx hb hml hown hg hT hK hX (X6s_isWord l κ s11 this 47  (hT.k t_this (by decide)) (hTX.tr (funext fun k => by rw [erT]; exact hT.eI trT (by decide) rfl rfl) (hT.eI t_this (by decide) rfl rfl)) (show (zI s11 this 17).toInt = 0 → (zI s11 this 14).toInt = ((aa : Nat) : Int) ∧ aa ≤ Ln from fun q9 => ⟨by rw [(show zI s11 this 14 = u2 from kthis_14)]; omega, by omega⟩) (show encP 47 12 from ⟨by decide, by decide +kernel⟩)) sub_gH_gS3 (mwV k1333 k1335 k40 k92 k1336) ⟨rfl, by decide, by decide, by decide +kernel⟩ ⟨(Nat.le_of_ble_eq_true rfl), (Nat.le_of_ble_eq_true rfl)⟩ (hT.o20 (hT.k t_this (by decide))) rfl rfl hl.1 rfl (Nat.le_of_ble_eq_true rfl) dX6_reads_25 zroom.rf (fun x26 s27 H locs hφ hEs27 hT => ?_)
                have kthis_17 : zI s27 this 17 = b2 := ((hTo.k t_this (by decide)).eI hEs27 (by decide) rfl).trans kthis_17
                have kthis_18 : zI s27 this 18 = ns := ((hTo.k t_this (by decide)).eI hEs27 (by decide) rfl).trans kthis_18
                have ev13 : zI s27 this 15 = v13 := ((hTo.k t_this (by decide)).eI hEs27 (by decide) rfl).trans ev13
                have ev14 : zI s27 this 16 = v14 := ((hTo.k t_this (by decide)).eI hEs27 (by decide) rfl).trans ev14
                have ev15 : zI s27 this 20 = v15 := ((hTo.k t_this (by decide)).eI hEs27 (by decide) rfl).trans ev15
                have ev16 : zI s27 this 21 = v16 := ((hTo.k t_this (by decide)).eI hEs27 (by decide) rfl).trans ev16
                have ev17 : zI s27 this 22 = v17 := ((hTo.k t_this (by decide)).eI hEs27 (by decide) rfl).trans ev17
                have ev18 : zI s27 this 19 = v18 := ((hTo.k t_this (by decide)).eI hEs27 (by decide) rfl).trans ev18
                have Y28 : PL nn (zI s27 rQ) := by first | (rw [show zI s27 rQ = zI s11 rQ from funext fun k => (hTo.k trQ (by decide)).eI hEs27 (by decide) rfl]; exact y9) | rw [show zI s27 rQ = zI s11 rQ from funext fun k => (hTo.k trQ (by decide)).eI hEs27 (by decide) rfl]
                have Y29 : (nn = 0 ∧ vv = -1) ∨ (0 < nn ∧ (zI s27 rQ (nn - 1)).toInt = vv) := by first | (rw [show zI s27 rQ = zI s11 rQ from funext fun k => (hTo.k trQ (by decide)).eI hEs27 (by decide) rfl]; exact y10) | rw [show zI s27 rQ = zI s11 rQ from funext fun k => (hTo.k trQ (by decide)).eI hEs27 (by decide) rfl]
                obtain ⟨f30, f31, f32⟩ := hφ
                obtain ⟨a9, w9⟩ := f31 (show (zI s11 this 17).toInt = 0 from by rw [cz22]; omega)
                obtain ⟨v33, ev33⟩ : ∃ zz9 : Int32, zI s27 this 14 = zz9 := ⟨_, rfl⟩
                have qv33 : v33.toInt = (zI s27 this 14).toInt := by rw [ev33]
                rw [(show zI s27 this 14 = v33 from ev33)] at a9
                rcases w9 with ⟨w1, w2⟩ | ⟨w1, w2⟩
                · skip
                  refine lv_if_eq (tgt := 38) hx hb dX6_reads_28 (by decide) (fun c9 => absurd (gi_eq c9) (by omega)) (fun _ => ?_)
                  refine lv_aload_n hx hb dX6_reads_31 rfl (lv_at hl 0 rfl) ?_
                  have cz34 : zI s27 this 15 = v13 := ev13
                  have cz35 : zI s27 this 16 = v14 := ev14
                  have cz36 : zI s27 this 17 = b2 := kthis_17
                  have hTo := hT
                  refine tVv (n := 0) (As := []) (rest := []) hx hb hml hown hg hT hK hX (X6s_sampleTold l κ s27 this  (hT.k t_this (by decide)) (hTX.tr (funext fun k => by rw [erT]; exact hT.eI trT (by decide) rfl rfl) (hT.eI t_this (by decide) rfl rfl)) (show (zI s27 this 17).toInt = 0 from by rw [(show zI s27 this 17 = b2 from kthis_17)]; omega) (show (zI s27 this 14).toInt = ((uscn uisBl tc Ln aa) : Nat) from by rw [(show zI s27 this 14 = v33 from ev33)]; omega) (uscn_le y2) ⟨by decide, w2⟩ (show (zI s27 this 18).toInt = (nn : Nat) from by rw [(show zI s27 this 18 = ns from kthis_18)]; omega) y4 (show (nn = 0 ∧ vv = -1) ∨ (0 < nn ∧ (zI s27 (kR κ this 25) (nn - 1)).toInt = vv) from by rw [erQ]; exact Y29) y11 y12) sub_gS2_gS3 (mwV k1391 k1393 k50 k92 k1394) ⟨rfl, by decide, by decide, by decide +kernel⟩ ⟨(Nat.le_of_ble_eq_true rfl), (Nat.le_of_ble_eq_true rfl)⟩ (hT.o20 (hT.k t_this (by decide))) rfl rfl hl.1 rfl (Nat.le_of_ble_eq_true rfl) dX6_reads_32 zroom.rf (fun s38 H locs hφ hEs38 hT => ?_)
                  have ev15 : zI s38 this 20 = v15 := ((hTo.k t_this (by decide)).eI hEs38 (by decide) rfl).trans ev15
                  have ev16 : zI s38 this 21 = v16 := ((hTo.k t_this (by decide)).eI hEs38 (by decide) rfl).trans ev16
                  have ev17 : zI s38 this 22 = v17 := ((hTo.k t_this (by decide)).eI hEs38 (by decide) rfl).trans ev17
                  have ev18 : zI s38 this 19 = v18 := ((hTo.k t_this (by decide)).eI hEs38 (by decide) rfl).trans ev18
                  have f39 := hφ
                  rcases f39 with ⟨t1, ⟨s9, a8, v9, t2, t3, t4, t5, t6, t7, t8, t9, t10⟩, t11, t12, t13⟩ | ⟨t1, t2, t3, co, po, t4, t5, t6, t7⟩
                  · skip
                    obtain ⟨v40, ev40⟩ : ∃ zz9 : Int32, zI s38 this 17 = zz9 := ⟨_, rfl⟩
                    have qv40 : v40.toInt = (zI s38 this 17).toInt := by rw [ev40]
                    have b41 : isB v40 := by have q9 : isB (zI s38 this 17) := hT.P (hT.k t_this (by decide)) (by decide); rw [ev40] at q9; exact q9
                    have b41t := isB_t b41
                    rw [(show zI s38 this 17 = v40 from ev40)] at t1
                    obtain ⟨v42, ev42⟩ : ∃ zz9 : Int32, zI s38 this 14 = zz9 := ⟨_, rfl⟩
                    have qv42 : v42.toInt = (zI s38 this 14).toInt := by rw [ev42]
                    rw [(show zI s38 this 14 = v42 from ev42)] at t3
                    obtain ⟨v43, ev43⟩ : ∃ zz9 : Int32, zI s38 this 18 = zz9 := ⟨_, rfl⟩
                    have qv43 : v43.toInt = (zI s38 this 18).toInt := by rw [ev43]
                    rw [(show zI s38 this 18 = v43 from ev43)] at t6
                    obtain ⟨v44, ev44⟩ : ∃ zz9 : Int32, zI s38 this 15 = zz9 := ⟨_, rfl⟩
                    have qv44 : v44.toInt = (zI s38 this 15).toInt := by rw [ev44]
                    have zthis15 : zI σ0 this 15 = v44 := zthis15.trans (cz34.symm.trans (t12.symm.trans ev44))
                    obtain ⟨v45, ev45⟩ : ∃ zz9 : Int32, zI s38 this 16 = zz9 := ⟨_, rfl⟩
                    have qv45 : v45.toInt = (zI s38 this 16).toInt := by rw [ev45]
                    have zthis16 : zI σ0 this 16 = v45 := zthis16.trans (cz35.symm.trans (t13.symm.trans ev45))
                    rw [erQ] at t8 t11
                    refine lv_goto (tgt := 21) hx hb dX6_reads_35 (by decide) ?_
                    exact ih21 v42 v40 v43 _ _ _ _ hT ev42 ev40 ev43 (by omega) (by omega) (by omega) (by omega) (Or.inl ⟨by omega, a8, nn + 1, v9, g, by omega, t4, by omega, by omega, by rw [t5]; exact urt_tl y5 (Or.inr ⟨rfl, _, _, _, t2, rfl⟩), (show GSm s38 this g from ⟨by rw [(show zI s38 this 20 = v15 from ev15)]; exact gm19.1, by rw [(show zI s38 this 21 = v16 from ev16)]; exact gm19.2.1, by rw [(show zI s38 this 22 = v17 from ev17)]; exact gm19.2.2.1, by rw [(show zI s38 this 19 = v18 from ev18)]; exact gm19.2.2.2⟩), ((show zI s38 this 15 = v44 from ev44).trans zthis15.symm), ((show zI s38 this 16 = v45 from ev45).trans zthis16.symm), PL_more Y28 t11 (by omega) (by rcases Y29 with q9 | q9; exact Or.inl q9.1; exact Or.inr (by omega)), Or.inr ⟨by omega, t8⟩, by omega, by omega⟩) hl (by omega)
                  · skip
                    obtain ⟨v46, ev46⟩ : ∃ zz9 : Int32, zI s38 this 17 = zz9 := ⟨_, rfl⟩
                    have qv46 : v46.toInt = (zI s38 this 17).toInt := by rw [ev46]
                    have b47 : isB v46 := by have q9 : isB (zI s38 this 17) := hT.P (hT.k t_this (by decide)) (by decide); rw [ev46] at q9; exact q9
                    have b47t := isB_t b47
                    rw [(show zI s38 this 17 = v46 from ev46)] at t1
                    obtain ⟨v48, ev48⟩ : ∃ zz9 : Int32, zI s38 this 18 = zz9 := ⟨_, rfl⟩
                    have qv48 : v48.toInt = (zI s38 this 18).toInt := by rw [ev48]
                    rw [(show zI s38 this 18 = v48 from ev48)] at t2
                    rw [(show zI s38 this 18 = v48 from ev48)] at t3
                    obtain ⟨v49, ev49⟩ : ∃ zz9 : Int32, zI s38 this 15 = zz9 := ⟨_, rfl⟩
                    have qv49 : v49.toInt = (zI s38 this 15).toInt := by rw [ev49]
                    rw [(show zI s38 this 15 = v49 from ev49)] at t6
                    obtain ⟨v50, ev50⟩ : ∃ zz9 : Int32, zI s38 this 16 = zz9 := ⟨_, rfl⟩
                    have qv50 : v50.toInt = (zI s38 this 16).toInt := by rw [ev50]
                    rw [(show zI s38 this 16 = v50 from ev50)] at t7
                    obtain ⟨v51, ev51⟩ : ∃ zz9 : Int32, zI s38 this 14 = zz9 := ⟨_, rfl⟩
                    have qv51 : v51.toInt = (zI s38 this 14).toInt := by rw [ev51]
                    refine lv_goto (tgt := 21) hx hb dX6_reads_35 (by decide) ?_
                    exact ih21 v51 v46 v48 _ _ _ _ hT ev51 ev46 ev48 (by omega) (by omega) (by omega) (by omega) (Or.inr ⟨by omega, (true, (uscn uisBl tc Ln aa), nn, vv, g), co, po, y5, Or.inr (Or.inl ⟨rfl, t4⟩), t5, by rw [(show zI s38 this 15 = v49 from ev49)]; exact t6, by rw [(show zI s38 this 16 = v50 from ev50)]; exact t7⟩) hl (by omega)
                · skip
                  refine lv_if_eq (tgt := 38) hx hb dX6_reads_28 (by decide) (fun _ => ?_) (fun c9 => absurd (gi_ne c9) (by omega))
                  refine lv_aload_n hx hb dX6_reads_38 rfl (lv_at hl 0 rfl) ?_
                  refine va_get (D := κ.1) (ci := 6) (v := .int (zI s27 this 17)) (C := RX6) (T := TX6) (N := 27) hx hb hg inX6 hown hK (hT.o20 (hT.k t_this (by decide))).one 0 rfl rfl 17 (by decide) (hg _ k1236) (fun _ h9 => h9) rfl dX6_reads_39 ?_
                  rw [kthis_17]
                  refine lv_if_ne (tgt := 75) hx hb dX6_reads_42 (by decide) (fun c9 => absurd (gi_ne c9) (by omega)) (fun _ => ?_)
                  refine lv_aload_n hx hb dX6_reads_45 rfl (lv_at hl 0 rfl) ?_
                  refine va_get (D := κ.1) (ci := 6) (v := .int (zI s27 this 18)) (C := RX6) (T := TX6) (N := 27) hx hb hg inX6 hown hK (hT.o20 (hT.k t_this (by decide))).one 0 rfl rfl 18 (by decide) (hg _ k1237) (fun _ h9 => h9) rfl dX6_reads_46 ?_
                  rw [kthis_18]
                  refine lv_iconst (v := 2) hx hb dX6_reads_49 (by decide) ?_
                  refine lv_icmp_lt (tgt := 61) hx hb dX6_reads_50 (by decide) (fun c9 => ?_) (fun c9 => ?_)
                  · have c2 := gi_lt c9
                    refine lv_aload_n hx hb dX6_reads_61 rfl (lv_at hl 0 rfl) ?_
                    have hTo := hT
                    refine tVi (n := 0) (As := []) (rest := []) hx hb hml hown hg hT hK hX (X6s_here l κ s27 this  (hT.k t_this (by decide)) (hTX.tr (funext fun k => by rw [erT]; exact hT.eI trT (by decide) rfl rfl) (hT.eI t_this (by decide) rfl rfl)) (show (zI s27 this 14).toInt = ((uscn uisBl tc Ln aa) : Nat) from by rw [(show zI s27 this 14 = v33 from ev33)]; omega) (uscn_le y2)) sub_gH_gS3 (mwV k1341 k1343 k42 k92 k1344) ⟨rfl, by decide, by decide, by decide +kernel⟩ ⟨(Nat.le_of_ble_eq_true rfl), (Nat.le_of_ble_eq_true rfl)⟩ (hT.o20 (hT.k t_this (by decide))) rfl rfl hl.1 rfl (Nat.le_of_ble_eq_true rfl) dX6_reads_62 zroom.rf (fun x52 s53 H locs hφ hEs53 hT => ?_)
                    have kthis_17 : zI s53 this 17 = b2 := ((hTo.k t_this (by decide)).eI hEs53 (by decide) rfl).trans kthis_17
                    have kthis_18 : zI s53 this 18 = ns := ((hTo.k t_this (by decide)).eI hEs53 (by decide) rfl).trans kthis_18
                    have ev13 : zI s53 this 15 = v13 := ((hTo.k t_this (by decide)).eI hEs53 (by decide) rfl).trans ev13
                    have ev14 : zI s53 this 16 = v14 := ((hTo.k t_this (by decide)).eI hEs53 (by decide) rfl).trans ev14
                    have ev15 : zI s53 this 20 = v15 := ((hTo.k t_this (by decide)).eI hEs53 (by decide) rfl).trans ev15
                    have ev16 : zI s53 this 21 = v16 := ((hTo.k t_this (by decide)).eI hEs53 (by decide) rfl).trans ev16
                    have ev17 : zI s53 this 22 = v17 := ((hTo.k t_this (by decide)).eI hEs53 (by decide) rfl).trans ev17
                    have ev18 : zI s53 this 19 = v18 := ((hTo.k t_this (by decide)).eI hEs53 (by decide) rfl).trans ev18
                    have Y54 : PL nn (zI s53 rQ) := by first | (rw [show zI s53 rQ = zI s27 rQ from funext fun k => (hTo.k trQ (by decide)).eI hEs53 (by decide) rfl]; exact Y28) | rw [show zI s53 rQ = zI s27 rQ from funext fun k => (hTo.k trQ (by decide)).eI hEs53 (by decide) rfl]
                    have Y55 : (nn = 0 ∧ vv = -1) ∨ (0 < nn ∧ (zI s53 rQ (nn - 1)).toInt = vv) := by first | (rw [show zI s53 rQ = zI s27 rQ from funext fun k => (hTo.k trQ (by decide)).eI hEs53 (by decide) rfl]; exact Y29) | rw [show zI s53 rQ = zI s27 rQ from funext fun k => (hTo.k trQ (by decide)).eI hEs53 (by decide) rfl]
                    obtain ⟨f56, f57⟩ := hφ
                    rw [uscn_id] at f56
                    obtain ⟨v58, ev58⟩ : ∃ zz9 : Int32, zI s53 this 14 = zz9 := ⟨_, rfl⟩
                    have qv58 : v58.toInt = (zI s53 this 14).toInt := by rw [ev58]
                    rw [(show zI s53 this 14 = v58 from ev58)] at f56
                    refine lv_istore_n (lv' := [(2, .int x52), (0, .ref this)]) hx hb dX6_reads_65 rfl hl (by decide) rfl (fun ls hl => ?_)
                    refine lv_aload_n hx hb dX6_reads_66 rfl (lv_at hl 1 rfl) ?_
                    refine lv_iconst (v := 1) hx hb dX6_reads_67 (by decide) ?_
                    refine lv_aload_n hx hb dX6_reads_68 rfl (lv_at hl 1 rfl) ?_
                    refine va_get (D := κ.1) (ci := 6) (v := .int (zI s53 this 14)) (C := RX6) (T := TX6) (N := 27) hx hb hg inX6 hown hK (hT.o20 (hT.k t_this (by decide))).one 0 rfl rfl 14 (by decide) (hg _ k1233) (fun _ h9 => h9) rfl dX6_reads_69 ?_
                    rw [ev58]
                    have cz59 : zI s53 this 17 = b2 := kthis_17
                    have hTo := hT
                    refine tVv (n := 2) (As := [.int 1, .int v58]) (rest := []) hx hb hml hown hg hT hK hX (X6s_wrong l κ s53 this 1 v58  (hT.k t_this (by decide)) ) sub_gB_gS3 (mwV k1357 k1359 k45 k92 k1360) ⟨rfl, by decide, by decide, by decide +kernel⟩ ⟨(Nat.le_of_ble_eq_true rfl), (Nat.le_of_ble_eq_true rfl)⟩ (hT.o20 (hT.k t_this (by decide))) rfl rfl hl.1 rfl (Nat.le_of_ble_eq_true rfl) dX6_reads_72 zroom.rf (fun s61 H locs hφ hEs61 hT => ?_)
                    have kthis_18 : zI s61 this 18 = ns := ((hTo.k t_this (by decide)).eI hEs61 (by decide) rfl).trans kthis_18
                    have ev15 : zI s61 this 20 = v15 := ((hTo.k t_this (by decide)).eI hEs61 (by decide) rfl).trans ev15
                    have ev16 : zI s61 this 21 = v16 := ((hTo.k t_this (by decide)).eI hEs61 (by decide) rfl).trans ev16
                    have ev17 : zI s61 this 22 = v17 := ((hTo.k t_this (by decide)).eI hEs61 (by decide) rfl).trans ev17
                    have ev18 : zI s61 this 19 = v18 := ((hTo.k t_this (by decide)).eI hEs61 (by decide) rfl).trans ev18
                    have ev58 : zI s61 this 14 = v58 := ((hTo.k t_this (by decide)).eI hEs61 (by decide) rfl).trans ev58
                    have Y62 : PL nn (zI s61 rQ) := by first | (rw [show zI s61 rQ = zI s53 rQ from funext fun k => (hTo.k trQ (by decide)).eI hEs61 (by decide) rfl]; exact Y54) | rw [show zI s61 rQ = zI s53 rQ from funext fun k => (hTo.k trQ (by decide)).eI hEs61 (by decide) rfl]
                    have Y63 : (nn = 0 ∧ vv = -1) ∨ (0 < nn ∧ (zI s61 rQ (nn - 1)).toInt = vv) := by first | (rw [show zI s61 rQ = zI s53 rQ from funext fun k => (hTo.k trQ (by decide)).eI hEs61 (by decide) rfl]; exact Y55) | rw [show zI s61 rQ = zI s53 rQ from funext fun k => (hTo.k trQ (by decide)).eI hEs61 (by decide) rfl]
                    have f64 := hφ
                    obtain ⟨wb91, wb92, wb93⟩ := (f64.resolve_left (fun q9 => by have z9 := q9.1; rw [cz59] at z9; omega)).2
                    subst hQ9
                    exact t_v hx hb hr hlocks hT ⟨Or.inl wb91, Or.inl wb91, (true, (uscn uisBl tc Ln aa), nn, vv, g), 1, ((uscn uisBl tc Ln aa) : Nat), ⟨y5, Or.inr (Or.inl ⟨rfl, Or.inl ⟨fun q9 => by have q8 := tk0_iff.mp (show utkK tc Ln (uscn uisBl tc Ln aa) = 0 from q9.1); have q7 : 2 ≤ nn := q9.2; omega, fun q9 => w2 q9.2, rfl, rfl⟩⟩)⟩, Or.inr ⟨wb91, by decide, by rw [wb92]; exact n1, by rw [wb93]; omega⟩⟩ dX6_reads_75
                  · have c3 := gi_nlt c9
                    refine lv_aload_n hx hb dX6_reads_53 rfl (lv_at hl 0 rfl) ?_
                    have hTo := hT
                    refine tVi (n := 0) (As := []) (rest := []) hx hb hml hown hg hT hK hX (X6s_here l κ s27 this  (hT.k t_this (by decide)) (hTX.tr (funext fun k => by rw [erT]; exact hT.eI trT (by decide) rfl rfl) (hT.eI t_this (by decide) rfl rfl)) (show (zI s27 this 14).toInt = ((uscn uisBl tc Ln aa) : Nat) from by rw [(show zI s27 this 14 = v33 from ev33)]; omega) (uscn_le y2)) sub_gH_gS3 (mwV k1341 k1343 k42 k92 k1344) ⟨rfl, by decide, by decide, by decide +kernel⟩ ⟨(Nat.le_of_ble_eq_true rfl), (Nat.le_of_ble_eq_true rfl)⟩ (hT.o20 (hT.k t_this (by decide))) rfl rfl hl.1 rfl (Nat.le_of_ble_eq_true rfl) dX6_reads_54 zroom.rf (fun x65 s66 H locs hφ hEs66 hT => ?_)
                    have kthis_17 : zI s66 this 17 = b2 := ((hTo.k t_this (by decide)).eI hEs66 (by decide) rfl).trans kthis_17
                    have kthis_18 : zI s66 this 18 = ns := ((hTo.k t_this (by decide)).eI hEs66 (by decide) rfl).trans kthis_18
                    have ev13 : zI s66 this 15 = v13 := ((hTo.k t_this (by decide)).eI hEs66 (by decide) rfl).trans ev13
                    have ev14 : zI s66 this 16 = v14 := ((hTo.k t_this (by decide)).eI hEs66 (by decide) rfl).trans ev14
                    have ev15 : zI s66 this 20 = v15 := ((hTo.k t_this (by decide)).eI hEs66 (by decide) rfl).trans ev15
                    have ev16 : zI s66 this 21 = v16 := ((hTo.k t_this (by decide)).eI hEs66 (by decide) rfl).trans ev16
                    have ev17 : zI s66 this 22 = v17 := ((hTo.k t_this (by decide)).eI hEs66 (by decide) rfl).trans ev17
                    have ev18 : zI s66 this 19 = v18 := ((hTo.k t_this (by decide)).eI hEs66 (by decide) rfl).trans ev18
                    have Y67 : PL nn (zI s66 rQ) := by first | (rw [show zI s66 rQ = zI s27 rQ from funext fun k => (hTo.k trQ (by decide)).eI hEs66 (by decide) rfl]; exact Y28) | rw [show zI s66 rQ = zI s27 rQ from funext fun k => (hTo.k trQ (by decide)).eI hEs66 (by decide) rfl]
                    have Y68 : (nn = 0 ∧ vv = -1) ∨ (0 < nn ∧ (zI s66 rQ (nn - 1)).toInt = vv) := by first | (rw [show zI s66 rQ = zI s27 rQ from funext fun k => (hTo.k trQ (by decide)).eI hEs66 (by decide) rfl]; exact Y29) | rw [show zI s66 rQ = zI s27 rQ from funext fun k => (hTo.k trQ (by decide)).eI hEs66 (by decide) rfl]
                    obtain ⟨f69, f70⟩ := hφ
                    rw [uscn_id] at f69 f70
                    obtain ⟨v71, ev71⟩ : ∃ zz9 : Int32, zI s66 this 14 = zz9 := ⟨_, rfl⟩
                    have qv71 : v71.toInt = (zI s66 this 14).toInt := by rw [ev71]
                    rw [(show zI s66 this 14 = v71 from ev71)] at f69
                    refine lv_iconst (v := (-1)) hx hb dX6_reads_57 (by decide) ?_
                    refine lv_icmp_eq (tgt := 75) hx hb dX6_reads_58 (by decide) (fun c9 => ?_) (fun c9 => ?_)
                    · have c4 := gi_eq c9
                      subst hQ9
                      exact t_v hx hb hr hlocks hT ⟨Or.inr ⟨by rw [(show zI s66 this 18 = ns from kthis_18)]; omega, by rw [(show zI s66 this 18 = ns from kthis_18)]; omega⟩, Or.inr (by rw [erQ, (show zI s66 this 18 = ns from kthis_18), show ns.toInt.toNat = nn from by omega]; exact Y67), (true, (uscn uisBl tc Ln aa), nn, vv, g), 0, (nn : Nat), ⟨y5, Or.inr (Or.inr ⟨rfl, ⟨(show utkK tc Ln (uscn uisBl tc Ln aa) = 0 from tk0_iff.mpr (by omega)), (show 2 ≤ nn from by omega)⟩, rfl, rfl⟩)⟩, Or.inl ⟨by rw [(show zI s66 this 17 = b2 from kthis_17)]; omega, rfl, by rw [(show zI s66 this 18 = ns from kthis_18)]; omega, (show GSm s66 this g from ⟨by rw [(show zI s66 this 20 = v15 from ev15)]; exact gm19.1, by rw [(show zI s66 this 21 = v16 from ev16)]; exact gm19.2.1, by rw [(show zI s66 this 22 = v17 from ev17)]; exact gm19.2.2.1, by rw [(show zI s66 this 19 = v18 from ev18)]; exact gm19.2.2.2⟩), ((show zI s66 this 15 = v13 from ev13).trans zthis15.symm), ((show zI s66 this 16 = v14 from ev14).trans zthis16.symm)⟩⟩ dX6_reads_75
                    · have c5 := gi_ne c9
                      refine lv_aload_n hx hb dX6_reads_61 rfl (lv_at hl 0 rfl) ?_
                      have hTo := hT
                      refine tVi (n := 0) (As := []) (rest := []) hx hb hml hown hg hT hK hX (X6s_here l κ s66 this  (hT.k t_this (by decide)) (hTX.tr (funext fun k => by rw [erT]; exact hT.eI trT (by decide) rfl rfl) (hT.eI t_this (by decide) rfl rfl)) (show (zI s66 this 14).toInt = ((uscn uisBl tc Ln aa) : Nat) from by rw [(show zI s66 this 14 = v71 from ev71)]; omega) (uscn_le y2)) sub_gH_gS3 (mwV k1341 k1343 k42 k92 k1344) ⟨rfl, by decide, by decide, by decide +kernel⟩ ⟨(Nat.le_of_ble_eq_true rfl), (Nat.le_of_ble_eq_true rfl)⟩ (hT.o20 (hT.k t_this (by decide))) rfl rfl hl.1 rfl (Nat.le_of_ble_eq_true rfl) dX6_reads_62 zroom.rf (fun x72 s73 H locs hφ hEs73 hT => ?_)
                      have kthis_17 : zI s73 this 17 = b2 := ((hTo.k t_this (by decide)).eI hEs73 (by decide) rfl).trans kthis_17
                      have kthis_18 : zI s73 this 18 = ns := ((hTo.k t_this (by decide)).eI hEs73 (by decide) rfl).trans kthis_18
                      have ev13 : zI s73 this 15 = v13 := ((hTo.k t_this (by decide)).eI hEs73 (by decide) rfl).trans ev13
                      have ev14 : zI s73 this 16 = v14 := ((hTo.k t_this (by decide)).eI hEs73 (by decide) rfl).trans ev14
                      have ev15 : zI s73 this 20 = v15 := ((hTo.k t_this (by decide)).eI hEs73 (by decide) rfl).trans ev15
                      have ev16 : zI s73 this 21 = v16 := ((hTo.k t_this (by decide)).eI hEs73 (by decide) rfl).trans ev16
                      have ev17 : zI s73 this 22 = v17 := ((hTo.k t_this (by decide)).eI hEs73 (by decide) rfl).trans ev17
                      have ev18 : zI s73 this 19 = v18 := ((hTo.k t_this (by decide)).eI hEs73 (by decide) rfl).trans ev18
                      have Y74 : PL nn (zI s73 rQ) := by first | (rw [show zI s73 rQ = zI s66 rQ from funext fun k => (hTo.k trQ (by decide)).eI hEs73 (by decide) rfl]; exact Y67) | rw [show zI s73 rQ = zI s66 rQ from funext fun k => (hTo.k trQ (by decide)).eI hEs73 (by decide) rfl]
                      have Y75 : (nn = 0 ∧ vv = -1) ∨ (0 < nn ∧ (zI s73 rQ (nn - 1)).toInt = vv) := by first | (rw [show zI s73 rQ = zI s66 rQ from funext fun k => (hTo.k trQ (by decide)).eI hEs73 (by decide) rfl]; exact Y68) | rw [show zI s73 rQ = zI s66 rQ from funext fun k => (hTo.k trQ (by decide)).eI hEs73 (by decide) rfl]
                      obtain ⟨f76, f77⟩ := hφ
                      rw [uscn_id] at f76
                      obtain ⟨v78, ev78⟩ : ∃ zz9 : Int32, zI s73 this 14 = zz9 := ⟨_, rfl⟩
                      have qv78 : v78.toInt = (zI s73 this 14).toInt := by rw [ev78]
                      rw [(show zI s73 this 14 = v78 from ev78)] at f76
                      refine lv_istore_n (lv' := [(2, .int x72), (0, .ref this)]) hx hb dX6_reads_65 rfl hl (by decide) rfl (fun ls hl => ?_)
                      refine lv_aload_n hx hb dX6_reads_66 rfl (lv_at hl 1 rfl) ?_
                      refine lv_iconst (v := 1) hx hb dX6_reads_67 (by decide) ?_
                      refine lv_aload_n hx hb dX6_reads_68 rfl (lv_at hl 1 rfl) ?_
                      refine va_get (D := κ.1) (ci := 6) (v := .int (zI s73 this 14)) (C := RX6) (T := TX6) (N := 27) hx hb hg inX6 hown hK (hT.o20 (hT.k t_this (by decide))).one 0 rfl rfl 14 (by decide) (hg _ k1233) (fun _ h9 => h9) rfl dX6_reads_69 ?_
                      rw [ev78]
                      have cz79 : zI s73 this 17 = b2 := kthis_17
                      have hTo := hT
                      refine tVv (n := 2) (As := [.int 1, .int v78]) (rest := []) hx hb hml hown hg hT hK hX (X6s_wrong l κ s73 this 1 v78  (hT.k t_this (by decide)) ) sub_gB_gS3 (mwV k1357 k1359 k45 k92 k1360) ⟨rfl, by decide, by decide, by decide +kernel⟩ ⟨(Nat.le_of_ble_eq_true rfl), (Nat.le_of_ble_eq_true rfl)⟩ (hT.o20 (hT.k t_this (by decide))) rfl rfl hl.1 rfl (Nat.le_of_ble_eq_true rfl) dX6_reads_72 zroom.rf (fun s81 H locs hφ hEs81 hT => ?_)
                      have kthis_18 : zI s81 this 18 = ns := ((hTo.k t_this (by decide)).eI hEs81 (by decide) rfl).trans kthis_18
                      have ev15 : zI s81 this 20 = v15 := ((hTo.k t_this (by decide)).eI hEs81 (by decide) rfl).trans ev15
                      have ev16 : zI s81 this 21 = v16 := ((hTo.k t_this (by decide)).eI hEs81 (by decide) rfl).trans ev16
                      have ev17 : zI s81 this 22 = v17 := ((hTo.k t_this (by decide)).eI hEs81 (by decide) rfl).trans ev17
                      have ev18 : zI s81 this 19 = v18 := ((hTo.k t_this (by decide)).eI hEs81 (by decide) rfl).trans ev18
                      have ev78 : zI s81 this 14 = v78 := ((hTo.k t_this (by decide)).eI hEs81 (by decide) rfl).trans ev78
                      have Y82 : PL nn (zI s81 rQ) := by first | (rw [show zI s81 rQ = zI s73 rQ from funext fun k => (hTo.k trQ (by decide)).eI hEs81 (by decide) rfl]; exact Y74) | rw [show zI s81 rQ = zI s73 rQ from funext fun k => (hTo.k trQ (by decide)).eI hEs81 (by decide) rfl]
                      have Y83 : (nn = 0 ∧ vv = -1) ∨ (0 < nn ∧ (zI s81 rQ (nn - 1)).toInt = vv) := by first | (rw [show zI s81 rQ = zI s73 rQ from funext fun k => (hTo.k trQ (by decide)).eI hEs81 (by decide) rfl]; exact Y75) | rw [show zI s81 rQ = zI s73 rQ from funext fun k => (hTo.k trQ (by decide)).eI hEs81 (by decide) rfl]
                      have f84 := hφ
                      obtain ⟨wb91, wb92, wb93⟩ := (f84.resolve_left (fun q9 => by have z9 := q9.1; rw [cz79] at z9; omega)).2
                      subst hQ9
                      exact t_v hx hb hr hlocks hT ⟨Or.inl wb91, Or.inl wb91, (true, (uscn uisBl tc Ln aa), nn, vv, g), 1, ((uscn uisBl tc Ln aa) : Nat), ⟨y5, Or.inr (Or.inl ⟨rfl, Or.inl ⟨fun q9 => by have q8 := tk0_iff.mp (show utkK tc Ln (uscn uisBl tc Ln aa) = 0 from q9.1); have q7 : 2 ≤ nn := q9.2; omega, fun q9 => w2 q9.2, rfl, rfl⟩⟩)⟩, Or.inr ⟨wb91, by decide, by rw [wb92]; exact n1, by rw [wb93]; omega⟩⟩ dX6_reads_75
              · skip
                refine lv_aload_n hx hb dX6_reads_21 rfl (lv_at hl 0 rfl) ?_
                refine lv_ldc2 hx hb hown (hg _ k1390) dX6_reads_22 ?_
                obtain ⟨v85, ev85⟩ : ∃ zz9 : Int32, zI s11 this 15 = zz9 := ⟨_, rfl⟩
                have qv85 : v85.toInt = (zI s11 this 15).toInt := by rw [ev85]
                have cz86 : zI s11 this 15 = v85 := ev85
                obtain ⟨v87, ev87⟩ : ∃ zz9 : Int32, zI s11 this 16 = zz9 := ⟨_, rfl⟩
                have qv87 : v87.toInt = (zI s11 this 16).toInt := by rw [ev87]
                have cz88 : zI s11 this 16 = v87 := ev87
                have cz89 : zI s11 this 17 = b2 := kthis_17
                have cz90 : zI s11 this 17 = b2 := kthis_17
                have cz91 : zI s11 this 15 = v85 := ev85
                have cz92 : zI s11 this 16 = v87 := ev87
                have hTo := hT
                refine tVi (n := 1) (As := [.long 47]) (rest := []) hx hb hml hown hg hT hK hX (X6s_isWord l κ s11 this 47  (hT.k t_this (by decide)) (hTX.tr (funext fun k => by rw [erT]; exact hT.eI trT (by decide) rfl rfl) (hT.eI t_this (by decide) rfl rfl)) (show (zI s11 this 17).toInt = 0 → (zI s11 this 14).toInt = ((0 : Nat) : Int) ∧ 0 ≤ Ln from fun q9 => absurd q9 (by rw [(show zI s11 this 17 = b2 from kthis_17)]; omega)) (show encP 47 12 from ⟨by decide, by decide +kernel⟩)) sub_gH_gS3 (mwV k1333 k1335 k40 k92 k1336) ⟨rfl, by decide, by decide, by decide +kernel⟩ ⟨(Nat.le_of_ble_eq_true rfl), (Nat.le_of_ble_eq_true rfl)⟩ (hT.o20 (hT.k t_this (by decide))) rfl rfl hl.1 rfl (Nat.le_of_ble_eq_true rfl) dX6_reads_25 zroom.rf (fun x93 s94 H locs hφ hEs94 hT => ?_)
                have kthis_17 : zI s94 this 17 = b2 := ((hTo.k t_this (by decide)).eI hEs94 (by decide) rfl).trans kthis_17
                have kthis_18 : zI s94 this 18 = ns := ((hTo.k t_this (by decide)).eI hEs94 (by decide) rfl).trans kthis_18
                have ev85 : zI s94 this 15 = v85 := ((hTo.k t_this (by decide)).eI hEs94 (by decide) rfl).trans ev85
                have ev87 : zI s94 this 16 = v87 := ((hTo.k t_this (by decide)).eI hEs94 (by decide) rfl).trans ev87
                obtain ⟨f95, f96, f97⟩ := hφ
                have w9 := (f95 (show (zI s11 this 17).toInt = 1 from by rw [cz90]; omega)).1
                refine lv_if_eq (tgt := 38) hx hb dX6_reads_28 (by decide) (fun _ => ?_) (fun c9 => absurd (gi_ne c9) (by omega))
                refine lv_aload_n hx hb dX6_reads_38 rfl (lv_at hl 0 rfl) ?_
                refine va_get (D := κ.1) (ci := 6) (v := .int (zI s94 this 17)) (C := RX6) (T := TX6) (N := 27) hx hb hg inX6 hown hK (hT.o20 (hT.k t_this (by decide))).one 0 rfl rfl 17 (by decide) (hg _ k1236) (fun _ h9 => h9) rfl dX6_reads_39 ?_
                rw [kthis_17]
                refine lv_if_ne (tgt := 75) hx hb dX6_reads_42 (by decide) (fun _ => ?_) (fun c9 => absurd (gi_eq c9) (by omega))
                subst hQ9
                exact t_v hx hb hr hlocks hT ⟨Or.inl (by rw [(show zI s94 this 17 = b2 from kthis_17)]; omega), Or.inl (by rw [(show zI s94 this 17 = b2 from kthis_17)]; omega), x9, co, po, ⟨z1, z2⟩, Or.inr ⟨by rw [(show zI s94 this 17 = b2 from kthis_17)]; omega, z3, by rw [(show zI s94 this 15 = v85 from ev85), ← cz91]; exact z4, by rw [(show zI s94 this 16 = v87 from ev87), ← cz92]; exact z5⟩⟩ dX6_reads_75
          exact loop21 ((100 * (1 - bb.toInt) + (49 - v1.toInt)).toNat + 1) u bb v1 _ _ _ _ hT kthis_14 kthis_17 kthis_18 (by omega) (by omega) (by omega) (by omega) (Or.inl ⟨by omega, aa, 0, -1, g, by omega, y2, by omega, by decide, (y8.resolve_left (fun q9 => by have z9 := q9.1; omega)).2, (show GSm s2 this g from ⟨by rw [(show zI s2 this 20 = v6 from ev6)]; exact gm10.1, by rw [(show zI s2 this 21 = v7 from ev7)]; exact gm10.2.1, by rw [(show zI s2 this 22 = v8 from ev8)]; exact gm10.2.2.1, by rw [(show zI s2 this 19 = v9 from ev9)]; exact gm10.2.2.2⟩), ((show zI s2 this 15 = v4 from ev4).trans zthis15.symm), ((show zI s2 this 16 = v5 from ev5).trans zthis16.symm), fun k hk => absurd hk (by omega), Or.inl ⟨rfl, rfl⟩, by decide, by decide⟩) (lv_sub hl [1] rfl) (by omega)
        · have c6 := gi_ne c9
          have y9 := (y8.resolve_right (fun q9 => by have z9 := q9.1; omega)).2
          refine lv_aload_n hx hb dX6_reads_13 rfl (lv_at hl 1 rfl) ?_
          have cz98 : zI s2 this 15 = v4 := ev4
          have cz99 : zI s2 this 16 = v5 := ev5
          have cz100 : zI s2 this 17 = bb := kthis_17
          have hTo := hT
          refine tVi (n := 0) (As := []) (rest := []) hx hb hml hown hg hT hK hX (X6s_setting l κ s2 this  (hT.k t_this (by decide)) (hTX.tr (funext fun k => by rw [erT]; exact hT.eI trT (by decide) rfl rfl) (hT.eI t_this (by decide) rfl rfl)) (show (zI s2 this 17).toInt = 0 from by rw [(show zI s2 this 17 = bb from kthis_17)]; omega) (show (zI s2 this 14).toInt = ((aa : Nat) : Int) from by rw [(show zI s2 this 14 = u from kthis_14)]; omega) y2 (show (zI s2 this 23).toInt = (nb : Nat) from by rw [(show zI s2 this 23 = td from kthis_23)]; omega) y4 (show GSm s2 this g from ⟨by rw [(show zI s2 this 20 = v6 from ev6)]; exact gm10.1, by rw [(show zI s2 this 21 = v7 from ev7)]; exact gm10.2.1, by rw [(show zI s2 this 22 = v8 from ev8)]; exact gm10.2.2.1, by rw [(show zI s2 this 19 = v9 from ev9)]; exact gm10.2.2.2⟩)) sub_gS1_gS3 (mwV k1328 k1330 k39 k92 k1331) ⟨rfl, by decide, by decide, by decide +kernel⟩ ⟨(Nat.le_of_ble_eq_true rfl), (Nat.le_of_ble_eq_true rfl)⟩ (hT.o20 (hT.k t_this (by decide))) rfl rfl hl.1 rfl (Nat.le_of_ble_eq_true rfl) dX6_reads_14 zroom.rf (fun x101 s102 H locs hφ hEs102 hT => ?_)
          have kthis_18 : zI s102 this 18 = v1 := ((hTo.k t_this (by decide)).eI hEs102 (by decide) rfl).trans kthis_18
          obtain ⟨f103, f104⟩ := hφ
          rcases f103 with ⟨s1, s2, s3, s4, s5, s6, s7, s8⟩ | ⟨s1, s2, ⟨s9, n9, a9, g9, t1, t2, t3, t4, t5, t6, t7, t8⟩, s3, s4⟩ | ⟨s1, s2, ⟨n9, t1, t2⟩, co, po, t3, t4, t5, t6⟩
          · skip
            obtain ⟨v105, ev105⟩ : ∃ zz9 : Int32, zI s102 this 17 = zz9 := ⟨_, rfl⟩
            have qv105 : v105.toInt = (zI s102 this 17).toInt := by rw [ev105]
            have b106 : isB v105 := by have q9 : isB (zI s102 this 17) := hT.P (hT.k t_this (by decide)) (by decide); rw [ev105] at q9; exact q9
            have b106t := isB_t b106
            rw [(show zI s102 this 17 = v105 from ev105)] at s3
            obtain ⟨v107, ev107⟩ : ∃ zz9 : Int32, zI s102 this 14 = zz9 := ⟨_, rfl⟩
            have qv107 : v107.toInt = (zI s102 this 14).toInt := by rw [ev107]
            rw [(show zI s102 this 14 = v107 from ev107)] at s4
            obtain ⟨v108, ev108⟩ : ∃ zz9 : Int32, zI s102 this 23 = zz9 := ⟨_, rfl⟩
            have qv108 : v108.toInt = (zI s102 this 23).toInt := by rw [ev108]
            rw [(show zI s102 this 23 = v108 from ev108)] at s8
            obtain ⟨v109, ev109⟩ : ∃ zz9 : Int32, zI s102 this 15 = zz9 := ⟨_, rfl⟩
            have qv109 : v109.toInt = (zI s102 this 15).toInt := by rw [ev109]
            have zthis15 : zI σ0 this 15 = v109 := zthis15.trans (cz98.symm.trans (s6.symm.trans ev109))
            obtain ⟨v110, ev110⟩ : ∃ zz9 : Int32, zI s102 this 16 = zz9 := ⟨_, rfl⟩
            have qv110 : v110.toInt = (zI s102 this 16).toInt := by rw [ev110]
            have zthis16 : zI σ0 this 16 = v110 := zthis16.trans (cz99.symm.trans (s7.symm.trans ev110))
            obtain ⟨v111, ev111⟩ : ∃ zz9 : Int32, zI s102 this 20 = zz9 := ⟨_, rfl⟩
            have qv111 : v111.toInt = (zI s102 this 20).toInt := by rw [ev111]
            obtain ⟨v112, ev112⟩ : ∃ zz9 : Int32, zI s102 this 21 = zz9 := ⟨_, rfl⟩
            have qv112 : v112.toInt = (zI s102 this 21).toInt := by rw [ev112]
            obtain ⟨v113, ev113⟩ : ∃ zz9 : Int32, zI s102 this 22 = zz9 := ⟨_, rfl⟩
            have qv113 : v113.toInt = (zI s102 this 22).toInt := by rw [ev113]
            obtain ⟨v114, ev114⟩ : ∃ zz9 : Int32, zI s102 this 19 = zz9 := ⟨_, rfl⟩
            have qv114 : v114.toInt = (zI s102 this 19).toInt := by rw [ev114]
            have gm115 : v111.toInt = g 0 ∧ v112.toInt = g 1 ∧ v113.toInt = g 2 ∧ v114.toInt = g 3 := by have z9 := s5; unfold GSm at z9; rw [(show zI s102 this 20 = v111 from ev111), (show zI s102 this 21 = v112 from ev112), (show zI s102 this 22 = v113 from ev113), (show zI s102 this 19 = v114 from ev114)] at z9; exact z9
            refine lv_istore_n (lv' := [(1, .int x101), (0, .ref this)]) hx hb dX6_reads_17 rfl hl (by decide) rfl (fun ls hl => ?_)
            refine lv_goto (tgt := 2) hx hb dX6_reads_18 (by decide) ?_
            have ix9 : ix v108 = nb := by unfold ix; omega
            have ix8 : ix td = nb := by unfold ix; omega
            have px9 : pc4 (ix v108) = pc4 nb := by rw [ix9]
            rw [ix8] at hm9 q4
            exact ih2 x101 v107 v105 v108 _ _ _ _ hT kthis_18 ev107 ev105 ev108 (show pc4 (ix v108) ≤ 4 from by rw [show ix v108 = nb from by unfold ix; omega]; exact pc4_le y4) (by omega) (by omega) (by omega) (by omega) (Or.inl ⟨by omega, (uscn uisBl tc Ln aa), nb, g, by omega, uscn_le y2, by omega, y4, (show GSm s102 this g from ⟨by rw [(show zI s102 this 20 = v111 from ev111)]; exact gm115.1, by rw [(show zI s102 this 21 = v112 from ev112)]; exact gm115.2.1, by rw [(show zI s102 this 22 = v113 from ev113)]; exact gm115.2.2.1, by rw [(show zI s102 this 19 = v114 from ev114)]; exact gm115.2.2.2⟩), ((show zI s102 this 15 = v109 from ev109).trans zthis15.symm), ((show zI s102 this 16 = v110 from ev110).trans zthis16.symm), Or.inr ⟨by omega, by rw [uscn_id]; exact urt_tl y9 (Or.inl ⟨rfl, Or.inr ⟨s2, rfl⟩⟩)⟩⟩) hl (by omega)
          · skip
            obtain ⟨v116, ev116⟩ : ∃ zz9 : Int32, zI s102 this 17 = zz9 := ⟨_, rfl⟩
            have qv116 : v116.toInt = (zI s102 this 17).toInt := by rw [ev116]
            have b117 : isB v116 := by have q9 : isB (zI s102 this 17) := hT.P (hT.k t_this (by decide)) (by decide); rw [ev116] at q9; exact q9
            have b117t := isB_t b117
            rw [(show zI s102 this 17 = v116 from ev116)] at s2
            obtain ⟨v118, ev118⟩ : ∃ zz9 : Int32, zI s102 this 14 = zz9 := ⟨_, rfl⟩
            have qv118 : v118.toInt = (zI s102 this 14).toInt := by rw [ev118]
            rw [(show zI s102 this 14 = v118 from ev118)] at t4
            obtain ⟨v119, ev119⟩ : ∃ zz9 : Int32, zI s102 this 23 = zz9 := ⟨_, rfl⟩
            have qv119 : v119.toInt = (zI s102 this 23).toInt := by rw [ev119]
            rw [(show zI s102 this 23 = v119 from ev119)] at t7
            obtain ⟨v120, ev120⟩ : ∃ zz9 : Int32, zI s102 this 15 = zz9 := ⟨_, rfl⟩
            have qv120 : v120.toInt = (zI s102 this 15).toInt := by rw [ev120]
            have zthis15 : zI σ0 this 15 = v120 := zthis15.trans (cz98.symm.trans (s3.symm.trans ev120))
            obtain ⟨v121, ev121⟩ : ∃ zz9 : Int32, zI s102 this 16 = zz9 := ⟨_, rfl⟩
            have qv121 : v121.toInt = (zI s102 this 16).toInt := by rw [ev121]
            have zthis16 : zI σ0 this 16 = v121 := zthis16.trans (cz99.symm.trans (s4.symm.trans ev121))
            obtain ⟨v122, ev122⟩ : ∃ zz9 : Int32, zI s102 this 20 = zz9 := ⟨_, rfl⟩
            have qv122 : v122.toInt = (zI s102 this 20).toInt := by rw [ev122]
            obtain ⟨v123, ev123⟩ : ∃ zz9 : Int32, zI s102 this 21 = zz9 := ⟨_, rfl⟩
            have qv123 : v123.toInt = (zI s102 this 21).toInt := by rw [ev123]
            obtain ⟨v124, ev124⟩ : ∃ zz9 : Int32, zI s102 this 22 = zz9 := ⟨_, rfl⟩
            have qv124 : v124.toInt = (zI s102 this 22).toInt := by rw [ev124]
            obtain ⟨v125, ev125⟩ : ∃ zz9 : Int32, zI s102 this 19 = zz9 := ⟨_, rfl⟩
            have qv125 : v125.toInt = (zI s102 this 19).toInt := by rw [ev125]
            have gm126 : v122.toInt = g9 0 ∧ v123.toInt = g9 1 ∧ v124.toInt = g9 2 ∧ v125.toInt = g9 3 := by have z9 := t8; unfold GSm at z9; rw [(show zI s102 this 20 = v122 from ev122), (show zI s102 this 21 = v123 from ev123), (show zI s102 this 22 = v124 from ev124), (show zI s102 this 19 = v125 from ev125)] at z9; exact z9
            refine lv_istore_n (lv' := [(1, .int x101), (0, .ref this)]) hx hb dX6_reads_17 rfl hl (by decide) rfl (fun ls hl => ?_)
            refine lv_goto (tgt := 2) hx hb dX6_reads_18 (by decide) ?_
            have ix9 : ix v119 = n9 := by unfold ix; omega
            have ix8 : ix td = nb := by unfold ix; omega
            have px9 : pc4 (ix v119) = pc4 n9 := by rw [ix9]
            rw [ix8] at hm9 q4
            exact ih2 x101 v118 v116 v119 _ _ _ _ hT kthis_18 ev118 ev116 ev119 (show pc4 (ix v119) ≤ 4 from by rw [show ix v119 = n9 from by unfold ix; omega]; exact pc4_le t2) (by omega) (by omega) (by omega) (by omega) (Or.inl ⟨by omega, a9, n9, g9, by omega, t5, by omega, t2, (show GSm s102 this g9 from ⟨by rw [(show zI s102 this 20 = v122 from ev122)]; exact gm126.1, by rw [(show zI s102 this 21 = v123 from ev123)]; exact gm126.2.1, by rw [(show zI s102 this 22 = v124 from ev124)]; exact gm126.2.2.1, by rw [(show zI s102 this 19 = v125 from ev125)]; exact gm126.2.2.2⟩), ((show zI s102 this 15 = v120 from ev120).trans zthis15.symm), ((show zI s102 this 16 = v121 from ev121).trans zthis16.symm), Or.inl ⟨by omega, by rw [t6]; exact urt_tl y9 (Or.inl ⟨rfl, Or.inl ⟨_, _, _, t1, rfl⟩⟩)⟩⟩) hl (by omega)
          · skip
            obtain ⟨v127, ev127⟩ : ∃ zz9 : Int32, zI s102 this 17 = zz9 := ⟨_, rfl⟩
            have qv127 : v127.toInt = (zI s102 this 17).toInt := by rw [ev127]
            have b128 : isB v127 := by have q9 : isB (zI s102 this 17) := hT.P (hT.k t_this (by decide)) (by decide); rw [ev127] at q9; exact q9
            have b128t := isB_t b128
            rw [(show zI s102 this 17 = v127 from ev127)] at s2
            obtain ⟨v129, ev129⟩ : ∃ zz9 : Int32, zI s102 this 23 = zz9 := ⟨_, rfl⟩
            have qv129 : v129.toInt = (zI s102 this 23).toInt := by rw [ev129]
            rw [(show zI s102 this 23 = v129 from ev129)] at t1
            obtain ⟨v130, ev130⟩ : ∃ zz9 : Int32, zI s102 this 15 = zz9 := ⟨_, rfl⟩
            have qv130 : v130.toInt = (zI s102 this 15).toInt := by rw [ev130]
            rw [(show zI s102 this 15 = v130 from ev130)] at t5
            obtain ⟨v131, ev131⟩ : ∃ zz9 : Int32, zI s102 this 16 = zz9 := ⟨_, rfl⟩
            have qv131 : v131.toInt = (zI s102 this 16).toInt := by rw [ev131]
            rw [(show zI s102 this 16 = v131 from ev131)] at t6
            obtain ⟨v132, ev132⟩ : ∃ zz9 : Int32, zI s102 this 14 = zz9 := ⟨_, rfl⟩
            have qv132 : v132.toInt = (zI s102 this 14).toInt := by rw [ev132]
            refine lv_istore_n (lv' := [(1, .int x101), (0, .ref this)]) hx hb dX6_reads_17 rfl hl (by decide) rfl (fun ls hl => ?_)
            refine lv_goto (tgt := 2) hx hb dX6_reads_18 (by decide) ?_
            have ix9 : ix v129 = n9 := by unfold ix; omega
            have ix8 : ix td = nb := by unfold ix; omega
            have px9 : pc4 (ix v129) = pc4 n9 := by rw [ix9]
            rw [ix8] at hm9 q4
            exact ih2 x101 v132 v127 v129 _ _ _ _ hT kthis_18 ev132 ev127 ev129 (show pc4 (ix v129) ≤ 4 from by rw [show ix v129 = n9 from by unfold ix; omega]; exact pc4_le t2) (by omega) (by omega) (by omega) (by omega) (Or.inr ⟨by omega, (false, (uscn uisBl tc Ln aa), nb, -1, g), co, po, y9, Or.inl ⟨rfl, t3⟩, t4, by rw [(show zI s102 this 15 = v130 from ev130)]; exact t5, by rw [(show zI s102 this 16 = v131 from ev131)]; exact t6⟩) hl (by omega)
      · skip
        refine lv_aload_n hx hb dX6_reads_2 rfl (lv_at hl 1 rfl) ?_
        refine va_get (D := κ.1) (ci := 6) (v := .int (zI s2 this 17)) (C := RX6) (T := TX6) (N := 27) hx hb hg inX6 hown hK (hT.o20 (hT.k t_this (by decide))).one 0 rfl rfl 17 (by decide) (hg _ k1236) (fun _ h9 => h9) rfl dX6_reads_3 ?_
        rw [kthis_17]
        refine lv_if_ne (tgt := 21) hx hb dX6_reads_6 (by decide) (fun _ => ?_) (fun c9 => absurd (gi_eq c9) (by omega))
        have loop21 : ∀ (n9 : Nat)  (u2 : Int32) (b2 : Int32) (ns : Int32) (H : Heap) (locs : List Loc) (sg : Gh) (ls : Array Slot), TS κ gS3 σ0 sg s H locs → (zI sg this 14 = u2) → (zI sg this 17 = b2) → (zI sg this 18 = ns) → (0 ≤ b2.toInt) → (b2.toInt ≤ 1) → (0 ≤ ns.toInt) → (ns.toInt ≤ 48) → ((b2.toInt = 0 ∧ ∃ (aa nn : Nat) (vv : Int) (g : Nat → Int), u2.toInt = (aa : Nat) ∧ aa ≤ Ln ∧ ns.toInt = (nn : Nat) ∧ nn ≤ 48 ∧ utrt tc Ln (urd0 tc Ln) (true, (uscn uisBl tc Ln aa), nn, vv, g) ∧ GSm sg this g ∧ zI sg this 15 = zI σ0 this 15 ∧ zI sg this 16 = zI σ0 this 16 ∧ PL nn (zI sg rQ) ∧ ((nn = 0 ∧ vv = -1) ∨ (0 < nn ∧ (zI sg rQ (nn - 1)).toInt = vv)) ∧ -1 ≤ vv ∧ vv ≤ 9999) ∨ (b2.toInt = 1 ∧ ∃ (x : uRd) (co po : Int), utrt tc Ln (urd0 tc Ln) x ∧ utfi tc Ln x co po ∧ co ≠ 0 ∧ (zI sg this 15).toInt = co ∧ (zI sg this 16).toInt = po)) → lv_has ls 3 [(0, .ref this)] → (100 * (1 - b2.toInt) + (49 - ns.toInt)) < n9 → tW p l e 7 163 κ s m #[.ref this] below meth c H locs Q9 (F0 m 21 ls []) := by
          intro n9
          induction n9 with
          | zero =>
            intro u2 b2 ns H locs sg ls hT kthis_14 kthis_17 kthis_18 p4 p5 p6 p7 p3 hl hm9
            exfalso
            omega
          | succ n9 ih9 =>
            have ih21 := ih9
            clear ih9
            intro u2 b2 ns H locs s133 ls hT kthis_14 kthis_17 kthis_18 p4 p5 p6 p7 p3 hl hm9
            have b134 : isB (zI s133 this 17) := hT.P (hT.k t_this (by decide)) (by decide)
            rw [kthis_17] at b134
            have b134t := isB_t b134
            rcases p3 with ⟨pb, aa, nn, vv, g, y1, y2, y3, y4, y5, y6, y7, y8, y9, y10, y11, y12⟩ | ⟨pb, x9, co, po, z1, z2, z3, z4, z5⟩
            · skip
              obtain ⟨v135, ev135⟩ : ∃ zz9 : Int32, zI s133 this 15 = zz9 := ⟨_, rfl⟩
              have qv135 : v135.toInt = (zI s133 this 15).toInt := by rw [ev135]
              have zthis15 : zI σ0 this 15 = v135 := y7.symm.trans ev135
              obtain ⟨v136, ev136⟩ : ∃ zz9 : Int32, zI s133 this 16 = zz9 := ⟨_, rfl⟩
              have qv136 : v136.toInt = (zI s133 this 16).toInt := by rw [ev136]
              have zthis16 : zI σ0 this 16 = v136 := y8.symm.trans ev136
              obtain ⟨v137, ev137⟩ : ∃ zz9 : Int32, zI s133 this 20 = zz9 := ⟨_, rfl⟩
              have qv137 : v137.toInt = (zI s133 this 20).toInt := by rw [ev137]
              obtain ⟨v138, ev138⟩ : ∃ zz9 : Int32, zI s133 this 21 = zz9 := ⟨_, rfl⟩
              have qv138 : v138.toInt = (zI s133 this 21).toInt := by rw [ev138]
              obtain ⟨v139, ev139⟩ : ∃ zz9 : Int32, zI s133 this 22 = zz9 := ⟨_, rfl⟩
              have qv139 : v139.toInt = (zI s133 this 22).toInt := by rw [ev139]
              obtain ⟨v140, ev140⟩ : ∃ zz9 : Int32, zI s133 this 19 = zz9 := ⟨_, rfl⟩
              have qv140 : v140.toInt = (zI s133 this 19).toInt := by rw [ev140]
              have gm141 : v137.toInt = g 0 ∧ v138.toInt = g 1 ∧ v139.toInt = g 2 ∧ v140.toInt = g 3 := by have z9 := y6; unfold GSm at z9; rw [(show zI s133 this 20 = v137 from ev137), (show zI s133 this 21 = v138 from ev138), (show zI s133 this 22 = v139 from ev139), (show zI s133 this 19 = v140 from ev140)] at z9; exact z9
              refine lv_aload_n hx hb dX6_reads_21 rfl (lv_at hl 0 rfl) ?_
              refine lv_ldc2 hx hb hown (hg _ k1390) dX6_reads_22 ?_
              have cz142 : zI s133 this 15 = v135 := ev135
              have cz143 : zI s133 this 16 = v136 := ev136
              have cz144 : zI s133 this 17 = b2 := kthis_17
              have cz145 : zI s133 this 17 = b2 := kthis_17
              have cz146 : zI s133 this 15 = v135 := ev135
              have cz147 : zI s133 this 16 = v136 := ev136
              have hTo := hT
              refine tVi (n := 1) (As := [.long 47]) (rest := []) hx hb hml hown hg hT hK hX (X6s_isWord l κ s133 this 47  (hT.k t_this (by decide)) (hTX.tr (funext fun k => by rw [erT]; exact hT.eI trT (by decide) rfl rfl) (hT.eI t_this (by decide) rfl rfl)) (show (zI s133 this 17).toInt = 0 → (zI s133 this 14).toInt = ((aa : Nat) : Int) ∧ aa ≤ Ln from fun q9 => ⟨by rw [(show zI s133 this 14 = u2 from kthis_14)]; omega, by omega⟩) (show encP 47 12 from ⟨by decide, by decide +kernel⟩)) sub_gH_gS3 (mwV k1333 k1335 k40 k92 k1336) ⟨rfl, by decide, by decide, by decide +kernel⟩ ⟨(Nat.le_of_ble_eq_true rfl), (Nat.le_of_ble_eq_true rfl)⟩ (hT.o20 (hT.k t_this (by decide))) rfl rfl hl.1 rfl (Nat.le_of_ble_eq_true rfl) dX6_reads_25 zroom.rf (fun x148 s149 H locs hφ hEs149 hT => ?_)
              have kthis_17 : zI s149 this 17 = b2 := ((hTo.k t_this (by decide)).eI hEs149 (by decide) rfl).trans kthis_17
              have kthis_18 : zI s149 this 18 = ns := ((hTo.k t_this (by decide)).eI hEs149 (by decide) rfl).trans kthis_18
              have ev135 : zI s149 this 15 = v135 := ((hTo.k t_this (by decide)).eI hEs149 (by decide) rfl).trans ev135
              have ev136 : zI s149 this 16 = v136 := ((hTo.k t_this (by decide)).eI hEs149 (by decide) rfl).trans ev136
              have ev137 : zI s149 this 20 = v137 := ((hTo.k t_this (by decide)).eI hEs149 (by decide) rfl).trans ev137
              have ev138 : zI s149 this 21 = v138 := ((hTo.k t_this (by decide)).eI hEs149 (by decide) rfl).trans ev138
              have ev139 : zI s149 this 22 = v139 := ((hTo.k t_this (by decide)).eI hEs149 (by decide) rfl).trans ev139
              have ev140 : zI s149 this 19 = v140 := ((hTo.k t_this (by decide)).eI hEs149 (by decide) rfl).trans ev140
              have Y150 : PL nn (zI s149 rQ) := by first | (rw [show zI s149 rQ = zI s133 rQ from funext fun k => (hTo.k trQ (by decide)).eI hEs149 (by decide) rfl]; exact y9) | rw [show zI s149 rQ = zI s133 rQ from funext fun k => (hTo.k trQ (by decide)).eI hEs149 (by decide) rfl]
              have Y151 : (nn = 0 ∧ vv = -1) ∨ (0 < nn ∧ (zI s149 rQ (nn - 1)).toInt = vv) := by first | (rw [show zI s149 rQ = zI s133 rQ from funext fun k => (hTo.k trQ (by decide)).eI hEs149 (by decide) rfl]; exact y10) | rw [show zI s149 rQ = zI s133 rQ from funext fun k => (hTo.k trQ (by decide)).eI hEs149 (by decide) rfl]
              obtain ⟨f152, f153, f154⟩ := hφ
              obtain ⟨a9, w9⟩ := f153 (show (zI s133 this 17).toInt = 0 from by rw [cz144]; omega)
              obtain ⟨v155, ev155⟩ : ∃ zz9 : Int32, zI s149 this 14 = zz9 := ⟨_, rfl⟩
              have qv155 : v155.toInt = (zI s149 this 14).toInt := by rw [ev155]
              rw [(show zI s149 this 14 = v155 from ev155)] at a9
              rcases w9 with ⟨w1, w2⟩ | ⟨w1, w2⟩
              · skip
                refine lv_if_eq (tgt := 38) hx hb dX6_reads_28 (by decide) (fun c9 => absurd (gi_eq c9) (by omega)) (fun _ => ?_)
                refine lv_aload_n hx hb dX6_reads_31 rfl (lv_at hl 0 rfl) ?_
                have cz156 : zI s149 this 15 = v135 := ev135
                have cz157 : zI s149 this 16 = v136 := ev136
                have cz158 : zI s149 this 17 = b2 := kthis_17
                have hTo := hT
                refine tVv (n := 0) (As := []) (rest := []) hx hb hml hown hg hT hK hX (X6s_sampleTold l κ s149 this  (hT.k t_this (by decide)) (hTX.tr (funext fun k => by rw [erT]; exact hT.eI trT (by decide) rfl rfl) (hT.eI t_this (by decide) rfl rfl)) (show (zI s149 this 17).toInt = 0 from by rw [(show zI s149 this 17 = b2 from kthis_17)]; omega) (show (zI s149 this 14).toInt = ((uscn uisBl tc Ln aa) : Nat) from by rw [(show zI s149 this 14 = v155 from ev155)]; omega) (uscn_le y2) ⟨by decide, w2⟩ (show (zI s149 this 18).toInt = (nn : Nat) from by rw [(show zI s149 this 18 = ns from kthis_18)]; omega) y4 (show (nn = 0 ∧ vv = -1) ∨ (0 < nn ∧ (zI s149 (kR κ this 25) (nn - 1)).toInt = vv) from by rw [erQ]; exact Y151) y11 y12) sub_gS2_gS3 (mwV k1391 k1393 k50 k92 k1394) ⟨rfl, by decide, by decide, by decide +kernel⟩ ⟨(Nat.le_of_ble_eq_true rfl), (Nat.le_of_ble_eq_true rfl)⟩ (hT.o20 (hT.k t_this (by decide))) rfl rfl hl.1 rfl (Nat.le_of_ble_eq_true rfl) dX6_reads_32 zroom.rf (fun s160 H locs hφ hEs160 hT => ?_)
                have ev137 : zI s160 this 20 = v137 := ((hTo.k t_this (by decide)).eI hEs160 (by decide) rfl).trans ev137
                have ev138 : zI s160 this 21 = v138 := ((hTo.k t_this (by decide)).eI hEs160 (by decide) rfl).trans ev138
                have ev139 : zI s160 this 22 = v139 := ((hTo.k t_this (by decide)).eI hEs160 (by decide) rfl).trans ev139
                have ev140 : zI s160 this 19 = v140 := ((hTo.k t_this (by decide)).eI hEs160 (by decide) rfl).trans ev140
                have f161 := hφ
                rcases f161 with ⟨t1, ⟨s9, a8, v9, t2, t3, t4, t5, t6, t7, t8, t9, t10⟩, t11, t12, t13⟩ | ⟨t1, t2, t3, co, po, t4, t5, t6, t7⟩
                · skip
                  obtain ⟨v162, ev162⟩ : ∃ zz9 : Int32, zI s160 this 17 = zz9 := ⟨_, rfl⟩
                  have qv162 : v162.toInt = (zI s160 this 17).toInt := by rw [ev162]
                  have b163 : isB v162 := by have q9 : isB (zI s160 this 17) := hT.P (hT.k t_this (by decide)) (by decide); rw [ev162] at q9; exact q9
                  have b163t := isB_t b163
                  rw [(show zI s160 this 17 = v162 from ev162)] at t1
                  obtain ⟨v164, ev164⟩ : ∃ zz9 : Int32, zI s160 this 14 = zz9 := ⟨_, rfl⟩
                  have qv164 : v164.toInt = (zI s160 this 14).toInt := by rw [ev164]
                  rw [(show zI s160 this 14 = v164 from ev164)] at t3
                  obtain ⟨v165, ev165⟩ : ∃ zz9 : Int32, zI s160 this 18 = zz9 := ⟨_, rfl⟩
                  have qv165 : v165.toInt = (zI s160 this 18).toInt := by rw [ev165]
                  rw [(show zI s160 this 18 = v165 from ev165)] at t6
                  obtain ⟨v166, ev166⟩ : ∃ zz9 : Int32, zI s160 this 15 = zz9 := ⟨_, rfl⟩
                  have qv166 : v166.toInt = (zI s160 this 15).toInt := by rw [ev166]
                  have zthis15 : zI σ0 this 15 = v166 := zthis15.trans (cz156.symm.trans (t12.symm.trans ev166))
                  obtain ⟨v167, ev167⟩ : ∃ zz9 : Int32, zI s160 this 16 = zz9 := ⟨_, rfl⟩
                  have qv167 : v167.toInt = (zI s160 this 16).toInt := by rw [ev167]
                  have zthis16 : zI σ0 this 16 = v167 := zthis16.trans (cz157.symm.trans (t13.symm.trans ev167))
                  rw [erQ] at t8 t11
                  refine lv_goto (tgt := 21) hx hb dX6_reads_35 (by decide) ?_
                  exact ih21 v164 v162 v165 _ _ _ _ hT ev164 ev162 ev165 (by omega) (by omega) (by omega) (by omega) (Or.inl ⟨by omega, a8, nn + 1, v9, g, by omega, t4, by omega, by omega, by rw [t5]; exact urt_tl y5 (Or.inr ⟨rfl, _, _, _, t2, rfl⟩), (show GSm s160 this g from ⟨by rw [(show zI s160 this 20 = v137 from ev137)]; exact gm141.1, by rw [(show zI s160 this 21 = v138 from ev138)]; exact gm141.2.1, by rw [(show zI s160 this 22 = v139 from ev139)]; exact gm141.2.2.1, by rw [(show zI s160 this 19 = v140 from ev140)]; exact gm141.2.2.2⟩), ((show zI s160 this 15 = v166 from ev166).trans zthis15.symm), ((show zI s160 this 16 = v167 from ev167).trans zthis16.symm), PL_more Y150 t11 (by omega) (by rcases Y151 with q9 | q9; exact Or.inl q9.1; exact Or.inr (by omega)), Or.inr ⟨by omega, t8⟩, by omega, by omega⟩) hl (by omega)
                · skip
                  obtain ⟨v168, ev168⟩ : ∃ zz9 : Int32, zI s160 this 17 = zz9 := ⟨_, rfl⟩
                  have qv168 : v168.toInt = (zI s160 this 17).toInt := by rw [ev168]
                  have b169 : isB v168 := by have q9 : isB (zI s160 this 17) := hT.P (hT.k t_this (by decide)) (by decide); rw [ev168] at q9; exact q9
                  have b169t := isB_t b169
                  rw [(show zI s160 this 17 = v168 from ev168)] at t1
                  obtain ⟨v170, ev170⟩ : ∃ zz9 : Int32, zI s160 this 18 = zz9 := ⟨_, rfl⟩
                  have qv170 : v170.toInt = (zI s160 this 18).toInt := by rw [ev170]
                  rw [(show zI s160 this 18 = v170 from ev170)] at t2
                  rw [(show zI s160 this 18 = v170 from ev170)] at t3
                  obtain ⟨v171, ev171⟩ : ∃ zz9 : Int32, zI s160 this 15 = zz9 := ⟨_, rfl⟩
                  have qv171 : v171.toInt = (zI s160 this 15).toInt := by rw [ev171]
                  rw [(show zI s160 this 15 = v171 from ev171)] at t6
                  obtain ⟨v172, ev172⟩ : ∃ zz9 : Int32, zI s160 this 16 = zz9 := ⟨_, rfl⟩
                  have qv172 : v172.toInt = (zI s160 this 16).toInt := by rw [ev172]
                  rw [(show zI s160 this 16 = v172 from ev172)] at t7
                  obtain ⟨v173, ev173⟩ : ∃ zz9 : Int32, zI s160 this 14 = zz9 := ⟨_, rfl⟩
                  have qv173 : v173.toInt = (zI s160 this 14).toInt := by rw [ev173]
                  refine lv_goto (tgt := 21) hx hb dX6_reads_35 (by decide) ?_
                  exact ih21 v173 v168 v170 _ _ _ _ hT ev173 ev168 ev170 (by omega) (by omega) (by omega) (by omega) (Or.inr ⟨by omega, (true, (uscn uisBl tc Ln aa), nn, vv, g), co, po, y5, Or.inr (Or.inl ⟨rfl, t4⟩), t5, by rw [(show zI s160 this 15 = v171 from ev171)]; exact t6, by rw [(show zI s160 this 16 = v172 from ev172)]; exact t7⟩) hl (by omega)
              · skip
                refine lv_if_eq (tgt := 38) hx hb dX6_reads_28 (by decide) (fun _ => ?_) (fun c9 => absurd (gi_ne c9) (by omega))
                refine lv_aload_n hx hb dX6_reads_38 rfl (lv_at hl 0 rfl) ?_
                refine va_get (D := κ.1) (ci := 6) (v := .int (zI s149 this 17)) (C := RX6) (T := TX6) (N := 27) hx hb hg inX6 hown hK (hT.o20 (hT.k t_this (by decide))).one 0 rfl rfl 17 (by decide) (hg _ k1236) (fun _ h9 => h9) rfl dX6_reads_39 ?_
                rw [kthis_17]
                refine lv_if_ne (tgt := 75) hx hb dX6_reads_42 (by decide) (fun c9 => absurd (gi_ne c9) (by omega)) (fun _ => ?_)
                refine lv_aload_n hx hb dX6_reads_45 rfl (lv_at hl 0 rfl) ?_
                refine va_get (D := κ.1) (ci := 6) (v := .int (zI s149 this 18)) (C := RX6) (T := TX6) (N := 27) hx hb hg inX6 hown hK (hT.o20 (hT.k t_this (by decide))).one 0 rfl rfl 18 (by decide) (hg _ k1237) (fun _ h9 => h9) rfl dX6_reads_46 ?_
                rw [kthis_18]
                refine lv_iconst (v := 2) hx hb dX6_reads_49 (by decide) ?_
                refine lv_icmp_lt (tgt := 61) hx hb dX6_reads_50 (by decide) (fun c9 => ?_) (fun c9 => ?_)
                · have c7 := gi_lt c9
                  refine lv_aload_n hx hb dX6_reads_61 rfl (lv_at hl 0 rfl) ?_
                  have hTo := hT
                  refine tVi (n := 0) (As := []) (rest := []) hx hb hml hown hg hT hK hX (X6s_here l κ s149 this  (hT.k t_this (by decide)) (hTX.tr (funext fun k => by rw [erT]; exact hT.eI trT (by decide) rfl rfl) (hT.eI t_this (by decide) rfl rfl)) (show (zI s149 this 14).toInt = ((uscn uisBl tc Ln aa) : Nat) from by rw [(show zI s149 this 14 = v155 from ev155)]; omega) (uscn_le y2)) sub_gH_gS3 (mwV k1341 k1343 k42 k92 k1344) ⟨rfl, by decide, by decide, by decide +kernel⟩ ⟨(Nat.le_of_ble_eq_true rfl), (Nat.le_of_ble_eq_true rfl)⟩ (hT.o20 (hT.k t_this (by decide))) rfl rfl hl.1 rfl (Nat.le_of_ble_eq_true rfl) dX6_reads_62 zroom.rf (fun x174 s175 H locs hφ hEs175 hT => ?_)
                  have kthis_17 : zI s175 this 17 = b2 := ((hTo.k t_this (by decide)).eI hEs175 (by decide) rfl).trans kthis_17
                  have kthis_18 : zI s175 this 18 = ns := ((hTo.k t_this (by decide)).eI hEs175 (by decide) rfl).trans kthis_18
                  have ev135 : zI s175 this 15 = v135 := ((hTo.k t_this (by decide)).eI hEs175 (by decide) rfl).trans ev135
                  have ev136 : zI s175 this 16 = v136 := ((hTo.k t_this (by decide)).eI hEs175 (by decide) rfl).trans ev136
                  have ev137 : zI s175 this 20 = v137 := ((hTo.k t_this (by decide)).eI hEs175 (by decide) rfl).trans ev137
                  have ev138 : zI s175 this 21 = v138 := ((hTo.k t_this (by decide)).eI hEs175 (by decide) rfl).trans ev138
                  have ev139 : zI s175 this 22 = v139 := ((hTo.k t_this (by decide)).eI hEs175 (by decide) rfl).trans ev139
                  have ev140 : zI s175 this 19 = v140 := ((hTo.k t_this (by decide)).eI hEs175 (by decide) rfl).trans ev140
                  have Y176 : PL nn (zI s175 rQ) := by first | (rw [show zI s175 rQ = zI s149 rQ from funext fun k => (hTo.k trQ (by decide)).eI hEs175 (by decide) rfl]; exact Y150) | rw [show zI s175 rQ = zI s149 rQ from funext fun k => (hTo.k trQ (by decide)).eI hEs175 (by decide) rfl]
                  have Y177 : (nn = 0 ∧ vv = -1) ∨ (0 < nn ∧ (zI s175 rQ (nn - 1)).toInt = vv) := by first | (rw [show zI s175 rQ = zI s149 rQ from funext fun k => (hTo.k trQ (by decide)).eI hEs175 (by decide) rfl]; exact Y151) | rw [show zI s175 rQ = zI s149 rQ from funext fun k => (hTo.k trQ (by decide)).eI hEs175 (by decide) rfl]
                  obtain ⟨f178, f179⟩ := hφ
                  rw [uscn_id] at f178
                  obtain ⟨v180, ev180⟩ : ∃ zz9 : Int32, zI s175 this 14 = zz9 := ⟨_, rfl⟩
                  have qv180 : v180.toInt = (zI s175 this 14).toInt := by rw [ev180]
                  rw [(show zI s175 this 14 = v180 from ev180)] at f178
                  refine lv_istore_n (lv' := [(2, .int x174), (0, .ref this)]) hx hb dX6_reads_65 rfl hl (by decide) rfl (fun ls hl => ?_)
                  refine lv_aload_n hx hb dX6_reads_66 rfl (lv_at hl 1 rfl) ?_
                  refine lv_iconst (v := 1) hx hb dX6_reads_67 (by decide) ?_
                  refine lv_aload_n hx hb dX6_reads_68 rfl (lv_at hl 1 rfl) ?_
                  refine va_get (D := κ.1) (ci := 6) (v := .int (zI s175 this 14)) (C := RX6) (T := TX6) (N := 27) hx hb hg inX6 hown hK (hT.o20 (hT.k t_this (by decide))).one 0 rfl rfl 14 (by decide) (hg _ k1233) (fun _ h9 => h9) rfl dX6_reads_69 ?_
                  rw [ev180]
                  have cz181 : zI s175 this 17 = b2 := kthis_17
                  have hTo := hT
                  refine tVv (n := 2) (As := [.int 1, .int v180]) (rest := []) hx hb hml hown hg hT hK hX (X6s_wrong l κ s175 this 1 v180  (hT.k t_this (by decide)) ) sub_gB_gS3 (mwV k1357 k1359 k45 k92 k1360) ⟨rfl, by decide, by decide, by decide +kernel⟩ ⟨(Nat.le_of_ble_eq_true rfl), (Nat.le_of_ble_eq_true rfl)⟩ (hT.o20 (hT.k t_this (by decide))) rfl rfl hl.1 rfl (Nat.le_of_ble_eq_true rfl) dX6_reads_72 zroom.rf (fun s183 H locs hφ hEs183 hT => ?_)
                  have kthis_18 : zI s183 this 18 = ns := ((hTo.k t_this (by decide)).eI hEs183 (by decide) rfl).trans kthis_18
                  have ev137 : zI s183 this 20 = v137 := ((hTo.k t_this (by decide)).eI hEs183 (by decide) rfl).trans ev137
                  have ev138 : zI s183 this 21 = v138 := ((hTo.k t_this (by decide)).eI hEs183 (by decide) rfl).trans ev138
                  have ev139 : zI s183 this 22 = v139 := ((hTo.k t_this (by decide)).eI hEs183 (by decide) rfl).trans ev139
                  have ev140 : zI s183 this 19 = v140 := ((hTo.k t_this (by decide)).eI hEs183 (by decide) rfl).trans ev140
                  have ev180 : zI s183 this 14 = v180 := ((hTo.k t_this (by decide)).eI hEs183 (by decide) rfl).trans ev180
                  have Y184 : PL nn (zI s183 rQ) := by first | (rw [show zI s183 rQ = zI s175 rQ from funext fun k => (hTo.k trQ (by decide)).eI hEs183 (by decide) rfl]; exact Y176) | rw [show zI s183 rQ = zI s175 rQ from funext fun k => (hTo.k trQ (by decide)).eI hEs183 (by decide) rfl]
                  have Y185 : (nn = 0 ∧ vv = -1) ∨ (0 < nn ∧ (zI s183 rQ (nn - 1)).toInt = vv) := by first | (rw [show zI s183 rQ = zI s175 rQ from funext fun k => (hTo.k trQ (by decide)).eI hEs183 (by decide) rfl]; exact Y177) | rw [show zI s183 rQ = zI s175 rQ from funext fun k => (hTo.k trQ (by decide)).eI hEs183 (by decide) rfl]
                  have f186 := hφ
                  obtain ⟨wb91, wb92, wb93⟩ := (f186.resolve_left (fun q9 => by have z9 := q9.1; rw [cz181] at z9; omega)).2
                  subst hQ9
                  exact t_v hx hb hr hlocks hT ⟨Or.inl wb91, Or.inl wb91, (true, (uscn uisBl tc Ln aa), nn, vv, g), 1, ((uscn uisBl tc Ln aa) : Nat), ⟨y5, Or.inr (Or.inl ⟨rfl, Or.inl ⟨fun q9 => by have q8 := tk0_iff.mp (show utkK tc Ln (uscn uisBl tc Ln aa) = 0 from q9.1); have q7 : 2 ≤ nn := q9.2; omega, fun q9 => w2 q9.2, rfl, rfl⟩⟩)⟩, Or.inr ⟨wb91, by decide, by rw [wb92]; exact n1, by rw [wb93]; omega⟩⟩ dX6_reads_75
                · have c8 := gi_nlt c9
                  refine lv_aload_n hx hb dX6_reads_53 rfl (lv_at hl 0 rfl) ?_
                  have hTo := hT
                  refine tVi (n := 0) (As := []) (rest := []) hx hb hml hown hg hT hK hX (X6s_here l κ s149 this  (hT.k t_this (by decide)) (hTX.tr (funext fun k => by rw [erT]; exact hT.eI trT (by decide) rfl rfl) (hT.eI t_this (by decide) rfl rfl)) (show (zI s149 this 14).toInt = ((uscn uisBl tc Ln aa) : Nat) from by rw [(show zI s149 this 14 = v155 from ev155)]; omega) (uscn_le y2)) sub_gH_gS3 (mwV k1341 k1343 k42 k92 k1344) ⟨rfl, by decide, by decide, by decide +kernel⟩ ⟨(Nat.le_of_ble_eq_true rfl), (Nat.le_of_ble_eq_true rfl)⟩ (hT.o20 (hT.k t_this (by decide))) rfl rfl hl.1 rfl (Nat.le_of_ble_eq_true rfl) dX6_reads_54 zroom.rf (fun x187 s188 H locs hφ hEs188 hT => ?_)
                  have kthis_17 : zI s188 this 17 = b2 := ((hTo.k t_this (by decide)).eI hEs188 (by decide) rfl).trans kthis_17
                  have kthis_18 : zI s188 this 18 = ns := ((hTo.k t_this (by decide)).eI hEs188 (by decide) rfl).trans kthis_18
                  have ev135 : zI s188 this 15 = v135 := ((hTo.k t_this (by decide)).eI hEs188 (by decide) rfl).trans ev135
                  have ev136 : zI s188 this 16 = v136 := ((hTo.k t_this (by decide)).eI hEs188 (by decide) rfl).trans ev136
                  have ev137 : zI s188 this 20 = v137 := ((hTo.k t_this (by decide)).eI hEs188 (by decide) rfl).trans ev137
                  have ev138 : zI s188 this 21 = v138 := ((hTo.k t_this (by decide)).eI hEs188 (by decide) rfl).trans ev138
                  have ev139 : zI s188 this 22 = v139 := ((hTo.k t_this (by decide)).eI hEs188 (by decide) rfl).trans ev139
                  have ev140 : zI s188 this 19 = v140 := ((hTo.k t_this (by decide)).eI hEs188 (by decide) rfl).trans ev140
                  have Y189 : PL nn (zI s188 rQ) := by first | (rw [show zI s188 rQ = zI s149 rQ from funext fun k => (hTo.k trQ (by decide)).eI hEs188 (by decide) rfl]; exact Y150) | rw [show zI s188 rQ = zI s149 rQ from funext fun k => (hTo.k trQ (by decide)).eI hEs188 (by decide) rfl]
                  have Y190 : (nn = 0 ∧ vv = -1) ∨ (0 < nn ∧ (zI s188 rQ (nn - 1)).toInt = vv) := by first | (rw [show zI s188 rQ = zI s149 rQ from funext fun k => (hTo.k trQ (by decide)).eI hEs188 (by decide) rfl]; exact Y151) | rw [show zI s188 rQ = zI s149 rQ from funext fun k => (hTo.k trQ (by decide)).eI hEs188 (by decide) rfl]
                  obtain ⟨f191, f192⟩ := hφ
                  rw [uscn_id] at f191 f192
                  obtain ⟨v193, ev193⟩ : ∃ zz9 : Int32, zI s188 this 14 = zz9 := ⟨_, rfl⟩
                  have qv193 : v193.toInt = (zI s188 this 14).toInt := by rw [ev193]
                  rw [(show zI s188 this 14 = v193 from ev193)] at f191
                  refine lv_iconst (v := (-1)) hx hb dX6_reads_57 (by decide) ?_
                  refine lv_icmp_eq (tgt := 75) hx hb dX6_reads_58 (by decide) (fun c9 => ?_) (fun c9 => ?_)
                  · have c9 := gi_eq c9
                    subst hQ9
                    exact t_v hx hb hr hlocks hT ⟨Or.inr ⟨by rw [(show zI s188 this 18 = ns from kthis_18)]; omega, by rw [(show zI s188 this 18 = ns from kthis_18)]; omega⟩, Or.inr (by rw [erQ, (show zI s188 this 18 = ns from kthis_18), show ns.toInt.toNat = nn from by omega]; exact Y189), (true, (uscn uisBl tc Ln aa), nn, vv, g), 0, (nn : Nat), ⟨y5, Or.inr (Or.inr ⟨rfl, ⟨(show utkK tc Ln (uscn uisBl tc Ln aa) = 0 from tk0_iff.mpr (by omega)), (show 2 ≤ nn from by omega)⟩, rfl, rfl⟩)⟩, Or.inl ⟨by rw [(show zI s188 this 17 = b2 from kthis_17)]; omega, rfl, by rw [(show zI s188 this 18 = ns from kthis_18)]; omega, (show GSm s188 this g from ⟨by rw [(show zI s188 this 20 = v137 from ev137)]; exact gm141.1, by rw [(show zI s188 this 21 = v138 from ev138)]; exact gm141.2.1, by rw [(show zI s188 this 22 = v139 from ev139)]; exact gm141.2.2.1, by rw [(show zI s188 this 19 = v140 from ev140)]; exact gm141.2.2.2⟩), ((show zI s188 this 15 = v135 from ev135).trans zthis15.symm), ((show zI s188 this 16 = v136 from ev136).trans zthis16.symm)⟩⟩ dX6_reads_75
                  · have c10 := gi_ne c9
                    refine lv_aload_n hx hb dX6_reads_61 rfl (lv_at hl 0 rfl) ?_
                    have hTo := hT
                    refine tVi (n := 0) (As := []) (rest := []) hx hb hml hown hg hT hK hX (X6s_here l κ s188 this  (hT.k t_this (by decide)) (hTX.tr (funext fun k => by rw [erT]; exact hT.eI trT (by decide) rfl rfl) (hT.eI t_this (by decide) rfl rfl)) (show (zI s188 this 14).toInt = ((uscn uisBl tc Ln aa) : Nat) from by rw [(show zI s188 this 14 = v193 from ev193)]; omega) (uscn_le y2)) sub_gH_gS3 (mwV k1341 k1343 k42 k92 k1344) ⟨rfl, by decide, by decide, by decide +kernel⟩ ⟨(Nat.le_of_ble_eq_true rfl), (Nat.le_of_ble_eq_true rfl)⟩ (hT.o20 (hT.k t_this (by decide))) rfl rfl hl.1 rfl (Nat.le_of_ble_eq_true rfl) dX6_reads_62 zroom.rf (fun x194 s195 H locs hφ hEs195 hT => ?_)
                    have kthis_17 : zI s195 this 17 = b2 := ((hTo.k t_this (by decide)).eI hEs195 (by decide) rfl).trans kthis_17
                    have kthis_18 : zI s195 this 18 = ns := ((hTo.k t_this (by decide)).eI hEs195 (by decide) rfl).trans kthis_18
                    have ev135 : zI s195 this 15 = v135 := ((hTo.k t_this (by decide)).eI hEs195 (by decide) rfl).trans ev135
                    have ev136 : zI s195 this 16 = v136 := ((hTo.k t_this (by decide)).eI hEs195 (by decide) rfl).trans ev136
                    have ev137 : zI s195 this 20 = v137 := ((hTo.k t_this (by decide)).eI hEs195 (by decide) rfl).trans ev137
                    have ev138 : zI s195 this 21 = v138 := ((hTo.k t_this (by decide)).eI hEs195 (by decide) rfl).trans ev138
                    have ev139 : zI s195 this 22 = v139 := ((hTo.k t_this (by decide)).eI hEs195 (by decide) rfl).trans ev139
                    have ev140 : zI s195 this 19 = v140 := ((hTo.k t_this (by decide)).eI hEs195 (by decide) rfl).trans ev140
                    have Y196 : PL nn (zI s195 rQ) := by first | (rw [show zI s195 rQ = zI s188 rQ from funext fun k => (hTo.k trQ (by decide)).eI hEs195 (by decide) rfl]; exact Y189) | rw [show zI s195 rQ = zI s188 rQ from funext fun k => (hTo.k trQ (by decide)).eI hEs195 (by decide) rfl]
                    have Y197 : (nn = 0 ∧ vv = -1) ∨ (0 < nn ∧ (zI s195 rQ (nn - 1)).toInt = vv) := by first | (rw [show zI s195 rQ = zI s188 rQ from funext fun k => (hTo.k trQ (by decide)).eI hEs195 (by decide) rfl]; exact Y190) | rw [show zI s195 rQ = zI s188 rQ from funext fun k => (hTo.k trQ (by decide)).eI hEs195 (by decide) rfl]
                    obtain ⟨f198, f199⟩ := hφ
                    rw [uscn_id] at f198
                    obtain ⟨v200, ev200⟩ : ∃ zz9 : Int32, zI s195 this 14 = zz9 := ⟨_, rfl⟩
                    have qv200 : v200.toInt = (zI s195 this 14).toInt := by rw [ev200]
                    rw [(show zI s195 this 14 = v200 from ev200)] at f198
                    refine lv_istore_n (lv' := [(2, .int x194), (0, .ref this)]) hx hb dX6_reads_65 rfl hl (by decide) rfl (fun ls hl => ?_)
                    refine lv_aload_n hx hb dX6_reads_66 rfl (lv_at hl 1 rfl) ?_
                    refine lv_iconst (v := 1) hx hb dX6_reads_67 (by decide) ?_
                    refine lv_aload_n hx hb dX6_reads_68 rfl (lv_at hl 1 rfl) ?_
                    refine va_get (D := κ.1) (ci := 6) (v := .int (zI s195 this 14)) (C := RX6) (T := TX6) (N := 27) hx hb hg inX6 hown hK (hT.o20 (hT.k t_this (by decide))).one 0 rfl rfl 14 (by decide) (hg _ k1233) (fun _ h9 => h9) rfl dX6_reads_69 ?_
                    rw [ev200]
                    have cz201 : zI s195 this 17 = b2 := kthis_17
                    have hTo := hT
                    refine tVv (n := 2) (As := [.int 1, .int v200]) (rest := []) hx hb hml hown hg hT hK hX (X6s_wrong l κ s195 this 1 v200  (hT.k t_this (by decide)) ) sub_gB_gS3 (mwV k1357 k1359 k45 k92 k1360) ⟨rfl, by decide, by decide, by decide +kernel⟩ ⟨(Nat.le_of_ble_eq_true rfl), (Nat.le_of_ble_eq_true rfl)⟩ (hT.o20 (hT.k t_this (by decide))) rfl rfl hl.1 rfl (Nat.le_of_ble_eq_true rfl) dX6_reads_72 zroom.rf (fun s203 H locs hφ hEs203 hT => ?_)
                    have kthis_18 : zI s203 this 18 = ns := ((hTo.k t_this (by decide)).eI hEs203 (by decide) rfl).trans kthis_18
                    have ev137 : zI s203 this 20 = v137 := ((hTo.k t_this (by decide)).eI hEs203 (by decide) rfl).trans ev137
                    have ev138 : zI s203 this 21 = v138 := ((hTo.k t_this (by decide)).eI hEs203 (by decide) rfl).trans ev138
                    have ev139 : zI s203 this 22 = v139 := ((hTo.k t_this (by decide)).eI hEs203 (by decide) rfl).trans ev139
                    have ev140 : zI s203 this 19 = v140 := ((hTo.k t_this (by decide)).eI hEs203 (by decide) rfl).trans ev140
                    have ev200 : zI s203 this 14 = v200 := ((hTo.k t_this (by decide)).eI hEs203 (by decide) rfl).trans ev200
                    have Y204 : PL nn (zI s203 rQ) := by first | (rw [show zI s203 rQ = zI s195 rQ from funext fun k => (hTo.k trQ (by decide)).eI hEs203 (by decide) rfl]; exact Y196) | rw [show zI s203 rQ = zI s195 rQ from funext fun k => (hTo.k trQ (by decide)).eI hEs203 (by decide) rfl]
                    have Y205 : (nn = 0 ∧ vv = -1) ∨ (0 < nn ∧ (zI s203 rQ (nn - 1)).toInt = vv) := by first | (rw [show zI s203 rQ = zI s195 rQ from funext fun k => (hTo.k trQ (by decide)).eI hEs203 (by decide) rfl]; exact Y197) | rw [show zI s203 rQ = zI s195 rQ from funext fun k => (hTo.k trQ (by decide)).eI hEs203 (by decide) rfl]
                    have f206 := hφ
                    obtain ⟨wb91, wb92, wb93⟩ := (f206.resolve_left (fun q9 => by have z9 := q9.1; rw [cz201] at z9; omega)).2
                    subst hQ9
                    exact t_v hx hb hr hlocks hT ⟨Or.inl wb91, Or.inl wb91, (true, (uscn uisBl tc Ln aa), nn, vv, g), 1, ((uscn uisBl tc Ln aa) : Nat), ⟨y5, Or.inr (Or.inl ⟨rfl, Or.inl ⟨fun q9 => by have q8 := tk0_iff.mp (show utkK tc Ln (uscn uisBl tc Ln aa) = 0 from q9.1); have q7 : 2 ≤ nn := q9.2; omega, fun q9 => w2 q9.2, rfl, rfl⟩⟩)⟩, Or.inr ⟨wb91, by decide, by rw [wb92]; exact n1, by rw [wb93]; omega⟩⟩ dX6_reads_75
            · skip
              refine lv_aload_n hx hb dX6_reads_21 rfl (lv_at hl 0 rfl) ?_
              refine lv_ldc2 hx hb hown (hg _ k1390) dX6_reads_22 ?_
              obtain ⟨v207, ev207⟩ : ∃ zz9 : Int32, zI s133 this 15 = zz9 := ⟨_, rfl⟩
              have qv207 : v207.toInt = (zI s133 this 15).toInt := by rw [ev207]
              have cz208 : zI s133 this 15 = v207 := ev207
              obtain ⟨v209, ev209⟩ : ∃ zz9 : Int32, zI s133 this 16 = zz9 := ⟨_, rfl⟩
              have qv209 : v209.toInt = (zI s133 this 16).toInt := by rw [ev209]
              have cz210 : zI s133 this 16 = v209 := ev209
              have cz211 : zI s133 this 17 = b2 := kthis_17
              have cz212 : zI s133 this 17 = b2 := kthis_17
              have cz213 : zI s133 this 15 = v207 := ev207
              have cz214 : zI s133 this 16 = v209 := ev209
              have hTo := hT
              refine tVi (n := 1) (As := [.long 47]) (rest := []) hx hb hml hown hg hT hK hX (X6s_isWord l κ s133 this 47  (hT.k t_this (by decide)) (hTX.tr (funext fun k => by rw [erT]; exact hT.eI trT (by decide) rfl rfl) (hT.eI t_this (by decide) rfl rfl)) (show (zI s133 this 17).toInt = 0 → (zI s133 this 14).toInt = ((0 : Nat) : Int) ∧ 0 ≤ Ln from fun q9 => absurd q9 (by rw [(show zI s133 this 17 = b2 from kthis_17)]; omega)) (show encP 47 12 from ⟨by decide, by decide +kernel⟩)) sub_gH_gS3 (mwV k1333 k1335 k40 k92 k1336) ⟨rfl, by decide, by decide, by decide +kernel⟩ ⟨(Nat.le_of_ble_eq_true rfl), (Nat.le_of_ble_eq_true rfl)⟩ (hT.o20 (hT.k t_this (by decide))) rfl rfl hl.1 rfl (Nat.le_of_ble_eq_true rfl) dX6_reads_25 zroom.rf (fun x215 s216 H locs hφ hEs216 hT => ?_)
              have kthis_17 : zI s216 this 17 = b2 := ((hTo.k t_this (by decide)).eI hEs216 (by decide) rfl).trans kthis_17
              have kthis_18 : zI s216 this 18 = ns := ((hTo.k t_this (by decide)).eI hEs216 (by decide) rfl).trans kthis_18
              have ev207 : zI s216 this 15 = v207 := ((hTo.k t_this (by decide)).eI hEs216 (by decide) rfl).trans ev207
              have ev209 : zI s216 this 16 = v209 := ((hTo.k t_this (by decide)).eI hEs216 (by decide) rfl).trans ev209
              obtain ⟨f217, f218, f219⟩ := hφ
              have w9 := (f217 (show (zI s133 this 17).toInt = 1 from by rw [cz212]; omega)).1
              refine lv_if_eq (tgt := 38) hx hb dX6_reads_28 (by decide) (fun _ => ?_) (fun c9 => absurd (gi_ne c9) (by omega))
              refine lv_aload_n hx hb dX6_reads_38 rfl (lv_at hl 0 rfl) ?_
              refine va_get (D := κ.1) (ci := 6) (v := .int (zI s216 this 17)) (C := RX6) (T := TX6) (N := 27) hx hb hg inX6 hown hK (hT.o20 (hT.k t_this (by decide))).one 0 rfl rfl 17 (by decide) (hg _ k1236) (fun _ h9 => h9) rfl dX6_reads_39 ?_
              rw [kthis_17]
              refine lv_if_ne (tgt := 75) hx hb dX6_reads_42 (by decide) (fun _ => ?_) (fun c9 => absurd (gi_eq c9) (by omega))
              subst hQ9
              exact t_v hx hb hr hlocks hT ⟨Or.inl (by rw [(show zI s216 this 17 = b2 from kthis_17)]; omega), Or.inl (by rw [(show zI s216 this 17 = b2 from kthis_17)]; omega), x9, co, po, ⟨z1, z2⟩, Or.inr ⟨by rw [(show zI s216 this 17 = b2 from kthis_17)]; omega, z3, by rw [(show zI s216 this 15 = v207 from ev207), ← cz213]; exact z4, by rw [(show zI s216 this 16 = v209 from ev209), ← cz214]; exact z5⟩⟩ dX6_reads_75
        exact loop21 ((100 * (1 - bb.toInt) + (49 - v1.toInt)).toNat + 1) u bb v1 _ _ _ _ hT kthis_14 kthis_17 kthis_18 (by omega) (by omega) (by omega) (by omega) (Or.inr ⟨by omega, x9, co, po, z1, z2, z3, z4, z5⟩) (lv_sub hl [1] rfl) (by omega)
  obtain ⟨v220, ev220⟩ : ∃ zz9 : Int32, zI σ0 this 14 = zz9 := ⟨_, rfl⟩
  have qv220 : v220.toInt = (zI σ0 this 14).toInt := by rw [ev220]
  obtain ⟨v221, ev221⟩ : ∃ zz9 : Int32, zI σ0 this 17 = zz9 := ⟨_, rfl⟩
  have qv221 : v221.toInt = (zI σ0 this 17).toInt := by rw [ev221]
  have b222 : isB v221 := by have q9 : isB (zI σ0 this 17) := hT.P (hT.k t_this (by decide)) (by decide); rw [ev221] at q9; exact q9
  have b222t := isB_t b222
  obtain ⟨v223, ev223⟩ : ∃ zz9 : Int32, zI σ0 this 23 = zz9 := ⟨_, rfl⟩
  have qv223 : v223.toInt = (zI σ0 this 23).toInt := by rw [ev223]
  exact loop2 ((20 * (1 - v221.toInt) + (1 : Int32).toInt + 2 * (4 - (pc4 (ix v223) : Int))).toNat + 1) 1 v220 v221 v223 _ _ _ _ hT ev1 ev220 ev221 ev223 (show pc4 (ix v223) ≤ 4 from by rw [show ix v223 = 0 from by unfold ix; omega]; decide) (by omega) (by omega) (by omega) (by omega) (Or.inl ⟨by omega, 0, 0, ugs0, by omega, by omega, by omega, by decide, h5, rfl, rfl, Or.inl ⟨n1, urt_rf⟩⟩) hl (by omega)
