/-! What the reference reads: the whole text -/
set_option maxHeartbeats 8000000 in
set_option maxRecDepth 100000 in
theorem X6s_reads (l : Launch) (κ : Kt) (σ0 : Gh) (this : Nat) {tc : Nat → Int} {Ln : Nat} (t_this : zk σ0 this 20) (h0 : TXm κ σ0 this tc Ln) (h1 : (zI σ0 this 17).toInt = 0) (h2 : (zI σ0 this 14).toInt = 0) (h3 : (zI σ0 this 18).toInt = 0) (h4 : (zI σ0 this 23).toInt = 0) (h5 : GSm σ0 this ugs0) : TC l yX6_reads cX6_reads 3 none 7 163 [.ref this] κ σ0 (tqv κ gS3 σ0 (fun (τ : Gh) => ((zI τ this 17).toInt = 1 ∨ (2 ≤ (zI τ this 18).toInt ∧ (zI τ this 18).toInt ≤ 48)) ∧ ((zI τ this 17).toInt = 1 ∨ PL (zI τ this 18).toInt.toNat (zI τ (kR κ this 25))) ∧ (∃ (x : uRd) (co po : Int), uRds tc Ln x co po ∧ (((zI τ this 17).toInt = 0 ∧ co = 0 ∧ (zI τ this 18).toInt = po ∧ GSm τ this x.2.2.2.2 ∧ zI τ this 15 = zI σ0 this 15 ∧ zI τ this 16 = zI σ0 this 16 ∧ usP (zI τ (kR κ this 25)) po.toNat x.2.2.2.2 ∧ usO (zI τ (kR κ this 26)) po.toNat x.2.2.2.2 ∧ usB po.toNat x.2.2.2.2) ∨ ((zI τ this 17).toInt = 1 ∧ co ≠ 0 ∧ (zI τ this 15).toInt = co ∧ (zI τ this 16).toInt = po))))) := by
  refine TC.of gS3 (by decide +kernel) (Nat.le_of_ble_eq_true rfl) ?_
  intro p e s m below meth c ls hcs hK hX hT hl
  obtain ⟨hx, hb, hr, hml, hown, hg, hlocks, hin⟩ := hcs
  have hown : s.vm.findClass RX6 = some m.cls := hown
  have hl : lv_has ls 3 [(0, .ref this)] := hl
  have hT0 := hT
  have nm1 : ((-1) : Int32).toInt = (-1) := by decide
  have n0 : (0 : Int32).toInt = 0 := by decide
  have n1 : (1 : Int32).toInt = 1 := by decide
  have n2 : (2 : Int32).toInt = 2 := by decide
  have j47 : (47 : Int64).toInt = 47 := by decide
  generalize hQ9 : tQ _ _ _ _ _ _ = Q9
  have hTX := h0
  obtain ⟨rT, erT⟩ : ∃ z, kR κ this 12 = z := ⟨_, rfl⟩
  have trT : zk σ0 rT 23 := by rw [← erT]; exact hT0.ref t_this (by decide) (by decide) (by decide)
  have hpc : ∀ j, tc j = (zI σ0 rT j).toInt := by rw [← erT]; exact hTX.1
  have hLn : (zI σ0 this 13).toInt = Ln := hTX.2.1
  have hL7 : Ln ≤ 700 := hTX.2.2.1
  have hnn := hTX.2.2.2
  obtain ⟨rQ, erQ⟩ : ∃ z, kR κ this 25 = z := ⟨_, rfl⟩
  have trQ : zk σ0 rQ 27 := by rw [← erQ]; exact hT0.ref t_this (by decide) (by decide) (by decide)
  obtain ⟨rV, erV⟩ : ∃ z, kR κ this 26 = z := ⟨_, rfl⟩
  have trV : zk σ0 rV 28 := by rw [← erV]; exact hT0.ref t_this (by decide) (by decide) (by decide)
  refine lv_iconst (v := 1) hx hb dX6_reads_0 (by decide) ?_
  refine lv_istore_n (lv' := [(1, .int 1), (0, .ref this)]) hx hb dX6_reads_1 rfl hl (by decide) rfl (fun ls hl => ?_)
  obtain ⟨v1, ev1⟩ : ∃ zz9 : Int32, zI σ0 this 18 = zz9 := ⟨_, rfl⟩
  have qv1 : v1.toInt = (zI σ0 this 18).toInt := by rw [ev1]
  have loop2 : ∀ (n9 : Nat) (iz : Int32) (u : Int32) (bb : Int32) (td : Int32) (H : Heap) (locs : List Loc) (sg : Gh) (ls : Array Slot), TS κ gS3 σ0 sg s H locs → (zI sg this 18 = v1) → (zI sg this 14 = u) → (zI sg this 17 = bb) → (zI sg this 23 = td) → (pc4 (ix td) ≤ 4) → (0 ≤ bb.toInt) → (bb.toInt ≤ 1) → (0 ≤ iz.toInt) → (iz.toInt ≤ 1) → ((bb.toInt = 0 ∧ ∃ (aa nb : Nat) (g : Nat → Int), u.toInt = (aa : Nat) ∧ aa ≤ Ln ∧ td.toInt = (nb : Nat) ∧ nb < 16 ∧ GSm sg this g ∧ zI sg this 15 = zI σ0 this 15 ∧ zI sg this 16 = zI σ0 this 16 ∧ ((iz.toInt = 1 ∧ utrt tc Ln (urd0 tc Ln) (false, (uscn uisBl tc Ln aa), nb, -1, g)) ∨ (iz.toInt = 0 ∧ utrt tc Ln (urd0 tc Ln) (true, (uscn uisBl tc Ln aa), 0, -1, g)))) ∨ (bb.toInt = 1 ∧ ∃ (x : uRd) (co po : Int), utrt tc Ln (urd0 tc Ln) x ∧ utfi tc Ln x co po ∧ co ≠ 0 ∧ (zI sg this 15).toInt = co ∧ (zI sg this 16).toInt = po)) → lv_has ls 3 [(1, .int iz), (0, .ref this)] → (20 * (1 - bb.toInt) + iz.toInt + 2 * (4 - (pc4 (ix td) : Int))) < n9 → tW p l e 7 163 κ s m #[.ref this] below meth c H locs Q9 (F0 m 2 ls []) := by
    intro n9
    induction n9 with
    | zero =>
      intro iz u bb td H locs sg ls hT kthis_18 kthis_14 kthis_17 kthis_23 q4 q5 q6 q7 q8 q3 hl hm9
      exfalso
      omega
    | succ n9 ih9 =>
      have ih2 := ih9
      clear ih9
      intro iz u bb td H locs s2 ls hT kthis_18 kthis_14 kthis_17 kthis_23 q4 q5 q6 q7 q8 q3 hl hm9
      have b3 : isB (zI s2 this 17) := hT.P (hT.k t_this (by decide)) (by decide)
      rw [kthis_17] at b3
      have b3t := isB_t b3
      rcases q3 with ⟨qb, aa, nb, g, y1, y2, y3, y4, y5, y6, y7, y8⟩ | ⟨qb, x9, co, po, z1, z2, z3, z4, z5⟩
      · skip
        obtain ⟨v4, ev4⟩ : ∃ zz9 : Int32, zI s2 this 15 = zz9 := ⟨_, rfl⟩
        have qv4 : v4.toInt = (zI s2 this 15).toInt := by rw [ev4]
        have zthis15 : zI σ0 this 15 = v4 := y6.symm.trans ev4
        obtain ⟨v5, ev5⟩ : ∃ zz9 : Int32, zI s2 this 16 = zz9 := ⟨_, rfl⟩
        have qv5 : v5.toInt = (zI s2 this 16).toInt := by rw [ev5]
        have zthis16 : zI σ0 this 16 = v5 := y7.symm.trans ev5
        obtain ⟨v6, ev6⟩ : ∃ zz9 : Int32, zI s2 this 20 = zz9 := ⟨_, rfl⟩
        have qv6 : v6.toInt = (zI s2 this 20).toInt := by rw [ev6]
        obtain ⟨v7, ev7⟩ : ∃ zz9 : Int32, zI s2 this 21 = zz9 := ⟨_, rfl⟩
        have qv7 : v7.toInt = (zI s2 this 21).toInt := by rw [ev7]
        obtain ⟨v8, ev8⟩ : ∃ zz9 : Int32, zI s2 this 22 = zz9 := ⟨_, rfl⟩
        have qv8 : v8.toInt = (zI s2 this 22).toInt := by rw [ev8]
        obtain ⟨v9, ev9⟩ : ∃ zz9 : Int32, zI s2 this 19 = zz9 := ⟨_, rfl⟩
        have qv9 : v9.toInt = (zI s2 this 19).toInt := by rw [ev9]
        have gm10 : v6.toInt = g 0 ∧ v7.toInt = g 1 ∧ v8.toInt = g 2 ∧ v9.toInt = g 3 := by have z9 := y5; unfold GSm at z9; rw [(show zI s2 this 20 = v6 from ev6), (show zI s2 this 21 = v7 from ev7), (show zI s2 this 22 = v8 from ev8), (show zI s2 this 19 = v9 from ev9)] at z9; exact z9
        refine lv_aload_n hx hb dX6_reads_2 rfl (lv_at hl 1 rfl) ?_
        refine va_get (D := κ.1) (ci := 6) (v := .int (zI s2 this 17)) (C := RX6) (T := TX6) (N := 27) hx hb hg inX6 hown hK (hT.o20 (hT.k t_this (by decide))).one 0 rfl rfl 17 (by decide) (hg _ k1236) (fun _ h9 => h9) rfl dX6_reads_3 ?_
        rw [kthis_17]
        refine lv_if_ne (tgt := 21) hx hb dX6_reads_6 (by decide) (fun c9 => absurd (gi_ne c9) (by omega)) (fun _ => ?_)
        refine lv_iload_n hx hb dX6_reads_9 rfl (lv_at hl 0 rfl) ?_
        refine lv_if_eq (tgt := 21) hx hb dX6_reads_10 (by decide) (fun c9 => ?_) (fun c9 => ?_)
        · have c1 := gi_eq c9
          have loop21 : ∀ (n9 : Nat)  (u2 : Int32) (b2 : Int32) (ns : Int32) (H : Heap) (locs : List Loc) (sg : Gh) (ls : Array Slot), TS κ gS3 σ0 sg s H locs → (zI sg this 14 = u2) → (zI sg this 17 = b2) → (zI sg this 18 = ns) → (0 ≤ b2.toInt) → (b2.toInt ≤ 1) → (0 ≤ ns.toInt) → (ns.toInt ≤ 48) → ((b2.toInt = 0 ∧ ∃ (aa nn : Nat) (vv : Int) (g : Nat → Int), u2.toInt = (aa : Nat) ∧ aa ≤ Ln ∧ ns.toInt = (nn : Nat) ∧ nn ≤ 48 ∧ utrt tc Ln (urd0 tc Ln) (true, (uscn uisBl tc Ln aa), nn, vv, g) ∧ GSm sg this g ∧ zI sg this 15 = zI σ0 this 15 ∧ zI sg this 16 = zI σ0 this 16 ∧ PL nn (zI sg rQ) ∧ ((nn = 0 ∧ vv = -1) ∨ (0 < nn ∧ (zI sg rQ (nn - 1)).toInt = vv)) ∧ -1 ≤ vv ∧ vv ≤ 9999 ∧ usP (zI sg rQ) nn g ∧ usO (zI sg rV) nn g ∧ usB nn g) ∨ (b2.toInt = 1 ∧ ∃ (x : uRd) (co po : Int), utrt tc Ln (urd0 tc Ln) x ∧ utfi tc Ln x co po ∧ co ≠ 0 ∧ (zI sg this 15).toInt = co ∧ (zI sg this 16).toInt = po)) → lv_has ls 3 [(0, .ref this)] → (100 * (1 - b2.toInt) + (49 - ns.toInt)) < n9 → tW p l e 7 163 κ s m #[.ref this] below meth c H locs Q9 (F0 m 21 ls []) := by
            intro n9
            induction n9 with
            | zero =>
              intro u2 b2 ns H locs sg ls hT kthis_14 kthis_17 kthis_18 p4 p5 p6 p7 p3 hl hm9
              exfalso
              omega
            | succ n9 ih9 =>
              have ih21 := ih9
              clear ih9
              intro u2 b2 ns H locs s11 ls hT kthis_14 kthis_17 kthis_18 p4 p5 p6 p7 p3 hl hm9
              have b12 : isB (zI s11 this 17) := hT.P (hT.k t_this (by decide)) (by decide)
              rw [kthis_17] at b12
              have b12t := isB_t b12
              rcases p3 with ⟨pb, aa, nn, vv, g, y1, y2, y3, y4, y5, y6, y7, y8, y9, y10, y11, y12, y13, y14, y15⟩ | ⟨pb, x9, co, po, z1, z2, z3, z4, z5⟩
              · skip
                obtain ⟨v13, ev13⟩ : ∃ zz9 : Int32, zI s11 this 15 = zz9 := ⟨_, rfl⟩
                have qv13 : v13.toInt = (zI s11 this 15).toInt := by rw [ev13]
                have zthis15 : zI σ0 this 15 = v13 := y7.symm.trans ev13
                obtain ⟨v14, ev14⟩ : ∃ zz9 : Int32, zI s11 this 16 = zz9 := ⟨_, rfl⟩
                have qv14 : v14.toInt = (zI s11 this 16).toInt := by rw [ev14]
                have zthis16 : zI σ0 this 16 = v14 := y8.symm.trans ev14
                obtain ⟨v15, ev15⟩ : ∃ zz9 : Int32, zI s11 this 20 = zz9 := ⟨_, rfl⟩
                have qv15 : v15.toInt = (zI s11 this 20).toInt := by rw [ev15]
                obtain ⟨v16, ev16⟩ : ∃ zz9 : Int32, zI s11 this 21 = zz9 := ⟨_, rfl⟩
                have qv16 : v16.toInt = (zI s11 this 21).toInt := by rw [ev16]
                obtain ⟨v17, ev17⟩ : ∃ zz9 : Int32, zI s11 this 22 = zz9 := ⟨_, rfl⟩
                have qv17 : v17.toInt = (zI s11 this 22).toInt := by rw [ev17]
                obtain ⟨v18, ev18⟩ : ∃ zz9 : Int32, zI s11 this 19 = zz9 := ⟨_, rfl⟩
                have qv18 : v18.toInt = (zI s11 this 19).toInt := by rw [ev18]
                have gm19 : v15.toInt = g 0 ∧ v16.toInt = g 1 ∧ v17.toInt = g 2 ∧ v18.toInt = g 3 := by have z9 := y6; unfold GSm at z9; rw [(show zI s11 this 20 = v15 from ev15), (show zI s11 this 21 = v16 from ev16), (show zI s11 this 22 = v17 from ev17), (show zI s11 this 19 = v18 from ev18)] at z9; exact z9
                refine lv_aload_n hx hb dX6_reads_21 rfl (lv_at hl 0 rfl) ?_
                refine lv_ldc2 hx hb hown (hg _ k1394) dX6_reads_22 ?_
                have cz20 : zI s11 this 15 = v13 := ev13
                have cz21 : zI s11 this 16 = v14 := ev14
                have cz22 : zI s11 this 17 = b2 := kthis_17
                have cz23 : zI s11 this 17 = b2 := kthis_17
                have cz24 : zI s11 this 15 = v13 := ev13
                have cz25 : zI s11 this 16 = v14 := ev14
                have hTo := hT
                refine tVi (n := 1) (As := [.long 47]) (rest := []) hx hb hml hown hg hT hK hX (X6s_isWord l κ s11 this 47  (hT.k t_this (by decide)) (hTX.tr (funext fun k => by rw [erT]; exact hT.eI trT (by decide) rfl rfl) (hT.eI t_this (by decide) rfl rfl)) (show (zI s11 this 17).toInt = 0 → (zI s11 this 14).toInt = ((aa : Nat) : Int) ∧ aa ≤ Ln from fun q9 => ⟨by rw [(show zI s11 this 14 = u2 from kthis_14)]; omega, by omega⟩) (show encP 47 12 from ⟨by decide, by decide +kernel⟩)) sub_gH_gS3 (mwV k1337 k1339 k40 k92 k1340) ⟨rfl, by decide, by decide, by decide +kernel⟩ ⟨(Nat.le_of_ble_eq_true rfl), (Nat.le_of_ble_eq_true rfl)⟩ (hT.o20 (hT.k t_this (by decide))) rfl rfl hl.1 rfl (Nat.le_of_ble_eq_true rfl) dX6_reads_25 zroom.rf (fun x26 s27 H locs hφ hEs27 hT => ?_)
                have kthis_17 : zI s27 this 17 = b2 := ((hTo.k t_this (by decide)).eI hEs27 (by decide) rfl).trans kthis_17
                have kthis_18 : zI s27 this 18 = ns := ((hTo.k t_this (by decide)).eI hEs27 (by decide) rfl).trans kthis_18
                have ev13 : zI s27 this 15 = v13 := ((hTo.k t_this (by decide)).eI hEs27 (by decide) rfl).trans ev13
                have ev14 : zI s27 this 16 = v14 := ((hTo.k t_this (by decide)).eI hEs27 (by decide) rfl).trans ev14
                have ev15 : zI s27 this 20 = v15 := ((hTo.k t_this (by decide)).eI hEs27 (by decide) rfl).trans ev15
                have ev16 : zI s27 this 21 = v16 := ((hTo.k t_this (by decide)).eI hEs27 (by decide) rfl).trans ev16
                have ev17 : zI s27 this 22 = v17 := ((hTo.k t_this (by decide)).eI hEs27 (by decide) rfl).trans ev17
                have ev18 : zI s27 this 19 = v18 := ((hTo.k t_this (by decide)).eI hEs27 (by decide) rfl).trans ev18
                have Y28 : PL nn (zI s27 rQ) := by first | (rw [show zI s27 rQ = zI s11 rQ from funext fun k => (hTo.k trQ (by decide)).eI hEs27 (by decide) rfl]; exact y9) | rw [show zI s27 rQ = zI s11 rQ from funext fun k => (hTo.k trQ (by decide)).eI hEs27 (by decide) rfl]
                have Y29 : (nn = 0 ∧ vv = -1) ∨ (0 < nn ∧ (zI s27 rQ (nn - 1)).toInt = vv) := by first | (rw [show zI s27 rQ = zI s11 rQ from funext fun k => (hTo.k trQ (by decide)).eI hEs27 (by decide) rfl]; exact y10) | rw [show zI s27 rQ = zI s11 rQ from funext fun k => (hTo.k trQ (by decide)).eI hEs27 (by decide) rfl]
                have Y30 : usP (zI s27 rQ) nn g := by first | (rw [show zI s27 rQ = zI s11 rQ from funext fun k => (hTo.k trQ (by decide)).eI hEs27 (by decide) rfl]; exact y13) | rw [show zI s27 rQ = zI s11 rQ from funext fun k => (hTo.k trQ (by decide)).eI hEs27 (by decide) rfl]
                have Y31 : usO (zI s27 rV) nn g := by first | (rw [show zI s27 rV = zI s11 rV from funext fun k => (hTo.k trV (by decide)).eI hEs27 (by decide) rfl]; exact y14) | rw [show zI s27 rV = zI s11 rV from funext fun k => (hTo.k trV (by decide)).eI hEs27 (by decide) rfl]
                obtain ⟨f32, f33, f34⟩ := hφ
                obtain ⟨a9, w9⟩ := f33 (show (zI s11 this 17).toInt = 0 from by rw [cz22]; omega)
                obtain ⟨v35, ev35⟩ : ∃ zz9 : Int32, zI s27 this 14 = zz9 := ⟨_, rfl⟩
                have qv35 : v35.toInt = (zI s27 this 14).toInt := by rw [ev35]
                rw [(show zI s27 this 14 = v35 from ev35)] at a9
                rcases w9 with ⟨w1, w2⟩ | ⟨w1, w2⟩
                · skip
                  refine lv_if_eq (tgt := 38) hx hb dX6_reads_28 (by decide) (fun c9 => absurd (gi_eq c9) (by omega)) (fun _ => ?_)
                  refine lv_aload_n hx hb dX6_reads_31 rfl (lv_at hl 0 rfl) ?_
                  have cz36 : zI s27 this 15 = v13 := ev13
                  have cz37 : zI s27 this 16 = v14 := ev14
                  have cz38 : zI s27 this 17 = b2 := kthis_17
                  have hTo := hT
                  refine tVv (n := 0) (As := []) (rest := []) hx hb hml hown hg hT hK hX (X6s_sampleTold l κ s27 this  (hT.k t_this (by decide)) (hTX.tr (funext fun k => by rw [erT]; exact hT.eI trT (by decide) rfl rfl) (hT.eI t_this (by decide) rfl rfl)) (show (zI s27 this 17).toInt = 0 from by rw [(show zI s27 this 17 = b2 from kthis_17)]; omega) (show (zI s27 this 14).toInt = ((uscn uisBl tc Ln aa) : Nat) from by rw [(show zI s27 this 14 = v35 from ev35)]; omega) (uscn_le y2) ⟨by decide, w2⟩ (show (zI s27 this 18).toInt = (nn : Nat) from by rw [(show zI s27 this 18 = ns from kthis_18)]; omega) y4 (show (nn = 0 ∧ vv = -1) ∨ (0 < nn ∧ (zI s27 (kR κ this 25) (nn - 1)).toInt = vv) from by rw [erQ]; exact Y29) y11 y12) sub_gS2_gS3 (mwV k1395 k1397 k50 k92 k1398) ⟨rfl, by decide, by decide, by decide +kernel⟩ ⟨(Nat.le_of_ble_eq_true rfl), (Nat.le_of_ble_eq_true rfl)⟩ (hT.o20 (hT.k t_this (by decide))) rfl rfl hl.1 rfl (Nat.le_of_ble_eq_true rfl) dX6_reads_32 zroom.rf (fun s40 H locs hφ hEs40 hT => ?_)
                  have ev15 : zI s40 this 20 = v15 := ((hTo.k t_this (by decide)).eI hEs40 (by decide) rfl).trans ev15
                  have ev16 : zI s40 this 21 = v16 := ((hTo.k t_this (by decide)).eI hEs40 (by decide) rfl).trans ev16
                  have ev17 : zI s40 this 22 = v17 := ((hTo.k t_this (by decide)).eI hEs40 (by decide) rfl).trans ev17
                  have ev18 : zI s40 this 19 = v18 := ((hTo.k t_this (by decide)).eI hEs40 (by decide) rfl).trans ev18
                  have f41 := hφ
                  rcases f41 with ⟨t1, ⟨s9, a8, v9, t2, t3, t4, t5, t6, t7, t8, t9, t10⟩, t11, t14, t15, t12, t13⟩ | ⟨t1, t2, t3, co, po, t4, t5, t6, t7⟩
                  · skip
                    obtain ⟨v42, ev42⟩ : ∃ zz9 : Int32, zI s40 this 17 = zz9 := ⟨_, rfl⟩
                    have qv42 : v42.toInt = (zI s40 this 17).toInt := by rw [ev42]
                    have b43 : isB v42 := by have q9 : isB (zI s40 this 17) := hT.P (hT.k t_this (by decide)) (by decide); rw [ev42] at q9; exact q9
                    have b43t := isB_t b43
                    rw [(show zI s40 this 17 = v42 from ev42)] at t1
                    obtain ⟨v44, ev44⟩ : ∃ zz9 : Int32, zI s40 this 14 = zz9 := ⟨_, rfl⟩
                    have qv44 : v44.toInt = (zI s40 this 14).toInt := by rw [ev44]
                    rw [(show zI s40 this 14 = v44 from ev44)] at t3
                    obtain ⟨v45, ev45⟩ : ∃ zz9 : Int32, zI s40 this 18 = zz9 := ⟨_, rfl⟩
                    have qv45 : v45.toInt = (zI s40 this 18).toInt := by rw [ev45]
                    rw [(show zI s40 this 18 = v45 from ev45)] at t6
                    obtain ⟨v46, ev46⟩ : ∃ zz9 : Int32, zI s40 this 15 = zz9 := ⟨_, rfl⟩
                    have qv46 : v46.toInt = (zI s40 this 15).toInt := by rw [ev46]
                    have zthis15 : zI σ0 this 15 = v46 := zthis15.trans (cz36.symm.trans (t12.symm.trans ev46))
                    obtain ⟨v47, ev47⟩ : ∃ zz9 : Int32, zI s40 this 16 = zz9 := ⟨_, rfl⟩
                    have qv47 : v47.toInt = (zI s40 this 16).toInt := by rw [ev47]
                    have zthis16 : zI σ0 this 16 = v47 := zthis16.trans (cz37.symm.trans (t13.symm.trans ev47))
                    rw [erQ] at t8 t11
                    rw [erV] at t14 t15
                    refine lv_goto (tgt := 21) hx hb dX6_reads_35 (by decide) ?_
                    exact ih21 v44 v42 v45 _ _ _ _ hT ev44 ev42 ev45 (by omega) (by omega) (by omega) (by omega) (Or.inl ⟨by omega, a8, nn + 1, v9, usm (utkK tc Ln) (unxt tc Ln) (uvl tc Ln) (uscn uisBl tc Ln aa) nn g, by omega, t4, by omega, by omega, by rw [t5]; exact urt_tl y5 (Or.inr ⟨rfl, _, _, _, t2, rfl⟩), ((show GSm s40 this g from ⟨by rw [(show zI s40 this 20 = v15 from ev15)]; exact gm19.1, by rw [(show zI s40 this 21 = v16 from ev16)]; exact gm19.2.1, by rw [(show zI s40 this 22 = v17 from ev17)]; exact gm19.2.2.1, by rw [(show zI s40 this 19 = v18 from ev18)]; exact gm19.2.2.2⟩)).lo (fun k hk => usm_lo hk), ((show zI s40 this 15 = v46 from ev46).trans zthis15.symm), ((show zI s40 this 16 = v47 from ev47).trans zthis16.symm), PL_more Y28 t11 (by omega) (by rcases Y29 with q9 | q9; exact Or.inl q9.1; exact Or.inr (by omega)), Or.inr ⟨by omega, t8⟩, by omega, by omega, Y30.more t11 (t8.trans t2.2.2.2.2.2.2.2.2), Y31.more t14 t15, y15.more (uvq_b t2.2.2.2.2.1)⟩) hl (by omega)
                  · skip
                    obtain ⟨v48, ev48⟩ : ∃ zz9 : Int32, zI s40 this 17 = zz9 := ⟨_, rfl⟩
                    have qv48 : v48.toInt = (zI s40 this 17).toInt := by rw [ev48]
                    have b49 : isB v48 := by have q9 : isB (zI s40 this 17) := hT.P (hT.k t_this (by decide)) (by decide); rw [ev48] at q9; exact q9
                    have b49t := isB_t b49
                    rw [(show zI s40 this 17 = v48 from ev48)] at t1
                    obtain ⟨v50, ev50⟩ : ∃ zz9 : Int32, zI s40 this 18 = zz9 := ⟨_, rfl⟩
                    have qv50 : v50.toInt = (zI s40 this 18).toInt := by rw [ev50]
                    rw [(show zI s40 this 18 = v50 from ev50)] at t2
                    rw [(show zI s40 this 18 = v50 from ev50)] at t3
                    obtain ⟨v51, ev51⟩ : ∃ zz9 : Int32, zI s40 this 15 = zz9 := ⟨_, rfl⟩
                    have qv51 : v51.toInt = (zI s40 this 15).toInt := by rw [ev51]
                    rw [(show zI s40 this 15 = v51 from ev51)] at t6
                    obtain ⟨v52, ev52⟩ : ∃ zz9 : Int32, zI s40 this 16 = zz9 := ⟨_, rfl⟩
                    have qv52 : v52.toInt = (zI s40 this 16).toInt := by rw [ev52]
                    rw [(show zI s40 this 16 = v52 from ev52)] at t7
                    obtain ⟨v53, ev53⟩ : ∃ zz9 : Int32, zI s40 this 14 = zz9 := ⟨_, rfl⟩
                    have qv53 : v53.toInt = (zI s40 this 14).toInt := by rw [ev53]
                    refine lv_goto (tgt := 21) hx hb dX6_reads_35 (by decide) ?_
                    exact ih21 v53 v48 v50 _ _ _ _ hT ev53 ev48 ev50 (by omega) (by omega) (by omega) (by omega) (Or.inr ⟨by omega, (true, (uscn uisBl tc Ln aa), nn, vv, g), co, po, y5, Or.inr (Or.inl ⟨rfl, t4⟩), t5, by rw [(show zI s40 this 15 = v51 from ev51)]; exact t6, by rw [(show zI s40 this 16 = v52 from ev52)]; exact t7⟩) hl (by omega)
                · skip
                  refine lv_if_eq (tgt := 38) hx hb dX6_reads_28 (by decide) (fun _ => ?_) (fun c9 => absurd (gi_ne c9) (by omega))
                  refine lv_aload_n hx hb dX6_reads_38 rfl (lv_at hl 0 rfl) ?_
                  refine va_get (D := κ.1) (ci := 6) (v := .int (zI s27 this 17)) (C := RX6) (T := TX6) (N := 27) hx hb hg inX6 hown hK (hT.o20 (hT.k t_this (by decide))).one 0 rfl rfl 17 (by decide) (hg _ k1236) (fun _ h9 => h9) rfl dX6_reads_39 ?_
                  rw [kthis_17]
                  refine lv_if_ne (tgt := 75) hx hb dX6_reads_42 (by decide) (fun c9 => absurd (gi_ne c9) (by omega)) (fun _ => ?_)
                  refine lv_aload_n hx hb dX6_reads_45 rfl (lv_at hl 0 rfl) ?_
                  refine va_get (D := κ.1) (ci := 6) (v := .int (zI s27 this 18)) (C := RX6) (T := TX6) (N := 27) hx hb hg inX6 hown hK (hT.o20 (hT.k t_this (by decide))).one 0 rfl rfl 18 (by decide) (hg _ k1237) (fun _ h9 => h9) rfl dX6_reads_46 ?_
                  rw [kthis_18]
                  refine lv_iconst (v := 2) hx hb dX6_reads_49 (by decide) ?_
                  refine lv_icmp_lt (tgt := 61) hx hb dX6_reads_50 (by decide) (fun c9 => ?_) (fun c9 => ?_)
                  · have c2 := gi_lt c9
                    refine lv_aload_n hx hb dX6_reads_61 rfl (lv_at hl 0 rfl) ?_
                    have hTo := hT
                    refine tVi (n := 0) (As := []) (rest := []) hx hb hml hown hg hT hK hX (X6s_here l κ s27 this  (hT.k t_this (by decide)) (hTX.tr (funext fun k => by rw [erT]; exact hT.eI trT (by decide) rfl rfl) (hT.eI t_this (by decide) rfl rfl)) (show (zI s27 this 14).toInt = ((uscn uisBl tc Ln aa) : Nat) from by rw [(show zI s27 this 14 = v35 from ev35)]; omega) (uscn_le y2)) sub_gH_gS3 (mwV k1345 k1347 k42 k92 k1348) ⟨rfl, by decide, by decide, by decide +kernel⟩ ⟨(Nat.le_of_ble_eq_true rfl), (Nat.le_of_ble_eq_true rfl)⟩ (hT.o20 (hT.k t_this (by decide))) rfl rfl hl.1 rfl (Nat.le_of_ble_eq_true rfl) dX6_reads_62 zroom.rf (fun x54 s55 H locs hφ hEs55 hT => ?_)
                    have kthis_17 : zI s55 this 17 = b2 := ((hTo.k t_this (by decide)).eI hEs55 (by decide) rfl).trans kthis_17
                    have kthis_18 : zI s55 this 18 = ns := ((hTo.k t_this (by decide)).eI hEs55 (by decide) rfl).trans kthis_18
                    have ev13 : zI s55 this 15 = v13 := ((hTo.k t_this (by decide)).eI hEs55 (by decide) rfl).trans ev13
                    have ev14 : zI s55 this 16 = v14 := ((hTo.k t_this (by decide)).eI hEs55 (by decide) rfl).trans ev14
                    have ev15 : zI s55 this 20 = v15 := ((hTo.k t_this (by decide)).eI hEs55 (by decide) rfl).trans ev15
                    have ev16 : zI s55 this 21 = v16 := ((hTo.k t_this (by decide)).eI hEs55 (by decide) rfl).trans ev16
                    have ev17 : zI s55 this 22 = v17 := ((hTo.k t_this (by decide)).eI hEs55 (by decide) rfl).trans ev17
                    have ev18 : zI s55 this 19 = v18 := ((hTo.k t_this (by decide)).eI hEs55 (by decide) rfl).trans ev18
                    have Y56 : PL nn (zI s55 rQ) := by first | (rw [show zI s55 rQ = zI s27 rQ from funext fun k => (hTo.k trQ (by decide)).eI hEs55 (by decide) rfl]; exact Y28) | rw [show zI s55 rQ = zI s27 rQ from funext fun k => (hTo.k trQ (by decide)).eI hEs55 (by decide) rfl]
                    have Y57 : (nn = 0 ∧ vv = -1) ∨ (0 < nn ∧ (zI s55 rQ (nn - 1)).toInt = vv) := by first | (rw [show zI s55 rQ = zI s27 rQ from funext fun k => (hTo.k trQ (by decide)).eI hEs55 (by decide) rfl]; exact Y29) | rw [show zI s55 rQ = zI s27 rQ from funext fun k => (hTo.k trQ (by decide)).eI hEs55 (by decide) rfl]
                    have Y58 : usP (zI s55 rQ) nn g := by first | (rw [show zI s55 rQ = zI s27 rQ from funext fun k => (hTo.k trQ (by decide)).eI hEs55 (by decide) rfl]; exact Y30) | rw [show zI s55 rQ = zI s27 rQ from funext fun k => (hTo.k trQ (by decide)).eI hEs55 (by decide) rfl]
                    have Y59 : usO (zI s55 rV) nn g := by first | (rw [show zI s55 rV = zI s27 rV from funext fun k => (hTo.k trV (by decide)).eI hEs55 (by decide) rfl]; exact Y31) | rw [show zI s55 rV = zI s27 rV from funext fun k => (hTo.k trV (by decide)).eI hEs55 (by decide) rfl]
                    obtain ⟨f60, f61⟩ := hφ
                    rw [uscn_id] at f60
                    obtain ⟨v62, ev62⟩ : ∃ zz9 : Int32, zI s55 this 14 = zz9 := ⟨_, rfl⟩
                    have qv62 : v62.toInt = (zI s55 this 14).toInt := by rw [ev62]
                    rw [(show zI s55 this 14 = v62 from ev62)] at f60
                    refine lv_istore_n (lv' := [(2, .int x54), (0, .ref this)]) hx hb dX6_reads_65 rfl hl (by decide) rfl (fun ls hl => ?_)
                    refine lv_aload_n hx hb dX6_reads_66 rfl (lv_at hl 1 rfl) ?_
                    refine lv_iconst (v := 1) hx hb dX6_reads_67 (by decide) ?_
                    refine lv_aload_n hx hb dX6_reads_68 rfl (lv_at hl 1 rfl) ?_
                    refine va_get (D := κ.1) (ci := 6) (v := .int (zI s55 this 14)) (C := RX6) (T := TX6) (N := 27) hx hb hg inX6 hown hK (hT.o20 (hT.k t_this (by decide))).one 0 rfl rfl 14 (by decide) (hg _ k1233) (fun _ h9 => h9) rfl dX6_reads_69 ?_
                    rw [ev62]
                    have cz63 : zI s55 this 17 = b2 := kthis_17
                    have hTo := hT
                    refine tVv (n := 2) (As := [.int 1, .int v62]) (rest := []) hx hb hml hown hg hT hK hX (X6s_wrong l κ s55 this 1 v62  (hT.k t_this (by decide)) ) sub_gB_gS3 (mwV k1361 k1363 k45 k92 k1364) ⟨rfl, by decide, by decide, by decide +kernel⟩ ⟨(Nat.le_of_ble_eq_true rfl), (Nat.le_of_ble_eq_true rfl)⟩ (hT.o20 (hT.k t_this (by decide))) rfl rfl hl.1 rfl (Nat.le_of_ble_eq_true rfl) dX6_reads_72 zroom.rf (fun s65 H locs hφ hEs65 hT => ?_)
                    have kthis_18 : zI s65 this 18 = ns := ((hTo.k t_this (by decide)).eI hEs65 (by decide) rfl).trans kthis_18
                    have ev15 : zI s65 this 20 = v15 := ((hTo.k t_this (by decide)).eI hEs65 (by decide) rfl).trans ev15
                    have ev16 : zI s65 this 21 = v16 := ((hTo.k t_this (by decide)).eI hEs65 (by decide) rfl).trans ev16
                    have ev17 : zI s65 this 22 = v17 := ((hTo.k t_this (by decide)).eI hEs65 (by decide) rfl).trans ev17
                    have ev18 : zI s65 this 19 = v18 := ((hTo.k t_this (by decide)).eI hEs65 (by decide) rfl).trans ev18
                    have ev62 : zI s65 this 14 = v62 := ((hTo.k t_this (by decide)).eI hEs65 (by decide) rfl).trans ev62
                    have Y66 : PL nn (zI s65 rQ) := by first | (rw [show zI s65 rQ = zI s55 rQ from funext fun k => (hTo.k trQ (by decide)).eI hEs65 (by decide) rfl]; exact Y56) | rw [show zI s65 rQ = zI s55 rQ from funext fun k => (hTo.k trQ (by decide)).eI hEs65 (by decide) rfl]
                    have Y67 : (nn = 0 ∧ vv = -1) ∨ (0 < nn ∧ (zI s65 rQ (nn - 1)).toInt = vv) := by first | (rw [show zI s65 rQ = zI s55 rQ from funext fun k => (hTo.k trQ (by decide)).eI hEs65 (by decide) rfl]; exact Y57) | rw [show zI s65 rQ = zI s55 rQ from funext fun k => (hTo.k trQ (by decide)).eI hEs65 (by decide) rfl]
                    have Y68 : usP (zI s65 rQ) nn g := by first | (rw [show zI s65 rQ = zI s55 rQ from funext fun k => (hTo.k trQ (by decide)).eI hEs65 (by decide) rfl]; exact Y58) | rw [show zI s65 rQ = zI s55 rQ from funext fun k => (hTo.k trQ (by decide)).eI hEs65 (by decide) rfl]
                    have Y69 : usO (zI s65 rV) nn g := by first | (rw [show zI s65 rV = zI s55 rV from funext fun k => (hTo.k trV (by decide)).eI hEs65 (by decide) rfl]; exact Y59) | rw [show zI s65 rV = zI s55 rV from funext fun k => (hTo.k trV (by decide)).eI hEs65 (by decide) rfl]
                    have f70 := hφ
                    obtain ⟨wb91, wb92, wb93⟩ := (f70.resolve_left (fun q9 => by have z9 := q9.1; rw [cz63] at z9; omega)).2
                    subst hQ9
                    exact t_v hx hb hr hlocks hT ⟨Or.inl wb91, Or.inl wb91, (true, (uscn uisBl tc Ln aa), nn, vv, g), 1, ((uscn uisBl tc Ln aa) : Nat), ⟨y5, Or.inr (Or.inl ⟨rfl, Or.inl ⟨fun q9 => by have q8 := tk0_iff.mp (show utkK tc Ln (uscn uisBl tc Ln aa) = 0 from q9.1); have q7 : 2 ≤ nn := q9.2; omega, fun q9 => w2 q9.2, rfl, rfl⟩⟩)⟩, Or.inr ⟨wb91, by decide, by rw [wb92]; exact n1, by rw [wb93]; omega⟩⟩ dX6_reads_75
                  · have c3 := gi_nlt c9
                    refine lv_aload_n hx hb dX6_reads_53 rfl (lv_at hl 0 rfl) ?_
                    have hTo := hT
                    refine tVi (n := 0) (As := []) (rest := []) hx hb hml hown hg hT hK hX (X6s_here l κ s27 this  (hT.k t_this (by decide)) (hTX.tr (funext fun k => by rw [erT]; exact hT.eI trT (by decide) rfl rfl) (hT.eI t_this (by decide) rfl rfl)) (show (zI s27 this 14).toInt = ((uscn uisBl tc Ln aa) : Nat) from by rw [(show zI s27 this 14 = v35 from ev35)]; omega) (uscn_le y2)) sub_gH_gS3 (mwV k1345 k1347 k42 k92 k1348) ⟨rfl, by decide, by decide, by decide +kernel⟩ ⟨(Nat.le_of_ble_eq_true rfl), (Nat.le_of_ble_eq_true rfl)⟩ (hT.o20 (hT.k t_this (by decide))) rfl rfl hl.1 rfl (Nat.le_of_ble_eq_true rfl) dX6_reads_54 zroom.rf (fun x71 s72 H locs hφ hEs72 hT => ?_)
                    have kthis_17 : zI s72 this 17 = b2 := ((hTo.k t_this (by decide)).eI hEs72 (by decide) rfl).trans kthis_17
                    have kthis_18 : zI s72 this 18 = ns := ((hTo.k t_this (by decide)).eI hEs72 (by decide) rfl).trans kthis_18
                    have ev13 : zI s72 this 15 = v13 := ((hTo.k t_this (by decide)).eI hEs72 (by decide) rfl).trans ev13
                    have ev14 : zI s72 this 16 = v14 := ((hTo.k t_this (by decide)).eI hEs72 (by decide) rfl).trans ev14
                    have ev15 : zI s72 this 20 = v15 := ((hTo.k t_this (by decide)).eI hEs72 (by decide) rfl).trans ev15
                    have ev16 : zI s72 this 21 = v16 := ((hTo.k t_this (by decide)).eI hEs72 (by decide) rfl).trans ev16
                    have ev17 : zI s72 this 22 = v17 := ((hTo.k t_this (by decide)).eI hEs72 (by decide) rfl).trans ev17
                    have ev18 : zI s72 this 19 = v18 := ((hTo.k t_this (by decide)).eI hEs72 (by decide) rfl).trans ev18
                    have Y73 : PL nn (zI s72 rQ) := by first | (rw [show zI s72 rQ = zI s27 rQ from funext fun k => (hTo.k trQ (by decide)).eI hEs72 (by decide) rfl]; exact Y28) | rw [show zI s72 rQ = zI s27 rQ from funext fun k => (hTo.k trQ (by decide)).eI hEs72 (by decide) rfl]
                    have Y74 : (nn = 0 ∧ vv = -1) ∨ (0 < nn ∧ (zI s72 rQ (nn - 1)).toInt = vv) := by first | (rw [show zI s72 rQ = zI s27 rQ from funext fun k => (hTo.k trQ (by decide)).eI hEs72 (by decide) rfl]; exact Y29) | rw [show zI s72 rQ = zI s27 rQ from funext fun k => (hTo.k trQ (by decide)).eI hEs72 (by decide) rfl]
                    have Y75 : usP (zI s72 rQ) nn g := by first | (rw [show zI s72 rQ = zI s27 rQ from funext fun k => (hTo.k trQ (by decide)).eI hEs72 (by decide) rfl]; exact Y30) | rw [show zI s72 rQ = zI s27 rQ from funext fun k => (hTo.k trQ (by decide)).eI hEs72 (by decide) rfl]
                    have Y76 : usO (zI s72 rV) nn g := by first | (rw [show zI s72 rV = zI s27 rV from funext fun k => (hTo.k trV (by decide)).eI hEs72 (by decide) rfl]; exact Y31) | rw [show zI s72 rV = zI s27 rV from funext fun k => (hTo.k trV (by decide)).eI hEs72 (by decide) rfl]
                    obtain ⟨f77, f78⟩ := hφ
                    rw [uscn_id] at f77 f78
                    obtain ⟨v79, ev79⟩ : ∃ zz9 : Int32, zI s72 this 14 = zz9 := ⟨_, rfl⟩
                    have qv79 : v79.toInt = (zI s72 this 14).toInt := by rw [ev79]
                    rw [(show zI s72 this 14 = v79 from ev79)] at f77
                    refine lv_iconst (v := (-1)) hx hb dX6_reads_57 (by decide) ?_
                    refine lv_icmp_eq (tgt := 75) hx hb dX6_reads_58 (by decide) (fun c9 => ?_) (fun c9 => ?_)
                    · have c4 := gi_eq c9
                      subst hQ9
                      exact t_v hx hb hr hlocks hT ⟨Or.inr ⟨by rw [(show zI s72 this 18 = ns from kthis_18)]; omega, by rw [(show zI s72 this 18 = ns from kthis_18)]; omega⟩, Or.inr (by rw [erQ, (show zI s72 this 18 = ns from kthis_18), show ns.toInt.toNat = nn from by omega]; exact Y73), (true, (uscn uisBl tc Ln aa), nn, vv, g), 0, (nn : Nat), ⟨y5, Or.inr (Or.inr ⟨rfl, ⟨(show utkK tc Ln (uscn uisBl tc Ln aa) = 0 from tk0_iff.mpr (by omega)), (show 2 ≤ nn from by omega)⟩, rfl, rfl⟩)⟩, Or.inl ⟨by rw [(show zI s72 this 17 = b2 from kthis_17)]; omega, rfl, by rw [(show zI s72 this 18 = ns from kthis_18)]; omega, (show GSm s72 this g from ⟨by rw [(show zI s72 this 20 = v15 from ev15)]; exact gm19.1, by rw [(show zI s72 this 21 = v16 from ev16)]; exact gm19.2.1, by rw [(show zI s72 this 22 = v17 from ev17)]; exact gm19.2.2.1, by rw [(show zI s72 this 19 = v18 from ev18)]; exact gm19.2.2.2⟩), ((show zI s72 this 15 = v13 from ev13).trans zthis15.symm), ((show zI s72 this 16 = v14 from ev14).trans zthis16.symm), by rw [erQ]; exact Y75, by rw [erV]; exact Y76, y15⟩⟩ dX6_reads_75
                    · have c5 := gi_ne c9
                      refine lv_aload_n hx hb dX6_reads_61 rfl (lv_at hl 0 rfl) ?_
                      have hTo := hT
                      refine tVi (n := 0) (As := []) (rest := []) hx hb hml hown hg hT hK hX (X6s_here l κ s72 this  (hT.k t_this (by decide)) (hTX.tr (funext fun k => by rw [erT]; exact hT.eI trT (by decide) rfl rfl) (hT.eI t_this (by decide) rfl rfl)) (show (zI s72 this 14).toInt = ((uscn uisBl tc Ln aa) : Nat) from by rw [(show zI s72 this 14 = v79 from ev79)]; omega) (uscn_le y2)) sub_gH_gS3 (mwV k1345 k1347 k42 k92 k1348) ⟨rfl, by decide, by decide, by decide +kernel⟩ ⟨(Nat.le_of_ble_eq_true rfl), (Nat.le_of_ble_eq_true rfl)⟩ (hT.o20 (hT.k t_this (by decide))) rfl rfl hl.1 rfl (Nat.le_of_ble_eq_true rfl) dX6_reads_62 zroom.rf (fun x80 s81 H locs hφ hEs81 hT => ?_)
                      have kthis_17 : zI s81 this 17 = b2 := ((hTo.k t_this (by decide)).eI hEs81 (by decide) rfl).trans kthis_17
                      have kthis_18 : zI s81 this 18 = ns := ((hTo.k t_this (by decide)).eI hEs81 (by decide) rfl).trans kthis_18
                      have ev13 : zI s81 this 15 = v13 := ((hTo.k t_this (by decide)).eI hEs81 (by decide) rfl).trans ev13
                      have ev14 : zI s81 this 16 = v14 := ((hTo.k t_this (by decide)).eI hEs81 (by decide) rfl).trans ev14
                      have ev15 : zI s81 this 20 = v15 := ((hTo.k t_this (by decide)).eI hEs81 (by decide) rfl).trans ev15
                      have ev16 : zI s81 this 21 = v16 := ((hTo.k t_this (by decide)).eI hEs81 (by decide) rfl).trans ev16
                      have ev17 : zI s81 this 22 = v17 := ((hTo.k t_this (by decide)).eI hEs81 (by decide) rfl).trans ev17
                      have ev18 : zI s81 this 19 = v18 := ((hTo.k t_this (by decide)).eI hEs81 (by decide) rfl).trans ev18
                      have Y82 : PL nn (zI s81 rQ) := by first | (rw [show zI s81 rQ = zI s72 rQ from funext fun k => (hTo.k trQ (by decide)).eI hEs81 (by decide) rfl]; exact Y73) | rw [show zI s81 rQ = zI s72 rQ from funext fun k => (hTo.k trQ (by decide)).eI hEs81 (by decide) rfl]
                      have Y83 : (nn = 0 ∧ vv = -1) ∨ (0 < nn ∧ (zI s81 rQ (nn - 1)).toInt = vv) := by first | (rw [show zI s81 rQ = zI s72 rQ from funext fun k => (hTo.k trQ (by decide)).eI hEs81 (by decide) rfl]; exact Y74) | rw [show zI s81 rQ = zI s72 rQ from funext fun k => (hTo.k trQ (by decide)).eI hEs81 (by decide) rfl]
                      have Y84 : usP (zI s81 rQ) nn g := by first | (rw [show zI s81 rQ = zI s72 rQ from funext fun k => (hTo.k trQ (by decide)).eI hEs81 (by decide) rfl]; exact Y75) | rw [show zI s81 rQ = zI s72 rQ from funext fun k => (hTo.k trQ (by decide)).eI hEs81 (by decide) rfl]
                      have Y85 : usO (zI s81 rV) nn g := by first | (rw [show zI s81 rV = zI s72 rV from funext fun k => (hTo.k trV (by decide)).eI hEs81 (by decide) rfl]; exact Y76) | rw [show zI s81 rV = zI s72 rV from funext fun k => (hTo.k trV (by decide)).eI hEs81 (by decide) rfl]
                      obtain ⟨f86, f87⟩ := hφ
                      rw [uscn_id] at f86
                      obtain ⟨v88, ev88⟩ : ∃ zz9 : Int32, zI s81 this 14 = zz9 := ⟨_, rfl⟩
                      have qv88 : v88.toInt = (zI s81 this 14).toInt := by rw [ev88]
                      rw [(show zI s81 this 14 = v88 from ev88)] at f86
                      refine lv_istore_n (lv' := [(2, .int x80), (0, .ref this)]) hx hb dX6_reads_65 rfl hl (by decide) rfl (fun ls hl => ?_)
                      refine lv_aload_n hx hb dX6_reads_66 rfl (lv_at hl 1 rfl) ?_
                      refine lv_iconst (v := 1) hx hb dX6_reads_67 (by decide) ?_
                      refine lv_aload_n hx hb dX6_reads_68 rfl (lv_at hl 1 rfl) ?_
                      refine va_get (D := κ.1) (ci := 6) (v := .int (zI s81 this 14)) (C := RX6) (T := TX6) (N := 27) hx hb hg inX6 hown hK (hT.o20 (hT.k t_this (by decide))).one 0 rfl rfl 14 (by decide) (hg _ k1233) (fun _ h9 => h9) rfl dX6_reads_69 ?_
                      rw [ev88]
                      have cz89 : zI s81 this 17 = b2 := kthis_17
                      have hTo := hT
                      refine tVv (n := 2) (As := [.int 1, .int v88]) (rest := []) hx hb hml hown hg hT hK hX (X6s_wrong l κ s81 this 1 v88  (hT.k t_this (by decide)) ) sub_gB_gS3 (mwV k1361 k1363 k45 k92 k1364) ⟨rfl, by decide, by decide, by decide +kernel⟩ ⟨(Nat.le_of_ble_eq_true rfl), (Nat.le_of_ble_eq_true rfl)⟩ (hT.o20 (hT.k t_this (by decide))) rfl rfl hl.1 rfl (Nat.le_of_ble_eq_true rfl) dX6_reads_72 zroom.rf (fun s91 H locs hφ hEs91 hT => ?_)
                      have kthis_18 : zI s91 this 18 = ns := ((hTo.k t_this (by decide)).eI hEs91 (by decide) rfl).trans kthis_18
                      have ev15 : zI s91 this 20 = v15 := ((hTo.k t_this (by decide)).eI hEs91 (by decide) rfl).trans ev15
                      have ev16 : zI s91 this 21 = v16 := ((hTo.k t_this (by decide)).eI hEs91 (by decide) rfl).trans ev16
                      have ev17 : zI s91 this 22 = v17 := ((hTo.k t_this (by decide)).eI hEs91 (by decide) rfl).trans ev17
                      have ev18 : zI s91 this 19 = v18 := ((hTo.k t_this (by decide)).eI hEs91 (by decide) rfl).trans ev18
                      have ev88 : zI s91 this 14 = v88 := ((hTo.k t_this (by decide)).eI hEs91 (by decide) rfl).trans ev88
                      have Y92 : PL nn (zI s91 rQ) := by first | (rw [show zI s91 rQ = zI s81 rQ from funext fun k => (hTo.k trQ (by decide)).eI hEs91 (by decide) rfl]; exact Y82) | rw [show zI s91 rQ = zI s81 rQ from funext fun k => (hTo.k trQ (by decide)).eI hEs91 (by decide) rfl]
                      have Y93 : (nn = 0 ∧ vv = -1) ∨ (0 < nn ∧ (zI s91 rQ (nn - 1)).toInt = vv) := by first | (rw [show zI s91 rQ = zI s81 rQ from funext fun k => (hTo.k trQ (by decide)).eI hEs91 (by decide) rfl]; exact Y83) | rw [show zI s91 rQ = zI s81 rQ from funext fun k => (hTo.k trQ (by decide)).eI hEs91 (by decide) rfl]
                      have Y94 : usP (zI s91 rQ) nn g := by first | (rw [show zI s91 rQ = zI s81 rQ from funext fun k => (hTo.k trQ (by decide)).eI hEs91 (by decide) rfl]; exact Y84) | rw [show zI s91 rQ = zI s81 rQ from funext fun k => (hTo.k trQ (by decide)).eI hEs91 (by decide) rfl]
                      have Y95 : usO (zI s91 rV) nn g := by first | (rw [show zI s91 rV = zI s81 rV from funext fun k => (hTo.k trV (by decide)).eI hEs91 (by decide) rfl]; exact Y85) | rw [show zI s91 rV = zI s81 rV from funext fun k => (hTo.k trV (by decide)).eI hEs91 (by decide) rfl]
                      have f96 := hφ
                      obtain ⟨wb91, wb92, wb93⟩ := (f96.resolve_left (fun q9 => by have z9 := q9.1; rw [cz89] at z9; omega)).2
                      subst hQ9
                      exact t_v hx hb hr hlocks hT ⟨Or.inl wb91, Or.inl wb91, (true, (uscn uisBl tc Ln aa), nn, vv, g), 1, ((uscn uisBl tc Ln aa) : Nat), ⟨y5, Or.inr (Or.inl ⟨rfl, Or.inl ⟨fun q9 => by have q8 := tk0_iff.mp (show utkK tc Ln (uscn uisBl tc Ln aa) = 0 from q9.1); have q7 : 2 ≤ nn := q9.2; omega, fun q9 => w2 q9.2, rfl, rfl⟩⟩)⟩, Or.inr ⟨wb91, by decide, by rw [wb92]; exact n1, by rw [wb93]; omega⟩⟩ dX6_reads_75
              · skip
                refine lv_aload_n hx hb dX6_reads_21 rfl (lv_at hl 0 rfl) ?_
                refine lv_ldc2 hx hb hown (hg _ k1394) dX6_reads_22 ?_
                obtain ⟨v97, ev97⟩ : ∃ zz9 : Int32, zI s11 this 15 = zz9 := ⟨_, rfl⟩
                have qv97 : v97.toInt = (zI s11 this 15).toInt := by rw [ev97]
                have cz98 : zI s11 this 15 = v97 := ev97
                obtain ⟨v99, ev99⟩ : ∃ zz9 : Int32, zI s11 this 16 = zz9 := ⟨_, rfl⟩
                have qv99 : v99.toInt = (zI s11 this 16).toInt := by rw [ev99]
                have cz100 : zI s11 this 16 = v99 := ev99
                have cz101 : zI s11 this 17 = b2 := kthis_17
                have cz102 : zI s11 this 17 = b2 := kthis_17
                have cz103 : zI s11 this 15 = v97 := ev97
                have cz104 : zI s11 this 16 = v99 := ev99
                have hTo := hT
                refine tVi (n := 1) (As := [.long 47]) (rest := []) hx hb hml hown hg hT hK hX (X6s_isWord l κ s11 this 47  (hT.k t_this (by decide)) (hTX.tr (funext fun k => by rw [erT]; exact hT.eI trT (by decide) rfl rfl) (hT.eI t_this (by decide) rfl rfl)) (show (zI s11 this 17).toInt = 0 → (zI s11 this 14).toInt = ((0 : Nat) : Int) ∧ 0 ≤ Ln from fun q9 => absurd q9 (by rw [(show zI s11 this 17 = b2 from kthis_17)]; omega)) (show encP 47 12 from ⟨by decide, by decide +kernel⟩)) sub_gH_gS3 (mwV k1337 k1339 k40 k92 k1340) ⟨rfl, by decide, by decide, by decide +kernel⟩ ⟨(Nat.le_of_ble_eq_true rfl), (Nat.le_of_ble_eq_true rfl)⟩ (hT.o20 (hT.k t_this (by decide))) rfl rfl hl.1 rfl (Nat.le_of_ble_eq_true rfl) dX6_reads_25 zroom.rf (fun x105 s106 H locs hφ hEs106 hT => ?_)
                have kthis_17 : zI s106 this 17 = b2 := ((hTo.k t_this (by decide)).eI hEs106 (by decide) rfl).trans kthis_17
                have kthis_18 : zI s106 this 18 = ns := ((hTo.k t_this (by decide)).eI hEs106 (by decide) rfl).trans kthis_18
                have ev97 : zI s106 this 15 = v97 := ((hTo.k t_this (by decide)).eI hEs106 (by decide) rfl).trans ev97
                have ev99 : zI s106 this 16 = v99 := ((hTo.k t_this (by decide)).eI hEs106 (by decide) rfl).trans ev99
                obtain ⟨f107, f108, f109⟩ := hφ
                have w9 := (f107 (show (zI s11 this 17).toInt = 1 from by rw [cz102]; omega)).1
                refine lv_if_eq (tgt := 38) hx hb dX6_reads_28 (by decide) (fun _ => ?_) (fun c9 => absurd (gi_ne c9) (by omega))
                refine lv_aload_n hx hb dX6_reads_38 rfl (lv_at hl 0 rfl) ?_
                refine va_get (D := κ.1) (ci := 6) (v := .int (zI s106 this 17)) (C := RX6) (T := TX6) (N := 27) hx hb hg inX6 hown hK (hT.o20 (hT.k t_this (by decide))).one 0 rfl rfl 17 (by decide) (hg _ k1236) (fun _ h9 => h9) rfl dX6_reads_39 ?_
                rw [kthis_17]
                refine lv_if_ne (tgt := 75) hx hb dX6_reads_42 (by decide) (fun _ => ?_) (fun c9 => absurd (gi_eq c9) (by omega))
                subst hQ9
                exact t_v hx hb hr hlocks hT ⟨Or.inl (by rw [(show zI s106 this 17 = b2 from kthis_17)]; omega), Or.inl (by rw [(show zI s106 this 17 = b2 from kthis_17)]; omega), x9, co, po, ⟨z1, z2⟩, Or.inr ⟨by rw [(show zI s106 this 17 = b2 from kthis_17)]; omega, z3, by rw [(show zI s106 this 15 = v97 from ev97), ← cz103]; exact z4, by rw [(show zI s106 this 16 = v99 from ev99), ← cz104]; exact z5⟩⟩ dX6_reads_75
          exact loop21 ((100 * (1 - bb.toInt) + (49 - v1.toInt)).toNat + 1) u bb v1 _ _ _ _ hT kthis_14 kthis_17 kthis_18 (by omega) (by omega) (by omega) (by omega) (Or.inl ⟨by omega, aa, 0, -1, g, by omega, y2, by omega, by decide, (y8.resolve_left (fun q9 => by have z9 := q9.1; omega)).2, (show GSm s2 this g from ⟨by rw [(show zI s2 this 20 = v6 from ev6)]; exact gm10.1, by rw [(show zI s2 this 21 = v7 from ev7)]; exact gm10.2.1, by rw [(show zI s2 this 22 = v8 from ev8)]; exact gm10.2.2.1, by rw [(show zI s2 this 19 = v9 from ev9)]; exact gm10.2.2.2⟩), ((show zI s2 this 15 = v4 from ev4).trans zthis15.symm), ((show zI s2 this 16 = v5 from ev5).trans zthis16.symm), fun k hk => absurd hk (by omega), Or.inl ⟨rfl, rfl⟩, by decide, by decide, usP.z, usO.z, usB.z⟩) (lv_sub hl [1] rfl) (by omega)
        · have c6 := gi_ne c9
          have y9 := (y8.resolve_right (fun q9 => by have z9 := q9.1; omega)).2
          refine lv_aload_n hx hb dX6_reads_13 rfl (lv_at hl 1 rfl) ?_
          have cz110 : zI s2 this 15 = v4 := ev4
          have cz111 : zI s2 this 16 = v5 := ev5
          have cz112 : zI s2 this 17 = bb := kthis_17
          have hTo := hT
          refine tVi (n := 0) (As := []) (rest := []) hx hb hml hown hg hT hK hX (X6s_setting l κ s2 this  (hT.k t_this (by decide)) (hTX.tr (funext fun k => by rw [erT]; exact hT.eI trT (by decide) rfl rfl) (hT.eI t_this (by decide) rfl rfl)) (show (zI s2 this 17).toInt = 0 from by rw [(show zI s2 this 17 = bb from kthis_17)]; omega) (show (zI s2 this 14).toInt = ((aa : Nat) : Int) from by rw [(show zI s2 this 14 = u from kthis_14)]; omega) y2 (show (zI s2 this 23).toInt = (nb : Nat) from by rw [(show zI s2 this 23 = td from kthis_23)]; omega) y4 (show GSm s2 this g from ⟨by rw [(show zI s2 this 20 = v6 from ev6)]; exact gm10.1, by rw [(show zI s2 this 21 = v7 from ev7)]; exact gm10.2.1, by rw [(show zI s2 this 22 = v8 from ev8)]; exact gm10.2.2.1, by rw [(show zI s2 this 19 = v9 from ev9)]; exact gm10.2.2.2⟩)) sub_gS1_gS3 (mwV k1332 k1334 k39 k92 k1335) ⟨rfl, by decide, by decide, by decide +kernel⟩ ⟨(Nat.le_of_ble_eq_true rfl), (Nat.le_of_ble_eq_true rfl)⟩ (hT.o20 (hT.k t_this (by decide))) rfl rfl hl.1 rfl (Nat.le_of_ble_eq_true rfl) dX6_reads_14 zroom.rf (fun x113 s114 H locs hφ hEs114 hT => ?_)
          have kthis_18 : zI s114 this 18 = v1 := ((hTo.k t_this (by decide)).eI hEs114 (by decide) rfl).trans kthis_18
          obtain ⟨f115, f116⟩ := hφ
          rcases f115 with ⟨s1, s2, s3, s4, s5, s6, s7, s8⟩ | ⟨s1, s2, ⟨s9, n9, a9, g9, t1, t2, t3, t4, t5, t6, t7, t8⟩, s3, s4⟩ | ⟨s1, s2, ⟨n9, t1, t2⟩, co, po, t3, t4, t5, t6⟩
          · skip
            obtain ⟨v117, ev117⟩ : ∃ zz9 : Int32, zI s114 this 17 = zz9 := ⟨_, rfl⟩
            have qv117 : v117.toInt = (zI s114 this 17).toInt := by rw [ev117]
            have b118 : isB v117 := by have q9 : isB (zI s114 this 17) := hT.P (hT.k t_this (by decide)) (by decide); rw [ev117] at q9; exact q9
            have b118t := isB_t b118
            rw [(show zI s114 this 17 = v117 from ev117)] at s3
            obtain ⟨v119, ev119⟩ : ∃ zz9 : Int32, zI s114 this 14 = zz9 := ⟨_, rfl⟩
            have qv119 : v119.toInt = (zI s114 this 14).toInt := by rw [ev119]
            rw [(show zI s114 this 14 = v119 from ev119)] at s4
            obtain ⟨v120, ev120⟩ : ∃ zz9 : Int32, zI s114 this 23 = zz9 := ⟨_, rfl⟩
            have qv120 : v120.toInt = (zI s114 this 23).toInt := by rw [ev120]
            rw [(show zI s114 this 23 = v120 from ev120)] at s8
            obtain ⟨v121, ev121⟩ : ∃ zz9 : Int32, zI s114 this 15 = zz9 := ⟨_, rfl⟩
            have qv121 : v121.toInt = (zI s114 this 15).toInt := by rw [ev121]
            have zthis15 : zI σ0 this 15 = v121 := zthis15.trans (cz110.symm.trans (s6.symm.trans ev121))
            obtain ⟨v122, ev122⟩ : ∃ zz9 : Int32, zI s114 this 16 = zz9 := ⟨_, rfl⟩
            have qv122 : v122.toInt = (zI s114 this 16).toInt := by rw [ev122]
            have zthis16 : zI σ0 this 16 = v122 := zthis16.trans (cz111.symm.trans (s7.symm.trans ev122))
            obtain ⟨v123, ev123⟩ : ∃ zz9 : Int32, zI s114 this 20 = zz9 := ⟨_, rfl⟩
            have qv123 : v123.toInt = (zI s114 this 20).toInt := by rw [ev123]
            obtain ⟨v124, ev124⟩ : ∃ zz9 : Int32, zI s114 this 21 = zz9 := ⟨_, rfl⟩
            have qv124 : v124.toInt = (zI s114 this 21).toInt := by rw [ev124]
            obtain ⟨v125, ev125⟩ : ∃ zz9 : Int32, zI s114 this 22 = zz9 := ⟨_, rfl⟩
            have qv125 : v125.toInt = (zI s114 this 22).toInt := by rw [ev125]
            obtain ⟨v126, ev126⟩ : ∃ zz9 : Int32, zI s114 this 19 = zz9 := ⟨_, rfl⟩
            have qv126 : v126.toInt = (zI s114 this 19).toInt := by rw [ev126]
            have gm127 : v123.toInt = g 0 ∧ v124.toInt = g 1 ∧ v125.toInt = g 2 ∧ v126.toInt = g 3 := by have z9 := s5; unfold GSm at z9; rw [(show zI s114 this 20 = v123 from ev123), (show zI s114 this 21 = v124 from ev124), (show zI s114 this 22 = v125 from ev125), (show zI s114 this 19 = v126 from ev126)] at z9; exact z9
            refine lv_istore_n (lv' := [(1, .int x113), (0, .ref this)]) hx hb dX6_reads_17 rfl hl (by decide) rfl (fun ls hl => ?_)
            refine lv_goto (tgt := 2) hx hb dX6_reads_18 (by decide) ?_
            have ix9 : ix v120 = nb := by unfold ix; omega
            have ix8 : ix td = nb := by unfold ix; omega
            have px9 : pc4 (ix v120) = pc4 nb := by rw [ix9]
            rw [ix8] at hm9 q4
            exact ih2 x113 v119 v117 v120 _ _ _ _ hT kthis_18 ev119 ev117 ev120 (show pc4 (ix v120) ≤ 4 from by rw [show ix v120 = nb from by unfold ix; omega]; exact pc4_le y4) (by omega) (by omega) (by omega) (by omega) (Or.inl ⟨by omega, (uscn uisBl tc Ln aa), nb, g, by omega, uscn_le y2, by omega, y4, (show GSm s114 this g from ⟨by rw [(show zI s114 this 20 = v123 from ev123)]; exact gm127.1, by rw [(show zI s114 this 21 = v124 from ev124)]; exact gm127.2.1, by rw [(show zI s114 this 22 = v125 from ev125)]; exact gm127.2.2.1, by rw [(show zI s114 this 19 = v126 from ev126)]; exact gm127.2.2.2⟩), ((show zI s114 this 15 = v121 from ev121).trans zthis15.symm), ((show zI s114 this 16 = v122 from ev122).trans zthis16.symm), Or.inr ⟨by omega, by rw [uscn_id]; exact urt_tl y9 (Or.inl ⟨rfl, Or.inr ⟨s2, rfl⟩⟩)⟩⟩) hl (by omega)
          · skip
            obtain ⟨v128, ev128⟩ : ∃ zz9 : Int32, zI s114 this 17 = zz9 := ⟨_, rfl⟩
            have qv128 : v128.toInt = (zI s114 this 17).toInt := by rw [ev128]
            have b129 : isB v128 := by have q9 : isB (zI s114 this 17) := hT.P (hT.k t_this (by decide)) (by decide); rw [ev128] at q9; exact q9
            have b129t := isB_t b129
            rw [(show zI s114 this 17 = v128 from ev128)] at s2
            obtain ⟨v130, ev130⟩ : ∃ zz9 : Int32, zI s114 this 14 = zz9 := ⟨_, rfl⟩
            have qv130 : v130.toInt = (zI s114 this 14).toInt := by rw [ev130]
            rw [(show zI s114 this 14 = v130 from ev130)] at t4
            obtain ⟨v131, ev131⟩ : ∃ zz9 : Int32, zI s114 this 23 = zz9 := ⟨_, rfl⟩
            have qv131 : v131.toInt = (zI s114 this 23).toInt := by rw [ev131]
            rw [(show zI s114 this 23 = v131 from ev131)] at t7
            obtain ⟨v132, ev132⟩ : ∃ zz9 : Int32, zI s114 this 15 = zz9 := ⟨_, rfl⟩
            have qv132 : v132.toInt = (zI s114 this 15).toInt := by rw [ev132]
            have zthis15 : zI σ0 this 15 = v132 := zthis15.trans (cz110.symm.trans (s3.symm.trans ev132))
            obtain ⟨v133, ev133⟩ : ∃ zz9 : Int32, zI s114 this 16 = zz9 := ⟨_, rfl⟩
            have qv133 : v133.toInt = (zI s114 this 16).toInt := by rw [ev133]
            have zthis16 : zI σ0 this 16 = v133 := zthis16.trans (cz111.symm.trans (s4.symm.trans ev133))
            obtain ⟨v134, ev134⟩ : ∃ zz9 : Int32, zI s114 this 20 = zz9 := ⟨_, rfl⟩
            have qv134 : v134.toInt = (zI s114 this 20).toInt := by rw [ev134]
            obtain ⟨v135, ev135⟩ : ∃ zz9 : Int32, zI s114 this 21 = zz9 := ⟨_, rfl⟩
            have qv135 : v135.toInt = (zI s114 this 21).toInt := by rw [ev135]
            obtain ⟨v136, ev136⟩ : ∃ zz9 : Int32, zI s114 this 22 = zz9 := ⟨_, rfl⟩
            have qv136 : v136.toInt = (zI s114 this 22).toInt := by rw [ev136]
            obtain ⟨v137, ev137⟩ : ∃ zz9 : Int32, zI s114 this 19 = zz9 := ⟨_, rfl⟩
            have qv137 : v137.toInt = (zI s114 this 19).toInt := by rw [ev137]
            have gm138 : v134.toInt = g9 0 ∧ v135.toInt = g9 1 ∧ v136.toInt = g9 2 ∧ v137.toInt = g9 3 := by have z9 := t8; unfold GSm at z9; rw [(show zI s114 this 20 = v134 from ev134), (show zI s114 this 21 = v135 from ev135), (show zI s114 this 22 = v136 from ev136), (show zI s114 this 19 = v137 from ev137)] at z9; exact z9
            refine lv_istore_n (lv' := [(1, .int x113), (0, .ref this)]) hx hb dX6_reads_17 rfl hl (by decide) rfl (fun ls hl => ?_)
            refine lv_goto (tgt := 2) hx hb dX6_reads_18 (by decide) ?_
            have ix9 : ix v131 = n9 := by unfold ix; omega
            have ix8 : ix td = nb := by unfold ix; omega
            have px9 : pc4 (ix v131) = pc4 n9 := by rw [ix9]
            rw [ix8] at hm9 q4
            exact ih2 x113 v130 v128 v131 _ _ _ _ hT kthis_18 ev130 ev128 ev131 (show pc4 (ix v131) ≤ 4 from by rw [show ix v131 = n9 from by unfold ix; omega]; exact pc4_le t2) (by omega) (by omega) (by omega) (by omega) (Or.inl ⟨by omega, a9, n9, g9, by omega, t5, by omega, t2, (show GSm s114 this g9 from ⟨by rw [(show zI s114 this 20 = v134 from ev134)]; exact gm138.1, by rw [(show zI s114 this 21 = v135 from ev135)]; exact gm138.2.1, by rw [(show zI s114 this 22 = v136 from ev136)]; exact gm138.2.2.1, by rw [(show zI s114 this 19 = v137 from ev137)]; exact gm138.2.2.2⟩), ((show zI s114 this 15 = v132 from ev132).trans zthis15.symm), ((show zI s114 this 16 = v133 from ev133).trans zthis16.symm), Or.inl ⟨by omega, by rw [t6]; exact urt_tl y9 (Or.inl ⟨rfl, Or.inl ⟨_, _, _, t1, rfl⟩⟩)⟩⟩) hl (by omega)
          · skip
            obtain ⟨v139, ev139⟩ : ∃ zz9 : Int32, zI s114 this 17 = zz9 := ⟨_, rfl⟩
            have qv139 : v139.toInt = (zI s114 this 17).toInt := by rw [ev139]
            have b140 : isB v139 := by have q9 : isB (zI s114 this 17) := hT.P (hT.k t_this (by decide)) (by decide); rw [ev139] at q9; exact q9
            have b140t := isB_t b140
            rw [(show zI s114 this 17 = v139 from ev139)] at s2
            obtain ⟨v141, ev141⟩ : ∃ zz9 : Int32, zI s114 this 23 = zz9 := ⟨_, rfl⟩
            have qv141 : v141.toInt = (zI s114 this 23).toInt := by rw [ev141]
            rw [(show zI s114 this 23 = v141 from ev141)] at t1
            obtain ⟨v142, ev142⟩ : ∃ zz9 : Int32, zI s114 this 15 = zz9 := ⟨_, rfl⟩
            have qv142 : v142.toInt = (zI s114 this 15).toInt := by rw [ev142]
            rw [(show zI s114 this 15 = v142 from ev142)] at t5
            obtain ⟨v143, ev143⟩ : ∃ zz9 : Int32, zI s114 this 16 = zz9 := ⟨_, rfl⟩
            have qv143 : v143.toInt = (zI s114 this 16).toInt := by rw [ev143]
            rw [(show zI s114 this 16 = v143 from ev143)] at t6
            obtain ⟨v144, ev144⟩ : ∃ zz9 : Int32, zI s114 this 14 = zz9 := ⟨_, rfl⟩
            have qv144 : v144.toInt = (zI s114 this 14).toInt := by rw [ev144]
            refine lv_istore_n (lv' := [(1, .int x113), (0, .ref this)]) hx hb dX6_reads_17 rfl hl (by decide) rfl (fun ls hl => ?_)
            refine lv_goto (tgt := 2) hx hb dX6_reads_18 (by decide) ?_
            have ix9 : ix v141 = n9 := by unfold ix; omega
            have ix8 : ix td = nb := by unfold ix; omega
            have px9 : pc4 (ix v141) = pc4 n9 := by rw [ix9]
            rw [ix8] at hm9 q4
            exact ih2 x113 v144 v139 v141 _ _ _ _ hT kthis_18 ev144 ev139 ev141 (show pc4 (ix v141) ≤ 4 from by rw [show ix v141 = n9 from by unfold ix; omega]; exact pc4_le t2) (by omega) (by omega) (by omega) (by omega) (Or.inr ⟨by omega, (false, (uscn uisBl tc Ln aa), nb, -1, g), co, po, y9, Or.inl ⟨rfl, t3⟩, t4, by rw [(show zI s114 this 15 = v142 from ev142)]; exact t5, by rw [(show zI s114 this 16 = v143 from ev143)]; exact t6⟩) hl (by omega)
      · skip
        refine lv_aload_n hx hb dX6_reads_2 rfl (lv_at hl 1 rfl) ?_
        refine va_get (D := κ.1) (ci := 6) (v := .int (zI s2 this 17)) (C := RX6) (T := TX6) (N := 27) hx hb hg inX6 hown hK (hT.o20 (hT.k t_this (by decide))).one 0 rfl rfl 17 (by decide) (hg _ k1236) (fun _ h9 => h9) rfl dX6_reads_3 ?_
        rw [kthis_17]
        refine lv_if_ne (tgt := 21) hx hb dX6_reads_6 (by decide) (fun _ => ?_) (fun c9 => absurd (gi_eq c9) (by omega))
        have loop21 : ∀ (n9 : Nat)  (u2 : Int32) (b2 : Int32) (ns : Int32) (H : Heap) (locs : List Loc) (sg : Gh) (ls : Array Slot), TS κ gS3 σ0 sg s H locs → (zI sg this 14 = u2) → (zI sg this 17 = b2) → (zI sg this 18 = ns) → (0 ≤ b2.toInt) → (b2.toInt ≤ 1) → (0 ≤ ns.toInt) → (ns.toInt ≤ 48) → ((b2.toInt = 0 ∧ ∃ (aa nn : Nat) (vv : Int) (g : Nat → Int), u2.toInt = (aa : Nat) ∧ aa ≤ Ln ∧ ns.toInt = (nn : Nat) ∧ nn ≤ 48 ∧ utrt tc Ln (urd0 tc Ln) (true, (uscn uisBl tc Ln aa), nn, vv, g) ∧ GSm sg this g ∧ zI sg this 15 = zI σ0 this 15 ∧ zI sg this 16 = zI σ0 this 16 ∧ PL nn (zI sg rQ) ∧ ((nn = 0 ∧ vv = -1) ∨ (0 < nn ∧ (zI sg rQ (nn - 1)).toInt = vv)) ∧ -1 ≤ vv ∧ vv ≤ 9999 ∧ usP (zI sg rQ) nn g ∧ usO (zI sg rV) nn g ∧ usB nn g) ∨ (b2.toInt = 1 ∧ ∃ (x : uRd) (co po : Int), utrt tc Ln (urd0 tc Ln) x ∧ utfi tc Ln x co po ∧ co ≠ 0 ∧ (zI sg this 15).toInt = co ∧ (zI sg this 16).toInt = po)) → lv_has ls 3 [(0, .ref this)] → (100 * (1 - b2.toInt) + (49 - ns.toInt)) < n9 → tW p l e 7 163 κ s m #[.ref this] below meth c H locs Q9 (F0 m 21 ls []) := by
          intro n9
          induction n9 with
          | zero =>
            intro u2 b2 ns H locs sg ls hT kthis_14 kthis_17 kthis_18 p4 p5 p6 p7 p3 hl hm9
            exfalso
            omega
          | succ n9 ih9 =>
            have ih21 := ih9
            clear ih9
            intro u2 b2 ns H locs s145 ls hT kthis_14 kthis_17 kthis_18 p4 p5 p6 p7 p3 hl hm9
            have b146 : isB (zI s145 this 17) := hT.P (hT.k t_this (by decide)) (by decide)
            rw [kthis_17] at b146
            have b146t := isB_t b146
            rcases p3 with ⟨pb, aa, nn, vv, g, y1, y2, y3, y4, y5, y6, y7, y8, y9, y10, y11, y12, y13, y14, y15⟩ | ⟨pb, x9, co, po, z1, z2, z3, z4, z5⟩
            · skip
              obtain ⟨v147, ev147⟩ : ∃ zz9 : Int32, zI s145 this 15 = zz9 := ⟨_, rfl⟩
              have qv147 : v147.toInt = (zI s145 this 15).toInt := by rw [ev147]
              have zthis15 : zI σ0 this 15 = v147 := y7.symm.trans ev147
              obtain ⟨v148, ev148⟩ : ∃ zz9 : Int32, zI s145 this 16 = zz9 := ⟨_, rfl⟩
              have qv148 : v148.toInt = (zI s145 this 16).toInt := by rw [ev148]
              have zthis16 : zI σ0 this 16 = v148 := y8.symm.trans ev148
              obtain ⟨v149, ev149⟩ : ∃ zz9 : Int32, zI s145 this 20 = zz9 := ⟨_, rfl⟩
              have qv149 : v149.toInt = (zI s145 this 20).toInt := by rw [ev149]
              obtain ⟨v150, ev150⟩ : ∃ zz9 : Int32, zI s145 this 21 = zz9 := ⟨_, rfl⟩
              have qv150 : v150.toInt = (zI s145 this 21).toInt := by rw [ev150]
              obtain ⟨v151, ev151⟩ : ∃ zz9 : Int32, zI s145 this 22 = zz9 := ⟨_, rfl⟩
              have qv151 : v151.toInt = (zI s145 this 22).toInt := by rw [ev151]
              obtain ⟨v152, ev152⟩ : ∃ zz9 : Int32, zI s145 this 19 = zz9 := ⟨_, rfl⟩
              have qv152 : v152.toInt = (zI s145 this 19).toInt := by rw [ev152]
              have gm153 : v149.toInt = g 0 ∧ v150.toInt = g 1 ∧ v151.toInt = g 2 ∧ v152.toInt = g 3 := by have z9 := y6; unfold GSm at z9; rw [(show zI s145 this 20 = v149 from ev149), (show zI s145 this 21 = v150 from ev150), (show zI s145 this 22 = v151 from ev151), (show zI s145 this 19 = v152 from ev152)] at z9; exact z9
              refine lv_aload_n hx hb dX6_reads_21 rfl (lv_at hl 0 rfl) ?_
              refine lv_ldc2 hx hb hown (hg _ k1394) dX6_reads_22 ?_
              have cz154 : zI s145 this 15 = v147 := ev147
              have cz155 : zI s145 this 16 = v148 := ev148
              have cz156 : zI s145 this 17 = b2 := kthis_17
              have cz157 : zI s145 this 17 = b2 := kthis_17
              have cz158 : zI s145 this 15 = v147 := ev147
              have cz159 : zI s145 this 16 = v148 := ev148
              have hTo := hT
              refine tVi (n := 1) (As := [.long 47]) (rest := []) hx hb hml hown hg hT hK hX (X6s_isWord l κ s145 this 47  (hT.k t_this (by decide)) (hTX.tr (funext fun k => by rw [erT]; exact hT.eI trT (by decide) rfl rfl) (hT.eI t_this (by decide) rfl rfl)) (show (zI s145 this 17).toInt = 0 → (zI s145 this 14).toInt = ((aa : Nat) : Int) ∧ aa ≤ Ln from fun q9 => ⟨by rw [(show zI s145 this 14 = u2 from kthis_14)]; omega, by omega⟩) (show encP 47 12 from ⟨by decide, by decide +kernel⟩)) sub_gH_gS3 (mwV k1337 k1339 k40 k92 k1340) ⟨rfl, by decide, by decide, by decide +kernel⟩ ⟨(Nat.le_of_ble_eq_true rfl), (Nat.le_of_ble_eq_true rfl)⟩ (hT.o20 (hT.k t_this (by decide))) rfl rfl hl.1 rfl (Nat.le_of_ble_eq_true rfl) dX6_reads_25 zroom.rf (fun x160 s161 H locs hφ hEs161 hT => ?_)
              have kthis_17 : zI s161 this 17 = b2 := ((hTo.k t_this (by decide)).eI hEs161 (by decide) rfl).trans kthis_17
              have kthis_18 : zI s161 this 18 = ns := ((hTo.k t_this (by decide)).eI hEs161 (by decide) rfl).trans kthis_18
              have ev147 : zI s161 this 15 = v147 := ((hTo.k t_this (by decide)).eI hEs161 (by decide) rfl).trans ev147
              have ev148 : zI s161 this 16 = v148 := ((hTo.k t_this (by decide)).eI hEs161 (by decide) rfl).trans ev148
              have ev149 : zI s161 this 20 = v149 := ((hTo.k t_this (by decide)).eI hEs161 (by decide) rfl).trans ev149
              have ev150 : zI s161 this 21 = v150 := ((hTo.k t_this (by decide)).eI hEs161 (by decide) rfl).trans ev150
              have ev151 : zI s161 this 22 = v151 := ((hTo.k t_this (by decide)).eI hEs161 (by decide) rfl).trans ev151
              have ev152 : zI s161 this 19 = v152 := ((hTo.k t_this (by decide)).eI hEs161 (by decide) rfl).trans ev152
              have Y162 : PL nn (zI s161 rQ) := by first | (rw [show zI s161 rQ = zI s145 rQ from funext fun k => (hTo.k trQ (by decide)).eI hEs161 (by decide) rfl]; exact y9) | rw [show zI s161 rQ = zI s145 rQ from funext fun k => (hTo.k trQ (by decide)).eI hEs161 (by decide) rfl]
              have Y163 : (nn = 0 ∧ vv = -1) ∨ (0 < nn ∧ (zI s161 rQ (nn - 1)).toInt = vv) := by first | (rw [show zI s161 rQ = zI s145 rQ from funext fun k => (hTo.k trQ (by decide)).eI hEs161 (by decide) rfl]; exact y10) | rw [show zI s161 rQ = zI s145 rQ from funext fun k => (hTo.k trQ (by decide)).eI hEs161 (by decide) rfl]
              have Y164 : usP (zI s161 rQ) nn g := by first | (rw [show zI s161 rQ = zI s145 rQ from funext fun k => (hTo.k trQ (by decide)).eI hEs161 (by decide) rfl]; exact y13) | rw [show zI s161 rQ = zI s145 rQ from funext fun k => (hTo.k trQ (by decide)).eI hEs161 (by decide) rfl]
              have Y165 : usO (zI s161 rV) nn g := by first | (rw [show zI s161 rV = zI s145 rV from funext fun k => (hTo.k trV (by decide)).eI hEs161 (by decide) rfl]; exact y14) | rw [show zI s161 rV = zI s145 rV from funext fun k => (hTo.k trV (by decide)).eI hEs161 (by decide) rfl]
              obtain ⟨f166, f167, f168⟩ := hφ
              obtain ⟨a9, w9⟩ := f167 (show (zI s145 this 17).toInt = 0 from by rw [cz156]; omega)
              obtain ⟨v169, ev169⟩ : ∃ zz9 : Int32, zI s161 this 14 = zz9 := ⟨_, rfl⟩
              have qv169 : v169.toInt = (zI s161 this 14).toInt := by rw [ev169]
              rw [(show zI s161 this 14 = v169 from ev169)] at a9
              rcases w9 with ⟨w1, w2⟩ | ⟨w1, w2⟩
              · skip
                refine lv_if_eq (tgt := 38) hx hb dX6_reads_28 (by decide) (fun c9 => absurd (gi_eq c9) (by omega)) (fun _ => ?_)
                refine lv_aload_n hx hb dX6_reads_31 rfl (lv_at hl 0 rfl) ?_
                have cz170 : zI s161 this 15 = v147 := ev147
                have cz171 : zI s161 this 16 = v148 := ev148
                have cz172 : zI s161 this 17 = b2 := kthis_17
                have hTo := hT
                refine tVv (n := 0) (As := []) (rest := []) hx hb hml hown hg hT hK hX (X6s_sampleTold l κ s161 this  (hT.k t_this (by decide)) (hTX.tr (funext fun k => by rw [erT]; exact hT.eI trT (by decide) rfl rfl) (hT.eI t_this (by decide) rfl rfl)) (show (zI s161 this 17).toInt = 0 from by rw [(show zI s161 this 17 = b2 from kthis_17)]; omega) (show (zI s161 this 14).toInt = ((uscn uisBl tc Ln aa) : Nat) from by rw [(show zI s161 this 14 = v169 from ev169)]; omega) (uscn_le y2) ⟨by decide, w2⟩ (show (zI s161 this 18).toInt = (nn : Nat) from by rw [(show zI s161 this 18 = ns from kthis_18)]; omega) y4 (show (nn = 0 ∧ vv = -1) ∨ (0 < nn ∧ (zI s161 (kR κ this 25) (nn - 1)).toInt = vv) from by rw [erQ]; exact Y163) y11 y12) sub_gS2_gS3 (mwV k1395 k1397 k50 k92 k1398) ⟨rfl, by decide, by decide, by decide +kernel⟩ ⟨(Nat.le_of_ble_eq_true rfl), (Nat.le_of_ble_eq_true rfl)⟩ (hT.o20 (hT.k t_this (by decide))) rfl rfl hl.1 rfl (Nat.le_of_ble_eq_true rfl) dX6_reads_32 zroom.rf (fun s174 H locs hφ hEs174 hT => ?_)
                have ev149 : zI s174 this 20 = v149 := ((hTo.k t_this (by decide)).eI hEs174 (by decide) rfl).trans ev149
                have ev150 : zI s174 this 21 = v150 := ((hTo.k t_this (by decide)).eI hEs174 (by decide) rfl).trans ev150
                have ev151 : zI s174 this 22 = v151 := ((hTo.k t_this (by decide)).eI hEs174 (by decide) rfl).trans ev151
                have ev152 : zI s174 this 19 = v152 := ((hTo.k t_this (by decide)).eI hEs174 (by decide) rfl).trans ev152
                have f175 := hφ
                rcases f175 with ⟨t1, ⟨s9, a8, v9, t2, t3, t4, t5, t6, t7, t8, t9, t10⟩, t11, t14, t15, t12, t13⟩ | ⟨t1, t2, t3, co, po, t4, t5, t6, t7⟩
                · skip
                  obtain ⟨v176, ev176⟩ : ∃ zz9 : Int32, zI s174 this 17 = zz9 := ⟨_, rfl⟩
                  have qv176 : v176.toInt = (zI s174 this 17).toInt := by rw [ev176]
                  have b177 : isB v176 := by have q9 : isB (zI s174 this 17) := hT.P (hT.k t_this (by decide)) (by decide); rw [ev176] at q9; exact q9
                  have b177t := isB_t b177
                  rw [(show zI s174 this 17 = v176 from ev176)] at t1
                  obtain ⟨v178, ev178⟩ : ∃ zz9 : Int32, zI s174 this 14 = zz9 := ⟨_, rfl⟩
                  have qv178 : v178.toInt = (zI s174 this 14).toInt := by rw [ev178]
                  rw [(show zI s174 this 14 = v178 from ev178)] at t3
                  obtain ⟨v179, ev179⟩ : ∃ zz9 : Int32, zI s174 this 18 = zz9 := ⟨_, rfl⟩
                  have qv179 : v179.toInt = (zI s174 this 18).toInt := by rw [ev179]
                  rw [(show zI s174 this 18 = v179 from ev179)] at t6
                  obtain ⟨v180, ev180⟩ : ∃ zz9 : Int32, zI s174 this 15 = zz9 := ⟨_, rfl⟩
                  have qv180 : v180.toInt = (zI s174 this 15).toInt := by rw [ev180]
                  have zthis15 : zI σ0 this 15 = v180 := zthis15.trans (cz170.symm.trans (t12.symm.trans ev180))
                  obtain ⟨v181, ev181⟩ : ∃ zz9 : Int32, zI s174 this 16 = zz9 := ⟨_, rfl⟩
                  have qv181 : v181.toInt = (zI s174 this 16).toInt := by rw [ev181]
                  have zthis16 : zI σ0 this 16 = v181 := zthis16.trans (cz171.symm.trans (t13.symm.trans ev181))
                  rw [erQ] at t8 t11
                  rw [erV] at t14 t15
                  refine lv_goto (tgt := 21) hx hb dX6_reads_35 (by decide) ?_
                  exact ih21 v178 v176 v179 _ _ _ _ hT ev178 ev176 ev179 (by omega) (by omega) (by omega) (by omega) (Or.inl ⟨by omega, a8, nn + 1, v9, usm (utkK tc Ln) (unxt tc Ln) (uvl tc Ln) (uscn uisBl tc Ln aa) nn g, by omega, t4, by omega, by omega, by rw [t5]; exact urt_tl y5 (Or.inr ⟨rfl, _, _, _, t2, rfl⟩), ((show GSm s174 this g from ⟨by rw [(show zI s174 this 20 = v149 from ev149)]; exact gm153.1, by rw [(show zI s174 this 21 = v150 from ev150)]; exact gm153.2.1, by rw [(show zI s174 this 22 = v151 from ev151)]; exact gm153.2.2.1, by rw [(show zI s174 this 19 = v152 from ev152)]; exact gm153.2.2.2⟩)).lo (fun k hk => usm_lo hk), ((show zI s174 this 15 = v180 from ev180).trans zthis15.symm), ((show zI s174 this 16 = v181 from ev181).trans zthis16.symm), PL_more Y162 t11 (by omega) (by rcases Y163 with q9 | q9; exact Or.inl q9.1; exact Or.inr (by omega)), Or.inr ⟨by omega, t8⟩, by omega, by omega, Y164.more t11 (t8.trans t2.2.2.2.2.2.2.2.2), Y165.more t14 t15, y15.more (uvq_b t2.2.2.2.2.1)⟩) hl (by omega)
                · skip
                  obtain ⟨v182, ev182⟩ : ∃ zz9 : Int32, zI s174 this 17 = zz9 := ⟨_, rfl⟩
                  have qv182 : v182.toInt = (zI s174 this 17).toInt := by rw [ev182]
                  have b183 : isB v182 := by have q9 : isB (zI s174 this 17) := hT.P (hT.k t_this (by decide)) (by decide); rw [ev182] at q9; exact q9
                  have b183t := isB_t b183
                  rw [(show zI s174 this 17 = v182 from ev182)] at t1
                  obtain ⟨v184, ev184⟩ : ∃ zz9 : Int32, zI s174 this 18 = zz9 := ⟨_, rfl⟩
                  have qv184 : v184.toInt = (zI s174 this 18).toInt := by rw [ev184]
                  rw [(show zI s174 this 18 = v184 from ev184)] at t2
                  rw [(show zI s174 this 18 = v184 from ev184)] at t3
                  obtain ⟨v185, ev185⟩ : ∃ zz9 : Int32, zI s174 this 15 = zz9 := ⟨_, rfl⟩
                  have qv185 : v185.toInt = (zI s174 this 15).toInt := by rw [ev185]
                  rw [(show zI s174 this 15 = v185 from ev185)] at t6
                  obtain ⟨v186, ev186⟩ : ∃ zz9 : Int32, zI s174 this 16 = zz9 := ⟨_, rfl⟩
                  have qv186 : v186.toInt = (zI s174 this 16).toInt := by rw [ev186]
                  rw [(show zI s174 this 16 = v186 from ev186)] at t7
                  obtain ⟨v187, ev187⟩ : ∃ zz9 : Int32, zI s174 this 14 = zz9 := ⟨_, rfl⟩
                  have qv187 : v187.toInt = (zI s174 this 14).toInt := by rw [ev187]
                  refine lv_goto (tgt := 21) hx hb dX6_reads_35 (by decide) ?_
                  exact ih21 v187 v182 v184 _ _ _ _ hT ev187 ev182 ev184 (by omega) (by omega) (by omega) (by omega) (Or.inr ⟨by omega, (true, (uscn uisBl tc Ln aa), nn, vv, g), co, po, y5, Or.inr (Or.inl ⟨rfl, t4⟩), t5, by rw [(show zI s174 this 15 = v185 from ev185)]; exact t6, by rw [(show zI s174 this 16 = v186 from ev186)]; exact t7⟩) hl (by omega)
              · skip
                refine lv_if_eq (tgt := 38) hx hb dX6_reads_28 (by decide) (fun _ => ?_) (fun c9 => absurd (gi_ne c9) (by omega))
                refine lv_aload_n hx hb dX6_reads_38 rfl (lv_at hl 0 rfl) ?_
                refine va_get (D := κ.1) (ci := 6) (v := .int (zI s161 this 17)) (C := RX6) (T := TX6) (N := 27) hx hb hg inX6 hown hK (hT.o20 (hT.k t_this (by decide))).one 0 rfl rfl 17 (by decide) (hg _ k1236) (fun _ h9 => h9) rfl dX6_reads_39 ?_
                rw [kthis_17]
                refine lv_if_ne (tgt := 75) hx hb dX6_reads_42 (by decide) (fun c9 => absurd (gi_ne c9) (by omega)) (fun _ => ?_)
                refine lv_aload_n hx hb dX6_reads_45 rfl (lv_at hl 0 rfl) ?_
                refine va_get (D := κ.1) (ci := 6) (v := .int (zI s161 this 18)) (C := RX6) (T := TX6) (N := 27) hx hb hg inX6 hown hK (hT.o20 (hT.k t_this (by decide))).one 0 rfl rfl 18 (by decide) (hg _ k1237) (fun _ h9 => h9) rfl dX6_reads_46 ?_
                rw [kthis_18]
                refine lv_iconst (v := 2) hx hb dX6_reads_49 (by decide) ?_
                refine lv_icmp_lt (tgt := 61) hx hb dX6_reads_50 (by decide) (fun c9 => ?_) (fun c9 => ?_)
                · have c7 := gi_lt c9
                  refine lv_aload_n hx hb dX6_reads_61 rfl (lv_at hl 0 rfl) ?_
                  have hTo := hT
                  refine tVi (n := 0) (As := []) (rest := []) hx hb hml hown hg hT hK hX (X6s_here l κ s161 this  (hT.k t_this (by decide)) (hTX.tr (funext fun k => by rw [erT]; exact hT.eI trT (by decide) rfl rfl) (hT.eI t_this (by decide) rfl rfl)) (show (zI s161 this 14).toInt = ((uscn uisBl tc Ln aa) : Nat) from by rw [(show zI s161 this 14 = v169 from ev169)]; omega) (uscn_le y2)) sub_gH_gS3 (mwV k1345 k1347 k42 k92 k1348) ⟨rfl, by decide, by decide, by decide +kernel⟩ ⟨(Nat.le_of_ble_eq_true rfl), (Nat.le_of_ble_eq_true rfl)⟩ (hT.o20 (hT.k t_this (by decide))) rfl rfl hl.1 rfl (Nat.le_of_ble_eq_true rfl) dX6_reads_62 zroom.rf (fun x188 s189 H locs hφ hEs189 hT => ?_)
                  have kthis_17 : zI s189 this 17 = b2 := ((hTo.k t_this (by decide)).eI hEs189 (by decide) rfl).trans kthis_17
                  have kthis_18 : zI s189 this 18 = ns := ((hTo.k t_this (by decide)).eI hEs189 (by decide) rfl).trans kthis_18
                  have ev147 : zI s189 this 15 = v147 := ((hTo.k t_this (by decide)).eI hEs189 (by decide) rfl).trans ev147
                  have ev148 : zI s189 this 16 = v148 := ((hTo.k t_this (by decide)).eI hEs189 (by decide) rfl).trans ev148
                  have ev149 : zI s189 this 20 = v149 := ((hTo.k t_this (by decide)).eI hEs189 (by decide) rfl).trans ev149
                  have ev150 : zI s189 this 21 = v150 := ((hTo.k t_this (by decide)).eI hEs189 (by decide) rfl).trans ev150
                  have ev151 : zI s189 this 22 = v151 := ((hTo.k t_this (by decide)).eI hEs189 (by decide) rfl).trans ev151
                  have ev152 : zI s189 this 19 = v152 := ((hTo.k t_this (by decide)).eI hEs189 (by decide) rfl).trans ev152
                  have Y190 : PL nn (zI s189 rQ) := by first | (rw [show zI s189 rQ = zI s161 rQ from funext fun k => (hTo.k trQ (by decide)).eI hEs189 (by decide) rfl]; exact Y162) | rw [show zI s189 rQ = zI s161 rQ from funext fun k => (hTo.k trQ (by decide)).eI hEs189 (by decide) rfl]
                  have Y191 : (nn = 0 ∧ vv = -1) ∨ (0 < nn ∧ (zI s189 rQ (nn - 1)).toInt = vv) := by first | (rw [show zI s189 rQ = zI s161 rQ from funext fun k => (hTo.k trQ (by decide)).eI hEs189 (by decide) rfl]; exact Y163) | rw [show zI s189 rQ = zI s161 rQ from funext fun k => (hTo.k trQ (by decide)).eI hEs189 (by decide) rfl]
                  have Y192 : usP (zI s189 rQ) nn g := by first | (rw [show zI s189 rQ = zI s161 rQ from funext fun k => (hTo.k trQ (by decide)).eI hEs189 (by decide) rfl]; exact Y164) | rw [show zI s189 rQ = zI s161 rQ from funext fun k => (hTo.k trQ (by decide)).eI hEs189 (by decide) rfl]
                  have Y193 : usO (zI s189 rV) nn g := by first | (rw [show zI s189 rV = zI s161 rV from funext fun k => (hTo.k trV (by decide)).eI hEs189 (by decide) rfl]; exact Y165) | rw [show zI s189 rV = zI s161 rV from funext fun k => (hTo.k trV (by decide)).eI hEs189 (by decide) rfl]
                  obtain ⟨f194, f195⟩ := hφ
                  rw [uscn_id] at f194
                  obtain ⟨v196, ev196⟩ : ∃ zz9 : Int32, zI s189 this 14 = zz9 := ⟨_, rfl⟩
                  have qv196 : v196.toInt = (zI s189 this 14).toInt := by rw [ev196]
                  rw [(show zI s189 this 14 = v196 from ev196)] at f194
                  refine lv_istore_n (lv' := [(2, .int x188), (0, .ref this)]) hx hb dX6_reads_65 rfl hl (by decide) rfl (fun ls hl => ?_)
                  refine lv_aload_n hx hb dX6_reads_66 rfl (lv_at hl 1 rfl) ?_
                  refine lv_iconst (v := 1) hx hb dX6_reads_67 (by decide) ?_
                  refine lv_aload_n hx hb dX6_reads_68 rfl (lv_at hl 1 rfl) ?_
                  refine va_get (D := κ.1) (ci := 6) (v := .int (zI s189 this 14)) (C := RX6) (T := TX6) (N := 27) hx hb hg inX6 hown hK (hT.o20 (hT.k t_this (by decide))).one 0 rfl rfl 14 (by decide) (hg _ k1233) (fun _ h9 => h9) rfl dX6_reads_69 ?_
                  rw [ev196]
                  have cz197 : zI s189 this 17 = b2 := kthis_17
                  have hTo := hT
                  refine tVv (n := 2) (As := [.int 1, .int v196]) (rest := []) hx hb hml hown hg hT hK hX (X6s_wrong l κ s189 this 1 v196  (hT.k t_this (by decide)) ) sub_gB_gS3 (mwV k1361 k1363 k45 k92 k1364) ⟨rfl, by decide, by decide, by decide +kernel⟩ ⟨(Nat.le_of_ble_eq_true rfl), (Nat.le_of_ble_eq_true rfl)⟩ (hT.o20 (hT.k t_this (by decide))) rfl rfl hl.1 rfl (Nat.le_of_ble_eq_true rfl) dX6_reads_72 zroom.rf (fun s199 H locs hφ hEs199 hT => ?_)
                  have kthis_18 : zI s199 this 18 = ns := ((hTo.k t_this (by decide)).eI hEs199 (by decide) rfl).trans kthis_18
                  have ev149 : zI s199 this 20 = v149 := ((hTo.k t_this (by decide)).eI hEs199 (by decide) rfl).trans ev149
                  have ev150 : zI s199 this 21 = v150 := ((hTo.k t_this (by decide)).eI hEs199 (by decide) rfl).trans ev150
                  have ev151 : zI s199 this 22 = v151 := ((hTo.k t_this (by decide)).eI hEs199 (by decide) rfl).trans ev151
                  have ev152 : zI s199 this 19 = v152 := ((hTo.k t_this (by decide)).eI hEs199 (by decide) rfl).trans ev152
                  have ev196 : zI s199 this 14 = v196 := ((hTo.k t_this (by decide)).eI hEs199 (by decide) rfl).trans ev196
                  have Y200 : PL nn (zI s199 rQ) := by first | (rw [show zI s199 rQ = zI s189 rQ from funext fun k => (hTo.k trQ (by decide)).eI hEs199 (by decide) rfl]; exact Y190) | rw [show zI s199 rQ = zI s189 rQ from funext fun k => (hTo.k trQ (by decide)).eI hEs199 (by decide) rfl]
                  have Y201 : (nn = 0 ∧ vv = -1) ∨ (0 < nn ∧ (zI s199 rQ (nn - 1)).toInt = vv) := by first | (rw [show zI s199 rQ = zI s189 rQ from funext fun k => (hTo.k trQ (by decide)).eI hEs199 (by decide) rfl]; exact Y191) | rw [show zI s199 rQ = zI s189 rQ from funext fun k => (hTo.k trQ (by decide)).eI hEs199 (by decide) rfl]
                  have Y202 : usP (zI s199 rQ) nn g := by first | (rw [show zI s199 rQ = zI s189 rQ from funext fun k => (hTo.k trQ (by decide)).eI hEs199 (by decide) rfl]; exact Y192) | rw [show zI s199 rQ = zI s189 rQ from funext fun k => (hTo.k trQ (by decide)).eI hEs199 (by decide) rfl]
                  have Y203 : usO (zI s199 rV) nn g := by first | (rw [show zI s199 rV = zI s189 rV from funext fun k => (hTo.k trV (by decide)).eI hEs199 (by decide) rfl]; exact Y193) | rw [show zI s199 rV = zI s189 rV from funext fun k => (hTo.k trV (by decide)).eI hEs199 (by decide) rfl]
                  have f204 := hφ
                  obtain ⟨wb91, wb92, wb93⟩ := (f204.resolve_left (fun q9 => by have z9 := q9.1; rw [cz197] at z9; omega)).2
                  subst hQ9
                  exact t_v hx hb hr hlocks hT ⟨Or.inl wb91, Or.inl wb91, (true, (uscn uisBl tc Ln aa), nn, vv, g), 1, ((uscn uisBl tc Ln aa) : Nat), ⟨y5, Or.inr (Or.inl ⟨rfl, Or.inl ⟨fun q9 => by have q8 := tk0_iff.mp (show utkK tc Ln (uscn uisBl tc Ln aa) = 0 from q9.1); have q7 : 2 ≤ nn := q9.2; omega, fun q9 => w2 q9.2, rfl, rfl⟩⟩)⟩, Or.inr ⟨wb91, by decide, by rw [wb92]; exact n1, by rw [wb93]; omega⟩⟩ dX6_reads_75
                · have c8 := gi_nlt c9
                  refine lv_aload_n hx hb dX6_reads_53 rfl (lv_at hl 0 rfl) ?_
                  have hTo := hT
                  refine tVi (n := 0) (As := []) (rest := []) hx hb hml hown hg hT hK hX (X6s_here l κ s161 this  (hT.k t_this (by decide)) (hTX.tr (funext fun k => by rw [erT]; exact hT.eI trT (by decide) rfl rfl) (hT.eI t_this (by decide) rfl rfl)) (show (zI s161 this 14).toInt = ((uscn uisBl tc Ln aa) : Nat) from by rw [(show zI s161 this 14 = v169 from ev169)]; omega) (uscn_le y2)) sub_gH_gS3 (mwV k1345 k1347 k42 k92 k1348) ⟨rfl, by decide, by decide, by decide +kernel⟩ ⟨(Nat.le_of_ble_eq_true rfl), (Nat.le_of_ble_eq_true rfl)⟩ (hT.o20 (hT.k t_this (by decide))) rfl rfl hl.1 rfl (Nat.le_of_ble_eq_true rfl) dX6_reads_54 zroom.rf (fun x205 s206 H locs hφ hEs206 hT => ?_)
                  have kthis_17 : zI s206 this 17 = b2 := ((hTo.k t_this (by decide)).eI hEs206 (by decide) rfl).trans kthis_17
                  have kthis_18 : zI s206 this 18 = ns := ((hTo.k t_this (by decide)).eI hEs206 (by decide) rfl).trans kthis_18
                  have ev147 : zI s206 this 15 = v147 := ((hTo.k t_this (by decide)).eI hEs206 (by decide) rfl).trans ev147
                  have ev148 : zI s206 this 16 = v148 := ((hTo.k t_this (by decide)).eI hEs206 (by decide) rfl).trans ev148
                  have ev149 : zI s206 this 20 = v149 := ((hTo.k t_this (by decide)).eI hEs206 (by decide) rfl).trans ev149
                  have ev150 : zI s206 this 21 = v150 := ((hTo.k t_this (by decide)).eI hEs206 (by decide) rfl).trans ev150
                  have ev151 : zI s206 this 22 = v151 := ((hTo.k t_this (by decide)).eI hEs206 (by decide) rfl).trans ev151
                  have ev152 : zI s206 this 19 = v152 := ((hTo.k t_this (by decide)).eI hEs206 (by decide) rfl).trans ev152
                  have Y207 : PL nn (zI s206 rQ) := by first | (rw [show zI s206 rQ = zI s161 rQ from funext fun k => (hTo.k trQ (by decide)).eI hEs206 (by decide) rfl]; exact Y162) | rw [show zI s206 rQ = zI s161 rQ from funext fun k => (hTo.k trQ (by decide)).eI hEs206 (by decide) rfl]
                  have Y208 : (nn = 0 ∧ vv = -1) ∨ (0 < nn ∧ (zI s206 rQ (nn - 1)).toInt = vv) := by first | (rw [show zI s206 rQ = zI s161 rQ from funext fun k => (hTo.k trQ (by decide)).eI hEs206 (by decide) rfl]; exact Y163) | rw [show zI s206 rQ = zI s161 rQ from funext fun k => (hTo.k trQ (by decide)).eI hEs206 (by decide) rfl]
                  have Y209 : usP (zI s206 rQ) nn g := by first | (rw [show zI s206 rQ = zI s161 rQ from funext fun k => (hTo.k trQ (by decide)).eI hEs206 (by decide) rfl]; exact Y164) | rw [show zI s206 rQ = zI s161 rQ from funext fun k => (hTo.k trQ (by decide)).eI hEs206 (by decide) rfl]
                  have Y210 : usO (zI s206 rV) nn g := by first | (rw [show zI s206 rV = zI s161 rV from funext fun k => (hTo.k trV (by decide)).eI hEs206 (by decide) rfl]; exact Y165) | rw [show zI s206 rV = zI s161 rV from funext fun k => (hTo.k trV (by decide)).eI hEs206 (by decide) rfl]
                  obtain ⟨f211, f212⟩ := hφ
                  rw [uscn_id] at f211 f212
                  obtain ⟨v213, ev213⟩ : ∃ zz9 : Int32, zI s206 this 14 = zz9 := ⟨_, rfl⟩
                  have qv213 : v213.toInt = (zI s206 this 14).toInt := by rw [ev213]
                  rw [(show zI s206 this 14 = v213 from ev213)] at f211
                  refine lv_iconst (v := (-1)) hx hb dX6_reads_57 (by decide) ?_
                  refine lv_icmp_eq (tgt := 75) hx hb dX6_reads_58 (by decide) (fun c9 => ?_) (fun c9 => ?_)
                  · have c9 := gi_eq c9
                    subst hQ9
                    exact t_v hx hb hr hlocks hT ⟨Or.inr ⟨by rw [(show zI s206 this 18 = ns from kthis_18)]; omega, by rw [(show zI s206 this 18 = ns from kthis_18)]; omega⟩, Or.inr (by rw [erQ, (show zI s206 this 18 = ns from kthis_18), show ns.toInt.toNat = nn from by omega]; exact Y207), (true, (uscn uisBl tc Ln aa), nn, vv, g), 0, (nn : Nat), ⟨y5, Or.inr (Or.inr ⟨rfl, ⟨(show utkK tc Ln (uscn uisBl tc Ln aa) = 0 from tk0_iff.mpr (by omega)), (show 2 ≤ nn from by omega)⟩, rfl, rfl⟩)⟩, Or.inl ⟨by rw [(show zI s206 this 17 = b2 from kthis_17)]; omega, rfl, by rw [(show zI s206 this 18 = ns from kthis_18)]; omega, (show GSm s206 this g from ⟨by rw [(show zI s206 this 20 = v149 from ev149)]; exact gm153.1, by rw [(show zI s206 this 21 = v150 from ev150)]; exact gm153.2.1, by rw [(show zI s206 this 22 = v151 from ev151)]; exact gm153.2.2.1, by rw [(show zI s206 this 19 = v152 from ev152)]; exact gm153.2.2.2⟩), ((show zI s206 this 15 = v147 from ev147).trans zthis15.symm), ((show zI s206 this 16 = v148 from ev148).trans zthis16.symm), by rw [erQ]; exact Y209, by rw [erV]; exact Y210, y15⟩⟩ dX6_reads_75
                  · have c10 := gi_ne c9
                    refine lv_aload_n hx hb dX6_reads_61 rfl (lv_at hl 0 rfl) ?_
                    have hTo := hT
                    refine tVi (n := 0) (As := []) (rest := []) hx hb hml hown hg hT hK hX (X6s_here l κ s206 this  (hT.k t_this (by decide)) (hTX.tr (funext fun k => by rw [erT]; exact hT.eI trT (by decide) rfl rfl) (hT.eI t_this (by decide) rfl rfl)) (show (zI s206 this 14).toInt = ((uscn uisBl tc Ln aa) : Nat) from by rw [(show zI s206 this 14 = v213 from ev213)]; omega) (uscn_le y2)) sub_gH_gS3 (mwV k1345 k1347 k42 k92 k1348) ⟨rfl, by decide, by decide, by decide +kernel⟩ ⟨(Nat.le_of_ble_eq_true rfl), (Nat.le_of_ble_eq_true rfl)⟩ (hT.o20 (hT.k t_this (by decide))) rfl rfl hl.1 rfl (Nat.le_of_ble_eq_true rfl) dX6_reads_62 zroom.rf (fun x214 s215 H locs hφ hEs215 hT => ?_)
                    have kthis_17 : zI s215 this 17 = b2 := ((hTo.k t_this (by decide)).eI hEs215 (by decide) rfl).trans kthis_17
                    have kthis_18 : zI s215 this 18 = ns := ((hTo.k t_this (by decide)).eI hEs215 (by decide) rfl).trans kthis_18
                    have ev147 : zI s215 this 15 = v147 := ((hTo.k t_this (by decide)).eI hEs215 (by decide) rfl).trans ev147
                    have ev148 : zI s215 this 16 = v148 := ((hTo.k t_this (by decide)).eI hEs215 (by decide) rfl).trans ev148
                    have ev149 : zI s215 this 20 = v149 := ((hTo.k t_this (by decide)).eI hEs215 (by decide) rfl).trans ev149
                    have ev150 : zI s215 this 21 = v150 := ((hTo.k t_this (by decide)).eI hEs215 (by decide) rfl).trans ev150
                    have ev151 : zI s215 this 22 = v151 := ((hTo.k t_this (by decide)).eI hEs215 (by decide) rfl).trans ev151
                    have ev152 : zI s215 this 19 = v152 := ((hTo.k t_this (by decide)).eI hEs215 (by decide) rfl).trans ev152
                    have Y216 : PL nn (zI s215 rQ) := by first | (rw [show zI s215 rQ = zI s206 rQ from funext fun k => (hTo.k trQ (by decide)).eI hEs215 (by decide) rfl]; exact Y207) | rw [show zI s215 rQ = zI s206 rQ from funext fun k => (hTo.k trQ (by decide)).eI hEs215 (by decide) rfl]
                    have Y217 : (nn = 0 ∧ vv = -1) ∨ (0 < nn ∧ (zI s215 rQ (nn - 1)).toInt = vv) := by first | (rw [show zI s215 rQ = zI s206 rQ from funext fun k => (hTo.k trQ (by decide)).eI hEs215 (by decide) rfl]; exact Y208) | rw [show zI s215 rQ = zI s206 rQ from funext fun k => (hTo.k trQ (by decide)).eI hEs215 (by decide) rfl]
                    have Y218 : usP (zI s215 rQ) nn g := by first | (rw [show zI s215 rQ = zI s206 rQ from funext fun k => (hTo.k trQ (by decide)).eI hEs215 (by decide) rfl]; exact Y209) | rw [show zI s215 rQ = zI s206 rQ from funext fun k => (hTo.k trQ (by decide)).eI hEs215 (by decide) rfl]
                    have Y219 : usO (zI s215 rV) nn g := by first | (rw [show zI s215 rV = zI s206 rV from funext fun k => (hTo.k trV (by decide)).eI hEs215 (by decide) rfl]; exact Y210) | rw [show zI s215 rV = zI s206 rV from funext fun k => (hTo.k trV (by decide)).eI hEs215 (by decide) rfl]
                    obtain ⟨f220, f221⟩ := hφ
                    rw [uscn_id] at f220
                    obtain ⟨v222, ev222⟩ : ∃ zz9 : Int32, zI s215 this 14 = zz9 := ⟨_, rfl⟩
                    have qv222 : v222.toInt = (zI s215 this 14).toInt := by rw [ev222]
                    rw [(show zI s215 this 14 = v222 from ev222)] at f220
                    refine lv_istore_n (lv' := [(2, .int x214), (0, .ref this)]) hx hb dX6_reads_65 rfl hl (by decide) rfl (fun ls hl => ?_)
                    refine lv_aload_n hx hb dX6_reads_66 rfl (lv_at hl 1 rfl) ?_
                    refine lv_iconst (v := 1) hx hb dX6_reads_67 (by decide) ?_
                    refine lv_aload_n hx hb dX6_reads_68 rfl (lv_at hl 1 rfl) ?_
                    refine va_get (D := κ.1) (ci := 6) (v := .int (zI s215 this 14)) (C := RX6) (T := TX6) (N := 27) hx hb hg inX6 hown hK (hT.o20 (hT.k t_this (by decide))).one 0 rfl rfl 14 (by decide) (hg _ k1233) (fun _ h9 => h9) rfl dX6_reads_69 ?_
                    rw [ev222]
                    have cz223 : zI s215 this 17 = b2 := kthis_17
                    have hTo := hT
                    refine tVv (n := 2) (As := [.int 1, .int v222]) (rest := []) hx hb hml hown hg hT hK hX (X6s_wrong l κ s215 this 1 v222  (hT.k t_this (by decide)) ) sub_gB_gS3 (mwV k1361 k1363 k45 k92 k1364) ⟨rfl, by decide, by decide, by decide +kernel⟩ ⟨(Nat.le_of_ble_eq_true rfl), (Nat.le_of_ble_eq_true rfl)⟩ (hT.o20 (hT.k t_this (by decide))) rfl rfl hl.1 rfl (Nat.le_of_ble_eq_true rfl) dX6_reads_72 zroom.rf (fun s225 H locs hφ hEs225 hT => ?_)
                    have kthis_18 : zI s225 this 18 = ns := ((hTo.k t_this (by decide)).eI hEs225 (by decide) rfl).trans kthis_18
                    have ev149 : zI s225 this 20 = v149 := ((hTo.k t_this (by decide)).eI hEs225 (by decide) rfl).trans ev149
                    have ev150 : zI s225 this 21 = v150 := ((hTo.k t_this (by decide)).eI hEs225 (by decide) rfl).trans ev150
                    have ev151 : zI s225 this 22 = v151 := ((hTo.k t_this (by decide)).eI hEs225 (by decide) rfl).trans ev151
                    have ev152 : zI s225 this 19 = v152 := ((hTo.k t_this (by decide)).eI hEs225 (by decide) rfl).trans ev152
                    have ev222 : zI s225 this 14 = v222 := ((hTo.k t_this (by decide)).eI hEs225 (by decide) rfl).trans ev222
                    have Y226 : PL nn (zI s225 rQ) := by first | (rw [show zI s225 rQ = zI s215 rQ from funext fun k => (hTo.k trQ (by decide)).eI hEs225 (by decide) rfl]; exact Y216) | rw [show zI s225 rQ = zI s215 rQ from funext fun k => (hTo.k trQ (by decide)).eI hEs225 (by decide) rfl]
                    have Y227 : (nn = 0 ∧ vv = -1) ∨ (0 < nn ∧ (zI s225 rQ (nn - 1)).toInt = vv) := by first | (rw [show zI s225 rQ = zI s215 rQ from funext fun k => (hTo.k trQ (by decide)).eI hEs225 (by decide) rfl]; exact Y217) | rw [show zI s225 rQ = zI s215 rQ from funext fun k => (hTo.k trQ (by decide)).eI hEs225 (by decide) rfl]
                    have Y228 : usP (zI s225 rQ) nn g := by first | (rw [show zI s225 rQ = zI s215 rQ from funext fun k => (hTo.k trQ (by decide)).eI hEs225 (by decide) rfl]; exact Y218) | rw [show zI s225 rQ = zI s215 rQ from funext fun k => (hTo.k trQ (by decide)).eI hEs225 (by decide) rfl]
                    have Y229 : usO (zI s225 rV) nn g := by first | (rw [show zI s225 rV = zI s215 rV from funext fun k => (hTo.k trV (by decide)).eI hEs225 (by decide) rfl]; exact Y219) | rw [show zI s225 rV = zI s215 rV from funext fun k => (hTo.k trV (by decide)).eI hEs225 (by decide) rfl]
                    have f230 := hφ
                    obtain ⟨wb91, wb92, wb93⟩ := (f230.resolve_left (fun q9 => by have z9 := q9.1; rw [cz223] at z9; omega)).2
                    subst hQ9
                    exact t_v hx hb hr hlocks hT ⟨Or.inl wb91, Or.inl wb91, (true, (uscn uisBl tc Ln aa), nn, vv, g), 1, ((uscn uisBl tc Ln aa) : Nat), ⟨y5, Or.inr (Or.inl ⟨rfl, Or.inl ⟨fun q9 => by have q8 := tk0_iff.mp (show utkK tc Ln (uscn uisBl tc Ln aa) = 0 from q9.1); have q7 : 2 ≤ nn := q9.2; omega, fun q9 => w2 q9.2, rfl, rfl⟩⟩)⟩, Or.inr ⟨wb91, by decide, by rw [wb92]; exact n1, by rw [wb93]; omega⟩⟩ dX6_reads_75
            · skip
              refine lv_aload_n hx hb dX6_reads_21 rfl (lv_at hl 0 rfl) ?_
              refine lv_ldc2 hx hb hown (hg _ k1394) dX6_reads_22 ?_
              obtain ⟨v231, ev231⟩ : ∃ zz9 : Int32, zI s145 this 15 = zz9 := ⟨_, rfl⟩
              have qv231 : v231.toInt = (zI s145 this 15).toInt := by rw [ev231]
              have cz232 : zI s145 this 15 = v231 := ev231
              obtain ⟨v233, ev233⟩ : ∃ zz9 : Int32, zI s145 this 16 = zz9 := ⟨_, rfl⟩
              have qv233 : v233.toInt = (zI s145 this 16).toInt := by rw [ev233]
              have cz234 : zI s145 this 16 = v233 := ev233
              have cz235 : zI s145 this 17 = b2 := kthis_17
              have cz236 : zI s145 this 17 = b2 := kthis_17
              have cz237 : zI s145 this 15 = v231 := ev231
              have cz238 : zI s145 this 16 = v233 := ev233
              have hTo := hT
              refine tVi (n := 1) (As := [.long 47]) (rest := []) hx hb hml hown hg hT hK hX (X6s_isWord l κ s145 this 47  (hT.k t_this (by decide)) (hTX.tr (funext fun k => by rw [erT]; exact hT.eI trT (by decide) rfl rfl) (hT.eI t_this (by decide) rfl rfl)) (show (zI s145 this 17).toInt = 0 → (zI s145 this 14).toInt = ((0 : Nat) : Int) ∧ 0 ≤ Ln from fun q9 => absurd q9 (by rw [(show zI s145 this 17 = b2 from kthis_17)]; omega)) (show encP 47 12 from ⟨by decide, by decide +kernel⟩)) sub_gH_gS3 (mwV k1337 k1339 k40 k92 k1340) ⟨rfl, by decide, by decide, by decide +kernel⟩ ⟨(Nat.le_of_ble_eq_true rfl), (Nat.le_of_ble_eq_true rfl)⟩ (hT.o20 (hT.k t_this (by decide))) rfl rfl hl.1 rfl (Nat.le_of_ble_eq_true rfl) dX6_reads_25 zroom.rf (fun x239 s240 H locs hφ hEs240 hT => ?_)
              have kthis_17 : zI s240 this 17 = b2 := ((hTo.k t_this (by decide)).eI hEs240 (by decide) rfl).trans kthis_17
              have kthis_18 : zI s240 this 18 = ns := ((hTo.k t_this (by decide)).eI hEs240 (by decide) rfl).trans kthis_18
              have ev231 : zI s240 this 15 = v231 := ((hTo.k t_this (by decide)).eI hEs240 (by decide) rfl).trans ev231
              have ev233 : zI s240 this 16 = v233 := ((hTo.k t_this (by decide)).eI hEs240 (by decide) rfl).trans ev233
              obtain ⟨f241, f242, f243⟩ := hφ
              have w9 := (f241 (show (zI s145 this 17).toInt = 1 from by rw [cz236]; omega)).1
              refine lv_if_eq (tgt := 38) hx hb dX6_reads_28 (by decide) (fun _ => ?_) (fun c9 => absurd (gi_ne c9) (by omega))
              refine lv_aload_n hx hb dX6_reads_38 rfl (lv_at hl 0 rfl) ?_
              refine va_get (D := κ.1) (ci := 6) (v := .int (zI s240 this 17)) (C := RX6) (T := TX6) (N := 27) hx hb hg inX6 hown hK (hT.o20 (hT.k t_this (by decide))).one 0 rfl rfl 17 (by decide) (hg _ k1236) (fun _ h9 => h9) rfl dX6_reads_39 ?_
              rw [kthis_17]
              refine lv_if_ne (tgt := 75) hx hb dX6_reads_42 (by decide) (fun _ => ?_) (fun c9 => absurd (gi_eq c9) (by omega))
              subst hQ9
              exact t_v hx hb hr hlocks hT ⟨Or.inl (by rw [(show zI s240 this 17 = b2 from kthis_17)]; omega), Or.inl (by rw [(show zI s240 this 17 = b2 from kthis_17)]; omega), x9, co, po, ⟨z1, z2⟩, Or.inr ⟨by rw [(show zI s240 this 17 = b2 from kthis_17)]; omega, z3, by rw [(show zI s240 this 15 = v231 from ev231), ← cz237]; exact z4, by rw [(show zI s240 this 16 = v233 from ev233), ← cz238]; exact z5⟩⟩ dX6_reads_75
        exact loop21 ((100 * (1 - bb.toInt) + (49 - v1.toInt)).toNat + 1) u bb v1 _ _ _ _ hT kthis_14 kthis_17 kthis_18 (by omega) (by omega) (by omega) (by omega) (Or.inr ⟨by omega, x9, co, po, z1, z2, z3, z4, z5⟩) (lv_sub hl [1] rfl) (by omega)
  obtain ⟨v244, ev244⟩ : ∃ zz9 : Int32, zI σ0 this 14 = zz9 := ⟨_, rfl⟩
  have qv244 : v244.toInt = (zI σ0 this 14).toInt := by rw [ev244]
  obtain ⟨v245, ev245⟩ : ∃ zz9 : Int32, zI σ0 this 17 = zz9 := ⟨_, rfl⟩
  have qv245 : v245.toInt = (zI σ0 this 17).toInt := by rw [ev245]
  have b246 : isB v245 := by have q9 : isB (zI σ0 this 17) := hT.P (hT.k t_this (by decide)) (by decide); rw [ev245] at q9; exact q9
  have b246t := isB_t b246
  obtain ⟨v247, ev247⟩ : ∃ zz9 : Int32, zI σ0 this 23 = zz9 := ⟨_, rfl⟩
  have qv247 : v247.toInt = (zI σ0 this 23).toInt := by rw [ev247]
  exact loop2 ((20 * (1 - v245.toInt) + (1 : Int32).toInt + 2 * (4 - (pc4 (ix v247) : Int))).toNat + 1) 1 v244 v245 v247 _ _ _ _ hT ev1 ev244 ev245 ev247 (show pc4 (ix v247) ≤ 4 from by rw [show ix v247 = 0 from by unfold ix; omega]; decide) (by omega) (by omega) (by omega) (by omega) (Or.inl ⟨by omega, 0, 0, ugs0, by omega, by omega, by omega, by decide, h5, rfl, rfl, Or.inl ⟨n1, urt_rf⟩⟩) hl (by omega)
