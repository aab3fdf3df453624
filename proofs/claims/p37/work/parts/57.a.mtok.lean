/-! What the reference reads: tokens -/
set_option maxHeartbeats 4000000 in
set_option maxRecDepth 100000 in
theorem X6s_here (l : Launch) (κ : Kt) (σ0 : Gh) (this : Nat) {tc : Nat → Int} {Ln : Nat} {aa : Nat} (t_this : zk σ0 this 20) (h0 : TXm κ σ0 this tc Ln) (h1 : (zI σ0 this 14).toInt = (aa : Nat)) (h2 : aa ≤ Ln) : TC l yX6_here cX6_here 1 (some .int) 0 0 [.ref this] κ σ0 (tqi κ gH σ0 (fun (r : Int32) (τ : Gh) => ((zI τ this 14).toInt = ((uscn uisBl tc Ln aa) : Nat)) ∧ ((r.toInt = -1 ∧ (uscn uisBl tc Ln aa) = Ln) ∨ ((uscn uisBl tc Ln aa) < Ln ∧ 0 ≤ r.toInt ∧ r.toInt = tc (uscn uisBl tc Ln aa))))) := by
  refine TC.of gH (by decide +kernel) (Nat.le_of_ble_eq_true rfl) ?_
  intro p e s m below meth c ls hcs hK hX hT hl
  obtain ⟨hx, hb, hr, hml, hown, hg, hlocks, hin⟩ := hcs
  have hown : s.vm.findClass RX6 = some m.cls := hown
  have hl : lv_has ls 1 [(0, .ref this)] := hl
  have hT0 := hT
  have nm1 : ((-1) : Int32).toInt = (-1) := by decide
  have n1 : (1 : Int32).toInt = 1 := by decide
  have n10 : (10 : Int32).toInt = 10 := by decide
  have n32 : (32 : Int32).toInt = 32 := by decide
  generalize hQ9 : tQ _ _ _ _ _ _ = Q9
  have hTX := h0
  obtain ⟨rT, erT⟩ : ∃ z, kR κ this 12 = z := ⟨_, rfl⟩
  have trT : zk σ0 rT 23 := by rw [← erT]; exact hT0.ref t_this (by decide) (by decide) (by decide)
  have hpc : ∀ j, tc j = (zI σ0 rT j).toInt := by rw [← erT]; exact hTX.1
  have hLn : (zI σ0 this 13).toInt = Ln := hTX.2.1
  have hL7 : Ln ≤ 700 := hTX.2.2.1
  have hnn := hTX.2.2.2
  have loop0 : ∀ (n9 : Nat)  (u : Int32) (H : Heap) (locs : List Loc) (sg : Gh) (ls : Array Slot), TS κ gH σ0 sg s H locs → (zI sg this 14 = u) → (0 ≤ u.toInt) → (u.toInt ≤ Ln) → (uscn uisBl tc Ln (ix u) = (uscn uisBl tc Ln aa)) → lv_has ls 1 [(0, .ref this)] → (703 - u.toInt) < n9 → tW p l e 0 0 κ s m #[.ref this] below meth c H locs Q9 (F0 m 0 ls []) := by
    intro n9
    induction n9 with
    | zero =>
      intro u H locs sg ls hT kthis_14 q1 q2 q3 hl hm9
      exfalso
      omega
    | succ n9 ih9 =>
      have ih0 := ih9
      clear ih9
      intro u H locs s1 ls hT kthis_14 q1 q2 q3 hl hm9
      have i_u : (ix u : Int) = u.toInt := by unfold ix; omega
      refine lv_aload_n hx hb dX6_here_0 rfl (lv_at hl 0 rfl) ?_
      refine va_get (D := κ.1) (ci := 6) (v := .int (zI s1 this 14)) (C := RX6) (T := TX6) (N := 27) hx hb hg inX6 hown hK (hT.o20 (hT.k t_this (by decide))).one 0 rfl rfl 14 (by decide) (hg _ k1233) (fun _ h9 => h9) rfl dX6_here_1 ?_
      rw [kthis_14]
      refine lv_aload_n hx hb dX6_here_4 rfl (lv_at hl 0 rfl) ?_
      obtain ⟨v2, ev2⟩ : ∃ zz9 : Int32, zI σ0 this 13 = zz9 := ⟨_, rfl⟩
      have qv2 : v2.toInt = (zI σ0 this 13).toInt := by rw [ev2]
      refine va_get (D := κ.1) (ci := 6) (v := .int (zI s1 this 13)) (C := RX6) (T := TX6) (N := 27) hx hb hg inX6 hown hK (hT.o20 (hT.k t_this (by decide))).one 0 rfl rfl 13 (by decide) (hg _ k1232) (fun _ h9 => h9) rfl dX6_here_5 ?_
      rw [(hT.eI t_this (by decide) rfl ev2)]
      refine lv_icmp_ge (tgt := 52) hx hb dX6_here_8 (by decide) (fun c9 => ?_) (fun c9 => ?_)
      · have c1 := gi_le c9
        have hs9 : uscn uisBl tc Ln (ix u) = ix u := uscn_no (fun q9 => by have q8 := uisBl_t.mp q9.2; have q7 := q9.1; omega)
        refine lv_aload_n hx hb dX6_here_52 rfl (lv_at hl 0 rfl) ?_
        refine va_get (D := κ.1) (ci := 6) (v := .int (zI s1 this 14)) (C := RX6) (T := TX6) (N := 27) hx hb hg inX6 hown hK (hT.o20 (hT.k t_this (by decide))).one 0 rfl rfl 14 (by decide) (hg _ k1233) (fun _ h9 => h9) rfl dX6_here_53 ?_
        rw [kthis_14]
        refine lv_aload_n hx hb dX6_here_56 rfl (lv_at hl 0 rfl) ?_
        refine va_get (D := κ.1) (ci := 6) (v := .int (zI s1 this 13)) (C := RX6) (T := TX6) (N := 27) hx hb hg inX6 hown hK (hT.o20 (hT.k t_this (by decide))).one 0 rfl rfl 13 (by decide) (hg _ k1232) (fun _ h9 => h9) rfl dX6_here_57 ?_
        rw [(hT.eI t_this (by decide) rfl ev2)]
        refine lv_icmp_ge (tgt := 75) hx hb dX6_here_60 (by decide) (fun c9 => ?_) (fun c9 => ?_)
        · have c2 := gi_le c9
          refine lv_iconst (v := (-1)) hx hb dX6_here_75 (by decide) ?_
          subst hQ9
          exact t_i hx hb hr hlocks hT ⟨by rw [(show zI s1 this 14 = u from kthis_14)]; omega, Or.inl ⟨nm1, by omega⟩⟩ dX6_here_76
        · have c3 := gi_nle c9
          refine lv_aload_n hx hb dX6_here_63 rfl (lv_at hl 0 rfl) ?_
          refine va_get (D := κ.1) (ci := 6) (v := .ref (kR κ this 12)) (C := RX6) (T := TX6) (N := 27) hx hb hg inX6 hown hK (hT.o20 (hT.k t_this (by decide))).one 0 rfl rfl 12 (by decide) (hg _ k1231) (fun _ h9 => h9) rfl dX6_here_64 ?_
          rw [erT]
          refine lv_aload_n hx hb dX6_here_67 rfl (lv_at hl 0 rfl) ?_
          refine va_get (D := κ.1) (ci := 6) (v := .int (zI s1 this 14)) (C := RX6) (T := TX6) (N := 27) hx hb hg inX6 hown hK (hT.o20 (hT.k t_this (by decide))).one 0 rfl rfl 14 (by decide) (hg _ k1233) (fun _ h9 => h9) rfl dX6_here_68 ?_
          rw [kthis_14]
          refine va_iald hx hb hK (hT.o23 (hT.k trT (by decide))).one 0 0 rfl rfl (g_in (by omega) (by omega)) dX6_here_71 ?_
          refine lv_topi (fun t3 ht3 => ?_)
          have it3 : (ix u : Int) = u.toInt := by unfold ix; omega
          have xt3 : tc (ix u) = t3.toInt := by rw [hpc, ht3, show (ix u) = ix u from by first | rfl | (unfold ix; omega)]; exact congrArg Int32.toInt (hT.eI trT (by decide) rfl rfl).symm
          refine lv_goto (tgt := 76) hx hb dX6_here_72 (by decide) ?_
          subst hQ9
          exact t_i hx hb hr hlocks hT ⟨by rw [(show zI s1 this 14 = u from kthis_14)]; omega, Or.inr ⟨by omega, by have z9 := hnn (ix u) (by omega); omega, by rw [← q3, hs9]; omega⟩⟩ dX6_here_76
      · have c4 := gi_nle c9
        refine lv_aload_n hx hb dX6_here_11 rfl (lv_at hl 0 rfl) ?_
        refine va_get (D := κ.1) (ci := 6) (v := .ref (kR κ this 12)) (C := RX6) (T := TX6) (N := 27) hx hb hg inX6 hown hK (hT.o20 (hT.k t_this (by decide))).one 0 rfl rfl 12 (by decide) (hg _ k1231) (fun _ h9 => h9) rfl dX6_here_12 ?_
        rw [erT]
        refine lv_aload_n hx hb dX6_here_15 rfl (lv_at hl 0 rfl) ?_
        refine va_get (D := κ.1) (ci := 6) (v := .int (zI s1 this 14)) (C := RX6) (T := TX6) (N := 27) hx hb hg inX6 hown hK (hT.o20 (hT.k t_this (by decide))).one 0 rfl rfl 14 (by decide) (hg _ k1233) (fun _ h9 => h9) rfl dX6_here_16 ?_
        rw [kthis_14]
        refine va_iald hx hb hK (hT.o23 (hT.k trT (by decide))).one 0 0 rfl rfl (g_in (by omega) (by omega)) dX6_here_19 ?_
        refine lv_topi (fun t4 ht4 => ?_)
        have it4 : (ix u : Int) = u.toInt := by unfold ix; omega
        have xt4 : tc (ix u) = t4.toInt := by rw [hpc, ht4, show (ix u) = ix u from by first | rfl | (unfold ix; omega)]; exact congrArg Int32.toInt (hT.eI trT (by decide) rfl rfl).symm
        refine lv_bipush (v := 32) hx hb dX6_here_20 (by decide) ?_
        refine lv_icmp_eq (tgt := 39) hx hb dX6_here_22 (by decide) (fun c9 => ?_) (fun c9 => ?_)
        · have c5 := gi_eq c9
          refine lv_aload_n hx hb dX6_here_39 rfl (lv_at hl 0 rfl) ?_
          refine lv_dup hx hb dX6_here_40 rfl ?_
          refine va_get (D := κ.1) (ci := 6) (v := .int (zI s1 this 14)) (C := RX6) (T := TX6) (N := 27) hx hb hg inX6 hown hK (hT.o20 (hT.k t_this (by decide))).one 0 rfl rfl 14 (by decide) (hg _ k1233) (fun _ h9 => h9) rfl dX6_here_41 ?_
          rw [kthis_14]
          refine lv_iconst (v := 1) hx hb dX6_here_44 (by decide) ?_
          refine lv_iadd hx hb dX6_here_45 ?_
          first | refine g_add (by omega) (by omega) (fun t5 ht5 => ?_) | refine lv_topi (fun t5 ht5 => ?_)
          have hTo := hT
          refine pf20_14 hx hb hg hown hK hT (hT.k t_this (by decide)) rfl (hg _ k1233) dX6_here_46 (fun H locs s6 hus6 hT => ?_)
          have e7 : zI s6 this 14 = t5 := zput_at hus6
          refine lv_goto (tgt := 0) hx hb dX6_here_49 (by decide) ?_
          exact ih0 t5 _ _ _ _ hT e7 (by omega) (by omega) (by rw [show ix t5 = ix u + 1 from by unfold ix; omega, ← uscn_go (p := uisBl) (c := tc) (L := Ln) (a := ix u) (by omega) (uisBl_t.mpr (by omega))]; exact q3) hl (by omega)
        · have c6 := gi_ne c9
          refine lv_aload_n hx hb dX6_here_25 rfl (lv_at hl 0 rfl) ?_
          refine va_get (D := κ.1) (ci := 6) (v := .ref (kR κ this 12)) (C := RX6) (T := TX6) (N := 27) hx hb hg inX6 hown hK (hT.o20 (hT.k t_this (by decide))).one 0 rfl rfl 12 (by decide) (hg _ k1231) (fun _ h9 => h9) rfl dX6_here_26 ?_
          rw [erT]
          refine lv_aload_n hx hb dX6_here_29 rfl (lv_at hl 0 rfl) ?_
          refine va_get (D := κ.1) (ci := 6) (v := .int (zI s1 this 14)) (C := RX6) (T := TX6) (N := 27) hx hb hg inX6 hown hK (hT.o20 (hT.k t_this (by decide))).one 0 rfl rfl 14 (by decide) (hg _ k1233) (fun _ h9 => h9) rfl dX6_here_30 ?_
          rw [kthis_14]
          refine va_iald hx hb hK (hT.o23 (hT.k trT (by decide))).one 0 0 rfl rfl (g_in (by omega) (by omega)) dX6_here_33 ?_
          refine lv_topi (fun t8 ht8 => ?_)
          have it8 : (ix u : Int) = u.toInt := by unfold ix; omega
          have xt8 : tc (ix u) = t8.toInt := by rw [hpc, ht8, show (ix u) = ix u from by first | rfl | (unfold ix; omega)]; exact congrArg Int32.toInt (hT.eI trT (by decide) rfl rfl).symm
          refine lv_bipush (v := 10) hx hb dX6_here_34 (by decide) ?_
          refine lv_icmp_ne (tgt := 52) hx hb dX6_here_36 (by decide) (fun c9 => ?_) (fun c9 => ?_)
          · have c7 := gi_ne c9
            have hs9 : uscn uisBl tc Ln (ix u) = ix u := uscn_no (fun q9 => by have q8 := uisBl_t.mp q9.2; have q7 := q9.1; omega)
            refine lv_aload_n hx hb dX6_here_52 rfl (lv_at hl 0 rfl) ?_
            refine va_get (D := κ.1) (ci := 6) (v := .int (zI s1 this 14)) (C := RX6) (T := TX6) (N := 27) hx hb hg inX6 hown hK (hT.o20 (hT.k t_this (by decide))).one 0 rfl rfl 14 (by decide) (hg _ k1233) (fun _ h9 => h9) rfl dX6_here_53 ?_
            rw [kthis_14]
            refine lv_aload_n hx hb dX6_here_56 rfl (lv_at hl 0 rfl) ?_
            refine va_get (D := κ.1) (ci := 6) (v := .int (zI s1 this 13)) (C := RX6) (T := TX6) (N := 27) hx hb hg inX6 hown hK (hT.o20 (hT.k t_this (by decide))).one 0 rfl rfl 13 (by decide) (hg _ k1232) (fun _ h9 => h9) rfl dX6_here_57 ?_
            rw [(hT.eI t_this (by decide) rfl ev2)]
            refine lv_icmp_ge (tgt := 75) hx hb dX6_here_60 (by decide) (fun c9 => ?_) (fun c9 => ?_)
            · have c8 := gi_le c9
              refine lv_iconst (v := (-1)) hx hb dX6_here_75 (by decide) ?_
              subst hQ9
              exact t_i hx hb hr hlocks hT ⟨by rw [(show zI s1 this 14 = u from kthis_14)]; omega, Or.inl ⟨nm1, by omega⟩⟩ dX6_here_76
            · have c9 := gi_nle c9
              refine lv_aload_n hx hb dX6_here_63 rfl (lv_at hl 0 rfl) ?_
              refine va_get (D := κ.1) (ci := 6) (v := .ref (kR κ this 12)) (C := RX6) (T := TX6) (N := 27) hx hb hg inX6 hown hK (hT.o20 (hT.k t_this (by decide))).one 0 rfl rfl 12 (by decide) (hg _ k1231) (fun _ h9 => h9) rfl dX6_here_64 ?_
              rw [erT]
              refine lv_aload_n hx hb dX6_here_67 rfl (lv_at hl 0 rfl) ?_
              refine va_get (D := κ.1) (ci := 6) (v := .int (zI s1 this 14)) (C := RX6) (T := TX6) (N := 27) hx hb hg inX6 hown hK (hT.o20 (hT.k t_this (by decide))).one 0 rfl rfl 14 (by decide) (hg _ k1233) (fun _ h9 => h9) rfl dX6_here_68 ?_
              rw [kthis_14]
              refine va_iald hx hb hK (hT.o23 (hT.k trT (by decide))).one 0 0 rfl rfl (g_in (by omega) (by omega)) dX6_here_71 ?_
              refine lv_topi (fun t9 ht9 => ?_)
              have it9 : (ix u : Int) = u.toInt := by unfold ix; omega
              have xt9 : tc (ix u) = t9.toInt := by rw [hpc, ht9, show (ix u) = ix u from by first | rfl | (unfold ix; omega)]; exact congrArg Int32.toInt (hT.eI trT (by decide) rfl rfl).symm
              refine lv_goto (tgt := 76) hx hb dX6_here_72 (by decide) ?_
              subst hQ9
              exact t_i hx hb hr hlocks hT ⟨by rw [(show zI s1 this 14 = u from kthis_14)]; omega, Or.inr ⟨by omega, by have z9 := hnn (ix u) (by omega); omega, by rw [← q3, hs9]; omega⟩⟩ dX6_here_76
          · have c10 := gi_eq c9
            refine lv_aload_n hx hb dX6_here_39 rfl (lv_at hl 0 rfl) ?_
            refine lv_dup hx hb dX6_here_40 rfl ?_
            refine va_get (D := κ.1) (ci := 6) (v := .int (zI s1 this 14)) (C := RX6) (T := TX6) (N := 27) hx hb hg inX6 hown hK (hT.o20 (hT.k t_this (by decide))).one 0 rfl rfl 14 (by decide) (hg _ k1233) (fun _ h9 => h9) rfl dX6_here_41 ?_
            rw [kthis_14]
            refine lv_iconst (v := 1) hx hb dX6_here_44 (by decide) ?_
            refine lv_iadd hx hb dX6_here_45 ?_
            first | refine g_add (by omega) (by omega) (fun t10 ht10 => ?_) | refine lv_topi (fun t10 ht10 => ?_)
            have hTo := hT
            refine pf20_14 hx hb hg hown hK hT (hT.k t_this (by decide)) rfl (hg _ k1233) dX6_here_46 (fun H locs s11 hus11 hT => ?_)
            have e12 : zI s11 this 14 = t10 := zput_at hus11
            refine lv_goto (tgt := 0) hx hb dX6_here_49 (by decide) ?_
            exact ih0 t10 _ _ _ _ hT e12 (by omega) (by omega) (by rw [show ix t10 = ix u + 1 from by unfold ix; omega, ← uscn_go (p := uisBl) (c := tc) (L := Ln) (a := ix u) (by omega) (uisBl_t.mpr (by omega))]; exact q3) hl (by omega)
  obtain ⟨v13, ev13⟩ : ∃ zz9 : Int32, zI σ0 this 14 = zz9 := ⟨_, rfl⟩
  have qv13 : v13.toInt = (zI σ0 this 14).toInt := by rw [ev13]
  exact loop0 ((703 - v13.toInt).toNat + 1) v13 _ _ _ _ hT ev13 (by omega) (by omega) (by rw [show ix v13 = aa from by unfold ix; omega]) hl (by omega)
set_option maxHeartbeats 4000000 in
set_option maxRecDepth 100000 in
theorem X6s_wordEnd (l : Launch) (κ : Kt) (σ0 : Gh) (this : Nat) {tc : Nat → Int} {Ln : Nat} {aa : Nat} (t_this : zk σ0 this 20) (h0 : TXm κ σ0 this tc Ln) (h1 : (zI σ0 this 14).toInt = (aa : Nat)) (h2 : aa ≤ Ln) : TC l yX6_wordEnd cX6_wordEnd 2 (some .int) 1 25 [.ref this] κ σ0 (tqi κ fE σ0 (fun (r : Int32) (τ : Gh) => (r.toInt = (uscn uisLe tc Ln aa : Nat)))) := by
  refine TC.of fE (by decide +kernel) (Nat.le_of_ble_eq_true rfl) ?_
  intro p e s m below meth c ls hcs hK hX hT hl
  obtain ⟨hx, hb, hr, hml, hown, hg, hlocks, hin⟩ := hcs
  have hown : s.vm.findClass RX6 = some m.cls := hown
  have hl : lv_has ls 2 [(0, .ref this)] := hl
  have hT0 := hT
  have n0 : (0 : Int32).toInt = 0 := by decide
  have j97 : (97 : Int64).toInt = 97 := by decide
  have j122 : (122 : Int64).toInt = 122 := by decide
  generalize hQ9 : tQ _ _ _ _ _ _ = Q9
  have hTX := h0
  obtain ⟨rT, erT⟩ : ∃ z, kR κ this 12 = z := ⟨_, rfl⟩
  have trT : zk σ0 rT 23 := by rw [← erT]; exact hT0.ref t_this (by decide) (by decide) (by decide)
  have hpc : ∀ j, tc j = (zI σ0 rT j).toInt := by rw [← erT]; exact hTX.1
  have hLn : (zI σ0 this 13).toInt = Ln := hTX.2.1
  have hL7 : Ln ≤ 700 := hTX.2.2.1
  have hnn := hTX.2.2.2
  obtain ⟨v1, ev1⟩ : ∃ zz9 : Int32, zI σ0 this 14 = zz9 := ⟨_, rfl⟩
  have qv1 : v1.toInt = (zI σ0 this 14).toInt := by rw [ev1]
  refine lv_aload_n hx hb dX6_wordEnd_0 rfl (lv_at hl 0 rfl) ?_
  refine va_get (D := κ.1) (ci := 6) (v := .int (zI σ0 this 14)) (C := RX6) (T := TX6) (N := 27) hx hb hg inX6 hown hK (hT.o20 (hT.k t_this (by decide))).one 0 rfl rfl 14 (by decide) (hg _ k1233) (fun _ h9 => h9) rfl dX6_wordEnd_1 ?_
  rw [(hT.eI t_this (by decide) rfl ev1)]
  refine lv_istore_n (lv' := [(1, .int v1), (0, .ref this)]) hx hb dX6_wordEnd_4 rfl hl (by decide) rfl (fun ls hl => ?_)
  have loop5 : ∀ (n9 : Nat) (n : Int32) (H : Heap) (locs : List Loc) (sg : Gh) (ls : Array Slot), TS κ fE σ0 sg s H locs → (0 ≤ n.toInt) → (n.toInt ≤ Ln) → (uscn uisLe tc Ln (ix n) = uscn uisLe tc Ln aa) → lv_has ls 2 [(1, .int n), (0, .ref this)] → (703 - n.toInt) < n9 → tW p l e 1 25 κ s m #[.ref this] below meth c H locs Q9 (F0 m 5 ls []) := by
    intro n9
    induction n9 with
    | zero =>
      intro n H locs sg ls hT q1 q2 q3 hl hm9
      exfalso
      omega
    | succ n9 ih9 =>
      have ih5 := ih9
      clear ih9
      intro n H locs s2 ls hT q1 q2 q3 hl hm9
      have i_n : (ix n : Int) = n.toInt := by unfold ix; omega
      refine lv_iload_n hx hb dX6_wordEnd_5 rfl (lv_at hl 0 rfl) ?_
      refine lv_aload_n hx hb dX6_wordEnd_6 rfl (lv_at hl 1 rfl) ?_
      obtain ⟨v3, ev3⟩ : ∃ zz9 : Int32, zI σ0 this 13 = zz9 := ⟨_, rfl⟩
      have qv3 : v3.toInt = (zI σ0 this 13).toInt := by rw [ev3]
      refine va_get (D := κ.1) (ci := 6) (v := .int (zI s2 this 13)) (C := RX6) (T := TX6) (N := 27) hx hb hg inX6 hown hK (hT.o20 (hT.k t_this (by decide))).one 0 rfl rfl 13 (by decide) (hg _ k1232) (fun _ h9 => h9) rfl dX6_wordEnd_7 ?_
      rw [(hT.eI t_this (by decide) rfl ev3)]
      refine lv_icmp_ge (tgt := 38) hx hb dX6_wordEnd_10 (by decide) (fun c9 => ?_) (fun c9 => ?_)
      · have c1 := gi_le c9
        refine lv_iload_n hx hb dX6_wordEnd_38 rfl (lv_at hl 0 rfl) ?_
        have hs9 : uscn uisLe tc Ln (ix n) = ix n := uscn_no (fun q9 => by have q8 := uisLe_t.mp q9.2; have q7 := q9.1; omega)
        subst hQ9
        exact t_i hx hb hr hlocks hT (by omega) dX6_wordEnd_39
      · have c2 := gi_nle c9
        refine lv_aload_n hx hb dX6_wordEnd_13 rfl (lv_at hl 1 rfl) ?_
        refine va_get (D := κ.1) (ci := 6) (v := .ref (kR κ this 12)) (C := RX6) (T := TX6) (N := 27) hx hb hg inX6 hown hK (hT.o20 (hT.k t_this (by decide))).one 0 rfl rfl 12 (by decide) (hg _ k1231) (fun _ h9 => h9) rfl dX6_wordEnd_14 ?_
        rw [erT]
        refine lv_iload_n hx hb dX6_wordEnd_17 rfl (lv_at hl 0 rfl) ?_
        refine va_iald hx hb hK (hT.o23 (hT.k trT (by decide))).one 0 0 rfl rfl (g_in (by omega) (by omega)) dX6_wordEnd_18 ?_
        refine lv_topi (fun t4 ht4 => ?_)
        have it4 : (ix n : Int) = n.toInt := by unfold ix; omega
        have xt4 : tc (ix n) = t4.toInt := by rw [hpc, ht4, show (ix n) = ix n from by first | rfl | (unfold ix; omega)]; exact congrArg Int32.toInt (hT.eI trT (by decide) rfl rfl).symm
        refine lv_i2l hx hb dX6_wordEnd_19 rfl ?_
        refine g_i2l (fun t5 ht5 => ?_)
        refine lv_ldc2 hx hb hown (hg _ k1353) dX6_wordEnd_20 ?_
        refine lv_ldc2 hx hb hown (hg _ k1354) dX6_wordEnd_23 ?_
        have hTo := hT
        refine tSi (n := 3) (As := [.long t5, .long 97, .long 122]) (rest := []) hx hb hml hown hg hT hK hX (X6_in l κ s2 t5 97 122   ) (fun _ _ h => h) (mwS k1317 k1318 k92 k1319) ⟨rfl, by decide, by decide, by decide +kernel⟩ ⟨(Nat.le_of_ble_eq_true rfl), (Nat.le_of_ble_eq_true rfl)⟩ rfl hl.1 rfl (Nat.le_of_ble_eq_true rfl) dX6_wordEnd_26 zroom.rf (fun x6 s7 H locs hφ hEs7 hT => ?_)
        obtain ⟨f8, f9⟩ := hφ
        refine lv_if_eq (tgt := 38) hx hb dX6_wordEnd_29 (by decide) (fun c9 => ?_) (fun c9 => ?_)
        · have c3 := gi_eq c9
          refine lv_iload_n hx hb dX6_wordEnd_38 rfl (lv_at hl 0 rfl) ?_
          have hs9 : uscn uisLe tc Ln (ix n) = ix n := uscn_no (fun q9 => by have q8 := uisLe_t.mp q9.2; have q7 := q9.1; omega)
          subst hQ9
          exact t_i hx hb hr hlocks hT (by omega) dX6_wordEnd_39
        · have c4 := gi_ne c9
          obtain ⟨t10, qt10⟩ : ∃ zz9 : Int32, n + Int32.ofInt 1 = zz9 := ⟨_, rfl⟩
          refine lv_iinc (v := t10) (lv' := [(1, .int t10), (0, .ref this)]) hx hb dX6_wordEnd_32 hl (k := 0) rfl qt10 (by decide) rfl (fun ls hl => ?_)
          have ht10 : t10.toInt = n.toInt + 1 := by rw [← qt10]; exact v_addi rfl (show (Int32.ofInt 1).toInt = 1 from by decide) (by omega) (by omega)
          refine lv_goto (tgt := 5) hx hb dX6_wordEnd_35 (by decide) ?_
          exact ih5 t10 _ _ _ _ hT  (by omega) (by omega) (by rw [show ix t10 = ix n + 1 from by unfold ix; omega, ← uscn_go (p := uisLe) (c := tc) (L := Ln) (a := ix n) (by omega) (uisLe_t.mpr (by omega))]; exact q3) hl (by omega)
  exact loop5 ((703 - v1.toInt).toNat + 1) v1 _ _ _ _ hT  (by omega) (by omega) (by rw [show ix v1 = aa from by unfold ix; omega]) hl (by omega)
set_option maxHeartbeats 4000000 in
set_option maxRecDepth 100000 in
theorem X6s_wrong (l : Launch) (κ : Kt) (σ0 : Gh) (this : Nat) (co : Int32) (po : Int32) (t_this : zk σ0 this 20) : TC l yX6_wrong cX6_wrong 3 none 0 0 [.ref this, .int co, .int po] κ σ0 (tqv κ gB σ0 (fun (τ : Gh) => (((zI σ0 this 17).toInt = 1 ∧ (zI τ this 17).toInt = 1 ∧ zI τ this 15 = zI σ0 this 15 ∧ zI τ this 16 = zI σ0 this 16) ∨ ((zI σ0 this 17).toInt = 0 ∧ (zI τ this 17).toInt = 1 ∧ (zI τ this 15).toInt = co.toInt ∧ (zI τ this 16).toInt = po.toInt)))) := by
  refine TC.of gB (by decide +kernel) (Nat.le_of_ble_eq_true rfl) ?_
  intro p e s m below meth c ls hcs hK hX hT hl
  obtain ⟨hx, hb, hr, hml, hown, hg, hlocks, hin⟩ := hcs
  have hown : s.vm.findClass RX6 = some m.cls := hown
  have hl : lv_has ls 3 [(0, .ref this), (1, .int co), (2, .int po)] := hl
  have hT0 := hT
  have n0 : (0 : Int32).toInt = 0 := by decide
  have n1 : (1 : Int32).toInt = 1 := by decide
  have co_lo := Int32.le_toInt co
  have co_hi := Int32.toInt_lt co
  have po_lo := Int32.le_toInt po
  have po_hi := Int32.toInt_lt po
  generalize hQ9 : tQ _ _ _ _ _ _ = Q9
  obtain ⟨v1, ev1⟩ : ∃ zz9 : Int32, zI σ0 this 17 = zz9 := ⟨_, rfl⟩
  have qv1 : v1.toInt = (zI σ0 this 17).toInt := by rw [ev1]
  have b2 : isB v1 := by have q9 : isB (zI σ0 this 17) := hT.P (hT.k t_this (by decide)) (by decide); rw [ev1] at q9; exact q9
  have b2t := isB_t b2
  obtain ⟨v3, ev3⟩ : ∃ zz9 : Int32, zI σ0 this 15 = zz9 := ⟨_, rfl⟩
  have qv3 : v3.toInt = (zI σ0 this 15).toInt := by rw [ev3]
  have zthis15 : zI σ0 this 15 = v3 := ev3
  obtain ⟨v4, ev4⟩ : ∃ zz9 : Int32, zI σ0 this 16 = zz9 := ⟨_, rfl⟩
  have qv4 : v4.toInt = (zI σ0 this 16).toInt := by rw [ev4]
  have zthis16 : zI σ0 this 16 = v4 := ev4
  refine lv_aload_n hx hb dX6_wrong_0 rfl (lv_at hl 0 rfl) ?_
  refine va_get (D := κ.1) (ci := 6) (v := .int (zI σ0 this 17)) (C := RX6) (T := TX6) (N := 27) hx hb hg inX6 hown hK (hT.o20 (hT.k t_this (by decide))).one 0 rfl rfl 17 (by decide) (hg _ k1236) (fun _ h9 => h9) rfl dX6_wrong_1 ?_
  rw [ev1]
  refine lv_if_eq (tgt := 8) hx hb dX6_wrong_4 (by decide) (fun c9 => ?_) (fun c9 => ?_)
  · have c1 := gi_eq c9
    refine lv_aload_n hx hb dX6_wrong_8 rfl (lv_at hl 0 rfl) ?_
    refine lv_iconst (v := 1) hx hb dX6_wrong_9 (by decide) ?_
    have hTo := hT
    refine pf20_17 hx hb hg hown hK hT (hT.k t_this (by decide)) rfl isB1 (hg _ k1236) dX6_wrong_10 (fun H locs s5 hus5 hT => ?_)
    have ev3 : zI s5 this 15 = v3 := (zput_o hus5 (Or.inr (by decide))).trans ev3
    have ev4 : zI s5 this 16 = v4 := (zput_o hus5 (Or.inr (by decide))).trans ev4
    have e6 : zI s5 this 17 = 1 := zput_at hus5
    refine lv_aload_n hx hb dX6_wrong_13 rfl (lv_at hl 0 rfl) ?_
    refine lv_iload_n hx hb dX6_wrong_14 rfl (lv_at hl 1 rfl) ?_
    have hTo := hT
    refine pf20_15 hx hb hg hown hK hT (hT.k t_this (by decide)) rfl (hg _ k1234) dX6_wrong_15 (fun H locs s7 hus7 hT => ?_)
    have ev4 : zI s7 this 16 = v4 := (zput_o hus7 (Or.inr (by decide))).trans ev4
    have e6 : zI s7 this 17 = 1 := (zput_o hus7 (Or.inr (by decide))).trans e6
    have e8 : zI s7 this 15 = co := zput_at hus7
    refine lv_aload_n hx hb dX6_wrong_18 rfl (lv_at hl 0 rfl) ?_
    refine lv_iload_n hx hb dX6_wrong_19 rfl (lv_at hl 2 rfl) ?_
    have hTo := hT
    refine pf20_16 hx hb hg hown hK hT (hT.k t_this (by decide)) rfl (hg _ k1235) dX6_wrong_20 (fun H locs s9 hus9 hT => ?_)
    have e6 : zI s9 this 17 = 1 := (zput_o hus9 (Or.inr (by decide))).trans e6
    have e8 : zI s9 this 15 = co := (zput_o hus9 (Or.inr (by decide))).trans e8
    have e10 : zI s9 this 16 = po := zput_at hus9
    subst hQ9
    exact t_v hx hb hr hlocks hT (Or.inr ⟨by omega, by rw [(show zI s9 this 17 = 1 from e6)]; exact n1, by rw [(show zI s9 this 15 = co from e8)], by rw [(show zI s9 this 16 = po from e10)]⟩) dX6_wrong_23
  · have c2 := gi_ne c9
    subst hQ9
    exact t_v hx hb hr hlocks hT (Or.inl ⟨by omega, by rw [(show zI σ0 this 17 = v1 from ev1)]; omega, ((show zI σ0 this 15 = v3 from ev3).trans zthis15.symm), ((show zI σ0 this 16 = v4 from ev4).trans zthis16.symm)⟩) dX6_wrong_7
set_option maxHeartbeats 4000000 in
set_option maxRecDepth 100000 in
theorem X6s_word (l : Launch) (κ : Kt) (σ0 : Gh) (this : Nat) {tc : Nat → Int} {Ln : Nat} {aa : Nat} (t_this : zk σ0 this 20) (h0 : TXm κ σ0 this tc Ln) (h1 : (zI σ0 this 14).toInt = (aa : Nat)) (h2 : aa ≤ Ln) : TC l yX6_word cX6_word 5 (some .long) 2 46 [.ref this] κ σ0 (tql κ gH σ0 (fun (r : Int64) (τ : Gh) => ((zI τ this 14).toInt = ((uscn uisBl tc Ln aa) : Nat)) ∧ (r.toInt = uwv tc Ln (uscn uisBl tc Ln aa)))) := by
  refine TC.of gH (by decide +kernel) (Nat.le_of_ble_eq_true rfl) ?_
  intro p e s m below meth c ls hcs hK hX hT hl
  obtain ⟨hx, hb, hr, hml, hown, hg, hlocks, hin⟩ := hcs
  have hown : s.vm.findClass RX6 = some m.cls := hown
  have hl : lv_has ls 5 [(0, .ref this)] := hl
  have hT0 := hT
  have nm1 : ((-1) : Int32).toInt = (-1) := by decide
  have n7 : (7 : Int32).toInt = 7 := by decide
  have j0 : (0 : Int64).toInt = 0 := by decide
  have j27 : (27 : Int64).toInt = 27 := by decide
  have j96 : (96 : Int64).toInt = 96 := by decide
  generalize hQ9 : tQ _ _ _ _ _ _ = Q9
  have hTX := h0
  obtain ⟨rT, erT⟩ : ∃ z, kR κ this 12 = z := ⟨_, rfl⟩
  have trT : zk σ0 rT 23 := by rw [← erT]; exact hT0.ref t_this (by decide) (by decide) (by decide)
  have hpc : ∀ j, tc j = (zI σ0 rT j).toInt := by rw [← erT]; exact hTX.1
  have hLn : (zI σ0 this 13).toInt = Ln := hTX.2.1
  have hL7 : Ln ≤ 700 := hTX.2.2.1
  have hnn := hTX.2.2.2
  refine lv_lconst (v := 0) hx hb dX6_word_0 (by decide) ?_
  refine lv_lstore_n (lv' := [(1, .long 0), (0, .ref this)]) hx hb dX6_word_1 rfl hl (by decide) rfl (fun ls hl => ?_)
  refine lv_aload_n hx hb dX6_word_2 rfl (lv_at hl 1 rfl) ?_
  have hTo := hT
  refine tVi (n := 0) (As := []) (rest := []) hx hb hml hown hg hT hK hX (X6s_here l κ σ0 this  (hT.k t_this (by decide)) hTX (by omega) (by omega)) (fun _ _ h => h) (mwV k1345 k1347 k42 k92 k1348) ⟨rfl, by decide, by decide, by decide +kernel⟩ ⟨(Nat.le_of_ble_eq_true rfl), (Nat.le_of_ble_eq_true rfl)⟩ (hT.o20 (hT.k t_this (by decide))) rfl rfl hl.1 rfl (Nat.le_of_ble_eq_true rfl) dX6_word_3 zroom.rf (fun x1 s2 H locs hφ hEs2 hT => ?_)
  obtain ⟨f3, f4⟩ := hφ
  obtain ⟨ss, hss⟩ : ∃ z, (uscn uisBl tc Ln aa) = z := ⟨_, rfl⟩
  have hsL : aa ≤ Ln → ss ≤ Ln := fun q9 => by rw [← hss]; exact uscn_le q9
  have hs2 : uscn uisBl tc Ln ss = ss := by rw [← hss]; exact uscn_id
  rw [hss] at f3 f4
  obtain ⟨v5, ev5⟩ : ∃ zz9 : Int32, zI s2 this 14 = zz9 := ⟨_, rfl⟩
  have qv5 : v5.toInt = (zI s2 this 14).toInt := by rw [ev5]
  rw [(show zI s2 this 14 = v5 from ev5)] at f3
  have hsl9 := hsL h2
  refine lv_iconst (v := (-1)) hx hb dX6_word_6 (by decide) ?_
  refine lv_icmp_ne (tgt := 17) hx hb dX6_word_7 (by decide) (fun c9 => ?_) (fun c9 => ?_)
  · have c1 := gi_ne c9
    refine lv_aload_n hx hb dX6_word_17 rfl (lv_at hl 1 rfl) ?_
    have hTo := hT
    refine tVi (n := 0) (As := []) (rest := []) hx hb hml hown hg hT hK hX (X6s_wordEnd l κ s2 this  (hT.k t_this (by decide)) (hTX.tr (funext fun k => by rw [erT]; exact hT.eI trT (by decide) rfl rfl) (hT.eI t_this (by decide) rfl rfl)) (show (zI s2 this 14).toInt = ((ss : Nat) : Int) from by rw [(show zI s2 this 14 = v5 from ev5)]; omega) hsl9) sub_fE_gH (mwV k1349 k1351 k43 k92 k1352) ⟨rfl, by decide, by decide, by decide +kernel⟩ ⟨(Nat.le_of_ble_eq_true rfl), (Nat.le_of_ble_eq_true rfl)⟩ (hT.o20 (hT.k t_this (by decide))) rfl rfl hl.1 rfl (Nat.le_of_ble_eq_true rfl) dX6_word_18 zroom.rf (fun x6 s7 H locs hφ hEs7 hT => ?_)
    have ev5 : zI s7 this 14 = v5 := ((hTo.k t_this (by decide)).eI hEs7 (by decide) rfl).trans ev5
    have f8 := hφ
    refine lv_istore_n (lv' := [(3, .int x6), (1, .long 0), (0, .ref this)]) hx hb dX6_word_21 rfl hl (by decide) rfl (fun ls hl => ?_)
    have he9 : x6.toInt = (uscn uisLe tc Ln ss : Nat) := by omega
    have hge9 := uscn_ge (p := uisLe) (c := tc) (L := Ln) (a := ss)
    have hle9 := uscn_le (p := uisLe) (c := tc) (L := Ln) (a := ss) hsl9
    refine lv_aload_n hx hb dX6_word_22 rfl (lv_at hl 2 rfl) ?_
    refine va_get (D := κ.1) (ci := 6) (v := .int (zI s7 this 14)) (C := RX6) (T := TX6) (N := 27) hx hb hg inX6 hown hK (hT.o20 (hT.k t_this (by decide))).one 0 rfl rfl 14 (by decide) (hg _ k1233) (fun _ h9 => h9) rfl dX6_word_23 ?_
    rw [ev5]
    refine lv_istore (lv' := [(4, .int v5), (3, .int x6), (1, .long 0), (0, .ref this)]) hx hb dX6_word_26 hl (by decide) rfl (fun ls hl => ?_)
    have loop28 : ∀ (n9 : Nat) (v : Int64) (k : Int32) (H : Heap) (locs : List Loc) (sg : Gh) (ls : Array Slot), TS κ gH σ0 sg s H locs → (zI sg this 14 = v5) → ((ss : Int) ≤ k.toInt) → (k.toInt ≤ (uscn uisLe tc Ln ss : Nat)) → (uscn uisLe tc Ln ss - ss ≤ 7 → v.toInt = uenc (fun k => tc (ss + k) - 96) (ix k - ss)) → (7 < uscn uisLe tc Ln ss - ss → v.toInt = 0) → lv_has ls 5 [(1, .long v), (4, .int k), (3, .int x6), (0, .ref this)] → (703 - k.toInt) < n9 → tW p l e 2 46 κ s m #[.ref this] below meth c H locs Q9 (F0 m 28 ls []) := by
      intro n9
      induction n9 with
      | zero =>
        intro v k H locs sg ls hT kthis_14 q1 q2 q3 q4 hl hm9
        exfalso
        omega
      | succ n9 ih9 =>
        have ih28 := ih9
        clear ih9
        intro v k H locs s9 ls hT kthis_14 q1 q2 q3 q4 hl hm9
        have i_k : (ix k : Int) = k.toInt := by unfold ix; omega
        refine lv_iload hx hb dX6_word_28 (lv_at hl 1 rfl) ?_
        refine lv_iload_n hx hb dX6_word_30 rfl (lv_at hl 2 rfl) ?_
        refine lv_icmp_ge (tgt := 74) hx hb dX6_word_31 (by decide) (fun c9 => ?_) (fun c9 => ?_)
        · have c2 := gi_le c9
          refine lv_lload_n hx hb dX6_word_74 rfl (lv_at hl 0 rfl) ?_
          subst hQ9
          exact t_l hx hb hr hlocks hT ⟨by rw [(show zI s9 this 14 = v5 from kthis_14), hss]; omega, by rw [hss]; exact uwv_e q3 q4 (by omega) (by omega)⟩ dX6_word_75
        · have c3 := gi_nle c9
          refine lv_iload_n hx hb dX6_word_34 rfl (lv_at hl 2 rfl) ?_
          refine lv_aload_n hx hb dX6_word_35 rfl (lv_at hl 3 rfl) ?_
          refine va_get (D := κ.1) (ci := 6) (v := .int (zI s9 this 14)) (C := RX6) (T := TX6) (N := 27) hx hb hg inX6 hown hK (hT.o20 (hT.k t_this (by decide))).one 0 rfl rfl 14 (by decide) (hg _ k1233) (fun _ h9 => h9) rfl dX6_word_36 ?_
          rw [kthis_14]
          refine lv_isub hx hb dX6_word_39 ?_
          first | refine g_sub (by omega) (by omega) (fun t10 ht10 => ?_) | refine lv_topi (fun t10 ht10 => ?_)
          refine lv_bipush (v := 7) hx hb dX6_word_40 (by decide) ?_
          refine lv_icmp_le (tgt := 49) hx hb dX6_word_42 (by decide) (fun c9 => ?_) (fun c9 => ?_)
          · have c4 := gi_le c9
            have yb := uenc_ub (f := (fun k => tc (ss + k) - 96)) (n := ix k - ss) (fun j hj => lets_b (L := Ln) j (by omega))
            have yn := (uenc_nn (f := (fun k => tc (ss + k) - 96)) (n := ix k - ss) (fun j hj => lets_b (L := Ln) j (by omega))).1
            have y6 := yb.2.2.2.2.2.2.1 (by omega)
            have yv := q3 (by omega)
            clear yb
            refine lv_ldc2 hx hb hown (hg _ k1355) dX6_word_49 ?_
            refine lv_lload_n hx hb dX6_word_52 rfl (lv_at hl 0 rfl) ?_
            refine lv_lmul hx hb dX6_word_53 ?_
            refine lv_topl (fun t11 ht11 => ?_)
            have y7 : t11.toInt = 27 * v.toInt := by rw [ht11]; exact mul27 (by omega) (by omega)
            refine lv_aload_n hx hb dX6_word_54 rfl (lv_at hl 3 rfl) ?_
            refine va_get (D := κ.1) (ci := 6) (v := .ref (kR κ this 12)) (C := RX6) (T := TX6) (N := 27) hx hb hg inX6 hown hK (hT.o20 (hT.k t_this (by decide))).one 0 rfl rfl 12 (by decide) (hg _ k1231) (fun _ h9 => h9) rfl dX6_word_55 ?_
            rw [erT]
            refine lv_iload hx hb dX6_word_58 (lv_at hl 1 rfl) ?_
            refine va_iald hx hb hK (hT.o23 (hT.k trT (by decide))).one 0 0 rfl rfl (g_in (by omega) (by omega)) dX6_word_60 ?_
            refine lv_topi (fun t12 ht12 => ?_)
            have it12 : (ix k : Int) = k.toInt := by unfold ix; omega
            have xt12 : tc (ix k) = t12.toInt := by rw [hpc, ht12, show (ix k) = ix k from by first | rfl | (unfold ix; omega)]; exact congrArg Int32.toInt (hT.eI trT (by decide) rfl rfl).symm
            have yl := uisLe_t.mp (uscn_in (p := uisLe) (c := tc) (L := Ln) (a := ss) (k := ix k) (by omega) (by omega))
            refine lv_i2l hx hb dX6_word_61 rfl ?_
            refine g_i2l (fun t13 ht13 => ?_)
            refine lv_ladd hx hb dX6_word_62 ?_
            refine g_addl (by omega) (by omega) (fun t14 ht14 => ?_)
            refine lv_ldc2 hx hb hown (hg _ k1356) dX6_word_63 ?_
            refine lv_lsub hx hb dX6_word_66 ?_
            refine g_subl (by omega) (by omega) (fun t15 ht15 => ?_)
            refine lv_lstore_n (lv' := [(1, .long t15), (4, .int k), (3, .int x6), (0, .ref this)]) hx hb dX6_word_67 rfl hl (by decide) rfl (fun ls hl => ?_)
            obtain ⟨t16, qt16⟩ : ∃ zz9 : Int32, k + Int32.ofInt 1 = zz9 := ⟨_, rfl⟩
            refine lv_iinc (v := t16) (lv' := [(4, .int t16), (1, .long t15), (3, .int x6), (0, .ref this)]) hx hb dX6_word_68 hl (k := 1) rfl qt16 (by decide) rfl (fun ls hl => ?_)
            have ht16 : t16.toInt = k.toInt + 1 := by rw [← qt16]; exact v_addi rfl (show (Int32.ofInt 1).toInt = 1 from by decide) (by omega) (by omega)
            refine lv_goto (tgt := 28) hx hb dX6_word_71 (by decide) ?_
            exact ih28 t15 t16 _ _ _ _ hT kthis_14 (by omega) (by omega) (fun q9 => by rw [show ix t16 - ss = (ix k - ss) + 1 from by unfold ix at *; omega]; show _ = 27 * uenc (fun k => tc (ss + k) - 96) (ix k - ss) + (tc (ss + (ix k - ss)) - 96); rw [show ss + (ix k - ss) = ix k from by omega, ← yv]; omega) (fun q9 => by exfalso; omega) (lv_sub hl [1, 0, 2, 3] rfl) (by omega)
          · have c5 := gi_nle c9
            refine lv_lconst (v := 0) hx hb dX6_word_45 (by decide) ?_
            refine lv_goto (tgt := 67) hx hb dX6_word_46 (by decide) ?_
            refine lv_lstore_n (lv' := [(1, .long 0), (4, .int k), (3, .int x6), (0, .ref this)]) hx hb dX6_word_67 rfl hl (by decide) rfl (fun ls hl => ?_)
            obtain ⟨t17, qt17⟩ : ∃ zz9 : Int32, k + Int32.ofInt 1 = zz9 := ⟨_, rfl⟩
            refine lv_iinc (v := t17) (lv' := [(4, .int t17), (1, .long 0), (3, .int x6), (0, .ref this)]) hx hb dX6_word_68 hl (k := 1) rfl qt17 (by decide) rfl (fun ls hl => ?_)
            have ht17 : t17.toInt = k.toInt + 1 := by rw [← qt17]; exact v_addi rfl (show (Int32.ofInt 1).toInt = 1 from by decide) (by omega) (by omega)
            refine lv_goto (tgt := 28) hx hb dX6_word_71 (by decide) ?_
            exact ih28 0 t17 _ _ _ _ hT kthis_14 (by omega) (by omega) (fun q9 => by exfalso; omega) (fun _ => j0) (lv_sub hl [1, 0, 2, 3] rfl) (by omega)
    exact loop28 ((703 - v5.toInt).toNat + 1) 0 v5 _ _ _ _ hT ev5 (by omega) (by omega) (fun _ => by rw [show ix v5 - ss = 0 from by unfold ix; omega]; exact j0) (fun _ => j0) (lv_sub hl [2, 0, 1, 3] rfl) (by omega)
  · have c6 := gi_eq c9
    refine lv_aload_n hx hb dX6_word_10 rfl (lv_at hl 1 rfl) ?_
    refine va_get (D := κ.1) (ci := 6) (v := .int (zI s2 this 14)) (C := RX6) (T := TX6) (N := 27) hx hb hg inX6 hown hK (hT.o20 (hT.k t_this (by decide))).one 0 rfl rfl 14 (by decide) (hg _ k1233) (fun _ h9 => h9) rfl dX6_word_11 ?_
    rw [ev5]
    refine lv_goto (tgt := 21) hx hb dX6_word_14 (by decide) ?_
    refine lv_istore_n (lv' := [(3, .int v5), (1, .long 0), (0, .ref this)]) hx hb dX6_word_21 rfl hl (by decide) rfl (fun ls hl => ?_)
    have he9 : v5.toInt = (uscn uisLe tc Ln ss : Nat) := by have z9 : uscn uisLe tc Ln ss = ss := uscn_no (fun q9 => by have q8 := q9.1; omega); omega
    have hge9 := uscn_ge (p := uisLe) (c := tc) (L := Ln) (a := ss)
    have hle9 := uscn_le (p := uisLe) (c := tc) (L := Ln) (a := ss) hsl9
    refine lv_aload_n hx hb dX6_word_22 rfl (lv_at hl 2 rfl) ?_
    refine va_get (D := κ.1) (ci := 6) (v := .int (zI s2 this 14)) (C := RX6) (T := TX6) (N := 27) hx hb hg inX6 hown hK (hT.o20 (hT.k t_this (by decide))).one 0 rfl rfl 14 (by decide) (hg _ k1233) (fun _ h9 => h9) rfl dX6_word_23 ?_
    rw [ev5]
    refine lv_istore (lv' := [(4, .int v5), (3, .int v5), (1, .long 0), (0, .ref this)]) hx hb dX6_word_26 hl (by decide) rfl (fun ls hl => ?_)
    have loop28 : ∀ (n9 : Nat) (v : Int64) (k : Int32) (H : Heap) (locs : List Loc) (sg : Gh) (ls : Array Slot), TS κ gH σ0 sg s H locs → (zI sg this 14 = v5) → ((ss : Int) ≤ k.toInt) → (k.toInt ≤ (uscn uisLe tc Ln ss : Nat)) → (uscn uisLe tc Ln ss - ss ≤ 7 → v.toInt = uenc (fun k => tc (ss + k) - 96) (ix k - ss)) → (7 < uscn uisLe tc Ln ss - ss → v.toInt = 0) → lv_has ls 5 [(1, .long v), (4, .int k), (3, .int v5), (0, .ref this)] → (703 - k.toInt) < n9 → tW p l e 2 46 κ s m #[.ref this] below meth c H locs Q9 (F0 m 28 ls []) := by
      intro n9
      induction n9 with
      | zero =>
        intro v k H locs sg ls hT kthis_14 q1 q2 q3 q4 hl hm9
        exfalso
        omega
      | succ n9 ih9 =>
        have ih28 := ih9
        clear ih9
        intro v k H locs s18 ls hT kthis_14 q1 q2 q3 q4 hl hm9
        have i_k : (ix k : Int) = k.toInt := by unfold ix; omega
        refine lv_iload hx hb dX6_word_28 (lv_at hl 1 rfl) ?_
        refine lv_iload_n hx hb dX6_word_30 rfl (lv_at hl 2 rfl) ?_
        refine lv_icmp_ge (tgt := 74) hx hb dX6_word_31 (by decide) (fun c9 => ?_) (fun c9 => ?_)
        · have c7 := gi_le c9
          refine lv_lload_n hx hb dX6_word_74 rfl (lv_at hl 0 rfl) ?_
          subst hQ9
          exact t_l hx hb hr hlocks hT ⟨by rw [(show zI s18 this 14 = v5 from kthis_14), hss]; omega, by rw [hss]; exact uwv_e q3 q4 (by omega) (by omega)⟩ dX6_word_75
        · have c8 := gi_nle c9
          refine lv_iload_n hx hb dX6_word_34 rfl (lv_at hl 2 rfl) ?_
          refine lv_aload_n hx hb dX6_word_35 rfl (lv_at hl 3 rfl) ?_
          refine va_get (D := κ.1) (ci := 6) (v := .int (zI s18 this 14)) (C := RX6) (T := TX6) (N := 27) hx hb hg inX6 hown hK (hT.o20 (hT.k t_this (by decide))).one 0 rfl rfl 14 (by decide) (hg _ k1233) (fun _ h9 => h9) rfl dX6_word_36 ?_
          rw [kthis_14]
          refine lv_isub hx hb dX6_word_39 ?_
          first | refine g_sub (by omega) (by omega) (fun t19 ht19 => ?_) | refine lv_topi (fun t19 ht19 => ?_)
          refine lv_bipush (v := 7) hx hb dX6_word_40 (by decide) ?_
          refine lv_icmp_le (tgt := 49) hx hb dX6_word_42 (by decide) (fun c9 => ?_) (fun c9 => ?_)
          · have c9 := gi_le c9
            have yb := uenc_ub (f := (fun k => tc (ss + k) - 96)) (n := ix k - ss) (fun j hj => lets_b (L := Ln) j (by omega))
            have yn := (uenc_nn (f := (fun k => tc (ss + k) - 96)) (n := ix k - ss) (fun j hj => lets_b (L := Ln) j (by omega))).1
            have y6 := yb.2.2.2.2.2.2.1 (by omega)
            have yv := q3 (by omega)
            clear yb
            refine lv_ldc2 hx hb hown (hg _ k1355) dX6_word_49 ?_
            refine lv_lload_n hx hb dX6_word_52 rfl (lv_at hl 0 rfl) ?_
            refine lv_lmul hx hb dX6_word_53 ?_
            refine lv_topl (fun t20 ht20 => ?_)
            have y7 : t20.toInt = 27 * v.toInt := by rw [ht20]; exact mul27 (by omega) (by omega)
            refine lv_aload_n hx hb dX6_word_54 rfl (lv_at hl 3 rfl) ?_
            refine va_get (D := κ.1) (ci := 6) (v := .ref (kR κ this 12)) (C := RX6) (T := TX6) (N := 27) hx hb hg inX6 hown hK (hT.o20 (hT.k t_this (by decide))).one 0 rfl rfl 12 (by decide) (hg _ k1231) (fun _ h9 => h9) rfl dX6_word_55 ?_
            rw [erT]
            refine lv_iload hx hb dX6_word_58 (lv_at hl 1 rfl) ?_
            refine va_iald hx hb hK (hT.o23 (hT.k trT (by decide))).one 0 0 rfl rfl (g_in (by omega) (by omega)) dX6_word_60 ?_
            refine lv_topi (fun t21 ht21 => ?_)
            have it21 : (ix k : Int) = k.toInt := by unfold ix; omega
            have xt21 : tc (ix k) = t21.toInt := by rw [hpc, ht21, show (ix k) = ix k from by first | rfl | (unfold ix; omega)]; exact congrArg Int32.toInt (hT.eI trT (by decide) rfl rfl).symm
            have yl := uisLe_t.mp (uscn_in (p := uisLe) (c := tc) (L := Ln) (a := ss) (k := ix k) (by omega) (by omega))
            refine lv_i2l hx hb dX6_word_61 rfl ?_
            refine g_i2l (fun t22 ht22 => ?_)
            refine lv_ladd hx hb dX6_word_62 ?_
            refine g_addl (by omega) (by omega) (fun t23 ht23 => ?_)
            refine lv_ldc2 hx hb hown (hg _ k1356) dX6_word_63 ?_
            refine lv_lsub hx hb dX6_word_66 ?_
            refine g_subl (by omega) (by omega) (fun t24 ht24 => ?_)
            refine lv_lstore_n (lv' := [(1, .long t24), (4, .int k), (3, .int v5), (0, .ref this)]) hx hb dX6_word_67 rfl hl (by decide) rfl (fun ls hl => ?_)
            obtain ⟨t25, qt25⟩ : ∃ zz9 : Int32, k + Int32.ofInt 1 = zz9 := ⟨_, rfl⟩
            refine lv_iinc (v := t25) (lv' := [(4, .int t25), (1, .long t24), (3, .int v5), (0, .ref this)]) hx hb dX6_word_68 hl (k := 1) rfl qt25 (by decide) rfl (fun ls hl => ?_)
            have ht25 : t25.toInt = k.toInt + 1 := by rw [← qt25]; exact v_addi rfl (show (Int32.ofInt 1).toInt = 1 from by decide) (by omega) (by omega)
            refine lv_goto (tgt := 28) hx hb dX6_word_71 (by decide) ?_
            exact ih28 t24 t25 _ _ _ _ hT kthis_14 (by omega) (by omega) (fun q9 => by rw [show ix t25 - ss = (ix k - ss) + 1 from by unfold ix at *; omega]; show _ = 27 * uenc (fun k => tc (ss + k) - 96) (ix k - ss) + (tc (ss + (ix k - ss)) - 96); rw [show ss + (ix k - ss) = ix k from by omega, ← yv]; omega) (fun q9 => by exfalso; omega) (lv_sub hl [1, 0, 2, 3] rfl) (by omega)
          · have c10 := gi_nle c9
            refine lv_lconst (v := 0) hx hb dX6_word_45 (by decide) ?_
            refine lv_goto (tgt := 67) hx hb dX6_word_46 (by decide) ?_
            refine lv_lstore_n (lv' := [(1, .long 0), (4, .int k), (3, .int v5), (0, .ref this)]) hx hb dX6_word_67 rfl hl (by decide) rfl (fun ls hl => ?_)
            obtain ⟨t26, qt26⟩ : ∃ zz9 : Int32, k + Int32.ofInt 1 = zz9 := ⟨_, rfl⟩
            refine lv_iinc (v := t26) (lv' := [(4, .int t26), (1, .long 0), (3, .int v5), (0, .ref this)]) hx hb dX6_word_68 hl (k := 1) rfl qt26 (by decide) rfl (fun ls hl => ?_)
            have ht26 : t26.toInt = k.toInt + 1 := by rw [← qt26]; exact v_addi rfl (show (Int32.ofInt 1).toInt = 1 from by decide) (by omega) (by omega)
            refine lv_goto (tgt := 28) hx hb dX6_word_71 (by decide) ?_
            exact ih28 0 t26 _ _ _ _ hT kthis_14 (by omega) (by omega) (fun q9 => by exfalso; omega) (fun _ => j0) (lv_sub hl [1, 0, 2, 3] rfl) (by omega)
    exact loop28 ((703 - v5.toInt).toNat + 1) 0 v5 _ _ _ _ hT ev5 (by omega) (by omega) (fun _ => by rw [show ix v5 - ss = 0 from by unfold ix; omega]; exact j0) (fun _ => j0) (lv_sub hl [2, 0, 1, 3] rfl) (by omega)
set_option maxHeartbeats 4000000 in
set_option maxRecDepth 100000 in
theorem X6s_isWord (l : Launch) (κ : Kt) (σ0 : Gh) (this : Nat) (nm : Int64) {tc : Nat → Int} {Ln : Nat} {aa wi : Nat} (t_this : zk σ0 this 20) (h0 : TXm κ σ0 this tc Ln) (h1 : (zI σ0 this 17).toInt = 0 → (zI σ0 this 14).toInt = (aa : Nat) ∧ aa ≤ Ln) (h2 : encP nm wi) : TC l yX6_isWord cX6_isWord 3 (some .boolean) 3 70 [.ref this, .long nm] κ σ0 (tqi κ gH σ0 (fun (r : Int32) (τ : Gh) => ((zI σ0 this 17).toInt = 1 → r.toInt = 0 ∧ zI τ this 14 = zI σ0 this 14) ∧ ((zI σ0 this 17).toInt = 0 → (zI τ this 14).toInt = ((uscn uisBl tc Ln aa) : Nat) ∧ ((r.toInt = 1 ∧ uIsW tc Ln wi (uscn uisBl tc Ln aa)) ∨ (r.toInt = 0 ∧ ¬ uIsW tc Ln wi (uscn uisBl tc Ln aa)))) ∧ (isB r))) := by
  refine TC.of gH (by decide +kernel) (Nat.le_of_ble_eq_true rfl) ?_
  intro p e s m below meth c ls hcs hK hX hT hl
  obtain ⟨hx, hb, hr, hml, hown, hg, hlocks, hin⟩ := hcs
  have hown : s.vm.findClass RX6 = some m.cls := hown
  have hl : lv_has ls 3 [(0, .ref this), (1, .long nm)] := hl
  have hT0 := hT
  have n0 : (0 : Int32).toInt = 0 := by decide
  have n1 : (1 : Int32).toInt = 1 := by decide
  generalize hQ9 : tQ _ _ _ _ _ _ = Q9
  have hTX := h0
  obtain ⟨rT, erT⟩ : ∃ z, kR κ this 12 = z := ⟨_, rfl⟩
  have trT : zk σ0 rT 23 := by rw [← erT]; exact hT0.ref t_this (by decide) (by decide) (by decide)
  have hpc : ∀ j, tc j = (zI σ0 rT j).toInt := by rw [← erT]; exact hTX.1
  have hLn : (zI σ0 this 13).toInt = Ln := hTX.2.1
  have hL7 : Ln ≤ 700 := hTX.2.2.1
  have hnn := hTX.2.2.2
  obtain ⟨v1, ev1⟩ : ∃ zz9 : Int32, zI σ0 this 17 = zz9 := ⟨_, rfl⟩
  have qv1 : v1.toInt = (zI σ0 this 17).toInt := by rw [ev1]
  have b2 : isB v1 := by have q9 : isB (zI σ0 this 17) := hT.P (hT.k t_this (by decide)) (by decide); rw [(hT.eI t_this (by decide) rfl ev1)] at q9; exact q9
  have b2t := isB_t b2
  obtain ⟨v3, ev3⟩ : ∃ zz9 : Int32, zI σ0 this 14 = zz9 := ⟨_, rfl⟩
  have qv3 : v3.toInt = (zI σ0 this 14).toInt := by rw [ev3]
  have z14 : zI σ0 this 14 = v3 := ev3
  refine lv_aload_n hx hb dX6_isWord_0 rfl (lv_at hl 0 rfl) ?_
  refine va_get (D := κ.1) (ci := 6) (v := .int (zI σ0 this 17)) (C := RX6) (T := TX6) (N := 27) hx hb hg inX6 hown hK (hT.o20 (hT.k t_this (by decide))).one 0 rfl rfl 17 (by decide) (hg _ k1236) (fun _ h9 => h9) rfl dX6_isWord_1 ?_
  rw [(hT.eI t_this (by decide) rfl ev1)]
  refine lv_if_ne (tgt := 20) hx hb dX6_isWord_4 (by decide) (fun c9 => ?_) (fun c9 => ?_)
  · have c1 := gi_ne c9
    refine lv_iconst (v := 0) hx hb dX6_isWord_20 (by decide) ?_
    subst hQ9
    exact t_z hx hb hr isB0 hlocks hT ⟨fun _ => ⟨n0, (show zI σ0 this 14 = v3 from ev3).trans z14.symm⟩, fun q9 => absurd q9 (by omega), isB0⟩ dX6_isWord_21
  · have c2 := gi_eq c9
    obtain ⟨ha9, hb9⟩ := h1 (by omega)
    refine lv_aload_n hx hb dX6_isWord_7 rfl (lv_at hl 0 rfl) ?_
    have hTo := hT
    refine tVl (n := 0) (As := []) (rest := []) hx hb hml hown hg hT hK hX (X6s_word l κ σ0 this  (hT.k t_this (by decide)) hTX (show (zI σ0 this 14).toInt = (aa : Nat) from by rw [(show zI σ0 this 14 = v3 from ev3)]; omega) hb9) (fun _ _ h => h) (mwV k1341 k1343 k41 k92 k1344) ⟨rfl, by decide, by decide, by decide +kernel⟩ ⟨(Nat.le_of_ble_eq_true rfl), (Nat.le_of_ble_eq_true rfl)⟩ (hT.o20 (hT.k t_this (by decide))) rfl rfl hl.1 rfl (Nat.le_of_ble_eq_true rfl) dX6_isWord_8 zroom.rf (fun x4 s5 H locs hφ hEs5 hT => ?_)
    obtain ⟨f6, f7⟩ := hφ
    refine lv_lload_n hx hb dX6_isWord_11 rfl (lv_at hl 1 rfl) ?_
    refine W.lcmp hx hb dX6_isWord_12 ?_
    refine lv_if_ne (tgt := 20) hx hb dX6_isWord_13 (by decide) (fun c9 => ?_) (fun c9 => ?_)
    · have c3 := gl_ne c9
      refine lv_iconst (v := 0) hx hb dX6_isWord_20 (by decide) ?_
      subst hQ9
      exact t_z hx hb hr isB0 hlocks hT ⟨fun q9 => absurd q9 (by omega), fun _ => ⟨f6, Or.inr ⟨n0, fun q9 => by have z9 := (uwv_W h2).mpr q9; omega⟩⟩, isB0⟩ dX6_isWord_21
    · have c4 := gl_eq c9
      refine lv_iconst (v := 1) hx hb dX6_isWord_16 (by decide) ?_
      refine lv_goto (tgt := 21) hx hb dX6_isWord_17 (by decide) ?_
      subst hQ9
      exact t_z hx hb hr isB1 hlocks hT ⟨fun q9 => absurd q9 (by omega), fun _ => ⟨f6, Or.inl ⟨n1, (uwv_W h2).mp (by omega)⟩⟩, isB1⟩ dX6_isWord_21
set_option maxHeartbeats 4000000 in
set_option maxRecDepth 100000 in
theorem X6s_takes (l : Launch) (κ : Kt) (σ0 : Gh) (this : Nat) (nm : Int64) {tc : Nat → Int} {Ln : Nat} {aa wi : Nat} (t_this : zk σ0 this 20) (h0 : TXm κ σ0 this tc Ln) (h1 : (zI σ0 this 17).toInt = 0) (h2 : (zI σ0 this 14).toInt = (aa : Nat)) (h3 : aa ≤ Ln) (h4 : encP nm wi) : TC l yX6_takes cX6_takes 4 (some .boolean) 4 92 [.ref this, .long nm] κ σ0 (tqi κ gH σ0 (fun (r : Int32) (τ : Gh) => ((r.toInt = 1 ∧ uIsW tc Ln wi (uscn uisBl tc Ln aa) ∧ (zI τ this 14).toInt = (uscn uisLe tc Ln (uscn uisBl tc Ln aa) : Nat)) ∨ (r.toInt = 0 ∧ ¬ uIsW tc Ln wi (uscn uisBl tc Ln aa) ∧ (zI τ this 14).toInt = ((uscn uisBl tc Ln aa) : Nat))) ∧ (isB r))) := by
  refine TC.of gH (by decide +kernel) (Nat.le_of_ble_eq_true rfl) ?_
  intro p e s m below meth c ls hcs hK hX hT hl
  obtain ⟨hx, hb, hr, hml, hown, hg, hlocks, hin⟩ := hcs
  have hown : s.vm.findClass RX6 = some m.cls := hown
  have hl : lv_has ls 4 [(0, .ref this), (1, .long nm)] := hl
  have hT0 := hT
  have n0 : (0 : Int32).toInt = 0 := by decide
  generalize hQ9 : tQ _ _ _ _ _ _ = Q9
  have hTX := h0
  obtain ⟨rT, erT⟩ : ∃ z, kR κ this 12 = z := ⟨_, rfl⟩
  have trT : zk σ0 rT 23 := by rw [← erT]; exact hT0.ref t_this (by decide) (by decide) (by decide)
  have hpc : ∀ j, tc j = (zI σ0 rT j).toInt := by rw [← erT]; exact hTX.1
  have hLn : (zI σ0 this 13).toInt = Ln := hTX.2.1
  have hL7 : Ln ≤ 700 := hTX.2.2.1
  have hnn := hTX.2.2.2
  obtain ⟨v1, ev1⟩ : ∃ zz9 : Int32, zI σ0 this 17 = zz9 := ⟨_, rfl⟩
  have qv1 : v1.toInt = (zI σ0 this 17).toInt := by rw [ev1]
  have b2 : isB v1 := by have q9 : isB (zI σ0 this 17) := hT.P (hT.k t_this (by decide)) (by decide); rw [(hT.eI t_this (by decide) rfl ev1)] at q9; exact q9
  have b2t := isB_t b2
  obtain ⟨v3, ev3⟩ : ∃ zz9 : Int32, zI σ0 this 14 = zz9 := ⟨_, rfl⟩
  have qv3 : v3.toInt = (zI σ0 this 14).toInt := by rw [ev3]
  obtain ⟨ss, hss⟩ : ∃ z, (uscn uisBl tc Ln aa) = z := ⟨_, rfl⟩
  have hsL : aa ≤ Ln → ss ≤ Ln := fun q9 => by rw [← hss]; exact uscn_le q9
  have hs2 : uscn uisBl tc Ln ss = ss := by rw [← hss]; exact uscn_id
  have hsl9 := hsL h3
  refine lv_aload_n hx hb dX6_takes_0 rfl (lv_at hl 0 rfl) ?_
  refine lv_lload_n hx hb dX6_takes_1 rfl (lv_at hl 1 rfl) ?_
  have hTo := hT
  refine tVi (n := 1) (As := [.long nm]) (rest := []) hx hb hml hown hg hT hK hX (X6s_isWord l κ σ0 this nm  (hT.k t_this (by decide)) hTX (show (zI σ0 this 17).toInt = 0 → (zI σ0 this 14).toInt = ((aa : Nat) : Int) ∧ aa ≤ Ln from fun q9 => ⟨by rw [(show zI σ0 this 14 = v3 from ev3)]; omega, by omega⟩) h4) (fun _ _ h => h) (mwV k1337 k1339 k40 k92 k1340) ⟨rfl, by decide, by decide, by decide +kernel⟩ ⟨(Nat.le_of_ble_eq_true rfl), (Nat.le_of_ble_eq_true rfl)⟩ (hT.o20 (hT.k t_this (by decide))) rfl rfl hl.1 rfl (Nat.le_of_ble_eq_true rfl) dX6_takes_2 zroom.rf (fun x4 s5 H locs hφ hEs5 hT => ?_)
  obtain ⟨f6, f7, f8⟩ := hφ
  obtain ⟨a9, w9⟩ := f7 h1
  rw [hss] at a9 w9
  obtain ⟨v9, ev9⟩ : ∃ zz9 : Int32, zI s5 this 14 = zz9 := ⟨_, rfl⟩
  have qv9 : v9.toInt = (zI s5 this 14).toInt := by rw [ev9]
  rw [(show zI s5 this 14 = v9 from ev9)] at a9
  rcases w9 with ⟨w1, w2⟩ | ⟨w1, w2⟩
  · skip
    refine lv_istore_n (lv' := [(3, .int x4), (0, .ref this), (1, .long nm)]) hx hb dX6_takes_5 rfl hl (by decide) rfl (fun ls hl => ?_)
    refine lv_aload_n hx hb dX6_takes_6 rfl (lv_at hl 1 rfl) ?_
    refine lv_iload_n hx hb dX6_takes_7 rfl (lv_at hl 0 rfl) ?_
    refine lv_if_eq (tgt := 18) hx hb dX6_takes_8 (by decide) (fun c9 => absurd (gi_eq c9) (by omega)) (fun _ => ?_)
    refine lv_aload_n hx hb dX6_takes_11 rfl (lv_at hl 1 rfl) ?_
    have hTo := hT
    refine tVi (n := 0) (As := []) (rest := [.ref this]) hx hb hml hown hg hT hK hX (X6s_wordEnd l κ s5 this  (hT.k t_this (by decide)) (hTX.tr (funext fun k => by rw [erT]; exact hT.eI trT (by decide) rfl rfl) (hT.eI t_this (by decide) rfl rfl)) (show (zI s5 this 14).toInt = ((ss : Nat) : Int) from by rw [(show zI s5 this 14 = v9 from ev9)]; omega) hsl9) sub_fE_gH (mwV k1349 k1351 k43 k92 k1352) ⟨rfl, by decide, by decide, by decide +kernel⟩ ⟨(Nat.le_of_ble_eq_true rfl), (Nat.le_of_ble_eq_true rfl)⟩ (hT.o20 (hT.k t_this (by decide))) rfl rfl hl.1 rfl (Nat.le_of_ble_eq_true rfl) dX6_takes_12 zroom.rf (fun x10 s11 H locs hφ hEs11 hT => ?_)
    have ev9 : zI s11 this 14 = v9 := ((hTo.k t_this (by decide)).eI hEs11 (by decide) rfl).trans ev9
    have f12 := hφ
    refine lv_goto (tgt := 22) hx hb dX6_takes_15 (by decide) ?_
    have hTo := hT
    refine pf20_14 hx hb hg hown hK hT (hT.k t_this (by decide)) rfl (hg _ k1233) dX6_takes_22 (fun H locs s13 hus13 hT => ?_)
    have e14 : zI s13 this 14 = x10 := zput_at hus13
    refine lv_iload_n hx hb dX6_takes_25 rfl (lv_at hl 0 rfl) ?_
    subst hQ9
    exact t_z hx hb hr f8 hlocks hT ⟨Or.inl ⟨w1, by rw [hss]; exact w2, by rw [(show zI s13 this 14 = x10 from e14), hss]; omega⟩, f8⟩ dX6_takes_26
  · skip
    refine lv_istore_n (lv' := [(3, .int x4), (0, .ref this), (1, .long nm)]) hx hb dX6_takes_5 rfl hl (by decide) rfl (fun ls hl => ?_)
    refine lv_aload_n hx hb dX6_takes_6 rfl (lv_at hl 1 rfl) ?_
    refine lv_iload_n hx hb dX6_takes_7 rfl (lv_at hl 0 rfl) ?_
    refine lv_if_eq (tgt := 18) hx hb dX6_takes_8 (by decide) (fun _ => ?_) (fun c9 => absurd (gi_ne c9) (by omega))
    refine lv_aload_n hx hb dX6_takes_18 rfl (lv_at hl 1 rfl) ?_
    refine va_get (D := κ.1) (ci := 6) (v := .int (zI s5 this 14)) (C := RX6) (T := TX6) (N := 27) hx hb hg inX6 hown hK (hT.o20 (hT.k t_this (by decide))).one 0 rfl rfl 14 (by decide) (hg _ k1233) (fun _ h9 => h9) rfl dX6_takes_19 ?_
    rw [ev9]
    have hTo := hT
    refine pf20_14 hx hb hg hown hK hT (hT.k t_this (by decide)) rfl (hg _ k1233) dX6_takes_22 (fun H locs s15 hus15 hT => ?_)
    have e16 : zI s15 this 14 = v9 := zput_at hus15
    refine lv_iload_n hx hb dX6_takes_25 rfl (lv_at hl 0 rfl) ?_
    subst hQ9
    exact t_z hx hb hr f8 hlocks hT ⟨Or.inr ⟨w1, by rw [hss]; exact w2, by rw [(show zI s15 this 14 = v9 from e16), hss]; omega⟩, f8⟩ dX6_takes_26
set_option maxHeartbeats 8000000 in
set_option maxRecDepth 100000 in
theorem X6s_number (l : Launch) (κ : Kt) (σ0 : Gh) (this : Nat) (lo : Int32) (hi : Int32) {tc : Nat → Int} {Ln : Nat} {aa : Nat} (t_this : zk σ0 this 20) (h0 : TXm κ σ0 this tc Ln) (h1 : (zI σ0 this 17).toInt = 0 → (zI σ0 this 14).toInt = (aa : Nat) ∧ aa ≤ Ln) : TC l yX6_number cX6_number 5 none 1 25 [.ref this, .int lo, .int hi] κ σ0 (tqv κ gN σ0 (fun (τ : Gh) => (((zI σ0 this 17).toInt = 1 → (zI τ this 17).toInt = 1 ∧ zI τ this 15 = zI σ0 this 15 ∧ zI τ this 16 = zI σ0 this 16)) ∧ ((zI σ0 this 17).toInt = 0 → (utkK tc Ln (uscn uisBl tc Ln aa) = 2 ∧ (zI τ this 14).toInt = (utkE tc Ln (uscn uisBl tc Ln aa) : Nat) ∧ (zI τ this 24).toInt = uvl tc Ln (uscn uisBl tc Ln aa) ∧ lo.toInt ≤ uvl tc Ln (uscn uisBl tc Ln aa) ∧ uvl tc Ln (uscn uisBl tc Ln aa) ≤ hi.toInt ∧ (zI τ this 17).toInt = 0 ∧ zI τ this 15 = zI σ0 this 15 ∧ zI τ this 16 = zI σ0 this 16) ∨ (∃ co : Int, ((utkK tc Ln (uscn uisBl tc Ln aa) ≠ 2 ∧ co = 1) ∨ (utkK tc Ln (uscn uisBl tc Ln aa) = 2 ∧ (uvl tc Ln (uscn uisBl tc Ln aa) < lo.toInt ∨ hi.toInt < uvl tc Ln (uscn uisBl tc Ln aa)) ∧ co = 2)) ∧ (zI τ this 17).toInt = 1 ∧ (zI τ this 15).toInt = co ∧ (zI τ this 16).toInt = (uscn uisBl tc Ln aa))))) := by
  refine TC.of gN (by decide +kernel) (Nat.le_of_ble_eq_true rfl) ?_
  intro p e s m below meth c ls hcs hK hX hT hl
  obtain ⟨hx, hb, hr, hml, hown, hg, hlocks, hin⟩ := hcs
  have hown : s.vm.findClass RX6 = some m.cls := hown
  have hl : lv_has ls 5 [(0, .ref this), (1, .int lo), (2, .int hi)] := hl
  have hT0 := hT
  have n0 : (0 : Int32).toInt = 0 := by decide
  have n1 : (1 : Int32).toInt = 1 := by decide
  have n2 : (2 : Int32).toInt = 2 := by decide
  have n4 : (4 : Int32).toInt = 4 := by decide
  have n10 : (10 : Int32).toInt = 10 := by decide
  have n48 : (48 : Int32).toInt = 48 := by decide
  have j48 : (48 : Int64).toInt = 48 := by decide
  have j57 : (57 : Int64).toInt = 57 := by decide
  have lo_lo := Int32.le_toInt lo
  have lo_hi := Int32.toInt_lt lo
  have hi_lo := Int32.le_toInt hi
  have hi_hi := Int32.toInt_lt hi
  generalize hQ9 : tQ _ _ _ _ _ _ = Q9
  have hTX := h0
  obtain ⟨rT, erT⟩ : ∃ z, kR κ this 12 = z := ⟨_, rfl⟩
  have trT : zk σ0 rT 23 := by rw [← erT]; exact hT0.ref t_this (by decide) (by decide) (by decide)
  have hpc : ∀ j, tc j = (zI σ0 rT j).toInt := by rw [← erT]; exact hTX.1
  have hLn : (zI σ0 this 13).toInt = Ln := hTX.2.1
  have hL7 : Ln ≤ 700 := hTX.2.2.1
  have hnn := hTX.2.2.2
  obtain ⟨v1, ev1⟩ : ∃ zz9 : Int32, zI σ0 this 17 = zz9 := ⟨_, rfl⟩
  have qv1 : v1.toInt = (zI σ0 this 17).toInt := by rw [ev1]
  have b2 : isB v1 := by have q9 : isB (zI σ0 this 17) := hT.P (hT.k t_this (by decide)) (by decide); rw [ev1] at q9; exact q9
  have b2t := isB_t b2
  obtain ⟨v3, ev3⟩ : ∃ zz9 : Int32, zI σ0 this 14 = zz9 := ⟨_, rfl⟩
  have qv3 : v3.toInt = (zI σ0 this 14).toInt := by rw [ev3]
  obtain ⟨v4, ev4⟩ : ∃ zz9 : Int32, zI σ0 this 15 = zz9 := ⟨_, rfl⟩
  have qv4 : v4.toInt = (zI σ0 this 15).toInt := by rw [ev4]
  have zthis15 : zI σ0 this 15 = v4 := ev4
  obtain ⟨v5, ev5⟩ : ∃ zz9 : Int32, zI σ0 this 16 = zz9 := ⟨_, rfl⟩
  have qv5 : v5.toInt = (zI σ0 this 16).toInt := by rw [ev5]
  have zthis16 : zI σ0 this 16 = v5 := ev5
  refine lv_aload_n hx hb dX6_number_0 rfl (lv_at hl 0 rfl) ?_
  refine lv_iconst (v := 0) hx hb dX6_number_1 (by decide) ?_
  have hTo := hT
  refine pf20_24 hx hb hg hown hK hT (hT.k t_this (by decide)) rfl (hg _ k1243) dX6_number_2 (fun H locs s6 hus6 hT => ?_)
  have ev1 : zI s6 this 17 = v1 := (zput_o hus6 (Or.inr (by decide))).trans ev1
  have ev3 : zI s6 this 14 = v3 := (zput_o hus6 (Or.inr (by decide))).trans ev3
  have ev4 : zI s6 this 15 = v4 := (zput_o hus6 (Or.inr (by decide))).trans ev4
  have ev5 : zI s6 this 16 = v5 := (zput_o hus6 (Or.inr (by decide))).trans ev5
  have e7 : zI s6 this 24 = 0 := zput_at hus6
  refine lv_aload_n hx hb dX6_number_5 rfl (lv_at hl 0 rfl) ?_
  refine va_get (D := κ.1) (ci := 6) (v := .int (zI s6 this 17)) (C := RX6) (T := TX6) (N := 27) hx hb hg inX6 hown hK (hT.o20 (hT.k t_this (by decide))).one 0 rfl rfl 17 (by decide) (hg _ k1236) (fun _ h9 => h9) rfl dX6_number_6 ?_
  rw [ev1]
  refine lv_if_eq (tgt := 13) hx hb dX6_number_9 (by decide) (fun c9 => ?_) (fun c9 => ?_)
  · have c1 := gi_eq c9
    obtain ⟨ha9, hb9⟩ := h1 (by omega)
    refine lv_aload_n hx hb dX6_number_13 rfl (lv_at hl 0 rfl) ?_
    have hTo := hT
    refine tVi (n := 0) (As := []) (rest := []) hx hb hml hown hg hT hK hX (X6s_here l κ s6 this  (hT.k t_this (by decide)) (hTX.tr (funext fun k => by rw [erT]; exact hT.eI trT (by decide) rfl rfl) (hT.eI t_this (by decide) rfl rfl)) (show (zI s6 this 14).toInt = (aa : Nat) from by rw [(show zI s6 this 14 = v3 from ev3)]; omega) hb9) sub_gH_gN (mwV k1345 k1347 k42 k92 k1348) ⟨rfl, by decide, by decide, by decide +kernel⟩ ⟨(Nat.le_of_ble_eq_true rfl), (Nat.le_of_ble_eq_true rfl)⟩ (hT.o20 (hT.k t_this (by decide))) rfl rfl hl.1 rfl (Nat.le_of_ble_eq_true rfl) dX6_number_14 zroom.rf (fun x8 s9 H locs hφ hEs9 hT => ?_)
    have ev1 : zI s9 this 17 = v1 := ((hTo.k t_this (by decide)).eI hEs9 (by decide) rfl).trans ev1
    have ev4 : zI s9 this 15 = v4 := ((hTo.k t_this (by decide)).eI hEs9 (by decide) rfl).trans ev4
    have ev5 : zI s9 this 16 = v5 := ((hTo.k t_this (by decide)).eI hEs9 (by decide) rfl).trans ev5
    have e7 : zI s9 this 24 = 0 := ((hTo.k t_this (by decide)).eI hEs9 (by decide) rfl).trans e7
    obtain ⟨f10, f11⟩ := hφ
    obtain ⟨ss, hss⟩ : ∃ z, (uscn uisBl tc Ln aa) = z := ⟨_, rfl⟩
    have hsL : aa ≤ Ln → ss ≤ Ln := fun q9 => by rw [← hss]; exact uscn_le q9
    have hs2 : uscn uisBl tc Ln ss = ss := by rw [← hss]; exact uscn_id
    rw [hss] at f10 f11
    obtain ⟨v12, ev12⟩ : ∃ zz9 : Int32, zI s9 this 14 = zz9 := ⟨_, rfl⟩
    have qv12 : v12.toInt = (zI s9 this 14).toInt := by rw [ev12]
    rw [(show zI s9 this 14 = v12 from ev12)] at f10
    have hsl9 := hsL hb9
    refine lv_i2l hx hb dX6_number_17 rfl ?_
    refine g_i2l (fun t13 ht13 => ?_)
    refine lv_ldc2 hx hb hown (hg _ k1388) dX6_number_18 ?_
    refine lv_ldc2 hx hb hown (hg _ k1389) dX6_number_21 ?_
    have hTo := hT
    refine tSi (n := 3) (As := [.long t13, .long 48, .long 57]) (rest := []) hx hb hml hown hg hT hK hX (X6_in l κ s9 t13 48 57   ) sub_fE_gN (mwS k1317 k1318 k92 k1319) ⟨rfl, by decide, by decide, by decide +kernel⟩ ⟨(Nat.le_of_ble_eq_true rfl), (Nat.le_of_ble_eq_true rfl)⟩ rfl hl.1 rfl (Nat.le_of_ble_eq_true rfl) dX6_number_24 zroom.rf (fun x14 s15 H locs hφ hEs15 hT => ?_)
    have ev1 : zI s15 this 17 = v1 := ((hTo.k t_this (by decide)).eI hEs15 (by decide) rfl).trans ev1
    have ev4 : zI s15 this 15 = v4 := ((hTo.k t_this (by decide)).eI hEs15 (by decide) rfl).trans ev4
    have ev5 : zI s15 this 16 = v5 := ((hTo.k t_this (by decide)).eI hEs15 (by decide) rfl).trans ev5
    have e7 : zI s15 this 24 = 0 := ((hTo.k t_this (by decide)).eI hEs15 (by decide) rfl).trans e7
    have ev12 : zI s15 this 14 = v12 := ((hTo.k t_this (by decide)).eI hEs15 (by decide) rfl).trans ev12
    obtain ⟨f16, f17⟩ := hφ
    rcases f16 with ⟨e1, e2, e3⟩ | ⟨e1, e2⟩
    · skip
      have hd9 : ss < Ln ∧ 48 ≤ tc ss ∧ tc ss ≤ 57 := by omega
      refine lv_istore_n (lv' := [(3, .int x14), (0, .ref this), (1, .int lo), (2, .int hi)]) hx hb dX6_number_27 rfl hl (by decide) rfl (fun ls hl => ?_)
      refine lv_aload_n hx hb dX6_number_28 rfl (lv_at hl 1 rfl) ?_
      refine va_get (D := κ.1) (ci := 6) (v := .int (zI s15 this 14)) (C := RX6) (T := TX6) (N := 27) hx hb hg inX6 hown hK (hT.o20 (hT.k t_this (by decide))).one 0 rfl rfl 14 (by decide) (hg _ k1233) (fun _ h9 => h9) rfl dX6_number_29 ?_
      rw [ev12]
      refine lv_istore (lv' := [(4, .int v12), (3, .int x14), (0, .ref this), (1, .int lo), (2, .int hi)]) hx hb dX6_number_32 hl (by decide) rfl (fun ls hl => ?_)
      have loop34 : ∀ (n9 : Nat)  (u : Int32) (val : Int32) (H : Heap) (locs : List Loc) (sg : Gh) (ls : Array Slot), TS κ gN σ0 sg s H locs → (zI sg this 17 = v1) → (zI sg this 15 = v4) → (zI sg this 16 = v5) → (zI sg this 14 = u) → (zI sg this 24 = val) → ((ss : Int) ≤ u.toInt) → (u.toInt ≤ Ln) → (uscn uisDi tc Ln (ix u) = uscn uisDi tc Ln ss) → (ix u ≤ ss + 4 → val.toInt = unum tc ss (ix u - ss)) → lv_has ls 5 [(4, .int v12), (3, .int x14), (0, .ref this), (1, .int lo), (2, .int hi)] → (703 - u.toInt) < n9 → tW p l e 1 25 κ s m #[.ref this, .int lo, .int hi] below meth c H locs Q9 (F0 m 34 ls []) := by
        intro n9
        induction n9 with
        | zero =>
          intro u val H locs sg ls hT kthis_17 kthis_15 kthis_16 kthis_14 kthis_24 q1 q2 q3 q4 hl hm9
          exfalso
          omega
        | succ n9 ih9 =>
          have ih34 := ih9
          clear ih9
          intro u val H locs s18 ls hT kthis_17 kthis_15 kthis_16 kthis_14 kthis_24 q1 q2 q3 q4 hl hm9
          have i_u : (ix u : Int) = u.toInt := by unfold ix; omega
          refine lv_iload_n hx hb dX6_number_34 rfl (lv_at hl 1 rfl) ?_
          refine lv_if_eq (tgt := 126) hx hb dX6_number_35 (by decide) (fun c9 => absurd (gi_eq c9) (by omega)) (fun _ => ?_)
          refine lv_aload_n hx hb dX6_number_38 rfl (lv_at hl 2 rfl) ?_
          refine va_get (D := κ.1) (ci := 6) (v := .int (zI s18 this 14)) (C := RX6) (T := TX6) (N := 27) hx hb hg inX6 hown hK (hT.o20 (hT.k t_this (by decide))).one 0 rfl rfl 14 (by decide) (hg _ k1233) (fun _ h9 => h9) rfl dX6_number_39 ?_
          rw [kthis_14]
          refine lv_aload_n hx hb dX6_number_42 rfl (lv_at hl 2 rfl) ?_
          obtain ⟨v19, ev19⟩ : ∃ zz9 : Int32, zI σ0 this 13 = zz9 := ⟨_, rfl⟩
          have qv19 : v19.toInt = (zI σ0 this 13).toInt := by rw [ev19]
          refine va_get (D := κ.1) (ci := 6) (v := .int (zI s18 this 13)) (C := RX6) (T := TX6) (N := 27) hx hb hg inX6 hown hK (hT.o20 (hT.k t_this (by decide))).one 0 rfl rfl 13 (by decide) (hg _ k1232) (fun _ h9 => h9) rfl dX6_number_43 ?_
          rw [(hT.eI t_this (by decide) rfl ev19)]
          refine lv_icmp_ge (tgt := 126) hx hb dX6_number_46 (by decide) (fun c9 => ?_) (fun c9 => ?_)
          · have c2 := gi_le c9
            have hs9 : uscn uisDi tc Ln (ix u) = ix u := uscn_no (fun q9 => by have q8 := uisDi_t.mp q9.2; have q7 := q9.1; omega)
            have hE9 := (utk_dig (c := tc) (L := Ln) (s := ss) hd9.1 hd9.2.1 hd9.2.2).2
            refine lv_iload_n hx hb dX6_number_126 rfl (lv_at hl 1 rfl) ?_
            refine lv_if_eq (tgt := 141) hx hb dX6_number_127 (by decide) (fun c9 => absurd (gi_eq c9) (by omega)) (fun _ => ?_)
            refine lv_aload_n hx hb dX6_number_130 rfl (lv_at hl 2 rfl) ?_
            refine va_get (D := κ.1) (ci := 6) (v := .int (zI s18 this 14)) (C := RX6) (T := TX6) (N := 27) hx hb hg inX6 hown hK (hT.o20 (hT.k t_this (by decide))).one 0 rfl rfl 14 (by decide) (hg _ k1233) (fun _ h9 => h9) rfl dX6_number_131 ?_
            rw [kthis_14]
            refine lv_iload hx hb dX6_number_134 (lv_at hl 0 rfl) ?_
            refine lv_isub hx hb dX6_number_136 ?_
            first | refine g_sub (by omega) (by omega) (fun t20 ht20 => ?_) | refine lv_topi (fun t20 ht20 => ?_)
            refine lv_iconst (v := 4) hx hb dX6_number_137 (by decide) ?_
            refine lv_icmp_le (tgt := 151) hx hb dX6_number_138 (by decide) (fun c9 => ?_) (fun c9 => ?_)
            · have c3 := gi_le c9
              have hk9 : utkK tc Ln ss = 2 := tk2_iff.mpr ⟨hd9.1, hd9.2.1, hd9.2.2, by omega⟩
              have hv9 := q4 (by omega)
              have hV9 : uvl tc Ln ss = unum tc ss (ix u - ss) := by rw [uvl_of hk9, hE9, ← q3, hs9]
              refine lv_aload_n hx hb dX6_number_151 rfl (lv_at hl 2 rfl) ?_
              refine va_get (D := κ.1) (ci := 6) (v := .int (zI s18 this 24)) (C := RX6) (T := TX6) (N := 27) hx hb hg inX6 hown hK (hT.o20 (hT.k t_this (by decide))).one 0 rfl rfl 24 (by decide) (hg _ k1243) (fun _ h9 => h9) rfl dX6_number_152 ?_
              rw [kthis_24]
              refine lv_i2l hx hb dX6_number_155 rfl ?_
              refine g_i2l (fun t21 ht21 => ?_)
              refine lv_iload_n hx hb dX6_number_156 rfl (lv_at hl 3 rfl) ?_
              refine lv_i2l hx hb dX6_number_157 rfl ?_
              refine g_i2l (fun t22 ht22 => ?_)
              refine lv_iload_n hx hb dX6_number_158 rfl (lv_at hl 4 rfl) ?_
              refine lv_i2l hx hb dX6_number_159 rfl ?_
              refine g_i2l (fun t23 ht23 => ?_)
              have hTo := hT
              refine tSi (n := 3) (As := [.long t21, .long t22, .long t23]) (rest := []) hx hb hml hown hg hT hK hX (X6_in l κ s18 t21 t22 t23   ) sub_fE_gN (mwS k1317 k1318 k92 k1319) ⟨rfl, by decide, by decide, by decide +kernel⟩ ⟨(Nat.le_of_ble_eq_true rfl), (Nat.le_of_ble_eq_true rfl)⟩ rfl hl.1 rfl (Nat.le_of_ble_eq_true rfl) dX6_number_160 zroom.rf (fun x24 s25 H locs hφ hEs25 hT => ?_)
              have kthis_17 : zI s25 this 17 = v1 := ((hTo.k t_this (by decide)).eI hEs25 (by decide) rfl).trans kthis_17
              have kthis_15 : zI s25 this 15 = v4 := ((hTo.k t_this (by decide)).eI hEs25 (by decide) rfl).trans kthis_15
              have kthis_16 : zI s25 this 16 = v5 := ((hTo.k t_this (by decide)).eI hEs25 (by decide) rfl).trans kthis_16
              have kthis_14 : zI s25 this 14 = u := ((hTo.k t_this (by decide)).eI hEs25 (by decide) rfl).trans kthis_14
              have kthis_24 : zI s25 this 24 = val := ((hTo.k t_this (by decide)).eI hEs25 (by decide) rfl).trans kthis_24
              obtain ⟨f26, f27⟩ := hφ
              refine lv_if_ne (tgt := 173) hx hb dX6_number_163 (by decide) (fun c9 => ?_) (fun c9 => ?_)
              · have c4 := gi_ne c9
                subst hQ9
                exact t_v hx hb hr hlocks hT ⟨fun q9 => absurd q9 (by omega), fun _ => Or.inl ⟨by rw [hss]; exact hk9, by rw [(show zI s25 this 14 = u from kthis_14), hss]; omega, by rw [(show zI s25 this 24 = val from kthis_24), hss]; omega, by rw [hss]; omega, by rw [hss]; omega, by rw [(show zI s25 this 17 = v1 from kthis_17)]; omega, ((show zI s25 this 15 = v4 from kthis_15).trans zthis15.symm), ((show zI s25 this 16 = v5 from kthis_16).trans zthis16.symm)⟩⟩ dX6_number_173
              · have c5 := gi_eq c9
                refine lv_aload_n hx hb dX6_number_166 rfl (lv_at hl 2 rfl) ?_
                refine lv_iconst (v := 2) hx hb dX6_number_167 (by decide) ?_
                refine lv_iload hx hb dX6_number_168 (lv_at hl 0 rfl) ?_
                have cz28 : zI s25 this 17 = v1 := kthis_17
                have hTo := hT
                refine tVv (n := 2) (As := [.int 2, .int v12]) (rest := []) hx hb hml hown hg hT hK hX (X6s_wrong l κ s25 this 2 v12  (hT.k t_this (by decide)) ) sub_gB_gN (mwV k1361 k1363 k45 k92 k1364) ⟨rfl, by decide, by decide, by decide +kernel⟩ ⟨(Nat.le_of_ble_eq_true rfl), (Nat.le_of_ble_eq_true rfl)⟩ (hT.o20 (hT.k t_this (by decide))) rfl rfl hl.1 rfl (Nat.le_of_ble_eq_true rfl) dX6_number_170 zroom.rf (fun s30 H locs hφ hEs30 hT => ?_)
                have kthis_14 : zI s30 this 14 = u := ((hTo.k t_this (by decide)).eI hEs30 (by decide) rfl).trans kthis_14
                have kthis_24 : zI s30 this 24 = val := ((hTo.k t_this (by decide)).eI hEs30 (by decide) rfl).trans kthis_24
                have f31 := hφ
                have wb9 := (f31.resolve_left (fun q9 => by have z9 := q9.1; rw [cz28] at z9; omega)).2
                subst hQ9
                exact t_v hx hb hr hlocks hT ⟨fun q9 => absurd q9 (by omega), fun _ => Or.inr ⟨2, Or.inr ⟨by rw [hss]; exact hk9, by rw [hss]; omega, rfl⟩, wb9.1, by rw [wb9.2.1]; exact n2, by rw [wb9.2.2, hss]; omega⟩⟩ dX6_number_173
            · have c6 := gi_nle c9
              have hk9 : utkK tc Ln ss ≠ 2 := fun q9 => by have z9 := (tk2_iff.mp q9); omega
              refine lv_aload_n hx hb dX6_number_141 rfl (lv_at hl 2 rfl) ?_
              refine lv_iconst (v := 1) hx hb dX6_number_142 (by decide) ?_
              refine lv_iload hx hb dX6_number_143 (lv_at hl 0 rfl) ?_
              have cz32 : zI s18 this 17 = v1 := kthis_17
              have hTo := hT
              refine tVv (n := 2) (As := [.int 1, .int v12]) (rest := []) hx hb hml hown hg hT hK hX (X6s_wrong l κ s18 this 1 v12  (hT.k t_this (by decide)) ) sub_gB_gN (mwV k1361 k1363 k45 k92 k1364) ⟨rfl, by decide, by decide, by decide +kernel⟩ ⟨(Nat.le_of_ble_eq_true rfl), (Nat.le_of_ble_eq_true rfl)⟩ (hT.o20 (hT.k t_this (by decide))) rfl rfl hl.1 rfl (Nat.le_of_ble_eq_true rfl) dX6_number_145 zroom.rf (fun s34 H locs hφ hEs34 hT => ?_)
              have kthis_14 : zI s34 this 14 = u := ((hTo.k t_this (by decide)).eI hEs34 (by decide) rfl).trans kthis_14
              have kthis_24 : zI s34 this 24 = val := ((hTo.k t_this (by decide)).eI hEs34 (by decide) rfl).trans kthis_24
              have f35 := hφ
              have wb9 := (f35.resolve_left (fun q9 => by have z9 := q9.1; rw [cz32] at z9; omega)).2
              refine lv_goto (tgt := 173) hx hb dX6_number_148 (by decide) ?_
              subst hQ9
              exact t_v hx hb hr hlocks hT ⟨fun q9 => absurd q9 (by omega), fun _ => Or.inr ⟨1, Or.inl ⟨by rw [hss]; exact hk9, rfl⟩, wb9.1, by rw [wb9.2.1]; exact n1, by rw [wb9.2.2, hss]; omega⟩⟩ dX6_number_173
          · have c7 := gi_nle c9
            refine lv_aload_n hx hb dX6_number_49 rfl (lv_at hl 2 rfl) ?_
            refine va_get (D := κ.1) (ci := 6) (v := .ref (kR κ this 12)) (C := RX6) (T := TX6) (N := 27) hx hb hg inX6 hown hK (hT.o20 (hT.k t_this (by decide))).one 0 rfl rfl 12 (by decide) (hg _ k1231) (fun _ h9 => h9) rfl dX6_number_50 ?_
            rw [erT]
            refine lv_aload_n hx hb dX6_number_53 rfl (lv_at hl 2 rfl) ?_
            refine va_get (D := κ.1) (ci := 6) (v := .int (zI s18 this 14)) (C := RX6) (T := TX6) (N := 27) hx hb hg inX6 hown hK (hT.o20 (hT.k t_this (by decide))).one 0 rfl rfl 14 (by decide) (hg _ k1233) (fun _ h9 => h9) rfl dX6_number_54 ?_
            rw [kthis_14]
            refine va_iald hx hb hK (hT.o23 (hT.k trT (by decide))).one 0 0 rfl rfl (g_in (by omega) (by omega)) dX6_number_57 ?_
            refine lv_topi (fun t36 ht36 => ?_)
            have it36 : (ix u : Int) = u.toInt := by unfold ix; omega
            have xt36 : tc (ix u) = t36.toInt := by rw [hpc, ht36, show (ix u) = ix u from by first | rfl | (unfold ix; omega)]; exact congrArg Int32.toInt (hT.eI trT (by decide) rfl rfl).symm
            refine lv_i2l hx hb dX6_number_58 rfl ?_
            refine g_i2l (fun t37 ht37 => ?_)
            refine lv_ldc2 hx hb hown (hg _ k1388) dX6_number_59 ?_
            refine lv_ldc2 hx hb hown (hg _ k1389) dX6_number_62 ?_
            have hTo := hT
            refine tSi (n := 3) (As := [.long t37, .long 48, .long 57]) (rest := []) hx hb hml hown hg hT hK hX (X6_in l κ s18 t37 48 57   ) sub_fE_gN (mwS k1317 k1318 k92 k1319) ⟨rfl, by decide, by decide, by decide +kernel⟩ ⟨(Nat.le_of_ble_eq_true rfl), (Nat.le_of_ble_eq_true rfl)⟩ rfl hl.1 rfl (Nat.le_of_ble_eq_true rfl) dX6_number_65 zroom.rf (fun x38 s39 H locs hφ hEs39 hT => ?_)
            have kthis_17 : zI s39 this 17 = v1 := ((hTo.k t_this (by decide)).eI hEs39 (by decide) rfl).trans kthis_17
            have kthis_15 : zI s39 this 15 = v4 := ((hTo.k t_this (by decide)).eI hEs39 (by decide) rfl).trans kthis_15
            have kthis_16 : zI s39 this 16 = v5 := ((hTo.k t_this (by decide)).eI hEs39 (by decide) rfl).trans kthis_16
            have kthis_14 : zI s39 this 14 = u := ((hTo.k t_this (by decide)).eI hEs39 (by decide) rfl).trans kthis_14
            have kthis_24 : zI s39 this 24 = val := ((hTo.k t_this (by decide)).eI hEs39 (by decide) rfl).trans kthis_24
            obtain ⟨f40, f41⟩ := hφ
            refine lv_if_eq (tgt := 126) hx hb dX6_number_68 (by decide) (fun c9 => ?_) (fun c9 => ?_)
            · have c8 := gi_eq c9
              have hs9 : uscn uisDi tc Ln (ix u) = ix u := uscn_no (fun q9 => by have q8 := uisDi_t.mp q9.2; have q7 := q9.1; omega)
              have hE9 := (utk_dig (c := tc) (L := Ln) (s := ss) hd9.1 hd9.2.1 hd9.2.2).2
              refine lv_iload_n hx hb dX6_number_126 rfl (lv_at hl 1 rfl) ?_
              refine lv_if_eq (tgt := 141) hx hb dX6_number_127 (by decide) (fun c9 => absurd (gi_eq c9) (by omega)) (fun _ => ?_)
              refine lv_aload_n hx hb dX6_number_130 rfl (lv_at hl 2 rfl) ?_
              refine va_get (D := κ.1) (ci := 6) (v := .int (zI s39 this 14)) (C := RX6) (T := TX6) (N := 27) hx hb hg inX6 hown hK (hT.o20 (hT.k t_this (by decide))).one 0 rfl rfl 14 (by decide) (hg _ k1233) (fun _ h9 => h9) rfl dX6_number_131 ?_
              rw [kthis_14]
              refine lv_iload hx hb dX6_number_134 (lv_at hl 0 rfl) ?_
              refine lv_isub hx hb dX6_number_136 ?_
              first | refine g_sub (by omega) (by omega) (fun t42 ht42 => ?_) | refine lv_topi (fun t42 ht42 => ?_)
              refine lv_iconst (v := 4) hx hb dX6_number_137 (by decide) ?_
              refine lv_icmp_le (tgt := 151) hx hb dX6_number_138 (by decide) (fun c9 => ?_) (fun c9 => ?_)
              · have c9 := gi_le c9
                have hk9 : utkK tc Ln ss = 2 := tk2_iff.mpr ⟨hd9.1, hd9.2.1, hd9.2.2, by omega⟩
                have hv9 := q4 (by omega)
                have hV9 : uvl tc Ln ss = unum tc ss (ix u - ss) := by rw [uvl_of hk9, hE9, ← q3, hs9]
                refine lv_aload_n hx hb dX6_number_151 rfl (lv_at hl 2 rfl) ?_
                refine va_get (D := κ.1) (ci := 6) (v := .int (zI s39 this 24)) (C := RX6) (T := TX6) (N := 27) hx hb hg inX6 hown hK (hT.o20 (hT.k t_this (by decide))).one 0 rfl rfl 24 (by decide) (hg _ k1243) (fun _ h9 => h9) rfl dX6_number_152 ?_
                rw [kthis_24]
                refine lv_i2l hx hb dX6_number_155 rfl ?_
                refine g_i2l (fun t43 ht43 => ?_)
                refine lv_iload_n hx hb dX6_number_156 rfl (lv_at hl 3 rfl) ?_
                refine lv_i2l hx hb dX6_number_157 rfl ?_
                refine g_i2l (fun t44 ht44 => ?_)
                refine lv_iload_n hx hb dX6_number_158 rfl (lv_at hl 4 rfl) ?_
                refine lv_i2l hx hb dX6_number_159 rfl ?_
                refine g_i2l (fun t45 ht45 => ?_)
                have hTo := hT
                refine tSi (n := 3) (As := [.long t43, .long t44, .long t45]) (rest := []) hx hb hml hown hg hT hK hX (X6_in l κ s39 t43 t44 t45   ) sub_fE_gN (mwS k1317 k1318 k92 k1319) ⟨rfl, by decide, by decide, by decide +kernel⟩ ⟨(Nat.le_of_ble_eq_true rfl), (Nat.le_of_ble_eq_true rfl)⟩ rfl hl.1 rfl (Nat.le_of_ble_eq_true rfl) dX6_number_160 zroom.rf (fun x46 s47 H locs hφ hEs47 hT => ?_)
                have kthis_17 : zI s47 this 17 = v1 := ((hTo.k t_this (by decide)).eI hEs47 (by decide) rfl).trans kthis_17
                have kthis_15 : zI s47 this 15 = v4 := ((hTo.k t_this (by decide)).eI hEs47 (by decide) rfl).trans kthis_15
                have kthis_16 : zI s47 this 16 = v5 := ((hTo.k t_this (by decide)).eI hEs47 (by decide) rfl).trans kthis_16
                have kthis_14 : zI s47 this 14 = u := ((hTo.k t_this (by decide)).eI hEs47 (by decide) rfl).trans kthis_14
                have kthis_24 : zI s47 this 24 = val := ((hTo.k t_this (by decide)).eI hEs47 (by decide) rfl).trans kthis_24
                obtain ⟨f48, f49⟩ := hφ
                refine lv_if_ne (tgt := 173) hx hb dX6_number_163 (by decide) (fun c9 => ?_) (fun c9 => ?_)
                · have c10 := gi_ne c9
                  subst hQ9
                  exact t_v hx hb hr hlocks hT ⟨fun q9 => absurd q9 (by omega), fun _ => Or.inl ⟨by rw [hss]; exact hk9, by rw [(show zI s47 this 14 = u from kthis_14), hss]; omega, by rw [(show zI s47 this 24 = val from kthis_24), hss]; omega, by rw [hss]; omega, by rw [hss]; omega, by rw [(show zI s47 this 17 = v1 from kthis_17)]; omega, ((show zI s47 this 15 = v4 from kthis_15).trans zthis15.symm), ((show zI s47 this 16 = v5 from kthis_16).trans zthis16.symm)⟩⟩ dX6_number_173
                · have c11 := gi_eq c9
                  refine lv_aload_n hx hb dX6_number_166 rfl (lv_at hl 2 rfl) ?_
                  refine lv_iconst (v := 2) hx hb dX6_number_167 (by decide) ?_
                  refine lv_iload hx hb dX6_number_168 (lv_at hl 0 rfl) ?_
                  have cz50 : zI s47 this 17 = v1 := kthis_17
                  have hTo := hT
                  refine tVv (n := 2) (As := [.int 2, .int v12]) (rest := []) hx hb hml hown hg hT hK hX (X6s_wrong l κ s47 this 2 v12  (hT.k t_this (by decide)) ) sub_gB_gN (mwV k1361 k1363 k45 k92 k1364) ⟨rfl, by decide, by decide, by decide +kernel⟩ ⟨(Nat.le_of_ble_eq_true rfl), (Nat.le_of_ble_eq_true rfl)⟩ (hT.o20 (hT.k t_this (by decide))) rfl rfl hl.1 rfl (Nat.le_of_ble_eq_true rfl) dX6_number_170 zroom.rf (fun s52 H locs hφ hEs52 hT => ?_)
                  have kthis_14 : zI s52 this 14 = u := ((hTo.k t_this (by decide)).eI hEs52 (by decide) rfl).trans kthis_14
                  have kthis_24 : zI s52 this 24 = val := ((hTo.k t_this (by decide)).eI hEs52 (by decide) rfl).trans kthis_24
                  have f53 := hφ
                  have wb9 := (f53.resolve_left (fun q9 => by have z9 := q9.1; rw [cz50] at z9; omega)).2
                  subst hQ9
                  exact t_v hx hb hr hlocks hT ⟨fun q9 => absurd q9 (by omega), fun _ => Or.inr ⟨2, Or.inr ⟨by rw [hss]; exact hk9, by rw [hss]; omega, rfl⟩, wb9.1, by rw [wb9.2.1]; exact n2, by rw [wb9.2.2, hss]; omega⟩⟩ dX6_number_173
              · have c12 := gi_nle c9
                have hk9 : utkK tc Ln ss ≠ 2 := fun q9 => by have z9 := (tk2_iff.mp q9); omega
                refine lv_aload_n hx hb dX6_number_141 rfl (lv_at hl 2 rfl) ?_
                refine lv_iconst (v := 1) hx hb dX6_number_142 (by decide) ?_
                refine lv_iload hx hb dX6_number_143 (lv_at hl 0 rfl) ?_
                have cz54 : zI s39 this 17 = v1 := kthis_17
                have hTo := hT
                refine tVv (n := 2) (As := [.int 1, .int v12]) (rest := []) hx hb hml hown hg hT hK hX (X6s_wrong l κ s39 this 1 v12  (hT.k t_this (by decide)) ) sub_gB_gN (mwV k1361 k1363 k45 k92 k1364) ⟨rfl, by decide, by decide, by decide +kernel⟩ ⟨(Nat.le_of_ble_eq_true rfl), (Nat.le_of_ble_eq_true rfl)⟩ (hT.o20 (hT.k t_this (by decide))) rfl rfl hl.1 rfl (Nat.le_of_ble_eq_true rfl) dX6_number_145 zroom.rf (fun s56 H locs hφ hEs56 hT => ?_)
                have kthis_14 : zI s56 this 14 = u := ((hTo.k t_this (by decide)).eI hEs56 (by decide) rfl).trans kthis_14
                have kthis_24 : zI s56 this 24 = val := ((hTo.k t_this (by decide)).eI hEs56 (by decide) rfl).trans kthis_24
                have f57 := hφ
                have wb9 := (f57.resolve_left (fun q9 => by have z9 := q9.1; rw [cz54] at z9; omega)).2
                refine lv_goto (tgt := 173) hx hb dX6_number_148 (by decide) ?_
                subst hQ9
                exact t_v hx hb hr hlocks hT ⟨fun q9 => absurd q9 (by omega), fun _ => Or.inr ⟨1, Or.inl ⟨by rw [hss]; exact hk9, rfl⟩, wb9.1, by rw [wb9.2.1]; exact n1, by rw [wb9.2.2, hss]; omega⟩⟩ dX6_number_173
            · have c13 := gi_ne c9
              have yg := uscn_ge (p := uisDi) (c := tc) (L := Ln) (a := ix u)
              refine lv_aload_n hx hb dX6_number_71 rfl (lv_at hl 2 rfl) ?_
              refine lv_aload_n hx hb dX6_number_72 rfl (lv_at hl 2 rfl) ?_
              refine va_get (D := κ.1) (ci := 6) (v := .int (zI s39 this 14)) (C := RX6) (T := TX6) (N := 27) hx hb hg inX6 hown hK (hT.o20 (hT.k t_this (by decide))).one 0 rfl rfl 14 (by decide) (hg _ k1233) (fun _ h9 => h9) rfl dX6_number_73 ?_
              rw [kthis_14]
              refine lv_iload hx hb dX6_number_76 (lv_at hl 0 rfl) ?_
              refine lv_isub hx hb dX6_number_78 ?_
              first | refine g_sub (by omega) (by omega) (fun t58 ht58 => ?_) | refine lv_topi (fun t58 ht58 => ?_)
              refine lv_iconst (v := 4) hx hb dX6_number_79 (by decide) ?_
              refine lv_icmp_ge (tgt := 106) hx hb dX6_number_80 (by decide) (fun c9 => ?_) (fun c9 => ?_)
              · have c14 := gi_le c9
                refine lv_aload_n hx hb dX6_number_106 rfl (lv_at hl 2 rfl) ?_
                refine va_get (D := κ.1) (ci := 6) (v := .int (zI s39 this 24)) (C := RX6) (T := TX6) (N := 27) hx hb hg inX6 hown hK (hT.o20 (hT.k t_this (by decide))).one 0 rfl rfl 24 (by decide) (hg _ k1243) (fun _ h9 => h9) rfl dX6_number_107 ?_
                rw [kthis_24]
                have hTo := hT
                refine pf20_24 hx hb hg hown hK hT (hT.k t_this (by decide)) rfl (hg _ k1243) dX6_number_110 (fun H locs s59 hus59 hT => ?_)
                have kthis_17 : zI s59 this 17 = v1 := (zput_o hus59 (Or.inr (by decide))).trans kthis_17
                have kthis_15 : zI s59 this 15 = v4 := (zput_o hus59 (Or.inr (by decide))).trans kthis_15
                have kthis_16 : zI s59 this 16 = v5 := (zput_o hus59 (Or.inr (by decide))).trans kthis_16
                have kthis_14 : zI s59 this 14 = u := (zput_o hus59 (Or.inr (by decide))).trans kthis_14
                have e60 : zI s59 this 24 = val := zput_at hus59
                refine lv_aload_n hx hb dX6_number_113 rfl (lv_at hl 2 rfl) ?_
                refine lv_dup hx hb dX6_number_114 rfl ?_
                refine va_get (D := κ.1) (ci := 6) (v := .int (zI s59 this 14)) (C := RX6) (T := TX6) (N := 27) hx hb hg inX6 hown hK (hT.o20 (hT.k t_this (by decide))).one 0 rfl rfl 14 (by decide) (hg _ k1233) (fun _ h9 => h9) rfl dX6_number_115 ?_
                rw [kthis_14]
                refine lv_iconst (v := 1) hx hb dX6_number_118 (by decide) ?_
                refine lv_iadd hx hb dX6_number_119 ?_
                first | refine g_add (by omega) (by omega) (fun t61 ht61 => ?_) | refine lv_topi (fun t61 ht61 => ?_)
                have hTo := hT
                refine pf20_14 hx hb hg hown hK hT (hT.k t_this (by decide)) rfl (hg _ k1233) dX6_number_120 (fun H locs s62 hus62 hT => ?_)
                have kthis_17 : zI s62 this 17 = v1 := (zput_o hus62 (Or.inr (by decide))).trans kthis_17
                have kthis_15 : zI s62 this 15 = v4 := (zput_o hus62 (Or.inr (by decide))).trans kthis_15
                have kthis_16 : zI s62 this 16 = v5 := (zput_o hus62 (Or.inr (by decide))).trans kthis_16
                have e60 : zI s62 this 24 = val := (zput_o hus62 (Or.inr (by decide))).trans e60
                have e63 : zI s62 this 14 = t61 := zput_at hus62
                refine lv_goto (tgt := 34) hx hb dX6_number_123 (by decide) ?_
                exact ih34 t61 val _ _ _ _ hT kthis_17 kthis_15 kthis_16 e63 e60 (by omega) (by omega) (by rw [show ix t61 = ix u + 1 from by unfold ix; omega, ← uscn_go (p := uisDi) (c := tc) (L := Ln) (a := ix u) (by omega) (uisDi_t.mpr (by omega))]; exact q3) (fun q9 => by exfalso; have w9 : ix t61 = ix u + 1 := (by unfold ix; omega); omega) hl (by omega)
              · have c15 := gi_nle c9
                have y8 := q4 (by omega)
                have y7 := unum_b (c := tc) (a := ss) (k := ix u - ss) (fun j hj => uisDi_t.mp (uscn_in (p := uisDi) (c := tc) (L := Ln) (a := ss) (k := ss + j) (by omega) (by rw [← q3]; omega)))
                have y6 := y7.1
                have y5 := y7.2.2.2.1 (by omega)
                clear y7
                refine lv_bipush (v := 10) hx hb dX6_number_83 (by decide) ?_
                refine lv_aload_n hx hb dX6_number_85 rfl (lv_at hl 2 rfl) ?_
                refine va_get (D := κ.1) (ci := 6) (v := .int (zI s39 this 24)) (C := RX6) (T := TX6) (N := 27) hx hb hg inX6 hown hK (hT.o20 (hT.k t_this (by decide))).one 0 rfl rfl 24 (by decide) (hg _ k1243) (fun _ h9 => h9) rfl dX6_number_86 ?_
                rw [kthis_24]
                refine lv_imul hx hb dX6_number_89 ?_
                first | (refine g_mul (by rw [n10]; omega) (by rw [n10]; omega) (fun t64 ht64 => ?_); rw [n10] at ht64) | refine lv_topi (fun t64 ht64 => ?_)
                refine lv_aload_n hx hb dX6_number_90 rfl (lv_at hl 2 rfl) ?_
                refine va_get (D := κ.1) (ci := 6) (v := .ref (kR κ this 12)) (C := RX6) (T := TX6) (N := 27) hx hb hg inX6 hown hK (hT.o20 (hT.k t_this (by decide))).one 0 rfl rfl 12 (by decide) (hg _ k1231) (fun _ h9 => h9) rfl dX6_number_91 ?_
                rw [erT]
                refine lv_aload_n hx hb dX6_number_94 rfl (lv_at hl 2 rfl) ?_
                refine va_get (D := κ.1) (ci := 6) (v := .int (zI s39 this 14)) (C := RX6) (T := TX6) (N := 27) hx hb hg inX6 hown hK (hT.o20 (hT.k t_this (by decide))).one 0 rfl rfl 14 (by decide) (hg _ k1233) (fun _ h9 => h9) rfl dX6_number_95 ?_
                rw [kthis_14]
                refine va_iald hx hb hK (hT.o23 (hT.k trT (by decide))).one 0 0 rfl rfl (g_in (by omega) (by omega)) dX6_number_98 ?_
                refine lv_topi (fun t65 ht65 => ?_)
                have it65 : (ix u : Int) = u.toInt := by unfold ix; omega
                have xt65 : tc (ix u) = t65.toInt := by rw [hpc, ht65, show (ix u) = ix u from by first | rfl | (unfold ix; omega)]; exact congrArg Int32.toInt (hT.eI trT (by decide) rfl rfl).symm
                refine lv_iadd hx hb dX6_number_99 ?_
                first | refine g_add (by omega) (by omega) (fun t66 ht66 => ?_) | refine lv_topi (fun t66 ht66 => ?_)
                refine lv_bipush (v := 48) hx hb dX6_number_100 (by decide) ?_
                refine lv_isub hx hb dX6_number_102 ?_
                first | refine g_sub (by omega) (by omega) (fun t67 ht67 => ?_) | refine lv_topi (fun t67 ht67 => ?_)
                refine lv_goto (tgt := 110) hx hb dX6_number_103 (by decide) ?_
                have hTo := hT
                refine pf20_24 hx hb hg hown hK hT (hT.k t_this (by decide)) rfl (hg _ k1243) dX6_number_110 (fun H locs s68 hus68 hT => ?_)
                have kthis_17 : zI s68 this 17 = v1 := (zput_o hus68 (Or.inr (by decide))).trans kthis_17
                have kthis_15 : zI s68 this 15 = v4 := (zput_o hus68 (Or.inr (by decide))).trans kthis_15
                have kthis_16 : zI s68 this 16 = v5 := (zput_o hus68 (Or.inr (by decide))).trans kthis_16
                have kthis_14 : zI s68 this 14 = u := (zput_o hus68 (Or.inr (by decide))).trans kthis_14
                have e69 : zI s68 this 24 = t67 := zput_at hus68
                refine lv_aload_n hx hb dX6_number_113 rfl (lv_at hl 2 rfl) ?_
                refine lv_dup hx hb dX6_number_114 rfl ?_
                refine va_get (D := κ.1) (ci := 6) (v := .int (zI s68 this 14)) (C := RX6) (T := TX6) (N := 27) hx hb hg inX6 hown hK (hT.o20 (hT.k t_this (by decide))).one 0 rfl rfl 14 (by decide) (hg _ k1233) (fun _ h9 => h9) rfl dX6_number_115 ?_
                rw [kthis_14]
                refine lv_iconst (v := 1) hx hb dX6_number_118 (by decide) ?_
                refine lv_iadd hx hb dX6_number_119 ?_
                first | refine g_add (by omega) (by omega) (fun t70 ht70 => ?_) | refine lv_topi (fun t70 ht70 => ?_)
                have hTo := hT
                refine pf20_14 hx hb hg hown hK hT (hT.k t_this (by decide)) rfl (hg _ k1233) dX6_number_120 (fun H locs s71 hus71 hT => ?_)
                have kthis_17 : zI s71 this 17 = v1 := (zput_o hus71 (Or.inr (by decide))).trans kthis_17
                have kthis_15 : zI s71 this 15 = v4 := (zput_o hus71 (Or.inr (by decide))).trans kthis_15
                have kthis_16 : zI s71 this 16 = v5 := (zput_o hus71 (Or.inr (by decide))).trans kthis_16
                have e69 : zI s71 this 24 = t67 := (zput_o hus71 (Or.inr (by decide))).trans e69
                have e72 : zI s71 this 14 = t70 := zput_at hus71
                refine lv_goto (tgt := 34) hx hb dX6_number_123 (by decide) ?_
                exact ih34 t70 t67 _ _ _ _ hT kthis_17 kthis_15 kthis_16 e72 e69 (by omega) (by omega) (by rw [show ix t70 = ix u + 1 from by unfold ix; omega, ← uscn_go (p := uisDi) (c := tc) (L := Ln) (a := ix u) (by omega) (uisDi_t.mpr (by omega))]; exact q3) (fun q9 => by have w9 : ix t70 = ix u + 1 := (by unfold ix; omega); rw [show ix t70 - ss = (ix u - ss) + 1 from by omega]; show _ = 10 * unum tc ss (ix u - ss) + (tc (ss + (ix u - ss)) - 48); rw [show ss + (ix u - ss) = ix u from by omega, ← q4 (by omega)]; omega) hl (by omega)
      exact loop34 ((703 - v12.toInt).toNat + 1) v12 0 _ _ _ _ hT ev1 ev4 ev5 ev12 e7 (by omega) (by omega) (by rw [show ix v12 = ss from by unfold ix; omega]) (fun _ => by rw [show ix v12 - ss = 0 from by unfold ix; omega]; exact n0) hl (by omega)
    · skip
      have hd9 : utkK tc Ln ss ≠ 2 := fun q9 => by have z9 := (tk2_iff.mp q9); omega
      refine lv_istore_n (lv' := [(3, .int x14), (0, .ref this), (1, .int lo), (2, .int hi)]) hx hb dX6_number_27 rfl hl (by decide) rfl (fun ls hl => ?_)
      refine lv_aload_n hx hb dX6_number_28 rfl (lv_at hl 1 rfl) ?_
      refine va_get (D := κ.1) (ci := 6) (v := .int (zI s15 this 14)) (C := RX6) (T := TX6) (N := 27) hx hb hg inX6 hown hK (hT.o20 (hT.k t_this (by decide))).one 0 rfl rfl 14 (by decide) (hg _ k1233) (fun _ h9 => h9) rfl dX6_number_29 ?_
      rw [ev12]
      refine lv_istore (lv' := [(4, .int v12), (3, .int x14), (0, .ref this), (1, .int lo), (2, .int hi)]) hx hb dX6_number_32 hl (by decide) rfl (fun ls hl => ?_)
      have loop34 : ∀ (n9 : Nat)  (u : Int32) (val : Int32) (H : Heap) (locs : List Loc) (sg : Gh) (ls : Array Slot), TS κ gN σ0 sg s H locs → (zI sg this 17 = v1) → (zI sg this 15 = v4) → (zI sg this 16 = v5) → (zI sg this 14 = u) → (zI sg this 24 = val) → ((ss : Int) ≤ u.toInt) → (u.toInt ≤ Ln) → (uscn uisDi tc Ln (ix u) = uscn uisDi tc Ln ss) → (ix u ≤ ss + 4 → val.toInt = unum tc ss (ix u - ss)) → lv_has ls 5 [(4, .int v12), (3, .int x14), (0, .ref this), (1, .int lo), (2, .int hi)] → (703 - u.toInt) < n9 → tW p l e 1 25 κ s m #[.ref this, .int lo, .int hi] below meth c H locs Q9 (F0 m 34 ls []) := by
        intro n9
        induction n9 with
        | zero =>
          intro u val H locs sg ls hT kthis_17 kthis_15 kthis_16 kthis_14 kthis_24 q1 q2 q3 q4 hl hm9
          exfalso
          omega
        | succ n9 ih9 =>
          have ih34 := ih9
          clear ih9
          intro u val H locs s73 ls hT kthis_17 kthis_15 kthis_16 kthis_14 kthis_24 q1 q2 q3 q4 hl hm9
          have i_u : (ix u : Int) = u.toInt := by unfold ix; omega
          refine lv_iload_n hx hb dX6_number_34 rfl (lv_at hl 1 rfl) ?_
          refine lv_if_eq (tgt := 126) hx hb dX6_number_35 (by decide) (fun _ => ?_) (fun c9 => absurd (gi_ne c9) (by omega))
          refine lv_iload_n hx hb dX6_number_126 rfl (lv_at hl 1 rfl) ?_
          refine lv_if_eq (tgt := 141) hx hb dX6_number_127 (by decide) (fun _ => ?_) (fun c9 => absurd (gi_ne c9) (by omega))
          have hk9 := hd9
          refine lv_aload_n hx hb dX6_number_141 rfl (lv_at hl 2 rfl) ?_
          refine lv_iconst (v := 1) hx hb dX6_number_142 (by decide) ?_
          refine lv_iload hx hb dX6_number_143 (lv_at hl 0 rfl) ?_
          have cz74 : zI s73 this 17 = v1 := kthis_17
          have hTo := hT
          refine tVv (n := 2) (As := [.int 1, .int v12]) (rest := []) hx hb hml hown hg hT hK hX (X6s_wrong l κ s73 this 1 v12  (hT.k t_this (by decide)) ) sub_gB_gN (mwV k1361 k1363 k45 k92 k1364) ⟨rfl, by decide, by decide, by decide +kernel⟩ ⟨(Nat.le_of_ble_eq_true rfl), (Nat.le_of_ble_eq_true rfl)⟩ (hT.o20 (hT.k t_this (by decide))) rfl rfl hl.1 rfl (Nat.le_of_ble_eq_true rfl) dX6_number_145 zroom.rf (fun s76 H locs hφ hEs76 hT => ?_)
          have kthis_14 : zI s76 this 14 = u := ((hTo.k t_this (by decide)).eI hEs76 (by decide) rfl).trans kthis_14
          have kthis_24 : zI s76 this 24 = val := ((hTo.k t_this (by decide)).eI hEs76 (by decide) rfl).trans kthis_24
          have f77 := hφ
          have wb9 := (f77.resolve_left (fun q9 => by have z9 := q9.1; rw [cz74] at z9; omega)).2
          refine lv_goto (tgt := 173) hx hb dX6_number_148 (by decide) ?_
          subst hQ9
          exact t_v hx hb hr hlocks hT ⟨fun q9 => absurd q9 (by omega), fun _ => Or.inr ⟨1, Or.inl ⟨by rw [hss]; exact hk9, rfl⟩, wb9.1, by rw [wb9.2.1]; exact n1, by rw [wb9.2.2, hss]; omega⟩⟩ dX6_number_173
      exact loop34 ((703 - v12.toInt).toNat + 1) v12 0 _ _ _ _ hT ev1 ev4 ev5 ev12 e7 (by omega) (by omega) (by rw [show ix v12 = ss from by unfold ix; omega]) (fun _ => by rw [show ix v12 - ss = 0 from by unfold ix; omega]; exact n0) hl (by omega)
  · have c16 := gi_ne c9
    subst hQ9
    exact t_v hx hb hr hlocks hT ⟨fun _ => ⟨by rw [(show zI s6 this 17 = v1 from ev1)]; omega, ((show zI s6 this 15 = v4 from ev4).trans zthis15.symm), ((show zI s6 this 16 = v5 from ev5).trans zthis16.symm)⟩, fun q9 => absurd q9 (by omega)⟩ dX6_number_12
set_option maxHeartbeats 4000000 in
set_option maxRecDepth 100000 in
theorem X6s_ends (l : Launch) (κ : Kt) (σ0 : Gh) (this : Nat) {tc : Nat → Int} {Ln : Nat} {aa : Nat} (t_this : zk σ0 this 20) (h0 : TXm κ σ0 this tc Ln) (h1 : (zI σ0 this 17).toInt = 0 → (zI σ0 this 14).toInt = (aa : Nat) ∧ aa ≤ Ln) : TC l yX6_ends cX6_ends 1 none 1 22 [.ref this] κ σ0 (tqv κ gHB σ0 (fun (τ : Gh) => (((zI σ0 this 17).toInt = 1 → (zI τ this 17).toInt = 1 ∧ zI τ this 15 = zI σ0 this 15 ∧ zI τ this 16 = zI σ0 this 16)) ∧ ((zI σ0 this 17).toInt = 0 → (utkK tc Ln (uscn uisBl tc Ln aa) = 3 ∧ (zI τ this 17).toInt = 0 ∧ zI τ this 15 = zI σ0 this 15 ∧ zI τ this 16 = zI σ0 this 16 ∧ (zI τ this 14).toInt = (utkE tc Ln (uscn uisBl tc Ln aa) : Nat)) ∨ (utkK tc Ln (uscn uisBl tc Ln aa) ≠ 3 ∧ (zI τ this 17).toInt = 1 ∧ (zI τ this 15).toInt = 1 ∧ (zI τ this 16).toInt = (uscn uisBl tc Ln aa))))) := by
  refine TC.of gHB (by decide +kernel) (Nat.le_of_ble_eq_true rfl) ?_
  intro p e s m below meth c ls hcs hK hX hT hl
  obtain ⟨hx, hb, hr, hml, hown, hg, hlocks, hin⟩ := hcs
  have hown : s.vm.findClass RX6 = some m.cls := hown
  have hl : lv_has ls 1 [(0, .ref this)] := hl
  have hT0 := hT
  have n0 : (0 : Int32).toInt = 0 := by decide
  have n1 : (1 : Int32).toInt = 1 := by decide
  have n59 : (59 : Int32).toInt = 59 := by decide
  generalize hQ9 : tQ _ _ _ _ _ _ = Q9
  have hTX := h0
  obtain ⟨rT, erT⟩ : ∃ z, kR κ this 12 = z := ⟨_, rfl⟩
  have trT : zk σ0 rT 23 := by rw [← erT]; exact hT0.ref t_this (by decide) (by decide) (by decide)
  have hpc : ∀ j, tc j = (zI σ0 rT j).toInt := by rw [← erT]; exact hTX.1
  have hLn : (zI σ0 this 13).toInt = Ln := hTX.2.1
  have hL7 : Ln ≤ 700 := hTX.2.2.1
  have hnn := hTX.2.2.2
  obtain ⟨v1, ev1⟩ : ∃ zz9 : Int32, zI σ0 this 17 = zz9 := ⟨_, rfl⟩
  have qv1 : v1.toInt = (zI σ0 this 17).toInt := by rw [ev1]
  have b2 : isB v1 := by have q9 : isB (zI σ0 this 17) := hT.P (hT.k t_this (by decide)) (by decide); rw [ev1] at q9; exact q9
  have b2t := isB_t b2
  obtain ⟨v3, ev3⟩ : ∃ zz9 : Int32, zI σ0 this 14 = zz9 := ⟨_, rfl⟩
  have qv3 : v3.toInt = (zI σ0 this 14).toInt := by rw [ev3]
  obtain ⟨v4, ev4⟩ : ∃ zz9 : Int32, zI σ0 this 15 = zz9 := ⟨_, rfl⟩
  have qv4 : v4.toInt = (zI σ0 this 15).toInt := by rw [ev4]
  have zthis15 : zI σ0 this 15 = v4 := ev4
  obtain ⟨v5, ev5⟩ : ∃ zz9 : Int32, zI σ0 this 16 = zz9 := ⟨_, rfl⟩
  have qv5 : v5.toInt = (zI σ0 this 16).toInt := by rw [ev5]
  have zthis16 : zI σ0 this 16 = v5 := ev5
  refine lv_aload_n hx hb dX6_ends_0 rfl (lv_at hl 0 rfl) ?_
  refine va_get (D := κ.1) (ci := 6) (v := .int (zI σ0 this 17)) (C := RX6) (T := TX6) (N := 27) hx hb hg inX6 hown hK (hT.o20 (hT.k t_this (by decide))).one 0 rfl rfl 17 (by decide) (hg _ k1236) (fun _ h9 => h9) rfl dX6_ends_1 ?_
  rw [ev1]
  refine lv_if_ne (tgt := 25) hx hb dX6_ends_4 (by decide) (fun c9 => ?_) (fun c9 => ?_)
  · have c1 := gi_ne c9
    refine lv_aload_n hx hb dX6_ends_25 rfl (lv_at hl 0 rfl) ?_
    refine lv_dup hx hb dX6_ends_26 rfl ?_
    refine va_get (D := κ.1) (ci := 6) (v := .int (zI σ0 this 14)) (C := RX6) (T := TX6) (N := 27) hx hb hg inX6 hown hK (hT.o20 (hT.k t_this (by decide))).one 0 rfl rfl 14 (by decide) (hg _ k1233) (fun _ h9 => h9) rfl dX6_ends_27 ?_
    rw [ev3]
    refine lv_iconst (v := 1) hx hb dX6_ends_30 (by decide) ?_
    refine lv_iadd hx hb dX6_ends_31 ?_
    first | refine g_add (by omega) (by omega) (fun t6 ht6 => ?_) | refine lv_topi (fun t6 ht6 => ?_)
    have hTo := hT
    refine pf20_14 hx hb hg hown hK hT (hT.k t_this (by decide)) rfl (hg _ k1233) dX6_ends_32 (fun H locs s7 hus7 hT => ?_)
    have ev1 : zI s7 this 17 = v1 := (zput_o hus7 (Or.inr (by decide))).trans ev1
    have ev4 : zI s7 this 15 = v4 := (zput_o hus7 (Or.inr (by decide))).trans ev4
    have ev5 : zI s7 this 16 = v5 := (zput_o hus7 (Or.inr (by decide))).trans ev5
    have e8 : zI s7 this 14 = t6 := zput_at hus7
    subst hQ9
    exact t_v hx hb hr hlocks hT ⟨fun _ => ⟨by rw [(show zI s7 this 17 = v1 from ev1)]; omega, ((show zI s7 this 15 = v4 from ev4).trans zthis15.symm), ((show zI s7 this 16 = v5 from ev5).trans zthis16.symm)⟩, fun q9 => absurd q9 (by omega)⟩ dX6_ends_35
  · have c2 := gi_eq c9
    obtain ⟨ha9, hb9⟩ := h1 (by omega)
    refine lv_aload_n hx hb dX6_ends_7 rfl (lv_at hl 0 rfl) ?_
    have hTo := hT
    refine tVi (n := 0) (As := []) (rest := []) hx hb hml hown hg hT hK hX (X6s_here l κ σ0 this  (hT.k t_this (by decide)) hTX (show (zI σ0 this 14).toInt = (aa : Nat) from by rw [(show zI σ0 this 14 = v3 from ev3)]; omega) hb9) sub_gH_gHB (mwV k1345 k1347 k42 k92 k1348) ⟨rfl, by decide, by decide, by decide +kernel⟩ ⟨(Nat.le_of_ble_eq_true rfl), (Nat.le_of_ble_eq_true rfl)⟩ (hT.o20 (hT.k t_this (by decide))) rfl rfl hl.1 rfl (Nat.le_of_ble_eq_true rfl) dX6_ends_8 zroom.rf (fun x9 s10 H locs hφ hEs10 hT => ?_)
    have ev1 : zI s10 this 17 = v1 := ((hTo.k t_this (by decide)).eI hEs10 (by decide) rfl).trans ev1
    have ev4 : zI s10 this 15 = v4 := ((hTo.k t_this (by decide)).eI hEs10 (by decide) rfl).trans ev4
    have ev5 : zI s10 this 16 = v5 := ((hTo.k t_this (by decide)).eI hEs10 (by decide) rfl).trans ev5
    obtain ⟨f11, f12⟩ := hφ
    obtain ⟨ss, hss⟩ : ∃ z, (uscn uisBl tc Ln aa) = z := ⟨_, rfl⟩
    have hsL : aa ≤ Ln → ss ≤ Ln := fun q9 => by rw [← hss]; exact uscn_le q9
    have hs2 : uscn uisBl tc Ln ss = ss := by rw [← hss]; exact uscn_id
    rw [hss] at f11 f12
    obtain ⟨v13, ev13⟩ : ∃ zz9 : Int32, zI s10 this 14 = zz9 := ⟨_, rfl⟩
    have qv13 : v13.toInt = (zI s10 this 14).toInt := by rw [ev13]
    rw [(show zI s10 this 14 = v13 from ev13)] at f11
    have hsl9 := hsL hb9
    refine lv_bipush (v := 59) hx hb dX6_ends_11 (by decide) ?_
    refine lv_icmp_eq (tgt := 25) hx hb dX6_ends_13 (by decide) (fun c9 => ?_) (fun c9 => ?_)
    · have c3 := gi_eq c9
      refine lv_aload_n hx hb dX6_ends_25 rfl (lv_at hl 0 rfl) ?_
      refine lv_dup hx hb dX6_ends_26 rfl ?_
      refine va_get (D := κ.1) (ci := 6) (v := .int (zI s10 this 14)) (C := RX6) (T := TX6) (N := 27) hx hb hg inX6 hown hK (hT.o20 (hT.k t_this (by decide))).one 0 rfl rfl 14 (by decide) (hg _ k1233) (fun _ h9 => h9) rfl dX6_ends_27 ?_
      rw [ev13]
      refine lv_iconst (v := 1) hx hb dX6_ends_30 (by decide) ?_
      refine lv_iadd hx hb dX6_ends_31 ?_
      first | refine g_add (by omega) (by omega) (fun t14 ht14 => ?_) | refine lv_topi (fun t14 ht14 => ?_)
      have hTo := hT
      refine pf20_14 hx hb hg hown hK hT (hT.k t_this (by decide)) rfl (hg _ k1233) dX6_ends_32 (fun H locs s15 hus15 hT => ?_)
      have ev1 : zI s15 this 17 = v1 := (zput_o hus15 (Or.inr (by decide))).trans ev1
      have ev4 : zI s15 this 15 = v4 := (zput_o hus15 (Or.inr (by decide))).trans ev4
      have ev5 : zI s15 this 16 = v5 := (zput_o hus15 (Or.inr (by decide))).trans ev5
      have e16 : zI s15 this 14 = t14 := zput_at hus15
      have hk9 : utkK tc Ln ss = 3 := tk3_iff.mpr (by omega)
      have hE9 := (utk_semi (c := tc) (L := Ln) (s := ss) (tk3_iff.mp hk9).1 (tk3_iff.mp hk9).2).2
      subst hQ9
      exact t_v hx hb hr hlocks hT ⟨fun q9 => absurd q9 (by omega), fun _ => Or.inl ⟨by rw [hss]; exact hk9, by rw [(show zI s15 this 17 = v1 from ev1)]; omega, ((show zI s15 this 15 = v4 from ev4).trans zthis15.symm), ((show zI s15 this 16 = v5 from ev5).trans zthis16.symm), by rw [(show zI s15 this 14 = t14 from e16), hss]; omega⟩⟩ dX6_ends_35
    · have c4 := gi_ne c9
      have hk9 : utkK tc Ln ss ≠ 3 := fun q9 => by have z9 := tk3_iff.mp q9; omega
      refine lv_aload_n hx hb dX6_ends_16 rfl (lv_at hl 0 rfl) ?_
      refine lv_iconst (v := 1) hx hb dX6_ends_17 (by decide) ?_
      refine lv_aload_n hx hb dX6_ends_18 rfl (lv_at hl 0 rfl) ?_
      refine va_get (D := κ.1) (ci := 6) (v := .int (zI s10 this 14)) (C := RX6) (T := TX6) (N := 27) hx hb hg inX6 hown hK (hT.o20 (hT.k t_this (by decide))).one 0 rfl rfl 14 (by decide) (hg _ k1233) (fun _ h9 => h9) rfl dX6_ends_19 ?_
      rw [ev13]
      have cz17 : zI s10 this 17 = v1 := ev1
      have hTo := hT
      refine tVv (n := 2) (As := [.int 1, .int v13]) (rest := []) hx hb hml hown hg hT hK hX (X6s_wrong l κ s10 this 1 v13  (hT.k t_this (by decide)) ) sub_gB_gHB (mwV k1361 k1363 k45 k92 k1364) ⟨rfl, by decide, by decide, by decide +kernel⟩ ⟨(Nat.le_of_ble_eq_true rfl), (Nat.le_of_ble_eq_true rfl)⟩ (hT.o20 (hT.k t_this (by decide))) rfl rfl hl.1 rfl (Nat.le_of_ble_eq_true rfl) dX6_ends_22 zroom.rf (fun s19 H locs hφ hEs19 hT => ?_)
      have ev13 : zI s19 this 14 = v13 := ((hTo.k t_this (by decide)).eI hEs19 (by decide) rfl).trans ev13
      have f20 := hφ
      have wb9 := (f20.resolve_left (fun q9 => by have z9 := q9.1; rw [cz17] at z9; omega)).2
      obtain ⟨wb91, wb92, wb93⟩ := wb9
      obtain ⟨v21, ev21⟩ : ∃ zz9 : Int32, zI s19 this 17 = zz9 := ⟨_, rfl⟩
      have qv21 : v21.toInt = (zI s19 this 17).toInt := by rw [ev21]
      have b22 : isB v21 := by have q9 : isB (zI s19 this 17) := hT.P (hT.k t_this (by decide)) (by decide); rw [ev21] at q9; exact q9
      have b22t := isB_t b22
      rw [(show zI s19 this 17 = v21 from ev21)] at wb91
      obtain ⟨v23, ev23⟩ : ∃ zz9 : Int32, zI s19 this 15 = zz9 := ⟨_, rfl⟩
      have qv23 : v23.toInt = (zI s19 this 15).toInt := by rw [ev23]
      rw [(show zI s19 this 15 = v23 from ev23)] at wb92
      obtain ⟨v24, ev24⟩ : ∃ zz9 : Int32, zI s19 this 16 = zz9 := ⟨_, rfl⟩
      have qv24 : v24.toInt = (zI s19 this 16).toInt := by rw [ev24]
      rw [(show zI s19 this 16 = v24 from ev24)] at wb93
      refine lv_aload_n hx hb dX6_ends_25 rfl (lv_at hl 0 rfl) ?_
      refine lv_dup hx hb dX6_ends_26 rfl ?_
      refine va_get (D := κ.1) (ci := 6) (v := .int (zI s19 this 14)) (C := RX6) (T := TX6) (N := 27) hx hb hg inX6 hown hK (hT.o20 (hT.k t_this (by decide))).one 0 rfl rfl 14 (by decide) (hg _ k1233) (fun _ h9 => h9) rfl dX6_ends_27 ?_
      rw [ev13]
      refine lv_iconst (v := 1) hx hb dX6_ends_30 (by decide) ?_
      refine lv_iadd hx hb dX6_ends_31 ?_
      first | refine g_add (by omega) (by omega) (fun t25 ht25 => ?_) | refine lv_topi (fun t25 ht25 => ?_)
      have hTo := hT
      refine pf20_14 hx hb hg hown hK hT (hT.k t_this (by decide)) rfl (hg _ k1233) dX6_ends_32 (fun H locs s26 hus26 hT => ?_)
      have ev21 : zI s26 this 17 = v21 := (zput_o hus26 (Or.inr (by decide))).trans ev21
      have ev23 : zI s26 this 15 = v23 := (zput_o hus26 (Or.inr (by decide))).trans ev23
      have ev24 : zI s26 this 16 = v24 := (zput_o hus26 (Or.inr (by decide))).trans ev24
      have e27 : zI s26 this 14 = t25 := zput_at hus26
      subst hQ9
      exact t_v hx hb hr hlocks hT ⟨fun q9 => absurd q9 (by omega), fun _ => Or.inr ⟨by rw [hss]; exact hk9, by rw [(show zI s26 this 17 = v21 from ev21)]; omega, by rw [(show zI s26 this 15 = v23 from ev23)]; omega, by rw [(show zI s26 this 16 = v24 from ev24), hss]; omega⟩⟩ dX6_ends_35
