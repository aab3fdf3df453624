/-! The reference with its numbers: the row anew, the bits -/
set_option maxHeartbeats 4000000 in
set_option maxRecDepth 100000 in
theorem X6v_anew (l : Launch) (κ : Kt) (σ0 : Gh) (this : Nat) (t_this : zk σ0 this 20) (h0 : PL (rN σ0 this) (zI σ0 (kR κ this 5))) (h1 : 2 ≤ (zI σ0 this 7).toInt) (h2 : (zI σ0 this 7).toInt ≤ 48) : TC l yX6_anew cX6_anew 4 none 0 0 [.ref this] κ σ0 (tqv κ gW σ0 (fun (τ : Gh) => (WI (rN σ0 this) (zJ τ (kR κ this 1))) ∧ (RV (rN σ0 this) (zJ τ (kR κ this 1)) (ini (rN σ0 this) (plf (zI σ0 (kR κ this 5))) (plf (zI σ0 (kR κ this 6))))))) := by
  refine TC.of gW (by decide +kernel) (Nat.le_of_ble_eq_true rfl) ?_
  intro p e s m below meth c ls hcs hK hX hT hl
  obtain ⟨hx, hb, hr, hml, hown, hg, hlocks, hin⟩ := hcs
  have hown : s.vm.findClass RX6 = some m.cls := hown
  have hl : lv_has ls 4 [(0, .ref this)] := hl
  have hT0 := hT
  have n0 : (0 : Int32).toInt = 0 := by decide
  have n1 : (1 : Int32).toInt = 1 := by decide
  have n3 : (3 : Int32).toInt = 3 := by decide
  have n4 : (4 : Int32).toInt = 4 := by decide
  have n5 : (5 : Int32).toInt = 5 := by decide
  have n53 : (53 : Int32).toInt = 53 := by decide
  have n101 : (101 : Int32).toInt = 101 := by decide
  have jm1 : ((-1) : Int64).toInt = (-1) := by decide
  have j0 : (0 : Int64).toInt = 0 := by decide
  generalize hQ9 : tQ _ _ _ _ _ _ = Q9
  obtain ⟨rW, erW⟩ : ∃ z, kR κ this 1 = z := ⟨_, rfl⟩
  have trW : zk σ0 rW 21 := by rw [← erW]; exact hT0.ref t_this (by decide) (by decide) (by decide)
  obtain ⟨rP, erP⟩ : ∃ z, kR κ this 5 = z := ⟨_, rfl⟩
  have trP : zk σ0 rP 25 := by rw [← erP]; exact hT0.ref t_this (by decide) (by decide) (by decide)
  have hPL0 := h0
  have hP := h0
  rw [erP] at hP
  have hrN : (rN σ0 this : Int) = (zI σ0 this 7).toInt := by unfold rN; omega
  obtain ⟨rF, erF⟩ : ∃ z, kR κ this 6 = z := ⟨_, rfl⟩
  have trF : zk σ0 rF 26 := by rw [← erF]; exact hT0.ref t_this (by decide) (by decide) (by decide)
  refine lv_aload_n hx hb dX6_anew_0 rfl (lv_at hl 0 rfl) ?_
  refine va_get (D := κ.1) (ci := 6) (v := .ref (kR κ this 1)) (C := RX6) (T := TX6) (N := 27) hx hb hg inX6 hown hK (hT.o20 (hT.k t_this (by decide))).one 0 rfl rfl 1 (by decide) (hg _ k1220) (fun _ h9 => h9) rfl dX6_anew_1 ?_
  rw [erW]
  refine lv_iconst (v := 3) hx hb dX6_anew_4 (by decide) ?_
  refine lv_lconst (v := 0) hx hb dX6_anew_5 (by decide) ?_
  have hTo := hT
  refine tastlx (n := 609) hx hb hK hT (hT.k trW (by decide)) ⟨by decide, by decide⟩ (fun _ _ _ => rfl) (fun _ _ => trivial) (by omega) (by omega) (ge3_gW _ (by unfold ix; omega)) dX6_anew_6 (fun H locs s201 hus201 hT => ?_)
  refine lv_aload_n hx hb dX6_anew_7 rfl (lv_at hl 0 rfl) ?_
  refine va_get (D := κ.1) (ci := 6) (v := .ref (kR κ this 1)) (C := RX6) (T := TX6) (N := 27) hx hb hg inX6 hown hK (hT.o20 (hT.k t_this (by decide))).one 0 rfl rfl 1 (by decide) (hg _ k1220) (fun _ h9 => h9) rfl dX6_anew_8 ?_
  rw [erW]
  refine lv_iconst (v := 4) hx hb dX6_anew_11 (by decide) ?_
  refine lv_lconst (v := 0) hx hb dX6_anew_12 (by decide) ?_
  have hTo := hT
  refine tastlx (n := 609) hx hb hK hT (hT.k trW (by decide)) ⟨by decide, by decide⟩ (fun _ _ _ => rfl) (fun _ _ => trivial) (by omega) (by omega) (ge3_gW _ (by unfold ix; omega)) dX6_anew_13 (fun H locs s202 hus202 hT => ?_)
  refine lv_iconst (v := 0) hx hb dX6_anew_14 (by decide) ?_
  refine lv_istore_n (lv' := [(1, .int 0), (0, .ref this)]) hx hb dX6_anew_15 rfl hl (by decide) rfl (fun ls hl => ?_)
  have loop16 : ∀ (n9 : Nat) (k : Int32) (H : Heap) (locs : List Loc) (sg : Gh) (ls : Array Slot), TS κ gW σ0 sg s H locs → (0 ≤ k.toInt) → (k.toInt ≤ (zI σ0 this 7).toInt) → (AN (rN σ0 this) (zI σ0 rP) (zJ sg rW) (ix k)) → (AV (plf (zI σ0 rF)) (zJ sg rW) (ix k)) → lv_has ls 4 [(1, .int k), (0, .ref this)] → ((zI σ0 this 7).toInt - k.toInt) < n9 → tW p l e 0 0 κ s m #[.ref this] below meth c H locs Q9 (F0 m 16 ls []) := by
    intro n9
    induction n9 with
    | zero =>
      intro k H locs sg ls hT q1 q2 q3 q4 hl hm9
      exfalso
      omega
    | succ n9 ih9 =>
      have ih16 := ih9
      clear ih9
      intro k H locs s203 ls hT q1 q2 q3 q4 hl hm9
      have i_k : (ix k : Int) = k.toInt := by unfold ix; omega
      refine lv_iload_n hx hb dX6_anew_16 rfl (lv_at hl 0 rfl) ?_
      refine lv_aload_n hx hb dX6_anew_17 rfl (lv_at hl 1 rfl) ?_
      obtain ⟨v204, ev204⟩ : ∃ zz9 : Int32, zI σ0 this 7 = zz9 := ⟨_, rfl⟩
      have qv204 : v204.toInt = (zI σ0 this 7).toInt := by rw [ev204]
      refine va_get (D := κ.1) (ci := 6) (v := .int (zI s203 this 7)) (C := RX6) (T := TX6) (N := 27) hx hb hg inX6 hown hK (hT.o20 (hT.k t_this (by decide))).one 0 rfl rfl 7 (by decide) (hg _ k1226) (fun _ h9 => h9) rfl dX6_anew_18 ?_
      rw [(hT.eI t_this (by decide) rfl ev204)]
      refine lv_icmp_ge (tgt := 120) hx hb dX6_anew_21 (by decide) (fun c9 => ?_) (fun c9 => ?_)
      · have c1 := gi_le c9
        have b1 : ix k = rN σ0 this := by unfold ix; omega
        rw [b1] at q3 q4
        subst hQ9
        exact t_v hx hb hr hlocks hT ⟨by rw [erW]; exact q3.done ⟨by omega, by omega⟩ hP, by rw [erW, erP, erF]; exact RV.anew q3 q4⟩ dX6_anew_120
      · have c2 := gi_nle c9
        refine lv_aload_n hx hb dX6_anew_24 rfl (lv_at hl 1 rfl) ?_
        refine va_get (D := κ.1) (ci := 6) (v := .ref (kR κ this 1)) (C := RX6) (T := TX6) (N := 27) hx hb hg inX6 hown hK (hT.o20 (hT.k t_this (by decide))).one 0 rfl rfl 1 (by decide) (hg _ k1220) (fun _ h9 => h9) rfl dX6_anew_25 ?_
        rw [erW]
        have g1 := (hP 0 (by omega)).1
        have g2 := (hP (ix k) (by omega)).1
        have g4 := (hP (ix k - 1) (by omega)).1
        refine lv_iconst (v := 5) hx hb dX6_anew_28 (by decide) ?_
        refine lv_iload_n hx hb dX6_anew_29 rfl (lv_at hl 0 rfl) ?_
        refine lv_iadd hx hb dX6_anew_30 ?_
        first | refine g_add (by omega) (by omega) (fun t205 ht205 => ?_) | refine lv_topi (fun t205 ht205 => ?_)
        refine lv_aload_n hx hb dX6_anew_31 rfl (lv_at hl 1 rfl) ?_
        refine va_get (D := κ.1) (ci := 6) (v := .ref (kR κ this 6)) (C := RX6) (T := TX6) (N := 27) hx hb hg inX6 hown hK (hT.o20 (hT.k t_this (by decide))).one 0 rfl rfl 6 (by decide) (hg _ k1225) (fun _ h9 => h9) rfl dX6_anew_32 ?_
        rw [erF]
        refine lv_iload_n hx hb dX6_anew_35 rfl (lv_at hl 0 rfl) ?_
        refine va_iald hx hb hK (hT.o26 (hT.k trF (by decide))).one 0 0 rfl rfl (g_in (by omega) (by omega)) dX6_anew_36 ?_
        refine lv_topi (fun t206 ht206 => ?_)
        refine lv_i2l hx hb dX6_anew_37 rfl ?_
        refine g_i2l (fun t207 ht207 => ?_)
        have xf9 : t206.toInt = (plf (zI σ0 rF)) (ix k) := by rw [ht206, ixc]; exact congrArg Int32.toInt (hT.eI trF (by decide) rfl rfl)
        have hTo := hT
        refine tastlx (n := 609) hx hb hK hT (hT.k trW (by decide)) ⟨by decide, by decide⟩ (fun _ _ _ => rfl) (fun _ _ => trivial) (by omega) (by omega) (ge3_gW _ (by unfold ix; omega)) dX6_anew_38 (fun H locs s208 hus208 hT => ?_)
        refine lv_iload_n hx hb dX6_anew_39 rfl (lv_at hl 0 rfl) ?_
        refine lv_if_ne (tgt := 52) hx hb dX6_anew_40 (by decide) (fun c9 => ?_) (fun c9 => ?_)
        · have c3 := gi_ne c9
          refine lv_aload_n hx hb dX6_anew_52 rfl (lv_at hl 1 rfl) ?_
          refine va_get (D := κ.1) (ci := 6) (v := .ref (kR κ this 5)) (C := RX6) (T := TX6) (N := 27) hx hb hg inX6 hown hK (hT.o20 (hT.k t_this (by decide))).one 0 rfl rfl 5 (by decide) (hg _ k1224) (fun _ h9 => h9) rfl dX6_anew_53 ?_
          rw [erP]
          refine lv_iload_n hx hb dX6_anew_56 rfl (lv_at hl 0 rfl) ?_
          refine lv_iconst (v := 1) hx hb dX6_anew_57 (by decide) ?_
          refine lv_isub hx hb dX6_anew_58 ?_
          first | refine g_sub (by omega) (by omega) (fun t209 ht209 => ?_) | refine lv_topi (fun t209 ht209 => ?_)
          refine va_iald hx hb hK (hT.o25 (hT.k trP (by decide))).one 0 0 rfl rfl (g_in (by omega) (by omega)) dX6_anew_59 ?_
          refine lv_topi (fun t210 ht210 => ?_)
          have K211 : zI s208 this 7 = zI σ0 this 7 := hT.eI t_this (by decide) rfl rfl
          have K211n : (zI s208 this 7).toInt = (zI σ0 this 7).toInt := by rw [K211]
          have P212 : zI s208 rP = zI σ0 rP := funext fun k => hT.eI trP (by decide) rfl rfl
          have xt210 : ((zI s208 rP) (ix k - 1)).toInt = t210.toInt := by rw [ht210]; exact congrArg (fun q9 => (zI s208 rP q9).toInt) (show ix k - 1 = ix t209 from by unfold ix; omega)
          try simp only [K211, P212] at xt210
          refine lv_istore_n (lv' := [(2, .int t210), (1, .int k), (0, .ref this)]) hx hb dX6_anew_60 rfl hl (by decide) rfl (fun ls hl => ?_)
          refine lv_iload_n hx hb dX6_anew_61 rfl (lv_at hl 1 rfl) ?_
          refine lv_aload_n hx hb dX6_anew_62 rfl (lv_at hl 2 rfl) ?_
          refine va_get (D := κ.1) (ci := 6) (v := .int (zI s208 this 7)) (C := RX6) (T := TX6) (N := 27) hx hb hg inX6 hown hK (hT.o20 (hT.k t_this (by decide))).one 0 rfl rfl 7 (by decide) (hg _ k1226) (fun _ h9 => h9) rfl dX6_anew_63 ?_
          rw [(hT.eI t_this (by decide) rfl ev204)]
          refine lv_iconst (v := 1) hx hb dX6_anew_66 (by decide) ?_
          refine lv_isub hx hb dX6_anew_67 ?_
          first | refine g_sub (by omega) (by omega) (fun t213 ht213 => ?_) | refine lv_topi (fun t213 ht213 => ?_)
          refine lv_icmp_ne (tgt := 80) hx hb dX6_anew_68 (by decide) (fun c9 => ?_) (fun c9 => ?_)
          · have c4 := gi_ne c9
            have g3 := (hP (ix k + 1) (by omega)).1
            refine lv_aload_n hx hb dX6_anew_80 rfl (lv_at hl 2 rfl) ?_
            refine va_get (D := κ.1) (ci := 6) (v := .ref (kR κ this 5)) (C := RX6) (T := TX6) (N := 27) hx hb hg inX6 hown hK (hT.o20 (hT.k t_this (by decide))).one 0 rfl rfl 5 (by decide) (hg _ k1224) (fun _ h9 => h9) rfl dX6_anew_81 ?_
            rw [erP]
            refine lv_iload_n hx hb dX6_anew_84 rfl (lv_at hl 1 rfl) ?_
            refine lv_iconst (v := 1) hx hb dX6_anew_85 (by decide) ?_
            refine lv_iadd hx hb dX6_anew_86 ?_
            first | refine g_add (by omega) (by omega) (fun t214 ht214 => ?_) | refine lv_topi (fun t214 ht214 => ?_)
            refine va_iald hx hb hK (hT.o25 (hT.k trP (by decide))).one 0 0 rfl rfl (g_in (by omega) (by omega)) dX6_anew_87 ?_
            refine lv_topi (fun t215 ht215 => ?_)
            have xt215 : ((zI s208 rP) (ix k + 1)).toInt = t215.toInt := by rw [ht215]; exact congrArg (fun q9 => (zI s208 rP q9).toInt) (show ix k + 1 = ix t214 from by unfold ix; omega)
            try simp only [K211, P212] at xt215
            refine lv_istore_n (lv' := [(3, .int t215), (2, .int t210), (1, .int k), (0, .ref this)]) hx hb dX6_anew_88 rfl hl (by decide) rfl (fun ls hl => ?_)
            refine lv_aload_n hx hb dX6_anew_89 rfl (lv_at hl 3 rfl) ?_
            refine va_get (D := κ.1) (ci := 6) (v := .ref (kR κ this 1)) (C := RX6) (T := TX6) (N := 27) hx hb hg inX6 hown hK (hT.o20 (hT.k t_this (by decide))).one 0 rfl rfl 1 (by decide) (hg _ k1220) (fun _ h9 => h9) rfl dX6_anew_90 ?_
            rw [erW]
            refine lv_bipush (v := 53) hx hb dX6_anew_93 (by decide) ?_
            refine lv_iload_n hx hb dX6_anew_95 rfl (lv_at hl 2 rfl) ?_
            refine lv_iadd hx hb dX6_anew_96 ?_
            first | refine g_add (by omega) (by omega) (fun t216 ht216 => ?_) | refine lv_topi (fun t216 ht216 => ?_)
            refine lv_iload_n hx hb dX6_anew_97 rfl (lv_at hl 0 rfl) ?_
            refine lv_iload_n hx hb dX6_anew_98 rfl (lv_at hl 1 rfl) ?_
            refine lv_isub hx hb dX6_anew_99 ?_
            first | refine g_sub (by omega) (by omega) (fun t217 ht217 => ?_) | refine lv_topi (fun t217 ht217 => ?_)
            refine lv_i2l hx hb dX6_anew_100 rfl ?_
            refine g_i2l (fun t218 ht218 => ?_)
            have hTo := hT
            refine tastlx (n := 609) hx hb hK hT (hT.k trW (by decide)) ⟨by decide, by decide⟩ (fun _ _ _ => rfl) (fun _ _ => trivial) (by omega) (by omega) (ge3_gW _ (by unfold ix; omega)) dX6_anew_101 (fun H locs s219 hus219 hT => ?_)
            refine lv_aload_n hx hb dX6_anew_102 rfl (lv_at hl 3 rfl) ?_
            refine va_get (D := κ.1) (ci := 6) (v := .ref (kR κ this 1)) (C := RX6) (T := TX6) (N := 27) hx hb hg inX6 hown hK (hT.o20 (hT.k t_this (by decide))).one 0 rfl rfl 1 (by decide) (hg _ k1220) (fun _ h9 => h9) rfl dX6_anew_103 ?_
            rw [erW]
            refine lv_bipush (v := 101) hx hb dX6_anew_106 (by decide) ?_
            refine lv_iload_n hx hb dX6_anew_108 rfl (lv_at hl 2 rfl) ?_
            refine lv_iadd hx hb dX6_anew_109 ?_
            first | refine g_add (by omega) (by omega) (fun t220 ht220 => ?_) | refine lv_topi (fun t220 ht220 => ?_)
            refine lv_ldc2 hx hb hown (hg _ k1218) dX6_anew_110 ?_
            have hTo := hT
            refine tastlx (n := 609) hx hb hK hT (hT.k trW (by decide)) ⟨by decide, by decide⟩ (fun _ _ _ => rfl) (fun _ _ => trivial) (by omega) (by omega) (ge3_gW _ (by unfold ix; omega)) dX6_anew_113 (fun H locs s221 hus221 hT => ?_)
            obtain ⟨t222, qt222⟩ : ∃ zz9 : Int32, k + Int32.ofInt 1 = zz9 := ⟨_, rfl⟩
            refine lv_iinc (v := t222) (lv' := [(1, .int t222), (3, .int t215), (2, .int t210), (0, .ref this)]) hx hb dX6_anew_114 hl (k := 2) rfl qt222 (by decide) rfl (fun ls hl => ?_)
            have ht222 : t222.toInt = k.toInt + 1 := by rw [← qt222]; exact v_addi rfl (show (Int32.ofInt 1).toInt = 1 from by decide) (by omega) (by omega)
            refine lv_goto (tgt := 16) hx hb dX6_anew_117 (by decide) ?_
            have AQ := q3.step (w1 := zJ s208 rW) (v1 := t207) (w2 := zJ s219 rW) (v2 := t218) (w3 := zJ s221 rW) (v3 := (-1)) (by omega) (by rw [zpul_Ja hus208]; exact congrArg (fun q9 => vp_updL _ q9 t207) (show ix t205 = 5 + ix k from by unfold ix; omega)) (by rw [zpul_Ja hus219]; exact congrArg (fun q9 => vp_updL _ q9 t218) (show ix t216 = 53 + ix k from by unfold ix; omega)) (by rw [zpul_Ja hus221]; exact congrArg (fun q9 => vp_updL _ q9 (-1)) (show ix t220 = 101 + ix k from by unfold ix; omega)) (by unfold wexp; first | (rw [if_pos (show ix k = rN σ0 this - 1 from by omega), if_pos (show ix k = 0 from by omega)]; omega) | (rw [if_pos (show ix k = rN σ0 this - 1 from by omega), if_neg (show ¬ ix k = 0 from by omega)]; omega) | (rw [if_neg (show ¬ ix k = rN σ0 this - 1 from by omega), if_pos (show ix k = 0 from by omega)]; omega) | (rw [if_neg (show ¬ ix k = rN σ0 this - 1 from by omega), if_neg (show ¬ ix k = 0 from by omega)]; omega)) (by first | omega | decide)
            have AW := q4.step (w1 := zJ s208 rW) (v1 := t207) (w2 := zJ s219 rW) (v2 := t218) (w3 := zJ s221 rW) (v3 := (-1)) (by omega) (by rw [zpul_Ja hus208]; exact congrArg (fun q9 => vp_updL _ q9 t207) (show ix t205 = 5 + ix k from by unfold ix; omega)) (by rw [zpul_Ja hus219]; exact congrArg (fun q9 => vp_updL _ q9 t218) (show ix t216 = 53 + ix k from by unfold ix; omega)) (by rw [zpul_Ja hus221]; exact congrArg (fun q9 => vp_updL _ q9 (-1)) (show ix t220 = 101 + ix k from by unfold ix; omega)) (by rw [ht207]; exact xf9)
            exact ih16 t222 _ _ _ _ hT  (by omega) (by omega) (by rw [show ix t222 = ix k + 1 from by unfold ix; omega]; exact AQ) (by rw [show ix t222 = ix k + 1 from by unfold ix; omega]; exact AW) (lv_sub hl [0, 3] rfl) (by omega)
          · have c5 := gi_eq c9
            refine lv_aload_n hx hb dX6_anew_71 rfl (lv_at hl 2 rfl) ?_
            refine va_get (D := κ.1) (ci := 6) (v := .ref (kR κ this 5)) (C := RX6) (T := TX6) (N := 27) hx hb hg inX6 hown hK (hT.o20 (hT.k t_this (by decide))).one 0 rfl rfl 5 (by decide) (hg _ k1224) (fun _ h9 => h9) rfl dX6_anew_72 ?_
            rw [erP]
            refine lv_iload_n hx hb dX6_anew_75 rfl (lv_at hl 1 rfl) ?_
            refine va_iald hx hb hK (hT.o25 (hT.k trP (by decide))).one 0 0 rfl rfl (g_in (by omega) (by omega)) dX6_anew_76 ?_
            refine lv_topi (fun t223 ht223 => ?_)
            have xt223 : (zI s208 rP (ix k)).toInt = t223.toInt := by rw [ht223]; exact congrArg (fun q9 => (zI s208 rP q9).toInt) (show ix k = ix k from rfl)
            try simp only [K211, P212] at xt223
            refine lv_goto (tgt := 88) hx hb dX6_anew_77 (by decide) ?_
            refine lv_istore_n (lv' := [(3, .int t223), (2, .int t210), (1, .int k), (0, .ref this)]) hx hb dX6_anew_88 rfl hl (by decide) rfl (fun ls hl => ?_)
            refine lv_aload_n hx hb dX6_anew_89 rfl (lv_at hl 3 rfl) ?_
            refine va_get (D := κ.1) (ci := 6) (v := .ref (kR κ this 1)) (C := RX6) (T := TX6) (N := 27) hx hb hg inX6 hown hK (hT.o20 (hT.k t_this (by decide))).one 0 rfl rfl 1 (by decide) (hg _ k1220) (fun _ h9 => h9) rfl dX6_anew_90 ?_
            rw [erW]
            refine lv_bipush (v := 53) hx hb dX6_anew_93 (by decide) ?_
            refine lv_iload_n hx hb dX6_anew_95 rfl (lv_at hl 2 rfl) ?_
            refine lv_iadd hx hb dX6_anew_96 ?_
            first | refine g_add (by omega) (by omega) (fun t224 ht224 => ?_) | refine lv_topi (fun t224 ht224 => ?_)
            refine lv_iload_n hx hb dX6_anew_97 rfl (lv_at hl 0 rfl) ?_
            refine lv_iload_n hx hb dX6_anew_98 rfl (lv_at hl 1 rfl) ?_
            refine lv_isub hx hb dX6_anew_99 ?_
            first | refine g_sub (by omega) (by omega) (fun t225 ht225 => ?_) | refine lv_topi (fun t225 ht225 => ?_)
            refine lv_i2l hx hb dX6_anew_100 rfl ?_
            refine g_i2l (fun t226 ht226 => ?_)
            have hTo := hT
            refine tastlx (n := 609) hx hb hK hT (hT.k trW (by decide)) ⟨by decide, by decide⟩ (fun _ _ _ => rfl) (fun _ _ => trivial) (by omega) (by omega) (ge3_gW _ (by unfold ix; omega)) dX6_anew_101 (fun H locs s227 hus227 hT => ?_)
            refine lv_aload_n hx hb dX6_anew_102 rfl (lv_at hl 3 rfl) ?_
            refine va_get (D := κ.1) (ci := 6) (v := .ref (kR κ this 1)) (C := RX6) (T := TX6) (N := 27) hx hb hg inX6 hown hK (hT.o20 (hT.k t_this (by decide))).one 0 rfl rfl 1 (by decide) (hg _ k1220) (fun _ h9 => h9) rfl dX6_anew_103 ?_
            rw [erW]
            refine lv_bipush (v := 101) hx hb dX6_anew_106 (by decide) ?_
            refine lv_iload_n hx hb dX6_anew_108 rfl (lv_at hl 2 rfl) ?_
            refine lv_iadd hx hb dX6_anew_109 ?_
            first | refine g_add (by omega) (by omega) (fun t228 ht228 => ?_) | refine lv_topi (fun t228 ht228 => ?_)
            refine lv_ldc2 hx hb hown (hg _ k1218) dX6_anew_110 ?_
            have hTo := hT
            refine tastlx (n := 609) hx hb hK hT (hT.k trW (by decide)) ⟨by decide, by decide⟩ (fun _ _ _ => rfl) (fun _ _ => trivial) (by omega) (by omega) (ge3_gW _ (by unfold ix; omega)) dX6_anew_113 (fun H locs s229 hus229 hT => ?_)
            obtain ⟨t230, qt230⟩ : ∃ zz9 : Int32, k + Int32.ofInt 1 = zz9 := ⟨_, rfl⟩
            refine lv_iinc (v := t230) (lv' := [(1, .int t230), (3, .int t223), (2, .int t210), (0, .ref this)]) hx hb dX6_anew_114 hl (k := 2) rfl qt230 (by decide) rfl (fun ls hl => ?_)
            have ht230 : t230.toInt = k.toInt + 1 := by rw [← qt230]; exact v_addi rfl (show (Int32.ofInt 1).toInt = 1 from by decide) (by omega) (by omega)
            refine lv_goto (tgt := 16) hx hb dX6_anew_117 (by decide) ?_
            have AQ := q3.step (w1 := zJ s208 rW) (v1 := t207) (w2 := zJ s227 rW) (v2 := t226) (w3 := zJ s229 rW) (v3 := (-1)) (by omega) (by rw [zpul_Ja hus208]; exact congrArg (fun q9 => vp_updL _ q9 t207) (show ix t205 = 5 + ix k from by unfold ix; omega)) (by rw [zpul_Ja hus227]; exact congrArg (fun q9 => vp_updL _ q9 t226) (show ix t224 = 53 + ix k from by unfold ix; omega)) (by rw [zpul_Ja hus229]; exact congrArg (fun q9 => vp_updL _ q9 (-1)) (show ix t228 = 101 + ix k from by unfold ix; omega)) (by unfold wexp; first | (rw [if_pos (show ix k = rN σ0 this - 1 from by omega), if_pos (show ix k = 0 from by omega)]; omega) | (rw [if_pos (show ix k = rN σ0 this - 1 from by omega), if_neg (show ¬ ix k = 0 from by omega)]; omega) | (rw [if_neg (show ¬ ix k = rN σ0 this - 1 from by omega), if_pos (show ix k = 0 from by omega)]; omega) | (rw [if_neg (show ¬ ix k = rN σ0 this - 1 from by omega), if_neg (show ¬ ix k = 0 from by omega)]; omega)) (by first | omega | decide)
            have AW := q4.step (w1 := zJ s208 rW) (v1 := t207) (w2 := zJ s227 rW) (v2 := t226) (w3 := zJ s229 rW) (v3 := (-1)) (by omega) (by rw [zpul_Ja hus208]; exact congrArg (fun q9 => vp_updL _ q9 t207) (show ix t205 = 5 + ix k from by unfold ix; omega)) (by rw [zpul_Ja hus227]; exact congrArg (fun q9 => vp_updL _ q9 t226) (show ix t224 = 53 + ix k from by unfold ix; omega)) (by rw [zpul_Ja hus229]; exact congrArg (fun q9 => vp_updL _ q9 (-1)) (show ix t228 = 101 + ix k from by unfold ix; omega)) (by rw [ht207]; exact xf9)
            exact ih16 t230 _ _ _ _ hT  (by omega) (by omega) (by rw [show ix t230 = ix k + 1 from by unfold ix; omega]; exact AQ) (by rw [show ix t230 = ix k + 1 from by unfold ix; omega]; exact AW) (lv_sub hl [0, 3] rfl) (by omega)
        · have c6 := gi_eq c9
          refine lv_aload_n hx hb dX6_anew_43 rfl (lv_at hl 1 rfl) ?_
          refine va_get (D := κ.1) (ci := 6) (v := .ref (kR κ this 5)) (C := RX6) (T := TX6) (N := 27) hx hb hg inX6 hown hK (hT.o20 (hT.k t_this (by decide))).one 0 rfl rfl 5 (by decide) (hg _ k1224) (fun _ h9 => h9) rfl dX6_anew_44 ?_
          rw [erP]
          refine lv_iconst (v := 0) hx hb dX6_anew_47 (by decide) ?_
          refine va_iald hx hb hK (hT.o25 (hT.k trP (by decide))).one 0 0 rfl rfl (g_in (by omega) (by omega)) dX6_anew_48 ?_
          refine lv_topi (fun t231 ht231 => ?_)
          have K232 : zI s208 this 7 = zI σ0 this 7 := hT.eI t_this (by decide) rfl rfl
          have K232n : (zI s208 this 7).toInt = (zI σ0 this 7).toInt := by rw [K232]
          have P233 : zI s208 rP = zI σ0 rP := funext fun k => hT.eI trP (by decide) rfl rfl
          have xt231 : (zI s208 rP 0).toInt = t231.toInt := by rw [ht231]; exact congrArg (fun q9 => (zI s208 rP q9).toInt) (show 0 = ix 0 from by decide)
          try simp only [K232, P233] at xt231
          refine lv_goto (tgt := 60) hx hb dX6_anew_49 (by decide) ?_
          refine lv_istore_n (lv' := [(2, .int t231), (1, .int k), (0, .ref this)]) hx hb dX6_anew_60 rfl hl (by decide) rfl (fun ls hl => ?_)
          refine lv_iload_n hx hb dX6_anew_61 rfl (lv_at hl 1 rfl) ?_
          refine lv_aload_n hx hb dX6_anew_62 rfl (lv_at hl 2 rfl) ?_
          refine va_get (D := κ.1) (ci := 6) (v := .int (zI s208 this 7)) (C := RX6) (T := TX6) (N := 27) hx hb hg inX6 hown hK (hT.o20 (hT.k t_this (by decide))).one 0 rfl rfl 7 (by decide) (hg _ k1226) (fun _ h9 => h9) rfl dX6_anew_63 ?_
          rw [(hT.eI t_this (by decide) rfl ev204)]
          refine lv_iconst (v := 1) hx hb dX6_anew_66 (by decide) ?_
          refine lv_isub hx hb dX6_anew_67 ?_
          first | refine g_sub (by omega) (by omega) (fun t234 ht234 => ?_) | refine lv_topi (fun t234 ht234 => ?_)
          refine lv_icmp_ne (tgt := 80) hx hb dX6_anew_68 (by decide) (fun c9 => ?_) (fun c9 => ?_)
          · have c7 := gi_ne c9
            have g3 := (hP (ix k + 1) (by omega)).1
            refine lv_aload_n hx hb dX6_anew_80 rfl (lv_at hl 2 rfl) ?_
            refine va_get (D := κ.1) (ci := 6) (v := .ref (kR κ this 5)) (C := RX6) (T := TX6) (N := 27) hx hb hg inX6 hown hK (hT.o20 (hT.k t_this (by decide))).one 0 rfl rfl 5 (by decide) (hg _ k1224) (fun _ h9 => h9) rfl dX6_anew_81 ?_
            rw [erP]
            refine lv_iload_n hx hb dX6_anew_84 rfl (lv_at hl 1 rfl) ?_
            refine lv_iconst (v := 1) hx hb dX6_anew_85 (by decide) ?_
            refine lv_iadd hx hb dX6_anew_86 ?_
            first | refine g_add (by omega) (by omega) (fun t235 ht235 => ?_) | refine lv_topi (fun t235 ht235 => ?_)
            refine va_iald hx hb hK (hT.o25 (hT.k trP (by decide))).one 0 0 rfl rfl (g_in (by omega) (by omega)) dX6_anew_87 ?_
            refine lv_topi (fun t236 ht236 => ?_)
            have xt236 : ((zI s208 rP) (ix k + 1)).toInt = t236.toInt := by rw [ht236]; exact congrArg (fun q9 => (zI s208 rP q9).toInt) (show ix k + 1 = ix t235 from by unfold ix; omega)
            try simp only [K232, P233] at xt236
            refine lv_istore_n (lv' := [(3, .int t236), (2, .int t231), (1, .int k), (0, .ref this)]) hx hb dX6_anew_88 rfl hl (by decide) rfl (fun ls hl => ?_)
            refine lv_aload_n hx hb dX6_anew_89 rfl (lv_at hl 3 rfl) ?_
            refine va_get (D := κ.1) (ci := 6) (v := .ref (kR κ this 1)) (C := RX6) (T := TX6) (N := 27) hx hb hg inX6 hown hK (hT.o20 (hT.k t_this (by decide))).one 0 rfl rfl 1 (by decide) (hg _ k1220) (fun _ h9 => h9) rfl dX6_anew_90 ?_
            rw [erW]
            refine lv_bipush (v := 53) hx hb dX6_anew_93 (by decide) ?_
            refine lv_iload_n hx hb dX6_anew_95 rfl (lv_at hl 2 rfl) ?_
            refine lv_iadd hx hb dX6_anew_96 ?_
            first | refine g_add (by omega) (by omega) (fun t237 ht237 => ?_) | refine lv_topi (fun t237 ht237 => ?_)
            refine lv_iload_n hx hb dX6_anew_97 rfl (lv_at hl 0 rfl) ?_
            refine lv_iload_n hx hb dX6_anew_98 rfl (lv_at hl 1 rfl) ?_
            refine lv_isub hx hb dX6_anew_99 ?_
            first | refine g_sub (by omega) (by omega) (fun t238 ht238 => ?_) | refine lv_topi (fun t238 ht238 => ?_)
            refine lv_i2l hx hb dX6_anew_100 rfl ?_
            refine g_i2l (fun t239 ht239 => ?_)
            have hTo := hT
            refine tastlx (n := 609) hx hb hK hT (hT.k trW (by decide)) ⟨by decide, by decide⟩ (fun _ _ _ => rfl) (fun _ _ => trivial) (by omega) (by omega) (ge3_gW _ (by unfold ix; omega)) dX6_anew_101 (fun H locs s240 hus240 hT => ?_)
            refine lv_aload_n hx hb dX6_anew_102 rfl (lv_at hl 3 rfl) ?_
            refine va_get (D := κ.1) (ci := 6) (v := .ref (kR κ this 1)) (C := RX6) (T := TX6) (N := 27) hx hb hg inX6 hown hK (hT.o20 (hT.k t_this (by decide))).one 0 rfl rfl 1 (by decide) (hg _ k1220) (fun _ h9 => h9) rfl dX6_anew_103 ?_
            rw [erW]
            refine lv_bipush (v := 101) hx hb dX6_anew_106 (by decide) ?_
            refine lv_iload_n hx hb dX6_anew_108 rfl (lv_at hl 2 rfl) ?_
            refine lv_iadd hx hb dX6_anew_109 ?_
            first | refine g_add (by omega) (by omega) (fun t241 ht241 => ?_) | refine lv_topi (fun t241 ht241 => ?_)
            refine lv_ldc2 hx hb hown (hg _ k1218) dX6_anew_110 ?_
            have hTo := hT
            refine tastlx (n := 609) hx hb hK hT (hT.k trW (by decide)) ⟨by decide, by decide⟩ (fun _ _ _ => rfl) (fun _ _ => trivial) (by omega) (by omega) (ge3_gW _ (by unfold ix; omega)) dX6_anew_113 (fun H locs s242 hus242 hT => ?_)
            obtain ⟨t243, qt243⟩ : ∃ zz9 : Int32, k + Int32.ofInt 1 = zz9 := ⟨_, rfl⟩
            refine lv_iinc (v := t243) (lv' := [(1, .int t243), (3, .int t236), (2, .int t231), (0, .ref this)]) hx hb dX6_anew_114 hl (k := 2) rfl qt243 (by decide) rfl (fun ls hl => ?_)
            have ht243 : t243.toInt = k.toInt + 1 := by rw [← qt243]; exact v_addi rfl (show (Int32.ofInt 1).toInt = 1 from by decide) (by omega) (by omega)
            refine lv_goto (tgt := 16) hx hb dX6_anew_117 (by decide) ?_
            have AQ := q3.step (w1 := zJ s208 rW) (v1 := t207) (w2 := zJ s240 rW) (v2 := t239) (w3 := zJ s242 rW) (v3 := (-1)) (by omega) (by rw [zpul_Ja hus208]; exact congrArg (fun q9 => vp_updL _ q9 t207) (show ix t205 = 5 + ix k from by unfold ix; omega)) (by rw [zpul_Ja hus240]; exact congrArg (fun q9 => vp_updL _ q9 t239) (show ix t237 = 53 + ix k from by unfold ix; omega)) (by rw [zpul_Ja hus242]; exact congrArg (fun q9 => vp_updL _ q9 (-1)) (show ix t241 = 101 + ix k from by unfold ix; omega)) (by unfold wexp; first | (rw [if_pos (show ix k = rN σ0 this - 1 from by omega), if_pos (show ix k = 0 from by omega)]; omega) | (rw [if_pos (show ix k = rN σ0 this - 1 from by omega), if_neg (show ¬ ix k = 0 from by omega)]; omega) | (rw [if_neg (show ¬ ix k = rN σ0 this - 1 from by omega), if_pos (show ix k = 0 from by omega)]; omega) | (rw [if_neg (show ¬ ix k = rN σ0 this - 1 from by omega), if_neg (show ¬ ix k = 0 from by omega)]; omega)) (by first | omega | decide)
            have AW := q4.step (w1 := zJ s208 rW) (v1 := t207) (w2 := zJ s240 rW) (v2 := t239) (w3 := zJ s242 rW) (v3 := (-1)) (by omega) (by rw [zpul_Ja hus208]; exact congrArg (fun q9 => vp_updL _ q9 t207) (show ix t205 = 5 + ix k from by unfold ix; omega)) (by rw [zpul_Ja hus240]; exact congrArg (fun q9 => vp_updL _ q9 t239) (show ix t237 = 53 + ix k from by unfold ix; omega)) (by rw [zpul_Ja hus242]; exact congrArg (fun q9 => vp_updL _ q9 (-1)) (show ix t241 = 101 + ix k from by unfold ix; omega)) (by rw [ht207]; exact xf9)
            exact ih16 t243 _ _ _ _ hT  (by omega) (by omega) (by rw [show ix t243 = ix k + 1 from by unfold ix; omega]; exact AQ) (by rw [show ix t243 = ix k + 1 from by unfold ix; omega]; exact AW) (lv_sub hl [0, 3] rfl) (by omega)
          · have c8 := gi_eq c9
            refine lv_aload_n hx hb dX6_anew_71 rfl (lv_at hl 2 rfl) ?_
            refine va_get (D := κ.1) (ci := 6) (v := .ref (kR κ this 5)) (C := RX6) (T := TX6) (N := 27) hx hb hg inX6 hown hK (hT.o20 (hT.k t_this (by decide))).one 0 rfl rfl 5 (by decide) (hg _ k1224) (fun _ h9 => h9) rfl dX6_anew_72 ?_
            rw [erP]
            refine lv_iload_n hx hb dX6_anew_75 rfl (lv_at hl 1 rfl) ?_
            refine va_iald hx hb hK (hT.o25 (hT.k trP (by decide))).one 0 0 rfl rfl (g_in (by omega) (by omega)) dX6_anew_76 ?_
            refine lv_topi (fun t244 ht244 => ?_)
            have xt244 : (zI s208 rP (ix k)).toInt = t244.toInt := by rw [ht244]; exact congrArg (fun q9 => (zI s208 rP q9).toInt) (show ix k = ix k from rfl)
            try simp only [K232, P233] at xt244
            refine lv_goto (tgt := 88) hx hb dX6_anew_77 (by decide) ?_
            refine lv_istore_n (lv' := [(3, .int t244), (2, .int t231), (1, .int k), (0, .ref this)]) hx hb dX6_anew_88 rfl hl (by decide) rfl (fun ls hl => ?_)
            refine lv_aload_n hx hb dX6_anew_89 rfl (lv_at hl 3 rfl) ?_
            refine va_get (D := κ.1) (ci := 6) (v := .ref (kR κ this 1)) (C := RX6) (T := TX6) (N := 27) hx hb hg inX6 hown hK (hT.o20 (hT.k t_this (by decide))).one 0 rfl rfl 1 (by decide) (hg _ k1220) (fun _ h9 => h9) rfl dX6_anew_90 ?_
            rw [erW]
            refine lv_bipush (v := 53) hx hb dX6_anew_93 (by decide) ?_
            refine lv_iload_n hx hb dX6_anew_95 rfl (lv_at hl 2 rfl) ?_
            refine lv_iadd hx hb dX6_anew_96 ?_
            first | refine g_add (by omega) (by omega) (fun t245 ht245 => ?_) | refine lv_topi (fun t245 ht245 => ?_)
            refine lv_iload_n hx hb dX6_anew_97 rfl (lv_at hl 0 rfl) ?_
            refine lv_iload_n hx hb dX6_anew_98 rfl (lv_at hl 1 rfl) ?_
            refine lv_isub hx hb dX6_anew_99 ?_
            first | refine g_sub (by omega) (by omega) (fun t246 ht246 => ?_) | refine lv_topi (fun t246 ht246 => ?_)
            refine lv_i2l hx hb dX6_anew_100 rfl ?_
            refine g_i2l (fun t247 ht247 => ?_)
            have hTo := hT
            refine tastlx (n := 609) hx hb hK hT (hT.k trW (by decide)) ⟨by decide, by decide⟩ (fun _ _ _ => rfl) (fun _ _ => trivial) (by omega) (by omega) (ge3_gW _ (by unfold ix; omega)) dX6_anew_101 (fun H locs s248 hus248 hT => ?_)
            refine lv_aload_n hx hb dX6_anew_102 rfl (lv_at hl 3 rfl) ?_
            refine va_get (D := κ.1) (ci := 6) (v := .ref (kR κ this 1)) (C := RX6) (T := TX6) (N := 27) hx hb hg inX6 hown hK (hT.o20 (hT.k t_this (by decide))).one 0 rfl rfl 1 (by decide) (hg _ k1220) (fun _ h9 => h9) rfl dX6_anew_103 ?_
            rw [erW]
            refine lv_bipush (v := 101) hx hb dX6_anew_106 (by decide) ?_
            refine lv_iload_n hx hb dX6_anew_108 rfl (lv_at hl 2 rfl) ?_
            refine lv_iadd hx hb dX6_anew_109 ?_
            first | refine g_add (by omega) (by omega) (fun t249 ht249 => ?_) | refine lv_topi (fun t249 ht249 => ?_)
            refine lv_ldc2 hx hb hown (hg _ k1218) dX6_anew_110 ?_
            have hTo := hT
            refine tastlx (n := 609) hx hb hK hT (hT.k trW (by decide)) ⟨by decide, by decide⟩ (fun _ _ _ => rfl) (fun _ _ => trivial) (by omega) (by omega) (ge3_gW _ (by unfold ix; omega)) dX6_anew_113 (fun H locs s250 hus250 hT => ?_)
            obtain ⟨t251, qt251⟩ : ∃ zz9 : Int32, k + Int32.ofInt 1 = zz9 := ⟨_, rfl⟩
            refine lv_iinc (v := t251) (lv' := [(1, .int t251), (3, .int t244), (2, .int t231), (0, .ref this)]) hx hb dX6_anew_114 hl (k := 2) rfl qt251 (by decide) rfl (fun ls hl => ?_)
            have ht251 : t251.toInt = k.toInt + 1 := by rw [← qt251]; exact v_addi rfl (show (Int32.ofInt 1).toInt = 1 from by decide) (by omega) (by omega)
            refine lv_goto (tgt := 16) hx hb dX6_anew_117 (by decide) ?_
            have AQ := q3.step (w1 := zJ s208 rW) (v1 := t207) (w2 := zJ s248 rW) (v2 := t247) (w3 := zJ s250 rW) (v3 := (-1)) (by omega) (by rw [zpul_Ja hus208]; exact congrArg (fun q9 => vp_updL _ q9 t207) (show ix t205 = 5 + ix k from by unfold ix; omega)) (by rw [zpul_Ja hus248]; exact congrArg (fun q9 => vp_updL _ q9 t247) (show ix t245 = 53 + ix k from by unfold ix; omega)) (by rw [zpul_Ja hus250]; exact congrArg (fun q9 => vp_updL _ q9 (-1)) (show ix t249 = 101 + ix k from by unfold ix; omega)) (by unfold wexp; first | (rw [if_pos (show ix k = rN σ0 this - 1 from by omega), if_pos (show ix k = 0 from by omega)]; omega) | (rw [if_pos (show ix k = rN σ0 this - 1 from by omega), if_neg (show ¬ ix k = 0 from by omega)]; omega) | (rw [if_neg (show ¬ ix k = rN σ0 this - 1 from by omega), if_pos (show ix k = 0 from by omega)]; omega) | (rw [if_neg (show ¬ ix k = rN σ0 this - 1 from by omega), if_neg (show ¬ ix k = 0 from by omega)]; omega)) (by first | omega | decide)
            have AW := q4.step (w1 := zJ s208 rW) (v1 := t207) (w2 := zJ s248 rW) (v2 := t247) (w3 := zJ s250 rW) (v3 := (-1)) (by omega) (by rw [zpul_Ja hus208]; exact congrArg (fun q9 => vp_updL _ q9 t207) (show ix t205 = 5 + ix k from by unfold ix; omega)) (by rw [zpul_Ja hus248]; exact congrArg (fun q9 => vp_updL _ q9 t247) (show ix t245 = 53 + ix k from by unfold ix; omega)) (by rw [zpul_Ja hus250]; exact congrArg (fun q9 => vp_updL _ q9 (-1)) (show ix t249 = 101 + ix k from by unfold ix; omega)) (by rw [ht207]; exact xf9)
            exact ih16 t251 _ _ _ _ hT  (by omega) (by omega) (by rw [show ix t251 = ix k + 1 from by unfold ix; omega]; exact AQ) (by rw [show ix t251 = ix k + 1 from by unfold ix; omega]; exact AW) (lv_sub hl [0, 3] rfl) (by omega)
  exact loop16 (((zI σ0 this 7).toInt - (0 : Int32).toInt).toNat + 1) 0 _ _ _ _ hT  (by omega) (by omega) ⟨by rw [zpul_Ja hus202, ix_4, uh]; decide, fun j hj => by rw [ix_0] at hj; omega⟩ (fun j hj => by rw [ix_0] at hj; omega) hl (by omega)
set_option maxHeartbeats 4000000 in
set_option maxRecDepth 100000 in
theorem X6v_bitsNow (l : Launch) (κ : Kt) (σ0 : Gh) (this : Nat) (t_this : zk σ0 this 20) (h0 : RI κ σ0 this) (h1 : ∀ j : Nat, (j : Int) < ((zJ σ0 (kR κ this 1)) 4).toInt → -2228000000 ≤ rst (zJ σ0 (kR κ this 1)) j 3 ∧ rst (zJ σ0 (kR κ this 1)) j 3 ≤ 2228000000) : TC l yX6_bitsNow cX6_bitsNow 5 (some .int) 1 22 [.ref this] κ σ0 (tqi κ fE σ0 (fun (r : Int32) (τ : Gh) => (r.toInt = fsum ((zJ σ0 (kR κ this 1)) 4).toInt.toNat (fun j => 1 + ((blen (rst (zJ σ0 (kR κ this 1)) j 3).natAbs : Nat) : Int))))) := by
  refine TC.of fE (by decide +kernel) (Nat.le_of_ble_eq_true rfl) ?_
  intro p e s m below meth c ls hcs hK hX hT hl
  obtain ⟨hx, hb, hr, hml, hown, hg, hlocks, hin⟩ := hcs
  have hown : s.vm.findClass RX6 = some m.cls := hown
  have hl : lv_has ls 5 [(0, .ref this)] := hl
  have hT0 := hT
  have n0 : (0 : Int32).toInt = 0 := by decide
  have n3 : (3 : Int32).toInt = 3 := by decide
  have j0 : (0 : Int64).toInt = 0 := by decide
  have j2 : (2 : Int64).toInt = 2 := by decide
  generalize hQ9 : tQ _ _ _ _ _ _ = Q9
  obtain ⟨rW, erW⟩ : ∃ z, kR κ this 1 = z := ⟨_, rfl⟩
  have trW : zk σ0 rW 21 := by rw [← erW]; exact h0.1.2.1
  obtain ⟨rP, erP⟩ : ∃ z, kR κ this 5 = z := ⟨_, rfl⟩
  have trP : zk σ0 rP 25 := by rw [← erP]; exact h0.1.2.2.2.2
  have hB0 := h0.b
  rw [erW] at hB0
  have hW := h0.2.1
  rw [erW] at hW
  have hP := h0.2.2.1
  rw [erP] at hP
  have hrN : (rN σ0 this : Int) = (zI σ0 this 7).toInt := by unfold rN; omega
  try simp only [erW, erP] at h1
  have hDB := h1
  obtain ⟨M9, hM9⟩ : ∃ z : Int, z = ((zJ σ0 rW) 4).toInt := ⟨_, rfl⟩
  refine lv_aload_n hx hb dX6_bitsNow_0 rfl (lv_at hl 0 rfl) ?_
  have hTo := hT
  refine tVi (n := 0) (As := []) (rest := []) hx hb hml hown hg hT hK hX (X6_steps l κ σ0 this  (hT.k t_this (by decide)) h0) (fun _ _ h => h) (mwV k1416 k1418 k52 k92 k1419) ⟨rfl, by decide, by decide, by decide +kernel⟩ ⟨(Nat.le_of_ble_eq_true rfl), (Nat.le_of_ble_eq_true rfl)⟩ (hT.o20 (hT.k t_this (by decide))) rfl rfl hl.1 rfl (Nat.le_of_ble_eq_true rfl) dX6_bitsNow_1 zroom.rf (fun x201 s202 H locs hφ hEs202 hT => ?_)
  have f203 := hφ
  have K204 : zI s202 this 7 = zI σ0 this 7 := hT.eI t_this (by decide) rfl rfl
  have K204n : (zI s202 this 7).toInt = (zI σ0 this 7).toInt := by rw [K204]
  have K204r : rN s202 this = rN σ0 this := by unfold rN; rw [K204]
  have J205 : zJ s202 rW = zJ σ0 rW := funext fun k => hT.eJ trW (by decide) rfl rfl
  have J205n : (zJ s202 (kR κ this 1) 4).toInt = (zJ σ0 rW 4).toInt := by rw [erW, J205]
  have P206 : zI s202 rP = zI σ0 rP := funext fun k => hT.eI trP (by decide) rfl rfl
  try simp only [erW, erP, ix_0, ix_1, ix_2, ix_3, ix_4, ix_5, ix_6, ix_7, ix_8, ix_9, K204, K204r, J205, P206] at f203
  refine lv_istore_n (lv' := [(1, .int x201), (0, .ref this)]) hx hb dX6_bitsNow_4 rfl hl (by decide) rfl (fun ls hl => ?_)
  refine lv_iconst (v := 0) hx hb dX6_bitsNow_5 (by decide) ?_
  refine lv_istore_n (lv' := [(2, .int 0), (1, .int x201), (0, .ref this)]) hx hb dX6_bitsNow_6 rfl hl (by decide) rfl (fun ls hl => ?_)
  have loop7 : ∀ (n9 : Nat) (k : Int32) (n : Int32) (H : Heap) (locs : List Loc) (sg : Gh) (ls : Array Slot), TS κ fE σ0 sg s H locs → (0 ≤ k.toInt) → (k.toInt ≤ (zJ σ0 rW 4).toInt) → (n.toInt = M9 + fsum (ix k) (fun j => 1 + ((blen (rst (zJ σ0 rW) j 3).natAbs : Nat) : Int)) - (ix k : Nat)) → (0 ≤ n.toInt ∧ n.toInt ≤ M9 + 33 * k.toInt) → lv_has ls 5 [(2, .int k), (1, .int n), (0, .ref this)] → ((zJ σ0 rW 4).toInt - k.toInt) < n9 → tW p l e 1 22 κ s m #[.ref this] below meth c H locs Q9 (F0 m 7 ls []) := by
    intro n9
    induction n9 with
    | zero =>
      intro k n H locs sg ls hT q1 q2 q3 q4 hl hm9
      exfalso
      omega
    | succ n9 ih9 =>
      have ih7 := ih9
      clear ih9
      intro k n H locs s207 ls hT q1 q2 q3 q4 hl hm9
      refine lv_iload_n hx hb dX6_bitsNow_7 rfl (lv_at hl 0 rfl) ?_
      refine lv_aload_n hx hb dX6_bitsNow_8 rfl (lv_at hl 2 rfl) ?_
      have K208 : zI s207 this 7 = zI σ0 this 7 := hT.eI t_this (by decide) rfl rfl
      have K208n : (zI s207 this 7).toInt = (zI σ0 this 7).toInt := by rw [K208]
      have K208r : rN s207 this = rN σ0 this := by unfold rN; rw [K208]
      have J209 : zJ s207 rW = zJ σ0 rW := funext fun k => hT.eJ trW (by decide) rfl rfl
      have J209n : (zJ s207 (kR κ this 1) 4).toInt = (zJ σ0 rW 4).toInt := by rw [erW, J209]
      have P210 : zI s207 rP = zI σ0 rP := funext fun k => hT.eI trP (by decide) rfl rfl
      have R211 : RI κ s207 this := h0.ext hT.2.2.1 ⟨rfl, rfl, fun _ => rfl, fun _ => rfl, fun _ => rfl, fun _ => rfl⟩
      have hTo := hT
      refine tVi (n := 0) (As := []) (rest := [.int k]) hx hb hml hown hg hT hK hX (X6_steps l κ s207 this  (hT.k t_this (by decide)) R211) (fun _ _ h => h) (mwV k1416 k1418 k52 k92 k1419) ⟨rfl, by decide, by decide, by decide +kernel⟩ ⟨(Nat.le_of_ble_eq_true rfl), (Nat.le_of_ble_eq_true rfl)⟩ (hT.o20 (hT.k t_this (by decide))) rfl rfl hl.1 rfl (Nat.le_of_ble_eq_true rfl) dX6_bitsNow_9 zroom.rf (fun x212 s213 H locs hφ hEs213 hT => ?_)
      have f214 := hφ
      have K215 : zI s213 this 7 = zI σ0 this 7 := hT.eI t_this (by decide) rfl rfl
      have K215n : (zI s213 this 7).toInt = (zI σ0 this 7).toInt := by rw [K215]
      have K215r : rN s213 this = rN σ0 this := by unfold rN; rw [K215]
      have J216 : zJ s213 rW = zJ σ0 rW := funext fun k => hT.eJ trW (by decide) rfl rfl
      have J216n : (zJ s213 (kR κ this 1) 4).toInt = (zJ σ0 rW 4).toInt := by rw [erW, J216]
      have P217 : zI s213 rP = zI σ0 rP := funext fun k => hT.eI trP (by decide) rfl rfl
      try simp only [erW, erP, ix_0, ix_1, ix_2, ix_3, ix_4, ix_5, ix_6, ix_7, ix_8, ix_9, K208, K208r, J209, P210, K215, K215r, J216, P217] at f214
      refine lv_icmp_ge (tgt := 49) hx hb dX6_bitsNow_12 (by decide) (fun c9 => ?_) (fun c9 => ?_)
      · have c1 := gi_le c9
        refine lv_iload_n hx hb dX6_bitsNow_49 rfl (lv_at hl 1 rfl) ?_
        have b9 : ix k = ((zJ σ0 rW) 4).toInt.toNat := by unfold ix; omega
        rw [b9] at q3
        subst hQ9
        exact t_i hx hb hr hlocks hT (by rw [erW]; omega) dX6_bitsNow_50
      · have c2 := gi_nle c9
        refine lv_aload_n hx hb dX6_bitsNow_15 rfl (lv_at hl 2 rfl) ?_
        refine lv_iload_n hx hb dX6_bitsNow_16 rfl (lv_at hl 0 rfl) ?_
        refine lv_iconst (v := 3) hx hb dX6_bitsNow_17 (by decide) ?_
        have hTo := hT
        refine tVl (n := 2) (As := [.int k, .int 3]) (rest := []) hx hb hml hown hg hT hK hX (X6_of l κ s213 this k 3  (hT.k t_this (by decide)) (by omega) (by omega) (by omega) (by omega)) (fun _ _ h => h) (mwV k1424 k1426 k54 k92 k1427) ⟨rfl, by decide, by decide, by decide +kernel⟩ ⟨(Nat.le_of_ble_eq_true rfl), (Nat.le_of_ble_eq_true rfl)⟩ (hT.o20 (hT.k t_this (by decide))) rfl rfl hl.1 rfl (Nat.le_of_ble_eq_true rfl) dX6_bitsNow_18 zroom.rf (fun x218 s219 H locs hφ hEs219 hT => ?_)
        have f220 := hφ
        have K221 : zI s219 this 7 = zI σ0 this 7 := hT.eI t_this (by decide) rfl rfl
        have K221n : (zI s219 this 7).toInt = (zI σ0 this 7).toInt := by rw [K221]
        have K221r : rN s219 this = rN σ0 this := by unfold rN; rw [K221]
        have J222 : zJ s219 rW = zJ σ0 rW := funext fun k => hT.eJ trW (by decide) rfl rfl
        have J222n : (zJ s219 (kR κ this 1) 4).toInt = (zJ σ0 rW 4).toInt := by rw [erW, J222]
        have P223 : zI s219 rP = zI σ0 rP := funext fun k => hT.eI trP (by decide) rfl rfl
        try simp only [erW, erP, ix_0, ix_1, ix_2, ix_3, ix_4, ix_5, ix_6, ix_7, ix_8, ix_9, K215, K215r, J216, P217, K221, K221r, J222, P223] at f220
        have i_k : (ix k : Int) = k.toInt := by unfold ix; omega
        have bd9 := hDB (ix k) (by omega)
        have yd9 : x218.toInt = rst (zJ σ0 rW) (ix k) 3 := by omega
        have hTo := hT
        refine tSl (n := 1) (As := [.long x218]) (rest := []) hx hb hml hown hg hT hK hX (X6_amount l κ s219 x218   ) (fun _ _ h => h) (mwS k1488 k1489 k92 k1490) ⟨rfl, by decide, by decide, by decide +kernel⟩ ⟨(Nat.le_of_ble_eq_true rfl), (Nat.le_of_ble_eq_true rfl)⟩ rfl hl.1 rfl (Nat.le_of_ble_eq_true rfl) dX6_bitsNow_21 zroom.rf (fun x224 s225 H locs hφ hEs225 hT => ?_)
        have f226 := hφ
        have K227 : zI s225 this 7 = zI σ0 this 7 := hT.eI t_this (by decide) rfl rfl
        have K227n : (zI s225 this 7).toInt = (zI σ0 this 7).toInt := by rw [K227]
        have K227r : rN s225 this = rN σ0 this := by unfold rN; rw [K227]
        have J228 : zJ s225 rW = zJ σ0 rW := funext fun k => hT.eJ trW (by decide) rfl rfl
        have J228n : (zJ s225 (kR κ this 1) 4).toInt = (zJ σ0 rW 4).toInt := by rw [erW, J228]
        have P229 : zI s225 rP = zI σ0 rP := funext fun k => hT.eI trP (by decide) rfl rfl
        try simp only [erW, erP, ix_0, ix_1, ix_2, ix_3, ix_4, ix_5, ix_6, ix_7, ix_8, ix_9, K221, K221r, J222, P223, K227, K227r, J228, P229] at f226
        have ea9 : x224.toInt = ab x218.toInt := by
          rw [f226]; unfold ab
          by_cases z9 : x218.toInt < 0
          · rw [if_pos z9, if_pos z9]; exact v_neg rfl (by omega) (by omega)
          · rw [if_neg z9, if_neg z9]
        have ab9 := ab_nn x218.toInt
        have en9 : x224.toInt.toNat = (rst (zJ σ0 rW) (ix k) 3).natAbs := by omega
        have bl9 : blen (rst (zJ σ0 rW) (ix k) 3).natAbs ≤ 32 := blen_le (by omega)
        obtain ⟨n7, hn7⟩ : ∃ z, z = n.toInt := ⟨_, rfl⟩
        refine lv_lstore_n (lv' := [(3, .long x224), (2, .int k), (1, .int n), (0, .ref this)]) hx hb dX6_bitsNow_24 rfl hl (by decide) rfl (fun ls hl => ?_)
        have loop25 : ∀ (n9 : Nat) (n1 : Int32) (v : Int64) (H : Heap) (locs : List Loc) (sg : Gh) (ls : Array Slot), TS κ fE σ0 sg s H locs → (n1.toInt + ((blen v.toInt.toNat : Nat) : Int) = n7 + ((blen (rst (zJ σ0 rW) (ix k) 3).natAbs : Nat) : Int)) → (0 ≤ v.toInt) → (n7 ≤ n1.toInt) → lv_has ls 5 [(1, .int n1), (3, .long v), (2, .int k), (0, .ref this)] → ((v.toInt.toNat : Int)) < n9 → tW p l e 1 22 κ s m #[.ref this] below meth c H locs Q9 (F0 m 25 ls []) := by
          intro n9
          induction n9 with
          | zero =>
            intro n1 v H locs sg ls hT u1 u2 u3 hl hm9
            exfalso
            omega
          | succ n9 ih9 =>
            have ih25 := ih9
            clear ih9
            intro n1 v H locs s230 ls hT u1 u2 u3 hl hm9
            refine lv_lload_n hx hb dX6_bitsNow_25 rfl (lv_at hl 1 rfl) ?_
            refine lv_lconst (v := 0) hx hb dX6_bitsNow_26 (by decide) ?_
            refine W.lcmp hx hb dX6_bitsNow_27 ?_
            refine lv_if_le (tgt := 43) hx hb dX6_bitsNow_28 (by decide) (fun c9 => ?_) (fun c9 => ?_)
            · have c3 := gl_le c9
              obtain ⟨t231, qt231⟩ : ∃ zz9 : Int32, k + Int32.ofInt 1 = zz9 := ⟨_, rfl⟩
              refine lv_iinc (v := t231) (lv' := [(2, .int t231), (1, .int n1), (3, .long v), (0, .ref this)]) hx hb dX6_bitsNow_43 hl (k := 2) rfl qt231 (by decide) rfl (fun ls hl => ?_)
              have ht231 : t231.toInt = k.toInt + 1 := by rw [← qt231]; exact v_addi rfl (show (Int32.ofInt 1).toInt = 1 from by decide) (by omega) (by omega)
              refine lv_goto (tgt := 7) hx hb dX6_bitsNow_46 (by decide) ?_
              exact ih7 t231 n1 _ _ _ _ hT  (by omega) (by omega) (by rw [show ix t231 = ix k + 1 from by unfold ix; omega, fsum]; show _ = M9 + (fsum (ix k) _ + _) - (ix k + 1 : Nat); rw [show blen v.toInt.toNat = 0 from by rw [show v.toInt.toNat = 0 from by omega]; rfl] at u1; show n1.toInt = M9 + (fsum (ix k) (fun j => 1 + ((blen (rst (zJ σ0 rW) j 3).natAbs : Nat) : Int)) + (1 + ((blen (rst (zJ σ0 rW) (ix k) 3).natAbs : Nat) : Int))) - ((ix k + 1 : Nat) : Int); omega) (by omega) (lv_sub hl [0, 1, 3] rfl) (by omega)
            · have c4 := gl_nle c9
              obtain ⟨t232, qt232⟩ : ∃ zz9 : Int32, n1 + Int32.ofInt 1 = zz9 := ⟨_, rfl⟩
              refine lv_iinc (v := t232) (lv' := [(1, .int t232), (3, .long v), (2, .int k), (0, .ref this)]) hx hb dX6_bitsNow_31 hl (k := 0) rfl qt232 (by decide) rfl (fun ls hl => ?_)
              have ht232 : t232.toInt = n1.toInt + 1 := by rw [← qt232]; exact v_addi rfl (show (Int32.ofInt 1).toInt = 1 from by decide) (by omega) (by omega)
              refine lv_lload_n hx hb dX6_bitsNow_34 rfl (lv_at hl 1 rfl) ?_
              refine lv_ldc2 hx hb hown (hg _ k1510) dX6_bitsNow_35 ?_
              refine lv_ldiv hx hb dX6_bitsNow_38 (gl_nz (by omega)) ?_
              refine g_ldivk (k := 2) j2 (by decide) (fun t233 ht233 => ?_)
              refine lv_lstore_n (lv' := [(3, .long t233), (1, .int t232), (2, .int k), (0, .ref this)]) hx hb dX6_bitsNow_39 rfl hl (by decide) rfl (fun ls hl => ?_)
              refine lv_goto (tgt := 25) hx hb dX6_bitsNow_40 (by decide) ?_
              exact ih25 t232 t233 _ _ _ _ hT  (by have z9 := blen_half (x := v.toInt.toNat) (by omega); rw [show v.toInt.toNat / 2 = t233.toInt.toNat from by omega] at z9; omega) (by omega) (by omega) (lv_sub hl [1, 0, 2, 3] rfl) (by omega)
        exact loop25 (((x224.toInt.toNat : Int)).toNat + 1) n x224 _ _ _ _ hT  (by rw [en9]; omega) (by omega) (by omega) (lv_sub hl [2, 0, 1, 3] rfl) (by omega)
  exact loop7 (((zJ σ0 rW 4).toInt - (0 : Int32).toInt).toNat + 1) 0 x201 _ _ _ _ hT  (by omega) (by omega) (by rw [ix_0]; show _ = M9 + 0 - 0; omega) (by omega) hl (by omega)
