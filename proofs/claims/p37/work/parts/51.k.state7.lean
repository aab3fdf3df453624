/-! States with their numbers: a whole pass -/
set_option maxHeartbeats 4000000 in
set_option maxRecDepth 100000 in
theorem X1v_liftChosen (l : Launch) (κ : Kt) (σ0 : Gh) (this : Nat) (n : Int32) {N : Nat} {P V : Nat → Int} {rl : Int} (t_this : zk σ0 this 3) (h0 : SST κ σ0 this N P (ini N P V)) (h1 : PLI N P) (h2 : DW κ this) (h3 : 2 ≤ N) (h4 : ∀ k, k < N → -9999 ≤ V k ∧ V k ≤ 9999) (h5 : (zI σ0 this 8).toInt = rl) (h6 : rl = 0 ∨ rl = 1 ∨ rl = 2) (h7 : n.toInt = 46) : TC l yX1_liftChosen cX1_liftChosen 4 (some .int) 5 125 [.ref this, .int n] κ σ0 (tqi κ fLv σ0 (fun (r : Int32) (τ : Gh) => (∃ Y, SST κ τ this N P Y ∧ Run N P (zI σ0 (kR κ this 0) 6).toInt (zI σ0 this 7).toInt rl (zI σ0 this 9).toInt (ini N P V) Y ∧ Y.2.2.2.2 ≤ 46))) := by
  refine TC.of fLv (by decide +kernel) (Nat.le_of_ble_eq_true rfl) ?_
  intro p e s m below meth c ls hcs hK hX hT hl
  obtain ⟨hx, hb, hr, hml, hown, hg, hlocks, hin⟩ := hcs
  have hown : s.vm.findClass RX1 = some m.cls := hown
  have hl : lv_has ls 4 [(0, .ref this), (1, .int n)] := hl
  have hT0 := hT
  have nm1 : ((-1) : Int32).toInt = (-1) := by decide
  have n0 : (0 : Int32).toInt = 0 := by decide
  have n_lo := Int32.le_toInt n
  have n_hi := Int32.toInt_lt n
  generalize hQ9 : tQ _ _ _ _ _ _ = Q9
  obtain ⟨src, esrc⟩ : ∃ z, kR κ this 0 = z := ⟨_, rfl⟩
  have tsrc : zk σ0 src 4 := by rw [← esrc]; exact hT0.ref t_this (by decide) (by decide) (by decide)
  have bsrc := (hT0.P tsrc (by decide)).1
  have bsrcl := bsrc.1
  have bsrch := bsrc.2
  have hN : (zI σ0 (kR κ this 0) 2).toInt = (N : Int) := h0.1.1
  rw [esrc] at hN
  have hP48 : 2 ≤ N ∧ N ≤ 48 := by omega
  refine lv_iconst (v := 0) hx hb dX1_liftChosen_0 (by decide) ?_
  refine lv_istore_n (lv' := [(2, .int 0), (0, .ref this), (1, .int n)]) hx hb dX1_liftChosen_1 rfl hl (by decide) rfl (fun ls hl => ?_)
  have loop2 : ∀ (n9 : Nat) (j : Int32) (H : Heap) (locs : List Loc) (sg : Gh) (ls : Array Slot), TS κ fLv σ0 sg s H locs → (0 ≤ j.toInt) → (j.toInt ≤ n.toInt) → (∃ Y, SST κ sg this N P Y ∧ Rn N P (zI σ0 (kR κ this 0) 6).toInt (zI σ0 this 7).toInt rl (zI σ0 this 9).toInt j.toInt.toNat (ini N P V) Y) → lv_has ls 4 [(2, .int j), (0, .ref this), (1, .int n)] → (n.toInt - j.toInt) < n9 → tW p l e 5 125 κ s m #[.ref this, .int n] below meth c H locs Q9 (F0 m 2 ls []) := by
    intro n9
    induction n9 with
    | zero =>
      intro j H locs sg ls hT q1 q2 q3 hl hm9
      exfalso
      omega
    | succ n9 ih9 =>
      have ih2 := ih9
      clear ih9
      intro j H locs s201 ls hT q1 q2 q3 hl hm9
      refine lv_iload_n hx hb dX1_liftChosen_2 rfl (lv_at hl 0 rfl) ?_
      refine lv_iload_n hx hb dX1_liftChosen_3 rfl (lv_at hl 2 rfl) ?_
      refine lv_icmp_ge (tgt := 32) hx hb dX1_liftChosen_4 (by decide) (fun c9 => ?_) (fun c9 => ?_)
      · have c1 := gi_le c9
        refine lv_iload_n hx hb dX1_liftChosen_32 rfl (lv_at hl 0 rfl) ?_
        subst hQ9
        exact t_i hx hb hr hlocks hT (q3.elim fun Y q9 => ⟨Y, q9.1, ⟨46, Nat.le_refl _, by rw [show j.toInt.toNat = 46 from by omega] at q9; exact q9.2, Or.inl rfl⟩, by have z9 := (q9.2.piv hP48 h1 h6 h4).2; omega⟩) dX1_liftChosen_33
      · have c2 := gi_nle c9
        obtain ⟨⟨v, w, la, dt, ma⟩, hS, hR⟩ := q3
        obtain ⟨hPI, hm8⟩ := hR.piv hP48 h1 h6 h4
        have hm9 : ma = j.toInt.toNat := hm8
        clear hm8
        have hmm : ma ≤ 46 := by omega
        refine lv_aload_n hx hb dX1_liftChosen_7 rfl (lv_at hl 1 rfl) ?_
        have hTo := hT
        refine tVi (n := 0) (As := []) (rest := []) hx hb hml hown hg hT hK hX (X1v_chosenSample (N := N) (P := P) (v := v) (w := w) (la := la) (dt := dt) (rl := rl) (ma := ma) l κ s201 this  (hT.k t_this (by decide)) hS h1 h2 hPI (by omega) (by rw [show zI s201 this 8 = zI σ0 this 8 from t_this.eI hT.2.2.1 (by decide) rfl]; exact h5) h6) sub_fX_fLv (mwV k530 k531 k532 k87 k533) ⟨rfl, by decide, by decide, by decide +kernel⟩ ⟨(Nat.le_of_ble_eq_true rfl), (Nat.le_of_ble_eq_true rfl)⟩ (hT.o3 (hT.k t_this (by decide))) rfl rfl hl.1 rfl (Nat.le_of_ble_eq_true rfl) dX1_liftChosen_8 zroom.rf (fun x202 s203 H locs hφ hEs203 hT => ?_)
        obtain ⟨f204, f205⟩ := hφ
        rw [show zI s201 (kR κ this 0) 6 = zI σ0 (kR κ this 0) 6 from (show zk σ0 (kR κ this 0) 4 by rw [esrc]; exact tsrc).eI hTo.2.2.1 (by decide) rfl, show zI s201 this 7 = zI σ0 this 7 from t_this.eI hTo.2.2.1 (by decide) rfl] at f204
        have hS206 := hS.fp hTo (hTo.k t_this (by decide)) hEs203 ⟨rfl, fun _ => rfl, fun _ => rfl, fun _ => rfl, rfl⟩ f205 hP48.2 (show ma ≤ 46 by omega) (fun i hi q9 => q9.elim (h2.vp (by omega)) (h2.vr (by omega))) (fun j hj q9 => q9.elim (h2.dp (Nat.lt_of_lt_of_le hj hmm)) (h2.dr (Nat.lt_of_lt_of_le hj hmm)))
        refine lv_istore_n (lv' := [(3, .int x202), (2, .int j), (0, .ref this), (1, .int n)]) hx hb dX1_liftChosen_11 rfl hl (by decide) rfl (fun ls hl => ?_)
        refine lv_iload_n hx hb dX1_liftChosen_12 rfl (lv_at hl 0 rfl) ?_
        refine lv_iconst (v := (-1)) hx hb dX1_liftChosen_13 (by decide) ?_
        refine lv_icmp_ne (tgt := 20) hx hb dX1_liftChosen_14 (by decide) (fun c9 => ?_) (fun c9 => ?_)
        · have c3 := gi_ne c9
          refine lv_aload_n hx hb dX1_liftChosen_20 rfl (lv_at hl 2 rfl) ?_
          refine lv_iload_n hx hb dX1_liftChosen_21 rfl (lv_at hl 0 rfl) ?_
          rcases f204 with ⟨f9, -⟩ | ⟨k, f9, hCH⟩
          · exfalso; omega
          obtain ⟨pa, q, hLN, hRN, -⟩ := hCH.2.2.choose_spec.1
          have hTo := hT
          refine tVl (n := 1) (As := [.int x202]) (rest := []) hx hb hml hown hg hT hK hX (X1v_liftSample (N := N) (P := P) (v := v) (w := w) (la := la) (dt := dt) (rl := rl) (u := (zI σ0 this 9).toInt) (ma := ma) (k := k) (pa := pa) (q := q) l κ s203 this x202  (hT.k t_this (by decide)) hS206 h1 h2 hPI (by omega) hCH.2.1.2.2 hLN hRN (by omega) (by rw [show zI s203 this 8 = zI σ0 this 8 from t_this.eI hT.2.2.1 (by decide) rfl]; exact h5) h6 (by rw [show zI s203 this 9 = zI σ0 this 9 from t_this.eI hT.2.2.1 (by decide) rfl])) (fun _ _ h => h) (mwV k570 k571 k572 k87 k573) ⟨rfl, by decide, by decide, by decide +kernel⟩ ⟨(Nat.le_of_ble_eq_true rfl), (Nat.le_of_ble_eq_true rfl)⟩ (hT.o3 (hT.k t_this (by decide))) rfl rfl hl.1 rfl (Nat.le_of_ble_eq_true rfl) dX1_liftChosen_22 zroom.rf (fun x207 s208 H locs hφ hEs208 hT => ?_)
          have f209 := hφ
          have nS210 := f209
          refine lv_pop2_2 hx hb dX1_liftChosen_25 rfl ?_
          obtain ⟨t211, qt211⟩ : ∃ zz9 : Int32, j + Int32.ofInt 1 = zz9 := ⟨_, rfl⟩
          refine lv_iinc (v := t211) (lv' := [(2, .int t211), (3, .int x202), (0, .ref this), (1, .int n)]) hx hb dX1_liftChosen_26 hl (k := 1) rfl qt211 (by decide) rfl (fun ls hl => ?_)
          have ht211 : t211.toInt = j.toInt + 1 := by rw [← qt211]; exact v_addi rfl (show (Int32.ofInt 1).toInt = 1 from by decide) (by omega) (by omega)
          refine lv_goto (tgt := 2) hx hb dX1_liftChosen_29 (by decide) ?_
          exact ih2 t211 _ _ _ _ hT  (by omega) (by omega) (by rw [show t211.toInt.toNat = j.toInt.toNat + 1 from by omega]; exact ⟨_, nS210, _, hR, k, pa, q, hCH, hLN, hRN, rfl⟩) (lv_sub hl [0, 2, 3] rfl) (by omega)
        · have c4 := gi_eq c9
          refine lv_goto (tgt := 32) hx hb dX1_liftChosen_17 (by decide) ?_
          refine lv_iload_n hx hb dX1_liftChosen_32 rfl (lv_at hl 1 rfl) ?_
          subst hQ9
          exact t_i hx hb hr hlocks hT ⟨_, hS206, ⟨j.toInt.toNat, by omega, hR, Or.inr (f204.elim (fun q9 => q9.2) (fun q9 => q9.elim fun k q9 => absurd q9.1 (by omega)))⟩, (show ma ≤ 46 by omega)⟩ dX1_liftChosen_33
  exact loop2 ((n.toInt - (0 : Int32).toInt).toNat + 1) 0 _ _ _ _ hT  (by omega) (by omega) ⟨_, h0, by rw [n0]; exact rfl⟩ hl (by omega)
