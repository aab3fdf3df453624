/-! States with their numbers: cost, share -/
set_option maxHeartbeats 4000000 in
set_option maxRecDepth 100000 in
theorem X1v_costInto (l : Launch) (κ : Kt) (σ0 : Gh) (this : Nat) (into : Nat) (x : Int32) (i : Int32) (y : Int32) {N : Nat} {P : Nat → Int} {X : Ps} {rl : Int} {k pa q : Nat} (t_this : zk σ0 this 3) (t_into : zk σ0 into 1) (h0 : SRC κ σ0 this N P) (h1 : PLI N P) (h2 : VLS κ σ0 (kR κ this 1) N X.1) (h3 : ∀ i, i < N → kR κ (kR κ this 1) i ≠ into) (h4 : x.toInt = pa) (h5 : y.toInt = q) (h6 : i.toInt = k) (h7 : pa < k ∧ k < q ∧ q < N) (h8 : (zI σ0 this 8).toInt = rl) (h9 : rl = 0 ∨ rl = 1 ∨ rl = 2) (h10 : -1114000000 ≤ X.1 pa ∧ X.1 pa ≤ 1114000000) (h11 : -1114000000 ≤ X.1 q ∧ X.1 q ≤ 1114000000) (h12 : -1114000000 ≤ X.1 k ∧ X.1 k ≤ 1114000000) : TC l yX1_costInto cX1_costInto 5 none 3 75 [.ref this, .ref into, .int x, .int i, .int y] κ σ0 (tqv κ fX σ0 (fun (τ : Gh) => (∃ c, WV τ into c ∧ ab c = cst P (zI σ0 this 7).toInt rl X k pa q) ∧ (FW σ0 τ into))) := by
  refine TC.of fX (by decide +kernel) (Nat.le_of_ble_eq_true rfl) ?_
  intro p e s m below meth c ls hcs hK hX hT hl
  obtain ⟨hx, hb, hr, hml, hown, hg, hlocks, hin⟩ := hcs
  have hown : s.vm.findClass RX1 = some m.cls := hown
  have hl : lv_has ls 5 [(0, .ref this), (1, .ref into), (2, .int x), (3, .int i), (4, .int y)] := hl
  have hT0 := hT
  have n0 : (0 : Int32).toInt = 0 := by decide
  have n1 : (1 : Int32).toInt = 1 := by decide
  have jm1 : ((-1) : Int64).toInt = (-1) := by decide
  have x_lo := Int32.le_toInt x
  have x_hi := Int32.toInt_lt x
  have i_lo := Int32.le_toInt i
  have i_hi := Int32.toInt_lt i
  have y_lo := Int32.le_toInt y
  have y_hi := Int32.toInt_lt y
  generalize hQ9 : tQ _ _ _ _ _ _ = Q9
  obtain ⟨src, esrc⟩ : ∃ z, kR κ this 0 = z := ⟨_, rfl⟩
  have tsrc : zk σ0 src 4 := by rw [← esrc]; exact hT0.ref t_this (by decide) (by decide) (by decide)
  have bsrc := (hT0.P tsrc (by decide)).1
  have bsrcl := bsrc.1
  have bsrch := bsrc.2
  obtain ⟨rp, erp⟩ : ∃ z, kR κ src 0 = z := ⟨_, rfl⟩
  have trp : zk σ0 rp 8 := by rw [← erp]; exact hT0.ref tsrc (by decide) (by decide) (by decide)
  obtain ⟨rv, erv⟩ : ∃ z, kR κ this 1 = z := ⟨_, rfl⟩
  have trv : zk σ0 rv 10 := by rw [← erv]; exact hT0.ref t_this (by decide) (by decide) (by decide)
  have hN := h0.1
  have hPS := h0.2
  rw [esrc] at hN hPS
  rw [erp] at hPS
  have hP48 : N ≤ 48 := by omega
  have ex := ixof h4
  have ey := ixof h5
  have ei := ixof h6
  have bk := (h1 k (by omega)).1
  have bp := (h1 pa (by omega)).1
  have bq := (h1 q (by omega)).1
  have opk := h1.lt h7.1 (by omega)
  have okq := h1.lt h7.2.1 h7.2.2
  have hVL := h2
  have hne := h3
  rw [erv] at hVL hne
  have hkv : ∀ i, i < N → zk σ0 (kR κ rv i) 1 := fun i hi => hT0.kv trv (by omega)
  obtain ⟨E9, hM⟩ : ∃ E : Nat → Prop, ∀ a, E a ↔ (a = into) := ⟨fun a => a = into, fun _ => Iff.rfl⟩
  have hnE : ∀ i, i < N → ¬ E9 (kR κ rv i) := fun i hi q9 => hne i hi ((hM _).mp q9)
  have hpb := prd_in (v := X.1) (r := rl) (k := k) opk okq (B := 1114000000) h10 h11
  refine lv_aload_n hx hb dX1_costInto_0 rfl (lv_at hl 0 rfl) ?_
  obtain ⟨v201, ev201⟩ : ∃ zz9 : Int32, zI σ0 this 7 = zz9 := ⟨_, rfl⟩
  have qv201 : v201.toInt = (zI σ0 this 7).toInt := by rw [ev201]
  refine va_get (D := κ.1) (ci := 1) (v := .int (zI σ0 this 7)) (C := RX1) (T := TX1) (N := 13) hx hb hg inX1 hown hK (hT.o3 (hT.k t_this (by decide))).one 0 rfl rfl 7 (by decide) (hg _ k291) (fun _ h9 => h9) rfl dX1_costInto_1 ?_
  rw [(hT.eI t_this (by decide) rfl ev201)]
  by_cases q202 : v201 = 0
  · have q202i := gi_eq q202
    refine lv_lookup (off := 28) (tgt := 32) hx hb dX1_costInto_4 (by decide) (by rw [q202]; decide) (by decide) ?_
    refine lv_aload_n hx hb dX1_costInto_32 rfl (lv_at hl 1 rfl) ?_
    refine lv_aload_n hx hb dX1_costInto_33 rfl (lv_at hl 0 rfl) ?_
    refine va_get (D := κ.1) (ci := 1) (v := .ref (kR κ this 0)) (C := RX1) (T := TX1) (N := 13) hx hb hg inX1 hown hK (hT.o3 (hT.k t_this (by decide))).one 0 rfl rfl 0 (by decide) (hg _ k278) (fun _ h9 => h9) rfl dX1_costInto_34 ?_
    rw [esrc]
    refine va_get (D := κ.1) (ci := 0) (v := .ref (kR κ src 0)) (C := RX0) (T := TX0) (N := 7) hx hb hg inX0 hown hK (hT.o4 (hT.k tsrc (by decide))).one 0 rfl rfl 0 (by decide) (hg _ k157) (fun _ h9 => h9) rfl dX1_costInto_37 ?_
    rw [erp]
    refine lv_iload hx hb dX1_costInto_40 (lv_at hl 4 rfl) ?_
    refine va_iald hx hb hK (hT.o8 (hT.k trp (by decide))).one 0 0 rfl rfl (g_in (by omega) (by omega)) dX1_costInto_42 ?_
    refine lv_topi (fun t203 ht203 => ?_)
    have xt203 : t203.toInt = P q := by rw [ht203, ixc, ey]; exact hPS q (by omega)
    refine lv_aload_n hx hb dX1_costInto_43 rfl (lv_at hl 0 rfl) ?_
    refine va_get (D := κ.1) (ci := 1) (v := .ref (kR κ this 0)) (C := RX1) (T := TX1) (N := 13) hx hb hg inX1 hown hK (hT.o3 (hT.k t_this (by decide))).one 0 rfl rfl 0 (by decide) (hg _ k278) (fun _ h9 => h9) rfl dX1_costInto_44 ?_
    rw [esrc]
    refine va_get (D := κ.1) (ci := 0) (v := .ref (kR κ src 0)) (C := RX0) (T := TX0) (N := 7) hx hb hg inX0 hown hK (hT.o4 (hT.k tsrc (by decide))).one 0 rfl rfl 0 (by decide) (hg _ k157) (fun _ h9 => h9) rfl dX1_costInto_47 ?_
    rw [erp]
    refine lv_iload_n hx hb dX1_costInto_50 rfl (lv_at hl 2 rfl) ?_
    refine va_iald hx hb hK (hT.o8 (hT.k trp (by decide))).one 0 0 rfl rfl (g_in (by omega) (by omega)) dX1_costInto_51 ?_
    refine lv_topi (fun t204 ht204 => ?_)
    have xt204 : t204.toInt = P pa := by rw [ht204, ixc, ex]; exact hPS pa (by omega)
    refine lv_isub hx hb dX1_costInto_52 ?_
    first | refine g_sub (by omega) (by omega) (fun t205 ht205 => ?_) | refine lv_topi (fun t205 ht205 => ?_)
    refine lv_i2l hx hb dX1_costInto_53 rfl ?_
    refine g_i2l (fun t206 ht206 => ?_)
    obtain ⟨h209, oh209, th209⟩ := hT.o1 (hT.k t_into (by decide))
    have hTo := hT
    refine tVv (n := 1) (As := [.long t206]) (rest := []) hx hb hml hown hg hT hK hX (X4v_become l κ σ0 into t206  (hT.k t_into (by decide)) (by omega) (by omega)) (fun _ _ h => h) (mwV k274 k275 k276 k88 k277) ⟨rfl, by decide, by decide, by decide +kernel⟩ ⟨(Nat.le_of_ble_eq_true rfl), (Nat.le_of_ble_eq_true rfl)⟩ oh209 rfl rfl hl.1 rfl (Nat.le_of_ble_eq_true rfl) dX1_costInto_54 zroom.rf (fun s208 H locs hφ hEs208 hT => ?_)
    obtain ⟨f210, f211⟩ := hφ
    have fp212 : FP σ0 s208 E9 := FP.call hTo (FP.rf (E := E9)) f211 ((hM _).mpr rfl)
    refine lv_goto (tgt := 106) hx hb dX1_costInto_57 (by decide) ?_
    subst hQ9
    exact t_v hx hb hr hlocks hT ⟨⟨t206.toInt, f210, by rw [cst_0 (by omega), ab_pos (by omega)]; omega⟩, fp212.toW (fun a q9 => (hM a).mp q9)⟩ dX1_costInto_106
  · have q202i := gi_ne q202
    by_cases q213 : v201 = 1
    · have q213i := gi_eq q213
      refine lv_lookup (off := 56) (tgt := 60) hx hb dX1_costInto_4 (by decide) (by rw [q213]; decide) (by decide) ?_
      refine lv_aload_n hx hb dX1_costInto_60 rfl (lv_at hl 1 rfl) ?_
      refine lv_iload_n hx hb dX1_costInto_61 rfl (lv_at hl 3 rfl) ?_
      have hTo := hT
      refine tTi (n := 1) (As := [.int i]) (rest := [.ref into]) hx hb hml hown hg hT hK hX (Jv_ntz l κ σ0 i   (by omega) (by omega)) sub_fE_fX (mwI k541) ⟨by decide, by decide, by decide +kernel⟩ ⟨(Nat.le_of_ble_eq_true rfl), (Nat.le_of_ble_eq_true rfl)⟩ k102 k539 k540 rfl hl.1 rfl (Nat.le_of_ble_eq_true rfl) dX1_costInto_62 zroom.rf (fun x214 s215 H locs hφ hEs215 hT => ?_)
      have fa216 : FA σ0 s215 := FA.ro hTo hEs215 (fun _ => rfl) (fun _ _ => rfl)
      have fp217 : FP σ0 s215 E9 := FP.callA hTo (FP.rf (E := E9)) fa216
      have f218 := hφ
      rw [show i.toInt.toNat = k from by omega] at f218
      have xlx214 := Int32.le_toInt x214
      have xhx214 := Int32.toInt_lt x214
      refine lv_i2l hx hb dX1_costInto_65 rfl ?_
      refine g_i2l (fun t219 ht219 => ?_)
      obtain ⟨h222, oh222, th222⟩ := hT.o1 (hT.k t_into (by decide))
      have hTo := hT
      refine tVv (n := 1) (As := [.long t219]) (rest := []) hx hb hml hown hg hT hK hX (X4v_become l κ s215 into t219  (hT.k t_into (by decide)) (by omega) (by omega)) (fun _ _ h => h) (mwV k274 k275 k276 k88 k277) ⟨rfl, by decide, by decide, by decide +kernel⟩ ⟨(Nat.le_of_ble_eq_true rfl), (Nat.le_of_ble_eq_true rfl)⟩ oh222 rfl rfl hl.1 rfl (Nat.le_of_ble_eq_true rfl) dX1_costInto_66 zroom.rf (fun s221 H locs hφ hEs221 hT => ?_)
      obtain ⟨f223, f224⟩ := hφ
      have fp225 : FP σ0 s221 E9 := FP.call hTo fp217 f224 ((hM _).mpr rfl)
      refine lv_goto (tgt := 106) hx hb dX1_costInto_69 (by decide) ?_
      subst hQ9
      exact t_v hx hb hr hlocks hT ⟨⟨t219.toInt, f223, by rw [cst_1 (by omega), ab_pos (by omega)]; omega⟩, fp225.toW (fun a q9 => (hM a).mp q9)⟩ dX1_costInto_106
    · have q213i := gi_ne q213
      refine lv_lookup (off := 68) (tgt := 72) hx hb dX1_costInto_4 (by decide) (by simp [Op.lookupswitch.offset] <;> omega) (by decide) ?_
      refine lv_aload_n hx hb dX1_costInto_72 rfl (lv_at hl 0 rfl) ?_
      refine lv_aload_n hx hb dX1_costInto_73 rfl (lv_at hl 1 rfl) ?_
      refine lv_aload_n hx hb dX1_costInto_74 rfl (lv_at hl 0 rfl) ?_
      obtain ⟨v226, ev226⟩ : ∃ zz9 : Int32, zI σ0 this 8 = zz9 := ⟨_, rfl⟩
      have qv226 : v226.toInt = (zI σ0 this 8).toInt := by rw [ev226]
      refine va_get (D := κ.1) (ci := 1) (v := .int (zI σ0 this 8)) (C := RX1) (T := TX1) (N := 13) hx hb hg inX1 hown hK (hT.o3 (hT.k t_this (by decide))).one 0 rfl rfl 8 (by decide) (hg _ k293) (fun _ h9 => h9) rfl dX1_costInto_75 ?_
      rw [(hT.eI t_this (by decide) rfl ev226)]
      refine lv_iload_n hx hb dX1_costInto_78 rfl (lv_at hl 2 rfl) ?_
      refine lv_aload_n hx hb dX1_costInto_79 rfl (lv_at hl 0 rfl) ?_
      refine va_get (D := κ.1) (ci := 1) (v := .ref (kR κ this 0)) (C := RX1) (T := TX1) (N := 13) hx hb hg inX1 hown hK (hT.o3 (hT.k t_this (by decide))).one 0 rfl rfl 0 (by decide) (hg _ k278) (fun _ h9 => h9) rfl dX1_costInto_80 ?_
      rw [esrc]
      refine va_get (D := κ.1) (ci := 0) (v := .ref (kR κ src 0)) (C := RX0) (T := TX0) (N := 7) hx hb hg inX0 hown hK (hT.o4 (hT.k tsrc (by decide))).one 0 rfl rfl 0 (by decide) (hg _ k157) (fun _ h9 => h9) rfl dX1_costInto_83 ?_
      rw [erp]
      refine lv_iload_n hx hb dX1_costInto_86 rfl (lv_at hl 3 rfl) ?_
      refine va_iald hx hb hK (hT.o8 (hT.k trp (by decide))).one 0 0 rfl rfl (g_in (by omega) (by omega)) dX1_costInto_87 ?_
      refine lv_topi (fun t227 ht227 => ?_)
      have xt227 : t227.toInt = P k := by rw [ht227, ixc, ei]; exact hPS k (by omega)
      refine lv_iload hx hb dX1_costInto_88 (lv_at hl 4 rfl) ?_
      have hTo := hT
      refine tVv (n := 5) (As := [.ref into, .int v226, .int x, .int t227, .int y]) (rest := []) hx hb hml hown hg hT hK hX (X1v_predictInto (N := N) (P := P) (v := X.1) (rl := rl) (k := k) (pa := pa) (q := q) l κ σ0 this into v226 x t227 y  (hT.k t_this (by decide)) (hT.k t_into (by decide)) h0 h1 (by rw [erv]; exact hVL.fp (FP.rf (E := E9)) hkv hnE) h3 (by omega) (by omega) (by omega) h7 (by omega) h9 h10 h11) (fun _ _ h => h) (mwV k542 k544 k10 k87 k545) ⟨rfl, by decide, by decide, by decide +kernel⟩ ⟨(Nat.le_of_ble_eq_true rfl), (Nat.le_of_ble_eq_true rfl)⟩ (hT.o3 (hT.k t_this (by decide))) rfl rfl hl.1 rfl (Nat.le_of_ble_eq_true rfl) dX1_costInto_90 zroom.rf (fun s229 H locs hφ hEs229 hT => ?_)
      obtain ⟨f230, f231⟩ := hφ
      have fp232 : FP σ0 s229 E9 := FP.call hTo (FP.rf (E := E9)) f231 ((hM _).mpr rfl)
      refine lv_aload_n hx hb dX1_costInto_93 rfl (lv_at hl 1 rfl) ?_
      refine lv_aload_n hx hb dX1_costInto_94 rfl (lv_at hl 0 rfl) ?_
      refine va_get (D := κ.1) (ci := 1) (v := .ref (kR κ this 1)) (C := RX1) (T := TX1) (N := 13) hx hb hg inX1 hown hK (hT.o3 (hT.k t_this (by decide))).one 0 rfl rfl 1 (by decide) (hg _ k279) (fun _ h9 => h9) rfl dX1_costInto_95 ?_
      rw [erv]
      refine lv_iload_n hx hb dX1_costInto_98 rfl (lv_at hl 3 rfl) ?_
      refine va_aldq hx hb hK (hT.o10 (hT.k trv (by decide))).one 0 4 rfl rfl (g_in (by omega) (by omega)) dX1_costInto_99 ?_
      obtain ⟨r234, er234⟩ : ∃ z, kR κ rv (ix i) = z := ⟨_, rfl⟩
      have tr234 : zk σ0 r234 1 := by rw [← er234]; exact hT0.ref trv (by decide) (zR10 (ix_lt (by omega) (by omega))) (by decide)
      refine tv (.ref r234) (by rw [← er234]; rfl) ?_
      have wr234 : WV s229 r234 (X.1 k) := by rw [← er234, ei]; exact (hVL.fp fp232 hkv hnE) k (by omega)
      refine lv_ldc2 hx hb hown (hg _ k550) dX1_costInto_100 ?_
      obtain ⟨h237, oh237, th237⟩ := hT.o1 (hT.k t_into (by decide))
      have hTo := hT
      refine tVv (n := 2) (As := [.ref r234, .long (-1)]) (rest := []) hx hb hml hown hg hT hK hX (X4v_add l κ s229 into r234 (-1)  (hT.k t_into (by decide)) (hT.k tr234 (by decide)) f230 wr234 (by rw [jm1]; omega) (by rw [jm1]; omega) (by rw [jm1]; omega) (by rw [jm1]; omega)) (fun _ _ h => h) (mwV k340 k341 k342 k88 k343) ⟨rfl, by decide, by decide, by decide +kernel⟩ ⟨(Nat.le_of_ble_eq_true rfl), (Nat.le_of_ble_eq_true rfl)⟩ oh237 rfl rfl hl.1 rfl (Nat.le_of_ble_eq_true rfl) dX1_costInto_103 zroom.rf (fun s236 H locs hφ hEs236 hT => ?_)
      obtain ⟨f238, f239⟩ := hφ
      have fp240 : FP σ0 s236 E9 := FP.call hTo fp232 f239 ((hM _).mpr rfl)
      have wv241 : WV s236 into (-(dtl P rl X k pa q)) := by have z9 := f238; rw [show prd P X.1 rl k pa q + X.1 k * (-1 : Int64).toInt = -(dtl P rl X k pa q) from by rw [jm1]; unfold dtl; omega] at z9; exact z9
      subst hQ9
      exact t_v hx hb hr hlocks hT ⟨⟨_, wv241, by rw [cst_2 (by omega) (by omega), ab_neg]⟩, fp240.toW (fun a q9 => (hM a).mp q9)⟩ dX1_costInto_106
set_option maxHeartbeats 4000000 in
set_option maxRecDepth 100000 in
theorem X1v_shareOf (l : Launch) (κ : Kt) (σ0 : Gh) (this : Nat) (x : Int32) (i : Int32) (y : Int32) {N : Nat} {P w : Nat → Int} {rl : Int} {k pa q : Nat} (t_this : zk σ0 this 3) (h0 : SRC κ σ0 this N P) (h1 : PLI N P) (h2 : ∀ j, j < N → (zJ σ0 (kR κ this 2) j).toInt = w j) (h3 : 0 ≤ w k ∧ w k ≤ 20000) (h4 : x.toInt = pa) (h5 : y.toInt = q) (h6 : i.toInt = k) (h7 : pa < k ∧ k < q ∧ q < N) (h8 : (zI σ0 this 8).toInt = rl) (h9 : rl = 0 ∨ rl = 1 ∨ rl = 2) : TC l yX1_shareOf cX1_shareOf 6 (some .long) 1 23 [.ref this, .int x, .int i, .int y] κ σ0 (tql κ fE σ0 (fun (r : Int64) (τ : Gh) => (r.toInt = shr P w rl k pa q))) := by
  refine TC.of fE (by decide +kernel) (Nat.le_of_ble_eq_true rfl) ?_
  intro p e s m below meth c ls hcs hK hX hT hl
  obtain ⟨hx, hb, hr, hml, hown, hg, hlocks, hin⟩ := hcs
  have hown : s.vm.findClass RX1 = some m.cls := hown
  have hl : lv_has ls 6 [(0, .ref this), (1, .int x), (2, .int i), (3, .int y)] := hl
  have hT0 := hT
  have n0 : (0 : Int32).toInt = 0 := by decide
  have n1 : (1 : Int32).toInt = 1 := by decide
  have j0 : (0 : Int64).toInt = 0 := by decide
  have x_lo := Int32.le_toInt x
  have x_hi := Int32.toInt_lt x
  have i_lo := Int32.le_toInt i
  have i_hi := Int32.toInt_lt i
  have y_lo := Int32.le_toInt y
  have y_hi := Int32.toInt_lt y
  generalize hQ9 : tQ _ _ _ _ _ _ = Q9
  obtain ⟨src, esrc⟩ : ∃ z, kR κ this 0 = z := ⟨_, rfl⟩
  have tsrc : zk σ0 src 4 := by rw [← esrc]; exact hT0.ref t_this (by decide) (by decide) (by decide)
  have bsrc := (hT0.P tsrc (by decide)).1
  have bsrcl := bsrc.1
  have bsrch := bsrc.2
  obtain ⟨rp, erp⟩ : ∃ z, kR κ src 0 = z := ⟨_, rfl⟩
  have trp : zk σ0 rp 8 := by rw [← erp]; exact hT0.ref tsrc (by decide) (by decide) (by decide)
  obtain ⟨rg, erg⟩ : ∃ z, kR κ this 2 = z := ⟨_, rfl⟩
  have trg : zk σ0 rg 9 := by rw [← erg]; exact hT0.ref t_this (by decide) (by decide) (by decide)
  have hN := h0.1
  have hPS := h0.2
  rw [esrc] at hN hPS
  rw [erp] at hPS
  have hP48 : N ≤ 48 := by omega
  have ex := ixof h4
  have ey := ixof h5
  have ei := ixof h6
  have bk := (h1 k (by omega)).1
  have bp := (h1 pa (by omega)).1
  have bq := (h1 q (by omega)).1
  have opk := h1.lt h7.1 (by omega)
  have okq := h1.lt h7.2.1 h7.2.2
  have hWt := h2
  rw [erg] at hWt
  have mb := mul_bd (a := w k) (x := P q - P k) (A := 20000) (B := 9999) (by omega) (by omega) (by omega) (by omega)
  have mn := Int.mul_nonneg h3.1 (show 0 ≤ P q - P k by omega)
  refine lv_aload_n hx hb dX1_shareOf_0 rfl (lv_at hl 0 rfl) ?_
  refine va_get (D := κ.1) (ci := 1) (v := .ref (kR κ this 0)) (C := RX1) (T := TX1) (N := 13) hx hb hg inX1 hown hK (hT.o3 (hT.k t_this (by decide))).one 0 rfl rfl 0 (by decide) (hg _ k278) (fun _ h9 => h9) rfl dX1_shareOf_1 ?_
  rw [esrc]
  refine va_get (D := κ.1) (ci := 0) (v := .ref (kR κ src 0)) (C := RX0) (T := TX0) (N := 7) hx hb hg inX0 hown hK (hT.o4 (hT.k tsrc (by decide))).one 0 rfl rfl 0 (by decide) (hg _ k157) (fun _ h9 => h9) rfl dX1_shareOf_4 ?_
  rw [erp]
  refine lv_iload_n hx hb dX1_shareOf_7 rfl (lv_at hl 2 rfl) ?_
  refine va_iald hx hb hK (hT.o8 (hT.k trp (by decide))).one 0 0 rfl rfl (g_in (by omega) (by omega)) dX1_shareOf_8 ?_
  refine lv_topi (fun t201 ht201 => ?_)
  have xt201 : t201.toInt = P k := by rw [ht201, ixc, ei]; exact hPS k (by omega)
  refine lv_istore (lv' := [(4, .int t201), (0, .ref this), (1, .int x), (2, .int i), (3, .int y)]) hx hb dX1_shareOf_9 hl (by decide) rfl (fun ls hl => ?_)
  refine lv_aload_n hx hb dX1_shareOf_11 rfl (lv_at hl 1 rfl) ?_
  obtain ⟨v202, ev202⟩ : ∃ zz9 : Int32, zI σ0 this 8 = zz9 := ⟨_, rfl⟩
  have qv202 : v202.toInt = (zI σ0 this 8).toInt := by rw [ev202]
  refine va_get (D := κ.1) (ci := 1) (v := .int (zI σ0 this 8)) (C := RX1) (T := TX1) (N := 13) hx hb hg inX1 hown hK (hT.o3 (hT.k t_this (by decide))).one 0 rfl rfl 8 (by decide) (hg _ k293) (fun _ h9 => h9) rfl dX1_shareOf_12 ?_
  rw [(hT.eI t_this (by decide) rfl ev202)]
  refine lv_if_eq (tgt := 37) hx hb dX1_shareOf_15 (by decide) (fun c9 => ?_) (fun c9 => ?_)
  · have c1 := gi_eq c9
    refine lv_aload_n hx hb dX1_shareOf_37 rfl (lv_at hl 1 rfl) ?_
    refine va_get (D := κ.1) (ci := 1) (v := .ref (kR κ this 2)) (C := RX1) (T := TX1) (N := 13) hx hb hg inX1 hown hK (hT.o3 (hT.k t_this (by decide))).one 0 rfl rfl 2 (by decide) (hg _ k281) (fun _ h9 => h9) rfl dX1_shareOf_38 ?_
    rw [erg]
    refine lv_iload_n hx hb dX1_shareOf_41 rfl (lv_at hl 3 rfl) ?_
    refine va_lald hx hb hK (hT.o9 (hT.k trg (by decide))).one 0 1 rfl rfl (g_in (by omega) (by omega)) dX1_shareOf_42 ?_
    refine lv_topl (fun t203 ht203 => ?_)
    have xt203 : t203.toInt = w k := by rw [ht203, ixc, ei]; exact hWt k (by omega)
    subst hQ9
    exact t_l hx hb hr hlocks hT (by unfold shr; rw [if_neg (by omega), if_pos (by omega)]; omega) dX1_shareOf_43
  · have c2 := gi_ne c9
    refine lv_aload_n hx hb dX1_shareOf_18 rfl (lv_at hl 1 rfl) ?_
    refine va_get (D := κ.1) (ci := 1) (v := .int (zI σ0 this 8)) (C := RX1) (T := TX1) (N := 13) hx hb hg inX1 hown hK (hT.o3 (hT.k t_this (by decide))).one 0 rfl rfl 8 (by decide) (hg _ k293) (fun _ h9 => h9) rfl dX1_shareOf_19 ?_
    rw [(hT.eI t_this (by decide) rfl ev202)]
    refine lv_iconst (v := 1) hx hb dX1_shareOf_22 (by decide) ?_
    refine lv_icmp_ne (tgt := 44) hx hb dX1_shareOf_23 (by decide) (fun c9 => ?_) (fun c9 => ?_)
    · have c3 := gi_ne c9
      refine lv_aload_n hx hb dX1_shareOf_44 rfl (lv_at hl 1 rfl) ?_
      refine va_get (D := κ.1) (ci := 1) (v := .ref (kR κ this 0)) (C := RX1) (T := TX1) (N := 13) hx hb hg inX1 hown hK (hT.o3 (hT.k t_this (by decide))).one 0 rfl rfl 0 (by decide) (hg _ k278) (fun _ h9 => h9) rfl dX1_shareOf_45 ?_
      rw [esrc]
      refine va_get (D := κ.1) (ci := 0) (v := .ref (kR κ src 0)) (C := RX0) (T := TX0) (N := 7) hx hb hg inX0 hown hK (hT.o4 (hT.k tsrc (by decide))).one 0 rfl rfl 0 (by decide) (hg _ k157) (fun _ h9 => h9) rfl dX1_shareOf_48 ?_
      rw [erp]
      refine lv_iload_n hx hb dX1_shareOf_51 rfl (lv_at hl 4 rfl) ?_
      refine va_iald hx hb hK (hT.o8 (hT.k trp (by decide))).one 0 0 rfl rfl (g_in (by omega) (by omega)) dX1_shareOf_52 ?_
      refine lv_topi (fun t204 ht204 => ?_)
      have xt204 : t204.toInt = P q := by rw [ht204, ixc, ey]; exact hPS q (by omega)
      refine lv_aload_n hx hb dX1_shareOf_53 rfl (lv_at hl 1 rfl) ?_
      refine va_get (D := κ.1) (ci := 1) (v := .ref (kR κ this 0)) (C := RX1) (T := TX1) (N := 13) hx hb hg inX1 hown hK (hT.o3 (hT.k t_this (by decide))).one 0 rfl rfl 0 (by decide) (hg _ k278) (fun _ h9 => h9) rfl dX1_shareOf_54 ?_
      rw [esrc]
      refine va_get (D := κ.1) (ci := 0) (v := .ref (kR κ src 0)) (C := RX0) (T := TX0) (N := 7) hx hb hg inX0 hown hK (hT.o4 (hT.k tsrc (by decide))).one 0 rfl rfl 0 (by decide) (hg _ k157) (fun _ h9 => h9) rfl dX1_shareOf_57 ?_
      rw [erp]
      refine lv_iload_n hx hb dX1_shareOf_60 rfl (lv_at hl 2 rfl) ?_
      refine va_iald hx hb hK (hT.o8 (hT.k trp (by decide))).one 0 0 rfl rfl (g_in (by omega) (by omega)) dX1_shareOf_61 ?_
      refine lv_topi (fun t205 ht205 => ?_)
      have xt205 : t205.toInt = P pa := by rw [ht205, ixc, ex]; exact hPS pa (by omega)
      refine lv_isub hx hb dX1_shareOf_62 ?_
      first | refine g_sub (by omega) (by omega) (fun t206 ht206 => ?_) | refine lv_topi (fun t206 ht206 => ?_)
      refine lv_istore (lv' := [(5, .int t206), (4, .int t201), (0, .ref this), (1, .int x), (2, .int i), (3, .int y)]) hx hb dX1_shareOf_63 hl (by decide) rfl (fun ls hl => ?_)
      refine lv_aload_n hx hb dX1_shareOf_65 rfl (lv_at hl 2 rfl) ?_
      refine va_get (D := κ.1) (ci := 1) (v := .int (zI σ0 this 8)) (C := RX1) (T := TX1) (N := 13) hx hb hg inX1 hown hK (hT.o3 (hT.k t_this (by decide))).one 0 rfl rfl 8 (by decide) (hg _ k293) (fun _ h9 => h9) rfl dX1_shareOf_66 ?_
      rw [(hT.eI t_this (by decide) rfl ev202)]
      refine lv_iconst (v := 1) hx hb dX1_shareOf_69 (by decide) ?_
      refine lv_icmp_eq (tgt := 78) hx hb dX1_shareOf_70 (by decide) (fun c9 => ?_) (fun c9 => ?_)
      · have c4 := gi_eq c9
        refine lv_lconst (v := 0) hx hb dX1_shareOf_78 (by decide) ?_
        subst hQ9
        exact t_l hx hb hr hlocks hT (by unfold shr; rw [if_neg (by omega), if_neg (by omega)]; omega) dX1_shareOf_79
      · have c5 := gi_ne c9
        refine lv_iload hx hb dX1_shareOf_73 (lv_at hl 0 rfl) ?_
        refine lv_if_gt (tgt := 80) hx hb dX1_shareOf_75 (by decide) (fun c9 => ?_) (fun c9 => ?_)
        · have c6 := gi_lt c9
          refine lv_aload_n hx hb dX1_shareOf_80 rfl (lv_at hl 2 rfl) ?_
          refine va_get (D := κ.1) (ci := 1) (v := .ref (kR κ this 2)) (C := RX1) (T := TX1) (N := 13) hx hb hg inX1 hown hK (hT.o3 (hT.k t_this (by decide))).one 0 rfl rfl 2 (by decide) (hg _ k281) (fun _ h9 => h9) rfl dX1_shareOf_81 ?_
          rw [erg]
          refine lv_iload_n hx hb dX1_shareOf_84 rfl (lv_at hl 4 rfl) ?_
          refine va_lald hx hb hK (hT.o9 (hT.k trg (by decide))).one 0 1 rfl rfl (g_in (by omega) (by omega)) dX1_shareOf_85 ?_
          refine lv_topl (fun t207 ht207 => ?_)
          have xt207 : t207.toInt = w k := by rw [ht207, ixc, ei]; exact hWt k (by omega)
          refine lv_aload_n hx hb dX1_shareOf_86 rfl (lv_at hl 2 rfl) ?_
          refine va_get (D := κ.1) (ci := 1) (v := .ref (kR κ this 0)) (C := RX1) (T := TX1) (N := 13) hx hb hg inX1 hown hK (hT.o3 (hT.k t_this (by decide))).one 0 rfl rfl 0 (by decide) (hg _ k278) (fun _ h9 => h9) rfl dX1_shareOf_87 ?_
          rw [esrc]
          refine va_get (D := κ.1) (ci := 0) (v := .ref (kR κ src 0)) (C := RX0) (T := TX0) (N := 7) hx hb hg inX0 hown hK (hT.o4 (hT.k tsrc (by decide))).one 0 rfl rfl 0 (by decide) (hg _ k157) (fun _ h9 => h9) rfl dX1_shareOf_90 ?_
          rw [erp]
          refine lv_iload_n hx hb dX1_shareOf_93 rfl (lv_at hl 5 rfl) ?_
          refine va_iald hx hb hK (hT.o8 (hT.k trp (by decide))).one 0 0 rfl rfl (g_in (by omega) (by omega)) dX1_shareOf_94 ?_
          refine lv_topi (fun t208 ht208 => ?_)
          have xt208 : t208.toInt = P q := by rw [ht208, ixc, ey]; exact hPS q (by omega)
          refine lv_iload hx hb dX1_shareOf_95 (lv_at hl 1 rfl) ?_
          refine lv_isub hx hb dX1_shareOf_97 ?_
          first | refine g_sub (by omega) (by omega) (fun t209 ht209 => ?_) | refine lv_topi (fun t209 ht209 => ?_)
          refine lv_i2l hx hb dX1_shareOf_98 rfl ?_
          refine g_i2l (fun t210 ht210 => ?_)
          have xd9 : t210.toInt = P q - P k := by omega
          refine lv_lmul hx hb dX1_shareOf_99 ?_
          refine g_mull (by rw [xt207, xd9]; omega) (by rw [xt207, xd9]; omega) (fun t211 ht211 => ?_)
          rw [xt207, xd9] at ht211
          refine lv_iload hx hb dX1_shareOf_100 (lv_at hl 0 rfl) ?_
          refine lv_i2l hx hb dX1_shareOf_102 rfl ?_
          refine g_i2l (fun t212 ht212 => ?_)
          refine lv_ldiv hx hb dX1_shareOf_103 (gl_nz (by omega)) ?_
          refine g_ldivp (by omega) (fun t213 ht213 => ?_)
          have xs9 : t213.toInt = w k * (P q - P k) / (P q - P pa) := by rw [(ht213 (by omega)).1, ht211, show t212.toInt = P q - P pa from by omega]
          subst hQ9
          exact t_l hx hb hr hlocks hT (by unfold shr; rw [if_pos (by omega)]; exact xs9) dX1_shareOf_104
        · have c7 := gi_nlt c9
          exfalso; omega
    · have c8 := gi_eq c9
      refine lv_aload_n hx hb dX1_shareOf_26 rfl (lv_at hl 1 rfl) ?_
      refine lv_iload_n hx hb dX1_shareOf_27 rfl (lv_at hl 2 rfl) ?_
      refine lv_iload hx hb dX1_shareOf_28 (lv_at hl 0 rfl) ?_
      refine lv_iload_n hx hb dX1_shareOf_30 rfl (lv_at hl 4 rfl) ?_
      have hTo := hT
      refine tVi (n := 3) (As := [.int x, .int t201, .int y]) (rest := []) hx hb hml hown hg hT hK hX (X1v_isLeftNear (N := N) (P := P) (pa := pa) (q := q) l κ σ0 this x t201 y  (hT.k t_this (by decide)) h0 h1 (by omega) (by omega) (by omega) (by omega) (by omega) (by omega)) (fun _ _ h => h) (mwV k546 k548 k11 k87 k549) ⟨rfl, by decide, by decide, by decide +kernel⟩ ⟨(Nat.le_of_ble_eq_true rfl), (Nat.le_of_ble_eq_true rfl)⟩ (hT.o3 (hT.k t_this (by decide))) rfl rfl hl.1 rfl (Nat.le_of_ble_eq_true rfl) dX1_shareOf_31 zroom.rf (fun x214 s215 H locs hφ hEs215 hT => ?_)
      obtain ⟨f216, f217⟩ := hφ
      refine lv_if_eq (tgt := 44) hx hb dX1_shareOf_34 (by decide) (fun c9 => ?_) (fun c9 => ?_)
      · have c9 := gi_eq c9
        refine lv_aload_n hx hb dX1_shareOf_44 rfl (lv_at hl 1 rfl) ?_
        refine va_get (D := κ.1) (ci := 1) (v := .ref (kR κ this 0)) (C := RX1) (T := TX1) (N := 13) hx hb hg inX1 hown hK (hT.o3 (hT.k t_this (by decide))).one 0 rfl rfl 0 (by decide) (hg _ k278) (fun _ h9 => h9) rfl dX1_shareOf_45 ?_
        rw [esrc]
        refine va_get (D := κ.1) (ci := 0) (v := .ref (kR κ src 0)) (C := RX0) (T := TX0) (N := 7) hx hb hg inX0 hown hK (hT.o4 (hT.k tsrc (by decide))).one 0 rfl rfl 0 (by decide) (hg _ k157) (fun _ h9 => h9) rfl dX1_shareOf_48 ?_
        rw [erp]
        refine lv_iload_n hx hb dX1_shareOf_51 rfl (lv_at hl 4 rfl) ?_
        refine va_iald hx hb hK (hT.o8 (hT.k trp (by decide))).one 0 0 rfl rfl (g_in (by omega) (by omega)) dX1_shareOf_52 ?_
        refine lv_topi (fun t218 ht218 => ?_)
        have xt218 : t218.toInt = P q := by rw [ht218, ixc, ey, show zI s215 rp q = zI σ0 rp q from trp.eI hT.2.2.1 (by decide) rfl]; exact hPS q (by omega)
        refine lv_aload_n hx hb dX1_shareOf_53 rfl (lv_at hl 1 rfl) ?_
        refine va_get (D := κ.1) (ci := 1) (v := .ref (kR κ this 0)) (C := RX1) (T := TX1) (N := 13) hx hb hg inX1 hown hK (hT.o3 (hT.k t_this (by decide))).one 0 rfl rfl 0 (by decide) (hg _ k278) (fun _ h9 => h9) rfl dX1_shareOf_54 ?_
        rw [esrc]
        refine va_get (D := κ.1) (ci := 0) (v := .ref (kR κ src 0)) (C := RX0) (T := TX0) (N := 7) hx hb hg inX0 hown hK (hT.o4 (hT.k tsrc (by decide))).one 0 rfl rfl 0 (by decide) (hg _ k157) (fun _ h9 => h9) rfl dX1_shareOf_57 ?_
        rw [erp]
        refine lv_iload_n hx hb dX1_shareOf_60 rfl (lv_at hl 2 rfl) ?_
        refine va_iald hx hb hK (hT.o8 (hT.k trp (by decide))).one 0 0 rfl rfl (g_in (by omega) (by omega)) dX1_shareOf_61 ?_
        refine lv_topi (fun t219 ht219 => ?_)
        have xt219 : t219.toInt = P pa := by rw [ht219, ixc, ex, show zI s215 rp pa = zI σ0 rp pa from trp.eI hT.2.2.1 (by decide) rfl]; exact hPS pa (by omega)
        refine lv_isub hx hb dX1_shareOf_62 ?_
        first | refine g_sub (by omega) (by omega) (fun t220 ht220 => ?_) | refine lv_topi (fun t220 ht220 => ?_)
        refine lv_istore (lv' := [(5, .int t220), (4, .int t201), (0, .ref this), (1, .int x), (2, .int i), (3, .int y)]) hx hb dX1_shareOf_63 hl (by decide) rfl (fun ls hl => ?_)
        refine lv_aload_n hx hb dX1_shareOf_65 rfl (lv_at hl 2 rfl) ?_
        refine va_get (D := κ.1) (ci := 1) (v := .int (zI s215 this 8)) (C := RX1) (T := TX1) (N := 13) hx hb hg inX1 hown hK (hT.o3 (hT.k t_this (by decide))).one 0 rfl rfl 8 (by decide) (hg _ k293) (fun _ h9 => h9) rfl dX1_shareOf_66 ?_
        rw [(hT.eI t_this (by decide) rfl ev202)]
        refine lv_iconst (v := 1) hx hb dX1_shareOf_69 (by decide) ?_
        refine lv_icmp_eq (tgt := 78) hx hb dX1_shareOf_70 (by decide) (fun c9 => ?_) (fun c9 => ?_)
        · have c10 := gi_eq c9
          refine lv_lconst (v := 0) hx hb dX1_shareOf_78 (by decide) ?_
          subst hQ9
          exact t_l hx hb hr hlocks hT (by unfold shr; rw [if_neg (by omega), if_neg (by omega)]; omega) dX1_shareOf_79
        · have c11 := gi_ne c9
          refine lv_iload hx hb dX1_shareOf_73 (lv_at hl 0 rfl) ?_
          refine lv_if_gt (tgt := 80) hx hb dX1_shareOf_75 (by decide) (fun c9 => ?_) (fun c9 => ?_)
          · have c12 := gi_lt c9
            refine lv_aload_n hx hb dX1_shareOf_80 rfl (lv_at hl 2 rfl) ?_
            refine va_get (D := κ.1) (ci := 1) (v := .ref (kR κ this 2)) (C := RX1) (T := TX1) (N := 13) hx hb hg inX1 hown hK (hT.o3 (hT.k t_this (by decide))).one 0 rfl rfl 2 (by decide) (hg _ k281) (fun _ h9 => h9) rfl dX1_shareOf_81 ?_
            rw [erg]
            refine lv_iload_n hx hb dX1_shareOf_84 rfl (lv_at hl 4 rfl) ?_
            refine va_lald hx hb hK (hT.o9 (hT.k trg (by decide))).one 0 1 rfl rfl (g_in (by omega) (by omega)) dX1_shareOf_85 ?_
            refine lv_topl (fun t221 ht221 => ?_)
            have xt221 : t221.toInt = w k := by rw [ht221, ixc, ei, show zJ s215 rg k = zJ σ0 rg k from trg.eJ hT.2.2.1 (by decide) rfl]; exact hWt k (by omega)
            refine lv_aload_n hx hb dX1_shareOf_86 rfl (lv_at hl 2 rfl) ?_
            refine va_get (D := κ.1) (ci := 1) (v := .ref (kR κ this 0)) (C := RX1) (T := TX1) (N := 13) hx hb hg inX1 hown hK (hT.o3 (hT.k t_this (by decide))).one 0 rfl rfl 0 (by decide) (hg _ k278) (fun _ h9 => h9) rfl dX1_shareOf_87 ?_
            rw [esrc]
            refine va_get (D := κ.1) (ci := 0) (v := .ref (kR κ src 0)) (C := RX0) (T := TX0) (N := 7) hx hb hg inX0 hown hK (hT.o4 (hT.k tsrc (by decide))).one 0 rfl rfl 0 (by decide) (hg _ k157) (fun _ h9 => h9) rfl dX1_shareOf_90 ?_
            rw [erp]
            refine lv_iload_n hx hb dX1_shareOf_93 rfl (lv_at hl 5 rfl) ?_
            refine va_iald hx hb hK (hT.o8 (hT.k trp (by decide))).one 0 0 rfl rfl (g_in (by omega) (by omega)) dX1_shareOf_94 ?_
            refine lv_topi (fun t222 ht222 => ?_)
            have xt222 : t222.toInt = P q := by rw [ht222, ixc, ey, show zI s215 rp q = zI σ0 rp q from trp.eI hT.2.2.1 (by decide) rfl]; exact hPS q (by omega)
            refine lv_iload hx hb dX1_shareOf_95 (lv_at hl 1 rfl) ?_
            refine lv_isub hx hb dX1_shareOf_97 ?_
            first | refine g_sub (by omega) (by omega) (fun t223 ht223 => ?_) | refine lv_topi (fun t223 ht223 => ?_)
            refine lv_i2l hx hb dX1_shareOf_98 rfl ?_
            refine g_i2l (fun t224 ht224 => ?_)
            have xd9 : t224.toInt = P q - P k := by omega
            refine lv_lmul hx hb dX1_shareOf_99 ?_
            refine g_mull (by rw [xt221, xd9]; omega) (by rw [xt221, xd9]; omega) (fun t225 ht225 => ?_)
            rw [xt221, xd9] at ht225
            refine lv_iload hx hb dX1_shareOf_100 (lv_at hl 0 rfl) ?_
            refine lv_i2l hx hb dX1_shareOf_102 rfl ?_
            refine g_i2l (fun t226 ht226 => ?_)
            refine lv_ldiv hx hb dX1_shareOf_103 (gl_nz (by omega)) ?_
            refine g_ldivp (by omega) (fun t227 ht227 => ?_)
            have xs9 : t227.toInt = w k * (P q - P k) / (P q - P pa) := by rw [(ht227 (by omega)).1, ht225, show t226.toInt = P q - P pa from by omega]
            subst hQ9
            exact t_l hx hb hr hlocks hT (by unfold shr; rw [if_pos (by omega)]; exact xs9) dX1_shareOf_104
          · have c13 := gi_nlt c9
            exfalso; omega
      · have c14 := gi_ne c9
        refine lv_aload_n hx hb dX1_shareOf_37 rfl (lv_at hl 1 rfl) ?_
        refine va_get (D := κ.1) (ci := 1) (v := .ref (kR κ this 2)) (C := RX1) (T := TX1) (N := 13) hx hb hg inX1 hown hK (hT.o3 (hT.k t_this (by decide))).one 0 rfl rfl 2 (by decide) (hg _ k281) (fun _ h9 => h9) rfl dX1_shareOf_38 ?_
        rw [erg]
        refine lv_iload_n hx hb dX1_shareOf_41 rfl (lv_at hl 3 rfl) ?_
        refine va_lald hx hb hK (hT.o9 (hT.k trg (by decide))).one 0 1 rfl rfl (g_in (by omega) (by omega)) dX1_shareOf_42 ?_
        refine lv_topl (fun t228 ht228 => ?_)
        have xt228 : t228.toInt = w k := by rw [ht228, ixc, ei, show zJ s215 rg k = zJ σ0 rg k from trg.eJ hT.2.2.1 (by decide) rfl]; exact hWt k (by omega)
        subst hQ9
        exact t_l hx hb hr hlocks hT (by unfold shr; rw [if_neg (by omega), if_pos (by omega)]; omega) dX1_shareOf_43
