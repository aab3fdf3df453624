/-! States of the class with their numbers. -/
def FP (σ τ : Gh) (E : Nat → Prop) : Prop := ∀ a, ¬ E a → zk σ a 1 → ∀ v, WV σ a v → WV τ a v
def VLS (κ : Kt) (σ : Gh) (rv N : Nat) (v : Nat → Int) : Prop := ∀ i, i < N → WV σ (kR κ rv i) (v i)
def DTL (κ : Kt) (σ : Gh) (ra M : Nat) (d : Nat → Int) : Prop := ∀ j, j < M → WV σ (kR κ (kR κ ra j) 9) (d j)
/-- the samples of a State's source -/
def SRC (κ : Kt) (σ : Gh) (st N : Nat) (P : Nat → Int) : Prop := (zI σ (kR κ st 0) 2).toInt = (N : Int) ∧ ∀ k, k < N → (zI σ (kR κ (kR κ st 0) 0) k).toInt = P k
def SST (κ : Kt) (σ : Gh) (st N : Nat) (P : Nat → Int) (X : Ps) : Prop := SRC κ σ st N P ∧ VLS κ σ (kR κ st 1) N X.1 ∧ (∀ k, k < N → (zJ σ (kR κ st 2) k).toInt = X.2.1 k) ∧ (∀ k, k < N → (zI σ (kR κ st 3) k).toInt = X.2.2.1 k) ∧ DTL κ σ (kR κ st 4) X.2.2.2.2 X.2.2.2.1 ∧ (zI σ st 5).toInt = (X.2.2.2.2 : Int)
/-- the Wholes of a State, numbered; all apart -/
def wh (κ : Kt) (st n : Nat) : Nat := if n < 48 then kR κ (kR κ st 1) n else if n < 94 then kR κ (kR κ (kR κ st 4) (n - 48)) 9 else if n = 94 then kR κ st 6 else if n = 95 then kR κ st 11 else kR κ st 12
def DW (κ : Kt) (st : Nat) : Prop := ∀ i j, i < 97 → j < 97 → wh κ st i = wh κ st j → i = j
section SLB
variable {κ : Kt} {F F1 : Nat → Nat → Bool} {σ0 σ τ υ : Gh} {s : State} {H : Heap} {locs : List Loc} {a b x t sz st i j N M rv ra p : Nat} {v d : Nat → Int} {E E2 : Nat → Prop} {y : Int} {P : Nat → Int} {X : Ps}
theorem FP.rf : FP σ σ E := fun _ _ _ _ h => h
theorem FP.one (h : FP σ τ (fun a => a = x)) : FW σ τ x := fun a ha ka v q => h a ha ka v q
theorem FP.toW (h : FP σ τ E) (hM : ∀ a, E a → a = x) : FW σ τ x := fun a ha ka v q => h a (fun e => ha (hM a e)) ka v q
theorem FP.to (h : FP σ τ E) (hM : ∀ a, E a → E2 a) : FP σ τ E2 := fun a ha ka v q => h a (fun e => ha (hM a e)) ka v q
theorem FP.call (hT : TS κ F σ0 σ s H locs) (h : FP σ0 σ E) (g : FW σ τ x) (hx : E x) : FP σ0 τ E := fun a na ka v q => g a (fun e => na (by rw [e]; exact hx)) (hT.k ka (by decide)) v (h a na ka v q)
theorem FP.callA (hT : TS κ F σ0 σ s H locs) (h : FP σ0 σ E) (g : FA σ τ) : FP σ0 τ E := fun a na ka v q => g a (hT.k ka (by decide)) v (h a na ka v q)
theorem FP.callP (hT : TS κ F σ0 σ s H locs) (h : FP σ0 σ E) (g : FP σ τ E2) (hE : ∀ a, E2 a → E a) : FP σ0 τ E := fun a na ka v q => g a (fun e => na (hE a e)) (hT.k ka (by decide)) v (h a na ka v q)
theorem TS.kv (hT : TS κ F σ0 σ s H locs) (h : zk σ rv 10) (hi : i < 48) : zk σ (kR κ rv i) 1 := hT.ref h (by decide) (zR10 hi) (by decide)
theorem TS.kd (hT : TS κ F σ0 σ s H locs) (h : zk σ ra 11) (hj : j < 46) : zk σ (kR κ (kR κ ra j) 9) 1 := hT.ref (hT.ref h (by decide) (zR11 hj) (by decide)) (by decide) (show (9, 1) ∈ zR 2 by decide) (by decide)
theorem VLS.fp (h : VLS κ σ rv N v) (g : FP σ τ E) (hk : ∀ i, i < N → zk σ (kR κ rv i) 1) (hE : ∀ i, i < N → ¬ E (kR κ rv i)) : VLS κ τ rv N v := fun i hi => g _ (hE i hi) (hk i hi) _ (h i hi)
theorem VLS.fa (h : VLS κ σ rv N v) (g : FA σ τ) (hk : ∀ i, i < N → zk σ (kR κ rv i) 1) : VLS κ τ rv N v := fun i hi => g _ (hk i hi) _ (h i hi)
theorem VLS.fw (h : VLS κ σ rv N v) (g : FW σ τ x) (hk : ∀ i, i < N → zk σ (kR κ rv i) 1) (hE : ∀ i, i < N → kR κ rv i ≠ x) : VLS κ τ rv N v := fun i hi => g _ (hE i hi) (hk i hi) _ (h i hi)
theorem VLS.up (h : VLS κ σ rv N v) (g : FW σ τ (kR κ rv p)) (hw : WV τ (kR κ rv p) y) (hk : ∀ i, i < N → zk σ (kR κ rv i) 1) (hE : ∀ i, i < N → kR κ rv i = kR κ rv p → i = p) : VLS κ τ rv N (updi v p y) := fun i hi => by
  by_cases e : i = p
  · rw [e, updi_at]; exact hw
  · rw [updi_o e]; exact g _ (fun q => e (hE i hi q)) (hk i hi) _ (h i hi)
theorem DTL.fp (h : DTL κ σ ra M d) (g : FP σ τ E) (hk : ∀ j, j < M → zk σ (kR κ (kR κ ra j) 9) 1) (hE : ∀ j, j < M → ¬ E (kR κ (kR κ ra j) 9)) : DTL κ τ ra M d := fun i hi => g _ (hE i hi) (hk i hi) _ (h i hi)
theorem DTL.fa (h : DTL κ σ ra M d) (g : FA σ τ) (hk : ∀ j, j < M → zk σ (kR κ (kR κ ra j) 9) 1) : DTL κ τ ra M d := fun i hi => g _ (hk i hi) _ (h i hi)
theorem DTL.fw (h : DTL κ σ ra M d) (g : FW σ τ x) (hk : ∀ j, j < M → zk σ (kR κ (kR κ ra j) 9) 1) (hE : ∀ j, j < M → kR κ (kR κ ra j) 9 ≠ x) : DTL κ τ ra M d := fun i hi => g _ (hE i hi) (hk i hi) _ (h i hi)
theorem DTL.more (h : DTL κ σ ra M d) (hw : WV σ (kR κ (kR κ ra M) 9) y) : DTL κ σ ra (M + 1) (updi d M y) := fun i hi => by
  by_cases e : i = M
  · rw [e, updi_at]; exact hw
  · rw [updi_o e]; exact h i (by omega)
theorem SRC.ext (h : SRC κ σ st N P) (k1 : zk σ (kR κ st 0) 4) (k2 : zk σ (kR κ (kR κ st 0) 0) 8) (g : Ext F1 sz σ τ) (h4 : F1 4 2 = false) (h8 : ∀ k, F1 8 k = false) : SRC κ τ st N P := ⟨by rw [k1.eI g (by decide) h4]; exact h.1, fun k hk => by rw [k2.eI g (by decide) (h8 k)]; exact h.2 k hk⟩
/-- a State's numbers behind something that changes Wholes alone, none of its own that count -/
theorem SST.fp (h : SST κ σ st N P X) (hT : TS κ F σ0 σ s H locs) (ks : zk σ st 3) (g : Ext F1 sz σ τ) (hF : F1 4 2 = false ∧ (∀ k, F1 8 k = false) ∧ (∀ k, F1 9 k = false) ∧ (∀ k, F1 15 k = false) ∧ F1 3 5 = false) (fp : FP σ τ E) (hN : N ≤ 48) (hM : X.2.2.2.2 ≤ 46) (hE : ∀ i, i < N → ¬ E (kR κ (kR κ st 1) i)) (hD : ∀ j, j < X.2.2.2.2 → ¬ E (kR κ (kR κ (kR κ st 4) j) 9)) : SST κ τ st N P X := by
  obtain ⟨h1, h2, h3, h4, h5, h6⟩ := h
  have k1 := hT.ref ks (by decide) (show (0, 4) ∈ zR 3 by decide) (by decide)
  have k2 := hT.ref k1 (by decide) (show (0, 8) ∈ zR 4 by decide) (by decide)
  have k3 := hT.ref ks (by decide) (show (1, 10) ∈ zR 3 by decide) (by decide)
  have k4 := hT.ref ks (by decide) (show (2, 9) ∈ zR 3 by decide) (by decide)
  have k5 := hT.ref ks (by decide) (show (3, 15) ∈ zR 3 by decide) (by decide)
  have k6 := hT.ref ks (by decide) (show (4, 11) ∈ zR 3 by decide) (by decide)
  refine ⟨h1.ext k1 k2 g hF.1 hF.2.1, h2.fp fp (fun i hi => hT.kv k3 (by omega)) hE, fun k hk => ?_, fun k hk => ?_, h5.fp fp (fun j hj => hT.kd k6 (by omega)) hD, ?_⟩
  · rw [k4.eJ g (by decide) (hF.2.2.1 k)]; exact h3 k hk
  · rw [k5.eI g (by decide) (hF.2.2.2.1 k)]; exact h4 k hk
  · rw [ks.eI g (by decide) hF.2.2.2.2]; exact h6
/-- a State's numbers behind a change of one of its settings -/
theorem SST.put {k : Nat} {y : Int32} (h : SST κ σ st N P X) (hT : TS κ F σ0 σ s H locs) (ks : zk σ st 3) (hu : τ = zput σ st k y) (hk : k ≠ 5) (hN : N ≤ 48) (hM : X.2.2.2.2 ≤ 46) : SST κ τ st N P X := by
  obtain ⟨h1, h2, h3, h4, h5, h6⟩ := h
  have k1 := hT.ref ks (by decide) (show (0, 4) ∈ zR 3 by decide) (by decide)
  have k2 := hT.ref k1 (by decide) (show (0, 8) ∈ zR 4 by decide) (by decide)
  have k3 := hT.ref ks (by decide) (show (1, 10) ∈ zR 3 by decide) (by decide)
  have k5 := hT.ref ks (by decide) (show (3, 15) ∈ zR 3 by decide) (by decide)
  have k6 := hT.ref ks (by decide) (show (4, 11) ∈ zR 3 by decide) (by decide)
  have fa : FA σ τ := FA.put hT ks (by decide) (by decide) hu
  refine ⟨⟨by rw [zput_o hu (Or.inl (k1.ne ks (by decide)))]; exact h1.1, fun k hk => by rw [zput_o hu (Or.inl (k2.ne ks (by decide)))]; exact h1.2 k hk⟩, h2.fa fa (fun i hi => hT.kv k3 (by omega)), fun k hk => by rw [zput_J hu]; exact h3 k hk, fun k hk => by rw [zput_o hu (Or.inl (k5.ne ks (by decide)))]; exact h4 k hk, h5.fa fa (fun j hj => hT.kd k6 (by omega)), ?_⟩
  rw [zput_o hu (Or.inr (fun e => hk e.symm))]
  exact h6
theorem wh_v (h : i < 48) : wh κ st i = kR κ (kR κ st 1) i := if_pos h
theorem wh_d (h : j < 46) : wh κ st (48 + j) = kR κ (kR κ (kR κ st 4) j) 9 := by
  unfold wh
  rw [if_neg (by omega), if_pos (by omega), show 48 + j - 48 = j by omega]
theorem wh_i : wh κ st 94 = kR κ st 6 := rfl
theorem wh_p : wh κ st 95 = kR κ st 11 := rfl
theorem wh_r : wh κ st 96 = kR κ st 12 := rfl
theorem DW.vv (h : DW κ st) (hi : i < 48) (hj : j < 48) (e : kR κ (kR κ st 1) i = kR κ (kR κ st 1) j) : i = j := h i j (by omega) (by omega) (by rw [wh_v hi, wh_v hj]; exact e)
theorem DW.vd (h : DW κ st) (hi : i < 48) (hj : j < 46) : kR κ (kR κ st 1) i ≠ kR κ (kR κ (kR κ st 4) j) 9 := fun e => by
  have := h i (48 + j) (by omega) (by omega) (by rw [wh_v hi, wh_d hj]; exact e)
  omega
theorem DW.vi (h : DW κ st) (hi : i < 48) : kR κ (kR κ st 1) i ≠ kR κ st 6 := fun e => by
  have := h i 94 (by omega) (by omega) (by rw [wh_v hi, wh_i]; exact e)
  omega
theorem DW.vp (h : DW κ st) (hi : i < 48) : kR κ (kR κ st 1) i ≠ kR κ st 11 := fun e => by
  have := h i 95 (by omega) (by omega) (by rw [wh_v hi, wh_p]; exact e)
  omega
theorem DW.vr (h : DW κ st) (hi : i < 48) : kR κ (kR κ st 1) i ≠ kR κ st 12 := fun e => by
  have := h i 96 (by omega) (by omega) (by rw [wh_v hi, wh_r]; exact e)
  omega
theorem DW.dd (h : DW κ st) (hi : i < 46) (hj : j < 46) (e : kR κ (kR κ (kR κ st 4) i) 9 = kR κ (kR κ (kR κ st 4) j) 9) : i = j := by
  have := h (48 + i) (48 + j) (by omega) (by omega) (by rw [wh_d hi, wh_d hj]; exact e)
  omega
theorem DW.dp (h : DW κ st) (hj : j < 46) : kR κ (kR κ (kR κ st 4) j) 9 ≠ kR κ st 11 := fun e => by
  have := h (48 + j) 95 (by omega) (by omega) (by rw [wh_d hj, wh_p]; exact e)
  omega
theorem DW.dr (h : DW κ st) (hj : j < 46) : kR κ (kR κ (kR κ st 4) j) 9 ≠ kR κ st 12 := fun e => by
  have := h (48 + j) 96 (by omega) (by omega) (by rw [wh_d hj, wh_r]; exact e)
  omega
theorem DW.pr (h : DW κ st) : kR κ st 11 ≠ kR κ st 12 := fun e => by
  have := h 95 96 (by omega) (by omega) (by rw [wh_p, wh_r]; exact e)
  omega
end SLB
theorem ixof {i : Int32} {k : Nat} (h : i.toInt = k) : ix i = k := by unfold ix; omega
theorem mul_bd {a x A B : Int} (h1 : -A ≤ a) (h2 : a ≤ A) (h3 : 0 ≤ x) (h4 : x ≤ B) : -(A * B) ≤ a * x ∧ a * x ≤ A * B := by
  have hA : 0 ≤ A := by omega
  have e1 := Int.mul_le_mul_of_nonneg_right h2 h3
  have e2 := Int.mul_le_mul_of_nonneg_left h4 hA
  have e3 := Int.mul_le_mul_of_nonneg_right h1 h3
  have e4 : -A * x = -(A * x) := Int.neg_mul A x
  omega
theorem LN.cg {l l' : Nat → Int} {k p : Nat} (h : LN l k p) (e : ∀ j, j < k → l' j = l j) : LN l' k p := ⟨h.1, by rw [e p h.1]; exact h.2.1, fun j h1 h2 => by rw [e j h2]; exact h.2.2 j h1 h2⟩
theorem RN.cg {l l' : Nat → Int} {N k q : Nat} (h : RN N l k q) (e : ∀ j, j < N → l' j = l j) : RN N l' k q := ⟨h.1, by rw [e q h.1.2]; exact h.2.1, fun j h1 h2 => by rw [e j (by have := h.1.2; omega)]; exact h.2.2 j h1 h2⟩
/-- the linear prediction's parts are small -/
theorem prd_num {a z x D : Int} (ha : -2228000000 ≤ a ∧ a ≤ 2228000000) (h0 : 0 ≤ x) (h1 : x ≤ D) (h2 : 0 < D) (h3 : D ≤ 9999) (hz : z = a * x / D) : (-9223372036854775808 ≤ a * x ∧ a * x ≤ 9223372036854775807) ∧ -2228000000 ≤ z ∧ z ≤ 2228000000 := by
  have m := mul_bd ha.1 ha.2 h0 (show x ≤ 9999 by omega)
  have e := ediv_in (z := a) h0 h1 h2
  rw [← hz] at e
  refine ⟨by omega, ?_⟩
  rcases Int.le_total 0 a with q | q
  · have := e.1 q; omega
  · have := e.2 q; omega
/-! the sample that is lifted next: what the search has found so far, before sample i -/
def CLM (l : Nat → Int) (i : Nat) (lf md : Int) : Prop := (i = 0 ∧ lf = -1 ∧ md = -1) ∨ (lf = -1 ∧ md = 0 ∧ 0 < i ∧ l 0 = -1 ∧ ∀ j, 0 < j → j < i → l j ≠ -1) ∨ (∃ a b : Nat, lf = a ∧ md = b ∧ b < i ∧ LN l b a ∧ l b = -1 ∧ ∀ j, b < j → j < i → l j ≠ -1)
def CBS (N : Nat) (P : Nat → Int) (s r : Int) (X : Ps) (md bs : Int) (W : Int → Prop) : Prop := (bs = -1 ∧ ∀ j : Nat, 0 < j → (j : Int) < md → X.2.2.1 j ≠ -1) ∨ (∃ (k : Nat) (c : Int), bs = k ∧ 0 < k ∧ (k : Int) < md ∧ X.2.2.1 k = -1 ∧ W c ∧ CO N P s r X k (ab c) ∧ ∀ j : Nat, 0 < j → (j : Int) < md → X.2.2.1 j = -1 → ∀ c', CO N P s r X j c' → ab c ≤ c' ∧ (j < k → ab c < c'))
theorem CLM.b {l : Nat → Int} {i : Nat} {lf md : Int} (h : CLM l i lf md) : (-1 ≤ lf ∧ -1 ≤ md) ∧ (lf < i ∧ md < i) ∧ (lf ≠ -1 → 0 ≤ lf ∧ lf < md) := by
  rcases h with ⟨h1, h2, h3⟩ | ⟨h1, h2, h3, -⟩ | ⟨a, b, h1, h2, h3, h4, -⟩
  · omega
  · omega
  · have := h4.1; omega
theorem CLM.skip {l : Nat → Int} {i : Nat} {lf md : Int} (h : CLM l i lf md) (h0 : l 0 = -1) (hi : l i ≠ -1) : CLM l (i + 1) lf md := by
  have z : i ≠ 0 := fun e => hi (by rw [e]; exact h0)
  rcases h with ⟨h1, -⟩ | ⟨h1, h2, h3, h4, h5⟩ | ⟨a, b, h1, h2, h3, h4, h5, h6⟩
  · exact absurd h1 z
  · refine Or.inr (Or.inl ⟨h1, h2, by omega, h4, fun j j1 j2 => ?_⟩)
    by_cases e : j = i
    · rw [e]; exact hi
    · exact h5 j j1 (by omega)
  · refine Or.inr (Or.inr ⟨a, b, h1, h2, by omega, h4, h5, fun j j1 j2 => ?_⟩)
    by_cases e : j = i
    · rw [e]; exact hi
    · exact h6 j j1 (by omega)
theorem CLM.next {l : Nat → Int} {i : Nat} {lf md : Int} (h : CLM l i lf md) (hi : l i = -1) : CLM l (i + 1) md i := by
  rcases h with ⟨h1, h2, h3⟩ | ⟨h1, h2, h3, h4, h5⟩ | ⟨a, b, h1, h2, h3, h4, h5, h6⟩
  · exact Or.inr (Or.inl ⟨h3, by omega, by omega, by rw [← h1]; exact hi, fun j j1 j2 => by omega⟩)
  · exact Or.inr (Or.inr ⟨0, i, by omega, rfl, by omega, ⟨h3, h4, fun j j1 j2 => h5 j j1 j2⟩, hi, fun j j1 j2 => by omega⟩)
  · exact Or.inr (Or.inr ⟨b, i, by omega, rfl, by omega, ⟨h3, h5, fun j j1 j2 => h6 j j1 j2⟩, hi, fun j j1 j2 => by omega⟩)
/-- three in a row -/
theorem CLM.row {l : Nat → Int} {N i : Nat} {lf md : Int} (h : CLM l i lf md) (hi : l i = -1) (hN : i < N) (hl : lf ≠ -1) : ∃ a b : Nat, lf = a ∧ md = b ∧ 0 < b ∧ LN l b a ∧ l b = -1 ∧ RN N l b i := by
  rcases h with ⟨-, h2, -⟩ | ⟨h2, -⟩ | ⟨a, b, h1, h2, h3, h4, h5, h6⟩
  · exact absurd h2 hl
  · exact absurd h2 hl
  · exact ⟨a, b, h1, h2, by have := h4.1; omega, h4, h5, ⟨h3, hN⟩, hi, fun j j1 j2 => h6 j j1 j2⟩
section CBX
variable {N : Nat} {P : Nat → Int} {s r : Int} {X : Ps} {md bs lf : Int} {W W2 : Int → Prop} {i : Nat}
theorem CBS.mono (h : CBS N P s r X md bs W) (g : ∀ c, W c → W2 c) : CBS N P s r X md bs W2 := by
  rcases h with h | ⟨k, c, h1, h2, h3, h4, h5, h6⟩
  · exact Or.inl h
  · exact Or.inr ⟨k, c, h1, h2, h3, h4, g c h5, h6⟩
theorem CBS.b (h : CBS N P s r X md bs W) : bs = -1 ∨ (0 < bs ∧ bs < md) := by
  rcases h with ⟨h, -⟩ | ⟨k, c, h1, h2, h3, -⟩
  · exact Or.inl h
  · omega
/-- the first two: nothing between them -/
theorem CBS.first (h : CBS N P s r X md bs W) (hc : CLM X.2.2.1 i lf md) (hl : lf = -1) : CBS N P s r X i bs W := by
  have q : md ≤ 0 := by
    rcases hc with ⟨-, -, q⟩ | ⟨-, q, -⟩ | ⟨a, b, q, -⟩
    · omega
    · omega
    · omega
  rcases h with ⟨h1, -⟩ | ⟨k, c, h1, h2, h3, -⟩
  · refine Or.inl ⟨h1, fun j j1 j2 => ?_⟩
    rcases hc with ⟨q, -⟩ | ⟨-, -, -, -, q⟩ | ⟨a, b, q, -⟩
    · omega
    · exact q j j1 (by omega)
    · omega
  · omega
/-- present inner samples up to md, md itself among them -/
theorem CBS.cut (hc : CLM X.2.2.1 i lf md) {j : Nat} (j2 : (j : Int) < i) (h : X.2.2.1 j = -1) : (j : Int) < md ∨ (j : Int) = md := by
  rcases hc with ⟨q, -⟩ | ⟨-, q1, -, -, q⟩ | ⟨a, b, -, q1, -, -, -, q⟩
  · omega
  · by_cases z : j = 0
    · omega
    · exact absurd h (q j (by omega) (by omega))
  · by_cases z : j ≤ b
    · omega
    · exact absurd h (q j (by omega) (by omega))
theorem CBS.new (h : CBS N P s r X md bs W) (hc : CLM X.2.2.1 i lf md) (hb : bs = -1) {b : Nat} {c : Int} (e : md = b) (h0 : 0 < b) (hl : X.2.2.1 b = -1) (hi : b < i) (co : CO N P s r X b (ab c)) (hw : W2 c) : CBS N P s r X i b W2 := by
  refine Or.inr ⟨b, c, rfl, h0, by omega, hl, hw, co, fun j j1 j2 j3 c' hc' => ?_⟩
  rcases CBS.cut hc j2 j3 with q | q
  · exfalso
    rcases h with ⟨-, h⟩ | ⟨k, c, h1, -⟩
    · exact h j j1 q j3
    · omega
  · have z : j = b := by omega
    rw [z] at hc'
    have := hc'.one co
    omega
theorem CBS.better (h : CBS N P s r X md bs W) (hc : CLM X.2.2.1 i lf md) {b : Nat} {c d : Int} (e : md = b) (h0 : 0 < b) (hl : X.2.2.1 b = -1) (hi : b < i) (co : CO N P s r X b (ab c)) (hw : W2 c) (one : ∀ c', W c' → c' = d) (lt : ab c < ab d) : CBS N P s r X i b W2 := by
  refine Or.inr ⟨b, c, rfl, h0, by omega, hl, hw, co, fun j j1 j2 j3 c' hc' => ?_⟩
  rcases CBS.cut hc j2 j3 with q | q
  · rcases h with ⟨-, h⟩ | ⟨k, c0, h1, h2, h3, h4, h5, h6, h7⟩
    · exact absurd j3 (h j j1 q)
    · have := (h7 j j1 q j3 c' hc').1
      have := one c0 h5
      subst this
      exact ⟨by omega, fun _ => by omega⟩
  · have z : j = b := by omega
    rw [z] at hc'
    have := hc'.one co
    omega
theorem CBS.keep (h : CBS N P s r X md bs W) (hc : CLM X.2.2.1 i lf md) {b : Nat} {c d : Int} (e : md = b) (h0 : 0 < b) (hl : X.2.2.1 b = -1) (hi : b < i) (co : CO N P s r X b (ab c)) (hb : bs ≠ -1) (one : ∀ c', W c' → c' = d) (ge : ab d ≤ ab c) : CBS N P s r X i bs W := by
  rcases h with ⟨h, -⟩ | ⟨k, c0, h1, h2, h3, h4, h5, h6, h7⟩
  · exact absurd h hb
  · have z0 := one c0 h5
    subst z0
    refine Or.inr ⟨k, c0, h1, h2, by omega, h4, h5, h6, fun j j1 j2 j3 c' hc' => ?_⟩
    rcases CBS.cut hc j2 j3 with q | q
    · exact h7 j j1 q j3 c' hc'
    · have z : j = b := by omega
      rw [z] at hc'
      have := hc'.one co
      exact ⟨by omega, fun _ => by omega⟩
/-- the number that the best one has -/
theorem CBS.val (h : CBS N P s r X md bs W) (hb : bs ≠ -1) : ∃ c, W c := by
  rcases h with ⟨h, -⟩ | ⟨k, c, h1, h2, h3, h4, h5, -⟩
  · exact absurd h hb
  · exact ⟨c, h5⟩
theorem CBS.fin (h : CBS N P s r X md bs W) (hc : CLM X.2.2.1 N lf md) (hN : 2 ≤ N) (hl : X.2.2.1 (N - 1) = -1) (le : Int) (hle : le < N - X.2.2.2.2) : (bs = -1 ∧ CH0 N le X) ∨ (∃ k : Nat, bs = k ∧ CHk N P le s r X k) := by
  have hm : md = (N - 1 : Nat) := by
    have b := hc.b
    rcases CBS.cut hc (j := N - 1) (by omega) hl with q | q
    · omega
    · omega
  rcases h with ⟨h1, h2⟩ | ⟨k, c, h1, h2, h3, h4, h5, h6, h7⟩
  · exact Or.inl ⟨h1, Or.inr (fun k hk => h2 k hk.1 (by have := hk.2.1; omega) hk.2.2)⟩
  · exact Or.inr ⟨k, h1, hle, ⟨h2, by omega, h4⟩, ab c, h6, fun j hj c' hc' => h7 j hj.1 (by have := hj.2.1; omega) hj.2.2 c' hc'⟩
end CBX
theorem W1.one {σ : Gh} {lm a : Nat} {v w : Int} (h : W1 σ lm a v) (g : W1 σ lm a w) : v = w := by
  unfold W1 at h g
  omega
theorem WV.one {σ : Gh} {a : Nat} {v w : Int} (h : WV σ a v) (g : WV σ a w) : v = w := W1.one h g
/-! one lift: what is multiplied stays small -/
theorem gain_num {w d E F : Int} (hE : 1 ≤ E) (hF : 1 ≤ F) (hEF : E + F ≤ 20000) (hw : 0 ≤ w) (hd : -2228000000 ≤ d ∧ d ≤ 2228000000) (n : w * E ≤ E * E + F * F) : (-9223372036854775808 ≤ d * (w * E) ∧ d * (w * E) ≤ 9223372036854775807) ∧ (-2228000000 ≤ d * (w * E) / (E * E + F * F) ∧ d * (w * E) / (E * E + F * F) ≤ 2228000000) := by
  have a0 := Int.mul_nonneg hw (show 0 ≤ E by omega)
  have a1 := mul_bd (a := E) (x := E) (A := 20000) (B := 20000) (by omega) (by omega) (by omega) (by omega)
  have a2 := mul_bd (a := F) (x := F) (A := 20000) (B := 20000) (by omega) (by omega) (by omega) (by omega)
  have p1 := Int.mul_pos (show 0 < E by omega) (show 0 < E by omega)
  have p2 := Int.mul_pos (show 0 < F by omega) (show 0 < F by omega)
  have m := mul_bd hd.1 hd.2 a0 (show w * E ≤ 800000000 by omega)
  have e := ediv_in (z := d) a0 n (show 0 < E * E + F * F by omega)
  refine ⟨by omega, ?_⟩
  rcases Int.le_total 0 d with q | q
  · have := e.1 q; omega
  · have := e.2 q; omega
theorem gan_c {u w d E F : Int} (hu : u ≠ 0) : gan u w d E F = d * (w * E) / (E * E + F * F) := by
  unfold gan
  rw [if_neg hu, show w * d * E = d * (w * E) from by rw [Int.mul_comm w d, Int.mul_assoc]]
theorem gan_0 {w d E F : Int} : gan 0 w d E F = 0 := if_pos rfl
/-- weights, share and detail of one lift in a pass -/
theorem PIV.num {N : Nat} {P : Nat → Int} {r : Int} {v w l dt : Nat → Int} {m k p q : Nat} (hP : PLI N P) (hr : r = 0 ∨ r = 1 ∨ r = 2) (hX : PIV N P r (v, w, l, dt, m)) (hm : m ≤ 46) (hk : l k = -1) (hp : LN l k p) (hq : RN N l k q) {E F s d : Int} (es : s = shr P w r k p q) (hE : E = w p + s) (hF : F = w q + w k - s) (hd : d = v k - prd P v r k p q) : (0 ≤ s ∧ s ≤ w k) ∧ (1 ≤ w k ∧ 1 ≤ w p ∧ 1 ≤ w q ∧ w p + w k + w q ≤ 20000) ∧ (1 ≤ E ∧ 1 ≤ F ∧ E + F ≤ 20000) ∧ (-2228000000 ≤ d ∧ d ≤ 2228000000) ∧ w k * E ≤ E * E + F * F ∧ w k * F ≤ F * F + E * E := by
  obtain ⟨⟨px, py⟩, ⟨wk, wp, wq, ws⟩, gg⟩ := hX.geo hP hk hp hq
  obtain ⟨s', -, es', ⟨s0, s1⟩, -, -, -, -, -, n4, n5⟩ := lft_num (v := v) hr px py wk wp wq gg
  rw [← es] at es'
  subst es'
  have hdd := hX.det hP hm hk hp hq
  have hdd : -2228000000 ≤ v k - prd P v r k p q ∧ v k - prd P v r k p q ≤ 2228000000 := hdd
  rw [← hd] at hdd
  have eF : F = w q + w k - s := hF
  rw [← hE, ← eF] at n4 n5
  refine ⟨⟨s0, s1⟩, ⟨wk, wp, wq, ws⟩, ⟨by omega, by omega, by omega⟩, hdd, ?_, ?_⟩
  · rw [Int.mul_comm]; exact n4
  · rw [Int.mul_comm, Int.add_comm (F * F)]; exact n5
theorem ab_pos {a : Int} (h : 0 ≤ a) : ab a = a := by unfold ab; rw [if_neg (by omega)]
theorem cst_0 {P : Nat → Int} {s r : Int} {X : Ps} {k p q : Nat} (h : s = 0) : cst P s r X k p q = P q - P p := if_pos h
theorem cst_1 {P : Nat → Int} {s r : Int} {X : Ps} {k p q : Nat} (h : s = 1) : cst P s r X k p q = (ntzF 8 k : Nat) := by unfold cst; rw [if_neg (by omega), if_pos h]
theorem cst_2 {P : Nat → Int} {s r : Int} {X : Ps} {k p q : Nat} (h : s ≠ 0) (h1 : s ≠ 1) : cst P s r X k p q = ab (dtl P r X k p q) := by unfold cst; rw [if_neg h, if_neg h1]; rfl
theorem VLS.same {κ : Kt} {σ : Gh} {rv N : Nat} {v v' : Nat → Int} (h : VLS κ σ rv N v) (e : ∀ i, v' i = v i) : VLS κ σ rv N v' := fun i hi => by rw [e]; exact h i hi
theorem upd_id {v : Nat → Int} {p q : Nat} {a b : Int} (ha : a = v p) (hb : b = v q) (i : Nat) : updi (updi v p a) q b i = v i := by
  unfold updi
  by_cases h : i = q
  · rw [if_pos h, h, hb]
  · rw [if_neg h]
    by_cases g : i = p
    · rw [if_pos g, g, ha]
    · rw [if_neg g]
theorem w2_up {g : Nat → Int64} {w : Nat → Int} {N p q : Nat} {t1 t2 : Int64} {E F : Int} (h : ∀ j, j < N → (g j).toInt = w j) (h1 : t1.toInt = E) (h2 : t2.toInt = F) (j : Nat) (hj : j < N) : (vp_updL (vp_updL g p t1) q t2 j).toInt = updi (updi w p E) q F j := by
  by_cases e : j = q
  · rw [e, updi_at, uh, h2]
  · rw [updi_o e, un e]
    by_cases e2 : j = p
    · rw [e2, updi_at, uh, h1]
    · rw [updi_o e2, un e2]; exact h j hj
/-! the start of a pass -/
theorem fsum_abs {f g : Nat → Int} {A : Int} : ∀ n : Nat, (∀ k, k < n → -(A * g k) ≤ f k ∧ f k ≤ A * g k) → -(A * fsum n g) ≤ fsum n f ∧ fsum n f ≤ A * fsum n g := by
  intro n
  induction n with
  | zero => intro _; rw [fsum, fsum, Int.mul_zero]; omega
  | succ n ih =>
    intro h
    have a := ih (fun k hk => h k (by omega))
    have b := h n (by omega)
    rw [fsum, fsum, Int.mul_add]
    omega
theorem ini_w {N : Nat} {P V : Nat → Int} (hN : 2 ≤ N ∧ N ≤ 48) (hP : PLI N P) {k : Nat} (hk : k < N) : 1 ≤ (ini N P V).2.1 k ∧ (ini N P V).2.1 k ≤ 20000 := by
  have hb := PIV.base (V := fun _ => 0) (r := 0) hN hP (fun k _ => by show (-9999 : Int) ≤ 0 ∧ (0 : Int) ≤ 9999; omega)
  obtain ⟨-, b, c, -⟩ := hb
  have b : ∀ k, k < N → 1 ≤ (ini N P V).2.1 k := fun k hk => b k hk rfl
  have e : fsum N (pt (ini N P fun _ => 0).2.2.1 (ini N P fun _ => 0).2.1) = fsum N (ini N P V).2.1 := fsum_congr (fun k _ => by unfold pt; exact if_pos rfl)
  rw [e] at c
  have o := fsum_one (N := N) (k := k) (f := (ini N P V).2.1) (fun j hj => by have := b j hj; omega) hk
  exact ⟨b k hk, by omega⟩
theorem ini_sum {N : Nat} {P V : Nat → Int} (hN : 2 ≤ N ∧ N ≤ 48) (hP : PLI N P) (hV : ∀ k, k < N → -9999 ≤ V k ∧ V k ≤ 9999) {n : Nat} (hn : n ≤ N) : -199980000 ≤ fsum n (fun j => V j * (ini N P V).2.1 j) ∧ fsum n (fun j => V j * (ini N P V).2.1 j) ≤ 199980000 := by
  have hb := PIV.base (V := fun _ => 0) (r := 0) hN hP (fun k _ => by show (-9999 : Int) ≤ 0 ∧ (0 : Int) ≤ 9999; omega)
  obtain ⟨-, -, c, -⟩ := hb
  have e : fsum N (pt (ini N P fun _ => 0).2.2.1 (ini N P fun _ => 0).2.1) = fsum N (ini N P V).2.1 := fsum_congr (fun k _ => by unfold pt; exact if_pos rfl)
  rw [e] at c
  have l := fsum_le (N := N) (M := n) (f := (ini N P V).2.1) (fun j hj => by have := ini_w (V := V) hN hP hj; omega) hn
  have a := fsum_abs (f := fun j => V j * (ini N P V).2.1 j) (g := (ini N P V).2.1) (A := 9999) n (fun k hk => by
    have w := ini_w (V := V) hN hP (k := k) (by omega)
    have v := hV k (by omega)
    have m1 := Int.mul_le_mul_of_nonneg_right v.2 (show 0 ≤ (ini N P V).2.1 k by omega)
    have m2 := Int.mul_le_mul_of_nonneg_right v.1 (show 0 ≤ (ini N P V).2.1 k by omega)
    show -(9999 * (ini N P V).2.1 k) ≤ V k * (ini N P V).2.1 k ∧ V k * (ini N P V).2.1 k ≤ 9999 * (ini N P V).2.1 k
    omega)
  omega
theorem upd_more {g : Nat → Int64} {w : Nat → Int} {n : Nat} {t : Int64} (h : ∀ j, j < n → (g j).toInt = w j) (ht : t.toInt = w n) : ∀ j, j < n + 1 → (vp_updL g n t j).toInt = w j := fun j hj => by
  by_cases e : j = n
  · rw [e, uh]; exact ht
  · rw [un e]; exact h j (by omega)
