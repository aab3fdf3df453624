/-! Wholes that hold a number in one limb: what is kept of them. -/
def WV (σ : Gh) (a : Nat) (v : Int) : Prop := W1 σ (zL σ a) a v
/-- all Wholes keep theirs; all but one -/
def FA (σ τ : Gh) : Prop := ∀ a, zk σ a 1 → ∀ v, WV σ a v → WV τ a v
def FW (σ τ : Gh) (x : Nat) : Prop := ∀ a, a ≠ x → zk σ a 1 → ∀ v, WV σ a v → WV τ a v
def ab (a : Int) : Int := if a < 0 then -a else a
theorem ab_nn (a : Int) : 0 ≤ ab a ∧ (ab a = a ∨ ab a = -a) ∧ a ≤ ab a ∧ -a ≤ ab a := by unfold ab; split <;> omega
theorem ab_neg (a : Int) : ab (-a) = ab a := by unfold ab; split <;> split <;> omega
section WVS
variable {κ : Kt} {F F1 : Nat → Nat → Bool} {σ0 σ τ υ : Gh} {s : State} {H : Heap} {locs : List Loc} {a b x lm t sz : Nat} {v w : Int}
theorem FA.rf : FA σ σ := fun _ _ _ h => h
theorem FW.rf : FW σ σ x := fun _ _ _ _ h => h
theorem FA.tr (h : FA σ τ) (g : FA τ υ) (k : ∀ a, zk σ a 1 → zk τ a 1) : FA σ υ := fun a ka v q => g a (k a ka) v (h a ka v q)
theorem FW.tr (h : FW σ τ x) (g : FW τ υ x) (k : ∀ a, zk σ a 1 → zk τ a 1) : FW σ υ x := fun a ha ka v q => g a ha (k a ka) v (h a ha ka v q)
theorem FW.fa (h : FW σ τ x) (g : FA τ υ) (k : ∀ a, zk σ a 1 → zk τ a 1) : FW σ υ x := fun a ha ka v q => g a (k a ka) v (h a ha ka v q)
theorem FA.ro (hT : TS κ F σ0 σ s H locs) (g : Ext F1 sz σ τ) (h1 : ∀ k, F1 1 k = false) (hB : ∀ n k, F1 (100 + n) k = false) : FA σ τ := fun a ka v h => by
  obtain ⟨-, hz, -⟩ := hT.o1z ka
  have eL := ka.eL g (by decide) (h1 0)
  unfold WV
  rw [eL]
  exact W1.eq h (ka.eI g (by decide) (h1 1)) (ka.eI g (by decide) (h1 2)) (hz.eI g (by omega) (hB _ 0))
theorem FA.put {k : Nat} {y : Int32} (hT : TS κ F σ0 σ s H locs) (kb : zk σ b t) (h1 : t ≠ 1) (h2 : t < 100) (hu : τ = zput σ b k y) : FA σ τ := fun a ka v h => by
  obtain ⟨-, hz, -⟩ := hT.o1z ka
  have eL : zL τ a = zL σ a := by rw [hu]; rfl
  have ne := ka.ne kb (fun e => h1 e.symm)
  unfold WV
  rw [eL]
  exact W1.eq h (zput_o hu (Or.inl ne)) (zput_o hu (Or.inl ne)) (zput_o hu (Or.inl (hz.ne kb (by omega))))
theorem FA.pul {k : Nat} {y : Int64} (hu : τ = zpul σ b k y) : FA σ τ := fun a ka v h => by
  have eL : zL τ a = zL σ a := by rw [hu]; rfl
  unfold WV
  rw [eL]
  exact W1.eq h (by rw [zpul_I hu]) (by rw [zpul_I hu]) (by rw [zpul_I hu])
theorem FW.put {k : Nat} {y : Int32} (hT : TS κ F σ0 σ s H locs) (h : FW σ0 σ x) (hx : zk σ x 1) (hu : τ = zput σ x k y) : FW σ0 τ x := fun a ha ka v q => by
  have kc : zk σ a 1 := hT.k ka (by decide)
  have q := h a ha ka v q
  obtain ⟨-, hz, -⟩ := hT.o1z kc
  have eL : zL τ a = zL σ a := by rw [hu]; rfl
  unfold WV
  rw [eL]
  exact W1.eq q (zput_o hu (Or.inl ha)) (zput_o hu (Or.inl ha)) (zput_o hu (Or.inl (hz.ne hx (by omega))))
theorem FW.putL {k : Nat} {y : Int32} (hT : TS κ F σ0 σ s H locs) (h : FW σ0 σ x) (hx : zk σ x 1) (el : zL σ x = lm) (hu : τ = zput σ lm k y) : FW σ0 τ x := fun a ha ka v q => by
  have kc : zk σ a 1 := hT.k ka (by decide)
  have q := h a ha ka v q
  obtain ⟨-, hz, ho⟩ := hT.o1z kc
  obtain ⟨-, hz2, ho2⟩ := hT.o1z hx
  rw [el] at hz2 ho2
  have eL : zL τ a = zL σ a := by rw [hu]; rfl
  have n1 : a ≠ lm := kc.ne hz2 (by omega)
  have n2 : zL σ a ≠ lm := fun e => ha (by rw [← ho, e, ho2])
  unfold WV
  rw [eL]
  exact W1.eq q (zput_o hu (Or.inl n1)) (zput_o hu (Or.inl n1)) (zput_o hu (Or.inl n2))
theorem FW.call (hT : TS κ F σ0 σ s H locs) (h : FW σ0 σ x) (g : FW σ τ x) : FW σ0 τ x := h.tr g (fun _ ka => hT.k ka (by decide))
theorem FW.callA (hT : TS κ F σ0 σ s H locs) (h : FW σ0 σ x) (g : FA σ τ) : FW σ0 τ x := h.fa g (fun _ ka => hT.k ka (by decide))
theorem TS.lne (hT : TS κ F σ0 σ s H locs) (hx : zk σ x 1) (el : zL σ x = lm) (hb : zk σ b t) (ht : t < 100) : lm ≠ b := by
  obtain ⟨-, hz, -⟩ := hT.o1z hx
  rw [el] at hz
  exact hz.ne hb (by omega)
theorem WV.at (h : WV σ a v) (el : zL σ a = lm) : (v = 0 ∧ (zI σ a 1).toInt = 0 ∧ (zI σ a 2).toInt = 0 ∧ ub (zI σ lm 0) = 0) ∨ (0 < v ∧ v < 4294967296 ∧ (zI σ a 1).toInt = 1 ∧ (zI σ a 2).toInt = 0 ∧ ub (zI σ lm 0) = v) ∨ (v < 0 ∧ -4294967296 < v ∧ (zI σ a 1).toInt = 1 ∧ (zI σ a 2).toInt = 1 ∧ ub (zI σ lm 0) = -v) := by
  unfold WV W1 at h
  rw [el] at h
  exact h
theorem WV.lim (h : WV σ a v) : -4294967296 < v ∧ v < 4294967296 := by
  have := h.at rfl
  omega
theorem WV.amt (h : WV σ a v) (el : zL σ a = lm) : ab v = ub (zI σ lm 0) ∧ (((zI σ a 1).toInt = 0 ∧ ab v = 0) ∨ ((zI σ a 1).toInt = 1 ∧ 0 < ab v)) := by
  have := h.at el
  unfold ab
  split <;> omega
theorem WV.mk {x1 x2 x0 : Int32} (el : zL σ a = lm) (e1 : zI σ a 1 = x1) (e2 : zI σ a 2 = x2) (e0 : zI σ lm 0 = x0) (h : (v = 0 ∧ x1.toInt = 0 ∧ x2.toInt = 0 ∧ ub x0 = 0) ∨ (0 < v ∧ v < 4294967296 ∧ x1.toInt = 1 ∧ x2.toInt = 0 ∧ ub x0 = v) ∨ (v < 0 ∧ -4294967296 < v ∧ x1.toInt = 1 ∧ x2.toInt = 1 ∧ ub x0 = -v)) : WV σ a v := by
  unfold WV W1
  rw [el, e1, e2, e0]
  exact h
end WVS
theorem ixc {i : Int32} : i.toNatClampNeg = ix i := rfl
theorem ub_z (x : Int32) : (ub x = 0 ∧ x.toInt = 0) ∨ (0 < ub x ∧ x.toInt ≠ 0) := by
  have h1 := Int32.le_toInt x
  have h2 := Int32.toInt_lt x
  unfold ub
  omega
theorem ub_r (x : Int32) : ub x = x.toInt % 4294967296 := rfl
/-! shifts of a number that is not below 0 -/
theorem ush_1 {x t : Int32} (h0 : 0 ≤ x.toInt) (h : t = (x.toUInt32 >>> ((1 : Int32).toUInt32 &&& Int32.toUInt32 31)).toInt32) : t.toInt = x.toInt / 2 := by
  have e1 : t.toBitVec.toNat = x.toBitVec.toNat / 2 := by
    rw [h]
    show (x.toBitVec >>> (((1 : Int32).toUInt32 &&& Int32.toUInt32 31).toBitVec % 32#32)).toNat = _
    rw [show (((1 : Int32).toUInt32 &&& Int32.toUInt32 31).toBitVec % 32#32) = 1#32 from by decide]
    rw [BitVec.ushiftRight_eq', BitVec.toNat_ushiftRight, Nat.shiftRight_eq_div_pow]
    rfl
  have e2 : x.toInt = x.toBitVec.toInt := rfl
  have e3 : t.toInt = t.toBitVec.toInt := rfl
  have b := x.toBitVec.isLt
  rw [e2, BitVec.toInt_eq_toNat_cond] at h0
  rw [e2, e3, BitVec.toInt_eq_toNat_cond, BitVec.toInt_eq_toNat_cond, e1]
  split at h0 <;> split <;> omega
theorem ush_2 {x t : Int32} (h0 : 0 ≤ x.toInt) (h : t = (x.toUInt32 >>> ((2 : Int32).toUInt32 &&& Int32.toUInt32 31)).toInt32) : t.toInt = x.toInt / 4 := by
  have e1 : t.toBitVec.toNat = x.toBitVec.toNat / 4 := by
    rw [h]
    show (x.toBitVec >>> (((2 : Int32).toUInt32 &&& Int32.toUInt32 31).toBitVec % 32#32)).toNat = _
    rw [show (((2 : Int32).toUInt32 &&& Int32.toUInt32 31).toBitVec % 32#32) = 2#32 from by decide]
    rw [BitVec.ushiftRight_eq', BitVec.toNat_ushiftRight, Nat.shiftRight_eq_div_pow]
    rfl
  have e2 : x.toInt = x.toBitVec.toInt := rfl
  have e3 : t.toInt = t.toBitVec.toInt := rfl
  have b := x.toBitVec.isLt
  rw [e2, BitVec.toInt_eq_toNat_cond] at h0
  rw [e2, e3, BitVec.toInt_eq_toNat_cond, BitVec.toInt_eq_toNat_cond, e1]
  split at h0 <;> split <;> omega
theorem ush_4 {x t : Int32} (h0 : 0 ≤ x.toInt) (h : t = (x.toUInt32 >>> ((4 : Int32).toUInt32 &&& Int32.toUInt32 31)).toInt32) : t.toInt = x.toInt / 16 := by
  have e1 : t.toBitVec.toNat = x.toBitVec.toNat / 16 := by
    rw [h]
    show (x.toBitVec >>> (((4 : Int32).toUInt32 &&& Int32.toUInt32 31).toBitVec % 32#32)).toNat = _
    rw [show (((4 : Int32).toUInt32 &&& Int32.toUInt32 31).toBitVec % 32#32) = 4#32 from by decide]
    rw [BitVec.ushiftRight_eq', BitVec.toNat_ushiftRight, Nat.shiftRight_eq_div_pow]
    rfl
  have e2 : x.toInt = x.toBitVec.toInt := rfl
  have e3 : t.toInt = t.toBitVec.toInt := rfl
  have b := x.toBitVec.isLt
  rw [e2, BitVec.toInt_eq_toNat_cond] at h0
  rw [e2, e3, BitVec.toInt_eq_toNat_cond, BitVec.toInt_eq_toNat_cond, e1]
  split at h0 <;> split <;> omega
theorem ush_8 {x t : Int32} (h0 : 0 ≤ x.toInt) (h : t = (x.toUInt32 >>> ((8 : Int32).toUInt32 &&& Int32.toUInt32 31)).toInt32) : t.toInt = x.toInt / 256 := by
  have e1 : t.toBitVec.toNat = x.toBitVec.toNat / 256 := by
    rw [h]
    show (x.toBitVec >>> (((8 : Int32).toUInt32 &&& Int32.toUInt32 31).toBitVec % 32#32)).toNat = _
    rw [show (((8 : Int32).toUInt32 &&& Int32.toUInt32 31).toBitVec % 32#32) = 8#32 from by decide]
    rw [BitVec.ushiftRight_eq', BitVec.toNat_ushiftRight, Nat.shiftRight_eq_div_pow]
    rfl
  have e2 : x.toInt = x.toBitVec.toInt := rfl
  have e3 : t.toInt = t.toBitVec.toInt := rfl
  have b := x.toBitVec.isLt
  rw [e2, BitVec.toInt_eq_toNat_cond] at h0
  rw [e2, e3, BitVec.toInt_eq_toNat_cond, BitVec.toInt_eq_toNat_cond, e1]
  split at h0 <;> split <;> omega
theorem ush_16 {x t : Int32} (h0 : 0 ≤ x.toInt) (h : t = (x.toUInt32 >>> ((16 : Int32).toUInt32 &&& Int32.toUInt32 31)).toInt32) : t.toInt = x.toInt / 65536 := by
  have e1 : t.toBitVec.toNat = x.toBitVec.toNat / 65536 := by
    rw [h]
    show (x.toBitVec >>> (((16 : Int32).toUInt32 &&& Int32.toUInt32 31).toBitVec % 32#32)).toNat = _
    rw [show (((16 : Int32).toUInt32 &&& Int32.toUInt32 31).toBitVec % 32#32) = 16#32 from by decide]
    rw [BitVec.ushiftRight_eq', BitVec.toNat_ushiftRight, Nat.shiftRight_eq_div_pow]
    rfl
  have e2 : x.toInt = x.toBitVec.toInt := rfl
  have e3 : t.toInt = t.toBitVec.toInt := rfl
  have b := x.toBitVec.isLt
  rw [e2, BitVec.toInt_eq_toNat_cond] at h0
  rw [e2, e3, BitVec.toInt_eq_toNat_cond, BitVec.toInt_eq_toNat_cond, e1]
  split at h0 <;> split <;> omega
/-- the length in binary -/
theorem blen_of {x b : Nat} (h1 : 2 ^ b ≤ x) (h2 : x < 2 ^ (b + 1)) : blen x = b + 1 := by
  have h0 : x ≠ 0 := by have := Nat.two_pow_pos b; omega
  unfold blen
  rw [if_neg h0]
  have a := (Nat.le_log2 h0).mpr h1
  have c := (Nat.log2_lt h0).mpr h2
  omega
theorem blen_0 : blen 0 = 0 := rfl
theorem blen_le {x b : Nat} (h : x < 2 ^ b) : blen x ≤ b := by
  unfold blen
  by_cases h0 : x = 0
  · rw [if_pos h0]; omega
  · rw [if_neg h0]
    have c := (Nat.log2_lt h0).mpr h
    omega
theorem nlz_end {i : Int32} {c r : Int} (s : Nat) (hi : 0 < i.toInt) (hc : c = i.toInt / ((2 ^ s : Nat) : Int)) (h1 : 1 ≤ c) (h2 : c < 4) (hr : r = 31 - s - c / 2) : r = 32 - (blen (ub i).toNat : Nat) := by
  have hx := Int32.toInt_lt i
  have hu : ub i = i.toInt := by unfold ub; omega
  rw [hu]
  obtain ⟨n, hn⟩ : ∃ n : Nat, n = i.toInt.toNat := ⟨_, rfl⟩
  have hn2 : i.toInt = n := by omega
  rw [← hn]
  rw [hn2] at hc
  have p := Nat.two_pow_pos s
  have hc2 : c = ((n / 2 ^ s : Nat) : Int) := by rw [hc]; exact (Int.natCast_ediv n (2 ^ s)).symm
  have q := Nat.div_add_mod n (2 ^ s)
  have q2 := Nat.mod_lt n p
  obtain ⟨d, hd⟩ : ∃ d, d = n / 2 ^ s := ⟨_, rfl⟩
  rw [← hd] at q hc2
  have e1 : 2 ^ (s + 1) = 2 * 2 ^ s := by rw [Nat.pow_succ]; omega
  have e2 : 2 ^ (s + 1 + 1) = 4 * 2 ^ s := by rw [Nat.pow_succ, e1]; omega
  rcases (show d = 1 ∨ d = 2 ∨ d = 3 by omega) with rfl | rfl | rfl
  · rw [blen_of (b := s) (by omega) (by omega)]; omega
  · rw [blen_of (b := s + 1) (by omega) (by omega)]; omega
  · rw [blen_of (b := s + 1) (by omega) (by omega)]; omega
theorem nlz_0 {i : Int32} (h : i.toInt = 0) : (32 : Int) = 32 - (blen (ub i).toNat : Nat) := by
  have e : ub i = 0 := by unfold ub; omega
  rw [e]
  rfl
theorem nlz_n {i : Int32} (h : i.toInt < 0) : (0 : Int) = 32 - (blen (ub i).toNat : Nat) := by
  have h1 := Int32.le_toInt i
  have e : ub i = i.toInt + 4294967296 := by unfold ub; omega
  rw [blen_of (b := 31) (by omega) (by omega)]
  rfl
theorem ntz_all : ∀ k, k < 48 → 0 < k → (ntzF 8 k = 0 ∧ ((nI k ^^^ (-1)) &&& (nI k - 1)).toInt = 0) ∨ (ntzF 8 k = 1 ∧ ((nI k ^^^ (-1)) &&& (nI k - 1)).toInt = 1) ∨ (ntzF 8 k = 2 ∧ ((nI k ^^^ (-1)) &&& (nI k - 1)).toInt = 3) ∨ (ntzF 8 k = 3 ∧ ((nI k ^^^ (-1)) &&& (nI k - 1)).toInt = 7) ∨ (ntzF 8 k = 4 ∧ ((nI k ^^^ (-1)) &&& (nI k - 1)).toInt = 15) ∨ (ntzF 8 k = 5 ∧ ((nI k ^^^ (-1)) &&& (nI k - 1)).toInt = 31) := by decide +kernel
theorem nIof {i : Int32} (h0 : 0 ≤ i.toInt) : i = nI i.toInt.toNat := by
  have h := Int32.toInt_lt i
  refine Int32.toInt_inj.mp ?_
  rw [nI_toInt (by omega)]
  omega
theorem ntz_w {i w y z : Int32} (h0 : 0 < i.toInt) (h1 : i.toInt < 48) (hy : y = i ^^^ (-1)) (hz : z.toInt = i.toInt - 1) (hw : w = y &&& z) : (ntzF 8 i.toInt.toNat = 0 ∧ w.toInt = 0) ∨ (ntzF 8 i.toInt.toNat = 1 ∧ w.toInt = 1) ∨ (ntzF 8 i.toInt.toNat = 2 ∧ w.toInt = 3) ∨ (ntzF 8 i.toInt.toNat = 3 ∧ w.toInt = 7) ∨ (ntzF 8 i.toInt.toNat = 4 ∧ w.toInt = 15) ∨ (ntzF 8 i.toInt.toNat = 5 ∧ w.toInt = 31) := by
  have h := ntz_all i.toInt.toNat (by omega) (by omega)
  have e2 : z = i - 1 := Int32.toInt_inj.mp (by rw [Int32.toInt_sub, show (1 : Int32).toInt = 1 from by decide, Int.bmod_eq_of_le (by omega) (by omega)]; exact hz)
  rw [← nIof (by omega), ← e2, ← hy, ← hw] at h
  exact h
theorem and32_0 {w t : Int32} (h : w.toInt = 0) (ht : t = w &&& 32) : t.toInt = 0 := by
  have e : w = 0 := Int32.toInt_inj.mp (by rw [h]; decide)
  rw [ht, e]
  decide
/-! division of longs -/
theorem xor_sg {x y : Int64} (hy : 0 < y.toInt) : (x ^^^ y).toInt < 0 ↔ x.toInt < 0 := by
  have e : (x ^^^ y).toBitVec.msb = (x.toBitVec.msb ^^ y.toBitVec.msb) := by rw [Int64.toBitVec_xor, BitVec.msb_xor]
  rw [BitVec.msb_eq_toInt, BitVec.msb_eq_toInt, BitVec.msb_eq_toInt] at e
  have f : decide (y.toBitVec.toInt < 0) = false := decide_eq_false (by show ¬ y.toInt < 0; omega)
  rw [f, Bool.xor_false] at e
  exact decide_eq_decide.mp e
theorem ldiv_t {x y : Int64} (hy : 0 < y.toInt) : (x / y).toInt = x.toInt.tdiv y.toInt := by
  have h1 := Int64.toInt_lt x
  have h2 := Int64.le_toInt x
  have h3 := Int.natAbs_tdiv_le_natAbs x.toInt y.toInt
  have h4 : x.toInt.tdiv y.toInt ≠ 9223372036854775808 := fun e => by
    have h5 : 0 ≤ x.toInt := Decidable.byContradiction fun z => by
      have := Int.tdiv_nonneg (show 0 ≤ -x.toInt by omega) (show 0 ≤ y.toInt by omega)
      rw [Int.neg_tdiv] at this
      omega
    omega
  rw [Int64.toInt_div, Int.bmod_eq_of_le (by omega) (by omega)]
theorem fdiv_end {x y q : Int64} (hy : 0 < y.toInt) (hq : q = x / y) : (0 ≤ (x ^^^ y).toInt → q.toInt = x.toInt / y.toInt) ∧ ((x ^^^ y).toInt < 0 → ((q * y).toInt = x.toInt → q.toInt = x.toInt / y.toInt) ∧ ((q * y).toInt ≠ x.toInt → (q - 1).toInt = x.toInt / y.toInt)) := by
  have e1 := ldiv_t (x := x) hy
  rw [← hq] at e1
  have g := tdiv_fl (x := x.toInt) hy
  have m := Int.tmod_add_mul_tdiv x.toInt y.toInt
  have sg := xor_sg (x := x) hy
  have h1 := Int64.toInt_lt x
  have h2 := Int64.le_toInt x
  have pos : 0 ≤ x.toInt → 0 ≤ x.toInt.tmod y.toInt := fun h => Int.tmod_nonneg _ h
  have neg : x.toInt < 0 → x.toInt.tmod y.toInt ≤ 0 := fun h => by
    have := Int.tmod_nonneg y.toInt (show 0 ≤ -x.toInt by omega)
    rw [Int.neg_tmod] at this
    omega
  have tlo : x.toInt < 0 → x.toInt ≤ x.toInt.tmod y.toInt := fun h => by
    have c := Int.natAbs_tmod x.toInt y.toInt
    have d := Nat.mod_le x.toInt.natAbs y.toInt.natAbs
    have := neg h
    omega
  have mm : y.toInt * x.toInt.tdiv y.toInt = q.toInt * y.toInt := by rw [e1, Int.mul_comm]
  refine ⟨fun h => ?_, fun h => ?_⟩
  · have hx : 0 ≤ x.toInt := by omega
    rw [e1, g.2 (pos hx)]
  · have hx : x.toInt < 0 := sg.mp h
    have a1 := neg hx
    have a2 := tlo hx
    have mul : (q * y).toInt = q.toInt * y.toInt := by rw [Int64.toInt_mul, Int.bmod_eq_of_le (by omega) (by omega)]
    refine ⟨fun k => ?_, fun k => ?_⟩
    · have z : x.toInt.tmod y.toInt = 0 := by omega
      rw [e1, g.2 (by omega)]
    · have z : x.toInt.tmod y.toInt < 0 := by omega
      have b := g.1 z
      have lo : x.toInt ≤ q.toInt := by
        rw [e1]
        have := Int.natAbs_tdiv_le_natAbs x.toInt y.toInt
        omega
      have lo2 : q.toInt ≠ -9223372036854775808 := fun e => by
        have h9 := Int.mul_le_mul_of_nonpos_left (show q.toInt ≤ 0 by omega) (show (1 : Int) ≤ y.toInt by omega)
        rw [Int.mul_one] at h9
        omega
      rw [Int64.toInt_sub, show (1 : Int64).toInt = 1 from by decide, Int.bmod_eq_of_le (by have := Int64.le_toInt q; omega) (by have := Int64.toInt_lt q; omega), b, e1]
