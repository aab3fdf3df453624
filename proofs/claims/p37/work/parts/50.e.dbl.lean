/-! Doubles: what is no NaN. -/
def ND (x : UInt64) : Prop := FP.Core.decode FP.Core.b64 x.toNat ≠ .nan
def DK (d : FP.Core.Datum) : Prop := match d with
  | .nan => False
  | .inf _ => True
  | .fin _ c q => c < 9007199254740992 ∧ q ≤ 971
theorem b64_tails : FP.Core.b64.tails = 4503599627370496 := by decide +kernel
theorem b64_exps : FP.Core.b64.exps = 2048 := by decide +kernel
theorem b64_qmax : FP.Core.b64.qmax = 971 := by decide +kernel
theorem b64_qmin : FP.Core.b64.qmin = -1074 := by decide +kernel
theorem b64_p : 2 ^ FP.Core.b64.p = 9007199254740992 := by decide +kernel
theorem dec_nan {n : Nat} : FP.Core.decode FP.Core.b64 n = .nan ↔ n / 4503599627370496 % 2048 = 2047 ∧ n % 4503599627370496 ≠ 0 := by
  unfold FP.Core.decode FP.Core.fieldE FP.Core.fieldT
  rw [b64_tails, b64_exps]
  by_cases h1 : n / 4503599627370496 % 2048 = 2048 - 1
  · rw [if_pos h1]
    by_cases h2 : n % 4503599627370496 = 0
    · rw [if_pos h2]
      constructor
      · intro h; cases h
      · intro h; exact absurd h2 h.2
    · rw [if_neg h2]
      exact ⟨fun _ => ⟨h1, h2⟩, fun _ => rfl⟩
  · rw [if_neg h1]
    constructor
    · intro h
      split at h <;> cases h
    · intro h; exact absurd h.1 h1
theorem nd_n64 {x : UInt64} (h : ND x) : vf_n64 x := by
  unfold ND at h
  rw [ne_eq, dec_nan] at h
  unfold vf_n64
  rw [UInt64.le_iff_toNat_le, UInt64.toNat_and]
  have e : (0x7fffffffffffffff : UInt64).toNat = 2 ^ 63 - 1 := by decide
  have e2 : (0x7ff0000000000000 : UInt64).toNat = 9218868437227405312 := by decide
  rw [e, e2, Nat.and_two_pow_sub_one_eq_mod]
  omega
theorem n64_nd {x : UInt64} (h : vf_n64 x) : ND x := by
  unfold vf_n64 at h
  rw [UInt64.le_iff_toNat_le, UInt64.toNat_and] at h
  have e : (0x7fffffffffffffff : UInt64).toNat = 2 ^ 63 - 1 := by decide
  have e2 : (0x7ff0000000000000 : UInt64).toNat = 9218868437227405312 := by decide
  rw [e, e2, Nat.and_two_pow_sub_one_eq_mod] at h
  unfold ND
  rw [ne_eq, dec_nan]
  omega
theorem dk_nd {d : FP.Core.Datum} (h : DK d) : ND (.ofNat (FP.Core.encode FP.Core.b64 d)) := by
  unfold ND
  rw [ne_eq, dec_nan]
  cases d with
  | nan => exact h.elim
  | inf s =>
    have e : FP.Core.encode FP.Core.b64 (.inf s) = (s.toNat * 2048 + 2047) * 4503599627370496 + 0 := by
      show FP.Core.assemble FP.Core.b64 s (FP.Core.b64.exps - 1) 0 = _
      unfold FP.Core.assemble
      rw [b64_tails, b64_exps]
    have hs : s.toNat ≤ 1 := by cases s <;> decide
    rw [UInt64.toNat_ofNat', e]
    omega
  | fin s c q =>
    obtain ⟨h1, h2⟩ := h
    have hs : s.toNat ≤ 1 := by cases s <;> decide
    rw [UInt64.toNat_ofNat']
    show ¬ ((if c < FP.Core.b64.tails then FP.Core.assemble FP.Core.b64 s 0 c else FP.Core.assemble FP.Core.b64 s ((q - FP.Core.b64.qmin).toNat + 1) (c - FP.Core.b64.tails)) % 2 ^ 64 / 4503599627370496 % 2048 = 2047 ∧ _)
    unfold FP.Core.assemble
    rw [b64_tails, b64_exps, b64_qmin]
    split <;> omega
theorem dk_settle {s : Bool} {c : Nat} {q : Int} : DK (FP.Core.settle FP.Core.b64 s c q) := by
  unfold FP.Core.settle FP.Core.bound
  rw [b64_p, b64_qmax, b64_tails]
  split
  · split
    · exact ⟨by assumption, by assumption⟩
    · trivial
  · split
    · exact ⟨by decide, by assumption⟩
    · trivial
theorem dk_ratio {s : Bool} {n d : Nat} {e : Int} : DK (FP.Core.roundRatio FP.Core.b64 s n d e) := by
  unfold FP.Core.roundRatio
  split
  · exact ⟨by decide, by rw [b64_qmin]; decide⟩
  · exact dk_settle
theorem dk_round {d : FP.Core.Datum} (h : d ≠ .nan) : DK (FP.Core.round FP.Core.b64 d) := by
  cases d with
  | nan => exact absurd rfl h
  | inf s => trivial
  | fin s c q => exact dk_ratio
theorem nd_l2d (x : Int64) : ND (FP.l2d x) := dk_nd (dk_round (d := FP.Core.ofInt x.toInt) (by unfold FP.Core.ofInt; intro h; cases h))
theorem nd_mul {x y : UInt64} (hx : ND x) {s : Bool} {c : Nat} {q : Int} (hy : FP.Core.decode FP.Core.b64 y.toNat = .fin s c q) (hc : c ≠ 0) : ND (FP.dmul x y) := by
  refine dk_nd (dk_round ?_)
  rw [hy]
  unfold ND at hx
  intro h
  cases e : FP.Core.decode FP.Core.b64 x.toNat with
  | nan => exact hx e
  | inf t =>
    rw [e] at h
    unfold FP.Core.exactProduct at h
    simp [hc] at h
  | fin t d r =>
    rw [e] at h
    unfold FP.Core.exactProduct at h
    cases h
theorem nd_div {x y : UInt64} (hx : ND x) {s : Bool} {c : Nat} {q : Int} (hy : FP.Core.decode FP.Core.b64 y.toNat = .fin s c q) (hc : c ≠ 0) : ND (FP.ddiv x y) := by
  refine dk_nd ?_
  rw [hy]
  unfold ND at hx
  cases e : FP.Core.decode FP.Core.b64 x.toNat with
  | nan => exact absurd e hx
  | inf t => trivial
  | fin t d r =>
    unfold FP.Core.quotient
    simp only [if_neg hc]
    exact dk_ratio
def isFin (d : FP.Core.Datum) : Bool := match d with
  | .fin _ c _ => c != 0
  | _ => false
theorem isFin_of {d : FP.Core.Datum} (h : isFin d = true) : ∃ s c q, d = .fin s c q ∧ c ≠ 0 := by
  cases d with
  | nan => cases h
  | inf s => cases h
  | fin s c q => exact ⟨s, c, q, rfl, by simpa [isFin] using h⟩
theorem two_fin : isFin (FP.Core.decode FP.Core.b64 (4611686018427387904 : UInt64).toNat) = true := by decide +kernel
theorem nd_mul2 {x : UInt64} (hx : ND x) : ND (FP.dmul x 4611686018427387904) := by
  obtain ⟨s, c, q, h1, h2⟩ := isFin_of two_fin
  exact nd_mul hx h1 h2
theorem i2d_fin : ∀ k : Fin 49, k.val = 0 ∨ isFin (FP.Core.decode FP.Core.b64 (FP.i2d (Int32.ofNat k.val)).toNat) = true := by decide +kernel
theorem nd_divi {x : UInt64} {n : Int32} (hx : ND x) (h0 : 1 ≤ n.toInt) (h1 : n.toInt ≤ 48) : ND (FP.ddiv x (FP.i2d n)) := by
  have e : n = Int32.ofNat n.toInt.toNat := by
    apply Int32.toInt_inj.mp
    have h9 : (Int32.ofNat n.toInt.toNat).toInt = (n.toInt.toNat : Int) := nI_toInt (by omega)
    rw [h9]
    omega
  have h := (i2d_fin ⟨n.toInt.toNat, by omega⟩).resolve_left (by show n.toInt.toNat ≠ 0; omega)
  obtain ⟨s, c, q, g1, g2⟩ := isFin_of h
  rw [← e] at g1
  exact nd_div hx g1 g2
