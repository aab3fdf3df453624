/-! Both texts in the heap: bytes, the token that is looked at. -/
def tcb (x : Int32) : Int32 := vp_nar .byte x.toInt8.toInt32
def tmb (x : Int32) : Int32 := x &&& 255
def bt4 (f : Int32) (j : Int) : Int32 := f >>> (Int32.ofInt j &&& 31)
theorem bt4_of (f sh : Int32) : f >>> (sh &&& 31) = bt4 f sh.toInt := by unfold bt4; rw [Int32.ofInt_toInt]
theorem tcb_al (x : Int32) : (tcb x).toInt = (tmb x).toInt ∨ ((tcb x).toInt < 0 ∧ 128 ≤ (tmb x).toInt) := by
  have e1 : (tcb x).toInt = x.toInt.bmod 256 := by
    show (x.toInt8.toInt32.toInt8.toInt32).toInt = _
    rw [Int8.toInt8_toInt32, Int8.toInt_toInt32, Int32.toInt_toInt8]
  have h2 : x.toBitVec.toNat % 2 ^ 8 < 2 ^ 8 := Nat.mod_lt _ (by decide)
  have e2 : (tmb x).toInt = ((x.toBitVec.toNat % 2 ^ 8 : Nat) : Int) := by
    unfold tmb
    rw [pk_and x 8 (by decide)]
    exact nI_toInt (by omega)
  have e3 : x.toInt = if 2 * x.toBitVec.toNat < 2 ^ 32 then (x.toBitVec.toNat : Int) else (x.toBitVec.toNat : Int) - (2 ^ 32 : Nat) := BitVec.toInt_eq_toNat_cond x.toBitVec
  rw [e1, e2, Int.bmod_def, e3]
  generalize x.toBitVec.toNat = n at h2 ⊢
  split <;> split <;> omega
/-- four bytes put behind L, n of them so far -/
def byn (w : Int32 → Int32) (old : Nat → Int32) (L : Nat) (f : Int32) (n : Nat) : Nat → Int32 := fun j => if L ≤ j ∧ j < L + n then w (bt4 f (24 - 8 * ((j : Int) - L))) else old j
theorem byn_0 {w : Int32 → Int32} {old : Nat → Int32} {L : Nat} {f : Int32} : byn w old L f 0 = old := funext fun j => if_neg (by omega)
theorem byn_put {w : Int32 → Int32} {old : Nat → Int32} {L : Nat} {f v : Int32} {n k a : Nat} {sh : Int} {σ τ : Gh} (h : zI σ a = byn w old L f n) (hu : τ = zput σ a k v) (hk : k = L + n) (hv : v = w (bt4 f sh)) (hs : sh = 24 - 8 * (n : Int)) : zI τ a = byn w old L f (n + 1) := funext fun j => by
  by_cases e : j = k
  · subst e
    rw [zput_at hu, hv]
    unfold byn
    rw [if_pos (by omega), hs, hk]
    congr 2
    omega
  · rw [zput_o hu (Or.inr e), h]
    unfold byn
    by_cases q : L ≤ j ∧ j < L + n
    · rw [if_pos q, if_pos (by omega)]
    · rw [if_neg q, if_neg (by omega)]
def tal (a b : Nat → Int32) (L : Nat) : Prop := uAlike (fun j => (a j).toInt) (fun j => (b j).toInt) L
theorem tal_less {a b : Nat → Int32} {L M : Nat} (h : tal a b L) (hM : M ≤ L) : tal a b M := fun j hj => h j (by omega)
theorem tal_four {a b : Nat → Int32} {L : Nat} {f : Int32} (h : tal a b L) : tal (byn tcb a L f 4) (byn tmb b L f 4) (L + 4) := fun j hj => by
  show (byn tcb a L f 4 j).toInt = (byn tmb b L f 4 j).toInt ∨ ((byn tcb a L f 4 j).toInt < 0 ∧ 128 ≤ (byn tmb b L f 4 j).toInt)
  unfold byn
  by_cases q : L ≤ j ∧ j < L + 4
  · rw [if_pos q, if_pos q]; exact tcb_al _
  · rw [if_neg q, if_neg q]; exact h j (by omega)
/-- twenty bytes -/
def by20 (w : Int32 → Int32) (old : Nat → Int32) (L : Nat) (a b c d e : Int32) : Nat → Int32 := byn w (byn w (byn w (byn w (byn w old L a 4) (L + 4) b 4) (L + 8) c 4) (L + 12) d 4) (L + 16) e 4
theorem tal_20 {x y : Nat → Int32} {L : Nat} {a b c d e : Int32} (h : tal x y L) : tal (by20 tcb x L a b c d e) (by20 tmb y L a b c d e) (L + 20) := tal_four (tal_four (tal_four (tal_four (tal_four h))))
/-! the two texts: that of LiftingSignal at a (kind 6), the reference's at a (kind 20) -/
def TXc (κ : Kt) (σ : Gh) (a : Nat) (c : Nat → Int) (L : Nat) : Prop := (∀ j, c j = (zI σ (kR κ a 0) j).toInt) ∧ (zI σ a 1).toInt = L
def TXm (κ : Kt) (σ : Gh) (a : Nat) (c : Nat → Int) (L : Nat) : Prop := (∀ j, c j = (zI σ (kR κ a 12) j).toInt) ∧ (zI σ a 13).toInt = L ∧ L ≤ 700 ∧ ∀ j, j < L → 0 ≤ c j
theorem TXc.tr {κ : Kt} {σ τ : Gh} {a : Nat} {c : Nat → Int} {L : Nat} (h : TXc κ σ a c L) (h1 : zI τ (kR κ a 0) = zI σ (kR κ a 0)) (h2 : zI τ a 1 = zI σ a 1) : TXc κ τ a c L := ⟨fun j => by rw [h1]; exact h.1 j, by rw [h2]; exact h.2⟩
theorem TXm.tr {κ : Kt} {σ τ : Gh} {a : Nat} {c : Nat → Int} {L : Nat} (h : TXm κ σ a c L) (h1 : zI τ (kR κ a 12) = zI σ (kR κ a 12)) (h2 : zI τ a 13 = zI σ a 13) : TXm κ τ a c L := ⟨fun j => by rw [h1]; exact h.1 j, by rw [h2]; exact h.2.1, h.2.2⟩
/-- the token at s is the one that is looked at -/
def TKv (x4 x5 x6 x7 : Int32) (c : Nat → Int) (L s : Nat) : Prop := x4.toInt = utkK c L s ∧ x5.toInt = s ∧ x6.toInt = utkE c L s ∧ (utkK c L s = 2 → x7.toInt = uvl c L s) ∧ s ≤ L
def TKc (σ : Gh) (a : Nat) (c : Nat → Int) (L s : Nat) : Prop := TKv (zI σ a 4) (zI σ a 5) (zI σ a 6) (zI σ a 7) c L s
theorem mul10 {x : Int32} (h0 : 0 ≤ x.toInt) (h1 : x.toInt ≤ 9999) : (x * 10).toInt = 10 * x.toInt ∧ (10 * x).toInt = 10 * x.toInt := by
  have e : (10 : Int32).toInt = 10 := by decide
  exact ⟨by rw [v_muli rfl rfl (by rw [e]; omega) (by rw [e]; omega), e]; omega, by rw [v_muli rfl rfl (by rw [e]; omega) (by rw [e]; omega), e]⟩
theorem uvl_of {c : Nat → Int} {L s : Nat} (h : utkK c L s = 2) : uvl c L s = unum c s (utkE c L s - s) := if_pos h
/-- bits told: a of 16, i of 4 -/
def pc4 (n : Nat) : Nat := n % 2 + n / 2 % 2 + n / 4 % 2 + n / 8 % 2
theorem bits_d : ∀ a, a < 16 → ∀ i, i < 4 → ((nI a >>> (nI i &&& 31)) &&& 1) = (if a.testBit i then 1 else 0) ∧ (nI a ||| (1 <<< (nI i &&& 31))) = nI (a ||| 2 ^ i) ∧ (a ||| 2 ^ i) < 16 ∧ (a.testBit i = false → pc4 (a ||| 2 ^ i) = pc4 a + 1) ∧ pc4 a ≤ 4 := by decide +kernel
theorem pc4_le {n : Nat} (h : n < 16) : pc4 n ≤ 4 := by unfold pc4; omega
theorem nIe_of {x : Int32} {n : Nat} (h : x.toInt = n) : x = nI n := by
  have q := Int32.toInt_lt x
  refine Int32.toInt_inj.mp ?_
  rw [h]; exact (nI_toInt (by omega)).symm
theorem bits_u {x y : Int32} {a i : Nat} (hx : x.toInt = a) (hy : y.toInt = i) (ha : a < 16) (hi : i < 4) : ((x >>> (y &&& 31)) &&& 1).toInt = (if a.testBit i then 1 else 0) ∧ (x ||| (1 <<< (y &&& 31))).toInt = (a ||| 2 ^ i : Nat) ∧ (a ||| 2 ^ i) < 16 ∧ (a.testBit i = false → pc4 (a ||| 2 ^ i) = pc4 a + 1) ∧ pc4 a ≤ 4 := by
  obtain ⟨h1, h2, h3, h4, h5⟩ := bits_d a ha i hi
  rw [nIe_of hx, nIe_of hy, h1, h2]
  refine ⟨?_, nI_toInt (by omega), h3, h4, h5⟩
  split <;> decide
theorem uenc_ub {f : Nat → Int} : ∀ {n : Nat}, (∀ k, k < n → 1 ≤ f k ∧ f k ≤ 26) → (n ≤ 0 → uenc f n = 0) ∧ (n ≤ 1 → uenc f n ≤ 26) ∧ (n ≤ 2 → uenc f n ≤ 728) ∧ (n ≤ 3 → uenc f n ≤ 19682) ∧ (n ≤ 4 → uenc f n ≤ 531440) ∧ (n ≤ 5 → uenc f n ≤ 14348906) ∧ (n ≤ 6 → uenc f n ≤ 387420488) ∧ (n ≤ 7 → uenc f n ≤ 10460353202) := by
  intro n
  induction n with
  | zero => intro _; refine ⟨fun _ => rfl, ?_⟩; show (_ → (0 : Int) ≤ 26) ∧ (_ → (0 : Int) ≤ 728) ∧ (_ → (0 : Int) ≤ 19682) ∧ (_ → (0 : Int) ≤ 531440) ∧ (_ → (0 : Int) ≤ 14348906) ∧ (_ → (0 : Int) ≤ 387420488) ∧ (_ → (0 : Int) ≤ 10460353202); omega
  | succ n ih =>
    intro h
    obtain ⟨a0, a1, a2, a3, a4, a5, a6, -⟩ := ih (fun k hk => h k (by omega))
    have b := (h n (by omega)).2
    refine ⟨fun q => absurd q (by omega), ?_⟩
    show (_ → 27 * uenc f n + f n ≤ 26) ∧ (_ → 27 * uenc f n + f n ≤ 728) ∧ (_ → 27 * uenc f n + f n ≤ 19682) ∧ (_ → 27 * uenc f n + f n ≤ 531440) ∧ (_ → 27 * uenc f n + f n ≤ 14348906) ∧ (_ → 27 * uenc f n + f n ≤ 387420488) ∧ (_ → 27 * uenc f n + f n ≤ 10460353202)
    refine ⟨fun q => ?_, fun q => ?_, fun q => ?_, fun q => ?_, fun q => ?_, fun q => ?_, fun q => ?_⟩
    · have := a0 (by omega); omega
    · have := a1 (by omega); omega
    · have := a2 (by omega); omega
    · have := a3 (by omega); omega
    · have := a4 (by omega); omega
    · have := a5 (by omega); omega
    · have := a6 (by omega); omega
/-- the number of the word at s, as the reference makes it -/
def uwv (c : Nat → Int) (L s : Nat) : Int := if uscn uisLe c L s - s ≤ 7 then uenc (fun k => c (s + k) - 96) (uscn uisLe c L s - s) else 0
def encP (x : Int64) (i : Nat) : Prop := i < 13 ∧ x.toInt = uenc (fun k => uwBy i k - 96) (uwN i)
theorem lets_b {c : Nat → Int} {L s : Nat} : ∀ k, k < uscn uisLe c L s - s → 1 ≤ c (s + k) - 96 ∧ c (s + k) - 96 ≤ 26 := fun k hk => by
  have q := uisLe_t.mp (uscn_in (p := uisLe) (c := c) (L := L) (a := s) (k := s + k) (by omega) (by omega))
  omega
theorem uwv_W {c : Nat → Int} {L s i : Nat} {x : Int64} (h : encP x i) : uwv c L s = x.toInt ↔ uIsW c L i s := by
  obtain ⟨hi, hx⟩ := h
  have hN := uwN_b i hi
  have g0 : s ≤ uscn uisLe c L s := uscn_ge
  unfold uwv
  by_cases q : uscn uisLe c L s - s ≤ 7
  · rw [if_pos q, hx]; exact (uIsW_enc hi).symm
  · rw [if_neg q, hx]
    have p0 := (uenc_nn (f := fun k => uwBy i k - 96) (n := uwN i) (fun k hk => by have := uwBy_le i hi k hk; omega)).2 (by omega)
    refine ⟨fun z => by omega, fun z => ?_⟩
    have z1 := z.1
    omega
section TKV
variable {x5 x6 x7 : Int32} {c : Nat → Int} {L s : Nat}
theorem TKv_end (h : ¬ s < L) (h0 : s ≤ L) (h5 : x5.toInt = s) (h6 : x6.toInt = s) : TKv 0 x5 x6 x7 c L s := by
  obtain ⟨k, e⟩ := utk_end (c := c) h
  exact ⟨by rw [k]; decide, h5, by rw [e]; exact h6, fun q => by rw [k] at q; exact absurd q (by decide), h0⟩
theorem TKv_word (h : s < L) (h1 : 97 ≤ c s) (h2 : c s ≤ 122) (h5 : x5.toInt = s) (h6 : x6.toInt = (uscn uisLe c L s : Nat)) : TKv 1 x5 x6 x7 c L s := by
  obtain ⟨k, e⟩ := utk_word h h1 h2
  exact ⟨by rw [k]; decide, h5, by rw [e]; exact h6, fun q => by rw [k] at q; exact absurd q (by decide), Nat.le_of_lt h⟩
theorem TKv_num (h : s < L) (h1 : 48 ≤ c s) (h2 : c s ≤ 57) (h5 : x5.toInt = s) (h6 : x6.toInt = (uscn uisDi c L s : Nat)) (h3 : uscn uisDi c L s ≤ s + 4) (h7 : x7.toInt = unum c s (uscn uisDi c L s - s)) : TKv 2 x5 x6 x7 c L s := by
  have k := utk_num h h1 h2 h3
  have e := (utk_dig h h1 h2).2
  exact ⟨by rw [k]; decide, h5, by rw [e]; exact h6, fun q => by rw [uvl_of q, e]; exact h7, Nat.le_of_lt h⟩
theorem TKv_long (h : s < L) (h1 : 48 ≤ c s) (h2 : c s ≤ 57) (h5 : x5.toInt = s) (h6 : x6.toInt = (uscn uisDi c L s : Nat)) (h3 : ¬ uscn uisDi c L s ≤ s + 4) : TKv 5 x5 x6 x7 c L s := by
  have k := utk_long h h1 h2 h3
  have e := (utk_dig h h1 h2).2
  exact ⟨by rw [k]; decide, h5, by rw [e]; exact h6, fun q => by rw [k] at q; exact absurd q (by decide), Nat.le_of_lt h⟩
theorem TKv_semi (h : s < L) (h1 : c s = 59) (h5 : x5.toInt = s) (h6 : x6.toInt = (s + 1 : Nat)) : TKv 3 x5 x6 x7 c L s := by
  obtain ⟨k, e⟩ := utk_semi h h1
  exact ⟨by rw [k]; decide, h5, by rw [e]; exact h6, fun q => by rw [k] at q; exact absurd q (by decide), Nat.le_of_lt h⟩
theorem TKv_minus (h : s < L) (h1 : c s = 45) (h5 : x5.toInt = s) (h6 : x6.toInt = (s + 1 : Nat)) : TKv 4 x5 x6 x7 c L s := by
  obtain ⟨k, e⟩ := utk_minus h h1
  exact ⟨by rw [k]; decide, h5, by rw [e]; exact h6, fun q => by rw [k] at q; exact absurd q (by decide), Nat.le_of_lt h⟩
theorem TKv_other (h : s < L) (h1 : ¬ (97 ≤ c s ∧ c s ≤ 122)) (h2 : ¬ (48 ≤ c s ∧ c s ≤ 57)) (h3 : c s ≠ 59) (h4 : c s ≠ 45) (h5 : x5.toInt = s) (h6 : x6.toInt = (s + 1 : Nat)) : TKv 5 x5 x6 x7 c L s := by
  obtain ⟨k, e⟩ := utk_other h h1 h2 h3 h4
  exact ⟨by rw [k]; decide, h5, by rw [e]; exact h6, fun q => by rw [k] at q; exact absurd q (by decide), Nat.le_of_lt h⟩
theorem utkE_word (h : utkK c L s = 1) : utkE c L s = uscn uisLe c L s := by
  rcases utk_of (c := c) (L := L) s with ⟨k, -⟩ | ⟨hs, ⟨-, k1, k2⟩ | ⟨k, -⟩ | ⟨k, -⟩ | ⟨k, -⟩ | ⟨k, -⟩ | ⟨k, -⟩⟩
  · omega
  · exact (utk_word hs k1 k2).2
  · omega
  · omega
  · omega
  · omega
  · omega
end TKV
def svq (K X : Nat → Nat) (s : Nat) : Nat := if K (X s) = 4 then X (X s) else X s
theorem svl_q {K X : Nat → Nat} {s : Nat} : usvl K X s = svq K X (X s) := rfl
theorem urt_tr {K X : Nat → Nat} {V : Nat → Int} {W : Nat → Nat → Prop} {a b : uRd} (h : urt K X V W a b) : ∀ {x : uRd}, urt K X V W b x → urt K X V W a x := by
  rintro x ⟨n, g⟩
  induction n generalizing x with
  | zero => obtain rfl : x = b := g; exact h
  | succ n ih =>
    obtain ⟨y, g1, g2⟩ := g
    exact urt_tl (ih g1) g2
/-- settings as LiftingSignal keeps them in a source at a, and the reference at a -/
def GSc (σ : Gh) (a : Nat) (g : Nat → Int) : Prop := (zI σ a 3).toInt = g 0 ∧ (zI σ a 4).toInt = g 1 ∧ (zI σ a 5).toInt = g 2 ∧ (zI σ a 6).toInt = g 3
def GSm (σ : Gh) (a : Nat) (g : Nat → Int) : Prop := (zI σ a 20).toInt = g 0 ∧ (zI σ a 21).toInt = g 1 ∧ (zI σ a 22).toInt = g 2 ∧ (zI σ a 19).toInt = g 3
theorem mul27 {x : Int64} (h0 : 0 ≤ x.toInt) (h1 : x.toInt ≤ 387420488) : (27 * x).toInt = 27 * x.toInt := by
  have e : (27 : Int64).toInt = 27 := by decide
  rw [Int64.toInt_mul, e, Int.bmod_eq_of_le (by omega) (by omega)]
theorem uwv_e {c : Nat → Int} {L s : Nat} {v : Int} {j : Nat} (h1 : uscn uisLe c L s - s ≤ 7 → v = uenc (fun k => c (s + k) - 96) (j - s)) (h2 : 7 < uscn uisLe c L s - s → v = 0) (h3 : j = uscn uisLe c L s) (_ : s ≤ j) : v = uwv c L s := by
  unfold uwv
  by_cases q : uscn uisLe c L s - s ≤ 7
  · rw [if_pos q, h1 q, h3]
  · rw [if_neg q]; exact h2 (by omega)
theorem tk2_iff {c : Nat → Int} {L s : Nat} : utkK c L s = 2 ↔ s < L ∧ 48 ≤ c s ∧ c s ≤ 57 ∧ uscn uisDi c L s ≤ s + 4 := by
  refine ⟨fun h => ?_, fun ⟨h, h1, h2, h3⟩ => utk_num h h1 h2 h3⟩
  rcases utk_of (c := c) (L := L) s with ⟨k, -⟩ | ⟨hs, ⟨k, -⟩ | ⟨-, k1, k2, k3⟩ | ⟨k, -⟩ | ⟨k, -⟩ | ⟨k, -⟩ | ⟨k, -⟩⟩
  · omega
  · omega
  · exact ⟨hs, k1, k2, k3⟩
  · omega
  · omega
  · omega
  · omega
theorem tk3_iff {c : Nat → Int} {L s : Nat} : utkK c L s = 3 ↔ s < L ∧ c s = 59 := by
  refine ⟨fun h => ?_, fun ⟨h, h1⟩ => (utk_semi h h1).1⟩
  rcases utk_of (c := c) (L := L) s with ⟨k, -⟩ | ⟨hs, ⟨k, -⟩ | ⟨k, -⟩ | ⟨k, -⟩ | ⟨-, k⟩ | ⟨k, -⟩ | ⟨k, -⟩⟩
  · omega
  · omega
  · omega
  · omega
  · exact ⟨hs, k⟩
  · omega
  · omega
theorem tk4_iff {c : Nat → Int} {L s : Nat} : utkK c L s = 4 ↔ s < L ∧ c s = 45 := by
  refine ⟨fun h => ?_, fun ⟨h, h1⟩ => (utk_minus h h1).1⟩
  rcases utk_of (c := c) (L := L) s with ⟨k, -⟩ | ⟨hs, ⟨k, -⟩ | ⟨k, -⟩ | ⟨k, -⟩ | ⟨k, -⟩ | ⟨-, k⟩ | ⟨k, -⟩⟩
  · omega
  · omega
  · omega
  · omega
  · omega
  · exact ⟨hs, k⟩
  · omega
theorem tk0_iff {c : Nat → Int} {L s : Nat} : utkK c L s = 0 ↔ ¬ s < L := by
  refine ⟨fun h => ?_, fun h => (utk_end h).1⟩
  rcases utk_of (c := c) (L := L) s with ⟨-, k⟩ | ⟨hs, ⟨k, -⟩ | ⟨k, -⟩ | ⟨k, -⟩ | ⟨k, -⟩ | ⟨k, -⟩ | ⟨k, -⟩⟩
  · exact k
  all_goals omega
theorem PL_more {n : Nat} {p q : Nat → Int32} (h : PL n p) (e : ∀ j, j < n → q j = p j) (h0 : 0 ≤ (q n).toInt ∧ (q n).toInt ≤ 9999) (h1 : n = 0 ∨ (p (n - 1)).toInt < (q n).toInt) : PL (n + 1) q := by
  intro k hk
  by_cases z : k = n
  · subst z; exact ⟨h0, fun y => absurd y (by omega)⟩
  · have a := h k (by omega)
    rw [e k (by omega)]
    refine ⟨a.1, fun y => ?_⟩
    by_cases z2 : k + 1 = n
    · rw [z2]
      have b := h1.resolve_left (by omega)
      rw [show n - 1 = k from by omega] at b
      exact b
    · rw [e (k + 1) (by omega)]; exact a.2 (by omega)
/-- no byte below zero -/
def tnn (b : Nat → Int32) (L : Nat) : Prop := ∀ j, j < L → 0 ≤ (b j).toInt
theorem tmb_nn (x : Int32) : 0 ≤ (tmb x).toInt := by
  have h2 : x.toBitVec.toNat % 2 ^ 8 < 2 ^ 8 := Nat.mod_lt _ (by decide)
  unfold tmb
  rw [pk_and x 8 (by decide), nI_toInt (by omega)]
  omega
theorem tnn_four {b : Nat → Int32} {L : Nat} {f : Int32} (h : tnn b L) : tnn (byn tmb b L f 4) (L + 4) := fun j hj => by
  unfold byn
  by_cases q : L ≤ j ∧ j < L + 4
  · rw [if_pos q]; exact tmb_nn _
  · rw [if_neg q]; exact h j (by omega)
theorem tnn_20 {y : Nat → Int32} {L : Nat} {a b c d e : Int32} (h : tnn y L) : tnn (by20 tmb y L a b c d e) (L + 20) := tnn_four (tnn_four (tnn_four (tnn_four (tnn_four h))))
theorem b0_of {z x : Int32} (h : z = x) (q : z.toInt = 0) : x = 0 := by
  rw [← h]; exact Int32.toInt_inj.mp (by rw [q]; decide)
theorem b1_of {z x : Int32} (h : z = x) (q : z.toInt ≠ 0) : x ≠ 0 := fun e => q (by rw [h, e]; decide)
theorem svq_le {c : Nat → Int} {L s : Nat} (h : s ≤ L) : svq (utkK c L) (unxt c L) s ≤ L := by
  unfold svq
  split
  · exact unxt_le (unxt_le h)
  · exact unxt_le h
