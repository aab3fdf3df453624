/-! Texts: what both readers read of one, as pure functions of its bytes c and its length L -/
/-- the first place from a on (below L) where p ends -/
def uscF (p : Int → Bool) (c : Nat → Int) (L : Nat) : Nat → Nat → Nat
  | 0, a => a
  | n + 1, a => if a < L ∧ p (c a) = true then uscF p c L n (a + 1) else a
def uscn (p : Int → Bool) (c : Nat → Int) (L a : Nat) : Nat := uscF p c L (L - a) a
def uisBl (x : Int) : Bool := x == 32 || x == 10
def uisLe (x : Int) : Bool := decide (97 ≤ x) && decide (x ≤ 122)
def uisDi (x : Int) : Bool := decide (48 ≤ x) && decide (x ≤ 57)
theorem uisBl_t {x : Int} : uisBl x = true ↔ x = 32 ∨ x = 10 := by simp [uisBl]
theorem uisLe_t {x : Int} : uisLe x = true ↔ 97 ≤ x ∧ x ≤ 122 := by simp [uisLe]
theorem uisDi_t {x : Int} : uisDi x = true ↔ 48 ≤ x ∧ x ≤ 57 := by simp [uisDi]
theorem uscn_go {p : Int → Bool} {c : Nat → Int} {L a : Nat} (h : a < L) (hp : p (c a) = true) : uscn p c L a = uscn p c L (a + 1) := by
  unfold uscn
  rw [show L - a = (L - (a + 1)) + 1 from by omega]
  show (if a < L ∧ p (c a) = true then uscF p c L (L - (a + 1)) (a + 1) else a) = _
  rw [if_pos ⟨h, hp⟩]
theorem uscn_no {p : Int → Bool} {c : Nat → Int} {L a : Nat} (h : ¬ (a < L ∧ p (c a) = true)) : uscn p c L a = a := by
  unfold uscn
  cases e : L - a with
  | zero => rfl
  | succ n => show (if a < L ∧ p (c a) = true then _ else a) = a; rw [if_neg h]
theorem uscn_all {p : Int → Bool} {c : Nat → Int} {L : Nat} : ∀ (n a : Nat), L - a ≤ n → a ≤ uscn p c L a ∧ (uscn p c L a ≤ L ∨ uscn p c L a = a) ∧ (∀ k, a ≤ k → k < uscn p c L a → p (c k) = true) ∧ (uscn p c L a < L → p (c (uscn p c L a)) = false) := by
  intro n
  induction n with
  | zero =>
    intro a ha
    rw [uscn_no (fun h => by omega)]
    exact ⟨Nat.le_refl _, Or.inr rfl, fun k h1 h2 => by omega, fun h => by omega⟩
  | succ n ih =>
    intro a ha
    by_cases h : a < L ∧ p (c a) = true
    · rw [uscn_go h.1 h.2]
      obtain ⟨h1, h2, h3, h4⟩ := ih (a + 1) (by omega)
      refine ⟨by omega, by omega, fun k k1 k2 => ?_, h4⟩
      by_cases e : k = a
      · rw [e]; exact h.2
      · exact h3 k (by omega) k2
    · rw [uscn_no h]
      refine ⟨Nat.le_refl _, Or.inr rfl, fun k h1 h2 => by omega, fun h1 => ?_⟩
      cases e : p (c a) with
      | false => rfl
      | true => exact absurd ⟨h1, e⟩ h
theorem uscn_ge {p : Int → Bool} {c : Nat → Int} {L a : Nat} : a ≤ uscn p c L a := (uscn_all (L - a) a (Nat.le_refl _)).1
theorem uscn_le {p : Int → Bool} {c : Nat → Int} {L a : Nat} (h : a ≤ L) : uscn p c L a ≤ L := (uscn_all (L - a) a (Nat.le_refl _)).2.1.elim id (fun e => by omega)
theorem uscn_in {p : Int → Bool} {c : Nat → Int} {L a k : Nat} (h1 : a ≤ k) (h2 : k < uscn p c L a) : p (c k) = true := (uscn_all (L - a) a (Nat.le_refl _)).2.2.1 k h1 h2
theorem uscn_end {p : Int → Bool} {c : Nat → Int} {L a : Nat} (h : uscn p c L a < L) : p (c (uscn p c L a)) = false := (uscn_all (L - a) a (Nat.le_refl _)).2.2.2 h
theorem uscn_id {p : Int → Bool} {c : Nat → Int} {L a : Nat} : uscn p c L (uscn p c L a) = uscn p c L a := uscn_no (fun h => by rw [uscn_end h.1] at h; exact absurd h.2 (by decide))
theorem uscn_to {p : Int → Bool} {c : Nat → Int} {L a b : Nat} (h1 : a ≤ b) (h2 : ∀ k, a ≤ k → k < b → k < L ∧ p (c k) = true) : uscn p c L a = uscn p c L b := by
  obtain ⟨d, rfl⟩ : ∃ d, b = a + d := ⟨b - a, by omega⟩
  clear h1
  induction d with
  | zero => rfl
  | succ d ih =>
    rw [ih (fun k k1 k2 => h2 k k1 (by omega))]
    exact uscn_go (h2 (a + d) (by omega) (by omega)).1 (h2 (a + d) (by omega) (by omega)).2
theorem uscn_cong {p : Int → Bool} {c d : Nat → Int} {L : Nat} (h : ∀ k, k < L → p (c k) = p (d k)) : ∀ (n a : Nat), L - a ≤ n → uscn p c L a = uscn p d L a := by
  intro n
  induction n with
  | zero => intro a ha; rw [uscn_no (fun h => by omega), uscn_no (fun h => by omega)]
  | succ n ih =>
    intro a ha
    by_cases e : a < L ∧ p (c a) = true
    · rw [uscn_go e.1 e.2, uscn_go e.1 (by rw [← h a e.1]; exact e.2)]; exact ih _ (by omega)
    · rw [uscn_no e, uscn_no (fun g => e ⟨g.1, by rw [h a g.1]; exact g.2⟩)]
/-- a word as a number: 27 letters, 1 to 26 -/
def uenc (f : Nat → Int) : Nat → Int
  | 0 => 0
  | n + 1 => 27 * uenc f n + f n
theorem uenc_nn {f : Nat → Int} : ∀ {n : Nat}, (∀ k, k < n → 1 ≤ f k ∧ f k ≤ 26) → 0 ≤ uenc f n ∧ (0 < n → 0 < uenc f n) := by
  intro n
  induction n with
  | zero => intro _; exact ⟨Int.le_refl _, fun h => absurd h (Nat.lt_irrefl _)⟩
  | succ n ih =>
    intro h
    have a := (ih (fun k hk => h k (by omega))).1
    have b := h n (by omega)
    show 0 ≤ 27 * uenc f n + f n ∧ (_ → 0 < 27 * uenc f n + f n)
    omega
theorem uenc_inj {f g : Nat → Int} : ∀ {n m : Nat}, (∀ k, k < n → 1 ≤ f k ∧ f k ≤ 26) → (∀ k, k < m → 1 ≤ g k ∧ g k ≤ 26) → uenc f n = uenc g m → n = m ∧ ∀ k, k < n → f k = g k := by
  intro n
  induction n with
  | zero =>
    intro m _ hg h
    cases m with
    | zero => exact ⟨rfl, fun k hk => absurd hk (Nat.not_lt_zero k)⟩
    | succ m => have q := (uenc_nn hg).2 (by omega); rw [← h] at q; exact absurd (show (0 : Int) < 0 from q) (by decide)
  | succ n ih =>
    intro m hf hg h
    cases m with
    | zero => have q := (uenc_nn hf).2 (by omega); rw [h] at q; exact absurd (show (0 : Int) < 0 from q) (by decide)
    | succ m =>
      have h : 27 * uenc f n + f n = 27 * uenc g m + g m := h
      have a := hf n (by omega)
      have b := hg m (by omega)
      obtain ⟨h1, h2⟩ := ih (m := m) (fun k hk => hf k (by omega)) (fun k hk => hg k (by omega)) (by omega)
      subst h1
      refine ⟨rfl, fun k hk => ?_⟩
      by_cases e : k = n
      · subst e; omega
      · exact h2 k (by omega)
/-- the value of the first k digits from a on -/
def unum (c : Nat → Int) (a : Nat) : Nat → Int
  | 0 => 0
  | k + 1 => 10 * unum c a k + (c (a + k) - 48)
theorem unum_b {c : Nat → Int} {a : Nat} : ∀ {k : Nat}, (∀ j, j < k → 48 ≤ c (a + j) ∧ c (a + j) ≤ 57) → 0 ≤ unum c a k ∧ (k ≤ 1 → unum c a k ≤ 9) ∧ (k ≤ 2 → unum c a k ≤ 99) ∧ (k ≤ 3 → unum c a k ≤ 999) ∧ (k ≤ 4 → unum c a k ≤ 9999) := by
  intro k
  induction k with
  | zero => intro _; exact ⟨Int.le_refl _, fun _ => (by decide : (0 : Int) ≤ 9), fun _ => (by decide : (0 : Int) ≤ 99), fun _ => (by decide : (0 : Int) ≤ 999), fun _ => (by decide : (0 : Int) ≤ 9999)⟩
  | succ k ih =>
    intro h
    have a1 := ih (fun j hj => h j (by omega))
    have b1 := h k (by omega)
    show 0 ≤ 10 * unum c a k + (c (a + k) - 48) ∧ (_ → 10 * unum c a k + (c (a + k) - 48) ≤ 9) ∧ (_ → 10 * unum c a k + (c (a + k) - 48) ≤ 99) ∧ (_ → 10 * unum c a k + (c (a + k) - 48) ≤ 999) ∧ (_ → 10 * unum c a k + (c (a + k) - 48) ≤ 9999)
    obtain ⟨a1, a2, a3, a4, a5⟩ := a1
    refine ⟨by omega, fun h => ?_, fun h => ?_, fun h => ?_, fun h => ?_⟩
    · obtain rfl : k = 0 := by omega
      have : unum c a 0 = 0 := rfl
      omega
    · have := a2 (by omega); omega
    · have := a3 (by omega); omega
    · have := a4 (by omega); omega
/-! words of the language of texts: whether word i stands at s -/
def uwN (i : Nat) : Nat := wdL.getD i 0
def uwBy (i k : Nat) : Int := ((wdB.getD i []).getD k 0).toInt
def uIsW (c : Nat → Int) (L i s : Nat) : Prop := uscn uisLe c L s = s + uwN i ∧ ∀ k, k < uwN i → c (s + k) = uwBy i k
theorem uwBy_le : ∀ i, i < 13 → ∀ k, k < uwN i → 97 ≤ uwBy i k ∧ uwBy i k ≤ 122 := by
  intro i hi k hk
  have h : ∀ i, i < 13 → uwN i ≤ 7 ∧ ∀ k, k < 7 → k < uwN i → 97 ≤ uwBy i k ∧ uwBy i k ≤ 122 := by decide +kernel
  exact (h i hi).2 k (by have := (h i hi).1; omega) hk
theorem uwN_b : ∀ i, i < 13 → 2 ≤ uwN i ∧ uwN i ≤ 7 := by decide
theorem uwd_ne : ∀ i, i < 13 → ∀ j, j < 13 → (i = j ∨ uwN i ≠ uwN j) ∨ (uwBy i 0 ≠ uwBy j 0 ∨ uwBy i 1 ≠ uwBy j 1) := by decide +kernel
/-- a word told by its number: the reference's way -/
theorem uIsW_enc {c : Nat → Int} {L i s : Nat} (hi : i < 13) : uIsW c L i s ↔ uenc (fun k => c (s + k) - 96) (uscn uisLe c L s - s) = uenc (fun k => uwBy i k - 96) (uwN i) := by
  have hc : ∀ k, k < uscn uisLe c L s - s → 1 ≤ c (s + k) - 96 ∧ c (s + k) - 96 ≤ 26 := fun k hk => by
    have q := uisLe_t.mp (uscn_in (p := uisLe) (c := c) (L := L) (a := s) (k := s + k) (by omega) (by omega))
    omega
  have hB := uwBy_le i hi
  have hg : ∀ k, k < uwN i → 1 ≤ uwBy i k - 96 ∧ uwBy i k - 96 ≤ 26 := fun k hk => by have := hB k hk; omega
  have h1 : s ≤ uscn uisLe c L s := uscn_ge
  constructor
  · rintro ⟨e, h⟩
    rw [e, show s + uwN i - s = uwN i from by omega]
    clear e hc h1
    generalize uwN i = n at h hB hg
    clear hB hg
    induction n with
    | zero => rfl
    | succ n ih =>
      show 27 * uenc _ n + _ = 27 * uenc _ n + _
      rw [ih (fun k hk => h k (by omega))]
      have q := h n (by omega)
      show _ + (c (s + n) - 96) = _ + (uwBy i n - 96)
      rw [q]
  · intro h
    obtain ⟨e, q⟩ := uenc_inj hc hg h
    refine ⟨by omega, fun k hk => ?_⟩
    have := q k (by omega)
    omega
theorem uIsW_one {c : Nat → Int} {L i j s : Nat} (h1 : i < 13) (h2 : j < 13) (hi : uIsW c L i s) (hj : uIsW c L j s) : i = j := by
  obtain ⟨e1, g1⟩ := hi
  obtain ⟨e2, g2⟩ := hj
  have e : uwN i = uwN j := by omega
  refine Decidable.byContradiction fun h => ?_
  have hN := uwN_b i h1
  rcases uwd_ne i h1 j h2 with (q | q) | (q | q)
  · exact h q
  · exact q e
  · exact q ((g1 0 (by omega)).symm.trans (g2 0 (by omega)))
  · exact q ((g1 1 (by omega)).symm.trans (g2 1 (by omega)))
/-! tokens: where one ends, its kind (0 the end, 1 word, 2 number of at most 4 digits, 3 semicolon, 4 minus, 5 none of these), where the next one stands -/
def utkE (c : Nat → Int) (L s : Nat) : Nat := if s < L then (if uisLe (c s) = true then uscn uisLe c L s else if uisDi (c s) = true then uscn uisDi c L s else s + 1) else s
def utkK (c : Nat → Int) (L s : Nat) : Nat := if s < L then (if uisLe (c s) = true then 1 else if uisDi (c s) = true then (if uscn uisDi c L s ≤ s + 4 then 2 else 5) else if c s = 59 then 3 else if c s = 45 then 4 else 5) else 0
def unxt (c : Nat → Int) (L s : Nat) : Nat := uscn uisBl c L (utkE c L s)
def uvl (c : Nat → Int) (L s : Nat) : Int := if utkK c L s = 2 then unum c s (utkE c L s - s) else 0
/-! what a token is, from the byte where it stands -/
section TOK
variable {c : Nat → Int} {L s : Nat}
theorem utk_end (h : ¬ s < L) : utkK c L s = 0 ∧ utkE c L s = s := by unfold utkK utkE; rw [if_neg h, if_neg h]; exact ⟨rfl, rfl⟩
theorem utk_word (h : s < L) (h1 : 97 ≤ c s) (h2 : c s ≤ 122) : utkK c L s = 1 ∧ utkE c L s = uscn uisLe c L s := by
  have q : uisLe (c s) = true := uisLe_t.mpr ⟨h1, h2⟩
  unfold utkK utkE; rw [if_pos h, if_pos h, if_pos q, if_pos q]; exact ⟨rfl, rfl⟩
theorem utk_dig (h : s < L) (h1 : 48 ≤ c s) (h2 : c s ≤ 57) : (utkK c L s = if uscn uisDi c L s ≤ s + 4 then 2 else 5) ∧ utkE c L s = uscn uisDi c L s := by
  have q : ¬ uisLe (c s) = true := fun k => by have := uisLe_t.mp k; omega
  have q2 : uisDi (c s) = true := uisDi_t.mpr ⟨h1, h2⟩
  unfold utkK utkE; rw [if_pos h, if_pos h, if_neg q, if_neg q, if_pos q2, if_pos q2]; exact ⟨rfl, rfl⟩
theorem utk_num (h : s < L) (h1 : 48 ≤ c s) (h2 : c s ≤ 57) (h3 : uscn uisDi c L s ≤ s + 4) : utkK c L s = 2 := by rw [(utk_dig h h1 h2).1, if_pos h3]
theorem utk_long (h : s < L) (h1 : 48 ≤ c s) (h2 : c s ≤ 57) (h3 : ¬ uscn uisDi c L s ≤ s + 4) : utkK c L s = 5 := by rw [(utk_dig h h1 h2).1, if_neg h3]
theorem utk_sign (h : s < L) (h1 : ¬ (97 ≤ c s ∧ c s ≤ 122)) (h2 : ¬ (48 ≤ c s ∧ c s ≤ 57)) : (utkK c L s = if c s = 59 then 3 else if c s = 45 then 4 else 5) ∧ utkE c L s = s + 1 := by
  have q : ¬ uisLe (c s) = true := fun k => h1 (uisLe_t.mp k)
  have q2 : ¬ uisDi (c s) = true := fun k => h2 (uisDi_t.mp k)
  unfold utkK utkE; rw [if_pos h, if_pos h, if_neg q, if_neg q, if_neg q2, if_neg q2]; exact ⟨rfl, rfl⟩
theorem utk_semi (h : s < L) (h1 : c s = 59) : utkK c L s = 3 ∧ utkE c L s = s + 1 := by
  obtain ⟨a, b⟩ := utk_sign (c := c) h (by omega) (by omega)
  rw [if_pos h1] at a; exact ⟨a, b⟩
theorem utk_minus (h : s < L) (h1 : c s = 45) : utkK c L s = 4 ∧ utkE c L s = s + 1 := by
  obtain ⟨a, b⟩ := utk_sign (c := c) h (by omega) (by omega)
  rw [if_neg (by omega), if_pos h1] at a; exact ⟨a, b⟩
theorem utk_other (h : s < L) (h1 : ¬ (97 ≤ c s ∧ c s ≤ 122)) (h2 : ¬ (48 ≤ c s ∧ c s ≤ 57)) (h3 : c s ≠ 59) (h4 : c s ≠ 45) : utkK c L s = 5 ∧ utkE c L s = s + 1 := by
  obtain ⟨a, b⟩ := utk_sign (c := c) h h1 h2
  rw [if_neg h3, if_neg h4] at a; exact ⟨a, b⟩
/-- back from the kind to the byte -/
theorem utk_of (s : Nat) : (utkK c L s = 0 ∧ ¬ s < L) ∨ (s < L ∧ ((utkK c L s = 1 ∧ 97 ≤ c s ∧ c s ≤ 122) ∨ (utkK c L s = 2 ∧ 48 ≤ c s ∧ c s ≤ 57 ∧ uscn uisDi c L s ≤ s + 4) ∨ (utkK c L s = 5 ∧ 48 ≤ c s ∧ c s ≤ 57 ∧ s + 4 < uscn uisDi c L s) ∨ (utkK c L s = 3 ∧ c s = 59) ∨ (utkK c L s = 4 ∧ c s = 45) ∨ (utkK c L s = 5 ∧ ¬ (97 ≤ c s ∧ c s ≤ 122) ∧ ¬ (48 ≤ c s ∧ c s ≤ 57) ∧ c s ≠ 59 ∧ c s ≠ 45))) := by
  by_cases h : s < L
  · refine Or.inr ⟨h, ?_⟩
    by_cases h1 : 97 ≤ c s ∧ c s ≤ 122
    · exact Or.inl ⟨(utk_word h h1.1 h1.2).1, h1⟩
    · by_cases h2 : 48 ≤ c s ∧ c s ≤ 57
      · by_cases h3 : uscn uisDi c L s ≤ s + 4
        · exact Or.inr (Or.inl ⟨utk_num h h2.1 h2.2 h3, h2.1, h2.2, h3⟩)
        · exact Or.inr (Or.inr (Or.inl ⟨utk_long h h2.1 h2.2 h3, h2.1, h2.2, by omega⟩))
      · by_cases h3 : c s = 59
        · exact Or.inr (Or.inr (Or.inr (Or.inl ⟨(utk_semi h h3).1, h3⟩)))
        · by_cases h4 : c s = 45
          · exact Or.inr (Or.inr (Or.inr (Or.inr (Or.inl ⟨(utk_minus h h4).1, h4⟩))))
          · exact Or.inr (Or.inr (Or.inr (Or.inr (Or.inr ⟨(utk_other h h1 h2 h3 h4).1, h1, h2, h3, h4⟩))))
  · exact Or.inl ⟨(utk_end h).1, h⟩
theorem utkE_ge : s ≤ utkE c L s := by
  unfold utkE
  split
  · split
    · exact uscn_ge
    · split
      · exact uscn_ge
      · omega
  · exact Nat.le_refl _
theorem utkE_le (h : s ≤ L) : utkE c L s ≤ L := by
  unfold utkE
  split
  · split
    · exact uscn_le h
    · split
      · exact uscn_le h
      · omega
  · exact h
theorem unxt_le (h : s ≤ L) : unxt c L s ≤ L := uscn_le (utkE_le h)
theorem unxt_ge : s ≤ unxt c L s := Nat.le_trans utkE_ge uscn_ge
theorem uvl_b (h : utkK c L s = 2) : 0 ≤ uvl c L s ∧ uvl c L s ≤ 9999 := by
  rcases utk_of (c := c) (L := L) s with ⟨k, -⟩ | ⟨hs, ⟨k, -⟩ | ⟨-, k1, k2, k3⟩ | ⟨k, -⟩ | ⟨k, -⟩ | ⟨k, -⟩ | ⟨k, -⟩⟩
  · omega
  · omega
  · have e := (utk_dig hs k1 k2).2
    unfold uvl
    rw [if_pos h]
    have q := unum_b (c := c) (a := s) (k := utkE c L s - s) (fun j hj => uisDi_t.mp (uscn_in (p := uisDi) (c := c) (L := L) (a := s) (k := s + j) (by omega) (by rw [e] at hj; omega)))
    rw [e] at q ⊢
    have h5 : s ≤ uscn uisDi c L s := uscn_ge
    exact ⟨q.1, q.2.2.2.2 (by omega)⟩
  · omega
  · omega
  · omega
  · omega
end TOK
/-! two texts alike: a byte as a number of 8 bits with a sign, and without one -/
def uAlike (c d : Nat → Int) (L : Nat) : Prop := ∀ j, j < L → c j = d j ∨ (c j < 0 ∧ 128 ≤ d j)
section ALIKE
variable {c d : Nat → Int} {L : Nat}
theorem ual_p (h : uAlike c d L) {k : Nat} (hk : k < L) : uisBl (c k) = uisBl (d k) ∧ uisLe (c k) = uisLe (d k) ∧ uisDi (c k) = uisDi (d k) := by
  rcases h k hk with e | ⟨e1, e2⟩
  · rw [e]; exact ⟨rfl, rfl, rfl⟩
  · refine ⟨?_, ?_, ?_⟩
    · rw [Bool.eq_iff_iff, uisBl_t, uisBl_t]; omega
    · rw [Bool.eq_iff_iff, uisLe_t, uisLe_t]; omega
    · rw [Bool.eq_iff_iff, uisDi_t, uisDi_t]; omega
theorem ual_Bl (h : uAlike c d L) (s : Nat) : uscn uisBl c L s = uscn uisBl d L s := uscn_cong (fun _ hk => (ual_p h hk).1) _ s (Nat.le_refl _)
theorem ual_Le (h : uAlike c d L) (s : Nat) : uscn uisLe c L s = uscn uisLe d L s := uscn_cong (fun _ hk => (ual_p h hk).2.1) _ s (Nat.le_refl _)
theorem ual_Di (h : uAlike c d L) (s : Nat) : uscn uisDi c L s = uscn uisDi d L s := uscn_cong (fun _ hk => (ual_p h hk).2.2) _ s (Nat.le_refl _)
theorem ual_K (h : uAlike c d L) (s : Nat) : utkK c L s = utkK d L s := by
  by_cases hs : s < L
  · unfold utkK
    rw [if_pos hs, if_pos hs, (ual_p h hs).2.1, (ual_p h hs).2.2, ual_Di h s]
    rcases h s hs with e | ⟨e1, e2⟩
    · rw [e]
    · rw [if_neg (show ¬ c s = 59 from by omega), if_neg (show ¬ d s = 59 from by omega), if_neg (show ¬ c s = 45 from by omega), if_neg (show ¬ d s = 45 from by omega)]
  · rw [(utk_end hs).1, (utk_end hs).1]
theorem ual_E (h : uAlike c d L) (s : Nat) : utkE c L s = utkE d L s := by
  by_cases hs : s < L
  · unfold utkE
    rw [if_pos hs, if_pos hs, (ual_p h hs).2.1, (ual_p h hs).2.2, ual_Di h s, ual_Le h s]
  · rw [(utk_end hs).2, (utk_end hs).2]
theorem ual_X (h : uAlike c d L) (s : Nat) : unxt c L s = unxt d L s := by unfold unxt; rw [ual_E h, ual_Bl h]
theorem unum_cong {c d : Nat → Int} {a : Nat} : ∀ {k : Nat}, (∀ j, j < k → c (a + j) = d (a + j)) → unum c a k = unum d a k := by
  intro k
  induction k with
  | zero => intro _; rfl
  | succ k ih =>
    intro h
    show 10 * unum c a k + (c (a + k) - 48) = 10 * unum d a k + (d (a + k) - 48)
    rw [ih (fun j hj => h j (by omega)), h k (by omega)]
theorem ual_V (h : uAlike c d L) (s : Nat) : uvl c L s = uvl d L s := by
  unfold uvl
  rw [ual_K h s, ual_E h s]
  by_cases e : utkK d L s = 2
  · rw [if_pos e, if_pos e]
    rcases utk_of (c := d) (L := L) s with ⟨k, -⟩ | ⟨hs, ⟨k, -⟩ | ⟨-, k1, k2, k3⟩ | ⟨k, -⟩ | ⟨k, -⟩ | ⟨k, -⟩ | ⟨k, -⟩⟩
    · omega
    · omega
    · have q := (utk_dig hs k1 k2).2
      refine unum_cong (fun j hj => ?_)
      have z : uisDi (d (s + j)) = true := uscn_in (p := uisDi) (c := d) (L := L) (a := s) (k := s + j) (by omega) (by omega)
      have z2 := uisDi_t.mp z
      have z3 : uscn uisDi d L s ≤ L := uscn_le (by omega)
      rcases h (s + j) (by omega) with g | ⟨g1, g2⟩
      · exact g
      · omega
    · omega
    · omega
    · omega
    · omega
  · rw [if_neg e, if_neg e]
theorem ual_W (h : uAlike c d L) {i s : Nat} (hi : i < 13) : uIsW c L i s ↔ uIsW d L i s := by
  unfold uIsW
  rw [ual_Le h s]
  refine ⟨fun ⟨e, g⟩ => ⟨e, fun k hk => ?_⟩, fun ⟨e, g⟩ => ⟨e, fun k hk => ?_⟩⟩
  · have z := g k hk
    have z2 := uwBy_le i hi k hk
    have z3 : s + k < L := Decidable.byContradiction fun q => by
      rcases (uscn_all (p := uisLe) (c := d) (L := L) (L - s) s (Nat.le_refl _)).2.1 with y | y <;> omega
    rcases h (s + k) z3 with y | ⟨y, -⟩
    · omega
    · omega
  · have z := g k hk
    have z2 := uwBy_le i hi k hk
    have z3 : s + k < L := Decidable.byContradiction fun q => by
      rcases (uscn_all (p := uisLe) (c := d) (L := L) (L - s) s (Nat.le_refl _)).2.1 with y | y <;> omega
    rcases h (s + k) z3 with y | ⟨-, y⟩
    · omega
    · omega
end ALIKE
theorem uIsW_K {c : Nat → Int} {L i s : Nat} (hi : i < 13) (h : uIsW c L i s) : utkK c L s = 1 := by
  obtain ⟨e, -⟩ := h
  have hN := uwN_b i hi
  have k : s < L ∧ uisLe (c s) = true := Decidable.byContradiction fun k => by rw [uscn_no k] at e; omega
  unfold utkK
  rw [if_pos k.1, if_pos k.2]
/-! the steps of reading, over what tokens are: kind K, the next one X, number V, word W -/
section STEP
variable (K X : Nat → Nat) (V : Nat → Int) (W : Nat → Nat → Prop)
/-- the value of setting i that stands at s is v -/
def uvIs (i s : Nat) (v : Int) : Prop := (i = 0 ∧ ∃ j : Nat, 4 ≤ j ∧ j < 7 ∧ W j s ∧ v = j - 4) ∨ (i = 1 ∧ ∃ j : Nat, 7 ≤ j ∧ j < 10 ∧ W j s ∧ v = j - 7) ∨ (i = 2 ∧ ∃ j : Nat, 10 ≤ j ∧ j < 12 ∧ W j s ∧ v = 11 - j) ∨ (i = 3 ∧ K s = 2 ∧ 2 ≤ V s ∧ V s ≤ 48 ∧ v = V s)
/-- what is wrong there -/
def uvBad (i s : Nat) (co : Int) : Prop := (i = 3 ∧ K s = 2 ∧ co = 2) ∨ (¬ (i = 3 ∧ K s = 2) ∧ co = 1)
def usNo (s : Nat) : Prop := ∀ i, i < 4 → ¬ W i s
def usGo (s n : Nat) (g : Nat → Int) (s' n' : Nat) (g' : Nat → Int) : Prop := ∃ (i : Nat) (v : Int), i < 4 ∧ W i s ∧ n.testBit i = false ∧ uvIs K V W i (X s) v ∧ K (X (X s)) = 3 ∧ s' = X (X (X s)) ∧ n' = n ||| 2 ^ i ∧ g' = fun j => if j = i then v else g j
def usBad (s n : Nat) (co po : Int) : Prop := ∃ i, i < 4 ∧ W i s ∧ ((n.testBit i = true ∧ co = 3 ∧ po = s) ∨ (n.testBit i = false ∧ (∀ v, ¬ uvIs K V W i (X s) v) ∧ uvBad K i (X s) co ∧ po = X s) ∨ (n.testBit i = false ∧ (∃ v, uvIs K V W i (X s) v) ∧ K (X (X s)) ≠ 3 ∧ co = 1 ∧ po = X (X s)))
/-- where the number of a sample's value stands -/
def usvl (s : Nat) : Nat := if K (X (X s)) = 4 then X (X (X s)) else X (X s)
def uvq (s : Nat) : Int := if K (X s) = 4 then -(V (if K (X s) = 4 then X (X s) else X s)) else V (if K (X s) = 4 then X (X s) else X s)
/-- what is kept of samples: sample n's place and value -/
def usm (s n : Nat) (g : Nat → Int) : Nat → Int := fun j => if j = 10 + 2 * n then V (X s) else if j = 11 + 2 * n then uvq K X V (X s) else g j
def umGo (s n : Nat) (v : Int) (s' n' : Nat) (v' : Int) : Prop := W 12 s ∧ n ≠ 48 ∧ K (X s) = 2 ∧ v < V (X s) ∧ K (usvl K X s) = 2 ∧ K (X (usvl K X s)) = 3 ∧ s' = X (X (usvl K X s)) ∧ n' = n + 1 ∧ v' = V (X s)
def umBad (s n : Nat) (v : Int) (co po : Int) : Prop := (¬ (K s = 0 ∧ 2 ≤ n) ∧ ¬ W 12 s ∧ co = 1 ∧ po = s) ∨ (W 12 s ∧ n = 48 ∧ co = 4 ∧ po = s) ∨ (W 12 s ∧ n ≠ 48 ∧ ((K (X s) ≠ 2 ∧ co = 1 ∧ po = X s) ∨ (K (X s) = 2 ∧ V (X s) ≤ v ∧ co = 2 ∧ po = X s) ∨ (K (X s) = 2 ∧ v < V (X s) ∧ ((K (usvl K X s) ≠ 2 ∧ co = 1 ∧ po = usvl K X s) ∨ (K (usvl K X s) = 2 ∧ K (X (usvl K X s)) ≠ 3 ∧ co = 1 ∧ po = X (usvl K X s))))))
def umEnd (s n : Nat) : Prop := K s = 0 ∧ 2 ≤ n
/-- a state of reading: settings or samples (true); the token's place; bits or number of samples; last place; settings -/
abbrev uRd := Bool × Nat × Nat × Int × (Nat → Int)
def urnx (x y : uRd) : Prop := (x.1 = false ∧ ((∃ s' n' g', usGo K X V W x.2.1 x.2.2.1 x.2.2.2.2 s' n' g' ∧ y = (false, s', n', -1, g')) ∨ (usNo W x.2.1 ∧ y = (true, x.2.1, 0, -1, x.2.2.2.2)))) ∨ (x.1 = true ∧ ∃ s' n' v', umGo K X V W x.2.1 x.2.2.1 x.2.2.2.1 s' n' v' ∧ y = (true, s', n', v', usm K X V x.2.1 x.2.2.1 x.2.2.2.2))
/-- a state at the end: an error's code and position, or 0 and the number of samples -/
def urfi (x : uRd) (co po : Int) : Prop := (x.1 = false ∧ usBad K X V W x.2.1 x.2.2.1 co po) ∨ (x.1 = true ∧ umBad K X V W x.2.1 x.2.2.1 x.2.2.2.1 co po) ∨ (x.1 = true ∧ umEnd K x.2.1 x.2.2.1 ∧ co = 0 ∧ po = x.2.2.1)
def urtn (a : uRd) : Nat → uRd → Prop
  | 0, x => x = a
  | n + 1, x => ∃ y, urtn a n y ∧ urnx K X V W y x
def urt (a x : uRd) : Prop := ∃ n, urtn K X V W a n x
end STEP
section STEPS
variable {K X : Nat → Nat} {V : Nat → Int} {W : Nat → Nat → Prop}
theorem urt_rf {a : uRd} : urt K X V W a a := ⟨0, rfl⟩
theorem urt_tl {a x y : uRd} (h : urt K X V W a x) (e : urnx K X V W x y) : urt K X V W a y := by
  obtain ⟨n, h⟩ := h
  exact ⟨n + 1, x, h, e⟩
theorem uvIs_one (hW : ∀ s i j, i < 13 → j < 13 → W i s → W j s → i = j) {i s : Nat} {v v' : Int} (h : uvIs K V W i s v) (h' : uvIs K V W i s v') : v = v' := by
  rcases h with ⟨e, j, j1, j2, w, ev⟩ | ⟨e, j, j1, j2, w, ev⟩ | ⟨e, j, j1, j2, w, ev⟩ | ⟨e, k1, k2, k3, ev⟩ <;> rcases h' with ⟨e', j', j1', j2', w', ev'⟩ | ⟨e', j', j1', j2', w', ev'⟩ | ⟨e', j', j1', j2', w', ev'⟩ | ⟨e', k1', k2', k3', ev'⟩ <;> first | omega | (have q := hW s j j' (by omega) (by omega) w w'; omega)
theorem usGo_one (hW : ∀ s i j, i < 13 → j < 13 → W i s → W j s → i = j) {s n : Nat} {g : Nat → Int} {s1 n1 s2 n2 : Nat} {g1 g2 : Nat → Int} (h : usGo K X V W s n g s1 n1 g1) (h' : usGo K X V W s n g s2 n2 g2) : s1 = s2 ∧ n1 = n2 ∧ g1 = g2 := by
  obtain ⟨i, v, hi, hw, -, hv, -, e1, e2, e3⟩ := h
  obtain ⟨j, u, hj, hu, -, hz, -, f1, f2, f3⟩ := h'
  obtain rfl := hW s i j (by omega) (by omega) hw hu
  obtain rfl := uvIs_one hW hv hz
  exact ⟨e1.trans f1.symm, e2.trans f2.symm, e3.trans f3.symm⟩
theorem usGo_bad (hW : ∀ s i j, i < 13 → j < 13 → W i s → W j s → i = j) {s n : Nat} {g : Nat → Int} {s1 n1 : Nat} {g1 : Nat → Int} {co po : Int} (h : usGo K X V W s n g s1 n1 g1) (h' : usBad K X V W s n co po) : False := by
  obtain ⟨i, v, hi, hw, ht, hv, hk, -⟩ := h
  obtain ⟨j, hj, hu, h'⟩ := h'
  obtain rfl := hW s i j (by omega) (by omega) hw hu
  rcases h' with ⟨a, -⟩ | ⟨-, a, -⟩ | ⟨-, -, a, -⟩
  · rw [ht] at a; exact absurd a (by decide)
  · exact a v hv
  · exact a hk
theorem usBad_one (hW : ∀ s i j, i < 13 → j < 13 → W i s → W j s → i = j) {s n : Nat} {co po co' po' : Int} (h : usBad K X V W s n co po) (h' : usBad K X V W s n co' po') : co = co' ∧ po = po' := by
  obtain ⟨i, hi, hw, h⟩ := h
  obtain ⟨j, hj, hu, h'⟩ := h'
  obtain rfl := hW s i j (by omega) (by omega) hw hu
  unfold uvBad at h h'
  rcases h with ⟨a, a1, a2⟩ | ⟨a, b, a1, a2⟩ | ⟨a, ⟨v, b⟩, c, a1, a2⟩ <;> rcases h' with ⟨a', a1', a2'⟩ | ⟨a', b', a1', a2'⟩ | ⟨a', ⟨v', b'⟩, c', a1', a2'⟩ <;> first | (rw [a] at a'; exact absurd a' (by decide)) | (exact absurd b' (b v')) | (exact absurd b (b' v)) | (clear a a'; constructor <;> omega)
theorem usNo_go {s n : Nat} {g : Nat → Int} {s1 n1 : Nat} {g1 : Nat → Int} (h : usNo W s) (h' : usGo K X V W s n g s1 n1 g1) : False := by
  obtain ⟨i, v, hi, hw, -⟩ := h'
  exact h i hi hw
theorem usNo_bad {s n : Nat} {co po : Int} (h : usNo W s) (h' : usBad K X V W s n co po) : False := by
  obtain ⟨i, hi, hw, -⟩ := h'
  exact h i hi hw
theorem umGo_one {s n : Nat} {v : Int} {s1 n1 s2 n2 : Nat} {v1 v2 : Int} (h : umGo K X V W s n v s1 n1 v1) (h' : umGo K X V W s n v s2 n2 v2) : s1 = s2 ∧ n1 = n2 ∧ v1 = v2 := by
  obtain ⟨-, -, -, -, -, -, a, b, c⟩ := h
  obtain ⟨-, -, -, -, -, -, a', b', c'⟩ := h'
  exact ⟨a.trans a'.symm, b.trans b'.symm, c.trans c'.symm⟩
theorem umGo_bad {s n : Nat} {v : Int} {s1 n1 : Nat} {v1 co po : Int} (h : umGo K X V W s n v s1 n1 v1) (h' : umBad K X V W s n v co po) : False := by
  obtain ⟨a, b, c, d, e, f, -⟩ := h
  rcases h' with ⟨-, q, -⟩ | ⟨-, q, -⟩ | ⟨-, -, ⟨q, -⟩ | ⟨-, q, -⟩ | ⟨-, -, ⟨q, -⟩ | ⟨-, q, -⟩⟩⟩
  · exact q a
  · exact b q
  · exact q c
  · omega
  · exact q e
  · exact q f
theorem umEnd_W (hK : ∀ s, W 12 s → K s = 1) {s n : Nat} (h : umEnd K s n) : ¬ W 12 s := fun q => by
  have := hK s q
  have := h.1
  omega
theorem umEnd_bad (hK : ∀ s, W 12 s → K s = 1) {s n : Nat} {v co po : Int} (h : umEnd K s n) (h' : umBad K X V W s n v co po) : False := by
  have q := umEnd_W hK h
  rcases h' with ⟨q1, -⟩ | ⟨q1, -⟩ | ⟨q1, -⟩
  · exact q1 h
  · exact q q1
  · exact q q1
theorem umBad_one {s n : Nat} {v co po co' po' : Int} (h : umBad K X V W s n v co po) (h' : umBad K X V W s n v co' po') : co = co' ∧ po = po' := by
  by_cases w : W 12 s
  · rcases h with ⟨-, z, -⟩ | ⟨-, a, a1, a2⟩ | ⟨-, a, h⟩
    · exact absurd w z
    · rcases h' with ⟨-, z, -⟩ | ⟨-, b, b1, b2⟩ | ⟨-, b, -⟩
      · exact absurd w z
      · omega
      · exact absurd a b
    · rcases h' with ⟨-, z, -⟩ | ⟨-, b, b1, b2⟩ | ⟨-, b, h'⟩
      · exact absurd w z
      · exact absurd b a
      · omega
  · rcases h with ⟨-, -, a1, a2⟩ | ⟨z, -⟩ | ⟨z, -⟩
    · rcases h' with ⟨-, -, b1, b2⟩ | ⟨z, -⟩ | ⟨z, -⟩
      · omega
      · exact absurd z w
      · exact absurd z w
    · exact absurd z w
    · exact absurd z w
theorem urnx_one (hW : ∀ s i j, i < 13 → j < 13 → W i s → W j s → i = j) {x y z : uRd} (h : urnx K X V W x y) (h' : urnx K X V W x z) : y = z := by
  rcases h with ⟨a, ⟨s1, n1, g1, h, e⟩ | ⟨h, e⟩⟩ | ⟨a, s1, n1, v1, h, e⟩ <;> rcases h' with ⟨a', ⟨s2, n2, g2, h', e'⟩ | ⟨h', e'⟩⟩ | ⟨a', s2, n2, v2, h', e'⟩
  · obtain ⟨q1, q2, q3⟩ := usGo_one hW h h'
    rw [e, e', q1, q2, q3]
  · exact (usNo_go h' h).elim
  · rw [a] at a'; exact absurd a' (by decide)
  · exact (usNo_go h h').elim
  · rw [e, e']
  · rw [a] at a'; exact absurd a' (by decide)
  · rw [a] at a'; exact absurd a' (by decide)
  · rw [a] at a'; exact absurd a' (by decide)
  · obtain ⟨q1, q2, q3⟩ := umGo_one h h'
    rw [e, e', q1, q2, q3]
theorem urnx_fi (hW : ∀ s i j, i < 13 → j < 13 → W i s → W j s → i = j) (hK : ∀ s, W 12 s → K s = 1) {x y : uRd} {co po : Int} (h : urnx K X V W x y) (h' : urfi K X V W x co po) : False := by
  rcases h with ⟨a, ⟨s1, n1, g1, h, e⟩ | ⟨h, e⟩⟩ | ⟨a, s1, n1, v1, h, e⟩ <;> rcases h' with ⟨a', h'⟩ | ⟨a', h'⟩ | ⟨a', h', -⟩
  · exact usGo_bad hW h h'
  · rw [a] at a'; exact absurd a' (by decide)
  · rw [a] at a'; exact absurd a' (by decide)
  · exact usNo_bad h h'
  · rw [a] at a'; exact absurd a' (by decide)
  · rw [a] at a'; exact absurd a' (by decide)
  · rw [a] at a'; exact absurd a' (by decide)
  · exact umGo_bad h h'
  · exact umEnd_W hK h' h.1
theorem urfi_one (hW : ∀ s i j, i < 13 → j < 13 → W i s → W j s → i = j) (hK : ∀ s, W 12 s → K s = 1) {x : uRd} {co po co' po' : Int} (h : urfi K X V W x co po) (h' : urfi K X V W x co' po') : co = co' ∧ po = po' := by
  rcases h with ⟨a, h⟩ | ⟨a, h⟩ | ⟨a, h, h1, h2⟩ <;> rcases h' with ⟨a', h'⟩ | ⟨a', h'⟩ | ⟨a', h', h1', h2'⟩
  · exact usBad_one hW h h'
  · rw [a] at a'; exact absurd a' (by decide)
  · rw [a] at a'; exact absurd a' (by decide)
  · rw [a] at a'; exact absurd a' (by decide)
  · exact umBad_one h h'
  · exact (umEnd_bad hK h' h).elim
  · rw [a] at a'; exact absurd a' (by decide)
  · exact (umEnd_bad hK h h').elim
  · omega
theorem urt_one (hW : ∀ s i j, i < 13 → j < 13 → W i s → W j s → i = j) (hK : ∀ s, W 12 s → K s = 1) {a x y : uRd} {co po co' po' : Int} (h : urt K X V W a x) (e : urfi K X V W x co po) (h' : urt K X V W a y) (e' : urfi K X V W y co' po') : x = y := by
  obtain ⟨n, h⟩ := h
  obtain ⟨m, h'⟩ := h'
  have key : ∀ n x y, urtn K X V W a n x → urtn K X V W a n y → x = y := by
    intro n
    induction n with
    | zero => intro x y h h'; exact Eq.trans h (Eq.symm h')
    | succ n ih =>
      intro x y h h'
      obtain ⟨x1, h1, h2⟩ := h
      obtain ⟨y1, g1, g2⟩ := h'
      obtain rfl := ih x1 y1 h1 g1
      exact urnx_one hW h2 g2
  have pre : ∀ n d x, urtn K X V W a (n + d) x → ∃ y, urtn K X V W a n y ∧ (d = 0 ∨ ∃ z, urnx K X V W y z) := by
    intro n d
    induction d with
    | zero => intro x h; exact ⟨x, h, Or.inl rfl⟩
    | succ d ih =>
      intro x h
      obtain ⟨x1, h1, h2⟩ := h
      obtain ⟨y, g1, g2⟩ := ih x1 h1
      refine ⟨y, g1, Or.inr ?_⟩
      rcases g2 with rfl | g2
      · obtain rfl := key n y x1 g1 h1
        exact ⟨x, h2⟩
      · exact g2
  rcases Nat.le_total n m with q | q
  · obtain ⟨d, rfl⟩ : ∃ d, m = n + d := ⟨m - n, by omega⟩
    obtain ⟨z, g1, g2⟩ := pre n d y h'
    obtain rfl := key n x z h g1
    rcases g2 with rfl | ⟨w, g2⟩
    · exact key n x y h h'
    · exact (urnx_fi hW hK g2 e).elim
  · obtain ⟨d, rfl⟩ : ∃ d, n = m + d := ⟨n - m, by omega⟩
    obtain ⟨z, g1, g2⟩ := pre m d x h
    obtain rfl := key m y z h' g1
    rcases g2 with rfl | ⟨w, g2⟩
    · exact key m x y h h'
    · exact (urnx_fi hW hK g2 e').elim
end STEPS
/-! a whole text -/
def ugs0 : Nat → Int := fun j => if j = 0 then 0 else 2 - (if j = 2 then 1 else 0)
def urd0 (c : Nat → Int) (L : Nat) : uRd := (false, uscn uisBl c L 0, 0, -1, ugs0)
def uWd (c : Nat → Int) (L : Nat) : Nat → Nat → Prop := fun i s => i < 13 ∧ uIsW c L i s
def utnx (c : Nat → Int) (L : Nat) : uRd → uRd → Prop := urnx (utkK c L) (unxt c L) (uvl c L) (uWd c L)
def utfi (c : Nat → Int) (L : Nat) : uRd → Int → Int → Prop := urfi (utkK c L) (unxt c L) (uvl c L) (uWd c L)
def utrt (c : Nat → Int) (L : Nat) : uRd → uRd → Prop := urt (utkK c L) (unxt c L) (uvl c L) (uWd c L)
/-- a text read to its end -/
def uRds (c : Nat → Int) (L : Nat) (x : uRd) (co po : Int) : Prop := utrt c L (urd0 c L) x ∧ utfi c L x co po
theorem uRds_one {c d : Nat → Int} {L : Nat} (h : uAlike c d L) {x y : uRd} {co po co' po' : Int} (hx : uRds c L x co po) (hy : uRds d L y co' po') : x = y ∧ co = co' ∧ po = po' := by
  have e1 : utkK c L = utkK d L := funext fun s => ual_K h s
  have e2 : unxt c L = unxt d L := funext fun s => ual_X h s
  have e3 : uvl c L = uvl d L := funext fun s => ual_V h s
  have e4 : uWd c L = uWd d L := funext fun i => funext fun s => propext ⟨fun q => ⟨q.1, (ual_W h q.1).mp q.2⟩, fun q => ⟨q.1, (ual_W h q.1).mpr q.2⟩⟩
  have e5 : urd0 c L = urd0 d L := by unfold urd0; rw [ual_Bl h]
  have hW : ∀ s i j, i < 13 → j < 13 → uWd d L i s → uWd d L j s → i = j := fun s i j h1 h2 w1 w2 => uIsW_one h1 h2 w1.2 w2.2
  have hK : ∀ s, uWd d L 12 s → utkK d L s = 1 := fun s w => uIsW_K w.1 w.2
  obtain ⟨x1, x2⟩ := hx
  obtain ⟨y1, y2⟩ := hy
  unfold utrt at x1 y1
  unfold utfi at x2 y2
  rw [e1, e2, e3, e4, e5] at x1
  rw [e1, e2, e3, e4] at x2
  have e := urt_one hW hK x1 x2 y1 y2
  subst e
  exact ⟨rfl, urfi_one hW hK x2 y2⟩
