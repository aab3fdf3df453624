/-! One pass as numbers alone: N samples at places P; a rule of prediction r, updates or none u. A state is values, weights, marks (-1: present, else the step), details, the number of steps. -/
abbrev Ps : Type := (Nat → Int) × (Nat → Int) × (Nat → Int) × (Nat → Int) × Nat
def LN (l : Nat → Int) (k p : Nat) : Prop := p < k ∧ l p = -1 ∧ ∀ j, p < j → j < k → l j ≠ -1
def RN (N : Nat) (l : Nat → Int) (k q : Nat) : Prop := (k < q ∧ q < N) ∧ l q = -1 ∧ ∀ j, k < j → j < q → l j ≠ -1
theorem LN.one {l : Nat → Int} {k p p' : Nat} (h : LN l k p) (g : LN l k p') : p = p' := by
  obtain ⟨h1, h2, h3⟩ := h
  obtain ⟨g1, g2, g3⟩ := g
  rcases Nat.lt_trichotomy p p' with z | z | z
  · exact absurd g2 (h3 p' z g1)
  · exact z
  · exact absurd h2 (g3 p z h1)
theorem RN.one {N : Nat} {l : Nat → Int} {k q q' : Nat} (h : RN N l k q) (g : RN N l k q') : q = q' := by
  obtain ⟨⟨h1, h0⟩, h2, h3⟩ := h
  obtain ⟨⟨g1, g0⟩, g2, g3⟩ := g
  rcases Nat.lt_trichotomy q q' with z | z | z
  · exact absurd h2 (g3 q h1 z)
  · exact z
  · exact absurd g2 (h3 q' g1 z)
theorem LN.ex {l : Nat → Int} (h0 : l 0 = -1) : ∀ k, 0 < k → ∃ p, LN l k p := by
  intro k
  induction k with
  | zero => intro h; omega
  | succ k ih =>
    intro _
    by_cases e : l k = -1
    · exact ⟨k, by omega, e, fun j h1 h2 => by omega⟩
    · by_cases z : k = 0
      · subst z; exact absurd h0 e
      · obtain ⟨p, h1, h2, h3⟩ := ih (by omega)
        refine ⟨p, by omega, h2, fun j g1 g2 => ?_⟩
        by_cases y : j = k
        · rw [y]; exact e
        · exact h3 j g1 (by omega)
theorem RN.ex {N : Nat} {l : Nat → Int} (h0 : l (N - 1) = -1) : ∀ d k, k + d + 1 = N → 0 < d → ∃ q, RN N l k q := by
  intro d
  induction d with
  | zero => intro k _ h; omega
  | succ d ih =>
    intro k hk _
    by_cases e : l (k + 1) = -1
    · exact ⟨k + 1, ⟨by omega, by omega⟩, e, fun j h1 h2 => by omega⟩
    · by_cases z : d = 0
      · subst z; rw [show N - 1 = k + 1 by omega] at h0; exact absurd h0 e
      · obtain ⟨q, ⟨h1, h4⟩, h2, h3⟩ := ih (k + 1) (by omega) (by omega)
        refine ⟨q, ⟨by omega, h4⟩, h2, fun j g1 g2 => ?_⟩
        by_cases y : j = k + 1
        · rw [y]; exact e
        · exact h3 j (by omega) g2
/-- what is predicted for k between p and q -/
def prd (P v : Nat → Int) (r : Int) (k p q : Nat) : Int := if r = 0 ∨ (r = 1 ∧ P k - P p ≤ P q - P k) then v p else if r = 2 then v p + (v q - v p) * (P k - P p) / (P q - P p) else v q
/-- the part of k's weight that p gets -/
def shr (P w : Nat → Int) (r : Int) (k p q : Nat) : Int := if r = 2 then w k * (P q - P k) / (P q - P p) else if r = 0 ∨ P k - P p ≤ P q - P k then w k else 0
/-- what a neighbour's value gets -/
def gan (u w d a b : Int) : Int := if u = 0 then 0 else w * d * a / (a * a + b * b)
def dtl (P : Nat → Int) (r : Int) (X : Ps) (k p q : Nat) : Int := X.1 k - prd P X.1 r k p q
def wl (P : Nat → Int) (r : Int) (X : Ps) (k p q : Nat) : Int := X.2.1 p + shr P X.2.1 r k p q
def wr (P : Nat → Int) (r : Int) (X : Ps) (k p q : Nat) : Int := X.2.1 q + X.2.1 k - shr P X.2.1 r k p q
def lft (P : Nat → Int) (r u : Int) (X : Ps) (k p q : Nat) : Ps :=
  (updi (updi X.1 p (X.1 p + gan u (X.2.1 k) (dtl P r X k p q) (wl P r X k p q) (wr P r X k p q))) q (X.1 q + gan u (X.2.1 k) (dtl P r X k p q) (wr P r X k p q) (wl P r X k p q)), updi (updi X.2.1 p (wl P r X k p q)) q (wr P r X k p q), updi X.2.2.1 k X.2.2.2.2, updi X.2.2.2.1 X.2.2.2.2 (dtl P r X k p q), X.2.2.2.2 + 1)
/-- places: they grow, within 0 to 9999 -/
def PLI (N : Nat) (P : Nat → Int) : Prop := ∀ k, k < N → (0 ≤ P k ∧ P k ≤ 9999) ∧ (k + 1 < N → P k < P (k + 1))
theorem PLI.lt {N i j : Nat} {P : Nat → Int} (h : PLI N P) (hij : i < j) (hj : j < N) : P i < P j := by
  induction j with
  | zero => omega
  | succ j ih =>
    have a := (h j (by omega)).2 hj
    by_cases e : i = j
    · subst e; exact a
    · have := ih (by omega) (by omega); omega
/-- neighbours, an end for itself -/
def LO (l : Nat → Int) (k p : Nat) : Prop := LN l k p ∨ (k = 0 ∧ p = 0)
def HI (N : Nat) (l : Nat → Int) (k q : Nat) : Prop := RN N l k q ∨ (k = N - 1 ∧ q = N - 1)
def GEO (N : Nat) (P l w : Nat → Int) : Prop := ∀ k p q, k < N → l k = -1 → LO l k p → HI N l k q → w k = P q - P p
def qbd : Nat → Int
  | 0 => 4800000000
  | m + 1 => (195 * qbd m + 16640) / 128 + 1
theorem qbd_nn : ∀ m, 0 ≤ qbd m
  | 0 => by decide
  | m + 1 => by
    have := qbd_nn m
    show 0 ≤ (195 * qbd m + 16640) / 128 + 1
    omega
theorem qbd_le {m n : Nat} (h : m ≤ n) : qbd m ≤ qbd n := by
  induction n with
  | zero => have : m = 0 := by omega
            subst this; exact Int.le_refl _
  | succ n ih =>
    by_cases e : m = n + 1
    · subst e; exact Int.le_refl _
    · have := ih (by omega)
      have g := qbd_nn n
      show qbd m ≤ (195 * qbd n + 16640) / 128 + 1
      omega
theorem qbd_46 : qbd 46 ≤ 1240000000000000000 := by decide +kernel
/-- what every state of a pass keeps -/
def PIV (N : Nat) (P : Nat → Int) (r : Int) (X : Ps) : Prop :=
  (X.2.2.1 0 = -1 ∧ X.2.2.1 (N - 1) = -1) ∧ (∀ k, k < N → X.2.2.1 k = -1 → 1 ≤ X.2.1 k) ∧ fsum N (pt X.2.2.1 X.2.1) ≤ 20000 ∧ (r = 2 → GEO N P X.2.2.1 X.2.1) ∧ fsum N (pt X.2.2.1 (fun k => X.1 k * X.1 k)) ≤ qbd X.2.2.2.2
theorem sq_small {x b : Int} (h : x * x ≤ b * b) (hb : 0 ≤ b) : -b ≤ x ∧ x ≤ b := by
  refine ⟨Decidable.byContradiction fun z => ?_, Decidable.byContradiction fun z => ?_⟩
  · have h2 : (b + 1) * (b + 1) ≤ (-x) * (-x) := Int.mul_le_mul (by omega) (by omega) (by omega) (by omega)
    have h3 : (b + 1) * (b + 1) = b * b + 2 * b + 1 := by grind
    have h4 : (-x) * (-x) = x * x := Int.neg_mul_neg x x
    omega
  · have h2 : (b + 1) * (b + 1) ≤ x * x := Int.mul_le_mul (by omega) (by omega) (by omega) (by omega)
    have h3 : (b + 1) * (b + 1) = b * b + 2 * b + 1 := by grind
    omega
/-- what bq_lift wants of the weights a (left), b (lifted), c (right) and of the share s -/
def LFN (a b c s : Int) : Prop := a * a + b * b + c * c ≤ (a + s) * (a + s) + (c + b - s) * (c + b - s) ∧ 2 * (a * (c + b - s) - c * (a + s)) ≤ (a + s) * (a + s) + (c + b - s) * (c + b - s) ∧ -(2 * (a * (c + b - s) - c * (a + s))) ≤ (a + s) * (a + s) + (c + b - s) * (c + b - s) ∧ (a + s) * b ≤ (a + s) * (a + s) + (c + b - s) * (c + b - s) ∧ (c + b - s) * b ≤ (a + s) * (a + s) + (c + b - s) * (c + b - s)
theorem LFN.left {a b c : Int} (ha : 1 ≤ a) (hb : 1 ≤ b) (hc : 1 ≤ c) : LFN a b c b := by
  have p1 := Int.mul_nonneg (show 0 ≤ a by omega) (show 0 ≤ b by omega)
  have p2 := Int.mul_nonneg (show 0 ≤ c by omega) (show 0 ≤ b by omega)
  have p3 := Int.mul_nonneg (show 0 ≤ c by omega) (show 0 ≤ a by omega)
  have p4 := bq_nn a
  have p5 := bq_nn b
  have p6 := bq_nn c
  have p7 := bq_nn (a + b - c)
  have e0 : (a + b - c) * (a + b - c) = a * a + b * b + c * c + 2 * (a * b) - 2 * (c * a) - 2 * (c * b) := by grind
  have e1 : (a + b) * (a + b) = a * a + 2 * (a * b) + b * b := by grind
  have e2 : (c + b - b) * (c + b - b) = c * c := by grind
  have e3 : a * (c + b - b) - c * (a + b) = -(c * b) := by grind
  have e4 : (a + b) * b = a * b + b * b := by grind
  have e5 : (c + b - b) * b = c * b := by grind
  unfold LFN
  rw [e1, e2, e3, e4, e5]
  exact ⟨by omega, by omega, by omega, by omega, by omega⟩
theorem LFN.right {a b c : Int} (ha : 1 ≤ a) (hb : 1 ≤ b) (hc : 1 ≤ c) : LFN a b c 0 := by
  have p1 := Int.mul_nonneg (show 0 ≤ a by omega) (show 0 ≤ b by omega)
  have p2 := Int.mul_nonneg (show 0 ≤ c by omega) (show 0 ≤ b by omega)
  have p3 := Int.mul_nonneg (show 0 ≤ c by omega) (show 0 ≤ a by omega)
  have p4 := bq_nn a
  have p5 := bq_nn b
  have p6 := bq_nn c
  have p7 := bq_nn (c + b - a)
  have e0 : (c + b - a) * (c + b - a) = a * a + b * b + c * c + 2 * (c * b) - 2 * (c * a) - 2 * (a * b) := by grind
  have e1 : (a + 0) * (a + 0) = a * a := by grind
  have e2 : (c + b - 0) * (c + b - 0) = c * c + 2 * (c * b) + b * b := by grind
  have e3 : a * (c + b - 0) - c * (a + 0) = a * b := by grind
  have e4 : (a + 0) * b = a * b := by grind
  have e5 : (c + b - 0) * b = c * b + b * b := by grind
  unfold LFN
  rw [e1, e2, e3, e4, e5]
  exact ⟨by omega, by omega, by omega, by omega, by omega⟩
theorem LFN.line {a c x y : Int} (hx : 0 < x) (hy : 0 < y) (ha : x ≤ a) (hc : y ≤ c) : LFN a (x + y) c y := by
  have q1 := Int.mul_le_mul_of_nonneg_right ha (show 0 ≤ y by omega)
  have q2 := Int.mul_le_mul_of_nonneg_right hc (show 0 ≤ x by omega)
  have q3 := Int.mul_le_mul_of_nonneg_right ha (show 0 ≤ a by omega)
  have q4 := Int.mul_le_mul_of_nonneg_right hc (show 0 ≤ c by omega)
  have q5 := Int.mul_le_mul_of_nonneg_right ha (show 0 ≤ x by omega)
  have q6 := Int.mul_le_mul_of_nonneg_right hc (show 0 ≤ y by omega)
  have p1 := Int.mul_nonneg (show 0 ≤ x by omega) (show 0 ≤ y by omega)
  have p2 := Int.mul_nonneg (show 0 ≤ a by omega) (show 0 ≤ c by omega)
  have p3 := bq_nn x
  have p4 := bq_nn y
  have p7 := bq_nn (a + y - (c + x))
  have p8 := Int.mul_nonneg (show 0 ≤ a by omega) (show 0 ≤ x by omega)
  have p9 := Int.mul_nonneg (show 0 ≤ c by omega) (show 0 ≤ y by omega)
  have c1 : y * x = x * y := Int.mul_comm y x
  have e0 : (a + y - (c + x)) * (a + y - (c + x)) = a * a + y * y + c * c + x * x + 2 * (a * y) - 2 * (a * c) - 2 * (a * x) - 2 * (c * y) - 2 * (x * y) + 2 * (c * x) := by grind
  have e1 : (a + y) * (a + y) = a * a + 2 * (a * y) + y * y := by grind
  have e2 : (c + (x + y) - y) * (c + (x + y) - y) = c * c + 2 * (c * x) + x * x := by grind
  have e3 : a * (c + (x + y) - y) - c * (a + y) = a * x - c * y := by grind
  have e4 : (a + y) * (x + y) = a * x + a * y + x * y + y * y := by grind
  have e5 : (c + (x + y) - y) * (x + y) = c * x + c * y + x * x + x * y := by grind
  have e6 : (x + y) * (x + y) = x * x + 2 * (x * y) + y * y := by grind
  have e7 : x * a = a * x := Int.mul_comm x a
  have e8 : y * c = c * y := Int.mul_comm y c
  unfold LFN
  rw [e1, e2, e3, e4, e5, e6]
  exact ⟨by omega, by omega, by omega, by omega, by omega⟩
/-- share, detail and weights of one lift -/
theorem lft_num {P v w : Nat → Int} {r : Int} {k p q : Nat} (hr : r = 0 ∨ r = 1 ∨ r = 2) (hx : P p < P k) (hy : P k < P q) (w1 : 1 ≤ w k) (w2 : 1 ≤ w p) (w3 : 1 ≤ w q) (hg : r = 2 → w k = P q - P p ∧ P k - P p ≤ w p ∧ P q - P k ≤ w q) : ∃ s ρ : Int, shr P w r k p q = s ∧ (0 ≤ s ∧ s ≤ w k) ∧ w k * (v k - prd P v r k p q) = w k * v k - s * v p - (w k - s) * v q + ρ ∧ (0 ≤ ρ ∧ ρ ≤ w k) ∧ LFN (w p) (w k) (w q) s := by
  by_cases h2 : r = 2
  · subst h2
    obtain ⟨g1, g2, g3⟩ := hg rfl
    have d0 : (0 : Int) < P q - P p := by omega
    have e1 : shr P w 2 k p q = P q - P k := by
      unfold shr
      rw [if_pos rfl, g1]
      exact Int.mul_ediv_cancel_left _ (by omega)
    have e2 : prd P v 2 k p q = v p + (v q - v p) * (P k - P p) / (P q - P p) := by
      unfold prd
      rw [if_neg (by omega), if_pos rfl]
    have m1 := Int.emod_add_mul_ediv ((v q - v p) * (P k - P p)) (P q - P p)
    have m2 := Int.emod_nonneg ((v q - v p) * (P k - P p)) (show P q - P p ≠ 0 by omega)
    have m3 := Int.emod_lt_of_pos ((v q - v p) * (P k - P p)) d0
    refine ⟨P q - P k, (v q - v p) * (P k - P p) % (P q - P p), e1, ⟨by omega, by omega⟩, ?_, ⟨m2, by omega⟩, ?_⟩
    · rw [e2, g1]
      obtain ⟨z, hz⟩ : ∃ z, z = (v q - v p) * (P k - P p) / (P q - P p) := ⟨_, rfl⟩
      obtain ⟨ρ, hρ⟩ : ∃ z, z = (v q - v p) * (P k - P p) % (P q - P p) := ⟨_, rfl⟩
      rw [← hz, ← hρ] at m1
      rw [← hz, ← hρ]
      grind
    · rw [show w k = (P k - P p) + (P q - P k) by omega]
      exact LFN.line (by omega) (by omega) g2 g3
  · by_cases hc : r = 0 ∨ (r = 1 ∧ P k - P p ≤ P q - P k)
    · have e1 : shr P w r k p q = w k := by
        unfold shr
        rw [if_neg h2, if_pos (by omega)]
      have e2 : prd P v r k p q = v p := by
        unfold prd
        rw [if_pos hc]
      refine ⟨w k, 0, e1, ⟨by omega, by omega⟩, ?_, ⟨by omega, by omega⟩, LFN.left w2 w1 w3⟩
      rw [e2]; grind
    · have e1 : shr P w r k p q = 0 := by
        unfold shr
        rw [if_neg h2, if_neg (by omega)]
      have e2 : prd P v r k p q = v q := by
        unfold prd
        rw [if_neg hc, if_neg h2]
      refine ⟨0, 0, e1, ⟨by omega, by omega⟩, ?_, ⟨by omega, by omega⟩, LFN.right w2 w1 w3⟩
      rw [e2]; grind
/-- a neighbour's gain, multiplied out -/
theorem gan_mul {u w d a b : Int} (hu : u ≠ 0) (hS : 0 < a * a + b * b) : ∃ s, (a * a + b * b) * gan u w d a b = w * d * a - s ∧ 0 ≤ s ∧ s ≤ a * a + b * b := by
  unfold gan
  rw [if_neg hu]
  have m1 := Int.emod_add_mul_ediv (w * d * a) (a * a + b * b)
  have m2 := Int.emod_nonneg (w * d * a) (show a * a + b * b ≠ 0 by omega)
  have m3 := Int.emod_lt_of_pos (w * d * a) hS
  exact ⟨w * d * a % (a * a + b * b), by omega, m2, by omega⟩
/-- the values of one lift -/
theorem lft_sq {P v w : Nat → Int} {r u : Int} {k p q : Nat} (hr : r = 0 ∨ r = 1 ∨ r = 2) (hx : P p < P k) (hy : P k < P q) (w1 : 1 ≤ w k) (w2 : 1 ≤ w p) (w3 : 1 ≤ w q) (hg : r = 2 → w k = P q - P p ∧ P k - P p ≤ w p ∧ P q - P k ≤ w q) {E F d a' c' : Int} (hE : E = w p + shr P w r k p q) (hF : F = w q + w k - shr P w r k p q) (hd : d = v k - prd P v r k p q) (ha : a' = v p + gan u (w k) d E F) (hc : c' = v q + gan u (w k) d F E) : 128 * (a' * a' + c' * c') ≤ 195 * (v p * v p + v k * v k + v q * v q) + 16640 := by
  obtain ⟨s, ρ, e1, ⟨s0, s1⟩, e2, ⟨r0, r1⟩, n1, n2, n3, n4, n5⟩ := lft_num (v := v) hr hx hy w1 w2 w3 hg
  rw [e1] at hE hF
  rw [← hd] at e2
  by_cases hu : u = 0
  · have z1 : a' = v p := by rw [ha]; unfold gan; rw [if_pos hu]; omega
    have z2 : c' = v q := by rw [hc]; unfold gan; rw [if_pos hu]; omega
    have y1 := bq_nn (v p)
    have y2 := bq_nn (v k)
    have y3 := bq_nn (v q)
    rw [z1, z2]
    omega
  · have hE0 : 0 < E := by omega
    have hF0 : 0 < F := by omega
    have hEE := Int.mul_pos hE0 hE0
    have hFF := Int.mul_pos hF0 hF0
    obtain ⟨t1, g1, g2, g3⟩ := gan_mul (u := u) (w := w k) (d := d) (a := E) (b := F) hu (by omega)
    obtain ⟨t2, g4, g5, g6⟩ := gan_mul (u := u) (w := w k) (d := d) (a := F) (b := E) hu (by omega)
    have c1 : F * F + E * E = E * E + F * F := Int.add_comm _ _
    rw [c1] at g4 g6
    have x1 : E - s = w p := by omega
    have x2 : F - (w k - s) = w q := by omega
    rw [← hE, ← hF] at n1 n2 n3 n4 n5
    refine bq_lift (E := E) (F := F) (w := w k) (x := w k - s) (y := s) (b := v k) (d := d) (s1 := t1) (s2 := t2) (ρ := ρ) (by omega) e2 r0 r1 (by omega) (by omega) ?_ ?_ ⟨g2, g3⟩ ⟨g5, g6⟩ (by rw [x1, x2]; exact n1) (by rw [x1, x2]; exact n2) (by rw [x1, x2]; exact n3) n4 n5
    · rw [ha, Int.mul_add, g1]; omega
    · rw [hc, Int.mul_add, g4]; omega
theorem pt_lft {l f : Nat → Int} {k p q m : Nat} {A B : Int} (hp : l p = -1) (hq : l q = -1) (j : Nat) : pt (updi l k m) (updi (updi f p A) q B) j = updi (updi (updi (pt l f) p A) q B) k 0 j := by
  unfold pt
  by_cases z1 : j = k
  · subst z1; rw [updi_at, updi_at, if_neg (by omega)]
  · rw [updi_o z1, updi_o z1]
    by_cases z2 : j = q
    · subst z2; rw [updi_at, updi_at, if_pos hq]
    · rw [updi_o z2, updi_o z2]
      by_cases z3 : j = p
      · subst z3; rw [updi_at, updi_at, if_pos hp]
      · rw [updi_o z3, updi_o z3]
theorem sq_lft {v : Nat → Int} {p q : Nat} {A B : Int} : (fun j => updi (updi v p A) q B j * updi (updi v p A) q B j) = updi (updi (fun j => v j * v j) p (A * A)) q (B * B) := by
  funext j
  by_cases z2 : j = q
  · subst z2; rw [updi_at, updi_at]
  · rw [updi_o z2, updi_o z2]
    by_cases z3 : j = p
    · subst z3; rw [updi_at, updi_at]
    · rw [updi_o z3, updi_o z3]
theorem pt_nn0 {N : Nat} {l f : Nat → Int} (h : ∀ j, j < N → l j = -1 → 0 ≤ f j) : ∀ j, j < N → 0 ≤ pt l f j := fun j hj => by
  unfold pt
  split
  · rename_i z; exact h j hj z
  · exact Int.le_refl 0
/-- what a pass's state says of one lift -/
theorem PIV.geo {N : Nat} {P : Nat → Int} {r : Int} {v w l dt : Nat → Int} {m k p q : Nat} (hP : PLI N P) (hX : PIV N P r (v, w, l, dt, m)) (hk : l k = -1) (hp : LN l k p) (hq : RN N l k q) : (P p < P k ∧ P k < P q) ∧ (1 ≤ w k ∧ 1 ≤ w p ∧ 1 ≤ w q ∧ w p + w k + w q ≤ 20000) ∧ (r = 2 → w k = P q - P p ∧ P k - P p ≤ w p ∧ P q - P k ≤ w q) := by
  obtain ⟨⟨a1, a2⟩, b, c, g, f⟩ := hX
  have a1 : l 0 = -1 := a1
  have a2 : l (N - 1) = -1 := a2
  have b : ∀ k, k < N → l k = -1 → 1 ≤ w k := b
  have c : fsum N (pt l w) ≤ 20000 := c
  have p1 := hp.1
  have p2 := hp.2.1
  have q1 := hq.1.1
  have q0 := hq.1.2
  have q2 := hq.2.1
  have px : P p < P k := hP.lt p1 (by omega)
  have py : P k < P q := hP.lt q1 q0
  have t3 := fsum_three (k := k) (p := p) (q := q) (pt_nn0 (f := w) (fun j hj z => by have := b j hj z; omega)) (by omega) (by omega) (by omega) (by omega) (by omega) (by omega)
  have z1 : pt l w k = w k := by unfold pt; rw [if_pos hk]
  have z2 : pt l w p = w p := by unfold pt; rw [if_pos p2]
  have z3 : pt l w q = w q := by unfold pt; rw [if_pos q2]
  refine ⟨⟨px, py⟩, ⟨b k (by omega) hk, b p (by omega) p2, b q (by omega) q2, by omega⟩, fun h2 => ?_⟩
  have G : GEO N P l w := g h2
  refine ⟨G k p q (by omega) hk (Or.inl hp) (Or.inl hq), ?_, ?_⟩
  · have hpk : RN N l p k := ⟨⟨p1, by omega⟩, hk, hp.2.2⟩
    by_cases z : p = 0
    · have y := G p 0 k (by omega) p2 (Or.inr ⟨z, rfl⟩) (Or.inl hpk)
      rw [z] at y ⊢
      omega
    · obtain ⟨o, ho⟩ := LN.ex a1 p (by omega)
      have y := G p o k (by omega) p2 (Or.inl ho) (Or.inl hpk)
      have y2 := hP.lt ho.1 (by omega)
      omega
  · have hqk : LN l q k := ⟨q1, hk, hq.2.2⟩
    by_cases z : q = N - 1
    · have y := G q k (N - 1) q0 q2 (Or.inl hqk) (Or.inr ⟨z, rfl⟩)
      rw [← z] at y
      omega
    · obtain ⟨o, ho⟩ := RN.ex a2 (N - 1 - q) q (by omega) (by omega)
      have y := G q k o q0 q2 (Or.inl hqk) (Or.inl ho)
      have y2 := hP.lt ho.1.1 ho.1.2
      omega
theorem PIV.lift {N : Nat} {P : Nat → Int} {r u : Int} {v w l dt : Nat → Int} {m k p q : Nat} (hP : PLI N P) (hr : r = 0 ∨ r = 1 ∨ r = 2) (hX : PIV N P r (v, w, l, dt, m)) (hk : l k = -1) (hp : LN l k p) (hq : RN N l k q) : PIV N P r (lft P r u (v, w, l, dt, m) k p q) := by
  obtain ⟨⟨px, py⟩, ⟨wk, wp, wq, ws⟩, gg⟩ := hX.geo hP hk hp hq
  obtain ⟨s, -, es, ⟨s0, s1⟩, -⟩ := lft_num (v := v) hr px py wk wp wq gg
  obtain ⟨E, hE⟩ : ∃ E, E = w p + shr P w r k p q := ⟨_, rfl⟩
  obtain ⟨F, hF⟩ : ∃ F, F = w q + w k - shr P w r k p q := ⟨_, rfl⟩
  obtain ⟨d, hd⟩ : ∃ d, d = v k - prd P v r k p q := ⟨_, rfl⟩
  obtain ⟨a', ha⟩ : ∃ z, z = v p + gan u (w k) d E F := ⟨_, rfl⟩
  obtain ⟨c', hc⟩ : ∃ z, z = v q + gan u (w k) d F E := ⟨_, rfl⟩
  have hsq := lft_sq hr px py wk wp wq gg hE hF hd ha hc
  have tX : lft P r u (v, w, l, dt, m) k p q = (updi (updi v p a') q c', updi (updi w p E) q F, updi l k m, updi dt m d, m + 1) := by
    rw [ha, hc, hd, hE, hF]; rfl
  rw [tX]
  obtain ⟨⟨a1, a2⟩, b, c, g, f⟩ := hX
  have a1 : l 0 = -1 := a1
  have a2 : l (N - 1) = -1 := a2
  have b : ∀ k, k < N → l k = -1 → 1 ≤ w k := b
  have c : fsum N (pt l w) ≤ 20000 := c
  have f : fsum N (pt l (fun k => v k * v k)) ≤ qbd m := f
  have p1 := hp.1
  have p2 := hp.2.1
  have q1 := hq.1.1
  have q0 := hq.1.2
  have q2 := hq.2.1
  have L' : ∀ j, j ≠ k → updi l k (m : Int) j = l j := fun j h => updi_o h
  have Lk : ∀ j, updi l k (m : Int) j = -1 → j ≠ k := fun j h z => by rw [z, updi_at] at h; omega
  rw [es] at hE hF
  refine ⟨⟨?_, ?_⟩, fun j hj hjl => ?_, ?_, fun h2 => ?_, ?_⟩
  · show updi l k (m : Int) 0 = -1
    rw [L' 0 (by omega)]; exact a1
  · show updi l k (m : Int) (N - 1) = -1
    rw [L' (N - 1) (by omega)]; exact a2
  · have hjl : updi l k (m : Int) j = -1 := hjl
    have hj2 : l j = -1 := by rw [← L' j (Lk j hjl)]; exact hjl
    show 1 ≤ updi (updi w p E) q F j
    by_cases z : j = q
    · rw [z, updi_at]; omega
    · rw [updi_o z]
      by_cases y : j = p
      · rw [y, updi_at]; omega
      · rw [updi_o y]; exact b j hj hj2
  · show fsum N (pt (updi l k (m : Int)) (updi (updi w p E) q F)) ≤ 20000
    rw [fsum_congr (fun j _ => pt_lft p2 q2 j), fsum_upd (by omega), fsum_upd (by omega), fsum_upd (by omega), updi_o (show k ≠ q by omega), updi_o (show k ≠ p by omega), updi_o (show q ≠ p by omega)]
    have z1 : pt l w k = w k := by unfold pt; rw [if_pos hk]
    have z2 : pt l w p = w p := by unfold pt; rw [if_pos p2]
    have z3 : pt l w q = w q := by unfold pt; rw [if_pos q2]
    omega
  · have G : GEO N P l w := g h2
    have sv : s = P q - P k := by
      rw [← es]
      subst h2
      unfold shr
      rw [if_pos rfl, (gg rfl).1]
      exact Int.mul_ediv_cancel_left _ (by omega)
    intro j lo hi hj hjl hlo hhi
    have hjl : updi l k (m : Int) j = -1 := hjl
    have hlo : LO (updi l k (m : Int)) j lo := hlo
    have hhi : HI N (updi l k (m : Int)) j hi := hhi
    have hjk := Lk j hjl
    have hj2 : l j = -1 := by rw [← L' j hjk]; exact hjl
    have hw := (gg h2).1
    show updi (updi w p E) q F j = P hi - P lo
    have out : ∀ i, l i ≠ -1 → updi l k (m : Int) i ≠ -1 := fun i h z => h (by rw [← L' i (Lk i z)]; exact z)
    by_cases z : j = q
    · rw [z, updi_at]
      have e1 : lo = p := by
        rcases hlo with h | ⟨h, -⟩
        · rw [z] at h
          refine h.one ⟨by omega, by rw [L' p (by omega)]; exact p2, fun i h1 h3 => ?_⟩
          by_cases y : i = k
          · rw [y, updi_at]; omega
          · rcases Nat.lt_or_gt_of_ne y with y1 | y1
            · exact out i (hp.2.2 i h1 y1)
            · exact out i (hq.2.2 i y1 h3)
        · omega
      have e2 : HI N l q hi := by
        rw [z] at hhi
        rcases hhi with h | h
        · refine Or.inl ⟨h.1, ?_, fun i h1 h3 => ?_⟩
          · rw [← L' hi (Lk hi h.2.1)]; exact h.2.1
          · rw [← L' i (by omega)]; exact h.2.2 i h1 h3
        · exact Or.inr h
      have y := G q k hi q0 q2 (Or.inl ⟨q1, hk, hq.2.2⟩) e2
      rw [e1]
      omega
    · by_cases y : j = p
      · rw [updi_o z, y, updi_at]
        have e1 : hi = q := by
          rcases hhi with h | ⟨h, -⟩
          · rw [y] at h
            refine h.one ⟨⟨by omega, q0⟩, by rw [L' q (by omega)]; exact q2, fun i h1 h3 => ?_⟩
            by_cases x : i = k
            · rw [x, updi_at]; omega
            · rcases Nat.lt_or_gt_of_ne x with y1 | y1
              · exact out i (hp.2.2 i h1 y1)
              · exact out i (hq.2.2 i y1 h3)
          · omega
        have e2 : LO l p lo := by
          rw [y] at hlo
          rcases hlo with h | h
          · refine Or.inl ⟨h.1, ?_, fun i h1 h3 => ?_⟩
            · rw [← L' lo (Lk lo h.2.1)]; exact h.2.1
            · rw [← L' i (by omega)]; exact h.2.2 i h1 h3
          · exact Or.inr h
        have x := G p lo k (by omega) p2 e2 (Or.inl ⟨⟨p1, by omega⟩, hk, hp.2.2⟩)
        rw [e1]
        omega
      · rw [updi_o z, updi_o y]
        refine G j lo hi hj hj2 ?_ ?_
        · rcases hlo with h | h
          · refine Or.inl ⟨h.1, ?_, fun i h1 h3 => ?_⟩
            · rw [← L' lo (Lk lo h.2.1)]; exact h.2.1
            · by_cases x : i = k
              · exfalso
                rcases Nat.lt_trichotomy q j with t | t | t
                · exact h.2.2 q (by omega) t (by rw [L' q (by omega)]; exact q2)
                · exact z t.symm
                · exact hq.2.2 j (by omega) t hj2
              · rw [← L' i x]; exact h.2.2 i h1 h3
          · exact Or.inr h
        · rcases hhi with h | h
          · refine Or.inl ⟨h.1, ?_, fun i h1 h3 => ?_⟩
            · rw [← L' hi (Lk hi h.2.1)]; exact h.2.1
            · by_cases x : i = k
              · exfalso
                rcases Nat.lt_trichotomy p j with t | t | t
                · exact hp.2.2 j t (by omega) hj2
                · exact y t.symm
                · exact h.2.2 p t (by omega) (by rw [L' p (by omega)]; exact p2)
              · rw [← L' i x]; exact h.2.2 i h1 h3
          · exact Or.inr h
  · show fsum N (pt (updi l k (m : Int)) (fun j => updi (updi v p a') q c' j * updi (updi v p a') q c' j)) ≤ (195 * qbd m + 16640) / 128 + 1
    rw [sq_lft, fsum_congr (fun j _ => pt_lft p2 q2 j), fsum_upd (by omega), fsum_upd (by omega), fsum_upd (by omega), updi_o (show k ≠ q by omega), updi_o (show k ≠ p by omega), updi_o (show q ≠ p by omega)]
    have t3 := fsum_three (N := N) (k := k) (p := p) (q := q) (pt_nn0 (l := l) (f := fun k => v k * v k) (fun j _ _ => bq_nn (v j))) (by omega) (by omega) (by omega) (by omega) (by omega) (by omega)
    have z1 : pt l (fun k => v k * v k) k = v k * v k := by unfold pt; rw [if_pos hk]
    have z2 : pt l (fun k => v k * v k) p = v p * v p := by unfold pt; rw [if_pos p2]
    have z3 : pt l (fun k => v k * v k) q = v q * v q := by unfold pt; rw [if_pos q2]
    omega
/-- values and details of a pass are small -/
theorem PIV.small {N : Nat} {P : Nat → Int} {r : Int} {v w l dt : Nat → Int} {m k : Nat} (hX : PIV N P r (v, w, l, dt, m)) (hm : m ≤ 46) (hk : k < N) (h1 : l k = -1) : -1114000000 ≤ v k ∧ v k ≤ 1114000000 := by
  obtain ⟨-, -, -, -, f⟩ := hX
  have f : fsum N (pt l (fun k => v k * v k)) ≤ qbd m := f
  have t := fsum_one (k := k) (pt_nn0 (N := N) (l := l) (f := fun k => v k * v k) (fun j _ _ => bq_nn (v j))) hk
  have z1 : pt l (fun k => v k * v k) k = v k * v k := by unfold pt; rw [if_pos h1]
  have q := qbd_le hm
  have q2 := qbd_46
  exact sq_small (b := 1114000000) (by omega) (by omega)
/-! Which sample is chosen; the pass; the bits. -/
def ntzF : Nat → Nat → Nat
  | 0, _ => 0
  | n + 1, k => if k % 2 = 0 then ntzF n (k / 2) + 1 else 0
/-- what is compared: s = 0 span, 1 dyadic, else the detail's amount -/
def cst (P : Nat → Int) (s r : Int) (X : Ps) (k p q : Nat) : Int := if s = 0 then P q - P p else if s = 1 then (ntzF 8 k : Nat) else if dtl P r X k p q < 0 then -dtl P r X k p q else dtl P r X k p q
def inr (N : Nat) (X : Ps) (k : Nat) : Prop := 0 < k ∧ k + 1 < N ∧ X.2.2.1 k = -1
def CO (N : Nat) (P : Nat → Int) (s r : Int) (X : Ps) (k : Nat) (c : Int) : Prop := ∃ p q, LN X.2.2.1 k p ∧ RN N X.2.2.1 k q ∧ c = cst P s r X k p q
theorem CO.one {N : Nat} {P : Nat → Int} {s r : Int} {X : Ps} {k : Nat} {c c' : Int} (h : CO N P s r X k c) (g : CO N P s r X k c') : c = c' := by
  obtain ⟨p, q, h1, h2, h3⟩ := h
  obtain ⟨p', q', g1, g2, g3⟩ := g
  rw [h3, g3, h1.one g1, h2.one g2]
/-- k is the one -/
def CHk (N : Nat) (P : Nat → Int) (le s r : Int) (X : Ps) (k : Nat) : Prop := le < N - X.2.2.2.2 ∧ inr N X k ∧ ∃ c, CO N P s r X k c ∧ ∀ j, inr N X j → ∀ c', CO N P s r X j c' → c ≤ c' ∧ (j < k → c < c')
/-- there is none -/
def CH0 (N : Nat) (le : Int) (X : Ps) : Prop := (N : Int) - X.2.2.2.2 ≤ le ∨ ∀ k, ¬ inr N X k
theorem CHk.one {N : Nat} {P : Nat → Int} {le s r : Int} {X : Ps} {k k' : Nat} (h : CHk N P le s r X k) (g : CHk N P le s r X k') : k = k' := by
  obtain ⟨-, h1, c, h2, h3⟩ := h
  obtain ⟨-, g1, c', g2, g3⟩ := g
  have a := h3 k' g1 c' g2
  have b := g3 k h1 c h2
  rcases Nat.lt_trichotomy k k' with z | z | z
  · have := b.2 z; omega
  · exact z
  · have := a.2 z; omega
theorem CHk.not {N : Nat} {P : Nat → Int} {le s r : Int} {X : Ps} {k : Nat} (h : CHk N P le s r X k) : ¬ CH0 N le X := fun g => by
  rcases g with g | g
  · have := h.1; omega
  · exact g k h.2.1
def Rn (N : Nat) (P : Nat → Int) (le s r u : Int) : Nat → Ps → Ps → Prop
  | 0, X, Y => Y = X
  | n + 1, X, Y => ∃ Z, Rn N P le s r u n X Z ∧ ∃ k p q, CHk N P le s r Z k ∧ LN Z.2.2.1 k p ∧ RN N Z.2.2.1 k q ∧ Y = lft P r u Z k p q
theorem Rn.one {N : Nat} {P : Nat → Int} {le s r u : Int} {n : Nat} {X Y Y' : Ps} (h : Rn N P le s r u n X Y) (g : Rn N P le s r u n X Y') : Y = Y' := by
  induction n generalizing Y Y' with
  | zero => exact (show Y = X from h).trans (show Y' = X from g).symm
  | succ n ih =>
    obtain ⟨Z, h0, k, p, q, h1, h2, h3, h4⟩ := h
    obtain ⟨Z', g0, k', p', q', g1, g2, g3, g4⟩ := g
    obtain rfl := ih h0 g0
    obtain rfl := h1.one g1
    obtain rfl := h2.one g2
    obtain rfl := h3.one g3
    rw [h4, g4]
theorem Rn.on {N : Nat} {P : Nat → Int} {le s r u : Int} {n d : Nat} {X Y Z : Ps} (h : Rn N P le s r u n X Y) (g : Rn N P le s r u (n + 1 + d) X Z) : ∃ k, CHk N P le s r Y k := by
  induction d generalizing Z with
  | zero =>
    obtain ⟨W, g0, k, p, q, g1, -⟩ := g
    rw [h.one g0]
    exact ⟨k, g1⟩
  | succ d ih =>
    obtain ⟨W, g0, -⟩ := g
    exact ih g0
/-- the whole pass -/
def Run (N : Nat) (P : Nat → Int) (le s r u : Int) (X Y : Ps) : Prop := ∃ n, n ≤ 46 ∧ Rn N P le s r u n X Y ∧ (n = 46 ∨ CH0 N le Y)
theorem Run.one {N : Nat} {P : Nat → Int} {le s r u : Int} {X Y Y' : Ps} (h : Run N P le s r u X Y) (g : Run N P le s r u X Y') : Y = Y' := by
  obtain ⟨n, h1, h2, h3⟩ := h
  obtain ⟨n', g1, g2, g3⟩ := g
  rcases Nat.lt_trichotomy n n' with z | z | z
  · exfalso
    obtain ⟨k, hk⟩ := h2.on (d := n' - n - 1) (by rw [show n + 1 + (n' - n - 1) = n' by omega]; exact g2)
    rcases h3 with h3 | h3
    · omega
    · exact hk.not h3
  · subst z; exact h2.one g2
  · exfalso
    obtain ⟨k, hk⟩ := g2.on (d := n - n' - 1) (by rw [show n' + 1 + (n - n' - 1) = n by omega]; exact h2)
    rcases g3 with g3 | g3
    · omega
    · exact hk.not g3
/-- the start -/
def ini (N : Nat) (P V : Nat → Int) : Ps := (V, fun k => (if k = N - 1 then P k else P (k + 1)) - (if k = 0 then P 0 else P (k - 1)), fun _ => -1, fun _ => 0, 0)
def blen (x : Nat) : Nat := if x = 0 then 0 else Nat.log2 x + 1
def bsum (X : Ps) : Int := fsum X.2.2.2.2 (fun j => 1 + (blen (X.2.2.2.1 j).natAbs : Nat))
theorem fsum_bd {N : Nat} {f : Nat → Int} {B : Int} (h : ∀ k, k < N → f k ≤ B) : fsum N f ≤ N * B := by
  induction N with
  | zero => rw [fsum]; omega
  | succ n ih =>
    have a := ih (fun k hk => h k (by omega))
    have b := h n (by omega)
    rw [fsum, show ((n + 1 : Nat) : Int) * B = n * B + B by rw [Int.natCast_add, Int.add_mul]; omega]
    omega
theorem PIV.base {N : Nat} {P V : Nat → Int} {r : Int} (hN : 2 ≤ N ∧ N ≤ 48) (hP : PLI N P) (hV : ∀ k, k < N → -9999 ≤ V k ∧ V k ≤ 9999) : PIV N P r (ini N P V) := by
  have wd : ∀ k, (ini N P V).2.1 k = (if k = N - 1 then P k else P (k + 1)) - (if k = 0 then P 0 else P (k - 1)) := fun _ => rfl
  have e1 : fsum N (pt (ini N P V).2.2.1 (ini N P V).2.1) = fsum N (ini N P V).2.1 := fsum_congr (fun k _ => by unfold pt; rw [if_pos (show (ini N P V).2.2.1 k = -1 from rfl)])
  have e2 : fsum N (pt (ini N P V).2.2.1 (fun k => (ini N P V).1 k * (ini N P V).1 k)) = fsum N (fun k => V k * V k) := fsum_congr (fun k _ => by unfold pt; rw [if_pos (show (ini N P V).2.2.1 k = -1 from rfl)]; rfl)
  refine ⟨⟨rfl, rfl⟩, fun k hk _ => ?_, ?_, fun _ => ?_, ?_⟩
  · rw [wd]
    by_cases e0 : k = 0
    · subst e0
      rw [if_neg (by omega), if_pos rfl]
      have := hP.lt (i := 0) (j := 1) (by omega) (by omega)
      show 1 ≤ P 1 - P 0
      omega
    · rw [if_neg e0]
      by_cases e1 : k = N - 1
      · rw [if_pos e1]; have := hP.lt (i := k - 1) (j := k) (by omega) hk; omega
      · rw [if_neg e1]; have := hP.lt (i := k - 1) (j := k + 1) (by omega) (by omega); omega
  · rw [e1]
    have hs : ∀ M : Nat, M + 1 < N → fsum (M + 1) (ini N P V).2.1 = P (M + 1) + P M - 2 * P 0 := by
      intro M
      induction M with
      | zero =>
        intro hM
        rw [fsum, fsum, wd, if_neg (by omega), if_pos rfl]; omega
      | succ M ih =>
        intro hM
        rw [fsum, ih (by omega), wd, if_neg (by omega), if_neg (by omega), show M + 1 - 1 = M by omega]; omega
    obtain ⟨M, rfl⟩ : ∃ M, N = M + 1 + 1 := ⟨N - 2, by omega⟩
    rw [fsum, hs M (by omega), wd, if_pos (by omega), if_neg (by omega), show M + 1 - 1 = M by omega]
    have := (hP (M + 1) (by omega)).1
    have := (hP 0 (by omega)).1
    omega
  · intro k p q hk _ hp hq
    rw [wd]
    have ep : k ≠ 0 → p = k - 1 := fun h0 => by
      rcases hp with ⟨h1, -, h3⟩ | ⟨h1, -⟩
      · refine Decidable.byContradiction fun z => ?_
        exact h3 (k - 1) (by omega) (by omega) rfl
      · omega
    have eq : k ≠ N - 1 → q = k + 1 := fun h0 => by
      rcases hq with ⟨h1, -, h3⟩ | ⟨h1, -⟩
      · refine Decidable.byContradiction fun z => ?_
        exact h3 (k + 1) (by omega) (by omega) rfl
      · omega
    have ep0 : k = 0 → p = 0 := fun h0 => by
      rcases hp with ⟨h1, -, -⟩ | ⟨-, h1⟩
      · omega
      · exact h1
    have eq0 : k = N - 1 → q = N - 1 := fun h0 => by
      rcases hq with ⟨⟨h1, h2⟩, -, -⟩ | ⟨-, h1⟩
      · omega
      · exact h1
    by_cases e0 : k = 0
    · rw [if_pos e0, ep0 e0]
      by_cases e1 : k = N - 1
      · omega
      · rw [if_neg e1, eq e1]
    · rw [if_neg e0, ep e0]
      by_cases e1 : k = N - 1
      · rw [if_pos e1, eq0 e1, e1]
      · rw [if_neg e1, eq e1]
  · rw [e2]
    have b := fsum_bd (N := N) (f := fun k => V k * V k) (B := 99980001) (fun k hk => by
      obtain ⟨h1, h2⟩ := hV k hk
      exact bq_abs (S := 9999) h2 (by omega))
    show fsum N (fun k => V k * V k) ≤ 4800000000
    have c : (N : Int) * 99980001 ≤ 48 * 99980001 := by omega
    omega
/-- rounded down, between 0 and the whole -/
theorem ediv_in {z x D : Int} (h0 : 0 ≤ x) (h1 : x ≤ D) (h2 : 0 < D) : (0 ≤ z → 0 ≤ z * x / D ∧ z * x / D ≤ z) ∧ (z ≤ 0 → z ≤ z * x / D ∧ z * x / D ≤ 0) := by
  refine ⟨fun h => ⟨Int.ediv_nonneg (Int.mul_nonneg h h0) (by omega), ?_⟩, fun h => ⟨?_, ?_⟩⟩
  · have a := Int.mul_le_mul_of_nonneg_left h1 h
    have b := Int.ediv_le_ediv h2 a
    rw [Int.mul_ediv_cancel _ (by omega)] at b
    exact b
  · have a := Int.mul_le_mul_of_nonpos_left h h1
    have b := Int.ediv_le_ediv h2 a
    rw [Int.mul_ediv_cancel _ (by omega)] at b
    exact b
  · have a := Int.mul_nonpos_of_nonpos_of_nonneg h h0
    have b := Int.ediv_le_ediv h2 a
    rw [Int.zero_ediv] at b
    exact b
theorem prd_in {P v : Nat → Int} {r : Int} {k p q : Nat} {B : Int} (hx : P p < P k) (hy : P k < P q) (h1 : -B ≤ v p ∧ v p ≤ B) (h2 : -B ≤ v q ∧ v q ≤ B) : -B ≤ prd P v r k p q ∧ prd P v r k p q ≤ B := by
  unfold prd
  split
  · exact h1
  · split
    · have e := ediv_in (z := v q - v p) (x := P k - P p) (D := P q - P p) (by omega) (by omega) (by omega)
      rcases Int.le_total 0 (v q - v p) with z | z
      · have := e.1 z; omega
      · have := e.2 z; omega
    · exact h2
/-- the details of a pass -/
theorem PIV.det {N : Nat} {P : Nat → Int} {r : Int} {v w l dt : Nat → Int} {m k p q : Nat} (hP : PLI N P) (hX : PIV N P r (v, w, l, dt, m)) (hm : m ≤ 46) (hk : l k = -1) (hp : LN l k p) (hq : RN N l k q) : -2228000000 ≤ dtl P r (v, w, l, dt, m) k p q ∧ dtl P r (v, w, l, dt, m) k p q ≤ 2228000000 := by
  have g := (hX.geo hP hk hp hq).1
  have q1 := hq.1.1
  have q0 := hq.1.2
  have p1 := hp.1
  have b1 := hX.small hm (k := k) (by omega) hk
  have b2 := hX.small hm (k := p) (by omega) hp.2.1
  have b3 := hX.small hm (k := q) q0 hq.2.1
  have c := prd_in (v := v) (r := r) g.1 g.2 (B := 1114000000) b2 b3
  show -2228000000 ≤ v k - prd P v r k p q ∧ v k - prd P v r k p q ≤ 2228000000
  omega
theorem Rn.piv {N : Nat} {P V : Nat → Int} {le s r u : Int} (hN : 2 ≤ N ∧ N ≤ 48) (hP : PLI N P) (hr : r = 0 ∨ r = 1 ∨ r = 2) (hV : ∀ k, k < N → -9999 ≤ V k ∧ V k ≤ 9999) {n : Nat} {Y : Ps} (h : Rn N P le s r u n (ini N P V) Y) : PIV N P r Y ∧ Y.2.2.2.2 = n := by
  induction n generalizing Y with
  | zero =>
    have h : Y = ini N P V := h
    rw [h]
    exact ⟨PIV.base hN hP hV, rfl⟩
  | succ n ih =>
    obtain ⟨⟨v, w, l, dt, m⟩, h0, k, p, q, h1, h2, h3, h4⟩ := h
    obtain ⟨i1, i2⟩ := ih h0
    have i2 : m = n := i2
    rw [h4]
    refine ⟨i1.lift hP hr h1.2.1.2.2 h2 h3, ?_⟩
    show m + 1 = n + 1
    omega
