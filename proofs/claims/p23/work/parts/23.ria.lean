/-! The reference's row of numbers: what every state of it keeps. The steps are a stack: each was made by a lift from the state that its own record says. -/
def updi (f : Nat → Int) (k : Nat) (v : Int) : Nat → Int := fun j => if j = k then v else f j
theorem updi_at {f : Nat → Int} {k : Nat} {v : Int} : updi f k v k = v := by simp [updi]
theorem updi_o {f : Nat → Int} {k j : Nat} {v : Int} (h : j ≠ k) : updi f k v j = f j := by simp [updi, h]
def fsum (N : Nat) (f : Nat → Int) : Int := match N with
  | 0 => 0
  | n + 1 => fsum n f + f n
theorem fsum_congr {N : Nat} {f g : Nat → Int} (h : ∀ k, k < N → f k = g k) : fsum N f = fsum N g := by
  induction N with
  | zero => rfl
  | succ n ih => rw [fsum, fsum, ih (fun k hk => h k (by omega)), h n (by omega)]
theorem fsum_upd {N : Nat} {f : Nat → Int} {k : Nat} {v : Int} (h : k < N) : fsum N (updi f k v) = fsum N f - f k + v := by
  induction N with
  | zero => omega
  | succ n ih =>
    rw [fsum, fsum]
    by_cases e : k = n
    · subst e
      rw [updi_at, fsum_congr (g := f) (fun j hj => updi_o (by omega))]; omega
    · rw [ih (by omega), updi_o (by omega)]; omega
theorem fsum_ge {N : Nat} {f : Nat → Int} (h : ∀ k, k < N → 0 ≤ f k) : 0 ≤ fsum N f := by
  induction N with
  | zero => exact Int.le_refl 0
  | succ n ih => have := ih (fun k hk => h k (by omega)); have := h n (by omega); rw [fsum]; omega
theorem fsum_one {N k : Nat} {f : Nat → Int} (h : ∀ j, j < N → 0 ≤ f j) (hk : k < N) : f k ≤ fsum N f := by
  induction N with
  | zero => omega
  | succ n ih =>
    rw [fsum]
    have h1 := fsum_ge (N := n) (fun j hj => h j (by omega))
    by_cases e : k = n
    · subst e; omega
    · have := ih (fun j hj => h j (by omega)) (by omega); have := h n (by omega); omega
theorem fsum_two {N k p : Nat} {f : Nat → Int} (h : ∀ j, j < N → 0 ≤ f j) (hk : k < N) (hp : p < N) (hn : k ≠ p) : f k + f p ≤ fsum N f := by
  have q := fsum_upd (f := f) (v := 0) hk
  have q2 := fsum_one (N := N) (k := p) (f := updi f k 0) (fun j hj => by
    by_cases e : j = k
    · subst e; rw [updi_at]; exact Int.le_refl 0
    · rw [updi_o e]; exact h j hj) hp
  rw [updi_o (by omega)] at q2
  omega
theorem fsum_le {N M : Nat} {f : Nat → Int} (h : ∀ j, j < N → 0 ≤ f j) (hM : M ≤ N) : fsum M f ≤ fsum N f := by
  induction N with
  | zero => have : M = 0 := by omega
            subst this; exact Int.le_refl _
  | succ n ih =>
    by_cases e : M = n + 1
    · subst e; exact Int.le_refl _
    · have := ih (fun j hj => h j (by omega)) (by omega); have := h n (by omega); rw [fsum]; omega
def pt (lf wt : Nat → Int) : Nat → Int := fun k => if lf k = -1 then wt k else 0
def ct (lf : Nat → Int) : Nat → Int := fun k => if lf k = -1 then 0 else 1
def rlf (w : Nat → Int64) (k : Nat) : Int := (w (101 + k)).toInt
def rwt (w : Nat → Int64) (k : Nat) : Int := (w (53 + k)).toInt
def rst (w : Nat → Int64) (i j : Nat) : Int := (w (149 + 10 * i + j)).toInt
def Stk (N : Nat) (w : Nat → Int64) : Nat → (Nat → Int) → (Nat → Int) → Prop
  | 0, lf, wt => (∀ k, k < N → lf k = -1) ∧ (∀ k, k < N → 1 ≤ wt k) ∧ fsum N (pt lf wt) ≤ 20000
  | i + 1, lf, wt => ∃ k p q : Nat, (p < k ∧ k < q ∧ q < N) ∧ (rst w i 0 = k ∧ rst w i 1 = p ∧ rst w i 2 = q) ∧ (lf k = i ∧ lf p = -1 ∧ lf q = -1) ∧ (1 ≤ rst w i 4 ∧ 0 ≤ rst w i 5 ∧ rst w i 5 ≤ rst w i 4 ∧ 1 ≤ rst w i 6 ∧ 1 ≤ rst w i 7) ∧ (wt p = rst w i 6 + rst w i 5 ∧ wt q = rst w i 7 + rst w i 4 - rst w i 5) ∧ Stk N w i (updi lf k (-1)) (updi (updi (updi wt p (rst w i 6)) q (rst w i 7)) k (rst w i 4))
theorem Stk.congr {N n : Nat} {w w' : Nat → Int64} {lf wt lf' wt' : Nat → Int} (h : Stk N w n lf wt) (h1 : ∀ k, k < N → lf' k = lf k) (h2 : ∀ k, k < N → wt' k = wt k) (h3 : ∀ i j, i < n → (j = 0 ∨ j = 1 ∨ j = 2 ∨ j = 4 ∨ j = 5 ∨ j = 6 ∨ j = 7) → rst w' i j = rst w i j) : Stk N w' n lf' wt' := by
  induction n generalizing lf wt lf' wt' with
  | zero =>
    obtain ⟨a, b, c⟩ := h
    refine ⟨fun k hk => (h1 k hk).trans (a k hk), fun k hk => by rw [h2 k hk]; exact b k hk, ?_⟩
    rw [fsum_congr (g := pt lf wt) (fun k hk => by unfold pt; rw [h1 k hk, h2 k hk])]; exact c
  | succ n ih =>
    obtain ⟨k, p, q, ⟨a1, a2, a3⟩, ⟨b1, b2, b3⟩, ⟨c1, c2, c3⟩, ⟨d1, d2, d3, d4, d5⟩, ⟨e1, e2⟩, g⟩ := h
    have r : ∀ j, (j = 0 ∨ j = 1 ∨ j = 2 ∨ j = 4 ∨ j = 5 ∨ j = 6 ∨ j = 7) → rst w' n j = rst w n j := fun j hj => h3 n j (by omega) hj
    have r0 := r 0 (by decide); have r1 := r 1 (by decide); have r2 := r 2 (by decide); have r4 := r 4 (by decide); have r5 := r 5 (by decide); have r6 := r 6 (by decide); have r7 := r 7 (by decide)
    refine ⟨k, p, q, ⟨a1, a2, a3⟩, ⟨by rw [r0, b1], by rw [r1, b2], by rw [r2, b3]⟩, ⟨by rw [h1 k (by omega), c1], by rw [h1 p (by omega), c2], by rw [h1 q (by omega), c3]⟩, ⟨by omega, by omega, by omega, by omega, by omega⟩, ⟨by rw [h2 p (by omega), r6, r5]; exact e1, by rw [h2 q (by omega), r7, r4, r5]; exact e2⟩, ?_⟩
    refine ih g (fun j hj => ?_) (fun j hj => ?_) (fun i j hi hj => h3 i j (by omega) hj)
    · unfold updi; rw [h1 j hj]
    · unfold updi; rw [h2 j hj, r6, r7, r4]
theorem Stk.facts {N n : Nat} {w : Nat → Int64} {lf wt : Nat → Int} (hN : 2 ≤ N) (h : Stk N w n lf wt) : fsum N (pt lf wt) ≤ 20000 ∧ (∀ k, k < N → lf k = -1 → 1 ≤ wt k) ∧ lf 0 = -1 ∧ lf (N - 1) = -1 ∧ (∀ k, k < N → -1 ≤ lf k ∧ lf k < n) ∧ fsum N (ct lf) = n := by
  induction n generalizing lf wt with
  | zero =>
    obtain ⟨a, b, c⟩ := h
    refine ⟨c, fun k hk _ => b k hk, a 0 (by omega), a (N - 1) (by omega), fun k hk => by rw [a k hk]; omega, ?_⟩
    rw [fsum_congr (g := fun _ => 0) (fun k hk => by unfold ct; rw [if_pos (a k hk)])]
    clear a b c hN
    induction N with
    | zero => rfl
    | succ n ih => rw [fsum, ih]; omega
  | succ n ih =>
    obtain ⟨k, p, q, ⟨a1, a2, a3⟩, -, ⟨c1, c2, c3⟩, ⟨d1, d2, d3, d4, d5⟩, ⟨e1, e2⟩, g⟩ := h
    obtain ⟨f1, f2, f3, f4, f5, f6⟩ := ih g
    refine ⟨?_, fun j hj hl => ?_, ?_, ?_, fun j hj => ?_, ?_⟩
    · have e : ∀ j, j < N → pt (updi lf k (-1)) (updi (updi (updi wt p (rst w n 6)) q (rst w n 7)) k (rst w n 4)) j = updi (updi (updi (pt lf wt) p (rst w n 6)) q (rst w n 7)) k (rst w n 4) j := by
        intro j hj
        unfold pt
        by_cases z1 : j = k
        · subst z1; simp [updi]
        · by_cases z2 : j = q
          · subst z2; simp [updi, z1, c3]
          · by_cases z3 : j = p
            · subst z3; simp [updi, z1, z2, c2]
            · simp [updi, z1, z2, z3]
      rw [fsum_congr e, fsum_upd (by omega), fsum_upd (by omega), fsum_upd (by omega)] at f1
      rw [updi_o (by omega), updi_o (by omega), updi_o (by omega)] at f1
      have z1 : pt lf wt k = 0 := by unfold pt; rw [if_neg (by rw [c1]; omega)]
      have z2 : pt lf wt p = wt p := by unfold pt; rw [if_pos c2]
      have z3 : pt lf wt q = wt q := by unfold pt; rw [if_pos c3]
      omega
    · by_cases z1 : j = k
      · subst z1; omega
      · have q1 := f2 j hj (by rw [updi_o z1]; exact hl)
        rw [updi_o z1] at q1
        by_cases z2 : j = q
        · subst z2; omega
        · rw [updi_o z2] at q1
          by_cases z3 : j = p
          · subst z3; omega
          · rw [updi_o z3] at q1; exact q1
    · rw [updi_o (by omega)] at f3; exact f3
    · rw [updi_o (by omega)] at f4; exact f4
    · have q1 := f5 j hj
      by_cases z1 : j = k
      · subst z1; omega
      · rw [updi_o z1] at q1; omega
    · have e : ∀ j, j < N → ct (updi lf k (-1)) j = updi (ct lf) k 0 j := by
        intro j hj
        unfold ct
        by_cases z1 : j = k
        · subst z1; simp [updi]
        · simp [updi, z1]
      rw [fsum_congr e, fsum_upd (by omega)] at f6
      have z1 : ct lf k = 1 := by unfold ct; rw [if_neg (by rw [c1]; omega)]
      omega
/-- a row of numbers that is so -/
def WI (N : Nat) (w : Nat → Int64) : Prop := (2 ≤ N ∧ N ≤ 48) ∧ (0 ≤ (w 4).toInt ∧ (w 4).toInt ≤ 46) ∧ Stk N w (w 4).toInt.toNat (rlf w) (rwt w)
theorem ct_le {N : Nat} {lf : Nat → Int} {k : Nat} (hN : 2 ≤ N) (h0 : lf 0 = -1) (h1 : lf (N - 1) = -1) : fsum N (ct lf) ≤ N - 2 := by
  have hb : ∀ (M : Nat), fsum M (fun _ => (1 : Int)) = M := by
    intro M
    induction M with
    | zero => rfl
    | succ n ih => rw [fsum, ih]; omega
  have hm : ∀ (M : Nat) (f g : Nat → Int), (∀ j, j < M → f j ≤ g j) → fsum M f ≤ fsum M g := by
    intro M f g h
    induction M with
    | zero => exact Int.le_refl _
    | succ n ih => rw [fsum, fsum]; have := ih (fun j hj => h j (by omega)); have := h n (by omega); omega
  have := hm N (ct lf) (updi (updi (fun _ => 1) 0 0) (N - 1) 0) (fun j hj => by
    unfold ct updi
    by_cases z : j = N - 1
    · subst z; rw [if_pos h1]; simp
    · by_cases z0 : j = 0
      · subst z0; rw [if_pos h0]; simp
      · simp [z, z0]; split <;> omega)
  rw [fsum_upd (by omega), fsum_upd (by omega), hb, updi_o (by omega)] at this
  omega
theorem ct_lt {N : Nat} {lf : Nat → Int} {k : Nat} (hN : 2 ≤ N) (h0 : lf 0 = -1) (h1 : lf (N - 1) = -1) (hk : 0 < k) (hk1 : k < N - 1) (h2 : lf k = -1) : fsum N (ct lf) ≤ N - 3 := by
  have q := ct_le (k := 0) (N := N) (lf := updi lf k 0) hN (by rw [updi_o (by omega)]; exact h0) (by rw [updi_o (by omega)]; exact h1)
  have e : ∀ j, j < N → ct (updi lf k 0) j = updi (ct lf) k 1 j := by
    intro j hj
    unfold ct
    by_cases z1 : j = k
    · subst z1; simp [updi]
    · simp [updi, z1]
  rw [fsum_congr e, fsum_upd (by omega)] at q
  have z : ct lf k = 0 := by unfold ct; rw [if_pos h2]
  omega
