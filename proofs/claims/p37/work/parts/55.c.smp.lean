/-! Samples as they are read: places and values. -/
def usP (p : Nat → Int32) (n : Nat) (g : Nat → Int) : Prop := ∀ j, j < n → (p j).toInt = g (10 + 2 * j)
def usO (p : Nat → Int32) (n : Nat) (g : Nat → Int) : Prop := ∀ j, j < n → (p j).toInt = g (11 + 2 * j)
def usB (n : Nat) (g : Nat → Int) : Prop := ∀ j, j < n → -9999 ≤ g (11 + 2 * j) ∧ g (11 + 2 * j) ≤ 9999
section USM
variable {K X : Nat → Nat} {V : Nat → Int} {s n j k : Nat} {g g' : Nat → Int} {p p' : Nat → Int32}
theorem usm_lo (h : k < 10) : usm K X V s n g k = g k := by
  unfold usm
  rw [if_neg (by omega), if_neg (by omega)]
theorem usm_p (h : j < n) : usm K X V s n g (10 + 2 * j) = g (10 + 2 * j) := by
  unfold usm
  rw [if_neg (by omega), if_neg (by omega)]
theorem usm_o (h : j < n) : usm K X V s n g (11 + 2 * j) = g (11 + 2 * j) := by
  unfold usm
  rw [if_neg (by omega), if_neg (by omega)]
theorem usm_np : usm K X V s n g (10 + 2 * n) = V (X s) := by
  unfold usm
  rw [if_pos rfl]
theorem usm_no : usm K X V s n g (11 + 2 * n) = uvq K X V (X s) := by
  unfold usm
  rw [if_neg (by omega), if_pos rfl]
theorem usP.z : usP p 0 g := fun j hj => absurd hj (Nat.not_lt_zero j)
theorem usO.z : usO p 0 g := fun j hj => absurd hj (Nat.not_lt_zero j)
theorem usB.z : usB 0 g := fun j hj => absurd hj (Nat.not_lt_zero j)
theorem usP.cg (h : usP p n g) (e : ∀ j, j < n → p' j = p j) : usP p' n g := fun j hj => by rw [e j hj]; exact h j hj
theorem usO.cg (h : usO p n g) (e : ∀ j, j < n → p' j = p j) : usO p' n g := fun j hj => by rw [e j hj]; exact h j hj
theorem usP.more (h : usP p n g) (e : ∀ j, j < n → p' j = p j) (q : (p' n).toInt = V (X s)) : usP p' (n + 1) (usm K X V s n g) := fun j hj => by
  by_cases c : j = n
  · rw [c, usm_np]; exact q
  · rw [usm_p (by omega), e j (by omega)]; exact h j (by omega)
theorem usO.more (h : usO p n g) (e : ∀ j, j < n → p' j = p j) (q : (p' n).toInt = uvq K X V (X s)) : usO p' (n + 1) (usm K X V s n g) := fun j hj => by
  by_cases c : j = n
  · rw [c, usm_no]; exact q
  · rw [usm_o (by omega), e j (by omega)]; exact h j (by omega)
theorem usB.more (h : usB n g) (q : -9999 ≤ uvq K X V (X s) ∧ uvq K X V (X s) ≤ 9999) : usB (n + 1) (usm K X V s n g) := fun j hj => by
  by_cases c : j = n
  · rw [c, usm_no]; exact q
  · rw [usm_o (by omega)]; exact h j (by omega)
end USM
theorem uvq_b {c : Nat → Int} {L s : Nat} (h : utkK c L (svq (utkK c L) (unxt c L) s) = 2) : -9999 ≤ uvq (utkK c L) (unxt c L) (uvl c L) s ∧ uvq (utkK c L) (unxt c L) (uvl c L) s ≤ 9999 := by
  have b := uvl_b (c := c) (L := L) h
  by_cases e : utkK c L (unxt c L s) = 4
  · rw [show uvq (utkK c L) (unxt c L) (uvl c L) s = -(uvl c L (svq (utkK c L) (unxt c L) s)) from if_pos e]
    omega
  · rw [show uvq (utkK c L) (unxt c L) (uvl c L) s = uvl c L (svq (utkK c L) (unxt c L) s) from if_neg e]
    omega
theorem GSc.lo {σ : Gh} {a : Nat} {g g' : Nat → Int} (h : GSc σ a g) (e : ∀ k, k < 10 → g' k = g k) : GSc σ a g' := by
  unfold GSc at h ⊢
  rw [e 0 (by decide), e 1 (by decide), e 2 (by decide), e 3 (by decide)]
  exact h
theorem GSm.lo {σ : Gh} {a : Nat} {g g' : Nat → Int} (h : GSm σ a g) (e : ∀ k, k < 10 → g' k = g k) : GSm σ a g' := by
  unfold GSm at h ⊢
  rw [e 0 (by decide), e 1 (by decide), e 2 (by decide), e 3 (by decide)]
  exact h
theorem cpy48 {f g : Nat → Int32} {a b n : Int32} {k : Nat} (ha : a.toInt = 0) (hb : b.toInt = 0) (hn : n.toInt = 48) (hk : k < 48) : va_cpy f g (ix a) (ix b) (ix n) k = f k := by
  have e0 : ix a = 0 := by unfold ix; omega
  have e1 : ix b = 0 := by unfold ix; omega
  have e2 : ix n = 48 := by unfold ix; omega
  unfold va_cpy
  rw [e0, e1, e2, if_pos (by omega)]
  congr 1
  omega
