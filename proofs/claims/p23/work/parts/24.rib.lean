/-! The reference's row of numbers: lift, take back, begin; the places; ranks. -/
def rel (j : Nat) : Prop := j = 4 ∨ (53 ≤ j ∧ j < 149) ∨ (149 ≤ j ∧ j < 609 ∧ (j - 149) % 10 ≠ 3 ∧ (j - 149) % 10 < 8)
theorem WI.congr {N : Nat} {w w' : Nat → Int64} (h : WI N w) (e : ∀ j, rel j → w' j = w j) : WI N w' := by
  obtain ⟨a, b, c⟩ := h
  have e4 : w' 4 = w 4 := e 4 (Or.inl rfl)
  refine ⟨a, by rw [e4]; exact b, ?_⟩
  rw [e4]
  refine c.congr (fun k hk => ?_) (fun k hk => ?_) (fun i j hi hj => ?_)
  · unfold rlf; rw [e _ (Or.inr (Or.inl (by omega)))]
  · unfold rwt; rw [e _ (Or.inr (Or.inl (by omega)))]
  · unfold rst; rw [e _ (Or.inr (Or.inr (by omega)))]
theorem WI.upd {N j : Nat} {w : Nat → Int64} {v : Int64} (h : WI N w) (e : ¬ rel j) : WI N (vp_updL w j v) := h.congr (fun i hi => by
  have : i ≠ j := fun q => e (q ▸ hi)
  simp [vp_updL, this])
theorem WI.f {N : Nat} {w : Nat → Int64} (h : WI N w) : (∀ k, k < N → rlf w k = -1 → 1 ≤ rwt w k) ∧ rlf w 0 = -1 ∧ rlf w (N - 1) = -1 ∧ (∀ k, k < N → -1 ≤ rlf w k ∧ rlf w k < (w 4).toInt) ∧ (w 4).toInt ≤ N - 2 ∧ fsum N (pt (rlf w) (rwt w)) ≤ 20000 ∧ fsum N (ct (rlf w)) = (w 4).toInt := by
  obtain ⟨a, b, c⟩ := h
  obtain ⟨f1, f2, f3, f4, f5, f6⟩ := c.facts a.1
  have g := ct_le (k := 0) a.1 f3 f4
  exact ⟨f2, f3, f4, fun k hk => by have := f5 k hk; omega, by omega, f1, by omega⟩
theorem WI.lt {N k : Nat} {w : Nat → Int64} (h : WI N w) (hk : 0 < k) (hk1 : k < N - 1) (h2 : rlf w k = -1) : (w 4).toInt ≤ N - 3 := by
  have hf := h.f
  have g := ct_lt h.1.1 hf.2.1 hf.2.2.1 hk hk1 h2
  omega
theorem pt_nn {N : Nat} {w : Nat → Int64} (h : WI N w) : ∀ k, k < N → 0 ≤ pt (rlf w) (rwt w) k := fun k hk => by
  unfold pt
  split
  · rename_i z
    have := h.f.1 k hk z; omega
  · exact Int.le_refl 0
theorem WI.one {N k : Nat} {w : Nat → Int64} (h : WI N w) (hk : k < N) (h1 : rlf w k = -1) : 1 ≤ rwt w k ∧ rwt w k ≤ 20000 := by
  have a := h.f.1 k hk h1
  have b := fsum_one (pt_nn h) hk
  have c := h.f.2.2.2.2.2.1
  unfold pt at b c
  rw [if_pos h1] at b
  exact ⟨a, by omega⟩
theorem fsum_three {N k p q : Nat} {f : Nat → Int} (h : ∀ j, j < N → 0 ≤ f j) (hk : k < N) (hp : p < N) (hq : q < N) (h1 : k ≠ p) (h2 : k ≠ q) (h3 : p ≠ q) : f k + f p + f q ≤ fsum N f := by
  have z := fsum_upd (f := f) (v := 0) hk
  have z2 := fsum_two (N := N) (k := p) (p := q) (f := updi f k 0) (fun j hj => by
    by_cases e : j = k
    · subst e; rw [updi_at]; exact Int.le_refl 0
    · rw [updi_o e]; exact h j hj) hp hq h3
  rw [updi_o (by omega), updi_o (by omega)] at z2
  omega
theorem WI.three {N k p q : Nat} {w : Nat → Int64} (h : WI N w) (h0 : p < k ∧ k < q ∧ q < N) (h1 : rlf w k = -1) (h2 : rlf w p = -1) (h3 : rlf w q = -1) : 1 ≤ rwt w k ∧ 1 ≤ rwt w p ∧ 1 ≤ rwt w q ∧ rwt w k + rwt w p + rwt w q ≤ 20000 := by
  have a := h.f.1
  have b := fsum_three (k := k) (p := p) (q := q) (pt_nn h) (by omega) (by omega) (by omega) (by omega) (by omega) (by omega)
  have c := h.f.2.2.2.2.2.1
  unfold pt at b c
  rw [if_pos h1, if_pos h2, if_pos h3] at b
  exact ⟨a k (by omega) h1, a p (by omega) h2, a q (by omega) h3, by omega⟩
def isj (j : Nat) : Prop := j = 0 ∨ j = 1 ∨ j = 2 ∨ j = 4 ∨ j = 5 ∨ j = 6 ∨ j = 7
theorem WI.lift {N k p q n : Nat} {s : Int} {w w' : Nat → Int64} (h : WI N w) (hn : (w 4).toInt = n) (h0 : p < k ∧ k < q ∧ q < N) (h1 : rlf w k = -1) (h2 : rlf w p = -1) (h3 : rlf w q = -1) (hs : 0 ≤ s ∧ s ≤ rwt w k) (h4 : (w' 4).toInt = n + 1) (hl : ∀ j, j < N → rlf w' j = updi (rlf w) k n j) (hw : ∀ j, j < N → rwt w' j = updi (updi (rwt w) p (rwt w p + s)) q (rwt w q + rwt w k - s) j) (hr : ∀ i j, i < n → isj j → rst w' i j = rst w i j) (hc : rst w' n 0 = k ∧ rst w' n 1 = p ∧ rst w' n 2 = q ∧ rst w' n 4 = rwt w k ∧ rst w' n 5 = s ∧ rst w' n 6 = rwt w p ∧ rst w' n 7 = rwt w q) : WI N w' := by
  have g := h.three h0 h1 h2 h3
  have g2 := h.lt (k := k) (by omega) (by omega) h1
  obtain ⟨a, b, c⟩ := h
  obtain ⟨c0, c1, c2, c4, c5, c6, c7⟩ := hc
  refine ⟨a, by omega, ?_⟩
  rw [show (w' 4).toInt.toNat = n + 1 by omega]
  rw [show (w 4).toInt.toNat = n by omega] at c
  refine ⟨k, p, q, h0, ⟨c0, c1, c2⟩, ⟨by rw [hl k (by omega), updi_at], by rw [hl p (by omega), updi_o (by omega)]; exact h2, by rw [hl q (by omega), updi_o (by omega)]; exact h3⟩, ⟨by omega, by omega, by omega, by omega, by omega⟩, ⟨by rw [hw p (by omega), updi_o (by omega), updi_at]; omega, by rw [hw q (by omega), updi_at]; omega⟩, ?_⟩
  refine c.congr (fun j hj => ?_) (fun j hj => ?_) (fun i j hi hj => hr i j hi hj)
  · unfold updi
    by_cases z : j = k
    · subst z; simp [h1]
    · rw [hl j hj]; simp [updi, z]
  · rw [c6, c7, c4]
    unfold updi
    by_cases z : j = k
    · subst z; simp
    · by_cases z1 : j = q
      · subst z1; simp [z]
      · by_cases z2 : j = p
        · subst z2; simp [z, z1]
        · rw [hw j hj]; simp [updi, z, z1, z2]
theorem WI.inv {N n : Nat} {w : Nat → Int64} (h : WI N w) (hn : (w 4).toInt = n + 1) : ∃ k p q : Nat, (p < k ∧ k < q ∧ q < N) ∧ (rst w n 0 = k ∧ rst w n 1 = p ∧ rst w n 2 = q) ∧ (1 ≤ rst w n 4 ∧ 0 ≤ rst w n 5 ∧ rst w n 5 ≤ rst w n 4 ∧ 1 ≤ rst w n 6 ∧ 1 ≤ rst w n 7) ∧ rst w n 4 + rst w n 6 + rst w n 7 ≤ 20000 ∧ (rlf w k = n ∧ rlf w p = -1 ∧ rlf w q = -1) ∧ (∀ w' : Nat → Int64, (w' 4).toInt = n → (∀ j, j < N → rlf w' j = updi (rlf w) k (-1) j) → (∀ j, j < N → rwt w' j = updi (updi (updi (rwt w) p (rst w n 6)) q (rst w n 7)) k (rst w n 4) j) → (∀ i j, i < n → isj j → rst w' i j = rst w i j) → WI N w') := by
  have hf := h.f
  obtain ⟨a, b, c⟩ := h
  rw [show (w 4).toInt.toNat = n + 1 by omega] at c
  obtain ⟨k, p, q, h0, hb, hc, hd, he, g⟩ := c
  have f := fsum_two (N := N) (k := p) (p := q) (f := pt (rlf w) (rwt w)) (fun j hj => by
    unfold pt
    split
    · rename_i z
      have := hf.1 j hj z; omega
    · exact Int.le_refl 0) (by omega) (by omega) (by omega)
  have f2 := hf.2.2.2.2.2.1
  have z2 : pt (rlf w) (rwt w) p = rwt w p := by unfold pt; rw [if_pos hc.2.1]
  have z3 : pt (rlf w) (rwt w) q = rwt w q := by unfold pt; rw [if_pos hc.2.2]
  refine ⟨k, p, q, h0, hb, hd, by omega, hc, fun w' q4 ql qw qr => ⟨a, by omega, ?_⟩⟩
  rw [show (w' 4).toInt.toNat = n by omega]
  exact g.congr ql qw qr
/-! places -/
def PL (N : Nat) (pl : Nat → Int32) : Prop := ∀ k, k < N → (0 ≤ (pl k).toInt ∧ (pl k).toInt ≤ 9999) ∧ (k + 1 < N → (pl k).toInt < (pl (k + 1)).toInt)
theorem PL.lt {N i j : Nat} {pl : Nat → Int32} (h : PL N pl) (hij : i < j) (hj : j < N) : (pl i).toInt < (pl j).toInt := by
  induction j with
  | zero => omega
  | succ j ih =>
    have a := (h j (by omega)).2 hj
    by_cases e : i = j
    · subst e; exact a
    · have := ih (by omega) (by omega); omega
theorem WI.base {N : Nat} {w : Nat → Int64} {pl : Nat → Int32} (hN : 2 ≤ N ∧ N ≤ 48) (hp : PL N pl) (h4 : (w 4).toInt = 0) (hl : ∀ k, k < N → rlf w k = -1) (hw : ∀ k, k < N → rwt w k = (if k = N - 1 then (pl k).toInt else (pl (k + 1)).toInt) - (if k = 0 then (pl 0).toInt else (pl (k - 1)).toInt)) : WI N w := by
  refine ⟨hN, by omega, ?_⟩
  rw [h4]
  refine ⟨hl, fun k hk => ?_, ?_⟩
  · rw [hw k hk]
    by_cases e0 : k = 0
    · subst e0
      rw [if_neg (by omega), if_pos rfl]
      have := hp.lt (i := 0) (j := 1) (by omega) (by omega)
      show 1 ≤ (pl 1).toInt - (pl 0).toInt
      omega
    · rw [if_neg e0]
      by_cases e1 : k = N - 1
      · rw [if_pos e1]; have := hp.lt (i := k - 1) (j := k) (by omega) hk; omega
      · rw [if_neg e1]; have := hp.lt (i := k - 1) (j := k + 1) (by omega) (by omega); omega
  · rw [fsum_congr (g := rwt w) (fun k hk => by unfold pt; rw [if_pos (hl k hk)])]
    have hs : ∀ M : Nat, M + 1 < N → fsum (M + 1) (rwt w) = (pl (M + 1)).toInt + (pl M).toInt - 2 * (pl 0).toInt := by
      intro M
      induction M with
      | zero =>
        intro hM
        rw [fsum, fsum, hw 0 (by omega), if_neg (by omega), if_pos rfl]; omega
      | succ M ih =>
        intro hM
        rw [fsum, ih (by omega), hw (M + 1) (by omega), if_neg (by omega), if_neg (by omega), show M + 1 - 1 = M by omega]; omega
    obtain ⟨M, rfl⟩ : ∃ M, N = M + 1 + 1 := ⟨N - 2, by omega⟩
    rw [fsum, hs M (by omega), hw (M + 1) (by omega), if_pos (by omega), if_neg (by omega), show M + 1 - 1 = M by omega]
    have := (hp (M + 1) (by omega)).1
    have := (hp 0 (by omega)).1
    omega
/-! ranks -/
theorem pigeon (n : Nat) : ∀ f : Nat → Nat, (∀ k, k < n → f k < n) → (∀ i j, i < n → j < n → f i = f j → i = j) → ∀ r, r < n → ∃ k, k < n ∧ f k = r := by
  induction n with
  | zero => intro f _ _ r hr; omega
  | succ n ih =>
    intro f h1 h2 r hr
    by_cases hv : r = f n
    · exact ⟨n, by omega, hv.symm⟩
    have hg1 : ∀ k, k < n → (if f k = n then f n else f k) < n := by
      intro k hk
      by_cases z : f k = n
      · rw [if_pos z]
        have a := h1 n (by omega)
        have b : f n ≠ n := fun q => by have := h2 k n (by omega) (by omega) (by omega); omega
        omega
      · rw [if_neg z]; have a := h1 k (by omega); omega
    have hg2 : ∀ i j, i < n → j < n → (if f i = n then f n else f i) = (if f j = n then f n else f j) → i = j := by
      intro i j hi hj e
      by_cases z : f i = n
      · by_cases y : f j = n
        · exact h2 i j (by omega) (by omega) (by omega)
        · rw [if_pos z, if_neg y] at e
          have := h2 n j (by omega) (by omega) e; omega
      · by_cases y : f j = n
        · rw [if_neg z, if_pos y] at e
          have := h2 i n (by omega) (by omega) e; omega
        · rw [if_neg z, if_neg y] at e
          exact h2 i j (by omega) (by omega) e
    by_cases hn : r = n
    · have a : f n < n := by have := h1 n (by omega); omega
      obtain ⟨k, hk, e⟩ := ih _ hg1 hg2 (f n) a
      by_cases z : f k = n
      · exact ⟨k, by omega, by omega⟩
      · rw [if_neg z] at e
        have := h2 k n (by omega) (by omega) e; omega
    · obtain ⟨k, hk, e⟩ := ih _ hg1 hg2 r (by omega)
      by_cases z : f k = n
      · rw [if_pos z] at e; omega
      · rw [if_neg z] at e; exact ⟨k, by omega, e⟩
def bef (a : Nat → Int) (k : Nat) : Nat → Int := fun j => if a k < a j ∨ (a j = a k ∧ j < k) then 1 else 0
theorem bef_nn {a : Nat → Int} {k j : Nat} : 0 ≤ bef a k j ∧ bef a k j ≤ 1 := by unfold bef; split <;> omega
theorem rk_lt {n k : Nat} {a : Nat → Int} (hk : k < n) : 0 ≤ fsum n (bef a k) ∧ fsum n (bef a k) < n := by
  refine ⟨fsum_ge (fun j _ => bef_nn.1), ?_⟩
  have hb : ∀ (M : Nat), fsum M (fun _ => (1 : Int)) = M := by
    intro M
    induction M with
    | zero => rfl
    | succ n ih => rw [fsum, ih]; omega
  have hm : ∀ (M : Nat) (f g : Nat → Int), (∀ j, j < M → f j ≤ g j) → fsum M f ≤ fsum M g := by
    intro M f g h
    induction M with
    | zero => exact Int.le_refl _
    | succ n ih => rw [fsum, fsum]; have := ih (fun j hj => h j (by omega)); have := h n (by omega); omega
  have := hm n (bef a k) (updi (fun _ => 1) k 0) (fun j hj => by
    by_cases z : j = k
    · subst z; rw [updi_at]; unfold bef; rw [if_neg (by omega)]; exact Int.le_refl 0
    · rw [updi_o z]; exact bef_nn.2)
  rw [fsum_upd hk, hb] at this
  omega
theorem rk_mono {n i k : Nat} {a : Nat → Int} (hi : i < n) (h : a k < a i ∨ (a i = a k ∧ i < k)) : fsum n (bef a i) < fsum n (bef a k) := by
  have hm : ∀ (M : Nat) (f g : Nat → Int), (∀ j, j < M → f j ≤ g j) → fsum M f ≤ fsum M g := by
    intro M f g h
    induction M with
    | zero => exact Int.le_refl _
    | succ n ih => rw [fsum, fsum]; have := ih (fun j hj => h j (by omega)); have := h n (by omega); omega
  have q := hm n (bef a i) (updi (bef a k) i 0) (fun j hj => by
    by_cases z : j = i
    · subst z; rw [updi_at]; unfold bef; rw [if_neg (by omega)]; exact Int.le_refl 0
    · rw [updi_o z]
      unfold bef
      by_cases y : a i < a j ∨ (a j = a i ∧ j < i)
      · rw [if_pos y, if_pos (by omega)]; exact Int.le_refl 1
      · rw [if_neg y]; split <;> omega)
  rw [fsum_upd hi] at q
  have z : bef a k i = 1 := by unfold bef; rw [if_pos h]
  omega
theorem rk_all {n : Nat} {a : Nat → Int} {r : Int} (h0 : 0 ≤ r) (h1 : r < n) : ∃ k, k < n ∧ fsum n (bef a k) = r := by
  obtain ⟨k, hk, e⟩ := pigeon n (fun k => (fsum n (bef a k)).toNat) (fun k hk => by have := rk_lt (a := a) hk; show (fsum n (bef a k)).toNat < n; omega) (fun i j hi hj e => by
    have e : (fsum n (bef a i)).toNat = (fsum n (bef a j)).toNat := e
    have a1 := rk_lt (a := a) hi
    have a2 := rk_lt (a := a) hj
    apply Classical.byContradiction
    intro hn
    by_cases z : a j < a i ∨ (a i = a j ∧ i < j)
    · have := rk_mono (n := n) hi z; omega
    · have := rk_mono (n := n) (i := j) (k := i) (a := a) hj (by omega); omega) r.toNat (by omega)
  have e : (fsum n (bef a k)).toNat = r.toNat := e
  have := rk_lt (a := a) hk
  exact ⟨k, hk, by omega⟩
