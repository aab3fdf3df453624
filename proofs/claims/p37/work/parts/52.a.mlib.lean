/-! The reference's row with its numbers. -/
def plf (p : Nat → Int32) : Nat → Int := fun k => (p k).toInt
def rvl (w : Nat → Int64) : Nat → Int := fun k => (w (5 + k)).toInt
def rps (w : Nat → Int64) : Ps := (rvl w, rwt w, rlf w, fun j => rst w j 3, (w 4).toInt.toNat)
def BV (N : Nat) (w : Nat → Int64) : Prop := ∀ k, k < N → rlf w k = -1 → -1114000000 ≤ rvl w k ∧ rvl w k ≤ 1114000000
def RV (N : Nat) (w : Nat → Int64) (X : Ps) : Prop := (∀ k, k < N → rvl w k = X.1 k) ∧ (∀ k, k < N → rwt w k = X.2.1 k) ∧ (∀ k, k < N → rlf w k = X.2.2.1 k) ∧ (∀ j, j < X.2.2.2.2 → rst w j 3 = X.2.2.2.1 j) ∧ (w 4).toInt = (X.2.2.2.2 : Int)
theorem RV.m {N : Nat} {w : Nat → Int64} {X : Ps} (h : RV N w X) : (rps w).2.2.2.2 = X.2.2.2.2 := by
  have := h.2.2.2.2
  show (w 4).toInt.toNat = _
  omega
theorem prd_cg {P P' v v' : Nat → Int} {r : Int} {k p q : Nat} (h1 : P k = P' k) (h2 : P p = P' p) (h3 : P q = P' q) (h4 : v p = v' p) (h5 : v q = v' q) : prd P v r k p q = prd P' v' r k p q := by unfold prd; rw [h1, h2, h3, h4, h5]
theorem shr_cg {P P' v v' : Nat → Int} {r : Int} {k p q : Nat} (h1 : P k = P' k) (h2 : P p = P' p) (h3 : P q = P' q) (h4 : v k = v' k) : shr P v r k p q = shr P' v' r k p q := by unfold shr; rw [h1, h2, h3, h4]
theorem dtl_cg {P P' : Nat → Int} {r : Int} {X X' : Ps} {k p q : Nat} (h1 : P k = P' k) (h2 : P p = P' p) (h3 : P q = P' q) (h4 : X.1 p = X'.1 p) (h5 : X.1 q = X'.1 q) (h6 : X.1 k = X'.1 k) : dtl P r X k p q = dtl P' r X' k p q := by
  unfold dtl
  rw [h6, prd_cg h1 h2 h3 h4 h5]
theorem cst_cg {P P' : Nat → Int} {s r : Int} {X X' : Ps} {k p q : Nat} (h1 : P k = P' k) (h2 : P p = P' p) (h3 : P q = P' q) (h4 : X.1 p = X'.1 p) (h5 : X.1 q = X'.1 q) (h6 : X.1 k = X'.1 k) : cst P s r X k p q = cst P' s r X' k p q := by
  unfold cst
  rw [h2, h3, dtl_cg h1 h2 h3 h4 h5 h6]
theorem CO.cg {N : Nat} {P P' : Nat → Int} {s r : Int} {X X' : Ps} {k : Nat} {c : Int} (h : CO N P s r X k c) (hk : k < N) (hP : ∀ k, k < N → P k = P' k) (h1 : ∀ k, k < N → X.1 k = X'.1 k) (h3 : ∀ k, k < N → X.2.2.1 k = X'.2.2.1 k) : CO N P' s r X' k c := by
  obtain ⟨p, q, hp, hq, hc⟩ := h
  have a := hp.1
  have b := hq.1.2
  refine ⟨p, q, hp.cg (fun j hj => (h3 j (by omega)).symm), hq.cg (fun j hj => (h3 j hj).symm), hc.trans (cst_cg (hP k hk) (hP p (by omega)) (hP q b) (h1 p (by omega)) (h1 q b) (h1 k hk))⟩
theorem CHk.cg {N : Nat} {P P' : Nat → Int} {le s r : Int} {X X' : Ps} {k : Nat} (h : CHk N P le s r X k) (hP : ∀ k, k < N → P k = P' k) (h1 : ∀ k, k < N → X.1 k = X'.1 k) (h3 : ∀ k, k < N → X.2.2.1 k = X'.2.2.1 k) (hm : X.2.2.2.2 = X'.2.2.2.2) : CHk N P' le s r X' k := by
  obtain ⟨a, ⟨b1, b2, b3⟩, c, c1, c2⟩ := h
  refine ⟨by rw [← hm]; exact a, ⟨b1, b2, by rw [← h3 k (by omega)]; exact b3⟩, c, c1.cg (by omega) hP h1 h3, fun j hj c' hc' => c2 j ⟨hj.1, hj.2.1, by rw [h3 j (by have := hj.2.1; omega)]; exact hj.2.2⟩ c' (hc'.cg (by have := hj.2.1; omega) (fun k hk => (hP k hk).symm) (fun k hk => (h1 k hk).symm) (fun k hk => (h3 k hk).symm))⟩
theorem CH0.cg {N : Nat} {le : Int} {X X' : Ps} (h : CH0 N le X) (h3 : ∀ k, k < N → X.2.2.1 k = X'.2.2.1 k) (hm : X.2.2.2.2 = X'.2.2.2.2) : CH0 N le X' := by
  rcases h with h | h
  · exact Or.inl (by rw [← hm]; exact h)
  · exact Or.inr (fun k hk => h k ⟨hk.1, hk.2.1, by rw [h3 k (by have := hk.2.1; omega)]; exact hk.2.2⟩)
theorem RV.chk {N : Nat} {P P' : Nat → Int} {le s r : Int} {w : Nat → Int64} {X : Ps} {k : Nat} (h : RV N w X) (hP : ∀ k, k < N → P k = P' k) (g : CHk N P le s r (rps w) k) : CHk N P' le s r X k := g.cg hP h.1 h.2.2.1 h.m
theorem RV.ch0 {N : Nat} {le : Int} {w : Nat → Int64} {X : Ps} (h : RV N w X) (g : CH0 N le (rps w)) : CH0 N le X := g.cg h.2.2.1 h.m
theorem RV.bv {N : Nat} {P : Nat → Int} {r : Int} {w : Nat → Int64} {v wt l dt : Nat → Int} {m : Nat} (h : RV N w (v, wt, l, dt, m)) (g : PIV N P r (v, wt, l, dt, m)) (hm : m ≤ 46) : BV N w := fun k hk hl => by
  have e1 : rvl w k = v k := h.1 k hk
  have e3 : rlf w k = l k := h.2.2.1 k hk
  rw [e1]
  exact g.small hm hk (by rw [← e3]; exact hl)
/-- the neighbours of an inner sample that is present -/
theorem WI.nb {N k : Nat} {w : Nat → Int64} (h : WI N w) (h0 : 0 < k) (h1 : k + 1 < N) : (∃ p, LN (rlf w) k p) ∧ ∃ q, RN N (rlf w) k q := ⟨LN.ex h.f.2.1 k h0, RN.ex h.f.2.2.1 (N - 1 - k) k (by omega) (by omega)⟩
/-- numbers as halved -/
theorem ntz_e {n k : Nat} (h : k % 2 = 0) : ntzF (n + 1) k = ntzF n (k / 2) + 1 := if_pos h
theorem ntz_o {n k : Nat} (h : k % 2 ≠ 0) : ntzF (n + 1) k = 0 := if_neg h
theorem blen_half {x : Nat} (h : x ≠ 0) : blen x = blen (x / 2) + 1 := by
  have h1 : 2 ^ Nat.log2 x ≤ x := (Nat.le_log2 h).mp (Nat.le_refl _)
  have h2 : x < 2 ^ (Nat.log2 x + 1) := (Nat.log2_lt h).mp (Nat.lt_succ_self _)
  obtain ⟨b, hb⟩ : ∃ b, b = Nat.log2 x := ⟨_, rfl⟩
  rw [← hb] at h1 h2
  rw [blen_of h1 h2]
  cases b with
  | zero =>
    have z : x = 1 := by omega
    rw [z]; rfl
  | succ b =>
    have e1 : 2 ^ (b + 1) = 2 * 2 ^ b := by rw [Nat.pow_succ]; omega
    have e2 : 2 ^ (b + 1 + 1) = 4 * 2 ^ b := by rw [Nat.pow_succ, e1]; omega
    rw [blen_of (x := x / 2) (b := b) (by omega) (by omega)]
theorem PL.li {N : Nat} {p : Nat → Int32} (h : PL N p) : PLI N (plf p) := fun k hk => h k hk
/-- all details of a pass are small -/
theorem Rn.db {N : Nat} {P V : Nat → Int} {le s r u : Int} (hN : 2 ≤ N ∧ N ≤ 48) (hP : PLI N P) (hr : r = 0 ∨ r = 1 ∨ r = 2) (hV : ∀ k, k < N → -9999 ≤ V k ∧ V k ≤ 9999) {n : Nat} {Y : Ps} (h : Rn N P le s r u n (ini N P V) Y) (hn : n ≤ 46) : ∀ j, j < Y.2.2.2.2 → -2228000000 ≤ Y.2.2.2.1 j ∧ Y.2.2.2.1 j ≤ 2228000000 := by
  induction n generalizing Y with
  | zero =>
    have h : Y = ini N P V := h
    intro j hj
    rw [h] at hj
    exact absurd hj (Nat.not_lt_zero j)
  | succ n ih =>
    obtain ⟨⟨v, w, l, dt, m⟩, h0, k, p, q, h1, h2, h3, h4⟩ := h
    have i1 := ih h0 (by omega)
    obtain ⟨i2, i3⟩ := h0.piv hN hP hr hV
    have i3 : m = n := i3
    rw [h4]
    intro j hj
    have hj : j < m + 1 := hj
    show -2228000000 ≤ updi dt m (dtl P r (v, w, l, dt, m) k p q) j ∧ updi dt m (dtl P r (v, w, l, dt, m) k p q) j ≤ 2228000000
    by_cases e : j = m
    · rw [e, updi_at]; exact i2.det hP (by omega) h1.2.1.2.2 h2 h3
    · rw [updi_o e]; exact i1 j (show j < m by omega)
/-- the row anew: values -/
def AV (V : Nat → Int) (w : Nat → Int64) (k : Nat) : Prop := ∀ j, j < k → rvl w j = V j
theorem AV.step {V : Nat → Int} {k : Nat} {w w1 w2 w3 : Nat → Int64} {v1 v2 v3 : Int64} (h : AV V w k) (hk : k < 48) (e1 : w1 = vp_updL w (5 + k) v1) (e2 : w2 = vp_updL w1 (53 + k) v2) (e3 : w3 = vp_updL w2 (101 + k) v3) (a1 : v1.toInt = V k) : AV V w3 (k + 1) := by
  subst e1
  subst e2
  subst e3
  intro j hj
  show (vp_updL (vp_updL (vp_updL w (5 + k) v1) (53 + k) v2) (101 + k) v3 (5 + j)).toInt = _
  by_cases z : j = k
  · subst z; rw [un (show 5 + j ≠ 101 + j from by omega), un (show 5 + j ≠ 53 + j from by omega), uh]; exact a1
  · rw [un (show 5 + j ≠ 101 + k from by omega), un (show 5 + j ≠ 53 + k from by omega), un (show 5 + j ≠ 5 + k from by omega)]; exact h j (by omega)
theorem RV.anew {N : Nat} {pl : Nat → Int32} {V : Nat → Int} {w : Nat → Int64} (h : AN N pl w N) (g : AV V w N) : RV N w (ini N (plf pl) V) := ⟨g, fun k hk => (h.2 k hk).2, fun k hk => (h.2 k hk).1, fun j hj => absurd hj (Nat.not_lt_zero j), h.1⟩
theorem RV.mi {N : Nat} {w : Nat → Int64} {v wt l dt : Nat → Int} {m : Nat} (h : RV N w (v, wt, l, dt, m)) : (∀ k, k < N → rvl w k = v k) ∧ (∀ k, k < N → rwt w k = wt k) ∧ (∀ k, k < N → rlf w k = l k) ∧ (∀ j, j < m → rst w j 3 = dt j) ∧ (w 4).toInt = m := h
theorem RV.bits {N : Nat} {w : Nat → Int64} {Y : Ps} (h : RV N w Y) : fsum (w 4).toInt.toNat (fun j => 1 + ((blen (rst w j 3).natAbs : Nat) : Int)) = bsum Y := by
  have e := h.m
  have e : (w 4).toInt.toNat = Y.2.2.2.2 := e
  rw [e]
  exact fsum_congr (fun j hj => by rw [h.2.2.2.1 j hj])
set_option maxHeartbeats 4000000 in
theorem RV.lifted {N k p q n m : Nat} {w : Nat → Int64} {v wt l dt : Nat → Int} {v0 v1 v2 v3 v4 v5 v6 v7 v8 v9 v10 v11 v12 v13 v14 v15 v16 v17 : Int64} (h : RV N w (v, wt, l, dt, m)) (hn : (w 4).toInt = n) (hm : m = n) (h0 : p < k ∧ k < q ∧ q < N) (hN : N ≤ 48) (h9 : n ≤ 45) {d E F a c : Int} (a3 : v3.toInt = d) (a11 : v11.toInt = E) (a12 : v12.toInt = F) (a13 : v13.toInt = a) (a14 : v14.toInt = c) (a16 : v16.toInt = n) (a17 : v17.toInt = n + 1) : RV N (vp_updL (vp_updL (vp_updL (vp_updL (vp_updL (vp_updL (vp_updL (vp_updL (vp_updL (vp_updL (vp_updL (vp_updL (vp_updL (vp_updL (vp_updL (vp_updL (vp_updL (vp_updL w (149 + 10 * n + 0) v0) (149 + 10 * n + 1) v1) (149 + 10 * n + 2) v2) (149 + 10 * n + 3) v3) (149 + 10 * n + 4) v4) (149 + 10 * n + 5) v5) (149 + 10 * n + 6) v6) (149 + 10 * n + 7) v7) (149 + 10 * n + 8) v8) (149 + 10 * n + 9) v9) (3) v10) (53 + p) v11) (53 + q) v12) (5 + p) v13) (5 + q) v14) (3) v15) (101 + k) v16) (4) v17) (updi (updi v p a) q c, updi (updi wt p E) q F, updi l k n, updi dt n d, n + 1) := by
  obtain ⟨b1, b2, b3, b4, -⟩ := h
  have b1 : ∀ k, k < N → rvl w k = v k := b1
  have b2 : ∀ k, k < N → rwt w k = wt k := b2
  have b3 : ∀ k, k < N → rlf w k = l k := b3
  have b4 : ∀ j, j < m → rst w j 3 = dt j := b4
  refine ⟨fun j hj => ?_, fun j hj => ?_, fun j hj => ?_, fun j hj => ?_, ?_⟩
  · show ((vp_updL (vp_updL (vp_updL (vp_updL (vp_updL (vp_updL (vp_updL (vp_updL (vp_updL (vp_updL (vp_updL (vp_updL (vp_updL (vp_updL (vp_updL (vp_updL (vp_updL (vp_updL w (149 + 10 * n + 0) v0) (149 + 10 * n + 1) v1) (149 + 10 * n + 2) v2) (149 + 10 * n + 3) v3) (149 + 10 * n + 4) v4) (149 + 10 * n + 5) v5) (149 + 10 * n + 6) v6) (149 + 10 * n + 7) v7) (149 + 10 * n + 8) v8) (149 + 10 * n + 9) v9) (3) v10) (53 + p) v11) (53 + q) v12) (5 + p) v13) (5 + q) v14) (3) v15) (101 + k) v16) (4) v17) (5 + j)).toInt = _
    show _ = updi (updi v p a) q c j
    by_cases z : j = q
    · subst z; rw [updi_at, un (show 5 + j ≠ 4 from by omega), un (show 5 + j ≠ 101 + k from by omega), un (show 5 + j ≠ 3 from by omega), uh]; exact a14
    · by_cases z1 : j = p
      · subst z1; rw [updi_o z, updi_at, un (show 5 + j ≠ 4 from by omega), un (show 5 + j ≠ 101 + k from by omega), un (show 5 + j ≠ 3 from by omega), un (show 5 + j ≠ 5 + q from by omega), uh]; exact a13
      · rw [updi_o z, updi_o z1, un (show 5 + j ≠ 4 from by omega), un (show 5 + j ≠ 101 + k from by omega), un (show 5 + j ≠ 3 from by omega), un (show 5 + j ≠ 5 + q from by omega), un (show 5 + j ≠ 5 + p from by omega), un (show 5 + j ≠ 53 + q from by omega), un (show 5 + j ≠ 53 + p from by omega), un (show 5 + j ≠ 3 from by omega), un (show 5 + j ≠ 149 + 10 * n + 9 from by omega), un (show 5 + j ≠ 149 + 10 * n + 8 from by omega), un (show 5 + j ≠ 149 + 10 * n + 7 from by omega), un (show 5 + j ≠ 149 + 10 * n + 6 from by omega), un (show 5 + j ≠ 149 + 10 * n + 5 from by omega), un (show 5 + j ≠ 149 + 10 * n + 4 from by omega), un (show 5 + j ≠ 149 + 10 * n + 3 from by omega), un (show 5 + j ≠ 149 + 10 * n + 2 from by omega), un (show 5 + j ≠ 149 + 10 * n + 1 from by omega), un (show 5 + j ≠ 149 + 10 * n + 0 from by omega)]; exact b1 j hj
  · show ((vp_updL (vp_updL (vp_updL (vp_updL (vp_updL (vp_updL (vp_updL (vp_updL (vp_updL (vp_updL (vp_updL (vp_updL (vp_updL (vp_updL (vp_updL (vp_updL (vp_updL (vp_updL w (149 + 10 * n + 0) v0) (149 + 10 * n + 1) v1) (149 + 10 * n + 2) v2) (149 + 10 * n + 3) v3) (149 + 10 * n + 4) v4) (149 + 10 * n + 5) v5) (149 + 10 * n + 6) v6) (149 + 10 * n + 7) v7) (149 + 10 * n + 8) v8) (149 + 10 * n + 9) v9) (3) v10) (53 + p) v11) (53 + q) v12) (5 + p) v13) (5 + q) v14) (3) v15) (101 + k) v16) (4) v17) (53 + j)).toInt = _
    show _ = updi (updi wt p E) q F j
    by_cases z : j = q
    · subst z; rw [updi_at, un (show 53 + j ≠ 4 from by omega), un (show 53 + j ≠ 101 + k from by omega), un (show 53 + j ≠ 3 from by omega), un (show 53 + j ≠ 5 + j from by omega), un (show 53 + j ≠ 5 + p from by omega), uh]; exact a12
    · by_cases z1 : j = p
      · subst z1; rw [updi_o z, updi_at, un (show 53 + j ≠ 4 from by omega), un (show 53 + j ≠ 101 + k from by omega), un (show 53 + j ≠ 3 from by omega), un (show 53 + j ≠ 5 + q from by omega), un (show 53 + j ≠ 5 + j from by omega), un (show 53 + j ≠ 53 + q from by omega), uh]; exact a11
      · rw [updi_o z, updi_o z1, un (show 53 + j ≠ 4 from by omega), un (show 53 + j ≠ 101 + k from by omega), un (show 53 + j ≠ 3 from by omega), un (show 53 + j ≠ 5 + q from by omega), un (show 53 + j ≠ 5 + p from by omega), un (show 53 + j ≠ 53 + q from by omega), un (show 53 + j ≠ 53 + p from by omega), un (show 53 + j ≠ 3 from by omega), un (show 53 + j ≠ 149 + 10 * n + 9 from by omega), un (show 53 + j ≠ 149 + 10 * n + 8 from by omega), un (show 53 + j ≠ 149 + 10 * n + 7 from by omega), un (show 53 + j ≠ 149 + 10 * n + 6 from by omega), un (show 53 + j ≠ 149 + 10 * n + 5 from by omega), un (show 53 + j ≠ 149 + 10 * n + 4 from by omega), un (show 53 + j ≠ 149 + 10 * n + 3 from by omega), un (show 53 + j ≠ 149 + 10 * n + 2 from by omega), un (show 53 + j ≠ 149 + 10 * n + 1 from by omega), un (show 53 + j ≠ 149 + 10 * n + 0 from by omega)]; exact b2 j hj
  · show ((vp_updL (vp_updL (vp_updL (vp_updL (vp_updL (vp_updL (vp_updL (vp_updL (vp_updL (vp_updL (vp_updL (vp_updL (vp_updL (vp_updL (vp_updL (vp_updL (vp_updL (vp_updL w (149 + 10 * n + 0) v0) (149 + 10 * n + 1) v1) (149 + 10 * n + 2) v2) (149 + 10 * n + 3) v3) (149 + 10 * n + 4) v4) (149 + 10 * n + 5) v5) (149 + 10 * n + 6) v6) (149 + 10 * n + 7) v7) (149 + 10 * n + 8) v8) (149 + 10 * n + 9) v9) (3) v10) (53 + p) v11) (53 + q) v12) (5 + p) v13) (5 + q) v14) (3) v15) (101 + k) v16) (4) v17) (101 + j)).toInt = _
    show _ = updi l k n j
    by_cases z : j = k
    · subst z; rw [updi_at, un (show 101 + j ≠ 4 from by omega), uh]; exact a16
    · rw [updi_o z, un (show 101 + j ≠ 4 from by omega), un (show 101 + j ≠ 101 + k from by omega), un (show 101 + j ≠ 3 from by omega), un (show 101 + j ≠ 5 + q from by omega), un (show 101 + j ≠ 5 + p from by omega), un (show 101 + j ≠ 53 + q from by omega), un (show 101 + j ≠ 53 + p from by omega), un (show 101 + j ≠ 3 from by omega), un (show 101 + j ≠ 149 + 10 * n + 9 from by omega), un (show 101 + j ≠ 149 + 10 * n + 8 from by omega), un (show 101 + j ≠ 149 + 10 * n + 7 from by omega), un (show 101 + j ≠ 149 + 10 * n + 6 from by omega), un (show 101 + j ≠ 149 + 10 * n + 5 from by omega), un (show 101 + j ≠ 149 + 10 * n + 4 from by omega), un (show 101 + j ≠ 149 + 10 * n + 3 from by omega), un (show 101 + j ≠ 149 + 10 * n + 2 from by omega), un (show 101 + j ≠ 149 + 10 * n + 1 from by omega), un (show 101 + j ≠ 149 + 10 * n + 0 from by omega)]; exact b3 j hj
  · show ((vp_updL (vp_updL (vp_updL (vp_updL (vp_updL (vp_updL (vp_updL (vp_updL (vp_updL (vp_updL (vp_updL (vp_updL (vp_updL (vp_updL (vp_updL (vp_updL (vp_updL (vp_updL w (149 + 10 * n + 0) v0) (149 + 10 * n + 1) v1) (149 + 10 * n + 2) v2) (149 + 10 * n + 3) v3) (149 + 10 * n + 4) v4) (149 + 10 * n + 5) v5) (149 + 10 * n + 6) v6) (149 + 10 * n + 7) v7) (149 + 10 * n + 8) v8) (149 + 10 * n + 9) v9) (3) v10) (53 + p) v11) (53 + q) v12) (5 + p) v13) (5 + q) v14) (3) v15) (101 + k) v16) (4) v17) (149 + 10 * j + 3)).toInt = _
    have hj : j < n + 1 := hj
    show _ = updi dt n d j
    by_cases z : j = n
    · subst z; rw [updi_at, un (show 149 + 10 * j + 3 ≠ 4 from by omega), un (show 149 + 10 * j + 3 ≠ 101 + k from by omega), un (show 149 + 10 * j + 3 ≠ 3 from by omega), un (show 149 + 10 * j + 3 ≠ 5 + q from by omega), un (show 149 + 10 * j + 3 ≠ 5 + p from by omega), un (show 149 + 10 * j + 3 ≠ 53 + q from by omega), un (show 149 + 10 * j + 3 ≠ 53 + p from by omega), un (show 149 + 10 * j + 3 ≠ 3 from by omega), un (show 149 + 10 * j + 3 ≠ 149 + 10 * j + 9 from by omega), un (show 149 + 10 * j + 3 ≠ 149 + 10 * j + 8 from by omega), un (show 149 + 10 * j + 3 ≠ 149 + 10 * j + 7 from by omega), un (show 149 + 10 * j + 3 ≠ 149 + 10 * j + 6 from by omega), un (show 149 + 10 * j + 3 ≠ 149 + 10 * j + 5 from by omega), un (show 149 + 10 * j + 3 ≠ 149 + 10 * j + 4 from by omega), uh]; exact a3
    · rw [updi_o z, un (show 149 + 10 * j + 3 ≠ 4 from by omega), un (show 149 + 10 * j + 3 ≠ 101 + k from by omega), un (show 149 + 10 * j + 3 ≠ 3 from by omega), un (show 149 + 10 * j + 3 ≠ 5 + q from by omega), un (show 149 + 10 * j + 3 ≠ 5 + p from by omega), un (show 149 + 10 * j + 3 ≠ 53 + q from by omega), un (show 149 + 10 * j + 3 ≠ 53 + p from by omega), un (show 149 + 10 * j + 3 ≠ 3 from by omega), un (show 149 + 10 * j + 3 ≠ 149 + 10 * n + 9 from by omega), un (show 149 + 10 * j + 3 ≠ 149 + 10 * n + 8 from by omega), un (show 149 + 10 * j + 3 ≠ 149 + 10 * n + 7 from by omega), un (show 149 + 10 * j + 3 ≠ 149 + 10 * n + 6 from by omega), un (show 149 + 10 * j + 3 ≠ 149 + 10 * n + 5 from by omega), un (show 149 + 10 * j + 3 ≠ 149 + 10 * n + 4 from by omega), un (show 149 + 10 * j + 3 ≠ 149 + 10 * n + 3 from by omega), un (show 149 + 10 * j + 3 ≠ 149 + 10 * n + 2 from by omega), un (show 149 + 10 * j + 3 ≠ 149 + 10 * n + 1 from by omega), un (show 149 + 10 * j + 3 ≠ 149 + 10 * n + 0 from by omega)]; exact b4 j (by omega)
  · show ((vp_updL (vp_updL (vp_updL (vp_updL (vp_updL (vp_updL (vp_updL (vp_updL (vp_updL (vp_updL (vp_updL (vp_updL (vp_updL (vp_updL (vp_updL (vp_updL (vp_updL (vp_updL w (149 + 10 * n + 0) v0) (149 + 10 * n + 1) v1) (149 + 10 * n + 2) v2) (149 + 10 * n + 3) v3) (149 + 10 * n + 4) v4) (149 + 10 * n + 5) v5) (149 + 10 * n + 6) v6) (149 + 10 * n + 7) v7) (149 + 10 * n + 8) v8) (149 + 10 * n + 9) v9) (3) v10) (53 + p) v11) (53 + q) v12) (5 + p) v13) (5 + q) v14) (3) v15) (101 + k) v16) (4) v17) (4)).toInt = _
    rw [uh]; show _ = ((n + 1 : Nat) : Int); omega
theorem RV.liftedE {N k p q n m : Nat} {w : Nat → Int64} {v wt l dt : Nat → Int} {v0 v1 v2 v3 v4 v5 v6 v7 v8 v9 v10 v11 v12 v13 v14 v15 v16 v17 : Int64} {w1 w2 w3 w4 w5 w6 w7 w8 w9 w10 w11 w12 w13 w14 w15 w16 w17 w18 : Nat → Int64} (h : RV N w (v, wt, l, dt, m)) (hn : (w 4).toInt = n) (hm : m = n) (h0 : p < k ∧ k < q ∧ q < N) (hN : N ≤ 48) (h9 : n ≤ 45) {d E F a c : Int} (a3 : v3.toInt = d) (a11 : v11.toInt = E) (a12 : v12.toInt = F) (a13 : v13.toInt = a) (a14 : v14.toInt = c) (a16 : v16.toInt = n) (a17 : v17.toInt = n + 1) (e1 : w1 = vp_updL w (149 + 10 * n + 0) v0) (e2 : w2 = vp_updL w1 (149 + 10 * n + 1) v1) (e3 : w3 = vp_updL w2 (149 + 10 * n + 2) v2) (e4 : w4 = vp_updL w3 (149 + 10 * n + 3) v3) (e5 : w5 = vp_updL w4 (149 + 10 * n + 4) v4) (e6 : w6 = vp_updL w5 (149 + 10 * n + 5) v5) (e7 : w7 = vp_updL w6 (149 + 10 * n + 6) v6) (e8 : w8 = vp_updL w7 (149 + 10 * n + 7) v7) (e9 : w9 = vp_updL w8 (149 + 10 * n + 8) v8) (e10 : w10 = vp_updL w9 (149 + 10 * n + 9) v9) (e11 : w11 = vp_updL w10 (3) v10) (e12 : w12 = vp_updL w11 (53 + p) v11) (e13 : w13 = vp_updL w12 (53 + q) v12) (e14 : w14 = vp_updL w13 (5 + p) v13) (e15 : w15 = vp_updL w14 (5 + q) v14) (e16 : w16 = vp_updL w15 (3) v15) (e17 : w17 = vp_updL w16 (101 + k) v16) (e18 : w18 = vp_updL w17 (4) v17) : RV N w18 (updi (updi v p a) q c, updi (updi wt p E) q F, updi l k n, updi dt n d, n + 1) := by
  subst e1
  subst e2
  subst e3
  subst e4
  subst e5
  subst e6
  subst e7
  subst e8
  subst e9
  subst e10
  subst e11
  subst e12
  subst e13
  subst e14
  subst e15
  subst e16
  subst e17
  subst e18
  exact h.lifted hn hm h0 hN h9 a3 a11 a12 a13 a14 a16 a17
