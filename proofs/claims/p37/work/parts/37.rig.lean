/-! A lift taken back, the row anew: as writes in the row. -/
set_option maxHeartbeats 4000000 in
theorem WI.inverted {N k p q n : Nat} {w : Nat → Int64} {v1 v2 v3 v4 v5 v6 v7 v8 v9 : Int64} (h : WI N w) (hn : (w 4).toInt = n + 1) (hk : rst w n 0 = k) (hp : rst w n 1 = p) (hq : rst w n 2 = q) (a3 : v3.toInt = rst w n 6) (a4 : v4.toInt = rst w n 7) (a5 : v5.toInt = rst w n 4) (a7 : v7.toInt = -1) (a8 : v8.toInt = n) : WI N (vp_updL (vp_updL (vp_updL (vp_updL (vp_updL (vp_updL (vp_updL (vp_updL (vp_updL w (5 + p) v1) (5 + q) v2) (53 + p) v3) (53 + q) v4) (53 + k) v5) (5 + k) v6) (101 + k) v7) (4) v8) (3) v9) := by
  obtain ⟨k9, p9, q9, g0, ⟨g1, g2, g3⟩, -, -, -, gc⟩ := h.inv hn
  obtain rfl : k9 = k := by omega
  obtain rfl : p9 = p := by omega
  obtain rfl : q9 = q := by omega
  have hN := h.1.2
  refine gc _ ?_ (fun j hj => ?_) (fun j hj => ?_) (fun a b ha hb => ?_)
  · rw [un (show 4 ≠ 3 from by omega), uh]; exact a8
  · show ((vp_updL (vp_updL (vp_updL (vp_updL (vp_updL (vp_updL (vp_updL (vp_updL (vp_updL w (5 + p9) v1) (5 + q9) v2) (53 + p9) v3) (53 + q9) v4) (53 + k9) v5) (5 + k9) v6) (101 + k9) v7) (4) v8) (3) v9) (101 + j)).toInt = _
    by_cases z : j = k9
    · subst z; rw [updi_at, un (show 101 + j ≠ 3 from by omega), un (show 101 + j ≠ 4 from by omega), uh]; exact a7
    · rw [updi_o z, un (show 101 + j ≠ 3 from by omega), un (show 101 + j ≠ 4 from by omega), un (show 101 + j ≠ 101 + k9 from by omega), un (show 101 + j ≠ 5 + k9 from by omega), un (show 101 + j ≠ 53 + k9 from by omega), un (show 101 + j ≠ 53 + q9 from by omega), un (show 101 + j ≠ 53 + p9 from by omega), un (show 101 + j ≠ 5 + q9 from by omega), un (show 101 + j ≠ 5 + p9 from by omega)]; rfl
  · show ((vp_updL (vp_updL (vp_updL (vp_updL (vp_updL (vp_updL (vp_updL (vp_updL (vp_updL w (5 + p9) v1) (5 + q9) v2) (53 + p9) v3) (53 + q9) v4) (53 + k9) v5) (5 + k9) v6) (101 + k9) v7) (4) v8) (3) v9) (53 + j)).toInt = _
    by_cases z : j = k9
    · subst z; rw [updi_at, un (show 53 + j ≠ 3 from by omega), un (show 53 + j ≠ 4 from by omega), un (show 53 + j ≠ 101 + j from by omega), un (show 53 + j ≠ 5 + j from by omega), uh]; exact a5
    · by_cases z1 : j = q9
      · subst z1; rw [updi_o z, updi_at, un (show 53 + j ≠ 3 from by omega), un (show 53 + j ≠ 4 from by omega), un (show 53 + j ≠ 101 + k9 from by omega), un (show 53 + j ≠ 5 + k9 from by omega), un (show 53 + j ≠ 53 + k9 from by omega), uh]; exact a4
      · by_cases z2 : j = p9
        · subst z2; rw [updi_o z, updi_o z1, updi_at, un (show 53 + j ≠ 3 from by omega), un (show 53 + j ≠ 4 from by omega), un (show 53 + j ≠ 101 + k9 from by omega), un (show 53 + j ≠ 5 + k9 from by omega), un (show 53 + j ≠ 53 + k9 from by omega), un (show 53 + j ≠ 53 + q9 from by omega), uh]; exact a3
        · rw [updi_o z, updi_o z1, updi_o z2, un (show 53 + j ≠ 3 from by omega), un (show 53 + j ≠ 4 from by omega), un (show 53 + j ≠ 101 + k9 from by omega), un (show 53 + j ≠ 5 + k9 from by omega), un (show 53 + j ≠ 53 + k9 from by omega), un (show 53 + j ≠ 53 + q9 from by omega), un (show 53 + j ≠ 53 + p9 from by omega), un (show 53 + j ≠ 5 + q9 from by omega), un (show 53 + j ≠ 5 + p9 from by omega)]; rfl
  · have hb7 : b ≤ 7 := by unfold isj at hb; omega
    show ((vp_updL (vp_updL (vp_updL (vp_updL (vp_updL (vp_updL (vp_updL (vp_updL (vp_updL w (5 + p9) v1) (5 + q9) v2) (53 + p9) v3) (53 + q9) v4) (53 + k9) v5) (5 + k9) v6) (101 + k9) v7) (4) v8) (3) v9) (149 + 10 * a + b)).toInt = _
    rw [un (show 149 + 10 * a + b ≠ 3 from by omega), un (show 149 + 10 * a + b ≠ 4 from by omega), un (show 149 + 10 * a + b ≠ 101 + k9 from by omega), un (show 149 + 10 * a + b ≠ 5 + k9 from by omega), un (show 149 + 10 * a + b ≠ 53 + k9 from by omega), un (show 149 + 10 * a + b ≠ 53 + q9 from by omega), un (show 149 + 10 * a + b ≠ 53 + p9 from by omega), un (show 149 + 10 * a + b ≠ 5 + q9 from by omega), un (show 149 + 10 * a + b ≠ 5 + p9 from by omega)]; rfl
theorem WI.invertedE {N k p q n : Nat} {w w1 w2 w3 w4 w5 w6 w7 w8 w9 : Nat → Int64} {v1 v2 v3 v4 v5 v6 v7 v8 v9 : Int64} (h : WI N w) (hn : (w 4).toInt = n + 1) (hk : rst w n 0 = k) (hp : rst w n 1 = p) (hq : rst w n 2 = q) (a3 : v3.toInt = rst w n 6) (a4 : v4.toInt = rst w n 7) (a5 : v5.toInt = rst w n 4) (a7 : v7.toInt = -1) (a8 : v8.toInt = n) (e1 : w1 = vp_updL w (5 + p) v1) (e2 : w2 = vp_updL w1 (5 + q) v2) (e3 : w3 = vp_updL w2 (53 + p) v3) (e4 : w4 = vp_updL w3 (53 + q) v4) (e5 : w5 = vp_updL w4 (53 + k) v5) (e6 : w6 = vp_updL w5 (5 + k) v6) (e7 : w7 = vp_updL w6 (101 + k) v7) (e8 : w8 = vp_updL w7 (4) v8) (e9 : w9 = vp_updL w8 (3) v9) : WI N w9 := by
  subst e1
  subst e2
  subst e3
  subst e4
  subst e5
  subst e6
  subst e7
  subst e8
  subst e9
  exact h.inverted hn hk hp hq a3 a4 a5 a7 a8
def wexp (N : Nat) (pl : Nat → Int32) (k : Nat) : Int := (if k = N - 1 then (pl k).toInt else (pl (k + 1)).toInt) - (if k = 0 then (pl 0).toInt else (pl (k - 1)).toInt)
def AN (N : Nat) (pl : Nat → Int32) (w : Nat → Int64) (k : Nat) : Prop := (w 4).toInt = 0 ∧ ∀ j, j < k → rlf w j = -1 ∧ rwt w j = wexp N pl j
theorem AN.step {N k : Nat} {pl : Nat → Int32} {w w1 w2 w3 : Nat → Int64} {v1 v2 v3 : Int64} (h : AN N pl w k) (hk : k < 48) (e1 : w1 = vp_updL w (5 + k) v1) (e2 : w2 = vp_updL w1 (53 + k) v2) (e3 : w3 = vp_updL w2 (101 + k) v3) (a2 : v2.toInt = wexp N pl k) (a3 : v3.toInt = -1) : AN N pl w3 (k + 1) := by
  subst e1
  subst e2
  subst e3
  refine ⟨?_, fun j hj => ⟨?_, ?_⟩⟩
  · rw [un (show 4 ≠ 101 + k from by omega), un (show 4 ≠ 53 + k from by omega), un (show 4 ≠ 5 + k from by omega)]; exact h.1
  · show (vp_updL (vp_updL (vp_updL w (5 + k) v1) (53 + k) v2) (101 + k) v3 (101 + j)).toInt = _
    by_cases z : j = k
    · subst z; rw [uh]; exact a3
    · rw [un (show 101 + j ≠ 101 + k from by omega), un (show 101 + j ≠ 53 + k from by omega), un (show 101 + j ≠ 5 + k from by omega)]; exact (h.2 j (by omega)).1
  · show (vp_updL (vp_updL (vp_updL w (5 + k) v1) (53 + k) v2) (101 + k) v3 (53 + j)).toInt = _
    by_cases z : j = k
    · subst z; rw [un (show 53 + j ≠ 101 + j from by omega), uh]; exact a2
    · rw [un (show 53 + j ≠ 101 + k from by omega), un (show 53 + j ≠ 53 + k from by omega), un (show 53 + j ≠ 5 + k from by omega)]; exact (h.2 j (by omega)).2
theorem AN.done {N : Nat} {pl : Nat → Int32} {w : Nat → Int64} (h : AN N pl w N) (hN : 2 ≤ N ∧ N ≤ 48) (hp : PL N pl) : WI N w := WI.base hN hp h.1 (fun k hk => (h.2 k hk).1) (fun k hk => (h.2 k hk).2)
theorem WI.of609 {N : Nat} {w w' : Nat → Int64} (h : WI N w) (e : ∀ j : Nat, (j : Int) < 609 → w' j = w j) : WI N w' := h.congr (fun j hj => e j (by unfold rel at hj; omega))
