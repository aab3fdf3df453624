/-! A bound for one lift: the sum of the three squares grows by at most 195 / 128, and 130. -/
theorem bq_nn (x : Int) : 0 ≤ x * x := by
  rcases Int.le_total 0 x with h | h
  · exact Int.mul_nonneg h h
  · have h1 := Int.mul_nonneg (show 0 ≤ -x by omega) (show 0 ≤ -x by omega)
    rwa [Int.neg_mul_neg] at h1
theorem bq_cs (p q r a b c : Int) : (p * a + q * b + r * c) * (p * a + q * b + r * c) ≤ (p * p + q * q + r * r) * (a * a + b * b + c * c) := by
  have h1 := bq_nn (p * b - q * a)
  have h2 := bq_nn (p * c - r * a)
  have h3 := bq_nn (q * c - r * b)
  have e : (p * p + q * q + r * r) * (a * a + b * b + c * c) - (p * a + q * b + r * c) * (p * a + q * b + r * c) = (p * b - q * a) * (p * b - q * a) + (p * c - r * a) * (p * c - r * a) + (q * c - r * b) * (q * c - r * b) := by grind
  omega
theorem bq_abs {u S : Int} (h1 : u ≤ S) (h2 : -S ≤ u) : u * u ≤ S * S := by
  have h := Int.mul_nonneg (show 0 ≤ S - u by omega) (show 0 ≤ S + u by omega)
  have e : (S - u) * (S + u) = S * S - u * u := by grind
  omega
theorem bq_sum (M u : Int) : 64 * ((M + u) * (M + u)) ≤ 65 * (M * M) + 4160 * (u * u) := by
  have h := bq_nn (M - 64 * u)
  have e : (M - 64 * u) * (M - 64 * u) = M * M - 128 * (M * u) + 4096 * (u * u) := by grind
  have e2 : (M + u) * (M + u) = M * M + 2 * (M * u) + u * u := by grind
  omega
/-- two rows: neither longer than S, their product at most S / 2 -/
theorem bq_two {e w f E F a b c : Int} (h1 : e * e + w * w + f * f ≤ E * E + F * F) (h2 : 2 * (e * F - f * E) ≤ E * E + F * F) (h3 : -(2 * (e * F - f * E)) ≤ E * E + F * F) : 2 * ((e * a + w * b + f * c) * (e * a + w * b + f * c) + (F * a - E * c) * (F * a - E * c)) ≤ 3 * ((E * E + F * F) * (a * a + b * b + c * c)) := by
  obtain ⟨A, hA⟩ : ∃ A, A = e * a + w * b + f * c := ⟨_, rfl⟩
  obtain ⟨B, hB⟩ : ∃ B, B = F * a - E * c := ⟨_, rfl⟩
  obtain ⟨S, hS⟩ : ∃ S, S = E * E + F * F := ⟨_, rfl⟩
  obtain ⟨g, hg⟩ : ∃ g, g = e * F - f * E := ⟨_, rfl⟩
  obtain ⟨Q, hQ⟩ : ∃ Q, Q = a * a + b * b + c * c := ⟨_, rfl⟩
  have cs := bq_cs (A * e + B * F) (A * w) (A * f - B * E) a b c
  have i1 : (A * e + B * F) * a + A * w * b + (A * f - B * E) * c = A * A + B * B := by rw [hA, hB]; grind
  have i2 : (A * e + B * F) * (A * e + B * F) + A * w * (A * w) + (A * f - B * E) * (A * f - B * E) = A * A * (e * e + w * w + f * f) + 2 * (A * B * g) + B * B * S := by rw [hg, hS]; grind
  rw [← hA, ← hB, ← hS, ← hQ]
  rw [i1, i2, ← hQ] at cs
  rw [← hS] at h1
  rw [← hg, ← hS] at h2 h3
  have j1 : A * A * (e * e + w * w + f * f) ≤ A * A * S := Int.mul_le_mul_of_nonneg_left h1 (bq_nn A)
  have k1 := Int.mul_nonneg (bq_nn (A - B)) (show 0 ≤ S + 2 * g by omega)
  have k2 := Int.mul_nonneg (bq_nn (A + B)) (show 0 ≤ S - 2 * g by omega)
  have k3 : (A - B) * (A - B) * (S + 2 * g) + (A + B) * (A + B) * (S - 2 * g) = 2 * ((A * A + B * B) * S) - 8 * (A * B * g) := by grind
  have k4 : (A * A + B * B) * S = A * A * S + B * B * S := by grind
  obtain ⟨P, hP⟩ : ∃ P, P = A * A + B * B := ⟨_, rfl⟩
  obtain ⟨Y, hY⟩ : ∃ Y, Y = A * A * (e * e + w * w + f * f) + 2 * (A * B * g) + B * B * S := ⟨_, rfl⟩
  rw [← hP, ← hY] at cs
  rw [← hP] at k4 k3 ⊢
  have hY2 : 2 * Y ≤ 3 * (P * S) := by omega
  have q0 : 0 ≤ Q := by rw [hQ]; have q1 := bq_nn a; have q2 := bq_nn b; have q3 := bq_nn c; omega
  have s0 : 0 ≤ S := by rw [hS]; have q1 := bq_nn E; have q2 := bq_nn F; omega
  have p0 : 0 ≤ P := by rw [hP]; have q1 := bq_nn A; have q2 := bq_nn B; omega
  have m1 := Int.mul_le_mul_of_nonneg_right hY2 q0
  have m2 : 3 * (P * S) * Q = P * (3 * (S * Q)) := by grind
  have m3 : 2 * Y * Q = 2 * (Y * Q) := by grind
  have m4 : P * (2 * P) = 2 * (P * P) := by grind
  rcases Int.lt_or_eq_of_le p0 with z | z
  · exact Int.le_of_mul_le_mul_left (by omega) z
  · have := Int.mul_nonneg s0 q0
    omega
/-- one lift, as it is rounded -/
theorem bq_lift {E F w x y a b c d a' c' s1 s2 ρ : Int} (hS0 : 0 < E * E + F * F) (hd : w * d = w * b - y * a - x * c + ρ) (r0 : 0 ≤ ρ) (r1 : ρ ≤ w) (hE : 0 ≤ E) (hF : 0 ≤ F) (ha : (E * E + F * F) * a' = (E * E + F * F) * a + w * d * E - s1) (hc : (E * E + F * F) * c' = (E * E + F * F) * c + w * d * F - s2) (t1 : 0 ≤ s1 ∧ s1 ≤ E * E + F * F) (t2 : 0 ≤ s2 ∧ s2 ≤ E * E + F * F) (g1 : (E - y) * (E - y) + w * w + (F - x) * (F - x) ≤ E * E + F * F) (g2 : 2 * ((E - y) * F - (F - x) * E) ≤ E * E + F * F) (g3 : -(2 * ((E - y) * F - (F - x) * E)) ≤ E * E + F * F) (g4 : E * w ≤ E * E + F * F) (g5 : F * w ≤ E * E + F * F) : 128 * (a' * a' + c' * c') ≤ 195 * (a * a + b * b + c * c) + 16640 := by
  obtain ⟨S, hS⟩ : ∃ S, S = E * E + F * F := ⟨_, rfl⟩
  have two := bq_two (a := a) (b := b) (c := c) g1 g2 g3
  obtain ⟨A, hA⟩ : ∃ A, A = (E - y) * a + w * b + (F - x) * c := ⟨_, rfl⟩
  obtain ⟨B, hB⟩ : ∃ B, B = F * a - E * c := ⟨_, rfl⟩
  obtain ⟨Q, hQ⟩ : ∃ Q, Q = a * a + b * b + c * c := ⟨_, rfl⟩
  rw [← hA, ← hB, ← hS, ← hQ] at two
  have e1 : S * a' = E * A + F * B + (E * ρ - s1) := by rw [hS, ha, hd, hA, hB]; grind
  have e2 : S * c' = F * A - E * B + (F * ρ - s2) := by rw [hS, hc, show w * d * F = (w * b - y * a - x * c + ρ) * F from by rw [hd], hA, hB]; grind
  rw [← hS] at t1 t2 g4 g5 hS0
  rw [← hQ]
  obtain ⟨u1, hu1⟩ : ∃ u, u = E * ρ - s1 := ⟨_, rfl⟩
  obtain ⟨u2, hu2⟩ : ∃ u, u = F * ρ - s2 := ⟨_, rfl⟩
  obtain ⟨M1, hM1⟩ : ∃ u, u = E * A + F * B := ⟨_, rfl⟩
  obtain ⟨M2, hM2⟩ : ∃ u, u = F * A - E * B := ⟨_, rfl⟩
  rw [← hu1, ← hM1] at e1
  rw [← hu2, ← hM2] at e2
  have v1 : u1 * u1 ≤ S * S := by
    have z1 := Int.mul_le_mul_of_nonneg_left r1 hE
    have z2 := Int.mul_nonneg hE r0
    exact bq_abs (by omega) (by omega)
  have v2 : u2 * u2 ≤ S * S := by
    have z1 := Int.mul_le_mul_of_nonneg_left r1 hF
    have z2 := Int.mul_nonneg hF r0
    exact bq_abs (by omega) (by omega)
  have b1 := bq_sum M1 u1
  have b2 := bq_sum M2 u2
  rw [← e1] at b1
  rw [← e2] at b2
  have m : M1 * M1 + M2 * M2 = S * (A * A + B * B) := by rw [hM1, hM2, hS]; grind
  obtain ⟨P, hP⟩ : ∃ P, P = A * A + B * B := ⟨_, rfl⟩
  rw [← hP] at two m
  have n1 := Int.mul_le_mul_of_nonneg_left two (show 0 ≤ S by omega)
  have n2 : S * (2 * P) = 2 * (S * P) := by grind
  have n3 : S * (3 * (S * Q)) = 3 * (S * S * Q) := by grind
  have n4 : S * a' * (S * a') + S * c' * (S * c') = S * S * (a' * a' + c' * c') := by grind
  refine Int.le_of_mul_le_mul_left (a := S * S) ?_ (Int.mul_pos hS0 hS0)
  have n5 : S * S * (128 * (a' * a' + c' * c')) = 128 * (S * S * (a' * a' + c' * c')) := by grind
  have n6 : S * S * (195 * Q + 16640) = 195 * (S * S * Q) + 16640 * (S * S) := by grind
  rw [n5, n6, ← n4]
  omega
