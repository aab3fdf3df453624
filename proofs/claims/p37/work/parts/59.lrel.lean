/-! What both keep alike: the text, the latest error, which slots are kept. -/
def LREL (κ : Kt) (σ : Gh) (x mm : Nat) : Prop := (zI σ (kR κ x 0) 1).toInt = (zI σ mm 13).toInt ∧ (tal (zI σ (kR κ (kR κ x 0) 0)) (zI σ (kR κ mm 12)) (zI σ mm 13).toInt.toNat ∧ tnn (zI σ (kR κ mm 12)) (zI σ mm 13).toInt.toNat) ∧ ((zI σ (kR κ x 0) 2).toInt = (zI σ mm 15).toInt ∧ (zI σ (kR κ x 0) 3).toInt = (zI σ mm 16).toInt) ∧ ∀ i : Nat, i < 2 → zI σ (kR κ x 6) i = zI σ (kR κ mm 4) i
theorem tnn_less {b : Nat → Int32} {L M : Nat} (h : tnn b L) (hM : M ≤ L) : tnn b M := fun j hj => h j (by omega)
