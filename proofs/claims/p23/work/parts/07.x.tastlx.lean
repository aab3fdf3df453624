/-! A store into a row of longs that changes one entry alone. -/
section TMC
variable {p : Program} {l : Launch} {e : Env} {R : Room} {s : State} {m : MethodId} {args : Array Value} {below : List Frame} {meth : Method} {c : Code} {H : Heap} {locs : List Loc} {cells slots : Nat} {Q : State → Prop} {cc : ByteArray} {pc : Nat} {ls : Array Slot} {rest st0 : List Value}
variable {κ : Kt} {F F1 : Nat → Nat → Bool} {σ0 σ τ : Gh} {a t : Nat}
theorem tastlx {n : Nat} (hx : p.tables.exec = Jvm.exec) (hb : c.code = cc) (hK : va_K κ.1 vwCl (kTy κ) s) (hT : TS κ F σ0 σ s H locs) (ha : zk σ a t) (ht : t ≠ 0 ∧ t ≠ 1) (hsh : ∀ h f g, zS κ a t h f g = .inl (kA κ 1, n, .inr (.inl g))) (hPk : ∀ m f, zP t m f) {i : Int32} {x : Int64} (hi : 0 ≤ i.toInt) (hj : i.toInt < n) (hF : F t (ix i) = true) (hdg : decode cc pc = .ok (.lastore, 1))
    (kk : ∀ (H1 : Heap) (locs1 : List Loc) (τ : Gh), τ = zpul σ a (ix i) x → TS κ F σ0 τ s H1 locs1 → W p l e R s m args below meth c H1 locs1 cells slots Q (F0 m (pc + 1) ls rest)) : W p l e R s m args below meth c H locs cells slots Q (F0 m pc ls (.long x :: .int i :: .ref a :: rest)) := by
  obtain ⟨h9, q1, -, q3, -⟩ := hT.at ha ht.1
  rw [hsh] at q1
  have q1 : H[a]? = some (vp_cell (kA κ 1) (n, .inr (.inl (zJ σ a)))) := q1
  refine W.last hx hb q1 ((hK.2 1 (kA κ 1, .long) rfl).1 n (fun j => .long (zJ σ a j))) (fun q => by cases q) (by show ¬ (i < 0 ∨ (arrV _ _ _).slots.size ≤ _); rw [arrV_size]; exact g_in hi hj) rfl rfl hdg fun H1 e1 z oq => ?_
  refine kk H1 _ _ rfl (hT.set (by rw [show zT σ a = t from ha]; exact ht.1) (hFpul ha hF) q1 e1 (slots_setSlot _ _ _) z oq (Or.inr ⟨h9, ?_, by rw [show zT σ a = t from ha]; exact hPk _ _, by rw [show zT σ a = t from ha]; exact q3, fun q => absurd ((show zT σ a = t from ha).symm.trans q) ht.2⟩))
  rw [show zT σ a = t from ha, hsh]
  show H1[a]? = some (vp_cell _ _)
  rw [e1, vp_cell_l, vp_cell_l, arrV_store]
  congr 2
  funext q
  show updV (fun j => .long (zJ σ a j)) (ix i) (.long x) q = Value.long (vp_updL (zJ σ a) (ix i) x q)
  unfold updV vp_updL
  by_cases hq : q = ix i
  · rw [if_pos hq, if_pos hq]
  · rw [if_neg hq, if_neg hq]
end TMC
