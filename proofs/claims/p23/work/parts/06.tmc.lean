/-! Rows over states of which the kinds of the cells are known. -/
section TMC
variable {p : Program} {l : Launch} {e : Env} {R : Room} {s : State} {m : MethodId} {args : Array Value} {below : List Frame} {meth : Method} {c : Code} {H : Heap} {locs : List Loc} {cells slots : Nat} {Q : State → Prop} {cc : ByteArray} {pc : Nat} {ls : Array Slot} {rest st0 : List Value}
variable {κ : Kt} {F F1 : Nat → Nat → Bool} {σ0 σ τ : Gh} {a t : Nat}
def ix (i : Int32) : Nat := i.toInt.toNat
def zk (σ : Gh) (a t : Nat) : Prop := zT σ a = t
theorem zk.ne {a b t u : Nat} (h : zk σ a t) (g : zk σ b u) (hn : t ≠ u) : a ≠ b := fun q => hn (by rw [← (show zT σ a = t from h), q]; exact g)
theorem zk.ext {sz : Nat} (h : zk σ a t) (g : Ext F sz σ τ) (ht : t ≠ 0) : zk τ a t := (g.1 a (by rw [show zT σ a = t from h]; exact ht)).trans h
theorem zk.eI {sz : Nat} {j : Nat} (h : zk σ a t) (g : Ext F sz σ τ) (ht : t ≠ 0) (hF : F t j = false) : zI τ a j = zI σ a j := by
  have q : zT σ a = t := h
  exact (g.2.2.1 a j (by rw [q]; exact ht) (by rw [q]; exact hF)).1
theorem zk.eJ {sz : Nat} {j : Nat} (h : zk σ a t) (g : Ext F sz σ τ) (ht : t ≠ 0) (hF : F t j = false) : zJ τ a j = zJ σ a j := by
  have q : zT σ a = t := h
  exact (g.2.2.1 a j (by rw [q]; exact ht) (by rw [q]; exact hF)).2
theorem zk.eN {sz : Nat} (h : zk σ a t) (g : Ext F sz σ τ) (ht : t ≠ 0) (hF : F t 0 = false) : zN τ a = zN σ a := by
  have q : zT σ a = t := h
  exact g.2.2.2 a (by rw [q]; exact ht) (by rw [q]; exact hF)
/-! one number has been written -/
def zput (σ : Gh) (a k : Nat) (v : Int32) : Gh := zset σ a (upd (zI σ a) k v) (zJ σ a)
def zpul (σ : Gh) (a k : Nat) (v : Int64) : Gh := zset σ a (zI σ a) (vp_updL (zJ σ a) k v)
theorem zput_at {k : Nat} {v : Int32} (h : τ = zput σ a k v) : zI τ a k = v := by rw [h]; unfold zput; rw [zset_I]; simp [upd]
theorem zput_o {k x j : Nat} {v : Int32} (h : τ = zput σ a k v) (hn : x ≠ a ∨ j ≠ k) : zI τ x j = zI σ x j := by
  rw [h]; unfold zput
  by_cases e : x = a
  · subst e
    rw [zset_I]
    rcases hn with q | q
    · exact absurd rfl q
    · simp [upd, q]
  · rw [zset_In e]
theorem zput_J {k x : Nat} {v : Int32} (h : τ = zput σ a k v) : zJ τ x = zJ σ x := by
  rw [h]; unfold zput
  by_cases e : x = a
  · subst e; rw [zset_J]
  · rw [zset_Jn e]
theorem zput_N {k x : Nat} {v : Int32} (h : τ = zput σ a k v) : zN τ x = zN σ x := by rw [h]; rfl
theorem zput_k {k x t : Nat} {v : Int32} (h : τ = zput σ a k v) (g : zk σ x t) : zk τ x t := by rw [h]; exact g
theorem zput_kr {k x t : Nat} {v : Int32} (h : τ = zput σ a k v) (g : zk τ x t) : zk σ x t := by rw [h] at g; exact g
theorem zpul_at {k : Nat} {v : Int64} (h : τ = zpul σ a k v) : zJ τ a k = v := by rw [h]; unfold zpul; rw [zset_J]; simp [vp_updL]
theorem zpul_o {k x j : Nat} {v : Int64} (h : τ = zpul σ a k v) (hn : x ≠ a ∨ j ≠ k) : zJ τ x j = zJ σ x j := by
  rw [h]; unfold zpul
  by_cases e : x = a
  · subst e
    rw [zset_J]
    rcases hn with q | q
    · exact absurd rfl q
    · simp [vp_updL, q]
  · rw [zset_Jn e]
theorem zpul_I {k x : Nat} {v : Int64} (h : τ = zpul σ a k v) : zI τ x = zI σ x := by
  rw [h]; unfold zpul
  by_cases e : x = a
  · subst e; rw [zset_I]
  · rw [zset_In e]
theorem zpul_N {k x : Nat} {v : Int64} (h : τ = zpul σ a k v) : zN τ x = zN σ x := by rw [h]; rfl
theorem zpul_k {k x t : Nat} {v : Int64} (h : τ = zpul σ a k v) (g : zk σ x t) : zk τ x t := by rw [h]; exact g
/-! what a kind gives -/
theorem TS.at (hT : TS κ F σ0 σ s H locs) (ha : zk σ a t) (ht : t ≠ 0) : ∃ x, va_at κ.1 vwCl (a, zS κ a t x (zI σ a) (zJ σ a)) H ∧ zP t (zN σ a) (zI σ a) ∧ (∀ p ∈ zR t, p.2 = 0 ∨ zT σ (kR κ a p.1) = p.2) ∧ (t = 1 → zT σ x = 100 + zN σ a) := hT.1.at ha ht
theorem TS.ref (hT : TS κ F σ0 σ s H locs) (ha : zk σ a t) (ht : t ≠ 0) {k u : Nat} (hp : (k, u) ∈ zR t) (hu : u ≠ 0) : zk σ (kR κ a k) u := by
  obtain ⟨x, -, -, h, -⟩ := hT.at ha ht
  rcases h _ hp with q | q
  · exact absurd q hu
  · exact q
theorem TS.P (hT : TS κ F σ0 σ s H locs) (ha : zk σ a t) (ht : t ≠ 0) : zP t (zN σ a) (zI σ a) := by
  obtain ⟨x, -, h, -⟩ := hT.at ha ht
  exact h
theorem zR10 {i : Nat} (h : i < 48) : (i, 1) ∈ zR 10 := List.mem_map.mpr ⟨i, List.mem_range.mpr h, rfl⟩
theorem zR11 {i : Nat} (h : i < 46) : (i, 2) ∈ zR 11 := List.mem_map.mpr ⟨i, List.mem_range.mpr h, rfl⟩
theorem zR12 {i : Nat} (h : i < 2) : (i, 3) ∈ zR 12 := List.mem_map.mpr ⟨i, List.mem_range.mpr h, rfl⟩
theorem TS.o1 (hT : TS κ F σ0 σ s H locs) (ha : zk σ a 1) : ∃ x, va_at κ.1 vwCl (a, .inr (4, fs4 x (zI σ a))) H ∧ zk σ x (100 + zN σ a) := by
  obtain ⟨x, h, -, -, g⟩ := hT.at ha (by decide)
  exact ⟨x, h, g rfl⟩
theorem TS.oL {n : Nat} (hT : TS κ F σ0 σ s H locs) (ha : zk σ a (100 + n)) : va_at κ.1 vwCl (a, .inl (kA κ 0, n, .inl (zI σ a))) H := by
  obtain ⟨x, h, -⟩ := hT.at ha (by omega)
  rw [zS_big] at h
  exact h
theorem TS.o2 (hT : TS κ F σ0 σ s H locs) (ha : zk σ a 2) : va_at κ.1 vwCl (a, .inr (2, fs2 (kR κ a) (zI σ a) (zJ σ a))) H := by
  obtain ⟨x, h, -⟩ := hT.at ha (by decide)
  exact h
theorem TS.o3 (hT : TS κ F σ0 σ s H locs) (ha : zk σ a 3) : va_at κ.1 vwCl (a, .inr (1, fs1 (kR κ a) (zI σ a))) H := by
  obtain ⟨x, h, -⟩ := hT.at ha (by decide)
  exact h
theorem TS.o4 (hT : TS κ F σ0 σ s H locs) (ha : zk σ a 4) : va_at κ.1 vwCl (a, .inr (0, fs0 (kR κ a) (zI σ a))) H := by
  obtain ⟨x, h, -⟩ := hT.at ha (by decide)
  exact h
theorem TS.o5 (hT : TS κ F σ0 σ s H locs) (ha : zk σ a 5) : va_at κ.1 vwCl (a, .inr (0, fs0 (kR κ a) (zI σ a))) H := by
  obtain ⟨x, h, -⟩ := hT.at ha (by decide)
  exact h
theorem TS.o6 (hT : TS κ F σ0 σ s H locs) (ha : zk σ a 6) : va_at κ.1 vwCl (a, .inr (3, fs3 (kR κ a) (zI σ a))) H := by
  obtain ⟨x, h, -⟩ := hT.at ha (by decide)
  exact h
theorem TS.o7 (hT : TS κ F σ0 σ s H locs) (ha : zk σ a 7) : va_at κ.1 vwCl (a, .inr (5, fs5 (kR κ a) (zI σ a))) H := by
  obtain ⟨x, h, -⟩ := hT.at ha (by decide)
  exact h
theorem TS.o20 (hT : TS κ F σ0 σ s H locs) (ha : zk σ a 20) : va_at κ.1 vwCl (a, .inr (6, fs6 (kR κ a) (zI σ a))) H := by
  obtain ⟨x, h, -⟩ := hT.at ha (by decide)
  exact h
theorem TS.o8 (hT : TS κ F σ0 σ s H locs) (ha : zk σ a 8) : va_at κ.1 vwCl (a, .inl (kA κ 0, 48, .inl (zI σ a))) H := by
  obtain ⟨x, h, -⟩ := hT.at ha (by decide)
  exact h
theorem TS.o9 (hT : TS κ F σ0 σ s H locs) (ha : zk σ a 9) : va_at κ.1 vwCl (a, .inl (kA κ 1, 48, .inr (.inl (zJ σ a)))) H := by
  obtain ⟨x, h, -⟩ := hT.at ha (by decide)
  exact h
theorem TS.o10 (hT : TS κ F σ0 σ s H locs) (ha : zk σ a 10) : va_at κ.1 vwCl (a, .inl (kA κ 4, 48, .inr (.inr (.inr (.inr fun i => some (kR κ a i)))))) H := by
  obtain ⟨x, h, -⟩ := hT.at ha (by decide)
  exact h
theorem TS.o11 (hT : TS κ F σ0 σ s H locs) (ha : zk σ a 11) : va_at κ.1 vwCl (a, .inl (kA κ 5, 46, .inr (.inr (.inr (.inr fun i => some (kR κ a i)))))) H := by
  obtain ⟨x, h, -⟩ := hT.at ha (by decide)
  exact h
theorem TS.o12 (hT : TS κ F σ0 σ s H locs) (ha : zk σ a 12) : va_at κ.1 vwCl (a, .inl (kA κ 6, 2, .inr (.inr (.inr (.inr fun i => some (kR κ a i)))))) H := by
  obtain ⟨x, h, -⟩ := hT.at ha (by decide)
  exact h
theorem TS.o13 (hT : TS κ F σ0 σ s H locs) (ha : zk σ a 13) : va_at κ.1 vwCl (a, .inl (kA κ 3, 2, .inl (zI σ a))) H := by
  obtain ⟨x, h, -⟩ := hT.at ha (by decide)
  exact h
theorem TS.o14 (hT : TS κ F σ0 σ s H locs) (ha : zk σ a 14) : va_at κ.1 vwCl (a, .inl (kA κ 2, 700, .inl (zI σ a))) H := by
  obtain ⟨x, h, -⟩ := hT.at ha (by decide)
  exact h
theorem TS.o21 (hT : TS κ F σ0 σ s H locs) (ha : zk σ a 21) : va_at κ.1 vwCl (a, .inl (kA κ 1, 609, .inr (.inl (zJ σ a)))) H := by
  obtain ⟨x, h, -⟩ := hT.at ha (by decide)
  exact h
theorem TS.o22 (hT : TS κ F σ0 σ s H locs) (ha : zk σ a 22) : va_at κ.1 vwCl (a, .inl (kA κ 1, 1218, .inr (.inl (zJ σ a)))) H := by
  obtain ⟨x, h, -⟩ := hT.at ha (by decide)
  exact h
theorem TS.o23 (hT : TS κ F σ0 σ s H locs) (ha : zk σ a 23) : va_at κ.1 vwCl (a, .inl (kA κ 0, 700, .inl (zI σ a))) H := by
  obtain ⟨x, h, -⟩ := hT.at ha (by decide)
  exact h
theorem TS.o29 (hT : TS κ F σ0 σ s H locs) (ha : zk σ a 29) : va_at κ.1 vwCl (a, .inl (kA κ 3, 2, .inl (zI σ a))) H := by
  obtain ⟨x, h, -⟩ := hT.at ha (by decide)
  exact h
theorem TS.o30 (hT : TS κ F σ0 σ s H locs) (ha : zk σ a 30) : va_at κ.1 vwCl (a, .inl (kA κ 1, 609, .inr (.inl (zJ σ a)))) H := by
  obtain ⟨x, h, -⟩ := hT.at ha (by decide)
  exact h
theorem TS.o15 (hT : TS κ F σ0 σ s H locs) (ha : zk σ a 15) : va_at κ.1 vwCl (a, .inl (kA κ 0, 48, .inl (zI σ a))) H := by
  obtain ⟨x, h, -⟩ := hT.at ha (by decide)
  exact h
theorem TS.o16 (hT : TS κ F σ0 σ s H locs) (ha : zk σ a 16) : va_at κ.1 vwCl (a, .inl (kA κ 0, 48, .inl (zI σ a))) H := by
  obtain ⟨x, h, -⟩ := hT.at ha (by decide)
  exact h
theorem TS.o17 (hT : TS κ F σ0 σ s H locs) (ha : zk σ a 17) : va_at κ.1 vwCl (a, .inl (kA κ 0, 48, .inl (zI σ a))) H := by
  obtain ⟨x, h, -⟩ := hT.at ha (by decide)
  exact h
theorem TS.o18 (hT : TS κ F σ0 σ s H locs) (ha : zk σ a 18) : va_at κ.1 vwCl (a, .inl (kA κ 0, 48, .inl (zI σ a))) H := by
  obtain ⟨x, h, -⟩ := hT.at ha (by decide)
  exact h
theorem TS.o25 (hT : TS κ F σ0 σ s H locs) (ha : zk σ a 25) : va_at κ.1 vwCl (a, .inl (kA κ 0, 48, .inl (zI σ a))) H := by
  obtain ⟨x, h, -⟩ := hT.at ha (by decide)
  exact h
theorem TS.o26 (hT : TS κ F σ0 σ s H locs) (ha : zk σ a 26) : va_at κ.1 vwCl (a, .inl (kA κ 0, 48, .inl (zI σ a))) H := by
  obtain ⟨x, h, -⟩ := hT.at ha (by decide)
  exact h
theorem TS.o27 (hT : TS κ F σ0 σ s H locs) (ha : zk σ a 27) : va_at κ.1 vwCl (a, .inl (kA κ 0, 48, .inl (zI σ a))) H := by
  obtain ⟨x, h, -⟩ := hT.at ha (by decide)
  exact h
theorem TS.o28 (hT : TS κ F σ0 σ s H locs) (ha : zk σ a 28) : va_at κ.1 vwCl (a, .inl (kA κ 0, 48, .inl (zI σ a))) H := by
  obtain ⟨x, h, -⟩ := hT.at ha (by decide)
  exact h
theorem TS.o24 (hT : TS κ F σ0 σ s H locs) (ha : zk σ a 24) : va_at κ.1 vwCl (a, .inl (kA κ 1, 1, .inr (.inl (zJ σ a)))) H := by
  obtain ⟨x, h, -⟩ := hT.at ha (by decide)
  exact h
theorem hFput {k : Nat} {v : Int32} (ha : zk σ a t) (hF : F t k = true) : ∀ j, F (zT σ a) j = false → upd (zI σ a) k v j = zI σ a j ∧ zJ σ a j = zJ σ a j := by
  intro j hj
  rw [show zT σ a = t from ha] at hj
  have e : j ≠ k := fun q => by rw [q, hF] at hj; cases hj
  exact ⟨by simp [upd, e], rfl⟩
theorem hFpul {k : Nat} {v : Int64} (ha : zk σ a t) (hF : F t k = true) : ∀ j, F (zT σ a) j = false → zI σ a j = zI σ a j ∧ vp_updL (zJ σ a) k v j = zJ σ a j := by
  intro j hj
  rw [show zT σ a = t from ha] at hj
  have e : j ≠ k := fun q => by rw [q, hF] at hj; cases hj
  exact ⟨rfl, by simp [vp_updL, e]⟩
theorem slots_setSlot (x : Cell) (i : Nat) (v : Value) : (x.setSlot i v).slots.size = x.slots.size := by simp [Cell.setSlot]
/-- a field is written -/
theorem tput {own ref C : String} {T : u_T} {N cn index : Nat} (hx : p.tables.exec = Jvm.exec) (hb : c.code = cc) (hg : ∀ w ∈ GW, w.before args s = true) (hin : ∀ w ∈ u_ws C T N, w ∈ GW) (ty0 : Nat → FieldType) (hty : ∀ k, k < N → parseFieldDescriptor (T k).2.2.1 = some (ty0 k)) (hnm : ∀ a, a < N → ∀ b, b < N → a ≠ b → (T a).2.1 ≠ (T b).2.1) (hown : s.vm.findClass own = some m.cls) (hK : va_K κ.1 vwCl (kTy κ) s) (hT : TS κ F σ0 σ s H locs) (ha : zk σ a t) (ht : t ≠ 0) {fs : List Value} (ho : va_at κ.1 vwCl (a, .inr (cn, fs)) H) (hc : vwCl[cn]? = some (C, T, N)) (k : Nat) (hk : k < N) (hlink : (Cond.fieldLink own index ref (T k).2.1 (T k).2.2.1).before args s = true) (hsame : ∀ x, s.fieldFound? (T k).1 (T k).2.1 (T k).2.2.1 = some x → s.fieldFound? ref (T k).2.1 (T k).2.2.1 = some x) (hfin : (T k).2.2.2 = false) {ty : FieldType} {v : Value} (hd : parseFieldDescriptor (T k).2.2.1 = some ty) (hn : narrow ty v = v) (hfit : fits ty v = true) (hl : k < fs.length) {f : Nat → Int32} {g : Nat → Int64}
    (hF : ∀ j, F (zT σ a) j = false → f j = zI σ a j ∧ g j = zJ σ a j) (hok : ∀ H' : Heap, va_at κ.1 vwCl (a, .inr (cn, fs.set k v)) H' → zok κ (zT σ) H' a (zT σ a) (zN σ a) f g) (hdg : decode cc pc = .ok (.putfield index, 3))
    (kk : ∀ (H1 : Heap) (locs1 : List Loc), TS κ F σ0 (zset σ a f g) s H1 locs1 → W p l e R s m args below meth c H1 locs1 cells slots Q (F0 m (pc + 3) ls rest)) : W p l e R s m args below meth c H locs cells slots Q (F0 m pc ls (v :: .ref a :: rest)) := by
  have hap := va_apart (own := own) hg hin ty0 hty hnm hK hc
  obtain ⟨r, h1, cell, q1, q2, q3, q4⟩ := ho
  have hr : r = (C, T, N) := Option.some.inj (h1.symm.trans hc)
  subst hr
  obtain ⟨hS, hfc, kC, hkC, hkind⟩ := hK.1 cn _ hc
  obtain ⟨cf, kf, fi, f9, hi, hsl⟩ := hS k hk
  have hlay := hg _ (hin _ (u_in_lay hk))
  unfold u_lay at hlay
  rw [if_neg (by rw [hfin]; decide)] at hlay
  have hst := (u_facts hfc hkC (u_lays hg hin hk) hi).1
  have h6 := u_store hfc hkC hkind hlay hi hd hn hfit
  refine W.putK hx hb (f := f9) ⟨hown, hlink, ⟨_, _, _, hsame _ hi⟩, hst⟩ (by rw [q2]; exact h6) q1 q3 (by rw [hsl]; exact k2_hasslot (q4 k hk)) rfl rfl hdg fun H' e1 e2 e3 => ?_
  rw [hsl] at e1 ⊢
  exact kk H' _ (hT.set (by rw [show zT σ a = t from ha]; exact ht) hF q1 e1 (slots_setSlot _ _ _) e2 e3 (hok H' ⟨_, hc, t_OB.to (V := updV (vp_V fs) k v) ⟨_, e1, q2, q3, t_set q4 hap hk v⟩ (fun j _ => vp_updV_set hl v j)⟩))
/-- an element of an int array is written -/
theorem tasti {n : Nat} (hx : p.tables.exec = Jvm.exec) (hb : c.code = cc) (hK : va_K κ.1 vwCl (kTy κ) s) (hT : TS κ F σ0 σ s H locs) (ha : zk σ a t) (ht : t ≠ 0 ∧ t ≠ 1) (hsh : ∀ h f g, zS κ a t h f g = .inl (kA κ 0, n, .inl f)) (hPk : ∀ m f, zP t m f) (hF : ∀ k, F t k = true) {i x : Int32} (hi : 0 ≤ i.toInt) (hj : i.toInt < n) (hdg : decode cc pc = .ok (.iastore, 1))
    (kk : ∀ (H1 : Heap) (locs1 : List Loc) (τ : Gh), τ = zput σ a (ix i) x → TS κ F σ0 τ s H1 locs1 → W p l e R s m args below meth c H1 locs1 cells slots Q (F0 m (pc + 1) ls rest)) : W p l e R s m args below meth c H locs cells slots Q (F0 m pc ls (.int x :: .int i :: .ref a :: rest)) := by
  obtain ⟨h9, q1, -, q3, -⟩ := hT.at ha ht.1
  rw [hsh] at q1
  have q1 : H[a]? = some (vp_cell (kA κ 0) (n, .inl (zI σ a))) := q1
  refine W.iast hx hb q1 ((hK.2 0 (kA κ 0, .int) rfl).1 n (fun j => .int (zI σ a j))) (fun q => by cases q) (by show ¬ (i < 0 ∨ (arrV _ _ _).slots.size ≤ _); rw [arrV_size]; exact g_in hi hj) rfl rfl hdg fun H1 e1 z oq => ?_
  refine kk H1 _ _ rfl (hT.set (by rw [show zT σ a = t from ha]; exact ht.1) (hFput ha (hF _)) q1 e1 (slots_setSlot _ _ _) z oq (Or.inr ⟨h9, ?_, by rw [show zT σ a = t from ha]; exact hPk _ _, by rw [show zT σ a = t from ha]; exact q3, fun q => absurd ((show zT σ a = t from ha).symm.trans q) ht.2⟩))
  rw [show zT σ a = t from ha, hsh]
  show H1[a]? = some (vp_cell _ _)
  rw [e1, vp_cell_i, vp_cell_i, arrV_store]
  congr 2
  funext q
  show updV (fun j => .int (zI σ a j)) (ix i) (.int x) q = Value.int (upd (zI σ a) (ix i) x q)
  unfold updV upd
  by_cases hq : q = ix i
  · rw [if_pos hq, if_pos hq]
  · rw [if_neg hq, if_neg hq]
theorem tastl {n : Nat} (hx : p.tables.exec = Jvm.exec) (hb : c.code = cc) (hK : va_K κ.1 vwCl (kTy κ) s) (hT : TS κ F σ0 σ s H locs) (ha : zk σ a t) (ht : t ≠ 0 ∧ t ≠ 1) (hsh : ∀ h f g, zS κ a t h f g = .inl (kA κ 1, n, .inr (.inl g))) (hPk : ∀ m f, zP t m f) (hF : ∀ k, F t k = true) {i : Int32} {x : Int64} (hi : 0 ≤ i.toInt) (hj : i.toInt < n) (hdg : decode cc pc = .ok (.lastore, 1))
    (kk : ∀ (H1 : Heap) (locs1 : List Loc) (τ : Gh), τ = zpul σ a (ix i) x → TS κ F σ0 τ s H1 locs1 → W p l e R s m args below meth c H1 locs1 cells slots Q (F0 m (pc + 1) ls rest)) : W p l e R s m args below meth c H locs cells slots Q (F0 m pc ls (.long x :: .int i :: .ref a :: rest)) := by
  obtain ⟨h9, q1, -, q3, -⟩ := hT.at ha ht.1
  rw [hsh] at q1
  have q1 : H[a]? = some (vp_cell (kA κ 1) (n, .inr (.inl (zJ σ a)))) := q1
  refine W.last hx hb q1 ((hK.2 1 (kA κ 1, .long) rfl).1 n (fun j => .long (zJ σ a j))) (fun q => by cases q) (by show ¬ (i < 0 ∨ (arrV _ _ _).slots.size ≤ _); rw [arrV_size]; exact g_in hi hj) rfl rfl hdg fun H1 e1 z oq => ?_
  refine kk H1 _ _ rfl (hT.set (by rw [show zT σ a = t from ha]; exact ht.1) (hFpul ha (hF _)) q1 e1 (slots_setSlot _ _ _) z oq (Or.inr ⟨h9, ?_, by rw [show zT σ a = t from ha]; exact hPk _ _, by rw [show zT σ a = t from ha]; exact q3, fun q => absurd ((show zT σ a = t from ha).symm.trans q) ht.2⟩))
  rw [show zT σ a = t from ha, hsh]
  show H1[a]? = some (vp_cell _ _)
  rw [e1, vp_cell_l, vp_cell_l, arrV_store]
  congr 2
  funext q
  show updV (fun j => .long (zJ σ a j)) (ix i) (.long x) q = Value.long (vp_updL (zJ σ a) (ix i) x q)
  unfold updV vp_updL
  by_cases hq : q = ix i
  · rw [if_pos hq, if_pos hq]
  · rw [if_neg hq, if_neg hq]
theorem tastb {n : Nat} (hx : p.tables.exec = Jvm.exec) (hb : c.code = cc) (hK : va_K κ.1 vwCl (kTy κ) s) (hT : TS κ F σ0 σ s H locs) (ha : zk σ a t) (ht : t ≠ 0 ∧ t ≠ 1) (hsh : ∀ h f g, zS κ a t h f g = .inl (kA κ 2, n, .inl f)) (hPk : ∀ m f, zP t m f) (hF : ∀ k, F t k = true) {i x : Int32} (hi : 0 ≤ i.toInt) (hj : i.toInt < n) (hdg : decode cc pc = .ok (.bastore, 1))
    (kk : ∀ (H1 : Heap) (locs1 : List Loc) (τ : Gh), τ = zput σ a (ix i) (vp_nar .byte x) → TS κ F σ0 τ s H1 locs1 → W p l e R s m args below meth c H1 locs1 cells slots Q (F0 m (pc + 1) ls rest)) : W p l e R s m args below meth c H locs cells slots Q (F0 m pc ls (.int x :: .int i :: .ref a :: rest)) := by
  obtain ⟨h9, q1, -, q3, -⟩ := hT.at ha ht.1
  rw [hsh] at q1
  have q1 : H[a]? = some (vp_cell (kA κ 2) (n, .inl (zI σ a))) := q1
  refine W.bast hx hb q1 ((hK.2 2 (kA κ 2, .byte) rfl).1 n (fun j => .int (zI σ a j))) (fun q => by cases q) (by show ¬ (i < 0 ∨ (arrV _ _ _).slots.size ≤ _); rw [arrV_size]; exact g_in hi hj) rfl rfl hdg fun H1 e1 z oq => ?_
  refine kk H1 _ _ rfl (hT.set (by rw [show zT σ a = t from ha]; exact ht.1) (hFput ha (hF _)) q1 e1 (slots_setSlot _ _ _) z oq (Or.inr ⟨h9, ?_, by rw [show zT σ a = t from ha]; exact hPk _ _, by rw [show zT σ a = t from ha]; exact q3, fun q => absurd ((show zT σ a = t from ha).symm.trans q) ht.2⟩))
  rw [show zT σ a = t from ha, hsh]
  show H1[a]? = some (vp_cell _ _)
  rw [e1, vp_cell_i, vp_cell_i, arrV_store]
  congr 2
  funext q
  show updV (fun j => .int (zI σ a j)) (ix i) (.int (vp_nar .byte x)) q = Value.int (upd (zI σ a) (ix i) (vp_nar .byte x) q)
  unfold updV upd
  by_cases hq : q = ix i
  · rw [if_pos hq, if_pos hq]
  · rw [if_neg hq, if_neg hq]
theorem tastz {n : Nat} (hx : p.tables.exec = Jvm.exec) (hb : c.code = cc) (hK : va_K κ.1 vwCl (kTy κ) s) (hT : TS κ F σ0 σ s H locs) (ha : zk σ a t) (ht : t ≠ 0 ∧ t ≠ 1) (hsh : ∀ h f g, zS κ a t h f g = .inl (kA κ 3, n, .inl f)) (hPk : ∀ m f, zP t m f) (hF : ∀ k, F t k = true) {i x : Int32} (hi : 0 ≤ i.toInt) (hj : i.toInt < n) (hdg : decode cc pc = .ok (.bastore, 1))
    (kk : ∀ (H1 : Heap) (locs1 : List Loc) (τ : Gh), τ = zput σ a (ix i) (vp_nar .boolean x) → TS κ F σ0 τ s H1 locs1 → W p l e R s m args below meth c H1 locs1 cells slots Q (F0 m (pc + 1) ls rest)) : W p l e R s m args below meth c H locs cells slots Q (F0 m pc ls (.int x :: .int i :: .ref a :: rest)) := by
  obtain ⟨h9, q1, -, q3, -⟩ := hT.at ha ht.1
  rw [hsh] at q1
  have q1 : H[a]? = some (vp_cell (kA κ 3) (n, .inl (zI σ a))) := q1
  refine W.zast hx hb q1 ((hK.2 3 (kA κ 3, .boolean) rfl).1 n (fun j => .int (zI σ a j))) (fun q => by cases q) (by show ¬ (i < 0 ∨ (arrV _ _ _).slots.size ≤ _); rw [arrV_size]; exact g_in hi hj) rfl rfl hdg fun H1 e1 z oq => ?_
  refine kk H1 _ _ rfl (hT.set (by rw [show zT σ a = t from ha]; exact ht.1) (hFput ha (hF _)) q1 e1 (slots_setSlot _ _ _) z oq (Or.inr ⟨h9, ?_, by rw [show zT σ a = t from ha]; exact hPk _ _, by rw [show zT σ a = t from ha]; exact q3, fun q => absurd ((show zT σ a = t from ha).symm.trans q) ht.2⟩))
  rw [show zT σ a = t from ha, hsh]
  show H1[a]? = some (vp_cell _ _)
  rw [e1, vp_cell_i, vp_cell_i, arrV_store]
  congr 2
  funext q
  show updV (fun j => .int (zI σ a j)) (ix i) (.int (vp_nar .boolean x)) q = Value.int (upd (zI σ a) (ix i) (vp_nar .boolean x) q)
  unfold updV upd
  by_cases hq : q = ix i
  · rw [if_pos hq, if_pos hq]
  · rw [if_neg hq, if_neg hq]
theorem TS.k (hT : TS κ F σ0 σ s H locs) (h : zk σ0 a t) (ht : t ≠ 0) : zk σ a t := h.ext hT.2.2.1 ht
theorem TS.eI {k : Nat} {v : Int32} (hT : TS κ F σ0 σ s H locs) (h : zk σ0 a t) (ht : t ≠ 0) (hF : F t k = false) (e9 : zI σ0 a k = v) : zI σ a k = v := (h.eI hT.2.2.1 ht hF).trans e9
theorem TS.eJ {k : Nat} {v : Int64} (hT : TS κ F σ0 σ s H locs) (h : zk σ0 a t) (ht : t ≠ 0) (hF : F t k = false) (e9 : zJ σ0 a k = v) : zJ σ a k = v := (h.eJ hT.2.2.1 ht hF).trans e9
theorem TS.eN {v : Nat} (hT : TS κ F σ0 σ s H locs) (h : zk σ0 a t) (ht : t ≠ 0) (hF : F t 0 = false) (e9 : zN σ0 a = v) : zN σ a = v := (h.eN hT.2.2.1 ht hF).trans e9
theorem zset_Iid {g : Nat → Int64} {x : Nat} : zI (zset σ a (zI σ a) g) x = zI σ x := by
  by_cases e : x = a
  · subst e; rw [zset_I]
  · rw [zset_In e]
theorem TS.kr (hT : TS κ F σ0 σ s H locs) (h : zk σ a t) (ht : t ≠ 0) (h1 : t < 100) : zk σ0 a t := by
  have h : zT σ a = t := h
  rcases hT.2.2.1.2.1 a (by rw [h]; exact ht) with q | q
  · exact (hT.2.2.1.1 a q).symm.trans h
  · exact absurd q.2 (by rw [h]; omega)
theorem ix_lt {i : Int32} {n : Nat} (h : 0 ≤ i.toInt) (g : i.toInt < n) : ix i < n := by
  have : ix i = i.toInt.toNat := rfl
  omega
theorem gl_nz {y : Int64} (h : y.toInt ≠ 0) : ¬ y = 0 := fun q => h (by rw [q]; decide)
theorem gi_nz {y : Int32} (h : y.toInt ≠ 0) : ¬ y = 0 := fun q => h (by rw [q]; decide)
end TMC
