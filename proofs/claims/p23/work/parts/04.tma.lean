/-! States of which the kinds of the cells are known: a ghost says of each address its kind, of a Whole how many limbs it has, and what numbers stand in the cell. -/
abbrev Gh : Type := (Nat → Nat) × (Nat → Nat) × (Nat → Nat → Int32) × (Nat → Nat → Int64)
def zT (σ : Gh) (a : Nat) : Nat := σ.1 a
def zN (σ : Gh) (a : Nat) : Nat := σ.2.1 a
def zI (σ : Gh) (a : Nat) : Nat → Int32 := σ.2.2.1 a
def zJ (σ : Gh) (a : Nat) : Nat → Int64 := σ.2.2.2 a
abbrev Kt : Type := va_G × (Nat → ClassId) × (Nat → Nat → Nat) × List Nat × Nat × Nat × (Nat → Nat) × (Nat → Nat)
def kR (κ : Kt) (a : Nat) : Nat → Nat := κ.2.2.1 a
def kW (κ : Kt) : List Nat := κ.2.2.2.1
def kC (κ : Kt) : Nat := κ.2.2.2.2.1
def kS (κ : Kt) : Nat := κ.2.2.2.2.2.1
def kK (κ : Kt) : Nat → Nat := κ.2.2.2.2.2.2.1
def kV (κ : Kt) : Nat → Nat := κ.2.2.2.2.2.2.2
def kA (κ : Kt) : Nat → ClassId := κ.2.1
def kTy (κ : Kt) : List (ClassId × FieldType) := [(kA κ 0, .int), (kA κ 1, .long), (kA κ 2, .byte), (kA κ 3, .boolean), (kA κ 4, .object RX4), (kA κ 5, .object RX2), (kA κ 6, .object RX1)]
def isB (x : Int32) : Prop := x = 0 ∨ x = 1
theorem isB0 : isB 0 := Or.inl rfl
theorem isB1 : isB 1 := Or.inr rfl
theorem isB_n {x : Int32} (h : isB x) : narrow .boolean (.int x) = .int x := by rcases h with h | h <;> rw [h] <;> decide
theorem isB_f {x : Int32} (h : isB x) : fits .boolean (.int x) = true := by rcases h with h | h <;> rw [h] <;> decide
/-- the fields by kind -/
def fs0 (r : Nat → Nat) (c : Nat → Int32) : List Value := [.ref (r 0), .ref (r 1), .int (c 2), .int (c 3), .int (c 4), .int (c 5), .int (c 6)]
def fs1 (r : Nat → Nat) (c : Nat → Int32) : List Value := [.ref (r 0), .ref (r 1), .ref (r 2), .ref (r 3), .ref (r 4), .int (c 5), .ref (r 6), .int (c 7), .int (c 8), .int (c 9), .ref (r 10), .ref (r 11), .ref (r 12)]
def fs2 (r : Nat → Nat) (c : Nat → Int32) (l : Nat → Int64) : List Value := [.int (c 0), .int (c 1), .int (c 2), .long (l 3), .long (l 4), .long (l 5), .long (l 6), .int (c 7), .int (c 8), .ref (r 9)]
def fs3 (r : Nat → Nat) (c : Nat → Int32) : List Value := [.ref (r 0), .int (c 1), .int (c 2), .int (c 3), .int (c 4), .int (c 5), .int (c 6), .int (c 7)]
def fs4 (h : Nat) (c : Nat → Int32) : List Value := [.ref h, .int (c 1), .int (c 2)]
def fs5 (r : Nat → Nat) (c : Nat → Int32) : List Value := [.ref (r 0), .ref (r 1), .ref (r 2), .ref (r 3), .ref (r 4), .ref (r 5), .ref (r 6), .int (c 7), .int (c 8), .int (c 9)]
def fs6 (r : Nat → Nat) (c : Nat → Int32) : List Value := [.int (c 0), .ref (r 1), .ref (r 2), .ref (r 3), .ref (r 4), .ref (r 5), .ref (r 6), .int (c 7), .int (c 8), .int (c 9), .int (c 10), .int (c 11), .ref (r 12), .int (c 13), .int (c 14), .int (c 15), .int (c 16), .int (c 17), .int (c 18), .int (c 19), .int (c 20), .int (c 21), .int (c 22), .int (c 23), .int (c 24), .ref (r 25), .ref (r 26)]
/-- what stands in a cell of a kind: 1 Whole, 2 Step, 3 State, 4 Source, 5 the draft, 6 Text, 7 LiftingSignal, 8 int[48], 9 long[48], 10 Whole[48], 11 Step[46], 12 State[2], 13 boolean[2], 14 byte[700], 8 and 15 to 18 position, stepOf, original and the draft's two, 20 the reference, 21 and 30 its rows long[609], 22 long[1218], 23 int[700], 25 to 28 its int[48], 29 its boolean[2], 24 long[1], 100 + n limbs -/
def zS (κ : Kt) (a t h : Nat) (c : Nat → Int32) (l : Nat → Int64) : va_E := match t with
  | 1 => .inr (4, fs4 h c)
  | 2 => .inr (2, fs2 (kR κ a) c l)
  | 3 => .inr (1, fs1 (kR κ a) c)
  | 4 => .inr (0, fs0 (kR κ a) c)
  | 5 => .inr (0, fs0 (kR κ a) c)
  | 6 => .inr (3, fs3 (kR κ a) c)
  | 7 => .inr (5, fs5 (kR κ a) c)
  | 8 => .inl (kA κ 0, 48, .inl c)
  | 9 => .inl (kA κ 1, 48, .inr (.inl l))
  | 10 => .inl (kA κ 4, 48, .inr (.inr (.inr (.inr fun i => some (kR κ a i)))))
  | 11 => .inl (kA κ 5, 46, .inr (.inr (.inr (.inr fun i => some (kR κ a i)))))
  | 12 => .inl (kA κ 6, 2, .inr (.inr (.inr (.inr fun i => some (kR κ a i)))))
  | 13 => .inl (kA κ 3, 2, .inl c)
  | 14 => .inl (kA κ 2, 700, .inl c)
  | 15 => .inl (kA κ 0, 48, .inl c)
  | 16 => .inl (kA κ 0, 48, .inl c)
  | 17 => .inl (kA κ 0, 48, .inl c)
  | 18 => .inl (kA κ 0, 48, .inl c)
  | 20 => .inr (6, fs6 (kR κ a) c)
  | 21 => .inl (kA κ 1, 609, .inr (.inl l))
  | 22 => .inl (kA κ 1, 1218, .inr (.inl l))
  | 23 => .inl (kA κ 0, 700, .inl c)
  | 24 => .inl (kA κ 1, 1, .inr (.inl l))
  | 25 => .inl (kA κ 0, 48, .inl c)
  | 26 => .inl (kA κ 0, 48, .inl c)
  | 27 => .inl (kA κ 0, 48, .inl c)
  | 28 => .inl (kA κ 0, 48, .inl c)
  | 29 => .inl (kA κ 3, 2, .inl c)
  | 30 => .inl (kA κ 1, 609, .inr (.inl l))
  | t => .inl (kA κ 0, t - 100, .inl c)
def zB (x : Int32) (lo hi : Int) : Prop := lo ≤ x.toInt ∧ x.toInt ≤ hi
/-- what numbers may stand there -/
def zP (t n : Nat) (c : Nat → Int32) : Prop := match t with
  | 1 => (2 ≤ n ∧ n ≤ 1500) ∧ zB (c 1) 0 n ∧ isB (c 2)
  | 2 => zB (c 0) 0 47 ∧ zB (c 1) 0 47 ∧ zB (c 2) 0 47 ∧ isB (c 8)
  | 3 => zB (c 5) 0 46 ∧ isB (c 9)
  | 4 => zB (c 2) 2 48 ∧ isB (c 5)
  | 5 => zB (c 2) 0 48 ∧ isB (c 5)
  | 6 => zB (c 1) 0 700 ∧ zB (c 5) 0 700 ∧ zB (c 6) 0 700
  | 20 => isB (c 17)
  | _ => True
/-- what its references lead to -/
def zR (t : Nat) : List (Nat × Nat) := match t with
  | 2 => [(9, 1)]
  | 3 => [(0, 4), (1, 10), (2, 9), (3, 15), (4, 11), (6, 1), (10, 1), (11, 1), (12, 1)]
  | 4 => [(0, 8), (1, 16)]
  | 5 => [(0, 17), (1, 18)]
  | 6 => [(0, 14)]
  | 7 => [(0, 6), (1, 4), (2, 5), (3, 3), (4, 3), (5, 12), (6, 13)]
  | 10 => (List.range 48).map fun i => (i, 1)
  | 11 => (List.range 46).map fun i => (i, 2)
  | 12 => (List.range 2).map fun i => (i, 3)
  | 20 => [(1, 21), (2, 30), (3, 22), (4, 29), (5, 25), (6, 26), (12, 23), (25, 27), (26, 28)]
  | _ => []
def zok (κ : Kt) (T : Nat → Nat) (H : Heap) (a t n : Nat) (c : Nat → Int32) (l : Nat → Int64) : Prop :=
  t = 0 ∨ ∃ h, va_at κ.1 vwCl (a, zS κ a t h c l) H ∧ zP t n c ∧ (∀ p ∈ zR t, p.2 = 0 ∨ T (kR κ a p.1) = p.2) ∧ (t = 1 → T h = 100 + n)
def TI (κ : Kt) (σ : Gh) (H : Heap) : Prop := ∀ a, zok κ (zT σ) H a (zT σ a) (zN σ a) (zI σ a) (zJ σ a)
/-- how many arrays and elements a Whole of n limbs may still make -/
def pcl (n : Nat) : Nat := (1503 - n) / 4
def psl (n : Nat) : Nat := if n < 1500 then 4500 - 2 * n else 0
def zpc (κ : Kt) (σ : Gh) : Nat := ((kW κ).map fun a => pcl (zN σ a)).sum
def zps (κ : Kt) (σ : Gh) : Nat := ((kW κ).map fun a => psl (zN σ a)).sum
def hsl (H : Heap) : Nat := (H.toList.map fun q => q.slots.size).sum
def CAP (κ : Kt) (σ : Gh) (H : Heap) : Prop := (∀ a, zT σ a = 1 → a ∈ kW κ) ∧ H.size + zpc κ σ ≤ kC κ ∧ hsl H + zps κ σ ≤ kS κ
/-- what a method may have changed -/
def Ext (F : Nat → Nat → Bool) (sz : Nat) (σ τ : Gh) : Prop := (∀ a, zT σ a ≠ 0 → zT τ a = zT σ a) ∧ (∀ a, zT τ a ≠ 0 → zT σ a ≠ 0 ∨ (sz ≤ a ∧ 100 ≤ zT τ a)) ∧ (∀ a k, zT σ a ≠ 0 → F (zT σ a) k = false → zI τ a k = zI σ a k ∧ zJ τ a k = zJ σ a k) ∧ (∀ a, zT σ a ≠ 0 → F (zT σ a) 0 = false → zN τ a = zN σ a)
def tA (σ : Gh) (sz : Nat) : Nat → Prop := fun q => zT σ q ≠ 0 ∨ sz ≤ q
def TS (κ : Kt) (F : Nat → Nat → Bool) (σ0 σ : Gh) (s : State) (H : Heap) (locs : List Loc) : Prop := TI κ σ H ∧ CAP κ σ H ∧ Ext F s.heap.size σ0 σ ∧ va_S (tA σ0 s.heap.size) s.heap H locs
/-! heaps: sizes -/
theorem hsl_of {H H' : Heap} (h : ∀ q : Nat, (H'[q]?).map (fun x => x.slots.size) = (H[q]?).map (fun x => x.slots.size)) : hsl H' = hsl H := by
  have e : H'.toList.map (fun q => q.slots.size) = H.toList.map (fun q => q.slots.size) := by
    apply List.ext_getElem?
    intro i
    rw [List.getElem?_map, List.getElem?_map, Array.getElem?_toList, Array.getElem?_toList]
    exact h i
  unfold hsl; rw [e]
theorem hsl_set {H H' : Heap} {a : Nat} {x y : Cell} (h0 : H[a]? = some x) (h1 : H'[a]? = some y) (hs : y.slots.size = x.slots.size) (o : ∀ q : Nat, q ≠ a → H'[q]? = H[q]?) : hsl H' = hsl H := by
  apply hsl_of
  intro q
  by_cases hq : q = a
  · subst hq; rw [h0, h1]; simp [hs]
  · rw [o q hq]
theorem hsl_push {H H' : Heap} {x : Cell} (hz : H'.size = H.size + 1) (h1 : H'[H.size]? = some x) (o : ∀ q : Nat, q < H.size → H'[q]? = H[q]?) : hsl H' = hsl H + x.slots.size := by
  have e : H'.toList = H.toList ++ [x] := by
    apply List.ext_getElem?
    intro i
    rw [Array.getElem?_toList]
    by_cases hi : i < H.size
    · rw [o i hi, List.getElem?_append_left (by simpa using hi), Array.getElem?_toList]
    · rw [List.getElem?_append_right (by simp; omega)]
      by_cases he : i = H.size
      · subst he; rw [h1]; simp
      · rw [Array.getElem?_eq_none (by omega)]
        rw [List.getElem?_eq_none]
        simp; omega
  unfold hsl; rw [e]; simp
/-! kinds and cells -/
theorem va_at.one {D : va_G} {q : Nat × va_E} {H : Heap} (h : va_at D vwCl q H) : va_P D vwCl [q] H := fun k x hk => by
  cases k with
  | zero => cases hk; exact h
  | succ k => simp at hk
theorem zok.kept {κ : Kt} {T : Nat → Nat} {H H' : Heap} {a t n : Nat} {c : Nat → Int32} {l : Nat → Int64} (h : zok κ T H a t n c l) (hq : t ≠ 0 → H'[a]? = H[a]?) : zok κ T H' a t n c l := by
  rcases h with h | ⟨h0, h1, h2⟩
  · exact Or.inl h
  · by_cases ht : t = 0
    · exact Or.inl ht
    · exact Or.inr ⟨h0, h1.kept (hq ht), h2⟩
theorem zok.more {κ : Kt} {T T' : Nat → Nat} {H : Heap} {a t n : Nat} {c : Nat → Int32} {l : Nat → Int64} (h : zok κ T H a t n c l) (hT : ∀ x, T x ≠ 0 → T' x = T x) : zok κ T' H a t n c l := by
  rcases h with h | ⟨h0, h1, h2, h3, h4⟩
  · exact Or.inl h
  · refine Or.inr ⟨h0, h1, h2, fun p hp => ?_, fun e => ?_⟩
    · rcases h3 p hp with q | q
      · exact Or.inl q
      · by_cases z : p.2 = 0
        · exact Or.inl z
        · exact Or.inr (by rw [hT _ (by rw [q]; exact z)]; exact q)
    · have := h4 e
      rw [hT _ (by omega)]; exact this
theorem TI.lt {κ : Kt} {σ : Gh} {H : Heap} (h : TI κ σ H) {a : Nat} (ha : zT σ a ≠ 0) : a < H.size := by
  rcases h a with q | ⟨h0, h1, -⟩
  · exact absurd q ha
  · exact h1.lt
theorem TI.at {κ : Kt} {σ : Gh} {H : Heap} (h : TI κ σ H) {a t : Nat} (ha : zT σ a = t) (ht : t ≠ 0) : ∃ x, va_at κ.1 vwCl (a, zS κ a t x (zI σ a) (zJ σ a)) H ∧ zP t (zN σ a) (zI σ a) ∧ (∀ p ∈ zR t, p.2 = 0 ∨ zT σ (kR κ a p.1) = p.2) ∧ (t = 1 → zT σ x = 100 + zN σ a) := by
  have q := h a
  rw [ha] at q
  rcases q with q | q
  · exact absurd q ht
  · exact q
theorem zS_big {κ : Kt} {a h n : Nat} {c : Nat → Int32} {l : Nat → Int64} : zS κ a (100 + n) h c l = .inl (kA κ 0, n, .inl c) := by
  unfold zS
  split <;> first | omega | (congr 3; omega)
theorem zP_big {n k : Nat} {c : Nat → Int32} : zP (100 + n) k c := by
  unfold zP
  split <;> first | omega | trivial
theorem zR_big {n : Nat} : zR (100 + n) = [] := by
  unfold zR
  split <;> first | omega | rfl
/-! ghosts that change -/
def zset (σ : Gh) (a : Nat) (c : Nat → Int32) (l : Nat → Int64) : Gh := (σ.1, σ.2.1, fun x => if x = a then c else σ.2.2.1 x, fun x => if x = a then l else σ.2.2.2 x)
theorem zset_T {σ : Gh} {a : Nat} {c : Nat → Int32} {l : Nat → Int64} : zT (zset σ a c l) = zT σ := rfl
theorem zset_N {σ : Gh} {a : Nat} {c : Nat → Int32} {l : Nat → Int64} : zN (zset σ a c l) = zN σ := rfl
theorem zset_I {σ : Gh} {a : Nat} {c : Nat → Int32} {l : Nat → Int64} : zI (zset σ a c l) a = c := by simp [zset, zI]
theorem zset_J {σ : Gh} {a : Nat} {c : Nat → Int32} {l : Nat → Int64} : zJ (zset σ a c l) a = l := by simp [zset, zJ]
theorem zset_In {σ : Gh} {a x : Nat} {c : Nat → Int32} {l : Nat → Int64} (h : x ≠ a) : zI (zset σ a c l) x = zI σ x := by simp [zset, zI, h]
theorem zset_Jn {σ : Gh} {a x : Nat} {c : Nat → Int32} {l : Nat → Int64} (h : x ≠ a) : zJ (zset σ a c l) x = zJ σ x := by simp [zset, zJ, h]
theorem TI.set {κ : Kt} {σ : Gh} {H H' : Heap} (h : TI κ σ H) {a : Nat} {c : Nat → Int32} {l : Nat → Int64} (o : ∀ q : Nat, q ≠ a → H'[q]? = H[q]?) (hok : zok κ (zT σ) H' a (zT σ a) (zN σ a) c l) : TI κ (zset σ a c l) H' := by
  intro x
  by_cases hx : x = a
  · subst hx
    rw [zset_I, zset_J]; exact hok
  · rw [zset_In hx, zset_Jn hx]
    exact (h x).kept (fun _ => o x hx)
theorem Ext.rf {F : Nat → Nat → Bool} {sz : Nat} {σ : Gh} : Ext F sz σ σ := ⟨fun _ _ => rfl, fun _ h => Or.inl h, fun _ _ _ _ => ⟨rfl, rfl⟩, fun _ _ _ => rfl⟩
theorem Ext.tr {F G : Nat → Nat → Bool} {sz sz1 : Nat} {σ0 σ τ : Gh} (h : Ext F sz σ0 σ) (g : Ext G sz1 σ τ) (hz : sz ≤ sz1) (hFG : ∀ t k, F t k = false → G t k = false) : Ext F sz σ0 τ := by
  refine ⟨fun a ha => ?_, fun a ha => ?_, fun a k ha hk => ?_, fun a ha hk => ?_⟩
  · have e := h.1 a ha
    rw [g.1 a (by rw [e]; exact ha), e]
  · rcases g.2.1 a ha with q | q
    · rcases h.2.1 a q with z | ⟨z1, z2⟩
      · exact Or.inl z
      · exact Or.inr ⟨z1, by rw [g.1 a q]; exact z2⟩
    · exact Or.inr ⟨Nat.le_trans hz q.1, q.2⟩
  · have e := h.1 a ha
    obtain ⟨h1, h2⟩ := h.2.2.1 a k ha hk
    obtain ⟨g1, g2⟩ := g.2.2.1 a k (by rw [e]; exact ha) (by rw [e]; exact hFG _ _ hk)
    exact ⟨g1.trans h1, g2.trans h2⟩
  · have e := h.1 a ha
    rw [g.2.2.2 a (by rw [e]; exact ha) (by rw [e]; exact hFG _ _ hk), h.2.2.2 a ha hk]
theorem Ext.set {F : Nat → Nat → Bool} {sz : Nat} {σ0 σ : Gh} (h : Ext F sz σ0 σ) {a : Nat} {c : Nat → Int32} {l : Nat → Int64} (hF : ∀ k, F (zT σ a) k = false → c k = zI σ a k ∧ l k = zJ σ a k) : Ext F sz σ0 (zset σ a c l) := by
  refine ⟨h.1, h.2.1, fun x k hx hk => ?_, h.2.2.2⟩
  by_cases e : x = a
  · subst e
    rw [zset_I, zset_J]
    have q := hF k (by rw [h.1 x hx]; exact hk)
    obtain ⟨h1, h2⟩ := h.2.2.1 x k hx hk
    exact ⟨q.1.trans h1, q.2.trans h2⟩
  · rw [zset_In e, zset_Jn e]; exact h.2.2.1 x k hx hk
theorem TS.A {κ : Kt} {F : Nat → Nat → Bool} {σ0 σ : Gh} {s : State} {H : Heap} {locs : List Loc} (h : TS κ F σ0 σ s H locs) {a : Nat} (ha : zT σ a ≠ 0) : tA σ0 s.heap.size a := (h.2.2.1.2.1 a ha).elim Or.inl (fun q => Or.inr q.1)
theorem tA_hi {σ : Gh} {n : Nat} : ∀ q, n ≤ q → tA σ n q := fun _ hq => Or.inr hq
/-- one cell has changed, as its kind allows -/
theorem TS.set {κ : Kt} {F : Nat → Nat → Bool} {σ0 σ : Gh} {s : State} {H H' : Heap} {locs : List Loc} {i : Nat} (h : TS κ F σ0 σ s H locs) {a : Nat} {c : Nat → Int32} {l : Nat → Int64} {x y : Cell} (ha : zT σ a ≠ 0) (hF : ∀ k, F (zT σ a) k = false → c k = zI σ a k ∧ l k = zJ σ a k) (h0 : H[a]? = some x) (h1 : H'[a]? = some y) (hs : y.slots.size = x.slots.size) (hz : H'.size = H.size) (o : ∀ q : Nat, q ≠ a → H'[q]? = H[q]?) (hok : zok κ (zT σ) H' a (zT σ a) (zN σ a) c l) : TS κ F σ0 (zset σ a c l) s H' (locs ++ [⟨a, i⟩]) := by
  refine ⟨h.1.set o hok, ⟨h.2.1.1, ?_, ?_⟩, h.2.2.1.set hF, h.2.2.2.put hz o (h.A ha)⟩
  · rw [hz]; exact h.2.1.2.1
  · rw [hsl_set h0 h1 hs o]; exact h.2.1.2.2
/-! the words of the text: String constants -/
def wdI : List Nat := [68, 74, 76, 78, 80, 82, 84, 88, 90, 92, 96, 102, 109]
def wdT : List String := ["split", "predict", "update", "least", "span", "dyadic", "detail", "left", "near", "linear", "keep", "none", "at"]
def wdL : List Nat := [5, 7, 6, 5, 4, 6, 6, 4, 4, 6, 4, 4, 2]
def wdB : List (List Int32) := [[115, 112, 108, 105, 116], [112, 114, 101, 100, 105, 99, 116], [117, 112, 100, 97, 116, 101], [108, 101, 97, 115, 116], [115, 112, 97, 110], [100, 121, 97, 100, 105, 99], [100, 101, 116, 97, 105, 108], [108, 101, 102, 116], [110, 101, 97, 114], [108, 105, 110, 101, 97, 114], [107, 101, 101, 112], [110, 111, 110, 101], [97, 116]]
def XS (κ : Kt) : XP := fun A U H => vk_S 13 wdL wdB (kK κ) (kV κ) A U H ∧ (∀ i, i < 13 → vk_R RX3 (wdI.getD i 0) (wdT.getD i "") (kK κ i) U) ∧ va_Z "java/lang/String" "COMPACT_STRINGS" "Z" (.int 1) A U H ∧ va_Zq "jdk/internal/util/Preconditions" "SIOOBE_FORMATTER" "Ljava/util/function/BiFunction;" A U H
def XY (κ : Kt) : XP := fun A U H => XX A U H ∧ XS κ A U H
theorem okXY (κ : Kt) : okX (XY κ) := ⟨fun A B U H h x => ⟨okXX.1 A B U H h x.1, x.2.1.narrow h, x.2.2.1, x.2.2.2.1.narrow h, x.2.2.2.2.narrow h⟩, fun A u U H hW x => ⟨okXX.2.1 A u U H hW x.1, x.2.1.moved hW.alike, fun i hi => (x.2.2.1 i hi).warm hW, x.2.2.2.1.moved hW.alike, x.2.2.2.2.moved hW.alike⟩, fun A U H H1 hq x => ⟨okXX.2.2 A U H H1 hq x.1, x.2.1.kept hq, x.2.2.1, x.2.2.2.1.kept hq, x.2.2.2.2.kept hq⟩⟩
