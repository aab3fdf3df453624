/-! Constructors: rows that tell what each step does to the heap. -/
section NWA
variable {p : Program} {l : Launch} {e : Env} {R : Room} {s : State} {m : MethodId} {args : Array Value} {below : List Frame} {meth : Method} {c : Code} {H : Heap} {locs : List Loc} {cells slots : Nat} {Q : State → Prop} {cc : ByteArray} {pc : Nat} {ls : Array Slot} {rest st0 : List Value}
variable {κ : Kt} {A : Nat → Prop} {own C : String} {nL n idx ml fr lw mc ms : Nat} {y : MethodName} {bc : ByteArray} {b a : Nat} {As : List Value}
/-- a step of the heap: one old cell is new -/
def hone (H H1 : Heap) (a : Nat) : Prop := H1.size = H.size ∧ ∀ q : Nat, q ≠ a → H1[q]? = H[q]?
/-- a step of the heap: a cell more -/
def hmore (H H1 : Heap) : Prop := H1.size = H.size + 1 ∧ ∀ q : Nat, q < H.size → H1[q]? = H[q]?
theorem hone.kept {q : Nat × va_E} {H1 : Heap} (g : hone H H1 a) (h : va_at κ.1 vwCl q H) (hq : q.1 ≠ a) : va_at κ.1 vwCl q H1 := h.kept (g.2 _ hq)
theorem hmore.kept {q : Nat × va_E} {H1 : Heap} (g : hmore H H1) (h : va_at κ.1 vwCl q H) : va_at κ.1 vwCl q H1 := h.kept (g.2 _ h.lt)
theorem hone.TI {σ : Gh} {H1 : Heap} (g : hone H H1 a) (h : TI κ σ H) (ha : zT σ a = 0) : TI κ σ H1 := fun x => (h x).kept (fun hx => g.2 x (fun e => hx (e ▸ ha)))
theorem hmore.TI {σ : Gh} {H1 : Heap} (g : hmore H H1) (h : TI κ σ H) : TI κ σ H1 := fun x => (h x).kept (fun hx => g.2 x (h.lt hx))
theorem xput {ref : String} {T : u_T} {N cn index : Nat} (hx : p.tables.exec = Jvm.exec) (hb : c.code = cc) (hg : ∀ w ∈ GW, w.before args s = true) (hin : ∀ w ∈ u_ws C T N, w ∈ GW) (ty0 : Nat → FieldType) (hty : ∀ k, k < N → parseFieldDescriptor (T k).2.2.1 = some (ty0 k)) (hnm : ∀ a, a < N → ∀ b, b < N → a ≠ b → (T a).2.1 ≠ (T b).2.1) (hown : s.vm.findClass own = some m.cls) (hK : va_K κ.1 vwCl (kTy κ) s) (hS : va_S A s.heap H locs) (haA : A a) {fs : List Value} (ho : va_at κ.1 vwCl (a, .inr (cn, fs)) H) (hc : vwCl[cn]? = some (C, T, N)) (k : Nat) (hk : k < N) (hlink : (Cond.fieldLink own index ref (T k).2.1 (T k).2.2.1).before args s = true) (hsame : ∀ x, s.fieldFound? (T k).1 (T k).2.1 (T k).2.2.1 = some x → s.fieldFound? ref (T k).2.1 (T k).2.2.1 = some x) (hfin : (T k).2.2.2 = false) {ty : FieldType} {v : Value} (hd : parseFieldDescriptor (T k).2.2.1 = some ty) (hn : narrow ty v = v) (hfit : fits ty v = true) (hl : k < fs.length) (hdg : decode cc pc = .ok (.putfield index, 3))
    (kk : ∀ (H1 : Heap) (locs1 : List Loc), hone H H1 a → va_at κ.1 vwCl (a, .inr (cn, fs.set k v)) H1 → va_S A s.heap H1 locs1 → W p l e R s m args below meth c H1 locs1 cells slots Q (F0 m (pc + 3) ls rest)) : W p l e R s m args below meth c H locs cells slots Q (F0 m pc ls (v :: .ref a :: rest)) := by
  have hap := va_apart (own := own) hg hin ty0 hty hnm hK hc
  obtain ⟨r, h1, cell, q1, q2, q3, q4⟩ := ho
  have hr : r = (C, T, N) := Option.some.inj (h1.symm.trans hc)
  subst hr
  obtain ⟨hSl, hfc, kC, hkC, hkind⟩ := hK.1 cn _ hc
  obtain ⟨cf, kf, fi, f9, hi, hsl⟩ := hSl k hk
  have hlay := hg _ (hin _ (u_in_lay hk))
  unfold u_lay at hlay
  rw [if_neg (by rw [hfin]; decide)] at hlay
  have hst := (u_facts hfc hkC (u_lays hg hin hk) hi).1
  have h6 := u_store hfc hkC hkind hlay hi hd hn hfit
  refine W.putK hx hb (f := f9) ⟨hown, hlink, ⟨_, _, _, hsame _ hi⟩, hst⟩ (by rw [q2]; exact h6) q1 q3 (by rw [hsl]; exact k2_hasslot (q4 k hk)) rfl rfl hdg fun H' e1 e2 e3 => ?_
  rw [hsl] at e1 ⊢
  exact kk H' _ ⟨e2, e3⟩ ⟨_, hc, t_OB.to (V := updV (vp_V fs) k v) ⟨_, e1, q2, q3, t_set q4 hap hk v⟩ (fun j _ => vp_updV_set hl v j)⟩ (hS.put e2 e3 haA)
theorem xputF {ref : String} {T : u_T} {N cn index : Nat} (hx : p.tables.exec = Jvm.exec) (hb : c.code = cc) (hg : ∀ w ∈ GW, w.before args s = true) (hin : ∀ w ∈ u_ws C T N, w ∈ GW) (ty0 : Nat → FieldType) (hty : ∀ k, k < N → parseFieldDescriptor (T k).2.2.1 = some (ty0 k)) (hnm : ∀ a, a < N → ∀ b, b < N → a ≠ b → (T a).2.1 ≠ (T b).2.1) (hown : s.vm.findClass own = some m.cls) (hK : va_K κ.1 vwCl (kTy κ) s) (hS : va_S A s.heap H locs) (haA : A a) {fs : List Value} (ho : va_at κ.1 vwCl (a, .inr (cn, fs)) H) (hc : vwCl[cn]? = some (C, T, N)) (k : Nat) (hk : k < N) (hlink : (Cond.fieldLink own index ref (T k).2.1 (T k).2.2.1).before args s = true) (hsame : ∀ x, s.fieldFound? (T k).1 (T k).2.1 (T k).2.2.1 = some x → s.fieldFound? ref (T k).2.1 (T k).2.2.1 = some x) (hfin : (T k).2.2.2 = true) (hin2 : meth.name = "<init>") (hdecl : (T k).1 = own) {ty : FieldType} {v : Value} (hd : parseFieldDescriptor (T k).2.2.1 = some ty) (hn : narrow ty v = v) (hfit : fits ty v = true) (hl : k < fs.length) (hdg : decode cc pc = .ok (.putfield index, 3))
    (kk : ∀ (H1 : Heap) (locs1 : List Loc), hone H H1 a → va_at κ.1 vwCl (a, .inr (cn, fs.set k v)) H1 → va_S A s.heap H1 locs1 → W p l e R s m args below meth c H1 locs1 cells slots Q (F0 m (pc + 3) ls rest)) : W p l e R s m args below meth c H locs cells slots Q (F0 m pc ls (v :: .ref a :: rest)) := by
  have hap := va_apart (own := own) hg hin ty0 hty hnm hK hc
  obtain ⟨r, h1, cell, q1, q2, q3, q4⟩ := ho
  have hr : r = (C, T, N) := Option.some.inj (h1.symm.trans hc)
  subst hr
  obtain ⟨hSl, hfc, kC, hkC, hkind⟩ := hK.1 cn _ hc
  obtain ⟨cf, kf, fi, f, hi, hsl⟩ := hSl k hk
  have hlay := hg _ (hin _ (u_in_lay hk))
  unfold u_lay at hlay
  rw [if_pos hfin] at hlay
  have hst := (u_facts hfc hkC (u_lays hg hin hk) hi).1
  have hcf : m.cls = cf := by
    obtain ⟨_, _, c', _, _, _, -, -, hf', -, -, -, hown2, -⟩ := Cond.laysFinal_spec hlay
    have e1 : c' = cf := by have := hi.symm.trans hf'; simp at this; exact this.1.symm
    rw [hdecl] at hown2
    rw [← e1]; exact Option.some.inj (hown.symm.trans hown2)
  have h6 := u_fits hfc hkC hkind (Or.inr hlay) hi hd hn hfit
  refine W.putFinK hx hb hown hlink (hsame _ hi) hst hcf hin2 (by rw [q2]; exact h6) q1 q3 (by rw [hsl]; exact k2_hasslot (q4 k hk)) rfl rfl hdg fun H' e1 e2 e3 => ?_
  rw [hsl] at e1 ⊢
  exact kk H' _ ⟨e2, e3⟩ ⟨_, hc, t_OB.to (V := updV (vp_V fs) k v) ⟨_, e1, q2, q3, t_set q4 hap hk v⟩ (fun j _ => vp_updV_set hl v j)⟩ (hS.put e2 e3 haA)
theorem va_S.grow {H0 H1 : Heap} (h : va_S A H0 H locs) (g : hmore H H1) : va_S A H0 H1 locs := ⟨Nat.le_trans h.1 (by rw [g.1]; omega), fun x h1 h2 => (g.2 x (Nat.lt_of_lt_of_le h1 h.1)).trans (h.2.1 x h1 h2), h.2.2⟩
theorem xnew {T : u_T} {N ci index : Nat} (hx : p.tables.exec = Jvm.exec) (hb : c.code = cc) (hg : ∀ w ∈ GW, w.before args s = true) (hin : ∀ w ∈ u_ws C T N, w ∈ GW) (ty : Nat → FieldType) (hty : ∀ k, k < N → parseFieldDescriptor (T k).2.2.1 = some (ty k)) (hown : s.vm.findClass own = some m.cls) (hcl : (Cond.classLink own index C).before args s = true) (hinst : (Cond.instantiable C N).before args s = true) (hini : (Cond.initialized C).before args s = true) (hK : va_K κ.1 vwCl (kTy κ) s) (hS : va_S A s.heap H locs) (hc : vwCl[ci]? = some (C, T, N)) {fs : List Value} (hfs : ∀ j, j < N → defaultValue (ty j) = vp_V fs j) (hcells : cells + 1 ≤ R.cells) (hslots : slots + N ≤ R.slots) (hdg : decode cc pc = .ok (.new index, 3))
    (kk : ∀ (q : Nat) (H1 : Heap), q = H.size → hmore H H1 → va_at κ.1 vwCl (q, .inr (ci, fs)) H1 → va_S A s.heap H1 locs → W p l e R s m args below meth c H1 locs (cells + 1) (slots + N) Q (F0 m (pc + 3) ls (.ref q :: rest))) : W p l e R s m args below meth c H locs cells slots Q (F0 m pc ls rest) := by
  have hKn := hK.1 ci _ hc
  refine W.newcK hx hb hown hcl hinst hini rfl hdg hcells hslots hKn.2.1 rfl fun H1 kC hkC e1 z1 o1 => ?_
  exact kk H.size H1 rfl ⟨z1, o1⟩ ⟨_, hc, (u_born ty hg hin hKn hkC e1 hty).to hfs⟩ (hS.grow ⟨z1, o1⟩)
theorem xnewa (i : Nat) {atype : ArrayType} {k : Int32} {N : Nat} {E : vp_A} (hx : p.tables.exec = Jvm.exec) (hb : c.code = cc) (harr : (Cond.arrayClass (newarray.typeOf atype)).before args s = true) (hK : va_K κ.1 vwCl (kTy κ) s) (hi : (kTy κ)[i]? = some (kA κ i, newarray.typeOf atype)) (hS : va_S A s.heap H locs) (hn : ¬ k < 0) (hN : k.toNatClampNeg = N) (hbytes : N * componentBytes (newarray.typeOf atype) ≤ 536870912) (hE : vp_cell (kA κ i) E = arrV (kA κ i) N (fun _ => defaultValue (newarray.typeOf atype))) (hcells : cells + 1 ≤ R.cells) (hslots : slots + N ≤ R.slots) (hdg : decode cc pc = .ok (.newarray atype, 2))
    (kk : ∀ (q : Nat) (H1 : Heap), q = H.size → hmore H H1 → va_at κ.1 vwCl (q, .inl (kA κ i, E)) H1 → va_S A s.heap H1 locs → W p l e R s m args below meth c H1 locs (cells + 1) (slots + N) Q (F0 m (pc + 2) ls (.ref q :: rest))) : W p l e R s m args below meth c H locs cells slots Q (F0 m pc ls (.int k :: rest)) := by
  refine va_newaK (atype := atype) hx hb harr rfl hdg rfl hn (N := N) hN hbytes hcells hslots rfl fun H1 cA e1 e2 e3 hAr hNm => ?_
  have hcA : cA = kA κ i := by
    have h8 : s.vm.findClass ("[" ++ (newarray.typeOf atype).toString) = some (kA κ i) := by
      have h7 := (hK.2 i _ hi).2
      cases atype <;> exact h7
    exact Option.some.inj (hNm.symm.trans h8)
  subst hcA
  exact kk H.size H1 rfl ⟨e2, e3⟩ (by show H1[H.size]? = some (vp_cell _ _); rw [e1, hE]) (hS.grow ⟨e2, e3⟩)
theorem xnewq (i : Nat) {k : Int32} {N : Nat} {index : Nat} (hx : p.tables.exec = Jvm.exec) (hb : c.code = cc) (hown : s.vm.findClass own = some m.cls) (hclink : (Cond.classLink own index C).before args s = true) (hover : va_AO C s) (hK : va_K κ.1 vwCl (kTy κ) s) (hi : (kTy κ)[i]? = some (kA κ i, .object C)) (hS : va_S A s.heap H locs) (hn : ¬ k < 0) (hN : k.toNatClampNeg = N) (hbytes : N * 4 ≤ 536870912) (hcells : cells + 1 ≤ R.cells) (hslots : slots + N ≤ R.slots) (hdg : decode cc pc = .ok (.anewarray index, 3))
    (kk : ∀ (q : Nat) (H1 : Heap), q = H.size → hmore H H1 → va_at κ.1 vwCl (q, .inl (kA κ i, N, .inr (.inr (.inr (.inr (fun _ => none)))))) H1 → va_S A s.heap H1 locs → W p l e R s m args below meth c H1 locs (cells + 1) (slots + N) Q (F0 m (pc + 3) ls (.ref q :: rest))) : W p l e R s m args below meth c H locs cells slots Q (F0 m pc ls (.int k :: rest)) := by
  subst hN
  refine W.anew hx hb hown hclink (va_AO.use hover) rfl hdg rfl hn hbytes hcells hslots fun cA kA' comp f1 f2 f3 f4 => ?_
  generalize hH1 : H.push ({ cls := cA, slots := Array.replicate k.toNatClampNeg .null, vm := .none } : Cell) = H1
  have z1 : H1.size = H.size + 1 := by rw [← hH1, Array.size_push]
  have e1 : H1[H.size]? = some (arrV cA k.toNatClampNeg (fun _ => .null)) := by rw [← hH1, Array.getElem?_push_size, ← arrV_new]
  have o1 : ∀ q : Nat, q < H.size → H1[q]? = H[q]? := fun q hq => by rw [← hH1, Array.getElem?_push, if_neg (Nat.ne_of_lt hq)]
  have hcA : cA = kA κ i := by
    obtain ⟨_, _, -, -, -, h8⟩ := (hK.2 i _ hi).2
    exact Option.some.inj (f1.symm.trans h8)
  subst hcA
  exact kk H.size H1 rfl ⟨z1, o1⟩ (by show H1[H.size]? = some (vp_cell _ _); rw [e1]; rfl) (hS.grow ⟨z1, o1⟩)
theorem xaast (t0 : Nat) {r : vw_C} {ci v N : Nat} {vs : List Value} {f : Nat → Option Nat} {i : Int32} (hx : p.tables.exec = Jvm.exec) (hb : c.code = cc) (hK : va_K κ.1 vwCl (kTy κ) s) (hS : va_S A s.heap H locs) (haA : A a) (ha : va_at κ.1 vwCl (a, .inl (kA κ t0, N, .inr (.inr (.inr (.inr f))))) H) (ht : (kTy κ)[t0]? = some (kA κ t0, .object r.1)) (hv : va_at κ.1 vwCl (v, .inr (ci, vs)) H) (hc : vwCl[ci]? = some r) (hin : vp_in i N) (hdg : decode cc pc = .ok (.aastore, 1))
    (kk : ∀ (H1 : Heap) (locs1 : List Loc), hone H H1 a → va_at κ.1 vwCl (a, .inl (kA κ t0, N, .inr (.inr (.inr (.inr (va_up f i.toNatClampNeg (some v))))))) H1 → va_S A s.heap H1 locs1 → W p l e R s m args below meth c H1 locs1 cells slots Q (F0 m (pc + 1) ls rest)) : W p l e R s m args below meth c H locs cells slots Q (F0 m pc ls (.ref v :: .int i :: .ref a :: rest)) := by
  have hlt : i.toNatClampNeg < N := Nat.not_le.mp fun q => hin (Or.inr q)
  have h0 : ¬ i < 0 := fun q => hin (Or.inl q)
  obtain ⟨r', hr', cellV, g1, g2, g3, -⟩ := hv
  have hcls := (hK.1 ci r hc).2
  obtain ⟨kA', comp, k1, k2, k3, -⟩ := (hK.2 t0 _ ht).2
  have hcomp : comp = κ.1.1 ci := Option.some.inj (k3.symm.trans hcls.1)
  subst hcomp
  obtain ⟨kC, hkC, -⟩ := hcls.2
  refine W.aast hx hb ha (fun q h => by cases h) (fun h => by cases h) k1 k2 rfl hkC ⟨h0, by show _ < (arrV _ _ _).slots.size; rw [arrV_size]; exact hlt⟩ g1 (fun q h => by rw [g3] at h; cases h) (by rw [g2]; exact hkC) (by rw [g2]; exact va_assign hcls) rfl rfl hdg fun H1 e z oq => ?_
  refine kk H1 _ ⟨z, oq⟩ ?_ (hS.put z oq haA)
  show H1[a]? = some (vp_cell _ _)
  rw [e]
  rw [vp_cell_q, vp_cell_q, arrV_store]
  congr 2
  funext q
  by_cases hq : q = i.toNatClampNeg
  · subst hq
    simp [updV, va_up, va_rf]
  · simp [updV, va_up, hq]
theorem xiast {N : Nat} {f : Nat → Int32} {i x : Int32} (hx : p.tables.exec = Jvm.exec) (hb : c.code = cc) (hK : va_K κ.1 vwCl (kTy κ) s) (hS : va_S A s.heap H locs) (haA : A a) (ha : va_at κ.1 vwCl (a, .inl (kA κ 0, N, .inl f)) H) (hin : vp_in i N) (hdg : decode cc pc = .ok (.iastore, 1))
    (kk : ∀ (H1 : Heap) (locs1 : List Loc), hone H H1 a → va_at κ.1 vwCl (a, .inl (kA κ 0, N, .inl (upd f i.toNatClampNeg x))) H1 → va_S A s.heap H1 locs1 → W p l e R s m args below meth c H1 locs1 cells slots Q (F0 m (pc + 1) ls rest)) : W p l e R s m args below meth c H locs cells slots Q (F0 m pc ls (.int x :: .int i :: .ref a :: rest)) := by
  refine W.iast hx hb ha ((hK.2 0 (kA κ 0, .int) rfl).1 N (fun j => .int (f j))) (fun q => by cases q) (by show ¬ (i < 0 ∨ (arrV _ _ _).slots.size ≤ _); rw [arrV_size]; exact hin) rfl rfl hdg fun H1 e z oq => ?_
  refine kk H1 _ ⟨z, oq⟩ ?_ (hS.put z oq haA)
  show H1[a]? = some (vp_cell _ _)
  rw [e]
  rw [vp_cell_i, vp_cell_i, arrV_store]
  congr 2
  funext q
  by_cases hq : q = i.toNatClampNeg
  · subst hq
    simp [updV, upd]
  · simp [updV, upd, hq]
/-- a constructor's contract: it writes its own cell and new ones -/
def xA (bs : List Nat) (sz : Nat) : Nat → Prop := fun q => q ∈ bs ∨ sz ≤ q
theorem xA_in {bs cs : List Nat} {sz n : Nat} (h : ∀ q ∈ cs, xA bs sz q) (hn : sz ≤ n) : ∀ q, xA cs n q → xA bs sz q := fun q hq => hq.elim (h q) (fun k => Or.inr (Nat.le_trans hn k))
theorem xA1 {b bb sz : Nat} (h : xA [b] sz bb) : ∀ q ∈ [bb], xA [b] sz q := fun q hq => by
  rw [List.mem_singleton] at hq
  rw [hq]; exact h
theorem xA2 {b b1 b2 sz : Nat} (h1 : xA [b] sz b1) (h2 : xA [b] sz b2) : ∀ q ∈ [b1, b2], xA [b] sz q := fun q hq => by
  simp only [List.mem_cons, List.not_mem_nil, or_false] at hq
  rcases hq with rfl | rfl
  · exact h1
  · exact h2
theorem xA3 {b b1 b2 b3 sz : Nat} (h1 : xA [b] sz b1) (h2 : xA [b] sz b2) (h3 : xA [b] sz b3) : ∀ q ∈ [b1, b2, b3], xA [b] sz q := fun q hq => by
  simp only [List.mem_cons, List.not_mem_nil, or_false] at hq
  rcases hq with rfl | rfl | rfl
  · exact h1
  · exact h2
  · exact h3
theorem xA_no {b q n : Nat} (h : q ≠ b) (k : q < n) : ¬ xA [b] n q := fun g => g.elim (fun e => h (List.mem_singleton.mp e)) (fun e => absurd k (Nat.not_lt.mpr e))
theorem xA_no2 {b b2 q n : Nat} (h : q ≠ b) (h2 : q ≠ b2) (k : q < n) : ¬ xA [b, b2] n q := fun g => g.elim (fun e => by simp [h, h2] at e) (fun e => absurd k (Nat.not_lt.mpr e))
theorem xA_no3 {b b2 b3 q n : Nat} (h : q ≠ b) (h2 : q ≠ b2) (h3 : q ≠ b3) (k : q < n) : ¬ xA [b, b2, b3] n q := fun g => g.elim (fun e => by simp [h, h2, h3] at e) (fun e => absurd k (Nat.not_lt.mpr e))
theorem xA0 {b sz : Nat} : xA [b] sz b := Or.inl (List.mem_singleton.mpr rfl)
def xpre (av : List Value) (κ : Kt) (bs : List Nat) (sz su : Nat) (Pre : Heap → Prop) : Array Value → State → Prop := va_Pc av (fun U => U.heap.size = sz ∧ hsl U.heap = su ∧ Pre U.heap ∧ va_K κ.1 vwCl (kTy κ) U ∧ XY κ (xA bs sz) U U.heap)
theorem xpre_blind {av : List Value} {bs : List Nat} {sz su : Nat} {Pre : Heap → Prop} : FrameBlind (xpre av κ bs sz su Pre) := fun a U g mk h => by
  obtain ⟨h0, h1, h1u, h2, h3, h4⟩ := h
  exact ⟨h0, h1, h1u, h2, va_K.moved (u := U) (U := U.calling g mk a) (Vm.Alike.refl U.vm) h3, (okXY κ).2.1 _ U (U.calling g mk a) _ (State.WarmedH.refl U) h4⟩
def XC (l : Launch) (y : MethodName) (bc : ByteArray) (ml fr lw mc ms : Nat) (av : List Value) (κ : Kt) (bs : List Nat) (Pre : Heap → Prop) (Post : Nat → Nat → Heap → Prop) : Prop := ∀ sz su, Met l y (mw y bc ml none) { frames := fr, cells := mc, slots := ms, locals := lw } (xpre av κ bs sz su Pre) (va_Qv (fun _ : Unit => True) (fun _ t => Post sz su t.heap) (xA bs sz)) mc ms (xA bs sz)
theorem XC.of {av : List Value} {bs : List Nat} {Pre : Heap → Prop} {Post : Nat → Nat → Heap → Prop} (hy : plainName y.cls = true) (hlen : (lg_sl av).length ≤ ml)
    (body : ∀ (p : Program) (e : Env) (s : State) (m : MethodId) (below : List Frame) (meth : Method) (c : Code) (ls : Array Slot), CS p bc none ml y av.toArray s m meth c → Pre s.heap → va_K κ.1 vwCl (kTy κ) s → XY κ (xA bs s.heap.size) s s.heap → va_S (xA bs s.heap.size) s.heap s.heap [] → lv_has ls ml (lv_args 0 av) →
      W p l e { frames := fr, cells := mc, slots := ms, locals := lw } s m av.toArray below meth c s.heap [] 0 0 (MQ below (va_Qv (fun _ : Unit => True) (fun _ t => Post s.heap.size (hsl s.heap) t.heap) (xA bs s.heap.size)) av.toArray s mc ms (xA bs s.heap.size)) (F0 m 0 ls [])) : XC l y bc ml fr lw mc ms av κ bs Pre Post := by
  intro sz su
  refine Met.ofW (cc := bc) (maxL := ml) (ret := none) hy rfl ?_
  intro p e s m args below meth c s₁ B hml hv
  obtain ⟨rfl, hsz, hsu, hP, hK, hX⟩ := hv
  subst hsz
  subst hsu
  rw [lg_entry_eq]
  have hts := atoms_spec (ws := mw y bc ml none) B.pre
  exact body p e s m below meth c _ ⟨B.exec, B.bytes, B.returns, hml, findClass_of_methodNamed B.named, fun w h => hts w (List.mem_cons_of_mem _ h), B.notSynchronized, (name_of_methodNamed B.named B.method).1⟩ hP hK hX va_S.rf (lv_entry av hlen)
theorem xret {Post : Nat → Nat → Heap → Prop} {bb : List Nat} (hx : p.tables.exec = Jvm.exec) (hb : c.code = cc) (hr : meth.sig.returnType = none) (hlocks : meth.locks = false) (hS : va_S (xA bb s.heap.size) s.heap H locs) (hP : Post s.heap.size (hsl s.heap) H) (h1 : cells ≤ mc) (h2 : slots ≤ ms) (hdg : decode cc pc = .ok (.return_, 1)) : W p l e R s m args below meth c H locs cells slots (MQ below (va_Qv (fun _ : Unit => True) (fun _ t => Post s.heap.size (hsl s.heap) t.heap) (xA bb s.heap.size)) args s mc ms (xA bb s.heap.size)) (F0 m pc ls []) := by
  refine W.widen (k := mc) (n := ms) h1 h2 ?_
  exact W.vret hx hb hr (fun t ht hW => ⟨⟨(), rfl, trivial, by show Post _ _ t.heap; rw [ht]; exact hP⟩, hS.F ht⟩) hS.2.2 hdg (hlocks := hlocks)
/-- behind a call: what was not free is as it was -/
def hcall (H H1 : Heap) (F : Nat → Prop) : Prop := H.size ≤ H1.size ∧ ∀ q : Nat, q < H.size → ¬ F q → H1[q]? = H[q]?
theorem hcall.kept {q : Nat × va_E} {H1 : Heap} {F : Nat → Prop} (g : hcall H H1 F) (h : va_at κ.1 vwCl q H) (hq : ¬ F q.1) : va_at κ.1 vwCl q H1 := h.kept (g.2 _ h.lt hq)
theorem hcall.TI {σ : Gh} {H1 : Heap} {F : Nat → Prop} (g : hcall H H1 F) (h : TI κ σ H) (hF : ∀ q, zT σ q ≠ 0 → ¬ F q) : TI κ σ H1 := fun x => (h x).kept (fun hx => g.2 x (h.lt hx) (hF x hx))
theorem xcallN {host : String} {bs : List Nat} {Pre : Heap → Prop} {Post : Nat → Nat → Heap → Prop} (hx : p.tables.exec = Jvm.exec) (hb : c.code = cc) (hml : c.maxLocals = nL) (hown : s.vm.findClass own = some m.cls) (hg : ∀ w ∈ GW, w.before args s = true) (hC : XC l y bc ml fr lw mc ms (.ref b :: As) κ bs Pre Post) (hG : GoodIn GW (mw y bc ml none)) (hd : y.cls ≠ "java/lang/invoke/MethodHandle" ∧ y.cls ≠ "java/lang/invoke/VarHandle" ∧ (parseMethodDescriptor y.desc).map (fun d => d.parameters.length) = some n) (hinit : Cond.initialized y.cls ∈ GW) (hlink : va_Nw (.methodLinkNest own idx y host) s) (hinst : Cond.instanceMethod y ∈ GW) (hnm : y.name = "<init>") (hrm : fr + 1 ≤ R.frames ∧ 8 + (ml + 11) + lw ≤ R.locals)
    (hP : Pre H) (hK : va_K κ.1 vwCl (kTy κ) s) (hS : va_S A s.heap H locs) (hX : XY κ A s s.heap) (hA : ∀ q, xA bs H.size q → A q) (hn : As.length = n) (hsize : ls.size = nL) (hst : st0 = As.reverse ++ .ref b :: rest) (hroom : (rest.map fun v => v.category).sum ≤ 8) (hdg : decode cc pc = .ok (.invokespecial idx, 3)) (hf : cells + mc ≤ R.cells ∧ slots + ms ≤ R.slots)
    (kk : ∀ (H1 : Heap) (locs1 : List Loc), Post H.size (hsl H) H1 → hcall H H1 (xA bs H.size) → va_S A s.heap H1 locs1 → W p l e R s m args below meth c H1 locs1 (cells + mc) (slots + ms) Q (F0 m (pc + 3) ls rest)) : W p l e R s m args below meth c H locs cells slots Q (F0 m pc ls st0) := by
  refine va_callv (va_runIN (As := As) (rest := rest) ⟨hx, hb, hml, hown, hg⟩ (hC H.size (hsl H)) ⟨va_cnB n hg hG rfl rfl rfl hlink (hg _ hinit) hd ⟨hrm.1, hrm.2⟩, hnm, hg _ hinst⟩ ⟨xpre_blind, fun U hU hW => ⟨rfl, by rw [hU], by rw [hU], by rw [hU]; exact hP, va_K.moved hW.alike hK, by rw [hU]; exact (okXY κ).2.1 _ _ _ _ hW ((okXY κ).1 _ _ _ _ hA ((okXY κ).2.2 _ _ _ _ hS.2.1 hX))⟩⟩ rfl hn hsize hst (lv_room hroom) hdg hf) hS (fun q _ h => hA q h) hA (fun u t H1 locs1 ht1 hvm hw hB hz hk hS1 => ?_)
  rw [ht1] at hB
  exact kk H1 locs1 hB ⟨hz, hk⟩ hS1
theorem xcallI {bs : List Nat} {Pre : Heap → Prop} {Post : Nat → Nat → Heap → Prop} (hx : p.tables.exec = Jvm.exec) (hb : c.code = cc) (hml : c.maxLocals = nL) (hown : s.vm.findClass own = some m.cls) (hg : ∀ w ∈ GW, w.before args s = true) (hC : XC l y bc ml fr lw mc ms (.ref b :: As) κ bs Pre Post) (hG : GoodIn GW (mw y bc ml none)) (hd : y.cls ≠ "java/lang/invoke/MethodHandle" ∧ y.cls ≠ "java/lang/invoke/VarHandle" ∧ (parseMethodDescriptor y.desc).map (fun d => d.parameters.length) = some n) (hinit : Cond.initialized y.cls ∈ GW) (hlink : Cond.methodLink own idx y ∈ GW) (hinst : Cond.instanceMethod y ∈ GW) (hnm : y.name = "<init>") (hrm : fr + 1 ≤ R.frames ∧ 8 + (ml + 11) + lw ≤ R.locals)
    (hP : Pre H) (hK : va_K κ.1 vwCl (kTy κ) s) (hS : va_S A s.heap H locs) (hX : XY κ A s s.heap) (hA : ∀ q, xA bs H.size q → A q) (hn : As.length = n) (hsize : ls.size = nL) (hst : st0 = As.reverse ++ .ref b :: rest) (hroom : (rest.map fun v => v.category).sum ≤ 8) (hdg : decode cc pc = .ok (.invokespecial idx, 3)) (hf : cells + mc ≤ R.cells ∧ slots + ms ≤ R.slots)
    (kk : ∀ (H1 : Heap) (locs1 : List Loc), Post H.size (hsl H) H1 → hcall H H1 (xA bs H.size) → va_S A s.heap H1 locs1 → W p l e R s m args below meth c H1 locs1 (cells + mc) (slots + ms) Q (F0 m (pc + 3) ls rest)) : W p l e R s m args below meth c H locs cells slots Q (F0 m pc ls st0) := by
  refine va_callv (va_runI (As := As) (rest := rest) ⟨hx, hb, hml, hown, hg⟩ (hC H.size (hsl H)) (cwI n hg hG rfl rfl rfl (hg _ hinit) (hg _ hlink) (hg _ hinst) hnm hd ⟨hrm.1, hrm.2⟩) ⟨xpre_blind, fun U hU hW => ⟨rfl, by rw [hU], by rw [hU], by rw [hU]; exact hP, va_K.moved hW.alike hK, by rw [hU]; exact (okXY κ).2.1 _ _ _ _ hW ((okXY κ).1 _ _ _ _ hA ((okXY κ).2.2 _ _ _ _ hS.2.1 hX))⟩⟩ rfl hn hsize hst (lv_room hroom) hdg hf) hS (fun q _ h => hA q h) hA (fun u t H1 locs1 ht1 hvm hw hB hz hk hS1 => ?_)
  rw [ht1] at hB
  exact kk H1 locs1 hB ⟨hz, hk⟩ hS1
theorem xcallX {ci9 N9 : Nat} {T9 : u_T} {fs9 : List Value} {bs : List Nat} {Pre : Heap → Prop} {Post : Nat → Nat → Heap → Prop} (hx : p.tables.exec = Jvm.exec) (hb : c.code = cc) (hml : c.maxLocals = nL) (hown : s.vm.findClass own = some m.cls) (hg : ∀ w ∈ GW, w.before args s = true) (hC : XC l y bc ml fr lw mc ms (.ref b :: As) κ bs Pre Post) (hG : GoodIn GW (wsV own idx C y (mw y bc ml none))) (hd : y.cls = C ∧ y.cls ≠ "java/lang/invoke/MethodHandle" ∧ y.cls ≠ "java/lang/invoke/VarHandle" ∧ (parseMethodDescriptor y.desc).map (fun d => d.parameters.length) = some n) (hrm : fr + 1 ≤ R.frames ∧ 8 + (ml + 11) + lw ≤ R.locals)
    (hP : Pre H) (hK : va_K κ.1 vwCl (kTy κ) s) (hS : va_S A s.heap H locs) (hX : XY κ A s s.heap) (hA : ∀ q, xA bs H.size q → A q) (hr9 : va_at κ.1 vwCl (b, .inr (ci9, fs9)) H) (hci : vwCl[ci9]? = some (C, T9, N9)) (hn : As.length = n) (hsize : ls.size = nL) (hst : st0 = As.reverse ++ .ref b :: rest) (hroom : (rest.map fun v => v.category).sum ≤ 8) (hdg : decode cc pc = .ok (.invokevirtual idx, 3)) (hf : cells + mc ≤ R.cells ∧ slots + ms ≤ R.slots)
    (kk : ∀ (H1 : Heap) (locs1 : List Loc), Post H.size (hsl H) H1 → hcall H H1 (xA bs H.size) → va_S A s.heap H1 locs1 → W p l e R s m args below meth c H1 locs1 (cells + mc) (slots + ms) Q (F0 m (pc + 3) ls rest)) : W p l e R s m args below meth c H locs cells slots Q (F0 m pc ls st0) := by
  refine va_callv (va_runV (As := As) (rest := rest) ⟨hx, hb, hml, hown, hg⟩ (hC H.size (hsl H)) (cwV n hg hG rfl rfl rfl hd ⟨hrm.1, hrm.2⟩) ⟨xpre_blind, va_recv hK hr9.one hci (q0 := 0) rfl, fun U hU hW => ⟨rfl, by rw [hU], by rw [hU], by rw [hU]; exact hP, va_K.moved hW.alike hK, by rw [hU]; exact (okXY κ).2.1 _ _ _ _ hW ((okXY κ).1 _ _ _ _ hA ((okXY κ).2.2 _ _ _ _ hS.2.1 hX))⟩⟩ rfl hn hsize hst (lv_room hroom) hdg hf) hS (fun q _ h => hA q h) hA (fun u t H1 locs1 ht1 hvm hw hB hz hk hS1 => ?_)
  rw [ht1] at hB
  exact kk H1 locs1 hB ⟨hz, hk⟩ hS1
/-- a method's contract over the kinds of a few cells, called from a constructor -/
theorem xcallV {ci9 N9 : Nat} {T9 : u_T} {fs9 : List Value} {F1 : Nat → Nat → Bool} {σ : Gh} {φ : Gh → Prop} (hx : p.tables.exec = Jvm.exec) (hb : c.code = cc) (hml : c.maxLocals = nL) (hown : s.vm.findClass own = some m.cls) (hg : ∀ w ∈ GW, w.before args s = true) {κ1 : Kt} (h1 : κ1.1 = κ.1 ∧ kTy κ1 = kTy κ ∧ XY κ1 = XY κ) (hC : TC l y bc ml none fr lw (.ref b :: As) κ1 σ (tqv κ1 F1 σ φ)) (hG : GoodIn GW (wsV own idx C y (mw y bc ml none))) (hd : y.cls = C ∧ y.cls ≠ "java/lang/invoke/MethodHandle" ∧ y.cls ≠ "java/lang/invoke/VarHandle" ∧ (parseMethodDescriptor y.desc).map (fun d => d.parameters.length) = some n) (hfr : fr + 1 ≤ R.frames ∧ 8 + (ml + 11) + lw ≤ R.locals)
    (hT : TI κ1 σ H) (hCp : CAP κ1 σ H) (hK : va_K κ.1 vwCl (kTy κ) s) (hS : va_S A s.heap H locs) (hX : XY κ A s s.heap) (hA : ∀ q, tA σ H.size q → A q) (hr9 : va_at κ.1 vwCl (b, .inr (ci9, fs9)) H) (hci : vwCl[ci9]? = some (C, T9, N9)) (hn : As.length = n) (hsize : ls.size = nL) (hst : st0 = As.reverse ++ .ref b :: rest) (hroom : (rest.map fun v => v.category).sum ≤ 8) (hdg : decode cc pc = .ok (.invokevirtual idx, 3)) (hf : cells + (kC κ1 - H.size) ≤ R.cells ∧ slots + (kS κ1 - hsl H) ≤ R.slots)
    (kk : ∀ (τ : Gh) (H1 : Heap) (locs1 : List Loc), φ τ → Ext F1 H.size σ τ → TI κ1 τ H1 → CAP κ1 τ H1 → hcall H H1 (tA σ H.size) → va_S A s.heap H1 locs1 → W p l e R s m args below meth c H1 locs1 (cells + (kC κ1 - H.size)) (slots + (kS κ1 - hsl H)) Q (F0 m (pc + 3) ls rest)) : W p l e R s m args below meth c H locs cells slots Q (F0 m pc ls st0) := by
  refine va_callv (va_runV (As := As) (rest := rest) ⟨hx, hb, hml, hown, hg⟩ (hC H.size (hsl H)) (cwV n hg hG rfl rfl rfl hd ⟨hfr.1, hfr.2⟩) ⟨tpre_blind, va_recv hK hr9.one hci (q0 := 0) rfl, fun U hU hW => ⟨rfl, by rw [hU], by rw [hU], by rw [hU]; exact hT, by rw [hU]; exact hCp, by rw [h1.1, h1.2.1]; exact va_K.moved hW.alike hK, by rw [hU, h1.2.2]; exact (okXY κ).2.1 _ _ _ _ hW ((okXY κ).1 _ _ _ _ hA ((okXY κ).2.2 _ _ _ _ hS.2.1 hX))⟩⟩ rfl hn hsize hst (lv_room hroom) hdg hf) hS (fun q _ h => hA q h) hA (fun τ t H1 locs1 ht1 hvm hw hB hz hk hS1 => ?_)
  obtain ⟨b1, b2, b3⟩ := hB
  rw [ht1] at b1 b2
  exact kk τ H1 locs1 hw b3 b1 b2 ⟨hz, hk⟩ hS1
end NWA
