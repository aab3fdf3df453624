/-! Methods that return or throw, over states of known kinds. -/
section TMX
variable {p : Program} {l : Launch} {e : Env} {R : Room} {s : State} {m : MethodId} {args : Array Value} {below : List Frame} {meth : Method} {c : Code} {H : Heap} {locs : List Loc} {cells slots : Nat} {Q : State → Prop} {cc : ByteArray} {pc : Nat} {ls : Array Slot} {rest st0 : List Value}
variable {κ : Kt} {F F1 : Nat → Nat → Bool} {σ0 σ : Gh}
variable {own C : String} {nL n idx ml fr lw : Nat} {y : MethodName} {bc : ByteArray} {rt : Option FieldType} {b : Nat} {av As : List Value}
abbrev kX (κ : Kt) : Kt := kbump κ 1 6
abbrev txq (κ : Kt) (F : Nat → Nat → Bool) (σ : Gh) (φx : String → Gh → Prop) (sz : Nat) : String → State → State → Prop := vx_X (fun _ : Gh => True) (fun E τ t => φx E τ ∧ TI (kX κ) τ t.heap ∧ CAP (kX κ) τ t.heap ∧ Ext F sz σ τ) (tA σ sz)
/-- it returns, or throws one of some exceptions; a throw costs one cell more -/
def TX (l : Launch) (y : MethodName) (bc : ByteArray) (ml : Nat) (rt : Option FieldType) (fr lw : Nat) (av : List Value) (κ : Kt) (σ : Gh) (Qc : Nat → Array Value → State → Outcome → State → Prop) (XC : Nat → String → State → State → Prop) : Prop := ∀ sz su, vx_Met l y (mw y bc ml rt) { frames := fr, cells := kC (kX κ) - sz, slots := kS (kX κ) - su, locals := lw } (tpre av κ σ sz su) (Qc sz) (XC sz) (kC (kX κ) - sz) (kS (kX κ) - su) (tA σ sz)
abbrev tQX (κ : Kt) (σ : Gh) (below : List Frame) (Qc : Nat → Array Value → State → Outcome → State → Prop) (XC : Nat → String → State → State → Prop) (args : Array Value) (s : State) : State → Prop := vx_MQ below (Qc s.heap.size) (XC s.heap.size) args s (kC (kX κ) - s.heap.size) (kS (kX κ) - hsl s.heap) (tA σ s.heap.size)
theorem TX.of (F : Nat → Nat → Bool) {Qc : Nat → Array Value → State → Outcome → State → Prop} {XC : Nat → String → State → State → Prop} (hy : plainName y.cls = true) (hlen : (lg_sl av).length ≤ ml)
    (body : ∀ (p : Program) (e : Env) (s : State) (m : MethodId) (below : List Frame) (meth : Method) (c : Code) (ls : Array Slot), CS p bc rt ml y av.toArray s m meth c → (∀ x ∈ c.exceptionTable.toList, False) → va_K κ.1 vwCl (kTy κ) s → XY κ (tA σ s.heap.size) s s.heap → TS κ F σ σ s s.heap [] → lv_has ls ml (lv_args 0 av) →
      tW p l e fr lw (kX κ) s m av.toArray below meth c s.heap [] (tQX κ σ below Qc XC av.toArray s) (F0 m 0 ls [])) : TX l y bc ml rt fr lw av κ σ Qc XC := by
  intro sz su
  refine vx_ofW (cc := bc) (maxL := ml) (ret := rt) hy rfl ?_
  intro p e s m args below meth c s₁ B hml hout hv
  obtain ⟨rfl, hsz, hsu, hT, hC, hK, hX⟩ := hv
  subst hsz
  subst hsu
  rw [lg_entry_eq]
  have hts := atoms_spec (ws := mw y bc ml rt) B.pre
  refine W.widen (k := kC (kX κ) - s.heap.size) (n := kS (kX κ) - hsl s.heap) (Nat.zero_le _) (Nat.zero_le _) ?_
  exact body p e s m below meth c _ ⟨B.exec, B.bytes, B.returns, hml, findClass_of_methodNamed B.named, fun w h => hts w (List.mem_cons_of_mem _ h), B.notSynchronized, (name_of_methodNamed B.named B.method).1⟩ hout hK hX ⟨hT, hC, Ext.rf, va_S.rf⟩ (lv_entry av hlen)
theorem zroom.up {fr lw : Nat} : zroom κ s { frames := fr, cells := kC (kX κ) - s.heap.size, slots := kS (kX κ) - hsl s.heap, locals := lw } (kC (kX κ) - s.heap.size) (kS (kX κ) - hsl s.heap) := ⟨by show kC κ - _ ≤ kC κ + 1 - _; omega, by show kS κ - _ ≤ kS κ + 6 - _; omega, Nat.le_refl _, Nat.le_refl _⟩
/-- room for what may throw -/
def zroomX (κ : Kt) (s : State) (R : Room) (cells slots : Nat) : Prop := kC (kX κ) - s.heap.size ≤ cells ∧ kS (kX κ) - hsl s.heap ≤ slots ∧ cells ≤ R.cells ∧ slots ≤ R.slots
theorem zroomX.rf {fr lw : Nat} : zroomX κ s { frames := fr, cells := kC (kX κ) - s.heap.size, slots := kS (kX κ) - hsl s.heap, locals := lw } (kC (kX κ) - s.heap.size) (kS (kX κ) - hsl s.heap) := ⟨Nat.le_refl _, Nat.le_refl _, Nat.le_refl _, Nat.le_refl _⟩
theorem W.mono {Q' : State → Prop} {g : JFrame} (h : ∀ t, Q' t → Q t) (k : W p l e R s m args below meth c H locs cells slots Q' g) : W p l e R s m args below meth c H locs cells slots Q g := fun T hT X => by
  obtain ⟨t, a1, b1⟩ := k T hT X
  exact ⟨t, a1, h t b1⟩
/-- a throw: what it says of the end, with the room that it took -/
theorem vxMQ_mono {Qc : Array Value → State → Outcome → State → Prop} {X1 XC : String → State → State → Prop} {m1 n1 mc ms : Nat} {free : Addr → Prop} (hm : m1 ≤ mc) (hn : n1 ≤ ms) (hX : ∀ E t, X1 E s t → s.heap.size ≤ t.heap.size → t.heap.size ≤ s.heap.size + m1 → hsl t.heap ≤ hsl s.heap + n1 → XC E s t) : ∀ t, vx_MQ below (fun _ _ _ _ => False) X1 args s m1 n1 free t → vx_MQ below Qc XC args s mc ms free t := by
  rintro t ⟨o, h1, h2, h3⟩
  refine ⟨o, h1, h2, ?_⟩
  rcases h3 with ⟨h3, -⟩ | ⟨q, hq, E, ce, L, hx9, hce, hv, hcl, hW, hsm, hL⟩
  · exact absurd h3 id
  · obtain ⟨-, q2, q3, -, q5, q6⟩ := id hsm
    have q2 : s.heap.size ≤ t.heap.size := q2
    have q3 : t.heap.size ≤ s.heap.size + m1 := q3
    have hd := drop_sum q2 (fun a x hx => by
      obtain ⟨y9, h1, -, h3, -⟩ := q6 a x hx
      exact ⟨y9, h1, h3⟩)
    have q5 : ((t.heap.toList.drop s.heap.size).map (fun q => q.slots.size)).sum ≤ n1 := q5
    exact Or.inr ⟨q, hq, E, ce, L, hX E t hx9 q2 q3 (by omega), hce, hv, hcl, hW, hsm.mono hm hn, hL⟩
theorem CAPx {κ : Kt} {σ : Gh} {H H' : Heap} (h : CAP κ σ H) (h1 : H'.size ≤ H.size + 1) (h2 : hsl H' ≤ hsl H + 6) : CAP (kX κ) σ H' := by
  obtain ⟨a, b, d⟩ := h
  refine ⟨a, ?_, ?_⟩
  · show H'.size + zpc κ σ ≤ kC κ + 1
    omega
  · show hsl H' + zps κ σ ≤ kS κ + 6
    omega
theorem TI.kept {κ : Kt} {σ : Gh} {H H' : Heap} (h : TI κ σ H) (o : ∀ q : Nat, q < H.size → H'[q]? = H[q]?) : TI κ σ H' := fun a => (h a).kept (fun ha => o a (h.lt ha))
theorem txq_end {φx : String → Gh → Prop} {E : String} {t : State} (hT : TS κ F σ0 σ s H locs) (hp : φx E σ) (hz : H.size ≤ t.heap.size) (hz1 : t.heap.size ≤ H.size + 1) (hs1 : hsl t.heap ≤ hsl H + 6) (hq : ∀ q : Nat, q < H.size → t.heap[q]? = H[q]?) : txq κ F σ0 φx s.heap.size E s t :=
  ⟨σ, trivial, ⟨hp, hT.1.kept hq, CAPx hT.2.1 hz1 hs1, hT.2.2.1⟩, Nat.le_trans hT.2.2.2.1 hz, fun q h1 h2 => (hq q (Nat.lt_of_lt_of_le h1 hT.2.2.2.1)).trans (hT.2.2.2.2.1 q h1 h2)⟩
theorem tth_IOOBE {is sa : Nat} {φx : String → Gh → Prop} {text : String} {Qc : Array Value → State → Outcome → State → Prop} (hx : p.tables.exec = Jvm.exec) (hb : c.code = cc) (hlt : l.stackTraces = false) (hown : s.vm.findClass RX5 = some m.cls) (hk : (Cond.classLink RX5 196 "java/lang/IndexOutOfBoundsException").before args s = true) (hini : (Cond.initialized "java/lang/IndexOutOfBoundsException").before args s = true) (hsa : vk_R RX5 is text sa s) (hg : ∀ w ∈ GW, w.before args s = true) (hX : XX (tA σ0 s.heap.size) s s.heap) (hT : TS κ F σ0 σ s H locs) (hsize : ls.size = c.maxLocals)
    (d0 : decode cc pc = .ok (.new 196, 3)) (d3 : decode cc (pc + 3) = .ok (.dup, 1)) (d4 : decode cc (pc + 4) = .ok (.ldc is, 2)) (d6 : decode cc (pc + 6) = .ok (.invokespecial 200, 3)) (d9 : decode cc (pc + 9) = .ok (.athrow, 1)) (hout : ∀ x ∈ c.exceptionTable.toList, False)
    (hRf : 5 < R.frames) (hRl : (rest.map fun v => v.category).sum + 82 ≤ R.locals) (hz9 : zroomX κ s R cells slots) (hlocks : meth.locks = false) (hp : φx "java/lang/IndexOutOfBoundsException" σ) : W p l e R s m args below meth c H locs cells slots (vx_MQ below Qc (txq κ F σ0 φx s.heap.size) args s cells slots (tA σ0 s.heap.size)) (F0 m pc ls rest) := by
  refine W.tight (fun w1 w2 w3 w4 => ?_)
  obtain ⟨z1, z2, z3, z4⟩ := hz9
  have c1 : H.size + zpc κ σ ≤ kC κ := hT.2.1.2.1
  have c2 : hsl H + zps κ σ ≤ kS κ := hT.2.1.2.2
  have z1 : kC κ + 1 - s.heap.size ≤ cells := z1
  have z2 : kS κ + 6 - hsl s.heap ≤ slots := z2
  refine W.mono (vxMQ_mono (X1 := fun E' _ t => E' = "java/lang/IndexOutOfBoundsException" ∧ H.size ≤ t.heap.size ∧ ∀ q : Nat, q < H.size → t.heap[q]? = H[q]?) (m1 := H.size - s.heap.size + 1) (n1 := hsl H - hsl s.heap + 6) (by omega) (by omega) (fun E' t hx9 y1 y2 y3 => ?_)) ?_
  · obtain ⟨rfl, e2, e3⟩ := hx9
    exact txq_end hT hp e2 (by omega) (by omega) e3
  · exact vx_throwS hx hb hlt (names := ["java/lang/RuntimeException", "java/lang/Exception"]) hown (by decide +kernel) (by decide +kernel) hk hini hsa (vx_hat (fun w hw => hg w (at_IOOBE1 w hw)) at_IOOBE2 (fun w hw => xxB hX.2.2 hw)) at_IOOBE3 hX.1 hX.2.1 hT.2.2.2 hsize d0 d3 d4 d6 d9 (fun x hx9 => absurd (hout x hx9) id) hRf hRl (by omega) (by omega) hlocks
      (fun t hal hz hq => ⟨rfl, hz, hq⟩) hT.2.2.2.2.2 (Nat.le_refl _) (Nat.le_refl _)
theorem tth_IAE {is sa : Nat} {φx : String → Gh → Prop} {text : String} {Qc : Array Value → State → Outcome → State → Prop} (hx : p.tables.exec = Jvm.exec) (hb : c.code = cc) (hlt : l.stackTraces = false) (hown : s.vm.findClass RX5 = some m.cls) (hk : (Cond.classLink RX5 84 "java/lang/IllegalArgumentException").before args s = true) (hini : (Cond.initialized "java/lang/IllegalArgumentException").before args s = true) (hsa : vk_R RX5 is text sa s) (hg : ∀ w ∈ GW, w.before args s = true) (hX : XX (tA σ0 s.heap.size) s s.heap) (hT : TS κ F σ0 σ s H locs) (hsize : ls.size = c.maxLocals)
    (d0 : decode cc pc = .ok (.new 84, 3)) (d3 : decode cc (pc + 3) = .ok (.dup, 1)) (d4 : decode cc (pc + 4) = .ok (.ldc is, 2)) (d6 : decode cc (pc + 6) = .ok (.invokespecial 88, 3)) (d9 : decode cc (pc + 9) = .ok (.athrow, 1)) (hout : ∀ x ∈ c.exceptionTable.toList, False)
    (hRf : 5 < R.frames) (hRl : (rest.map fun v => v.category).sum + 82 ≤ R.locals) (hz9 : zroomX κ s R cells slots) (hlocks : meth.locks = false) (hp : φx "java/lang/IllegalArgumentException" σ) : W p l e R s m args below meth c H locs cells slots (vx_MQ below Qc (txq κ F σ0 φx s.heap.size) args s cells slots (tA σ0 s.heap.size)) (F0 m pc ls rest) := by
  refine W.tight (fun w1 w2 w3 w4 => ?_)
  obtain ⟨z1, z2, z3, z4⟩ := hz9
  have c1 : H.size + zpc κ σ ≤ kC κ := hT.2.1.2.1
  have c2 : hsl H + zps κ σ ≤ kS κ := hT.2.1.2.2
  have z1 : kC κ + 1 - s.heap.size ≤ cells := z1
  have z2 : kS κ + 6 - hsl s.heap ≤ slots := z2
  refine W.mono (vxMQ_mono (X1 := fun E' _ t => E' = "java/lang/IllegalArgumentException" ∧ H.size ≤ t.heap.size ∧ ∀ q : Nat, q < H.size → t.heap[q]? = H[q]?) (m1 := H.size - s.heap.size + 1) (n1 := hsl H - hsl s.heap + 6) (by omega) (by omega) (fun E' t hx9 y1 y2 y3 => ?_)) ?_
  · obtain ⟨rfl, e2, e3⟩ := hx9
    exact txq_end hT hp e2 (by omega) (by omega) e3
  · exact vx_throwS hx hb hlt (names := ["java/lang/RuntimeException", "java/lang/Exception"]) hown (by decide +kernel) (by decide +kernel) hk hini hsa (vx_hat (fun w hw => hg w (at_IAE1 w hw)) at_IAE2 (fun w hw => xxB hX.2.2 hw)) at_IAE3 hX.1 hX.2.1 hT.2.2.2 hsize d0 d3 d4 d6 d9 (fun x hx9 => absurd (hout x hx9) id) hRf hRl (by omega) (by omega) hlocks
      (fun t hal hz hq => ⟨rfl, hz, hq⟩) hT.2.2.2.2.2 (Nat.le_refl _) (Nat.le_refl _)
theorem tth_ISE {is sa : Nat} {φx : String → Gh → Prop} {text : String} {Qc : Array Value → State → Outcome → State → Prop} (hx : p.tables.exec = Jvm.exec) (hb : c.code = cc) (hlt : l.stackTraces = false) (hown : s.vm.findClass RX5 = some m.cls) (hk : (Cond.classLink RX5 323 "java/lang/IllegalStateException").before args s = true) (hini : (Cond.initialized "java/lang/IllegalStateException").before args s = true) (hsa : vk_R RX5 is text sa s) (hg : ∀ w ∈ GW, w.before args s = true) (hX : XX (tA σ0 s.heap.size) s s.heap) (hT : TS κ F σ0 σ s H locs) (hsize : ls.size = c.maxLocals)
    (d0 : decode cc pc = .ok (.new 323, 3)) (d3 : decode cc (pc + 3) = .ok (.dup, 1)) (d4 : decode cc (pc + 4) = .ok (.ldc is, 2)) (d6 : decode cc (pc + 6) = .ok (.invokespecial 327, 3)) (d9 : decode cc (pc + 9) = .ok (.athrow, 1)) (hout : ∀ x ∈ c.exceptionTable.toList, False)
    (hRf : 5 < R.frames) (hRl : (rest.map fun v => v.category).sum + 82 ≤ R.locals) (hz9 : zroomX κ s R cells slots) (hlocks : meth.locks = false) (hp : φx "java/lang/IllegalStateException" σ) : W p l e R s m args below meth c H locs cells slots (vx_MQ below Qc (txq κ F σ0 φx s.heap.size) args s cells slots (tA σ0 s.heap.size)) (F0 m pc ls rest) := by
  refine W.tight (fun w1 w2 w3 w4 => ?_)
  obtain ⟨z1, z2, z3, z4⟩ := hz9
  have c1 : H.size + zpc κ σ ≤ kC κ := hT.2.1.2.1
  have c2 : hsl H + zps κ σ ≤ kS κ := hT.2.1.2.2
  have z1 : kC κ + 1 - s.heap.size ≤ cells := z1
  have z2 : kS κ + 6 - hsl s.heap ≤ slots := z2
  refine W.mono (vxMQ_mono (X1 := fun E' _ t => E' = "java/lang/IllegalStateException" ∧ H.size ≤ t.heap.size ∧ ∀ q : Nat, q < H.size → t.heap[q]? = H[q]?) (m1 := H.size - s.heap.size + 1) (n1 := hsl H - hsl s.heap + 6) (by omega) (by omega) (fun E' t hx9 y1 y2 y3 => ?_)) ?_
  · obtain ⟨rfl, e2, e3⟩ := hx9
    exact txq_end hT hp e2 (by omega) (by omega) e3
  · exact vx_throwS hx hb hlt (names := ["java/lang/RuntimeException", "java/lang/Exception"]) hown (by decide +kernel) (by decide +kernel) hk hini hsa (vx_hat (fun w hw => hg w (at_ISE1 w hw)) at_ISE2 (fun w hw => xxB hX.2.2 hw)) at_ISE3 hX.1 hX.2.1 hT.2.2.2 hsize d0 d3 d4 d6 d9 (fun x hx9 => absurd (hout x hx9) id) hRf hRl (by omega) (by omega) hlocks
      (fun t hal hz hq => ⟨rfl, hz, hq⟩) hT.2.2.2.2.2 (Nat.le_refl _) (Nat.le_refl _)
theorem tth_NSEE {is sa : Nat} {φx : String → Gh → Prop} {text : String} {Qc : Array Value → State → Outcome → State → Prop} (hx : p.tables.exec = Jvm.exec) (hb : c.code = cc) (hlt : l.stackTraces = false) (hown : s.vm.findClass RX5 = some m.cls) (hk : (Cond.classLink RX5 247 "java/util/NoSuchElementException").before args s = true) (hini : (Cond.initialized "java/util/NoSuchElementException").before args s = true) (hsa : vk_R RX5 is text sa s) (hg : ∀ w ∈ GW, w.before args s = true) (hX : XX (tA σ0 s.heap.size) s s.heap) (hT : TS κ F σ0 σ s H locs) (hsize : ls.size = c.maxLocals)
    (d0 : decode cc pc = .ok (.new 247, 3)) (d3 : decode cc (pc + 3) = .ok (.dup, 1)) (d4 : decode cc (pc + 4) = .ok (.ldc is, 2)) (d6 : decode cc (pc + 6) = .ok (.invokespecial 251, 3)) (d9 : decode cc (pc + 9) = .ok (.athrow, 1)) (hout : ∀ x ∈ c.exceptionTable.toList, False)
    (hRf : 5 < R.frames) (hRl : (rest.map fun v => v.category).sum + 82 ≤ R.locals) (hz9 : zroomX κ s R cells slots) (hlocks : meth.locks = false) (hp : φx "java/util/NoSuchElementException" σ) : W p l e R s m args below meth c H locs cells slots (vx_MQ below Qc (txq κ F σ0 φx s.heap.size) args s cells slots (tA σ0 s.heap.size)) (F0 m pc ls rest) := by
  refine W.tight (fun w1 w2 w3 w4 => ?_)
  obtain ⟨z1, z2, z3, z4⟩ := hz9
  have c1 : H.size + zpc κ σ ≤ kC κ := hT.2.1.2.1
  have c2 : hsl H + zps κ σ ≤ kS κ := hT.2.1.2.2
  have z1 : kC κ + 1 - s.heap.size ≤ cells := z1
  have z2 : kS κ + 6 - hsl s.heap ≤ slots := z2
  refine W.mono (vxMQ_mono (X1 := fun E' _ t => E' = "java/util/NoSuchElementException" ∧ H.size ≤ t.heap.size ∧ ∀ q : Nat, q < H.size → t.heap[q]? = H[q]?) (m1 := H.size - s.heap.size + 1) (n1 := hsl H - hsl s.heap + 6) (by omega) (by omega) (fun E' t hx9 y1 y2 y3 => ?_)) ?_
  · obtain ⟨rfl, e2, e3⟩ := hx9
    exact txq_end hT hp e2 (by omega) (by omega) e3
  · exact ns_throw hx hb hlt hown hk hini hsa (vx_hat (fun w hw => hg w (at_NSEE1 w hw)) at_NSEE2 (fun w hw => xxB hX.2.2 hw)) at_NSEE3 hX.1 hX.2.1 hT.2.2.2 hsize d0 d3 d4 d6 d9 (fun x hx9 => absurd (hout x hx9) id) hRf hRl (by omega) (by omega) hlocks
      (fun t hal hz hq => ⟨rfl, hz, hq⟩) hT.2.2.2.2.2 (Nat.le_refl _) (Nat.le_refl _)
theorem tthW_IOOBE {is sa : Nat} {φx : String → Gh → Prop} {text : String} {Qc : Array Value → State → Outcome → State → Prop} (hx : p.tables.exec = Jvm.exec) (hb : c.code = cc) (hlt : l.stackTraces = false) (hown : s.vm.findClass RX5 = some m.cls) (hk : (Cond.classLink RX5 196 "java/lang/IndexOutOfBoundsException").before args s = true) (hini : (Cond.initialized "java/lang/IndexOutOfBoundsException").before args s = true) (hsa : vk_R RX5 is text sa s) (hg : ∀ w ∈ GW, w.before args s = true) (hX : XX (tA σ0 s.heap.size) s s.heap) (hT : TS κ F σ0 σ s H locs) (hsize : ls.size = c.maxLocals)
    (d0 : decode cc pc = .ok (.new 196, 3)) (d3 : decode cc (pc + 3) = .ok (.dup, 1)) (d4 : decode cc (pc + 4) = .ok (.ldc_w is, 3)) (d6 : decode cc (pc + 7) = .ok (.invokespecial 200, 3)) (d9 : decode cc (pc + 10) = .ok (.athrow, 1)) (hout : ∀ x ∈ c.exceptionTable.toList, False)
    (hRf : 5 < R.frames) (hRl : (rest.map fun v => v.category).sum + 82 ≤ R.locals) (hz9 : zroomX κ s R cells slots) (hlocks : meth.locks = false) (hp : φx "java/lang/IndexOutOfBoundsException" σ) : W p l e R s m args below meth c H locs cells slots (vx_MQ below Qc (txq κ F σ0 φx s.heap.size) args s cells slots (tA σ0 s.heap.size)) (F0 m pc ls rest) := by
  refine W.tight (fun w1 w2 w3 w4 => ?_)
  obtain ⟨z1, z2, z3, z4⟩ := hz9
  have c1 : H.size + zpc κ σ ≤ kC κ := hT.2.1.2.1
  have c2 : hsl H + zps κ σ ≤ kS κ := hT.2.1.2.2
  have z1 : kC κ + 1 - s.heap.size ≤ cells := z1
  have z2 : kS κ + 6 - hsl s.heap ≤ slots := z2
  refine W.mono (vxMQ_mono (X1 := fun E' _ t => E' = "java/lang/IndexOutOfBoundsException" ∧ H.size ≤ t.heap.size ∧ ∀ q : Nat, q < H.size → t.heap[q]? = H[q]?) (m1 := H.size - s.heap.size + 1) (n1 := hsl H - hsl s.heap + 6) (by omega) (by omega) (fun E' t hx9 y1 y2 y3 => ?_)) ?_
  · obtain ⟨rfl, e2, e3⟩ := hx9
    exact txq_end hT hp e2 (by omega) (by omega) e3
  · exact vx_throwSW hx hb hlt (names := ["java/lang/RuntimeException", "java/lang/Exception"]) hown (by decide +kernel) (by decide +kernel) hk hini hsa (vx_hat (fun w hw => hg w (at_IOOBE1 w hw)) at_IOOBE2 (fun w hw => xxB hX.2.2 hw)) at_IOOBE3 hX.1 hX.2.1 hT.2.2.2 hsize d0 d3 d4 d6 d9 (fun x hx9 => absurd (hout x hx9) id) hRf hRl (by omega) (by omega) hlocks
      (fun t hal hz hq => ⟨rfl, hz, hq⟩) hT.2.2.2.2.2 (Nat.le_refl _) (Nat.le_refl _)
theorem tthW_IAE {is sa : Nat} {φx : String → Gh → Prop} {text : String} {Qc : Array Value → State → Outcome → State → Prop} (hx : p.tables.exec = Jvm.exec) (hb : c.code = cc) (hlt : l.stackTraces = false) (hown : s.vm.findClass RX5 = some m.cls) (hk : (Cond.classLink RX5 84 "java/lang/IllegalArgumentException").before args s = true) (hini : (Cond.initialized "java/lang/IllegalArgumentException").before args s = true) (hsa : vk_R RX5 is text sa s) (hg : ∀ w ∈ GW, w.before args s = true) (hX : XX (tA σ0 s.heap.size) s s.heap) (hT : TS κ F σ0 σ s H locs) (hsize : ls.size = c.maxLocals)
    (d0 : decode cc pc = .ok (.new 84, 3)) (d3 : decode cc (pc + 3) = .ok (.dup, 1)) (d4 : decode cc (pc + 4) = .ok (.ldc_w is, 3)) (d6 : decode cc (pc + 7) = .ok (.invokespecial 88, 3)) (d9 : decode cc (pc + 10) = .ok (.athrow, 1)) (hout : ∀ x ∈ c.exceptionTable.toList, False)
    (hRf : 5 < R.frames) (hRl : (rest.map fun v => v.category).sum + 82 ≤ R.locals) (hz9 : zroomX κ s R cells slots) (hlocks : meth.locks = false) (hp : φx "java/lang/IllegalArgumentException" σ) : W p l e R s m args below meth c H locs cells slots (vx_MQ below Qc (txq κ F σ0 φx s.heap.size) args s cells slots (tA σ0 s.heap.size)) (F0 m pc ls rest) := by
  refine W.tight (fun w1 w2 w3 w4 => ?_)
  obtain ⟨z1, z2, z3, z4⟩ := hz9
  have c1 : H.size + zpc κ σ ≤ kC κ := hT.2.1.2.1
  have c2 : hsl H + zps κ σ ≤ kS κ := hT.2.1.2.2
  have z1 : kC κ + 1 - s.heap.size ≤ cells := z1
  have z2 : kS κ + 6 - hsl s.heap ≤ slots := z2
  refine W.mono (vxMQ_mono (X1 := fun E' _ t => E' = "java/lang/IllegalArgumentException" ∧ H.size ≤ t.heap.size ∧ ∀ q : Nat, q < H.size → t.heap[q]? = H[q]?) (m1 := H.size - s.heap.size + 1) (n1 := hsl H - hsl s.heap + 6) (by omega) (by omega) (fun E' t hx9 y1 y2 y3 => ?_)) ?_
  · obtain ⟨rfl, e2, e3⟩ := hx9
    exact txq_end hT hp e2 (by omega) (by omega) e3
  · exact vx_throwSW hx hb hlt (names := ["java/lang/RuntimeException", "java/lang/Exception"]) hown (by decide +kernel) (by decide +kernel) hk hini hsa (vx_hat (fun w hw => hg w (at_IAE1 w hw)) at_IAE2 (fun w hw => xxB hX.2.2 hw)) at_IAE3 hX.1 hX.2.1 hT.2.2.2 hsize d0 d3 d4 d6 d9 (fun x hx9 => absurd (hout x hx9) id) hRf hRl (by omega) (by omega) hlocks
      (fun t hal hz hq => ⟨rfl, hz, hq⟩) hT.2.2.2.2.2 (Nat.le_refl _) (Nat.le_refl _)
theorem tthW_ISE {is sa : Nat} {φx : String → Gh → Prop} {text : String} {Qc : Array Value → State → Outcome → State → Prop} (hx : p.tables.exec = Jvm.exec) (hb : c.code = cc) (hlt : l.stackTraces = false) (hown : s.vm.findClass RX5 = some m.cls) (hk : (Cond.classLink RX5 323 "java/lang/IllegalStateException").before args s = true) (hini : (Cond.initialized "java/lang/IllegalStateException").before args s = true) (hsa : vk_R RX5 is text sa s) (hg : ∀ w ∈ GW, w.before args s = true) (hX : XX (tA σ0 s.heap.size) s s.heap) (hT : TS κ F σ0 σ s H locs) (hsize : ls.size = c.maxLocals)
    (d0 : decode cc pc = .ok (.new 323, 3)) (d3 : decode cc (pc + 3) = .ok (.dup, 1)) (d4 : decode cc (pc + 4) = .ok (.ldc_w is, 3)) (d6 : decode cc (pc + 7) = .ok (.invokespecial 327, 3)) (d9 : decode cc (pc + 10) = .ok (.athrow, 1)) (hout : ∀ x ∈ c.exceptionTable.toList, False)
    (hRf : 5 < R.frames) (hRl : (rest.map fun v => v.category).sum + 82 ≤ R.locals) (hz9 : zroomX κ s R cells slots) (hlocks : meth.locks = false) (hp : φx "java/lang/IllegalStateException" σ) : W p l e R s m args below meth c H locs cells slots (vx_MQ below Qc (txq κ F σ0 φx s.heap.size) args s cells slots (tA σ0 s.heap.size)) (F0 m pc ls rest) := by
  refine W.tight (fun w1 w2 w3 w4 => ?_)
  obtain ⟨z1, z2, z3, z4⟩ := hz9
  have c1 : H.size + zpc κ σ ≤ kC κ := hT.2.1.2.1
  have c2 : hsl H + zps κ σ ≤ kS κ := hT.2.1.2.2
  have z1 : kC κ + 1 - s.heap.size ≤ cells := z1
  have z2 : kS κ + 6 - hsl s.heap ≤ slots := z2
  refine W.mono (vxMQ_mono (X1 := fun E' _ t => E' = "java/lang/IllegalStateException" ∧ H.size ≤ t.heap.size ∧ ∀ q : Nat, q < H.size → t.heap[q]? = H[q]?) (m1 := H.size - s.heap.size + 1) (n1 := hsl H - hsl s.heap + 6) (by omega) (by omega) (fun E' t hx9 y1 y2 y3 => ?_)) ?_
  · obtain ⟨rfl, e2, e3⟩ := hx9
    exact txq_end hT hp e2 (by omega) (by omega) e3
  · exact vx_throwSW hx hb hlt (names := ["java/lang/RuntimeException", "java/lang/Exception"]) hown (by decide +kernel) (by decide +kernel) hk hini hsa (vx_hat (fun w hw => hg w (at_ISE1 w hw)) at_ISE2 (fun w hw => xxB hX.2.2 hw)) at_ISE3 hX.1 hX.2.1 hT.2.2.2 hsize d0 d3 d4 d6 d9 (fun x hx9 => absurd (hout x hx9) id) hRf hRl (by omega) (by omega) hlocks
      (fun t hal hz hq => ⟨rfl, hz, hq⟩) hT.2.2.2.2.2 (Nat.le_refl _) (Nat.le_refl _)
theorem tthW_NSEE {is sa : Nat} {φx : String → Gh → Prop} {text : String} {Qc : Array Value → State → Outcome → State → Prop} (hx : p.tables.exec = Jvm.exec) (hb : c.code = cc) (hlt : l.stackTraces = false) (hown : s.vm.findClass RX5 = some m.cls) (hk : (Cond.classLink RX5 247 "java/util/NoSuchElementException").before args s = true) (hini : (Cond.initialized "java/util/NoSuchElementException").before args s = true) (hsa : vk_R RX5 is text sa s) (hg : ∀ w ∈ GW, w.before args s = true) (hX : XX (tA σ0 s.heap.size) s s.heap) (hT : TS κ F σ0 σ s H locs) (hsize : ls.size = c.maxLocals)
    (d0 : decode cc pc = .ok (.new 247, 3)) (d3 : decode cc (pc + 3) = .ok (.dup, 1)) (d4 : decode cc (pc + 4) = .ok (.ldc_w is, 3)) (d6 : decode cc (pc + 7) = .ok (.invokespecial 251, 3)) (d9 : decode cc (pc + 10) = .ok (.athrow, 1)) (hout : ∀ x ∈ c.exceptionTable.toList, False)
    (hRf : 5 < R.frames) (hRl : (rest.map fun v => v.category).sum + 82 ≤ R.locals) (hz9 : zroomX κ s R cells slots) (hlocks : meth.locks = false) (hp : φx "java/util/NoSuchElementException" σ) : W p l e R s m args below meth c H locs cells slots (vx_MQ below Qc (txq κ F σ0 φx s.heap.size) args s cells slots (tA σ0 s.heap.size)) (F0 m pc ls rest) := by
  refine W.tight (fun w1 w2 w3 w4 => ?_)
  obtain ⟨z1, z2, z3, z4⟩ := hz9
  have c1 : H.size + zpc κ σ ≤ kC κ := hT.2.1.2.1
  have c2 : hsl H + zps κ σ ≤ kS κ := hT.2.1.2.2
  have z1 : kC κ + 1 - s.heap.size ≤ cells := z1
  have z2 : kS κ + 6 - hsl s.heap ≤ slots := z2
  refine W.mono (vxMQ_mono (X1 := fun E' _ t => E' = "java/util/NoSuchElementException" ∧ H.size ≤ t.heap.size ∧ ∀ q : Nat, q < H.size → t.heap[q]? = H[q]?) (m1 := H.size - s.heap.size + 1) (n1 := hsl H - hsl s.heap + 6) (by omega) (by omega) (fun E' t hx9 y1 y2 y3 => ?_)) ?_
  · obtain ⟨rfl, e2, e3⟩ := hx9
    exact txq_end hT hp e2 (by omega) (by omega) e3
  · exact ns_throwW hx hb hlt hown hk hini hsa (vx_hat (fun w hw => hg w (at_NSEE1 w hw)) at_NSEE2 (fun w hw => xxB hX.2.2 hw)) at_NSEE3 hX.1 hX.2.1 hT.2.2.2 hsize d0 d3 d4 d6 d9 (fun x hx9 => absurd (hout x hx9) id) hRf hRl (by omega) (by omega) hlocks
      (fun t hal hz hq => ⟨rfl, hz, hq⟩) hT.2.2.2.2.2 (Nat.le_refl _) (Nat.le_refl _)
theorem xtVi {φ : Int32 → Gh → Prop} {φx : String → Gh → Prop} (hx : p.tables.exec = Jvm.exec) (hb : c.code = cc) (hml : c.maxLocals = nL) (hown : s.vm.findClass own = some m.cls) (hg : ∀ w ∈ GW, w.before args s = true) (hT : TS κ F σ0 σ s H locs) (hK : va_K κ.1 vwCl (kTy κ) s) (hX : XY κ (tA σ0 s.heap.size) s s.heap) (hC : TX l y bc ml rt fr lw (.ref b :: As) κ σ (tqi κ F1 σ φ) (txq κ F1 σ φx)) (hFG : ∀ t k, F t k = false → F1 t k = false) (hG : GoodIn GW (wsV own idx C y (mw y bc ml rt))) (hd : y.cls = C ∧ y.cls ≠ "java/lang/invoke/MethodHandle" ∧ y.cls ≠ "java/lang/invoke/VarHandle" ∧ (parseMethodDescriptor y.desc).map (fun d => d.parameters.length) = some n) (hfr : fr + 1 ≤ R.frames ∧ 8 + (ml + 11) + lw ≤ R.locals)
    {ci9 N9 : Nat} {T9 : u_T} {fs9 : List Value} (hr9 : va_at κ.1 vwCl (b, .inr (ci9, fs9)) H) (hci : vwCl[ci9]? = some (C, T9, N9)) (hn : As.length = n) (hsize : ls.size = nL) (hst : st0 = As.reverse ++ .ref b :: rest) (hroom : (rest.map fun v => v.category).sum ≤ 8) (hdg : decode cc pc = .ok (.invokevirtual idx, 3)) (hz9 : zroomX κ s R cells slots)
    (kx : ∀ (E : String) (ce : Cell) (q9 : Addr) (τ : Gh) (H1 : Heap) (locs1 : List Loc), φx E τ → Ext F1 H.size σ τ → TS (kX κ) F σ0 τ s H1 locs1 → H1[q9]? = some ce → ce.vm = .none → s.vm.findClass E = some ce.cls → vx_W p l e R s m args below meth c H1 locs1 cells slots Q (F0 m pc ls rest) q9)
    (kk : ∀ (x : Int32) (τ : Gh) (H1 : Heap) (locs1 : List Loc), φ x τ → Ext F1 H.size σ τ → TS κ F σ0 τ s H1 locs1 → W p l e R s m args below meth c H1 locs1 cells slots Q (F0 m (pc + 3) ls (.int x :: rest))) : W p l e R s m args below meth c H locs cells slots Q (F0 m pc ls st0) := by
  refine W.tight (fun w1 w2 w3 w4 => ?_)
  obtain ⟨z1, z2, z3, z4⟩ := hz9
  have c1 : H.size + zpc κ σ ≤ kC κ := hT.2.1.2.1
  have c2 : hsl H + zps κ σ ≤ kS κ := hT.2.1.2.2
  have z1 : kC κ + 1 - s.heap.size ≤ cells := z1
  have z2 : kS κ + 6 - hsl s.heap ≤ slots := z2
  have e1 : kC (kX κ) = kC κ + 1 := rfl
  have e2 : kS (kX κ) = kS κ + 6 := rfl
  refine vx_calli (vx_runV (As := As) (rest := rest) ⟨hx, hb, hml, hown, hg⟩ (hC H.size (hsl H)) (cwV n hg hG rfl rfl rfl hd ⟨hfr.1, hfr.2⟩) ⟨tpre_blind, va_recv hK hr9.one hci (q0 := 0) rfl, fun U hU hW => ⟨rfl, by rw [hU], by rw [hU], by rw [hU]; exact hT.1, by rw [hU]; exact hT.2.1, va_K.moved hW.alike hK, by rw [hU]; exact (okXY κ).2.1 _ _ _ _ hW ((okXY κ).1 _ _ _ _ hT.tA ((okXY κ).2.2 _ _ _ _ hT.2.2.2.2.1 hX))⟩⟩ rfl hn hsize hst (lv_room hroom) hdg ⟨by omega, by omega⟩) hT.2.2.2 (fun q _ h => hT.tA q h) hT.tA (fun q _ h => hT.tA q h) (fun E ce q9 τ t H1 locs1 ht1 hvm hp hB hz hk hS1 hce hcv hcl => ?_) (fun x τ t H1 locs1 ht1 hvm hw hB hz hk hS1 => ?_)
  · obtain ⟨b0, b1, b2, b3⟩ := hB
    rw [ht1] at b1 b2
    refine vx_widen (k := cells) (n := slots) (by omega) (by omega) ?_
    exact kx E ce q9 τ H1 locs1 b0 b3 ⟨b1, b2, hT.2.2.1.tr b3 hT.2.2.2.1 hFG, hS1⟩ hce hcv hcl
  · obtain ⟨b1, b2, b3⟩ := hB
    rw [ht1] at b1 b2
    refine W.widen (k := cells) (n := slots) (by omega) (by omega) ?_
    exact kk x τ H1 locs1 hw b3 ⟨b1, b2, hT.2.2.1.tr b3 hT.2.2.2.1 hFG, hS1⟩
theorem xtVl {φ : Int64 → Gh → Prop} {φx : String → Gh → Prop} (hx : p.tables.exec = Jvm.exec) (hb : c.code = cc) (hml : c.maxLocals = nL) (hown : s.vm.findClass own = some m.cls) (hg : ∀ w ∈ GW, w.before args s = true) (hT : TS κ F σ0 σ s H locs) (hK : va_K κ.1 vwCl (kTy κ) s) (hX : XY κ (tA σ0 s.heap.size) s s.heap) (hC : TX l y bc ml rt fr lw (.ref b :: As) κ σ (tql κ F1 σ φ) (txq κ F1 σ φx)) (hFG : ∀ t k, F t k = false → F1 t k = false) (hG : GoodIn GW (wsV own idx C y (mw y bc ml rt))) (hd : y.cls = C ∧ y.cls ≠ "java/lang/invoke/MethodHandle" ∧ y.cls ≠ "java/lang/invoke/VarHandle" ∧ (parseMethodDescriptor y.desc).map (fun d => d.parameters.length) = some n) (hfr : fr + 1 ≤ R.frames ∧ 8 + (ml + 11) + lw ≤ R.locals)
    {ci9 N9 : Nat} {T9 : u_T} {fs9 : List Value} (hr9 : va_at κ.1 vwCl (b, .inr (ci9, fs9)) H) (hci : vwCl[ci9]? = some (C, T9, N9)) (hn : As.length = n) (hsize : ls.size = nL) (hst : st0 = As.reverse ++ .ref b :: rest) (hroom : (rest.map fun v => v.category).sum ≤ 8) (hdg : decode cc pc = .ok (.invokevirtual idx, 3)) (hz9 : zroomX κ s R cells slots)
    (kx : ∀ (E : String) (ce : Cell) (q9 : Addr) (τ : Gh) (H1 : Heap) (locs1 : List Loc), φx E τ → Ext F1 H.size σ τ → TS (kX κ) F σ0 τ s H1 locs1 → H1[q9]? = some ce → ce.vm = .none → s.vm.findClass E = some ce.cls → vx_W p l e R s m args below meth c H1 locs1 cells slots Q (F0 m pc ls rest) q9)
    (kk : ∀ (x : Int64) (τ : Gh) (H1 : Heap) (locs1 : List Loc), φ x τ → Ext F1 H.size σ τ → TS κ F σ0 τ s H1 locs1 → W p l e R s m args below meth c H1 locs1 cells slots Q (F0 m (pc + 3) ls (.long x :: rest))) : W p l e R s m args below meth c H locs cells slots Q (F0 m pc ls st0) := by
  refine W.tight (fun w1 w2 w3 w4 => ?_)
  obtain ⟨z1, z2, z3, z4⟩ := hz9
  have c1 : H.size + zpc κ σ ≤ kC κ := hT.2.1.2.1
  have c2 : hsl H + zps κ σ ≤ kS κ := hT.2.1.2.2
  have z1 : kC κ + 1 - s.heap.size ≤ cells := z1
  have z2 : kS κ + 6 - hsl s.heap ≤ slots := z2
  have e1 : kC (kX κ) = kC κ + 1 := rfl
  have e2 : kS (kX κ) = kS κ + 6 := rfl
  refine vx_calll (vx_runV (As := As) (rest := rest) ⟨hx, hb, hml, hown, hg⟩ (hC H.size (hsl H)) (cwV n hg hG rfl rfl rfl hd ⟨hfr.1, hfr.2⟩) ⟨tpre_blind, va_recv hK hr9.one hci (q0 := 0) rfl, fun U hU hW => ⟨rfl, by rw [hU], by rw [hU], by rw [hU]; exact hT.1, by rw [hU]; exact hT.2.1, va_K.moved hW.alike hK, by rw [hU]; exact (okXY κ).2.1 _ _ _ _ hW ((okXY κ).1 _ _ _ _ hT.tA ((okXY κ).2.2 _ _ _ _ hT.2.2.2.2.1 hX))⟩⟩ rfl hn hsize hst (lv_room hroom) hdg ⟨by omega, by omega⟩) hT.2.2.2 (fun q _ h => hT.tA q h) hT.tA (fun q _ h => hT.tA q h) (fun E ce q9 τ t H1 locs1 ht1 hvm hp hB hz hk hS1 hce hcv hcl => ?_) (fun x τ t H1 locs1 ht1 hvm hw hB hz hk hS1 => ?_)
  · obtain ⟨b0, b1, b2, b3⟩ := hB
    rw [ht1] at b1 b2
    refine vx_widen (k := cells) (n := slots) (by omega) (by omega) ?_
    exact kx E ce q9 τ H1 locs1 b0 b3 ⟨b1, b2, hT.2.2.1.tr b3 hT.2.2.2.1 hFG, hS1⟩ hce hcv hcl
  · obtain ⟨b1, b2, b3⟩ := hB
    rw [ht1] at b1 b2
    refine W.widen (k := cells) (n := slots) (by omega) (by omega) ?_
    exact kk x τ H1 locs1 hw b3 ⟨b1, b2, hT.2.2.1.tr b3 hT.2.2.2.1 hFG, hS1⟩
theorem xtVv {φ : Gh → Prop} {φx : String → Gh → Prop} (hx : p.tables.exec = Jvm.exec) (hb : c.code = cc) (hml : c.maxLocals = nL) (hown : s.vm.findClass own = some m.cls) (hg : ∀ w ∈ GW, w.before args s = true) (hT : TS κ F σ0 σ s H locs) (hK : va_K κ.1 vwCl (kTy κ) s) (hX : XY κ (tA σ0 s.heap.size) s s.heap) (hC : TX l y bc ml rt fr lw (.ref b :: As) κ σ (tqv κ F1 σ φ) (txq κ F1 σ φx)) (hFG : ∀ t k, F t k = false → F1 t k = false) (hG : GoodIn GW (wsV own idx C y (mw y bc ml rt))) (hd : y.cls = C ∧ y.cls ≠ "java/lang/invoke/MethodHandle" ∧ y.cls ≠ "java/lang/invoke/VarHandle" ∧ (parseMethodDescriptor y.desc).map (fun d => d.parameters.length) = some n) (hfr : fr + 1 ≤ R.frames ∧ 8 + (ml + 11) + lw ≤ R.locals)
    {ci9 N9 : Nat} {T9 : u_T} {fs9 : List Value} (hr9 : va_at κ.1 vwCl (b, .inr (ci9, fs9)) H) (hci : vwCl[ci9]? = some (C, T9, N9)) (hn : As.length = n) (hsize : ls.size = nL) (hst : st0 = As.reverse ++ .ref b :: rest) (hroom : (rest.map fun v => v.category).sum ≤ 8) (hdg : decode cc pc = .ok (.invokevirtual idx, 3)) (hz9 : zroomX κ s R cells slots)
    (kx : ∀ (E : String) (ce : Cell) (q9 : Addr) (τ : Gh) (H1 : Heap) (locs1 : List Loc), φx E τ → Ext F1 H.size σ τ → TS (kX κ) F σ0 τ s H1 locs1 → H1[q9]? = some ce → ce.vm = .none → s.vm.findClass E = some ce.cls → vx_W p l e R s m args below meth c H1 locs1 cells slots Q (F0 m pc ls rest) q9)
    (kk : ∀ (τ : Gh) (H1 : Heap) (locs1 : List Loc), φ τ → Ext F1 H.size σ τ → TS κ F σ0 τ s H1 locs1 → W p l e R s m args below meth c H1 locs1 cells slots Q (F0 m (pc + 3) ls rest)) : W p l e R s m args below meth c H locs cells slots Q (F0 m pc ls st0) := by
  refine W.tight (fun w1 w2 w3 w4 => ?_)
  obtain ⟨z1, z2, z3, z4⟩ := hz9
  have c1 : H.size + zpc κ σ ≤ kC κ := hT.2.1.2.1
  have c2 : hsl H + zps κ σ ≤ kS κ := hT.2.1.2.2
  have z1 : kC κ + 1 - s.heap.size ≤ cells := z1
  have z2 : kS κ + 6 - hsl s.heap ≤ slots := z2
  have e1 : kC (kX κ) = kC κ + 1 := rfl
  have e2 : kS (kX κ) = kS κ + 6 := rfl
  refine vx_callv (vx_runV (As := As) (rest := rest) ⟨hx, hb, hml, hown, hg⟩ (hC H.size (hsl H)) (cwV n hg hG rfl rfl rfl hd ⟨hfr.1, hfr.2⟩) ⟨tpre_blind, va_recv hK hr9.one hci (q0 := 0) rfl, fun U hU hW => ⟨rfl, by rw [hU], by rw [hU], by rw [hU]; exact hT.1, by rw [hU]; exact hT.2.1, va_K.moved hW.alike hK, by rw [hU]; exact (okXY κ).2.1 _ _ _ _ hW ((okXY κ).1 _ _ _ _ hT.tA ((okXY κ).2.2 _ _ _ _ hT.2.2.2.2.1 hX))⟩⟩ rfl hn hsize hst (lv_room hroom) hdg ⟨by omega, by omega⟩) hT.2.2.2 (fun q _ h => hT.tA q h) hT.tA (fun q _ h => hT.tA q h) (fun E ce q9 τ t H1 locs1 ht1 hvm hp hB hz hk hS1 hce hcv hcl => ?_) (fun τ t H1 locs1 ht1 hvm hw hB hz hk hS1 => ?_)
  · obtain ⟨b0, b1, b2, b3⟩ := hB
    rw [ht1] at b1 b2
    refine vx_widen (k := cells) (n := slots) (by omega) (by omega) ?_
    exact kx E ce q9 τ H1 locs1 b0 b3 ⟨b1, b2, hT.2.2.1.tr b3 hT.2.2.2.1 hFG, hS1⟩ hce hcv hcl
  · obtain ⟨b1, b2, b3⟩ := hB
    rw [ht1] at b1 b2
    refine W.widen (k := cells) (n := slots) (by omega) (by omega) ?_
    exact kk τ H1 locs1 hw b3 ⟨b1, b2, hT.2.2.1.tr b3 hT.2.2.2.1 hFG, hS1⟩
theorem xtSi {φ : Int32 → Gh → Prop} {φx : String → Gh → Prop} (hx : p.tables.exec = Jvm.exec) (hb : c.code = cc) (hml : c.maxLocals = nL) (hown : s.vm.findClass own = some m.cls) (hg : ∀ w ∈ GW, w.before args s = true) (hT : TS κ F σ0 σ s H locs) (hK : va_K κ.1 vwCl (kTy κ) s) (hX : XY κ (tA σ0 s.heap.size) s s.heap) (hC : TX l y bc ml rt fr lw As κ σ (tqi κ F1 σ φ) (txq κ F1 σ φx)) (hFG : ∀ t k, F t k = false → F1 t k = false) (hG : GoodIn GW (wsS own idx y (mw y bc ml rt))) (hd : y.cls = own ∧ y.cls ≠ "java/lang/invoke/MethodHandle" ∧ y.cls ≠ "java/lang/invoke/VarHandle" ∧ (parseMethodDescriptor y.desc).map (fun d => d.parameters.length) = some n) (hfr : fr + 1 ≤ R.frames ∧ 8 + (ml + 11) + lw ≤ R.locals)
    (hn : As.length = n) (hsize : ls.size = nL) (hst : st0 = As.reverse ++ rest) (hroom : (rest.map fun v => v.category).sum ≤ 8) (hdg : decode cc pc = .ok (.invokestatic idx, 3)) (hz9 : zroomX κ s R cells slots)
    (kx : ∀ (E : String) (ce : Cell) (q9 : Addr) (τ : Gh) (H1 : Heap) (locs1 : List Loc), φx E τ → Ext F1 H.size σ τ → TS (kX κ) F σ0 τ s H1 locs1 → H1[q9]? = some ce → ce.vm = .none → s.vm.findClass E = some ce.cls → vx_W p l e R s m args below meth c H1 locs1 cells slots Q (F0 m pc ls rest) q9)
    (kk : ∀ (x : Int32) (τ : Gh) (H1 : Heap) (locs1 : List Loc), φ x τ → Ext F1 H.size σ τ → TS κ F σ0 τ s H1 locs1 → W p l e R s m args below meth c H1 locs1 cells slots Q (F0 m (pc + 3) ls (.int x :: rest))) : W p l e R s m args below meth c H locs cells slots Q (F0 m pc ls st0) := by
  refine W.tight (fun w1 w2 w3 w4 => ?_)
  obtain ⟨z1, z2, z3, z4⟩ := hz9
  have c1 : H.size + zpc κ σ ≤ kC κ := hT.2.1.2.1
  have c2 : hsl H + zps κ σ ≤ kS κ := hT.2.1.2.2
  have z1 : kC κ + 1 - s.heap.size ≤ cells := z1
  have z2 : kS κ + 6 - hsl s.heap ≤ slots := z2
  have e1 : kC (kX κ) = kC κ + 1 := rfl
  have e2 : kS (kX κ) = kS κ + 6 := rfl
  refine vx_calli (vx_runS (As := As) (rest := rest) ⟨hx, hb, hml, hown, hg⟩ (hC H.size (hsl H)) (cwS n hg hG rfl rfl rfl hd ⟨hfr.1, hfr.2⟩) ⟨tpre_blind, fun U hU hW => ⟨rfl, by rw [hU], by rw [hU], by rw [hU]; exact hT.1, by rw [hU]; exact hT.2.1, va_K.moved hW.alike hK, by rw [hU]; exact (okXY κ).2.1 _ _ _ _ hW ((okXY κ).1 _ _ _ _ hT.tA ((okXY κ).2.2 _ _ _ _ hT.2.2.2.2.1 hX))⟩⟩ rfl hn hsize hst (lv_room hroom) hdg ⟨by omega, by omega⟩) hT.2.2.2 (fun q _ h => hT.tA q h) hT.tA (fun q _ h => hT.tA q h) (fun E ce q9 τ t H1 locs1 ht1 hvm hp hB hz hk hS1 hce hcv hcl => ?_) (fun x τ t H1 locs1 ht1 hvm hw hB hz hk hS1 => ?_)
  · obtain ⟨b0, b1, b2, b3⟩ := hB
    rw [ht1] at b1 b2
    refine vx_widen (k := cells) (n := slots) (by omega) (by omega) ?_
    exact kx E ce q9 τ H1 locs1 b0 b3 ⟨b1, b2, hT.2.2.1.tr b3 hT.2.2.2.1 hFG, hS1⟩ hce hcv hcl
  · obtain ⟨b1, b2, b3⟩ := hB
    rw [ht1] at b1 b2
    refine W.widen (k := cells) (n := slots) (by omega) (by omega) ?_
    exact kk x τ H1 locs1 hw b3 ⟨b1, b2, hT.2.2.1.tr b3 hT.2.2.2.1 hFG, hS1⟩
theorem xtSl {φ : Int64 → Gh → Prop} {φx : String → Gh → Prop} (hx : p.tables.exec = Jvm.exec) (hb : c.code = cc) (hml : c.maxLocals = nL) (hown : s.vm.findClass own = some m.cls) (hg : ∀ w ∈ GW, w.before args s = true) (hT : TS κ F σ0 σ s H locs) (hK : va_K κ.1 vwCl (kTy κ) s) (hX : XY κ (tA σ0 s.heap.size) s s.heap) (hC : TX l y bc ml rt fr lw As κ σ (tql κ F1 σ φ) (txq κ F1 σ φx)) (hFG : ∀ t k, F t k = false → F1 t k = false) (hG : GoodIn GW (wsS own idx y (mw y bc ml rt))) (hd : y.cls = own ∧ y.cls ≠ "java/lang/invoke/MethodHandle" ∧ y.cls ≠ "java/lang/invoke/VarHandle" ∧ (parseMethodDescriptor y.desc).map (fun d => d.parameters.length) = some n) (hfr : fr + 1 ≤ R.frames ∧ 8 + (ml + 11) + lw ≤ R.locals)
    (hn : As.length = n) (hsize : ls.size = nL) (hst : st0 = As.reverse ++ rest) (hroom : (rest.map fun v => v.category).sum ≤ 8) (hdg : decode cc pc = .ok (.invokestatic idx, 3)) (hz9 : zroomX κ s R cells slots)
    (kx : ∀ (E : String) (ce : Cell) (q9 : Addr) (τ : Gh) (H1 : Heap) (locs1 : List Loc), φx E τ → Ext F1 H.size σ τ → TS (kX κ) F σ0 τ s H1 locs1 → H1[q9]? = some ce → ce.vm = .none → s.vm.findClass E = some ce.cls → vx_W p l e R s m args below meth c H1 locs1 cells slots Q (F0 m pc ls rest) q9)
    (kk : ∀ (x : Int64) (τ : Gh) (H1 : Heap) (locs1 : List Loc), φ x τ → Ext F1 H.size σ τ → TS κ F σ0 τ s H1 locs1 → W p l e R s m args below meth c H1 locs1 cells slots Q (F0 m (pc + 3) ls (.long x :: rest))) : W p l e R s m args below meth c H locs cells slots Q (F0 m pc ls st0) := by
  refine W.tight (fun w1 w2 w3 w4 => ?_)
  obtain ⟨z1, z2, z3, z4⟩ := hz9
  have c1 : H.size + zpc κ σ ≤ kC κ := hT.2.1.2.1
  have c2 : hsl H + zps κ σ ≤ kS κ := hT.2.1.2.2
  have z1 : kC κ + 1 - s.heap.size ≤ cells := z1
  have z2 : kS κ + 6 - hsl s.heap ≤ slots := z2
  have e1 : kC (kX κ) = kC κ + 1 := rfl
  have e2 : kS (kX κ) = kS κ + 6 := rfl
  refine vx_calll (vx_runS (As := As) (rest := rest) ⟨hx, hb, hml, hown, hg⟩ (hC H.size (hsl H)) (cwS n hg hG rfl rfl rfl hd ⟨hfr.1, hfr.2⟩) ⟨tpre_blind, fun U hU hW => ⟨rfl, by rw [hU], by rw [hU], by rw [hU]; exact hT.1, by rw [hU]; exact hT.2.1, va_K.moved hW.alike hK, by rw [hU]; exact (okXY κ).2.1 _ _ _ _ hW ((okXY κ).1 _ _ _ _ hT.tA ((okXY κ).2.2 _ _ _ _ hT.2.2.2.2.1 hX))⟩⟩ rfl hn hsize hst (lv_room hroom) hdg ⟨by omega, by omega⟩) hT.2.2.2 (fun q _ h => hT.tA q h) hT.tA (fun q _ h => hT.tA q h) (fun E ce q9 τ t H1 locs1 ht1 hvm hp hB hz hk hS1 hce hcv hcl => ?_) (fun x τ t H1 locs1 ht1 hvm hw hB hz hk hS1 => ?_)
  · obtain ⟨b0, b1, b2, b3⟩ := hB
    rw [ht1] at b1 b2
    refine vx_widen (k := cells) (n := slots) (by omega) (by omega) ?_
    exact kx E ce q9 τ H1 locs1 b0 b3 ⟨b1, b2, hT.2.2.1.tr b3 hT.2.2.2.1 hFG, hS1⟩ hce hcv hcl
  · obtain ⟨b1, b2, b3⟩ := hB
    rw [ht1] at b1 b2
    refine W.widen (k := cells) (n := slots) (by omega) (by omega) ?_
    exact kk x τ H1 locs1 hw b3 ⟨b1, b2, hT.2.2.1.tr b3 hT.2.2.2.1 hFG, hS1⟩
theorem xtSv {φ : Gh → Prop} {φx : String → Gh → Prop} (hx : p.tables.exec = Jvm.exec) (hb : c.code = cc) (hml : c.maxLocals = nL) (hown : s.vm.findClass own = some m.cls) (hg : ∀ w ∈ GW, w.before args s = true) (hT : TS κ F σ0 σ s H locs) (hK : va_K κ.1 vwCl (kTy κ) s) (hX : XY κ (tA σ0 s.heap.size) s s.heap) (hC : TX l y bc ml rt fr lw As κ σ (tqv κ F1 σ φ) (txq κ F1 σ φx)) (hFG : ∀ t k, F t k = false → F1 t k = false) (hG : GoodIn GW (wsS own idx y (mw y bc ml rt))) (hd : y.cls = own ∧ y.cls ≠ "java/lang/invoke/MethodHandle" ∧ y.cls ≠ "java/lang/invoke/VarHandle" ∧ (parseMethodDescriptor y.desc).map (fun d => d.parameters.length) = some n) (hfr : fr + 1 ≤ R.frames ∧ 8 + (ml + 11) + lw ≤ R.locals)
    (hn : As.length = n) (hsize : ls.size = nL) (hst : st0 = As.reverse ++ rest) (hroom : (rest.map fun v => v.category).sum ≤ 8) (hdg : decode cc pc = .ok (.invokestatic idx, 3)) (hz9 : zroomX κ s R cells slots)
    (kx : ∀ (E : String) (ce : Cell) (q9 : Addr) (τ : Gh) (H1 : Heap) (locs1 : List Loc), φx E τ → Ext F1 H.size σ τ → TS (kX κ) F σ0 τ s H1 locs1 → H1[q9]? = some ce → ce.vm = .none → s.vm.findClass E = some ce.cls → vx_W p l e R s m args below meth c H1 locs1 cells slots Q (F0 m pc ls rest) q9)
    (kk : ∀ (τ : Gh) (H1 : Heap) (locs1 : List Loc), φ τ → Ext F1 H.size σ τ → TS κ F σ0 τ s H1 locs1 → W p l e R s m args below meth c H1 locs1 cells slots Q (F0 m (pc + 3) ls rest)) : W p l e R s m args below meth c H locs cells slots Q (F0 m pc ls st0) := by
  refine W.tight (fun w1 w2 w3 w4 => ?_)
  obtain ⟨z1, z2, z3, z4⟩ := hz9
  have c1 : H.size + zpc κ σ ≤ kC κ := hT.2.1.2.1
  have c2 : hsl H + zps κ σ ≤ kS κ := hT.2.1.2.2
  have z1 : kC κ + 1 - s.heap.size ≤ cells := z1
  have z2 : kS κ + 6 - hsl s.heap ≤ slots := z2
  have e1 : kC (kX κ) = kC κ + 1 := rfl
  have e2 : kS (kX κ) = kS κ + 6 := rfl
  refine vx_callv (vx_runS (As := As) (rest := rest) ⟨hx, hb, hml, hown, hg⟩ (hC H.size (hsl H)) (cwS n hg hG rfl rfl rfl hd ⟨hfr.1, hfr.2⟩) ⟨tpre_blind, fun U hU hW => ⟨rfl, by rw [hU], by rw [hU], by rw [hU]; exact hT.1, by rw [hU]; exact hT.2.1, va_K.moved hW.alike hK, by rw [hU]; exact (okXY κ).2.1 _ _ _ _ hW ((okXY κ).1 _ _ _ _ hT.tA ((okXY κ).2.2 _ _ _ _ hT.2.2.2.2.1 hX))⟩⟩ rfl hn hsize hst (lv_room hroom) hdg ⟨by omega, by omega⟩) hT.2.2.2 (fun q _ h => hT.tA q h) hT.tA (fun q _ h => hT.tA q h) (fun E ce q9 τ t H1 locs1 ht1 hvm hp hB hz hk hS1 hce hcv hcl => ?_) (fun τ t H1 locs1 ht1 hvm hw hB hz hk hS1 => ?_)
  · obtain ⟨b0, b1, b2, b3⟩ := hB
    rw [ht1] at b1 b2
    refine vx_widen (k := cells) (n := slots) (by omega) (by omega) ?_
    exact kx E ce q9 τ H1 locs1 b0 b3 ⟨b1, b2, hT.2.2.1.tr b3 hT.2.2.2.1 hFG, hS1⟩ hce hcv hcl
  · obtain ⟨b1, b2, b3⟩ := hB
    rw [ht1] at b1 b2
    refine W.widen (k := cells) (n := slots) (by omega) (by omega) ?_
    exact kk τ H1 locs1 hw b3 ⟨b1, b2, hT.2.2.1.tr b3 hT.2.2.2.1 hFG, hS1⟩
/-- what the callee throws goes on to the caller -/
theorem tx_out {Qc : Array Value → State → Outcome → State → Prop} {φx : String → Gh → Prop} {E : String} {ce : Cell} {q9 : Addr} (hT : TS (kX κ) F σ0 σ s H locs) (hp : φx E σ) (hout : ∀ x ∈ c.exceptionTable.toList, False) (hlocks : meth.locks = false) (hce : H[q9]? = some ce) (hcv : ce.vm = .none) (hcl : s.vm.findClass E = some ce.cls) : vx_W p l e R s m args below meth c H locs cells slots (vx_MQ below Qc (txq κ F σ0 φx s.heap.size) args s cells slots (tA σ0 s.heap.size)) (F0 m pc ls rest) q9 :=
  vx_out (fun x hx9 => absurd (hout x hx9) id) hlocks hce hcv hcl (fun t ht _ => ⟨σ, trivial, ⟨hp, by rw [ht]; exact hT.1, by rw [ht]; exact hT.2.1, hT.2.2.1⟩, hT.2.2.2.F ht⟩) hT.2.2.2.2.2 (Nat.le_refl _) (Nat.le_refl _)
end TMX
