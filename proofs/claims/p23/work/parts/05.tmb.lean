/-! Contracts over states of which the kinds of the cells are known; calls and ends. -/
section TMB
variable {p : Program} {l : Launch} {e : Env} {R : Room} {s : State} {m : MethodId} {args : Array Value} {below : List Frame} {meth : Method} {c : Code} {H : Heap} {locs : List Loc} {cells slots : Nat} {Q : State → Prop} {cc : ByteArray} {pc : Nat} {ls : Array Slot} {rest st0 : List Value}
variable {κ : Kt} {F F1 : Nat → Nat → Bool} {σ0 σ : Gh}
variable {own C : String} {nL n idx ml fr lw : Nat} {y : MethodName} {bc : ByteArray} {rt : Option FieldType} {b : Nat} {av As : List Value}
theorem drop_sum {H0 H : Heap} (hz : H0.size ≤ H.size) (h : ∀ (a : Nat) (x : Cell), H0[a]? = some x → ∃ y, H[a]? = some y ∧ y.slots.size = x.slots.size) : ((H.toList.drop H0.size).map (fun q => q.slots.size)).sum + hsl H0 = hsl H := by
  have e : (H.toList.take H0.size).map (fun q => q.slots.size) = H0.toList.map (fun q => q.slots.size) := by
    apply List.ext_getElem?
    intro i
    rw [List.getElem?_map, List.getElem?_map]
    by_cases hi : i < H0.size
    · rw [List.getElem?_take_of_lt hi, Array.getElem?_toList, Array.getElem?_toList]
      have h0 : H0[i]? = some H0[i] := Array.getElem?_eq_getElem hi
      obtain ⟨z, h1, h2⟩ := h i _ h0
      rw [h1, h0]
      simp [h2]
    · rw [List.getElem?_eq_none (by simp; omega), List.getElem?_eq_none (by simp; omega)]
  have e2 : hsl H = ((H.toList.take H0.size ++ H.toList.drop H0.size).map (fun q => q.slots.size)).sum := by
    rw [List.take_append_drop]; rfl
  rw [e2, List.map_append, List.sum_append, e]
  unfold hsl
  omega
/-- the counters say no more than the heap itself -/
theorem W.tight {g : JFrame} (k : s.heap.size ≤ H.size → hsl s.heap ≤ hsl H → H.size ≤ s.heap.size + cells → hsl H ≤ hsl s.heap + slots → W p l e R s m args below meth c H locs (H.size - s.heap.size) (hsl H - hsl s.heap) Q g) : W p l e R s m args below meth c H locs cells slots Q g := by
  intro T hT X
  subst hT
  obtain ⟨q1, q2, q3, q4, q5, q6⟩ := X.same
  have q2 : s.heap.size ≤ T.heap.size := q2
  have q3 : T.heap.size ≤ s.heap.size + cells := q3
  have hd := drop_sum q2 (fun a x hx => by
    obtain ⟨y9, h1, -, h3, -⟩ := q6 a x hx
    exact ⟨y9, h1, h3⟩)
  have q5 : ((T.heap.toList.drop s.heap.size).map (fun q => q.slots.size)).sum ≤ slots := q5
  refine k q2 (by omega) q3 (by omega) T rfl { X with same := ⟨q1, q2, ?_, q4, ?_, q6⟩ }
  · show T.heap.size ≤ s.heap.size + (T.heap.size - s.heap.size)
    omega
  · show ((T.heap.toList.drop s.heap.size).map (fun q => q.slots.size)).sum ≤ hsl T.heap - hsl s.heap
    omega
def tpre (av : List Value) (κ : Kt) (σ : Gh) (sz su : Nat) : Array Value → State → Prop := va_Pc av (fun U => U.heap.size = sz ∧ hsl U.heap = su ∧ TI κ σ U.heap ∧ CAP κ σ U.heap ∧ va_K κ.1 vwCl (kTy κ) U ∧ XY κ (tA σ sz) U U.heap)
theorem tpre_blind {sz su : Nat} : FrameBlind (tpre av κ σ sz su) := fun a U g mk h => by
  obtain ⟨h0, h1, h2, h3, h4, h5, h6⟩ := h
  exact ⟨h0, h1, h2, h3, h4, va_K.moved (u := U) (U := U.calling g mk a) (Vm.Alike.refl U.vm) h5, (okXY κ).2.1 _ U (U.calling g mk a) _ (State.WarmedH.refl U) h6⟩
def tB (κ : Kt) (F : Nat → Nat → Bool) (σ : Gh) (sz : Nat) : Gh → State → Prop := fun τ t => TI κ τ t.heap ∧ CAP κ τ t.heap ∧ Ext F sz σ τ
abbrev tqi (κ : Kt) (F : Nat → Nat → Bool) (σ : Gh) (φ : Int32 → Gh → Prop) (sz : Nat) := va_Qi φ (tB κ F σ sz) (tA σ sz)
abbrev tql (κ : Kt) (F : Nat → Nat → Bool) (σ : Gh) (φ : Int64 → Gh → Prop) (sz : Nat) := va_Ql φ (tB κ F σ sz) (tA σ sz)
abbrev tqd (κ : Kt) (F : Nat → Nat → Bool) (σ : Gh) (φ : UInt64 → Gh → Prop) (sz : Nat) := va_Qd φ (tB κ F σ sz) (tA σ sz)
abbrev tqv (κ : Kt) (F : Nat → Nat → Bool) (σ : Gh) (φ : Gh → Prop) (sz : Nat) := va_Qv φ (tB κ F σ sz) (tA σ sz)
abbrev tqr (κ : Kt) (F : Nat → Nat → Bool) (σ : Gh) (φ : Nat → Gh → Prop) (sz : Nat) := va_Qr (fun _ : Gh => True) (fun τ a t => φ a τ ∧ tB κ F σ sz τ t) (tA σ sz)
/-- a method's contract: from every state of these kinds it returns, and leaves one -/
def TC (l : Launch) (y : MethodName) (bc : ByteArray) (ml : Nat) (rt : Option FieldType) (fr lw : Nat) (av : List Value) (κ : Kt) (σ : Gh) (Qc : Nat → Array Value → State → Outcome → State → Prop) : Prop := ∀ sz su, Met l y (mw y bc ml rt) { frames := fr, cells := kC κ - sz, slots := kS κ - su, locals := lw } (tpre av κ σ sz su) (Qc sz) (kC κ - sz) (kS κ - su) (tA σ sz)
abbrev tW (p : Program) (l : Launch) (e : Env) (fr lw : Nat) (κ : Kt) (s : State) (m : MethodId) (args : Array Value) (below : List Frame) (meth : Method) (c : Code) (H : Heap) (locs : List Loc) (Q : State → Prop) (g : JFrame) : Prop := W p l e { frames := fr, cells := kC κ - s.heap.size, slots := kS κ - hsl s.heap, locals := lw } s m args below meth c H locs (kC κ - s.heap.size) (kS κ - hsl s.heap) Q g
abbrev tQ (κ : Kt) (σ : Gh) (below : List Frame) (Qc : Nat → Array Value → State → Outcome → State → Prop) (args : Array Value) (s : State) : State → Prop := MQ below (Qc s.heap.size) args s (kC κ - s.heap.size) (kS κ - hsl s.heap) (tA σ s.heap.size)
theorem TC.of (F : Nat → Nat → Bool) {Qc : Nat → Array Value → State → Outcome → State → Prop} (hy : plainName y.cls = true) (hlen : (lg_sl av).length ≤ ml)
    (body : ∀ (p : Program) (e : Env) (s : State) (m : MethodId) (below : List Frame) (meth : Method) (c : Code) (ls : Array Slot), CS p bc rt ml y av.toArray s m meth c → va_K κ.1 vwCl (kTy κ) s → XY κ (tA σ s.heap.size) s s.heap → TS κ F σ σ s s.heap [] → lv_has ls ml (lv_args 0 av) →
      tW p l e fr lw κ s m av.toArray below meth c s.heap [] (tQ κ σ below Qc av.toArray s) (F0 m 0 ls [])) : TC l y bc ml rt fr lw av κ σ Qc := by
  intro sz su
  refine Met.ofW (cc := bc) (maxL := ml) (ret := rt) hy rfl ?_
  intro p e s m args below meth c s₁ B hml hv
  obtain ⟨rfl, hsz, hsu, hT, hC, hK, hX⟩ := hv
  subst hsz
  subst hsu
  rw [lg_entry_eq]
  have hts := atoms_spec (ws := mw y bc ml rt) B.pre
  refine W.widen (k := kC κ - s.heap.size) (n := kS κ - hsl s.heap) (Nat.zero_le _) (Nat.zero_le _) ?_
  exact body p e s m below meth c _ ⟨B.exec, B.bytes, B.returns, hml, findClass_of_methodNamed B.named, fun w h => hts w (List.mem_cons_of_mem _ h), B.notSynchronized, (name_of_methodNamed B.named B.method).1⟩ hK hX ⟨hT, hC, Ext.rf, va_S.rf⟩ (lv_entry av hlen)
/-- room enough -/
def zroom (κ : Kt) (s : State) (R : Room) (cells slots : Nat) : Prop := kC κ - s.heap.size ≤ cells ∧ kS κ - hsl s.heap ≤ slots ∧ cells ≤ R.cells ∧ slots ≤ R.slots
theorem zroom.rf {fr lw : Nat} : zroom κ s { frames := fr, cells := kC κ - s.heap.size, slots := kS κ - hsl s.heap, locals := lw } (kC κ - s.heap.size) (kS κ - hsl s.heap) := ⟨Nat.le_refl _, Nat.le_refl _, Nat.le_refl _, Nat.le_refl _⟩
theorem TS.tA {locs : List Loc} (h : TS κ F σ0 σ s H locs) : ∀ q, tA σ H.size q → tA σ0 s.heap.size q := fun q hq => by
  rcases hq with hq | hq
  · exact h.A hq
  · exact Or.inr (Nat.le_trans h.2.2.2.1 hq)

theorem tVi {φ : Int32 → Gh → Prop} (hx : p.tables.exec = Jvm.exec) (hb : c.code = cc) (hml : c.maxLocals = nL) (hown : s.vm.findClass own = some m.cls) (hg : ∀ w ∈ GW, w.before args s = true) (hT : TS κ F σ0 σ s H locs) (hK : va_K κ.1 vwCl (kTy κ) s) (hX : XY κ (tA σ0 s.heap.size) s s.heap) (hC : TC l y bc ml rt fr lw (.ref b :: As) κ σ (tqi κ F1 σ φ)) (hFG : ∀ t k, F t k = false → F1 t k = false) (hG : GoodIn GW (wsV own idx C y (mw y bc ml rt))) (hd : y.cls = C ∧ y.cls ≠ "java/lang/invoke/MethodHandle" ∧ y.cls ≠ "java/lang/invoke/VarHandle" ∧ (parseMethodDescriptor y.desc).map (fun d => d.parameters.length) = some n) (hfr : fr + 1 ≤ R.frames ∧ 8 + (ml + 11) + lw ≤ R.locals)
    {ci9 N9 : Nat} {T9 : u_T} {fs9 : List Value} (hr9 : va_at κ.1 vwCl (b, .inr (ci9, fs9)) H) (hci : vwCl[ci9]? = some (C, T9, N9)) (hn : As.length = n) (hsize : ls.size = nL) (hst : st0 = As.reverse ++ .ref b :: rest) (hroom : (rest.map fun v => v.category).sum ≤ 8) (hdg : decode cc pc = .ok (.invokevirtual idx, 3)) (hz9 : zroom κ s R cells slots)
    (kk : ∀ (x : Int32) (τ : Gh) (H1 : Heap) (locs1 : List Loc), φ x τ → Ext F1 H.size σ τ → TS κ F σ0 τ s H1 locs1 → W p l e R s m args below meth c H1 locs1 cells slots Q (F0 m (pc + 3) ls (.int x :: rest))) : W p l e R s m args below meth c H locs cells slots Q (F0 m pc ls st0) := by
  refine W.tight (fun w1 w2 w3 w4 => ?_)
  obtain ⟨z1, z2, z3, z4⟩ := hz9
  have c1 := hT.2.1.2.1
  have c2 := hT.2.1.2.2
  refine va_calli (va_runV (As := As) (rest := rest) ⟨hx, hb, hml, hown, hg⟩ (hC H.size (hsl H)) (cwV n hg hG rfl rfl rfl hd ⟨hfr.1, hfr.2⟩) ⟨tpre_blind, va_recv hK hr9.one hci (q0 := 0) rfl, fun U hU hW => ⟨rfl, by rw [hU], by rw [hU], by rw [hU]; exact hT.1, by rw [hU]; exact hT.2.1, va_K.moved hW.alike hK, by rw [hU]; exact (okXY κ).2.1 _ _ _ _ hW ((okXY κ).1 _ _ _ _ hT.tA ((okXY κ).2.2 _ _ _ _ hT.2.2.2.2.1 hX))⟩⟩ rfl hn hsize hst (lv_room hroom) hdg ⟨by omega, by omega⟩) hT.2.2.2 (fun q _ h => hT.tA q h) hT.tA (fun x τ t H1 locs1 ht1 hvm hw hB hz hk hS1 => ?_)
  obtain ⟨b1, b2, b3⟩ := hB
  rw [ht1] at b1 b2
  refine W.widen (k := cells) (n := slots) (by omega) (by omega) ?_
  exact kk x τ H1 locs1 hw b3 ⟨b1, b2, hT.2.2.1.tr b3 hT.2.2.2.1 hFG, hS1⟩
theorem tVl {φ : Int64 → Gh → Prop} (hx : p.tables.exec = Jvm.exec) (hb : c.code = cc) (hml : c.maxLocals = nL) (hown : s.vm.findClass own = some m.cls) (hg : ∀ w ∈ GW, w.before args s = true) (hT : TS κ F σ0 σ s H locs) (hK : va_K κ.1 vwCl (kTy κ) s) (hX : XY κ (tA σ0 s.heap.size) s s.heap) (hC : TC l y bc ml rt fr lw (.ref b :: As) κ σ (tql κ F1 σ φ)) (hFG : ∀ t k, F t k = false → F1 t k = false) (hG : GoodIn GW (wsV own idx C y (mw y bc ml rt))) (hd : y.cls = C ∧ y.cls ≠ "java/lang/invoke/MethodHandle" ∧ y.cls ≠ "java/lang/invoke/VarHandle" ∧ (parseMethodDescriptor y.desc).map (fun d => d.parameters.length) = some n) (hfr : fr + 1 ≤ R.frames ∧ 8 + (ml + 11) + lw ≤ R.locals)
    {ci9 N9 : Nat} {T9 : u_T} {fs9 : List Value} (hr9 : va_at κ.1 vwCl (b, .inr (ci9, fs9)) H) (hci : vwCl[ci9]? = some (C, T9, N9)) (hn : As.length = n) (hsize : ls.size = nL) (hst : st0 = As.reverse ++ .ref b :: rest) (hroom : (rest.map fun v => v.category).sum ≤ 8) (hdg : decode cc pc = .ok (.invokevirtual idx, 3)) (hz9 : zroom κ s R cells slots)
    (kk : ∀ (x : Int64) (τ : Gh) (H1 : Heap) (locs1 : List Loc), φ x τ → Ext F1 H.size σ τ → TS κ F σ0 τ s H1 locs1 → W p l e R s m args below meth c H1 locs1 cells slots Q (F0 m (pc + 3) ls (.long x :: rest))) : W p l e R s m args below meth c H locs cells slots Q (F0 m pc ls st0) := by
  refine W.tight (fun w1 w2 w3 w4 => ?_)
  obtain ⟨z1, z2, z3, z4⟩ := hz9
  have c1 := hT.2.1.2.1
  have c2 := hT.2.1.2.2
  refine va_calll (va_runV (As := As) (rest := rest) ⟨hx, hb, hml, hown, hg⟩ (hC H.size (hsl H)) (cwV n hg hG rfl rfl rfl hd ⟨hfr.1, hfr.2⟩) ⟨tpre_blind, va_recv hK hr9.one hci (q0 := 0) rfl, fun U hU hW => ⟨rfl, by rw [hU], by rw [hU], by rw [hU]; exact hT.1, by rw [hU]; exact hT.2.1, va_K.moved hW.alike hK, by rw [hU]; exact (okXY κ).2.1 _ _ _ _ hW ((okXY κ).1 _ _ _ _ hT.tA ((okXY κ).2.2 _ _ _ _ hT.2.2.2.2.1 hX))⟩⟩ rfl hn hsize hst (lv_room hroom) hdg ⟨by omega, by omega⟩) hT.2.2.2 (fun q _ h => hT.tA q h) hT.tA (fun x τ t H1 locs1 ht1 hvm hw hB hz hk hS1 => ?_)
  obtain ⟨b1, b2, b3⟩ := hB
  rw [ht1] at b1 b2
  refine W.widen (k := cells) (n := slots) (by omega) (by omega) ?_
  exact kk x τ H1 locs1 hw b3 ⟨b1, b2, hT.2.2.1.tr b3 hT.2.2.2.1 hFG, hS1⟩
theorem tVd {φ : UInt64 → Gh → Prop} (hx : p.tables.exec = Jvm.exec) (hb : c.code = cc) (hml : c.maxLocals = nL) (hown : s.vm.findClass own = some m.cls) (hg : ∀ w ∈ GW, w.before args s = true) (hT : TS κ F σ0 σ s H locs) (hK : va_K κ.1 vwCl (kTy κ) s) (hX : XY κ (tA σ0 s.heap.size) s s.heap) (hC : TC l y bc ml rt fr lw (.ref b :: As) κ σ (tqd κ F1 σ φ)) (hFG : ∀ t k, F t k = false → F1 t k = false) (hG : GoodIn GW (wsV own idx C y (mw y bc ml rt))) (hd : y.cls = C ∧ y.cls ≠ "java/lang/invoke/MethodHandle" ∧ y.cls ≠ "java/lang/invoke/VarHandle" ∧ (parseMethodDescriptor y.desc).map (fun d => d.parameters.length) = some n) (hfr : fr + 1 ≤ R.frames ∧ 8 + (ml + 11) + lw ≤ R.locals)
    {ci9 N9 : Nat} {T9 : u_T} {fs9 : List Value} (hr9 : va_at κ.1 vwCl (b, .inr (ci9, fs9)) H) (hci : vwCl[ci9]? = some (C, T9, N9)) (hn : As.length = n) (hsize : ls.size = nL) (hst : st0 = As.reverse ++ .ref b :: rest) (hroom : (rest.map fun v => v.category).sum ≤ 8) (hdg : decode cc pc = .ok (.invokevirtual idx, 3)) (hz9 : zroom κ s R cells slots)
    (kk : ∀ (x : UInt64) (τ : Gh) (H1 : Heap) (locs1 : List Loc), φ x τ → Ext F1 H.size σ τ → TS κ F σ0 τ s H1 locs1 → W p l e R s m args below meth c H1 locs1 cells slots Q (F0 m (pc + 3) ls (.double x :: rest))) : W p l e R s m args below meth c H locs cells slots Q (F0 m pc ls st0) := by
  refine W.tight (fun w1 w2 w3 w4 => ?_)
  obtain ⟨z1, z2, z3, z4⟩ := hz9
  have c1 := hT.2.1.2.1
  have c2 := hT.2.1.2.2
  refine va_calld (va_runV (As := As) (rest := rest) ⟨hx, hb, hml, hown, hg⟩ (hC H.size (hsl H)) (cwV n hg hG rfl rfl rfl hd ⟨hfr.1, hfr.2⟩) ⟨tpre_blind, va_recv hK hr9.one hci (q0 := 0) rfl, fun U hU hW => ⟨rfl, by rw [hU], by rw [hU], by rw [hU]; exact hT.1, by rw [hU]; exact hT.2.1, va_K.moved hW.alike hK, by rw [hU]; exact (okXY κ).2.1 _ _ _ _ hW ((okXY κ).1 _ _ _ _ hT.tA ((okXY κ).2.2 _ _ _ _ hT.2.2.2.2.1 hX))⟩⟩ rfl hn hsize hst (lv_room hroom) hdg ⟨by omega, by omega⟩) hT.2.2.2 (fun q _ h => hT.tA q h) hT.tA (fun x τ t H1 locs1 ht1 hvm hw hB hz hk hS1 => ?_)
  obtain ⟨b1, b2, b3⟩ := hB
  rw [ht1] at b1 b2
  refine W.widen (k := cells) (n := slots) (by omega) (by omega) ?_
  exact kk x τ H1 locs1 hw b3 ⟨b1, b2, hT.2.2.1.tr b3 hT.2.2.2.1 hFG, hS1⟩
theorem tVv {φ : Gh → Prop} (hx : p.tables.exec = Jvm.exec) (hb : c.code = cc) (hml : c.maxLocals = nL) (hown : s.vm.findClass own = some m.cls) (hg : ∀ w ∈ GW, w.before args s = true) (hT : TS κ F σ0 σ s H locs) (hK : va_K κ.1 vwCl (kTy κ) s) (hX : XY κ (tA σ0 s.heap.size) s s.heap) (hC : TC l y bc ml rt fr lw (.ref b :: As) κ σ (tqv κ F1 σ φ)) (hFG : ∀ t k, F t k = false → F1 t k = false) (hG : GoodIn GW (wsV own idx C y (mw y bc ml rt))) (hd : y.cls = C ∧ y.cls ≠ "java/lang/invoke/MethodHandle" ∧ y.cls ≠ "java/lang/invoke/VarHandle" ∧ (parseMethodDescriptor y.desc).map (fun d => d.parameters.length) = some n) (hfr : fr + 1 ≤ R.frames ∧ 8 + (ml + 11) + lw ≤ R.locals)
    {ci9 N9 : Nat} {T9 : u_T} {fs9 : List Value} (hr9 : va_at κ.1 vwCl (b, .inr (ci9, fs9)) H) (hci : vwCl[ci9]? = some (C, T9, N9)) (hn : As.length = n) (hsize : ls.size = nL) (hst : st0 = As.reverse ++ .ref b :: rest) (hroom : (rest.map fun v => v.category).sum ≤ 8) (hdg : decode cc pc = .ok (.invokevirtual idx, 3)) (hz9 : zroom κ s R cells slots)
    (kk : ∀ (τ : Gh) (H1 : Heap) (locs1 : List Loc), φ τ → Ext F1 H.size σ τ → TS κ F σ0 τ s H1 locs1 → W p l e R s m args below meth c H1 locs1 cells slots Q (F0 m (pc + 3) ls rest)) : W p l e R s m args below meth c H locs cells slots Q (F0 m pc ls st0) := by
  refine W.tight (fun w1 w2 w3 w4 => ?_)
  obtain ⟨z1, z2, z3, z4⟩ := hz9
  have c1 := hT.2.1.2.1
  have c2 := hT.2.1.2.2
  refine va_callv (va_runV (As := As) (rest := rest) ⟨hx, hb, hml, hown, hg⟩ (hC H.size (hsl H)) (cwV n hg hG rfl rfl rfl hd ⟨hfr.1, hfr.2⟩) ⟨tpre_blind, va_recv hK hr9.one hci (q0 := 0) rfl, fun U hU hW => ⟨rfl, by rw [hU], by rw [hU], by rw [hU]; exact hT.1, by rw [hU]; exact hT.2.1, va_K.moved hW.alike hK, by rw [hU]; exact (okXY κ).2.1 _ _ _ _ hW ((okXY κ).1 _ _ _ _ hT.tA ((okXY κ).2.2 _ _ _ _ hT.2.2.2.2.1 hX))⟩⟩ rfl hn hsize hst (lv_room hroom) hdg ⟨by omega, by omega⟩) hT.2.2.2 (fun q _ h => hT.tA q h) hT.tA (fun τ t H1 locs1 ht1 hvm hw hB hz hk hS1 => ?_)
  obtain ⟨b1, b2, b3⟩ := hB
  rw [ht1] at b1 b2
  refine W.widen (k := cells) (n := slots) (by omega) (by omega) ?_
  exact kk τ H1 locs1 hw b3 ⟨b1, b2, hT.2.2.1.tr b3 hT.2.2.2.1 hFG, hS1⟩
theorem tVr {φ : Nat → Gh → Prop} (hx : p.tables.exec = Jvm.exec) (hb : c.code = cc) (hml : c.maxLocals = nL) (hown : s.vm.findClass own = some m.cls) (hg : ∀ w ∈ GW, w.before args s = true) (hT : TS κ F σ0 σ s H locs) (hK : va_K κ.1 vwCl (kTy κ) s) (hX : XY κ (tA σ0 s.heap.size) s s.heap) (hC : TC l y bc ml rt fr lw (.ref b :: As) κ σ (tqr κ F1 σ φ)) (hFG : ∀ t k, F t k = false → F1 t k = false) (hG : GoodIn GW (wsV own idx C y (mw y bc ml rt))) (hd : y.cls = C ∧ y.cls ≠ "java/lang/invoke/MethodHandle" ∧ y.cls ≠ "java/lang/invoke/VarHandle" ∧ (parseMethodDescriptor y.desc).map (fun d => d.parameters.length) = some n) (hfr : fr + 1 ≤ R.frames ∧ 8 + (ml + 11) + lw ≤ R.locals)
    {ci9 N9 : Nat} {T9 : u_T} {fs9 : List Value} (hr9 : va_at κ.1 vwCl (b, .inr (ci9, fs9)) H) (hci : vwCl[ci9]? = some (C, T9, N9)) (hn : As.length = n) (hsize : ls.size = nL) (hst : st0 = As.reverse ++ .ref b :: rest) (hroom : (rest.map fun v => v.category).sum ≤ 8) (hdg : decode cc pc = .ok (.invokevirtual idx, 3)) (hz9 : zroom κ s R cells slots)
    (kk : ∀ (x : Nat) (τ : Gh) (H1 : Heap) (locs1 : List Loc), φ x τ → Ext F1 H.size σ τ → TS κ F σ0 τ s H1 locs1 → W p l e R s m args below meth c H1 locs1 cells slots Q (F0 m (pc + 3) ls (.ref x :: rest))) : W p l e R s m args below meth c H locs cells slots Q (F0 m pc ls st0) := by
  refine W.tight (fun w1 w2 w3 w4 => ?_)
  obtain ⟨z1, z2, z3, z4⟩ := hz9
  have c1 := hT.2.1.2.1
  have c2 := hT.2.1.2.2
  refine va_callr (va_runV (As := As) (rest := rest) ⟨hx, hb, hml, hown, hg⟩ (hC H.size (hsl H)) (cwV n hg hG rfl rfl rfl hd ⟨hfr.1, hfr.2⟩) ⟨tpre_blind, va_recv hK hr9.one hci (q0 := 0) rfl, fun U hU hW => ⟨rfl, by rw [hU], by rw [hU], by rw [hU]; exact hT.1, by rw [hU]; exact hT.2.1, va_K.moved hW.alike hK, by rw [hU]; exact (okXY κ).2.1 _ _ _ _ hW ((okXY κ).1 _ _ _ _ hT.tA ((okXY κ).2.2 _ _ _ _ hT.2.2.2.2.1 hX))⟩⟩ rfl hn hsize hst (lv_room hroom) hdg ⟨by omega, by omega⟩) hT.2.2.2 (fun q _ h => hT.tA q h) hT.tA (fun τ x t H1 locs1 ht1 hvm hw hB hz hk hS1 => ?_)
  obtain ⟨hw, hB⟩ := hB
  obtain ⟨b1, b2, b3⟩ := hB
  rw [ht1] at b1 b2
  refine W.widen (k := cells) (n := slots) (by omega) (by omega) ?_
  exact kk x τ H1 locs1 hw b3 ⟨b1, b2, hT.2.2.1.tr b3 hT.2.2.2.1 hFG, hS1⟩
theorem tSi {φ : Int32 → Gh → Prop} (hx : p.tables.exec = Jvm.exec) (hb : c.code = cc) (hml : c.maxLocals = nL) (hown : s.vm.findClass own = some m.cls) (hg : ∀ w ∈ GW, w.before args s = true) (hT : TS κ F σ0 σ s H locs) (hK : va_K κ.1 vwCl (kTy κ) s) (hX : XY κ (tA σ0 s.heap.size) s s.heap) (hC : TC l y bc ml rt fr lw As κ σ (tqi κ F1 σ φ)) (hFG : ∀ t k, F t k = false → F1 t k = false) (hG : GoodIn GW (wsS own idx y (mw y bc ml rt))) (hd : y.cls = own ∧ y.cls ≠ "java/lang/invoke/MethodHandle" ∧ y.cls ≠ "java/lang/invoke/VarHandle" ∧ (parseMethodDescriptor y.desc).map (fun d => d.parameters.length) = some n) (hfr : fr + 1 ≤ R.frames ∧ 8 + (ml + 11) + lw ≤ R.locals)
    (hn : As.length = n) (hsize : ls.size = nL) (hst : st0 = As.reverse ++ rest) (hroom : (rest.map fun v => v.category).sum ≤ 8) (hdg : decode cc pc = .ok (.invokestatic idx, 3)) (hz9 : zroom κ s R cells slots)
    (kk : ∀ (x : Int32) (τ : Gh) (H1 : Heap) (locs1 : List Loc), φ x τ → Ext F1 H.size σ τ → TS κ F σ0 τ s H1 locs1 → W p l e R s m args below meth c H1 locs1 cells slots Q (F0 m (pc + 3) ls (.int x :: rest))) : W p l e R s m args below meth c H locs cells slots Q (F0 m pc ls st0) := by
  refine W.tight (fun w1 w2 w3 w4 => ?_)
  obtain ⟨z1, z2, z3, z4⟩ := hz9
  have c1 := hT.2.1.2.1
  have c2 := hT.2.1.2.2
  refine va_calli (va_runS (As := As) (rest := rest) ⟨hx, hb, hml, hown, hg⟩ (hC H.size (hsl H)) (cwS n hg hG rfl rfl rfl hd ⟨hfr.1, hfr.2⟩) ⟨tpre_blind, fun U hU hW => ⟨rfl, by rw [hU], by rw [hU], by rw [hU]; exact hT.1, by rw [hU]; exact hT.2.1, va_K.moved hW.alike hK, by rw [hU]; exact (okXY κ).2.1 _ _ _ _ hW ((okXY κ).1 _ _ _ _ hT.tA ((okXY κ).2.2 _ _ _ _ hT.2.2.2.2.1 hX))⟩⟩ rfl hn hsize hst (lv_room hroom) hdg ⟨by omega, by omega⟩) hT.2.2.2 (fun q _ h => hT.tA q h) hT.tA (fun x τ t H1 locs1 ht1 hvm hw hB hz hk hS1 => ?_)
  obtain ⟨b1, b2, b3⟩ := hB
  rw [ht1] at b1 b2
  refine W.widen (k := cells) (n := slots) (by omega) (by omega) ?_
  exact kk x τ H1 locs1 hw b3 ⟨b1, b2, hT.2.2.1.tr b3 hT.2.2.2.1 hFG, hS1⟩
theorem tSl {φ : Int64 → Gh → Prop} (hx : p.tables.exec = Jvm.exec) (hb : c.code = cc) (hml : c.maxLocals = nL) (hown : s.vm.findClass own = some m.cls) (hg : ∀ w ∈ GW, w.before args s = true) (hT : TS κ F σ0 σ s H locs) (hK : va_K κ.1 vwCl (kTy κ) s) (hX : XY κ (tA σ0 s.heap.size) s s.heap) (hC : TC l y bc ml rt fr lw As κ σ (tql κ F1 σ φ)) (hFG : ∀ t k, F t k = false → F1 t k = false) (hG : GoodIn GW (wsS own idx y (mw y bc ml rt))) (hd : y.cls = own ∧ y.cls ≠ "java/lang/invoke/MethodHandle" ∧ y.cls ≠ "java/lang/invoke/VarHandle" ∧ (parseMethodDescriptor y.desc).map (fun d => d.parameters.length) = some n) (hfr : fr + 1 ≤ R.frames ∧ 8 + (ml + 11) + lw ≤ R.locals)
    (hn : As.length = n) (hsize : ls.size = nL) (hst : st0 = As.reverse ++ rest) (hroom : (rest.map fun v => v.category).sum ≤ 8) (hdg : decode cc pc = .ok (.invokestatic idx, 3)) (hz9 : zroom κ s R cells slots)
    (kk : ∀ (x : Int64) (τ : Gh) (H1 : Heap) (locs1 : List Loc), φ x τ → Ext F1 H.size σ τ → TS κ F σ0 τ s H1 locs1 → W p l e R s m args below meth c H1 locs1 cells slots Q (F0 m (pc + 3) ls (.long x :: rest))) : W p l e R s m args below meth c H locs cells slots Q (F0 m pc ls st0) := by
  refine W.tight (fun w1 w2 w3 w4 => ?_)
  obtain ⟨z1, z2, z3, z4⟩ := hz9
  have c1 := hT.2.1.2.1
  have c2 := hT.2.1.2.2
  refine va_calll (va_runS (As := As) (rest := rest) ⟨hx, hb, hml, hown, hg⟩ (hC H.size (hsl H)) (cwS n hg hG rfl rfl rfl hd ⟨hfr.1, hfr.2⟩) ⟨tpre_blind, fun U hU hW => ⟨rfl, by rw [hU], by rw [hU], by rw [hU]; exact hT.1, by rw [hU]; exact hT.2.1, va_K.moved hW.alike hK, by rw [hU]; exact (okXY κ).2.1 _ _ _ _ hW ((okXY κ).1 _ _ _ _ hT.tA ((okXY κ).2.2 _ _ _ _ hT.2.2.2.2.1 hX))⟩⟩ rfl hn hsize hst (lv_room hroom) hdg ⟨by omega, by omega⟩) hT.2.2.2 (fun q _ h => hT.tA q h) hT.tA (fun x τ t H1 locs1 ht1 hvm hw hB hz hk hS1 => ?_)
  obtain ⟨b1, b2, b3⟩ := hB
  rw [ht1] at b1 b2
  refine W.widen (k := cells) (n := slots) (by omega) (by omega) ?_
  exact kk x τ H1 locs1 hw b3 ⟨b1, b2, hT.2.2.1.tr b3 hT.2.2.2.1 hFG, hS1⟩
theorem tSd {φ : UInt64 → Gh → Prop} (hx : p.tables.exec = Jvm.exec) (hb : c.code = cc) (hml : c.maxLocals = nL) (hown : s.vm.findClass own = some m.cls) (hg : ∀ w ∈ GW, w.before args s = true) (hT : TS κ F σ0 σ s H locs) (hK : va_K κ.1 vwCl (kTy κ) s) (hX : XY κ (tA σ0 s.heap.size) s s.heap) (hC : TC l y bc ml rt fr lw As κ σ (tqd κ F1 σ φ)) (hFG : ∀ t k, F t k = false → F1 t k = false) (hG : GoodIn GW (wsS own idx y (mw y bc ml rt))) (hd : y.cls = own ∧ y.cls ≠ "java/lang/invoke/MethodHandle" ∧ y.cls ≠ "java/lang/invoke/VarHandle" ∧ (parseMethodDescriptor y.desc).map (fun d => d.parameters.length) = some n) (hfr : fr + 1 ≤ R.frames ∧ 8 + (ml + 11) + lw ≤ R.locals)
    (hn : As.length = n) (hsize : ls.size = nL) (hst : st0 = As.reverse ++ rest) (hroom : (rest.map fun v => v.category).sum ≤ 8) (hdg : decode cc pc = .ok (.invokestatic idx, 3)) (hz9 : zroom κ s R cells slots)
    (kk : ∀ (x : UInt64) (τ : Gh) (H1 : Heap) (locs1 : List Loc), φ x τ → Ext F1 H.size σ τ → TS κ F σ0 τ s H1 locs1 → W p l e R s m args below meth c H1 locs1 cells slots Q (F0 m (pc + 3) ls (.double x :: rest))) : W p l e R s m args below meth c H locs cells slots Q (F0 m pc ls st0) := by
  refine W.tight (fun w1 w2 w3 w4 => ?_)
  obtain ⟨z1, z2, z3, z4⟩ := hz9
  have c1 := hT.2.1.2.1
  have c2 := hT.2.1.2.2
  refine va_calld (va_runS (As := As) (rest := rest) ⟨hx, hb, hml, hown, hg⟩ (hC H.size (hsl H)) (cwS n hg hG rfl rfl rfl hd ⟨hfr.1, hfr.2⟩) ⟨tpre_blind, fun U hU hW => ⟨rfl, by rw [hU], by rw [hU], by rw [hU]; exact hT.1, by rw [hU]; exact hT.2.1, va_K.moved hW.alike hK, by rw [hU]; exact (okXY κ).2.1 _ _ _ _ hW ((okXY κ).1 _ _ _ _ hT.tA ((okXY κ).2.2 _ _ _ _ hT.2.2.2.2.1 hX))⟩⟩ rfl hn hsize hst (lv_room hroom) hdg ⟨by omega, by omega⟩) hT.2.2.2 (fun q _ h => hT.tA q h) hT.tA (fun x τ t H1 locs1 ht1 hvm hw hB hz hk hS1 => ?_)
  obtain ⟨b1, b2, b3⟩ := hB
  rw [ht1] at b1 b2
  refine W.widen (k := cells) (n := slots) (by omega) (by omega) ?_
  exact kk x τ H1 locs1 hw b3 ⟨b1, b2, hT.2.2.1.tr b3 hT.2.2.2.1 hFG, hS1⟩
theorem tSv {φ : Gh → Prop} (hx : p.tables.exec = Jvm.exec) (hb : c.code = cc) (hml : c.maxLocals = nL) (hown : s.vm.findClass own = some m.cls) (hg : ∀ w ∈ GW, w.before args s = true) (hT : TS κ F σ0 σ s H locs) (hK : va_K κ.1 vwCl (kTy κ) s) (hX : XY κ (tA σ0 s.heap.size) s s.heap) (hC : TC l y bc ml rt fr lw As κ σ (tqv κ F1 σ φ)) (hFG : ∀ t k, F t k = false → F1 t k = false) (hG : GoodIn GW (wsS own idx y (mw y bc ml rt))) (hd : y.cls = own ∧ y.cls ≠ "java/lang/invoke/MethodHandle" ∧ y.cls ≠ "java/lang/invoke/VarHandle" ∧ (parseMethodDescriptor y.desc).map (fun d => d.parameters.length) = some n) (hfr : fr + 1 ≤ R.frames ∧ 8 + (ml + 11) + lw ≤ R.locals)
    (hn : As.length = n) (hsize : ls.size = nL) (hst : st0 = As.reverse ++ rest) (hroom : (rest.map fun v => v.category).sum ≤ 8) (hdg : decode cc pc = .ok (.invokestatic idx, 3)) (hz9 : zroom κ s R cells slots)
    (kk : ∀ (τ : Gh) (H1 : Heap) (locs1 : List Loc), φ τ → Ext F1 H.size σ τ → TS κ F σ0 τ s H1 locs1 → W p l e R s m args below meth c H1 locs1 cells slots Q (F0 m (pc + 3) ls rest)) : W p l e R s m args below meth c H locs cells slots Q (F0 m pc ls st0) := by
  refine W.tight (fun w1 w2 w3 w4 => ?_)
  obtain ⟨z1, z2, z3, z4⟩ := hz9
  have c1 := hT.2.1.2.1
  have c2 := hT.2.1.2.2
  refine va_callv (va_runS (As := As) (rest := rest) ⟨hx, hb, hml, hown, hg⟩ (hC H.size (hsl H)) (cwS n hg hG rfl rfl rfl hd ⟨hfr.1, hfr.2⟩) ⟨tpre_blind, fun U hU hW => ⟨rfl, by rw [hU], by rw [hU], by rw [hU]; exact hT.1, by rw [hU]; exact hT.2.1, va_K.moved hW.alike hK, by rw [hU]; exact (okXY κ).2.1 _ _ _ _ hW ((okXY κ).1 _ _ _ _ hT.tA ((okXY κ).2.2 _ _ _ _ hT.2.2.2.2.1 hX))⟩⟩ rfl hn hsize hst (lv_room hroom) hdg ⟨by omega, by omega⟩) hT.2.2.2 (fun q _ h => hT.tA q h) hT.tA (fun τ t H1 locs1 ht1 hvm hw hB hz hk hS1 => ?_)
  obtain ⟨b1, b2, b3⟩ := hB
  rw [ht1] at b1 b2
  refine W.widen (k := cells) (n := slots) (by omega) (by omega) ?_
  exact kk τ H1 locs1 hw b3 ⟨b1, b2, hT.2.2.1.tr b3 hT.2.2.2.1 hFG, hS1⟩
theorem tSr {φ : Nat → Gh → Prop} (hx : p.tables.exec = Jvm.exec) (hb : c.code = cc) (hml : c.maxLocals = nL) (hown : s.vm.findClass own = some m.cls) (hg : ∀ w ∈ GW, w.before args s = true) (hT : TS κ F σ0 σ s H locs) (hK : va_K κ.1 vwCl (kTy κ) s) (hX : XY κ (tA σ0 s.heap.size) s s.heap) (hC : TC l y bc ml rt fr lw As κ σ (tqr κ F1 σ φ)) (hFG : ∀ t k, F t k = false → F1 t k = false) (hG : GoodIn GW (wsS own idx y (mw y bc ml rt))) (hd : y.cls = own ∧ y.cls ≠ "java/lang/invoke/MethodHandle" ∧ y.cls ≠ "java/lang/invoke/VarHandle" ∧ (parseMethodDescriptor y.desc).map (fun d => d.parameters.length) = some n) (hfr : fr + 1 ≤ R.frames ∧ 8 + (ml + 11) + lw ≤ R.locals)
    (hn : As.length = n) (hsize : ls.size = nL) (hst : st0 = As.reverse ++ rest) (hroom : (rest.map fun v => v.category).sum ≤ 8) (hdg : decode cc pc = .ok (.invokestatic idx, 3)) (hz9 : zroom κ s R cells slots)
    (kk : ∀ (x : Nat) (τ : Gh) (H1 : Heap) (locs1 : List Loc), φ x τ → Ext F1 H.size σ τ → TS κ F σ0 τ s H1 locs1 → W p l e R s m args below meth c H1 locs1 cells slots Q (F0 m (pc + 3) ls (.ref x :: rest))) : W p l e R s m args below meth c H locs cells slots Q (F0 m pc ls st0) := by
  refine W.tight (fun w1 w2 w3 w4 => ?_)
  obtain ⟨z1, z2, z3, z4⟩ := hz9
  have c1 := hT.2.1.2.1
  have c2 := hT.2.1.2.2
  refine va_callr (va_runS (As := As) (rest := rest) ⟨hx, hb, hml, hown, hg⟩ (hC H.size (hsl H)) (cwS n hg hG rfl rfl rfl hd ⟨hfr.1, hfr.2⟩) ⟨tpre_blind, fun U hU hW => ⟨rfl, by rw [hU], by rw [hU], by rw [hU]; exact hT.1, by rw [hU]; exact hT.2.1, va_K.moved hW.alike hK, by rw [hU]; exact (okXY κ).2.1 _ _ _ _ hW ((okXY κ).1 _ _ _ _ hT.tA ((okXY κ).2.2 _ _ _ _ hT.2.2.2.2.1 hX))⟩⟩ rfl hn hsize hst (lv_room hroom) hdg ⟨by omega, by omega⟩) hT.2.2.2 (fun q _ h => hT.tA q h) hT.tA (fun τ x t H1 locs1 ht1 hvm hw hB hz hk hS1 => ?_)
  obtain ⟨hw, hB⟩ := hB
  obtain ⟨b1, b2, b3⟩ := hB
  rw [ht1] at b1 b2
  refine W.widen (k := cells) (n := slots) (by omega) (by omega) ?_
  exact kk x τ H1 locs1 hw b3 ⟨b1, b2, hT.2.2.1.tr b3 hT.2.2.2.1 hFG, hS1⟩
theorem tTi {φ : Int32 → Gh → Prop} (hx : p.tables.exec = Jvm.exec) (hb : c.code = cc) (hml : c.maxLocals = nL) (hown : s.vm.findClass own = some m.cls) (hg : ∀ w ∈ GW, w.before args s = true) (hT : TS κ F σ0 σ s H locs) (hK : va_K κ.1 vwCl (kTy κ) s) (hX : XY κ (tA σ0 s.heap.size) s s.heap) (hC : TC l y bc ml rt fr lw As κ σ (tqi κ F1 σ φ)) (hFG : ∀ t k, F t k = false → F1 t k = false) (hG : GoodIn GW (mw y bc ml rt)) (hd : y.cls ≠ "java/lang/invoke/MethodHandle" ∧ y.cls ≠ "java/lang/invoke/VarHandle" ∧ (parseMethodDescriptor y.desc).map (fun d => d.parameters.length) = some n) (hfr : fr + 1 ≤ R.frames ∧ 8 + (ml + 11) + lw ≤ R.locals)
    (hinit : Cond.initialized y.cls ∈ GW) (hlink : Cond.methodLink own idx y ∈ GW) (hstat : Cond.static y ∈ GW) (hn : As.length = n) (hsize : ls.size = nL) (hst : st0 = As.reverse ++ rest) (hroom : (rest.map fun v => v.category).sum ≤ 8) (hdg : decode cc pc = .ok (.invokestatic idx, 3)) (hz9 : zroom κ s R cells slots)
    (kk : ∀ (x : Int32) (τ : Gh) (H1 : Heap) (locs1 : List Loc), φ x τ → Ext F1 H.size σ τ → TS κ F σ0 τ s H1 locs1 → W p l e R s m args below meth c H1 locs1 cells slots Q (F0 m (pc + 3) ls (.int x :: rest))) : W p l e R s m args below meth c H locs cells slots Q (F0 m pc ls st0) := by
  refine W.tight (fun w1 w2 w3 w4 => ?_)
  obtain ⟨z1, z2, z3, z4⟩ := hz9
  have c1 := hT.2.1.2.1
  have c2 := hT.2.1.2.2
  refine va_calli (va_runS (As := As) (rest := rest) ⟨hx, hb, hml, hown, hg⟩ (hC H.size (hsl H)) ⟨callB_of n hg hG rfl rfl rfl (hg _ hinit) (hg _ hlink) hd ⟨hfr.1, hfr.2⟩, hg _ hstat⟩ ⟨tpre_blind, fun U hU hW => ⟨rfl, by rw [hU], by rw [hU], by rw [hU]; exact hT.1, by rw [hU]; exact hT.2.1, va_K.moved hW.alike hK, by rw [hU]; exact (okXY κ).2.1 _ _ _ _ hW ((okXY κ).1 _ _ _ _ hT.tA ((okXY κ).2.2 _ _ _ _ hT.2.2.2.2.1 hX))⟩⟩ rfl hn hsize hst (lv_room hroom) hdg ⟨by omega, by omega⟩) hT.2.2.2 (fun q _ h => hT.tA q h) hT.tA (fun x τ t H1 locs1 ht1 hvm hw hB hz hk hS1 => ?_)
  obtain ⟨b1, b2, b3⟩ := hB
  rw [ht1] at b1 b2
  refine W.widen (k := cells) (n := slots) (by omega) (by omega) ?_
  exact kk x τ H1 locs1 hw b3 ⟨b1, b2, hT.2.2.1.tr b3 hT.2.2.2.1 hFG, hS1⟩
theorem tTl {φ : Int64 → Gh → Prop} (hx : p.tables.exec = Jvm.exec) (hb : c.code = cc) (hml : c.maxLocals = nL) (hown : s.vm.findClass own = some m.cls) (hg : ∀ w ∈ GW, w.before args s = true) (hT : TS κ F σ0 σ s H locs) (hK : va_K κ.1 vwCl (kTy κ) s) (hX : XY κ (tA σ0 s.heap.size) s s.heap) (hC : TC l y bc ml rt fr lw As κ σ (tql κ F1 σ φ)) (hFG : ∀ t k, F t k = false → F1 t k = false) (hG : GoodIn GW (mw y bc ml rt)) (hd : y.cls ≠ "java/lang/invoke/MethodHandle" ∧ y.cls ≠ "java/lang/invoke/VarHandle" ∧ (parseMethodDescriptor y.desc).map (fun d => d.parameters.length) = some n) (hfr : fr + 1 ≤ R.frames ∧ 8 + (ml + 11) + lw ≤ R.locals)
    (hinit : Cond.initialized y.cls ∈ GW) (hlink : Cond.methodLink own idx y ∈ GW) (hstat : Cond.static y ∈ GW) (hn : As.length = n) (hsize : ls.size = nL) (hst : st0 = As.reverse ++ rest) (hroom : (rest.map fun v => v.category).sum ≤ 8) (hdg : decode cc pc = .ok (.invokestatic idx, 3)) (hz9 : zroom κ s R cells slots)
    (kk : ∀ (x : Int64) (τ : Gh) (H1 : Heap) (locs1 : List Loc), φ x τ → Ext F1 H.size σ τ → TS κ F σ0 τ s H1 locs1 → W p l e R s m args below meth c H1 locs1 cells slots Q (F0 m (pc + 3) ls (.long x :: rest))) : W p l e R s m args below meth c H locs cells slots Q (F0 m pc ls st0) := by
  refine W.tight (fun w1 w2 w3 w4 => ?_)
  obtain ⟨z1, z2, z3, z4⟩ := hz9
  have c1 := hT.2.1.2.1
  have c2 := hT.2.1.2.2
  refine va_calll (va_runS (As := As) (rest := rest) ⟨hx, hb, hml, hown, hg⟩ (hC H.size (hsl H)) ⟨callB_of n hg hG rfl rfl rfl (hg _ hinit) (hg _ hlink) hd ⟨hfr.1, hfr.2⟩, hg _ hstat⟩ ⟨tpre_blind, fun U hU hW => ⟨rfl, by rw [hU], by rw [hU], by rw [hU]; exact hT.1, by rw [hU]; exact hT.2.1, va_K.moved hW.alike hK, by rw [hU]; exact (okXY κ).2.1 _ _ _ _ hW ((okXY κ).1 _ _ _ _ hT.tA ((okXY κ).2.2 _ _ _ _ hT.2.2.2.2.1 hX))⟩⟩ rfl hn hsize hst (lv_room hroom) hdg ⟨by omega, by omega⟩) hT.2.2.2 (fun q _ h => hT.tA q h) hT.tA (fun x τ t H1 locs1 ht1 hvm hw hB hz hk hS1 => ?_)
  obtain ⟨b1, b2, b3⟩ := hB
  rw [ht1] at b1 b2
  refine W.widen (k := cells) (n := slots) (by omega) (by omega) ?_
  exact kk x τ H1 locs1 hw b3 ⟨b1, b2, hT.2.2.1.tr b3 hT.2.2.2.1 hFG, hS1⟩
theorem tTd {φ : UInt64 → Gh → Prop} (hx : p.tables.exec = Jvm.exec) (hb : c.code = cc) (hml : c.maxLocals = nL) (hown : s.vm.findClass own = some m.cls) (hg : ∀ w ∈ GW, w.before args s = true) (hT : TS κ F σ0 σ s H locs) (hK : va_K κ.1 vwCl (kTy κ) s) (hX : XY κ (tA σ0 s.heap.size) s s.heap) (hC : TC l y bc ml rt fr lw As κ σ (tqd κ F1 σ φ)) (hFG : ∀ t k, F t k = false → F1 t k = false) (hG : GoodIn GW (mw y bc ml rt)) (hd : y.cls ≠ "java/lang/invoke/MethodHandle" ∧ y.cls ≠ "java/lang/invoke/VarHandle" ∧ (parseMethodDescriptor y.desc).map (fun d => d.parameters.length) = some n) (hfr : fr + 1 ≤ R.frames ∧ 8 + (ml + 11) + lw ≤ R.locals)
    (hinit : Cond.initialized y.cls ∈ GW) (hlink : Cond.methodLink own idx y ∈ GW) (hstat : Cond.static y ∈ GW) (hn : As.length = n) (hsize : ls.size = nL) (hst : st0 = As.reverse ++ rest) (hroom : (rest.map fun v => v.category).sum ≤ 8) (hdg : decode cc pc = .ok (.invokestatic idx, 3)) (hz9 : zroom κ s R cells slots)
    (kk : ∀ (x : UInt64) (τ : Gh) (H1 : Heap) (locs1 : List Loc), φ x τ → Ext F1 H.size σ τ → TS κ F σ0 τ s H1 locs1 → W p l e R s m args below meth c H1 locs1 cells slots Q (F0 m (pc + 3) ls (.double x :: rest))) : W p l e R s m args below meth c H locs cells slots Q (F0 m pc ls st0) := by
  refine W.tight (fun w1 w2 w3 w4 => ?_)
  obtain ⟨z1, z2, z3, z4⟩ := hz9
  have c1 := hT.2.1.2.1
  have c2 := hT.2.1.2.2
  refine va_calld (va_runS (As := As) (rest := rest) ⟨hx, hb, hml, hown, hg⟩ (hC H.size (hsl H)) ⟨callB_of n hg hG rfl rfl rfl (hg _ hinit) (hg _ hlink) hd ⟨hfr.1, hfr.2⟩, hg _ hstat⟩ ⟨tpre_blind, fun U hU hW => ⟨rfl, by rw [hU], by rw [hU], by rw [hU]; exact hT.1, by rw [hU]; exact hT.2.1, va_K.moved hW.alike hK, by rw [hU]; exact (okXY κ).2.1 _ _ _ _ hW ((okXY κ).1 _ _ _ _ hT.tA ((okXY κ).2.2 _ _ _ _ hT.2.2.2.2.1 hX))⟩⟩ rfl hn hsize hst (lv_room hroom) hdg ⟨by omega, by omega⟩) hT.2.2.2 (fun q _ h => hT.tA q h) hT.tA (fun x τ t H1 locs1 ht1 hvm hw hB hz hk hS1 => ?_)
  obtain ⟨b1, b2, b3⟩ := hB
  rw [ht1] at b1 b2
  refine W.widen (k := cells) (n := slots) (by omega) (by omega) ?_
  exact kk x τ H1 locs1 hw b3 ⟨b1, b2, hT.2.2.1.tr b3 hT.2.2.2.1 hFG, hS1⟩
theorem tTv {φ : Gh → Prop} (hx : p.tables.exec = Jvm.exec) (hb : c.code = cc) (hml : c.maxLocals = nL) (hown : s.vm.findClass own = some m.cls) (hg : ∀ w ∈ GW, w.before args s = true) (hT : TS κ F σ0 σ s H locs) (hK : va_K κ.1 vwCl (kTy κ) s) (hX : XY κ (tA σ0 s.heap.size) s s.heap) (hC : TC l y bc ml rt fr lw As κ σ (tqv κ F1 σ φ)) (hFG : ∀ t k, F t k = false → F1 t k = false) (hG : GoodIn GW (mw y bc ml rt)) (hd : y.cls ≠ "java/lang/invoke/MethodHandle" ∧ y.cls ≠ "java/lang/invoke/VarHandle" ∧ (parseMethodDescriptor y.desc).map (fun d => d.parameters.length) = some n) (hfr : fr + 1 ≤ R.frames ∧ 8 + (ml + 11) + lw ≤ R.locals)
    (hinit : Cond.initialized y.cls ∈ GW) (hlink : Cond.methodLink own idx y ∈ GW) (hstat : Cond.static y ∈ GW) (hn : As.length = n) (hsize : ls.size = nL) (hst : st0 = As.reverse ++ rest) (hroom : (rest.map fun v => v.category).sum ≤ 8) (hdg : decode cc pc = .ok (.invokestatic idx, 3)) (hz9 : zroom κ s R cells slots)
    (kk : ∀ (τ : Gh) (H1 : Heap) (locs1 : List Loc), φ τ → Ext F1 H.size σ τ → TS κ F σ0 τ s H1 locs1 → W p l e R s m args below meth c H1 locs1 cells slots Q (F0 m (pc + 3) ls rest)) : W p l e R s m args below meth c H locs cells slots Q (F0 m pc ls st0) := by
  refine W.tight (fun w1 w2 w3 w4 => ?_)
  obtain ⟨z1, z2, z3, z4⟩ := hz9
  have c1 := hT.2.1.2.1
  have c2 := hT.2.1.2.2
  refine va_callv (va_runS (As := As) (rest := rest) ⟨hx, hb, hml, hown, hg⟩ (hC H.size (hsl H)) ⟨callB_of n hg hG rfl rfl rfl (hg _ hinit) (hg _ hlink) hd ⟨hfr.1, hfr.2⟩, hg _ hstat⟩ ⟨tpre_blind, fun U hU hW => ⟨rfl, by rw [hU], by rw [hU], by rw [hU]; exact hT.1, by rw [hU]; exact hT.2.1, va_K.moved hW.alike hK, by rw [hU]; exact (okXY κ).2.1 _ _ _ _ hW ((okXY κ).1 _ _ _ _ hT.tA ((okXY κ).2.2 _ _ _ _ hT.2.2.2.2.1 hX))⟩⟩ rfl hn hsize hst (lv_room hroom) hdg ⟨by omega, by omega⟩) hT.2.2.2 (fun q _ h => hT.tA q h) hT.tA (fun τ t H1 locs1 ht1 hvm hw hB hz hk hS1 => ?_)
  obtain ⟨b1, b2, b3⟩ := hB
  rw [ht1] at b1 b2
  refine W.widen (k := cells) (n := slots) (by omega) (by omega) ?_
  exact kk τ H1 locs1 hw b3 ⟨b1, b2, hT.2.2.1.tr b3 hT.2.2.2.1 hFG, hS1⟩
theorem tTr {φ : Nat → Gh → Prop} (hx : p.tables.exec = Jvm.exec) (hb : c.code = cc) (hml : c.maxLocals = nL) (hown : s.vm.findClass own = some m.cls) (hg : ∀ w ∈ GW, w.before args s = true) (hT : TS κ F σ0 σ s H locs) (hK : va_K κ.1 vwCl (kTy κ) s) (hX : XY κ (tA σ0 s.heap.size) s s.heap) (hC : TC l y bc ml rt fr lw As κ σ (tqr κ F1 σ φ)) (hFG : ∀ t k, F t k = false → F1 t k = false) (hG : GoodIn GW (mw y bc ml rt)) (hd : y.cls ≠ "java/lang/invoke/MethodHandle" ∧ y.cls ≠ "java/lang/invoke/VarHandle" ∧ (parseMethodDescriptor y.desc).map (fun d => d.parameters.length) = some n) (hfr : fr + 1 ≤ R.frames ∧ 8 + (ml + 11) + lw ≤ R.locals)
    (hinit : Cond.initialized y.cls ∈ GW) (hlink : Cond.methodLink own idx y ∈ GW) (hstat : Cond.static y ∈ GW) (hn : As.length = n) (hsize : ls.size = nL) (hst : st0 = As.reverse ++ rest) (hroom : (rest.map fun v => v.category).sum ≤ 8) (hdg : decode cc pc = .ok (.invokestatic idx, 3)) (hz9 : zroom κ s R cells slots)
    (kk : ∀ (x : Nat) (τ : Gh) (H1 : Heap) (locs1 : List Loc), φ x τ → Ext F1 H.size σ τ → TS κ F σ0 τ s H1 locs1 → W p l e R s m args below meth c H1 locs1 cells slots Q (F0 m (pc + 3) ls (.ref x :: rest))) : W p l e R s m args below meth c H locs cells slots Q (F0 m pc ls st0) := by
  refine W.tight (fun w1 w2 w3 w4 => ?_)
  obtain ⟨z1, z2, z3, z4⟩ := hz9
  have c1 := hT.2.1.2.1
  have c2 := hT.2.1.2.2
  refine va_callr (va_runS (As := As) (rest := rest) ⟨hx, hb, hml, hown, hg⟩ (hC H.size (hsl H)) ⟨callB_of n hg hG rfl rfl rfl (hg _ hinit) (hg _ hlink) hd ⟨hfr.1, hfr.2⟩, hg _ hstat⟩ ⟨tpre_blind, fun U hU hW => ⟨rfl, by rw [hU], by rw [hU], by rw [hU]; exact hT.1, by rw [hU]; exact hT.2.1, va_K.moved hW.alike hK, by rw [hU]; exact (okXY κ).2.1 _ _ _ _ hW ((okXY κ).1 _ _ _ _ hT.tA ((okXY κ).2.2 _ _ _ _ hT.2.2.2.2.1 hX))⟩⟩ rfl hn hsize hst (lv_room hroom) hdg ⟨by omega, by omega⟩) hT.2.2.2 (fun q _ h => hT.tA q h) hT.tA (fun τ x t H1 locs1 ht1 hvm hw hB hz hk hS1 => ?_)
  obtain ⟨hw, hB⟩ := hB
  obtain ⟨b1, b2, b3⟩ := hB
  rw [ht1] at b1 b2
  refine W.widen (k := cells) (n := slots) (by omega) (by omega) ?_
  exact kk x τ H1 locs1 hw b3 ⟨b1, b2, hT.2.2.1.tr b3 hT.2.2.2.1 hFG, hS1⟩
theorem t_i {φ : Int32 → Gh → Prop} {v : Int32} (hx : p.tables.exec = Jvm.exec) (hb : c.code = cc) (hr : meth.sig.returnType = some .int) (hlocks : meth.locks = false) (hT : TS κ F σ0 σ s H locs) (hφ : φ v σ) (hdg : decode cc pc = .ok (.ireturn, 1)) : W p l e R s m args below meth c H locs cells slots (MQ below (tqi κ F σ0 φ s.heap.size) args s cells slots (tA σ0 s.heap.size)) (F0 m pc ls [.int v]) :=
  W.iret hx hb hr (fun t ht hW => ⟨⟨v, σ, rfl, hφ, by rw [ht]; exact hT.1, by rw [ht]; exact hT.2.1, hT.2.2.1⟩, hT.2.2.2.F ht⟩) hT.2.2.2.2.2 hdg (hlocks := hlocks)
theorem t_z {φ : Int32 → Gh → Prop} {v : Int32} (hx : p.tables.exec = Jvm.exec) (hb : c.code = cc) (hr : meth.sig.returnType = some .boolean) (hnz : isB v) (hlocks : meth.locks = false) (hT : TS κ F σ0 σ s H locs) (hφ : φ v σ) (hdg : decode cc pc = .ok (.ireturn, 1)) : W p l e R s m args below meth c H locs cells slots (MQ below (tqi κ F σ0 φ s.heap.size) args s cells slots (tA σ0 s.heap.size)) (F0 m pc ls [.int v]) :=
  W.zret hx hb hr (isB_n hnz) (fun t ht hW => ⟨⟨v, σ, rfl, hφ, by rw [ht]; exact hT.1, by rw [ht]; exact hT.2.1, hT.2.2.1⟩, hT.2.2.2.F ht⟩) hT.2.2.2.2.2 hdg (hlocks := hlocks)
theorem t_l {φ : Int64 → Gh → Prop} {v : Int64} (hx : p.tables.exec = Jvm.exec) (hb : c.code = cc) (hr : meth.sig.returnType = some .long) (hlocks : meth.locks = false) (hT : TS κ F σ0 σ s H locs) (hφ : φ v σ) (hdg : decode cc pc = .ok (.lreturn, 1)) : W p l e R s m args below meth c H locs cells slots (MQ below (tql κ F σ0 φ s.heap.size) args s cells slots (tA σ0 s.heap.size)) (F0 m pc ls [.long v]) :=
  W.lret hx hb hr (fun t ht hW => ⟨⟨v, σ, rfl, hφ, by rw [ht]; exact hT.1, by rw [ht]; exact hT.2.1, hT.2.2.1⟩, hT.2.2.2.F ht⟩) hT.2.2.2.2.2 hdg (hlocks := hlocks)
theorem t_d {φ : UInt64 → Gh → Prop} {v : UInt64} (hx : p.tables.exec = Jvm.exec) (hb : c.code = cc) (hr : meth.sig.returnType = some .double) (hlocks : meth.locks = false) (hT : TS κ F σ0 σ s H locs) (hφ : φ v σ) (hdg : decode cc pc = .ok (.dreturn, 1)) : W p l e R s m args below meth c H locs cells slots (MQ below (tqd κ F σ0 φ s.heap.size) args s cells slots (tA σ0 s.heap.size)) (F0 m pc ls [.double v]) :=
  W.dret hx hb hr (fun t ht hW => ⟨⟨v, σ, rfl, hφ, by rw [ht]; exact hT.1, by rw [ht]; exact hT.2.1, hT.2.2.1⟩, hT.2.2.2.F ht⟩) hT.2.2.2.2.2 hdg (hlocks := hlocks)
theorem t_v {φ : Gh → Prop} (hx : p.tables.exec = Jvm.exec) (hb : c.code = cc) (hr : meth.sig.returnType = none) (hlocks : meth.locks = false) (hT : TS κ F σ0 σ s H locs) (hφ : φ σ) (hdg : decode cc pc = .ok (.return_, 1)) : W p l e R s m args below meth c H locs cells slots (MQ below (tqv κ F σ0 φ s.heap.size) args s cells slots (tA σ0 s.heap.size)) (F0 m pc ls []) :=
  W.vret hx hb hr (fun t ht hW => ⟨⟨σ, rfl, hφ, by rw [ht]; exact hT.1, by rw [ht]; exact hT.2.1, hT.2.2.1⟩, hT.2.2.2.F ht⟩) hT.2.2.2.2.2 hdg (hlocks := hlocks)
theorem t_r {φ : Nat → Gh → Prop} {v : Nat} {rt9 : FieldType} {n0 : String} (hrt : rt9 = .object n0) (hx : p.tables.exec = Jvm.exec) (hb : c.code = cc) (hr : meth.sig.returnType = some rt9) (hlocks : meth.locks = false) (hT : TS κ F σ0 σ s H locs) (hφ : φ v σ) (hdg : decode cc pc = .ok (.areturn, 1)) : W p l e R s m args below meth c H locs cells slots (MQ below (tqr κ F σ0 φ s.heap.size) args s cells slots (tA σ0 s.heap.size)) (F0 m pc ls [.ref v]) :=
  W.aret hx hb hr (Or.inl ⟨n0, hrt⟩) (Or.inr ⟨v, rfl⟩) (fun t ht hW => ⟨⟨σ, v, rfl, trivial, hφ, by rw [ht]; exact hT.1, by rw [ht]; exact hT.2.1, hT.2.2.1⟩, hT.2.2.2.F ht⟩) hT.2.2.2.2.2 hdg (hlocks := hlocks)
end TMB
