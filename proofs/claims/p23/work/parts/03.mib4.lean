/-! methods with a table of handlers, called by a name -/
section LIB4
variable {p : Program} {l : Launch} {e : Env} {R : Room} {s : State} {m : MethodId} {args : Array Value} {below : List Frame} {meth : Method} {c : Code} {H : Heap} {locs : List Loc} {cells slots : Nat} {Q : State → Prop} {cc : ByteArray} {pc : Nat} {ls : Array Slot} {rest st0 : List Value} {D : va_G} {A : Nat → Prop} {tys : List (ClassId × FieldType)} {ws : va_W}
variable {own C host E name : String} {nL n idx ml mc ms MC MS : Nat} {y : MethodName} {bc : ByteArray} {rt : Option FieldType} {hh : List (Nat × Nat × Nat × Nat)} {rm : Room} {b : Nat} {As : List Value} {wc fw wr : va_W} {tc tr : List (ClassId × FieldType)} {X : XP} {S : Type} {φ : S → Prop} {w1 : S → va_W} {t1 : S → List (ClassId × FieldType)} {AD : Nat → Prop}
def mwH (y : MethodName) (bc : ByteArray) (ml : Nat) (rt : Option FieldType) (hh : List (Nat × Nat × Nat × Nat)) : List Cond := Cond.codeWith y bc ml rt hh :: GW
theorem mwH_mem {y : MethodName} {bc : ByteArray} {ml : Nat} {rt : Option FieldType} {hh : List (Nat × Nat × Nat × Nat)} (h : Cond.codeWith y bc ml rt hh ∈ GW) : ∀ w ∈ mwH y bc ml rt hh, w ∈ GW := fun w hw => (List.mem_cons.mp hw).elim (fun e => by rw [e]; exact h) (fun e => e)
theorem mwHS {own : String} {idx : Nat} {y : MethodName} {bc : ByteArray} {ml : Nat} {rt : Option FieldType} {hh : List (Nat × Nat × Nat × Nat)} (h1 : Cond.methodLink own idx y ∈ GW) (h2 : Cond.static y ∈ GW) (h4 : Cond.initialized y.cls ∈ GW) (h5 : Cond.codeWith y bc ml rt hh ∈ GW) : GoodIn GW (va_wsS own idx y (mwH y bc ml rt hh)) := by
  intro w hw
  refine gG ?_
  rcases List.mem_append.mp hw with h | h
  · rcases List.mem_cons.mp h with e | h
    · rw [e]; exact h1
    rcases List.mem_cons.mp h with e | h
    · rw [e]; exact h2
    rcases List.mem_cons.mp h with e | h
    · rw [e]; exact h4
    cases h
  · exact mwH_mem h5 w h
def CH (l : Launch) (y : MethodName) (bc : ByteArray) (ml : Nat) (rt : Option FieldType) (hh : List (Nat × Nat × Nat × Nat)) (rm : Room) (av : List Value) (D : va_G) (ws : va_W) (tys : List (ClassId × FieldType)) (X : XP) (fw : va_W) (Qc : (Nat → Prop) → Array Value → State → Outcome → State → Prop) (mc ms : Nat) : Prop := ∀ sz, Met l y (mwH y bc ml rt hh) rm (cpre av D ws tys X fw sz) (Qc (va_A fw sz)) mc ms (va_A fw sz)
theorem CH.ofW {l : Launch} {y : MethodName} {bc : ByteArray} {ml : Nat} {rt : Option FieldType} {hh : List (Nat × Nat × Nat × Nat)} {rm : Room} {av : List Value} {D : va_G} {ws : va_W} {tys : List (ClassId × FieldType)} {X : XP} {Qc : (Nat → Prop) → Array Value → State → Outcome → State → Prop} {mc ms : Nat} (hy : plainName y.cls = true) (hlen : (lg_sl av).length ≤ ml)
    (body : ∀ (p : Program) (e : Env) (s : State) (m : MethodId) (below : List Frame) (meth : Method) (c : Code) (A : Nat → Prop) (ls : Array Slot), CS p bc rt ml y av.toArray s m meth c → c.exceptionTable.toList = tableOf hh → va_P D vwCl ws s.heap → va_K D vwCl tys s → va_D A ws → X A s s.heap → (∀ q, s.heap.size ≤ q → A q) → va_S A s.heap s.heap [] → lv_has ls ml (lv_args 0 av) →
      W p l e rm s m av.toArray below meth c s.heap [] 0 0 (MQ below (Qc A) av.toArray s mc ms A) (F0 m 0 ls [])) : CH l y bc ml rt hh rm av D ws tys X ws Qc mc ms := by
  intro sz
  refine va_MetW (cc := bc) (maxL := ml) (ret := rt) (hh := hh) hy rfl ?_
  intro p e s m args below meth c s₁ B hml hv
  obtain ⟨rfl, hsz, hP, hK, hD0, hX0⟩ := hv
  subst hsz
  rw [lg_entry_eq]
  have hts := atoms_spec (ws := mwH y bc ml rt hh) B.pre
  exact body p e s m below meth c _ _ ⟨B.exec, B.bytes, B.returns, hml, findClass_of_methodNamed B.named, fun w h => hts w (List.mem_cons_of_mem _ h), B.notSynchronized, (name_of_methodNamed B.named B.method).1⟩ (vx_table (x := y) B (hts _ List.mem_cons_self)) hP hK hD0.self hX0 (fun q h => Or.inr h) va_S.rf (lv_entry av hlen)
theorem CH.ofR {l : Launch} {y : MethodName} {bc : ByteArray} {ml : Nat} {rt : Option FieldType} {hh : List (Nat × Nat × Nat × Nat)} {rm : Room} {av : List Value} {D : va_G} {ws : va_W} {tys : List (ClassId × FieldType)} {X : XP} {Qc : (Nat → Prop) → Array Value → State → Outcome → State → Prop} {mc ms : Nat} (hy : plainName y.cls = true) (hlen : (lg_sl av).length ≤ ml)
    (body : ∀ (p : Program) (e : Env) (s : State) (m : MethodId) (below : List Frame) (meth : Method) (c : Code) (A : Nat → Prop) (ls : Array Slot), CS p bc rt ml y av.toArray s m meth c → c.exceptionTable.toList = tableOf hh → va_P D vwCl ws s.heap → va_K D vwCl tys s → va_D (fun _ => True) ws → X A s s.heap → (∀ q, s.heap.size ≤ q → A q) → va_S A s.heap s.heap [] → lv_has ls ml (lv_args 0 av) →
      W p l e rm s m av.toArray below meth c s.heap [] 0 0 (MQ below (Qc A) av.toArray s mc ms A) (F0 m 0 ls [])) : CH l y bc ml rt hh rm av D ws tys X [] Qc mc ms := by
  intro sz
  refine va_MetW (cc := bc) (maxL := ml) (ret := rt) (hh := hh) hy rfl ?_
  intro p e s m args below meth c s₁ B hml hv
  obtain ⟨rfl, hsz, hP, hK, hD0, hX0⟩ := hv
  subst hsz
  rw [lg_entry_eq]
  have hts := atoms_spec (ws := mwH y bc ml rt hh) B.pre
  exact body p e s m below meth c _ _ ⟨B.exec, B.bytes, B.returns, hml, findClass_of_methodNamed B.named, fun w h => hts w (List.mem_cons_of_mem _ h), B.notSynchronized, (name_of_methodNamed B.named B.method).1⟩ (vx_table (x := y) B (hts _ List.mem_cons_self)) hP hK hD0 hX0 (fun q h => Or.inr h) va_S.rf (lv_entry av hlen)
theorem cHi {r : S → Int32} (hx : p.tables.exec = Jvm.exec) (hb : c.code = cc) (hml : c.maxLocals = nL) (hown : s.vm.findClass own = some m.cls) (hg : ∀ w ∈ GW, w.before args s = true) (hok : okX X) (hC : CH l y bc ml rt hh rm As D wc tc X fw (ei φ r w1 t1 D) mc ms) (hG : GoodIn GW (va_wsS own idx y (mwH y bc ml rt hh))) (hd : y.cls ≠ "java/lang/invoke/MethodHandle" ∧ y.cls ≠ "java/lang/invoke/VarHandle" ∧ (parseMethodDescriptor y.desc).map (fun d => d.parameters.length) = some n) (hrm : rm.cells = mc ∧ rm.slots = ms ∧ rm.frames + 1 ≤ R.frames ∧ 8 + (ml + 11) + rm.locals ≤ R.locals)
    (hP : va_P D vwCl ws H) (hD : va_D AD ws) (hK : va_K D vwCl tys s) (hS : va_S A s.heap H locs) (hX : X A s H) (isC isF isR ks kr : List Nat) (h1 : isC.map (fun i => ws[i]?) = wc.map some) (h1n : va_nd isC = true) (h2 : isF.map (fun i => ws[i]?) = fw.map some) (h3 : isR.map (fun i => ws[i]?) = wr.map some) (h3n : va_nd isR = true) (h4 : ∀ i ∈ isR, i ∉ isF) (ht : ks.filterMap (fun i => tys[i]?) = tc) (htr : kr.filterMap (fun i => tys[i]?) = tr)
    (hfr : ∀ q, va_A fw H.size q → A q) (hfD : ∀ q, va_A fw H.size q → AD q) (hn : As.length = n) (hsize : ls.size = nL) (hst : st0 = As.reverse ++ rest) (hroom : (rest.map fun v => v.category).sum ≤ 8) (hdg : decode cc pc = .ok (.invokestatic idx, 3)) (hf : cells + mc ≤ R.cells ∧ slots + ms ≤ R.slots)
    (kk : ∀ (u : S) (H1 : Heap) (locs1 : List Loc), φ u → va_P D vwCl (wr ++ w1 u) H1 → va_D AD (wr ++ w1 u) → va_K D vwCl (tr ++ t1 u) s → va_S A s.heap H1 locs1 → (∀ q : Nat, q < H.size → ¬ A q → H1[q]? = H[q]?) → W p l e R s m args below meth c H1 locs1 (cells + mc) (slots + ms) Q (F0 m (pc + 3) ls (.int (r u) :: rest))) : W p l e R s m args below meth c H locs cells slots Q (F0 m pc ls st0) := by
  refine va_calli (vx_runSW (As := As) (rest := rest) ⟨hx, hb, hml, hown, hg⟩ (hC H.size) (vx_cwSW n hg hG rfl hrm.1 hrm.2.1 hd ⟨hrm.2.2.1, hrm.2.2.2⟩) ⟨cpre_blind hok, fun U hU hW => ⟨rfl, by rw [hU], by rw [hU]; exact hP.sub isC (fm_of h1), va_K.moved hW.alike (hK.sub ks ht), dTrue (hD.sub isC h1n h1), by rw [hU]; exact hok.2.1 _ _ _ _ hW (hok.1 _ _ _ _ hfr hX)⟩⟩ rfl hn hsize hst (lv_room hroom) hdg hf) hS (fun q _ h => hfr q h) hfr (fun x u t H1 locs1 ht1 hvm hw hB hz hk hS1 => ?_)
  obtain ⟨hw, rfl⟩ := hw
  obtain ⟨hP1, hK1, hD1⟩ := hB
  rw [ht1] at hP1
  have hj := va_join hP hD isF isR h2 h3 h3n h4 hk hfD hP1 hD1
  exact kk u H1 locs1 hw hj.1 hj.2 ((hK.sub kr htr).app (va_K.moved hvm.symm hK1)) hS1 (fun q h5 h6 => hk q h5 (fun h7 => h6 (hfr q h7)))
theorem pNil {D : va_G} {H : Heap} : va_P D vwCl [] H := fun _ _ h => by simp at h
theorem dNil {A : Nat → Prop} : va_D A [] := ⟨fun _ _ _ _ h => by simp at h, fun _ _ h => by simp at h⟩
theorem lgc_lt {x y : Int64} (h : x.toInt < y.toInt) : lg_cmp x y = -1 := by
  have h1 : x < y := Int64.lt_iff_toInt_lt.mpr h
  have h2 : ¬ y < x := fun q => by have := Int64.lt_iff_toInt_lt.mp q; omega
  have h3 : ¬ x = y := fun q => by rw [q] at h; omega
  simp [lg_cmp, h1, h2, h3]
theorem lgc_gt {x y : Int64} (h : y.toInt < x.toInt) : lg_cmp x y = 1 := by
  have h1 : y < x := Int64.lt_iff_toInt_lt.mpr h
  simp [lg_cmp, h1]
theorem lgc_eq {x y : Int64} (h : x.toInt = y.toInt) : lg_cmp x y = 0 := by
  have h1 : x = y := Int64.toInt_inj.mp h
  have h2 : ¬ y < x := fun q => by have := Int64.lt_iff_toInt_lt.mp q; omega
  simp [lg_cmp, h1]
theorem lgq1 {x y : Int64} (h : x.toInt < y.toInt) : lg_cmp x y < 0 := by rw [lgc_lt h]; decide
theorem lgq2 {x y : Int64} (h : x.toInt < y.toInt) : ¬ 0 ≤ lg_cmp x y := by rw [lgc_lt h]; decide
theorem lgq5 {x y : Int64} (h : y.toInt < x.toInt) : 0 < lg_cmp x y := by rw [lgc_gt h]; decide
theorem lgq6 {x y : Int64} (h : y.toInt < x.toInt) : ¬ lg_cmp x y ≤ 0 := by rw [lgc_gt h]; decide
theorem lgq4 {x y : Int64} (h : y.toInt ≤ x.toInt) : 0 ≤ lg_cmp x y := by
  rcases Int.lt_or_eq_of_le h with q | q
  · rw [lgc_gt q]; decide
  · rw [lgc_eq q.symm]; decide
theorem lgq3 {x y : Int64} (h : y.toInt ≤ x.toInt) : ¬ lg_cmp x y < 0 := by
  rcases Int.lt_or_eq_of_le h with q | q
  · rw [lgc_gt q]; decide
  · rw [lgc_eq q.symm]; decide
theorem lgq8 {x y : Int64} (h : x.toInt ≤ y.toInt) : lg_cmp x y ≤ 0 := by
  rcases Int.lt_or_eq_of_le h with q | q
  · rw [lgc_lt q]; decide
  · rw [lgc_eq q]; decide
theorem lgq7 {x y : Int64} (h : x.toInt ≤ y.toInt) : ¬ 0 < lg_cmp x y := by
  rcases Int.lt_or_eq_of_le h with q | q
  · rw [lgc_lt q]; decide
  · rw [lgc_eq q]; decide
theorem i2l1 {x : Int32} (h0 : 0 ≤ x.toInt) (h1 : x.toInt ≤ 99999) : (x.toInt64 + 1).toInt = x.toInt + 1 := by
  have e1 : (1 : Int64).toInt = 1 := by decide
  have e2 : x.toInt64.toInt = x.toInt := by simp
  rw [Int64.toInt_add, e1, e2]
  exact Int.bmod_eq_of_le (by omega) (by omega)
theorem i2lI (x : Int32) : x.toInt64.toInt = x.toInt := by simp
theorem i_lt {x y : Int32} (h : x.toInt < y.toInt) : x < y := Int32.lt_iff_toInt_lt.mpr h
theorem i_nlt {x y : Int32} (h : y.toInt ≤ x.toInt) : ¬ x < y := fun q => by have := Int32.lt_iff_toInt_lt.mp q; omega
theorem i_le {x y : Int32} (h : x.toInt ≤ y.toInt) : x ≤ y := Int32.le_iff_toInt_le.mpr h
theorem i_nle {x y : Int32} (h : y.toInt < x.toInt) : ¬ x ≤ y := fun q => by have := Int32.le_iff_toInt_le.mp q; omega
theorem i_ne {x y : Int32} (h : x.toInt ≠ y.toInt) : ¬ x = y := fun q => h (by rw [q])
theorem i_eq {x y : Int32} (h : x.toInt = y.toInt) : x = y := Int32.toInt_inj.mp h
end LIB4
