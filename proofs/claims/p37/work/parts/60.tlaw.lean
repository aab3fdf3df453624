/-! The law over states of known kinds. -/
section TLAW
variable {p : Program} {l : Launch} {e : Env} {R : Room} {s : State} {m : MethodId} {args : Array Value} {below : List Frame} {meth : Method} {c : Code} {H : Heap} {locs : List Loc} {cells slots : Nat} {Q : State → Prop} {cc : ByteArray} {pc : Nat} {ls : Array Slot} {rest st0 : List Value}
variable {κ : Kt} {F F1 : Nat → Nat → Bool} {σ0 σ : Gh}
variable {own C : String} {nL n idx ml fr lw : Nat} {y : MethodName} {bc : ByteArray} {rt : Option FieldType} {b : Nat} {av As : List Value} {hh : List (Nat × Nat × Nat × Nat)}
theorem TS.up (h : TS κ F σ0 σ s H locs) : TS (kX κ) F σ0 σ s H locs := ⟨fun x => (h.1 x).eq rfl rfl rfl, ⟨h.2.1.1, Nat.le_succ_of_le h.2.1.2.1, Nat.le_trans h.2.1.2.2 (Nat.le_add_right _ 6)⟩, h.2.2⟩
/-- a method with handlers: it returns; a caught throw costs one cell -/
def TH (l : Launch) (y : MethodName) (bc : ByteArray) (ml : Nat) (hh : List (Nat × Nat × Nat × Nat)) (fr lw : Nat) (av : List Value) (κ : Kt) (σ : Gh) (Qc : Nat → Array Value → State → Outcome → State → Prop) : Prop := ∀ sz su, Met l y (mwH y bc ml (some .int) hh) { frames := fr, cells := kC (kX κ) - sz, slots := kS (kX κ) - su, locals := lw } (tpre av κ σ sz su) (Qc sz) (kC (kX κ) - sz) (kS (kX κ) - su) (tA σ sz)
theorem TH.of (F : Nat → Nat → Bool) {Qc : Nat → Array Value → State → Outcome → State → Prop} (hy : plainName y.cls = true) (hlen : (lg_sl av).length ≤ ml)
    (body : ∀ (p : Program) (e : Env) (s : State) (m : MethodId) (below : List Frame) (meth : Method) (c : Code) (ls : Array Slot), CS p bc (some .int) ml y av.toArray s m meth c → c.exceptionTable.toList = tableOf hh → va_K κ.1 vwCl (kTy κ) s → XY κ (tA σ s.heap.size) s s.heap → TS κ F σ σ s s.heap [] → lv_has ls ml (lv_args 0 av) →
      tW p l e fr lw (kX κ) s m av.toArray below meth c s.heap [] (tQ (kX κ) σ below Qc av.toArray s) (F0 m 0 ls [])) : TH l y bc ml hh fr lw av κ σ Qc := by
  intro sz su
  refine va_MetW (cc := bc) (maxL := ml) (ret := some .int) (hh := hh) hy rfl ?_
  intro p e s m args below meth c s₁ B hml hv
  obtain ⟨rfl, hsz, hsu, hT, hC, hK, hX⟩ := hv
  subst hsz
  subst hsu
  rw [lg_entry_eq]
  have hts := atoms_spec (ws := mwH y bc ml (some .int) hh) B.pre
  refine W.widen (k := kC (kX κ) - s.heap.size) (n := kS (kX κ) - hsl s.heap) (Nat.zero_le _) (Nat.zero_le _) ?_
  exact body p e s m below meth c _ ⟨B.exec, B.bytes, B.returns, hml, findClass_of_methodNamed B.named, fun w h => hts w (List.mem_cons_of_mem _ h), B.notSynchronized, (name_of_methodNamed B.named B.method).1⟩ (vx_table (x := y) B (hts _ List.mem_cons_self)) hK hX ⟨hT, hC, Ext.rf, va_S.rf⟩ (lv_entry av hlen)
theorem zroomX.dn (h : zroomX κ s R cells slots) : zroom κ s R cells slots := by
  obtain ⟨z1, z2, z3, z4⟩ := h
  have z1 : kC κ + 1 - s.heap.size ≤ cells := z1
  have z2 : kS κ + 6 - hsl s.heap ≤ slots := z2
  exact ⟨by omega, by omega, z3, z4⟩
theorem tHi {φ : Int32 → Gh → Prop} (hx : p.tables.exec = Jvm.exec) (hb : c.code = cc) (hml : c.maxLocals = nL) (hown : s.vm.findClass own = some m.cls) (hg : ∀ w ∈ GW, w.before args s = true) (hT : TS κ F σ0 σ s H locs) (hK : va_K κ.1 vwCl (kTy κ) s) (hX : XY κ (tA σ0 s.heap.size) s s.heap) (hC : TH l y bc ml hh fr lw As κ σ (tqi (kX κ) F1 σ φ)) (hFG : ∀ t k, F t k = false → F1 t k = false) (hG : GoodIn GW (va_wsS own idx y (mwH y bc ml (some .int) hh))) (hd : y.cls ≠ "java/lang/invoke/MethodHandle" ∧ y.cls ≠ "java/lang/invoke/VarHandle" ∧ (parseMethodDescriptor y.desc).map (fun d => d.parameters.length) = some n) (hfr : fr + 1 ≤ R.frames ∧ 8 + (ml + 11) + lw ≤ R.locals)
    (hn : As.length = n) (hsize : ls.size = nL) (hst : st0 = As.reverse ++ rest) (hroom : (rest.map fun v => v.category).sum ≤ 8) (hdg : decode cc pc = .ok (.invokestatic idx, 3)) (hz9 : zroomX κ s R cells slots)
    (kk : ∀ (x : Int32) (τ : Gh) (H1 : Heap) (locs1 : List Loc), φ x τ → Ext F1 H.size σ τ → TS (kX κ) F σ0 τ s H1 locs1 → W p l e R s m args below meth c H1 locs1 cells slots Q (F0 m (pc + 3) ls (.int x :: rest))) : W p l e R s m args below meth c H locs cells slots Q (F0 m pc ls st0) := by
  refine W.tight (fun w1 w2 w3 w4 => ?_)
  obtain ⟨z1, z2, z3, z4⟩ := hz9
  have c1 : H.size + zpc κ σ ≤ kC κ := hT.2.1.2.1
  have c2 : hsl H + zps κ σ ≤ kS κ := hT.2.1.2.2
  have y1 : kC (kX κ) = kC κ + 1 := rfl
  have y2 : kS (kX κ) = kS κ + 6 := rfl
  refine va_calli (vx_runSW (As := As) (rest := rest) ⟨hx, hb, hml, hown, hg⟩ (hC H.size (hsl H)) (vx_cwSW n hg hG rfl rfl rfl hd ⟨hfr.1, hfr.2⟩) ⟨tpre_blind, fun U hU hW => ⟨rfl, by rw [hU], by rw [hU], by rw [hU]; exact hT.1, by rw [hU]; exact hT.2.1, va_K.moved hW.alike hK, by rw [hU]; exact (okXY κ).2.1 _ _ _ _ hW ((okXY κ).1 _ _ _ _ hT.tA ((okXY κ).2.2 _ _ _ _ hT.2.2.2.2.1 hX))⟩⟩ rfl hn hsize hst (lv_room hroom) hdg ⟨by omega, by omega⟩) hT.2.2.2 (fun q _ h => hT.tA q h) hT.tA (fun x τ t H1 locs1 ht1 hvm hw hB hz hk hS1 => ?_)
  obtain ⟨b1, b2, b3⟩ := hB
  rw [ht1] at b1 b2
  refine W.widen (k := cells) (n := slots) (by omega) (by omega) ?_
  exact kk x τ H1 locs1 hw b3 ⟨b1, b2, hT.2.2.1.tr b3 hT.2.2.2.1 hFG, hS1⟩
theorem tVdD {d0 : Drawn} {φ : UInt64 → Gh → Prop} (hd0 : s.drawn.sameBut d0 lw_cs) (hx : p.tables.exec = Jvm.exec) (hb : c.code = cc) (hml : c.maxLocals = nL) (hown : s.vm.findClass own = some m.cls) (hg : ∀ w ∈ GW, w.before args (s.setDrawn d0) = true) (hT : TS κ F σ0 σ s H locs) (hK : va_K κ.1 vwCl (kTy κ) s) (hX : XY κ (tA σ0 s.heap.size) s s.heap) (hC : TD l y bc ml rt fr lw (.ref b :: As) κ σ (tqd κ F1 σ φ)) (hFG : ∀ t k, F t k = false → F1 t k = false) (hG : GoodIn GW (wsV own idx C y (mw y bc ml rt))) (hd : y.cls = C ∧ y.cls ≠ "java/lang/invoke/MethodHandle" ∧ y.cls ≠ "java/lang/invoke/VarHandle" ∧ (parseMethodDescriptor y.desc).map (fun d => d.parameters.length) = some n) (hfr : fr + 1 ≤ R.frames ∧ 8 + (ml + 11) + lw ≤ R.locals)
    {ci9 N9 : Nat} {T9 : u_T} {fs9 : List Value} (hr9 : va_at κ.1 vwCl (b, .inr (ci9, fs9)) H) (hci : vwCl[ci9]? = some (C, T9, N9)) (hn : As.length = n) (hsize : ls.size = nL) (hst : st0 = As.reverse ++ .ref b :: rest) (hroom : (rest.map fun v => v.category).sum ≤ 8) (hdg : decode cc pc = .ok (.invokevirtual idx, 3)) (hz9 : zroom κ s R cells slots)
    (kk : ∀ (x : UInt64) (τ : Gh) (H1 : Heap) (locs1 : List Loc) (d1 : Drawn), s.drawn.sameBut d1 lw_cs → φ x τ → Ext F1 H.size σ τ → TS κ F σ0 τ s H1 locs1 → W p l e R (s.setDrawn d1) m args below meth c H1 locs1 cells slots Q (F0 m (pc + 3) ls (.double x :: rest))) : W p l e R (s.setDrawn d0) m args below meth c H locs cells slots Q (F0 m pc ls st0) := by
  have hTd : TS κ F σ0 σ (s.setDrawn d0) H locs := hT
  refine W.tight (fun w1 w2 w3 w4 => ?_)
  have w1 : s.heap.size ≤ H.size := w1
  have w2 : hsl s.heap ≤ hsl H := w2
  have w3 : H.size ≤ s.heap.size + cells := w3
  have w4 : hsl H ≤ hsl s.heap + slots := w4
  obtain ⟨z1, z2, z3, z4⟩ := hz9
  have c1 := hT.2.1.2.1
  have c2 := hT.2.1.2.2
  change W p l e R (s.setDrawn d0) m args below meth c H locs (H.size - s.heap.size) (hsl H - hsl s.heap) Q _
  refine va_calldD hd0 (va_runV_D (As := As) (rest := rest) ⟨hx, hb, hml, hown, hg⟩ (hC H.size (hsl H)) (cwV n hg hG rfl rfl rfl hd ⟨hfr.1, hfr.2⟩) ⟨tpre_blind, va_recv (s := s.setDrawn d0) hK hr9.one hci (q0 := 0) rfl, fun U hU hW => ⟨rfl, by rw [hU], by rw [hU], by rw [hU]; exact hT.1, by rw [hU]; exact hT.2.1, va_K.moved (u := s.setDrawn d0) hW.alike hK, by rw [hU]; exact (okXY κ).2.1 _ (s.setDrawn d0) _ _ hW ((okXY κ).1 _ _ _ _ hTd.tA ((okXY κ).2.2 _ _ _ _ hT.2.2.2.2.1 hX))⟩⟩ rfl hn hsize hst (lv_room hroom) hdg ⟨by omega, by omega⟩) hT.2.2.2 (fun q _ h => hT.tA q h) hT.tA (fun x τ t H1 locs1 ht1 hvm hw hB hz hk hS1 d1 hd1 => ?_)
  obtain ⟨b1, b2, b3⟩ := hB
  rw [ht1] at b1 b2
  refine W.widen (k := cells) (n := slots) (by omega) (by omega) ?_
  exact kk x τ H1 locs1 d1 hd1 hw b3 ⟨b1, b2, hT.2.2.1.tr b3 hT.2.2.2.1 hFG, hS1⟩
end TLAW
