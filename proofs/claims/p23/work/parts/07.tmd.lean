/-! Field writes, new arrays, copies over states of which the kinds of the cells are known. -/
section TMD
variable {p : Program} {l : Launch} {e : Env} {R : Room} {s : State} {m : MethodId} {args : Array Value} {below : List Frame} {meth : Method} {c : Code} {H : Heap} {locs : List Loc} {cells slots : Nat} {Q : State → Prop} {cc : ByteArray} {pc : Nat} {ls : Array Slot} {rest st0 : List Value}
variable {κ : Kt} {F F1 : Nat → Nat → Bool} {σ0 σ τ : Gh} {a t : Nat} {own : String} {index : Nat}
theorem pf1_1 {v : Int32} (hx : p.tables.exec = Jvm.exec) (hb : c.code = cc) (hg : ∀ w ∈ GW, w.before args s = true) (hown : s.vm.findClass own = some m.cls) (hK : va_K κ.1 vwCl (kTy κ) s) (hT : TS κ F σ0 σ s H locs) (ha : zk σ a 1) (hF : F 1 1 = true) (h9 : zB v 0 (zN σ a)) (hlink : (Cond.fieldLink own index "LiftingSignal$Whole" "used" "I").before args s = true) (hdg : decode cc pc = .ok (.putfield index, 3))
    (kk : ∀ (H1 : Heap) (locs1 : List Loc) (τ : Gh), τ = zput σ a 1 v → TS κ F σ0 τ s H1 locs1 → W p l e R s m args below meth c H1 locs1 cells slots Q (F0 m (pc + 3) ls rest)) : W p l e R s m args below meth c H locs cells slots Q (F0 m pc ls (.int v :: .ref a :: rest)) := by
  obtain ⟨x, ho, hx9⟩ := hT.o1 ha
  refine tput (C := RX4) (T := TX4) (N := 3) hx hb hg inX4 tyX4 tyX4_ok nmX4 hown hK hT ha (by decide) ho rfl 1 (by decide) hlink (fun _ h => h) rfl (ty := .int) (by decide +kernel) rfl rfl (Nat.le_of_ble_eq_true rfl) (hFput ha hF) (fun H' h' => Or.inr ⟨x, ?_⟩) hdg (fun H1 locs1 hT1 => kk H1 locs1 _ rfl hT1)
  rw [show zT σ a = 1 from ha]
  refine ⟨h', ⟨(hT.P ha (by decide)).1, h9, (hT.P ha (by decide)).2.2⟩, ?_, fun _ => hx9⟩
  obtain ⟨x8, -, -, h8, -⟩ := hT.at ha (by decide)
  exact h8
theorem pf1_2 {v : Int32} (hx : p.tables.exec = Jvm.exec) (hb : c.code = cc) (hg : ∀ w ∈ GW, w.before args s = true) (hown : s.vm.findClass own = some m.cls) (hK : va_K κ.1 vwCl (kTy κ) s) (hT : TS κ F σ0 σ s H locs) (ha : zk σ a 1) (hF : F 1 2 = true) (h9 : isB v) (hlink : (Cond.fieldLink own index "LiftingSignal$Whole" "isNegative" "Z").before args s = true) (hdg : decode cc pc = .ok (.putfield index, 3))
    (kk : ∀ (H1 : Heap) (locs1 : List Loc) (τ : Gh), τ = zput σ a 2 v → TS κ F σ0 τ s H1 locs1 → W p l e R s m args below meth c H1 locs1 cells slots Q (F0 m (pc + 3) ls rest)) : W p l e R s m args below meth c H locs cells slots Q (F0 m pc ls (.int v :: .ref a :: rest)) := by
  obtain ⟨x, ho, hx9⟩ := hT.o1 ha
  refine tput (C := RX4) (T := TX4) (N := 3) hx hb hg inX4 tyX4 tyX4_ok nmX4 hown hK hT ha (by decide) ho rfl 2 (by decide) hlink (fun _ h => h) rfl (ty := .boolean) (by decide +kernel) (isB_n h9) (isB_f h9) (Nat.le_of_ble_eq_true rfl) (hFput ha hF) (fun H' h' => Or.inr ⟨x, ?_⟩) hdg (fun H1 locs1 hT1 => kk H1 locs1 _ rfl hT1)
  rw [show zT σ a = 1 from ha]
  refine ⟨h', ⟨(hT.P ha (by decide)).1, (hT.P ha (by decide)).2.1, h9⟩, ?_, fun _ => hx9⟩
  obtain ⟨x8, -, -, h8, -⟩ := hT.at ha (by decide)
  exact h8
theorem pf2_0 {v : Int32} (hx : p.tables.exec = Jvm.exec) (hb : c.code = cc) (hg : ∀ w ∈ GW, w.before args s = true) (hown : s.vm.findClass own = some m.cls) (hK : va_K κ.1 vwCl (kTy κ) s) (hT : TS κ F σ0 σ s H locs) (ha : zk σ a 2) (hF : F 2 0 = true) (h9 : zB v 0 47) (hlink : (Cond.fieldLink own index "LiftingSignal$Step" "sample" "I").before args s = true) (hdg : decode cc pc = .ok (.putfield index, 3))
    (kk : ∀ (H1 : Heap) (locs1 : List Loc) (τ : Gh), τ = zput σ a 0 v → TS κ F σ0 τ s H1 locs1 → W p l e R s m args below meth c H1 locs1 cells slots Q (F0 m (pc + 3) ls rest)) : W p l e R s m args below meth c H locs cells slots Q (F0 m pc ls (.int v :: .ref a :: rest)) := by
  have ho := hT.o2 ha
  refine tput (C := RX2) (T := TX2) (N := 10) hx hb hg inX2 tyX2 tyX2_ok nmX2 hown hK hT ha (by decide) ho rfl 0 (by decide) hlink (fun _ h => h) rfl (ty := .int) (by decide +kernel) rfl rfl (Nat.le_of_ble_eq_true rfl) (hFput ha hF) (fun H' h' => Or.inr ⟨0, ?_⟩) hdg (fun H1 locs1 hT1 => kk H1 locs1 _ rfl hT1)
  rw [show zT σ a = 2 from ha]
  refine ⟨h', ⟨h9, (hT.P ha (by decide)).2.1, (hT.P ha (by decide)).2.2.1, (hT.P ha (by decide)).2.2.2⟩, ?_, fun q => absurd q (by decide)⟩
  obtain ⟨x8, -, -, h8, -⟩ := hT.at ha (by decide)
  exact h8
theorem pf2_1 {v : Int32} (hx : p.tables.exec = Jvm.exec) (hb : c.code = cc) (hg : ∀ w ∈ GW, w.before args s = true) (hown : s.vm.findClass own = some m.cls) (hK : va_K κ.1 vwCl (kTy κ) s) (hT : TS κ F σ0 σ s H locs) (ha : zk σ a 2) (hF : F 2 1 = true) (h9 : zB v 0 47) (hlink : (Cond.fieldLink own index "LiftingSignal$Step" "left" "I").before args s = true) (hdg : decode cc pc = .ok (.putfield index, 3))
    (kk : ∀ (H1 : Heap) (locs1 : List Loc) (τ : Gh), τ = zput σ a 1 v → TS κ F σ0 τ s H1 locs1 → W p l e R s m args below meth c H1 locs1 cells slots Q (F0 m (pc + 3) ls rest)) : W p l e R s m args below meth c H locs cells slots Q (F0 m pc ls (.int v :: .ref a :: rest)) := by
  have ho := hT.o2 ha
  refine tput (C := RX2) (T := TX2) (N := 10) hx hb hg inX2 tyX2 tyX2_ok nmX2 hown hK hT ha (by decide) ho rfl 1 (by decide) hlink (fun _ h => h) rfl (ty := .int) (by decide +kernel) rfl rfl (Nat.le_of_ble_eq_true rfl) (hFput ha hF) (fun H' h' => Or.inr ⟨0, ?_⟩) hdg (fun H1 locs1 hT1 => kk H1 locs1 _ rfl hT1)
  rw [show zT σ a = 2 from ha]
  refine ⟨h', ⟨(hT.P ha (by decide)).1, h9, (hT.P ha (by decide)).2.2.1, (hT.P ha (by decide)).2.2.2⟩, ?_, fun q => absurd q (by decide)⟩
  obtain ⟨x8, -, -, h8, -⟩ := hT.at ha (by decide)
  exact h8
theorem pf2_2 {v : Int32} (hx : p.tables.exec = Jvm.exec) (hb : c.code = cc) (hg : ∀ w ∈ GW, w.before args s = true) (hown : s.vm.findClass own = some m.cls) (hK : va_K κ.1 vwCl (kTy κ) s) (hT : TS κ F σ0 σ s H locs) (ha : zk σ a 2) (hF : F 2 2 = true) (h9 : zB v 0 47) (hlink : (Cond.fieldLink own index "LiftingSignal$Step" "right" "I").before args s = true) (hdg : decode cc pc = .ok (.putfield index, 3))
    (kk : ∀ (H1 : Heap) (locs1 : List Loc) (τ : Gh), τ = zput σ a 2 v → TS κ F σ0 τ s H1 locs1 → W p l e R s m args below meth c H1 locs1 cells slots Q (F0 m (pc + 3) ls rest)) : W p l e R s m args below meth c H locs cells slots Q (F0 m pc ls (.int v :: .ref a :: rest)) := by
  have ho := hT.o2 ha
  refine tput (C := RX2) (T := TX2) (N := 10) hx hb hg inX2 tyX2 tyX2_ok nmX2 hown hK hT ha (by decide) ho rfl 2 (by decide) hlink (fun _ h => h) rfl (ty := .int) (by decide +kernel) rfl rfl (Nat.le_of_ble_eq_true rfl) (hFput ha hF) (fun H' h' => Or.inr ⟨0, ?_⟩) hdg (fun H1 locs1 hT1 => kk H1 locs1 _ rfl hT1)
  rw [show zT σ a = 2 from ha]
  refine ⟨h', ⟨(hT.P ha (by decide)).1, (hT.P ha (by decide)).2.1, h9, (hT.P ha (by decide)).2.2.2⟩, ?_, fun q => absurd q (by decide)⟩
  obtain ⟨x8, -, -, h8, -⟩ := hT.at ha (by decide)
  exact h8
theorem pf2_3 {v : Int64} (hx : p.tables.exec = Jvm.exec) (hb : c.code = cc) (hg : ∀ w ∈ GW, w.before args s = true) (hown : s.vm.findClass own = some m.cls) (hK : va_K κ.1 vwCl (kTy κ) s) (hT : TS κ F σ0 σ s H locs) (ha : zk σ a 2) (hF : F 2 3 = true) (hlink : (Cond.fieldLink own index "LiftingSignal$Step" "leftWeight" "J").before args s = true) (hdg : decode cc pc = .ok (.putfield index, 3))
    (kk : ∀ (H1 : Heap) (locs1 : List Loc) (τ : Gh), τ = zpul σ a 3 v → TS κ F σ0 τ s H1 locs1 → W p l e R s m args below meth c H1 locs1 cells slots Q (F0 m (pc + 3) ls rest)) : W p l e R s m args below meth c H locs cells slots Q (F0 m pc ls (.long v :: .ref a :: rest)) := by
  have ho := hT.o2 ha
  refine tput (C := RX2) (T := TX2) (N := 10) hx hb hg inX2 tyX2 tyX2_ok nmX2 hown hK hT ha (by decide) ho rfl 3 (by decide) hlink (fun _ h => h) rfl (ty := .long) (by decide +kernel) rfl rfl (Nat.le_of_ble_eq_true rfl) (hFpul ha hF) (fun H' h' => Or.inr ⟨0, ?_⟩) hdg (fun H1 locs1 hT1 => kk H1 locs1 _ rfl hT1)
  rw [show zT σ a = 2 from ha]
  refine ⟨h', ⟨(hT.P ha (by decide)).1, (hT.P ha (by decide)).2.1, (hT.P ha (by decide)).2.2.1, (hT.P ha (by decide)).2.2.2⟩, ?_, fun q => absurd q (by decide)⟩
  obtain ⟨x8, -, -, h8, -⟩ := hT.at ha (by decide)
  exact h8
theorem pf2_4 {v : Int64} (hx : p.tables.exec = Jvm.exec) (hb : c.code = cc) (hg : ∀ w ∈ GW, w.before args s = true) (hown : s.vm.findClass own = some m.cls) (hK : va_K κ.1 vwCl (kTy κ) s) (hT : TS κ F σ0 σ s H locs) (ha : zk σ a 2) (hF : F 2 4 = true) (hlink : (Cond.fieldLink own index "LiftingSignal$Step" "rightWeight" "J").before args s = true) (hdg : decode cc pc = .ok (.putfield index, 3))
    (kk : ∀ (H1 : Heap) (locs1 : List Loc) (τ : Gh), τ = zpul σ a 4 v → TS κ F σ0 τ s H1 locs1 → W p l e R s m args below meth c H1 locs1 cells slots Q (F0 m (pc + 3) ls rest)) : W p l e R s m args below meth c H locs cells slots Q (F0 m pc ls (.long v :: .ref a :: rest)) := by
  have ho := hT.o2 ha
  refine tput (C := RX2) (T := TX2) (N := 10) hx hb hg inX2 tyX2 tyX2_ok nmX2 hown hK hT ha (by decide) ho rfl 4 (by decide) hlink (fun _ h => h) rfl (ty := .long) (by decide +kernel) rfl rfl (Nat.le_of_ble_eq_true rfl) (hFpul ha hF) (fun H' h' => Or.inr ⟨0, ?_⟩) hdg (fun H1 locs1 hT1 => kk H1 locs1 _ rfl hT1)
  rw [show zT σ a = 2 from ha]
  refine ⟨h', ⟨(hT.P ha (by decide)).1, (hT.P ha (by decide)).2.1, (hT.P ha (by decide)).2.2.1, (hT.P ha (by decide)).2.2.2⟩, ?_, fun q => absurd q (by decide)⟩
  obtain ⟨x8, -, -, h8, -⟩ := hT.at ha (by decide)
  exact h8
theorem pf2_5 {v : Int64} (hx : p.tables.exec = Jvm.exec) (hb : c.code = cc) (hg : ∀ w ∈ GW, w.before args s = true) (hown : s.vm.findClass own = some m.cls) (hK : va_K κ.1 vwCl (kTy κ) s) (hT : TS κ F σ0 σ s H locs) (ha : zk σ a 2) (hF : F 2 5 = true) (hlink : (Cond.fieldLink own index "LiftingSignal$Step" "weight" "J").before args s = true) (hdg : decode cc pc = .ok (.putfield index, 3))
    (kk : ∀ (H1 : Heap) (locs1 : List Loc) (τ : Gh), τ = zpul σ a 5 v → TS κ F σ0 τ s H1 locs1 → W p l e R s m args below meth c H1 locs1 cells slots Q (F0 m (pc + 3) ls rest)) : W p l e R s m args below meth c H locs cells slots Q (F0 m pc ls (.long v :: .ref a :: rest)) := by
  have ho := hT.o2 ha
  refine tput (C := RX2) (T := TX2) (N := 10) hx hb hg inX2 tyX2 tyX2_ok nmX2 hown hK hT ha (by decide) ho rfl 5 (by decide) hlink (fun _ h => h) rfl (ty := .long) (by decide +kernel) rfl rfl (Nat.le_of_ble_eq_true rfl) (hFpul ha hF) (fun H' h' => Or.inr ⟨0, ?_⟩) hdg (fun H1 locs1 hT1 => kk H1 locs1 _ rfl hT1)
  rw [show zT σ a = 2 from ha]
  refine ⟨h', ⟨(hT.P ha (by decide)).1, (hT.P ha (by decide)).2.1, (hT.P ha (by decide)).2.2.1, (hT.P ha (by decide)).2.2.2⟩, ?_, fun q => absurd q (by decide)⟩
  obtain ⟨x8, -, -, h8, -⟩ := hT.at ha (by decide)
  exact h8
theorem pf2_6 {v : Int64} (hx : p.tables.exec = Jvm.exec) (hb : c.code = cc) (hg : ∀ w ∈ GW, w.before args s = true) (hown : s.vm.findClass own = some m.cls) (hK : va_K κ.1 vwCl (kTy κ) s) (hT : TS κ F σ0 σ s H locs) (ha : zk σ a 2) (hF : F 2 6 = true) (hlink : (Cond.fieldLink own index "LiftingSignal$Step" "share" "J").before args s = true) (hdg : decode cc pc = .ok (.putfield index, 3))
    (kk : ∀ (H1 : Heap) (locs1 : List Loc) (τ : Gh), τ = zpul σ a 6 v → TS κ F σ0 τ s H1 locs1 → W p l e R s m args below meth c H1 locs1 cells slots Q (F0 m (pc + 3) ls rest)) : W p l e R s m args below meth c H locs cells slots Q (F0 m pc ls (.long v :: .ref a :: rest)) := by
  have ho := hT.o2 ha
  refine tput (C := RX2) (T := TX2) (N := 10) hx hb hg inX2 tyX2 tyX2_ok nmX2 hown hK hT ha (by decide) ho rfl 6 (by decide) hlink (fun _ h => h) rfl (ty := .long) (by decide +kernel) rfl rfl (Nat.le_of_ble_eq_true rfl) (hFpul ha hF) (fun H' h' => Or.inr ⟨0, ?_⟩) hdg (fun H1 locs1 hT1 => kk H1 locs1 _ rfl hT1)
  rw [show zT σ a = 2 from ha]
  refine ⟨h', ⟨(hT.P ha (by decide)).1, (hT.P ha (by decide)).2.1, (hT.P ha (by decide)).2.2.1, (hT.P ha (by decide)).2.2.2⟩, ?_, fun q => absurd q (by decide)⟩
  obtain ⟨x8, -, -, h8, -⟩ := hT.at ha (by decide)
  exact h8
theorem pf2_7 {v : Int32} (hx : p.tables.exec = Jvm.exec) (hb : c.code = cc) (hg : ∀ w ∈ GW, w.before args s = true) (hown : s.vm.findClass own = some m.cls) (hK : va_K κ.1 vwCl (kTy κ) s) (hT : TS κ F σ0 σ s H locs) (ha : zk σ a 2) (hF : F 2 7 = true) (hlink : (Cond.fieldLink own index "LiftingSignal$Step" "predict" "I").before args s = true) (hdg : decode cc pc = .ok (.putfield index, 3))
    (kk : ∀ (H1 : Heap) (locs1 : List Loc) (τ : Gh), τ = zput σ a 7 v → TS κ F σ0 τ s H1 locs1 → W p l e R s m args below meth c H1 locs1 cells slots Q (F0 m (pc + 3) ls rest)) : W p l e R s m args below meth c H locs cells slots Q (F0 m pc ls (.int v :: .ref a :: rest)) := by
  have ho := hT.o2 ha
  refine tput (C := RX2) (T := TX2) (N := 10) hx hb hg inX2 tyX2 tyX2_ok nmX2 hown hK hT ha (by decide) ho rfl 7 (by decide) hlink (fun _ h => h) rfl (ty := .int) (by decide +kernel) rfl rfl (Nat.le_of_ble_eq_true rfl) (hFput ha hF) (fun H' h' => Or.inr ⟨0, ?_⟩) hdg (fun H1 locs1 hT1 => kk H1 locs1 _ rfl hT1)
  rw [show zT σ a = 2 from ha]
  refine ⟨h', ⟨(hT.P ha (by decide)).1, (hT.P ha (by decide)).2.1, (hT.P ha (by decide)).2.2.1, (hT.P ha (by decide)).2.2.2⟩, ?_, fun q => absurd q (by decide)⟩
  obtain ⟨x8, -, -, h8, -⟩ := hT.at ha (by decide)
  exact h8
theorem pf2_8 {v : Int32} (hx : p.tables.exec = Jvm.exec) (hb : c.code = cc) (hg : ∀ w ∈ GW, w.before args s = true) (hown : s.vm.findClass own = some m.cls) (hK : va_K κ.1 vwCl (kTy κ) s) (hT : TS κ F σ0 σ s H locs) (ha : zk σ a 2) (hF : F 2 8 = true) (h9 : isB v) (hlink : (Cond.fieldLink own index "LiftingSignal$Step" "isKeep" "Z").before args s = true) (hdg : decode cc pc = .ok (.putfield index, 3))
    (kk : ∀ (H1 : Heap) (locs1 : List Loc) (τ : Gh), τ = zput σ a 8 v → TS κ F σ0 τ s H1 locs1 → W p l e R s m args below meth c H1 locs1 cells slots Q (F0 m (pc + 3) ls rest)) : W p l e R s m args below meth c H locs cells slots Q (F0 m pc ls (.int v :: .ref a :: rest)) := by
  have ho := hT.o2 ha
  refine tput (C := RX2) (T := TX2) (N := 10) hx hb hg inX2 tyX2 tyX2_ok nmX2 hown hK hT ha (by decide) ho rfl 8 (by decide) hlink (fun _ h => h) rfl (ty := .boolean) (by decide +kernel) (isB_n h9) (isB_f h9) (Nat.le_of_ble_eq_true rfl) (hFput ha hF) (fun H' h' => Or.inr ⟨0, ?_⟩) hdg (fun H1 locs1 hT1 => kk H1 locs1 _ rfl hT1)
  rw [show zT σ a = 2 from ha]
  refine ⟨h', ⟨(hT.P ha (by decide)).1, (hT.P ha (by decide)).2.1, (hT.P ha (by decide)).2.2.1, h9⟩, ?_, fun q => absurd q (by decide)⟩
  obtain ⟨x8, -, -, h8, -⟩ := hT.at ha (by decide)
  exact h8
theorem pf3_5 {v : Int32} (hx : p.tables.exec = Jvm.exec) (hb : c.code = cc) (hg : ∀ w ∈ GW, w.before args s = true) (hown : s.vm.findClass own = some m.cls) (hK : va_K κ.1 vwCl (kTy κ) s) (hT : TS κ F σ0 σ s H locs) (ha : zk σ a 3) (hF : F 3 5 = true) (h9 : zB v 0 46) (hlink : (Cond.fieldLink own index "LiftingSignal$State" "stepCount" "I").before args s = true) (hdg : decode cc pc = .ok (.putfield index, 3))
    (kk : ∀ (H1 : Heap) (locs1 : List Loc) (τ : Gh), τ = zput σ a 5 v → TS κ F σ0 τ s H1 locs1 → W p l e R s m args below meth c H1 locs1 cells slots Q (F0 m (pc + 3) ls rest)) : W p l e R s m args below meth c H locs cells slots Q (F0 m pc ls (.int v :: .ref a :: rest)) := by
  have ho := hT.o3 ha
  refine tput (C := RX1) (T := TX1) (N := 13) hx hb hg inX1 tyX1 tyX1_ok nmX1 hown hK hT ha (by decide) ho rfl 5 (by decide) hlink (fun _ h => h) rfl (ty := .int) (by decide +kernel) rfl rfl (Nat.le_of_ble_eq_true rfl) (hFput ha hF) (fun H' h' => Or.inr ⟨0, ?_⟩) hdg (fun H1 locs1 hT1 => kk H1 locs1 _ rfl hT1)
  rw [show zT σ a = 3 from ha]
  refine ⟨h', ⟨h9, (hT.P ha (by decide)).2⟩, ?_, fun q => absurd q (by decide)⟩
  obtain ⟨x8, -, -, h8, -⟩ := hT.at ha (by decide)
  exact h8
theorem pf3_7 {v : Int32} (hx : p.tables.exec = Jvm.exec) (hb : c.code = cc) (hg : ∀ w ∈ GW, w.before args s = true) (hown : s.vm.findClass own = some m.cls) (hK : va_K κ.1 vwCl (kTy κ) s) (hT : TS κ F σ0 σ s H locs) (ha : zk σ a 3) (hF : F 3 7 = true) (hlink : (Cond.fieldLink own index "LiftingSignal$State" "split" "I").before args s = true) (hdg : decode cc pc = .ok (.putfield index, 3))
    (kk : ∀ (H1 : Heap) (locs1 : List Loc) (τ : Gh), τ = zput σ a 7 v → TS κ F σ0 τ s H1 locs1 → W p l e R s m args below meth c H1 locs1 cells slots Q (F0 m (pc + 3) ls rest)) : W p l e R s m args below meth c H locs cells slots Q (F0 m pc ls (.int v :: .ref a :: rest)) := by
  have ho := hT.o3 ha
  refine tput (C := RX1) (T := TX1) (N := 13) hx hb hg inX1 tyX1 tyX1_ok nmX1 hown hK hT ha (by decide) ho rfl 7 (by decide) hlink (fun _ h => h) rfl (ty := .int) (by decide +kernel) rfl rfl (Nat.le_of_ble_eq_true rfl) (hFput ha hF) (fun H' h' => Or.inr ⟨0, ?_⟩) hdg (fun H1 locs1 hT1 => kk H1 locs1 _ rfl hT1)
  rw [show zT σ a = 3 from ha]
  refine ⟨h', ⟨(hT.P ha (by decide)).1, (hT.P ha (by decide)).2⟩, ?_, fun q => absurd q (by decide)⟩
  obtain ⟨x8, -, -, h8, -⟩ := hT.at ha (by decide)
  exact h8
theorem pf3_8 {v : Int32} (hx : p.tables.exec = Jvm.exec) (hb : c.code = cc) (hg : ∀ w ∈ GW, w.before args s = true) (hown : s.vm.findClass own = some m.cls) (hK : va_K κ.1 vwCl (kTy κ) s) (hT : TS κ F σ0 σ s H locs) (ha : zk σ a 3) (hF : F 3 8 = true) (hlink : (Cond.fieldLink own index "LiftingSignal$State" "predict" "I").before args s = true) (hdg : decode cc pc = .ok (.putfield index, 3))
    (kk : ∀ (H1 : Heap) (locs1 : List Loc) (τ : Gh), τ = zput σ a 8 v → TS κ F σ0 τ s H1 locs1 → W p l e R s m args below meth c H1 locs1 cells slots Q (F0 m (pc + 3) ls rest)) : W p l e R s m args below meth c H locs cells slots Q (F0 m pc ls (.int v :: .ref a :: rest)) := by
  have ho := hT.o3 ha
  refine tput (C := RX1) (T := TX1) (N := 13) hx hb hg inX1 tyX1 tyX1_ok nmX1 hown hK hT ha (by decide) ho rfl 8 (by decide) hlink (fun _ h => h) rfl (ty := .int) (by decide +kernel) rfl rfl (Nat.le_of_ble_eq_true rfl) (hFput ha hF) (fun H' h' => Or.inr ⟨0, ?_⟩) hdg (fun H1 locs1 hT1 => kk H1 locs1 _ rfl hT1)
  rw [show zT σ a = 3 from ha]
  refine ⟨h', ⟨(hT.P ha (by decide)).1, (hT.P ha (by decide)).2⟩, ?_, fun q => absurd q (by decide)⟩
  obtain ⟨x8, -, -, h8, -⟩ := hT.at ha (by decide)
  exact h8
theorem pf3_9 {v : Int32} (hx : p.tables.exec = Jvm.exec) (hb : c.code = cc) (hg : ∀ w ∈ GW, w.before args s = true) (hown : s.vm.findClass own = some m.cls) (hK : va_K κ.1 vwCl (kTy κ) s) (hT : TS κ F σ0 σ s H locs) (ha : zk σ a 3) (hF : F 3 9 = true) (h9 : isB v) (hlink : (Cond.fieldLink own index "LiftingSignal$State" "isKeep" "Z").before args s = true) (hdg : decode cc pc = .ok (.putfield index, 3))
    (kk : ∀ (H1 : Heap) (locs1 : List Loc) (τ : Gh), τ = zput σ a 9 v → TS κ F σ0 τ s H1 locs1 → W p l e R s m args below meth c H1 locs1 cells slots Q (F0 m (pc + 3) ls rest)) : W p l e R s m args below meth c H locs cells slots Q (F0 m pc ls (.int v :: .ref a :: rest)) := by
  have ho := hT.o3 ha
  refine tput (C := RX1) (T := TX1) (N := 13) hx hb hg inX1 tyX1 tyX1_ok nmX1 hown hK hT ha (by decide) ho rfl 9 (by decide) hlink (fun _ h => h) rfl (ty := .boolean) (by decide +kernel) (isB_n h9) (isB_f h9) (Nat.le_of_ble_eq_true rfl) (hFput ha hF) (fun H' h' => Or.inr ⟨0, ?_⟩) hdg (fun H1 locs1 hT1 => kk H1 locs1 _ rfl hT1)
  rw [show zT σ a = 3 from ha]
  refine ⟨h', ⟨(hT.P ha (by decide)).1, h9⟩, ?_, fun q => absurd q (by decide)⟩
  obtain ⟨x8, -, -, h8, -⟩ := hT.at ha (by decide)
  exact h8
theorem pf4_2 {v : Int32} (hx : p.tables.exec = Jvm.exec) (hb : c.code = cc) (hg : ∀ w ∈ GW, w.before args s = true) (hown : s.vm.findClass own = some m.cls) (hK : va_K κ.1 vwCl (kTy κ) s) (hT : TS κ F σ0 σ s H locs) (ha : zk σ a 4) (hF : F 4 2 = true) (h9 : zB v 2 48) (hlink : (Cond.fieldLink own index "LiftingSignal$Source" "count" "I").before args s = true) (hdg : decode cc pc = .ok (.putfield index, 3))
    (kk : ∀ (H1 : Heap) (locs1 : List Loc) (τ : Gh), τ = zput σ a 2 v → TS κ F σ0 τ s H1 locs1 → W p l e R s m args below meth c H1 locs1 cells slots Q (F0 m (pc + 3) ls rest)) : W p l e R s m args below meth c H locs cells slots Q (F0 m pc ls (.int v :: .ref a :: rest)) := by
  have ho := hT.o4 ha
  refine tput (C := RX0) (T := TX0) (N := 7) hx hb hg inX0 tyX0 tyX0_ok nmX0 hown hK hT ha (by decide) ho rfl 2 (by decide) hlink (fun _ h => h) rfl (ty := .int) (by decide +kernel) rfl rfl (Nat.le_of_ble_eq_true rfl) (hFput ha hF) (fun H' h' => Or.inr ⟨0, ?_⟩) hdg (fun H1 locs1 hT1 => kk H1 locs1 _ rfl hT1)
  rw [show zT σ a = 4 from ha]
  refine ⟨h', ⟨h9, (hT.P ha (by decide)).2⟩, ?_, fun q => absurd q (by decide)⟩
  obtain ⟨x8, -, -, h8, -⟩ := hT.at ha (by decide)
  exact h8
theorem pf4_3 {v : Int32} (hx : p.tables.exec = Jvm.exec) (hb : c.code = cc) (hg : ∀ w ∈ GW, w.before args s = true) (hown : s.vm.findClass own = some m.cls) (hK : va_K κ.1 vwCl (kTy κ) s) (hT : TS κ F σ0 σ s H locs) (ha : zk σ a 4) (hF : F 4 3 = true) (hlink : (Cond.fieldLink own index "LiftingSignal$Source" "split" "I").before args s = true) (hdg : decode cc pc = .ok (.putfield index, 3))
    (kk : ∀ (H1 : Heap) (locs1 : List Loc) (τ : Gh), τ = zput σ a 3 v → TS κ F σ0 τ s H1 locs1 → W p l e R s m args below meth c H1 locs1 cells slots Q (F0 m (pc + 3) ls rest)) : W p l e R s m args below meth c H locs cells slots Q (F0 m pc ls (.int v :: .ref a :: rest)) := by
  have ho := hT.o4 ha
  refine tput (C := RX0) (T := TX0) (N := 7) hx hb hg inX0 tyX0 tyX0_ok nmX0 hown hK hT ha (by decide) ho rfl 3 (by decide) hlink (fun _ h => h) rfl (ty := .int) (by decide +kernel) rfl rfl (Nat.le_of_ble_eq_true rfl) (hFput ha hF) (fun H' h' => Or.inr ⟨0, ?_⟩) hdg (fun H1 locs1 hT1 => kk H1 locs1 _ rfl hT1)
  rw [show zT σ a = 4 from ha]
  refine ⟨h', ⟨(hT.P ha (by decide)).1, (hT.P ha (by decide)).2⟩, ?_, fun q => absurd q (by decide)⟩
  obtain ⟨x8, -, -, h8, -⟩ := hT.at ha (by decide)
  exact h8
theorem pf4_4 {v : Int32} (hx : p.tables.exec = Jvm.exec) (hb : c.code = cc) (hg : ∀ w ∈ GW, w.before args s = true) (hown : s.vm.findClass own = some m.cls) (hK : va_K κ.1 vwCl (kTy κ) s) (hT : TS κ F σ0 σ s H locs) (ha : zk σ a 4) (hF : F 4 4 = true) (hlink : (Cond.fieldLink own index "LiftingSignal$Source" "predict" "I").before args s = true) (hdg : decode cc pc = .ok (.putfield index, 3))
    (kk : ∀ (H1 : Heap) (locs1 : List Loc) (τ : Gh), τ = zput σ a 4 v → TS κ F σ0 τ s H1 locs1 → W p l e R s m args below meth c H1 locs1 cells slots Q (F0 m (pc + 3) ls rest)) : W p l e R s m args below meth c H locs cells slots Q (F0 m pc ls (.int v :: .ref a :: rest)) := by
  have ho := hT.o4 ha
  refine tput (C := RX0) (T := TX0) (N := 7) hx hb hg inX0 tyX0 tyX0_ok nmX0 hown hK hT ha (by decide) ho rfl 4 (by decide) hlink (fun _ h => h) rfl (ty := .int) (by decide +kernel) rfl rfl (Nat.le_of_ble_eq_true rfl) (hFput ha hF) (fun H' h' => Or.inr ⟨0, ?_⟩) hdg (fun H1 locs1 hT1 => kk H1 locs1 _ rfl hT1)
  rw [show zT σ a = 4 from ha]
  refine ⟨h', ⟨(hT.P ha (by decide)).1, (hT.P ha (by decide)).2⟩, ?_, fun q => absurd q (by decide)⟩
  obtain ⟨x8, -, -, h8, -⟩ := hT.at ha (by decide)
  exact h8
theorem pf4_5 {v : Int32} (hx : p.tables.exec = Jvm.exec) (hb : c.code = cc) (hg : ∀ w ∈ GW, w.before args s = true) (hown : s.vm.findClass own = some m.cls) (hK : va_K κ.1 vwCl (kTy κ) s) (hT : TS κ F σ0 σ s H locs) (ha : zk σ a 4) (hF : F 4 5 = true) (h9 : isB v) (hlink : (Cond.fieldLink own index "LiftingSignal$Source" "isKeep" "Z").before args s = true) (hdg : decode cc pc = .ok (.putfield index, 3))
    (kk : ∀ (H1 : Heap) (locs1 : List Loc) (τ : Gh), τ = zput σ a 5 v → TS κ F σ0 τ s H1 locs1 → W p l e R s m args below meth c H1 locs1 cells slots Q (F0 m (pc + 3) ls rest)) : W p l e R s m args below meth c H locs cells slots Q (F0 m pc ls (.int v :: .ref a :: rest)) := by
  have ho := hT.o4 ha
  refine tput (C := RX0) (T := TX0) (N := 7) hx hb hg inX0 tyX0 tyX0_ok nmX0 hown hK hT ha (by decide) ho rfl 5 (by decide) hlink (fun _ h => h) rfl (ty := .boolean) (by decide +kernel) (isB_n h9) (isB_f h9) (Nat.le_of_ble_eq_true rfl) (hFput ha hF) (fun H' h' => Or.inr ⟨0, ?_⟩) hdg (fun H1 locs1 hT1 => kk H1 locs1 _ rfl hT1)
  rw [show zT σ a = 4 from ha]
  refine ⟨h', ⟨(hT.P ha (by decide)).1, h9⟩, ?_, fun q => absurd q (by decide)⟩
  obtain ⟨x8, -, -, h8, -⟩ := hT.at ha (by decide)
  exact h8
theorem pf4_6 {v : Int32} (hx : p.tables.exec = Jvm.exec) (hb : c.code = cc) (hg : ∀ w ∈ GW, w.before args s = true) (hown : s.vm.findClass own = some m.cls) (hK : va_K κ.1 vwCl (kTy κ) s) (hT : TS κ F σ0 σ s H locs) (ha : zk σ a 4) (hF : F 4 6 = true) (hlink : (Cond.fieldLink own index "LiftingSignal$Source" "least" "I").before args s = true) (hdg : decode cc pc = .ok (.putfield index, 3))
    (kk : ∀ (H1 : Heap) (locs1 : List Loc) (τ : Gh), τ = zput σ a 6 v → TS κ F σ0 τ s H1 locs1 → W p l e R s m args below meth c H1 locs1 cells slots Q (F0 m (pc + 3) ls rest)) : W p l e R s m args below meth c H locs cells slots Q (F0 m pc ls (.int v :: .ref a :: rest)) := by
  have ho := hT.o4 ha
  refine tput (C := RX0) (T := TX0) (N := 7) hx hb hg inX0 tyX0 tyX0_ok nmX0 hown hK hT ha (by decide) ho rfl 6 (by decide) hlink (fun _ h => h) rfl (ty := .int) (by decide +kernel) rfl rfl (Nat.le_of_ble_eq_true rfl) (hFput ha hF) (fun H' h' => Or.inr ⟨0, ?_⟩) hdg (fun H1 locs1 hT1 => kk H1 locs1 _ rfl hT1)
  rw [show zT σ a = 4 from ha]
  refine ⟨h', ⟨(hT.P ha (by decide)).1, (hT.P ha (by decide)).2⟩, ?_, fun q => absurd q (by decide)⟩
  obtain ⟨x8, -, -, h8, -⟩ := hT.at ha (by decide)
  exact h8
theorem pf5_2 {v : Int32} (hx : p.tables.exec = Jvm.exec) (hb : c.code = cc) (hg : ∀ w ∈ GW, w.before args s = true) (hown : s.vm.findClass own = some m.cls) (hK : va_K κ.1 vwCl (kTy κ) s) (hT : TS κ F σ0 σ s H locs) (ha : zk σ a 5) (hF : F 5 2 = true) (h9 : zB v 0 48) (hlink : (Cond.fieldLink own index "LiftingSignal$Source" "count" "I").before args s = true) (hdg : decode cc pc = .ok (.putfield index, 3))
    (kk : ∀ (H1 : Heap) (locs1 : List Loc) (τ : Gh), τ = zput σ a 2 v → TS κ F σ0 τ s H1 locs1 → W p l e R s m args below meth c H1 locs1 cells slots Q (F0 m (pc + 3) ls rest)) : W p l e R s m args below meth c H locs cells slots Q (F0 m pc ls (.int v :: .ref a :: rest)) := by
  have ho := hT.o5 ha
  refine tput (C := RX0) (T := TX0) (N := 7) hx hb hg inX0 tyX0 tyX0_ok nmX0 hown hK hT ha (by decide) ho rfl 2 (by decide) hlink (fun _ h => h) rfl (ty := .int) (by decide +kernel) rfl rfl (Nat.le_of_ble_eq_true rfl) (hFput ha hF) (fun H' h' => Or.inr ⟨0, ?_⟩) hdg (fun H1 locs1 hT1 => kk H1 locs1 _ rfl hT1)
  rw [show zT σ a = 5 from ha]
  refine ⟨h', ⟨h9, (hT.P ha (by decide)).2⟩, ?_, fun q => absurd q (by decide)⟩
  obtain ⟨x8, -, -, h8, -⟩ := hT.at ha (by decide)
  exact h8
theorem pf5_3 {v : Int32} (hx : p.tables.exec = Jvm.exec) (hb : c.code = cc) (hg : ∀ w ∈ GW, w.before args s = true) (hown : s.vm.findClass own = some m.cls) (hK : va_K κ.1 vwCl (kTy κ) s) (hT : TS κ F σ0 σ s H locs) (ha : zk σ a 5) (hF : F 5 3 = true) (hlink : (Cond.fieldLink own index "LiftingSignal$Source" "split" "I").before args s = true) (hdg : decode cc pc = .ok (.putfield index, 3))
    (kk : ∀ (H1 : Heap) (locs1 : List Loc) (τ : Gh), τ = zput σ a 3 v → TS κ F σ0 τ s H1 locs1 → W p l e R s m args below meth c H1 locs1 cells slots Q (F0 m (pc + 3) ls rest)) : W p l e R s m args below meth c H locs cells slots Q (F0 m pc ls (.int v :: .ref a :: rest)) := by
  have ho := hT.o5 ha
  refine tput (C := RX0) (T := TX0) (N := 7) hx hb hg inX0 tyX0 tyX0_ok nmX0 hown hK hT ha (by decide) ho rfl 3 (by decide) hlink (fun _ h => h) rfl (ty := .int) (by decide +kernel) rfl rfl (Nat.le_of_ble_eq_true rfl) (hFput ha hF) (fun H' h' => Or.inr ⟨0, ?_⟩) hdg (fun H1 locs1 hT1 => kk H1 locs1 _ rfl hT1)
  rw [show zT σ a = 5 from ha]
  refine ⟨h', ⟨(hT.P ha (by decide)).1, (hT.P ha (by decide)).2⟩, ?_, fun q => absurd q (by decide)⟩
  obtain ⟨x8, -, -, h8, -⟩ := hT.at ha (by decide)
  exact h8
theorem pf5_4 {v : Int32} (hx : p.tables.exec = Jvm.exec) (hb : c.code = cc) (hg : ∀ w ∈ GW, w.before args s = true) (hown : s.vm.findClass own = some m.cls) (hK : va_K κ.1 vwCl (kTy κ) s) (hT : TS κ F σ0 σ s H locs) (ha : zk σ a 5) (hF : F 5 4 = true) (hlink : (Cond.fieldLink own index "LiftingSignal$Source" "predict" "I").before args s = true) (hdg : decode cc pc = .ok (.putfield index, 3))
    (kk : ∀ (H1 : Heap) (locs1 : List Loc) (τ : Gh), τ = zput σ a 4 v → TS κ F σ0 τ s H1 locs1 → W p l e R s m args below meth c H1 locs1 cells slots Q (F0 m (pc + 3) ls rest)) : W p l e R s m args below meth c H locs cells slots Q (F0 m pc ls (.int v :: .ref a :: rest)) := by
  have ho := hT.o5 ha
  refine tput (C := RX0) (T := TX0) (N := 7) hx hb hg inX0 tyX0 tyX0_ok nmX0 hown hK hT ha (by decide) ho rfl 4 (by decide) hlink (fun _ h => h) rfl (ty := .int) (by decide +kernel) rfl rfl (Nat.le_of_ble_eq_true rfl) (hFput ha hF) (fun H' h' => Or.inr ⟨0, ?_⟩) hdg (fun H1 locs1 hT1 => kk H1 locs1 _ rfl hT1)
  rw [show zT σ a = 5 from ha]
  refine ⟨h', ⟨(hT.P ha (by decide)).1, (hT.P ha (by decide)).2⟩, ?_, fun q => absurd q (by decide)⟩
  obtain ⟨x8, -, -, h8, -⟩ := hT.at ha (by decide)
  exact h8
theorem pf5_5 {v : Int32} (hx : p.tables.exec = Jvm.exec) (hb : c.code = cc) (hg : ∀ w ∈ GW, w.before args s = true) (hown : s.vm.findClass own = some m.cls) (hK : va_K κ.1 vwCl (kTy κ) s) (hT : TS κ F σ0 σ s H locs) (ha : zk σ a 5) (hF : F 5 5 = true) (h9 : isB v) (hlink : (Cond.fieldLink own index "LiftingSignal$Source" "isKeep" "Z").before args s = true) (hdg : decode cc pc = .ok (.putfield index, 3))
    (kk : ∀ (H1 : Heap) (locs1 : List Loc) (τ : Gh), τ = zput σ a 5 v → TS κ F σ0 τ s H1 locs1 → W p l e R s m args below meth c H1 locs1 cells slots Q (F0 m (pc + 3) ls rest)) : W p l e R s m args below meth c H locs cells slots Q (F0 m pc ls (.int v :: .ref a :: rest)) := by
  have ho := hT.o5 ha
  refine tput (C := RX0) (T := TX0) (N := 7) hx hb hg inX0 tyX0 tyX0_ok nmX0 hown hK hT ha (by decide) ho rfl 5 (by decide) hlink (fun _ h => h) rfl (ty := .boolean) (by decide +kernel) (isB_n h9) (isB_f h9) (Nat.le_of_ble_eq_true rfl) (hFput ha hF) (fun H' h' => Or.inr ⟨0, ?_⟩) hdg (fun H1 locs1 hT1 => kk H1 locs1 _ rfl hT1)
  rw [show zT σ a = 5 from ha]
  refine ⟨h', ⟨(hT.P ha (by decide)).1, h9⟩, ?_, fun q => absurd q (by decide)⟩
  obtain ⟨x8, -, -, h8, -⟩ := hT.at ha (by decide)
  exact h8
theorem pf5_6 {v : Int32} (hx : p.tables.exec = Jvm.exec) (hb : c.code = cc) (hg : ∀ w ∈ GW, w.before args s = true) (hown : s.vm.findClass own = some m.cls) (hK : va_K κ.1 vwCl (kTy κ) s) (hT : TS κ F σ0 σ s H locs) (ha : zk σ a 5) (hF : F 5 6 = true) (hlink : (Cond.fieldLink own index "LiftingSignal$Source" "least" "I").before args s = true) (hdg : decode cc pc = .ok (.putfield index, 3))
    (kk : ∀ (H1 : Heap) (locs1 : List Loc) (τ : Gh), τ = zput σ a 6 v → TS κ F σ0 τ s H1 locs1 → W p l e R s m args below meth c H1 locs1 cells slots Q (F0 m (pc + 3) ls rest)) : W p l e R s m args below meth c H locs cells slots Q (F0 m pc ls (.int v :: .ref a :: rest)) := by
  have ho := hT.o5 ha
  refine tput (C := RX0) (T := TX0) (N := 7) hx hb hg inX0 tyX0 tyX0_ok nmX0 hown hK hT ha (by decide) ho rfl 6 (by decide) hlink (fun _ h => h) rfl (ty := .int) (by decide +kernel) rfl rfl (Nat.le_of_ble_eq_true rfl) (hFput ha hF) (fun H' h' => Or.inr ⟨0, ?_⟩) hdg (fun H1 locs1 hT1 => kk H1 locs1 _ rfl hT1)
  rw [show zT σ a = 5 from ha]
  refine ⟨h', ⟨(hT.P ha (by decide)).1, (hT.P ha (by decide)).2⟩, ?_, fun q => absurd q (by decide)⟩
  obtain ⟨x8, -, -, h8, -⟩ := hT.at ha (by decide)
  exact h8
theorem pf6_1 {v : Int32} (hx : p.tables.exec = Jvm.exec) (hb : c.code = cc) (hg : ∀ w ∈ GW, w.before args s = true) (hown : s.vm.findClass own = some m.cls) (hK : va_K κ.1 vwCl (kTy κ) s) (hT : TS κ F σ0 σ s H locs) (ha : zk σ a 6) (hF : F 6 1 = true) (h9 : zB v 0 700) (hlink : (Cond.fieldLink own index "LiftingSignal$Text" "length" "I").before args s = true) (hdg : decode cc pc = .ok (.putfield index, 3))
    (kk : ∀ (H1 : Heap) (locs1 : List Loc) (τ : Gh), τ = zput σ a 1 v → TS κ F σ0 τ s H1 locs1 → W p l e R s m args below meth c H1 locs1 cells slots Q (F0 m (pc + 3) ls rest)) : W p l e R s m args below meth c H locs cells slots Q (F0 m pc ls (.int v :: .ref a :: rest)) := by
  have ho := hT.o6 ha
  refine tput (C := RX3) (T := TX3) (N := 8) hx hb hg inX3 tyX3 tyX3_ok nmX3 hown hK hT ha (by decide) ho rfl 1 (by decide) hlink (fun _ h => h) rfl (ty := .int) (by decide +kernel) rfl rfl (Nat.le_of_ble_eq_true rfl) (hFput ha hF) (fun H' h' => Or.inr ⟨0, ?_⟩) hdg (fun H1 locs1 hT1 => kk H1 locs1 _ rfl hT1)
  rw [show zT σ a = 6 from ha]
  refine ⟨h', ⟨h9, (hT.P ha (by decide)).2.1, (hT.P ha (by decide)).2.2⟩, ?_, fun q => absurd q (by decide)⟩
  obtain ⟨x8, -, -, h8, -⟩ := hT.at ha (by decide)
  exact h8
theorem pf6_2 {v : Int32} (hx : p.tables.exec = Jvm.exec) (hb : c.code = cc) (hg : ∀ w ∈ GW, w.before args s = true) (hown : s.vm.findClass own = some m.cls) (hK : va_K κ.1 vwCl (kTy κ) s) (hT : TS κ F σ0 σ s H locs) (ha : zk σ a 6) (hF : F 6 2 = true) (hlink : (Cond.fieldLink own index "LiftingSignal$Text" "errorCode" "I").before args s = true) (hdg : decode cc pc = .ok (.putfield index, 3))
    (kk : ∀ (H1 : Heap) (locs1 : List Loc) (τ : Gh), τ = zput σ a 2 v → TS κ F σ0 τ s H1 locs1 → W p l e R s m args below meth c H1 locs1 cells slots Q (F0 m (pc + 3) ls rest)) : W p l e R s m args below meth c H locs cells slots Q (F0 m pc ls (.int v :: .ref a :: rest)) := by
  have ho := hT.o6 ha
  refine tput (C := RX3) (T := TX3) (N := 8) hx hb hg inX3 tyX3 tyX3_ok nmX3 hown hK hT ha (by decide) ho rfl 2 (by decide) hlink (fun _ h => h) rfl (ty := .int) (by decide +kernel) rfl rfl (Nat.le_of_ble_eq_true rfl) (hFput ha hF) (fun H' h' => Or.inr ⟨0, ?_⟩) hdg (fun H1 locs1 hT1 => kk H1 locs1 _ rfl hT1)
  rw [show zT σ a = 6 from ha]
  refine ⟨h', ⟨(hT.P ha (by decide)).1, (hT.P ha (by decide)).2.1, (hT.P ha (by decide)).2.2⟩, ?_, fun q => absurd q (by decide)⟩
  obtain ⟨x8, -, -, h8, -⟩ := hT.at ha (by decide)
  exact h8
theorem pf6_3 {v : Int32} (hx : p.tables.exec = Jvm.exec) (hb : c.code = cc) (hg : ∀ w ∈ GW, w.before args s = true) (hown : s.vm.findClass own = some m.cls) (hK : va_K κ.1 vwCl (kTy κ) s) (hT : TS κ F σ0 σ s H locs) (ha : zk σ a 6) (hF : F 6 3 = true) (hlink : (Cond.fieldLink own index "LiftingSignal$Text" "errorPosition" "I").before args s = true) (hdg : decode cc pc = .ok (.putfield index, 3))
    (kk : ∀ (H1 : Heap) (locs1 : List Loc) (τ : Gh), τ = zput σ a 3 v → TS κ F σ0 τ s H1 locs1 → W p l e R s m args below meth c H1 locs1 cells slots Q (F0 m (pc + 3) ls rest)) : W p l e R s m args below meth c H locs cells slots Q (F0 m pc ls (.int v :: .ref a :: rest)) := by
  have ho := hT.o6 ha
  refine tput (C := RX3) (T := TX3) (N := 8) hx hb hg inX3 tyX3 tyX3_ok nmX3 hown hK hT ha (by decide) ho rfl 3 (by decide) hlink (fun _ h => h) rfl (ty := .int) (by decide +kernel) rfl rfl (Nat.le_of_ble_eq_true rfl) (hFput ha hF) (fun H' h' => Or.inr ⟨0, ?_⟩) hdg (fun H1 locs1 hT1 => kk H1 locs1 _ rfl hT1)
  rw [show zT σ a = 6 from ha]
  refine ⟨h', ⟨(hT.P ha (by decide)).1, (hT.P ha (by decide)).2.1, (hT.P ha (by decide)).2.2⟩, ?_, fun q => absurd q (by decide)⟩
  obtain ⟨x8, -, -, h8, -⟩ := hT.at ha (by decide)
  exact h8
theorem pf6_4 {v : Int32} (hx : p.tables.exec = Jvm.exec) (hb : c.code = cc) (hg : ∀ w ∈ GW, w.before args s = true) (hown : s.vm.findClass own = some m.cls) (hK : va_K κ.1 vwCl (kTy κ) s) (hT : TS κ F σ0 σ s H locs) (ha : zk σ a 6) (hF : F 6 4 = true) (hlink : (Cond.fieldLink own index "LiftingSignal$Text" "kind" "I").before args s = true) (hdg : decode cc pc = .ok (.putfield index, 3))
    (kk : ∀ (H1 : Heap) (locs1 : List Loc) (τ : Gh), τ = zput σ a 4 v → TS κ F σ0 τ s H1 locs1 → W p l e R s m args below meth c H1 locs1 cells slots Q (F0 m (pc + 3) ls rest)) : W p l e R s m args below meth c H locs cells slots Q (F0 m pc ls (.int v :: .ref a :: rest)) := by
  have ho := hT.o6 ha
  refine tput (C := RX3) (T := TX3) (N := 8) hx hb hg inX3 tyX3 tyX3_ok nmX3 hown hK hT ha (by decide) ho rfl 4 (by decide) hlink (fun _ h => h) rfl (ty := .int) (by decide +kernel) rfl rfl (Nat.le_of_ble_eq_true rfl) (hFput ha hF) (fun H' h' => Or.inr ⟨0, ?_⟩) hdg (fun H1 locs1 hT1 => kk H1 locs1 _ rfl hT1)
  rw [show zT σ a = 6 from ha]
  refine ⟨h', ⟨(hT.P ha (by decide)).1, (hT.P ha (by decide)).2.1, (hT.P ha (by decide)).2.2⟩, ?_, fun q => absurd q (by decide)⟩
  obtain ⟨x8, -, -, h8, -⟩ := hT.at ha (by decide)
  exact h8
theorem pf6_5 {v : Int32} (hx : p.tables.exec = Jvm.exec) (hb : c.code = cc) (hg : ∀ w ∈ GW, w.before args s = true) (hown : s.vm.findClass own = some m.cls) (hK : va_K κ.1 vwCl (kTy κ) s) (hT : TS κ F σ0 σ s H locs) (ha : zk σ a 6) (hF : F 6 5 = true) (h9 : zB v 0 700) (hlink : (Cond.fieldLink own index "LiftingSignal$Text" "start" "I").before args s = true) (hdg : decode cc pc = .ok (.putfield index, 3))
    (kk : ∀ (H1 : Heap) (locs1 : List Loc) (τ : Gh), τ = zput σ a 5 v → TS κ F σ0 τ s H1 locs1 → W p l e R s m args below meth c H1 locs1 cells slots Q (F0 m (pc + 3) ls rest)) : W p l e R s m args below meth c H locs cells slots Q (F0 m pc ls (.int v :: .ref a :: rest)) := by
  have ho := hT.o6 ha
  refine tput (C := RX3) (T := TX3) (N := 8) hx hb hg inX3 tyX3 tyX3_ok nmX3 hown hK hT ha (by decide) ho rfl 5 (by decide) hlink (fun _ h => h) rfl (ty := .int) (by decide +kernel) rfl rfl (Nat.le_of_ble_eq_true rfl) (hFput ha hF) (fun H' h' => Or.inr ⟨0, ?_⟩) hdg (fun H1 locs1 hT1 => kk H1 locs1 _ rfl hT1)
  rw [show zT σ a = 6 from ha]
  refine ⟨h', ⟨(hT.P ha (by decide)).1, h9, (hT.P ha (by decide)).2.2⟩, ?_, fun q => absurd q (by decide)⟩
  obtain ⟨x8, -, -, h8, -⟩ := hT.at ha (by decide)
  exact h8
theorem pf6_6 {v : Int32} (hx : p.tables.exec = Jvm.exec) (hb : c.code = cc) (hg : ∀ w ∈ GW, w.before args s = true) (hown : s.vm.findClass own = some m.cls) (hK : va_K κ.1 vwCl (kTy κ) s) (hT : TS κ F σ0 σ s H locs) (ha : zk σ a 6) (hF : F 6 6 = true) (h9 : zB v 0 700) (hlink : (Cond.fieldLink own index "LiftingSignal$Text" "end" "I").before args s = true) (hdg : decode cc pc = .ok (.putfield index, 3))
    (kk : ∀ (H1 : Heap) (locs1 : List Loc) (τ : Gh), τ = zput σ a 6 v → TS κ F σ0 τ s H1 locs1 → W p l e R s m args below meth c H1 locs1 cells slots Q (F0 m (pc + 3) ls rest)) : W p l e R s m args below meth c H locs cells slots Q (F0 m pc ls (.int v :: .ref a :: rest)) := by
  have ho := hT.o6 ha
  refine tput (C := RX3) (T := TX3) (N := 8) hx hb hg inX3 tyX3 tyX3_ok nmX3 hown hK hT ha (by decide) ho rfl 6 (by decide) hlink (fun _ h => h) rfl (ty := .int) (by decide +kernel) rfl rfl (Nat.le_of_ble_eq_true rfl) (hFput ha hF) (fun H' h' => Or.inr ⟨0, ?_⟩) hdg (fun H1 locs1 hT1 => kk H1 locs1 _ rfl hT1)
  rw [show zT σ a = 6 from ha]
  refine ⟨h', ⟨(hT.P ha (by decide)).1, (hT.P ha (by decide)).2.1, h9⟩, ?_, fun q => absurd q (by decide)⟩
  obtain ⟨x8, -, -, h8, -⟩ := hT.at ha (by decide)
  exact h8
theorem pf6_7 {v : Int32} (hx : p.tables.exec = Jvm.exec) (hb : c.code = cc) (hg : ∀ w ∈ GW, w.before args s = true) (hown : s.vm.findClass own = some m.cls) (hK : va_K κ.1 vwCl (kTy κ) s) (hT : TS κ F σ0 σ s H locs) (ha : zk σ a 6) (hF : F 6 7 = true) (hlink : (Cond.fieldLink own index "LiftingSignal$Text" "number" "I").before args s = true) (hdg : decode cc pc = .ok (.putfield index, 3))
    (kk : ∀ (H1 : Heap) (locs1 : List Loc) (τ : Gh), τ = zput σ a 7 v → TS κ F σ0 τ s H1 locs1 → W p l e R s m args below meth c H1 locs1 cells slots Q (F0 m (pc + 3) ls rest)) : W p l e R s m args below meth c H locs cells slots Q (F0 m pc ls (.int v :: .ref a :: rest)) := by
  have ho := hT.o6 ha
  refine tput (C := RX3) (T := TX3) (N := 8) hx hb hg inX3 tyX3 tyX3_ok nmX3 hown hK hT ha (by decide) ho rfl 7 (by decide) hlink (fun _ h => h) rfl (ty := .int) (by decide +kernel) rfl rfl (Nat.le_of_ble_eq_true rfl) (hFput ha hF) (fun H' h' => Or.inr ⟨0, ?_⟩) hdg (fun H1 locs1 hT1 => kk H1 locs1 _ rfl hT1)
  rw [show zT σ a = 6 from ha]
  refine ⟨h', ⟨(hT.P ha (by decide)).1, (hT.P ha (by decide)).2.1, (hT.P ha (by decide)).2.2⟩, ?_, fun q => absurd q (by decide)⟩
  obtain ⟨x8, -, -, h8, -⟩ := hT.at ha (by decide)
  exact h8
theorem pf7_7 {v : Int32} (hx : p.tables.exec = Jvm.exec) (hb : c.code = cc) (hg : ∀ w ∈ GW, w.before args s = true) (hown : s.vm.findClass own = some m.cls) (hK : va_K κ.1 vwCl (kTy κ) s) (hT : TS κ F σ0 σ s H locs) (ha : zk σ a 7) (hF : F 7 7 = true) (hlink : (Cond.fieldLink own index "LiftingSignal" "reasonCode" "I").before args s = true) (hdg : decode cc pc = .ok (.putfield index, 3))
    (kk : ∀ (H1 : Heap) (locs1 : List Loc) (τ : Gh), τ = zput σ a 7 v → TS κ F σ0 τ s H1 locs1 → W p l e R s m args below meth c H1 locs1 cells slots Q (F0 m (pc + 3) ls rest)) : W p l e R s m args below meth c H locs cells slots Q (F0 m pc ls (.int v :: .ref a :: rest)) := by
  have ho := hT.o7 ha
  refine tput (C := RX5) (T := TX5) (N := 10) hx hb hg inX5 tyX5 tyX5_ok nmX5 hown hK hT ha (by decide) ho rfl 7 (by decide) hlink (fun _ h => h) rfl (ty := .int) (by decide +kernel) rfl rfl (Nat.le_of_ble_eq_true rfl) (hFput ha hF) (fun H' h' => Or.inr ⟨0, ?_⟩) hdg (fun H1 locs1 hT1 => kk H1 locs1 _ rfl hT1)
  rw [show zT σ a = 7 from ha]
  refine ⟨h', trivial, ?_, fun q => absurd q (by decide)⟩
  obtain ⟨x8, -, -, h8, -⟩ := hT.at ha (by decide)
  exact h8
theorem pf7_8 {v : Int32} (hx : p.tables.exec = Jvm.exec) (hb : c.code = cc) (hg : ∀ w ∈ GW, w.before args s = true) (hown : s.vm.findClass own = some m.cls) (hK : va_K κ.1 vwCl (kTy κ) s) (hT : TS κ F σ0 σ s H locs) (ha : zk σ a 7) (hF : F 7 8 = true) (hlink : (Cond.fieldLink own index "LiftingSignal" "causeCode" "I").before args s = true) (hdg : decode cc pc = .ok (.putfield index, 3))
    (kk : ∀ (H1 : Heap) (locs1 : List Loc) (τ : Gh), τ = zput σ a 8 v → TS κ F σ0 τ s H1 locs1 → W p l e R s m args below meth c H1 locs1 cells slots Q (F0 m (pc + 3) ls rest)) : W p l e R s m args below meth c H locs cells slots Q (F0 m pc ls (.int v :: .ref a :: rest)) := by
  have ho := hT.o7 ha
  refine tput (C := RX5) (T := TX5) (N := 10) hx hb hg inX5 tyX5 tyX5_ok nmX5 hown hK hT ha (by decide) ho rfl 8 (by decide) hlink (fun _ h => h) rfl (ty := .int) (by decide +kernel) rfl rfl (Nat.le_of_ble_eq_true rfl) (hFput ha hF) (fun H' h' => Or.inr ⟨0, ?_⟩) hdg (fun H1 locs1 hT1 => kk H1 locs1 _ rfl hT1)
  rw [show zT σ a = 7 from ha]
  refine ⟨h', trivial, ?_, fun q => absurd q (by decide)⟩
  obtain ⟨x8, -, -, h8, -⟩ := hT.at ha (by decide)
  exact h8
theorem pf7_9 {v : Int32} (hx : p.tables.exec = Jvm.exec) (hb : c.code = cc) (hg : ∀ w ∈ GW, w.before args s = true) (hown : s.vm.findClass own = some m.cls) (hK : va_K κ.1 vwCl (kTy κ) s) (hT : TS κ F σ0 σ s H locs) (ha : zk σ a 7) (hF : F 7 9 = true) (hlink : (Cond.fieldLink own index "LiftingSignal" "refusedSample" "I").before args s = true) (hdg : decode cc pc = .ok (.putfield index, 3))
    (kk : ∀ (H1 : Heap) (locs1 : List Loc) (τ : Gh), τ = zput σ a 9 v → TS κ F σ0 τ s H1 locs1 → W p l e R s m args below meth c H1 locs1 cells slots Q (F0 m (pc + 3) ls rest)) : W p l e R s m args below meth c H locs cells slots Q (F0 m pc ls (.int v :: .ref a :: rest)) := by
  have ho := hT.o7 ha
  refine tput (C := RX5) (T := TX5) (N := 10) hx hb hg inX5 tyX5 tyX5_ok nmX5 hown hK hT ha (by decide) ho rfl 9 (by decide) hlink (fun _ h => h) rfl (ty := .int) (by decide +kernel) rfl rfl (Nat.le_of_ble_eq_true rfl) (hFput ha hF) (fun H' h' => Or.inr ⟨0, ?_⟩) hdg (fun H1 locs1 hT1 => kk H1 locs1 _ rfl hT1)
  rw [show zT σ a = 7 from ha]
  refine ⟨h', trivial, ?_, fun q => absurd q (by decide)⟩
  obtain ⟨x8, -, -, h8, -⟩ := hT.at ha (by decide)
  exact h8
set_option maxRecDepth 100000 in
theorem pf20_0 {v : Int32} (hx : p.tables.exec = Jvm.exec) (hb : c.code = cc) (hg : ∀ w ∈ GW, w.before args s = true) (hown : s.vm.findClass own = some m.cls) (hK : va_K κ.1 vwCl (kTy κ) s) (hT : TS κ F σ0 σ s H locs) (ha : zk σ a 20) (hF : F 20 0 = true) (hlink : (Cond.fieldLink own index "LiftingSignalModel" "raised" "I").before args s = true) (hdg : decode cc pc = .ok (.putfield index, 3))
    (kk : ∀ (H1 : Heap) (locs1 : List Loc) (τ : Gh), τ = zput σ a 0 v → TS κ F σ0 τ s H1 locs1 → W p l e R s m args below meth c H1 locs1 cells slots Q (F0 m (pc + 3) ls rest)) : W p l e R s m args below meth c H locs cells slots Q (F0 m pc ls (.int v :: .ref a :: rest)) := by
  have ho := hT.o20 ha
  refine tput (C := RX6) (T := TX6) (N := 27) hx hb hg inX6 tyX6 tyX6_ok nmX6 hown hK hT ha (by decide) ho rfl 0 (by decide) hlink (fun _ h => h) rfl (ty := .int) (by decide +kernel) rfl rfl (Nat.le_of_ble_eq_true rfl) (hFput ha hF) (fun H' h' => Or.inr ⟨0, ?_⟩) hdg (fun H1 locs1 hT1 => kk H1 locs1 _ rfl hT1)
  rw [show zT σ a = 20 from ha]
  have e20 : (fs6 (kR κ a) (zI σ a)).set 0 (.int v) = fs6 (kR κ a) (upd (zI σ a) 0 v) := by simp [fs6, upd]
  rw [e20] at h'
  refine ⟨h', (show isB (zI σ a 17) from hT.P ha (by decide)), ?_, fun q => absurd q (by decide)⟩
  obtain ⟨x8, -, -, h8, -⟩ := hT.at ha (by decide)
  exact h8
set_option maxRecDepth 100000 in
theorem pf20_7 {v : Int32} (hx : p.tables.exec = Jvm.exec) (hb : c.code = cc) (hg : ∀ w ∈ GW, w.before args s = true) (hown : s.vm.findClass own = some m.cls) (hK : va_K κ.1 vwCl (kTy κ) s) (hT : TS κ F σ0 σ s H locs) (ha : zk σ a 20) (hF : F 20 7 = true) (hlink : (Cond.fieldLink own index "LiftingSignalModel" "samples" "I").before args s = true) (hdg : decode cc pc = .ok (.putfield index, 3))
    (kk : ∀ (H1 : Heap) (locs1 : List Loc) (τ : Gh), τ = zput σ a 7 v → TS κ F σ0 τ s H1 locs1 → W p l e R s m args below meth c H1 locs1 cells slots Q (F0 m (pc + 3) ls rest)) : W p l e R s m args below meth c H locs cells slots Q (F0 m pc ls (.int v :: .ref a :: rest)) := by
  have ho := hT.o20 ha
  refine tput (C := RX6) (T := TX6) (N := 27) hx hb hg inX6 tyX6 tyX6_ok nmX6 hown hK hT ha (by decide) ho rfl 7 (by decide) hlink (fun _ h => h) rfl (ty := .int) (by decide +kernel) rfl rfl (Nat.le_of_ble_eq_true rfl) (hFput ha hF) (fun H' h' => Or.inr ⟨0, ?_⟩) hdg (fun H1 locs1 hT1 => kk H1 locs1 _ rfl hT1)
  rw [show zT σ a = 20 from ha]
  have e20 : (fs6 (kR κ a) (zI σ a)).set 7 (.int v) = fs6 (kR κ a) (upd (zI σ a) 7 v) := by simp [fs6, upd]
  rw [e20] at h'
  refine ⟨h', (show isB (zI σ a 17) from hT.P ha (by decide)), ?_, fun q => absurd q (by decide)⟩
  obtain ⟨x8, -, -, h8, -⟩ := hT.at ha (by decide)
  exact h8
set_option maxRecDepth 100000 in
theorem pf20_8 {v : Int32} (hx : p.tables.exec = Jvm.exec) (hb : c.code = cc) (hg : ∀ w ∈ GW, w.before args s = true) (hown : s.vm.findClass own = some m.cls) (hK : va_K κ.1 vwCl (kTy κ) s) (hT : TS κ F σ0 σ s H locs) (ha : zk σ a 20) (hF : F 20 8 = true) (hlink : (Cond.fieldLink own index "LiftingSignalModel" "least" "I").before args s = true) (hdg : decode cc pc = .ok (.putfield index, 3))
    (kk : ∀ (H1 : Heap) (locs1 : List Loc) (τ : Gh), τ = zput σ a 8 v → TS κ F σ0 τ s H1 locs1 → W p l e R s m args below meth c H1 locs1 cells slots Q (F0 m (pc + 3) ls rest)) : W p l e R s m args below meth c H locs cells slots Q (F0 m pc ls (.int v :: .ref a :: rest)) := by
  have ho := hT.o20 ha
  refine tput (C := RX6) (T := TX6) (N := 27) hx hb hg inX6 tyX6 tyX6_ok nmX6 hown hK hT ha (by decide) ho rfl 8 (by decide) hlink (fun _ h => h) rfl (ty := .int) (by decide +kernel) rfl rfl (Nat.le_of_ble_eq_true rfl) (hFput ha hF) (fun H' h' => Or.inr ⟨0, ?_⟩) hdg (fun H1 locs1 hT1 => kk H1 locs1 _ rfl hT1)
  rw [show zT σ a = 20 from ha]
  have e20 : (fs6 (kR κ a) (zI σ a)).set 8 (.int v) = fs6 (kR κ a) (upd (zI σ a) 8 v) := by simp [fs6, upd]
  rw [e20] at h'
  refine ⟨h', (show isB (zI σ a 17) from hT.P ha (by decide)), ?_, fun q => absurd q (by decide)⟩
  obtain ⟨x8, -, -, h8, -⟩ := hT.at ha (by decide)
  exact h8
set_option maxRecDepth 100000 in
theorem pf20_9 {v : Int32} (hx : p.tables.exec = Jvm.exec) (hb : c.code = cc) (hg : ∀ w ∈ GW, w.before args s = true) (hown : s.vm.findClass own = some m.cls) (hK : va_K κ.1 vwCl (kTy κ) s) (hT : TS κ F σ0 σ s H locs) (ha : zk σ a 20) (hF : F 20 9 = true) (hlink : (Cond.fieldLink own index "LiftingSignalModel" "reasonAt" "I").before args s = true) (hdg : decode cc pc = .ok (.putfield index, 3))
    (kk : ∀ (H1 : Heap) (locs1 : List Loc) (τ : Gh), τ = zput σ a 9 v → TS κ F σ0 τ s H1 locs1 → W p l e R s m args below meth c H1 locs1 cells slots Q (F0 m (pc + 3) ls rest)) : W p l e R s m args below meth c H locs cells slots Q (F0 m pc ls (.int v :: .ref a :: rest)) := by
  have ho := hT.o20 ha
  refine tput (C := RX6) (T := TX6) (N := 27) hx hb hg inX6 tyX6 tyX6_ok nmX6 hown hK hT ha (by decide) ho rfl 9 (by decide) hlink (fun _ h => h) rfl (ty := .int) (by decide +kernel) rfl rfl (Nat.le_of_ble_eq_true rfl) (hFput ha hF) (fun H' h' => Or.inr ⟨0, ?_⟩) hdg (fun H1 locs1 hT1 => kk H1 locs1 _ rfl hT1)
  rw [show zT σ a = 20 from ha]
  have e20 : (fs6 (kR κ a) (zI σ a)).set 9 (.int v) = fs6 (kR κ a) (upd (zI σ a) 9 v) := by simp [fs6, upd]
  rw [e20] at h'
  refine ⟨h', (show isB (zI σ a 17) from hT.P ha (by decide)), ?_, fun q => absurd q (by decide)⟩
  obtain ⟨x8, -, -, h8, -⟩ := hT.at ha (by decide)
  exact h8
set_option maxRecDepth 100000 in
theorem pf20_10 {v : Int32} (hx : p.tables.exec = Jvm.exec) (hb : c.code = cc) (hg : ∀ w ∈ GW, w.before args s = true) (hown : s.vm.findClass own = some m.cls) (hK : va_K κ.1 vwCl (kTy κ) s) (hT : TS κ F σ0 σ s H locs) (ha : zk σ a 20) (hF : F 20 10 = true) (hlink : (Cond.fieldLink own index "LiftingSignalModel" "causeAt" "I").before args s = true) (hdg : decode cc pc = .ok (.putfield index, 3))
    (kk : ∀ (H1 : Heap) (locs1 : List Loc) (τ : Gh), τ = zput σ a 10 v → TS κ F σ0 τ s H1 locs1 → W p l e R s m args below meth c H1 locs1 cells slots Q (F0 m (pc + 3) ls rest)) : W p l e R s m args below meth c H locs cells slots Q (F0 m pc ls (.int v :: .ref a :: rest)) := by
  have ho := hT.o20 ha
  refine tput (C := RX6) (T := TX6) (N := 27) hx hb hg inX6 tyX6 tyX6_ok nmX6 hown hK hT ha (by decide) ho rfl 10 (by decide) hlink (fun _ h => h) rfl (ty := .int) (by decide +kernel) rfl rfl (Nat.le_of_ble_eq_true rfl) (hFput ha hF) (fun H' h' => Or.inr ⟨0, ?_⟩) hdg (fun H1 locs1 hT1 => kk H1 locs1 _ rfl hT1)
  rw [show zT σ a = 20 from ha]
  have e20 : (fs6 (kR κ a) (zI σ a)).set 10 (.int v) = fs6 (kR κ a) (upd (zI σ a) 10 v) := by simp [fs6, upd]
  rw [e20] at h'
  refine ⟨h', (show isB (zI σ a 17) from hT.P ha (by decide)), ?_, fun q => absurd q (by decide)⟩
  obtain ⟨x8, -, -, h8, -⟩ := hT.at ha (by decide)
  exact h8
set_option maxRecDepth 100000 in
theorem pf20_11 {v : Int32} (hx : p.tables.exec = Jvm.exec) (hb : c.code = cc) (hg : ∀ w ∈ GW, w.before args s = true) (hown : s.vm.findClass own = some m.cls) (hK : va_K κ.1 vwCl (kTy κ) s) (hT : TS κ F σ0 σ s H locs) (ha : zk σ a 20) (hF : F 20 11 = true) (hlink : (Cond.fieldLink own index "LiftingSignalModel" "aboutAt" "I").before args s = true) (hdg : decode cc pc = .ok (.putfield index, 3))
    (kk : ∀ (H1 : Heap) (locs1 : List Loc) (τ : Gh), τ = zput σ a 11 v → TS κ F σ0 τ s H1 locs1 → W p l e R s m args below meth c H1 locs1 cells slots Q (F0 m (pc + 3) ls rest)) : W p l e R s m args below meth c H locs cells slots Q (F0 m pc ls (.int v :: .ref a :: rest)) := by
  have ho := hT.o20 ha
  refine tput (C := RX6) (T := TX6) (N := 27) hx hb hg inX6 tyX6 tyX6_ok nmX6 hown hK hT ha (by decide) ho rfl 11 (by decide) hlink (fun _ h => h) rfl (ty := .int) (by decide +kernel) rfl rfl (Nat.le_of_ble_eq_true rfl) (hFput ha hF) (fun H' h' => Or.inr ⟨0, ?_⟩) hdg (fun H1 locs1 hT1 => kk H1 locs1 _ rfl hT1)
  rw [show zT σ a = 20 from ha]
  have e20 : (fs6 (kR κ a) (zI σ a)).set 11 (.int v) = fs6 (kR κ a) (upd (zI σ a) 11 v) := by simp [fs6, upd]
  rw [e20] at h'
  refine ⟨h', (show isB (zI σ a 17) from hT.P ha (by decide)), ?_, fun q => absurd q (by decide)⟩
  obtain ⟨x8, -, -, h8, -⟩ := hT.at ha (by decide)
  exact h8
set_option maxRecDepth 100000 in
theorem pf20_13 {v : Int32} (hx : p.tables.exec = Jvm.exec) (hb : c.code = cc) (hg : ∀ w ∈ GW, w.before args s = true) (hown : s.vm.findClass own = some m.cls) (hK : va_K κ.1 vwCl (kTy κ) s) (hT : TS κ F σ0 σ s H locs) (ha : zk σ a 20) (hF : F 20 13 = true) (hlink : (Cond.fieldLink own index "LiftingSignalModel" "length" "I").before args s = true) (hdg : decode cc pc = .ok (.putfield index, 3))
    (kk : ∀ (H1 : Heap) (locs1 : List Loc) (τ : Gh), τ = zput σ a 13 v → TS κ F σ0 τ s H1 locs1 → W p l e R s m args below meth c H1 locs1 cells slots Q (F0 m (pc + 3) ls rest)) : W p l e R s m args below meth c H locs cells slots Q (F0 m pc ls (.int v :: .ref a :: rest)) := by
  have ho := hT.o20 ha
  refine tput (C := RX6) (T := TX6) (N := 27) hx hb hg inX6 tyX6 tyX6_ok nmX6 hown hK hT ha (by decide) ho rfl 13 (by decide) hlink (fun _ h => h) rfl (ty := .int) (by decide +kernel) rfl rfl (Nat.le_of_ble_eq_true rfl) (hFput ha hF) (fun H' h' => Or.inr ⟨0, ?_⟩) hdg (fun H1 locs1 hT1 => kk H1 locs1 _ rfl hT1)
  rw [show zT σ a = 20 from ha]
  have e20 : (fs6 (kR κ a) (zI σ a)).set 13 (.int v) = fs6 (kR κ a) (upd (zI σ a) 13 v) := by simp [fs6, upd]
  rw [e20] at h'
  refine ⟨h', (show isB (zI σ a 17) from hT.P ha (by decide)), ?_, fun q => absurd q (by decide)⟩
  obtain ⟨x8, -, -, h8, -⟩ := hT.at ha (by decide)
  exact h8
set_option maxRecDepth 100000 in
theorem pf20_14 {v : Int32} (hx : p.tables.exec = Jvm.exec) (hb : c.code = cc) (hg : ∀ w ∈ GW, w.before args s = true) (hown : s.vm.findClass own = some m.cls) (hK : va_K κ.1 vwCl (kTy κ) s) (hT : TS κ F σ0 σ s H locs) (ha : zk σ a 20) (hF : F 20 14 = true) (hlink : (Cond.fieldLink own index "LiftingSignalModel" "at" "I").before args s = true) (hdg : decode cc pc = .ok (.putfield index, 3))
    (kk : ∀ (H1 : Heap) (locs1 : List Loc) (τ : Gh), τ = zput σ a 14 v → TS κ F σ0 τ s H1 locs1 → W p l e R s m args below meth c H1 locs1 cells slots Q (F0 m (pc + 3) ls rest)) : W p l e R s m args below meth c H locs cells slots Q (F0 m pc ls (.int v :: .ref a :: rest)) := by
  have ho := hT.o20 ha
  refine tput (C := RX6) (T := TX6) (N := 27) hx hb hg inX6 tyX6 tyX6_ok nmX6 hown hK hT ha (by decide) ho rfl 14 (by decide) hlink (fun _ h => h) rfl (ty := .int) (by decide +kernel) rfl rfl (Nat.le_of_ble_eq_true rfl) (hFput ha hF) (fun H' h' => Or.inr ⟨0, ?_⟩) hdg (fun H1 locs1 hT1 => kk H1 locs1 _ rfl hT1)
  rw [show zT σ a = 20 from ha]
  have e20 : (fs6 (kR κ a) (zI σ a)).set 14 (.int v) = fs6 (kR κ a) (upd (zI σ a) 14 v) := by simp [fs6, upd]
  rw [e20] at h'
  refine ⟨h', (show isB (zI σ a 17) from hT.P ha (by decide)), ?_, fun q => absurd q (by decide)⟩
  obtain ⟨x8, -, -, h8, -⟩ := hT.at ha (by decide)
  exact h8
set_option maxRecDepth 100000 in
theorem pf20_15 {v : Int32} (hx : p.tables.exec = Jvm.exec) (hb : c.code = cc) (hg : ∀ w ∈ GW, w.before args s = true) (hown : s.vm.findClass own = some m.cls) (hK : va_K κ.1 vwCl (kTy κ) s) (hT : TS κ F σ0 σ s H locs) (ha : zk σ a 20) (hF : F 20 15 = true) (hlink : (Cond.fieldLink own index "LiftingSignalModel" "errorCode" "I").before args s = true) (hdg : decode cc pc = .ok (.putfield index, 3))
    (kk : ∀ (H1 : Heap) (locs1 : List Loc) (τ : Gh), τ = zput σ a 15 v → TS κ F σ0 τ s H1 locs1 → W p l e R s m args below meth c H1 locs1 cells slots Q (F0 m (pc + 3) ls rest)) : W p l e R s m args below meth c H locs cells slots Q (F0 m pc ls (.int v :: .ref a :: rest)) := by
  have ho := hT.o20 ha
  refine tput (C := RX6) (T := TX6) (N := 27) hx hb hg inX6 tyX6 tyX6_ok nmX6 hown hK hT ha (by decide) ho rfl 15 (by decide) hlink (fun _ h => h) rfl (ty := .int) (by decide +kernel) rfl rfl (Nat.le_of_ble_eq_true rfl) (hFput ha hF) (fun H' h' => Or.inr ⟨0, ?_⟩) hdg (fun H1 locs1 hT1 => kk H1 locs1 _ rfl hT1)
  rw [show zT σ a = 20 from ha]
  have e20 : (fs6 (kR κ a) (zI σ a)).set 15 (.int v) = fs6 (kR κ a) (upd (zI σ a) 15 v) := by simp [fs6, upd]
  rw [e20] at h'
  refine ⟨h', (show isB (zI σ a 17) from hT.P ha (by decide)), ?_, fun q => absurd q (by decide)⟩
  obtain ⟨x8, -, -, h8, -⟩ := hT.at ha (by decide)
  exact h8
set_option maxRecDepth 100000 in
theorem pf20_16 {v : Int32} (hx : p.tables.exec = Jvm.exec) (hb : c.code = cc) (hg : ∀ w ∈ GW, w.before args s = true) (hown : s.vm.findClass own = some m.cls) (hK : va_K κ.1 vwCl (kTy κ) s) (hT : TS κ F σ0 σ s H locs) (ha : zk σ a 20) (hF : F 20 16 = true) (hlink : (Cond.fieldLink own index "LiftingSignalModel" "errorPosition" "I").before args s = true) (hdg : decode cc pc = .ok (.putfield index, 3))
    (kk : ∀ (H1 : Heap) (locs1 : List Loc) (τ : Gh), τ = zput σ a 16 v → TS κ F σ0 τ s H1 locs1 → W p l e R s m args below meth c H1 locs1 cells slots Q (F0 m (pc + 3) ls rest)) : W p l e R s m args below meth c H locs cells slots Q (F0 m pc ls (.int v :: .ref a :: rest)) := by
  have ho := hT.o20 ha
  refine tput (C := RX6) (T := TX6) (N := 27) hx hb hg inX6 tyX6 tyX6_ok nmX6 hown hK hT ha (by decide) ho rfl 16 (by decide) hlink (fun _ h => h) rfl (ty := .int) (by decide +kernel) rfl rfl (Nat.le_of_ble_eq_true rfl) (hFput ha hF) (fun H' h' => Or.inr ⟨0, ?_⟩) hdg (fun H1 locs1 hT1 => kk H1 locs1 _ rfl hT1)
  rw [show zT σ a = 20 from ha]
  have e20 : (fs6 (kR κ a) (zI σ a)).set 16 (.int v) = fs6 (kR κ a) (upd (zI σ a) 16 v) := by simp [fs6, upd]
  rw [e20] at h'
  refine ⟨h', (show isB (zI σ a 17) from hT.P ha (by decide)), ?_, fun q => absurd q (by decide)⟩
  obtain ⟨x8, -, -, h8, -⟩ := hT.at ha (by decide)
  exact h8
set_option maxRecDepth 100000 in
theorem pf20_17 {v : Int32} (hx : p.tables.exec = Jvm.exec) (hb : c.code = cc) (hg : ∀ w ∈ GW, w.before args s = true) (hown : s.vm.findClass own = some m.cls) (hK : va_K κ.1 vwCl (kTy κ) s) (hT : TS κ F σ0 σ s H locs) (ha : zk σ a 20) (hF : F 20 17 = true) (h9 : isB v) (hlink : (Cond.fieldLink own index "LiftingSignalModel" "isBad" "Z").before args s = true) (hdg : decode cc pc = .ok (.putfield index, 3))
    (kk : ∀ (H1 : Heap) (locs1 : List Loc) (τ : Gh), τ = zput σ a 17 v → TS κ F σ0 τ s H1 locs1 → W p l e R s m args below meth c H1 locs1 cells slots Q (F0 m (pc + 3) ls rest)) : W p l e R s m args below meth c H locs cells slots Q (F0 m pc ls (.int v :: .ref a :: rest)) := by
  have ho := hT.o20 ha
  refine tput (C := RX6) (T := TX6) (N := 27) hx hb hg inX6 tyX6 tyX6_ok nmX6 hown hK hT ha (by decide) ho rfl 17 (by decide) hlink (fun _ h => h) rfl (ty := .boolean) (by decide +kernel) (isB_n h9) (isB_f h9) (Nat.le_of_ble_eq_true rfl) (hFput ha hF) (fun H' h' => Or.inr ⟨0, ?_⟩) hdg (fun H1 locs1 hT1 => kk H1 locs1 _ rfl hT1)
  rw [show zT σ a = 20 from ha]
  have e20 : (fs6 (kR κ a) (zI σ a)).set 17 (.int v) = fs6 (kR κ a) (upd (zI σ a) 17 v) := by simp [fs6, upd]
  rw [e20] at h'
  refine ⟨h', h9, ?_, fun q => absurd q (by decide)⟩
  obtain ⟨x8, -, -, h8, -⟩ := hT.at ha (by decide)
  exact h8
set_option maxRecDepth 100000 in
theorem pf20_18 {v : Int32} (hx : p.tables.exec = Jvm.exec) (hb : c.code = cc) (hg : ∀ w ∈ GW, w.before args s = true) (hown : s.vm.findClass own = some m.cls) (hK : va_K κ.1 vwCl (kTy κ) s) (hT : TS κ F σ0 σ s H locs) (ha : zk σ a 20) (hF : F 20 18 = true) (hlink : (Cond.fieldLink own index "LiftingSignalModel" "newSamples" "I").before args s = true) (hdg : decode cc pc = .ok (.putfield index, 3))
    (kk : ∀ (H1 : Heap) (locs1 : List Loc) (τ : Gh), τ = zput σ a 18 v → TS κ F σ0 τ s H1 locs1 → W p l e R s m args below meth c H1 locs1 cells slots Q (F0 m (pc + 3) ls rest)) : W p l e R s m args below meth c H locs cells slots Q (F0 m pc ls (.int v :: .ref a :: rest)) := by
  have ho := hT.o20 ha
  refine tput (C := RX6) (T := TX6) (N := 27) hx hb hg inX6 tyX6 tyX6_ok nmX6 hown hK hT ha (by decide) ho rfl 18 (by decide) hlink (fun _ h => h) rfl (ty := .int) (by decide +kernel) rfl rfl (Nat.le_of_ble_eq_true rfl) (hFput ha hF) (fun H' h' => Or.inr ⟨0, ?_⟩) hdg (fun H1 locs1 hT1 => kk H1 locs1 _ rfl hT1)
  rw [show zT σ a = 20 from ha]
  have e20 : (fs6 (kR κ a) (zI σ a)).set 18 (.int v) = fs6 (kR κ a) (upd (zI σ a) 18 v) := by simp [fs6, upd]
  rw [e20] at h'
  refine ⟨h', (show isB (zI σ a 17) from hT.P ha (by decide)), ?_, fun q => absurd q (by decide)⟩
  obtain ⟨x8, -, -, h8, -⟩ := hT.at ha (by decide)
  exact h8
set_option maxRecDepth 100000 in
theorem pf20_19 {v : Int32} (hx : p.tables.exec = Jvm.exec) (hb : c.code = cc) (hg : ∀ w ∈ GW, w.before args s = true) (hown : s.vm.findClass own = some m.cls) (hK : va_K κ.1 vwCl (kTy κ) s) (hT : TS κ F σ0 σ s H locs) (ha : zk σ a 20) (hF : F 20 19 = true) (hlink : (Cond.fieldLink own index "LiftingSignalModel" "newLeast" "I").before args s = true) (hdg : decode cc pc = .ok (.putfield index, 3))
    (kk : ∀ (H1 : Heap) (locs1 : List Loc) (τ : Gh), τ = zput σ a 19 v → TS κ F σ0 τ s H1 locs1 → W p l e R s m args below meth c H1 locs1 cells slots Q (F0 m (pc + 3) ls rest)) : W p l e R s m args below meth c H locs cells slots Q (F0 m pc ls (.int v :: .ref a :: rest)) := by
  have ho := hT.o20 ha
  refine tput (C := RX6) (T := TX6) (N := 27) hx hb hg inX6 tyX6 tyX6_ok nmX6 hown hK hT ha (by decide) ho rfl 19 (by decide) hlink (fun _ h => h) rfl (ty := .int) (by decide +kernel) rfl rfl (Nat.le_of_ble_eq_true rfl) (hFput ha hF) (fun H' h' => Or.inr ⟨0, ?_⟩) hdg (fun H1 locs1 hT1 => kk H1 locs1 _ rfl hT1)
  rw [show zT σ a = 20 from ha]
  have e20 : (fs6 (kR κ a) (zI σ a)).set 19 (.int v) = fs6 (kR κ a) (upd (zI σ a) 19 v) := by simp [fs6, upd]
  rw [e20] at h'
  refine ⟨h', (show isB (zI σ a 17) from hT.P ha (by decide)), ?_, fun q => absurd q (by decide)⟩
  obtain ⟨x8, -, -, h8, -⟩ := hT.at ha (by decide)
  exact h8
set_option maxRecDepth 100000 in
theorem pf20_20 {v : Int32} (hx : p.tables.exec = Jvm.exec) (hb : c.code = cc) (hg : ∀ w ∈ GW, w.before args s = true) (hown : s.vm.findClass own = some m.cls) (hK : va_K κ.1 vwCl (kTy κ) s) (hT : TS κ F σ0 σ s H locs) (ha : zk σ a 20) (hF : F 20 20 = true) (hlink : (Cond.fieldLink own index "LiftingSignalModel" "newSplit" "I").before args s = true) (hdg : decode cc pc = .ok (.putfield index, 3))
    (kk : ∀ (H1 : Heap) (locs1 : List Loc) (τ : Gh), τ = zput σ a 20 v → TS κ F σ0 τ s H1 locs1 → W p l e R s m args below meth c H1 locs1 cells slots Q (F0 m (pc + 3) ls rest)) : W p l e R s m args below meth c H locs cells slots Q (F0 m pc ls (.int v :: .ref a :: rest)) := by
  have ho := hT.o20 ha
  refine tput (C := RX6) (T := TX6) (N := 27) hx hb hg inX6 tyX6 tyX6_ok nmX6 hown hK hT ha (by decide) ho rfl 20 (by decide) hlink (fun _ h => h) rfl (ty := .int) (by decide +kernel) rfl rfl (Nat.le_of_ble_eq_true rfl) (hFput ha hF) (fun H' h' => Or.inr ⟨0, ?_⟩) hdg (fun H1 locs1 hT1 => kk H1 locs1 _ rfl hT1)
  rw [show zT σ a = 20 from ha]
  have e20 : (fs6 (kR κ a) (zI σ a)).set 20 (.int v) = fs6 (kR κ a) (upd (zI σ a) 20 v) := by simp [fs6, upd]
  rw [e20] at h'
  refine ⟨h', (show isB (zI σ a 17) from hT.P ha (by decide)), ?_, fun q => absurd q (by decide)⟩
  obtain ⟨x8, -, -, h8, -⟩ := hT.at ha (by decide)
  exact h8
set_option maxRecDepth 100000 in
theorem pf20_21 {v : Int32} (hx : p.tables.exec = Jvm.exec) (hb : c.code = cc) (hg : ∀ w ∈ GW, w.before args s = true) (hown : s.vm.findClass own = some m.cls) (hK : va_K κ.1 vwCl (kTy κ) s) (hT : TS κ F σ0 σ s H locs) (ha : zk σ a 20) (hF : F 20 21 = true) (hlink : (Cond.fieldLink own index "LiftingSignalModel" "newPredict" "I").before args s = true) (hdg : decode cc pc = .ok (.putfield index, 3))
    (kk : ∀ (H1 : Heap) (locs1 : List Loc) (τ : Gh), τ = zput σ a 21 v → TS κ F σ0 τ s H1 locs1 → W p l e R s m args below meth c H1 locs1 cells slots Q (F0 m (pc + 3) ls rest)) : W p l e R s m args below meth c H locs cells slots Q (F0 m pc ls (.int v :: .ref a :: rest)) := by
  have ho := hT.o20 ha
  refine tput (C := RX6) (T := TX6) (N := 27) hx hb hg inX6 tyX6 tyX6_ok nmX6 hown hK hT ha (by decide) ho rfl 21 (by decide) hlink (fun _ h => h) rfl (ty := .int) (by decide +kernel) rfl rfl (Nat.le_of_ble_eq_true rfl) (hFput ha hF) (fun H' h' => Or.inr ⟨0, ?_⟩) hdg (fun H1 locs1 hT1 => kk H1 locs1 _ rfl hT1)
  rw [show zT σ a = 20 from ha]
  have e20 : (fs6 (kR κ a) (zI σ a)).set 21 (.int v) = fs6 (kR κ a) (upd (zI σ a) 21 v) := by simp [fs6, upd]
  rw [e20] at h'
  refine ⟨h', (show isB (zI σ a 17) from hT.P ha (by decide)), ?_, fun q => absurd q (by decide)⟩
  obtain ⟨x8, -, -, h8, -⟩ := hT.at ha (by decide)
  exact h8
set_option maxRecDepth 100000 in
theorem pf20_22 {v : Int32} (hx : p.tables.exec = Jvm.exec) (hb : c.code = cc) (hg : ∀ w ∈ GW, w.before args s = true) (hown : s.vm.findClass own = some m.cls) (hK : va_K κ.1 vwCl (kTy κ) s) (hT : TS κ F σ0 σ s H locs) (ha : zk σ a 20) (hF : F 20 22 = true) (hlink : (Cond.fieldLink own index "LiftingSignalModel" "newUpdate" "I").before args s = true) (hdg : decode cc pc = .ok (.putfield index, 3))
    (kk : ∀ (H1 : Heap) (locs1 : List Loc) (τ : Gh), τ = zput σ a 22 v → TS κ F σ0 τ s H1 locs1 → W p l e R s m args below meth c H1 locs1 cells slots Q (F0 m (pc + 3) ls rest)) : W p l e R s m args below meth c H locs cells slots Q (F0 m pc ls (.int v :: .ref a :: rest)) := by
  have ho := hT.o20 ha
  refine tput (C := RX6) (T := TX6) (N := 27) hx hb hg inX6 tyX6 tyX6_ok nmX6 hown hK hT ha (by decide) ho rfl 22 (by decide) hlink (fun _ h => h) rfl (ty := .int) (by decide +kernel) rfl rfl (Nat.le_of_ble_eq_true rfl) (hFput ha hF) (fun H' h' => Or.inr ⟨0, ?_⟩) hdg (fun H1 locs1 hT1 => kk H1 locs1 _ rfl hT1)
  rw [show zT σ a = 20 from ha]
  have e20 : (fs6 (kR κ a) (zI σ a)).set 22 (.int v) = fs6 (kR κ a) (upd (zI σ a) 22 v) := by simp [fs6, upd]
  rw [e20] at h'
  refine ⟨h', (show isB (zI σ a 17) from hT.P ha (by decide)), ?_, fun q => absurd q (by decide)⟩
  obtain ⟨x8, -, -, h8, -⟩ := hT.at ha (by decide)
  exact h8
set_option maxRecDepth 100000 in
theorem pf20_23 {v : Int32} (hx : p.tables.exec = Jvm.exec) (hb : c.code = cc) (hg : ∀ w ∈ GW, w.before args s = true) (hown : s.vm.findClass own = some m.cls) (hK : va_K κ.1 vwCl (kTy κ) s) (hT : TS κ F σ0 σ s H locs) (ha : zk σ a 20) (hF : F 20 23 = true) (hlink : (Cond.fieldLink own index "LiftingSignalModel" "told" "I").before args s = true) (hdg : decode cc pc = .ok (.putfield index, 3))
    (kk : ∀ (H1 : Heap) (locs1 : List Loc) (τ : Gh), τ = zput σ a 23 v → TS κ F σ0 τ s H1 locs1 → W p l e R s m args below meth c H1 locs1 cells slots Q (F0 m (pc + 3) ls rest)) : W p l e R s m args below meth c H locs cells slots Q (F0 m pc ls (.int v :: .ref a :: rest)) := by
  have ho := hT.o20 ha
  refine tput (C := RX6) (T := TX6) (N := 27) hx hb hg inX6 tyX6 tyX6_ok nmX6 hown hK hT ha (by decide) ho rfl 23 (by decide) hlink (fun _ h => h) rfl (ty := .int) (by decide +kernel) rfl rfl (Nat.le_of_ble_eq_true rfl) (hFput ha hF) (fun H' h' => Or.inr ⟨0, ?_⟩) hdg (fun H1 locs1 hT1 => kk H1 locs1 _ rfl hT1)
  rw [show zT σ a = 20 from ha]
  have e20 : (fs6 (kR κ a) (zI σ a)).set 23 (.int v) = fs6 (kR κ a) (upd (zI σ a) 23 v) := by simp [fs6, upd]
  rw [e20] at h'
  refine ⟨h', (show isB (zI σ a 17) from hT.P ha (by decide)), ?_, fun q => absurd q (by decide)⟩
  obtain ⟨x8, -, -, h8, -⟩ := hT.at ha (by decide)
  exact h8
set_option maxRecDepth 100000 in
theorem pf20_24 {v : Int32} (hx : p.tables.exec = Jvm.exec) (hb : c.code = cc) (hg : ∀ w ∈ GW, w.before args s = true) (hown : s.vm.findClass own = some m.cls) (hK : va_K κ.1 vwCl (kTy κ) s) (hT : TS κ F σ0 σ s H locs) (ha : zk σ a 20) (hF : F 20 24 = true) (hlink : (Cond.fieldLink own index "LiftingSignalModel" "value" "I").before args s = true) (hdg : decode cc pc = .ok (.putfield index, 3))
    (kk : ∀ (H1 : Heap) (locs1 : List Loc) (τ : Gh), τ = zput σ a 24 v → TS κ F σ0 τ s H1 locs1 → W p l e R s m args below meth c H1 locs1 cells slots Q (F0 m (pc + 3) ls rest)) : W p l e R s m args below meth c H locs cells slots Q (F0 m pc ls (.int v :: .ref a :: rest)) := by
  have ho := hT.o20 ha
  refine tput (C := RX6) (T := TX6) (N := 27) hx hb hg inX6 tyX6 tyX6_ok nmX6 hown hK hT ha (by decide) ho rfl 24 (by decide) hlink (fun _ h => h) rfl (ty := .int) (by decide +kernel) rfl rfl (Nat.le_of_ble_eq_true rfl) (hFput ha hF) (fun H' h' => Or.inr ⟨0, ?_⟩) hdg (fun H1 locs1 hT1 => kk H1 locs1 _ rfl hT1)
  rw [show zT σ a = 20 from ha]
  have e20 : (fs6 (kR κ a) (zI σ a)).set 24 (.int v) = fs6 (kR κ a) (upd (zI σ a) 24 v) := by simp [fs6, upd]
  rw [e20] at h'
  refine ⟨h', (show isB (zI σ a 17) from hT.P ha (by decide)), ?_, fun q => absurd q (by decide)⟩
  obtain ⟨x8, -, -, h8, -⟩ := hT.at ha (by decide)
  exact h8
def zgrow (σ : Gh) (a n : Nat) : Gh := (σ.1, fun x => if x = a then n else σ.2.1 x, σ.2.2)
def znew (σ : Gh) (q t : Nat) (f : Nat → Int32) : Gh := (fun x => if x = q then t else σ.1 x, σ.2.1, fun x => if x = q then f else σ.2.2.1 x, σ.2.2.2)
theorem zgrow_N {n : Nat} (h : τ = zgrow σ a n) : zN τ a = n := by rw [h]; simp [zgrow, zN]
theorem zgrow_No {n x : Nat} (h : τ = zgrow σ a n) (hx : x ≠ a) : zN τ x = zN σ x := by rw [h]; simp [zgrow, zN, hx]
theorem zgrow_I {n x : Nat} (h : τ = zgrow σ a n) : zI τ x = zI σ x := by rw [h]; rfl
theorem zgrow_k {n x t : Nat} (h : τ = zgrow σ a n) (g : zk σ x t) : zk τ x t := by rw [h]; exact g
theorem znew_T {q t : Nat} {f : Nat → Int32} (h : τ = znew σ q t f) : zk τ q t := by rw [h]; simp [znew, zk, zT]
theorem znew_To {q t x u : Nat} {f : Nat → Int32} (h : τ = znew σ q t f) (hx : x ≠ q) (g : zk σ x u) : zk τ x u := by
  have g : σ.1 x = u := g
  rw [h]; simp [znew, zk, zT, hx, g]
theorem znew_N {q t x : Nat} {f : Nat → Int32} (h : τ = znew σ q t f) : zN τ x = zN σ x := by rw [h]; rfl
theorem znew_I {q t x : Nat} {f : Nat → Int32} (h : τ = znew σ q t f) (hx : x ≠ q) : zI τ x = zI σ x := by rw [h]; simp [znew, zI, hx]
def kbump (κ : Kt) (i j : Nat) : Kt := (κ.1, κ.2.1, κ.2.2.1, κ.2.2.2.1, κ.2.2.2.2.1 + i, κ.2.2.2.2.2.1 + j, κ.2.2.2.2.2.2)
theorem sum_dec {f g : Nat → Nat} {d : Nat} : ∀ (L : List Nat), (∀ x, g x ≤ f x) → (∃ a, a ∈ L ∧ g a + d ≤ f a) → (L.map g).sum + d ≤ (L.map f).sum
  | [], _, ⟨_, h, _⟩ => absurd h List.not_mem_nil
  | b :: L, hle, ⟨a, ha, hd⟩ => by
    have all : ∀ L : List Nat, (L.map g).sum ≤ (L.map f).sum := by
      intro L
      induction L with
      | nil => exact Nat.le_refl _
      | cons x L ih =>
        rw [List.map_cons, List.map_cons, List.sum_cons, List.sum_cons]
        have := hle x
        omega
    rw [List.map_cons, List.map_cons, List.sum_cons, List.sum_cons]
    rcases List.mem_cons.mp ha with e | h
    · have := all L
      subst e
      omega
    · have := sum_dec L hle ⟨a, h, hd⟩
      have := hle b
      omega
/-- a Whole's limbs are replaced by more of them: what it could make is less by that -/
theorem plimbs {h n : Nat} (hx : p.tables.exec = Jvm.exec) (hb : c.code = cc) (hg : ∀ w ∈ GW, w.before args s = true) (hown : s.vm.findClass own = some m.cls) (hK : va_K κ.1 vwCl (kTy κ) s) (hT : TS (kbump κ 1 n) F σ0 σ s H locs) (ha : zk σ a 1) (hF : F 1 0 = true) (hh : zk σ h (100 + n)) (h1 : zN σ a < n) (h2 : n ≤ 1500) (h3 : n = 1500 ∨ 2 * zN σ a + 2 ≤ n) (hlink : (Cond.fieldLink own index "LiftingSignal$Whole" "limbs" "[I").before args s = true) (hdg : decode cc pc = .ok (.putfield index, 3))
    (kk : ∀ (H1 : Heap) (locs1 : List Loc) (τ : Gh), τ = zgrow σ a n → TS κ F σ0 τ s H1 locs1 → W p l e R s m args below meth c H1 locs1 cells slots Q (F0 m (pc + 3) ls rest)) : W p l e R s m args below meth c H locs cells slots Q (F0 m pc ls (.ref h :: .ref a :: rest)) := by
  obtain ⟨x, ho, hx9⟩ := hT.o1 ha
  have ho : va_at κ.1 vwCl (a, .inr (4, fs4 x (zI σ a))) H := ho
  have hc : vwCl[4]? = some (RX4, TX4, 3) := rfl
  have hap := va_apart (own := own) hg inX4 tyX4 tyX4_ok nmX4 hK hc
  obtain ⟨r, hr1, cell, q1, q2, q3, q4⟩ := ho
  have hr : r = (RX4, TX4, 3) := Option.some.inj (hr1.symm.trans hc)
  subst hr
  obtain ⟨hS, hfc, kC9, hkC, hkind⟩ := hK.1 4 _ hc
  obtain ⟨cf, kf, fi, f9, hi, hsl9⟩ := hS 0 (by decide)
  have hlay := hg _ (inX4 _ (u_in_lay (k := 0) (by decide)))
  unfold u_lay at hlay
  rw [if_neg (by decide)] at hlay
  have hst := (u_facts hfc hkC (u_lays hg inX4 (by decide)) hi).1
  have h6 := u_store hfc hkC hkind hlay hi (ty := .array .int) (v := .ref h) (by decide +kernel) rfl rfl
  refine W.putK hx hb (f := f9) ⟨hown, hlink, ⟨_, _, _, hi⟩, hst⟩ (by rw [q2]; exact h6) q1 q3 (by rw [hsl9]; exact k2_hasslot (q4 0 (by decide))) rfl rfl hdg fun H' e1 e2 e3 => ?_
  rw [hsl9] at e1 ⊢
  have hat : va_at κ.1 vwCl (a, .inr (4, fs4 h (zI σ a))) H' := ⟨_, hc, t_OB.to (V := updV (vp_V (fs4 x (zI σ a))) 0 (.ref h)) ⟨_, e1, q2, q3, t_set q4 hap (by decide) (.ref h)⟩ (fun j _ => vp_updV_set (fs := fs4 x (zI σ a)) (k := 0) (show 0 < 3 from by decide) (.ref h) j)⟩
  have hP := hT.P ha (by decide)
  have za : zT σ a = 1 := ha
  have hn9 : 2 ≤ zN σ a ∧ zN σ a ≤ 1500 := hP.1
  refine kk H' _ _ rfl ⟨fun x9 => ?_, ⟨hT.2.1.1, ?_, ?_⟩, ⟨hT.2.2.1.1, hT.2.2.1.2.1, hT.2.2.1.2.2.1, fun x9 hx8 hx7 => ?_⟩, hT.2.2.2.put e2 e3 (hT.A (by rw [za]; decide))⟩
  · by_cases ex : x9 = a
    · subst ex
      have e9 : zN (zgrow σ x9 n) x9 = n := zgrow_N rfl
      rw [e9]
      show zok κ (zT σ) H' x9 (zT σ x9) n (zI σ x9) (zJ σ x9)
      rw [za]
      refine Or.inr ⟨h, hat, ⟨⟨by have := hP.1.1; omega, h2⟩, ⟨hP.2.1.1, by have := hP.2.1.2; omega⟩, hP.2.2⟩, fun _ h => (by cases h), fun _ => hh⟩
    · have e9 : zN (zgrow σ a n) x9 = zN σ x9 := zgrow_No rfl ex
      rw [e9]
      exact (hT.1 x9).kept (fun _ => e3 x9 ex)
  · have hin := hT.2.1.1 a za
    have hs : H.size + zpc κ σ ≤ kC κ + 1 := hT.2.1.2.1
    have hd := sum_dec (f := fun x => pcl (zN σ x)) (g := fun x => pcl (zN (zgrow σ a n) x)) (d := 1) (kW κ) (fun x => by
      by_cases ex : x = a
      · subst ex; rw [zgrow_N rfl]; unfold pcl; omega
      · rw [zgrow_No rfl ex]; exact Nat.le_refl _) ⟨a, hin, by rw [zgrow_N rfl]; unfold pcl; rcases h3 with h3 | h3 <;> omega⟩
    have hd : zpc κ (zgrow σ a n) + 1 ≤ zpc κ σ := hd
    rw [e2]
    omega
  · have hin := hT.2.1.1 a za
    have hs : hsl H + zps κ σ ≤ kS κ + n := hT.2.1.2.2
    have hd := sum_dec (f := fun x => psl (zN σ x)) (g := fun x => psl (zN (zgrow σ a n) x)) (d := n) (kW κ) (fun x => by
      by_cases ex : x = a
      · subst ex; rw [zgrow_N rfl]; unfold psl; split <;> split <;> omega
      · rw [zgrow_No rfl ex]; exact Nat.le_refl _) ⟨a, hin, by rw [zgrow_N rfl]; unfold psl; have := hP.1.1; split <;> split <;> rcases h3 with h3 | h3 <;> omega⟩
    have hd : zps κ (zgrow σ a n) + n ≤ zps κ σ := hd
    rw [hsl_set q1 e1 (slots_setSlot _ _ _) e3]
    omega
  · by_cases ex : x9 = a
    · subst ex
      have e5 : zT σ x9 = zT σ0 x9 := hT.2.2.1.1 x9 hx8
      rw [← e5, za, hF] at hx7
      cases hx7
    · rw [zgrow_No rfl ex]
      exact hT.2.2.1.2.2.2 x9 hx8 hx7
theorem sizes_le {x : Nat} (h : x ≤ 1500) : x * componentBytes .int ≤ 536870912 := by
  show x * 4 ≤ 536870912
  omega
/-- a new int array -/
theorem tnewi (hx : p.tables.exec = Jvm.exec) (hb : c.code = cc) (harr : (Cond.arrayClass .int).before args s = true) (hK : va_K κ.1 vwCl (kTy κ) s) (hT : TS κ F σ0 σ s H locs) {n : Int32} (h2 : 2 ≤ n.toInt) (h3 : n.toInt ≤ 1500) (hc : H.size + 1 ≤ kC κ) (hs : hsl H + ix n ≤ kS κ) (hz9 : zroom κ s R cells slots) (hdg : decode cc pc = .ok (.newarray .int, 2))
    (kk : ∀ (q : Nat) (H1 : Heap) (τ : Gh), τ = znew σ q (100 + ix n) (fun _ => 0) → q = H.size → TS (kbump κ 1 (ix n)) F σ0 τ s H1 locs → W p l e R s m args below meth c H1 locs cells slots Q (F0 m (pc + 2) ls (.ref q :: rest))) : W p l e R s m args below meth c H locs cells slots Q (F0 m pc ls (.int n :: rest)) := by
  refine W.tight (fun w1 w2 w3 w4 => ?_)
  obtain ⟨z1, z2, z3, z4⟩ := hz9
  have hix : ix n = n.toInt.toNat := rfl
  refine va_newaK (atype := .int) hx hb harr rfl hdg rfl (fun q => by have := gi_lt q; rw [g_zero] at this; omega) (N := ix n) rfl (sizes_le (by omega)) (by omega) (by omega) rfl fun H1 cA e1 e2 e3 hAr hNm => ?_
  refine W.widen (k := cells) (n := slots) (by omega) (by omega) ?_
  have hcA : cA = kA κ 0 := by
    have h8 : s.vm.findClass ("[" ++ FieldType.int.toString) = some (kA κ 0) := (hK.2 0 (kA κ 0, .int) rfl).2
    exact Option.some.inj (hNm.symm.trans h8)
  have hfr : ∀ x, zT σ x ≠ 0 → x ≠ H.size := fun x h8 h7 => by have := hT.1.lt h8; omega
  have h0 : zT σ H.size = 0 := by
    by_cases h8 : zT σ H.size = 0
    · exact h8
    · exact absurd rfl (hfr _ h8)
  refine kk H.size H1 _ rfl rfl ⟨fun x => ?_, ⟨fun x h8 => ?_, ?_, ?_⟩, ⟨fun x h8 => ?_, fun x h8 => ?_, fun x k h8 h7 => ?_, hT.2.2.1.2.2.2⟩, ⟨Nat.le_trans hT.2.2.2.1 (by omega), fun q g1 g2 => (e3 q (Nat.lt_of_lt_of_le g1 hT.2.2.2.1)).trans (hT.2.2.2.2.1 q g1 g2), hT.2.2.2.2.2⟩⟩
  · by_cases ex : x = H.size
    · subst ex
      have t9 : zT (znew σ H.size (100 + ix n) (fun _ => 0)) H.size = 100 + ix n := znew_T rfl
      rw [t9]
      refine Or.inr ⟨0, ?_, zP_big, by rw [zR_big]; exact fun _ h => (by cases h), fun h => by omega⟩
      rw [zS_big]
      have i9 : zI (znew σ H.size (100 + ix n) (fun _ => 0)) H.size = fun _ => 0 := by simp [znew, zI]
      rw [i9]
      show H1[H.size]? = some (vp_cell _ _)
      rw [e1, hcA]
      rfl
    · have t9 : zT (znew σ H.size (100 + ix n) (fun _ => 0)) x = zT σ x := by simp [znew, zT, ex]
      have i9 : zI (znew σ H.size (100 + ix n) (fun _ => 0)) x = zI σ x := by simp [znew, zI, ex]
      rw [t9, i9]
      exact ((hT.1 x).more (fun y h8 => by simp [znew, zT, hfr y h8])).kept (fun h8 => e3 x (hT.1.lt h8))
  · have h8 : zT (znew σ H.size (100 + ix n) (fun _ => 0)) x = 1 := h8
    by_cases ex : x = H.size
    · subst ex
      rw [show zT (znew σ H.size (100 + ix n) (fun _ => 0)) H.size = 100 + ix n from znew_T rfl] at h8
      omega
    · have t9 : zT (znew σ H.size (100 + ix n) (fun _ => 0)) x = zT σ x := by simp [znew, zT, ex]
      rw [t9] at h8
      exact hT.2.1.1 x h8
  · have := hT.2.1.2.1
    show H1.size + zpc κ σ ≤ kC κ + 1
    omega
  · have h5 := hT.2.1.2.2
    show hsl H1 + zps κ σ ≤ kS κ + ix n
    have h4 := hsl_push e2 e1 e3
    rw [arrV_size] at h4
    omega
  · have e5 := hT.2.2.1.1 x h8
    have ex : x ≠ H.size := hfr x (by rw [e5]; exact h8)
    have t9 : zT (znew σ H.size (100 + ix n) (fun _ => 0)) x = zT σ x := by simp [znew, zT, ex]
    rw [t9]; exact e5
  · by_cases ex : x = H.size
    · exact Or.inr ⟨by rw [ex]; exact hT.2.2.2.1, by rw [ex, show zT (znew σ H.size (100 + ix n) (fun _ => 0)) H.size = 100 + ix n from znew_T rfl]; omega⟩
    · have t9 : zT (znew σ H.size (100 + ix n) (fun _ => 0)) x = zT σ x := by simp [znew, zT, ex]
      rw [t9] at h8 ⊢
      exact hT.2.2.1.2.1 x h8
  · have e5 := hT.2.2.1.1 x h8
    have ex : x ≠ H.size := hfr x (by rw [e5]; exact h8)
    have i9 : zI (znew σ H.size (100 + ix n) (fun _ => 0)) x = zI σ x := by simp [znew, zI, ex]
    rw [i9]
    exact hT.2.2.1.2.2.1 x k h8 h7
theorem tcopyi {b n0 n1 t0 : Nat} (hx : p.tables.exec = Jvm.exec) (hb : c.code = cc) (hml : c.maxLocals = ls.size) (hown : s.vm.findClass own = some m.cls) (hlink : (Cond.methodLink own index arraycopyName).before args s = true) (hnat : (Cond.native arraycopyName).before args s = true) (hstat : (Cond.static arraycopyName).before args s = true) (hini : (Cond.initialized "java/lang/System").before args s = true) (hK : va_K κ.1 vwCl (kTy κ) s) (hT : TS κ F σ0 σ s H locs)
    (hb0 : zk σ b t0) (ht0 : t0 ≠ 0) (hs0 : (∀ h f g, zS κ b t0 h f g = .inl (kA κ 0, n0, .inl f))) (ha : zk σ a t) (ht : t ≠ 0 ∧ t ≠ 1) (hs1 : (∀ h f g, zS κ a t h f g = .inl (kA κ 0, n1, .inl f))) (hPk : ∀ m f, zP t m f) (hF : ∀ k, F t k = true) {sp dp n : Int32} (h1 : 0 ≤ sp.toInt) (h2 : 0 ≤ dp.toInt) (h3 : 0 ≤ n.toInt) (h4 : sp.toInt + n.toInt ≤ n0) (h5 : dp.toInt + n.toInt ≤ n1)
    (hframes : 1 ≤ R.frames) (hlocals : (rest.map fun v => v.category).sum + (nativeFrameWords "java/lang/System" "arraycopy" 5 + 11) ≤ R.locals) (hdg : decode cc pc = .ok (.invokestatic index, 3))
    (kk : ∀ (H1 : Heap) (locs1 : List Loc) (τ : Gh), τ = zset σ a (va_cpy (zI σ b) (zI σ a) (ix sp) (ix dp) (ix n)) (zJ σ a) → TS κ F σ0 τ s H1 locs1 → W p l e R s m args below meth c H1 locs1 cells slots Q (F0 m (pc + 3) ls rest)) : W p l e R s m args below meth c H locs cells slots Q (F0 m pc ls (.int n :: .int dp :: .ref a :: .int sp :: .ref b :: rest)) := by
  intro T hTh X
  obtain ⟨x0, p0, -⟩ := hT.at hb0 ht0
  rw [hs0] at p0
  obtain ⟨x1, p1, -, q3, -⟩ := hT.at ha ht.1
  rw [hs1] at p1
  have hc0 : H[b]? = some (vp_cell (kA κ 0) (n0, .inl (zI σ b))) := p0
  have hc1 : H[a]? = some (vp_cell (kA κ 0) (n1, .inl (zI σ a))) := p1
  have ixs : ∀ z : Int32, 0 ≤ z.toInt → z.toInt = (z.toNatClampNeg : Int) := by
    intro z hz
    show z.toInt = ((z.toInt.toNat : Nat) : Int)
    omega
  have l0 := ixs sp h1
  have l1 := ixs dp h2
  have l2 := ixs n h3
  have neg : ∀ z : Int32, 0 ≤ z.toInt → ¬ z < 0 := fun z hz q => by have := gi_lt q; rw [g_zero] at this; omega
  obtain ⟨-, k0, hk0, cm0, hkk0⟩ := (hK.2 0 (kA κ 0, .int) rfl).1 n0 (fun j => .int (zI σ b j))
  obtain ⟨-, k1, hk1, cm1, hkk1⟩ := (hK.2 0 (kA κ 0, .int) rfl).1 n1 (fun j => .int (zI σ a j))
  obtain ⟨vm', X', step⟩ := X.arraycopy hx hown hlink hnat hstat hini (src := b) (dst := a) (cs := vp_cell (kA κ 0) (n0, .inl (zI σ b))) (cd := vp_cell (kA κ 0) (n1, .inl (zI σ a))) (srcPos := sp) (destPos := dp) (n := n) (by rw [hTh]; exact hc0) (by rw [hTh]; exact hc1)
    (fun _ h => by cases h) (fun _ h => by cases h) (fun h => by cases h) (fun h => by cases h) hk0 hk1 hkk0 hkk1 (by simp [show refKind .int = false from rfl]) (neg _ h1) (neg _ h2) (neg _ h3)
    (by show ¬ _ > ((arrV (kA κ 0) n0 (fun j => .int (zI σ b j))).slots.size : Int); rw [arrV_size]; omega)
    (by show ¬ _ > ((arrV (kA κ 0) n1 (fun j => .int (zI σ a j))).slots.size : Int); rw [arrV_size]; omega)
    (fun vm₁ _ i hi => by
      have e9 : (vp_cell (kA κ 0) (n0, .inl (zI σ b))).slots.getD (sp.toNatClampNeg + i) .null = .int (zI σ b (sp.toNatClampNeg + i)) := by
        show (arrV (kA κ 0) n0 (fun j => .int (zI σ b j))).slots.getD _ _ = _
        rw [Array.getD_eq_getD_getElem?, arrV_read _ _ (by omega)]
        rfl
      refine ⟨?_, ?_⟩
      · rw [e9]; rfl
      · rw [e9]; exact trivial)
    (g := F0 m pc ls (.int n :: .int dp :: .ref a :: .int sp :: .ref b :: rest)) rfl (by rw [hml]) (rest := rest) rfl (by rw [hb]; exact hdg) hframes (by show 2 * 0 + _ + _ ≤ _; omega)
  have e1 : copied (vp_cell (kA κ 0) (n0, .inl (zI σ b))) (vp_cell (kA κ 0) (n1, .inl (zI σ a))) sp dp n = vp_cell (kA κ 0) (n1, .inl (va_cpy (zI σ b) (zI σ a) (ix sp) (ix dp) (ix n))) := va_copied (fun z => .int z) (kA κ 0) (kA κ 0) (zI σ b) (zI σ a) (by omega)
  rw [e1] at X' step
  have hl : a < H.size := (Array.getElem?_eq_some_iff.mp hc1).1
  have hheap : ((T.setVm vm').setCell a (vp_cell (kA κ 0) (n1, .inl (va_cpy (zI σ b) (zI σ a) (ix sp) (ix dp) (ix n))))).heap = H.setIfInBounds a (vp_cell (kA κ 0) (n1, .inl (va_cpy (zI σ b) (zI σ a) (ix sp) (ix dp) (ix n)))) := by rw [← hTh]; rfl
  have oq : ∀ q : Nat, q ≠ a → (H.setIfInBounds a (vp_cell (kA κ 0) (n1, .inl (va_cpy (zI σ b) (zI σ a) (ix sp) (ix dp) (ix n)))))[q]? = H[q]? := fun q hq => by simp [Array.getElem?_setIfInBounds, Ne.symm hq]
  have hn : (H.setIfInBounds a (vp_cell (kA κ 0) (n1, .inl (va_cpy (zI σ b) (zI σ a) (ix sp) (ix dp) (ix n)))))[a]? = some (vp_cell (kA κ 0) (n1, .inl (va_cpy (zI σ b) (zI σ a) (ix sp) (ix dp) (ix n)))) := by simp [Array.getElem?_setIfInBounds, hl]
  have za : zT σ a = t := ha
  have hne : zT σ a ≠ 0 := by rw [za]; exact ht.1
  have hsz : (vp_cell (kA κ 0) (n1, .inl (va_cpy (zI σ b) (zI σ a) (ix sp) (ix dp) (ix n)))).slots.size = (vp_cell (kA κ 0) (n1, .inl (zI σ a))).slots.size := by
    show (arrV _ _ _).slots.size = (arrV _ _ _).slots.size
    rw [arrV_size, arrV_size]
  have hok : zok κ (zT σ) (H.setIfInBounds a (vp_cell (kA κ 0) (n1, .inl (va_cpy (zI σ b) (zI σ a) (ix sp) (ix dp) (ix n))))) a (zT σ a) (zN σ a) (va_cpy (zI σ b) (zI σ a) (ix sp) (ix dp) (ix n)) (zJ σ a) := by
    rw [za]
    refine Or.inr ⟨x1, ?_, hPk _ _, q3, fun q => absurd q ht.2⟩
    rw [hs1]
    exact hn
  have hFa : ∀ j, F (zT σ a) j = false → (va_cpy (zI σ b) (zI σ a) (ix sp) (ix dp) (ix n)) j = zI σ a j ∧ zJ σ a j = zJ σ a j := fun j hj => by
    rw [za, hF j] at hj; cases hj
  have kk2 := fun hh => kk _ _ (zset σ a (va_cpy (zI σ b) (zI σ a) (ix sp) (ix dp) (ix n)) (zJ σ a)) rfl hh _ hheap X'
  obtain ⟨t9, a1, b1⟩ := kk2 ⟨hT.1.set oq hok, ⟨hT.2.1.1, by rw [Array.size_setIfInBounds]; exact hT.2.1.2.1, by rw [hsl_set hc1 hn hsz oq]; exact hT.2.1.2.2⟩, hT.2.2.1.set hFa, ⟨by rw [Array.size_setIfInBounds]; exact hT.2.2.2.1, fun q g1 g2 => by
      rw [oq q (fun e9 => g2 (by rw [e9]; exact hT.A hne))]
      exact hT.2.2.2.2.1 q g1 g2, fun q hq => by
      rcases List.mem_append.mp hq with h | h
      · exact hT.2.2.2.2.2 q h
      · obtain ⟨z, -, hz⟩ := List.mem_map.mp h
        rw [← hz]
        exact hT.A (a := a) hne⟩⟩
  exact ⟨t9, step t9 a1, b1⟩
theorem tcopyl {b n0 n1 t0 : Nat} (hx : p.tables.exec = Jvm.exec) (hb : c.code = cc) (hml : c.maxLocals = ls.size) (hown : s.vm.findClass own = some m.cls) (hlink : (Cond.methodLink own index arraycopyName).before args s = true) (hnat : (Cond.native arraycopyName).before args s = true) (hstat : (Cond.static arraycopyName).before args s = true) (hini : (Cond.initialized "java/lang/System").before args s = true) (hK : va_K κ.1 vwCl (kTy κ) s) (hT : TS κ F σ0 σ s H locs)
    (hb0 : zk σ b t0) (ht0 : t0 ≠ 0) (hs0 : (∀ h f g, zS κ b t0 h f g = .inl (kA κ 1, n0, .inr (.inl g)))) (ha : zk σ a t) (ht : t ≠ 0 ∧ t ≠ 1) (hs1 : (∀ h f g, zS κ a t h f g = .inl (kA κ 1, n1, .inr (.inl g)))) (hPk : ∀ m f, zP t m f) (hF : ∀ k, F t k = true) {sp dp n : Int32} (h1 : 0 ≤ sp.toInt) (h2 : 0 ≤ dp.toInt) (h3 : 0 ≤ n.toInt) (h4 : sp.toInt + n.toInt ≤ n0) (h5 : dp.toInt + n.toInt ≤ n1)
    (hframes : 1 ≤ R.frames) (hlocals : (rest.map fun v => v.category).sum + (nativeFrameWords "java/lang/System" "arraycopy" 5 + 11) ≤ R.locals) (hdg : decode cc pc = .ok (.invokestatic index, 3))
    (kk : ∀ (H1 : Heap) (locs1 : List Loc) (τ : Gh), τ = zset σ a (zI σ a) (va_cpy (zJ σ b) (zJ σ a) (ix sp) (ix dp) (ix n)) → TS κ F σ0 τ s H1 locs1 → W p l e R s m args below meth c H1 locs1 cells slots Q (F0 m (pc + 3) ls rest)) : W p l e R s m args below meth c H locs cells slots Q (F0 m pc ls (.int n :: .int dp :: .ref a :: .int sp :: .ref b :: rest)) := by
  intro T hTh X
  obtain ⟨x0, p0, -⟩ := hT.at hb0 ht0
  rw [hs0] at p0
  obtain ⟨x1, p1, -, q3, -⟩ := hT.at ha ht.1
  rw [hs1] at p1
  have hc0 : H[b]? = some (vp_cell (kA κ 1) (n0, .inr (.inl (zJ σ b)))) := p0
  have hc1 : H[a]? = some (vp_cell (kA κ 1) (n1, .inr (.inl (zJ σ a)))) := p1
  have ixs : ∀ z : Int32, 0 ≤ z.toInt → z.toInt = (z.toNatClampNeg : Int) := by
    intro z hz
    show z.toInt = ((z.toInt.toNat : Nat) : Int)
    omega
  have l0 := ixs sp h1
  have l1 := ixs dp h2
  have l2 := ixs n h3
  have neg : ∀ z : Int32, 0 ≤ z.toInt → ¬ z < 0 := fun z hz q => by have := gi_lt q; rw [g_zero] at this; omega
  obtain ⟨-, k0, hk0, cm0, hkk0⟩ := (hK.2 1 (kA κ 1, .long) rfl).1 n0 (fun j => .long (zJ σ b j))
  obtain ⟨-, k1, hk1, cm1, hkk1⟩ := (hK.2 1 (kA κ 1, .long) rfl).1 n1 (fun j => .long (zJ σ a j))
  obtain ⟨vm', X', step⟩ := X.arraycopy hx hown hlink hnat hstat hini (src := b) (dst := a) (cs := vp_cell (kA κ 1) (n0, .inr (.inl (zJ σ b)))) (cd := vp_cell (kA κ 1) (n1, .inr (.inl (zJ σ a)))) (srcPos := sp) (destPos := dp) (n := n) (by rw [hTh]; exact hc0) (by rw [hTh]; exact hc1)
    (fun _ h => by cases h) (fun _ h => by cases h) (fun h => by cases h) (fun h => by cases h) hk0 hk1 hkk0 hkk1 (by simp [show refKind .long = false from rfl]) (neg _ h1) (neg _ h2) (neg _ h3)
    (by show ¬ _ > ((arrV (kA κ 1) n0 (fun j => .long (zJ σ b j))).slots.size : Int); rw [arrV_size]; omega)
    (by show ¬ _ > ((arrV (kA κ 1) n1 (fun j => .long (zJ σ a j))).slots.size : Int); rw [arrV_size]; omega)
    (fun vm₁ _ i hi => by
      have e9 : (vp_cell (kA κ 1) (n0, .inr (.inl (zJ σ b)))).slots.getD (sp.toNatClampNeg + i) .null = .long (zJ σ b (sp.toNatClampNeg + i)) := by
        show (arrV (kA κ 1) n0 (fun j => .long (zJ σ b j))).slots.getD _ _ = _
        rw [Array.getD_eq_getD_getElem?, arrV_read _ _ (by omega)]
        rfl
      refine ⟨?_, ?_⟩
      · rw [e9]; rfl
      · rw [e9]; exact trivial)
    (g := F0 m pc ls (.int n :: .int dp :: .ref a :: .int sp :: .ref b :: rest)) rfl (by rw [hml]) (rest := rest) rfl (by rw [hb]; exact hdg) hframes (by show 2 * 0 + _ + _ ≤ _; omega)
  have e1 : copied (vp_cell (kA κ 1) (n0, .inr (.inl (zJ σ b)))) (vp_cell (kA κ 1) (n1, .inr (.inl (zJ σ a)))) sp dp n = vp_cell (kA κ 1) (n1, .inr (.inl (va_cpy (zJ σ b) (zJ σ a) (ix sp) (ix dp) (ix n)))) := va_copied (fun z => .long z) (kA κ 1) (kA κ 1) (zJ σ b) (zJ σ a) (by omega)
  rw [e1] at X' step
  have hl : a < H.size := (Array.getElem?_eq_some_iff.mp hc1).1
  have hheap : ((T.setVm vm').setCell a (vp_cell (kA κ 1) (n1, .inr (.inl (va_cpy (zJ σ b) (zJ σ a) (ix sp) (ix dp) (ix n)))))).heap = H.setIfInBounds a (vp_cell (kA κ 1) (n1, .inr (.inl (va_cpy (zJ σ b) (zJ σ a) (ix sp) (ix dp) (ix n))))) := by rw [← hTh]; rfl
  have oq : ∀ q : Nat, q ≠ a → (H.setIfInBounds a (vp_cell (kA κ 1) (n1, .inr (.inl (va_cpy (zJ σ b) (zJ σ a) (ix sp) (ix dp) (ix n))))))[q]? = H[q]? := fun q hq => by simp [Array.getElem?_setIfInBounds, Ne.symm hq]
  have hn : (H.setIfInBounds a (vp_cell (kA κ 1) (n1, .inr (.inl (va_cpy (zJ σ b) (zJ σ a) (ix sp) (ix dp) (ix n))))))[a]? = some (vp_cell (kA κ 1) (n1, .inr (.inl (va_cpy (zJ σ b) (zJ σ a) (ix sp) (ix dp) (ix n))))) := by simp [Array.getElem?_setIfInBounds, hl]
  have za : zT σ a = t := ha
  have hne : zT σ a ≠ 0 := by rw [za]; exact ht.1
  have hsz : (vp_cell (kA κ 1) (n1, .inr (.inl (va_cpy (zJ σ b) (zJ σ a) (ix sp) (ix dp) (ix n))))).slots.size = (vp_cell (kA κ 1) (n1, .inr (.inl (zJ σ a)))).slots.size := by
    show (arrV _ _ _).slots.size = (arrV _ _ _).slots.size
    rw [arrV_size, arrV_size]
  have hok : zok κ (zT σ) (H.setIfInBounds a (vp_cell (kA κ 1) (n1, .inr (.inl (va_cpy (zJ σ b) (zJ σ a) (ix sp) (ix dp) (ix n)))))) a (zT σ a) (zN σ a) (zI σ a) (va_cpy (zJ σ b) (zJ σ a) (ix sp) (ix dp) (ix n)) := by
    rw [za]
    refine Or.inr ⟨x1, ?_, hPk _ _, q3, fun q => absurd q ht.2⟩
    rw [hs1]
    exact hn
  have hFa : ∀ j, F (zT σ a) j = false → zI σ a j = zI σ a j ∧ (va_cpy (zJ σ b) (zJ σ a) (ix sp) (ix dp) (ix n)) j = zJ σ a j := fun j hj => by
    rw [za, hF j] at hj; cases hj
  have kk2 := fun hh => kk _ _ (zset σ a (zI σ a) (va_cpy (zJ σ b) (zJ σ a) (ix sp) (ix dp) (ix n))) rfl hh _ hheap X'
  obtain ⟨t9, a1, b1⟩ := kk2 ⟨hT.1.set oq hok, ⟨hT.2.1.1, by rw [Array.size_setIfInBounds]; exact hT.2.1.2.1, by rw [hsl_set hc1 hn hsz oq]; exact hT.2.1.2.2⟩, hT.2.2.1.set hFa, ⟨by rw [Array.size_setIfInBounds]; exact hT.2.2.2.1, fun q g1 g2 => by
      rw [oq q (fun e9 => g2 (by rw [e9]; exact hT.A hne))]
      exact hT.2.2.2.2.1 q g1 g2, fun q hq => by
      rcases List.mem_append.mp hq with h | h
      · exact hT.2.2.2.2.2 q h
      · obtain ⟨z, -, hz⟩ := List.mem_map.mp h
        rw [← hz]
        exact hT.A (a := a) hne⟩⟩
  exact ⟨t9, step t9 a1, b1⟩
end TMD
