/-! The constructor of a LiftingSignal -/
theorem k110 : Cond.methodLink RX5 3 objectInit ∈ GW := gm 110 (by decide +kernel) (by decide +kernel)
theorem k113 : Cond.classLink RX5 9 RX3 ∈ GW := gm 113 (by decide +kernel) (by decide +kernel)
theorem k114 : Cond.instantiable RX3 8 ∈ GW := gm 114 (by decide +kernel) (by decide +kernel)
theorem k116 : Cond.instanceMethod yX3_init ∈ GW := gm 116 (by decide +kernel) (by decide +kernel)
theorem k117 : Cond.code yX3_init cX3_init 1 none ∈ GW := gm 117 (by decide +kernel) (by decide +kernel)
theorem k148 : Cond.classLink RX5 16 RX0 ∈ GW := gm 148 (by decide +kernel) (by decide +kernel)
theorem k149 : Cond.instantiable RX0 7 ∈ GW := gm 149 (by decide +kernel) (by decide +kernel)
theorem k151 : Cond.instanceMethod yX0_init ∈ GW := gm 151 (by decide +kernel) (by decide +kernel)
theorem k152 : Cond.code yX0_init cX0_init 1 none ∈ GW := gm 152 (by decide +kernel) (by decide +kernel)
theorem k194 : Cond.classLink RX5 26 RX1 ∈ GW := gm 194 (by decide +kernel) (by decide +kernel)
theorem k195 : Cond.instantiable RX1 13 ∈ GW := gm 195 (by decide +kernel) (by decide +kernel)
theorem k196 : Cond.methodLink RX5 28 yX1_init ∈ GW := gm 196 (by decide +kernel) (by decide +kernel)
theorem k197 : Cond.instanceMethod yX1_init ∈ GW := gm 197 (by decide +kernel) (by decide +kernel)
theorem k198 : Cond.code yX1_init cX1_init 3 none ∈ GW := gm 198 (by decide +kernel) (by decide +kernel)
theorem k328 : Cond.methodLink RX5 56 yX0_addSample ∈ GW := gm 328 (by decide +kernel) (by decide +kernel)
theorem k410 : Cond.arrayClass .boolean ∈ GW := gm 410 (by decide +kernel) (by decide +kernel)
theorem dX5_init_0 : decode cX5_init 0 = .ok (.aload_n 0, 1) := by decide +kernel
theorem dX5_init_1 : decode cX5_init 1 = .ok (.invokespecial 3, 3) := by decide +kernel
theorem dX5_init_4 : decode cX5_init 4 = .ok (.aload_n 0, 1) := by decide +kernel
theorem dX5_init_5 : decode cX5_init 5 = .ok (.new 9, 3) := by decide +kernel
theorem dX5_init_8 : decode cX5_init 8 = .ok (.dup, 1) := by decide +kernel
theorem dX5_init_9 : decode cX5_init 9 = .ok (.invokespecial 11, 3) := by decide +kernel
theorem dX5_init_12 : decode cX5_init 12 = .ok (.putfield 12, 3) := by decide +kernel
theorem dX5_init_15 : decode cX5_init 15 = .ok (.aload_n 0, 1) := by decide +kernel
theorem dX5_init_16 : decode cX5_init 16 = .ok (.new 16, 3) := by decide +kernel
theorem dX5_init_19 : decode cX5_init 19 = .ok (.dup, 1) := by decide +kernel
theorem dX5_init_20 : decode cX5_init 20 = .ok (.invokespecial 18, 3) := by decide +kernel
theorem dX5_init_23 : decode cX5_init 23 = .ok (.putfield 19, 3) := by decide +kernel
theorem dX5_init_26 : decode cX5_init 26 = .ok (.aload_n 0, 1) := by decide +kernel
theorem dX5_init_27 : decode cX5_init 27 = .ok (.new 16, 3) := by decide +kernel
theorem dX5_init_30 : decode cX5_init 30 = .ok (.dup, 1) := by decide +kernel
theorem dX5_init_31 : decode cX5_init 31 = .ok (.invokespecial 18, 3) := by decide +kernel
theorem dX5_init_34 : decode cX5_init 34 = .ok (.putfield 23, 3) := by decide +kernel
theorem dX5_init_37 : decode cX5_init 37 = .ok (.aload_n 0, 1) := by decide +kernel
theorem dX5_init_38 : decode cX5_init 38 = .ok (.new 26, 3) := by decide +kernel
theorem dX5_init_41 : decode cX5_init 41 = .ok (.dup, 1) := by decide +kernel
theorem dX5_init_42 : decode cX5_init 42 = .ok (.aload_n 0, 1) := by decide +kernel
theorem dX5_init_43 : decode cX5_init 43 = .ok (.getfield 19, 3) := by decide +kernel
theorem dX5_init_46 : decode cX5_init 46 = .ok (.invokespecial 28, 3) := by decide +kernel
theorem dX5_init_49 : decode cX5_init 49 = .ok (.putfield 31, 3) := by decide +kernel
theorem dX5_init_52 : decode cX5_init 52 = .ok (.aload_n 0, 1) := by decide +kernel
theorem dX5_init_53 : decode cX5_init 53 = .ok (.new 26, 3) := by decide +kernel
theorem dX5_init_56 : decode cX5_init 56 = .ok (.dup, 1) := by decide +kernel
theorem dX5_init_57 : decode cX5_init 57 = .ok (.aload_n 0, 1) := by decide +kernel
theorem dX5_init_58 : decode cX5_init 58 = .ok (.getfield 19, 3) := by decide +kernel
theorem dX5_init_61 : decode cX5_init 61 = .ok (.invokespecial 28, 3) := by decide +kernel
theorem dX5_init_64 : decode cX5_init 64 = .ok (.putfield 35, 3) := by decide +kernel
theorem dX5_init_67 : decode cX5_init 67 = .ok (.aload_n 0, 1) := by decide +kernel
theorem dX5_init_68 : decode cX5_init 68 = .ok (.iconst 2, 1) := by decide +kernel
theorem dX5_init_69 : decode cX5_init 69 = .ok (.anewarray 26, 3) := by decide +kernel
theorem dX5_init_72 : decode cX5_init 72 = .ok (.dup, 1) := by decide +kernel
theorem dX5_init_73 : decode cX5_init 73 = .ok (.iconst 0, 1) := by decide +kernel
theorem dX5_init_74 : decode cX5_init 74 = .ok (.new 26, 3) := by decide +kernel
theorem dX5_init_77 : decode cX5_init 77 = .ok (.dup, 1) := by decide +kernel
theorem dX5_init_78 : decode cX5_init 78 = .ok (.aload_n 0, 1) := by decide +kernel
theorem dX5_init_79 : decode cX5_init 79 = .ok (.getfield 19, 3) := by decide +kernel
theorem dX5_init_82 : decode cX5_init 82 = .ok (.invokespecial 28, 3) := by decide +kernel
theorem dX5_init_85 : decode cX5_init 85 = .ok (.aastore, 1) := by decide +kernel
theorem dX5_init_86 : decode cX5_init 86 = .ok (.dup, 1) := by decide +kernel
theorem dX5_init_87 : decode cX5_init 87 = .ok (.iconst 1, 1) := by decide +kernel
theorem dX5_init_88 : decode cX5_init 88 = .ok (.new 26, 3) := by decide +kernel
theorem dX5_init_91 : decode cX5_init 91 = .ok (.dup, 1) := by decide +kernel
theorem dX5_init_92 : decode cX5_init 92 = .ok (.aload_n 0, 1) := by decide +kernel
theorem dX5_init_93 : decode cX5_init 93 = .ok (.getfield 19, 3) := by decide +kernel
theorem dX5_init_96 : decode cX5_init 96 = .ok (.invokespecial 28, 3) := by decide +kernel
theorem dX5_init_99 : decode cX5_init 99 = .ok (.aastore, 1) := by decide +kernel
theorem dX5_init_100 : decode cX5_init 100 = .ok (.putfield 38, 3) := by decide +kernel
theorem dX5_init_103 : decode cX5_init 103 = .ok (.aload_n 0, 1) := by decide +kernel
theorem dX5_init_104 : decode cX5_init 104 = .ok (.iconst 2, 1) := by decide +kernel
theorem dX5_init_105 : decode cX5_init 105 = .ok (.newarray .boolean, 2) := by decide +kernel
theorem dX5_init_107 : decode cX5_init 107 = .ok (.putfield 42, 3) := by decide +kernel
theorem dX5_init_110 : decode cX5_init 110 = .ok (.aload_n 0, 1) := by decide +kernel
theorem dX5_init_111 : decode cX5_init 111 = .ok (.iconst 0, 1) := by decide +kernel
theorem dX5_init_112 : decode cX5_init 112 = .ok (.putfield 46, 3) := by decide +kernel
theorem dX5_init_115 : decode cX5_init 115 = .ok (.aload_n 0, 1) := by decide +kernel
theorem dX5_init_116 : decode cX5_init 116 = .ok (.iconst 0, 1) := by decide +kernel
theorem dX5_init_117 : decode cX5_init 117 = .ok (.putfield 50, 3) := by decide +kernel
theorem dX5_init_120 : decode cX5_init 120 = .ok (.aload_n 0, 1) := by decide +kernel
theorem dX5_init_121 : decode cX5_init 121 = .ok (.iconst (-1), 1) := by decide +kernel
theorem dX5_init_122 : decode cX5_init 122 = .ok (.putfield 53, 3) := by decide +kernel
theorem dX5_init_125 : decode cX5_init 125 = .ok (.aload_n 0, 1) := by decide +kernel
theorem dX5_init_126 : decode cX5_init 126 = .ok (.getfield 19, 3) := by decide +kernel
theorem dX5_init_129 : decode cX5_init 129 = .ok (.iconst 0, 1) := by decide +kernel
theorem dX5_init_130 : decode cX5_init 130 = .ok (.iconst 0, 1) := by decide +kernel
theorem dX5_init_131 : decode cX5_init 131 = .ok (.invokevirtual 56, 3) := by decide +kernel
theorem dX5_init_134 : decode cX5_init 134 = .ok (.aload_n 0, 1) := by decide +kernel
theorem dX5_init_135 : decode cX5_init 135 = .ok (.getfield 19, 3) := by decide +kernel
theorem dX5_init_138 : decode cX5_init 138 = .ok (.iconst 1, 1) := by decide +kernel
theorem dX5_init_139 : decode cX5_init 139 = .ok (.iconst 0, 1) := by decide +kernel
theorem dX5_init_140 : decode cX5_init 140 = .ok (.invokevirtual 56, 3) := by decide +kernel
theorem dX5_init_143 : decode cX5_init 143 = .ok (.aload_n 0, 1) := by decide +kernel
theorem dX5_init_144 : decode cX5_init 144 = .ok (.getfield 31, 3) := by decide +kernel
theorem dX5_init_147 : decode cX5_init 147 = .ok (.invokevirtual 60, 3) := by decide +kernel
theorem dX5_init_150 : decode cX5_init 150 = .ok (.aload_n 0, 1) := by decide +kernel
theorem dX5_init_151 : decode cX5_init 151 = .ok (.getfield 31, 3) := by decide +kernel
theorem dX5_init_154 : decode cX5_init 154 = .ok (.invokevirtual 63, 3) := by decide +kernel
theorem dX5_init_157 : decode cX5_init 157 = .ok (.return_, 1) := by decide +kernel
set_option maxHeartbeats 4000000 in
set_option maxRecDepth 100000 in
theorem W0_add0 (l : Launch) (κ : Kt) (this : Nat) (h : Nat) (h2 : Nat) (d1 : this ≠ h) (d2 : this ≠ h2) (d3 : h ≠ h2) : XC l yX0_addSample cX0_addSample 3 0 0 0 0 [.ref this, .int 0, .int 0] κ [this, h, h2] (fun H => va_at κ.1 vwCl (this, .inr (0, [.ref h, .ref h2, .int 0, .int 0, .int 2, .int 1, .int 2])) H ∧ va_at κ.1 vwCl (h, .inl (kA κ 0, 48, .inl (fun _ => 0))) H ∧ va_at κ.1 vwCl (h2, .inl (kA κ 0, 48, .inl (fun _ => 0))) H) (fun sz su H => H.size = sz + 0 ∧ va_at κ.1 vwCl (this, .inr (0, [.ref h, .ref h2, .int 1, .int 0, .int 2, .int 1, .int 2])) H ∧ va_at κ.1 vwCl (h, .inl (kA κ 0, 48, .inl (upd ((fun _ => 0)) 0 0))) H ∧ va_at κ.1 vwCl (h2, .inl (kA κ 0, 48, .inl (upd ((fun _ => 0)) 0 0))) H) := by
  refine XC.of (by decide +kernel) (Nat.le_of_ble_eq_true rfl) ?_
  intro p e s m below meth c ls hcs hpre hK hX hS hl
  obtain ⟨hx, hb, hr, hml, hown, hg, hlocks, hin⟩ := hcs
  have hown : s.vm.findClass RX0 = some m.cls := hown
  have hl : lv_has ls 3 [(0, .ref this), (1, .int 0), (2, .int 0)] := hl
  obtain ⟨f0, f1, f2⟩ := hpre
  have lt_this : this < s.heap.size := f0.lt
  have lt_h : h < s.heap.size := f1.lt
  have lt_h2 : h2 < s.heap.size := f2.lt
  have hz : s.heap.size = s.heap.size + 0 := rfl
  refine lv_aload_n hx hb dX0_addSample_0 rfl (lv_at hl 0 rfl) ?_
  refine va_get (D := κ.1) (ci := 0) (v := .int 0) (C := RX0) (T := TX0) (N := 7) hx hb hg inX0 hown hK f0.one 0 rfl rfl 2 (by decide) (hg _ k161) (fun _ h9 => h9) rfl dX0_addSample_1 ?_
  refine lv_bipush (v := 48) hx hb dX0_addSample_4 (by decide) ?_
  refine lv_icmp_ge (tgt := 39) hx hb dX0_addSample_6 (by decide) (fun c9 => absurd c9 (by decide)) (fun _ => ?_)
  refine lv_aload_n hx hb dX0_addSample_9 rfl (lv_at hl 0 rfl) ?_
  refine va_get (D := κ.1) (ci := 0) (v := .ref h) (C := RX0) (T := TX0) (N := 7) hx hb hg inX0 hown hK f0.one 0 rfl rfl 0 (by decide) (hg _ k154) (fun _ h9 => h9) rfl dX0_addSample_10 ?_
  refine lv_aload_n hx hb dX0_addSample_13 rfl (lv_at hl 0 rfl) ?_
  refine va_get (D := κ.1) (ci := 0) (v := .int 0) (C := RX0) (T := TX0) (N := 7) hx hb hg inX0 hown hK f0.one 0 rfl rfl 2 (by decide) (hg _ k161) (fun _ h9 => h9) rfl dX0_addSample_14 ?_
  refine lv_iload_n hx hb dX0_addSample_17 rfl (lv_at hl 1 rfl) ?_
  refine xiast hx hb hK hS (Or.inl (by simp)) f1 (vin (by decide)) dX0_addSample_18 (fun H locs g f1 hS2 => ?_)
  replace hS := hS2
  clear hS2
  replace f0 := g.kept f0 (show this ≠ h from (by omega))
  replace f2 := g.kept f2 (show h2 ≠ h from (by omega))
  replace hz := g.1.trans hz
  clear g
  replace f1 : va_at κ.1 vwCl (h, .inl (kA κ 0, 48, .inl (upd ((fun _ => 0)) 0 0))) H := f1
  refine lv_aload_n hx hb dX0_addSample_19 rfl (lv_at hl 0 rfl) ?_
  refine va_get (D := κ.1) (ci := 0) (v := .ref h2) (C := RX0) (T := TX0) (N := 7) hx hb hg inX0 hown hK f0.one 0 rfl rfl 1 (by decide) (hg _ k158) (fun _ h9 => h9) rfl dX0_addSample_20 ?_
  refine lv_aload_n hx hb dX0_addSample_23 rfl (lv_at hl 0 rfl) ?_
  refine va_get (D := κ.1) (ci := 0) (v := .int 0) (C := RX0) (T := TX0) (N := 7) hx hb hg inX0 hown hK f0.one 0 rfl rfl 2 (by decide) (hg _ k161) (fun _ h9 => h9) rfl dX0_addSample_24 ?_
  refine lv_iload_n hx hb dX0_addSample_27 rfl (lv_at hl 2 rfl) ?_
  refine xiast hx hb hK hS (Or.inl (by simp)) f2 (vin (by decide)) dX0_addSample_28 (fun H locs g f2 hS2 => ?_)
  replace hS := hS2
  clear hS2
  replace f0 := g.kept f0 (show this ≠ h2 from (by omega))
  replace f1 := g.kept f1 (show h ≠ h2 from (by omega))
  replace hz := g.1.trans hz
  clear g
  replace f2 : va_at κ.1 vwCl (h2, .inl (kA κ 0, 48, .inl (upd ((fun _ => 0)) 0 0))) H := f2
  refine lv_aload_n hx hb dX0_addSample_29 rfl (lv_at hl 0 rfl) ?_
  refine lv_dup hx hb dX0_addSample_30 rfl ?_
  refine va_get (D := κ.1) (ci := 0) (v := .int 0) (C := RX0) (T := TX0) (N := 7) hx hb hg inX0 hown hK f0.one 0 rfl rfl 2 (by decide) (hg _ k161) (fun _ h9 => h9) rfl dX0_addSample_31 ?_
  refine lv_iconst (v := 1) hx hb dX0_addSample_34 (by decide) ?_
  refine lv_iadd hx hb dX0_addSample_35 ?_
  refine ti (1) (by decide) ?_
  refine xput (cn := 0) (v := .int 1) (ty := .int) (C := RX0) (T := TX0) (N := 7) hx hb hg inX0 tyX0 tyX0_ok nmX0 hown hK hS (Or.inl (by simp)) f0 rfl 2 (by decide) (hg _ k161) (fun _ h9 => h9) rfl (by decide +kernel) rfl rfl (Nat.le_of_ble_eq_true rfl) dX0_addSample_36 (fun H locs g f0 hS2 => ?_)
  replace hS := hS2
  clear hS2
  replace f1 := g.kept f1 (show h ≠ this from (by omega))
  replace f2 := g.kept f2 (show h2 ≠ this from (by omega))
  replace f0 : va_at κ.1 vwCl (this, .inr (0, [.ref h, .ref h2, .int 1, .int 0, .int 2, .int 1, .int 2])) H := f0
  replace hz := g.1.trans hz
  clear g
  exact xret (Post := (fun sz su H => H.size = sz + 0 ∧ va_at κ.1 vwCl (this, .inr (0, [.ref h, .ref h2, .int 1, .int 0, .int 2, .int 1, .int 2])) H ∧ va_at κ.1 vwCl (h, .inl (kA κ 0, 48, .inl (upd ((fun _ => 0)) 0 0))) H ∧ va_at κ.1 vwCl (h2, .inl (kA κ 0, 48, .inl (upd ((fun _ => 0)) 0 0))) H)) hx hb hr hlocks hS ⟨by omega, f0, f1, f2⟩ (Nat.le_of_ble_eq_true rfl) (Nat.le_of_ble_eq_true rfl) dX0_addSample_39
set_option maxHeartbeats 4000000 in
set_option maxRecDepth 100000 in
theorem W0_add1 (l : Launch) (κ : Kt) (this : Nat) (h : Nat) (h2 : Nat) (d1 : this ≠ h) (d2 : this ≠ h2) (d3 : h ≠ h2) : XC l yX0_addSample cX0_addSample 3 0 0 0 0 [.ref this, .int 1, .int 0] κ [this, h, h2] (fun H => va_at κ.1 vwCl (this, .inr (0, [.ref h, .ref h2, .int 1, .int 0, .int 2, .int 1, .int 2])) H ∧ va_at κ.1 vwCl (h, .inl (kA κ 0, 48, .inl (upd ((fun _ => 0)) 0 0))) H ∧ va_at κ.1 vwCl (h2, .inl (kA κ 0, 48, .inl (upd ((fun _ => 0)) 0 0))) H) (fun sz su H => H.size = sz + 0 ∧ va_at κ.1 vwCl (this, .inr (0, [.ref h, .ref h2, .int 2, .int 0, .int 2, .int 1, .int 2])) H ∧ va_at κ.1 vwCl (h, .inl (kA κ 0, 48, .inl (upd ((upd ((fun _ => 0)) 0 0)) 1 1))) H ∧ va_at κ.1 vwCl (h2, .inl (kA κ 0, 48, .inl (upd ((upd ((fun _ => 0)) 0 0)) 1 0))) H) := by
  refine XC.of (by decide +kernel) (Nat.le_of_ble_eq_true rfl) ?_
  intro p e s m below meth c ls hcs hpre hK hX hS hl
  obtain ⟨hx, hb, hr, hml, hown, hg, hlocks, hin⟩ := hcs
  have hown : s.vm.findClass RX0 = some m.cls := hown
  have hl : lv_has ls 3 [(0, .ref this), (1, .int 1), (2, .int 0)] := hl
  obtain ⟨f0, f1, f2⟩ := hpre
  have lt_this : this < s.heap.size := f0.lt
  have lt_h : h < s.heap.size := f1.lt
  have lt_h2 : h2 < s.heap.size := f2.lt
  have hz : s.heap.size = s.heap.size + 0 := rfl
  refine lv_aload_n hx hb dX0_addSample_0 rfl (lv_at hl 0 rfl) ?_
  refine va_get (D := κ.1) (ci := 0) (v := .int 1) (C := RX0) (T := TX0) (N := 7) hx hb hg inX0 hown hK f0.one 0 rfl rfl 2 (by decide) (hg _ k161) (fun _ h9 => h9) rfl dX0_addSample_1 ?_
  refine lv_bipush (v := 48) hx hb dX0_addSample_4 (by decide) ?_
  refine lv_icmp_ge (tgt := 39) hx hb dX0_addSample_6 (by decide) (fun c9 => absurd c9 (by decide)) (fun _ => ?_)
  refine lv_aload_n hx hb dX0_addSample_9 rfl (lv_at hl 0 rfl) ?_
  refine va_get (D := κ.1) (ci := 0) (v := .ref h) (C := RX0) (T := TX0) (N := 7) hx hb hg inX0 hown hK f0.one 0 rfl rfl 0 (by decide) (hg _ k154) (fun _ h9 => h9) rfl dX0_addSample_10 ?_
  refine lv_aload_n hx hb dX0_addSample_13 rfl (lv_at hl 0 rfl) ?_
  refine va_get (D := κ.1) (ci := 0) (v := .int 1) (C := RX0) (T := TX0) (N := 7) hx hb hg inX0 hown hK f0.one 0 rfl rfl 2 (by decide) (hg _ k161) (fun _ h9 => h9) rfl dX0_addSample_14 ?_
  refine lv_iload_n hx hb dX0_addSample_17 rfl (lv_at hl 1 rfl) ?_
  refine xiast hx hb hK hS (Or.inl (by simp)) f1 (vin (by decide)) dX0_addSample_18 (fun H locs g f1 hS2 => ?_)
  replace hS := hS2
  clear hS2
  replace f0 := g.kept f0 (show this ≠ h from (by omega))
  replace f2 := g.kept f2 (show h2 ≠ h from (by omega))
  replace hz := g.1.trans hz
  clear g
  replace f1 : va_at κ.1 vwCl (h, .inl (kA κ 0, 48, .inl (upd ((upd ((fun _ => 0)) 0 0)) 1 1))) H := f1
  refine lv_aload_n hx hb dX0_addSample_19 rfl (lv_at hl 0 rfl) ?_
  refine va_get (D := κ.1) (ci := 0) (v := .ref h2) (C := RX0) (T := TX0) (N := 7) hx hb hg inX0 hown hK f0.one 0 rfl rfl 1 (by decide) (hg _ k158) (fun _ h9 => h9) rfl dX0_addSample_20 ?_
  refine lv_aload_n hx hb dX0_addSample_23 rfl (lv_at hl 0 rfl) ?_
  refine va_get (D := κ.1) (ci := 0) (v := .int 1) (C := RX0) (T := TX0) (N := 7) hx hb hg inX0 hown hK f0.one 0 rfl rfl 2 (by decide) (hg _ k161) (fun _ h9 => h9) rfl dX0_addSample_24 ?_
  refine lv_iload_n hx hb dX0_addSample_27 rfl (lv_at hl 2 rfl) ?_
  refine xiast hx hb hK hS (Or.inl (by simp)) f2 (vin (by decide)) dX0_addSample_28 (fun H locs g f2 hS2 => ?_)
  replace hS := hS2
  clear hS2
  replace f0 := g.kept f0 (show this ≠ h2 from (by omega))
  replace f1 := g.kept f1 (show h ≠ h2 from (by omega))
  replace hz := g.1.trans hz
  clear g
  replace f2 : va_at κ.1 vwCl (h2, .inl (kA κ 0, 48, .inl (upd ((upd ((fun _ => 0)) 0 0)) 1 0))) H := f2
  refine lv_aload_n hx hb dX0_addSample_29 rfl (lv_at hl 0 rfl) ?_
  refine lv_dup hx hb dX0_addSample_30 rfl ?_
  refine va_get (D := κ.1) (ci := 0) (v := .int 1) (C := RX0) (T := TX0) (N := 7) hx hb hg inX0 hown hK f0.one 0 rfl rfl 2 (by decide) (hg _ k161) (fun _ h9 => h9) rfl dX0_addSample_31 ?_
  refine lv_iconst (v := 1) hx hb dX0_addSample_34 (by decide) ?_
  refine lv_iadd hx hb dX0_addSample_35 ?_
  refine ti (2) (by decide) ?_
  refine xput (cn := 0) (v := .int 2) (ty := .int) (C := RX0) (T := TX0) (N := 7) hx hb hg inX0 tyX0 tyX0_ok nmX0 hown hK hS (Or.inl (by simp)) f0 rfl 2 (by decide) (hg _ k161) (fun _ h9 => h9) rfl (by decide +kernel) rfl rfl (Nat.le_of_ble_eq_true rfl) dX0_addSample_36 (fun H locs g f0 hS2 => ?_)
  replace hS := hS2
  clear hS2
  replace f1 := g.kept f1 (show h ≠ this from (by omega))
  replace f2 := g.kept f2 (show h2 ≠ this from (by omega))
  replace f0 : va_at κ.1 vwCl (this, .inr (0, [.ref h, .ref h2, .int 2, .int 0, .int 2, .int 1, .int 2])) H := f0
  replace hz := g.1.trans hz
  clear g
  exact xret (Post := (fun sz su H => H.size = sz + 0 ∧ va_at κ.1 vwCl (this, .inr (0, [.ref h, .ref h2, .int 2, .int 0, .int 2, .int 1, .int 2])) H ∧ va_at κ.1 vwCl (h, .inl (kA κ 0, 48, .inl (upd ((upd ((fun _ => 0)) 0 0)) 1 1))) H ∧ va_at κ.1 vwCl (h2, .inl (kA κ 0, 48, .inl (upd ((upd ((fun _ => 0)) 0 0)) 1 0))) H)) hx hb hr hlocks hS ⟨by omega, f0, f1, f2⟩ (Nat.le_of_ble_eq_true rfl) (Nat.le_of_ble_eq_true rfl) dX0_addSample_39
set_option maxHeartbeats 40000000 in
set_option maxRecDepth 100000 in
theorem W5_asm {κ : Kt} {H : Heap} {z9 this : Nat} (lt_this : this < z9) (p4 : va_at κ.1 vwCl ((z9 + 0), .inr (3, [.ref (z9 + 1), .int 0, .int 0, .int (-1), .int 0, .int 0, .int 0, .int 0])) H) (p5 : va_at κ.1 vwCl ((z9 + 1), .inl (kA κ 2, 700, .inl (fun _ => 0))) H) (p39 : va_at κ.1 vwCl ((z9 + 2), .inr (0, [.ref (z9 + 3), .ref (z9 + 4), .int 2, .int 0, .int 2, .int 1, .int 2])) H) (p40 : va_at κ.1 vwCl ((z9 + 3), .inl (kA κ 0, 48, .inl (upd ((upd ((fun _ => 0)) 0 0)) 1 1))) H) (p41 : va_at κ.1 vwCl ((z9 + 4), .inl (kA κ 0, 48, .inl (upd ((upd ((fun _ => 0)) 0 0)) 1 0))) H) (p15 : va_at κ.1 vwCl ((z9 + 5), .inr (0, [.ref (z9 + 6), .ref (z9 + 7), .int 0, .int 0, .int 2, .int 1, .int 2])) H) (p16 : va_at κ.1 vwCl ((z9 + 6), .inl (kA κ 0, 48, .inl (fun _ => 0))) H) (p17 : va_at κ.1 vwCl ((z9 + 7), .inl (kA κ 0, 48, .inl (fun _ => 0))) H) (p20 : va_at κ.1 vwCl ((z9 + 8), .inr (1, [.ref (z9 + 2), .ref (z9 + 9 + 0), .ref (z9 + 9 + 1), .ref (z9 + 9 + 2), .ref (z9 + 9 + 3), .int 0, .ref (z9 + 9 + 4), .int 0, .int 0, .int 0, .ref (z9 + 9 + 6), .ref (z9 + 9 + 8), .ref (z9 + 9 + 10)])) H) (p23 : va_at κ.1 vwCl ((z9 + 255), .inr (1, [.ref (z9 + 2), .ref (z9 + 256 + 0), .ref (z9 + 256 + 1), .ref (z9 + 256 + 2), .ref (z9 + 256 + 3), .int 0, .ref (z9 + 256 + 4), .int 0, .int 0, .int 0, .ref (z9 + 256 + 6), .ref (z9 + 256 + 8), .ref (z9 + 256 + 10)])) H) (f25 : va_at κ.1 vwCl ((z9 + 502), .inl (kA κ 6, 2, .inr (.inr (.inr (.inr (va_up (va_up (fun _ => none) 0 (some (z9 + 503))) 1 (some (z9 + 750)))))))) H) (p28 : va_at κ.1 vwCl ((z9 + 503), .inr (1, [.ref (z9 + 2), .ref (z9 + 504 + 0), .ref (z9 + 504 + 1), .ref (z9 + 504 + 2), .ref (z9 + 504 + 3), .int 0, .ref (z9 + 504 + 4), .int 0, .int 0, .int 0, .ref (z9 + 504 + 6), .ref (z9 + 504 + 8), .ref (z9 + 504 + 10)])) H) (p31 : va_at κ.1 vwCl ((z9 + 750), .inr (1, [.ref (z9 + 2), .ref (z9 + 751 + 0), .ref (z9 + 751 + 1), .ref (z9 + 751 + 2), .ref (z9 + 751 + 3), .int 0, .ref (z9 + 751 + 4), .int 0, .int 0, .int 0, .ref (z9 + 751 + 6), .ref (z9 + 751 + 8), .ref (z9 + 751 + 10)])) H) (f33 : va_at κ.1 vwCl ((z9 + 997), .inl (kA κ 3, 2, .inl (fun _ => 0))) H) (f0 : va_at κ.1 vwCl (this, .inr (5, [.ref (z9 + 0), .ref (z9 + 2), .ref (z9 + 5), .ref (z9 + 8), .ref (z9 + 255), .ref (z9 + 502), .ref (z9 + 997), .int 0, .int 0, .int (-1)])) H) (T9 : TI (kst κ (z9 + 9)) (gst (z9 + 9)) H) (T256 : TI (kst κ (z9 + 256)) (gst (z9 + 256)) H) (T504 : TI (kst κ (z9 + 504)) (gst (z9 + 504)) H) (T751 : TI (kst κ (z9 + 751)) (gst (z9 + 751)) H) : ∃ ka sa, GX κ ka sa H (fun x => (z9 + 0 ≤ x ∧ x < z9 + 998) ∨ x = this) ∧ zT sa (z9 + 8) = 3 ∧ zT sa this = 7 ∧ zT sa (z9 + 0) = 6 ∧ zI sa (z9 + 0) 1 = 0 ∧ kR ka this 0 = (z9 + 0) ∧ kR ka this 3 = (z9 + 8) := by
  have G0 : GX κ κ z0 H (fun x => x < 0) := GX.nil
  obtain ⟨ka1, sa1, G1, kd_1, i1, r1, l1, U1⟩ := G0.add (a := (z9 + 1)) (t := 14) (n := 0) (hh := 0) (c := (fun _ => 0)) (l := fun _ => 0) (r := (fun _ => 0)) (E := .inl (kA κ 2, 700, .inl (fun _ => 0))) (fun h => by have h9 : (z9 + 1) < 0 := h; omega) p5 (fun κ' h1 h2 => by show (Sum.inl (kA κ' 2, 700, Sum.inl _) : va_E) = _; rw [h1]) trivial (fun p hp => by cases hp) (fun h => absurd h (by decide)) (fun x => (z9 + 1 ≤ x ∧ x < z9 + 2)) (fun x h => by have h9 : (x < 0) ∨ x = (z9 + 1) := h; show (z9 + 1 ≤ x ∧ x < z9 + 2); omega)
  obtain ⟨ka2, sa2, G2, kd_2, i2, r2, l2, U2⟩ := G1.add (a := (z9 + 0)) (t := 6) (n := 0) (hh := 0) (c := (fun k => if k = 3 then (-1) else 0)) (l := fun _ => 0) (r := (fun k => if k = 0 then (z9 + 1) else 0)) (E := .inr (3, [.ref (z9 + 1), .int 0, .int 0, .int (-1), .int 0, .int 0, .int 0, .int 0])) (fun h => by have h9 : (z9 + 1 ≤ (z9 + 0) ∧ (z9 + 0) < z9 + 2) := h; omega) p4 (fun κ' h1 h2 => by show (Sum.inr (_, fs3 (kR κ' _) _) : va_E) = _; rw [h2]; rfl) ⟨⟨by decide, by decide⟩, ⟨by decide, by decide⟩, ⟨by decide, by decide⟩⟩ (fun p hp => by simp only [zR, List.mem_singleton] at hp; subst hp; exact Or.inr kd_1) (fun h => absurd h (by decide)) (fun x => (z9 + 0 ≤ x ∧ x < z9 + 2)) (fun x h => by have h9 : ((z9 + 1 ≤ x ∧ x < z9 + 2)) ∨ x = (z9 + 0) := h; show (z9 + 0 ≤ x ∧ x < z9 + 2); omega)
  have kd_1 := (U2).1 _ _ (by decide) kd_1
  have it := i2
  obtain ⟨ka3, sa3, G3, kd_3, i3, r3, l3, U3⟩ := G2.add (a := (z9 + 3)) (t := 8) (n := 0) (hh := 0) (c := (upd ((upd ((fun _ => 0)) 0 0)) 1 1)) (l := fun _ => 0) (r := (fun _ => 0)) (E := .inl (kA κ 0, 48, .inl (upd ((upd ((fun _ => 0)) 0 0)) 1 1))) (fun h => by have h9 : (z9 + 0 ≤ (z9 + 3) ∧ (z9 + 3) < z9 + 2) := h; omega) p40 (fun κ' h1 h2 => by show (Sum.inl (kA κ' 0, 48, Sum.inl _) : va_E) = _; rw [h1]) trivial (fun p hp => by cases hp) (fun h => absurd h (by decide)) (fun x => (z9 + 0 ≤ x ∧ x < z9 + 2) ∨ (z9 + 3 ≤ x ∧ x < z9 + 4)) (fun x h => by have h9 : ((z9 + 0 ≤ x ∧ x < z9 + 2)) ∨ x = (z9 + 3) := h; show (z9 + 0 ≤ x ∧ x < z9 + 2) ∨ (z9 + 3 ≤ x ∧ x < z9 + 4); omega)
  have kd_1 := (U3).1 _ _ (by decide) kd_1
  have it := (((U3).2 _ (by rw [kd_2]; decide)).1).trans it
  have kd_2 := (U3).1 _ _ (by decide) kd_2
  obtain ⟨ka4, sa4, G4, kd_4, i4, r4, l4, U4⟩ := G3.add (a := (z9 + 4)) (t := 16) (n := 0) (hh := 0) (c := (upd ((upd ((fun _ => 0)) 0 0)) 1 0)) (l := fun _ => 0) (r := (fun _ => 0)) (E := .inl (kA κ 0, 48, .inl (upd ((upd ((fun _ => 0)) 0 0)) 1 0))) (fun h => by have h9 : (z9 + 0 ≤ (z9 + 4) ∧ (z9 + 4) < z9 + 2) ∨ (z9 + 3 ≤ (z9 + 4) ∧ (z9 + 4) < z9 + 4) := h; omega) p41 (fun κ' h1 h2 => by show (Sum.inl (kA κ' 0, 48, Sum.inl _) : va_E) = _; rw [h1]) trivial (fun p hp => by cases hp) (fun h => absurd h (by decide)) (fun x => (z9 + 0 ≤ x ∧ x < z9 + 2) ∨ (z9 + 3 ≤ x ∧ x < z9 + 5)) (fun x h => by have h9 : ((z9 + 0 ≤ x ∧ x < z9 + 2) ∨ (z9 + 3 ≤ x ∧ x < z9 + 4)) ∨ x = (z9 + 4) := h; show (z9 + 0 ≤ x ∧ x < z9 + 2) ∨ (z9 + 3 ≤ x ∧ x < z9 + 5); omega)
  have kd_1 := (U4).1 _ _ (by decide) kd_1
  have it := (((U4).2 _ (by rw [kd_2]; decide)).1).trans it
  have kd_2 := (U4).1 _ _ (by decide) kd_2
  have kd_3 := (U4).1 _ _ (by decide) kd_3
  obtain ⟨ka5, sa5, G5, kd_5, i5, r5, l5, U5⟩ := G4.add (a := (z9 + 2)) (t := 4) (n := 0) (hh := 0) (c := (fun k => if k = 2 then 2 else if k = 4 then 2 else if k = 5 then 1 else if k = 6 then 2 else 0)) (l := fun _ => 0) (r := (fun k => if k = 0 then (z9 + 3) else if k = 1 then (z9 + 4) else 0)) (E := .inr (0, [.ref (z9 + 3), .ref (z9 + 4), .int 2, .int 0, .int 2, .int 1, .int 2])) (fun h => by have h9 : (z9 + 0 ≤ (z9 + 2) ∧ (z9 + 2) < z9 + 2) ∨ (z9 + 3 ≤ (z9 + 2) ∧ (z9 + 2) < z9 + 5) := h; omega) p39 (fun κ' h1 h2 => by show (Sum.inr (_, fs0 (kR κ' _) _) : va_E) = _; rw [h2]; rfl) ⟨⟨by decide, by decide⟩, isB1⟩ (fun p hp => by simp only [zR, List.mem_cons, List.not_mem_nil, or_false] at hp; rcases hp with rfl | rfl <;> first | exact Or.inr kd_3 | exact Or.inr kd_4) (fun h => absurd h (by decide)) (fun x => (z9 + 0 ≤ x ∧ x < z9 + 5)) (fun x h => by have h9 : ((z9 + 0 ≤ x ∧ x < z9 + 2) ∨ (z9 + 3 ≤ x ∧ x < z9 + 5)) ∨ x = (z9 + 2) := h; show (z9 + 0 ≤ x ∧ x < z9 + 5); omega)
  have kd_1 := (U5).1 _ _ (by decide) kd_1
  have it := (((U5).2 _ (by rw [kd_2]; decide)).1).trans it
  have kd_2 := (U5).1 _ _ (by decide) kd_2
  have kd_3 := (U5).1 _ _ (by decide) kd_3
  have kd_4 := (U5).1 _ _ (by decide) kd_4
  obtain ⟨ka6, sa6, G6, kd_6, i6, r6, l6, U6⟩ := G5.add (a := (z9 + 6)) (t := 17) (n := 0) (hh := 0) (c := (fun _ => 0)) (l := fun _ => 0) (r := (fun _ => 0)) (E := .inl (kA κ 0, 48, .inl (fun _ => 0))) (fun h => by have h9 : (z9 + 0 ≤ (z9 + 6) ∧ (z9 + 6) < z9 + 5) := h; omega) p16 (fun κ' h1 h2 => by show (Sum.inl (kA κ' 0, 48, Sum.inl _) : va_E) = _; rw [h1]) trivial (fun p hp => by cases hp) (fun h => absurd h (by decide)) (fun x => (z9 + 0 ≤ x ∧ x < z9 + 5) ∨ (z9 + 6 ≤ x ∧ x < z9 + 7)) (fun x h => by have h9 : ((z9 + 0 ≤ x ∧ x < z9 + 5)) ∨ x = (z9 + 6) := h; show (z9 + 0 ≤ x ∧ x < z9 + 5) ∨ (z9 + 6 ≤ x ∧ x < z9 + 7); omega)
  have kd_1 := (U6).1 _ _ (by decide) kd_1
  have it := (((U6).2 _ (by rw [kd_2]; decide)).1).trans it
  have kd_2 := (U6).1 _ _ (by decide) kd_2
  have kd_3 := (U6).1 _ _ (by decide) kd_3
  have kd_4 := (U6).1 _ _ (by decide) kd_4
  have kd_5 := (U6).1 _ _ (by decide) kd_5
  obtain ⟨ka7, sa7, G7, kd_7, i7, r7, l7, U7⟩ := G6.add (a := (z9 + 7)) (t := 18) (n := 0) (hh := 0) (c := (fun _ => 0)) (l := fun _ => 0) (r := (fun _ => 0)) (E := .inl (kA κ 0, 48, .inl (fun _ => 0))) (fun h => by have h9 : (z9 + 0 ≤ (z9 + 7) ∧ (z9 + 7) < z9 + 5) ∨ (z9 + 6 ≤ (z9 + 7) ∧ (z9 + 7) < z9 + 7) := h; omega) p17 (fun κ' h1 h2 => by show (Sum.inl (kA κ' 0, 48, Sum.inl _) : va_E) = _; rw [h1]) trivial (fun p hp => by cases hp) (fun h => absurd h (by decide)) (fun x => (z9 + 0 ≤ x ∧ x < z9 + 5) ∨ (z9 + 6 ≤ x ∧ x < z9 + 8)) (fun x h => by have h9 : ((z9 + 0 ≤ x ∧ x < z9 + 5) ∨ (z9 + 6 ≤ x ∧ x < z9 + 7)) ∨ x = (z9 + 7) := h; show (z9 + 0 ≤ x ∧ x < z9 + 5) ∨ (z9 + 6 ≤ x ∧ x < z9 + 8); omega)
  have kd_1 := (U7).1 _ _ (by decide) kd_1
  have it := (((U7).2 _ (by rw [kd_2]; decide)).1).trans it
  have kd_2 := (U7).1 _ _ (by decide) kd_2
  have kd_3 := (U7).1 _ _ (by decide) kd_3
  have kd_4 := (U7).1 _ _ (by decide) kd_4
  have kd_5 := (U7).1 _ _ (by decide) kd_5
  have kd_6 := (U7).1 _ _ (by decide) kd_6
  obtain ⟨ka8, sa8, G8, kd_8, i8, r8, l8, U8⟩ := G7.add (a := (z9 + 5)) (t := 5) (n := 0) (hh := 0) (c := (fun k => if k = 4 then 2 else if k = 5 then 1 else if k = 6 then 2 else 0)) (l := fun _ => 0) (r := (fun k => if k = 0 then (z9 + 6) else if k = 1 then (z9 + 7) else 0)) (E := .inr (0, [.ref (z9 + 6), .ref (z9 + 7), .int 0, .int 0, .int 2, .int 1, .int 2])) (fun h => by have h9 : (z9 + 0 ≤ (z9 + 5) ∧ (z9 + 5) < z9 + 5) ∨ (z9 + 6 ≤ (z9 + 5) ∧ (z9 + 5) < z9 + 8) := h; omega) p15 (fun κ' h1 h2 => by show (Sum.inr (_, fs0 (kR κ' _) _) : va_E) = _; rw [h2]; rfl) ⟨⟨by decide, by decide⟩, isB1⟩ (fun p hp => by simp only [zR, List.mem_cons, List.not_mem_nil, or_false] at hp; rcases hp with rfl | rfl <;> first | exact Or.inr kd_6 | exact Or.inr kd_7) (fun h => absurd h (by decide)) (fun x => (z9 + 0 ≤ x ∧ x < z9 + 8)) (fun x h => by have h9 : ((z9 + 0 ≤ x ∧ x < z9 + 5) ∨ (z9 + 6 ≤ x ∧ x < z9 + 8)) ∨ x = (z9 + 5) := h; show (z9 + 0 ≤ x ∧ x < z9 + 8); omega)
  have kd_1 := (U8).1 _ _ (by decide) kd_1
  have it := (((U8).2 _ (by rw [kd_2]; decide)).1).trans it
  have kd_2 := (U8).1 _ _ (by decide) kd_2
  have kd_3 := (U8).1 _ _ (by decide) kd_3
  have kd_4 := (U8).1 _ _ (by decide) kd_4
  have kd_5 := (U8).1 _ _ (by decide) kd_5
  have kd_6 := (U8).1 _ _ (by decide) kd_6
  have kd_7 := (U8).1 _ _ (by decide) kd_7
  obtain ⟨ka9, sa9, G9, U9, V9⟩ := G8.mer (gst_GX T9) (fun x h => by have h9 : (z9 + 0 ≤ x ∧ x < z9 + 8) := h; show ¬ (z9 + 9 ≤ x ∧ x < z9 + 9 + 246); omega) (fun x => (z9 + 0 ≤ x ∧ x < z9 + 8) ∨ (z9 + 9 ≤ x ∧ x < z9 + 255)) (fun x h => by have h9 : ((z9 + 0 ≤ x ∧ x < z9 + 8)) ∨ (z9 + 9 ≤ x ∧ x < z9 + 9 + 246) := h; show (z9 + 0 ≤ x ∧ x < z9 + 8) ∨ (z9 + 9 ≤ x ∧ x < z9 + 255); omega)
  have kd_1 := (U9).1 _ _ (by decide) kd_1
  have it := (((U9).2 _ (by rw [kd_2]; decide)).1).trans it
  have kd_2 := (U9).1 _ _ (by decide) kd_2
  have kd_3 := (U9).1 _ _ (by decide) kd_3
  have kd_4 := (U9).1 _ _ (by decide) kd_4
  have kd_5 := (U9).1 _ _ (by decide) kd_5
  have kd_6 := (U9).1 _ _ (by decide) kd_6
  have kd_7 := (U9).1 _ _ (by decide) kd_7
  have kd_8 := (U9).1 _ _ (by decide) kd_8
  have e0 := V9.1 (z9 + 9 + 0) 10 (by decide) (by rw [gst_T]; decide)
  have e1 := V9.1 (z9 + 9 + 1) 9 (by decide) (by rw [gst_T]; decide)
  have e2 := V9.1 (z9 + 9 + 2) 15 (by decide) (by rw [gst_T]; decide)
  have e3 := V9.1 (z9 + 9 + 3) 11 (by decide) (by rw [gst_T]; decide)
  have e4 := V9.1 (z9 + 9 + 4) 1 (by decide) (by rw [gst_T]; decide)
  have e6 := V9.1 (z9 + 9 + 6) 1 (by decide) (by rw [gst_T]; decide)
  have e8 := V9.1 (z9 + 9 + 8) 1 (by decide) (by rw [gst_T]; decide)
  have e10 := V9.1 (z9 + 9 + 10) 1 (by decide) (by rw [gst_T]; decide)
  obtain ⟨ka10, sa10, G10, kd_10, i10, r10, l10, U10⟩ := G9.add (a := (z9 + 8)) (t := 3) (n := 0) (hh := 0) (c := (fun _ => 0)) (l := fun _ => 0) (r := (fun k => if k = 0 then (z9 + 2) else if k = 1 then (z9 + 9 + 0) else if k = 2 then (z9 + 9 + 1) else if k = 3 then (z9 + 9 + 2) else if k = 4 then (z9 + 9 + 3) else if k = 6 then (z9 + 9 + 4) else if k = 10 then (z9 + 9 + 6) else if k = 11 then (z9 + 9 + 8) else if k = 12 then (z9 + 9 + 10) else 0)) (E := .inr (1, [.ref (z9 + 2), .ref (z9 + 9 + 0), .ref (z9 + 9 + 1), .ref (z9 + 9 + 2), .ref (z9 + 9 + 3), .int 0, .ref (z9 + 9 + 4), .int 0, .int 0, .int 0, .ref (z9 + 9 + 6), .ref (z9 + 9 + 8), .ref (z9 + 9 + 10)])) (fun h => by have h9 : (z9 + 0 ≤ (z9 + 8) ∧ (z9 + 8) < z9 + 8) ∨ (z9 + 9 ≤ (z9 + 8) ∧ (z9 + 8) < z9 + 255) := h; omega) p20 (fun κ' h1 h2 => by show (Sum.inr (_, fs1 (kR κ' _) _) : va_E) = _; rw [h2]; rfl) ⟨⟨by decide, by decide⟩, isB0⟩ (fun p hp => by simp only [zR, List.mem_cons, List.not_mem_nil, or_false] at hp; rcases hp with rfl | rfl | rfl | rfl | rfl | rfl | rfl | rfl | rfl <;> first | exact Or.inr kd_5 | exact Or.inr e0 | exact Or.inr e1 | exact Or.inr e2 | exact Or.inr e3 | exact Or.inr e4 | exact Or.inr e6 | exact Or.inr e8 | exact Or.inr e10) (fun h => absurd h (by decide)) (fun x => (z9 + 0 ≤ x ∧ x < z9 + 255)) (fun x h => by have h9 : ((z9 + 0 ≤ x ∧ x < z9 + 8) ∨ (z9 + 9 ≤ x ∧ x < z9 + 255)) ∨ x = (z9 + 8) := h; show (z9 + 0 ≤ x ∧ x < z9 + 255); omega)
  have kd_1 := (U10).1 _ _ (by decide) kd_1
  have it := (((U10).2 _ (by rw [kd_2]; decide)).1).trans it
  have kd_2 := (U10).1 _ _ (by decide) kd_2
  have kd_3 := (U10).1 _ _ (by decide) kd_3
  have kd_4 := (U10).1 _ _ (by decide) kd_4
  have kd_5 := (U10).1 _ _ (by decide) kd_5
  have kd_6 := (U10).1 _ _ (by decide) kd_6
  have kd_7 := (U10).1 _ _ (by decide) kd_7
  have kd_8 := (U10).1 _ _ (by decide) kd_8
  obtain ⟨ka11, sa11, G11, U11, V11⟩ := G10.mer (gst_GX T256) (fun x h => by have h9 : (z9 + 0 ≤ x ∧ x < z9 + 255) := h; show ¬ (z9 + 256 ≤ x ∧ x < z9 + 256 + 246); omega) (fun x => (z9 + 0 ≤ x ∧ x < z9 + 255) ∨ (z9 + 256 ≤ x ∧ x < z9 + 502)) (fun x h => by have h9 : ((z9 + 0 ≤ x ∧ x < z9 + 255)) ∨ (z9 + 256 ≤ x ∧ x < z9 + 256 + 246) := h; show (z9 + 0 ≤ x ∧ x < z9 + 255) ∨ (z9 + 256 ≤ x ∧ x < z9 + 502); omega)
  have kd_1 := (U11).1 _ _ (by decide) kd_1
  have it := (((U11).2 _ (by rw [kd_2]; decide)).1).trans it
  have kd_2 := (U11).1 _ _ (by decide) kd_2
  have kd_3 := (U11).1 _ _ (by decide) kd_3
  have kd_4 := (U11).1 _ _ (by decide) kd_4
  have kd_5 := (U11).1 _ _ (by decide) kd_5
  have kd_6 := (U11).1 _ _ (by decide) kd_6
  have kd_7 := (U11).1 _ _ (by decide) kd_7
  have kd_8 := (U11).1 _ _ (by decide) kd_8
  have kd_10 := (U11).1 _ _ (by decide) kd_10
  have e0 := V11.1 (z9 + 256 + 0) 10 (by decide) (by rw [gst_T]; decide)
  have e1 := V11.1 (z9 + 256 + 1) 9 (by decide) (by rw [gst_T]; decide)
  have e2 := V11.1 (z9 + 256 + 2) 15 (by decide) (by rw [gst_T]; decide)
  have e3 := V11.1 (z9 + 256 + 3) 11 (by decide) (by rw [gst_T]; decide)
  have e4 := V11.1 (z9 + 256 + 4) 1 (by decide) (by rw [gst_T]; decide)
  have e6 := V11.1 (z9 + 256 + 6) 1 (by decide) (by rw [gst_T]; decide)
  have e8 := V11.1 (z9 + 256 + 8) 1 (by decide) (by rw [gst_T]; decide)
  have e10 := V11.1 (z9 + 256 + 10) 1 (by decide) (by rw [gst_T]; decide)
  obtain ⟨ka12, sa12, G12, kd_12, i12, r12, l12, U12⟩ := G11.add (a := (z9 + 255)) (t := 3) (n := 0) (hh := 0) (c := (fun _ => 0)) (l := fun _ => 0) (r := (fun k => if k = 0 then (z9 + 2) else if k = 1 then (z9 + 256 + 0) else if k = 2 then (z9 + 256 + 1) else if k = 3 then (z9 + 256 + 2) else if k = 4 then (z9 + 256 + 3) else if k = 6 then (z9 + 256 + 4) else if k = 10 then (z9 + 256 + 6) else if k = 11 then (z9 + 256 + 8) else if k = 12 then (z9 + 256 + 10) else 0)) (E := .inr (1, [.ref (z9 + 2), .ref (z9 + 256 + 0), .ref (z9 + 256 + 1), .ref (z9 + 256 + 2), .ref (z9 + 256 + 3), .int 0, .ref (z9 + 256 + 4), .int 0, .int 0, .int 0, .ref (z9 + 256 + 6), .ref (z9 + 256 + 8), .ref (z9 + 256 + 10)])) (fun h => by have h9 : (z9 + 0 ≤ (z9 + 255) ∧ (z9 + 255) < z9 + 255) ∨ (z9 + 256 ≤ (z9 + 255) ∧ (z9 + 255) < z9 + 502) := h; omega) p23 (fun κ' h1 h2 => by show (Sum.inr (_, fs1 (kR κ' _) _) : va_E) = _; rw [h2]; rfl) ⟨⟨by decide, by decide⟩, isB0⟩ (fun p hp => by simp only [zR, List.mem_cons, List.not_mem_nil, or_false] at hp; rcases hp with rfl | rfl | rfl | rfl | rfl | rfl | rfl | rfl | rfl <;> first | exact Or.inr kd_5 | exact Or.inr e0 | exact Or.inr e1 | exact Or.inr e2 | exact Or.inr e3 | exact Or.inr e4 | exact Or.inr e6 | exact Or.inr e8 | exact Or.inr e10) (fun h => absurd h (by decide)) (fun x => (z9 + 0 ≤ x ∧ x < z9 + 502)) (fun x h => by have h9 : ((z9 + 0 ≤ x ∧ x < z9 + 255) ∨ (z9 + 256 ≤ x ∧ x < z9 + 502)) ∨ x = (z9 + 255) := h; show (z9 + 0 ≤ x ∧ x < z9 + 502); omega)
  have kd_1 := (U12).1 _ _ (by decide) kd_1
  have it := (((U12).2 _ (by rw [kd_2]; decide)).1).trans it
  have kd_2 := (U12).1 _ _ (by decide) kd_2
  have kd_3 := (U12).1 _ _ (by decide) kd_3
  have kd_4 := (U12).1 _ _ (by decide) kd_4
  have kd_5 := (U12).1 _ _ (by decide) kd_5
  have kd_6 := (U12).1 _ _ (by decide) kd_6
  have kd_7 := (U12).1 _ _ (by decide) kd_7
  have kd_8 := (U12).1 _ _ (by decide) kd_8
  have kd_10 := (U12).1 _ _ (by decide) kd_10
  obtain ⟨ka13, sa13, G13, U13, V13⟩ := G12.mer (gst_GX T504) (fun x h => by have h9 : (z9 + 0 ≤ x ∧ x < z9 + 502) := h; show ¬ (z9 + 504 ≤ x ∧ x < z9 + 504 + 246); omega) (fun x => (z9 + 0 ≤ x ∧ x < z9 + 502) ∨ (z9 + 504 ≤ x ∧ x < z9 + 750)) (fun x h => by have h9 : ((z9 + 0 ≤ x ∧ x < z9 + 502)) ∨ (z9 + 504 ≤ x ∧ x < z9 + 504 + 246) := h; show (z9 + 0 ≤ x ∧ x < z9 + 502) ∨ (z9 + 504 ≤ x ∧ x < z9 + 750); omega)
  have kd_1 := (U13).1 _ _ (by decide) kd_1
  have it := (((U13).2 _ (by rw [kd_2]; decide)).1).trans it
  have kd_2 := (U13).1 _ _ (by decide) kd_2
  have kd_3 := (U13).1 _ _ (by decide) kd_3
  have kd_4 := (U13).1 _ _ (by decide) kd_4
  have kd_5 := (U13).1 _ _ (by decide) kd_5
  have kd_6 := (U13).1 _ _ (by decide) kd_6
  have kd_7 := (U13).1 _ _ (by decide) kd_7
  have kd_8 := (U13).1 _ _ (by decide) kd_8
  have kd_10 := (U13).1 _ _ (by decide) kd_10
  have kd_12 := (U13).1 _ _ (by decide) kd_12
  have e0 := V13.1 (z9 + 504 + 0) 10 (by decide) (by rw [gst_T]; decide)
  have e1 := V13.1 (z9 + 504 + 1) 9 (by decide) (by rw [gst_T]; decide)
  have e2 := V13.1 (z9 + 504 + 2) 15 (by decide) (by rw [gst_T]; decide)
  have e3 := V13.1 (z9 + 504 + 3) 11 (by decide) (by rw [gst_T]; decide)
  have e4 := V13.1 (z9 + 504 + 4) 1 (by decide) (by rw [gst_T]; decide)
  have e6 := V13.1 (z9 + 504 + 6) 1 (by decide) (by rw [gst_T]; decide)
  have e8 := V13.1 (z9 + 504 + 8) 1 (by decide) (by rw [gst_T]; decide)
  have e10 := V13.1 (z9 + 504 + 10) 1 (by decide) (by rw [gst_T]; decide)
  obtain ⟨ka14, sa14, G14, kd_14, i14, r14, l14, U14⟩ := G13.add (a := (z9 + 503)) (t := 3) (n := 0) (hh := 0) (c := (fun _ => 0)) (l := fun _ => 0) (r := (fun k => if k = 0 then (z9 + 2) else if k = 1 then (z9 + 504 + 0) else if k = 2 then (z9 + 504 + 1) else if k = 3 then (z9 + 504 + 2) else if k = 4 then (z9 + 504 + 3) else if k = 6 then (z9 + 504 + 4) else if k = 10 then (z9 + 504 + 6) else if k = 11 then (z9 + 504 + 8) else if k = 12 then (z9 + 504 + 10) else 0)) (E := .inr (1, [.ref (z9 + 2), .ref (z9 + 504 + 0), .ref (z9 + 504 + 1), .ref (z9 + 504 + 2), .ref (z9 + 504 + 3), .int 0, .ref (z9 + 504 + 4), .int 0, .int 0, .int 0, .ref (z9 + 504 + 6), .ref (z9 + 504 + 8), .ref (z9 + 504 + 10)])) (fun h => by have h9 : (z9 + 0 ≤ (z9 + 503) ∧ (z9 + 503) < z9 + 502) ∨ (z9 + 504 ≤ (z9 + 503) ∧ (z9 + 503) < z9 + 750) := h; omega) p28 (fun κ' h1 h2 => by show (Sum.inr (_, fs1 (kR κ' _) _) : va_E) = _; rw [h2]; rfl) ⟨⟨by decide, by decide⟩, isB0⟩ (fun p hp => by simp only [zR, List.mem_cons, List.not_mem_nil, or_false] at hp; rcases hp with rfl | rfl | rfl | rfl | rfl | rfl | rfl | rfl | rfl <;> first | exact Or.inr kd_5 | exact Or.inr e0 | exact Or.inr e1 | exact Or.inr e2 | exact Or.inr e3 | exact Or.inr e4 | exact Or.inr e6 | exact Or.inr e8 | exact Or.inr e10) (fun h => absurd h (by decide)) (fun x => (z9 + 0 ≤ x ∧ x < z9 + 502) ∨ (z9 + 503 ≤ x ∧ x < z9 + 750)) (fun x h => by have h9 : ((z9 + 0 ≤ x ∧ x < z9 + 502) ∨ (z9 + 504 ≤ x ∧ x < z9 + 750)) ∨ x = (z9 + 503) := h; show (z9 + 0 ≤ x ∧ x < z9 + 502) ∨ (z9 + 503 ≤ x ∧ x < z9 + 750); omega)
  have kd_1 := (U14).1 _ _ (by decide) kd_1
  have it := (((U14).2 _ (by rw [kd_2]; decide)).1).trans it
  have kd_2 := (U14).1 _ _ (by decide) kd_2
  have kd_3 := (U14).1 _ _ (by decide) kd_3
  have kd_4 := (U14).1 _ _ (by decide) kd_4
  have kd_5 := (U14).1 _ _ (by decide) kd_5
  have kd_6 := (U14).1 _ _ (by decide) kd_6
  have kd_7 := (U14).1 _ _ (by decide) kd_7
  have kd_8 := (U14).1 _ _ (by decide) kd_8
  have kd_10 := (U14).1 _ _ (by decide) kd_10
  have kd_12 := (U14).1 _ _ (by decide) kd_12
  obtain ⟨ka15, sa15, G15, U15, V15⟩ := G14.mer (gst_GX T751) (fun x h => by have h9 : (z9 + 0 ≤ x ∧ x < z9 + 502) ∨ (z9 + 503 ≤ x ∧ x < z9 + 750) := h; show ¬ (z9 + 751 ≤ x ∧ x < z9 + 751 + 246); omega) (fun x => (z9 + 0 ≤ x ∧ x < z9 + 502) ∨ (z9 + 503 ≤ x ∧ x < z9 + 750) ∨ (z9 + 751 ≤ x ∧ x < z9 + 997)) (fun x h => by have h9 : ((z9 + 0 ≤ x ∧ x < z9 + 502) ∨ (z9 + 503 ≤ x ∧ x < z9 + 750)) ∨ (z9 + 751 ≤ x ∧ x < z9 + 751 + 246) := h; show (z9 + 0 ≤ x ∧ x < z9 + 502) ∨ (z9 + 503 ≤ x ∧ x < z9 + 750) ∨ (z9 + 751 ≤ x ∧ x < z9 + 997); omega)
  have kd_1 := (U15).1 _ _ (by decide) kd_1
  have it := (((U15).2 _ (by rw [kd_2]; decide)).1).trans it
  have kd_2 := (U15).1 _ _ (by decide) kd_2
  have kd_3 := (U15).1 _ _ (by decide) kd_3
  have kd_4 := (U15).1 _ _ (by decide) kd_4
  have kd_5 := (U15).1 _ _ (by decide) kd_5
  have kd_6 := (U15).1 _ _ (by decide) kd_6
  have kd_7 := (U15).1 _ _ (by decide) kd_7
  have kd_8 := (U15).1 _ _ (by decide) kd_8
  have kd_10 := (U15).1 _ _ (by decide) kd_10
  have kd_12 := (U15).1 _ _ (by decide) kd_12
  have kd_14 := (U15).1 _ _ (by decide) kd_14
  have e0 := V15.1 (z9 + 751 + 0) 10 (by decide) (by rw [gst_T]; decide)
  have e1 := V15.1 (z9 + 751 + 1) 9 (by decide) (by rw [gst_T]; decide)
  have e2 := V15.1 (z9 + 751 + 2) 15 (by decide) (by rw [gst_T]; decide)
  have e3 := V15.1 (z9 + 751 + 3) 11 (by decide) (by rw [gst_T]; decide)
  have e4 := V15.1 (z9 + 751 + 4) 1 (by decide) (by rw [gst_T]; decide)
  have e6 := V15.1 (z9 + 751 + 6) 1 (by decide) (by rw [gst_T]; decide)
  have e8 := V15.1 (z9 + 751 + 8) 1 (by decide) (by rw [gst_T]; decide)
  have e10 := V15.1 (z9 + 751 + 10) 1 (by decide) (by rw [gst_T]; decide)
  obtain ⟨ka16, sa16, G16, kd_16, i16, r16, l16, U16⟩ := G15.add (a := (z9 + 750)) (t := 3) (n := 0) (hh := 0) (c := (fun _ => 0)) (l := fun _ => 0) (r := (fun k => if k = 0 then (z9 + 2) else if k = 1 then (z9 + 751 + 0) else if k = 2 then (z9 + 751 + 1) else if k = 3 then (z9 + 751 + 2) else if k = 4 then (z9 + 751 + 3) else if k = 6 then (z9 + 751 + 4) else if k = 10 then (z9 + 751 + 6) else if k = 11 then (z9 + 751 + 8) else if k = 12 then (z9 + 751 + 10) else 0)) (E := .inr (1, [.ref (z9 + 2), .ref (z9 + 751 + 0), .ref (z9 + 751 + 1), .ref (z9 + 751 + 2), .ref (z9 + 751 + 3), .int 0, .ref (z9 + 751 + 4), .int 0, .int 0, .int 0, .ref (z9 + 751 + 6), .ref (z9 + 751 + 8), .ref (z9 + 751 + 10)])) (fun h => by have h9 : (z9 + 0 ≤ (z9 + 750) ∧ (z9 + 750) < z9 + 502) ∨ (z9 + 503 ≤ (z9 + 750) ∧ (z9 + 750) < z9 + 750) ∨ (z9 + 751 ≤ (z9 + 750) ∧ (z9 + 750) < z9 + 997) := h; omega) p31 (fun κ' h1 h2 => by show (Sum.inr (_, fs1 (kR κ' _) _) : va_E) = _; rw [h2]; rfl) ⟨⟨by decide, by decide⟩, isB0⟩ (fun p hp => by simp only [zR, List.mem_cons, List.not_mem_nil, or_false] at hp; rcases hp with rfl | rfl | rfl | rfl | rfl | rfl | rfl | rfl | rfl <;> first | exact Or.inr kd_5 | exact Or.inr e0 | exact Or.inr e1 | exact Or.inr e2 | exact Or.inr e3 | exact Or.inr e4 | exact Or.inr e6 | exact Or.inr e8 | exact Or.inr e10) (fun h => absurd h (by decide)) (fun x => (z9 + 0 ≤ x ∧ x < z9 + 502) ∨ (z9 + 503 ≤ x ∧ x < z9 + 997)) (fun x h => by have h9 : ((z9 + 0 ≤ x ∧ x < z9 + 502) ∨ (z9 + 503 ≤ x ∧ x < z9 + 750) ∨ (z9 + 751 ≤ x ∧ x < z9 + 997)) ∨ x = (z9 + 750) := h; show (z9 + 0 ≤ x ∧ x < z9 + 502) ∨ (z9 + 503 ≤ x ∧ x < z9 + 997); omega)
  have kd_1 := (U16).1 _ _ (by decide) kd_1
  have it := (((U16).2 _ (by rw [kd_2]; decide)).1).trans it
  have kd_2 := (U16).1 _ _ (by decide) kd_2
  have kd_3 := (U16).1 _ _ (by decide) kd_3
  have kd_4 := (U16).1 _ _ (by decide) kd_4
  have kd_5 := (U16).1 _ _ (by decide) kd_5
  have kd_6 := (U16).1 _ _ (by decide) kd_6
  have kd_7 := (U16).1 _ _ (by decide) kd_7
  have kd_8 := (U16).1 _ _ (by decide) kd_8
  have kd_10 := (U16).1 _ _ (by decide) kd_10
  have kd_12 := (U16).1 _ _ (by decide) kd_12
  have kd_14 := (U16).1 _ _ (by decide) kd_14
  have f502 : va_at κ.1 vwCl ((z9 + 502), .inl (kA κ 6, 2, .inr (.inr (.inr (.inr (fun i => some ((fun k => if k = 0 then (z9 + 503) else (z9 + 750)) i))))))) H := f25.refs (fun i hi => by rcases (show i = 0 ∨ i = 1 by omega) with rfl | rfl <;> rfl)
  obtain ⟨ka17, sa17, G17, kd_17, i17, r17, l17, U17⟩ := G16.add (a := (z9 + 502)) (t := 12) (n := 0) (hh := 0) (c := (fun _ => 0)) (l := fun _ => 0) (r := (fun k => if k = 0 then (z9 + 503) else (z9 + 750))) (E := .inl (kA κ 6, 2, .inr (.inr (.inr (.inr (fun i => some ((fun k => if k = 0 then (z9 + 503) else (z9 + 750)) i))))))) (fun h => by have h9 : (z9 + 0 ≤ (z9 + 502) ∧ (z9 + 502) < z9 + 502) ∨ (z9 + 503 ≤ (z9 + 502) ∧ (z9 + 502) < z9 + 997) := h; omega) f502 (fun κ' h1 h2 => by show (Sum.inl (kA κ' 6, 2, Sum.inr (Sum.inr (Sum.inr (Sum.inr fun i => some (kR κ' _ i))))) : va_E) = _; rw [h1, h2]) trivial (fun p hp => by obtain ⟨i, hi, rfl⟩ := List.mem_map.mp hp; have hi := List.mem_range.mp hi; rcases (show i = 0 ∨ i = 1 by omega) with rfl | rfl <;> first | exact Or.inr kd_14 | exact Or.inr kd_16) (fun h => absurd h (by decide)) (fun x => (z9 + 0 ≤ x ∧ x < z9 + 997)) (fun x h => by have h9 : ((z9 + 0 ≤ x ∧ x < z9 + 502) ∨ (z9 + 503 ≤ x ∧ x < z9 + 997)) ∨ x = (z9 + 502) := h; show (z9 + 0 ≤ x ∧ x < z9 + 997); omega)
  have kd_1 := (U17).1 _ _ (by decide) kd_1
  have it := (((U17).2 _ (by rw [kd_2]; decide)).1).trans it
  have kd_2 := (U17).1 _ _ (by decide) kd_2
  have kd_3 := (U17).1 _ _ (by decide) kd_3
  have kd_4 := (U17).1 _ _ (by decide) kd_4
  have kd_5 := (U17).1 _ _ (by decide) kd_5
  have kd_6 := (U17).1 _ _ (by decide) kd_6
  have kd_7 := (U17).1 _ _ (by decide) kd_7
  have kd_8 := (U17).1 _ _ (by decide) kd_8
  have kd_10 := (U17).1 _ _ (by decide) kd_10
  have kd_12 := (U17).1 _ _ (by decide) kd_12
  have kd_14 := (U17).1 _ _ (by decide) kd_14
  have kd_16 := (U17).1 _ _ (by decide) kd_16
  obtain ⟨ka18, sa18, G18, kd_18, i18, r18, l18, U18⟩ := G17.add (a := (z9 + 997)) (t := 13) (n := 0) (hh := 0) (c := (fun _ => 0)) (l := fun _ => 0) (r := (fun _ => 0)) (E := .inl (kA κ 3, 2, .inl (fun _ => 0))) (fun h => by have h9 : (z9 + 0 ≤ (z9 + 997) ∧ (z9 + 997) < z9 + 997) := h; omega) f33 (fun κ' h1 h2 => by show (Sum.inl (kA κ' 3, 2, Sum.inl _) : va_E) = _; rw [h1]) trivial (fun p hp => by cases hp) (fun h => absurd h (by decide)) (fun x => (z9 + 0 ≤ x ∧ x < z9 + 998)) (fun x h => by have h9 : ((z9 + 0 ≤ x ∧ x < z9 + 997)) ∨ x = (z9 + 997) := h; show (z9 + 0 ≤ x ∧ x < z9 + 998); omega)
  have kd_1 := (U18).1 _ _ (by decide) kd_1
  have it := (((U18).2 _ (by rw [kd_2]; decide)).1).trans it
  have kd_2 := (U18).1 _ _ (by decide) kd_2
  have kd_3 := (U18).1 _ _ (by decide) kd_3
  have kd_4 := (U18).1 _ _ (by decide) kd_4
  have kd_5 := (U18).1 _ _ (by decide) kd_5
  have kd_6 := (U18).1 _ _ (by decide) kd_6
  have kd_7 := (U18).1 _ _ (by decide) kd_7
  have kd_8 := (U18).1 _ _ (by decide) kd_8
  have kd_10 := (U18).1 _ _ (by decide) kd_10
  have kd_12 := (U18).1 _ _ (by decide) kd_12
  have kd_14 := (U18).1 _ _ (by decide) kd_14
  have kd_16 := (U18).1 _ _ (by decide) kd_16
  have kd_17 := (U18).1 _ _ (by decide) kd_17
  obtain ⟨ka19, sa19, G19, kd_19, i19, r19, l19, U19⟩ := G18.add (a := this) (t := 7) (n := 0) (hh := 0) (c := (fun k => if k = 9 then (-1) else 0)) (l := fun _ => 0) (r := (fun k => if k = 0 then (z9 + 0) else if k = 1 then (z9 + 2) else if k = 2 then (z9 + 5) else if k = 3 then (z9 + 8) else if k = 4 then (z9 + 255) else if k = 5 then (z9 + 502) else if k = 6 then (z9 + 997) else 0)) (E := .inr (5, [.ref (z9 + 0), .ref (z9 + 2), .ref (z9 + 5), .ref (z9 + 8), .ref (z9 + 255), .ref (z9 + 502), .ref (z9 + 997), .int 0, .int 0, .int (-1)])) (fun h => by have h9 : (z9 + 0 ≤ this ∧ this < z9 + 998) := h; omega) f0 (fun κ' h1 h2 => by show (Sum.inr (_, fs5 (kR κ' _) _) : va_E) = _; rw [h2]; rfl) trivial (fun p hp => by simp only [zR, List.mem_cons, List.not_mem_nil, or_false] at hp; rcases hp with rfl | rfl | rfl | rfl | rfl | rfl | rfl <;> first | exact Or.inr kd_2 | exact Or.inr kd_5 | exact Or.inr kd_8 | exact Or.inr kd_10 | exact Or.inr kd_12 | exact Or.inr kd_17 | exact Or.inr kd_18) (fun h => absurd h (by decide)) (fun x => (z9 + 0 ≤ x ∧ x < z9 + 998) ∨ x = this) (fun x h => by have h9 : ((z9 + 0 ≤ x ∧ x < z9 + 998)) ∨ x = this := h; show (z9 + 0 ≤ x ∧ x < z9 + 998) ∨ x = this; omega)
  have kd_1 := (U19).1 _ _ (by decide) kd_1
  have it := (((U19).2 _ (by rw [kd_2]; decide)).1).trans it
  have kd_2 := (U19).1 _ _ (by decide) kd_2
  have kd_3 := (U19).1 _ _ (by decide) kd_3
  have kd_4 := (U19).1 _ _ (by decide) kd_4
  have kd_5 := (U19).1 _ _ (by decide) kd_5
  have kd_6 := (U19).1 _ _ (by decide) kd_6
  have kd_7 := (U19).1 _ _ (by decide) kd_7
  have kd_8 := (U19).1 _ _ (by decide) kd_8
  have kd_10 := (U19).1 _ _ (by decide) kd_10
  have kd_12 := (U19).1 _ _ (by decide) kd_12
  have kd_14 := (U19).1 _ _ (by decide) kd_14
  have kd_16 := (U19).1 _ _ (by decide) kd_16
  have kd_17 := (U19).1 _ _ (by decide) kd_17
  have kd_18 := (U19).1 _ _ (by decide) kd_18
  exact ⟨ka19, sa19, G19, kd_10, kd_19, kd_2, by rw [it]; rfl, by rw [r19]; rfl, by rw [r19]; rfl⟩
set_option maxHeartbeats 40000000 in
set_option maxRecDepth 100000 in
theorem W5_init_c143 (l : Launch) (κ : Kt) (this : Nat) {p : Program} {e : Env} {s : State} {m : MethodId} {below : List Frame} {meth : Method} {c : Code} (hx : p.tables.exec = Jvm.exec) (hb : c.code = cX5_init) (hr : meth.sig.returnType = none) (hml : c.maxLocals = 1) (hown : s.vm.findClass RX5 = some m.cls) (hg : ∀ w ∈ GW, w.before ([.ref this] : List Value).toArray s = true) (hlocks : meth.locks = false) (hin : meth.name = "<init>") (hK : va_K κ.1 vwCl (kTy κ) s) (hX : XY κ (xA [this] s.heap.size) s s.heap) (lt_this : this < s.heap.size) {H : Heap} {locs : List Loc} {ls : Array Slot} (hz : H.size = s.heap.size + 998) (f0 : va_at κ.1 vwCl (this, .inr (5, [.ref (s.heap.size + 0), .ref (s.heap.size + 2), .ref (s.heap.size + 5), .ref (s.heap.size + 8), .ref (s.heap.size + 255), .ref (s.heap.size + 502), .ref (s.heap.size + 997), .int 0, .int 0, .int (-1)])) H) (p4 : va_at κ.1 vwCl ((s.heap.size + 0), .inr (3, [.ref (s.heap.size + 1), .int 0, .int 0, .int (-1), .int 0, .int 0, .int 0, .int 0])) H) (p5 : va_at κ.1 vwCl ((s.heap.size + 1), .inl (kA κ 2, 700, .inl (fun _ => 0))) H) (p39 : va_at κ.1 vwCl ((s.heap.size + 2), .inr (0, [.ref (s.heap.size + 3), .ref (s.heap.size + 4), .int 2, .int 0, .int 2, .int 1, .int 2])) H) (p40 : va_at κ.1 vwCl ((s.heap.size + 3), .inl (kA κ 0, 48, .inl (upd ((upd ((fun _ => 0)) 0 0)) 1 1))) H) (p41 : va_at κ.1 vwCl ((s.heap.size + 4), .inl (kA κ 0, 48, .inl (upd ((upd ((fun _ => 0)) 0 0)) 1 0))) H) (p15 : va_at κ.1 vwCl ((s.heap.size + 5), .inr (0, [.ref (s.heap.size + 6), .ref (s.heap.size + 7), .int 0, .int 0, .int 2, .int 1, .int 2])) H) (p16 : va_at κ.1 vwCl ((s.heap.size + 6), .inl (kA κ 0, 48, .inl (fun _ => 0))) H) (p17 : va_at κ.1 vwCl ((s.heap.size + 7), .inl (kA κ 0, 48, .inl (fun _ => 0))) H) (p20 : va_at κ.1 vwCl ((s.heap.size + 8), .inr (1, [.ref (s.heap.size + 2), .ref (s.heap.size + 9 + 0), .ref (s.heap.size + 9 + 1), .ref (s.heap.size + 9 + 2), .ref (s.heap.size + 9 + 3), .int 0, .ref (s.heap.size + 9 + 4), .int 0, .int 0, .int 0, .ref (s.heap.size + 9 + 6), .ref (s.heap.size + 9 + 8), .ref (s.heap.size + 9 + 10)])) H) (p23 : va_at κ.1 vwCl ((s.heap.size + 255), .inr (1, [.ref (s.heap.size + 2), .ref (s.heap.size + 256 + 0), .ref (s.heap.size + 256 + 1), .ref (s.heap.size + 256 + 2), .ref (s.heap.size + 256 + 3), .int 0, .ref (s.heap.size + 256 + 4), .int 0, .int 0, .int 0, .ref (s.heap.size + 256 + 6), .ref (s.heap.size + 256 + 8), .ref (s.heap.size + 256 + 10)])) H) (f25 : va_at κ.1 vwCl ((s.heap.size + 502), .inl (kA κ 6, 2, .inr (.inr (.inr (.inr (va_up (va_up (fun _ => none) 0 (some (s.heap.size + 503))) 1 (some (s.heap.size + 750)))))))) H) (p28 : va_at κ.1 vwCl ((s.heap.size + 503), .inr (1, [.ref (s.heap.size + 2), .ref (s.heap.size + 504 + 0), .ref (s.heap.size + 504 + 1), .ref (s.heap.size + 504 + 2), .ref (s.heap.size + 504 + 3), .int 0, .ref (s.heap.size + 504 + 4), .int 0, .int 0, .int 0, .ref (s.heap.size + 504 + 6), .ref (s.heap.size + 504 + 8), .ref (s.heap.size + 504 + 10)])) H) (p31 : va_at κ.1 vwCl ((s.heap.size + 750), .inr (1, [.ref (s.heap.size + 2), .ref (s.heap.size + 751 + 0), .ref (s.heap.size + 751 + 1), .ref (s.heap.size + 751 + 2), .ref (s.heap.size + 751 + 3), .int 0, .ref (s.heap.size + 751 + 4), .int 0, .int 0, .int 0, .ref (s.heap.size + 751 + 6), .ref (s.heap.size + 751 + 8), .ref (s.heap.size + 751 + 10)])) H) (f33 : va_at κ.1 vwCl ((s.heap.size + 997), .inl (kA κ 3, 2, .inl (fun _ => 0))) H) (T9 : TI (kst κ (s.heap.size + 9)) (gst (s.heap.size + 9)) H) (T256 : TI (kst κ (s.heap.size + 256)) (gst (s.heap.size + 256)) H) (T504 : TI (kst κ (s.heap.size + 504)) (gst (s.heap.size + 504)) H) (T751 : TI (kst κ (s.heap.size + 751)) (gst (s.heap.size + 751)) H) (hS : va_S (xA [this] s.heap.size) s.heap H locs) (hl : lv_has ls 1 [(0, .ref this)]) : W p l e { frames := 4, cells := 375248, slots := 4502060, locals := 110 } s m ([.ref this] : List Value).toArray below meth c H locs 998 5530 (MQ below (va_Qv (fun _ : Unit => True) (fun _ t => (fun sz su H => ∃ (κ' : Kt) (τ : Gh), TI κ' τ H ∧ CAP κ' τ H ∧ (κ'.1 = κ.1 ∧ κ'.2.1 = κ.2.1 ∧ κ'.2.2.2.2.2.2 = κ.2.2.2.2.2.2) ∧ kC κ' = sz + 375248 ∧ kS κ' ≤ su + 4496530 ∧ zT τ this = 7 ∧ zI τ (kR κ' this 0) 1 = 0 ∧ ∀ q, zT τ q ≠ 0 → xA [this] sz q) s.heap.size (hsl s.heap) t.heap) (xA [this] s.heap.size)) ([.ref this] : List Value).toArray s 375248 4502060 (xA [this] s.heap.size)) (F0 m 143 ls []) := by
  refine lv_aload_n hx hb dX5_init_143 rfl (lv_at hl 0 rfl) ?_
  refine va_get (D := κ.1) (ci := 5) (v := .ref (s.heap.size + 8)) (C := RX5) (T := TX5) (N := 10) hx hb hg inX5 hown hK f0.one 0 rfl rfl 3 (by decide) (hg _ k382) (fun _ h9 => h9) rfl dX5_init_144 ?_
  obtain ⟨ka19, sa19, G19, kd8_9, kd7_9, kd0_9, it, r19, rs19⟩ := W5_asm lt_this p4 p5 p39 p40 p41 p15 p16 p17 p20 p23 f25 p28 p31 f33 f0 T9 T256 T504 T751
  obtain ⟨GT, ⟨gc1, gc2, gc3⟩, GP⟩ := G19
  refine W.tight (fun w1 w2 w3 w4 => ?_)
  obtain ⟨kz, hkz⟩ : ∃ z, z = kcap ka19 ((List.range 998).map (fun j => s.heap.size + j)) (s.heap.size + 375248) (hsl H + 4491000) := ⟨_, rfl⟩
  have hkC : kC kz = s.heap.size + 375248 := by rw [hkz]; rfl
  have hkS : kS kz = hsl H + 4491000 := by rw [hkz]; rfl
  have hc1 : kz.1 = κ.1 := by rw [hkz]; exact gc1
  have hc2 : kz.2.1 = κ.2.1 := by rw [hkz]; exact gc2
  have hc3 : kz.2.2.2.2.2.2 = κ.2.2.2.2.2.2 := by rw [hkz]; show ka19.2.2.2.2.2.2 = _; rw [gc3]
  have rz : kR kz this 0 = (s.heap.size + 0) := by rw [hkz]; exact r19
  have rs : kR kz this 3 = (s.heap.size + 8) := by rw [hkz]; exact rs19
  have hT : TI kz sa19 H := by rw [hkz]; exact GT.kcap
  have hL9 : ∀ a, zT sa19 a = 1 → a ∈ (List.range 998).map (fun j => s.heap.size + j) := fun a ha => by
    have h9 : (s.heap.size + 0 ≤ a ∧ a < s.heap.size + 998) ∨ a = this := GP a (by rw [ha]; decide)
    rcases h9 with h9 | h9
    · exact List.mem_map.mpr ⟨a - s.heap.size, List.mem_range.mpr (by omega), by omega⟩
    · rw [h9, kd7_9] at ha; exact absurd ha (by decide)
  have hCp : CAP kz sa19 H := by rw [hkz]; exact CAP.mk (n := 998) hL9 (by rw [List.length_map, List.length_range]; exact Nat.le_refl _) (by omega) (by omega)
  have hAq : ∀ q, tA sa19 H.size q → xA [this] s.heap.size q := fun q hq => by
    rcases hq with hq | hq
    · have h9 : (s.heap.size + 0 ≤ q ∧ q < s.heap.size + 998) ∨ q = this := GP q hq; exact h9.elim (fun h => Or.inr (by omega)) (fun h => Or.inl (List.mem_singleton.mpr h))
    · exact Or.inr (by omega)
  refine xcallV (n := 0) (As := []) (rest := []) hx hb hml hown hg (κ1 := kz) ⟨hc1, kTy_eq hc2, XY_eq hc3⟩ (X1_begin l kz sa19 (s.heap.size + 8) kd8_9) (mwV k332 k333 k334 k87 k335) ⟨rfl, by decide, by decide, by decide +kernel⟩ ⟨(Nat.le_of_ble_eq_true rfl), (Nat.le_of_ble_eq_true rfl)⟩ hT hCp hK hS hX hAq p20 rfl rfl hl.1 rfl (Nat.le_of_ble_eq_true rfl) dX5_init_147 ⟨by show _ ≤ (375248 : Nat); omega, by show _ ≤ (4502060 : Nat); omega⟩ (fun tb H locs hφ hE hT hCp g hS2 => ?_)
  replace hS := hS2
  clear hS2
  have kn8 : zT tb (s.heap.size + 8) = 3 := (hE.1 _ (by rw [kd8_9]; decide)).trans kd8_9
  have kt : zT tb this = 7 := (hE.1 _ (by rw [kd7_9]; decide)).trans kd7_9
  have kx : zT tb (s.heap.size + 0) = 6 := (hE.1 _ (by rw [kd0_9]; decide)).trans kd0_9
  have ix : zI tb (s.heap.size + 0) 1 = 0 := ((show zk sa19 (s.heap.size + 0) 6 from kd0_9).eI hE (by decide) rfl).trans it
  obtain ⟨x7, fo7, -⟩ := hT.at kt (by decide)
  have ft7 : va_at κ.1 vwCl (this, .inr (5, fs5 (kR kz this) (zI tb this))) H := by rw [← hc1]; exact fo7
  have suppb : ∀ q, zT tb q ≠ 0 → xA [this] s.heap.size q := fun q hq => by
    rcases hE.2.1 q hq with h | h
    · exact hAq q (Or.inl h)
    · exact Or.inr (by omega)
  refine lv_aload_n hx hb dX5_init_150 rfl (lv_at hl 0 rfl) ?_
  refine va_get (D := κ.1) (ci := 5) (v := .ref (s.heap.size + 8)) (C := RX5) (T := TX5) (N := 10) hx hb hg inX5 hown hK ft7.one 0 rfl rfl 3 (by decide) (hg _ k382) (fun _ h9 => h9) (congrArg (fun z => some (Value.ref z)) rs) dX5_init_151 ?_
  refine W.tight (fun v1 v2 v3 v4 => ?_)
  have hAq : ∀ q, tA tb H.size q → xA [this] s.heap.size q := fun q hq => hq.elim (fun h => suppb q h) (fun h => Or.inr (by omega))
  obtain ⟨x9, fo9, -⟩ := hT.at kn8 (by decide)
  refine xcallV (n := 0) (As := []) (rest := []) hx hb hml hown hg (κ1 := kz) ⟨hc1, kTy_eq hc2, XY_eq hc3⟩ (X1_takeSettings l kz tb (s.heap.size + 8) kn8) (mwV k375 k376 k377 k87 k378) ⟨rfl, by decide, by decide, by decide +kernel⟩ ⟨(Nat.le_of_ble_eq_true rfl), (Nat.le_of_ble_eq_true rfl)⟩ hT hCp hK hS hX hAq (by rw [← hc1]; exact fo9) rfl rfl hl.1 rfl (Nat.le_of_ble_eq_true rfl) dX5_init_154 ⟨by show _ ≤ (375248 : Nat); omega, by show _ ≤ (4502060 : Nat); omega⟩ (fun tc H locs hφ hE hT hCp g hS2 => ?_)
  replace hS := hS2
  clear hS2
  have kt2 : zT tc this = 7 := (hE.1 _ (by rw [kt]; decide)).trans kt
  have ix2 : zI tc (s.heap.size + 0) 1 = 0 := ((show zk tb (s.heap.size + 0) 6 from kx).eI hE (by decide) rfl).trans ix
  have suppc : ∀ q, zT tc q ≠ 0 → xA [this] s.heap.size q := fun q hq => by
    rcases hE.2.1 q hq with h | h
    · exact hAq q (Or.inl h)
    · exact Or.inr (by omega)
  refine W.tight (fun y1 y2 y3 y4 => ?_)
  exact xret (Post := (fun sz su H => ∃ (κ' : Kt) (τ : Gh), TI κ' τ H ∧ CAP κ' τ H ∧ (κ'.1 = κ.1 ∧ κ'.2.1 = κ.2.1 ∧ κ'.2.2.2.2.2.2 = κ.2.2.2.2.2.2) ∧ kC κ' = sz + 375248 ∧ kS κ' ≤ su + 4496530 ∧ zT τ this = 7 ∧ zI τ (kR κ' this 0) 1 = 0 ∧ ∀ q, zT τ q ≠ 0 → xA [this] sz q)) hx hb hr hlocks hS ⟨kz, tc, hT, hCp, ⟨hc1, hc2, hc3⟩, hkC, by omega, kt2, by rw [rz]; exact ix2, suppc⟩ (by omega) (by omega) dX5_init_157
set_option maxHeartbeats 40000000 in
set_option maxRecDepth 100000 in
theorem W5_init_c125 (l : Launch) (κ : Kt) (this : Nat) {p : Program} {e : Env} {s : State} {m : MethodId} {below : List Frame} {meth : Method} {c : Code} (hx : p.tables.exec = Jvm.exec) (hb : c.code = cX5_init) (hr : meth.sig.returnType = none) (hml : c.maxLocals = 1) (hown : s.vm.findClass RX5 = some m.cls) (hg : ∀ w ∈ GW, w.before ([.ref this] : List Value).toArray s = true) (hlocks : meth.locks = false) (hin : meth.name = "<init>") (hK : va_K κ.1 vwCl (kTy κ) s) (hX : XY κ (xA [this] s.heap.size) s s.heap) (lt_this : this < s.heap.size) {H : Heap} {locs : List Loc} {ls : Array Slot} (hz : H.size = s.heap.size + 998) (f0 : va_at κ.1 vwCl (this, .inr (5, [.ref (s.heap.size + 0), .ref (s.heap.size + 2), .ref (s.heap.size + 5), .ref (s.heap.size + 8), .ref (s.heap.size + 255), .ref (s.heap.size + 502), .ref (s.heap.size + 997), .int 0, .int 0, .int (-1)])) H) (p4 : va_at κ.1 vwCl ((s.heap.size + 0), .inr (3, [.ref (s.heap.size + 1), .int 0, .int 0, .int (-1), .int 0, .int 0, .int 0, .int 0])) H) (p5 : va_at κ.1 vwCl ((s.heap.size + 1), .inl (kA κ 2, 700, .inl (fun _ => 0))) H) (p9 : va_at κ.1 vwCl ((s.heap.size + 2), .inr (0, [.ref (s.heap.size + 3), .ref (s.heap.size + 4), .int 0, .int 0, .int 2, .int 1, .int 2])) H) (p10 : va_at κ.1 vwCl ((s.heap.size + 3), .inl (kA κ 0, 48, .inl (fun _ => 0))) H) (p11 : va_at κ.1 vwCl ((s.heap.size + 4), .inl (kA κ 0, 48, .inl (fun _ => 0))) H) (p15 : va_at κ.1 vwCl ((s.heap.size + 5), .inr (0, [.ref (s.heap.size + 6), .ref (s.heap.size + 7), .int 0, .int 0, .int 2, .int 1, .int 2])) H) (p16 : va_at κ.1 vwCl ((s.heap.size + 6), .inl (kA κ 0, 48, .inl (fun _ => 0))) H) (p17 : va_at κ.1 vwCl ((s.heap.size + 7), .inl (kA κ 0, 48, .inl (fun _ => 0))) H) (p20 : va_at κ.1 vwCl ((s.heap.size + 8), .inr (1, [.ref (s.heap.size + 2), .ref (s.heap.size + 9 + 0), .ref (s.heap.size + 9 + 1), .ref (s.heap.size + 9 + 2), .ref (s.heap.size + 9 + 3), .int 0, .ref (s.heap.size + 9 + 4), .int 0, .int 0, .int 0, .ref (s.heap.size + 9 + 6), .ref (s.heap.size + 9 + 8), .ref (s.heap.size + 9 + 10)])) H) (p23 : va_at κ.1 vwCl ((s.heap.size + 255), .inr (1, [.ref (s.heap.size + 2), .ref (s.heap.size + 256 + 0), .ref (s.heap.size + 256 + 1), .ref (s.heap.size + 256 + 2), .ref (s.heap.size + 256 + 3), .int 0, .ref (s.heap.size + 256 + 4), .int 0, .int 0, .int 0, .ref (s.heap.size + 256 + 6), .ref (s.heap.size + 256 + 8), .ref (s.heap.size + 256 + 10)])) H) (f25 : va_at κ.1 vwCl ((s.heap.size + 502), .inl (kA κ 6, 2, .inr (.inr (.inr (.inr (va_up (va_up (fun _ => none) 0 (some (s.heap.size + 503))) 1 (some (s.heap.size + 750)))))))) H) (p28 : va_at κ.1 vwCl ((s.heap.size + 503), .inr (1, [.ref (s.heap.size + 2), .ref (s.heap.size + 504 + 0), .ref (s.heap.size + 504 + 1), .ref (s.heap.size + 504 + 2), .ref (s.heap.size + 504 + 3), .int 0, .ref (s.heap.size + 504 + 4), .int 0, .int 0, .int 0, .ref (s.heap.size + 504 + 6), .ref (s.heap.size + 504 + 8), .ref (s.heap.size + 504 + 10)])) H) (p31 : va_at κ.1 vwCl ((s.heap.size + 750), .inr (1, [.ref (s.heap.size + 2), .ref (s.heap.size + 751 + 0), .ref (s.heap.size + 751 + 1), .ref (s.heap.size + 751 + 2), .ref (s.heap.size + 751 + 3), .int 0, .ref (s.heap.size + 751 + 4), .int 0, .int 0, .int 0, .ref (s.heap.size + 751 + 6), .ref (s.heap.size + 751 + 8), .ref (s.heap.size + 751 + 10)])) H) (f33 : va_at κ.1 vwCl ((s.heap.size + 997), .inl (kA κ 3, 2, .inl (fun _ => 0))) H) (T9 : TI (kst κ (s.heap.size + 9)) (gst (s.heap.size + 9)) H) (T256 : TI (kst κ (s.heap.size + 256)) (gst (s.heap.size + 256)) H) (T504 : TI (kst κ (s.heap.size + 504)) (gst (s.heap.size + 504)) H) (T751 : TI (kst κ (s.heap.size + 751)) (gst (s.heap.size + 751)) H) (hS : va_S (xA [this] s.heap.size) s.heap H locs) (hl : lv_has ls 1 [(0, .ref this)]) : W p l e { frames := 4, cells := 375248, slots := 4502060, locals := 110 } s m ([.ref this] : List Value).toArray below meth c H locs 998 5530 (MQ below (va_Qv (fun _ : Unit => True) (fun _ t => (fun sz su H => ∃ (κ' : Kt) (τ : Gh), TI κ' τ H ∧ CAP κ' τ H ∧ (κ'.1 = κ.1 ∧ κ'.2.1 = κ.2.1 ∧ κ'.2.2.2.2.2.2 = κ.2.2.2.2.2.2) ∧ kC κ' = sz + 375248 ∧ kS κ' ≤ su + 4496530 ∧ zT τ this = 7 ∧ zI τ (kR κ' this 0) 1 = 0 ∧ ∀ q, zT τ q ≠ 0 → xA [this] sz q) s.heap.size (hsl s.heap) t.heap) (xA [this] s.heap.size)) ([.ref this] : List Value).toArray s 375248 4502060 (xA [this] s.heap.size)) (F0 m 125 ls []) := by
  refine lv_aload_n hx hb dX5_init_125 rfl (lv_at hl 0 rfl) ?_
  refine va_get (D := κ.1) (ci := 5) (v := .ref (s.heap.size + 2)) (C := RX5) (T := TX5) (N := 10) hx hb hg inX5 hown hK f0.one 0 rfl rfl 1 (by decide) (hg _ k380) (fun _ h9 => h9) rfl dX5_init_126 ?_
  refine lv_iconst (v := 0) hx hb dX5_init_129 (by decide) ?_
  refine lv_iconst (v := 0) hx hb dX5_init_130 (by decide) ?_
  refine xcallX (n := 2) (As := [.int 0, .int 0]) (rest := []) hx hb hml hown hg (W0_add0 l κ (s.heap.size + 2) (s.heap.size + 3) (s.heap.size + 4) (by omega) (by omega) (by omega)) (mwV k328 k329 k330 k86 k331) ⟨rfl, by decide, by decide, by decide +kernel⟩ ⟨(Nat.le_of_ble_eq_true rfl), (Nat.le_of_ble_eq_true rfl)⟩ ⟨p9, p10, p11⟩ hK hS hX (xA_in (xA3 (Or.inr (by omega)) (Or.inr (by omega)) (Or.inr (by omega))) hS.1) p9 rfl rfl hl.1 rfl (Nat.le_of_ble_eq_true rfl) dX5_init_131 ⟨(Nat.le_of_ble_eq_true rfl), (Nat.le_of_ble_eq_true rfl)⟩ (fun H locs hp g hS2 => ?_)
  replace hS := hS2
  clear hS2
  replace f0 := g.kept f0 (show ¬ xA _ _ this from xA_no3 (nt1 lt_this) (nt1 lt_this) (nt1 lt_this) (lt1 lt_this hz))
  replace p4 := g.kept p4 (show ¬ xA _ _ (s.heap.size + 0) from xA_no3 (nk rfl) (nk rfl) (nk rfl) (lt2 hz rfl))
  replace p5 := g.kept p5 (show ¬ xA _ _ (s.heap.size + 1) from xA_no3 (nk rfl) (nk rfl) (nk rfl) (lt2 hz rfl))
  replace p15 := g.kept p15 (show ¬ xA _ _ (s.heap.size + 5) from xA_no3 (nk rfl) (nk rfl) (nk rfl) (lt2 hz rfl))
  replace p16 := g.kept p16 (show ¬ xA _ _ (s.heap.size + 6) from xA_no3 (nk rfl) (nk rfl) (nk rfl) (lt2 hz rfl))
  replace p17 := g.kept p17 (show ¬ xA _ _ (s.heap.size + 7) from xA_no3 (nk rfl) (nk rfl) (nk rfl) (lt2 hz rfl))
  replace p20 := g.kept p20 (show ¬ xA _ _ (s.heap.size + 8) from xA_no3 (nk rfl) (nk rfl) (nk rfl) (lt2 hz rfl))
  replace p23 := g.kept p23 (show ¬ xA _ _ (s.heap.size + 255) from xA_no3 (nk rfl) (nk rfl) (nk rfl) (lt2 hz rfl))
  replace f25 := g.kept f25 (show ¬ xA _ _ (s.heap.size + 502) from xA_no3 (nk rfl) (nk rfl) (nk rfl) (lt2 hz rfl))
  replace p28 := g.kept p28 (show ¬ xA _ _ (s.heap.size + 503) from xA_no3 (nk rfl) (nk rfl) (nk rfl) (lt2 hz rfl))
  replace p31 := g.kept p31 (show ¬ xA _ _ (s.heap.size + 750) from xA_no3 (nk rfl) (nk rfl) (nk rfl) (lt2 hz rfl))
  replace f33 := g.kept f33 (show ¬ xA _ _ (s.heap.size + 997) from xA_no3 (nk rfl) (nk rfl) (nk rfl) (lt2 hz rfl))
  replace T9 : TI (kst κ (s.heap.size + 9)) (gst (s.heap.size + 9)) H := g.TI T9 (fun q hq => (gst_in hq).elim fun h1 h2 => xA_no3 (by omega) (by omega) (by omega) (by omega))
  replace T256 : TI (kst κ (s.heap.size + 256)) (gst (s.heap.size + 256)) H := g.TI T256 (fun q hq => (gst_in hq).elim fun h1 h2 => xA_no3 (by omega) (by omega) (by omega) (by omega))
  replace T504 : TI (kst κ (s.heap.size + 504)) (gst (s.heap.size + 504)) H := g.TI T504 (fun q hq => (gst_in hq).elim fun h1 h2 => xA_no3 (by omega) (by omega) (by omega) (by omega))
  replace T751 : TI (kst κ (s.heap.size + 751)) (gst (s.heap.size + 751)) H := g.TI T751 (fun q hq => (gst_in hq).elim fun h1 h2 => xA_no3 (by omega) (by omega) (by omega) (by omega))
  clear g
  obtain ⟨p34, p35, p36, p37⟩ := hp
  rw [hz] at p34
  replace hz : H.size = s.heap.size + 998 := by omega
  replace p35 : va_at κ.1 vwCl ((s.heap.size + 2), .inr (0, [.ref (s.heap.size + 3), .ref (s.heap.size + 4), .int 1, .int 0, .int 2, .int 1, .int 2])) H := p35
  replace p36 : va_at κ.1 vwCl ((s.heap.size + 3), .inl (kA κ 0, 48, .inl (upd ((fun _ => 0)) 0 0))) H := p36
  replace p37 : va_at κ.1 vwCl ((s.heap.size + 4), .inl (kA κ 0, 48, .inl (upd ((fun _ => 0)) 0 0))) H := p37
  refine lv_aload_n hx hb dX5_init_134 rfl (lv_at hl 0 rfl) ?_
  refine va_get (D := κ.1) (ci := 5) (v := .ref (s.heap.size + 2)) (C := RX5) (T := TX5) (N := 10) hx hb hg inX5 hown hK f0.one 0 rfl rfl 1 (by decide) (hg _ k380) (fun _ h9 => h9) rfl dX5_init_135 ?_
  refine lv_iconst (v := 1) hx hb dX5_init_138 (by decide) ?_
  refine lv_iconst (v := 0) hx hb dX5_init_139 (by decide) ?_
  refine xcallX (n := 2) (As := [.int 1, .int 0]) (rest := []) hx hb hml hown hg (W0_add1 l κ (s.heap.size + 2) (s.heap.size + 3) (s.heap.size + 4) (by omega) (by omega) (by omega)) (mwV k328 k329 k330 k86 k331) ⟨rfl, by decide, by decide, by decide +kernel⟩ ⟨(Nat.le_of_ble_eq_true rfl), (Nat.le_of_ble_eq_true rfl)⟩ ⟨p35, p36, p37⟩ hK hS hX (xA_in (xA3 (Or.inr (by omega)) (Or.inr (by omega)) (Or.inr (by omega))) hS.1) p35 rfl rfl hl.1 rfl (Nat.le_of_ble_eq_true rfl) dX5_init_140 ⟨(Nat.le_of_ble_eq_true rfl), (Nat.le_of_ble_eq_true rfl)⟩ (fun H locs hp g hS2 => ?_)
  replace hS := hS2
  clear hS2
  replace f0 := g.kept f0 (show ¬ xA _ _ this from xA_no3 (nt1 lt_this) (nt1 lt_this) (nt1 lt_this) (lt1 lt_this hz))
  replace p4 := g.kept p4 (show ¬ xA _ _ (s.heap.size + 0) from xA_no3 (nk rfl) (nk rfl) (nk rfl) (lt2 hz rfl))
  replace p5 := g.kept p5 (show ¬ xA _ _ (s.heap.size + 1) from xA_no3 (nk rfl) (nk rfl) (nk rfl) (lt2 hz rfl))
  replace p15 := g.kept p15 (show ¬ xA _ _ (s.heap.size + 5) from xA_no3 (nk rfl) (nk rfl) (nk rfl) (lt2 hz rfl))
  replace p16 := g.kept p16 (show ¬ xA _ _ (s.heap.size + 6) from xA_no3 (nk rfl) (nk rfl) (nk rfl) (lt2 hz rfl))
  replace p17 := g.kept p17 (show ¬ xA _ _ (s.heap.size + 7) from xA_no3 (nk rfl) (nk rfl) (nk rfl) (lt2 hz rfl))
  replace p20 := g.kept p20 (show ¬ xA _ _ (s.heap.size + 8) from xA_no3 (nk rfl) (nk rfl) (nk rfl) (lt2 hz rfl))
  replace p23 := g.kept p23 (show ¬ xA _ _ (s.heap.size + 255) from xA_no3 (nk rfl) (nk rfl) (nk rfl) (lt2 hz rfl))
  replace f25 := g.kept f25 (show ¬ xA _ _ (s.heap.size + 502) from xA_no3 (nk rfl) (nk rfl) (nk rfl) (lt2 hz rfl))
  replace p28 := g.kept p28 (show ¬ xA _ _ (s.heap.size + 503) from xA_no3 (nk rfl) (nk rfl) (nk rfl) (lt2 hz rfl))
  replace p31 := g.kept p31 (show ¬ xA _ _ (s.heap.size + 750) from xA_no3 (nk rfl) (nk rfl) (nk rfl) (lt2 hz rfl))
  replace f33 := g.kept f33 (show ¬ xA _ _ (s.heap.size + 997) from xA_no3 (nk rfl) (nk rfl) (nk rfl) (lt2 hz rfl))
  replace T9 : TI (kst κ (s.heap.size + 9)) (gst (s.heap.size + 9)) H := g.TI T9 (fun q hq => (gst_in hq).elim fun h1 h2 => xA_no3 (by omega) (by omega) (by omega) (by omega))
  replace T256 : TI (kst κ (s.heap.size + 256)) (gst (s.heap.size + 256)) H := g.TI T256 (fun q hq => (gst_in hq).elim fun h1 h2 => xA_no3 (by omega) (by omega) (by omega) (by omega))
  replace T504 : TI (kst κ (s.heap.size + 504)) (gst (s.heap.size + 504)) H := g.TI T504 (fun q hq => (gst_in hq).elim fun h1 h2 => xA_no3 (by omega) (by omega) (by omega) (by omega))
  replace T751 : TI (kst κ (s.heap.size + 751)) (gst (s.heap.size + 751)) H := g.TI T751 (fun q hq => (gst_in hq).elim fun h1 h2 => xA_no3 (by omega) (by omega) (by omega) (by omega))
  clear g
  obtain ⟨p38, p39, p40, p41⟩ := hp
  rw [hz] at p38
  replace hz : H.size = s.heap.size + 998 := by omega
  replace p39 : va_at κ.1 vwCl ((s.heap.size + 2), .inr (0, [.ref (s.heap.size + 3), .ref (s.heap.size + 4), .int 2, .int 0, .int 2, .int 1, .int 2])) H := p39
  replace p40 : va_at κ.1 vwCl ((s.heap.size + 3), .inl (kA κ 0, 48, .inl (upd ((upd ((fun _ => 0)) 0 0)) 1 1))) H := p40
  replace p41 : va_at κ.1 vwCl ((s.heap.size + 4), .inl (kA κ 0, 48, .inl (upd ((upd ((fun _ => 0)) 0 0)) 1 0))) H := p41
  exact W5_init_c143 l κ this  hx hb hr hml hown hg hlocks hin hK hX lt_this hz f0 p4 p5 p39 p40 p41 p15 p16 p17 p20 p23 f25 p28 p31 f33 T9 T256 T504 T751 hS hl
set_option maxHeartbeats 40000000 in
set_option maxRecDepth 100000 in
theorem W5_init_c103 (l : Launch) (κ : Kt) (this : Nat) {p : Program} {e : Env} {s : State} {m : MethodId} {below : List Frame} {meth : Method} {c : Code} (hx : p.tables.exec = Jvm.exec) (hb : c.code = cX5_init) (hr : meth.sig.returnType = none) (hml : c.maxLocals = 1) (hown : s.vm.findClass RX5 = some m.cls) (hg : ∀ w ∈ GW, w.before ([.ref this] : List Value).toArray s = true) (hlocks : meth.locks = false) (hin : meth.name = "<init>") (hK : va_K κ.1 vwCl (kTy κ) s) (hX : XY κ (xA [this] s.heap.size) s s.heap) (lt_this : this < s.heap.size) {H : Heap} {locs : List Loc} {ls : Array Slot} (hz : H.size = s.heap.size + 997) (f0 : va_at κ.1 vwCl (this, .inr (5, [.ref (s.heap.size + 0), .ref (s.heap.size + 2), .ref (s.heap.size + 5), .ref (s.heap.size + 8), .ref (s.heap.size + 255), .ref (s.heap.size + 502), .null, .int 0, .int 0, .int 0])) H) (p4 : va_at κ.1 vwCl ((s.heap.size + 0), .inr (3, [.ref (s.heap.size + 1), .int 0, .int 0, .int (-1), .int 0, .int 0, .int 0, .int 0])) H) (p5 : va_at κ.1 vwCl ((s.heap.size + 1), .inl (kA κ 2, 700, .inl (fun _ => 0))) H) (p9 : va_at κ.1 vwCl ((s.heap.size + 2), .inr (0, [.ref (s.heap.size + 3), .ref (s.heap.size + 4), .int 0, .int 0, .int 2, .int 1, .int 2])) H) (p10 : va_at κ.1 vwCl ((s.heap.size + 3), .inl (kA κ 0, 48, .inl (fun _ => 0))) H) (p11 : va_at κ.1 vwCl ((s.heap.size + 4), .inl (kA κ 0, 48, .inl (fun _ => 0))) H) (p15 : va_at κ.1 vwCl ((s.heap.size + 5), .inr (0, [.ref (s.heap.size + 6), .ref (s.heap.size + 7), .int 0, .int 0, .int 2, .int 1, .int 2])) H) (p16 : va_at κ.1 vwCl ((s.heap.size + 6), .inl (kA κ 0, 48, .inl (fun _ => 0))) H) (p17 : va_at κ.1 vwCl ((s.heap.size + 7), .inl (kA κ 0, 48, .inl (fun _ => 0))) H) (p20 : va_at κ.1 vwCl ((s.heap.size + 8), .inr (1, [.ref (s.heap.size + 2), .ref (s.heap.size + 9 + 0), .ref (s.heap.size + 9 + 1), .ref (s.heap.size + 9 + 2), .ref (s.heap.size + 9 + 3), .int 0, .ref (s.heap.size + 9 + 4), .int 0, .int 0, .int 0, .ref (s.heap.size + 9 + 6), .ref (s.heap.size + 9 + 8), .ref (s.heap.size + 9 + 10)])) H) (p23 : va_at κ.1 vwCl ((s.heap.size + 255), .inr (1, [.ref (s.heap.size + 2), .ref (s.heap.size + 256 + 0), .ref (s.heap.size + 256 + 1), .ref (s.heap.size + 256 + 2), .ref (s.heap.size + 256 + 3), .int 0, .ref (s.heap.size + 256 + 4), .int 0, .int 0, .int 0, .ref (s.heap.size + 256 + 6), .ref (s.heap.size + 256 + 8), .ref (s.heap.size + 256 + 10)])) H) (f25 : va_at κ.1 vwCl ((s.heap.size + 502), .inl (kA κ 6, 2, .inr (.inr (.inr (.inr (va_up (va_up (fun _ => none) 0 (some (s.heap.size + 503))) 1 (some (s.heap.size + 750)))))))) H) (p28 : va_at κ.1 vwCl ((s.heap.size + 503), .inr (1, [.ref (s.heap.size + 2), .ref (s.heap.size + 504 + 0), .ref (s.heap.size + 504 + 1), .ref (s.heap.size + 504 + 2), .ref (s.heap.size + 504 + 3), .int 0, .ref (s.heap.size + 504 + 4), .int 0, .int 0, .int 0, .ref (s.heap.size + 504 + 6), .ref (s.heap.size + 504 + 8), .ref (s.heap.size + 504 + 10)])) H) (p31 : va_at κ.1 vwCl ((s.heap.size + 750), .inr (1, [.ref (s.heap.size + 2), .ref (s.heap.size + 751 + 0), .ref (s.heap.size + 751 + 1), .ref (s.heap.size + 751 + 2), .ref (s.heap.size + 751 + 3), .int 0, .ref (s.heap.size + 751 + 4), .int 0, .int 0, .int 0, .ref (s.heap.size + 751 + 6), .ref (s.heap.size + 751 + 8), .ref (s.heap.size + 751 + 10)])) H) (T9 : TI (kst κ (s.heap.size + 9)) (gst (s.heap.size + 9)) H) (T256 : TI (kst κ (s.heap.size + 256)) (gst (s.heap.size + 256)) H) (T504 : TI (kst κ (s.heap.size + 504)) (gst (s.heap.size + 504)) H) (T751 : TI (kst κ (s.heap.size + 751)) (gst (s.heap.size + 751)) H) (hS : va_S (xA [this] s.heap.size) s.heap H locs) (hl : lv_has ls 1 [(0, .ref this)]) : W p l e { frames := 4, cells := 375248, slots := 4502060, locals := 110 } s m ([.ref this] : List Value).toArray below meth c H locs 997 5528 (MQ below (va_Qv (fun _ : Unit => True) (fun _ t => (fun sz su H => ∃ (κ' : Kt) (τ : Gh), TI κ' τ H ∧ CAP κ' τ H ∧ (κ'.1 = κ.1 ∧ κ'.2.1 = κ.2.1 ∧ κ'.2.2.2.2.2.2 = κ.2.2.2.2.2.2) ∧ kC κ' = sz + 375248 ∧ kS κ' ≤ su + 4496530 ∧ zT τ this = 7 ∧ zI τ (kR κ' this 0) 1 = 0 ∧ ∀ q, zT τ q ≠ 0 → xA [this] sz q) s.heap.size (hsl s.heap) t.heap) (xA [this] s.heap.size)) ([.ref this] : List Value).toArray s 375248 4502060 (xA [this] s.heap.size)) (F0 m 103 ls []) := by
  refine lv_aload_n hx hb dX5_init_103 rfl (lv_at hl 0 rfl) ?_
  refine lv_iconst (v := 2) hx hb dX5_init_104 (by decide) ?_
  refine xnewa 3 (atype := .boolean) (k := 2) (N := 2) (E := (2, .inl (fun _ => 0))) hx hb (hg _ k410) hK rfl hS (by decide) (by decide) (Nat.le_of_ble_eq_true rfl) rfl (Nat.le_of_ble_eq_true rfl) (Nat.le_of_ble_eq_true rfl) dX5_init_105 (fun n32 H e9 g f33 hS2 => ?_)
  replace hS := hS2
  clear hS2
  replace f0 := g.kept f0
  replace p4 := g.kept p4
  replace p5 := g.kept p5
  replace p9 := g.kept p9
  replace p10 := g.kept p10
  replace p11 := g.kept p11
  replace p15 := g.kept p15
  replace p16 := g.kept p16
  replace p17 := g.kept p17
  replace p20 := g.kept p20
  replace p23 := g.kept p23
  replace f25 := g.kept f25
  replace p28 := g.kept p28
  replace p31 := g.kept p31
  replace T9 : TI (kst κ (s.heap.size + 9)) (gst (s.heap.size + 9)) H := g.TI T9
  replace T256 : TI (kst κ (s.heap.size + 256)) (gst (s.heap.size + 256)) H := g.TI T256
  replace T504 : TI (kst κ (s.heap.size + 504)) (gst (s.heap.size + 504)) H := g.TI T504
  replace T751 : TI (kst κ (s.heap.size + 751)) (gst (s.heap.size + 751)) H := g.TI T751
  obtain rfl : n32 = s.heap.size + 997 := by omega
  replace hz : H.size = s.heap.size + 998 := by have := g.1; omega
  clear g
  refine xputF (cn := 5) (v := .ref (s.heap.size + 997)) (ty := .array .boolean) (C := RX5) (T := TX5) (N := 10) hx hb hg inX5 tyX5 tyX5_ok nmX5 hown hK hS xA0 f0 rfl 6 (by decide) (hg _ k385) (fun _ h9 => h9) rfl hin rfl (by decide +kernel) rfl rfl (Nat.le_of_ble_eq_true rfl) dX5_init_107 (fun H locs g f0 hS2 => ?_)
  replace hS := hS2
  clear hS2
  replace p4 := g.kept p4 (show (s.heap.size + 0) ≠ this from (nt2 lt_this))
  replace p5 := g.kept p5 (show (s.heap.size + 1) ≠ this from (nt2 lt_this))
  replace p9 := g.kept p9 (show (s.heap.size + 2) ≠ this from (nt2 lt_this))
  replace p10 := g.kept p10 (show (s.heap.size + 3) ≠ this from (nt2 lt_this))
  replace p11 := g.kept p11 (show (s.heap.size + 4) ≠ this from (nt2 lt_this))
  replace p15 := g.kept p15 (show (s.heap.size + 5) ≠ this from (nt2 lt_this))
  replace p16 := g.kept p16 (show (s.heap.size + 6) ≠ this from (nt2 lt_this))
  replace p17 := g.kept p17 (show (s.heap.size + 7) ≠ this from (nt2 lt_this))
  replace p20 := g.kept p20 (show (s.heap.size + 8) ≠ this from (nt2 lt_this))
  replace p23 := g.kept p23 (show (s.heap.size + 255) ≠ this from (nt2 lt_this))
  replace f25 := g.kept f25 (show (s.heap.size + 502) ≠ this from (nt2 lt_this))
  replace p28 := g.kept p28 (show (s.heap.size + 503) ≠ this from (nt2 lt_this))
  replace p31 := g.kept p31 (show (s.heap.size + 750) ≠ this from (nt2 lt_this))
  replace f33 := g.kept f33 (show (s.heap.size + 997) ≠ this from (nt2 lt_this))
  replace T9 : TI (kst κ (s.heap.size + 9)) (gst (s.heap.size + 9)) H := g.TI T9 (gst_0 (Or.inl (nlt0 lt_this)))
  replace T256 : TI (kst κ (s.heap.size + 256)) (gst (s.heap.size + 256)) H := g.TI T256 (gst_0 (Or.inl (nlt0 lt_this)))
  replace T504 : TI (kst κ (s.heap.size + 504)) (gst (s.heap.size + 504)) H := g.TI T504 (gst_0 (Or.inl (nlt0 lt_this)))
  replace T751 : TI (kst κ (s.heap.size + 751)) (gst (s.heap.size + 751)) H := g.TI T751 (gst_0 (Or.inl (nlt0 lt_this)))
  replace f0 : va_at κ.1 vwCl (this, .inr (5, [.ref (s.heap.size + 0), .ref (s.heap.size + 2), .ref (s.heap.size + 5), .ref (s.heap.size + 8), .ref (s.heap.size + 255), .ref (s.heap.size + 502), .ref (s.heap.size + 997), .int 0, .int 0, .int 0])) H := f0
  replace hz := g.1.trans hz
  clear g
  refine lv_aload_n hx hb dX5_init_110 rfl (lv_at hl 0 rfl) ?_
  refine lv_iconst (v := 0) hx hb dX5_init_111 (by decide) ?_
  refine xput (cn := 5) (v := .int 0) (ty := .int) (C := RX5) (T := TX5) (N := 10) hx hb hg inX5 tyX5 tyX5_ok nmX5 hown hK hS xA0 f0 rfl 7 (by decide) (hg _ k386) (fun _ h9 => h9) rfl (by decide +kernel) rfl rfl (Nat.le_of_ble_eq_true rfl) dX5_init_112 (fun H locs g f0 hS2 => ?_)
  replace hS := hS2
  clear hS2
  replace p4 := g.kept p4 (show (s.heap.size + 0) ≠ this from (nt2 lt_this))
  replace p5 := g.kept p5 (show (s.heap.size + 1) ≠ this from (nt2 lt_this))
  replace p9 := g.kept p9 (show (s.heap.size + 2) ≠ this from (nt2 lt_this))
  replace p10 := g.kept p10 (show (s.heap.size + 3) ≠ this from (nt2 lt_this))
  replace p11 := g.kept p11 (show (s.heap.size + 4) ≠ this from (nt2 lt_this))
  replace p15 := g.kept p15 (show (s.heap.size + 5) ≠ this from (nt2 lt_this))
  replace p16 := g.kept p16 (show (s.heap.size + 6) ≠ this from (nt2 lt_this))
  replace p17 := g.kept p17 (show (s.heap.size + 7) ≠ this from (nt2 lt_this))
  replace p20 := g.kept p20 (show (s.heap.size + 8) ≠ this from (nt2 lt_this))
  replace p23 := g.kept p23 (show (s.heap.size + 255) ≠ this from (nt2 lt_this))
  replace f25 := g.kept f25 (show (s.heap.size + 502) ≠ this from (nt2 lt_this))
  replace p28 := g.kept p28 (show (s.heap.size + 503) ≠ this from (nt2 lt_this))
  replace p31 := g.kept p31 (show (s.heap.size + 750) ≠ this from (nt2 lt_this))
  replace f33 := g.kept f33 (show (s.heap.size + 997) ≠ this from (nt2 lt_this))
  replace T9 : TI (kst κ (s.heap.size + 9)) (gst (s.heap.size + 9)) H := g.TI T9 (gst_0 (Or.inl (nlt0 lt_this)))
  replace T256 : TI (kst κ (s.heap.size + 256)) (gst (s.heap.size + 256)) H := g.TI T256 (gst_0 (Or.inl (nlt0 lt_this)))
  replace T504 : TI (kst κ (s.heap.size + 504)) (gst (s.heap.size + 504)) H := g.TI T504 (gst_0 (Or.inl (nlt0 lt_this)))
  replace T751 : TI (kst κ (s.heap.size + 751)) (gst (s.heap.size + 751)) H := g.TI T751 (gst_0 (Or.inl (nlt0 lt_this)))
  replace f0 : va_at κ.1 vwCl (this, .inr (5, [.ref (s.heap.size + 0), .ref (s.heap.size + 2), .ref (s.heap.size + 5), .ref (s.heap.size + 8), .ref (s.heap.size + 255), .ref (s.heap.size + 502), .ref (s.heap.size + 997), .int 0, .int 0, .int 0])) H := f0
  replace hz := g.1.trans hz
  clear g
  refine lv_aload_n hx hb dX5_init_115 rfl (lv_at hl 0 rfl) ?_
  refine lv_iconst (v := 0) hx hb dX5_init_116 (by decide) ?_
  refine xput (cn := 5) (v := .int 0) (ty := .int) (C := RX5) (T := TX5) (N := 10) hx hb hg inX5 tyX5 tyX5_ok nmX5 hown hK hS xA0 f0 rfl 8 (by decide) (hg _ k387) (fun _ h9 => h9) rfl (by decide +kernel) rfl rfl (Nat.le_of_ble_eq_true rfl) dX5_init_117 (fun H locs g f0 hS2 => ?_)
  replace hS := hS2
  clear hS2
  replace p4 := g.kept p4 (show (s.heap.size + 0) ≠ this from (nt2 lt_this))
  replace p5 := g.kept p5 (show (s.heap.size + 1) ≠ this from (nt2 lt_this))
  replace p9 := g.kept p9 (show (s.heap.size + 2) ≠ this from (nt2 lt_this))
  replace p10 := g.kept p10 (show (s.heap.size + 3) ≠ this from (nt2 lt_this))
  replace p11 := g.kept p11 (show (s.heap.size + 4) ≠ this from (nt2 lt_this))
  replace p15 := g.kept p15 (show (s.heap.size + 5) ≠ this from (nt2 lt_this))
  replace p16 := g.kept p16 (show (s.heap.size + 6) ≠ this from (nt2 lt_this))
  replace p17 := g.kept p17 (show (s.heap.size + 7) ≠ this from (nt2 lt_this))
  replace p20 := g.kept p20 (show (s.heap.size + 8) ≠ this from (nt2 lt_this))
  replace p23 := g.kept p23 (show (s.heap.size + 255) ≠ this from (nt2 lt_this))
  replace f25 := g.kept f25 (show (s.heap.size + 502) ≠ this from (nt2 lt_this))
  replace p28 := g.kept p28 (show (s.heap.size + 503) ≠ this from (nt2 lt_this))
  replace p31 := g.kept p31 (show (s.heap.size + 750) ≠ this from (nt2 lt_this))
  replace f33 := g.kept f33 (show (s.heap.size + 997) ≠ this from (nt2 lt_this))
  replace T9 : TI (kst κ (s.heap.size + 9)) (gst (s.heap.size + 9)) H := g.TI T9 (gst_0 (Or.inl (nlt0 lt_this)))
  replace T256 : TI (kst κ (s.heap.size + 256)) (gst (s.heap.size + 256)) H := g.TI T256 (gst_0 (Or.inl (nlt0 lt_this)))
  replace T504 : TI (kst κ (s.heap.size + 504)) (gst (s.heap.size + 504)) H := g.TI T504 (gst_0 (Or.inl (nlt0 lt_this)))
  replace T751 : TI (kst κ (s.heap.size + 751)) (gst (s.heap.size + 751)) H := g.TI T751 (gst_0 (Or.inl (nlt0 lt_this)))
  replace f0 : va_at κ.1 vwCl (this, .inr (5, [.ref (s.heap.size + 0), .ref (s.heap.size + 2), .ref (s.heap.size + 5), .ref (s.heap.size + 8), .ref (s.heap.size + 255), .ref (s.heap.size + 502), .ref (s.heap.size + 997), .int 0, .int 0, .int 0])) H := f0
  replace hz := g.1.trans hz
  clear g
  refine lv_aload_n hx hb dX5_init_120 rfl (lv_at hl 0 rfl) ?_
  refine lv_iconst (v := (-1)) hx hb dX5_init_121 (by decide) ?_
  refine xput (cn := 5) (v := .int (-1)) (ty := .int) (C := RX5) (T := TX5) (N := 10) hx hb hg inX5 tyX5 tyX5_ok nmX5 hown hK hS xA0 f0 rfl 9 (by decide) (hg _ k388) (fun _ h9 => h9) rfl (by decide +kernel) rfl rfl (Nat.le_of_ble_eq_true rfl) dX5_init_122 (fun H locs g f0 hS2 => ?_)
  replace hS := hS2
  clear hS2
  replace p4 := g.kept p4 (show (s.heap.size + 0) ≠ this from (nt2 lt_this))
  replace p5 := g.kept p5 (show (s.heap.size + 1) ≠ this from (nt2 lt_this))
  replace p9 := g.kept p9 (show (s.heap.size + 2) ≠ this from (nt2 lt_this))
  replace p10 := g.kept p10 (show (s.heap.size + 3) ≠ this from (nt2 lt_this))
  replace p11 := g.kept p11 (show (s.heap.size + 4) ≠ this from (nt2 lt_this))
  replace p15 := g.kept p15 (show (s.heap.size + 5) ≠ this from (nt2 lt_this))
  replace p16 := g.kept p16 (show (s.heap.size + 6) ≠ this from (nt2 lt_this))
  replace p17 := g.kept p17 (show (s.heap.size + 7) ≠ this from (nt2 lt_this))
  replace p20 := g.kept p20 (show (s.heap.size + 8) ≠ this from (nt2 lt_this))
  replace p23 := g.kept p23 (show (s.heap.size + 255) ≠ this from (nt2 lt_this))
  replace f25 := g.kept f25 (show (s.heap.size + 502) ≠ this from (nt2 lt_this))
  replace p28 := g.kept p28 (show (s.heap.size + 503) ≠ this from (nt2 lt_this))
  replace p31 := g.kept p31 (show (s.heap.size + 750) ≠ this from (nt2 lt_this))
  replace f33 := g.kept f33 (show (s.heap.size + 997) ≠ this from (nt2 lt_this))
  replace T9 : TI (kst κ (s.heap.size + 9)) (gst (s.heap.size + 9)) H := g.TI T9 (gst_0 (Or.inl (nlt0 lt_this)))
  replace T256 : TI (kst κ (s.heap.size + 256)) (gst (s.heap.size + 256)) H := g.TI T256 (gst_0 (Or.inl (nlt0 lt_this)))
  replace T504 : TI (kst κ (s.heap.size + 504)) (gst (s.heap.size + 504)) H := g.TI T504 (gst_0 (Or.inl (nlt0 lt_this)))
  replace T751 : TI (kst κ (s.heap.size + 751)) (gst (s.heap.size + 751)) H := g.TI T751 (gst_0 (Or.inl (nlt0 lt_this)))
  replace f0 : va_at κ.1 vwCl (this, .inr (5, [.ref (s.heap.size + 0), .ref (s.heap.size + 2), .ref (s.heap.size + 5), .ref (s.heap.size + 8), .ref (s.heap.size + 255), .ref (s.heap.size + 502), .ref (s.heap.size + 997), .int 0, .int 0, .int (-1)])) H := f0
  replace hz := g.1.trans hz
  clear g
  exact W5_init_c125 l κ this  hx hb hr hml hown hg hlocks hin hK hX lt_this hz f0 p4 p5 p9 p10 p11 p15 p16 p17 p20 p23 f25 p28 p31 f33 T9 T256 T504 T751 hS hl
set_option maxHeartbeats 40000000 in
set_option maxRecDepth 100000 in
theorem W5_init_c67 (l : Launch) (κ : Kt) (this : Nat) {p : Program} {e : Env} {s : State} {m : MethodId} {below : List Frame} {meth : Method} {c : Code} (hx : p.tables.exec = Jvm.exec) (hb : c.code = cX5_init) (hr : meth.sig.returnType = none) (hml : c.maxLocals = 1) (hown : s.vm.findClass RX5 = some m.cls) (hg : ∀ w ∈ GW, w.before ([.ref this] : List Value).toArray s = true) (hlocks : meth.locks = false) (hin : meth.name = "<init>") (hK : va_K κ.1 vwCl (kTy κ) s) (hX : XY κ (xA [this] s.heap.size) s s.heap) (lt_this : this < s.heap.size) {H : Heap} {locs : List Loc} {ls : Array Slot} (hz : H.size = s.heap.size + 502) (f0 : va_at κ.1 vwCl (this, .inr (5, [.ref (s.heap.size + 0), .ref (s.heap.size + 2), .ref (s.heap.size + 5), .ref (s.heap.size + 8), .ref (s.heap.size + 255), .null, .null, .int 0, .int 0, .int 0])) H) (p4 : va_at κ.1 vwCl ((s.heap.size + 0), .inr (3, [.ref (s.heap.size + 1), .int 0, .int 0, .int (-1), .int 0, .int 0, .int 0, .int 0])) H) (p5 : va_at κ.1 vwCl ((s.heap.size + 1), .inl (kA κ 2, 700, .inl (fun _ => 0))) H) (p9 : va_at κ.1 vwCl ((s.heap.size + 2), .inr (0, [.ref (s.heap.size + 3), .ref (s.heap.size + 4), .int 0, .int 0, .int 2, .int 1, .int 2])) H) (p10 : va_at κ.1 vwCl ((s.heap.size + 3), .inl (kA κ 0, 48, .inl (fun _ => 0))) H) (p11 : va_at κ.1 vwCl ((s.heap.size + 4), .inl (kA κ 0, 48, .inl (fun _ => 0))) H) (p15 : va_at κ.1 vwCl ((s.heap.size + 5), .inr (0, [.ref (s.heap.size + 6), .ref (s.heap.size + 7), .int 0, .int 0, .int 2, .int 1, .int 2])) H) (p16 : va_at κ.1 vwCl ((s.heap.size + 6), .inl (kA κ 0, 48, .inl (fun _ => 0))) H) (p17 : va_at κ.1 vwCl ((s.heap.size + 7), .inl (kA κ 0, 48, .inl (fun _ => 0))) H) (p20 : va_at κ.1 vwCl ((s.heap.size + 8), .inr (1, [.ref (s.heap.size + 2), .ref (s.heap.size + 9 + 0), .ref (s.heap.size + 9 + 1), .ref (s.heap.size + 9 + 2), .ref (s.heap.size + 9 + 3), .int 0, .ref (s.heap.size + 9 + 4), .int 0, .int 0, .int 0, .ref (s.heap.size + 9 + 6), .ref (s.heap.size + 9 + 8), .ref (s.heap.size + 9 + 10)])) H) (p23 : va_at κ.1 vwCl ((s.heap.size + 255), .inr (1, [.ref (s.heap.size + 2), .ref (s.heap.size + 256 + 0), .ref (s.heap.size + 256 + 1), .ref (s.heap.size + 256 + 2), .ref (s.heap.size + 256 + 3), .int 0, .ref (s.heap.size + 256 + 4), .int 0, .int 0, .int 0, .ref (s.heap.size + 256 + 6), .ref (s.heap.size + 256 + 8), .ref (s.heap.size + 256 + 10)])) H) (T9 : TI (kst κ (s.heap.size + 9)) (gst (s.heap.size + 9)) H) (T256 : TI (kst κ (s.heap.size + 256)) (gst (s.heap.size + 256)) H) (hS : va_S (xA [this] s.heap.size) s.heap H locs) (hl : lv_has ls 1 [(0, .ref this)]) : W p l e { frames := 4, cells := 375248, slots := 4502060, locals := 110 } s m ([.ref this] : List Value).toArray below meth c H locs 502 3220 (MQ below (va_Qv (fun _ : Unit => True) (fun _ t => (fun sz su H => ∃ (κ' : Kt) (τ : Gh), TI κ' τ H ∧ CAP κ' τ H ∧ (κ'.1 = κ.1 ∧ κ'.2.1 = κ.2.1 ∧ κ'.2.2.2.2.2.2 = κ.2.2.2.2.2.2) ∧ kC κ' = sz + 375248 ∧ kS κ' ≤ su + 4496530 ∧ zT τ this = 7 ∧ zI τ (kR κ' this 0) 1 = 0 ∧ ∀ q, zT τ q ≠ 0 → xA [this] sz q) s.heap.size (hsl s.heap) t.heap) (xA [this] s.heap.size)) ([.ref this] : List Value).toArray s 375248 4502060 (xA [this] s.heap.size)) (F0 m 67 ls []) := by
  refine lv_aload_n hx hb dX5_init_67 rfl (lv_at hl 0 rfl) ?_
  refine lv_iconst (v := 2) hx hb dX5_init_68 (by decide) ?_
  refine xnewq 6 (k := 2) (N := 2) hx hb hown (hg _ k194) (XX_aoRX1 hX.1) hK rfl hS (by decide) (by decide) (Nat.le_of_ble_eq_true rfl) (Nat.le_of_ble_eq_true rfl) (Nat.le_of_ble_eq_true rfl) dX5_init_69 (fun n24 H e9 g f25 hS2 => ?_)
  replace hS := hS2
  clear hS2
  replace f0 := g.kept f0
  replace p4 := g.kept p4
  replace p5 := g.kept p5
  replace p9 := g.kept p9
  replace p10 := g.kept p10
  replace p11 := g.kept p11
  replace p15 := g.kept p15
  replace p16 := g.kept p16
  replace p17 := g.kept p17
  replace p20 := g.kept p20
  replace p23 := g.kept p23
  replace T9 : TI (kst κ (s.heap.size + 9)) (gst (s.heap.size + 9)) H := g.TI T9
  replace T256 : TI (kst κ (s.heap.size + 256)) (gst (s.heap.size + 256)) H := g.TI T256
  obtain rfl : n24 = s.heap.size + 502 := by omega
  replace hz : H.size = s.heap.size + 503 := by have := g.1; omega
  clear g
  refine lv_dup hx hb dX5_init_72 rfl ?_
  refine lv_iconst (v := 0) hx hb dX5_init_73 (by decide) ?_
  refine xnew (ci := 1) (fs := [.null, .null, .null, .null, .null, .int 0, .null, .int 0, .int 0, .int 0, .null, .null, .null]) (C := RX1) (T := TX1) (N := 13) hx hb hg inX1 tyX1 tyX1_ok hown (hg _ k194) (hg _ k195) (hg _ k87) hK hS rfl nwX1 (Nat.le_of_ble_eq_true rfl) (Nat.le_of_ble_eq_true rfl) dX5_init_74 (fun n26 H e9 g f27 hS2 => ?_)
  replace hS := hS2
  clear hS2
  replace f0 := g.kept f0
  replace p4 := g.kept p4
  replace p5 := g.kept p5
  replace p9 := g.kept p9
  replace p10 := g.kept p10
  replace p11 := g.kept p11
  replace p15 := g.kept p15
  replace p16 := g.kept p16
  replace p17 := g.kept p17
  replace p20 := g.kept p20
  replace p23 := g.kept p23
  replace f25 := g.kept f25
  replace T9 : TI (kst κ (s.heap.size + 9)) (gst (s.heap.size + 9)) H := g.TI T9
  replace T256 : TI (kst κ (s.heap.size + 256)) (gst (s.heap.size + 256)) H := g.TI T256
  obtain rfl : n26 = s.heap.size + 503 := by omega
  replace hz : H.size = s.heap.size + 504 := by have := g.1; omega
  clear g
  refine lv_dup hx hb dX5_init_77 rfl ?_
  refine lv_aload_n hx hb dX5_init_78 rfl (lv_at hl 0 rfl) ?_
  refine va_get (D := κ.1) (ci := 5) (v := .ref (s.heap.size + 2)) (C := RX5) (T := TX5) (N := 10) hx hb hg inX5 hown hK f0.one 0 rfl rfl 1 (by decide) (hg _ k380) (fun _ h9 => h9) rfl dX5_init_79 ?_
  refine xcallI (n := 1) (As := [.ref (s.heap.size + 2)]) (rest := [.ref (s.heap.size + 503), .int 0, .ref (s.heap.size + 502), .ref (s.heap.size + 502), .ref this]) hx hb hml hown hg (W1_init l κ (s.heap.size + 503) (s.heap.size + 2)) (mwI k198) ⟨by decide, by decide, by decide +kernel⟩ k87 k196 k197 rfl ⟨(Nat.le_of_ble_eq_true rfl), (Nat.le_of_ble_eq_true rfl)⟩ f27 hK hS hX (xA_in (xA1 (Or.inr (by omega))) hS.1) rfl hl.1 rfl (Nat.le_of_ble_eq_true rfl) dX5_init_82 ⟨(Nat.le_of_ble_eq_true rfl), (Nat.le_of_ble_eq_true rfl)⟩ (fun H locs hp g hS2 => ?_)
  replace hS := hS2
  clear hS2
  replace f0 := g.kept f0 (show ¬ xA _ _ this from xA_no (nt1 lt_this) (lt1 lt_this hz))
  replace p4 := g.kept p4 (show ¬ xA _ _ (s.heap.size + 0) from xA_no (nk rfl) (lt2 hz rfl))
  replace p5 := g.kept p5 (show ¬ xA _ _ (s.heap.size + 1) from xA_no (nk rfl) (lt2 hz rfl))
  replace p9 := g.kept p9 (show ¬ xA _ _ (s.heap.size + 2) from xA_no (nk rfl) (lt2 hz rfl))
  replace p10 := g.kept p10 (show ¬ xA _ _ (s.heap.size + 3) from xA_no (nk rfl) (lt2 hz rfl))
  replace p11 := g.kept p11 (show ¬ xA _ _ (s.heap.size + 4) from xA_no (nk rfl) (lt2 hz rfl))
  replace p15 := g.kept p15 (show ¬ xA _ _ (s.heap.size + 5) from xA_no (nk rfl) (lt2 hz rfl))
  replace p16 := g.kept p16 (show ¬ xA _ _ (s.heap.size + 6) from xA_no (nk rfl) (lt2 hz rfl))
  replace p17 := g.kept p17 (show ¬ xA _ _ (s.heap.size + 7) from xA_no (nk rfl) (lt2 hz rfl))
  replace p20 := g.kept p20 (show ¬ xA _ _ (s.heap.size + 8) from xA_no (nk rfl) (lt2 hz rfl))
  replace p23 := g.kept p23 (show ¬ xA _ _ (s.heap.size + 255) from xA_no (nk rfl) (lt2 hz rfl))
  replace f25 := g.kept f25 (show ¬ xA _ _ (s.heap.size + 502) from xA_no (nk rfl) (lt2 hz rfl))
  replace T9 : TI (kst κ (s.heap.size + 9)) (gst (s.heap.size + 9)) H := g.TI T9 (fun q hq => (gst_in hq).elim fun h1 h2 => xA_no (by omega) (by omega))
  replace T256 : TI (kst κ (s.heap.size + 256)) (gst (s.heap.size + 256)) H := g.TI T256 (fun q hq => (gst_in hq).elim fun h1 h2 => xA_no (by omega) (by omega))
  clear g
  rw [hz] at hp
  obtain ⟨q0, qt, q1, q2, q3, q4, q5, q6, q7, q8, q9, q10, q11, q12, qF1, qF2⟩ := hp
  replace hz : H.size = s.heap.size + 750 := by omega
  have p28 : va_at κ.1 vwCl ((s.heap.size + 503), .inr (1, [.ref (s.heap.size + 2), .ref (s.heap.size + 504 + 0), .ref (s.heap.size + 504 + 1), .ref (s.heap.size + 504 + 2), .ref (s.heap.size + 504 + 3), .int 0, .ref (s.heap.size + 504 + 4), .int 0, .int 0, .int 0, .ref (s.heap.size + 504 + 6), .ref (s.heap.size + 504 + 8), .ref (s.heap.size + 504 + 10)])) H := qt
  have T504 : TI (kst κ (s.heap.size + 504)) (gst (s.heap.size + 504)) H := gst_TI q1 q2 q3 q4 q5 q6 q7 q8 q9 q10 q11 q12 qF1 qF2
  refine xaast 6 (ci := 1) hx hb hK hS (Or.inr (by omega)) f25 rfl p28 rfl (vin (by decide)) dX5_init_85 (fun H locs g f25 hS2 => ?_)
  replace hS := hS2
  clear hS2
  replace f0 := g.kept f0 (show this ≠ (s.heap.size + 502) from (nt1 lt_this))
  replace p4 := g.kept p4 (show (s.heap.size + 0) ≠ (s.heap.size + 502) from (nk rfl))
  replace p5 := g.kept p5 (show (s.heap.size + 1) ≠ (s.heap.size + 502) from (nk rfl))
  replace p9 := g.kept p9 (show (s.heap.size + 2) ≠ (s.heap.size + 502) from (nk rfl))
  replace p10 := g.kept p10 (show (s.heap.size + 3) ≠ (s.heap.size + 502) from (nk rfl))
  replace p11 := g.kept p11 (show (s.heap.size + 4) ≠ (s.heap.size + 502) from (nk rfl))
  replace p15 := g.kept p15 (show (s.heap.size + 5) ≠ (s.heap.size + 502) from (nk rfl))
  replace p16 := g.kept p16 (show (s.heap.size + 6) ≠ (s.heap.size + 502) from (nk rfl))
  replace p17 := g.kept p17 (show (s.heap.size + 7) ≠ (s.heap.size + 502) from (nk rfl))
  replace p20 := g.kept p20 (show (s.heap.size + 8) ≠ (s.heap.size + 502) from (nk rfl))
  replace p23 := g.kept p23 (show (s.heap.size + 255) ≠ (s.heap.size + 502) from (nk rfl))
  replace p28 := g.kept p28 (show (s.heap.size + 503) ≠ (s.heap.size + 502) from (nk rfl))
  replace T9 : TI (kst κ (s.heap.size + 9)) (gst (s.heap.size + 9)) H := g.TI T9 (gst_0 (Or.inr (nle rfl)))
  replace T256 : TI (kst κ (s.heap.size + 256)) (gst (s.heap.size + 256)) H := g.TI T256 (gst_0 (Or.inr (nle rfl)))
  replace T504 : TI (kst κ (s.heap.size + 504)) (gst (s.heap.size + 504)) H := g.TI T504 (gst_0 (Or.inl (nlt rfl)))
  replace hz := g.1.trans hz
  clear g
  replace f25 : va_at κ.1 vwCl ((s.heap.size + 502), .inl (kA κ 6, 2, .inr (.inr (.inr (.inr (va_up (fun _ => none) 0 (some (s.heap.size + 503)))))))) H := f25
  refine lv_dup hx hb dX5_init_86 rfl ?_
  refine lv_iconst (v := 1) hx hb dX5_init_87 (by decide) ?_
  refine xnew (ci := 1) (fs := [.null, .null, .null, .null, .null, .int 0, .null, .int 0, .int 0, .int 0, .null, .null, .null]) (C := RX1) (T := TX1) (N := 13) hx hb hg inX1 tyX1 tyX1_ok hown (hg _ k194) (hg _ k195) (hg _ k87) hK hS rfl nwX1 (Nat.le_of_ble_eq_true rfl) (Nat.le_of_ble_eq_true rfl) dX5_init_88 (fun n29 H e9 g f30 hS2 => ?_)
  replace hS := hS2
  clear hS2
  replace f0 := g.kept f0
  replace p4 := g.kept p4
  replace p5 := g.kept p5
  replace p9 := g.kept p9
  replace p10 := g.kept p10
  replace p11 := g.kept p11
  replace p15 := g.kept p15
  replace p16 := g.kept p16
  replace p17 := g.kept p17
  replace p20 := g.kept p20
  replace p23 := g.kept p23
  replace f25 := g.kept f25
  replace p28 := g.kept p28
  replace T9 : TI (kst κ (s.heap.size + 9)) (gst (s.heap.size + 9)) H := g.TI T9
  replace T256 : TI (kst κ (s.heap.size + 256)) (gst (s.heap.size + 256)) H := g.TI T256
  replace T504 : TI (kst κ (s.heap.size + 504)) (gst (s.heap.size + 504)) H := g.TI T504
  obtain rfl : n29 = s.heap.size + 750 := by omega
  replace hz : H.size = s.heap.size + 751 := by have := g.1; omega
  clear g
  refine lv_dup hx hb dX5_init_91 rfl ?_
  refine lv_aload_n hx hb dX5_init_92 rfl (lv_at hl 0 rfl) ?_
  refine va_get (D := κ.1) (ci := 5) (v := .ref (s.heap.size + 2)) (C := RX5) (T := TX5) (N := 10) hx hb hg inX5 hown hK f0.one 0 rfl rfl 1 (by decide) (hg _ k380) (fun _ h9 => h9) rfl dX5_init_93 ?_
  refine xcallI (n := 1) (As := [.ref (s.heap.size + 2)]) (rest := [.ref (s.heap.size + 750), .int 1, .ref (s.heap.size + 502), .ref (s.heap.size + 502), .ref this]) hx hb hml hown hg (W1_init l κ (s.heap.size + 750) (s.heap.size + 2)) (mwI k198) ⟨by decide, by decide, by decide +kernel⟩ k87 k196 k197 rfl ⟨(Nat.le_of_ble_eq_true rfl), (Nat.le_of_ble_eq_true rfl)⟩ f30 hK hS hX (xA_in (xA1 (Or.inr (by omega))) hS.1) rfl hl.1 rfl (Nat.le_of_ble_eq_true rfl) dX5_init_96 ⟨(Nat.le_of_ble_eq_true rfl), (Nat.le_of_ble_eq_true rfl)⟩ (fun H locs hp g hS2 => ?_)
  replace hS := hS2
  clear hS2
  replace f0 := g.kept f0 (show ¬ xA _ _ this from xA_no (nt1 lt_this) (lt1 lt_this hz))
  replace p4 := g.kept p4 (show ¬ xA _ _ (s.heap.size + 0) from xA_no (nk rfl) (lt2 hz rfl))
  replace p5 := g.kept p5 (show ¬ xA _ _ (s.heap.size + 1) from xA_no (nk rfl) (lt2 hz rfl))
  replace p9 := g.kept p9 (show ¬ xA _ _ (s.heap.size + 2) from xA_no (nk rfl) (lt2 hz rfl))
  replace p10 := g.kept p10 (show ¬ xA _ _ (s.heap.size + 3) from xA_no (nk rfl) (lt2 hz rfl))
  replace p11 := g.kept p11 (show ¬ xA _ _ (s.heap.size + 4) from xA_no (nk rfl) (lt2 hz rfl))
  replace p15 := g.kept p15 (show ¬ xA _ _ (s.heap.size + 5) from xA_no (nk rfl) (lt2 hz rfl))
  replace p16 := g.kept p16 (show ¬ xA _ _ (s.heap.size + 6) from xA_no (nk rfl) (lt2 hz rfl))
  replace p17 := g.kept p17 (show ¬ xA _ _ (s.heap.size + 7) from xA_no (nk rfl) (lt2 hz rfl))
  replace p20 := g.kept p20 (show ¬ xA _ _ (s.heap.size + 8) from xA_no (nk rfl) (lt2 hz rfl))
  replace p23 := g.kept p23 (show ¬ xA _ _ (s.heap.size + 255) from xA_no (nk rfl) (lt2 hz rfl))
  replace f25 := g.kept f25 (show ¬ xA _ _ (s.heap.size + 502) from xA_no (nk rfl) (lt2 hz rfl))
  replace p28 := g.kept p28 (show ¬ xA _ _ (s.heap.size + 503) from xA_no (nk rfl) (lt2 hz rfl))
  replace T9 : TI (kst κ (s.heap.size + 9)) (gst (s.heap.size + 9)) H := g.TI T9 (fun q hq => (gst_in hq).elim fun h1 h2 => xA_no (by omega) (by omega))
  replace T256 : TI (kst κ (s.heap.size + 256)) (gst (s.heap.size + 256)) H := g.TI T256 (fun q hq => (gst_in hq).elim fun h1 h2 => xA_no (by omega) (by omega))
  replace T504 : TI (kst κ (s.heap.size + 504)) (gst (s.heap.size + 504)) H := g.TI T504 (fun q hq => (gst_in hq).elim fun h1 h2 => xA_no (by omega) (by omega))
  clear g
  rw [hz] at hp
  obtain ⟨q0, qt, q1, q2, q3, q4, q5, q6, q7, q8, q9, q10, q11, q12, qF1, qF2⟩ := hp
  replace hz : H.size = s.heap.size + 997 := by omega
  have p31 : va_at κ.1 vwCl ((s.heap.size + 750), .inr (1, [.ref (s.heap.size + 2), .ref (s.heap.size + 751 + 0), .ref (s.heap.size + 751 + 1), .ref (s.heap.size + 751 + 2), .ref (s.heap.size + 751 + 3), .int 0, .ref (s.heap.size + 751 + 4), .int 0, .int 0, .int 0, .ref (s.heap.size + 751 + 6), .ref (s.heap.size + 751 + 8), .ref (s.heap.size + 751 + 10)])) H := qt
  have T751 : TI (kst κ (s.heap.size + 751)) (gst (s.heap.size + 751)) H := gst_TI q1 q2 q3 q4 q5 q6 q7 q8 q9 q10 q11 q12 qF1 qF2
  refine xaast 6 (ci := 1) hx hb hK hS (Or.inr (by omega)) f25 rfl p31 rfl (vin (by decide)) dX5_init_99 (fun H locs g f25 hS2 => ?_)
  replace hS := hS2
  clear hS2
  replace f0 := g.kept f0 (show this ≠ (s.heap.size + 502) from (nt1 lt_this))
  replace p4 := g.kept p4 (show (s.heap.size + 0) ≠ (s.heap.size + 502) from (nk rfl))
  replace p5 := g.kept p5 (show (s.heap.size + 1) ≠ (s.heap.size + 502) from (nk rfl))
  replace p9 := g.kept p9 (show (s.heap.size + 2) ≠ (s.heap.size + 502) from (nk rfl))
  replace p10 := g.kept p10 (show (s.heap.size + 3) ≠ (s.heap.size + 502) from (nk rfl))
  replace p11 := g.kept p11 (show (s.heap.size + 4) ≠ (s.heap.size + 502) from (nk rfl))
  replace p15 := g.kept p15 (show (s.heap.size + 5) ≠ (s.heap.size + 502) from (nk rfl))
  replace p16 := g.kept p16 (show (s.heap.size + 6) ≠ (s.heap.size + 502) from (nk rfl))
  replace p17 := g.kept p17 (show (s.heap.size + 7) ≠ (s.heap.size + 502) from (nk rfl))
  replace p20 := g.kept p20 (show (s.heap.size + 8) ≠ (s.heap.size + 502) from (nk rfl))
  replace p23 := g.kept p23 (show (s.heap.size + 255) ≠ (s.heap.size + 502) from (nk rfl))
  replace p28 := g.kept p28 (show (s.heap.size + 503) ≠ (s.heap.size + 502) from (nk rfl))
  replace p31 := g.kept p31 (show (s.heap.size + 750) ≠ (s.heap.size + 502) from (nk rfl))
  replace T9 : TI (kst κ (s.heap.size + 9)) (gst (s.heap.size + 9)) H := g.TI T9 (gst_0 (Or.inr (nle rfl)))
  replace T256 : TI (kst κ (s.heap.size + 256)) (gst (s.heap.size + 256)) H := g.TI T256 (gst_0 (Or.inr (nle rfl)))
  replace T504 : TI (kst κ (s.heap.size + 504)) (gst (s.heap.size + 504)) H := g.TI T504 (gst_0 (Or.inl (nlt rfl)))
  replace T751 : TI (kst κ (s.heap.size + 751)) (gst (s.heap.size + 751)) H := g.TI T751 (gst_0 (Or.inl (nlt rfl)))
  replace hz := g.1.trans hz
  clear g
  replace f25 : va_at κ.1 vwCl ((s.heap.size + 502), .inl (kA κ 6, 2, .inr (.inr (.inr (.inr (va_up (va_up (fun _ => none) 0 (some (s.heap.size + 503))) 1 (some (s.heap.size + 750)))))))) H := f25
  refine xputF (cn := 5) (v := .ref (s.heap.size + 502)) (ty := .array (.object "LiftingSignal$State")) (C := RX5) (T := TX5) (N := 10) hx hb hg inX5 tyX5 tyX5_ok nmX5 hown hK hS xA0 f0 rfl 5 (by decide) (hg _ k384) (fun _ h9 => h9) rfl hin rfl (by decide +kernel) rfl rfl (Nat.le_of_ble_eq_true rfl) dX5_init_100 (fun H locs g f0 hS2 => ?_)
  replace hS := hS2
  clear hS2
  replace p4 := g.kept p4 (show (s.heap.size + 0) ≠ this from (nt2 lt_this))
  replace p5 := g.kept p5 (show (s.heap.size + 1) ≠ this from (nt2 lt_this))
  replace p9 := g.kept p9 (show (s.heap.size + 2) ≠ this from (nt2 lt_this))
  replace p10 := g.kept p10 (show (s.heap.size + 3) ≠ this from (nt2 lt_this))
  replace p11 := g.kept p11 (show (s.heap.size + 4) ≠ this from (nt2 lt_this))
  replace p15 := g.kept p15 (show (s.heap.size + 5) ≠ this from (nt2 lt_this))
  replace p16 := g.kept p16 (show (s.heap.size + 6) ≠ this from (nt2 lt_this))
  replace p17 := g.kept p17 (show (s.heap.size + 7) ≠ this from (nt2 lt_this))
  replace p20 := g.kept p20 (show (s.heap.size + 8) ≠ this from (nt2 lt_this))
  replace p23 := g.kept p23 (show (s.heap.size + 255) ≠ this from (nt2 lt_this))
  replace f25 := g.kept f25 (show (s.heap.size + 502) ≠ this from (nt2 lt_this))
  replace p28 := g.kept p28 (show (s.heap.size + 503) ≠ this from (nt2 lt_this))
  replace p31 := g.kept p31 (show (s.heap.size + 750) ≠ this from (nt2 lt_this))
  replace T9 : TI (kst κ (s.heap.size + 9)) (gst (s.heap.size + 9)) H := g.TI T9 (gst_0 (Or.inl (nlt0 lt_this)))
  replace T256 : TI (kst κ (s.heap.size + 256)) (gst (s.heap.size + 256)) H := g.TI T256 (gst_0 (Or.inl (nlt0 lt_this)))
  replace T504 : TI (kst κ (s.heap.size + 504)) (gst (s.heap.size + 504)) H := g.TI T504 (gst_0 (Or.inl (nlt0 lt_this)))
  replace T751 : TI (kst κ (s.heap.size + 751)) (gst (s.heap.size + 751)) H := g.TI T751 (gst_0 (Or.inl (nlt0 lt_this)))
  replace f0 : va_at κ.1 vwCl (this, .inr (5, [.ref (s.heap.size + 0), .ref (s.heap.size + 2), .ref (s.heap.size + 5), .ref (s.heap.size + 8), .ref (s.heap.size + 255), .ref (s.heap.size + 502), .null, .int 0, .int 0, .int 0])) H := f0
  replace hz := g.1.trans hz
  clear g
  exact W5_init_c103 l κ this  hx hb hr hml hown hg hlocks hin hK hX lt_this hz f0 p4 p5 p9 p10 p11 p15 p16 p17 p20 p23 f25 p28 p31 T9 T256 T504 T751 hS hl
set_option maxHeartbeats 40000000 in
set_option maxRecDepth 100000 in
theorem W5_init_c52 (l : Launch) (κ : Kt) (this : Nat) {p : Program} {e : Env} {s : State} {m : MethodId} {below : List Frame} {meth : Method} {c : Code} (hx : p.tables.exec = Jvm.exec) (hb : c.code = cX5_init) (hr : meth.sig.returnType = none) (hml : c.maxLocals = 1) (hown : s.vm.findClass RX5 = some m.cls) (hg : ∀ w ∈ GW, w.before ([.ref this] : List Value).toArray s = true) (hlocks : meth.locks = false) (hin : meth.name = "<init>") (hK : va_K κ.1 vwCl (kTy κ) s) (hX : XY κ (xA [this] s.heap.size) s s.heap) (lt_this : this < s.heap.size) {H : Heap} {locs : List Loc} {ls : Array Slot} (hz : H.size = s.heap.size + 255) (f0 : va_at κ.1 vwCl (this, .inr (5, [.ref (s.heap.size + 0), .ref (s.heap.size + 2), .ref (s.heap.size + 5), .ref (s.heap.size + 8), .null, .null, .null, .int 0, .int 0, .int 0])) H) (p4 : va_at κ.1 vwCl ((s.heap.size + 0), .inr (3, [.ref (s.heap.size + 1), .int 0, .int 0, .int (-1), .int 0, .int 0, .int 0, .int 0])) H) (p5 : va_at κ.1 vwCl ((s.heap.size + 1), .inl (kA κ 2, 700, .inl (fun _ => 0))) H) (p9 : va_at κ.1 vwCl ((s.heap.size + 2), .inr (0, [.ref (s.heap.size + 3), .ref (s.heap.size + 4), .int 0, .int 0, .int 2, .int 1, .int 2])) H) (p10 : va_at κ.1 vwCl ((s.heap.size + 3), .inl (kA κ 0, 48, .inl (fun _ => 0))) H) (p11 : va_at κ.1 vwCl ((s.heap.size + 4), .inl (kA κ 0, 48, .inl (fun _ => 0))) H) (p15 : va_at κ.1 vwCl ((s.heap.size + 5), .inr (0, [.ref (s.heap.size + 6), .ref (s.heap.size + 7), .int 0, .int 0, .int 2, .int 1, .int 2])) H) (p16 : va_at κ.1 vwCl ((s.heap.size + 6), .inl (kA κ 0, 48, .inl (fun _ => 0))) H) (p17 : va_at κ.1 vwCl ((s.heap.size + 7), .inl (kA κ 0, 48, .inl (fun _ => 0))) H) (p20 : va_at κ.1 vwCl ((s.heap.size + 8), .inr (1, [.ref (s.heap.size + 2), .ref (s.heap.size + 9 + 0), .ref (s.heap.size + 9 + 1), .ref (s.heap.size + 9 + 2), .ref (s.heap.size + 9 + 3), .int 0, .ref (s.heap.size + 9 + 4), .int 0, .int 0, .int 0, .ref (s.heap.size + 9 + 6), .ref (s.heap.size + 9 + 8), .ref (s.heap.size + 9 + 10)])) H) (T9 : TI (kst κ (s.heap.size + 9)) (gst (s.heap.size + 9)) H) (hS : va_S (xA [this] s.heap.size) s.heap H locs) (hl : lv_has ls 1 [(0, .ref this)]) : W p l e { frames := 4, cells := 375248, slots := 4502060, locals := 110 } s m ([.ref this] : List Value).toArray below meth c H locs 255 2067 (MQ below (va_Qv (fun _ : Unit => True) (fun _ t => (fun sz su H => ∃ (κ' : Kt) (τ : Gh), TI κ' τ H ∧ CAP κ' τ H ∧ (κ'.1 = κ.1 ∧ κ'.2.1 = κ.2.1 ∧ κ'.2.2.2.2.2.2 = κ.2.2.2.2.2.2) ∧ kC κ' = sz + 375248 ∧ kS κ' ≤ su + 4496530 ∧ zT τ this = 7 ∧ zI τ (kR κ' this 0) 1 = 0 ∧ ∀ q, zT τ q ≠ 0 → xA [this] sz q) s.heap.size (hsl s.heap) t.heap) (xA [this] s.heap.size)) ([.ref this] : List Value).toArray s 375248 4502060 (xA [this] s.heap.size)) (F0 m 52 ls []) := by
  refine lv_aload_n hx hb dX5_init_52 rfl (lv_at hl 0 rfl) ?_
  refine xnew (ci := 1) (fs := [.null, .null, .null, .null, .null, .int 0, .null, .int 0, .int 0, .int 0, .null, .null, .null]) (C := RX1) (T := TX1) (N := 13) hx hb hg inX1 tyX1 tyX1_ok hown (hg _ k194) (hg _ k195) (hg _ k87) hK hS rfl nwX1 (Nat.le_of_ble_eq_true rfl) (Nat.le_of_ble_eq_true rfl) dX5_init_53 (fun n21 H e9 g f22 hS2 => ?_)
  replace hS := hS2
  clear hS2
  replace f0 := g.kept f0
  replace p4 := g.kept p4
  replace p5 := g.kept p5
  replace p9 := g.kept p9
  replace p10 := g.kept p10
  replace p11 := g.kept p11
  replace p15 := g.kept p15
  replace p16 := g.kept p16
  replace p17 := g.kept p17
  replace p20 := g.kept p20
  replace T9 : TI (kst κ (s.heap.size + 9)) (gst (s.heap.size + 9)) H := g.TI T9
  obtain rfl : n21 = s.heap.size + 255 := by omega
  replace hz : H.size = s.heap.size + 256 := by have := g.1; omega
  clear g
  refine lv_dup hx hb dX5_init_56 rfl ?_
  refine lv_aload_n hx hb dX5_init_57 rfl (lv_at hl 0 rfl) ?_
  refine va_get (D := κ.1) (ci := 5) (v := .ref (s.heap.size + 2)) (C := RX5) (T := TX5) (N := 10) hx hb hg inX5 hown hK f0.one 0 rfl rfl 1 (by decide) (hg _ k380) (fun _ h9 => h9) rfl dX5_init_58 ?_
  refine xcallI (n := 1) (As := [.ref (s.heap.size + 2)]) (rest := [.ref (s.heap.size + 255), .ref this]) hx hb hml hown hg (W1_init l κ (s.heap.size + 255) (s.heap.size + 2)) (mwI k198) ⟨by decide, by decide, by decide +kernel⟩ k87 k196 k197 rfl ⟨(Nat.le_of_ble_eq_true rfl), (Nat.le_of_ble_eq_true rfl)⟩ f22 hK hS hX (xA_in (xA1 (Or.inr (by omega))) hS.1) rfl hl.1 rfl (Nat.le_of_ble_eq_true rfl) dX5_init_61 ⟨(Nat.le_of_ble_eq_true rfl), (Nat.le_of_ble_eq_true rfl)⟩ (fun H locs hp g hS2 => ?_)
  replace hS := hS2
  clear hS2
  replace f0 := g.kept f0 (show ¬ xA _ _ this from xA_no (nt1 lt_this) (lt1 lt_this hz))
  replace p4 := g.kept p4 (show ¬ xA _ _ (s.heap.size + 0) from xA_no (nk rfl) (lt2 hz rfl))
  replace p5 := g.kept p5 (show ¬ xA _ _ (s.heap.size + 1) from xA_no (nk rfl) (lt2 hz rfl))
  replace p9 := g.kept p9 (show ¬ xA _ _ (s.heap.size + 2) from xA_no (nk rfl) (lt2 hz rfl))
  replace p10 := g.kept p10 (show ¬ xA _ _ (s.heap.size + 3) from xA_no (nk rfl) (lt2 hz rfl))
  replace p11 := g.kept p11 (show ¬ xA _ _ (s.heap.size + 4) from xA_no (nk rfl) (lt2 hz rfl))
  replace p15 := g.kept p15 (show ¬ xA _ _ (s.heap.size + 5) from xA_no (nk rfl) (lt2 hz rfl))
  replace p16 := g.kept p16 (show ¬ xA _ _ (s.heap.size + 6) from xA_no (nk rfl) (lt2 hz rfl))
  replace p17 := g.kept p17 (show ¬ xA _ _ (s.heap.size + 7) from xA_no (nk rfl) (lt2 hz rfl))
  replace p20 := g.kept p20 (show ¬ xA _ _ (s.heap.size + 8) from xA_no (nk rfl) (lt2 hz rfl))
  replace T9 : TI (kst κ (s.heap.size + 9)) (gst (s.heap.size + 9)) H := g.TI T9 (fun q hq => (gst_in hq).elim fun h1 h2 => xA_no (by omega) (by omega))
  clear g
  rw [hz] at hp
  obtain ⟨q0, qt, q1, q2, q3, q4, q5, q6, q7, q8, q9, q10, q11, q12, qF1, qF2⟩ := hp
  replace hz : H.size = s.heap.size + 502 := by omega
  have p23 : va_at κ.1 vwCl ((s.heap.size + 255), .inr (1, [.ref (s.heap.size + 2), .ref (s.heap.size + 256 + 0), .ref (s.heap.size + 256 + 1), .ref (s.heap.size + 256 + 2), .ref (s.heap.size + 256 + 3), .int 0, .ref (s.heap.size + 256 + 4), .int 0, .int 0, .int 0, .ref (s.heap.size + 256 + 6), .ref (s.heap.size + 256 + 8), .ref (s.heap.size + 256 + 10)])) H := qt
  have T256 : TI (kst κ (s.heap.size + 256)) (gst (s.heap.size + 256)) H := gst_TI q1 q2 q3 q4 q5 q6 q7 q8 q9 q10 q11 q12 qF1 qF2
  refine xputF (cn := 5) (v := .ref (s.heap.size + 255)) (ty := .object "LiftingSignal$State") (C := RX5) (T := TX5) (N := 10) hx hb hg inX5 tyX5 tyX5_ok nmX5 hown hK hS xA0 f0 rfl 4 (by decide) (hg _ k383) (fun _ h9 => h9) rfl hin rfl (by decide +kernel) rfl rfl (Nat.le_of_ble_eq_true rfl) dX5_init_64 (fun H locs g f0 hS2 => ?_)
  replace hS := hS2
  clear hS2
  replace p4 := g.kept p4 (show (s.heap.size + 0) ≠ this from (nt2 lt_this))
  replace p5 := g.kept p5 (show (s.heap.size + 1) ≠ this from (nt2 lt_this))
  replace p9 := g.kept p9 (show (s.heap.size + 2) ≠ this from (nt2 lt_this))
  replace p10 := g.kept p10 (show (s.heap.size + 3) ≠ this from (nt2 lt_this))
  replace p11 := g.kept p11 (show (s.heap.size + 4) ≠ this from (nt2 lt_this))
  replace p15 := g.kept p15 (show (s.heap.size + 5) ≠ this from (nt2 lt_this))
  replace p16 := g.kept p16 (show (s.heap.size + 6) ≠ this from (nt2 lt_this))
  replace p17 := g.kept p17 (show (s.heap.size + 7) ≠ this from (nt2 lt_this))
  replace p20 := g.kept p20 (show (s.heap.size + 8) ≠ this from (nt2 lt_this))
  replace p23 := g.kept p23 (show (s.heap.size + 255) ≠ this from (nt2 lt_this))
  replace T9 : TI (kst κ (s.heap.size + 9)) (gst (s.heap.size + 9)) H := g.TI T9 (gst_0 (Or.inl (nlt0 lt_this)))
  replace T256 : TI (kst κ (s.heap.size + 256)) (gst (s.heap.size + 256)) H := g.TI T256 (gst_0 (Or.inl (nlt0 lt_this)))
  replace f0 : va_at κ.1 vwCl (this, .inr (5, [.ref (s.heap.size + 0), .ref (s.heap.size + 2), .ref (s.heap.size + 5), .ref (s.heap.size + 8), .ref (s.heap.size + 255), .null, .null, .int 0, .int 0, .int 0])) H := f0
  replace hz := g.1.trans hz
  clear g
  exact W5_init_c67 l κ this  hx hb hr hml hown hg hlocks hin hK hX lt_this hz f0 p4 p5 p9 p10 p11 p15 p16 p17 p20 p23 T9 T256 hS hl
set_option maxHeartbeats 40000000 in
set_option maxRecDepth 100000 in
theorem W5_init_c37 (l : Launch) (κ : Kt) (this : Nat) {p : Program} {e : Env} {s : State} {m : MethodId} {below : List Frame} {meth : Method} {c : Code} (hx : p.tables.exec = Jvm.exec) (hb : c.code = cX5_init) (hr : meth.sig.returnType = none) (hml : c.maxLocals = 1) (hown : s.vm.findClass RX5 = some m.cls) (hg : ∀ w ∈ GW, w.before ([.ref this] : List Value).toArray s = true) (hlocks : meth.locks = false) (hin : meth.name = "<init>") (hK : va_K κ.1 vwCl (kTy κ) s) (hX : XY κ (xA [this] s.heap.size) s s.heap) (lt_this : this < s.heap.size) {H : Heap} {locs : List Loc} {ls : Array Slot} (hz : H.size = s.heap.size + 8) (f0 : va_at κ.1 vwCl (this, .inr (5, [.ref (s.heap.size + 0), .ref (s.heap.size + 2), .ref (s.heap.size + 5), .null, .null, .null, .null, .int 0, .int 0, .int 0])) H) (p4 : va_at κ.1 vwCl ((s.heap.size + 0), .inr (3, [.ref (s.heap.size + 1), .int 0, .int 0, .int (-1), .int 0, .int 0, .int 0, .int 0])) H) (p5 : va_at κ.1 vwCl ((s.heap.size + 1), .inl (kA κ 2, 700, .inl (fun _ => 0))) H) (p9 : va_at κ.1 vwCl ((s.heap.size + 2), .inr (0, [.ref (s.heap.size + 3), .ref (s.heap.size + 4), .int 0, .int 0, .int 2, .int 1, .int 2])) H) (p10 : va_at κ.1 vwCl ((s.heap.size + 3), .inl (kA κ 0, 48, .inl (fun _ => 0))) H) (p11 : va_at κ.1 vwCl ((s.heap.size + 4), .inl (kA κ 0, 48, .inl (fun _ => 0))) H) (p15 : va_at κ.1 vwCl ((s.heap.size + 5), .inr (0, [.ref (s.heap.size + 6), .ref (s.heap.size + 7), .int 0, .int 0, .int 2, .int 1, .int 2])) H) (p16 : va_at κ.1 vwCl ((s.heap.size + 6), .inl (kA κ 0, 48, .inl (fun _ => 0))) H) (p17 : va_at κ.1 vwCl ((s.heap.size + 7), .inl (kA κ 0, 48, .inl (fun _ => 0))) H) (hS : va_S (xA [this] s.heap.size) s.heap H locs) (hl : lv_has ls 1 [(0, .ref this)]) : W p l e { frames := 4, cells := 375248, slots := 4502060, locals := 110 } s m ([.ref this] : List Value).toArray below meth c H locs 8 914 (MQ below (va_Qv (fun _ : Unit => True) (fun _ t => (fun sz su H => ∃ (κ' : Kt) (τ : Gh), TI κ' τ H ∧ CAP κ' τ H ∧ (κ'.1 = κ.1 ∧ κ'.2.1 = κ.2.1 ∧ κ'.2.2.2.2.2.2 = κ.2.2.2.2.2.2) ∧ kC κ' = sz + 375248 ∧ kS κ' ≤ su + 4496530 ∧ zT τ this = 7 ∧ zI τ (kR κ' this 0) 1 = 0 ∧ ∀ q, zT τ q ≠ 0 → xA [this] sz q) s.heap.size (hsl s.heap) t.heap) (xA [this] s.heap.size)) ([.ref this] : List Value).toArray s 375248 4502060 (xA [this] s.heap.size)) (F0 m 37 ls []) := by
  refine lv_aload_n hx hb dX5_init_37 rfl (lv_at hl 0 rfl) ?_
  refine xnew (ci := 1) (fs := [.null, .null, .null, .null, .null, .int 0, .null, .int 0, .int 0, .int 0, .null, .null, .null]) (C := RX1) (T := TX1) (N := 13) hx hb hg inX1 tyX1 tyX1_ok hown (hg _ k194) (hg _ k195) (hg _ k87) hK hS rfl nwX1 (Nat.le_of_ble_eq_true rfl) (Nat.le_of_ble_eq_true rfl) dX5_init_38 (fun n18 H e9 g f19 hS2 => ?_)
  replace hS := hS2
  clear hS2
  replace f0 := g.kept f0
  replace p4 := g.kept p4
  replace p5 := g.kept p5
  replace p9 := g.kept p9
  replace p10 := g.kept p10
  replace p11 := g.kept p11
  replace p15 := g.kept p15
  replace p16 := g.kept p16
  replace p17 := g.kept p17
  obtain rfl : n18 = s.heap.size + 8 := by omega
  replace hz : H.size = s.heap.size + 9 := by have := g.1; omega
  clear g
  refine lv_dup hx hb dX5_init_41 rfl ?_
  refine lv_aload_n hx hb dX5_init_42 rfl (lv_at hl 0 rfl) ?_
  refine va_get (D := κ.1) (ci := 5) (v := .ref (s.heap.size + 2)) (C := RX5) (T := TX5) (N := 10) hx hb hg inX5 hown hK f0.one 0 rfl rfl 1 (by decide) (hg _ k380) (fun _ h9 => h9) rfl dX5_init_43 ?_
  refine xcallI (n := 1) (As := [.ref (s.heap.size + 2)]) (rest := [.ref (s.heap.size + 8), .ref this]) hx hb hml hown hg (W1_init l κ (s.heap.size + 8) (s.heap.size + 2)) (mwI k198) ⟨by decide, by decide, by decide +kernel⟩ k87 k196 k197 rfl ⟨(Nat.le_of_ble_eq_true rfl), (Nat.le_of_ble_eq_true rfl)⟩ f19 hK hS hX (xA_in (xA1 (Or.inr (by omega))) hS.1) rfl hl.1 rfl (Nat.le_of_ble_eq_true rfl) dX5_init_46 ⟨(Nat.le_of_ble_eq_true rfl), (Nat.le_of_ble_eq_true rfl)⟩ (fun H locs hp g hS2 => ?_)
  replace hS := hS2
  clear hS2
  replace f0 := g.kept f0 (show ¬ xA _ _ this from xA_no (nt1 lt_this) (lt1 lt_this hz))
  replace p4 := g.kept p4 (show ¬ xA _ _ (s.heap.size + 0) from xA_no (nk rfl) (lt2 hz rfl))
  replace p5 := g.kept p5 (show ¬ xA _ _ (s.heap.size + 1) from xA_no (nk rfl) (lt2 hz rfl))
  replace p9 := g.kept p9 (show ¬ xA _ _ (s.heap.size + 2) from xA_no (nk rfl) (lt2 hz rfl))
  replace p10 := g.kept p10 (show ¬ xA _ _ (s.heap.size + 3) from xA_no (nk rfl) (lt2 hz rfl))
  replace p11 := g.kept p11 (show ¬ xA _ _ (s.heap.size + 4) from xA_no (nk rfl) (lt2 hz rfl))
  replace p15 := g.kept p15 (show ¬ xA _ _ (s.heap.size + 5) from xA_no (nk rfl) (lt2 hz rfl))
  replace p16 := g.kept p16 (show ¬ xA _ _ (s.heap.size + 6) from xA_no (nk rfl) (lt2 hz rfl))
  replace p17 := g.kept p17 (show ¬ xA _ _ (s.heap.size + 7) from xA_no (nk rfl) (lt2 hz rfl))
  clear g
  rw [hz] at hp
  obtain ⟨q0, qt, q1, q2, q3, q4, q5, q6, q7, q8, q9, q10, q11, q12, qF1, qF2⟩ := hp
  replace hz : H.size = s.heap.size + 255 := by omega
  have p20 : va_at κ.1 vwCl ((s.heap.size + 8), .inr (1, [.ref (s.heap.size + 2), .ref (s.heap.size + 9 + 0), .ref (s.heap.size + 9 + 1), .ref (s.heap.size + 9 + 2), .ref (s.heap.size + 9 + 3), .int 0, .ref (s.heap.size + 9 + 4), .int 0, .int 0, .int 0, .ref (s.heap.size + 9 + 6), .ref (s.heap.size + 9 + 8), .ref (s.heap.size + 9 + 10)])) H := qt
  have T9 : TI (kst κ (s.heap.size + 9)) (gst (s.heap.size + 9)) H := gst_TI q1 q2 q3 q4 q5 q6 q7 q8 q9 q10 q11 q12 qF1 qF2
  refine xputF (cn := 5) (v := .ref (s.heap.size + 8)) (ty := .object "LiftingSignal$State") (C := RX5) (T := TX5) (N := 10) hx hb hg inX5 tyX5 tyX5_ok nmX5 hown hK hS xA0 f0 rfl 3 (by decide) (hg _ k382) (fun _ h9 => h9) rfl hin rfl (by decide +kernel) rfl rfl (Nat.le_of_ble_eq_true rfl) dX5_init_49 (fun H locs g f0 hS2 => ?_)
  replace hS := hS2
  clear hS2
  replace p4 := g.kept p4 (show (s.heap.size + 0) ≠ this from (nt2 lt_this))
  replace p5 := g.kept p5 (show (s.heap.size + 1) ≠ this from (nt2 lt_this))
  replace p9 := g.kept p9 (show (s.heap.size + 2) ≠ this from (nt2 lt_this))
  replace p10 := g.kept p10 (show (s.heap.size + 3) ≠ this from (nt2 lt_this))
  replace p11 := g.kept p11 (show (s.heap.size + 4) ≠ this from (nt2 lt_this))
  replace p15 := g.kept p15 (show (s.heap.size + 5) ≠ this from (nt2 lt_this))
  replace p16 := g.kept p16 (show (s.heap.size + 6) ≠ this from (nt2 lt_this))
  replace p17 := g.kept p17 (show (s.heap.size + 7) ≠ this from (nt2 lt_this))
  replace p20 := g.kept p20 (show (s.heap.size + 8) ≠ this from (nt2 lt_this))
  replace T9 : TI (kst κ (s.heap.size + 9)) (gst (s.heap.size + 9)) H := g.TI T9 (gst_0 (Or.inl (nlt0 lt_this)))
  replace f0 : va_at κ.1 vwCl (this, .inr (5, [.ref (s.heap.size + 0), .ref (s.heap.size + 2), .ref (s.heap.size + 5), .ref (s.heap.size + 8), .null, .null, .null, .int 0, .int 0, .int 0])) H := f0
  replace hz := g.1.trans hz
  clear g
  exact W5_init_c52 l κ this  hx hb hr hml hown hg hlocks hin hK hX lt_this hz f0 p4 p5 p9 p10 p11 p15 p16 p17 p20 T9 hS hl
set_option maxHeartbeats 40000000 in
set_option maxRecDepth 100000 in
theorem W5_init (l : Launch) (κ : Kt) (this : Nat) : XC l yX5_init cX5_init 1 4 110 375248 4502060 [.ref this] κ [this] (fun H => va_at κ.1 vwCl (this, .inr (5, [.null, .null, .null, .null, .null, .null, .null, .int 0, .int 0, .int 0])) H) (fun sz su H => ∃ (κ' : Kt) (τ : Gh), TI κ' τ H ∧ CAP κ' τ H ∧ (κ'.1 = κ.1 ∧ κ'.2.1 = κ.2.1 ∧ κ'.2.2.2.2.2.2 = κ.2.2.2.2.2.2) ∧ kC κ' = sz + 375248 ∧ kS κ' ≤ su + 4496530 ∧ zT τ this = 7 ∧ zI τ (kR κ' this 0) 1 = 0 ∧ ∀ q, zT τ q ≠ 0 → xA [this] sz q) := by
  refine XC.of (by decide +kernel) (Nat.le_of_ble_eq_true rfl) ?_
  intro p e s m below meth c ls hcs hpre hK hX hS hl
  obtain ⟨hx, hb, hr, hml, hown, hg, hlocks, hin⟩ := hcs
  have hown : s.vm.findClass RX5 = some m.cls := hown
  have hl : lv_has ls 1 [(0, .ref this)] := hl
  have f0 := hpre
  have lt_this : this < s.heap.size := f0.lt
  have hz : s.heap.size = s.heap.size + 0 := rfl
  refine lv_aload_n hx hb dX5_init_0 rfl (lv_at hl 0 rfl) ?_
  refine W.objInit hx hb hown (hg _ k110) (hg _ k111) (hg _ k112) rfl (by rw [hml]; exact hl.1) rfl dX5_init_1 (Nat.le_of_ble_eq_true rfl) (Nat.le_of_ble_eq_true rfl) ?_
  refine W.eq (g2 := F0 m 4 ls []) rfl ?_
  refine lv_aload_n hx hb dX5_init_4 rfl (lv_at hl 0 rfl) ?_
  refine xnew (ci := 3) (fs := [.null, .int 0, .int 0, .int 0, .int 0, .int 0, .int 0, .int 0]) (C := RX3) (T := TX3) (N := 8) hx hb hg inX3 tyX3 tyX3_ok hown (hg _ k113) (hg _ k114) (hg _ k85) hK hS rfl nwX3 (Nat.le_of_ble_eq_true rfl) (Nat.le_of_ble_eq_true rfl) dX5_init_5 (fun n1 H e9 g f2 hS2 => ?_)
  replace hS := hS2
  clear hS2
  replace f0 := g.kept f0
  obtain rfl : n1 = s.heap.size + 0 := by omega
  replace hz : H.size = s.heap.size + 1 := by have := g.1; omega
  clear g
  refine lv_dup hx hb dX5_init_8 rfl ?_
  refine xcallN (n := 0) (As := []) (rest := [.ref (s.heap.size + 0), .ref this]) hx hb hml hown hg (W3_init l κ (s.heap.size + 0)) (mwI k117) ⟨by decide, by decide, by decide +kernel⟩ k85 (XX_nRX5_11 hX.1) k116 rfl ⟨(Nat.le_of_ble_eq_true rfl), (Nat.le_of_ble_eq_true rfl)⟩ f2 hK hS hX (xA_in (xA1 (Or.inr (by omega))) hS.1) rfl hl.1 rfl (Nat.le_of_ble_eq_true rfl) dX5_init_9 ⟨(Nat.le_of_ble_eq_true rfl), (Nat.le_of_ble_eq_true rfl)⟩ (fun H locs hp g hS2 => ?_)
  replace hS := hS2
  clear hS2
  replace f0 := g.kept f0 (show ¬ xA _ _ this from xA_no (nt1 lt_this) (lt1 lt_this hz))
  clear g
  obtain ⟨p3, p4, p5⟩ := hp
  rw [hz] at p3 p4 p5
  replace hz : H.size = s.heap.size + 2 := by omega
  replace p4 : va_at κ.1 vwCl ((s.heap.size + 0), .inr (3, [.ref (s.heap.size + 1), .int 0, .int 0, .int (-1), .int 0, .int 0, .int 0, .int 0])) H := p4
  replace p5 : va_at κ.1 vwCl ((s.heap.size + 1), .inl (kA κ 2, 700, .inl (fun _ => 0))) H := p5
  refine xputF (cn := 5) (v := .ref (s.heap.size + 0)) (ty := .object "LiftingSignal$Text") (C := RX5) (T := TX5) (N := 10) hx hb hg inX5 tyX5 tyX5_ok nmX5 hown hK hS xA0 f0 rfl 0 (by decide) (hg _ k379) (fun _ h9 => h9) rfl hin rfl (by decide +kernel) rfl rfl (Nat.le_of_ble_eq_true rfl) dX5_init_12 (fun H locs g f0 hS2 => ?_)
  replace hS := hS2
  clear hS2
  replace p4 := g.kept p4 (show (s.heap.size + 0) ≠ this from (nt2 lt_this))
  replace p5 := g.kept p5 (show (s.heap.size + 1) ≠ this from (nt2 lt_this))
  replace f0 : va_at κ.1 vwCl (this, .inr (5, [.ref (s.heap.size + 0), .null, .null, .null, .null, .null, .null, .int 0, .int 0, .int 0])) H := f0
  replace hz := g.1.trans hz
  clear g
  refine lv_aload_n hx hb dX5_init_15 rfl (lv_at hl 0 rfl) ?_
  refine xnew (ci := 0) (fs := [.null, .null, .int 0, .int 0, .int 0, .int 0, .int 0]) (C := RX0) (T := TX0) (N := 7) hx hb hg inX0 tyX0 tyX0_ok hown (hg _ k148) (hg _ k149) (hg _ k86) hK hS rfl nwX0 (Nat.le_of_ble_eq_true rfl) (Nat.le_of_ble_eq_true rfl) dX5_init_16 (fun n6 H e9 g f7 hS2 => ?_)
  replace hS := hS2
  clear hS2
  replace f0 := g.kept f0
  replace p4 := g.kept p4
  replace p5 := g.kept p5
  obtain rfl : n6 = s.heap.size + 2 := by omega
  replace hz : H.size = s.heap.size + 3 := by have := g.1; omega
  clear g
  refine lv_dup hx hb dX5_init_19 rfl ?_
  refine xcallN (n := 0) (As := []) (rest := [.ref (s.heap.size + 2), .ref this]) hx hb hml hown hg (W0_init l κ (s.heap.size + 2)) (mwI k152) ⟨by decide, by decide, by decide +kernel⟩ k86 (XX_nRX5_18 hX.1) k151 rfl ⟨(Nat.le_of_ble_eq_true rfl), (Nat.le_of_ble_eq_true rfl)⟩ f7 hK hS hX (xA_in (xA1 (Or.inr (by omega))) hS.1) rfl hl.1 rfl (Nat.le_of_ble_eq_true rfl) dX5_init_20 ⟨(Nat.le_of_ble_eq_true rfl), (Nat.le_of_ble_eq_true rfl)⟩ (fun H locs hp g hS2 => ?_)
  replace hS := hS2
  clear hS2
  replace f0 := g.kept f0 (show ¬ xA _ _ this from xA_no (nt1 lt_this) (lt1 lt_this hz))
  replace p4 := g.kept p4 (show ¬ xA _ _ (s.heap.size + 0) from xA_no (nk rfl) (lt2 hz rfl))
  replace p5 := g.kept p5 (show ¬ xA _ _ (s.heap.size + 1) from xA_no (nk rfl) (lt2 hz rfl))
  clear g
  obtain ⟨p8, p9, p10, p11⟩ := hp
  rw [hz] at p8 p9 p10 p11
  replace hz : H.size = s.heap.size + 5 := by omega
  replace p9 : va_at κ.1 vwCl ((s.heap.size + 2), .inr (0, [.ref (s.heap.size + 3), .ref (s.heap.size + 4), .int 0, .int 0, .int 2, .int 1, .int 2])) H := p9
  replace p10 : va_at κ.1 vwCl ((s.heap.size + 3), .inl (kA κ 0, 48, .inl (fun _ => 0))) H := p10
  replace p11 : va_at κ.1 vwCl ((s.heap.size + 4), .inl (kA κ 0, 48, .inl (fun _ => 0))) H := p11
  refine xputF (cn := 5) (v := .ref (s.heap.size + 2)) (ty := .object "LiftingSignal$Source") (C := RX5) (T := TX5) (N := 10) hx hb hg inX5 tyX5 tyX5_ok nmX5 hown hK hS xA0 f0 rfl 1 (by decide) (hg _ k380) (fun _ h9 => h9) rfl hin rfl (by decide +kernel) rfl rfl (Nat.le_of_ble_eq_true rfl) dX5_init_23 (fun H locs g f0 hS2 => ?_)
  replace hS := hS2
  clear hS2
  replace p4 := g.kept p4 (show (s.heap.size + 0) ≠ this from (nt2 lt_this))
  replace p5 := g.kept p5 (show (s.heap.size + 1) ≠ this from (nt2 lt_this))
  replace p9 := g.kept p9 (show (s.heap.size + 2) ≠ this from (nt2 lt_this))
  replace p10 := g.kept p10 (show (s.heap.size + 3) ≠ this from (nt2 lt_this))
  replace p11 := g.kept p11 (show (s.heap.size + 4) ≠ this from (nt2 lt_this))
  replace f0 : va_at κ.1 vwCl (this, .inr (5, [.ref (s.heap.size + 0), .ref (s.heap.size + 2), .null, .null, .null, .null, .null, .int 0, .int 0, .int 0])) H := f0
  replace hz := g.1.trans hz
  clear g
  refine lv_aload_n hx hb dX5_init_26 rfl (lv_at hl 0 rfl) ?_
  refine xnew (ci := 0) (fs := [.null, .null, .int 0, .int 0, .int 0, .int 0, .int 0]) (C := RX0) (T := TX0) (N := 7) hx hb hg inX0 tyX0 tyX0_ok hown (hg _ k148) (hg _ k149) (hg _ k86) hK hS rfl nwX0 (Nat.le_of_ble_eq_true rfl) (Nat.le_of_ble_eq_true rfl) dX5_init_27 (fun n12 H e9 g f13 hS2 => ?_)
  replace hS := hS2
  clear hS2
  replace f0 := g.kept f0
  replace p4 := g.kept p4
  replace p5 := g.kept p5
  replace p9 := g.kept p9
  replace p10 := g.kept p10
  replace p11 := g.kept p11
  obtain rfl : n12 = s.heap.size + 5 := by omega
  replace hz : H.size = s.heap.size + 6 := by have := g.1; omega
  clear g
  refine lv_dup hx hb dX5_init_30 rfl ?_
  refine xcallN (n := 0) (As := []) (rest := [.ref (s.heap.size + 5), .ref this]) hx hb hml hown hg (W0_init l κ (s.heap.size + 5)) (mwI k152) ⟨by decide, by decide, by decide +kernel⟩ k86 (XX_nRX5_18 hX.1) k151 rfl ⟨(Nat.le_of_ble_eq_true rfl), (Nat.le_of_ble_eq_true rfl)⟩ f13 hK hS hX (xA_in (xA1 (Or.inr (by omega))) hS.1) rfl hl.1 rfl (Nat.le_of_ble_eq_true rfl) dX5_init_31 ⟨(Nat.le_of_ble_eq_true rfl), (Nat.le_of_ble_eq_true rfl)⟩ (fun H locs hp g hS2 => ?_)
  replace hS := hS2
  clear hS2
  replace f0 := g.kept f0 (show ¬ xA _ _ this from xA_no (nt1 lt_this) (lt1 lt_this hz))
  replace p4 := g.kept p4 (show ¬ xA _ _ (s.heap.size + 0) from xA_no (nk rfl) (lt2 hz rfl))
  replace p5 := g.kept p5 (show ¬ xA _ _ (s.heap.size + 1) from xA_no (nk rfl) (lt2 hz rfl))
  replace p9 := g.kept p9 (show ¬ xA _ _ (s.heap.size + 2) from xA_no (nk rfl) (lt2 hz rfl))
  replace p10 := g.kept p10 (show ¬ xA _ _ (s.heap.size + 3) from xA_no (nk rfl) (lt2 hz rfl))
  replace p11 := g.kept p11 (show ¬ xA _ _ (s.heap.size + 4) from xA_no (nk rfl) (lt2 hz rfl))
  clear g
  obtain ⟨p14, p15, p16, p17⟩ := hp
  rw [hz] at p14 p15 p16 p17
  replace hz : H.size = s.heap.size + 8 := by omega
  replace p15 : va_at κ.1 vwCl ((s.heap.size + 5), .inr (0, [.ref (s.heap.size + 6), .ref (s.heap.size + 7), .int 0, .int 0, .int 2, .int 1, .int 2])) H := p15
  replace p16 : va_at κ.1 vwCl ((s.heap.size + 6), .inl (kA κ 0, 48, .inl (fun _ => 0))) H := p16
  replace p17 : va_at κ.1 vwCl ((s.heap.size + 7), .inl (kA κ 0, 48, .inl (fun _ => 0))) H := p17
  refine xputF (cn := 5) (v := .ref (s.heap.size + 5)) (ty := .object "LiftingSignal$Source") (C := RX5) (T := TX5) (N := 10) hx hb hg inX5 tyX5 tyX5_ok nmX5 hown hK hS xA0 f0 rfl 2 (by decide) (hg _ k381) (fun _ h9 => h9) rfl hin rfl (by decide +kernel) rfl rfl (Nat.le_of_ble_eq_true rfl) dX5_init_34 (fun H locs g f0 hS2 => ?_)
  replace hS := hS2
  clear hS2
  replace p4 := g.kept p4 (show (s.heap.size + 0) ≠ this from (nt2 lt_this))
  replace p5 := g.kept p5 (show (s.heap.size + 1) ≠ this from (nt2 lt_this))
  replace p9 := g.kept p9 (show (s.heap.size + 2) ≠ this from (nt2 lt_this))
  replace p10 := g.kept p10 (show (s.heap.size + 3) ≠ this from (nt2 lt_this))
  replace p11 := g.kept p11 (show (s.heap.size + 4) ≠ this from (nt2 lt_this))
  replace p15 := g.kept p15 (show (s.heap.size + 5) ≠ this from (nt2 lt_this))
  replace p16 := g.kept p16 (show (s.heap.size + 6) ≠ this from (nt2 lt_this))
  replace p17 := g.kept p17 (show (s.heap.size + 7) ≠ this from (nt2 lt_this))
  replace f0 : va_at κ.1 vwCl (this, .inr (5, [.ref (s.heap.size + 0), .ref (s.heap.size + 2), .ref (s.heap.size + 5), .null, .null, .null, .null, .int 0, .int 0, .int 0])) H := f0
  replace hz := g.1.trans hz
  clear g
  exact W5_init_c37 l κ this  hx hb hr hml hown hg hlocks hin hK hX lt_this hz f0 p4 p5 p9 p10 p11 p15 p16 p17 hS hl
