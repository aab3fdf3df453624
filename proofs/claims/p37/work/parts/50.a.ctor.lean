/-! Constructors of the small objects -/
theorem k111 : Cond.instanceMethod objectInit ∈ GW := gm 111 (by decide +kernel) (by decide +kernel)
theorem k112 : Cond.code objectInit ⟨#[0xb1]⟩ 1 none ∈ GW := gm 112 (by decide +kernel) (by decide +kernel)
theorem k118 : Cond.methodLink RX3 3 objectInit ∈ GW := gm 118 (by decide +kernel) (by decide +kernel)
theorem k147 : Cond.arrayClass .byte ∈ GW := gm 147 (by decide +kernel) (by decide +kernel)
theorem k153 : Cond.methodLink RX0 3 objectInit ∈ GW := gm 153 (by decide +kernel) (by decide +kernel)
theorem k204 : Cond.instantiable RX4 3 ∈ GW := gm 204 (by decide +kernel) (by decide +kernel)
theorem k206 : Cond.instanceMethod yX4_init ∈ GW := gm 206 (by decide +kernel) (by decide +kernel)
theorem k207 : Cond.code yX4_init cX4_init 1 none ∈ GW := gm 207 (by decide +kernel) (by decide +kernel)
theorem k208 : Cond.methodLink RX4 1 objectInit ∈ GW := gm 208 (by decide +kernel) (by decide +kernel)
theorem k224 : Cond.methodLink RX2 1 objectInit ∈ GW := gm 224 (by decide +kernel) (by decide +kernel)
theorem k225 : Cond.classLink RX2 7 RX4 ∈ GW := gm 225 (by decide +kernel) (by decide +kernel)
theorem dX0_init_0 : decode cX0_init 0 = .ok (.aload_n 0, 1) := by decide +kernel
theorem dX0_init_1 : decode cX0_init 1 = .ok (.invokespecial 3, 3) := by decide +kernel
theorem dX0_init_4 : decode cX0_init 4 = .ok (.aload_n 0, 1) := by decide +kernel
theorem dX0_init_5 : decode cX0_init 5 = .ok (.bipush 48, 2) := by decide +kernel
theorem dX0_init_7 : decode cX0_init 7 = .ok (.newarray .int, 2) := by decide +kernel
theorem dX0_init_9 : decode cX0_init 9 = .ok (.putfield 9, 3) := by decide +kernel
theorem dX0_init_12 : decode cX0_init 12 = .ok (.aload_n 0, 1) := by decide +kernel
theorem dX0_init_13 : decode cX0_init 13 = .ok (.bipush 48, 2) := by decide +kernel
theorem dX0_init_15 : decode cX0_init 15 = .ok (.newarray .int, 2) := by decide +kernel
theorem dX0_init_17 : decode cX0_init 17 = .ok (.putfield 15, 3) := by decide +kernel
theorem dX0_init_20 : decode cX0_init 20 = .ok (.aload_n 0, 1) := by decide +kernel
theorem dX0_init_21 : decode cX0_init 21 = .ok (.iconst 0, 1) := by decide +kernel
theorem dX0_init_22 : decode cX0_init 22 = .ok (.putfield 18, 3) := by decide +kernel
theorem dX0_init_25 : decode cX0_init 25 = .ok (.aload_n 0, 1) := by decide +kernel
theorem dX0_init_26 : decode cX0_init 26 = .ok (.iconst 0, 1) := by decide +kernel
theorem dX0_init_27 : decode cX0_init 27 = .ok (.putfield 22, 3) := by decide +kernel
theorem dX0_init_30 : decode cX0_init 30 = .ok (.aload_n 0, 1) := by decide +kernel
theorem dX0_init_31 : decode cX0_init 31 = .ok (.iconst 2, 1) := by decide +kernel
theorem dX0_init_32 : decode cX0_init 32 = .ok (.putfield 25, 3) := by decide +kernel
theorem dX0_init_35 : decode cX0_init 35 = .ok (.aload_n 0, 1) := by decide +kernel
theorem dX0_init_36 : decode cX0_init 36 = .ok (.iconst 1, 1) := by decide +kernel
theorem dX0_init_37 : decode cX0_init 37 = .ok (.putfield 28, 3) := by decide +kernel
theorem dX0_init_40 : decode cX0_init 40 = .ok (.aload_n 0, 1) := by decide +kernel
theorem dX0_init_41 : decode cX0_init 41 = .ok (.iconst 2, 1) := by decide +kernel
theorem dX0_init_42 : decode cX0_init 42 = .ok (.putfield 32, 3) := by decide +kernel
theorem dX0_init_45 : decode cX0_init 45 = .ok (.return_, 1) := by decide +kernel
theorem dX2_init_0 : decode cX2_init 0 = .ok (.aload_n 0, 1) := by decide +kernel
theorem dX2_init_1 : decode cX2_init 1 = .ok (.invokespecial 1, 3) := by decide +kernel
theorem dX2_init_4 : decode cX2_init 4 = .ok (.aload_n 0, 1) := by decide +kernel
theorem dX2_init_5 : decode cX2_init 5 = .ok (.new 7, 3) := by decide +kernel
theorem dX2_init_8 : decode cX2_init 8 = .ok (.dup, 1) := by decide +kernel
theorem dX2_init_9 : decode cX2_init 9 = .ok (.invokespecial 9, 3) := by decide +kernel
theorem dX2_init_12 : decode cX2_init 12 = .ok (.putfield 10, 3) := by decide +kernel
theorem dX2_init_15 : decode cX2_init 15 = .ok (.return_, 1) := by decide +kernel
theorem dX3_init_0 : decode cX3_init 0 = .ok (.aload_n 0, 1) := by decide +kernel
theorem dX3_init_1 : decode cX3_init 1 = .ok (.invokespecial 3, 3) := by decide +kernel
theorem dX3_init_4 : decode cX3_init 4 = .ok (.aload_n 0, 1) := by decide +kernel
theorem dX3_init_5 : decode cX3_init 5 = .ok (.sipush 700, 3) := by decide +kernel
theorem dX3_init_8 : decode cX3_init 8 = .ok (.newarray .byte, 2) := by decide +kernel
theorem dX3_init_10 : decode cX3_init 10 = .ok (.putfield 11, 3) := by decide +kernel
theorem dX3_init_13 : decode cX3_init 13 = .ok (.aload_n 0, 1) := by decide +kernel
theorem dX3_init_14 : decode cX3_init 14 = .ok (.iconst 0, 1) := by decide +kernel
theorem dX3_init_15 : decode cX3_init 15 = .ok (.putfield 15, 3) := by decide +kernel
theorem dX3_init_18 : decode cX3_init 18 = .ok (.aload_n 0, 1) := by decide +kernel
theorem dX3_init_19 : decode cX3_init 19 = .ok (.iconst 0, 1) := by decide +kernel
theorem dX3_init_20 : decode cX3_init 20 = .ok (.putfield 19, 3) := by decide +kernel
theorem dX3_init_23 : decode cX3_init 23 = .ok (.aload_n 0, 1) := by decide +kernel
theorem dX3_init_24 : decode cX3_init 24 = .ok (.iconst (-1), 1) := by decide +kernel
theorem dX3_init_25 : decode cX3_init 25 = .ok (.putfield 22, 3) := by decide +kernel
theorem dX3_init_28 : decode cX3_init 28 = .ok (.aload_n 0, 1) := by decide +kernel
theorem dX3_init_29 : decode cX3_init 29 = .ok (.iconst 0, 1) := by decide +kernel
theorem dX3_init_30 : decode cX3_init 30 = .ok (.putfield 25, 3) := by decide +kernel
theorem dX3_init_33 : decode cX3_init 33 = .ok (.aload_n 0, 1) := by decide +kernel
theorem dX3_init_34 : decode cX3_init 34 = .ok (.iconst 0, 1) := by decide +kernel
theorem dX3_init_35 : decode cX3_init 35 = .ok (.putfield 28, 3) := by decide +kernel
theorem dX3_init_38 : decode cX3_init 38 = .ok (.aload_n 0, 1) := by decide +kernel
theorem dX3_init_39 : decode cX3_init 39 = .ok (.iconst 0, 1) := by decide +kernel
theorem dX3_init_40 : decode cX3_init 40 = .ok (.putfield 31, 3) := by decide +kernel
theorem dX3_init_43 : decode cX3_init 43 = .ok (.aload_n 0, 1) := by decide +kernel
theorem dX3_init_44 : decode cX3_init 44 = .ok (.iconst 0, 1) := by decide +kernel
theorem dX3_init_45 : decode cX3_init 45 = .ok (.putfield 34, 3) := by decide +kernel
theorem dX3_init_48 : decode cX3_init 48 = .ok (.return_, 1) := by decide +kernel
theorem dX4_init_0 : decode cX4_init 0 = .ok (.aload_n 0, 1) := by decide +kernel
theorem dX4_init_1 : decode cX4_init 1 = .ok (.invokespecial 1, 3) := by decide +kernel
theorem dX4_init_4 : decode cX4_init 4 = .ok (.aload_n 0, 1) := by decide +kernel
theorem dX4_init_5 : decode cX4_init 5 = .ok (.iconst 2, 1) := by decide +kernel
theorem dX4_init_6 : decode cX4_init 6 = .ok (.newarray .int, 2) := by decide +kernel
theorem dX4_init_8 : decode cX4_init 8 = .ok (.putfield 7, 3) := by decide +kernel
theorem dX4_init_11 : decode cX4_init 11 = .ok (.aload_n 0, 1) := by decide +kernel
theorem dX4_init_12 : decode cX4_init 12 = .ok (.iconst 0, 1) := by decide +kernel
theorem dX4_init_13 : decode cX4_init 13 = .ok (.putfield 13, 3) := by decide +kernel
theorem dX4_init_16 : decode cX4_init 16 = .ok (.aload_n 0, 1) := by decide +kernel
theorem dX4_init_17 : decode cX4_init 17 = .ok (.iconst 0, 1) := by decide +kernel
theorem dX4_init_18 : decode cX4_init 18 = .ok (.putfield 17, 3) := by decide +kernel
theorem dX4_init_21 : decode cX4_init 21 = .ok (.return_, 1) := by decide +kernel
set_option maxHeartbeats 4000000 in
set_option maxRecDepth 100000 in
theorem W4_init (l : Launch) (κ : Kt) (this : Nat) : XC l yX4_init cX4_init 1 1 12 1 2 [.ref this] κ [this] (fun H => va_at κ.1 vwCl (this, .inr (4, [.null, .int 0, .int 0])) H) (fun sz su H => H.size = sz + 1 ∧ va_at κ.1 vwCl (this, .inr (4, [.ref (sz + 0), .int 0, .int 0])) H ∧ va_at κ.1 vwCl ((sz + 0), .inl (kA κ 0, 2, .inl (fun _ => 0))) H) := by
  refine XC.of (by decide +kernel) (Nat.le_of_ble_eq_true rfl) ?_
  intro p e s m below meth c ls hcs hpre hK hX hS hl
  obtain ⟨hx, hb, hr, hml, hown, hg, hlocks, hin⟩ := hcs
  have hown : s.vm.findClass RX4 = some m.cls := hown
  have hl : lv_has ls 1 [(0, .ref this)] := hl
  have f0 := hpre
  have lt_this : this < s.heap.size := f0.lt
  have hz : s.heap.size = s.heap.size + 0 := rfl
  refine lv_aload_n hx hb dX4_init_0 rfl (lv_at hl 0 rfl) ?_
  refine W.objInit hx hb hown (hg _ k208) (hg _ k111) (hg _ k112) rfl (by rw [hml]; exact hl.1) rfl dX4_init_1 (Nat.le_of_ble_eq_true rfl) (Nat.le_of_ble_eq_true rfl) ?_
  refine W.eq (g2 := F0 m 4 ls []) rfl ?_
  refine lv_aload_n hx hb dX4_init_4 rfl (lv_at hl 0 rfl) ?_
  refine lv_iconst (v := 2) hx hb dX4_init_5 (by decide) ?_
  refine xnewa 0 (atype := .int) (k := 2) (N := 2) (E := (2, .inl (fun _ => 0))) hx hb (hg _ k193) hK rfl hS (by decide) (by decide) (Nat.le_of_ble_eq_true rfl) rfl (Nat.le_of_ble_eq_true rfl) (Nat.le_of_ble_eq_true rfl) dX4_init_6 (fun n1 H e9 g f2 hS2 => ?_)
  replace hS := hS2
  clear hS2
  replace f0 := g.kept f0
  obtain rfl : n1 = s.heap.size + 0 := by omega
  replace hz : H.size = s.heap.size + 1 := by have := g.1; omega
  clear g
  refine xput (cn := 4) (v := .ref (s.heap.size + 0)) (ty := .array .int) (C := RX4) (T := TX4) (N := 3) hx hb hg inX4 tyX4 tyX4_ok nmX4 hown hK hS xA0 f0 rfl 0 (by decide) (hg _ k209) (fun _ h9 => h9) rfl (by decide +kernel) rfl rfl (Nat.le_of_ble_eq_true rfl) dX4_init_8 (fun H locs g f0 hS2 => ?_)
  replace hS := hS2
  clear hS2
  replace f2 := g.kept f2 (show (s.heap.size + 0) ≠ this from (nt2 lt_this))
  replace f0 : va_at κ.1 vwCl (this, .inr (4, [.ref (s.heap.size + 0), .int 0, .int 0])) H := f0
  replace hz := g.1.trans hz
  clear g
  refine lv_aload_n hx hb dX4_init_11 rfl (lv_at hl 0 rfl) ?_
  refine lv_iconst (v := 0) hx hb dX4_init_12 (by decide) ?_
  refine xput (cn := 4) (v := .int 0) (ty := .int) (C := RX4) (T := TX4) (N := 3) hx hb hg inX4 tyX4 tyX4_ok nmX4 hown hK hS xA0 f0 rfl 1 (by decide) (hg _ k210) (fun _ h9 => h9) rfl (by decide +kernel) rfl rfl (Nat.le_of_ble_eq_true rfl) dX4_init_13 (fun H locs g f0 hS2 => ?_)
  replace hS := hS2
  clear hS2
  replace f2 := g.kept f2 (show (s.heap.size + 0) ≠ this from (nt2 lt_this))
  replace f0 : va_at κ.1 vwCl (this, .inr (4, [.ref (s.heap.size + 0), .int 0, .int 0])) H := f0
  replace hz := g.1.trans hz
  clear g
  refine lv_aload_n hx hb dX4_init_16 rfl (lv_at hl 0 rfl) ?_
  refine lv_iconst (v := 0) hx hb dX4_init_17 (by decide) ?_
  refine xput (cn := 4) (v := .int 0) (ty := .boolean) (C := RX4) (T := TX4) (N := 3) hx hb hg inX4 tyX4 tyX4_ok nmX4 hown hK hS xA0 f0 rfl 2 (by decide) (hg _ k211) (fun _ h9 => h9) rfl (by decide +kernel) rfl rfl (Nat.le_of_ble_eq_true rfl) dX4_init_18 (fun H locs g f0 hS2 => ?_)
  replace hS := hS2
  clear hS2
  replace f2 := g.kept f2 (show (s.heap.size + 0) ≠ this from (nt2 lt_this))
  replace f0 : va_at κ.1 vwCl (this, .inr (4, [.ref (s.heap.size + 0), .int 0, .int 0])) H := f0
  replace hz := g.1.trans hz
  clear g
  exact xret (Post := (fun sz su H => H.size = sz + 1 ∧ va_at κ.1 vwCl (this, .inr (4, [.ref (sz + 0), .int 0, .int 0])) H ∧ va_at κ.1 vwCl ((sz + 0), .inl (kA κ 0, 2, .inl (fun _ => 0))) H)) hx hb hr hlocks hS ⟨by omega, f0, f2⟩ (Nat.le_of_ble_eq_true rfl) (Nat.le_of_ble_eq_true rfl) dX4_init_21
set_option maxHeartbeats 4000000 in
set_option maxRecDepth 100000 in
theorem W2_init (l : Launch) (κ : Kt) (this : Nat) : XC l yX2_init cX2_init 1 2 32 2 5 [.ref this] κ [this] (fun H => va_at κ.1 vwCl (this, .inr (2, [.int 0, .int 0, .int 0, .long 0, .long 0, .long 0, .long 0, .int 0, .int 0, .null])) H) (fun sz su H => H.size = sz + 2 ∧ va_at κ.1 vwCl (this, .inr (2, [.int 0, .int 0, .int 0, .long 0, .long 0, .long 0, .long 0, .int 0, .int 0, .ref (sz + 0)])) H ∧ va_at κ.1 vwCl ((sz + 0), .inr (4, [.ref (sz + 1), .int 0, .int 0])) H ∧ va_at κ.1 vwCl ((sz + 1), .inl (kA κ 0, 2, .inl (fun _ => 0))) H) := by
  refine XC.of (by decide +kernel) (Nat.le_of_ble_eq_true rfl) ?_
  intro p e s m below meth c ls hcs hpre hK hX hS hl
  obtain ⟨hx, hb, hr, hml, hown, hg, hlocks, hin⟩ := hcs
  have hown : s.vm.findClass RX2 = some m.cls := hown
  have hl : lv_has ls 1 [(0, .ref this)] := hl
  have f0 := hpre
  have lt_this : this < s.heap.size := f0.lt
  have hz : s.heap.size = s.heap.size + 0 := rfl
  refine lv_aload_n hx hb dX2_init_0 rfl (lv_at hl 0 rfl) ?_
  refine W.objInit hx hb hown (hg _ k224) (hg _ k111) (hg _ k112) rfl (by rw [hml]; exact hl.1) rfl dX2_init_1 (Nat.le_of_ble_eq_true rfl) (Nat.le_of_ble_eq_true rfl) ?_
  refine W.eq (g2 := F0 m 4 ls []) rfl ?_
  refine lv_aload_n hx hb dX2_init_4 rfl (lv_at hl 0 rfl) ?_
  refine xnew (ci := 4) (fs := [.null, .int 0, .int 0]) (C := RX4) (T := TX4) (N := 3) hx hb hg inX4 tyX4 tyX4_ok hown (hg _ k225) (hg _ k204) (hg _ k88) hK hS rfl nwX4 (Nat.le_of_ble_eq_true rfl) (Nat.le_of_ble_eq_true rfl) dX2_init_5 (fun n1 H e9 g f2 hS2 => ?_)
  replace hS := hS2
  clear hS2
  replace f0 := g.kept f0
  obtain rfl : n1 = s.heap.size + 0 := by omega
  replace hz : H.size = s.heap.size + 1 := by have := g.1; omega
  clear g
  refine lv_dup hx hb dX2_init_8 rfl ?_
  refine xcallN (n := 0) (As := []) (rest := [.ref (s.heap.size + 0), .ref this]) hx hb hml hown hg (W4_init l κ (s.heap.size + 0)) (mwI k207) ⟨by decide, by decide, by decide +kernel⟩ k88 (XX_nRX2_9 hX.1) k206 rfl ⟨(Nat.le_of_ble_eq_true rfl), (Nat.le_of_ble_eq_true rfl)⟩ f2 hK hS hX (xA_in (xA1 (Or.inr (by omega))) hS.1) rfl hl.1 rfl (Nat.le_of_ble_eq_true rfl) dX2_init_9 ⟨(Nat.le_of_ble_eq_true rfl), (Nat.le_of_ble_eq_true rfl)⟩ (fun H locs hp g hS2 => ?_)
  replace hS := hS2
  clear hS2
  replace f0 := g.kept f0 (show ¬ xA _ _ this from xA_no (nt1 lt_this) (lt1 lt_this hz))
  clear g
  obtain ⟨p3, p4, p5⟩ := hp
  rw [hz] at p3 p4 p5
  replace hz : H.size = s.heap.size + 2 := by omega
  replace p4 : va_at κ.1 vwCl ((s.heap.size + 0), .inr (4, [.ref (s.heap.size + 1), .int 0, .int 0])) H := p4
  replace p5 : va_at κ.1 vwCl ((s.heap.size + 1), .inl (kA κ 0, 2, .inl (fun _ => 0))) H := p5
  refine xputF (cn := 2) (v := .ref (s.heap.size + 0)) (ty := .object "LiftingSignal$Whole") (C := RX2) (T := TX2) (N := 10) hx hb hg inX2 tyX2 tyX2_ok nmX2 hown hK hS xA0 f0 rfl 9 (by decide) (hg _ k250) (fun _ h9 => h9) rfl hin rfl (by decide +kernel) rfl rfl (Nat.le_of_ble_eq_true rfl) dX2_init_12 (fun H locs g f0 hS2 => ?_)
  replace hS := hS2
  clear hS2
  replace p4 := g.kept p4 (show (s.heap.size + 0) ≠ this from (nt2 lt_this))
  replace p5 := g.kept p5 (show (s.heap.size + 1) ≠ this from (nt2 lt_this))
  replace f0 : va_at κ.1 vwCl (this, .inr (2, [.int 0, .int 0, .int 0, .long 0, .long 0, .long 0, .long 0, .int 0, .int 0, .ref (s.heap.size + 0)])) H := f0
  replace hz := g.1.trans hz
  clear g
  exact xret (Post := (fun sz su H => H.size = sz + 2 ∧ va_at κ.1 vwCl (this, .inr (2, [.int 0, .int 0, .int 0, .long 0, .long 0, .long 0, .long 0, .int 0, .int 0, .ref (sz + 0)])) H ∧ va_at κ.1 vwCl ((sz + 0), .inr (4, [.ref (sz + 1), .int 0, .int 0])) H ∧ va_at κ.1 vwCl ((sz + 1), .inl (kA κ 0, 2, .inl (fun _ => 0))) H)) hx hb hr hlocks hS ⟨by omega, f0, p4, p5⟩ (Nat.le_of_ble_eq_true rfl) (Nat.le_of_ble_eq_true rfl) dX2_init_15
set_option maxHeartbeats 4000000 in
set_option maxRecDepth 100000 in
theorem W0_init (l : Launch) (κ : Kt) (this : Nat) : XC l yX0_init cX0_init 1 1 12 2 96 [.ref this] κ [this] (fun H => va_at κ.1 vwCl (this, .inr (0, [.null, .null, .int 0, .int 0, .int 0, .int 0, .int 0])) H) (fun sz su H => H.size = sz + 2 ∧ va_at κ.1 vwCl (this, .inr (0, [.ref (sz + 0), .ref (sz + 1), .int 0, .int 0, .int 2, .int 1, .int 2])) H ∧ va_at κ.1 vwCl ((sz + 0), .inl (kA κ 0, 48, .inl (fun _ => 0))) H ∧ va_at κ.1 vwCl ((sz + 1), .inl (kA κ 0, 48, .inl (fun _ => 0))) H) := by
  refine XC.of (by decide +kernel) (Nat.le_of_ble_eq_true rfl) ?_
  intro p e s m below meth c ls hcs hpre hK hX hS hl
  obtain ⟨hx, hb, hr, hml, hown, hg, hlocks, hin⟩ := hcs
  have hown : s.vm.findClass RX0 = some m.cls := hown
  have hl : lv_has ls 1 [(0, .ref this)] := hl
  have f0 := hpre
  have lt_this : this < s.heap.size := f0.lt
  have hz : s.heap.size = s.heap.size + 0 := rfl
  refine lv_aload_n hx hb dX0_init_0 rfl (lv_at hl 0 rfl) ?_
  refine W.objInit hx hb hown (hg _ k153) (hg _ k111) (hg _ k112) rfl (by rw [hml]; exact hl.1) rfl dX0_init_1 (Nat.le_of_ble_eq_true rfl) (Nat.le_of_ble_eq_true rfl) ?_
  refine W.eq (g2 := F0 m 4 ls []) rfl ?_
  refine lv_aload_n hx hb dX0_init_4 rfl (lv_at hl 0 rfl) ?_
  refine lv_bipush (v := 48) hx hb dX0_init_5 (by decide) ?_
  refine xnewa 0 (atype := .int) (k := 48) (N := 48) (E := (48, .inl (fun _ => 0))) hx hb (hg _ k193) hK rfl hS (by decide) (by decide) (Nat.le_of_ble_eq_true rfl) rfl (Nat.le_of_ble_eq_true rfl) (Nat.le_of_ble_eq_true rfl) dX0_init_7 (fun n1 H e9 g f2 hS2 => ?_)
  replace hS := hS2
  clear hS2
  replace f0 := g.kept f0
  obtain rfl : n1 = s.heap.size + 0 := by omega
  replace hz : H.size = s.heap.size + 1 := by have := g.1; omega
  clear g
  refine xputF (cn := 0) (v := .ref (s.heap.size + 0)) (ty := .array .int) (C := RX0) (T := TX0) (N := 7) hx hb hg inX0 tyX0 tyX0_ok nmX0 hown hK hS xA0 f0 rfl 0 (by decide) (hg _ k154) (fun _ h9 => h9) rfl hin rfl (by decide +kernel) rfl rfl (Nat.le_of_ble_eq_true rfl) dX0_init_9 (fun H locs g f0 hS2 => ?_)
  replace hS := hS2
  clear hS2
  replace f2 := g.kept f2 (show (s.heap.size + 0) ≠ this from (nt2 lt_this))
  replace f0 : va_at κ.1 vwCl (this, .inr (0, [.ref (s.heap.size + 0), .null, .int 0, .int 0, .int 0, .int 0, .int 0])) H := f0
  replace hz := g.1.trans hz
  clear g
  refine lv_aload_n hx hb dX0_init_12 rfl (lv_at hl 0 rfl) ?_
  refine lv_bipush (v := 48) hx hb dX0_init_13 (by decide) ?_
  refine xnewa 0 (atype := .int) (k := 48) (N := 48) (E := (48, .inl (fun _ => 0))) hx hb (hg _ k193) hK rfl hS (by decide) (by decide) (Nat.le_of_ble_eq_true rfl) rfl (Nat.le_of_ble_eq_true rfl) (Nat.le_of_ble_eq_true rfl) dX0_init_15 (fun n3 H e9 g f4 hS2 => ?_)
  replace hS := hS2
  clear hS2
  replace f0 := g.kept f0
  replace f2 := g.kept f2
  obtain rfl : n3 = s.heap.size + 1 := by omega
  replace hz : H.size = s.heap.size + 2 := by have := g.1; omega
  clear g
  refine xputF (cn := 0) (v := .ref (s.heap.size + 1)) (ty := .array .int) (C := RX0) (T := TX0) (N := 7) hx hb hg inX0 tyX0 tyX0_ok nmX0 hown hK hS xA0 f0 rfl 1 (by decide) (hg _ k158) (fun _ h9 => h9) rfl hin rfl (by decide +kernel) rfl rfl (Nat.le_of_ble_eq_true rfl) dX0_init_17 (fun H locs g f0 hS2 => ?_)
  replace hS := hS2
  clear hS2
  replace f2 := g.kept f2 (show (s.heap.size + 0) ≠ this from (nt2 lt_this))
  replace f4 := g.kept f4 (show (s.heap.size + 1) ≠ this from (nt2 lt_this))
  replace f0 : va_at κ.1 vwCl (this, .inr (0, [.ref (s.heap.size + 0), .ref (s.heap.size + 1), .int 0, .int 0, .int 0, .int 0, .int 0])) H := f0
  replace hz := g.1.trans hz
  clear g
  refine lv_aload_n hx hb dX0_init_20 rfl (lv_at hl 0 rfl) ?_
  refine lv_iconst (v := 0) hx hb dX0_init_21 (by decide) ?_
  refine xput (cn := 0) (v := .int 0) (ty := .int) (C := RX0) (T := TX0) (N := 7) hx hb hg inX0 tyX0 tyX0_ok nmX0 hown hK hS xA0 f0 rfl 2 (by decide) (hg _ k161) (fun _ h9 => h9) rfl (by decide +kernel) rfl rfl (Nat.le_of_ble_eq_true rfl) dX0_init_22 (fun H locs g f0 hS2 => ?_)
  replace hS := hS2
  clear hS2
  replace f2 := g.kept f2 (show (s.heap.size + 0) ≠ this from (nt2 lt_this))
  replace f4 := g.kept f4 (show (s.heap.size + 1) ≠ this from (nt2 lt_this))
  replace f0 : va_at κ.1 vwCl (this, .inr (0, [.ref (s.heap.size + 0), .ref (s.heap.size + 1), .int 0, .int 0, .int 0, .int 0, .int 0])) H := f0
  replace hz := g.1.trans hz
  clear g
  refine lv_aload_n hx hb dX0_init_25 rfl (lv_at hl 0 rfl) ?_
  refine lv_iconst (v := 0) hx hb dX0_init_26 (by decide) ?_
  refine xput (cn := 0) (v := .int 0) (ty := .int) (C := RX0) (T := TX0) (N := 7) hx hb hg inX0 tyX0 tyX0_ok nmX0 hown hK hS xA0 f0 rfl 3 (by decide) (hg _ k165) (fun _ h9 => h9) rfl (by decide +kernel) rfl rfl (Nat.le_of_ble_eq_true rfl) dX0_init_27 (fun H locs g f0 hS2 => ?_)
  replace hS := hS2
  clear hS2
  replace f2 := g.kept f2 (show (s.heap.size + 0) ≠ this from (nt2 lt_this))
  replace f4 := g.kept f4 (show (s.heap.size + 1) ≠ this from (nt2 lt_this))
  replace f0 : va_at κ.1 vwCl (this, .inr (0, [.ref (s.heap.size + 0), .ref (s.heap.size + 1), .int 0, .int 0, .int 0, .int 0, .int 0])) H := f0
  replace hz := g.1.trans hz
  clear g
  refine lv_aload_n hx hb dX0_init_30 rfl (lv_at hl 0 rfl) ?_
  refine lv_iconst (v := 2) hx hb dX0_init_31 (by decide) ?_
  refine xput (cn := 0) (v := .int 2) (ty := .int) (C := RX0) (T := TX0) (N := 7) hx hb hg inX0 tyX0 tyX0_ok nmX0 hown hK hS xA0 f0 rfl 4 (by decide) (hg _ k168) (fun _ h9 => h9) rfl (by decide +kernel) rfl rfl (Nat.le_of_ble_eq_true rfl) dX0_init_32 (fun H locs g f0 hS2 => ?_)
  replace hS := hS2
  clear hS2
  replace f2 := g.kept f2 (show (s.heap.size + 0) ≠ this from (nt2 lt_this))
  replace f4 := g.kept f4 (show (s.heap.size + 1) ≠ this from (nt2 lt_this))
  replace f0 : va_at κ.1 vwCl (this, .inr (0, [.ref (s.heap.size + 0), .ref (s.heap.size + 1), .int 0, .int 0, .int 2, .int 0, .int 0])) H := f0
  replace hz := g.1.trans hz
  clear g
  refine lv_aload_n hx hb dX0_init_35 rfl (lv_at hl 0 rfl) ?_
  refine lv_iconst (v := 1) hx hb dX0_init_36 (by decide) ?_
  refine xput (cn := 0) (v := .int 1) (ty := .boolean) (C := RX0) (T := TX0) (N := 7) hx hb hg inX0 tyX0 tyX0_ok nmX0 hown hK hS xA0 f0 rfl 5 (by decide) (hg _ k171) (fun _ h9 => h9) rfl (by decide +kernel) rfl rfl (Nat.le_of_ble_eq_true rfl) dX0_init_37 (fun H locs g f0 hS2 => ?_)
  replace hS := hS2
  clear hS2
  replace f2 := g.kept f2 (show (s.heap.size + 0) ≠ this from (nt2 lt_this))
  replace f4 := g.kept f4 (show (s.heap.size + 1) ≠ this from (nt2 lt_this))
  replace f0 : va_at κ.1 vwCl (this, .inr (0, [.ref (s.heap.size + 0), .ref (s.heap.size + 1), .int 0, .int 0, .int 2, .int 1, .int 0])) H := f0
  replace hz := g.1.trans hz
  clear g
  refine lv_aload_n hx hb dX0_init_40 rfl (lv_at hl 0 rfl) ?_
  refine lv_iconst (v := 2) hx hb dX0_init_41 (by decide) ?_
  refine xput (cn := 0) (v := .int 2) (ty := .int) (C := RX0) (T := TX0) (N := 7) hx hb hg inX0 tyX0 tyX0_ok nmX0 hown hK hS xA0 f0 rfl 6 (by decide) (hg _ k174) (fun _ h9 => h9) rfl (by decide +kernel) rfl rfl (Nat.le_of_ble_eq_true rfl) dX0_init_42 (fun H locs g f0 hS2 => ?_)
  replace hS := hS2
  clear hS2
  replace f2 := g.kept f2 (show (s.heap.size + 0) ≠ this from (nt2 lt_this))
  replace f4 := g.kept f4 (show (s.heap.size + 1) ≠ this from (nt2 lt_this))
  replace f0 : va_at κ.1 vwCl (this, .inr (0, [.ref (s.heap.size + 0), .ref (s.heap.size + 1), .int 0, .int 0, .int 2, .int 1, .int 2])) H := f0
  replace hz := g.1.trans hz
  clear g
  exact xret (Post := (fun sz su H => H.size = sz + 2 ∧ va_at κ.1 vwCl (this, .inr (0, [.ref (sz + 0), .ref (sz + 1), .int 0, .int 0, .int 2, .int 1, .int 2])) H ∧ va_at κ.1 vwCl ((sz + 0), .inl (kA κ 0, 48, .inl (fun _ => 0))) H ∧ va_at κ.1 vwCl ((sz + 1), .inl (kA κ 0, 48, .inl (fun _ => 0))) H)) hx hb hr hlocks hS ⟨by omega, f0, f2, f4⟩ (Nat.le_of_ble_eq_true rfl) (Nat.le_of_ble_eq_true rfl) dX0_init_45
set_option maxHeartbeats 4000000 in
set_option maxRecDepth 100000 in
theorem W3_init (l : Launch) (κ : Kt) (this : Nat) : XC l yX3_init cX3_init 1 1 12 1 700 [.ref this] κ [this] (fun H => va_at κ.1 vwCl (this, .inr (3, [.null, .int 0, .int 0, .int 0, .int 0, .int 0, .int 0, .int 0])) H) (fun sz su H => H.size = sz + 1 ∧ va_at κ.1 vwCl (this, .inr (3, [.ref (sz + 0), .int 0, .int 0, .int (-1), .int 0, .int 0, .int 0, .int 0])) H ∧ va_at κ.1 vwCl ((sz + 0), .inl (kA κ 2, 700, .inl (fun _ => 0))) H) := by
  refine XC.of (by decide +kernel) (Nat.le_of_ble_eq_true rfl) ?_
  intro p e s m below meth c ls hcs hpre hK hX hS hl
  obtain ⟨hx, hb, hr, hml, hown, hg, hlocks, hin⟩ := hcs
  have hown : s.vm.findClass RX3 = some m.cls := hown
  have hl : lv_has ls 1 [(0, .ref this)] := hl
  have f0 := hpre
  have lt_this : this < s.heap.size := f0.lt
  have hz : s.heap.size = s.heap.size + 0 := rfl
  refine lv_aload_n hx hb dX3_init_0 rfl (lv_at hl 0 rfl) ?_
  refine W.objInit hx hb hown (hg _ k118) (hg _ k111) (hg _ k112) rfl (by rw [hml]; exact hl.1) rfl dX3_init_1 (Nat.le_of_ble_eq_true rfl) (Nat.le_of_ble_eq_true rfl) ?_
  refine W.eq (g2 := F0 m 4 ls []) rfl ?_
  refine lv_aload_n hx hb dX3_init_4 rfl (lv_at hl 0 rfl) ?_
  refine lv_sipush (v := 700) hx hb dX3_init_5 (by decide) ?_
  refine xnewa 2 (atype := .byte) (k := 700) (N := 700) (E := (700, .inl (fun _ => 0))) hx hb (hg _ k147) hK rfl hS (by decide) (by decide) (Nat.le_of_ble_eq_true rfl) rfl (Nat.le_of_ble_eq_true rfl) (Nat.le_of_ble_eq_true rfl) dX3_init_8 (fun n1 H e9 g f2 hS2 => ?_)
  replace hS := hS2
  clear hS2
  replace f0 := g.kept f0
  obtain rfl : n1 = s.heap.size + 0 := by omega
  replace hz : H.size = s.heap.size + 1 := by have := g.1; omega
  clear g
  refine xputF (cn := 3) (v := .ref (s.heap.size + 0)) (ty := .array .byte) (C := RX3) (T := TX3) (N := 8) hx hb hg inX3 tyX3 tyX3_ok nmX3 hown hK hS xA0 f0 rfl 0 (by decide) (hg _ k119) (fun _ h9 => h9) rfl hin rfl (by decide +kernel) rfl rfl (Nat.le_of_ble_eq_true rfl) dX3_init_10 (fun H locs g f0 hS2 => ?_)
  replace hS := hS2
  clear hS2
  replace f2 := g.kept f2 (show (s.heap.size + 0) ≠ this from (nt2 lt_this))
  replace f0 : va_at κ.1 vwCl (this, .inr (3, [.ref (s.heap.size + 0), .int 0, .int 0, .int 0, .int 0, .int 0, .int 0, .int 0])) H := f0
  replace hz := g.1.trans hz
  clear g
  refine lv_aload_n hx hb dX3_init_13 rfl (lv_at hl 0 rfl) ?_
  refine lv_iconst (v := 0) hx hb dX3_init_14 (by decide) ?_
  refine xput (cn := 3) (v := .int 0) (ty := .int) (C := RX3) (T := TX3) (N := 8) hx hb hg inX3 tyX3 tyX3_ok nmX3 hown hK hS xA0 f0 rfl 1 (by decide) (hg _ k120) (fun _ h9 => h9) rfl (by decide +kernel) rfl rfl (Nat.le_of_ble_eq_true rfl) dX3_init_15 (fun H locs g f0 hS2 => ?_)
  replace hS := hS2
  clear hS2
  replace f2 := g.kept f2 (show (s.heap.size + 0) ≠ this from (nt2 lt_this))
  replace f0 : va_at κ.1 vwCl (this, .inr (3, [.ref (s.heap.size + 0), .int 0, .int 0, .int 0, .int 0, .int 0, .int 0, .int 0])) H := f0
  replace hz := g.1.trans hz
  clear g
  refine lv_aload_n hx hb dX3_init_18 rfl (lv_at hl 0 rfl) ?_
  refine lv_iconst (v := 0) hx hb dX3_init_19 (by decide) ?_
  refine xput (cn := 3) (v := .int 0) (ty := .int) (C := RX3) (T := TX3) (N := 8) hx hb hg inX3 tyX3 tyX3_ok nmX3 hown hK hS xA0 f0 rfl 2 (by decide) (hg _ k122) (fun _ h9 => h9) rfl (by decide +kernel) rfl rfl (Nat.le_of_ble_eq_true rfl) dX3_init_20 (fun H locs g f0 hS2 => ?_)
  replace hS := hS2
  clear hS2
  replace f2 := g.kept f2 (show (s.heap.size + 0) ≠ this from (nt2 lt_this))
  replace f0 : va_at κ.1 vwCl (this, .inr (3, [.ref (s.heap.size + 0), .int 0, .int 0, .int 0, .int 0, .int 0, .int 0, .int 0])) H := f0
  replace hz := g.1.trans hz
  clear g
  refine lv_aload_n hx hb dX3_init_23 rfl (lv_at hl 0 rfl) ?_
  refine lv_iconst (v := (-1)) hx hb dX3_init_24 (by decide) ?_
  refine xput (cn := 3) (v := .int (-1)) (ty := .int) (C := RX3) (T := TX3) (N := 8) hx hb hg inX3 tyX3 tyX3_ok nmX3 hown hK hS xA0 f0 rfl 3 (by decide) (hg _ k124) (fun _ h9 => h9) rfl (by decide +kernel) rfl rfl (Nat.le_of_ble_eq_true rfl) dX3_init_25 (fun H locs g f0 hS2 => ?_)
  replace hS := hS2
  clear hS2
  replace f2 := g.kept f2 (show (s.heap.size + 0) ≠ this from (nt2 lt_this))
  replace f0 : va_at κ.1 vwCl (this, .inr (3, [.ref (s.heap.size + 0), .int 0, .int 0, .int (-1), .int 0, .int 0, .int 0, .int 0])) H := f0
  replace hz := g.1.trans hz
  clear g
  refine lv_aload_n hx hb dX3_init_28 rfl (lv_at hl 0 rfl) ?_
  refine lv_iconst (v := 0) hx hb dX3_init_29 (by decide) ?_
  refine xput (cn := 3) (v := .int 0) (ty := .int) (C := RX3) (T := TX3) (N := 8) hx hb hg inX3 tyX3 tyX3_ok nmX3 hown hK hS xA0 f0 rfl 4 (by decide) (hg _ k126) (fun _ h9 => h9) rfl (by decide +kernel) rfl rfl (Nat.le_of_ble_eq_true rfl) dX3_init_30 (fun H locs g f0 hS2 => ?_)
  replace hS := hS2
  clear hS2
  replace f2 := g.kept f2 (show (s.heap.size + 0) ≠ this from (nt2 lt_this))
  replace f0 : va_at κ.1 vwCl (this, .inr (3, [.ref (s.heap.size + 0), .int 0, .int 0, .int (-1), .int 0, .int 0, .int 0, .int 0])) H := f0
  replace hz := g.1.trans hz
  clear g
  refine lv_aload_n hx hb dX3_init_33 rfl (lv_at hl 0 rfl) ?_
  refine lv_iconst (v := 0) hx hb dX3_init_34 (by decide) ?_
  refine xput (cn := 3) (v := .int 0) (ty := .int) (C := RX3) (T := TX3) (N := 8) hx hb hg inX3 tyX3 tyX3_ok nmX3 hown hK hS xA0 f0 rfl 5 (by decide) (hg _ k127) (fun _ h9 => h9) rfl (by decide +kernel) rfl rfl (Nat.le_of_ble_eq_true rfl) dX3_init_35 (fun H locs g f0 hS2 => ?_)
  replace hS := hS2
  clear hS2
  replace f2 := g.kept f2 (show (s.heap.size + 0) ≠ this from (nt2 lt_this))
  replace f0 : va_at κ.1 vwCl (this, .inr (3, [.ref (s.heap.size + 0), .int 0, .int 0, .int (-1), .int 0, .int 0, .int 0, .int 0])) H := f0
  replace hz := g.1.trans hz
  clear g
  refine lv_aload_n hx hb dX3_init_38 rfl (lv_at hl 0 rfl) ?_
  refine lv_iconst (v := 0) hx hb dX3_init_39 (by decide) ?_
  refine xput (cn := 3) (v := .int 0) (ty := .int) (C := RX3) (T := TX3) (N := 8) hx hb hg inX3 tyX3 tyX3_ok nmX3 hown hK hS xA0 f0 rfl 6 (by decide) (hg _ k128) (fun _ h9 => h9) rfl (by decide +kernel) rfl rfl (Nat.le_of_ble_eq_true rfl) dX3_init_40 (fun H locs g f0 hS2 => ?_)
  replace hS := hS2
  clear hS2
  replace f2 := g.kept f2 (show (s.heap.size + 0) ≠ this from (nt2 lt_this))
  replace f0 : va_at κ.1 vwCl (this, .inr (3, [.ref (s.heap.size + 0), .int 0, .int 0, .int (-1), .int 0, .int 0, .int 0, .int 0])) H := f0
  replace hz := g.1.trans hz
  clear g
  refine lv_aload_n hx hb dX3_init_43 rfl (lv_at hl 0 rfl) ?_
  refine lv_iconst (v := 0) hx hb dX3_init_44 (by decide) ?_
  refine xput (cn := 3) (v := .int 0) (ty := .int) (C := RX3) (T := TX3) (N := 8) hx hb hg inX3 tyX3 tyX3_ok nmX3 hown hK hS xA0 f0 rfl 7 (by decide) (hg _ k129) (fun _ h9 => h9) rfl (by decide +kernel) rfl rfl (Nat.le_of_ble_eq_true rfl) dX3_init_45 (fun H locs g f0 hS2 => ?_)
  replace hS := hS2
  clear hS2
  replace f2 := g.kept f2 (show (s.heap.size + 0) ≠ this from (nt2 lt_this))
  replace f0 : va_at κ.1 vwCl (this, .inr (3, [.ref (s.heap.size + 0), .int 0, .int 0, .int (-1), .int 0, .int 0, .int 0, .int 0])) H := f0
  replace hz := g.1.trans hz
  clear g
  exact xret (Post := (fun sz su H => H.size = sz + 1 ∧ va_at κ.1 vwCl (this, .inr (3, [.ref (sz + 0), .int 0, .int 0, .int (-1), .int 0, .int 0, .int 0, .int 0])) H ∧ va_at κ.1 vwCl ((sz + 0), .inl (kA κ 2, 700, .inl (fun _ => 0))) H)) hx hb hr hlocks hS ⟨by omega, f0, f2⟩ (Nat.le_of_ble_eq_true rfl) (Nat.le_of_ble_eq_true rfl) dX3_init_48
set_option maxHeartbeats 4000000 in
set_option maxRecDepth 100000 in
theorem W4_become1 (l : Launch) (κ : Kt) (this : Nat) (h : Nat) (d1 : this ≠ h) : XC l yX4_become cX4_become 5 0 0 0 0 [.ref this, .long 1] κ [this, h] (fun H => va_at κ.1 vwCl (this, .inr (4, [.ref h, .int 0, .int 0])) H ∧ va_at κ.1 vwCl (h, .inl (kA κ 0, 2, .inl (fun _ => 0))) H) (fun sz su H => H.size = sz + 0 ∧ va_at κ.1 vwCl (this, .inr (4, [.ref h, .int 1, .int 0])) H ∧ va_at κ.1 vwCl (h, .inl (kA κ 0, 2, .inl (upd ((upd ((fun _ => 0)) 0 1)) 1 0))) H) := by
  refine XC.of (by decide +kernel) (Nat.le_of_ble_eq_true rfl) ?_
  intro p e s m below meth c ls hcs hpre hK hX hS hl
  obtain ⟨hx, hb, hr, hml, hown, hg, hlocks, hin⟩ := hcs
  have hown : s.vm.findClass RX4 = some m.cls := hown
  have hl : lv_has ls 5 [(0, .ref this), (1, .long 1)] := hl
  obtain ⟨f0, f1⟩ := hpre
  have lt_this : this < s.heap.size := f0.lt
  have lt_h : h < s.heap.size := f1.lt
  have hz : s.heap.size = s.heap.size + 0 := rfl
  refine lv_aload_n hx hb dX4_become_0 rfl (lv_at hl 0 rfl) ?_
  refine lv_lload_n hx hb dX4_become_1 rfl (lv_at hl 1 rfl) ?_
  refine lv_lconst (v := 0) hx hb dX4_become_2 (by decide) ?_
  refine W.lcmp hx hb dX4_become_3 ?_
  refine ti (1) (by decide) ?_
  refine lv_if_ge (tgt := 11) hx hb dX4_become_4 (by decide) (fun _ => ?_) (fun c9 => absurd (by decide) c9)
  refine lv_iconst (v := 0) hx hb dX4_become_11 (by decide) ?_
  refine xput (cn := 4) (v := .int 0) (ty := .boolean) (C := RX4) (T := TX4) (N := 3) hx hb hg inX4 tyX4 tyX4_ok nmX4 hown hK hS (Or.inl (by simp)) f0 rfl 2 (by decide) (hg _ k211) (fun _ h9 => h9) rfl (by decide +kernel) rfl rfl (Nat.le_of_ble_eq_true rfl) dX4_become_12 (fun H locs g f0 hS2 => ?_)
  replace hS := hS2
  clear hS2
  replace f1 := g.kept f1 (show h ≠ this from (by omega))
  replace f0 : va_at κ.1 vwCl (this, .inr (4, [.ref h, .int 0, .int 0])) H := f0
  replace hz := g.1.trans hz
  clear g
  refine lv_aload_n hx hb dX4_become_15 rfl (lv_at hl 0 rfl) ?_
  refine va_get (D := κ.1) (ci := 4) (v := .int 0) (C := RX4) (T := TX4) (N := 3) hx hb hg inX4 hown hK f0.one 0 rfl rfl 2 (by decide) (hg _ k211) (fun _ h9 => h9) rfl dX4_become_16 ?_
  refine lv_if_eq (tgt := 27) hx hb dX4_become_19 (by decide) (fun _ => ?_) (fun c9 => absurd (by decide) c9)
  refine lv_lload_n hx hb dX4_become_27 rfl (lv_at hl 1 rfl) ?_
  refine lv_lstore_n (lv' := [(3, .long 1), (0, .ref this), (1, .long 1)]) hx hb dX4_become_28 rfl hl (by decide) rfl (fun ls hl => ?_)
  refine lv_aload_n hx hb dX4_become_29 rfl (lv_at hl 1 rfl) ?_
  refine va_get (D := κ.1) (ci := 4) (v := .ref h) (C := RX4) (T := TX4) (N := 3) hx hb hg inX4 hown hK f0.one 0 rfl rfl 0 (by decide) (hg _ k209) (fun _ h9 => h9) rfl dX4_become_30 ?_
  refine lv_iconst (v := 0) hx hb dX4_become_33 (by decide) ?_
  refine lv_lload_n hx hb dX4_become_34 rfl (lv_at hl 0 rfl) ?_
  refine lv_l2i (v := 1) hx hb dX4_become_35 (by decide) ?_
  refine xiast hx hb hK hS (Or.inl (by simp)) f1 (vin (by decide)) dX4_become_36 (fun H locs g f1 hS2 => ?_)
  replace hS := hS2
  clear hS2
  replace f0 := g.kept f0 (show this ≠ h from (by omega))
  replace hz := g.1.trans hz
  clear g
  replace f1 : va_at κ.1 vwCl (h, .inl (kA κ 0, 2, .inl (upd ((fun _ => 0)) 0 1))) H := f1
  refine lv_aload_n hx hb dX4_become_37 rfl (lv_at hl 1 rfl) ?_
  refine va_get (D := κ.1) (ci := 4) (v := .ref h) (C := RX4) (T := TX4) (N := 3) hx hb hg inX4 hown hK f0.one 0 rfl rfl 0 (by decide) (hg _ k209) (fun _ h9 => h9) rfl dX4_become_38 ?_
  refine lv_iconst (v := 1) hx hb dX4_become_41 (by decide) ?_
  refine lv_lload_n hx hb dX4_become_42 rfl (lv_at hl 0 rfl) ?_
  refine lv_bipush (v := 32) hx hb dX4_become_43 (by decide) ?_
  refine lv_lushr (v := 0) hx hb dX4_become_45 (by decide) ?_
  refine lv_l2i (v := 0) hx hb dX4_become_46 (by decide) ?_
  refine xiast hx hb hK hS (Or.inl (by simp)) f1 (vin (by decide)) dX4_become_47 (fun H locs g f1 hS2 => ?_)
  replace hS := hS2
  clear hS2
  replace f0 := g.kept f0 (show this ≠ h from (by omega))
  replace hz := g.1.trans hz
  clear g
  replace f1 : va_at κ.1 vwCl (h, .inl (kA κ 0, 2, .inl (upd ((upd ((fun _ => 0)) 0 1)) 1 0))) H := f1
  refine lv_aload_n hx hb dX4_become_48 rfl (lv_at hl 1 rfl) ?_
  refine lv_aload_n hx hb dX4_become_49 rfl (lv_at hl 1 rfl) ?_
  refine va_get (D := κ.1) (ci := 4) (v := .ref h) (C := RX4) (T := TX4) (N := 3) hx hb hg inX4 hown hK f0.one 0 rfl rfl 0 (by decide) (hg _ k209) (fun _ h9 => h9) rfl dX4_become_50 ?_
  refine lv_iconst (v := 1) hx hb dX4_become_53 (by decide) ?_
  refine va_iald hx hb hK f1.one 0 0 rfl rfl (vin (by decide)) dX4_become_54 ?_
  refine ti (0) (by rfl) ?_
  refine lv_if_eq (tgt := 62) hx hb dX4_become_55 (by decide) (fun _ => ?_) (fun c9 => absurd (by decide) c9)
  refine lv_aload_n hx hb dX4_become_62 rfl (lv_at hl 1 rfl) ?_
  refine va_get (D := κ.1) (ci := 4) (v := .ref h) (C := RX4) (T := TX4) (N := 3) hx hb hg inX4 hown hK f0.one 0 rfl rfl 0 (by decide) (hg _ k209) (fun _ h9 => h9) rfl dX4_become_63 ?_
  refine lv_iconst (v := 0) hx hb dX4_become_66 (by decide) ?_
  refine va_iald hx hb hK f1.one 0 0 rfl rfl (vin (by decide)) dX4_become_67 ?_
  refine ti (1) (by rfl) ?_
  refine lv_if_eq (tgt := 75) hx hb dX4_become_68 (by decide) (fun c9 => absurd c9 (by decide)) (fun _ => ?_)
  refine lv_iconst (v := 1) hx hb dX4_become_71 (by decide) ?_
  refine lv_goto (tgt := 76) hx hb dX4_become_72 (by decide) ?_
  refine xput (cn := 4) (v := .int 1) (ty := .int) (C := RX4) (T := TX4) (N := 3) hx hb hg inX4 tyX4 tyX4_ok nmX4 hown hK hS (Or.inl (by simp)) f0 rfl 1 (by decide) (hg _ k210) (fun _ h9 => h9) rfl (by decide +kernel) rfl rfl (Nat.le_of_ble_eq_true rfl) dX4_become_76 (fun H locs g f0 hS2 => ?_)
  replace hS := hS2
  clear hS2
  replace f1 := g.kept f1 (show h ≠ this from (by omega))
  replace f0 : va_at κ.1 vwCl (this, .inr (4, [.ref h, .int 1, .int 0])) H := f0
  replace hz := g.1.trans hz
  clear g
  exact xret (Post := (fun sz su H => H.size = sz + 0 ∧ va_at κ.1 vwCl (this, .inr (4, [.ref h, .int 1, .int 0])) H ∧ va_at κ.1 vwCl (h, .inl (kA κ 0, 2, .inl (upd ((upd ((fun _ => 0)) 0 1)) 1 0))) H)) hx hb hr hlocks hS ⟨by omega, f0, f1⟩ (Nat.le_of_ble_eq_true rfl) (Nat.le_of_ble_eq_true rfl) dX4_become_79
