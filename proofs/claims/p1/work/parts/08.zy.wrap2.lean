set_option maxHeartbeats 4000000 in
set_option maxRecDepth 100000 in
theorem cX4_become_883 (l : Launch) (D : va_G) (h0 : Nat) (h1 : Nat) (v0 : Value) (v1 : Value) (f0 : Nat → Int32) (a0 : ClassId)   : CT l yX4_become cX4_become 5 none { frames := 0, cells := 0, slots := 0, locals := 0 } [.ref h0, .long 0] D [(h0, .inr (4, [.ref h1, v0, v1])), (h1, .inl (a0, 2, .inl f0))] [(a0, .int)] XN [(h0, .inr (4, [.ref h1, v0, v1])), (h1, .inl (a0, 2, .inl f0))] (ev (fun _ : Unit => True) (fun _ => [(h0, .inr (4, [.ref h1, .int 0, .int 0])), (h1, .inl (a0, 2, .inl (upd (upd f0 0 0) 1 0)))]) (fun u => [(a0, .int)]) D) 0 0 := by
  refine CT.ofW (by decide +kernel) (Nat.le_of_ble_eq_true rfl) ?_
  intro p e s m below meth c A ls hcs hP hK hD hX hA hS hl
  obtain ⟨hx, hb, hr, hml, hown, hg, hlocks, hin⟩ := hcs
  have hown : s.vm.findClass RX4 = some m.cls := hown
  have hl : lv_has ls 5 [(0, .ref h0), (1, .long 0)] := hl
  refine lv_aload_n hx hb dX4_become_0 rfl (lv_at hl 0 rfl) ?_
  refine lv_lload_n hx hb dX4_become_1 rfl (lv_at hl 1 rfl) ?_
  refine lv_lconst (v := 0) hx hb dX4_become_2 (by decide) ?_
  refine W.lcmp hx hb dX4_become_3 ?_
  refine ti (0) (by decide) ?_
  refine lv_if_ge (tgt := 11) hx hb dX4_become_4 (by decide) (fun _ => ?_) (fun c9 => absurd (by decide) c9)
  refine lv_iconst (v := 0) hx hb dX4_become_11 (by decide) ?_
  refine va_put (D := D) (ci := 4) (v := .int 0) (ty := .boolean) (C := RX4) (T := TX4) (N := 3) hx hb hg inX4 tyX4 tyX4_ok nmX4 hown hK hP hD hS 0 rfl rfl 2 (by decide) (hg _ k211) (fun _ h9 => h9) rfl (by decide +kernel) rfl rfl (Nat.le_of_ble_eq_true rfl) dX4_become_12 (fun H locs hP hD hS => ?_)
  have hP : va_P D vwCl [(h0, .inr (4, [.ref h1, v0, .int 0])), (h1, .inl (a0, 2, .inl f0))] H := hP
  have hD : va_D A [(h0, .inr (4, [.ref h1, v0, .int 0])), (h1, .inl (a0, 2, .inl f0))] := hD
  refine lv_aload_n hx hb dX4_become_15 rfl (lv_at hl 0 rfl) ?_
  refine va_get (D := D) (ci := 4) (v := .int 0) (C := RX4) (T := TX4) (N := 3) hx hb hg inX4 hown hK hP 0 rfl rfl 2 (by decide) (hg _ k211) (fun _ h9 => h9) rfl dX4_become_16 ?_
  refine lv_if_eq (tgt := 27) hx hb dX4_become_19 (by decide) (fun _ => ?_) (fun c9 => absurd (by decide) c9)
  refine lv_lload_n hx hb dX4_become_27 rfl (lv_at hl 1 rfl) ?_
  refine lv_lstore_n (lv' := [(3, .long 0), (0, .ref h0), (1, .long 0)]) hx hb dX4_become_28 rfl hl (by decide) rfl (fun ls hl => ?_)
  refine lv_aload_n hx hb dX4_become_29 rfl (lv_at hl 1 rfl) ?_
  refine va_get (D := D) (ci := 4) (v := .ref h1) (C := RX4) (T := TX4) (N := 3) hx hb hg inX4 hown hK hP 0 rfl rfl 0 (by decide) (hg _ k209) (fun _ h9 => h9) rfl dX4_become_30 ?_
  refine lv_iconst (v := 0) hx hb dX4_become_33 (by decide) ?_
  refine lv_lload_n hx hb dX4_become_34 rfl (lv_at hl 0 rfl) ?_
  refine lv_l2i (v := 0) hx hb dX4_become_35 (by decide) ?_
  refine astI hx hb hK hP hD hS 1 0 rfl rfl 0 (by decide) (vin (by decide)) dX4_become_36 (fun H locs hP hD hS => ?_)
  have hP : va_P D vwCl [(h0, .inr (4, [.ref h1, v0, .int 0])), (h1, .inl (a0, 2, .inl (upd f0 0 0)))] H := hP
  have hD : va_D A [(h0, .inr (4, [.ref h1, v0, .int 0])), (h1, .inl (a0, 2, .inl (upd f0 0 0)))] := hD
  refine lv_aload_n hx hb dX4_become_37 rfl (lv_at hl 1 rfl) ?_
  refine va_get (D := D) (ci := 4) (v := .ref h1) (C := RX4) (T := TX4) (N := 3) hx hb hg inX4 hown hK hP 0 rfl rfl 0 (by decide) (hg _ k209) (fun _ h9 => h9) rfl dX4_become_38 ?_
  refine lv_iconst (v := 1) hx hb dX4_become_41 (by decide) ?_
  refine lv_lload_n hx hb dX4_become_42 rfl (lv_at hl 0 rfl) ?_
  refine lv_bipush (v := 32) hx hb dX4_become_43 (by decide) ?_
  refine lv_lushr (v := 0) hx hb dX4_become_45 (by decide) ?_
  refine lv_l2i (v := 0) hx hb dX4_become_46 (by decide) ?_
  refine astI hx hb hK hP hD hS 1 0 rfl rfl 1 (by decide) (vin (by decide)) dX4_become_47 (fun H locs hP hD hS => ?_)
  have hP : va_P D vwCl [(h0, .inr (4, [.ref h1, v0, .int 0])), (h1, .inl (a0, 2, .inl (upd (upd f0 0 0) 1 0)))] H := hP
  have hD : va_D A [(h0, .inr (4, [.ref h1, v0, .int 0])), (h1, .inl (a0, 2, .inl (upd (upd f0 0 0) 1 0)))] := hD
  refine lv_aload_n hx hb dX4_become_48 rfl (lv_at hl 1 rfl) ?_
  refine lv_aload_n hx hb dX4_become_49 rfl (lv_at hl 1 rfl) ?_
  refine va_get (D := D) (ci := 4) (v := .ref h1) (C := RX4) (T := TX4) (N := 3) hx hb hg inX4 hown hK hP 0 rfl rfl 0 (by decide) (hg _ k209) (fun _ h9 => h9) rfl dX4_become_50 ?_
  refine lv_iconst (v := 1) hx hb dX4_become_53 (by decide) ?_
  refine aldI hx hb hK hP 1 0 rfl rfl 1 (by decide) (vin (by decide)) (v := 0) rfl dX4_become_54 ?_
  refine lv_if_eq (tgt := 62) hx hb dX4_become_55 (by decide) (fun _ => ?_) (fun c9 => absurd (by decide) c9)
  refine lv_aload_n hx hb dX4_become_62 rfl (lv_at hl 1 rfl) ?_
  refine va_get (D := D) (ci := 4) (v := .ref h1) (C := RX4) (T := TX4) (N := 3) hx hb hg inX4 hown hK hP 0 rfl rfl 0 (by decide) (hg _ k209) (fun _ h9 => h9) rfl dX4_become_63 ?_
  refine lv_iconst (v := 0) hx hb dX4_become_66 (by decide) ?_
  refine aldI hx hb hK hP 1 0 rfl rfl 0 (by decide) (vin (by decide)) (v := 0) rfl dX4_become_67 ?_
  refine lv_if_eq (tgt := 75) hx hb dX4_become_68 (by decide) (fun _ => ?_) (fun c9 => absurd (by decide) c9)
  refine lv_iconst (v := 0) hx hb dX4_become_75 (by decide) ?_
  refine va_put (D := D) (ci := 4) (v := .int 0) (ty := .int) (C := RX4) (T := TX4) (N := 3) hx hb hg inX4 tyX4 tyX4_ok nmX4 hown hK hP hD hS 0 rfl rfl 1 (by decide) (hg _ k210) (fun _ h9 => h9) rfl (by decide +kernel) rfl rfl (Nat.le_of_ble_eq_true rfl) dX4_become_76 (fun H locs hP hD hS => ?_)
  have hP : va_P D vwCl [(h0, .inr (4, [.ref h1, .int 0, .int 0])), (h1, .inl (a0, 2, .inl (upd (upd f0 0 0) 1 0)))] H := hP
  have hD : va_D A [(h0, .inr (4, [.ref h1, .int 0, .int 0])), (h1, .inl (a0, 2, .inl (upd (upd f0 0 0) 1 0)))] := hD
  exact fv hx hb hr hlocks hP hD hK hS (()) trivial [0, 1] [0] rfl (by decide) rfl (Nat.le_of_ble_eq_true rfl) (Nat.le_of_ble_eq_true rfl) dX4_become_79
set_option maxHeartbeats 4000000 in
set_option maxRecDepth 100000 in
theorem cX1_isPresent_884 (l : Launch) (D : va_G) (h0 : Nat) (h1 : Nat) (v0 : Value) (v1 : Value) (v2 : Value) (v3 : Value) (v4 : Value) (v5 : Value) (v6 : Value) (v7 : Value) (v8 : Value) (v9 : Value) (v10 : Value) (v11 : Value) (f0 : Nat → Int32) (a0 : ClassId) (ef0_0 : f0 0 = (-1))  : CT l yX1_isPresent cX1_isPresent 2 (some .boolean) { frames := 0, cells := 0, slots := 0, locals := 0 } [.ref h0, .int 0] D [(h0, .inr (1, [v0, v1, v2, .ref h1, v3, v4, v5, v6, v7, v8, v9, v10, v11])), (h1, .inl (a0, 48, .inl f0))] [(a0, .int)] XN [] (ei (fun _ : Unit => True) (fun _ => 1) (fun _ => []) (fun _ => []) D) 0 0 := by
  refine CT.ofR (by decide +kernel) (Nat.le_of_ble_eq_true rfl) ?_
  intro p e s m below meth c A ls hcs hP hK hD hX hA hS hl
  obtain ⟨hx, hb, hr, hml, hown, hg, hlocks, hin⟩ := hcs
  have hown : s.vm.findClass RX1 = some m.cls := hown
  have hl : lv_has ls 2 [(0, .ref h0), (1, .int 0)] := hl
  refine lv_aload_n hx hb dX1_isPresent_0 rfl (lv_at hl 0 rfl) ?_
  refine va_get (D := D) (ci := 1) (v := .ref h1) (C := RX1) (T := TX1) (N := 13) hx hb hg inX1 hown hK hP 0 rfl rfl 3 (by decide) (hg _ k283) (fun _ h9 => h9) rfl dX1_isPresent_1 ?_
  refine lv_iload_n hx hb dX1_isPresent_4 rfl (lv_at hl 1 rfl) ?_
  refine aldI hx hb hK hP 1 0 rfl rfl 0 (by decide) (vin (by decide)) (v := (-1)) ef0_0 dX1_isPresent_5 ?_
  refine lv_iconst (v := (-1)) hx hb dX1_isPresent_6 (by decide) ?_
  refine lv_icmp_ne (tgt := 14) hx hb dX1_isPresent_7 (by decide) (fun c9 => absurd (by decide) c9) (fun _ => ?_)
  refine lv_iconst (v := 1) hx hb dX1_isPresent_10 (by decide) ?_
  refine lv_goto (tgt := 15) hx hb dX1_isPresent_11 (by decide) ?_
  exact fz0 hx hb hr rfl hlocks hK hS (Nat.le_of_ble_eq_true rfl) (Nat.le_of_ble_eq_true rfl) dX1_isPresent_15
set_option maxHeartbeats 4000000 in
set_option maxRecDepth 100000 in
theorem cX4_lowest_886 (l : Launch) (D : va_G) (h0 : Nat) (h1 : Nat) (v0 : Value) (f0 : Nat → Int32) (a0 : ClassId) (ef0_0 : f0 0 = 0)  : CT l yX4_lowest cX4_lowest 1 (some .long) { frames := 0, cells := 0, slots := 0, locals := 0 } [.ref h0] D [(h0, .inr (4, [.ref h1, v0, .int 0])), (h1, .inl (a0, 2, .inl f0))] [(a0, .int)] XN [] (el (fun _ : Unit => True) (fun _ => 0) (fun _ => []) (fun _ => []) D) 0 0 := by
  refine CT.ofR (by decide +kernel) (Nat.le_of_ble_eq_true rfl) ?_
  intro p e s m below meth c A ls hcs hP hK hD hX hA hS hl
  obtain ⟨hx, hb, hr, hml, hown, hg, hlocks, hin⟩ := hcs
  have hown : s.vm.findClass RX4 = some m.cls := hown
  have hl : lv_has ls 1 [(0, .ref h0)] := hl
  refine lv_aload_n hx hb dX4_lowest_0 rfl (lv_at hl 0 rfl) ?_
  refine va_get (D := D) (ci := 4) (v := .int 0) (C := RX4) (T := TX4) (N := 3) hx hb hg inX4 hown hK hP 0 rfl rfl 2 (by decide) (hg _ k211) (fun _ h9 => h9) rfl dX4_lowest_1 ?_
  refine lv_if_eq (tgt := 22) hx hb dX4_lowest_4 (by decide) (fun _ => ?_) (fun c9 => absurd (by decide) c9)
  refine lv_aload_n hx hb dX4_lowest_22 rfl (lv_at hl 0 rfl) ?_
  refine va_get (D := D) (ci := 4) (v := .ref h1) (C := RX4) (T := TX4) (N := 3) hx hb hg inX4 hown hK hP 0 rfl rfl 0 (by decide) (hg _ k209) (fun _ h9 => h9) rfl dX4_lowest_23 ?_
  refine lv_iconst (v := 0) hx hb dX4_lowest_26 (by decide) ?_
  refine aldI hx hb hK hP 1 0 rfl rfl 0 (by decide) (vin (by decide)) (v := 0) ef0_0 dX4_lowest_27 ?_
  refine lv_i2l (v := 0) hx hb dX4_lowest_28 (by decide) ?_
  refine lv_ldc2 hx hb hown (hg _ k348) dX4_lowest_29 ?_
  refine lv_land hx hb dX4_lowest_32 ?_
  refine tl (0) (by decide) ?_
  exact fl0 hx hb hr hlocks hK hS (Nat.le_of_ble_eq_true rfl) (Nat.le_of_ble_eq_true rfl) dX4_lowest_33
set_option maxHeartbeats 4000000 in
set_option maxRecDepth 100000 in
theorem cX4_add_885 (l : Launch) (D : va_G) (h0 : Nat) (h1 : Nat) (h2 : Nat) (h3 : Nat) (f0 : Nat → Int32) (f1 : Nat → Int32) (a0 : ClassId) (a1 : ClassId) (ef0_0 : f0 0 = 0) (ef1_0 : f1 0 = 0)  : CT l yX4_add cX4_add 7 none { frames := 1, cells := 0, slots := 0, locals := 24 } [.ref h0, .ref h1, .long 1] D [(h0, .inr (4, [.ref h2, .int 0, .int 0])), (h1, .inr (4, [.ref h3, .int 0, .int 0])), (h2, .inl (a0, 2, .inl f0)), (h3, .inl (a1, 2, .inl f1))] [(a0, .int), (a1, .int)] XN [(h0, .inr (4, [.ref h2, .int 0, .int 0])), (h1, .inr (4, [.ref h3, .int 0, .int 0])), (h2, .inl (a0, 2, .inl f0)), (h3, .inl (a1, 2, .inl f1))] (ev (fun _ : Unit => True) (fun _ => [(h0, .inr (4, [.ref h2, .int 0, .int 0])), (h1, .inr (4, [.ref h3, .int 0, .int 0])), (h2, .inl (a0, 2, .inl (upd (upd f0 0 0) 1 0))), (h3, .inl (a1, 2, .inl f1))]) (fun u => [(a0, .int), (a1, .int)]) D) 0 0 := by
  refine CT.ofW (by decide +kernel) (Nat.le_of_ble_eq_true rfl) ?_
  intro p e s m below meth c A ls hcs hP hK hD hX hA hS hl
  obtain ⟨hx, hb, hr, hml, hown, hg, hlocks, hin⟩ := hcs
  have hown : s.vm.findClass RX4 = some m.cls := hown
  have hl : lv_has ls 7 [(0, .ref h0), (1, .ref h1), (2, .long 1)] := hl
  refine lv_aload_n hx hb dX4_add_0 rfl (lv_at hl 0 rfl) ?_
  refine va_get (D := D) (ci := 4) (v := .int 0) (C := RX4) (T := TX4) (N := 3) hx hb hg inX4 hown hK hP 0 rfl rfl 1 (by decide) (hg _ k210) (fun _ h9 => h9) rfl dX4_add_1 ?_
  refine lv_iconst (v := 1) hx hb dX4_add_4 (by decide) ?_
  refine lv_icmp_gt (tgt := 32) hx hb dX4_add_5 (by decide) (fun c9 => absurd c9 (by decide)) (fun _ => ?_)
  refine lv_aload_n hx hb dX4_add_8 rfl (lv_at hl 1 rfl) ?_
  refine va_get (D := D) (ci := 4) (v := .int 0) (C := RX4) (T := TX4) (N := 3) hx hb hg inX4 hown hK hP 1 rfl rfl 1 (by decide) (hg _ k210) (fun _ h9 => h9) rfl dX4_add_9 ?_
  refine lv_iconst (v := 1) hx hb dX4_add_12 (by decide) ?_
  refine lv_icmp_gt (tgt := 32) hx hb dX4_add_13 (by decide) (fun c9 => absurd c9 (by decide)) (fun _ => ?_)
  refine lv_aload_n hx hb dX4_add_16 rfl (lv_at hl 0 rfl) ?_
  refine lv_aload_n hx hb dX4_add_17 rfl (lv_at hl 0 rfl) ?_
  refine cVl (n := 0) (As := []) (rest := [.ref h0]) (wr := [(h0, .inr (4, [.ref h2, .int 0, .int 0])), (h1, .inr (4, [.ref h3, .int 0, .int 0])), (h2, .inl (a0, 2, .inl f0)), (h3, .inl (a1, 2, .inl f1))]) (tr := [(a0, .int), (a1, .int)]) hx hb hml hown hg okN (cX4_lowest_886 l D h0 h2 (.int 0) f0 a0 ef0_0) (mwV k344 k346 k0 k88 k347) ⟨rfl, by decide, by decide, by decide +kernel⟩ ⟨rfl, rfl, (Nat.le_of_ble_eq_true rfl), (Nat.le_of_ble_eq_true rfl)⟩ hP hD hK hS xn [0, 2] [] [0, 1, 2, 3] [0] [0, 1] rfl (by decide) rfl rfl (by decide) (by decide) rfl rfl (aNil hA hS) (aNil hA hS) 0 rfl rfl rfl hl.1 rfl (Nat.le_of_ble_eq_true rfl) dX4_add_18 ⟨(Nat.le_of_ble_eq_true rfl), (Nat.le_of_ble_eq_true rfl)⟩ (fun u H locs hφ hP hD hK hS hk => ?_)
  have hP : va_P D vwCl [(h0, .inr (4, [.ref h2, .int 0, .int 0])), (h1, .inr (4, [.ref h3, .int 0, .int 0])), (h2, .inl (a0, 2, .inl f0)), (h3, .inl (a1, 2, .inl f1))] H := hP
  have hD : va_D A [(h0, .inr (4, [.ref h2, .int 0, .int 0])), (h1, .inr (4, [.ref h3, .int 0, .int 0])), (h2, .inl (a0, 2, .inl f0)), (h3, .inl (a1, 2, .inl f1))] := hD
  have hK : va_K D vwCl [(a0, .int), (a1, .int)] s := hK
  refine W.widen (k := 0) (n := 0) (Nat.le_of_ble_eq_true rfl) (Nat.le_of_ble_eq_true rfl) ?_
  refine lv_aload_n hx hb dX4_add_21 rfl (lv_at hl 1 rfl) ?_
  refine cVl (n := 0) (As := []) (rest := [.long 0, .ref h0]) (wr := [(h0, .inr (4, [.ref h2, .int 0, .int 0])), (h1, .inr (4, [.ref h3, .int 0, .int 0])), (h2, .inl (a0, 2, .inl f0)), (h3, .inl (a1, 2, .inl f1))]) (tr := [(a0, .int), (a1, .int)]) hx hb hml hown hg okN (cX4_lowest_886 l D h1 h3 (.int 0) f1 a1 ef1_0) (mwV k344 k346 k0 k88 k347) ⟨rfl, by decide, by decide, by decide +kernel⟩ ⟨rfl, rfl, (Nat.le_of_ble_eq_true rfl), (Nat.le_of_ble_eq_true rfl)⟩ hP hD hK hS xn [1, 3] [] [0, 1, 2, 3] [1] [0, 1] rfl (by decide) rfl rfl (by decide) (by decide) rfl rfl (aNil hA hS) (aNil hA hS) 1 rfl rfl rfl hl.1 rfl (Nat.le_of_ble_eq_true rfl) dX4_add_22 ⟨(Nat.le_of_ble_eq_true rfl), (Nat.le_of_ble_eq_true rfl)⟩ (fun u H locs hφ hP hD hK hS hk => ?_)
  have hP : va_P D vwCl [(h0, .inr (4, [.ref h2, .int 0, .int 0])), (h1, .inr (4, [.ref h3, .int 0, .int 0])), (h2, .inl (a0, 2, .inl f0)), (h3, .inl (a1, 2, .inl f1))] H := hP
  have hD : va_D A [(h0, .inr (4, [.ref h2, .int 0, .int 0])), (h1, .inr (4, [.ref h3, .int 0, .int 0])), (h2, .inl (a0, 2, .inl f0)), (h3, .inl (a1, 2, .inl f1))] := hD
  have hK : va_K D vwCl [(a0, .int), (a1, .int)] s := hK
  refine W.widen (k := 0) (n := 0) (Nat.le_of_ble_eq_true rfl) (Nat.le_of_ble_eq_true rfl) ?_
  refine lv_lload_n hx hb dX4_add_25 rfl (lv_at hl 2 rfl) ?_
  refine lv_lmul hx hb dX4_add_26 ?_
  refine tl (0) (by decide) ?_
  refine lv_ladd hx hb dX4_add_27 ?_
  refine tl (0) (by decide) ?_
  refine cVv (n := 1) (As := [.long 0]) (rest := []) (wr := [(h1, .inr (4, [.ref h3, .int 0, .int 0])), (h3, .inl (a1, 2, .inl f1))]) (tr := [(a1, .int)]) hx hb hml hown hg okN (cX4_become_883 l D h0 h2 (.int 0) (.int 0) f0 a0) (mwV k349 k275 k276 k88 k277) ⟨rfl, by decide, by decide, by decide +kernel⟩ ⟨rfl, rfl, (Nat.le_of_ble_eq_true rfl), (Nat.le_of_ble_eq_true rfl)⟩ hP hD hK hS xn [0, 2] [0, 2] [1, 3] [0] [1] rfl (by decide) rfl rfl (by decide) (by decide) rfl rfl (va_free hD hS hA [0, 2] rfl) (va_free hD hS hA [0, 2] rfl) 0 rfl rfl rfl hl.1 rfl (Nat.le_of_ble_eq_true rfl) dX4_add_28 ⟨(Nat.le_of_ble_eq_true rfl), (Nat.le_of_ble_eq_true rfl)⟩ (fun u H locs hφ hP hD hK hS hk => ?_)
  have hP : va_P D vwCl [(h1, .inr (4, [.ref h3, .int 0, .int 0])), (h3, .inl (a1, 2, .inl f1)), (h0, .inr (4, [.ref h2, .int 0, .int 0])), (h2, .inl (a0, 2, .inl (upd (upd f0 0 0) 1 0)))] H := hP
  have hD : va_D A [(h1, .inr (4, [.ref h3, .int 0, .int 0])), (h3, .inl (a1, 2, .inl f1)), (h0, .inr (4, [.ref h2, .int 0, .int 0])), (h2, .inl (a0, 2, .inl (upd (upd f0 0 0) 1 0)))] := hD
  have hK : va_K D vwCl [(a1, .int), (a0, .int)] s := hK
  refine W.widen (k := 0) (n := 0) (Nat.le_of_ble_eq_true rfl) (Nat.le_of_ble_eq_true rfl) ?_
  exact fv hx hb hr hlocks hP hD hK hS (()) trivial [2, 0, 3, 1] [1, 0] rfl (by decide) rfl (Nat.le_of_ble_eq_true rfl) (Nat.le_of_ble_eq_true rfl) dX4_add_31
set_option maxHeartbeats 4000000 in
set_option maxRecDepth 100000 in
theorem cX1_isPresent_887 (l : Launch) (D : va_G) (h0 : Nat) (h1 : Nat) (v0 : Value) (v1 : Value) (v2 : Value) (v3 : Value) (v4 : Value) (v5 : Value) (v6 : Value) (v7 : Value) (v8 : Value) (v9 : Value) (v10 : Value) (v11 : Value) (f0 : Nat → Int32) (a0 : ClassId) (ef0_1 : f0 1 = (-1))  : CT l yX1_isPresent cX1_isPresent 2 (some .boolean) { frames := 0, cells := 0, slots := 0, locals := 0 } [.ref h0, .int 1] D [(h0, .inr (1, [v0, v1, v2, .ref h1, v3, v4, v5, v6, v7, v8, v9, v10, v11])), (h1, .inl (a0, 48, .inl f0))] [(a0, .int)] XN [] (ei (fun _ : Unit => True) (fun _ => 1) (fun _ => []) (fun _ => []) D) 0 0 := by
  refine CT.ofR (by decide +kernel) (Nat.le_of_ble_eq_true rfl) ?_
  intro p e s m below meth c A ls hcs hP hK hD hX hA hS hl
  obtain ⟨hx, hb, hr, hml, hown, hg, hlocks, hin⟩ := hcs
  have hown : s.vm.findClass RX1 = some m.cls := hown
  have hl : lv_has ls 2 [(0, .ref h0), (1, .int 1)] := hl
  refine lv_aload_n hx hb dX1_isPresent_0 rfl (lv_at hl 0 rfl) ?_
  refine va_get (D := D) (ci := 1) (v := .ref h1) (C := RX1) (T := TX1) (N := 13) hx hb hg inX1 hown hK hP 0 rfl rfl 3 (by decide) (hg _ k283) (fun _ h9 => h9) rfl dX1_isPresent_1 ?_
  refine lv_iload_n hx hb dX1_isPresent_4 rfl (lv_at hl 1 rfl) ?_
  refine aldI hx hb hK hP 1 0 rfl rfl 1 (by decide) (vin (by decide)) (v := (-1)) ef0_1 dX1_isPresent_5 ?_
  refine lv_iconst (v := (-1)) hx hb dX1_isPresent_6 (by decide) ?_
  refine lv_icmp_ne (tgt := 14) hx hb dX1_isPresent_7 (by decide) (fun c9 => absurd (by decide) c9) (fun _ => ?_)
  refine lv_iconst (v := 1) hx hb dX1_isPresent_10 (by decide) ?_
  refine lv_goto (tgt := 15) hx hb dX1_isPresent_11 (by decide) ?_
  exact fz0 hx hb hr rfl hlocks hK hS (Nat.le_of_ble_eq_true rfl) (Nat.le_of_ble_eq_true rfl) dX1_isPresent_15
set_option maxHeartbeats 4000000 in
set_option maxRecDepth 100000 in
theorem cX1_valueSum_882 (l : Launch) (D : va_G) (h0 : Nat) (h1 : Nat) (h2 : Nat) (h3 : Nat) (h4 : Nat) (h5 : Nat) (h6 : Nat) (h7 : Nat) (h8 : Nat) (h9 : Nat) (v0 : Value) (v1 : Value) (v2 : Value) (v3 : Value) (v4 : Value) (v5 : Value) (v6 : Value) (v7 : Value) (v8 : Value) (v9 : Value) (v10 : Value) (f0 : Nat → Int32) (v11 : Value) (v12 : Value) (v13 : Value) (v14 : Value) (v15 : Value) (v16 : Value) (f1 : Nat → Int32) (f2 : Nat → Option Nat) (f3 : Nat → Int32) (f4 : Nat → Int32) (a0 : ClassId) (a1 : ClassId) (a2 : ClassId) (a3 : ClassId) (a4 : ClassId) (ef1_0 : f1 0 = (-1)) (ef1_1 : f1 1 = (-1)) (ef2_0 : f2 0 = some h6) (ef2_1 : f2 1 = some h8) (ef3_0 : f3 0 = 0) (ef4_0 : f4 0 = 0)  : CT l yX1_valueSum cX1_valueSum 2 (some (.object "LiftingSignal$Whole")) { frames := 2, cells := 0, slots := 0, locals := 50 } [.ref h0] D [(h0, .inr (1, [.ref h3, .ref h5, v0, .ref h4, v1, v2, v3, v4, v5, v6, v7, v8, .ref h1])), (h1, .inr (4, [.ref h2, v9, v10])), (h2, .inl (a0, 2, .inl f0)), (h3, .inr (0, [v11, v12, .int 2, v13, v14, v15, v16])), (h4, .inl (a1, 48, .inl f1)), (h5, .inl (a2, 48, .inr (.inr (.inr (.inr f2))))), (h6, .inr (4, [.ref h7, .int 0, .int 0])), (h7, .inl (a3, 2, .inl f3)), (h8, .inr (4, [.ref h9, .int 0, .int 0])), (h9, .inl (a4, 2, .inl f4))] [(a0, .int), (a1, .int), (a2, .object "LiftingSignal$Whole"), (a3, .int), (a4, .int)] XN [(h0, .inr (1, [.ref h3, .ref h5, v0, .ref h4, v1, v2, v3, v4, v5, v6, v7, v8, .ref h1])), (h1, .inr (4, [.ref h2, v9, v10])), (h2, .inl (a0, 2, .inl f0)), (h3, .inr (0, [v11, v12, .int 2, v13, v14, v15, v16])), (h4, .inl (a1, 48, .inl f1)), (h5, .inl (a2, 48, .inr (.inr (.inr (.inr f2))))), (h6, .inr (4, [.ref h7, .int 0, .int 0])), (h7, .inl (a3, 2, .inl f3)), (h8, .inr (4, [.ref h9, .int 0, .int 0])), (h9, .inl (a4, 2, .inl f4))] (er (fun _ : Unit => True) (fun u => h1) (fun _ => [(h0, .inr (1, [.ref h3, .ref h5, v0, .ref h4, v1, v2, v3, v4, v5, v6, v7, v8, .ref h1])), (h1, .inr (4, [.ref h2, .int 0, .int 0])), (h2, .inl (a0, 2, .inl (upd (upd (upd (upd (upd (upd f0 0 0) 1 0) 0 0) 1 0) 0 0) 1 0))), (h3, .inr (0, [v11, v12, .int 2, v13, v14, v15, v16])), (h4, .inl (a1, 48, .inl f1)), (h5, .inl (a2, 48, .inr (.inr (.inr (.inr f2))))), (h6, .inr (4, [.ref h7, .int 0, .int 0])), (h7, .inl (a3, 2, .inl f3)), (h8, .inr (4, [.ref h9, .int 0, .int 0])), (h9, .inl (a4, 2, .inl f4))]) (fun u => [(a0, .int), (a1, .int), (a2, .object "LiftingSignal$Whole"), (a3, .int), (a4, .int)]) D) 0 0 := by
  refine CT.ofW (by decide +kernel) (Nat.le_of_ble_eq_true rfl) ?_
  intro p e s m below meth c A ls hcs hP hK hD hX hA hS hl
  obtain ⟨hx, hb, hr, hml, hown, hg, hlocks, hin⟩ := hcs
  have hown : s.vm.findClass RX1 = some m.cls := hown
  have hl : lv_has ls 2 [(0, .ref h0)] := hl
  refine lv_aload_n hx hb dX1_valueSum_0 rfl (lv_at hl 0 rfl) ?_
  refine va_get (D := D) (ci := 1) (v := .ref h1) (C := RX1) (T := TX1) (N := 13) hx hb hg inX1 hown hK hP 0 rfl rfl 12 (by decide) (hg _ k299) (fun _ h9 => h9) rfl dX1_valueSum_1 ?_
  refine lv_lconst (v := 0) hx hb dX1_valueSum_4 (by decide) ?_
  refine cVv (n := 1) (As := [.long 0]) (rest := []) (wr := [(h0, .inr (1, [.ref h3, .ref h5, v0, .ref h4, v1, v2, v3, v4, v5, v6, v7, v8, .ref h1])), (h3, .inr (0, [v11, v12, .int 2, v13, v14, v15, v16])), (h4, .inl (a1, 48, .inl f1)), (h5, .inl (a2, 48, .inr (.inr (.inr (.inr f2))))), (h6, .inr (4, [.ref h7, .int 0, .int 0])), (h7, .inl (a3, 2, .inl f3)), (h8, .inr (4, [.ref h9, .int 0, .int 0])), (h9, .inl (a4, 2, .inl f4))]) (tr := [(a1, .int), (a2, .object "LiftingSignal$Whole"), (a3, .int), (a4, .int)]) hx hb hml hown hg okN (cX4_become_883 l D h1 h2 v9 v10 f0 a0) (mwV k274 k275 k276 k88 k277) ⟨rfl, by decide, by decide, by decide +kernel⟩ ⟨rfl, rfl, (Nat.le_of_ble_eq_true rfl), (Nat.le_of_ble_eq_true rfl)⟩ hP hD hK hS xn [1, 2] [1, 2] [0, 3, 4, 5, 6, 7, 8, 9] [0] [1, 2, 3, 4] rfl (by decide) rfl rfl (by decide) (by decide) rfl rfl (va_free hD hS hA [1, 2] rfl) (va_free hD hS hA [1, 2] rfl) 1 rfl rfl rfl hl.1 rfl (Nat.le_of_ble_eq_true rfl) dX1_valueSum_5 ⟨(Nat.le_of_ble_eq_true rfl), (Nat.le_of_ble_eq_true rfl)⟩ (fun u H locs hφ hP hD hK hS hk => ?_)
  have hP : va_P D vwCl [(h0, .inr (1, [.ref h3, .ref h5, v0, .ref h4, v1, v2, v3, v4, v5, v6, v7, v8, .ref h1])), (h3, .inr (0, [v11, v12, .int 2, v13, v14, v15, v16])), (h4, .inl (a1, 48, .inl f1)), (h5, .inl (a2, 48, .inr (.inr (.inr (.inr f2))))), (h6, .inr (4, [.ref h7, .int 0, .int 0])), (h7, .inl (a3, 2, .inl f3)), (h8, .inr (4, [.ref h9, .int 0, .int 0])), (h9, .inl (a4, 2, .inl f4)), (h1, .inr (4, [.ref h2, .int 0, .int 0])), (h2, .inl (a0, 2, .inl (upd (upd f0 0 0) 1 0)))] H := hP
  have hD : va_D A [(h0, .inr (1, [.ref h3, .ref h5, v0, .ref h4, v1, v2, v3, v4, v5, v6, v7, v8, .ref h1])), (h3, .inr (0, [v11, v12, .int 2, v13, v14, v15, v16])), (h4, .inl (a1, 48, .inl f1)), (h5, .inl (a2, 48, .inr (.inr (.inr (.inr f2))))), (h6, .inr (4, [.ref h7, .int 0, .int 0])), (h7, .inl (a3, 2, .inl f3)), (h8, .inr (4, [.ref h9, .int 0, .int 0])), (h9, .inl (a4, 2, .inl f4)), (h1, .inr (4, [.ref h2, .int 0, .int 0])), (h2, .inl (a0, 2, .inl (upd (upd f0 0 0) 1 0)))] := hD
  have hK : va_K D vwCl [(a1, .int), (a2, .object "LiftingSignal$Whole"), (a3, .int), (a4, .int), (a0, .int)] s := hK
  refine W.widen (k := 0) (n := 0) (Nat.le_of_ble_eq_true rfl) (Nat.le_of_ble_eq_true rfl) ?_
  refine lv_iconst (v := 0) hx hb dX1_valueSum_8 (by decide) ?_
  refine lv_istore_n (lv' := [(1, .int 0), (0, .ref h0)]) hx hb dX1_valueSum_9 rfl hl (by decide) rfl (fun ls hl => ?_)
  refine lv_iload_n hx hb dX1_valueSum_10 rfl (lv_at hl 0 rfl) ?_
  refine lv_aload_n hx hb dX1_valueSum_11 rfl (lv_at hl 1 rfl) ?_
  refine va_get (D := D) (ci := 1) (v := .ref h3) (C := RX1) (T := TX1) (N := 13) hx hb hg inX1 hown hK hP 0 rfl rfl 0 (by decide) (hg _ k278) (fun _ h9 => h9) rfl dX1_valueSum_12 ?_
  refine va_get (D := D) (ci := 0) (v := .int 2) (C := RX0) (T := TX0) (N := 7) hx hb hg inX0 hown hK hP 1 rfl rfl 2 (by decide) (hg _ k162) (fun _ h9 => h9) rfl dX1_valueSum_15 ?_
  refine lv_icmp_ge (tgt := 49) hx hb dX1_valueSum_18 (by decide) (fun c9 => absurd c9 (by decide)) (fun _ => ?_)
  refine lv_aload_n hx hb dX1_valueSum_21 rfl (lv_at hl 1 rfl) ?_
  refine lv_iload_n hx hb dX1_valueSum_22 rfl (lv_at hl 0 rfl) ?_
  refine cVi (n := 1) (As := [.int 0]) (rest := []) (wr := [(h0, .inr (1, [.ref h3, .ref h5, v0, .ref h4, v1, v2, v3, v4, v5, v6, v7, v8, .ref h1])), (h3, .inr (0, [v11, v12, .int 2, v13, v14, v15, v16])), (h4, .inl (a1, 48, .inl f1)), (h5, .inl (a2, 48, .inr (.inr (.inr (.inr f2))))), (h6, .inr (4, [.ref h7, .int 0, .int 0])), (h7, .inl (a3, 2, .inl f3)), (h8, .inr (4, [.ref h9, .int 0, .int 0])), (h9, .inl (a4, 2, .inl f4)), (h1, .inr (4, [.ref h2, .int 0, .int 0])), (h2, .inl (a0, 2, .inl (upd (upd f0 0 0) 1 0)))]) (tr := [(a1, .int), (a2, .object "LiftingSignal$Whole"), (a3, .int), (a4, .int), (a0, .int)]) hx hb hml hown hg okN (cX1_isPresent_884 l D h0 h4 (.ref h3) (.ref h5) v0 v1 v2 v3 v4 v5 v6 v7 v8 (.ref h1) f1 a1 ef1_0) (mwV k459 k460 k461 k87 k462) ⟨rfl, by decide, by decide, by decide +kernel⟩ ⟨rfl, rfl, (Nat.le_of_ble_eq_true rfl), (Nat.le_of_ble_eq_true rfl)⟩ hP hD hK hS xn [0, 2] [] [0, 1, 2, 3, 4, 5, 6, 7, 8, 9] [0] [0, 1, 2, 3, 4] rfl (by decide) rfl rfl (by decide) (by decide) rfl rfl (aNil hA hS) (aNil hA hS) 0 rfl rfl rfl hl.1 rfl (Nat.le_of_ble_eq_true rfl) dX1_valueSum_23 ⟨(Nat.le_of_ble_eq_true rfl), (Nat.le_of_ble_eq_true rfl)⟩ (fun u H locs hφ hP hD hK hS hk => ?_)
  have hP : va_P D vwCl [(h0, .inr (1, [.ref h3, .ref h5, v0, .ref h4, v1, v2, v3, v4, v5, v6, v7, v8, .ref h1])), (h3, .inr (0, [v11, v12, .int 2, v13, v14, v15, v16])), (h4, .inl (a1, 48, .inl f1)), (h5, .inl (a2, 48, .inr (.inr (.inr (.inr f2))))), (h6, .inr (4, [.ref h7, .int 0, .int 0])), (h7, .inl (a3, 2, .inl f3)), (h8, .inr (4, [.ref h9, .int 0, .int 0])), (h9, .inl (a4, 2, .inl f4)), (h1, .inr (4, [.ref h2, .int 0, .int 0])), (h2, .inl (a0, 2, .inl (upd (upd f0 0 0) 1 0)))] H := hP
  have hD : va_D A [(h0, .inr (1, [.ref h3, .ref h5, v0, .ref h4, v1, v2, v3, v4, v5, v6, v7, v8, .ref h1])), (h3, .inr (0, [v11, v12, .int 2, v13, v14, v15, v16])), (h4, .inl (a1, 48, .inl f1)), (h5, .inl (a2, 48, .inr (.inr (.inr (.inr f2))))), (h6, .inr (4, [.ref h7, .int 0, .int 0])), (h7, .inl (a3, 2, .inl f3)), (h8, .inr (4, [.ref h9, .int 0, .int 0])), (h9, .inl (a4, 2, .inl f4)), (h1, .inr (4, [.ref h2, .int 0, .int 0])), (h2, .inl (a0, 2, .inl (upd (upd f0 0 0) 1 0)))] := hD
  have hK : va_K D vwCl [(a1, .int), (a2, .object "LiftingSignal$Whole"), (a3, .int), (a4, .int), (a0, .int)] s := hK
  refine W.widen (k := 0) (n := 0) (Nat.le_of_ble_eq_true rfl) (Nat.le_of_ble_eq_true rfl) ?_
  refine lv_if_eq (tgt := 43) hx hb dX1_valueSum_26 (by decide) (fun c9 => absurd c9 (by decide)) (fun _ => ?_)
  refine lv_aload_n hx hb dX1_valueSum_29 rfl (lv_at hl 1 rfl) ?_
  refine va_get (D := D) (ci := 1) (v := .ref h1) (C := RX1) (T := TX1) (N := 13) hx hb hg inX1 hown hK hP 0 rfl rfl 12 (by decide) (hg _ k299) (fun _ h9 => h9) rfl dX1_valueSum_30 ?_
  refine lv_aload_n hx hb dX1_valueSum_33 rfl (lv_at hl 1 rfl) ?_
  refine va_get (D := D) (ci := 1) (v := .ref h5) (C := RX1) (T := TX1) (N := 13) hx hb hg inX1 hown hK hP 0 rfl rfl 1 (by decide) (hg _ k279) (fun _ h9 => h9) rfl dX1_valueSum_34 ?_
  refine lv_iload_n hx hb dX1_valueSum_37 rfl (lv_at hl 0 rfl) ?_
  refine aldQ hx hb hK hP 3 1 rfl rfl 0 (by decide) (vin (by decide)) (v := h6) ef2_0 dX1_valueSum_38 ?_
  refine lv_lconst (v := 1) hx hb dX1_valueSum_39 (by decide) ?_
  refine cVv (n := 2) (As := [.ref h6, .long 1]) (rest := []) (wr := [(h0, .inr (1, [.ref h3, .ref h5, v0, .ref h4, v1, v2, v3, v4, v5, v6, v7, v8, .ref h1])), (h3, .inr (0, [v11, v12, .int 2, v13, v14, v15, v16])), (h4, .inl (a1, 48, .inl f1)), (h5, .inl (a2, 48, .inr (.inr (.inr (.inr f2))))), (h8, .inr (4, [.ref h9, .int 0, .int 0])), (h9, .inl (a4, 2, .inl f4))]) (tr := [(a1, .int), (a2, .object "LiftingSignal$Whole"), (a4, .int)]) hx hb hml hown hg okN (cX4_add_885 l D h1 h6 h2 h7 (upd (upd f0 0 0) 1 0) f3 a0 a3 rfl ef3_0) (mwV k340 k341 k342 k88 k343) ⟨rfl, by decide, by decide, by decide +kernel⟩ ⟨rfl, rfl, (Nat.le_of_ble_eq_true rfl), (Nat.le_of_ble_eq_true rfl)⟩ hP hD hK hS xn [8, 4, 9, 5] [8, 4, 9, 5] [0, 1, 2, 3, 6, 7] [4, 2] [0, 1, 3] rfl (by decide) rfl rfl (by decide) (by decide) rfl rfl (va_free hD hS hA [8, 4, 9, 5] rfl) (va_free hD hS hA [8, 4, 9, 5] rfl) 8 rfl rfl rfl hl.1 rfl (Nat.le_of_ble_eq_true rfl) dX1_valueSum_40 ⟨(Nat.le_of_ble_eq_true rfl), (Nat.le_of_ble_eq_true rfl)⟩ (fun u H locs hφ hP hD hK hS hk => ?_)
  have hP : va_P D vwCl [(h0, .inr (1, [.ref h3, .ref h5, v0, .ref h4, v1, v2, v3, v4, v5, v6, v7, v8, .ref h1])), (h3, .inr (0, [v11, v12, .int 2, v13, v14, v15, v16])), (h4, .inl (a1, 48, .inl f1)), (h5, .inl (a2, 48, .inr (.inr (.inr (.inr f2))))), (h8, .inr (4, [.ref h9, .int 0, .int 0])), (h9, .inl (a4, 2, .inl f4)), (h1, .inr (4, [.ref h2, .int 0, .int 0])), (h6, .inr (4, [.ref h7, .int 0, .int 0])), (h2, .inl (a0, 2, .inl (upd (upd (upd (upd f0 0 0) 1 0) 0 0) 1 0))), (h7, .inl (a3, 2, .inl f3))] H := hP
  have hD : va_D A [(h0, .inr (1, [.ref h3, .ref h5, v0, .ref h4, v1, v2, v3, v4, v5, v6, v7, v8, .ref h1])), (h3, .inr (0, [v11, v12, .int 2, v13, v14, v15, v16])), (h4, .inl (a1, 48, .inl f1)), (h5, .inl (a2, 48, .inr (.inr (.inr (.inr f2))))), (h8, .inr (4, [.ref h9, .int 0, .int 0])), (h9, .inl (a4, 2, .inl f4)), (h1, .inr (4, [.ref h2, .int 0, .int 0])), (h6, .inr (4, [.ref h7, .int 0, .int 0])), (h2, .inl (a0, 2, .inl (upd (upd (upd (upd f0 0 0) 1 0) 0 0) 1 0))), (h7, .inl (a3, 2, .inl f3))] := hD
  have hK : va_K D vwCl [(a1, .int), (a2, .object "LiftingSignal$Whole"), (a4, .int), (a0, .int), (a3, .int)] s := hK
  refine W.widen (k := 0) (n := 0) (Nat.le_of_ble_eq_true rfl) (Nat.le_of_ble_eq_true rfl) ?_
  refine lv_iinc (v := 1) (lv' := [(1, .int 1), (0, .ref h0)]) hx hb dX1_valueSum_43 hl (k := 0) rfl (by decide) (by decide) rfl (fun ls hl => ?_)
  refine lv_goto (tgt := 10) hx hb dX1_valueSum_46 (by decide) ?_
  refine lv_iload_n hx hb dX1_valueSum_10 rfl (lv_at hl 0 rfl) ?_
  refine lv_aload_n hx hb dX1_valueSum_11 rfl (lv_at hl 1 rfl) ?_
  refine va_get (D := D) (ci := 1) (v := .ref h3) (C := RX1) (T := TX1) (N := 13) hx hb hg inX1 hown hK hP 0 rfl rfl 0 (by decide) (hg _ k278) (fun _ h9 => h9) rfl dX1_valueSum_12 ?_
  refine va_get (D := D) (ci := 0) (v := .int 2) (C := RX0) (T := TX0) (N := 7) hx hb hg inX0 hown hK hP 1 rfl rfl 2 (by decide) (hg _ k162) (fun _ h9 => h9) rfl dX1_valueSum_15 ?_
  refine lv_icmp_ge (tgt := 49) hx hb dX1_valueSum_18 (by decide) (fun c9 => absurd c9 (by decide)) (fun _ => ?_)
  refine lv_aload_n hx hb dX1_valueSum_21 rfl (lv_at hl 1 rfl) ?_
  refine lv_iload_n hx hb dX1_valueSum_22 rfl (lv_at hl 0 rfl) ?_
  refine cVi (n := 1) (As := [.int 1]) (rest := []) (wr := [(h0, .inr (1, [.ref h3, .ref h5, v0, .ref h4, v1, v2, v3, v4, v5, v6, v7, v8, .ref h1])), (h3, .inr (0, [v11, v12, .int 2, v13, v14, v15, v16])), (h4, .inl (a1, 48, .inl f1)), (h5, .inl (a2, 48, .inr (.inr (.inr (.inr f2))))), (h8, .inr (4, [.ref h9, .int 0, .int 0])), (h9, .inl (a4, 2, .inl f4)), (h1, .inr (4, [.ref h2, .int 0, .int 0])), (h6, .inr (4, [.ref h7, .int 0, .int 0])), (h2, .inl (a0, 2, .inl (upd (upd (upd (upd f0 0 0) 1 0) 0 0) 1 0))), (h7, .inl (a3, 2, .inl f3))]) (tr := [(a1, .int), (a2, .object "LiftingSignal$Whole"), (a4, .int), (a0, .int), (a3, .int)]) hx hb hml hown hg okN (cX1_isPresent_887 l D h0 h4 (.ref h3) (.ref h5) v0 v1 v2 v3 v4 v5 v6 v7 v8 (.ref h1) f1 a1 ef1_1) (mwV k459 k460 k461 k87 k462) ⟨rfl, by decide, by decide, by decide +kernel⟩ ⟨rfl, rfl, (Nat.le_of_ble_eq_true rfl), (Nat.le_of_ble_eq_true rfl)⟩ hP hD hK hS xn [0, 2] [] [0, 1, 2, 3, 4, 5, 6, 7, 8, 9] [0] [0, 1, 2, 3, 4] rfl (by decide) rfl rfl (by decide) (by decide) rfl rfl (aNil hA hS) (aNil hA hS) 0 rfl rfl rfl hl.1 rfl (Nat.le_of_ble_eq_true rfl) dX1_valueSum_23 ⟨(Nat.le_of_ble_eq_true rfl), (Nat.le_of_ble_eq_true rfl)⟩ (fun u H locs hφ hP hD hK hS hk => ?_)
  have hP : va_P D vwCl [(h0, .inr (1, [.ref h3, .ref h5, v0, .ref h4, v1, v2, v3, v4, v5, v6, v7, v8, .ref h1])), (h3, .inr (0, [v11, v12, .int 2, v13, v14, v15, v16])), (h4, .inl (a1, 48, .inl f1)), (h5, .inl (a2, 48, .inr (.inr (.inr (.inr f2))))), (h8, .inr (4, [.ref h9, .int 0, .int 0])), (h9, .inl (a4, 2, .inl f4)), (h1, .inr (4, [.ref h2, .int 0, .int 0])), (h6, .inr (4, [.ref h7, .int 0, .int 0])), (h2, .inl (a0, 2, .inl (upd (upd (upd (upd f0 0 0) 1 0) 0 0) 1 0))), (h7, .inl (a3, 2, .inl f3))] H := hP
  have hD : va_D A [(h0, .inr (1, [.ref h3, .ref h5, v0, .ref h4, v1, v2, v3, v4, v5, v6, v7, v8, .ref h1])), (h3, .inr (0, [v11, v12, .int 2, v13, v14, v15, v16])), (h4, .inl (a1, 48, .inl f1)), (h5, .inl (a2, 48, .inr (.inr (.inr (.inr f2))))), (h8, .inr (4, [.ref h9, .int 0, .int 0])), (h9, .inl (a4, 2, .inl f4)), (h1, .inr (4, [.ref h2, .int 0, .int 0])), (h6, .inr (4, [.ref h7, .int 0, .int 0])), (h2, .inl (a0, 2, .inl (upd (upd (upd (upd f0 0 0) 1 0) 0 0) 1 0))), (h7, .inl (a3, 2, .inl f3))] := hD
  have hK : va_K D vwCl [(a1, .int), (a2, .object "LiftingSignal$Whole"), (a4, .int), (a0, .int), (a3, .int)] s := hK
  refine W.widen (k := 0) (n := 0) (Nat.le_of_ble_eq_true rfl) (Nat.le_of_ble_eq_true rfl) ?_
  refine lv_if_eq (tgt := 43) hx hb dX1_valueSum_26 (by decide) (fun c9 => absurd c9 (by decide)) (fun _ => ?_)
  refine lv_aload_n hx hb dX1_valueSum_29 rfl (lv_at hl 1 rfl) ?_
  refine va_get (D := D) (ci := 1) (v := .ref h1) (C := RX1) (T := TX1) (N := 13) hx hb hg inX1 hown hK hP 0 rfl rfl 12 (by decide) (hg _ k299) (fun _ h9 => h9) rfl dX1_valueSum_30 ?_
  refine lv_aload_n hx hb dX1_valueSum_33 rfl (lv_at hl 1 rfl) ?_
  refine va_get (D := D) (ci := 1) (v := .ref h5) (C := RX1) (T := TX1) (N := 13) hx hb hg inX1 hown hK hP 0 rfl rfl 1 (by decide) (hg _ k279) (fun _ h9 => h9) rfl dX1_valueSum_34 ?_
  refine lv_iload_n hx hb dX1_valueSum_37 rfl (lv_at hl 0 rfl) ?_
  refine aldQ hx hb hK hP 3 1 rfl rfl 1 (by decide) (vin (by decide)) (v := h8) ef2_1 dX1_valueSum_38 ?_
  refine lv_lconst (v := 1) hx hb dX1_valueSum_39 (by decide) ?_
  refine cVv (n := 2) (As := [.ref h8, .long 1]) (rest := []) (wr := [(h0, .inr (1, [.ref h3, .ref h5, v0, .ref h4, v1, v2, v3, v4, v5, v6, v7, v8, .ref h1])), (h3, .inr (0, [v11, v12, .int 2, v13, v14, v15, v16])), (h4, .inl (a1, 48, .inl f1)), (h5, .inl (a2, 48, .inr (.inr (.inr (.inr f2))))), (h6, .inr (4, [.ref h7, .int 0, .int 0])), (h7, .inl (a3, 2, .inl f3))]) (tr := [(a1, .int), (a2, .object "LiftingSignal$Whole"), (a3, .int)]) hx hb hml hown hg okN (cX4_add_885 l D h1 h8 h2 h9 (upd (upd (upd (upd f0 0 0) 1 0) 0 0) 1 0) f4 a0 a4 rfl ef4_0) (mwV k340 k341 k342 k88 k343) ⟨rfl, by decide, by decide, by decide +kernel⟩ ⟨rfl, rfl, (Nat.le_of_ble_eq_true rfl), (Nat.le_of_ble_eq_true rfl)⟩ hP hD hK hS xn [6, 4, 8, 5] [6, 4, 8, 5] [0, 1, 2, 3, 7, 9] [3, 2] [0, 1, 4] rfl (by decide) rfl rfl (by decide) (by decide) rfl rfl (va_free hD hS hA [6, 4, 8, 5] rfl) (va_free hD hS hA [6, 4, 8, 5] rfl) 6 rfl rfl rfl hl.1 rfl (Nat.le_of_ble_eq_true rfl) dX1_valueSum_40 ⟨(Nat.le_of_ble_eq_true rfl), (Nat.le_of_ble_eq_true rfl)⟩ (fun u H locs hφ hP hD hK hS hk => ?_)
  have hP : va_P D vwCl [(h0, .inr (1, [.ref h3, .ref h5, v0, .ref h4, v1, v2, v3, v4, v5, v6, v7, v8, .ref h1])), (h3, .inr (0, [v11, v12, .int 2, v13, v14, v15, v16])), (h4, .inl (a1, 48, .inl f1)), (h5, .inl (a2, 48, .inr (.inr (.inr (.inr f2))))), (h6, .inr (4, [.ref h7, .int 0, .int 0])), (h7, .inl (a3, 2, .inl f3)), (h1, .inr (4, [.ref h2, .int 0, .int 0])), (h8, .inr (4, [.ref h9, .int 0, .int 0])), (h2, .inl (a0, 2, .inl (upd (upd (upd (upd (upd (upd f0 0 0) 1 0) 0 0) 1 0) 0 0) 1 0))), (h9, .inl (a4, 2, .inl f4))] H := hP
  have hD : va_D A [(h0, .inr (1, [.ref h3, .ref h5, v0, .ref h4, v1, v2, v3, v4, v5, v6, v7, v8, .ref h1])), (h3, .inr (0, [v11, v12, .int 2, v13, v14, v15, v16])), (h4, .inl (a1, 48, .inl f1)), (h5, .inl (a2, 48, .inr (.inr (.inr (.inr f2))))), (h6, .inr (4, [.ref h7, .int 0, .int 0])), (h7, .inl (a3, 2, .inl f3)), (h1, .inr (4, [.ref h2, .int 0, .int 0])), (h8, .inr (4, [.ref h9, .int 0, .int 0])), (h2, .inl (a0, 2, .inl (upd (upd (upd (upd (upd (upd f0 0 0) 1 0) 0 0) 1 0) 0 0) 1 0))), (h9, .inl (a4, 2, .inl f4))] := hD
  have hK : va_K D vwCl [(a1, .int), (a2, .object "LiftingSignal$Whole"), (a3, .int), (a0, .int), (a4, .int)] s := hK
  refine W.widen (k := 0) (n := 0) (Nat.le_of_ble_eq_true rfl) (Nat.le_of_ble_eq_true rfl) ?_
  refine lv_iinc (v := 2) (lv' := [(1, .int 2), (0, .ref h0)]) hx hb dX1_valueSum_43 hl (k := 0) rfl (by decide) (by decide) rfl (fun ls hl => ?_)
  refine lv_goto (tgt := 10) hx hb dX1_valueSum_46 (by decide) ?_
  refine lv_iload_n hx hb dX1_valueSum_10 rfl (lv_at hl 0 rfl) ?_
  refine lv_aload_n hx hb dX1_valueSum_11 rfl (lv_at hl 1 rfl) ?_
  refine va_get (D := D) (ci := 1) (v := .ref h3) (C := RX1) (T := TX1) (N := 13) hx hb hg inX1 hown hK hP 0 rfl rfl 0 (by decide) (hg _ k278) (fun _ h9 => h9) rfl dX1_valueSum_12 ?_
  refine va_get (D := D) (ci := 0) (v := .int 2) (C := RX0) (T := TX0) (N := 7) hx hb hg inX0 hown hK hP 1 rfl rfl 2 (by decide) (hg _ k162) (fun _ h9 => h9) rfl dX1_valueSum_15 ?_
  refine lv_icmp_ge (tgt := 49) hx hb dX1_valueSum_18 (by decide) (fun _ => ?_) (fun c9 => absurd (by decide) c9)
  refine lv_aload_n hx hb dX1_valueSum_49 rfl (lv_at hl 1 rfl) ?_
  refine va_get (D := D) (ci := 1) (v := .ref h1) (C := RX1) (T := TX1) (N := 13) hx hb hg inX1 hown hK hP 0 rfl rfl 12 (by decide) (hg _ k299) (fun _ h9 => h9) rfl dX1_valueSum_50 ?_
  exact fr rfl hx hb hr hlocks hP hD hK hS (()) trivial rfl [0, 6, 8, 1, 2, 3, 4, 5, 7, 9] [3, 0, 1, 2, 4] rfl (by decide) rfl (Nat.le_of_ble_eq_true rfl) (Nat.le_of_ble_eq_true rfl) dX1_valueSum_53
set_option maxHeartbeats 4000000 in
set_option maxRecDepth 100000 in
theorem cX4_bitsOfAmount_889 (l : Launch) (D : va_G) (h0 : Nat) (v0 : Value) (v1 : Value)   : CT l yX4_bitsOfAmount cX4_bitsOfAmount 1 (some .int) { frames := 0, cells := 0, slots := 0, locals := 0 } [.ref h0] D [(h0, .inr (4, [v0, .int 0, v1]))] [] XN [] (ei (fun _ : Unit => True) (fun _ => 0) (fun _ => []) (fun _ => []) D) 0 0 := by
  refine CT.ofR (by decide +kernel) (Nat.le_of_ble_eq_true rfl) ?_
  intro p e s m below meth c A ls hcs hP hK hD hX hA hS hl
  obtain ⟨hx, hb, hr, hml, hown, hg, hlocks, hin⟩ := hcs
  have hown : s.vm.findClass RX4 = some m.cls := hown
  have hl : lv_has ls 1 [(0, .ref h0)] := hl
  refine lv_aload_n hx hb dX4_bitsOfAmount_0 rfl (lv_at hl 0 rfl) ?_
  refine va_get (D := D) (ci := 4) (v := .int 0) (C := RX4) (T := TX4) (N := 3) hx hb hg inX4 hown hK hP 0 rfl rfl 1 (by decide) (hg _ k210) (fun _ h9 => h9) rfl dX4_bitsOfAmount_1 ?_
  refine lv_if_ne (tgt := 11) hx hb dX4_bitsOfAmount_4 (by decide) (fun c9 => absurd (by decide) c9) (fun _ => ?_)
  refine lv_iconst (v := 0) hx hb dX4_bitsOfAmount_7 (by decide) ?_
  refine lv_goto (tgt := 33) hx hb dX4_bitsOfAmount_8 (by decide) ?_
  exact fi0 hx hb hr hlocks hK hS (Nat.le_of_ble_eq_true rfl) (Nat.le_of_ble_eq_true rfl) dX4_bitsOfAmount_33
set_option maxHeartbeats 4000000 in
set_option maxRecDepth 100000 in
theorem cX4_limbAt_891 (l : Launch) (D : va_G) (h0 : Nat) (v0 : Value) (v1 : Value)   : CT l yX4_limbAt cX4_limbAt 2 (some .long) { frames := 0, cells := 0, slots := 0, locals := 0 } [.ref h0, .int 0] D [(h0, .inr (4, [v0, .int 0, v1]))] [] XN [] (el (fun _ : Unit => True) (fun _ => 0) (fun _ => []) (fun _ => []) D) 0 0 := by
  refine CT.ofR (by decide +kernel) (Nat.le_of_ble_eq_true rfl) ?_
  intro p e s m below meth c A ls hcs hP hK hD hX hA hS hl
  obtain ⟨hx, hb, hr, hml, hown, hg, hlocks, hin⟩ := hcs
  have hown : s.vm.findClass RX4 = some m.cls := hown
  have hl : lv_has ls 2 [(0, .ref h0), (1, .int 0)] := hl
  refine lv_iload_n hx hb dX4_limbAt_0 rfl (lv_at hl 1 rfl) ?_
  refine lv_aload_n hx hb dX4_limbAt_1 rfl (lv_at hl 0 rfl) ?_
  refine va_get (D := D) (ci := 4) (v := .int 0) (C := RX4) (T := TX4) (N := 3) hx hb hg inX4 hown hK hP 0 rfl rfl 1 (by decide) (hg _ k210) (fun _ h9 => h9) rfl dX4_limbAt_2 ?_
  refine lv_icmp_ge (tgt := 22) hx hb dX4_limbAt_5 (by decide) (fun _ => ?_) (fun c9 => absurd (by decide) c9)
  refine lv_lconst (v := 0) hx hb dX4_limbAt_22 (by decide) ?_
  exact fl0 hx hb hr hlocks hK hS (Nat.le_of_ble_eq_true rfl) (Nat.le_of_ble_eq_true rfl) dX4_limbAt_23
set_option maxHeartbeats 4000000 in
set_option maxRecDepth 100000 in
theorem cX4_isAnyBitBelow_890 (l : Launch) (D : va_G) (h0 : Nat) (v0 : Value) (v1 : Value)   : CT l yX4_isAnyBitBelow cX4_isAnyBitBelow 4 (some .boolean) { frames := 1, cells := 0, slots := 0, locals := 21 } [.ref h0, .int 0] D [(h0, .inr (4, [v0, .int 0, v1]))] [] XN [] (ei (fun _ : Unit => True) (fun _ => 0) (fun _ => []) (fun _ => []) D) 0 0 := by
  refine CT.ofR (by decide +kernel) (Nat.le_of_ble_eq_true rfl) ?_
  intro p e s m below meth c A ls hcs hP hK hD hX hA hS hl
  obtain ⟨hx, hb, hr, hml, hown, hg, hlocks, hin⟩ := hcs
  have hown : s.vm.findClass RX4 = some m.cls := hown
  have hl : lv_has ls 4 [(0, .ref h0), (1, .int 0)] := hl
  refine lv_iload_n hx hb dX4_isAnyBitBelow_0 rfl (lv_at hl 1 rfl) ?_
  refine lv_bipush (v := 32) hx hb dX4_isAnyBitBelow_1 (by decide) ?_
  refine lv_idiv hx hb dX4_isAnyBitBelow_3 (by decide) ?_
  refine ti (0) (by decide) ?_
  refine lv_istore_n (lv' := [(2, .int 0), (0, .ref h0), (1, .int 0)]) hx hb dX4_isAnyBitBelow_4 rfl hl (by decide) rfl (fun ls hl => ?_)
  refine lv_iconst (v := 0) hx hb dX4_isAnyBitBelow_5 (by decide) ?_
  refine lv_istore_n (lv' := [(3, .int 0), (2, .int 0), (0, .ref h0), (1, .int 0)]) hx hb dX4_isAnyBitBelow_6 rfl hl (by decide) rfl (fun ls hl => ?_)
  refine lv_iload_n hx hb dX4_isAnyBitBelow_7 rfl (lv_at hl 0 rfl) ?_
  refine lv_iload_n hx hb dX4_isAnyBitBelow_8 rfl (lv_at hl 1 rfl) ?_
  refine lv_icmp_ge (tgt := 30) hx hb dX4_isAnyBitBelow_9 (by decide) (fun _ => ?_) (fun c9 => absurd (by decide) c9)
  refine lv_aload_n hx hb dX4_isAnyBitBelow_30 rfl (lv_at hl 2 rfl) ?_
  refine lv_iload_n hx hb dX4_isAnyBitBelow_31 rfl (lv_at hl 1 rfl) ?_
  refine cVl (n := 1) (As := [.int 0]) (rest := []) (wr := [(h0, .inr (4, [v0, .int 0, v1]))]) (tr := []) hx hb hml hown hg okN (cX4_limbAt_891 l D h0 v0 v1) (mwV k443 k445 k6 k88 k446) ⟨rfl, by decide, by decide, by decide +kernel⟩ ⟨rfl, rfl, (Nat.le_of_ble_eq_true rfl), (Nat.le_of_ble_eq_true rfl)⟩ hP hD hK hS xn [0] [] [0] [] [] rfl (by decide) rfl rfl (by decide) (by decide) rfl rfl (aNil hA hS) (fun _ _ => trivial) 0 rfl rfl rfl hl.1 rfl (Nat.le_of_ble_eq_true rfl) dX4_isAnyBitBelow_32 ⟨(Nat.le_of_ble_eq_true rfl), (Nat.le_of_ble_eq_true rfl)⟩ (fun u H locs hφ hP hD hK hS hk => ?_)
  have hP : va_P D vwCl [(h0, .inr (4, [v0, .int 0, v1]))] H := hP
  have hD : va_D (fun _ => True) [(h0, .inr (4, [v0, .int 0, v1]))] := hD
  have hK : va_K D vwCl [] s := hK
  refine W.widen (k := 0) (n := 0) (Nat.le_of_ble_eq_true rfl) (Nat.le_of_ble_eq_true rfl) ?_
  refine lv_lconst (v := 1) hx hb dX4_isAnyBitBelow_35 (by decide) ?_
  refine lv_iload_n hx hb dX4_isAnyBitBelow_36 rfl (lv_at hl 3 rfl) ?_
  refine lv_bipush (v := 32) hx hb dX4_isAnyBitBelow_37 (by decide) ?_
  refine lv_irem hx hb dX4_isAnyBitBelow_39 (by decide) ?_
  refine ti (0) (by decide) ?_
  refine lv_lshl (v := 1) hx hb dX4_isAnyBitBelow_40 (by decide) ?_
  refine lv_lconst (v := 1) hx hb dX4_isAnyBitBelow_41 (by decide) ?_
  refine lv_lsub hx hb dX4_isAnyBitBelow_42 ?_
  refine tl (0) (by decide) ?_
  refine lv_land hx hb dX4_isAnyBitBelow_43 ?_
  refine tl (0) (by decide) ?_
  refine lv_lconst (v := 0) hx hb dX4_isAnyBitBelow_44 (by decide) ?_
  refine W.lcmp hx hb dX4_isAnyBitBelow_45 ?_
  refine ti (0) (by decide) ?_
  refine lv_if_eq (tgt := 53) hx hb dX4_isAnyBitBelow_46 (by decide) (fun _ => ?_) (fun c9 => absurd (by decide) c9)
  refine lv_iconst (v := 0) hx hb dX4_isAnyBitBelow_53 (by decide) ?_
  exact fz0 hx hb hr rfl hlocks hK hS (Nat.le_of_ble_eq_true rfl) (Nat.le_of_ble_eq_true rfl) dX4_isAnyBitBelow_54
set_option maxHeartbeats 4000000 in
set_option maxRecDepth 100000 in
theorem cX4_limbAt_893 (l : Launch) (D : va_G) (h0 : Nat) (v0 : Value) (v1 : Value)   : CT l yX4_limbAt cX4_limbAt 2 (some .long) { frames := 0, cells := 0, slots := 0, locals := 0 } [.ref h0, .int 1] D [(h0, .inr (4, [v0, .int 0, v1]))] [] XN [] (el (fun _ : Unit => True) (fun _ => 0) (fun _ => []) (fun _ => []) D) 0 0 := by
  refine CT.ofR (by decide +kernel) (Nat.le_of_ble_eq_true rfl) ?_
  intro p e s m below meth c A ls hcs hP hK hD hX hA hS hl
  obtain ⟨hx, hb, hr, hml, hown, hg, hlocks, hin⟩ := hcs
  have hown : s.vm.findClass RX4 = some m.cls := hown
  have hl : lv_has ls 2 [(0, .ref h0), (1, .int 1)] := hl
  refine lv_iload_n hx hb dX4_limbAt_0 rfl (lv_at hl 1 rfl) ?_
  refine lv_aload_n hx hb dX4_limbAt_1 rfl (lv_at hl 0 rfl) ?_
  refine va_get (D := D) (ci := 4) (v := .int 0) (C := RX4) (T := TX4) (N := 3) hx hb hg inX4 hown hK hP 0 rfl rfl 1 (by decide) (hg _ k210) (fun _ h9 => h9) rfl dX4_limbAt_2 ?_
  refine lv_icmp_ge (tgt := 22) hx hb dX4_limbAt_5 (by decide) (fun _ => ?_) (fun c9 => absurd (by decide) c9)
  refine lv_lconst (v := 0) hx hb dX4_limbAt_22 (by decide) ?_
  exact fl0 hx hb hr hlocks hK hS (Nat.le_of_ble_eq_true rfl) (Nat.le_of_ble_eq_true rfl) dX4_limbAt_23
set_option maxHeartbeats 4000000 in
set_option maxRecDepth 100000 in
theorem cX4_amountFrom_892 (l : Launch) (D : va_G) (h0 : Nat) (v0 : Value) (v1 : Value)   : CT l yX4_amountFrom cX4_amountFrom 6 (some .long) { frames := 1, cells := 0, slots := 0, locals := 21 } [.ref h0, .int 0] D [(h0, .inr (4, [v0, .int 0, v1]))] [] XN [] (el (fun _ : Unit => True) (fun _ => 0) (fun _ => []) (fun _ => []) D) 0 0 := by
  refine CT.ofR (by decide +kernel) (Nat.le_of_ble_eq_true rfl) ?_
  intro p e s m below meth c A ls hcs hP hK hD hX hA hS hl
  obtain ⟨hx, hb, hr, hml, hown, hg, hlocks, hin⟩ := hcs
  have hown : s.vm.findClass RX4 = some m.cls := hown
  have hl : lv_has ls 6 [(0, .ref h0), (1, .int 0)] := hl
  refine lv_iload_n hx hb dX4_amountFrom_0 rfl (lv_at hl 1 rfl) ?_
  refine lv_bipush (v := 32) hx hb dX4_amountFrom_1 (by decide) ?_
  refine lv_idiv hx hb dX4_amountFrom_3 (by decide) ?_
  refine ti (0) (by decide) ?_
  refine lv_istore_n (lv' := [(2, .int 0), (0, .ref h0), (1, .int 0)]) hx hb dX4_amountFrom_4 rfl hl (by decide) rfl (fun ls hl => ?_)
  refine lv_iload_n hx hb dX4_amountFrom_5 rfl (lv_at hl 2 rfl) ?_
  refine lv_bipush (v := 32) hx hb dX4_amountFrom_6 (by decide) ?_
  refine lv_irem hx hb dX4_amountFrom_8 (by decide) ?_
  refine ti (0) (by decide) ?_
  refine lv_istore_n (lv' := [(3, .int 0), (2, .int 0), (0, .ref h0), (1, .int 0)]) hx hb dX4_amountFrom_9 rfl hl (by decide) rfl (fun ls hl => ?_)
  refine lv_aload_n hx hb dX4_amountFrom_10 rfl (lv_at hl 2 rfl) ?_
  refine lv_iload_n hx hb dX4_amountFrom_11 rfl (lv_at hl 1 rfl) ?_
  refine lv_iconst (v := 1) hx hb dX4_amountFrom_12 (by decide) ?_
  refine lv_iadd hx hb dX4_amountFrom_13 ?_
  refine ti (1) (by decide) ?_
  refine cVl (n := 1) (As := [.int 1]) (rest := []) (wr := [(h0, .inr (4, [v0, .int 0, v1]))]) (tr := []) hx hb hml hown hg okN (cX4_limbAt_893 l D h0 v0 v1) (mwV k443 k445 k6 k88 k446) ⟨rfl, by decide, by decide, by decide +kernel⟩ ⟨rfl, rfl, (Nat.le_of_ble_eq_true rfl), (Nat.le_of_ble_eq_true rfl)⟩ hP hD hK hS xn [0] [] [0] [] [] rfl (by decide) rfl rfl (by decide) (by decide) rfl rfl (aNil hA hS) (fun _ _ => trivial) 0 rfl rfl rfl hl.1 rfl (Nat.le_of_ble_eq_true rfl) dX4_amountFrom_14 ⟨(Nat.le_of_ble_eq_true rfl), (Nat.le_of_ble_eq_true rfl)⟩ (fun u H locs hφ hP hD hK hS hk => ?_)
  have hP : va_P D vwCl [(h0, .inr (4, [v0, .int 0, v1]))] H := hP
  have hD : va_D (fun _ => True) [(h0, .inr (4, [v0, .int 0, v1]))] := hD
  have hK : va_K D vwCl [] s := hK
  refine W.widen (k := 0) (n := 0) (Nat.le_of_ble_eq_true rfl) (Nat.le_of_ble_eq_true rfl) ?_
  refine lv_bipush (v := 32) hx hb dX4_amountFrom_17 (by decide) ?_
  refine lv_lshl (v := 0) hx hb dX4_amountFrom_19 (by decide) ?_
  refine lv_aload_n hx hb dX4_amountFrom_20 rfl (lv_at hl 2 rfl) ?_
  refine lv_iload_n hx hb dX4_amountFrom_21 rfl (lv_at hl 1 rfl) ?_
  refine cVl (n := 1) (As := [.int 0]) (rest := [.long 0]) (wr := [(h0, .inr (4, [v0, .int 0, v1]))]) (tr := []) hx hb hml hown hg okN (cX4_limbAt_891 l D h0 v0 v1) (mwV k443 k445 k6 k88 k446) ⟨rfl, by decide, by decide, by decide +kernel⟩ ⟨rfl, rfl, (Nat.le_of_ble_eq_true rfl), (Nat.le_of_ble_eq_true rfl)⟩ hP hD hK hS xn [0] [] [0] [] [] rfl (by decide) rfl rfl (by decide) (by decide) rfl rfl (aNil hA hS) (fun _ _ => trivial) 0 rfl rfl rfl hl.1 rfl (Nat.le_of_ble_eq_true rfl) dX4_amountFrom_22 ⟨(Nat.le_of_ble_eq_true rfl), (Nat.le_of_ble_eq_true rfl)⟩ (fun u H locs hφ hP hD hK hS hk => ?_)
  have hP : va_P D vwCl [(h0, .inr (4, [v0, .int 0, v1]))] H := hP
  have hD : va_D (fun _ => True) [(h0, .inr (4, [v0, .int 0, v1]))] := hD
  have hK : va_K D vwCl [] s := hK
  refine W.widen (k := 0) (n := 0) (Nat.le_of_ble_eq_true rfl) (Nat.le_of_ble_eq_true rfl) ?_
  refine lv_lor hx hb dX4_amountFrom_25 ?_
  refine tl (0) (by decide) ?_
  refine lv_lstore (lv' := [(4, .long 0), (3, .int 0), (2, .int 0), (0, .ref h0), (1, .int 0)]) hx hb dX4_amountFrom_26 hl (by decide) rfl (fun ls hl => ?_)
  refine lv_iload_n hx hb dX4_amountFrom_28 rfl (lv_at hl 1 rfl) ?_
  refine lv_if_ne (tgt := 37) hx hb dX4_amountFrom_29 (by decide) (fun c9 => absurd (by decide) c9) (fun _ => ?_)
  refine lv_lload hx hb dX4_amountFrom_32 (lv_at hl 0 rfl) ?_
  refine lv_goto (tgt := 54) hx hb dX4_amountFrom_34 (by decide) ?_
  exact fl0 hx hb hr hlocks hK hS (Nat.le_of_ble_eq_true rfl) (Nat.le_of_ble_eq_true rfl) dX4_amountFrom_54
set_option maxHeartbeats 4000000 in
set_option maxRecDepth 100000 in
theorem cX4_toDouble_888 (l : Launch) (D : va_G) (h0 : Nat) (v0 : Value)   : CT l yX4_toDouble cX4_toDouble 7 (some .double) { frames := 2, cells := 0, slots := 0, locals := 46 } [.ref h0] D [(h0, .inr (4, [v0, .int 0, .int 0]))] [] XN [] (ed (fun _ : Unit => True) (fun _ => FP.l2d 0) (fun _ => []) (fun _ => []) D) 0 0 := by
  refine CT.ofR (by decide +kernel) (Nat.le_of_ble_eq_true rfl) ?_
  intro p e s m below meth c A ls hcs hP hK hD hX hA hS hl
  obtain ⟨hx, hb, hr, hml, hown, hg, hlocks, hin⟩ := hcs
  have hown : s.vm.findClass RX4 = some m.cls := hown
  have hl : lv_has ls 7 [(0, .ref h0)] := hl
  refine lv_iconst (v := 0) hx hb dX4_toDouble_0 (by decide) ?_
  refine lv_aload_n hx hb dX4_toDouble_1 rfl (lv_at hl 0 rfl) ?_
  refine cVi (n := 0) (As := []) (rest := [.int 0]) (wr := [(h0, .inr (4, [v0, .int 0, .int 0]))]) (tr := []) hx hb hml hown hg okN (cX4_bitsOfAmount_889 l D h0 v0 (.int 0)) (mwV k475 k476 k477 k88 k478) ⟨rfl, by decide, by decide, by decide +kernel⟩ ⟨rfl, rfl, (Nat.le_of_ble_eq_true rfl), (Nat.le_of_ble_eq_true rfl)⟩ hP hD hK hS xn [0] [] [0] [] [] rfl (by decide) rfl rfl (by decide) (by decide) rfl rfl (aNil hA hS) (fun _ _ => trivial) 0 rfl rfl rfl hl.1 rfl (Nat.le_of_ble_eq_true rfl) dX4_toDouble_2 ⟨(Nat.le_of_ble_eq_true rfl), (Nat.le_of_ble_eq_true rfl)⟩ (fun u H locs hφ hP hD hK hS hk => ?_)
  have hP : va_P D vwCl [(h0, .inr (4, [v0, .int 0, .int 0]))] H := hP
  have hD : va_D (fun _ => True) [(h0, .inr (4, [v0, .int 0, .int 0]))] := hD
  have hK : va_K D vwCl [] s := hK
  refine W.widen (k := 0) (n := 0) (Nat.le_of_ble_eq_true rfl) (Nat.le_of_ble_eq_true rfl) ?_
  refine lv_bipush (v := 62) hx hb dX4_toDouble_5 (by decide) ?_
  refine lv_isub hx hb dX4_toDouble_7 ?_
  refine ti ((-62)) (by decide) ?_
  refine va_mmax hx hb (hml.trans hl.1.symm) hown (hg _ k350) (hg _ k351) (hg _ k90) (hg _ k352) (Nat.le_of_ble_eq_true rfl) (Nat.le_of_ble_eq_true rfl) (Nat.le_of_ble_eq_true rfl) (Nat.le_of_ble_eq_true rfl) dX4_toDouble_8 ?_
  refine ti (0) (by decide) ?_
  refine lv_istore_n (lv' := [(1, .int 0), (0, .ref h0)]) hx hb dX4_toDouble_11 rfl hl (by decide) rfl (fun ls hl => ?_)
  refine lv_aload_n hx hb dX4_toDouble_12 rfl (lv_at hl 1 rfl) ?_
  refine lv_iload_n hx hb dX4_toDouble_13 rfl (lv_at hl 0 rfl) ?_
  refine cVi (n := 1) (As := [.int 0]) (rest := []) (wr := [(h0, .inr (4, [v0, .int 0, .int 0]))]) (tr := []) hx hb hml hown hg okN (cX4_isAnyBitBelow_890 l D h0 v0 (.int 0)) (mwV k483 k485 k7 k88 k486) ⟨rfl, by decide, by decide, by decide +kernel⟩ ⟨rfl, rfl, (Nat.le_of_ble_eq_true rfl), (Nat.le_of_ble_eq_true rfl)⟩ hP hD hK hS xn [0] [] [0] [] [] rfl (by decide) rfl rfl (by decide) (by decide) rfl rfl (aNil hA hS) (fun _ _ => trivial) 0 rfl rfl rfl hl.1 rfl (Nat.le_of_ble_eq_true rfl) dX4_toDouble_14 ⟨(Nat.le_of_ble_eq_true rfl), (Nat.le_of_ble_eq_true rfl)⟩ (fun u H locs hφ hP hD hK hS hk => ?_)
  have hP : va_P D vwCl [(h0, .inr (4, [v0, .int 0, .int 0]))] H := hP
  have hD : va_D (fun _ => True) [(h0, .inr (4, [v0, .int 0, .int 0]))] := hD
  have hK : va_K D vwCl [] s := hK
  refine W.widen (k := 0) (n := 0) (Nat.le_of_ble_eq_true rfl) (Nat.le_of_ble_eq_true rfl) ?_
  refine lv_if_eq (tgt := 30) hx hb dX4_toDouble_17 (by decide) (fun _ => ?_) (fun c9 => absurd (by decide) c9)
  refine lv_aload_n hx hb dX4_toDouble_30 rfl (lv_at hl 1 rfl) ?_
  refine lv_iload_n hx hb dX4_toDouble_31 rfl (lv_at hl 0 rfl) ?_
  refine cVl (n := 1) (As := [.int 0]) (rest := []) (wr := [(h0, .inr (4, [v0, .int 0, .int 0]))]) (tr := []) hx hb hml hown hg okN (cX4_amountFrom_892 l D h0 v0 (.int 0)) (mwV k439 k441 k5 k88 k442) ⟨rfl, by decide, by decide, by decide +kernel⟩ ⟨rfl, rfl, (Nat.le_of_ble_eq_true rfl), (Nat.le_of_ble_eq_true rfl)⟩ hP hD hK hS xn [0] [] [0] [] [] rfl (by decide) rfl rfl (by decide) (by decide) rfl rfl (aNil hA hS) (fun _ _ => trivial) 0 rfl rfl rfl hl.1 rfl (Nat.le_of_ble_eq_true rfl) dX4_toDouble_32 ⟨(Nat.le_of_ble_eq_true rfl), (Nat.le_of_ble_eq_true rfl)⟩ (fun u H locs hφ hP hD hK hS hk => ?_)
  have hP : va_P D vwCl [(h0, .inr (4, [v0, .int 0, .int 0]))] H := hP
  have hD : va_D (fun _ => True) [(h0, .inr (4, [v0, .int 0, .int 0]))] := hD
  have hK : va_K D vwCl [] s := hK
  refine W.widen (k := 0) (n := 0) (Nat.le_of_ble_eq_true rfl) (Nat.le_of_ble_eq_true rfl) ?_
  refine lv_lstore_n (lv' := [(2, .long 0), (1, .int 0), (0, .ref h0)]) hx hb dX4_toDouble_35 rfl hl (by decide) rfl (fun ls hl => ?_)
  refine lv_aload_n hx hb dX4_toDouble_36 rfl (lv_at hl 2 rfl) ?_
  refine va_get (D := D) (ci := 4) (v := .int 0) (C := RX4) (T := TX4) (N := 3) hx hb hg inX4 hown hK hP 0 rfl rfl 2 (by decide) (hg _ k211) (fun _ h9 => h9) rfl dX4_toDouble_37 ?_
  refine lv_if_eq (tgt := 48) hx hb dX4_toDouble_40 (by decide) (fun _ => ?_) (fun c9 => absurd (by decide) c9)
  refine lv_lload_n hx hb dX4_toDouble_48 rfl (lv_at hl 0 rfl) ?_
  refine lv_l2d hx hb dX4_toDouble_49 ?_
  refine lv_dstore (lv' := [(4, .double (FP.l2d 0)), (2, .long 0), (1, .int 0), (0, .ref h0)]) hx hb dX4_toDouble_50 hl (by decide) rfl (fun ls hl => ?_)
  refine lv_iconst (v := 0) hx hb dX4_toDouble_52 (by decide) ?_
  refine lv_istore (lv' := [(6, .int 0), (4, .double (FP.l2d 0)), (2, .long 0), (1, .int 0), (0, .ref h0)]) hx hb dX4_toDouble_53 hl (by decide) rfl (fun ls hl => ?_)
  refine lv_iload hx hb dX4_toDouble_55 (lv_at hl 0 rfl) ?_
  refine lv_iload_n hx hb dX4_toDouble_57 rfl (lv_at hl 3 rfl) ?_
  refine lv_icmp_ge (tgt := 75) hx hb dX4_toDouble_58 (by decide) (fun _ => ?_) (fun c9 => absurd (by decide) c9)
  refine lv_dload hx hb dX4_toDouble_75 (lv_at hl 1 rfl) ?_
  exact fd0 hx hb hr hlocks hK hS (Nat.le_of_ble_eq_true rfl) (Nat.le_of_ble_eq_true rfl) dX4_toDouble_77
set_option maxHeartbeats 4000000 in
set_option maxRecDepth 100000 in
theorem cX1_presentCount_894 (l : Launch) (D : va_G) (h0 : Nat) (h1 : Nat) (v0 : Value) (v1 : Value) (v2 : Value) (v3 : Value) (v4 : Value) (v5 : Value) (v6 : Value) (v7 : Value) (v8 : Value) (v9 : Value) (v10 : Value) (v11 : Value) (v12 : Value) (v13 : Value) (v14 : Value) (v15 : Value) (v16 : Value)   : CT l yX1_presentCount cX1_presentCount 1 (some .int) { frames := 0, cells := 0, slots := 0, locals := 0 } [.ref h0] D [(h0, .inr (1, [.ref h1, v0, v1, v2, v3, .int 0, v4, v5, v6, v7, v8, v9, v10])), (h1, .inr (0, [v11, v12, .int 2, v13, v14, v15, v16]))] [] XN [] (ei (fun _ : Unit => True) (fun _ => 2) (fun _ => []) (fun _ => []) D) 0 0 := by
  refine CT.ofR (by decide +kernel) (Nat.le_of_ble_eq_true rfl) ?_
  intro p e s m below meth c A ls hcs hP hK hD hX hA hS hl
  obtain ⟨hx, hb, hr, hml, hown, hg, hlocks, hin⟩ := hcs
  have hown : s.vm.findClass RX1 = some m.cls := hown
  have hl : lv_has ls 1 [(0, .ref h0)] := hl
  refine lv_aload_n hx hb dX1_presentCount_0 rfl (lv_at hl 0 rfl) ?_
  refine va_get (D := D) (ci := 1) (v := .ref h1) (C := RX1) (T := TX1) (N := 13) hx hb hg inX1 hown hK hP 0 rfl rfl 0 (by decide) (hg _ k278) (fun _ h9 => h9) rfl dX1_presentCount_1 ?_
  refine va_get (D := D) (ci := 0) (v := .int 2) (C := RX0) (T := TX0) (N := 7) hx hb hg inX0 hown hK hP 1 rfl rfl 2 (by decide) (hg _ k162) (fun _ h9 => h9) rfl dX1_presentCount_4 ?_
  refine lv_aload_n hx hb dX1_presentCount_7 rfl (lv_at hl 0 rfl) ?_
  refine va_get (D := D) (ci := 1) (v := .int 0) (C := RX1) (T := TX1) (N := 13) hx hb hg inX1 hown hK hP 0 rfl rfl 5 (by decide) (hg _ k287) (fun _ h9 => h9) rfl dX1_presentCount_8 ?_
  refine lv_isub hx hb dX1_presentCount_11 ?_
  refine ti (2) (by decide) ?_
  exact fi0 hx hb hr hlocks hK hS (Nat.le_of_ble_eq_true rfl) (Nat.le_of_ble_eq_true rfl) dX1_presentCount_12
set_option maxHeartbeats 4000000 in
set_option maxRecDepth 100000 in
theorem cX5_plainMean_881 (l : Launch) (D : va_G) (h0 : Nat) (h1 : Nat) (h2 : Nat) (h3 : Nat) (h4 : Nat) (h5 : Nat) (h6 : Nat) (h7 : Nat) (h8 : Nat) (h9 : Nat) (h10 : Nat) (v0 : Value) (v1 : Value) (v2 : Value) (v3 : Value) (v4 : Value) (v5 : Value) (v6 : Value) (v7 : Value) (v8 : Value) (v9 : Value) (v10 : Value) (v11 : Value) (v12 : Value) (v13 : Value) (v14 : Value) (v15 : Value) (v16 : Value) (v17 : Value) (v18 : Value) (f0 : Nat → Int32) (v19 : Value) (v20 : Value) (v21 : Value) (v22 : Value) (v23 : Value) (v24 : Value) (f1 : Nat → Int32) (f2 : Nat → Option Nat) (f3 : Nat → Int32) (f4 : Nat → Int32) (a0 : ClassId) (a1 : ClassId) (a2 : ClassId) (a3 : ClassId) (a4 : ClassId) (ef1_0 : f1 0 = (-1)) (ef1_1 : f1 1 = (-1)) (ef2_0 : f2 0 = some h7) (ef2_1 : f2 1 = some h9) (ef3_0 : f3 0 = 0) (ef4_0 : f4 0 = 0)  : CT l yX5_plainMean cX5_plainMean 1 (some .double) { frames := 3, cells := 0, slots := 0, locals := 72 } [.ref h0] D [(h0, .inr (5, [v0, v1, v2, .ref h1, v3, v4, v5, v6, v7, v8])), (h1, .inr (1, [.ref h4, .ref h6, v9, .ref h5, v10, .int 0, v11, v12, v13, v14, v15, v16, .ref h2])), (h2, .inr (4, [.ref h3, v17, v18])), (h3, .inl (a0, 2, .inl f0)), (h4, .inr (0, [v19, v20, .int 2, v21, v22, v23, v24])), (h5, .inl (a1, 48, .inl f1)), (h6, .inl (a2, 48, .inr (.inr (.inr (.inr f2))))), (h7, .inr (4, [.ref h8, .int 0, .int 0])), (h8, .inl (a3, 2, .inl f3)), (h9, .inr (4, [.ref h10, .int 0, .int 0])), (h10, .inl (a4, 2, .inl f4))] [(a0, .int), (a1, .int), (a2, .object "LiftingSignal$Whole"), (a3, .int), (a4, .int)] XN [(h0, .inr (5, [v0, v1, v2, .ref h1, v3, v4, v5, v6, v7, v8])), (h1, .inr (1, [.ref h4, .ref h6, v9, .ref h5, v10, .int 0, v11, v12, v13, v14, v15, v16, .ref h2])), (h2, .inr (4, [.ref h3, v17, v18])), (h3, .inl (a0, 2, .inl f0)), (h4, .inr (0, [v19, v20, .int 2, v21, v22, v23, v24])), (h5, .inl (a1, 48, .inl f1)), (h6, .inl (a2, 48, .inr (.inr (.inr (.inr f2))))), (h7, .inr (4, [.ref h8, .int 0, .int 0])), (h8, .inl (a3, 2, .inl f3)), (h9, .inr (4, [.ref h10, .int 0, .int 0])), (h10, .inl (a4, 2, .inl f4))] (ed (fun _ : Unit => True) (fun u => FP.ddiv (FP.l2d 0) (FP.i2d 2)) (fun _ => [(h0, .inr (5, [v0, v1, v2, .ref h1, v3, v4, v5, v6, v7, v8])), (h1, .inr (1, [.ref h4, .ref h6, v9, .ref h5, v10, .int 0, v11, v12, v13, v14, v15, v16, .ref h2])), (h2, .inr (4, [.ref h3, .int 0, .int 0])), (h3, .inl (a0, 2, .inl (upd (upd (upd (upd (upd (upd f0 0 0) 1 0) 0 0) 1 0) 0 0) 1 0))), (h4, .inr (0, [v19, v20, .int 2, v21, v22, v23, v24])), (h5, .inl (a1, 48, .inl f1)), (h6, .inl (a2, 48, .inr (.inr (.inr (.inr f2))))), (h7, .inr (4, [.ref h8, .int 0, .int 0])), (h8, .inl (a3, 2, .inl f3)), (h9, .inr (4, [.ref h10, .int 0, .int 0])), (h10, .inl (a4, 2, .inl f4))]) (fun u => [(a0, .int), (a1, .int), (a2, .object "LiftingSignal$Whole"), (a3, .int), (a4, .int)]) D) 0 0 := by
  refine CT.ofW (by decide +kernel) (Nat.le_of_ble_eq_true rfl) ?_
  intro p e s m below meth c A ls hcs hP hK hD hX hA hS hl
  obtain ⟨hx, hb, hr, hml, hown, hg, hlocks, hin⟩ := hcs
  have hown : s.vm.findClass RX5 = some m.cls := hown
  have hl : lv_has ls 1 [(0, .ref h0)] := hl
  refine lv_aload_n hx hb dX5_plainMean_0 rfl (lv_at hl 0 rfl) ?_
  refine va_get (D := D) (ci := 5) (v := .ref h1) (C := RX5) (T := TX5) (N := 10) hx hb hg inX5 hown hK hP 0 rfl rfl 3 (by decide) (hg _ k382) (fun _ h9 => h9) rfl dX5_plainMean_1 ?_
  refine cVr (n := 0) (As := []) (rest := []) (wr := [(h0, .inr (5, [v0, v1, v2, .ref h1, v3, v4, v5, v6, v7, v8]))]) (tr := []) hx hb hml hown hg okN (cX1_valueSum_882 l D h1 h2 h3 h4 h5 h6 h7 h8 h9 h10 v9 v10 (.int 0) v11 v12 v13 v14 v15 v16 v17 v18 f0 v19 v20 v21 v22 v23 v24 f1 f2 f3 f4 a0 a1 a2 a3 a4 ef1_0 ef1_1 ef2_0 ef2_1 ef3_0 ef4_0) (mwV k467 k468 k469 k87 k470) ⟨rfl, by decide, by decide, by decide +kernel⟩ ⟨rfl, rfl, (Nat.le_of_ble_eq_true rfl), (Nat.le_of_ble_eq_true rfl)⟩ hP hD hK hS xn [1, 2, 3, 4, 5, 6, 7, 8, 9, 10] [1, 2, 3, 4, 5, 6, 7, 8, 9, 10] [0] [0, 1, 2, 3, 4] [] rfl (by decide) rfl rfl (by decide) (by decide) rfl rfl (va_free hD hS hA [1, 2, 3, 4, 5, 6, 7, 8, 9, 10] rfl) (va_free hD hS hA [1, 2, 3, 4, 5, 6, 7, 8, 9, 10] rfl) 1 rfl rfl rfl hl.1 rfl (Nat.le_of_ble_eq_true rfl) dX5_plainMean_4 ⟨(Nat.le_of_ble_eq_true rfl), (Nat.le_of_ble_eq_true rfl)⟩ (fun u H locs hφ hP hD hK hS hk => ?_)
  have hP : va_P D vwCl [(h0, .inr (5, [v0, v1, v2, .ref h1, v3, v4, v5, v6, v7, v8])), (h1, .inr (1, [.ref h4, .ref h6, v9, .ref h5, v10, .int 0, v11, v12, v13, v14, v15, v16, .ref h2])), (h2, .inr (4, [.ref h3, .int 0, .int 0])), (h3, .inl (a0, 2, .inl (upd (upd (upd (upd (upd (upd f0 0 0) 1 0) 0 0) 1 0) 0 0) 1 0))), (h4, .inr (0, [v19, v20, .int 2, v21, v22, v23, v24])), (h5, .inl (a1, 48, .inl f1)), (h6, .inl (a2, 48, .inr (.inr (.inr (.inr f2))))), (h7, .inr (4, [.ref h8, .int 0, .int 0])), (h8, .inl (a3, 2, .inl f3)), (h9, .inr (4, [.ref h10, .int 0, .int 0])), (h10, .inl (a4, 2, .inl f4))] H := hP
  have hD : va_D A [(h0, .inr (5, [v0, v1, v2, .ref h1, v3, v4, v5, v6, v7, v8])), (h1, .inr (1, [.ref h4, .ref h6, v9, .ref h5, v10, .int 0, v11, v12, v13, v14, v15, v16, .ref h2])), (h2, .inr (4, [.ref h3, .int 0, .int 0])), (h3, .inl (a0, 2, .inl (upd (upd (upd (upd (upd (upd f0 0 0) 1 0) 0 0) 1 0) 0 0) 1 0))), (h4, .inr (0, [v19, v20, .int 2, v21, v22, v23, v24])), (h5, .inl (a1, 48, .inl f1)), (h6, .inl (a2, 48, .inr (.inr (.inr (.inr f2))))), (h7, .inr (4, [.ref h8, .int 0, .int 0])), (h8, .inl (a3, 2, .inl f3)), (h9, .inr (4, [.ref h10, .int 0, .int 0])), (h10, .inl (a4, 2, .inl f4))] := hD
  have hK : va_K D vwCl [(a0, .int), (a1, .int), (a2, .object "LiftingSignal$Whole"), (a3, .int), (a4, .int)] s := hK
  refine W.widen (k := 0) (n := 0) (Nat.le_of_ble_eq_true rfl) (Nat.le_of_ble_eq_true rfl) ?_
  refine cVd (n := 0) (As := []) (rest := []) (wr := [(h0, .inr (5, [v0, v1, v2, .ref h1, v3, v4, v5, v6, v7, v8])), (h1, .inr (1, [.ref h4, .ref h6, v9, .ref h5, v10, .int 0, v11, v12, v13, v14, v15, v16, .ref h2])), (h2, .inr (4, [.ref h3, .int 0, .int 0])), (h3, .inl (a0, 2, .inl (upd (upd (upd (upd (upd (upd f0 0 0) 1 0) 0 0) 1 0) 0 0) 1 0))), (h4, .inr (0, [v19, v20, .int 2, v21, v22, v23, v24])), (h5, .inl (a1, 48, .inl f1)), (h6, .inl (a2, 48, .inr (.inr (.inr (.inr f2))))), (h7, .inr (4, [.ref h8, .int 0, .int 0])), (h8, .inl (a3, 2, .inl f3)), (h9, .inr (4, [.ref h10, .int 0, .int 0])), (h10, .inl (a4, 2, .inl f4))]) (tr := [(a0, .int), (a1, .int), (a2, .object "LiftingSignal$Whole"), (a3, .int), (a4, .int)]) hx hb hml hown hg okN (cX4_toDouble_888 l D h2 (.ref h3)) (mwV k471 k472 k473 k88 k474) ⟨rfl, by decide, by decide, by decide +kernel⟩ ⟨rfl, rfl, (Nat.le_of_ble_eq_true rfl), (Nat.le_of_ble_eq_true rfl)⟩ hP hD hK hS xn [2] [] [0, 1, 2, 3, 4, 5, 6, 7, 8, 9, 10] [] [0, 1, 2, 3, 4] rfl (by decide) rfl rfl (by decide) (by decide) rfl rfl (aNil hA hS) (aNil hA hS) 2 rfl rfl rfl hl.1 rfl (Nat.le_of_ble_eq_true rfl) dX5_plainMean_7 ⟨(Nat.le_of_ble_eq_true rfl), (Nat.le_of_ble_eq_true rfl)⟩ (fun u H locs hφ hP hD hK hS hk => ?_)
  have hP : va_P D vwCl [(h0, .inr (5, [v0, v1, v2, .ref h1, v3, v4, v5, v6, v7, v8])), (h1, .inr (1, [.ref h4, .ref h6, v9, .ref h5, v10, .int 0, v11, v12, v13, v14, v15, v16, .ref h2])), (h2, .inr (4, [.ref h3, .int 0, .int 0])), (h3, .inl (a0, 2, .inl (upd (upd (upd (upd (upd (upd f0 0 0) 1 0) 0 0) 1 0) 0 0) 1 0))), (h4, .inr (0, [v19, v20, .int 2, v21, v22, v23, v24])), (h5, .inl (a1, 48, .inl f1)), (h6, .inl (a2, 48, .inr (.inr (.inr (.inr f2))))), (h7, .inr (4, [.ref h8, .int 0, .int 0])), (h8, .inl (a3, 2, .inl f3)), (h9, .inr (4, [.ref h10, .int 0, .int 0])), (h10, .inl (a4, 2, .inl f4))] H := hP
  have hD : va_D A [(h0, .inr (5, [v0, v1, v2, .ref h1, v3, v4, v5, v6, v7, v8])), (h1, .inr (1, [.ref h4, .ref h6, v9, .ref h5, v10, .int 0, v11, v12, v13, v14, v15, v16, .ref h2])), (h2, .inr (4, [.ref h3, .int 0, .int 0])), (h3, .inl (a0, 2, .inl (upd (upd (upd (upd (upd (upd f0 0 0) 1 0) 0 0) 1 0) 0 0) 1 0))), (h4, .inr (0, [v19, v20, .int 2, v21, v22, v23, v24])), (h5, .inl (a1, 48, .inl f1)), (h6, .inl (a2, 48, .inr (.inr (.inr (.inr f2))))), (h7, .inr (4, [.ref h8, .int 0, .int 0])), (h8, .inl (a3, 2, .inl f3)), (h9, .inr (4, [.ref h10, .int 0, .int 0])), (h10, .inl (a4, 2, .inl f4))] := hD
  have hK : va_K D vwCl [(a0, .int), (a1, .int), (a2, .object "LiftingSignal$Whole"), (a3, .int), (a4, .int)] s := hK
  refine W.widen (k := 0) (n := 0) (Nat.le_of_ble_eq_true rfl) (Nat.le_of_ble_eq_true rfl) ?_
  refine lv_aload_n hx hb dX5_plainMean_10 rfl (lv_at hl 0 rfl) ?_
  refine va_get (D := D) (ci := 5) (v := .ref h1) (C := RX5) (T := TX5) (N := 10) hx hb hg inX5 hown hK hP 0 rfl rfl 3 (by decide) (hg _ k382) (fun _ h9 => h9) rfl dX5_plainMean_11 ?_
  refine cVi (n := 0) (As := []) (rest := [.double (FP.l2d 0)]) (wr := [(h0, .inr (5, [v0, v1, v2, .ref h1, v3, v4, v5, v6, v7, v8])), (h1, .inr (1, [.ref h4, .ref h6, v9, .ref h5, v10, .int 0, v11, v12, v13, v14, v15, v16, .ref h2])), (h2, .inr (4, [.ref h3, .int 0, .int 0])), (h3, .inl (a0, 2, .inl (upd (upd (upd (upd (upd (upd f0 0 0) 1 0) 0 0) 1 0) 0 0) 1 0))), (h4, .inr (0, [v19, v20, .int 2, v21, v22, v23, v24])), (h5, .inl (a1, 48, .inl f1)), (h6, .inl (a2, 48, .inr (.inr (.inr (.inr f2))))), (h7, .inr (4, [.ref h8, .int 0, .int 0])), (h8, .inl (a3, 2, .inl f3)), (h9, .inr (4, [.ref h10, .int 0, .int 0])), (h10, .inl (a4, 2, .inl f4))]) (tr := [(a0, .int), (a1, .int), (a2, .object "LiftingSignal$Whole"), (a3, .int), (a4, .int)]) hx hb hml hown hg okN (cX1_presentCount_894 l D h1 h4 (.ref h6) v9 (.ref h5) v10 v11 v12 v13 v14 v15 v16 (.ref h2) v19 v20 v21 v22 v23 v24) (mwV k488 k489 k490 k87 k491) ⟨rfl, by decide, by decide, by decide +kernel⟩ ⟨rfl, rfl, (Nat.le_of_ble_eq_true rfl), (Nat.le_of_ble_eq_true rfl)⟩ hP hD hK hS xn [1, 4] [] [0, 1, 2, 3, 4, 5, 6, 7, 8, 9, 10] [] [0, 1, 2, 3, 4] rfl (by decide) rfl rfl (by decide) (by decide) rfl rfl (aNil hA hS) (aNil hA hS) 1 rfl rfl rfl hl.1 rfl (Nat.le_of_ble_eq_true rfl) dX5_plainMean_14 ⟨(Nat.le_of_ble_eq_true rfl), (Nat.le_of_ble_eq_true rfl)⟩ (fun u H locs hφ hP hD hK hS hk => ?_)
  have hP : va_P D vwCl [(h0, .inr (5, [v0, v1, v2, .ref h1, v3, v4, v5, v6, v7, v8])), (h1, .inr (1, [.ref h4, .ref h6, v9, .ref h5, v10, .int 0, v11, v12, v13, v14, v15, v16, .ref h2])), (h2, .inr (4, [.ref h3, .int 0, .int 0])), (h3, .inl (a0, 2, .inl (upd (upd (upd (upd (upd (upd f0 0 0) 1 0) 0 0) 1 0) 0 0) 1 0))), (h4, .inr (0, [v19, v20, .int 2, v21, v22, v23, v24])), (h5, .inl (a1, 48, .inl f1)), (h6, .inl (a2, 48, .inr (.inr (.inr (.inr f2))))), (h7, .inr (4, [.ref h8, .int 0, .int 0])), (h8, .inl (a3, 2, .inl f3)), (h9, .inr (4, [.ref h10, .int 0, .int 0])), (h10, .inl (a4, 2, .inl f4))] H := hP
  have hD : va_D A [(h0, .inr (5, [v0, v1, v2, .ref h1, v3, v4, v5, v6, v7, v8])), (h1, .inr (1, [.ref h4, .ref h6, v9, .ref h5, v10, .int 0, v11, v12, v13, v14, v15, v16, .ref h2])), (h2, .inr (4, [.ref h3, .int 0, .int 0])), (h3, .inl (a0, 2, .inl (upd (upd (upd (upd (upd (upd f0 0 0) 1 0) 0 0) 1 0) 0 0) 1 0))), (h4, .inr (0, [v19, v20, .int 2, v21, v22, v23, v24])), (h5, .inl (a1, 48, .inl f1)), (h6, .inl (a2, 48, .inr (.inr (.inr (.inr f2))))), (h7, .inr (4, [.ref h8, .int 0, .int 0])), (h8, .inl (a3, 2, .inl f3)), (h9, .inr (4, [.ref h10, .int 0, .int 0])), (h10, .inl (a4, 2, .inl f4))] := hD
  have hK : va_K D vwCl [(a0, .int), (a1, .int), (a2, .object "LiftingSignal$Whole"), (a3, .int), (a4, .int)] s := hK
  refine W.widen (k := 0) (n := 0) (Nat.le_of_ble_eq_true rfl) (Nat.le_of_ble_eq_true rfl) ?_
  refine lv_i2d hx hb dX5_plainMean_17 ?_
  refine lv_ddiv hx hb dX5_plainMean_18 (by unfold vf_n64; decide +kernel) ?_
  exact fd hx hb hr hlocks hP hD hK hS (()) trivial rfl [0, 1, 2, 3, 4, 5, 6, 7, 8, 9, 10] [0, 1, 2, 3, 4] rfl (by decide) rfl (Nat.le_of_ble_eq_true rfl) (Nat.le_of_ble_eq_true rfl) dX5_plainMean_19
set_option maxHeartbeats 4000000 in
set_option maxRecDepth 100000 in
theorem cX6_isPresent_896 (l : Launch) (D : va_G) (h0 : Nat) (h1 : Nat) (v0 : Value) (v1 : Value) (v2 : Value) (v3 : Value) (v4 : Value) (v5 : Value) (v6 : Value) (v7 : Value) (v8 : Value) (v9 : Value) (v10 : Value) (v11 : Value) (v12 : Value) (v13 : Value) (v14 : Value) (v15 : Value) (v16 : Value) (v17 : Value) (v18 : Value) (v19 : Value) (v20 : Value) (v21 : Value) (v22 : Value) (v23 : Value) (v24 : Value) (v25 : Value) (f0 : Nat → Int64) (a0 : ClassId) (ef0_101 : f0 101 = (-1))  : CT l yX6_isPresent cX6_isPresent 2 (some .boolean) { frames := 0, cells := 0, slots := 0, locals := 0 } [.ref h0, .int 0] D [(h0, .inr (6, [v0, .ref h1, v1, v2, v3, v4, v5, v6, v7, v8, v9, v10, v11, v12, v13, v14, v15, v16, v17, v18, v19, v20, v21, v22, v23, v24, v25])), (h1, .inl (a0, 609, .inr (.inl f0)))] [(a0, .long)] XN [] (ei (fun _ : Unit => True) (fun _ => 1) (fun _ => []) (fun _ => []) D) 0 0 := by
  refine CT.ofR (by decide +kernel) (Nat.le_of_ble_eq_true rfl) ?_
  intro p e s m below meth c A ls hcs hP hK hD hX hA hS hl
  obtain ⟨hx, hb, hr, hml, hown, hg, hlocks, hin⟩ := hcs
  have hown : s.vm.findClass RX6 = some m.cls := hown
  have hl : lv_has ls 2 [(0, .ref h0), (1, .int 0)] := hl
  refine lv_aload_n hx hb dX6_isPresent_0 rfl (lv_at hl 0 rfl) ?_
  refine va_get (D := D) (ci := 6) (v := .ref h1) (C := RX6) (T := TX6) (N := 27) hx hb hg inX6 hown hK hP 0 rfl rfl 1 (by decide) (hg _ k1220) (fun _ h9 => h9) rfl dX6_isPresent_1 ?_
  refine lv_bipush (v := 101) hx hb dX6_isPresent_4 (by decide) ?_
  refine lv_iload_n hx hb dX6_isPresent_6 rfl (lv_at hl 1 rfl) ?_
  refine lv_iadd hx hb dX6_isPresent_7 ?_
  refine ti (101) (by decide) ?_
  refine aldL hx hb hK hP 1 0 rfl rfl 101 (by decide) (vin (by decide)) (v := (-1)) ef0_101 dX6_isPresent_8 ?_
  refine lv_ldc2 hx hb hown (hg _ k1218) dX6_isPresent_9 ?_
  refine W.lcmp hx hb dX6_isPresent_12 ?_
  refine ti (0) (by decide) ?_
  refine lv_if_ne (tgt := 20) hx hb dX6_isPresent_13 (by decide) (fun c9 => absurd (by decide) c9) (fun _ => ?_)
  refine lv_iconst (v := 1) hx hb dX6_isPresent_16 (by decide) ?_
  refine lv_goto (tgt := 21) hx hb dX6_isPresent_17 (by decide) ?_
  exact fz0 hx hb hr rfl hlocks hK hS (Nat.le_of_ble_eq_true rfl) (Nat.le_of_ble_eq_true rfl) dX6_isPresent_21
set_option maxHeartbeats 4000000 in
set_option maxRecDepth 100000 in
theorem cX6_isPresent_897 (l : Launch) (D : va_G) (h0 : Nat) (h1 : Nat) (v0 : Value) (v1 : Value) (v2 : Value) (v3 : Value) (v4 : Value) (v5 : Value) (v6 : Value) (v7 : Value) (v8 : Value) (v9 : Value) (v10 : Value) (v11 : Value) (v12 : Value) (v13 : Value) (v14 : Value) (v15 : Value) (v16 : Value) (v17 : Value) (v18 : Value) (v19 : Value) (v20 : Value) (v21 : Value) (v22 : Value) (v23 : Value) (v24 : Value) (v25 : Value) (f0 : Nat → Int64) (a0 : ClassId) (ef0_102 : f0 102 = (-1))  : CT l yX6_isPresent cX6_isPresent 2 (some .boolean) { frames := 0, cells := 0, slots := 0, locals := 0 } [.ref h0, .int 1] D [(h0, .inr (6, [v0, .ref h1, v1, v2, v3, v4, v5, v6, v7, v8, v9, v10, v11, v12, v13, v14, v15, v16, v17, v18, v19, v20, v21, v22, v23, v24, v25])), (h1, .inl (a0, 609, .inr (.inl f0)))] [(a0, .long)] XN [] (ei (fun _ : Unit => True) (fun _ => 1) (fun _ => []) (fun _ => []) D) 0 0 := by
  refine CT.ofR (by decide +kernel) (Nat.le_of_ble_eq_true rfl) ?_
  intro p e s m below meth c A ls hcs hP hK hD hX hA hS hl
  obtain ⟨hx, hb, hr, hml, hown, hg, hlocks, hin⟩ := hcs
  have hown : s.vm.findClass RX6 = some m.cls := hown
  have hl : lv_has ls 2 [(0, .ref h0), (1, .int 1)] := hl
  refine lv_aload_n hx hb dX6_isPresent_0 rfl (lv_at hl 0 rfl) ?_
  refine va_get (D := D) (ci := 6) (v := .ref h1) (C := RX6) (T := TX6) (N := 27) hx hb hg inX6 hown hK hP 0 rfl rfl 1 (by decide) (hg _ k1220) (fun _ h9 => h9) rfl dX6_isPresent_1 ?_
  refine lv_bipush (v := 101) hx hb dX6_isPresent_4 (by decide) ?_
  refine lv_iload_n hx hb dX6_isPresent_6 rfl (lv_at hl 1 rfl) ?_
  refine lv_iadd hx hb dX6_isPresent_7 ?_
  refine ti (102) (by decide) ?_
  refine aldL hx hb hK hP 1 0 rfl rfl 102 (by decide) (vin (by decide)) (v := (-1)) ef0_102 dX6_isPresent_8 ?_
  refine lv_ldc2 hx hb hown (hg _ k1218) dX6_isPresent_9 ?_
  refine W.lcmp hx hb dX6_isPresent_12 ?_
  refine ti (0) (by decide) ?_
  refine lv_if_ne (tgt := 20) hx hb dX6_isPresent_13 (by decide) (fun c9 => absurd (by decide) c9) (fun _ => ?_)
  refine lv_iconst (v := 1) hx hb dX6_isPresent_16 (by decide) ?_
  refine lv_goto (tgt := 21) hx hb dX6_isPresent_17 (by decide) ?_
  exact fz0 hx hb hr rfl hlocks hK hS (Nat.le_of_ble_eq_true rfl) (Nat.le_of_ble_eq_true rfl) dX6_isPresent_21
set_option maxHeartbeats 4000000 in
set_option maxRecDepth 100000 in
theorem cX6_steps_899 (l : Launch) (D : va_G) (h0 : Nat) (h1 : Nat) (v0 : Value) (v1 : Value) (v2 : Value) (v3 : Value) (v4 : Value) (v5 : Value) (v6 : Value) (v7 : Value) (v8 : Value) (v9 : Value) (v10 : Value) (v11 : Value) (v12 : Value) (v13 : Value) (v14 : Value) (v15 : Value) (v16 : Value) (v17 : Value) (v18 : Value) (v19 : Value) (v20 : Value) (v21 : Value) (v22 : Value) (v23 : Value) (v24 : Value) (v25 : Value) (f0 : Nat → Int64) (a0 : ClassId) (ef0_4 : f0 4 = 0)  : CT l yX6_steps cX6_steps 1 (some .int) { frames := 0, cells := 0, slots := 0, locals := 0 } [.ref h0] D [(h0, .inr (6, [v0, .ref h1, v1, v2, v3, v4, v5, v6, v7, v8, v9, v10, v11, v12, v13, v14, v15, v16, v17, v18, v19, v20, v21, v22, v23, v24, v25])), (h1, .inl (a0, 609, .inr (.inl f0)))] [(a0, .long)] XN [] (ei (fun _ : Unit => True) (fun _ => 0) (fun _ => []) (fun _ => []) D) 0 0 := by
  refine CT.ofR (by decide +kernel) (Nat.le_of_ble_eq_true rfl) ?_
  intro p e s m below meth c A ls hcs hP hK hD hX hA hS hl
  obtain ⟨hx, hb, hr, hml, hown, hg, hlocks, hin⟩ := hcs
  have hown : s.vm.findClass RX6 = some m.cls := hown
  have hl : lv_has ls 1 [(0, .ref h0)] := hl
  refine lv_aload_n hx hb dX6_steps_0 rfl (lv_at hl 0 rfl) ?_
  refine va_get (D := D) (ci := 6) (v := .ref h1) (C := RX6) (T := TX6) (N := 27) hx hb hg inX6 hown hK hP 0 rfl rfl 1 (by decide) (hg _ k1220) (fun _ h9 => h9) rfl dX6_steps_1 ?_
  refine lv_iconst (v := 4) hx hb dX6_steps_4 (by decide) ?_
  refine aldL hx hb hK hP 1 0 rfl rfl 4 (by decide) (vin (by decide)) (v := 0) ef0_4 dX6_steps_5 ?_
  refine lv_l2i (v := 0) hx hb dX6_steps_6 (by decide) ?_
  exact fi0 hx hb hr hlocks hK hS (Nat.le_of_ble_eq_true rfl) (Nat.le_of_ble_eq_true rfl) dX6_steps_7
set_option maxHeartbeats 4000000 in
set_option maxRecDepth 100000 in
theorem cX6_presents_898 (l : Launch) (D : va_G) (h0 : Nat) (h1 : Nat) (v0 : Value) (v1 : Value) (v2 : Value) (v3 : Value) (v4 : Value) (v5 : Value) (v6 : Value) (v7 : Value) (v8 : Value) (v9 : Value) (v10 : Value) (v11 : Value) (v12 : Value) (v13 : Value) (v14 : Value) (v15 : Value) (v16 : Value) (v17 : Value) (v18 : Value) (v19 : Value) (v20 : Value) (v21 : Value) (v22 : Value) (v23 : Value) (v24 : Value) (f0 : Nat → Int64) (a0 : ClassId) (ef0_4 : f0 4 = 0)  : CT l yX6_presents cX6_presents 1 (some .int) { frames := 1, cells := 0, slots := 0, locals := 20 } [.ref h0] D [(h0, .inr (6, [v0, .ref h1, v1, v2, v3, v4, v5, .int 2, v6, v7, v8, v9, v10, v11, v12, v13, v14, v15, v16, v17, v18, v19, v20, v21, v22, v23, v24])), (h1, .inl (a0, 609, .inr (.inl f0)))] [(a0, .long)] XN [] (ei (fun _ : Unit => True) (fun _ => 2) (fun _ => []) (fun _ => []) D) 0 0 := by
  refine CT.ofR (by decide +kernel) (Nat.le_of_ble_eq_true rfl) ?_
  intro p e s m below meth c A ls hcs hP hK hD hX hA hS hl
  obtain ⟨hx, hb, hr, hml, hown, hg, hlocks, hin⟩ := hcs
  have hown : s.vm.findClass RX6 = some m.cls := hown
  have hl : lv_has ls 1 [(0, .ref h0)] := hl
  refine lv_aload_n hx hb dX6_presents_0 rfl (lv_at hl 0 rfl) ?_
  refine va_get (D := D) (ci := 6) (v := .int 2) (C := RX6) (T := TX6) (N := 27) hx hb hg inX6 hown hK hP 0 rfl rfl 7 (by decide) (hg _ k1226) (fun _ h9 => h9) rfl dX6_presents_1 ?_
  refine lv_aload_n hx hb dX6_presents_4 rfl (lv_at hl 0 rfl) ?_
  refine cVi (n := 0) (As := []) (rest := [.int 2]) (wr := [(h0, .inr (6, [v0, .ref h1, v1, v2, v3, v4, v5, .int 2, v6, v7, v8, v9, v10, v11, v12, v13, v14, v15, v16, v17, v18, v19, v20, v21, v22, v23, v24])), (h1, .inl (a0, 609, .inr (.inl f0)))]) (tr := [(a0, .long)]) hx hb hml hown hg okN (cX6_steps_899 l D h0 h1 v0 v1 v2 v3 v4 v5 (.int 2) v6 v7 v8 v9 v10 v11 v12 v13 v14 v15 v16 v17 v18 v19 v20 v21 v22 v23 v24 f0 a0 ef0_4) (mwV k1416 k1418 k52 k92 k1419) ⟨rfl, by decide, by decide, by decide +kernel⟩ ⟨rfl, rfl, (Nat.le_of_ble_eq_true rfl), (Nat.le_of_ble_eq_true rfl)⟩ hP hD hK hS xn [0, 1] [] [0, 1] [0] [0] rfl (by decide) rfl rfl (by decide) (by decide) rfl rfl (aNil hA hS) (fun _ _ => trivial) 0 rfl rfl rfl hl.1 rfl (Nat.le_of_ble_eq_true rfl) dX6_presents_5 ⟨(Nat.le_of_ble_eq_true rfl), (Nat.le_of_ble_eq_true rfl)⟩ (fun u H locs hφ hP hD hK hS hk => ?_)
  have hP : va_P D vwCl [(h0, .inr (6, [v0, .ref h1, v1, v2, v3, v4, v5, .int 2, v6, v7, v8, v9, v10, v11, v12, v13, v14, v15, v16, v17, v18, v19, v20, v21, v22, v23, v24])), (h1, .inl (a0, 609, .inr (.inl f0)))] H := hP
  have hD : va_D (fun _ => True) [(h0, .inr (6, [v0, .ref h1, v1, v2, v3, v4, v5, .int 2, v6, v7, v8, v9, v10, v11, v12, v13, v14, v15, v16, v17, v18, v19, v20, v21, v22, v23, v24])), (h1, .inl (a0, 609, .inr (.inl f0)))] := hD
  have hK : va_K D vwCl [(a0, .long)] s := hK
  refine W.widen (k := 0) (n := 0) (Nat.le_of_ble_eq_true rfl) (Nat.le_of_ble_eq_true rfl) ?_
  refine lv_isub hx hb dX6_presents_8 ?_
  refine ti (2) (by decide) ?_
  exact fi0 hx hb hr hlocks hK hS (Nat.le_of_ble_eq_true rfl) (Nat.le_of_ble_eq_true rfl) dX6_presents_9
set_option maxHeartbeats 4000000 in
set_option maxRecDepth 100000 in
theorem cX6_plainMean_895 (l : Launch) (D : va_G) (h0 : Nat) (h1 : Nat) (v0 : Value) (v1 : Value) (v2 : Value) (v3 : Value) (v4 : Value) (v5 : Value) (v6 : Value) (v7 : Value) (v8 : Value) (v9 : Value) (v10 : Value) (v11 : Value) (v12 : Value) (v13 : Value) (v14 : Value) (v15 : Value) (v16 : Value) (v17 : Value) (v18 : Value) (v19 : Value) (v20 : Value) (v21 : Value) (v22 : Value) (v23 : Value) (v24 : Value) (f0 : Nat → Int64) (a0 : ClassId) (ef0_4 : f0 4 = 0) (ef0_5 : f0 5 = 0) (ef0_6 : f0 6 = 0) (ef0_101 : f0 101 = (-1)) (ef0_102 : f0 102 = (-1))  : CT l yX6_plainMean cX6_plainMean 4 (some .double) { frames := 2, cells := 0, slots := 0, locals := 40 } [.ref h0] D [(h0, .inr (6, [v0, .ref h1, v1, v2, v3, v4, v5, .int 2, v6, v7, v8, v9, v10, v11, v12, v13, v14, v15, v16, v17, v18, v19, v20, v21, v22, v23, v24])), (h1, .inl (a0, 609, .inr (.inl f0)))] [(a0, .long)] XN [(h0, .inr (6, [v0, .ref h1, v1, v2, v3, v4, v5, .int 2, v6, v7, v8, v9, v10, v11, v12, v13, v14, v15, v16, v17, v18, v19, v20, v21, v22, v23, v24])), (h1, .inl (a0, 609, .inr (.inl f0)))] (ed (fun _ : Unit => True) (fun u => FP.ddiv (FP.l2d 0) (FP.i2d 2)) (fun _ => [(h0, .inr (6, [.int 0, .ref h1, v1, v2, v3, v4, v5, .int 2, v6, v7, v8, v9, v10, v11, v12, v13, v14, v15, v16, v17, v18, v19, v20, v21, v22, v23, v24])), (h1, .inl (a0, 609, .inr (.inl f0)))]) (fun u => [(a0, .long)]) D) 0 0 := by
  refine CT.ofW (by decide +kernel) (Nat.le_of_ble_eq_true rfl) ?_
  intro p e s m below meth c A ls hcs hP hK hD hX hA hS hl
  obtain ⟨hx, hb, hr, hml, hown, hg, hlocks, hin⟩ := hcs
  have hown : s.vm.findClass RX6 = some m.cls := hown
  have hl : lv_has ls 4 [(0, .ref h0)] := hl
  refine lv_aload_n hx hb dX6_plainMean_0 rfl (lv_at hl 0 rfl) ?_
  refine lv_iconst (v := 0) hx hb dX6_plainMean_1 (by decide) ?_
  refine va_put (D := D) (ci := 6) (v := .int 0) (ty := .int) (C := RX6) (T := TX6) (N := 27) hx hb hg inX6 tyX6 tyX6_ok nmX6 hown hK hP hD hS 0 rfl rfl 0 (by decide) (hg _ k1219) (fun _ h9 => h9) rfl (by decide +kernel) rfl rfl (Nat.le_of_ble_eq_true rfl) dX6_plainMean_2 (fun H locs hP hD hS => ?_)
  have hP : va_P D vwCl [(h0, .inr (6, [.int 0, .ref h1, v1, v2, v3, v4, v5, .int 2, v6, v7, v8, v9, v10, v11, v12, v13, v14, v15, v16, v17, v18, v19, v20, v21, v22, v23, v24])), (h1, .inl (a0, 609, .inr (.inl f0)))] H := hP
  have hD : va_D A [(h0, .inr (6, [.int 0, .ref h1, v1, v2, v3, v4, v5, .int 2, v6, v7, v8, v9, v10, v11, v12, v13, v14, v15, v16, v17, v18, v19, v20, v21, v22, v23, v24])), (h1, .inl (a0, 609, .inr (.inl f0)))] := hD
  refine lv_lconst (v := 0) hx hb dX6_plainMean_5 (by decide) ?_
  refine lv_lstore_n (lv' := [(1, .long 0), (0, .ref h0)]) hx hb dX6_plainMean_6 rfl hl (by decide) rfl (fun ls hl => ?_)
  refine lv_iconst (v := 0) hx hb dX6_plainMean_7 (by decide) ?_
  refine lv_istore_n (lv' := [(3, .int 0), (1, .long 0), (0, .ref h0)]) hx hb dX6_plainMean_8 rfl hl (by decide) rfl (fun ls hl => ?_)
  refine lv_iload_n hx hb dX6_plainMean_9 rfl (lv_at hl 0 rfl) ?_
  refine lv_aload_n hx hb dX6_plainMean_10 rfl (lv_at hl 2 rfl) ?_
  refine va_get (D := D) (ci := 6) (v := .int 2) (C := RX6) (T := TX6) (N := 27) hx hb hg inX6 hown hK hP 0 rfl rfl 7 (by decide) (hg _ k1226) (fun _ h9 => h9) rfl dX6_plainMean_11 ?_
  refine lv_icmp_ge (tgt := 46) hx hb dX6_plainMean_14 (by decide) (fun c9 => absurd c9 (by decide)) (fun _ => ?_)
  refine lv_lload_n hx hb dX6_plainMean_17 rfl (lv_at hl 1 rfl) ?_
  refine lv_aload_n hx hb dX6_plainMean_18 rfl (lv_at hl 2 rfl) ?_
  refine lv_iload_n hx hb dX6_plainMean_19 rfl (lv_at hl 0 rfl) ?_
  refine cVi (n := 1) (As := [.int 0]) (rest := [.long 0]) (wr := [(h0, .inr (6, [.int 0, .ref h1, v1, v2, v3, v4, v5, .int 2, v6, v7, v8, v9, v10, v11, v12, v13, v14, v15, v16, v17, v18, v19, v20, v21, v22, v23, v24])), (h1, .inl (a0, 609, .inr (.inl f0)))]) (tr := [(a0, .long)]) hx hb hml hown hg okN (cX6_isPresent_896 l D h0 h1 (.int 0) v1 v2 v3 v4 v5 (.int 2) v6 v7 v8 v9 v10 v11 v12 v13 v14 v15 v16 v17 v18 v19 v20 v21 v22 v23 v24 f0 a0 ef0_101) (mwV k1432 k1434 k56 k92 k1435) ⟨rfl, by decide, by decide, by decide +kernel⟩ ⟨rfl, rfl, (Nat.le_of_ble_eq_true rfl), (Nat.le_of_ble_eq_true rfl)⟩ hP hD hK hS xn [0, 1] [] [0, 1] [0] [0] rfl (by decide) rfl rfl (by decide) (by decide) rfl rfl (aNil hA hS) (aNil hA hS) 0 rfl rfl rfl hl.1 rfl (Nat.le_of_ble_eq_true rfl) dX6_plainMean_20 ⟨(Nat.le_of_ble_eq_true rfl), (Nat.le_of_ble_eq_true rfl)⟩ (fun u H locs hφ hP hD hK hS hk => ?_)
  have hP : va_P D vwCl [(h0, .inr (6, [.int 0, .ref h1, v1, v2, v3, v4, v5, .int 2, v6, v7, v8, v9, v10, v11, v12, v13, v14, v15, v16, v17, v18, v19, v20, v21, v22, v23, v24])), (h1, .inl (a0, 609, .inr (.inl f0)))] H := hP
  have hD : va_D A [(h0, .inr (6, [.int 0, .ref h1, v1, v2, v3, v4, v5, .int 2, v6, v7, v8, v9, v10, v11, v12, v13, v14, v15, v16, v17, v18, v19, v20, v21, v22, v23, v24])), (h1, .inl (a0, 609, .inr (.inl f0)))] := hD
  have hK : va_K D vwCl [(a0, .long)] s := hK
  refine W.widen (k := 0) (n := 0) (Nat.le_of_ble_eq_true rfl) (Nat.le_of_ble_eq_true rfl) ?_
  refine lv_if_eq (tgt := 37) hx hb dX6_plainMean_23 (by decide) (fun c9 => absurd c9 (by decide)) (fun _ => ?_)
  refine lv_aload_n hx hb dX6_plainMean_26 rfl (lv_at hl 2 rfl) ?_
  refine va_get (D := D) (ci := 6) (v := .ref h1) (C := RX6) (T := TX6) (N := 27) hx hb hg inX6 hown hK hP 0 rfl rfl 1 (by decide) (hg _ k1220) (fun _ h9 => h9) rfl dX6_plainMean_27 ?_
  refine lv_iconst (v := 5) hx hb dX6_plainMean_30 (by decide) ?_
  refine lv_iload_n hx hb dX6_plainMean_31 rfl (lv_at hl 0 rfl) ?_
  refine lv_iadd hx hb dX6_plainMean_32 ?_
  refine ti (5) (by decide) ?_
  refine aldL hx hb hK hP 1 0 rfl rfl 5 (by decide) (vin (by decide)) (v := 0) ef0_5 dX6_plainMean_33 ?_
  refine lv_goto (tgt := 38) hx hb dX6_plainMean_34 (by decide) ?_
  refine lv_ladd hx hb dX6_plainMean_38 ?_
  refine tl (0) (by decide) ?_
  refine lv_lstore_n (lv' := [(1, .long 0), (3, .int 0), (0, .ref h0)]) hx hb dX6_plainMean_39 rfl hl (by decide) rfl (fun ls hl => ?_)
  refine lv_iinc (v := 1) (lv' := [(3, .int 1), (1, .long 0), (0, .ref h0)]) hx hb dX6_plainMean_40 hl (k := 1) rfl (by decide) (by decide) rfl (fun ls hl => ?_)
  refine lv_goto (tgt := 9) hx hb dX6_plainMean_43 (by decide) ?_
  refine lv_iload_n hx hb dX6_plainMean_9 rfl (lv_at hl 0 rfl) ?_
  refine lv_aload_n hx hb dX6_plainMean_10 rfl (lv_at hl 2 rfl) ?_
  refine va_get (D := D) (ci := 6) (v := .int 2) (C := RX6) (T := TX6) (N := 27) hx hb hg inX6 hown hK hP 0 rfl rfl 7 (by decide) (hg _ k1226) (fun _ h9 => h9) rfl dX6_plainMean_11 ?_
  refine lv_icmp_ge (tgt := 46) hx hb dX6_plainMean_14 (by decide) (fun c9 => absurd c9 (by decide)) (fun _ => ?_)
  refine lv_lload_n hx hb dX6_plainMean_17 rfl (lv_at hl 1 rfl) ?_
  refine lv_aload_n hx hb dX6_plainMean_18 rfl (lv_at hl 2 rfl) ?_
  refine lv_iload_n hx hb dX6_plainMean_19 rfl (lv_at hl 0 rfl) ?_
  refine cVi (n := 1) (As := [.int 1]) (rest := [.long 0]) (wr := [(h0, .inr (6, [.int 0, .ref h1, v1, v2, v3, v4, v5, .int 2, v6, v7, v8, v9, v10, v11, v12, v13, v14, v15, v16, v17, v18, v19, v20, v21, v22, v23, v24])), (h1, .inl (a0, 609, .inr (.inl f0)))]) (tr := [(a0, .long)]) hx hb hml hown hg okN (cX6_isPresent_897 l D h0 h1 (.int 0) v1 v2 v3 v4 v5 (.int 2) v6 v7 v8 v9 v10 v11 v12 v13 v14 v15 v16 v17 v18 v19 v20 v21 v22 v23 v24 f0 a0 ef0_102) (mwV k1432 k1434 k56 k92 k1435) ⟨rfl, by decide, by decide, by decide +kernel⟩ ⟨rfl, rfl, (Nat.le_of_ble_eq_true rfl), (Nat.le_of_ble_eq_true rfl)⟩ hP hD hK hS xn [0, 1] [] [0, 1] [0] [0] rfl (by decide) rfl rfl (by decide) (by decide) rfl rfl (aNil hA hS) (aNil hA hS) 0 rfl rfl rfl hl.1 rfl (Nat.le_of_ble_eq_true rfl) dX6_plainMean_20 ⟨(Nat.le_of_ble_eq_true rfl), (Nat.le_of_ble_eq_true rfl)⟩ (fun u H locs hφ hP hD hK hS hk => ?_)
  have hP : va_P D vwCl [(h0, .inr (6, [.int 0, .ref h1, v1, v2, v3, v4, v5, .int 2, v6, v7, v8, v9, v10, v11, v12, v13, v14, v15, v16, v17, v18, v19, v20, v21, v22, v23, v24])), (h1, .inl (a0, 609, .inr (.inl f0)))] H := hP
  have hD : va_D A [(h0, .inr (6, [.int 0, .ref h1, v1, v2, v3, v4, v5, .int 2, v6, v7, v8, v9, v10, v11, v12, v13, v14, v15, v16, v17, v18, v19, v20, v21, v22, v23, v24])), (h1, .inl (a0, 609, .inr (.inl f0)))] := hD
  have hK : va_K D vwCl [(a0, .long)] s := hK
  refine W.widen (k := 0) (n := 0) (Nat.le_of_ble_eq_true rfl) (Nat.le_of_ble_eq_true rfl) ?_
  refine lv_if_eq (tgt := 37) hx hb dX6_plainMean_23 (by decide) (fun c9 => absurd c9 (by decide)) (fun _ => ?_)
  refine lv_aload_n hx hb dX6_plainMean_26 rfl (lv_at hl 2 rfl) ?_
  refine va_get (D := D) (ci := 6) (v := .ref h1) (C := RX6) (T := TX6) (N := 27) hx hb hg inX6 hown hK hP 0 rfl rfl 1 (by decide) (hg _ k1220) (fun _ h9 => h9) rfl dX6_plainMean_27 ?_
  refine lv_iconst (v := 5) hx hb dX6_plainMean_30 (by decide) ?_
  refine lv_iload_n hx hb dX6_plainMean_31 rfl (lv_at hl 0 rfl) ?_
  refine lv_iadd hx hb dX6_plainMean_32 ?_
  refine ti (6) (by decide) ?_
  refine aldL hx hb hK hP 1 0 rfl rfl 6 (by decide) (vin (by decide)) (v := 0) ef0_6 dX6_plainMean_33 ?_
  refine lv_goto (tgt := 38) hx hb dX6_plainMean_34 (by decide) ?_
  refine lv_ladd hx hb dX6_plainMean_38 ?_
  refine tl (0) (by decide) ?_
  refine lv_lstore_n (lv' := [(1, .long 0), (3, .int 1), (0, .ref h0)]) hx hb dX6_plainMean_39 rfl hl (by decide) rfl (fun ls hl => ?_)
  refine lv_iinc (v := 2) (lv' := [(3, .int 2), (1, .long 0), (0, .ref h0)]) hx hb dX6_plainMean_40 hl (k := 1) rfl (by decide) (by decide) rfl (fun ls hl => ?_)
  refine lv_goto (tgt := 9) hx hb dX6_plainMean_43 (by decide) ?_
  refine lv_iload_n hx hb dX6_plainMean_9 rfl (lv_at hl 0 rfl) ?_
  refine lv_aload_n hx hb dX6_plainMean_10 rfl (lv_at hl 2 rfl) ?_
  refine va_get (D := D) (ci := 6) (v := .int 2) (C := RX6) (T := TX6) (N := 27) hx hb hg inX6 hown hK hP 0 rfl rfl 7 (by decide) (hg _ k1226) (fun _ h9 => h9) rfl dX6_plainMean_11 ?_
  refine lv_icmp_ge (tgt := 46) hx hb dX6_plainMean_14 (by decide) (fun _ => ?_) (fun c9 => absurd (by decide) c9)
  refine lv_lload_n hx hb dX6_plainMean_46 rfl (lv_at hl 1 rfl) ?_
  refine lv_l2d hx hb dX6_plainMean_47 ?_
  refine lv_aload_n hx hb dX6_plainMean_48 rfl (lv_at hl 2 rfl) ?_
  refine cVi (n := 0) (As := []) (rest := [.double (FP.l2d 0)]) (wr := [(h0, .inr (6, [.int 0, .ref h1, v1, v2, v3, v4, v5, .int 2, v6, v7, v8, v9, v10, v11, v12, v13, v14, v15, v16, v17, v18, v19, v20, v21, v22, v23, v24])), (h1, .inl (a0, 609, .inr (.inl f0)))]) (tr := [(a0, .long)]) hx hb hml hown hg okN (cX6_presents_898 l D h0 h1 (.int 0) v1 v2 v3 v4 v5 v6 v7 v8 v9 v10 v11 v12 v13 v14 v15 v16 v17 v18 v19 v20 v21 v22 v23 v24 f0 a0 ef0_4) (mwV k1412 k1414 k51 k92 k1415) ⟨rfl, by decide, by decide, by decide +kernel⟩ ⟨rfl, rfl, (Nat.le_of_ble_eq_true rfl), (Nat.le_of_ble_eq_true rfl)⟩ hP hD hK hS xn [0, 1] [] [0, 1] [0] [0] rfl (by decide) rfl rfl (by decide) (by decide) rfl rfl (aNil hA hS) (aNil hA hS) 0 rfl rfl rfl hl.1 rfl (Nat.le_of_ble_eq_true rfl) dX6_plainMean_49 ⟨(Nat.le_of_ble_eq_true rfl), (Nat.le_of_ble_eq_true rfl)⟩ (fun u H locs hφ hP hD hK hS hk => ?_)
  have hP : va_P D vwCl [(h0, .inr (6, [.int 0, .ref h1, v1, v2, v3, v4, v5, .int 2, v6, v7, v8, v9, v10, v11, v12, v13, v14, v15, v16, v17, v18, v19, v20, v21, v22, v23, v24])), (h1, .inl (a0, 609, .inr (.inl f0)))] H := hP
  have hD : va_D A [(h0, .inr (6, [.int 0, .ref h1, v1, v2, v3, v4, v5, .int 2, v6, v7, v8, v9, v10, v11, v12, v13, v14, v15, v16, v17, v18, v19, v20, v21, v22, v23, v24])), (h1, .inl (a0, 609, .inr (.inl f0)))] := hD
  have hK : va_K D vwCl [(a0, .long)] s := hK
  refine W.widen (k := 0) (n := 0) (Nat.le_of_ble_eq_true rfl) (Nat.le_of_ble_eq_true rfl) ?_
  refine lv_i2d hx hb dX6_plainMean_52 ?_
  refine lv_ddiv hx hb dX6_plainMean_53 (by unfold vf_n64; decide +kernel) ?_
  exact fd hx hb hr hlocks hP hD hK hS (()) trivial rfl [0, 1] [0] rfl (by decide) rfl (Nat.le_of_ble_eq_true rfl) (Nat.le_of_ble_eq_true rfl) dX6_plainMean_54
