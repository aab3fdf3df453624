set_option maxHeartbeats 4000000 in
set_option maxRecDepth 100000 in
theorem cX3_hasRoom_300 (l : Launch) (D : va_G) (h0 : Nat) (v0 : Value) (v1 : Value) (v2 : Value) (v3 : Value) (v4 : Value) (v5 : Value) (v6 : Value)   : CT l yX3_hasRoom cX3_hasRoom 1 (some .boolean) { frames := 0, cells := 0, slots := 0, locals := 0 } [.ref h0] D [(h0, .inr (3, [v0, .int 0, v1, v2, v3, v4, v5, v6]))] [] XN [] (ei (fun _ : Unit => True) (fun _ => 1) (fun _ => []) (fun _ => []) D) 0 0 := by
  refine CT.ofR (by decide +kernel) (Nat.le_of_ble_eq_true rfl) ?_
  intro p e s m below meth c A ls hcs hP hK hD hX hA hS hl
  obtain ⟨hx, hb, hr, hml, hown, hg, hlocks, hin⟩ := hcs
  have hown : s.vm.findClass RX3 = some m.cls := hown
  have hl : lv_has ls 1 [(0, .ref h0)] := hl
  refine lv_aload_n hx hb dX3_hasRoom_0 rfl (lv_at hl 0 rfl) ?_
  refine va_get (D := D) (ci := 3) (v := .int 0) (C := RX3) (T := TX3) (N := 8) hx hb hg inX3 hown hK hP 0 rfl rfl 1 (by decide) (hg _ k120) (fun _ h9 => h9) rfl dX3_hasRoom_1 ?_
  refine lv_bipush (v := 20) hx hb dX3_hasRoom_4 (by decide) ?_
  refine lv_iadd hx hb dX3_hasRoom_6 ?_
  refine ti (20) (by decide) ?_
  refine lv_sipush (v := 700) hx hb dX3_hasRoom_7 (by decide) ?_
  refine lv_icmp_gt (tgt := 17) hx hb dX3_hasRoom_10 (by decide) (fun c9 => absurd c9 (by decide)) (fun _ => ?_)
  refine lv_iconst (v := 1) hx hb dX3_hasRoom_13 (by decide) ?_
  refine lv_goto (tgt := 18) hx hb dX3_hasRoom_14 (by decide) ?_
  exact fz0 hx hb hr rfl hlocks hK hS (Nat.le_of_ble_eq_true rfl) (Nat.le_of_ble_eq_true rfl) dX3_hasRoom_18
set_option maxHeartbeats 4000000 in
set_option maxRecDepth 100000 in
theorem cX3_addInt_301 (l : Launch) (D : va_G) (h0 : Nat) (x0 : Int32) (h1 : Nat) (v0 : Value) (v1 : Value) (v2 : Value) (v3 : Value) (v4 : Value) (v5 : Value) (f0 : Nat → Int32) (a0 : ClassId)   : CT l yX3_addInt cX3_addInt 3 none { frames := 0, cells := 0, slots := 0, locals := 0 } [.ref h0, .int x0] D [(h0, .inr (3, [.ref h1, .int 0, v0, v1, v2, v3, v4, v5])), (h1, .inl (a0, 700, .inl f0))] [(a0, .byte)] XN [(h0, .inr (3, [.ref h1, .int 0, v0, v1, v2, v3, v4, v5])), (h1, .inl (a0, 700, .inl f0))] (ev (fun _ : (Nat → Int32) => True) (fun u => [(h0, .inr (3, [.ref h1, .int 4, v0, v1, v2, v3, v4, v5])), (h1, .inl (a0, 700, .inl u))]) (fun u => [(a0, .byte)]) D) 0 0 := by
  refine CT.ofW (by decide +kernel) (Nat.le_of_ble_eq_true rfl) ?_
  intro p e s m below meth c A ls hcs hP hK hD hX hA hS hl
  obtain ⟨hx, hb, hr, hml, hown, hg, hlocks, hin⟩ := hcs
  have hown : s.vm.findClass RX3 = some m.cls := hown
  have hl : lv_has ls 3 [(0, .ref h0), (1, .int x0)] := hl
  refine lv_bipush (v := 24) hx hb dX3_addInt_0 (by decide) ?_
  refine lv_istore_n (lv' := [(2, .int 24), (0, .ref h0), (1, .int x0)]) hx hb dX3_addInt_2 rfl hl (by decide) rfl (fun ls hl => ?_)
  refine lv_iload_n hx hb dX3_addInt_3 rfl (lv_at hl 0 rfl) ?_
  refine lv_if_lt (tgt := 46) hx hb dX3_addInt_4 (by decide) (fun c9 => absurd c9 (by decide)) (fun _ => ?_)
  refine lv_aload_n hx hb dX3_addInt_7 rfl (lv_at hl 1 rfl) ?_
  refine va_get (D := D) (ci := 3) (v := .int 0) (C := RX3) (T := TX3) (N := 8) hx hb hg inX3 hown hK hP 0 rfl rfl 1 (by decide) (hg _ k120) (fun _ h9 => h9) rfl dX3_addInt_8 ?_
  refine lv_sipush (v := 700) hx hb dX3_addInt_11 (by decide) ?_
  refine lv_icmp_ge (tgt := 46) hx hb dX3_addInt_14 (by decide) (fun c9 => absurd c9 (by decide)) (fun _ => ?_)
  refine lv_aload_n hx hb dX3_addInt_17 rfl (lv_at hl 1 rfl) ?_
  refine va_get (D := D) (ci := 3) (v := .ref h1) (C := RX3) (T := TX3) (N := 8) hx hb hg inX3 hown hK hP 0 rfl rfl 0 (by decide) (hg _ k119) (fun _ h9 => h9) rfl dX3_addInt_18 ?_
  refine lv_aload_n hx hb dX3_addInt_21 rfl (lv_at hl 1 rfl) ?_
  refine va_get (D := D) (ci := 3) (v := .int 0) (C := RX3) (T := TX3) (N := 8) hx hb hg inX3 hown hK hP 0 rfl rfl 1 (by decide) (hg _ k120) (fun _ h9 => h9) rfl dX3_addInt_22 ?_
  refine lv_iload_n hx hb dX3_addInt_25 rfl (lv_at hl 2 rfl) ?_
  refine lv_iload_n hx hb dX3_addInt_26 rfl (lv_at hl 0 rfl) ?_
  refine lv_ishr hx hb dX3_addInt_27 ?_
  refine lv_topi (fun t1 et1 => ?_)
  refine lv_i2b hx hb dX3_addInt_28 rfl ?_
  refine lv_topi (fun t2 et2 => ?_)
  obtain ⟨b3, eb3⟩ : ∃ z : Int32, vp_nar .byte t2 = z := ⟨_, rfl⟩
  refine astB hx hb hK hP hD hS 1 0 rfl rfl 0 (by decide) (vin (by decide)) (v := b3) eb3 dX3_addInt_29 (fun H locs hP hD hS => ?_)
  have hP : va_P D vwCl [(h0, .inr (3, [.ref h1, .int 0, v0, v1, v2, v3, v4, v5])), (h1, .inl (a0, 700, .inl (upd f0 0 b3)))] H := hP
  have hD : va_D A [(h0, .inr (3, [.ref h1, .int 0, v0, v1, v2, v3, v4, v5])), (h1, .inl (a0, 700, .inl (upd f0 0 b3)))] := hD
  refine lv_aload_n hx hb dX3_addInt_30 rfl (lv_at hl 1 rfl) ?_
  refine lv_dup hx hb dX3_addInt_31 rfl ?_
  refine va_get (D := D) (ci := 3) (v := .int 0) (C := RX3) (T := TX3) (N := 8) hx hb hg inX3 hown hK hP 0 rfl rfl 1 (by decide) (hg _ k120) (fun _ h9 => h9) rfl dX3_addInt_32 ?_
  refine lv_iconst (v := 1) hx hb dX3_addInt_35 (by decide) ?_
  refine lv_iadd hx hb dX3_addInt_36 ?_
  refine ti (1) (by decide) ?_
  refine va_put (D := D) (ci := 3) (v := .int 1) (ty := .int) (C := RX3) (T := TX3) (N := 8) hx hb hg inX3 tyX3 tyX3_ok nmX3 hown hK hP hD hS 0 rfl rfl 1 (by decide) (hg _ k120) (fun _ h9 => h9) rfl (by decide +kernel) rfl rfl (Nat.le_of_ble_eq_true rfl) dX3_addInt_37 (fun H locs hP hD hS => ?_)
  have hP : va_P D vwCl [(h0, .inr (3, [.ref h1, .int 1, v0, v1, v2, v3, v4, v5])), (h1, .inl (a0, 700, .inl (upd f0 0 b3)))] H := hP
  have hD : va_D A [(h0, .inr (3, [.ref h1, .int 1, v0, v1, v2, v3, v4, v5])), (h1, .inl (a0, 700, .inl (upd f0 0 b3)))] := hD
  refine lv_iinc (v := 16) (lv' := [(2, .int 16), (0, .ref h0), (1, .int x0)]) hx hb dX3_addInt_40 hl (k := 0) rfl (by decide) (by decide) rfl (fun ls hl => ?_)
  refine lv_goto (tgt := 3) hx hb dX3_addInt_43 (by decide) ?_
  refine lv_iload_n hx hb dX3_addInt_3 rfl (lv_at hl 0 rfl) ?_
  refine lv_if_lt (tgt := 46) hx hb dX3_addInt_4 (by decide) (fun c9 => absurd c9 (by decide)) (fun _ => ?_)
  refine lv_aload_n hx hb dX3_addInt_7 rfl (lv_at hl 1 rfl) ?_
  refine va_get (D := D) (ci := 3) (v := .int 1) (C := RX3) (T := TX3) (N := 8) hx hb hg inX3 hown hK hP 0 rfl rfl 1 (by decide) (hg _ k120) (fun _ h9 => h9) rfl dX3_addInt_8 ?_
  refine lv_sipush (v := 700) hx hb dX3_addInt_11 (by decide) ?_
  refine lv_icmp_ge (tgt := 46) hx hb dX3_addInt_14 (by decide) (fun c9 => absurd c9 (by decide)) (fun _ => ?_)
  refine lv_aload_n hx hb dX3_addInt_17 rfl (lv_at hl 1 rfl) ?_
  refine va_get (D := D) (ci := 3) (v := .ref h1) (C := RX3) (T := TX3) (N := 8) hx hb hg inX3 hown hK hP 0 rfl rfl 0 (by decide) (hg _ k119) (fun _ h9 => h9) rfl dX3_addInt_18 ?_
  refine lv_aload_n hx hb dX3_addInt_21 rfl (lv_at hl 1 rfl) ?_
  refine va_get (D := D) (ci := 3) (v := .int 1) (C := RX3) (T := TX3) (N := 8) hx hb hg inX3 hown hK hP 0 rfl rfl 1 (by decide) (hg _ k120) (fun _ h9 => h9) rfl dX3_addInt_22 ?_
  refine lv_iload_n hx hb dX3_addInt_25 rfl (lv_at hl 2 rfl) ?_
  refine lv_iload_n hx hb dX3_addInt_26 rfl (lv_at hl 0 rfl) ?_
  refine lv_ishr hx hb dX3_addInt_27 ?_
  refine lv_topi (fun t4 et4 => ?_)
  refine lv_i2b hx hb dX3_addInt_28 rfl ?_
  refine lv_topi (fun t5 et5 => ?_)
  obtain ⟨b6, eb6⟩ : ∃ z : Int32, vp_nar .byte t5 = z := ⟨_, rfl⟩
  refine astB hx hb hK hP hD hS 1 0 rfl rfl 1 (by decide) (vin (by decide)) (v := b6) eb6 dX3_addInt_29 (fun H locs hP hD hS => ?_)
  have hP : va_P D vwCl [(h0, .inr (3, [.ref h1, .int 1, v0, v1, v2, v3, v4, v5])), (h1, .inl (a0, 700, .inl (upd (upd f0 0 b3) 1 b6)))] H := hP
  have hD : va_D A [(h0, .inr (3, [.ref h1, .int 1, v0, v1, v2, v3, v4, v5])), (h1, .inl (a0, 700, .inl (upd (upd f0 0 b3) 1 b6)))] := hD
  refine lv_aload_n hx hb dX3_addInt_30 rfl (lv_at hl 1 rfl) ?_
  refine lv_dup hx hb dX3_addInt_31 rfl ?_
  refine va_get (D := D) (ci := 3) (v := .int 1) (C := RX3) (T := TX3) (N := 8) hx hb hg inX3 hown hK hP 0 rfl rfl 1 (by decide) (hg _ k120) (fun _ h9 => h9) rfl dX3_addInt_32 ?_
  refine lv_iconst (v := 1) hx hb dX3_addInt_35 (by decide) ?_
  refine lv_iadd hx hb dX3_addInt_36 ?_
  refine ti (2) (by decide) ?_
  refine va_put (D := D) (ci := 3) (v := .int 2) (ty := .int) (C := RX3) (T := TX3) (N := 8) hx hb hg inX3 tyX3 tyX3_ok nmX3 hown hK hP hD hS 0 rfl rfl 1 (by decide) (hg _ k120) (fun _ h9 => h9) rfl (by decide +kernel) rfl rfl (Nat.le_of_ble_eq_true rfl) dX3_addInt_37 (fun H locs hP hD hS => ?_)
  have hP : va_P D vwCl [(h0, .inr (3, [.ref h1, .int 2, v0, v1, v2, v3, v4, v5])), (h1, .inl (a0, 700, .inl (upd (upd f0 0 b3) 1 b6)))] H := hP
  have hD : va_D A [(h0, .inr (3, [.ref h1, .int 2, v0, v1, v2, v3, v4, v5])), (h1, .inl (a0, 700, .inl (upd (upd f0 0 b3) 1 b6)))] := hD
  refine lv_iinc (v := 8) (lv' := [(2, .int 8), (0, .ref h0), (1, .int x0)]) hx hb dX3_addInt_40 hl (k := 0) rfl (by decide) (by decide) rfl (fun ls hl => ?_)
  refine lv_goto (tgt := 3) hx hb dX3_addInt_43 (by decide) ?_
  refine lv_iload_n hx hb dX3_addInt_3 rfl (lv_at hl 0 rfl) ?_
  refine lv_if_lt (tgt := 46) hx hb dX3_addInt_4 (by decide) (fun c9 => absurd c9 (by decide)) (fun _ => ?_)
  refine lv_aload_n hx hb dX3_addInt_7 rfl (lv_at hl 1 rfl) ?_
  refine va_get (D := D) (ci := 3) (v := .int 2) (C := RX3) (T := TX3) (N := 8) hx hb hg inX3 hown hK hP 0 rfl rfl 1 (by decide) (hg _ k120) (fun _ h9 => h9) rfl dX3_addInt_8 ?_
  refine lv_sipush (v := 700) hx hb dX3_addInt_11 (by decide) ?_
  refine lv_icmp_ge (tgt := 46) hx hb dX3_addInt_14 (by decide) (fun c9 => absurd c9 (by decide)) (fun _ => ?_)
  refine lv_aload_n hx hb dX3_addInt_17 rfl (lv_at hl 1 rfl) ?_
  refine va_get (D := D) (ci := 3) (v := .ref h1) (C := RX3) (T := TX3) (N := 8) hx hb hg inX3 hown hK hP 0 rfl rfl 0 (by decide) (hg _ k119) (fun _ h9 => h9) rfl dX3_addInt_18 ?_
  refine lv_aload_n hx hb dX3_addInt_21 rfl (lv_at hl 1 rfl) ?_
  refine va_get (D := D) (ci := 3) (v := .int 2) (C := RX3) (T := TX3) (N := 8) hx hb hg inX3 hown hK hP 0 rfl rfl 1 (by decide) (hg _ k120) (fun _ h9 => h9) rfl dX3_addInt_22 ?_
  refine lv_iload_n hx hb dX3_addInt_25 rfl (lv_at hl 2 rfl) ?_
  refine lv_iload_n hx hb dX3_addInt_26 rfl (lv_at hl 0 rfl) ?_
  refine lv_ishr hx hb dX3_addInt_27 ?_
  refine lv_topi (fun t7 et7 => ?_)
  refine lv_i2b hx hb dX3_addInt_28 rfl ?_
  refine lv_topi (fun t8 et8 => ?_)
  obtain ⟨b9, eb9⟩ : ∃ z : Int32, vp_nar .byte t8 = z := ⟨_, rfl⟩
  refine astB hx hb hK hP hD hS 1 0 rfl rfl 2 (by decide) (vin (by decide)) (v := b9) eb9 dX3_addInt_29 (fun H locs hP hD hS => ?_)
  have hP : va_P D vwCl [(h0, .inr (3, [.ref h1, .int 2, v0, v1, v2, v3, v4, v5])), (h1, .inl (a0, 700, .inl (upd (upd (upd f0 0 b3) 1 b6) 2 b9)))] H := hP
  have hD : va_D A [(h0, .inr (3, [.ref h1, .int 2, v0, v1, v2, v3, v4, v5])), (h1, .inl (a0, 700, .inl (upd (upd (upd f0 0 b3) 1 b6) 2 b9)))] := hD
  refine lv_aload_n hx hb dX3_addInt_30 rfl (lv_at hl 1 rfl) ?_
  refine lv_dup hx hb dX3_addInt_31 rfl ?_
  refine va_get (D := D) (ci := 3) (v := .int 2) (C := RX3) (T := TX3) (N := 8) hx hb hg inX3 hown hK hP 0 rfl rfl 1 (by decide) (hg _ k120) (fun _ h9 => h9) rfl dX3_addInt_32 ?_
  refine lv_iconst (v := 1) hx hb dX3_addInt_35 (by decide) ?_
  refine lv_iadd hx hb dX3_addInt_36 ?_
  refine ti (3) (by decide) ?_
  refine va_put (D := D) (ci := 3) (v := .int 3) (ty := .int) (C := RX3) (T := TX3) (N := 8) hx hb hg inX3 tyX3 tyX3_ok nmX3 hown hK hP hD hS 0 rfl rfl 1 (by decide) (hg _ k120) (fun _ h9 => h9) rfl (by decide +kernel) rfl rfl (Nat.le_of_ble_eq_true rfl) dX3_addInt_37 (fun H locs hP hD hS => ?_)
  have hP : va_P D vwCl [(h0, .inr (3, [.ref h1, .int 3, v0, v1, v2, v3, v4, v5])), (h1, .inl (a0, 700, .inl (upd (upd (upd f0 0 b3) 1 b6) 2 b9)))] H := hP
  have hD : va_D A [(h0, .inr (3, [.ref h1, .int 3, v0, v1, v2, v3, v4, v5])), (h1, .inl (a0, 700, .inl (upd (upd (upd f0 0 b3) 1 b6) 2 b9)))] := hD
  refine lv_iinc (v := 0) (lv' := [(2, .int 0), (0, .ref h0), (1, .int x0)]) hx hb dX3_addInt_40 hl (k := 0) rfl (by decide) (by decide) rfl (fun ls hl => ?_)
  refine lv_goto (tgt := 3) hx hb dX3_addInt_43 (by decide) ?_
  refine lv_iload_n hx hb dX3_addInt_3 rfl (lv_at hl 0 rfl) ?_
  refine lv_if_lt (tgt := 46) hx hb dX3_addInt_4 (by decide) (fun c9 => absurd c9 (by decide)) (fun _ => ?_)
  refine lv_aload_n hx hb dX3_addInt_7 rfl (lv_at hl 1 rfl) ?_
  refine va_get (D := D) (ci := 3) (v := .int 3) (C := RX3) (T := TX3) (N := 8) hx hb hg inX3 hown hK hP 0 rfl rfl 1 (by decide) (hg _ k120) (fun _ h9 => h9) rfl dX3_addInt_8 ?_
  refine lv_sipush (v := 700) hx hb dX3_addInt_11 (by decide) ?_
  refine lv_icmp_ge (tgt := 46) hx hb dX3_addInt_14 (by decide) (fun c9 => absurd c9 (by decide)) (fun _ => ?_)
  refine lv_aload_n hx hb dX3_addInt_17 rfl (lv_at hl 1 rfl) ?_
  refine va_get (D := D) (ci := 3) (v := .ref h1) (C := RX3) (T := TX3) (N := 8) hx hb hg inX3 hown hK hP 0 rfl rfl 0 (by decide) (hg _ k119) (fun _ h9 => h9) rfl dX3_addInt_18 ?_
  refine lv_aload_n hx hb dX3_addInt_21 rfl (lv_at hl 1 rfl) ?_
  refine va_get (D := D) (ci := 3) (v := .int 3) (C := RX3) (T := TX3) (N := 8) hx hb hg inX3 hown hK hP 0 rfl rfl 1 (by decide) (hg _ k120) (fun _ h9 => h9) rfl dX3_addInt_22 ?_
  refine lv_iload_n hx hb dX3_addInt_25 rfl (lv_at hl 2 rfl) ?_
  refine lv_iload_n hx hb dX3_addInt_26 rfl (lv_at hl 0 rfl) ?_
  refine lv_ishr hx hb dX3_addInt_27 ?_
  refine lv_topi (fun t10 et10 => ?_)
  refine lv_i2b hx hb dX3_addInt_28 rfl ?_
  refine lv_topi (fun t11 et11 => ?_)
  obtain ⟨b12, eb12⟩ : ∃ z : Int32, vp_nar .byte t11 = z := ⟨_, rfl⟩
  refine astB hx hb hK hP hD hS 1 0 rfl rfl 3 (by decide) (vin (by decide)) (v := b12) eb12 dX3_addInt_29 (fun H locs hP hD hS => ?_)
  have hP : va_P D vwCl [(h0, .inr (3, [.ref h1, .int 3, v0, v1, v2, v3, v4, v5])), (h1, .inl (a0, 700, .inl (upd (upd (upd (upd f0 0 b3) 1 b6) 2 b9) 3 b12)))] H := hP
  have hD : va_D A [(h0, .inr (3, [.ref h1, .int 3, v0, v1, v2, v3, v4, v5])), (h1, .inl (a0, 700, .inl (upd (upd (upd (upd f0 0 b3) 1 b6) 2 b9) 3 b12)))] := hD
  refine lv_aload_n hx hb dX3_addInt_30 rfl (lv_at hl 1 rfl) ?_
  refine lv_dup hx hb dX3_addInt_31 rfl ?_
  refine va_get (D := D) (ci := 3) (v := .int 3) (C := RX3) (T := TX3) (N := 8) hx hb hg inX3 hown hK hP 0 rfl rfl 1 (by decide) (hg _ k120) (fun _ h9 => h9) rfl dX3_addInt_32 ?_
  refine lv_iconst (v := 1) hx hb dX3_addInt_35 (by decide) ?_
  refine lv_iadd hx hb dX3_addInt_36 ?_
  refine ti (4) (by decide) ?_
  refine va_put (D := D) (ci := 3) (v := .int 4) (ty := .int) (C := RX3) (T := TX3) (N := 8) hx hb hg inX3 tyX3 tyX3_ok nmX3 hown hK hP hD hS 0 rfl rfl 1 (by decide) (hg _ k120) (fun _ h9 => h9) rfl (by decide +kernel) rfl rfl (Nat.le_of_ble_eq_true rfl) dX3_addInt_37 (fun H locs hP hD hS => ?_)
  have hP : va_P D vwCl [(h0, .inr (3, [.ref h1, .int 4, v0, v1, v2, v3, v4, v5])), (h1, .inl (a0, 700, .inl (upd (upd (upd (upd f0 0 b3) 1 b6) 2 b9) 3 b12)))] H := hP
  have hD : va_D A [(h0, .inr (3, [.ref h1, .int 4, v0, v1, v2, v3, v4, v5])), (h1, .inl (a0, 700, .inl (upd (upd (upd (upd f0 0 b3) 1 b6) 2 b9) 3 b12)))] := hD
  refine lv_iinc (v := (-8)) (lv' := [(2, .int (-8)), (0, .ref h0), (1, .int x0)]) hx hb dX3_addInt_40 hl (k := 0) rfl (by decide) (by decide) rfl (fun ls hl => ?_)
  refine lv_goto (tgt := 3) hx hb dX3_addInt_43 (by decide) ?_
  refine lv_iload_n hx hb dX3_addInt_3 rfl (lv_at hl 0 rfl) ?_
  refine lv_if_lt (tgt := 46) hx hb dX3_addInt_4 (by decide) (fun _ => ?_) (fun c9 => absurd (by decide) c9)
  exact fv hx hb hr hlocks hP hD hK hS (upd (upd (upd (upd f0 0 b3) 1 b6) 2 b9) 3 b12) trivial [0, 1] [0] rfl (by decide) rfl (Nat.le_of_ble_eq_true rfl) (Nat.le_of_ble_eq_true rfl) dX3_addInt_46
set_option maxHeartbeats 4000000 in
set_option maxRecDepth 100000 in
theorem cX3_addInt_302 (l : Launch) (D : va_G) (h0 : Nat) (x0 : Int32) (h1 : Nat) (v0 : Value) (v1 : Value) (v2 : Value) (v3 : Value) (v4 : Value) (v5 : Value) (f0 : Nat → Int32) (a0 : ClassId)   : CT l yX3_addInt cX3_addInt 3 none { frames := 0, cells := 0, slots := 0, locals := 0 } [.ref h0, .int x0] D [(h0, .inr (3, [.ref h1, .int 4, v0, v1, v2, v3, v4, v5])), (h1, .inl (a0, 700, .inl f0))] [(a0, .byte)] XN [(h0, .inr (3, [.ref h1, .int 4, v0, v1, v2, v3, v4, v5])), (h1, .inl (a0, 700, .inl f0))] (ev (fun _ : (Nat → Int32) => True) (fun u => [(h0, .inr (3, [.ref h1, .int 8, v0, v1, v2, v3, v4, v5])), (h1, .inl (a0, 700, .inl u))]) (fun u => [(a0, .byte)]) D) 0 0 := by
  refine CT.ofW (by decide +kernel) (Nat.le_of_ble_eq_true rfl) ?_
  intro p e s m below meth c A ls hcs hP hK hD hX hA hS hl
  obtain ⟨hx, hb, hr, hml, hown, hg, hlocks, hin⟩ := hcs
  have hown : s.vm.findClass RX3 = some m.cls := hown
  have hl : lv_has ls 3 [(0, .ref h0), (1, .int x0)] := hl
  refine lv_bipush (v := 24) hx hb dX3_addInt_0 (by decide) ?_
  refine lv_istore_n (lv' := [(2, .int 24), (0, .ref h0), (1, .int x0)]) hx hb dX3_addInt_2 rfl hl (by decide) rfl (fun ls hl => ?_)
  refine lv_iload_n hx hb dX3_addInt_3 rfl (lv_at hl 0 rfl) ?_
  refine lv_if_lt (tgt := 46) hx hb dX3_addInt_4 (by decide) (fun c9 => absurd c9 (by decide)) (fun _ => ?_)
  refine lv_aload_n hx hb dX3_addInt_7 rfl (lv_at hl 1 rfl) ?_
  refine va_get (D := D) (ci := 3) (v := .int 4) (C := RX3) (T := TX3) (N := 8) hx hb hg inX3 hown hK hP 0 rfl rfl 1 (by decide) (hg _ k120) (fun _ h9 => h9) rfl dX3_addInt_8 ?_
  refine lv_sipush (v := 700) hx hb dX3_addInt_11 (by decide) ?_
  refine lv_icmp_ge (tgt := 46) hx hb dX3_addInt_14 (by decide) (fun c9 => absurd c9 (by decide)) (fun _ => ?_)
  refine lv_aload_n hx hb dX3_addInt_17 rfl (lv_at hl 1 rfl) ?_
  refine va_get (D := D) (ci := 3) (v := .ref h1) (C := RX3) (T := TX3) (N := 8) hx hb hg inX3 hown hK hP 0 rfl rfl 0 (by decide) (hg _ k119) (fun _ h9 => h9) rfl dX3_addInt_18 ?_
  refine lv_aload_n hx hb dX3_addInt_21 rfl (lv_at hl 1 rfl) ?_
  refine va_get (D := D) (ci := 3) (v := .int 4) (C := RX3) (T := TX3) (N := 8) hx hb hg inX3 hown hK hP 0 rfl rfl 1 (by decide) (hg _ k120) (fun _ h9 => h9) rfl dX3_addInt_22 ?_
  refine lv_iload_n hx hb dX3_addInt_25 rfl (lv_at hl 2 rfl) ?_
  refine lv_iload_n hx hb dX3_addInt_26 rfl (lv_at hl 0 rfl) ?_
  refine lv_ishr hx hb dX3_addInt_27 ?_
  refine lv_topi (fun t1 et1 => ?_)
  refine lv_i2b hx hb dX3_addInt_28 rfl ?_
  refine lv_topi (fun t2 et2 => ?_)
  obtain ⟨b3, eb3⟩ : ∃ z : Int32, vp_nar .byte t2 = z := ⟨_, rfl⟩
  refine astB hx hb hK hP hD hS 1 0 rfl rfl 4 (by decide) (vin (by decide)) (v := b3) eb3 dX3_addInt_29 (fun H locs hP hD hS => ?_)
  have hP : va_P D vwCl [(h0, .inr (3, [.ref h1, .int 4, v0, v1, v2, v3, v4, v5])), (h1, .inl (a0, 700, .inl (upd f0 4 b3)))] H := hP
  have hD : va_D A [(h0, .inr (3, [.ref h1, .int 4, v0, v1, v2, v3, v4, v5])), (h1, .inl (a0, 700, .inl (upd f0 4 b3)))] := hD
  refine lv_aload_n hx hb dX3_addInt_30 rfl (lv_at hl 1 rfl) ?_
  refine lv_dup hx hb dX3_addInt_31 rfl ?_
  refine va_get (D := D) (ci := 3) (v := .int 4) (C := RX3) (T := TX3) (N := 8) hx hb hg inX3 hown hK hP 0 rfl rfl 1 (by decide) (hg _ k120) (fun _ h9 => h9) rfl dX3_addInt_32 ?_
  refine lv_iconst (v := 1) hx hb dX3_addInt_35 (by decide) ?_
  refine lv_iadd hx hb dX3_addInt_36 ?_
  refine ti (5) (by decide) ?_
  refine va_put (D := D) (ci := 3) (v := .int 5) (ty := .int) (C := RX3) (T := TX3) (N := 8) hx hb hg inX3 tyX3 tyX3_ok nmX3 hown hK hP hD hS 0 rfl rfl 1 (by decide) (hg _ k120) (fun _ h9 => h9) rfl (by decide +kernel) rfl rfl (Nat.le_of_ble_eq_true rfl) dX3_addInt_37 (fun H locs hP hD hS => ?_)
  have hP : va_P D vwCl [(h0, .inr (3, [.ref h1, .int 5, v0, v1, v2, v3, v4, v5])), (h1, .inl (a0, 700, .inl (upd f0 4 b3)))] H := hP
  have hD : va_D A [(h0, .inr (3, [.ref h1, .int 5, v0, v1, v2, v3, v4, v5])), (h1, .inl (a0, 700, .inl (upd f0 4 b3)))] := hD
  refine lv_iinc (v := 16) (lv' := [(2, .int 16), (0, .ref h0), (1, .int x0)]) hx hb dX3_addInt_40 hl (k := 0) rfl (by decide) (by decide) rfl (fun ls hl => ?_)
  refine lv_goto (tgt := 3) hx hb dX3_addInt_43 (by decide) ?_
  refine lv_iload_n hx hb dX3_addInt_3 rfl (lv_at hl 0 rfl) ?_
  refine lv_if_lt (tgt := 46) hx hb dX3_addInt_4 (by decide) (fun c9 => absurd c9 (by decide)) (fun _ => ?_)
  refine lv_aload_n hx hb dX3_addInt_7 rfl (lv_at hl 1 rfl) ?_
  refine va_get (D := D) (ci := 3) (v := .int 5) (C := RX3) (T := TX3) (N := 8) hx hb hg inX3 hown hK hP 0 rfl rfl 1 (by decide) (hg _ k120) (fun _ h9 => h9) rfl dX3_addInt_8 ?_
  refine lv_sipush (v := 700) hx hb dX3_addInt_11 (by decide) ?_
  refine lv_icmp_ge (tgt := 46) hx hb dX3_addInt_14 (by decide) (fun c9 => absurd c9 (by decide)) (fun _ => ?_)
  refine lv_aload_n hx hb dX3_addInt_17 rfl (lv_at hl 1 rfl) ?_
  refine va_get (D := D) (ci := 3) (v := .ref h1) (C := RX3) (T := TX3) (N := 8) hx hb hg inX3 hown hK hP 0 rfl rfl 0 (by decide) (hg _ k119) (fun _ h9 => h9) rfl dX3_addInt_18 ?_
  refine lv_aload_n hx hb dX3_addInt_21 rfl (lv_at hl 1 rfl) ?_
  refine va_get (D := D) (ci := 3) (v := .int 5) (C := RX3) (T := TX3) (N := 8) hx hb hg inX3 hown hK hP 0 rfl rfl 1 (by decide) (hg _ k120) (fun _ h9 => h9) rfl dX3_addInt_22 ?_
  refine lv_iload_n hx hb dX3_addInt_25 rfl (lv_at hl 2 rfl) ?_
  refine lv_iload_n hx hb dX3_addInt_26 rfl (lv_at hl 0 rfl) ?_
  refine lv_ishr hx hb dX3_addInt_27 ?_
  refine lv_topi (fun t4 et4 => ?_)
  refine lv_i2b hx hb dX3_addInt_28 rfl ?_
  refine lv_topi (fun t5 et5 => ?_)
  obtain ⟨b6, eb6⟩ : ∃ z : Int32, vp_nar .byte t5 = z := ⟨_, rfl⟩
  refine astB hx hb hK hP hD hS 1 0 rfl rfl 5 (by decide) (vin (by decide)) (v := b6) eb6 dX3_addInt_29 (fun H locs hP hD hS => ?_)
  have hP : va_P D vwCl [(h0, .inr (3, [.ref h1, .int 5, v0, v1, v2, v3, v4, v5])), (h1, .inl (a0, 700, .inl (upd (upd f0 4 b3) 5 b6)))] H := hP
  have hD : va_D A [(h0, .inr (3, [.ref h1, .int 5, v0, v1, v2, v3, v4, v5])), (h1, .inl (a0, 700, .inl (upd (upd f0 4 b3) 5 b6)))] := hD
  refine lv_aload_n hx hb dX3_addInt_30 rfl (lv_at hl 1 rfl) ?_
  refine lv_dup hx hb dX3_addInt_31 rfl ?_
  refine va_get (D := D) (ci := 3) (v := .int 5) (C := RX3) (T := TX3) (N := 8) hx hb hg inX3 hown hK hP 0 rfl rfl 1 (by decide) (hg _ k120) (fun _ h9 => h9) rfl dX3_addInt_32 ?_
  refine lv_iconst (v := 1) hx hb dX3_addInt_35 (by decide) ?_
  refine lv_iadd hx hb dX3_addInt_36 ?_
  refine ti (6) (by decide) ?_
  refine va_put (D := D) (ci := 3) (v := .int 6) (ty := .int) (C := RX3) (T := TX3) (N := 8) hx hb hg inX3 tyX3 tyX3_ok nmX3 hown hK hP hD hS 0 rfl rfl 1 (by decide) (hg _ k120) (fun _ h9 => h9) rfl (by decide +kernel) rfl rfl (Nat.le_of_ble_eq_true rfl) dX3_addInt_37 (fun H locs hP hD hS => ?_)
  have hP : va_P D vwCl [(h0, .inr (3, [.ref h1, .int 6, v0, v1, v2, v3, v4, v5])), (h1, .inl (a0, 700, .inl (upd (upd f0 4 b3) 5 b6)))] H := hP
  have hD : va_D A [(h0, .inr (3, [.ref h1, .int 6, v0, v1, v2, v3, v4, v5])), (h1, .inl (a0, 700, .inl (upd (upd f0 4 b3) 5 b6)))] := hD
  refine lv_iinc (v := 8) (lv' := [(2, .int 8), (0, .ref h0), (1, .int x0)]) hx hb dX3_addInt_40 hl (k := 0) rfl (by decide) (by decide) rfl (fun ls hl => ?_)
  refine lv_goto (tgt := 3) hx hb dX3_addInt_43 (by decide) ?_
  refine lv_iload_n hx hb dX3_addInt_3 rfl (lv_at hl 0 rfl) ?_
  refine lv_if_lt (tgt := 46) hx hb dX3_addInt_4 (by decide) (fun c9 => absurd c9 (by decide)) (fun _ => ?_)
  refine lv_aload_n hx hb dX3_addInt_7 rfl (lv_at hl 1 rfl) ?_
  refine va_get (D := D) (ci := 3) (v := .int 6) (C := RX3) (T := TX3) (N := 8) hx hb hg inX3 hown hK hP 0 rfl rfl 1 (by decide) (hg _ k120) (fun _ h9 => h9) rfl dX3_addInt_8 ?_
  refine lv_sipush (v := 700) hx hb dX3_addInt_11 (by decide) ?_
  refine lv_icmp_ge (tgt := 46) hx hb dX3_addInt_14 (by decide) (fun c9 => absurd c9 (by decide)) (fun _ => ?_)
  refine lv_aload_n hx hb dX3_addInt_17 rfl (lv_at hl 1 rfl) ?_
  refine va_get (D := D) (ci := 3) (v := .ref h1) (C := RX3) (T := TX3) (N := 8) hx hb hg inX3 hown hK hP 0 rfl rfl 0 (by decide) (hg _ k119) (fun _ h9 => h9) rfl dX3_addInt_18 ?_
  refine lv_aload_n hx hb dX3_addInt_21 rfl (lv_at hl 1 rfl) ?_
  refine va_get (D := D) (ci := 3) (v := .int 6) (C := RX3) (T := TX3) (N := 8) hx hb hg inX3 hown hK hP 0 rfl rfl 1 (by decide) (hg _ k120) (fun _ h9 => h9) rfl dX3_addInt_22 ?_
  refine lv_iload_n hx hb dX3_addInt_25 rfl (lv_at hl 2 rfl) ?_
  refine lv_iload_n hx hb dX3_addInt_26 rfl (lv_at hl 0 rfl) ?_
  refine lv_ishr hx hb dX3_addInt_27 ?_
  refine lv_topi (fun t7 et7 => ?_)
  refine lv_i2b hx hb dX3_addInt_28 rfl ?_
  refine lv_topi (fun t8 et8 => ?_)
  obtain ⟨b9, eb9⟩ : ∃ z : Int32, vp_nar .byte t8 = z := ⟨_, rfl⟩
  refine astB hx hb hK hP hD hS 1 0 rfl rfl 6 (by decide) (vin (by decide)) (v := b9) eb9 dX3_addInt_29 (fun H locs hP hD hS => ?_)
  have hP : va_P D vwCl [(h0, .inr (3, [.ref h1, .int 6, v0, v1, v2, v3, v4, v5])), (h1, .inl (a0, 700, .inl (upd (upd (upd f0 4 b3) 5 b6) 6 b9)))] H := hP
  have hD : va_D A [(h0, .inr (3, [.ref h1, .int 6, v0, v1, v2, v3, v4, v5])), (h1, .inl (a0, 700, .inl (upd (upd (upd f0 4 b3) 5 b6) 6 b9)))] := hD
  refine lv_aload_n hx hb dX3_addInt_30 rfl (lv_at hl 1 rfl) ?_
  refine lv_dup hx hb dX3_addInt_31 rfl ?_
  refine va_get (D := D) (ci := 3) (v := .int 6) (C := RX3) (T := TX3) (N := 8) hx hb hg inX3 hown hK hP 0 rfl rfl 1 (by decide) (hg _ k120) (fun _ h9 => h9) rfl dX3_addInt_32 ?_
  refine lv_iconst (v := 1) hx hb dX3_addInt_35 (by decide) ?_
  refine lv_iadd hx hb dX3_addInt_36 ?_
  refine ti (7) (by decide) ?_
  refine va_put (D := D) (ci := 3) (v := .int 7) (ty := .int) (C := RX3) (T := TX3) (N := 8) hx hb hg inX3 tyX3 tyX3_ok nmX3 hown hK hP hD hS 0 rfl rfl 1 (by decide) (hg _ k120) (fun _ h9 => h9) rfl (by decide +kernel) rfl rfl (Nat.le_of_ble_eq_true rfl) dX3_addInt_37 (fun H locs hP hD hS => ?_)
  have hP : va_P D vwCl [(h0, .inr (3, [.ref h1, .int 7, v0, v1, v2, v3, v4, v5])), (h1, .inl (a0, 700, .inl (upd (upd (upd f0 4 b3) 5 b6) 6 b9)))] H := hP
  have hD : va_D A [(h0, .inr (3, [.ref h1, .int 7, v0, v1, v2, v3, v4, v5])), (h1, .inl (a0, 700, .inl (upd (upd (upd f0 4 b3) 5 b6) 6 b9)))] := hD
  refine lv_iinc (v := 0) (lv' := [(2, .int 0), (0, .ref h0), (1, .int x0)]) hx hb dX3_addInt_40 hl (k := 0) rfl (by decide) (by decide) rfl (fun ls hl => ?_)
  refine lv_goto (tgt := 3) hx hb dX3_addInt_43 (by decide) ?_
  refine lv_iload_n hx hb dX3_addInt_3 rfl (lv_at hl 0 rfl) ?_
  refine lv_if_lt (tgt := 46) hx hb dX3_addInt_4 (by decide) (fun c9 => absurd c9 (by decide)) (fun _ => ?_)
  refine lv_aload_n hx hb dX3_addInt_7 rfl (lv_at hl 1 rfl) ?_
  refine va_get (D := D) (ci := 3) (v := .int 7) (C := RX3) (T := TX3) (N := 8) hx hb hg inX3 hown hK hP 0 rfl rfl 1 (by decide) (hg _ k120) (fun _ h9 => h9) rfl dX3_addInt_8 ?_
  refine lv_sipush (v := 700) hx hb dX3_addInt_11 (by decide) ?_
  refine lv_icmp_ge (tgt := 46) hx hb dX3_addInt_14 (by decide) (fun c9 => absurd c9 (by decide)) (fun _ => ?_)
  refine lv_aload_n hx hb dX3_addInt_17 rfl (lv_at hl 1 rfl) ?_
  refine va_get (D := D) (ci := 3) (v := .ref h1) (C := RX3) (T := TX3) (N := 8) hx hb hg inX3 hown hK hP 0 rfl rfl 0 (by decide) (hg _ k119) (fun _ h9 => h9) rfl dX3_addInt_18 ?_
  refine lv_aload_n hx hb dX3_addInt_21 rfl (lv_at hl 1 rfl) ?_
  refine va_get (D := D) (ci := 3) (v := .int 7) (C := RX3) (T := TX3) (N := 8) hx hb hg inX3 hown hK hP 0 rfl rfl 1 (by decide) (hg _ k120) (fun _ h9 => h9) rfl dX3_addInt_22 ?_
  refine lv_iload_n hx hb dX3_addInt_25 rfl (lv_at hl 2 rfl) ?_
  refine lv_iload_n hx hb dX3_addInt_26 rfl (lv_at hl 0 rfl) ?_
  refine lv_ishr hx hb dX3_addInt_27 ?_
  refine lv_topi (fun t10 et10 => ?_)
  refine lv_i2b hx hb dX3_addInt_28 rfl ?_
  refine lv_topi (fun t11 et11 => ?_)
  obtain ⟨b12, eb12⟩ : ∃ z : Int32, vp_nar .byte t11 = z := ⟨_, rfl⟩
  refine astB hx hb hK hP hD hS 1 0 rfl rfl 7 (by decide) (vin (by decide)) (v := b12) eb12 dX3_addInt_29 (fun H locs hP hD hS => ?_)
  have hP : va_P D vwCl [(h0, .inr (3, [.ref h1, .int 7, v0, v1, v2, v3, v4, v5])), (h1, .inl (a0, 700, .inl (upd (upd (upd (upd f0 4 b3) 5 b6) 6 b9) 7 b12)))] H := hP
  have hD : va_D A [(h0, .inr (3, [.ref h1, .int 7, v0, v1, v2, v3, v4, v5])), (h1, .inl (a0, 700, .inl (upd (upd (upd (upd f0 4 b3) 5 b6) 6 b9) 7 b12)))] := hD
  refine lv_aload_n hx hb dX3_addInt_30 rfl (lv_at hl 1 rfl) ?_
  refine lv_dup hx hb dX3_addInt_31 rfl ?_
  refine va_get (D := D) (ci := 3) (v := .int 7) (C := RX3) (T := TX3) (N := 8) hx hb hg inX3 hown hK hP 0 rfl rfl 1 (by decide) (hg _ k120) (fun _ h9 => h9) rfl dX3_addInt_32 ?_
  refine lv_iconst (v := 1) hx hb dX3_addInt_35 (by decide) ?_
  refine lv_iadd hx hb dX3_addInt_36 ?_
  refine ti (8) (by decide) ?_
  refine va_put (D := D) (ci := 3) (v := .int 8) (ty := .int) (C := RX3) (T := TX3) (N := 8) hx hb hg inX3 tyX3 tyX3_ok nmX3 hown hK hP hD hS 0 rfl rfl 1 (by decide) (hg _ k120) (fun _ h9 => h9) rfl (by decide +kernel) rfl rfl (Nat.le_of_ble_eq_true rfl) dX3_addInt_37 (fun H locs hP hD hS => ?_)
  have hP : va_P D vwCl [(h0, .inr (3, [.ref h1, .int 8, v0, v1, v2, v3, v4, v5])), (h1, .inl (a0, 700, .inl (upd (upd (upd (upd f0 4 b3) 5 b6) 6 b9) 7 b12)))] H := hP
  have hD : va_D A [(h0, .inr (3, [.ref h1, .int 8, v0, v1, v2, v3, v4, v5])), (h1, .inl (a0, 700, .inl (upd (upd (upd (upd f0 4 b3) 5 b6) 6 b9) 7 b12)))] := hD
  refine lv_iinc (v := (-8)) (lv' := [(2, .int (-8)), (0, .ref h0), (1, .int x0)]) hx hb dX3_addInt_40 hl (k := 0) rfl (by decide) (by decide) rfl (fun ls hl => ?_)
  refine lv_goto (tgt := 3) hx hb dX3_addInt_43 (by decide) ?_
  refine lv_iload_n hx hb dX3_addInt_3 rfl (lv_at hl 0 rfl) ?_
  refine lv_if_lt (tgt := 46) hx hb dX3_addInt_4 (by decide) (fun _ => ?_) (fun c9 => absurd (by decide) c9)
  exact fv hx hb hr hlocks hP hD hK hS (upd (upd (upd (upd f0 4 b3) 5 b6) 6 b9) 7 b12) trivial [0, 1] [0] rfl (by decide) rfl (Nat.le_of_ble_eq_true rfl) (Nat.le_of_ble_eq_true rfl) dX3_addInt_46
set_option maxHeartbeats 4000000 in
set_option maxRecDepth 100000 in
theorem cX3_addInt_303 (l : Launch) (D : va_G) (h0 : Nat) (x0 : Int32) (h1 : Nat) (v0 : Value) (v1 : Value) (v2 : Value) (v3 : Value) (v4 : Value) (v5 : Value) (f0 : Nat → Int32) (a0 : ClassId)   : CT l yX3_addInt cX3_addInt 3 none { frames := 0, cells := 0, slots := 0, locals := 0 } [.ref h0, .int x0] D [(h0, .inr (3, [.ref h1, .int 8, v0, v1, v2, v3, v4, v5])), (h1, .inl (a0, 700, .inl f0))] [(a0, .byte)] XN [(h0, .inr (3, [.ref h1, .int 8, v0, v1, v2, v3, v4, v5])), (h1, .inl (a0, 700, .inl f0))] (ev (fun _ : (Nat → Int32) => True) (fun u => [(h0, .inr (3, [.ref h1, .int 12, v0, v1, v2, v3, v4, v5])), (h1, .inl (a0, 700, .inl u))]) (fun u => [(a0, .byte)]) D) 0 0 := by
  refine CT.ofW (by decide +kernel) (Nat.le_of_ble_eq_true rfl) ?_
  intro p e s m below meth c A ls hcs hP hK hD hX hA hS hl
  obtain ⟨hx, hb, hr, hml, hown, hg, hlocks, hin⟩ := hcs
  have hown : s.vm.findClass RX3 = some m.cls := hown
  have hl : lv_has ls 3 [(0, .ref h0), (1, .int x0)] := hl
  refine lv_bipush (v := 24) hx hb dX3_addInt_0 (by decide) ?_
  refine lv_istore_n (lv' := [(2, .int 24), (0, .ref h0), (1, .int x0)]) hx hb dX3_addInt_2 rfl hl (by decide) rfl (fun ls hl => ?_)
  refine lv_iload_n hx hb dX3_addInt_3 rfl (lv_at hl 0 rfl) ?_
  refine lv_if_lt (tgt := 46) hx hb dX3_addInt_4 (by decide) (fun c9 => absurd c9 (by decide)) (fun _ => ?_)
  refine lv_aload_n hx hb dX3_addInt_7 rfl (lv_at hl 1 rfl) ?_
  refine va_get (D := D) (ci := 3) (v := .int 8) (C := RX3) (T := TX3) (N := 8) hx hb hg inX3 hown hK hP 0 rfl rfl 1 (by decide) (hg _ k120) (fun _ h9 => h9) rfl dX3_addInt_8 ?_
  refine lv_sipush (v := 700) hx hb dX3_addInt_11 (by decide) ?_
  refine lv_icmp_ge (tgt := 46) hx hb dX3_addInt_14 (by decide) (fun c9 => absurd c9 (by decide)) (fun _ => ?_)
  refine lv_aload_n hx hb dX3_addInt_17 rfl (lv_at hl 1 rfl) ?_
  refine va_get (D := D) (ci := 3) (v := .ref h1) (C := RX3) (T := TX3) (N := 8) hx hb hg inX3 hown hK hP 0 rfl rfl 0 (by decide) (hg _ k119) (fun _ h9 => h9) rfl dX3_addInt_18 ?_
  refine lv_aload_n hx hb dX3_addInt_21 rfl (lv_at hl 1 rfl) ?_
  refine va_get (D := D) (ci := 3) (v := .int 8) (C := RX3) (T := TX3) (N := 8) hx hb hg inX3 hown hK hP 0 rfl rfl 1 (by decide) (hg _ k120) (fun _ h9 => h9) rfl dX3_addInt_22 ?_
  refine lv_iload_n hx hb dX3_addInt_25 rfl (lv_at hl 2 rfl) ?_
  refine lv_iload_n hx hb dX3_addInt_26 rfl (lv_at hl 0 rfl) ?_
  refine lv_ishr hx hb dX3_addInt_27 ?_
  refine lv_topi (fun t1 et1 => ?_)
  refine lv_i2b hx hb dX3_addInt_28 rfl ?_
  refine lv_topi (fun t2 et2 => ?_)
  obtain ⟨b3, eb3⟩ : ∃ z : Int32, vp_nar .byte t2 = z := ⟨_, rfl⟩
  refine astB hx hb hK hP hD hS 1 0 rfl rfl 8 (by decide) (vin (by decide)) (v := b3) eb3 dX3_addInt_29 (fun H locs hP hD hS => ?_)
  have hP : va_P D vwCl [(h0, .inr (3, [.ref h1, .int 8, v0, v1, v2, v3, v4, v5])), (h1, .inl (a0, 700, .inl (upd f0 8 b3)))] H := hP
  have hD : va_D A [(h0, .inr (3, [.ref h1, .int 8, v0, v1, v2, v3, v4, v5])), (h1, .inl (a0, 700, .inl (upd f0 8 b3)))] := hD
  refine lv_aload_n hx hb dX3_addInt_30 rfl (lv_at hl 1 rfl) ?_
  refine lv_dup hx hb dX3_addInt_31 rfl ?_
  refine va_get (D := D) (ci := 3) (v := .int 8) (C := RX3) (T := TX3) (N := 8) hx hb hg inX3 hown hK hP 0 rfl rfl 1 (by decide) (hg _ k120) (fun _ h9 => h9) rfl dX3_addInt_32 ?_
  refine lv_iconst (v := 1) hx hb dX3_addInt_35 (by decide) ?_
  refine lv_iadd hx hb dX3_addInt_36 ?_
  refine ti (9) (by decide) ?_
  refine va_put (D := D) (ci := 3) (v := .int 9) (ty := .int) (C := RX3) (T := TX3) (N := 8) hx hb hg inX3 tyX3 tyX3_ok nmX3 hown hK hP hD hS 0 rfl rfl 1 (by decide) (hg _ k120) (fun _ h9 => h9) rfl (by decide +kernel) rfl rfl (Nat.le_of_ble_eq_true rfl) dX3_addInt_37 (fun H locs hP hD hS => ?_)
  have hP : va_P D vwCl [(h0, .inr (3, [.ref h1, .int 9, v0, v1, v2, v3, v4, v5])), (h1, .inl (a0, 700, .inl (upd f0 8 b3)))] H := hP
  have hD : va_D A [(h0, .inr (3, [.ref h1, .int 9, v0, v1, v2, v3, v4, v5])), (h1, .inl (a0, 700, .inl (upd f0 8 b3)))] := hD
  refine lv_iinc (v := 16) (lv' := [(2, .int 16), (0, .ref h0), (1, .int x0)]) hx hb dX3_addInt_40 hl (k := 0) rfl (by decide) (by decide) rfl (fun ls hl => ?_)
  refine lv_goto (tgt := 3) hx hb dX3_addInt_43 (by decide) ?_
  refine lv_iload_n hx hb dX3_addInt_3 rfl (lv_at hl 0 rfl) ?_
  refine lv_if_lt (tgt := 46) hx hb dX3_addInt_4 (by decide) (fun c9 => absurd c9 (by decide)) (fun _ => ?_)
  refine lv_aload_n hx hb dX3_addInt_7 rfl (lv_at hl 1 rfl) ?_
  refine va_get (D := D) (ci := 3) (v := .int 9) (C := RX3) (T := TX3) (N := 8) hx hb hg inX3 hown hK hP 0 rfl rfl 1 (by decide) (hg _ k120) (fun _ h9 => h9) rfl dX3_addInt_8 ?_
  refine lv_sipush (v := 700) hx hb dX3_addInt_11 (by decide) ?_
  refine lv_icmp_ge (tgt := 46) hx hb dX3_addInt_14 (by decide) (fun c9 => absurd c9 (by decide)) (fun _ => ?_)
  refine lv_aload_n hx hb dX3_addInt_17 rfl (lv_at hl 1 rfl) ?_
  refine va_get (D := D) (ci := 3) (v := .ref h1) (C := RX3) (T := TX3) (N := 8) hx hb hg inX3 hown hK hP 0 rfl rfl 0 (by decide) (hg _ k119) (fun _ h9 => h9) rfl dX3_addInt_18 ?_
  refine lv_aload_n hx hb dX3_addInt_21 rfl (lv_at hl 1 rfl) ?_
  refine va_get (D := D) (ci := 3) (v := .int 9) (C := RX3) (T := TX3) (N := 8) hx hb hg inX3 hown hK hP 0 rfl rfl 1 (by decide) (hg _ k120) (fun _ h9 => h9) rfl dX3_addInt_22 ?_
  refine lv_iload_n hx hb dX3_addInt_25 rfl (lv_at hl 2 rfl) ?_
  refine lv_iload_n hx hb dX3_addInt_26 rfl (lv_at hl 0 rfl) ?_
  refine lv_ishr hx hb dX3_addInt_27 ?_
  refine lv_topi (fun t4 et4 => ?_)
  refine lv_i2b hx hb dX3_addInt_28 rfl ?_
  refine lv_topi (fun t5 et5 => ?_)
  obtain ⟨b6, eb6⟩ : ∃ z : Int32, vp_nar .byte t5 = z := ⟨_, rfl⟩
  refine astB hx hb hK hP hD hS 1 0 rfl rfl 9 (by decide) (vin (by decide)) (v := b6) eb6 dX3_addInt_29 (fun H locs hP hD hS => ?_)
  have hP : va_P D vwCl [(h0, .inr (3, [.ref h1, .int 9, v0, v1, v2, v3, v4, v5])), (h1, .inl (a0, 700, .inl (upd (upd f0 8 b3) 9 b6)))] H := hP
  have hD : va_D A [(h0, .inr (3, [.ref h1, .int 9, v0, v1, v2, v3, v4, v5])), (h1, .inl (a0, 700, .inl (upd (upd f0 8 b3) 9 b6)))] := hD
  refine lv_aload_n hx hb dX3_addInt_30 rfl (lv_at hl 1 rfl) ?_
  refine lv_dup hx hb dX3_addInt_31 rfl ?_
  refine va_get (D := D) (ci := 3) (v := .int 9) (C := RX3) (T := TX3) (N := 8) hx hb hg inX3 hown hK hP 0 rfl rfl 1 (by decide) (hg _ k120) (fun _ h9 => h9) rfl dX3_addInt_32 ?_
  refine lv_iconst (v := 1) hx hb dX3_addInt_35 (by decide) ?_
  refine lv_iadd hx hb dX3_addInt_36 ?_
  refine ti (10) (by decide) ?_
  refine va_put (D := D) (ci := 3) (v := .int 10) (ty := .int) (C := RX3) (T := TX3) (N := 8) hx hb hg inX3 tyX3 tyX3_ok nmX3 hown hK hP hD hS 0 rfl rfl 1 (by decide) (hg _ k120) (fun _ h9 => h9) rfl (by decide +kernel) rfl rfl (Nat.le_of_ble_eq_true rfl) dX3_addInt_37 (fun H locs hP hD hS => ?_)
  have hP : va_P D vwCl [(h0, .inr (3, [.ref h1, .int 10, v0, v1, v2, v3, v4, v5])), (h1, .inl (a0, 700, .inl (upd (upd f0 8 b3) 9 b6)))] H := hP
  have hD : va_D A [(h0, .inr (3, [.ref h1, .int 10, v0, v1, v2, v3, v4, v5])), (h1, .inl (a0, 700, .inl (upd (upd f0 8 b3) 9 b6)))] := hD
  refine lv_iinc (v := 8) (lv' := [(2, .int 8), (0, .ref h0), (1, .int x0)]) hx hb dX3_addInt_40 hl (k := 0) rfl (by decide) (by decide) rfl (fun ls hl => ?_)
  refine lv_goto (tgt := 3) hx hb dX3_addInt_43 (by decide) ?_
  refine lv_iload_n hx hb dX3_addInt_3 rfl (lv_at hl 0 rfl) ?_
  refine lv_if_lt (tgt := 46) hx hb dX3_addInt_4 (by decide) (fun c9 => absurd c9 (by decide)) (fun _ => ?_)
  refine lv_aload_n hx hb dX3_addInt_7 rfl (lv_at hl 1 rfl) ?_
  refine va_get (D := D) (ci := 3) (v := .int 10) (C := RX3) (T := TX3) (N := 8) hx hb hg inX3 hown hK hP 0 rfl rfl 1 (by decide) (hg _ k120) (fun _ h9 => h9) rfl dX3_addInt_8 ?_
  refine lv_sipush (v := 700) hx hb dX3_addInt_11 (by decide) ?_
  refine lv_icmp_ge (tgt := 46) hx hb dX3_addInt_14 (by decide) (fun c9 => absurd c9 (by decide)) (fun _ => ?_)
  refine lv_aload_n hx hb dX3_addInt_17 rfl (lv_at hl 1 rfl) ?_
  refine va_get (D := D) (ci := 3) (v := .ref h1) (C := RX3) (T := TX3) (N := 8) hx hb hg inX3 hown hK hP 0 rfl rfl 0 (by decide) (hg _ k119) (fun _ h9 => h9) rfl dX3_addInt_18 ?_
  refine lv_aload_n hx hb dX3_addInt_21 rfl (lv_at hl 1 rfl) ?_
  refine va_get (D := D) (ci := 3) (v := .int 10) (C := RX3) (T := TX3) (N := 8) hx hb hg inX3 hown hK hP 0 rfl rfl 1 (by decide) (hg _ k120) (fun _ h9 => h9) rfl dX3_addInt_22 ?_
  refine lv_iload_n hx hb dX3_addInt_25 rfl (lv_at hl 2 rfl) ?_
  refine lv_iload_n hx hb dX3_addInt_26 rfl (lv_at hl 0 rfl) ?_
  refine lv_ishr hx hb dX3_addInt_27 ?_
  refine lv_topi (fun t7 et7 => ?_)
  refine lv_i2b hx hb dX3_addInt_28 rfl ?_
  refine lv_topi (fun t8 et8 => ?_)
  obtain ⟨b9, eb9⟩ : ∃ z : Int32, vp_nar .byte t8 = z := ⟨_, rfl⟩
  refine astB hx hb hK hP hD hS 1 0 rfl rfl 10 (by decide) (vin (by decide)) (v := b9) eb9 dX3_addInt_29 (fun H locs hP hD hS => ?_)
  have hP : va_P D vwCl [(h0, .inr (3, [.ref h1, .int 10, v0, v1, v2, v3, v4, v5])), (h1, .inl (a0, 700, .inl (upd (upd (upd f0 8 b3) 9 b6) 10 b9)))] H := hP
  have hD : va_D A [(h0, .inr (3, [.ref h1, .int 10, v0, v1, v2, v3, v4, v5])), (h1, .inl (a0, 700, .inl (upd (upd (upd f0 8 b3) 9 b6) 10 b9)))] := hD
  refine lv_aload_n hx hb dX3_addInt_30 rfl (lv_at hl 1 rfl) ?_
  refine lv_dup hx hb dX3_addInt_31 rfl ?_
  refine va_get (D := D) (ci := 3) (v := .int 10) (C := RX3) (T := TX3) (N := 8) hx hb hg inX3 hown hK hP 0 rfl rfl 1 (by decide) (hg _ k120) (fun _ h9 => h9) rfl dX3_addInt_32 ?_
  refine lv_iconst (v := 1) hx hb dX3_addInt_35 (by decide) ?_
  refine lv_iadd hx hb dX3_addInt_36 ?_
  refine ti (11) (by decide) ?_
  refine va_put (D := D) (ci := 3) (v := .int 11) (ty := .int) (C := RX3) (T := TX3) (N := 8) hx hb hg inX3 tyX3 tyX3_ok nmX3 hown hK hP hD hS 0 rfl rfl 1 (by decide) (hg _ k120) (fun _ h9 => h9) rfl (by decide +kernel) rfl rfl (Nat.le_of_ble_eq_true rfl) dX3_addInt_37 (fun H locs hP hD hS => ?_)
  have hP : va_P D vwCl [(h0, .inr (3, [.ref h1, .int 11, v0, v1, v2, v3, v4, v5])), (h1, .inl (a0, 700, .inl (upd (upd (upd f0 8 b3) 9 b6) 10 b9)))] H := hP
  have hD : va_D A [(h0, .inr (3, [.ref h1, .int 11, v0, v1, v2, v3, v4, v5])), (h1, .inl (a0, 700, .inl (upd (upd (upd f0 8 b3) 9 b6) 10 b9)))] := hD
  refine lv_iinc (v := 0) (lv' := [(2, .int 0), (0, .ref h0), (1, .int x0)]) hx hb dX3_addInt_40 hl (k := 0) rfl (by decide) (by decide) rfl (fun ls hl => ?_)
  refine lv_goto (tgt := 3) hx hb dX3_addInt_43 (by decide) ?_
  refine lv_iload_n hx hb dX3_addInt_3 rfl (lv_at hl 0 rfl) ?_
  refine lv_if_lt (tgt := 46) hx hb dX3_addInt_4 (by decide) (fun c9 => absurd c9 (by decide)) (fun _ => ?_)
  refine lv_aload_n hx hb dX3_addInt_7 rfl (lv_at hl 1 rfl) ?_
  refine va_get (D := D) (ci := 3) (v := .int 11) (C := RX3) (T := TX3) (N := 8) hx hb hg inX3 hown hK hP 0 rfl rfl 1 (by decide) (hg _ k120) (fun _ h9 => h9) rfl dX3_addInt_8 ?_
  refine lv_sipush (v := 700) hx hb dX3_addInt_11 (by decide) ?_
  refine lv_icmp_ge (tgt := 46) hx hb dX3_addInt_14 (by decide) (fun c9 => absurd c9 (by decide)) (fun _ => ?_)
  refine lv_aload_n hx hb dX3_addInt_17 rfl (lv_at hl 1 rfl) ?_
  refine va_get (D := D) (ci := 3) (v := .ref h1) (C := RX3) (T := TX3) (N := 8) hx hb hg inX3 hown hK hP 0 rfl rfl 0 (by decide) (hg _ k119) (fun _ h9 => h9) rfl dX3_addInt_18 ?_
  refine lv_aload_n hx hb dX3_addInt_21 rfl (lv_at hl 1 rfl) ?_
  refine va_get (D := D) (ci := 3) (v := .int 11) (C := RX3) (T := TX3) (N := 8) hx hb hg inX3 hown hK hP 0 rfl rfl 1 (by decide) (hg _ k120) (fun _ h9 => h9) rfl dX3_addInt_22 ?_
  refine lv_iload_n hx hb dX3_addInt_25 rfl (lv_at hl 2 rfl) ?_
  refine lv_iload_n hx hb dX3_addInt_26 rfl (lv_at hl 0 rfl) ?_
  refine lv_ishr hx hb dX3_addInt_27 ?_
  refine lv_topi (fun t10 et10 => ?_)
  refine lv_i2b hx hb dX3_addInt_28 rfl ?_
  refine lv_topi (fun t11 et11 => ?_)
  obtain ⟨b12, eb12⟩ : ∃ z : Int32, vp_nar .byte t11 = z := ⟨_, rfl⟩
  refine astB hx hb hK hP hD hS 1 0 rfl rfl 11 (by decide) (vin (by decide)) (v := b12) eb12 dX3_addInt_29 (fun H locs hP hD hS => ?_)
  have hP : va_P D vwCl [(h0, .inr (3, [.ref h1, .int 11, v0, v1, v2, v3, v4, v5])), (h1, .inl (a0, 700, .inl (upd (upd (upd (upd f0 8 b3) 9 b6) 10 b9) 11 b12)))] H := hP
  have hD : va_D A [(h0, .inr (3, [.ref h1, .int 11, v0, v1, v2, v3, v4, v5])), (h1, .inl (a0, 700, .inl (upd (upd (upd (upd f0 8 b3) 9 b6) 10 b9) 11 b12)))] := hD
  refine lv_aload_n hx hb dX3_addInt_30 rfl (lv_at hl 1 rfl) ?_
  refine lv_dup hx hb dX3_addInt_31 rfl ?_
  refine va_get (D := D) (ci := 3) (v := .int 11) (C := RX3) (T := TX3) (N := 8) hx hb hg inX3 hown hK hP 0 rfl rfl 1 (by decide) (hg _ k120) (fun _ h9 => h9) rfl dX3_addInt_32 ?_
  refine lv_iconst (v := 1) hx hb dX3_addInt_35 (by decide) ?_
  refine lv_iadd hx hb dX3_addInt_36 ?_
  refine ti (12) (by decide) ?_
  refine va_put (D := D) (ci := 3) (v := .int 12) (ty := .int) (C := RX3) (T := TX3) (N := 8) hx hb hg inX3 tyX3 tyX3_ok nmX3 hown hK hP hD hS 0 rfl rfl 1 (by decide) (hg _ k120) (fun _ h9 => h9) rfl (by decide +kernel) rfl rfl (Nat.le_of_ble_eq_true rfl) dX3_addInt_37 (fun H locs hP hD hS => ?_)
  have hP : va_P D vwCl [(h0, .inr (3, [.ref h1, .int 12, v0, v1, v2, v3, v4, v5])), (h1, .inl (a0, 700, .inl (upd (upd (upd (upd f0 8 b3) 9 b6) 10 b9) 11 b12)))] H := hP
  have hD : va_D A [(h0, .inr (3, [.ref h1, .int 12, v0, v1, v2, v3, v4, v5])), (h1, .inl (a0, 700, .inl (upd (upd (upd (upd f0 8 b3) 9 b6) 10 b9) 11 b12)))] := hD
  refine lv_iinc (v := (-8)) (lv' := [(2, .int (-8)), (0, .ref h0), (1, .int x0)]) hx hb dX3_addInt_40 hl (k := 0) rfl (by decide) (by decide) rfl (fun ls hl => ?_)
  refine lv_goto (tgt := 3) hx hb dX3_addInt_43 (by decide) ?_
  refine lv_iload_n hx hb dX3_addInt_3 rfl (lv_at hl 0 rfl) ?_
  refine lv_if_lt (tgt := 46) hx hb dX3_addInt_4 (by decide) (fun _ => ?_) (fun c9 => absurd (by decide) c9)
  exact fv hx hb hr hlocks hP hD hK hS (upd (upd (upd (upd f0 8 b3) 9 b6) 10 b9) 11 b12) trivial [0, 1] [0] rfl (by decide) rfl (Nat.le_of_ble_eq_true rfl) (Nat.le_of_ble_eq_true rfl) dX3_addInt_46
set_option maxHeartbeats 4000000 in
set_option maxRecDepth 100000 in
theorem cX3_addInt_304 (l : Launch) (D : va_G) (h0 : Nat) (x0 : Int32) (h1 : Nat) (v0 : Value) (v1 : Value) (v2 : Value) (v3 : Value) (v4 : Value) (v5 : Value) (f0 : Nat → Int32) (a0 : ClassId)   : CT l yX3_addInt cX3_addInt 3 none { frames := 0, cells := 0, slots := 0, locals := 0 } [.ref h0, .int x0] D [(h0, .inr (3, [.ref h1, .int 12, v0, v1, v2, v3, v4, v5])), (h1, .inl (a0, 700, .inl f0))] [(a0, .byte)] XN [(h0, .inr (3, [.ref h1, .int 12, v0, v1, v2, v3, v4, v5])), (h1, .inl (a0, 700, .inl f0))] (ev (fun _ : (Nat → Int32) => True) (fun u => [(h0, .inr (3, [.ref h1, .int 16, v0, v1, v2, v3, v4, v5])), (h1, .inl (a0, 700, .inl u))]) (fun u => [(a0, .byte)]) D) 0 0 := by
  refine CT.ofW (by decide +kernel) (Nat.le_of_ble_eq_true rfl) ?_
  intro p e s m below meth c A ls hcs hP hK hD hX hA hS hl
  obtain ⟨hx, hb, hr, hml, hown, hg, hlocks, hin⟩ := hcs
  have hown : s.vm.findClass RX3 = some m.cls := hown
  have hl : lv_has ls 3 [(0, .ref h0), (1, .int x0)] := hl
  refine lv_bipush (v := 24) hx hb dX3_addInt_0 (by decide) ?_
  refine lv_istore_n (lv' := [(2, .int 24), (0, .ref h0), (1, .int x0)]) hx hb dX3_addInt_2 rfl hl (by decide) rfl (fun ls hl => ?_)
  refine lv_iload_n hx hb dX3_addInt_3 rfl (lv_at hl 0 rfl) ?_
  refine lv_if_lt (tgt := 46) hx hb dX3_addInt_4 (by decide) (fun c9 => absurd c9 (by decide)) (fun _ => ?_)
  refine lv_aload_n hx hb dX3_addInt_7 rfl (lv_at hl 1 rfl) ?_
  refine va_get (D := D) (ci := 3) (v := .int 12) (C := RX3) (T := TX3) (N := 8) hx hb hg inX3 hown hK hP 0 rfl rfl 1 (by decide) (hg _ k120) (fun _ h9 => h9) rfl dX3_addInt_8 ?_
  refine lv_sipush (v := 700) hx hb dX3_addInt_11 (by decide) ?_
  refine lv_icmp_ge (tgt := 46) hx hb dX3_addInt_14 (by decide) (fun c9 => absurd c9 (by decide)) (fun _ => ?_)
  refine lv_aload_n hx hb dX3_addInt_17 rfl (lv_at hl 1 rfl) ?_
  refine va_get (D := D) (ci := 3) (v := .ref h1) (C := RX3) (T := TX3) (N := 8) hx hb hg inX3 hown hK hP 0 rfl rfl 0 (by decide) (hg _ k119) (fun _ h9 => h9) rfl dX3_addInt_18 ?_
  refine lv_aload_n hx hb dX3_addInt_21 rfl (lv_at hl 1 rfl) ?_
  refine va_get (D := D) (ci := 3) (v := .int 12) (C := RX3) (T := TX3) (N := 8) hx hb hg inX3 hown hK hP 0 rfl rfl 1 (by decide) (hg _ k120) (fun _ h9 => h9) rfl dX3_addInt_22 ?_
  refine lv_iload_n hx hb dX3_addInt_25 rfl (lv_at hl 2 rfl) ?_
  refine lv_iload_n hx hb dX3_addInt_26 rfl (lv_at hl 0 rfl) ?_
  refine lv_ishr hx hb dX3_addInt_27 ?_
  refine lv_topi (fun t1 et1 => ?_)
  refine lv_i2b hx hb dX3_addInt_28 rfl ?_
  refine lv_topi (fun t2 et2 => ?_)
  obtain ⟨b3, eb3⟩ : ∃ z : Int32, vp_nar .byte t2 = z := ⟨_, rfl⟩
  refine astB hx hb hK hP hD hS 1 0 rfl rfl 12 (by decide) (vin (by decide)) (v := b3) eb3 dX3_addInt_29 (fun H locs hP hD hS => ?_)
  have hP : va_P D vwCl [(h0, .inr (3, [.ref h1, .int 12, v0, v1, v2, v3, v4, v5])), (h1, .inl (a0, 700, .inl (upd f0 12 b3)))] H := hP
  have hD : va_D A [(h0, .inr (3, [.ref h1, .int 12, v0, v1, v2, v3, v4, v5])), (h1, .inl (a0, 700, .inl (upd f0 12 b3)))] := hD
  refine lv_aload_n hx hb dX3_addInt_30 rfl (lv_at hl 1 rfl) ?_
  refine lv_dup hx hb dX3_addInt_31 rfl ?_
  refine va_get (D := D) (ci := 3) (v := .int 12) (C := RX3) (T := TX3) (N := 8) hx hb hg inX3 hown hK hP 0 rfl rfl 1 (by decide) (hg _ k120) (fun _ h9 => h9) rfl dX3_addInt_32 ?_
  refine lv_iconst (v := 1) hx hb dX3_addInt_35 (by decide) ?_
  refine lv_iadd hx hb dX3_addInt_36 ?_
  refine ti (13) (by decide) ?_
  refine va_put (D := D) (ci := 3) (v := .int 13) (ty := .int) (C := RX3) (T := TX3) (N := 8) hx hb hg inX3 tyX3 tyX3_ok nmX3 hown hK hP hD hS 0 rfl rfl 1 (by decide) (hg _ k120) (fun _ h9 => h9) rfl (by decide +kernel) rfl rfl (Nat.le_of_ble_eq_true rfl) dX3_addInt_37 (fun H locs hP hD hS => ?_)
  have hP : va_P D vwCl [(h0, .inr (3, [.ref h1, .int 13, v0, v1, v2, v3, v4, v5])), (h1, .inl (a0, 700, .inl (upd f0 12 b3)))] H := hP
  have hD : va_D A [(h0, .inr (3, [.ref h1, .int 13, v0, v1, v2, v3, v4, v5])), (h1, .inl (a0, 700, .inl (upd f0 12 b3)))] := hD
  refine lv_iinc (v := 16) (lv' := [(2, .int 16), (0, .ref h0), (1, .int x0)]) hx hb dX3_addInt_40 hl (k := 0) rfl (by decide) (by decide) rfl (fun ls hl => ?_)
  refine lv_goto (tgt := 3) hx hb dX3_addInt_43 (by decide) ?_
  refine lv_iload_n hx hb dX3_addInt_3 rfl (lv_at hl 0 rfl) ?_
  refine lv_if_lt (tgt := 46) hx hb dX3_addInt_4 (by decide) (fun c9 => absurd c9 (by decide)) (fun _ => ?_)
  refine lv_aload_n hx hb dX3_addInt_7 rfl (lv_at hl 1 rfl) ?_
  refine va_get (D := D) (ci := 3) (v := .int 13) (C := RX3) (T := TX3) (N := 8) hx hb hg inX3 hown hK hP 0 rfl rfl 1 (by decide) (hg _ k120) (fun _ h9 => h9) rfl dX3_addInt_8 ?_
  refine lv_sipush (v := 700) hx hb dX3_addInt_11 (by decide) ?_
  refine lv_icmp_ge (tgt := 46) hx hb dX3_addInt_14 (by decide) (fun c9 => absurd c9 (by decide)) (fun _ => ?_)
  refine lv_aload_n hx hb dX3_addInt_17 rfl (lv_at hl 1 rfl) ?_
  refine va_get (D := D) (ci := 3) (v := .ref h1) (C := RX3) (T := TX3) (N := 8) hx hb hg inX3 hown hK hP 0 rfl rfl 0 (by decide) (hg _ k119) (fun _ h9 => h9) rfl dX3_addInt_18 ?_
  refine lv_aload_n hx hb dX3_addInt_21 rfl (lv_at hl 1 rfl) ?_
  refine va_get (D := D) (ci := 3) (v := .int 13) (C := RX3) (T := TX3) (N := 8) hx hb hg inX3 hown hK hP 0 rfl rfl 1 (by decide) (hg _ k120) (fun _ h9 => h9) rfl dX3_addInt_22 ?_
  refine lv_iload_n hx hb dX3_addInt_25 rfl (lv_at hl 2 rfl) ?_
  refine lv_iload_n hx hb dX3_addInt_26 rfl (lv_at hl 0 rfl) ?_
  refine lv_ishr hx hb dX3_addInt_27 ?_
  refine lv_topi (fun t4 et4 => ?_)
  refine lv_i2b hx hb dX3_addInt_28 rfl ?_
  refine lv_topi (fun t5 et5 => ?_)
  obtain ⟨b6, eb6⟩ : ∃ z : Int32, vp_nar .byte t5 = z := ⟨_, rfl⟩
  refine astB hx hb hK hP hD hS 1 0 rfl rfl 13 (by decide) (vin (by decide)) (v := b6) eb6 dX3_addInt_29 (fun H locs hP hD hS => ?_)
  have hP : va_P D vwCl [(h0, .inr (3, [.ref h1, .int 13, v0, v1, v2, v3, v4, v5])), (h1, .inl (a0, 700, .inl (upd (upd f0 12 b3) 13 b6)))] H := hP
  have hD : va_D A [(h0, .inr (3, [.ref h1, .int 13, v0, v1, v2, v3, v4, v5])), (h1, .inl (a0, 700, .inl (upd (upd f0 12 b3) 13 b6)))] := hD
  refine lv_aload_n hx hb dX3_addInt_30 rfl (lv_at hl 1 rfl) ?_
  refine lv_dup hx hb dX3_addInt_31 rfl ?_
  refine va_get (D := D) (ci := 3) (v := .int 13) (C := RX3) (T := TX3) (N := 8) hx hb hg inX3 hown hK hP 0 rfl rfl 1 (by decide) (hg _ k120) (fun _ h9 => h9) rfl dX3_addInt_32 ?_
  refine lv_iconst (v := 1) hx hb dX3_addInt_35 (by decide) ?_
  refine lv_iadd hx hb dX3_addInt_36 ?_
  refine ti (14) (by decide) ?_
  refine va_put (D := D) (ci := 3) (v := .int 14) (ty := .int) (C := RX3) (T := TX3) (N := 8) hx hb hg inX3 tyX3 tyX3_ok nmX3 hown hK hP hD hS 0 rfl rfl 1 (by decide) (hg _ k120) (fun _ h9 => h9) rfl (by decide +kernel) rfl rfl (Nat.le_of_ble_eq_true rfl) dX3_addInt_37 (fun H locs hP hD hS => ?_)
  have hP : va_P D vwCl [(h0, .inr (3, [.ref h1, .int 14, v0, v1, v2, v3, v4, v5])), (h1, .inl (a0, 700, .inl (upd (upd f0 12 b3) 13 b6)))] H := hP
  have hD : va_D A [(h0, .inr (3, [.ref h1, .int 14, v0, v1, v2, v3, v4, v5])), (h1, .inl (a0, 700, .inl (upd (upd f0 12 b3) 13 b6)))] := hD
  refine lv_iinc (v := 8) (lv' := [(2, .int 8), (0, .ref h0), (1, .int x0)]) hx hb dX3_addInt_40 hl (k := 0) rfl (by decide) (by decide) rfl (fun ls hl => ?_)
  refine lv_goto (tgt := 3) hx hb dX3_addInt_43 (by decide) ?_
  refine lv_iload_n hx hb dX3_addInt_3 rfl (lv_at hl 0 rfl) ?_
  refine lv_if_lt (tgt := 46) hx hb dX3_addInt_4 (by decide) (fun c9 => absurd c9 (by decide)) (fun _ => ?_)
  refine lv_aload_n hx hb dX3_addInt_7 rfl (lv_at hl 1 rfl) ?_
  refine va_get (D := D) (ci := 3) (v := .int 14) (C := RX3) (T := TX3) (N := 8) hx hb hg inX3 hown hK hP 0 rfl rfl 1 (by decide) (hg _ k120) (fun _ h9 => h9) rfl dX3_addInt_8 ?_
  refine lv_sipush (v := 700) hx hb dX3_addInt_11 (by decide) ?_
  refine lv_icmp_ge (tgt := 46) hx hb dX3_addInt_14 (by decide) (fun c9 => absurd c9 (by decide)) (fun _ => ?_)
  refine lv_aload_n hx hb dX3_addInt_17 rfl (lv_at hl 1 rfl) ?_
  refine va_get (D := D) (ci := 3) (v := .ref h1) (C := RX3) (T := TX3) (N := 8) hx hb hg inX3 hown hK hP 0 rfl rfl 0 (by decide) (hg _ k119) (fun _ h9 => h9) rfl dX3_addInt_18 ?_
  refine lv_aload_n hx hb dX3_addInt_21 rfl (lv_at hl 1 rfl) ?_
  refine va_get (D := D) (ci := 3) (v := .int 14) (C := RX3) (T := TX3) (N := 8) hx hb hg inX3 hown hK hP 0 rfl rfl 1 (by decide) (hg _ k120) (fun _ h9 => h9) rfl dX3_addInt_22 ?_
  refine lv_iload_n hx hb dX3_addInt_25 rfl (lv_at hl 2 rfl) ?_
  refine lv_iload_n hx hb dX3_addInt_26 rfl (lv_at hl 0 rfl) ?_
  refine lv_ishr hx hb dX3_addInt_27 ?_
  refine lv_topi (fun t7 et7 => ?_)
  refine lv_i2b hx hb dX3_addInt_28 rfl ?_
  refine lv_topi (fun t8 et8 => ?_)
  obtain ⟨b9, eb9⟩ : ∃ z : Int32, vp_nar .byte t8 = z := ⟨_, rfl⟩
  refine astB hx hb hK hP hD hS 1 0 rfl rfl 14 (by decide) (vin (by decide)) (v := b9) eb9 dX3_addInt_29 (fun H locs hP hD hS => ?_)
  have hP : va_P D vwCl [(h0, .inr (3, [.ref h1, .int 14, v0, v1, v2, v3, v4, v5])), (h1, .inl (a0, 700, .inl (upd (upd (upd f0 12 b3) 13 b6) 14 b9)))] H := hP
  have hD : va_D A [(h0, .inr (3, [.ref h1, .int 14, v0, v1, v2, v3, v4, v5])), (h1, .inl (a0, 700, .inl (upd (upd (upd f0 12 b3) 13 b6) 14 b9)))] := hD
  refine lv_aload_n hx hb dX3_addInt_30 rfl (lv_at hl 1 rfl) ?_
  refine lv_dup hx hb dX3_addInt_31 rfl ?_
  refine va_get (D := D) (ci := 3) (v := .int 14) (C := RX3) (T := TX3) (N := 8) hx hb hg inX3 hown hK hP 0 rfl rfl 1 (by decide) (hg _ k120) (fun _ h9 => h9) rfl dX3_addInt_32 ?_
  refine lv_iconst (v := 1) hx hb dX3_addInt_35 (by decide) ?_
  refine lv_iadd hx hb dX3_addInt_36 ?_
  refine ti (15) (by decide) ?_
  refine va_put (D := D) (ci := 3) (v := .int 15) (ty := .int) (C := RX3) (T := TX3) (N := 8) hx hb hg inX3 tyX3 tyX3_ok nmX3 hown hK hP hD hS 0 rfl rfl 1 (by decide) (hg _ k120) (fun _ h9 => h9) rfl (by decide +kernel) rfl rfl (Nat.le_of_ble_eq_true rfl) dX3_addInt_37 (fun H locs hP hD hS => ?_)
  have hP : va_P D vwCl [(h0, .inr (3, [.ref h1, .int 15, v0, v1, v2, v3, v4, v5])), (h1, .inl (a0, 700, .inl (upd (upd (upd f0 12 b3) 13 b6) 14 b9)))] H := hP
  have hD : va_D A [(h0, .inr (3, [.ref h1, .int 15, v0, v1, v2, v3, v4, v5])), (h1, .inl (a0, 700, .inl (upd (upd (upd f0 12 b3) 13 b6) 14 b9)))] := hD
  refine lv_iinc (v := 0) (lv' := [(2, .int 0), (0, .ref h0), (1, .int x0)]) hx hb dX3_addInt_40 hl (k := 0) rfl (by decide) (by decide) rfl (fun ls hl => ?_)
  refine lv_goto (tgt := 3) hx hb dX3_addInt_43 (by decide) ?_
  refine lv_iload_n hx hb dX3_addInt_3 rfl (lv_at hl 0 rfl) ?_
  refine lv_if_lt (tgt := 46) hx hb dX3_addInt_4 (by decide) (fun c9 => absurd c9 (by decide)) (fun _ => ?_)
  refine lv_aload_n hx hb dX3_addInt_7 rfl (lv_at hl 1 rfl) ?_
  refine va_get (D := D) (ci := 3) (v := .int 15) (C := RX3) (T := TX3) (N := 8) hx hb hg inX3 hown hK hP 0 rfl rfl 1 (by decide) (hg _ k120) (fun _ h9 => h9) rfl dX3_addInt_8 ?_
  refine lv_sipush (v := 700) hx hb dX3_addInt_11 (by decide) ?_
  refine lv_icmp_ge (tgt := 46) hx hb dX3_addInt_14 (by decide) (fun c9 => absurd c9 (by decide)) (fun _ => ?_)
  refine lv_aload_n hx hb dX3_addInt_17 rfl (lv_at hl 1 rfl) ?_
  refine va_get (D := D) (ci := 3) (v := .ref h1) (C := RX3) (T := TX3) (N := 8) hx hb hg inX3 hown hK hP 0 rfl rfl 0 (by decide) (hg _ k119) (fun _ h9 => h9) rfl dX3_addInt_18 ?_
  refine lv_aload_n hx hb dX3_addInt_21 rfl (lv_at hl 1 rfl) ?_
  refine va_get (D := D) (ci := 3) (v := .int 15) (C := RX3) (T := TX3) (N := 8) hx hb hg inX3 hown hK hP 0 rfl rfl 1 (by decide) (hg _ k120) (fun _ h9 => h9) rfl dX3_addInt_22 ?_
  refine lv_iload_n hx hb dX3_addInt_25 rfl (lv_at hl 2 rfl) ?_
  refine lv_iload_n hx hb dX3_addInt_26 rfl (lv_at hl 0 rfl) ?_
  refine lv_ishr hx hb dX3_addInt_27 ?_
  refine lv_topi (fun t10 et10 => ?_)
  refine lv_i2b hx hb dX3_addInt_28 rfl ?_
  refine lv_topi (fun t11 et11 => ?_)
  obtain ⟨b12, eb12⟩ : ∃ z : Int32, vp_nar .byte t11 = z := ⟨_, rfl⟩
  refine astB hx hb hK hP hD hS 1 0 rfl rfl 15 (by decide) (vin (by decide)) (v := b12) eb12 dX3_addInt_29 (fun H locs hP hD hS => ?_)
  have hP : va_P D vwCl [(h0, .inr (3, [.ref h1, .int 15, v0, v1, v2, v3, v4, v5])), (h1, .inl (a0, 700, .inl (upd (upd (upd (upd f0 12 b3) 13 b6) 14 b9) 15 b12)))] H := hP
  have hD : va_D A [(h0, .inr (3, [.ref h1, .int 15, v0, v1, v2, v3, v4, v5])), (h1, .inl (a0, 700, .inl (upd (upd (upd (upd f0 12 b3) 13 b6) 14 b9) 15 b12)))] := hD
  refine lv_aload_n hx hb dX3_addInt_30 rfl (lv_at hl 1 rfl) ?_
  refine lv_dup hx hb dX3_addInt_31 rfl ?_
  refine va_get (D := D) (ci := 3) (v := .int 15) (C := RX3) (T := TX3) (N := 8) hx hb hg inX3 hown hK hP 0 rfl rfl 1 (by decide) (hg _ k120) (fun _ h9 => h9) rfl dX3_addInt_32 ?_
  refine lv_iconst (v := 1) hx hb dX3_addInt_35 (by decide) ?_
  refine lv_iadd hx hb dX3_addInt_36 ?_
  refine ti (16) (by decide) ?_
  refine va_put (D := D) (ci := 3) (v := .int 16) (ty := .int) (C := RX3) (T := TX3) (N := 8) hx hb hg inX3 tyX3 tyX3_ok nmX3 hown hK hP hD hS 0 rfl rfl 1 (by decide) (hg _ k120) (fun _ h9 => h9) rfl (by decide +kernel) rfl rfl (Nat.le_of_ble_eq_true rfl) dX3_addInt_37 (fun H locs hP hD hS => ?_)
  have hP : va_P D vwCl [(h0, .inr (3, [.ref h1, .int 16, v0, v1, v2, v3, v4, v5])), (h1, .inl (a0, 700, .inl (upd (upd (upd (upd f0 12 b3) 13 b6) 14 b9) 15 b12)))] H := hP
  have hD : va_D A [(h0, .inr (3, [.ref h1, .int 16, v0, v1, v2, v3, v4, v5])), (h1, .inl (a0, 700, .inl (upd (upd (upd (upd f0 12 b3) 13 b6) 14 b9) 15 b12)))] := hD
  refine lv_iinc (v := (-8)) (lv' := [(2, .int (-8)), (0, .ref h0), (1, .int x0)]) hx hb dX3_addInt_40 hl (k := 0) rfl (by decide) (by decide) rfl (fun ls hl => ?_)
  refine lv_goto (tgt := 3) hx hb dX3_addInt_43 (by decide) ?_
  refine lv_iload_n hx hb dX3_addInt_3 rfl (lv_at hl 0 rfl) ?_
  refine lv_if_lt (tgt := 46) hx hb dX3_addInt_4 (by decide) (fun _ => ?_) (fun c9 => absurd (by decide) c9)
  exact fv hx hb hr hlocks hP hD hK hS (upd (upd (upd (upd f0 12 b3) 13 b6) 14 b9) 15 b12) trivial [0, 1] [0] rfl (by decide) rfl (Nat.le_of_ble_eq_true rfl) (Nat.le_of_ble_eq_true rfl) dX3_addInt_46
set_option maxHeartbeats 4000000 in
set_option maxRecDepth 100000 in
theorem cX3_addInt_305 (l : Launch) (D : va_G) (h0 : Nat) (x0 : Int32) (h1 : Nat) (v0 : Value) (v1 : Value) (v2 : Value) (v3 : Value) (v4 : Value) (v5 : Value) (f0 : Nat → Int32) (a0 : ClassId)   : CT l yX3_addInt cX3_addInt 3 none { frames := 0, cells := 0, slots := 0, locals := 0 } [.ref h0, .int x0] D [(h0, .inr (3, [.ref h1, .int 16, v0, v1, v2, v3, v4, v5])), (h1, .inl (a0, 700, .inl f0))] [(a0, .byte)] XN [(h0, .inr (3, [.ref h1, .int 16, v0, v1, v2, v3, v4, v5])), (h1, .inl (a0, 700, .inl f0))] (ev (fun _ : (Nat → Int32) => True) (fun u => [(h0, .inr (3, [.ref h1, .int 20, v0, v1, v2, v3, v4, v5])), (h1, .inl (a0, 700, .inl u))]) (fun u => [(a0, .byte)]) D) 0 0 := by
  refine CT.ofW (by decide +kernel) (Nat.le_of_ble_eq_true rfl) ?_
  intro p e s m below meth c A ls hcs hP hK hD hX hA hS hl
  obtain ⟨hx, hb, hr, hml, hown, hg, hlocks, hin⟩ := hcs
  have hown : s.vm.findClass RX3 = some m.cls := hown
  have hl : lv_has ls 3 [(0, .ref h0), (1, .int x0)] := hl
  refine lv_bipush (v := 24) hx hb dX3_addInt_0 (by decide) ?_
  refine lv_istore_n (lv' := [(2, .int 24), (0, .ref h0), (1, .int x0)]) hx hb dX3_addInt_2 rfl hl (by decide) rfl (fun ls hl => ?_)
  refine lv_iload_n hx hb dX3_addInt_3 rfl (lv_at hl 0 rfl) ?_
  refine lv_if_lt (tgt := 46) hx hb dX3_addInt_4 (by decide) (fun c9 => absurd c9 (by decide)) (fun _ => ?_)
  refine lv_aload_n hx hb dX3_addInt_7 rfl (lv_at hl 1 rfl) ?_
  refine va_get (D := D) (ci := 3) (v := .int 16) (C := RX3) (T := TX3) (N := 8) hx hb hg inX3 hown hK hP 0 rfl rfl 1 (by decide) (hg _ k120) (fun _ h9 => h9) rfl dX3_addInt_8 ?_
  refine lv_sipush (v := 700) hx hb dX3_addInt_11 (by decide) ?_
  refine lv_icmp_ge (tgt := 46) hx hb dX3_addInt_14 (by decide) (fun c9 => absurd c9 (by decide)) (fun _ => ?_)
  refine lv_aload_n hx hb dX3_addInt_17 rfl (lv_at hl 1 rfl) ?_
  refine va_get (D := D) (ci := 3) (v := .ref h1) (C := RX3) (T := TX3) (N := 8) hx hb hg inX3 hown hK hP 0 rfl rfl 0 (by decide) (hg _ k119) (fun _ h9 => h9) rfl dX3_addInt_18 ?_
  refine lv_aload_n hx hb dX3_addInt_21 rfl (lv_at hl 1 rfl) ?_
  refine va_get (D := D) (ci := 3) (v := .int 16) (C := RX3) (T := TX3) (N := 8) hx hb hg inX3 hown hK hP 0 rfl rfl 1 (by decide) (hg _ k120) (fun _ h9 => h9) rfl dX3_addInt_22 ?_
  refine lv_iload_n hx hb dX3_addInt_25 rfl (lv_at hl 2 rfl) ?_
  refine lv_iload_n hx hb dX3_addInt_26 rfl (lv_at hl 0 rfl) ?_
  refine lv_ishr hx hb dX3_addInt_27 ?_
  refine lv_topi (fun t1 et1 => ?_)
  refine lv_i2b hx hb dX3_addInt_28 rfl ?_
  refine lv_topi (fun t2 et2 => ?_)
  obtain ⟨b3, eb3⟩ : ∃ z : Int32, vp_nar .byte t2 = z := ⟨_, rfl⟩
  refine astB hx hb hK hP hD hS 1 0 rfl rfl 16 (by decide) (vin (by decide)) (v := b3) eb3 dX3_addInt_29 (fun H locs hP hD hS => ?_)
  have hP : va_P D vwCl [(h0, .inr (3, [.ref h1, .int 16, v0, v1, v2, v3, v4, v5])), (h1, .inl (a0, 700, .inl (upd f0 16 b3)))] H := hP
  have hD : va_D A [(h0, .inr (3, [.ref h1, .int 16, v0, v1, v2, v3, v4, v5])), (h1, .inl (a0, 700, .inl (upd f0 16 b3)))] := hD
  refine lv_aload_n hx hb dX3_addInt_30 rfl (lv_at hl 1 rfl) ?_
  refine lv_dup hx hb dX3_addInt_31 rfl ?_
  refine va_get (D := D) (ci := 3) (v := .int 16) (C := RX3) (T := TX3) (N := 8) hx hb hg inX3 hown hK hP 0 rfl rfl 1 (by decide) (hg _ k120) (fun _ h9 => h9) rfl dX3_addInt_32 ?_
  refine lv_iconst (v := 1) hx hb dX3_addInt_35 (by decide) ?_
  refine lv_iadd hx hb dX3_addInt_36 ?_
  refine ti (17) (by decide) ?_
  refine va_put (D := D) (ci := 3) (v := .int 17) (ty := .int) (C := RX3) (T := TX3) (N := 8) hx hb hg inX3 tyX3 tyX3_ok nmX3 hown hK hP hD hS 0 rfl rfl 1 (by decide) (hg _ k120) (fun _ h9 => h9) rfl (by decide +kernel) rfl rfl (Nat.le_of_ble_eq_true rfl) dX3_addInt_37 (fun H locs hP hD hS => ?_)
  have hP : va_P D vwCl [(h0, .inr (3, [.ref h1, .int 17, v0, v1, v2, v3, v4, v5])), (h1, .inl (a0, 700, .inl (upd f0 16 b3)))] H := hP
  have hD : va_D A [(h0, .inr (3, [.ref h1, .int 17, v0, v1, v2, v3, v4, v5])), (h1, .inl (a0, 700, .inl (upd f0 16 b3)))] := hD
  refine lv_iinc (v := 16) (lv' := [(2, .int 16), (0, .ref h0), (1, .int x0)]) hx hb dX3_addInt_40 hl (k := 0) rfl (by decide) (by decide) rfl (fun ls hl => ?_)
  refine lv_goto (tgt := 3) hx hb dX3_addInt_43 (by decide) ?_
  refine lv_iload_n hx hb dX3_addInt_3 rfl (lv_at hl 0 rfl) ?_
  refine lv_if_lt (tgt := 46) hx hb dX3_addInt_4 (by decide) (fun c9 => absurd c9 (by decide)) (fun _ => ?_)
  refine lv_aload_n hx hb dX3_addInt_7 rfl (lv_at hl 1 rfl) ?_
  refine va_get (D := D) (ci := 3) (v := .int 17) (C := RX3) (T := TX3) (N := 8) hx hb hg inX3 hown hK hP 0 rfl rfl 1 (by decide) (hg _ k120) (fun _ h9 => h9) rfl dX3_addInt_8 ?_
  refine lv_sipush (v := 700) hx hb dX3_addInt_11 (by decide) ?_
  refine lv_icmp_ge (tgt := 46) hx hb dX3_addInt_14 (by decide) (fun c9 => absurd c9 (by decide)) (fun _ => ?_)
  refine lv_aload_n hx hb dX3_addInt_17 rfl (lv_at hl 1 rfl) ?_
  refine va_get (D := D) (ci := 3) (v := .ref h1) (C := RX3) (T := TX3) (N := 8) hx hb hg inX3 hown hK hP 0 rfl rfl 0 (by decide) (hg _ k119) (fun _ h9 => h9) rfl dX3_addInt_18 ?_
  refine lv_aload_n hx hb dX3_addInt_21 rfl (lv_at hl 1 rfl) ?_
  refine va_get (D := D) (ci := 3) (v := .int 17) (C := RX3) (T := TX3) (N := 8) hx hb hg inX3 hown hK hP 0 rfl rfl 1 (by decide) (hg _ k120) (fun _ h9 => h9) rfl dX3_addInt_22 ?_
  refine lv_iload_n hx hb dX3_addInt_25 rfl (lv_at hl 2 rfl) ?_
  refine lv_iload_n hx hb dX3_addInt_26 rfl (lv_at hl 0 rfl) ?_
  refine lv_ishr hx hb dX3_addInt_27 ?_
  refine lv_topi (fun t4 et4 => ?_)
  refine lv_i2b hx hb dX3_addInt_28 rfl ?_
  refine lv_topi (fun t5 et5 => ?_)
  obtain ⟨b6, eb6⟩ : ∃ z : Int32, vp_nar .byte t5 = z := ⟨_, rfl⟩
  refine astB hx hb hK hP hD hS 1 0 rfl rfl 17 (by decide) (vin (by decide)) (v := b6) eb6 dX3_addInt_29 (fun H locs hP hD hS => ?_)
  have hP : va_P D vwCl [(h0, .inr (3, [.ref h1, .int 17, v0, v1, v2, v3, v4, v5])), (h1, .inl (a0, 700, .inl (upd (upd f0 16 b3) 17 b6)))] H := hP
  have hD : va_D A [(h0, .inr (3, [.ref h1, .int 17, v0, v1, v2, v3, v4, v5])), (h1, .inl (a0, 700, .inl (upd (upd f0 16 b3) 17 b6)))] := hD
  refine lv_aload_n hx hb dX3_addInt_30 rfl (lv_at hl 1 rfl) ?_
  refine lv_dup hx hb dX3_addInt_31 rfl ?_
  refine va_get (D := D) (ci := 3) (v := .int 17) (C := RX3) (T := TX3) (N := 8) hx hb hg inX3 hown hK hP 0 rfl rfl 1 (by decide) (hg _ k120) (fun _ h9 => h9) rfl dX3_addInt_32 ?_
  refine lv_iconst (v := 1) hx hb dX3_addInt_35 (by decide) ?_
  refine lv_iadd hx hb dX3_addInt_36 ?_
  refine ti (18) (by decide) ?_
  refine va_put (D := D) (ci := 3) (v := .int 18) (ty := .int) (C := RX3) (T := TX3) (N := 8) hx hb hg inX3 tyX3 tyX3_ok nmX3 hown hK hP hD hS 0 rfl rfl 1 (by decide) (hg _ k120) (fun _ h9 => h9) rfl (by decide +kernel) rfl rfl (Nat.le_of_ble_eq_true rfl) dX3_addInt_37 (fun H locs hP hD hS => ?_)
  have hP : va_P D vwCl [(h0, .inr (3, [.ref h1, .int 18, v0, v1, v2, v3, v4, v5])), (h1, .inl (a0, 700, .inl (upd (upd f0 16 b3) 17 b6)))] H := hP
  have hD : va_D A [(h0, .inr (3, [.ref h1, .int 18, v0, v1, v2, v3, v4, v5])), (h1, .inl (a0, 700, .inl (upd (upd f0 16 b3) 17 b6)))] := hD
  refine lv_iinc (v := 8) (lv' := [(2, .int 8), (0, .ref h0), (1, .int x0)]) hx hb dX3_addInt_40 hl (k := 0) rfl (by decide) (by decide) rfl (fun ls hl => ?_)
  refine lv_goto (tgt := 3) hx hb dX3_addInt_43 (by decide) ?_
  refine lv_iload_n hx hb dX3_addInt_3 rfl (lv_at hl 0 rfl) ?_
  refine lv_if_lt (tgt := 46) hx hb dX3_addInt_4 (by decide) (fun c9 => absurd c9 (by decide)) (fun _ => ?_)
  refine lv_aload_n hx hb dX3_addInt_7 rfl (lv_at hl 1 rfl) ?_
  refine va_get (D := D) (ci := 3) (v := .int 18) (C := RX3) (T := TX3) (N := 8) hx hb hg inX3 hown hK hP 0 rfl rfl 1 (by decide) (hg _ k120) (fun _ h9 => h9) rfl dX3_addInt_8 ?_
  refine lv_sipush (v := 700) hx hb dX3_addInt_11 (by decide) ?_
  refine lv_icmp_ge (tgt := 46) hx hb dX3_addInt_14 (by decide) (fun c9 => absurd c9 (by decide)) (fun _ => ?_)
  refine lv_aload_n hx hb dX3_addInt_17 rfl (lv_at hl 1 rfl) ?_
  refine va_get (D := D) (ci := 3) (v := .ref h1) (C := RX3) (T := TX3) (N := 8) hx hb hg inX3 hown hK hP 0 rfl rfl 0 (by decide) (hg _ k119) (fun _ h9 => h9) rfl dX3_addInt_18 ?_
  refine lv_aload_n hx hb dX3_addInt_21 rfl (lv_at hl 1 rfl) ?_
  refine va_get (D := D) (ci := 3) (v := .int 18) (C := RX3) (T := TX3) (N := 8) hx hb hg inX3 hown hK hP 0 rfl rfl 1 (by decide) (hg _ k120) (fun _ h9 => h9) rfl dX3_addInt_22 ?_
  refine lv_iload_n hx hb dX3_addInt_25 rfl (lv_at hl 2 rfl) ?_
  refine lv_iload_n hx hb dX3_addInt_26 rfl (lv_at hl 0 rfl) ?_
  refine lv_ishr hx hb dX3_addInt_27 ?_
  refine lv_topi (fun t7 et7 => ?_)
  refine lv_i2b hx hb dX3_addInt_28 rfl ?_
  refine lv_topi (fun t8 et8 => ?_)
  obtain ⟨b9, eb9⟩ : ∃ z : Int32, vp_nar .byte t8 = z := ⟨_, rfl⟩
  refine astB hx hb hK hP hD hS 1 0 rfl rfl 18 (by decide) (vin (by decide)) (v := b9) eb9 dX3_addInt_29 (fun H locs hP hD hS => ?_)
  have hP : va_P D vwCl [(h0, .inr (3, [.ref h1, .int 18, v0, v1, v2, v3, v4, v5])), (h1, .inl (a0, 700, .inl (upd (upd (upd f0 16 b3) 17 b6) 18 b9)))] H := hP
  have hD : va_D A [(h0, .inr (3, [.ref h1, .int 18, v0, v1, v2, v3, v4, v5])), (h1, .inl (a0, 700, .inl (upd (upd (upd f0 16 b3) 17 b6) 18 b9)))] := hD
  refine lv_aload_n hx hb dX3_addInt_30 rfl (lv_at hl 1 rfl) ?_
  refine lv_dup hx hb dX3_addInt_31 rfl ?_
  refine va_get (D := D) (ci := 3) (v := .int 18) (C := RX3) (T := TX3) (N := 8) hx hb hg inX3 hown hK hP 0 rfl rfl 1 (by decide) (hg _ k120) (fun _ h9 => h9) rfl dX3_addInt_32 ?_
  refine lv_iconst (v := 1) hx hb dX3_addInt_35 (by decide) ?_
  refine lv_iadd hx hb dX3_addInt_36 ?_
  refine ti (19) (by decide) ?_
  refine va_put (D := D) (ci := 3) (v := .int 19) (ty := .int) (C := RX3) (T := TX3) (N := 8) hx hb hg inX3 tyX3 tyX3_ok nmX3 hown hK hP hD hS 0 rfl rfl 1 (by decide) (hg _ k120) (fun _ h9 => h9) rfl (by decide +kernel) rfl rfl (Nat.le_of_ble_eq_true rfl) dX3_addInt_37 (fun H locs hP hD hS => ?_)
  have hP : va_P D vwCl [(h0, .inr (3, [.ref h1, .int 19, v0, v1, v2, v3, v4, v5])), (h1, .inl (a0, 700, .inl (upd (upd (upd f0 16 b3) 17 b6) 18 b9)))] H := hP
  have hD : va_D A [(h0, .inr (3, [.ref h1, .int 19, v0, v1, v2, v3, v4, v5])), (h1, .inl (a0, 700, .inl (upd (upd (upd f0 16 b3) 17 b6) 18 b9)))] := hD
  refine lv_iinc (v := 0) (lv' := [(2, .int 0), (0, .ref h0), (1, .int x0)]) hx hb dX3_addInt_40 hl (k := 0) rfl (by decide) (by decide) rfl (fun ls hl => ?_)
  refine lv_goto (tgt := 3) hx hb dX3_addInt_43 (by decide) ?_
  refine lv_iload_n hx hb dX3_addInt_3 rfl (lv_at hl 0 rfl) ?_
  refine lv_if_lt (tgt := 46) hx hb dX3_addInt_4 (by decide) (fun c9 => absurd c9 (by decide)) (fun _ => ?_)
  refine lv_aload_n hx hb dX3_addInt_7 rfl (lv_at hl 1 rfl) ?_
  refine va_get (D := D) (ci := 3) (v := .int 19) (C := RX3) (T := TX3) (N := 8) hx hb hg inX3 hown hK hP 0 rfl rfl 1 (by decide) (hg _ k120) (fun _ h9 => h9) rfl dX3_addInt_8 ?_
  refine lv_sipush (v := 700) hx hb dX3_addInt_11 (by decide) ?_
  refine lv_icmp_ge (tgt := 46) hx hb dX3_addInt_14 (by decide) (fun c9 => absurd c9 (by decide)) (fun _ => ?_)
  refine lv_aload_n hx hb dX3_addInt_17 rfl (lv_at hl 1 rfl) ?_
  refine va_get (D := D) (ci := 3) (v := .ref h1) (C := RX3) (T := TX3) (N := 8) hx hb hg inX3 hown hK hP 0 rfl rfl 0 (by decide) (hg _ k119) (fun _ h9 => h9) rfl dX3_addInt_18 ?_
  refine lv_aload_n hx hb dX3_addInt_21 rfl (lv_at hl 1 rfl) ?_
  refine va_get (D := D) (ci := 3) (v := .int 19) (C := RX3) (T := TX3) (N := 8) hx hb hg inX3 hown hK hP 0 rfl rfl 1 (by decide) (hg _ k120) (fun _ h9 => h9) rfl dX3_addInt_22 ?_
  refine lv_iload_n hx hb dX3_addInt_25 rfl (lv_at hl 2 rfl) ?_
  refine lv_iload_n hx hb dX3_addInt_26 rfl (lv_at hl 0 rfl) ?_
  refine lv_ishr hx hb dX3_addInt_27 ?_
  refine lv_topi (fun t10 et10 => ?_)
  refine lv_i2b hx hb dX3_addInt_28 rfl ?_
  refine lv_topi (fun t11 et11 => ?_)
  obtain ⟨b12, eb12⟩ : ∃ z : Int32, vp_nar .byte t11 = z := ⟨_, rfl⟩
  refine astB hx hb hK hP hD hS 1 0 rfl rfl 19 (by decide) (vin (by decide)) (v := b12) eb12 dX3_addInt_29 (fun H locs hP hD hS => ?_)
  have hP : va_P D vwCl [(h0, .inr (3, [.ref h1, .int 19, v0, v1, v2, v3, v4, v5])), (h1, .inl (a0, 700, .inl (upd (upd (upd (upd f0 16 b3) 17 b6) 18 b9) 19 b12)))] H := hP
  have hD : va_D A [(h0, .inr (3, [.ref h1, .int 19, v0, v1, v2, v3, v4, v5])), (h1, .inl (a0, 700, .inl (upd (upd (upd (upd f0 16 b3) 17 b6) 18 b9) 19 b12)))] := hD
  refine lv_aload_n hx hb dX3_addInt_30 rfl (lv_at hl 1 rfl) ?_
  refine lv_dup hx hb dX3_addInt_31 rfl ?_
  refine va_get (D := D) (ci := 3) (v := .int 19) (C := RX3) (T := TX3) (N := 8) hx hb hg inX3 hown hK hP 0 rfl rfl 1 (by decide) (hg _ k120) (fun _ h9 => h9) rfl dX3_addInt_32 ?_
  refine lv_iconst (v := 1) hx hb dX3_addInt_35 (by decide) ?_
  refine lv_iadd hx hb dX3_addInt_36 ?_
  refine ti (20) (by decide) ?_
  refine va_put (D := D) (ci := 3) (v := .int 20) (ty := .int) (C := RX3) (T := TX3) (N := 8) hx hb hg inX3 tyX3 tyX3_ok nmX3 hown hK hP hD hS 0 rfl rfl 1 (by decide) (hg _ k120) (fun _ h9 => h9) rfl (by decide +kernel) rfl rfl (Nat.le_of_ble_eq_true rfl) dX3_addInt_37 (fun H locs hP hD hS => ?_)
  have hP : va_P D vwCl [(h0, .inr (3, [.ref h1, .int 20, v0, v1, v2, v3, v4, v5])), (h1, .inl (a0, 700, .inl (upd (upd (upd (upd f0 16 b3) 17 b6) 18 b9) 19 b12)))] H := hP
  have hD : va_D A [(h0, .inr (3, [.ref h1, .int 20, v0, v1, v2, v3, v4, v5])), (h1, .inl (a0, 700, .inl (upd (upd (upd (upd f0 16 b3) 17 b6) 18 b9) 19 b12)))] := hD
  refine lv_iinc (v := (-8)) (lv' := [(2, .int (-8)), (0, .ref h0), (1, .int x0)]) hx hb dX3_addInt_40 hl (k := 0) rfl (by decide) (by decide) rfl (fun ls hl => ?_)
  refine lv_goto (tgt := 3) hx hb dX3_addInt_43 (by decide) ?_
  refine lv_iload_n hx hb dX3_addInt_3 rfl (lv_at hl 0 rfl) ?_
  refine lv_if_lt (tgt := 46) hx hb dX3_addInt_4 (by decide) (fun _ => ?_) (fun c9 => absurd (by decide) c9)
  exact fv hx hb hr hlocks hP hD hK hS (upd (upd (upd (upd f0 16 b3) 17 b6) 18 b9) 19 b12) trivial [0, 1] [0] rfl (by decide) rfl (Nat.le_of_ble_eq_true rfl) (Nat.le_of_ble_eq_true rfl) dX3_addInt_46
set_option maxHeartbeats 4000000 in
set_option maxRecDepth 100000 in
theorem cX5_append_299 (l : Launch) (D : va_G) (h0 : Nat) (x0 : Int32) (x1 : Int32) (x2 : Int32) (x3 : Int32) (x4 : Int32) (h1 : Nat) (h2 : Nat) (v0 : Value) (v1 : Value) (v2 : Value) (v3 : Value) (v4 : Value) (v5 : Value) (v6 : Value) (v7 : Value) (v8 : Value) (v9 : Value) (v10 : Value) (v11 : Value) (v12 : Value) (v13 : Value) (v14 : Value) (f0 : Nat → Int32) (a0 : ClassId)   : CT l yX5_append cX5_append 6 (some .int) { frames := 1, cells := 0, slots := 0, locals := 22 } [.ref h0, .int x0, .int x1, .int x2, .int x3, .int x4] D [(h0, .inr (5, [.ref h1, v0, v1, v2, v3, v4, v5, v6, v7, v8])), (h1, .inr (3, [.ref h2, .int 0, v9, v10, v11, v12, v13, v14])), (h2, .inl (a0, 700, .inl f0))] [(a0, .byte)] XN [(h0, .inr (5, [.ref h1, v0, v1, v2, v3, v4, v5, v6, v7, v8])), (h1, .inr (3, [.ref h2, .int 0, v9, v10, v11, v12, v13, v14])), (h2, .inl (a0, 700, .inl f0))] (ei (fun _ : (Nat → Int32) => True) (fun u => 20) (fun u => [(h0, .inr (5, [.ref h1, v0, v1, v2, v3, v4, v5, v6, v7, v8])), (h1, .inr (3, [.ref h2, .int 20, v9, v10, v11, v12, v13, v14])), (h2, .inl (a0, 700, .inl u))]) (fun u => [(a0, .byte)]) D) 0 0 := by
  refine CT.ofW (by decide +kernel) (Nat.le_of_ble_eq_true rfl) ?_
  intro p e s m below meth c A ls hcs hP hK hD hX hA hS hl
  obtain ⟨hx, hb, hr, hml, hown, hg, hlocks, hin⟩ := hcs
  have hown : s.vm.findClass RX5 = some m.cls := hown
  have hl : lv_has ls 6 [(0, .ref h0), (1, .int x0), (2, .int x1), (3, .int x2), (4, .int x3), (5, .int x4)] := hl
  refine lv_aload_n hx hb dX5_append_0 rfl (lv_at hl 0 rfl) ?_
  refine va_get (D := D) (ci := 5) (v := .ref h1) (C := RX5) (T := TX5) (N := 10) hx hb hg inX5 hown hK hP 0 rfl rfl 0 (by decide) (hg _ k379) (fun _ h9 => h9) rfl dX5_append_1 ?_
  refine cVi (n := 0) (As := []) (rest := []) (wr := [(h0, .inr (5, [.ref h1, v0, v1, v2, v3, v4, v5, v6, v7, v8])), (h1, .inr (3, [.ref h2, .int 0, v9, v10, v11, v12, v13, v14])), (h2, .inl (a0, 700, .inl f0))]) (tr := [(a0, .byte)]) hx hb hml hown hg okN (cX3_hasRoom_300 l D h1 (.ref h2) v9 v10 v11 v12 v13 v14) (mwV k415 k416 k417 k85 k418) ⟨rfl, by decide, by decide, by decide +kernel⟩ ⟨rfl, rfl, (Nat.le_of_ble_eq_true rfl), (Nat.le_of_ble_eq_true rfl)⟩ hP hD hK hS xn [1] [] [0, 1, 2] [] [0] rfl (by decide) rfl rfl (by decide) (by decide) rfl rfl (aNil hA hS) (aNil hA hS) 1 rfl rfl rfl hl.1 rfl (Nat.le_of_ble_eq_true rfl) dX5_append_4 ⟨(Nat.le_of_ble_eq_true rfl), (Nat.le_of_ble_eq_true rfl)⟩ (fun u H locs hφ hP hD hK hS hk => ?_)
  have hP : va_P D vwCl [(h0, .inr (5, [.ref h1, v0, v1, v2, v3, v4, v5, v6, v7, v8])), (h1, .inr (3, [.ref h2, .int 0, v9, v10, v11, v12, v13, v14])), (h2, .inl (a0, 700, .inl f0))] H := hP
  have hD : va_D A [(h0, .inr (5, [.ref h1, v0, v1, v2, v3, v4, v5, v6, v7, v8])), (h1, .inr (3, [.ref h2, .int 0, v9, v10, v11, v12, v13, v14])), (h2, .inl (a0, 700, .inl f0))] := hD
  have hK : va_K D vwCl [(a0, .byte)] s := hK
  refine W.widen (k := 0) (n := 0) (Nat.le_of_ble_eq_true rfl) (Nat.le_of_ble_eq_true rfl) ?_
  refine lv_if_ne (tgt := 12) hx hb dX5_append_7 (by decide) (fun _ => ?_) (fun c9 => absurd c9 (by decide))
  refine lv_aload_n hx hb dX5_append_12 rfl (lv_at hl 0 rfl) ?_
  refine va_get (D := D) (ci := 5) (v := .ref h1) (C := RX5) (T := TX5) (N := 10) hx hb hg inX5 hown hK hP 0 rfl rfl 0 (by decide) (hg _ k379) (fun _ h9 => h9) rfl dX5_append_13 ?_
  refine lv_iload_n hx hb dX5_append_16 rfl (lv_at hl 1 rfl) ?_
  refine cVv (n := 1) (As := [.int x0]) (rest := []) (wr := [(h0, .inr (5, [.ref h1, v0, v1, v2, v3, v4, v5, v6, v7, v8]))]) (tr := []) hx hb hml hown hg okN (cX3_addInt_301 l D h1 x0 h2 v9 v10 v11 v12 v13 v14 f0 a0) (mwV k419 k420 k421 k85 k422) ⟨rfl, by decide, by decide, by decide +kernel⟩ ⟨rfl, rfl, (Nat.le_of_ble_eq_true rfl), (Nat.le_of_ble_eq_true rfl)⟩ hP hD hK hS xn [1, 2] [1, 2] [0] [0] [] rfl (by decide) rfl rfl (by decide) (by decide) rfl rfl (va_free hD hS hA [1, 2] rfl) (va_free hD hS hA [1, 2] rfl) 1 rfl rfl rfl hl.1 rfl (Nat.le_of_ble_eq_true rfl) dX5_append_17 ⟨(Nat.le_of_ble_eq_true rfl), (Nat.le_of_ble_eq_true rfl)⟩ (fun u H locs hφ hP hD hK hS hk => ?_)
  obtain ⟨y0_1, rfl⟩ : ∃ z, z = u := ⟨_, rfl⟩
  have hP : va_P D vwCl [(h0, .inr (5, [.ref h1, v0, v1, v2, v3, v4, v5, v6, v7, v8])), (h1, .inr (3, [.ref h2, .int 4, v9, v10, v11, v12, v13, v14])), (h2, .inl (a0, 700, .inl y0_1))] H := hP
  have hD : va_D A [(h0, .inr (5, [.ref h1, v0, v1, v2, v3, v4, v5, v6, v7, v8])), (h1, .inr (3, [.ref h2, .int 4, v9, v10, v11, v12, v13, v14])), (h2, .inl (a0, 700, .inl y0_1))] := hD
  have hK : va_K D vwCl [(a0, .byte)] s := hK
  refine W.widen (k := 0) (n := 0) (Nat.le_of_ble_eq_true rfl) (Nat.le_of_ble_eq_true rfl) ?_
  refine lv_aload_n hx hb dX5_append_20 rfl (lv_at hl 0 rfl) ?_
  refine va_get (D := D) (ci := 5) (v := .ref h1) (C := RX5) (T := TX5) (N := 10) hx hb hg inX5 hown hK hP 0 rfl rfl 0 (by decide) (hg _ k379) (fun _ h9 => h9) rfl dX5_append_21 ?_
  refine lv_iload_n hx hb dX5_append_24 rfl (lv_at hl 2 rfl) ?_
  refine cVv (n := 1) (As := [.int x1]) (rest := []) (wr := [(h0, .inr (5, [.ref h1, v0, v1, v2, v3, v4, v5, v6, v7, v8]))]) (tr := []) hx hb hml hown hg okN (cX3_addInt_302 l D h1 x1 h2 v9 v10 v11 v12 v13 v14 y0_1 a0) (mwV k419 k420 k421 k85 k422) ⟨rfl, by decide, by decide, by decide +kernel⟩ ⟨rfl, rfl, (Nat.le_of_ble_eq_true rfl), (Nat.le_of_ble_eq_true rfl)⟩ hP hD hK hS xn [1, 2] [1, 2] [0] [0] [] rfl (by decide) rfl rfl (by decide) (by decide) rfl rfl (va_free hD hS hA [1, 2] rfl) (va_free hD hS hA [1, 2] rfl) 1 rfl rfl rfl hl.1 rfl (Nat.le_of_ble_eq_true rfl) dX5_append_25 ⟨(Nat.le_of_ble_eq_true rfl), (Nat.le_of_ble_eq_true rfl)⟩ (fun u H locs hφ hP hD hK hS hk => ?_)
  obtain ⟨y0_2, rfl⟩ : ∃ z, z = u := ⟨_, rfl⟩
  have hP : va_P D vwCl [(h0, .inr (5, [.ref h1, v0, v1, v2, v3, v4, v5, v6, v7, v8])), (h1, .inr (3, [.ref h2, .int 8, v9, v10, v11, v12, v13, v14])), (h2, .inl (a0, 700, .inl y0_2))] H := hP
  have hD : va_D A [(h0, .inr (5, [.ref h1, v0, v1, v2, v3, v4, v5, v6, v7, v8])), (h1, .inr (3, [.ref h2, .int 8, v9, v10, v11, v12, v13, v14])), (h2, .inl (a0, 700, .inl y0_2))] := hD
  have hK : va_K D vwCl [(a0, .byte)] s := hK
  refine W.widen (k := 0) (n := 0) (Nat.le_of_ble_eq_true rfl) (Nat.le_of_ble_eq_true rfl) ?_
  refine lv_aload_n hx hb dX5_append_28 rfl (lv_at hl 0 rfl) ?_
  refine va_get (D := D) (ci := 5) (v := .ref h1) (C := RX5) (T := TX5) (N := 10) hx hb hg inX5 hown hK hP 0 rfl rfl 0 (by decide) (hg _ k379) (fun _ h9 => h9) rfl dX5_append_29 ?_
  refine lv_iload_n hx hb dX5_append_32 rfl (lv_at hl 3 rfl) ?_
  refine cVv (n := 1) (As := [.int x2]) (rest := []) (wr := [(h0, .inr (5, [.ref h1, v0, v1, v2, v3, v4, v5, v6, v7, v8]))]) (tr := []) hx hb hml hown hg okN (cX3_addInt_303 l D h1 x2 h2 v9 v10 v11 v12 v13 v14 y0_2 a0) (mwV k419 k420 k421 k85 k422) ⟨rfl, by decide, by decide, by decide +kernel⟩ ⟨rfl, rfl, (Nat.le_of_ble_eq_true rfl), (Nat.le_of_ble_eq_true rfl)⟩ hP hD hK hS xn [1, 2] [1, 2] [0] [0] [] rfl (by decide) rfl rfl (by decide) (by decide) rfl rfl (va_free hD hS hA [1, 2] rfl) (va_free hD hS hA [1, 2] rfl) 1 rfl rfl rfl hl.1 rfl (Nat.le_of_ble_eq_true rfl) dX5_append_33 ⟨(Nat.le_of_ble_eq_true rfl), (Nat.le_of_ble_eq_true rfl)⟩ (fun u H locs hφ hP hD hK hS hk => ?_)
  obtain ⟨y0_3, rfl⟩ : ∃ z, z = u := ⟨_, rfl⟩
  have hP : va_P D vwCl [(h0, .inr (5, [.ref h1, v0, v1, v2, v3, v4, v5, v6, v7, v8])), (h1, .inr (3, [.ref h2, .int 12, v9, v10, v11, v12, v13, v14])), (h2, .inl (a0, 700, .inl y0_3))] H := hP
  have hD : va_D A [(h0, .inr (5, [.ref h1, v0, v1, v2, v3, v4, v5, v6, v7, v8])), (h1, .inr (3, [.ref h2, .int 12, v9, v10, v11, v12, v13, v14])), (h2, .inl (a0, 700, .inl y0_3))] := hD
  have hK : va_K D vwCl [(a0, .byte)] s := hK
  refine W.widen (k := 0) (n := 0) (Nat.le_of_ble_eq_true rfl) (Nat.le_of_ble_eq_true rfl) ?_
  refine lv_aload_n hx hb dX5_append_36 rfl (lv_at hl 0 rfl) ?_
  refine va_get (D := D) (ci := 5) (v := .ref h1) (C := RX5) (T := TX5) (N := 10) hx hb hg inX5 hown hK hP 0 rfl rfl 0 (by decide) (hg _ k379) (fun _ h9 => h9) rfl dX5_append_37 ?_
  refine lv_iload hx hb dX5_append_40 (lv_at hl 4 rfl) ?_
  refine cVv (n := 1) (As := [.int x3]) (rest := []) (wr := [(h0, .inr (5, [.ref h1, v0, v1, v2, v3, v4, v5, v6, v7, v8]))]) (tr := []) hx hb hml hown hg okN (cX3_addInt_304 l D h1 x3 h2 v9 v10 v11 v12 v13 v14 y0_3 a0) (mwV k419 k420 k421 k85 k422) ⟨rfl, by decide, by decide, by decide +kernel⟩ ⟨rfl, rfl, (Nat.le_of_ble_eq_true rfl), (Nat.le_of_ble_eq_true rfl)⟩ hP hD hK hS xn [1, 2] [1, 2] [0] [0] [] rfl (by decide) rfl rfl (by decide) (by decide) rfl rfl (va_free hD hS hA [1, 2] rfl) (va_free hD hS hA [1, 2] rfl) 1 rfl rfl rfl hl.1 rfl (Nat.le_of_ble_eq_true rfl) dX5_append_42 ⟨(Nat.le_of_ble_eq_true rfl), (Nat.le_of_ble_eq_true rfl)⟩ (fun u H locs hφ hP hD hK hS hk => ?_)
  obtain ⟨y0_4, rfl⟩ : ∃ z, z = u := ⟨_, rfl⟩
  have hP : va_P D vwCl [(h0, .inr (5, [.ref h1, v0, v1, v2, v3, v4, v5, v6, v7, v8])), (h1, .inr (3, [.ref h2, .int 16, v9, v10, v11, v12, v13, v14])), (h2, .inl (a0, 700, .inl y0_4))] H := hP
  have hD : va_D A [(h0, .inr (5, [.ref h1, v0, v1, v2, v3, v4, v5, v6, v7, v8])), (h1, .inr (3, [.ref h2, .int 16, v9, v10, v11, v12, v13, v14])), (h2, .inl (a0, 700, .inl y0_4))] := hD
  have hK : va_K D vwCl [(a0, .byte)] s := hK
  refine W.widen (k := 0) (n := 0) (Nat.le_of_ble_eq_true rfl) (Nat.le_of_ble_eq_true rfl) ?_
  refine lv_aload_n hx hb dX5_append_45 rfl (lv_at hl 0 rfl) ?_
  refine va_get (D := D) (ci := 5) (v := .ref h1) (C := RX5) (T := TX5) (N := 10) hx hb hg inX5 hown hK hP 0 rfl rfl 0 (by decide) (hg _ k379) (fun _ h9 => h9) rfl dX5_append_46 ?_
  refine lv_iload hx hb dX5_append_49 (lv_at hl 5 rfl) ?_
  refine cVv (n := 1) (As := [.int x4]) (rest := []) (wr := [(h0, .inr (5, [.ref h1, v0, v1, v2, v3, v4, v5, v6, v7, v8]))]) (tr := []) hx hb hml hown hg okN (cX3_addInt_305 l D h1 x4 h2 v9 v10 v11 v12 v13 v14 y0_4 a0) (mwV k419 k420 k421 k85 k422) ⟨rfl, by decide, by decide, by decide +kernel⟩ ⟨rfl, rfl, (Nat.le_of_ble_eq_true rfl), (Nat.le_of_ble_eq_true rfl)⟩ hP hD hK hS xn [1, 2] [1, 2] [0] [0] [] rfl (by decide) rfl rfl (by decide) (by decide) rfl rfl (va_free hD hS hA [1, 2] rfl) (va_free hD hS hA [1, 2] rfl) 1 rfl rfl rfl hl.1 rfl (Nat.le_of_ble_eq_true rfl) dX5_append_51 ⟨(Nat.le_of_ble_eq_true rfl), (Nat.le_of_ble_eq_true rfl)⟩ (fun u H locs hφ hP hD hK hS hk => ?_)
  obtain ⟨y0_5, rfl⟩ : ∃ z, z = u := ⟨_, rfl⟩
  have hP : va_P D vwCl [(h0, .inr (5, [.ref h1, v0, v1, v2, v3, v4, v5, v6, v7, v8])), (h1, .inr (3, [.ref h2, .int 20, v9, v10, v11, v12, v13, v14])), (h2, .inl (a0, 700, .inl y0_5))] H := hP
  have hD : va_D A [(h0, .inr (5, [.ref h1, v0, v1, v2, v3, v4, v5, v6, v7, v8])), (h1, .inr (3, [.ref h2, .int 20, v9, v10, v11, v12, v13, v14])), (h2, .inl (a0, 700, .inl y0_5))] := hD
  have hK : va_K D vwCl [(a0, .byte)] s := hK
  refine W.widen (k := 0) (n := 0) (Nat.le_of_ble_eq_true rfl) (Nat.le_of_ble_eq_true rfl) ?_
  refine lv_aload_n hx hb dX5_append_54 rfl (lv_at hl 0 rfl) ?_
  refine va_get (D := D) (ci := 5) (v := .ref h1) (C := RX5) (T := TX5) (N := 10) hx hb hg inX5 hown hK hP 0 rfl rfl 0 (by decide) (hg _ k379) (fun _ h9 => h9) rfl dX5_append_55 ?_
  refine va_get (D := D) (ci := 3) (v := .int 20) (C := RX3) (T := TX3) (N := 8) hx hb hg inX3 hown hK hP 1 rfl rfl 1 (by decide) (hg _ k121) (fun _ h9 => h9) rfl dX5_append_58 ?_
  exact fi hx hb hr hlocks hP hD hK hS (y0_5) trivial rfl [0, 1, 2] [0] rfl (by decide) rfl (Nat.le_of_ble_eq_true rfl) (Nat.le_of_ble_eq_true rfl) dX5_append_61
set_option maxHeartbeats 4000000 in
set_option maxRecDepth 100000 in
theorem cX5_needIndex_307 (l : Launch) (D : va_G) (hlt : l.stackTraces = false) (x0 : Int32)  (d0 : x0 < 0) : CX l yX5_needIndex cX5_needIndex 2 none { frames := 6, cells := 1, slots := 6, locals := 90 } [.int x0, .int 1] D [] [] XX [] xv "java/lang/IndexOutOfBoundsException" 1 6 := by
  refine CX.ofR (by decide +kernel) (Nat.le_of_ble_eq_true rfl) ?_
  intro p e s m below meth c A ls hcs hout hP hK hD hX hA hS hl
  obtain ⟨hx, hb, hr, hml, hown, hg, hlocks, hin⟩ := hcs
  have hown : s.vm.findClass RX5 = some m.cls := hown
  have hl : lv_has ls 2 [(0, .int x0), (1, .int 1)] := hl
  refine lv_iload_n hx hb dX5_needIndex_0 rfl (lv_at hl 0 rfl) ?_
  refine lv_if_lt (tgt := 9) hx hb dX5_needIndex_1 (by decide) (fun _ => ?_) (fun c9 => absurd d0 c9)
  obtain ⟨sa, hsa⟩ := XX_sRX5_319 hX
  exact thSW_IOOBE hx hb hlt hown (hg _ k613) (hg _ k96) hsa hg hX hS (hl.1.trans hml.symm) dX5_needIndex_9 dX5_needIndex_12 dX5_needIndex_13 dX5_needIndex_16 dX5_needIndex_19 hout (Nat.le_of_ble_eq_true rfl) (Nat.le_of_ble_eq_true rfl) (Nat.le_of_ble_eq_true rfl) (Nat.le_of_ble_eq_true rfl) hlocks (Nat.le_of_ble_eq_true rfl) (Nat.le_of_ble_eq_true rfl)
set_option maxHeartbeats 4000000 in
set_option maxRecDepth 100000 in
theorem cX5_truncate_306 (l : Launch) (D : va_G) (hlt : l.stackTraces = false) (h0 : Nat) (x0 : Int32) (h1 : Nat) (v0 : Value) (v1 : Value) (v2 : Value) (v3 : Value) (v4 : Value) (v5 : Value) (v6 : Value) (v7 : Value) (v8 : Value) (v9 : Value) (v10 : Value) (v11 : Value) (v12 : Value) (v13 : Value) (v14 : Value) (v15 : Value)  (d0 : x0 < 0) : CX l yX5_truncate cX5_truncate 2 (some .int) { frames := 7, cells := 1, slots := 6, locals := 111 } [.ref h0, .int x0] D [(h0, .inr (5, [.ref h1, v0, v1, v2, v3, v4, v5, v6, v7, v8])), (h1, .inr (3, [v9, .int 0, v10, v11, v12, v13, v14, v15]))] [] XX [] xi "java/lang/IndexOutOfBoundsException" 1 6 := by
  refine CX.ofR (by decide +kernel) (Nat.le_of_ble_eq_true rfl) ?_
  intro p e s m below meth c A ls hcs hout hP hK hD hX hA hS hl
  obtain ⟨hx, hb, hr, hml, hown, hg, hlocks, hin⟩ := hcs
  have hown : s.vm.findClass RX5 = some m.cls := hown
  have hl : lv_has ls 2 [(0, .ref h0), (1, .int x0)] := hl
  refine lv_iload_n hx hb dX5_truncate_0 rfl (lv_at hl 1 rfl) ?_
  refine lv_aload_n hx hb dX5_truncate_1 rfl (lv_at hl 0 rfl) ?_
  refine va_get (D := D) (ci := 5) (v := .ref h1) (C := RX5) (T := TX5) (N := 10) hx hb hg inX5 hown hK hP 0 rfl rfl 0 (by decide) (hg _ k379) (fun _ h9 => h9) rfl dX5_truncate_2 ?_
  refine va_get (D := D) (ci := 3) (v := .int 0) (C := RX3) (T := TX3) (N := 8) hx hb hg inX3 hown hK hP 1 rfl rfl 1 (by decide) (hg _ k121) (fun _ h9 => h9) rfl dX5_truncate_5 ?_
  refine lv_iconst (v := 1) hx hb dX5_truncate_8 (by decide) ?_
  refine lv_iadd hx hb dX5_truncate_9 ?_
  refine ti (1) (by decide) ?_
  exact xSv (n := 2) (As := [.int x0, .int 1]) (rest := []) hx hb hml hown hg okXX (cX5_needIndex_307 l D hlt x0 d0) (mwS k610 k611 k84 k612) ⟨rfl, by decide, by decide, by decide +kernel⟩ ⟨rfl, rfl, (Nat.le_of_ble_eq_true rfl), (Nat.le_of_ble_eq_true rfl)⟩ hP hD hK hS (okXX.2.2 _ _ _ _ hS.2.1 hX) [] [] rfl (by decide) rfl (aNil hA hS) rfl hl.1 rfl (Nat.le_of_ble_eq_true rfl) dX5_truncate_10 ⟨(Nat.le_of_ble_eq_true rfl), (Nat.le_of_ble_eq_true rfl)⟩ hout hlocks (Nat.le_of_ble_eq_true rfl) (Nat.le_of_ble_eq_true rfl)
set_option maxHeartbeats 4000000 in
set_option maxRecDepth 100000 in
theorem cX5_needIndex_309 (l : Launch) (D : va_G)    : CT l yX5_needIndex cX5_needIndex 2 none { frames := 0, cells := 0, slots := 0, locals := 0 } [.int 0, .int 1] D [] [] XN [] (ev (fun _ : Unit => True) (fun _ => []) (fun _ => []) D) 0 0 := by
  refine CT.ofR (by decide +kernel) (Nat.le_of_ble_eq_true rfl) ?_
  intro p e s m below meth c A ls hcs hP hK hD hX hA hS hl
  obtain ⟨hx, hb, hr, hml, hown, hg, hlocks, hin⟩ := hcs
  have hown : s.vm.findClass RX5 = some m.cls := hown
  have hl : lv_has ls 2 [(0, .int 0), (1, .int 1)] := hl
  refine lv_iload_n hx hb dX5_needIndex_0 rfl (lv_at hl 0 rfl) ?_
  refine lv_if_lt (tgt := 9) hx hb dX5_needIndex_1 (by decide) (fun c9 => absurd c9 (by decide)) (fun _ => ?_)
  refine lv_iload_n hx hb dX5_needIndex_4 rfl (lv_at hl 0 rfl) ?_
  refine lv_iload_n hx hb dX5_needIndex_5 rfl (lv_at hl 1 rfl) ?_
  refine lv_icmp_lt (tgt := 20) hx hb dX5_needIndex_6 (by decide) (fun _ => ?_) (fun c9 => absurd (by decide) c9)
  exact fv0 hx hb hr hlocks hK hS (Nat.le_of_ble_eq_true rfl) (Nat.le_of_ble_eq_true rfl) dX5_needIndex_20
set_option maxHeartbeats 4000000 in
set_option maxRecDepth 100000 in
theorem cX5_truncate_308 (l : Launch) (D : va_G) (h0 : Nat) (h1 : Nat) (v0 : Value) (v1 : Value) (v2 : Value) (v3 : Value) (v4 : Value) (v5 : Value) (v6 : Value) (v7 : Value) (v8 : Value) (v9 : Value) (v10 : Value) (v11 : Value) (v12 : Value) (v13 : Value) (v14 : Value) (v15 : Value)   : CT l yX5_truncate cX5_truncate 2 (some .int) { frames := 1, cells := 0, slots := 0, locals := 21 } [.ref h0, .int 0] D [(h0, .inr (5, [.ref h1, v0, v1, v2, v3, v4, v5, v6, v7, v8])), (h1, .inr (3, [v9, .int 0, v10, v11, v12, v13, v14, v15]))] [] XN [(h0, .inr (5, [.ref h1, v0, v1, v2, v3, v4, v5, v6, v7, v8])), (h1, .inr (3, [v9, .int 0, v10, v11, v12, v13, v14, v15]))] (ei (fun _ : Unit => True) (fun u => 0) (fun _ => [(h0, .inr (5, [.ref h1, v0, v1, v2, v3, v4, v5, v6, v7, v8])), (h1, .inr (3, [v9, .int 0, v10, v11, v12, v13, v14, v15]))]) (fun u => []) D) 0 0 := by
  refine CT.ofW (by decide +kernel) (Nat.le_of_ble_eq_true rfl) ?_
  intro p e s m below meth c A ls hcs hP hK hD hX hA hS hl
  obtain ⟨hx, hb, hr, hml, hown, hg, hlocks, hin⟩ := hcs
  have hown : s.vm.findClass RX5 = some m.cls := hown
  have hl : lv_has ls 2 [(0, .ref h0), (1, .int 0)] := hl
  refine lv_iload_n hx hb dX5_truncate_0 rfl (lv_at hl 1 rfl) ?_
  refine lv_aload_n hx hb dX5_truncate_1 rfl (lv_at hl 0 rfl) ?_
  refine va_get (D := D) (ci := 5) (v := .ref h1) (C := RX5) (T := TX5) (N := 10) hx hb hg inX5 hown hK hP 0 rfl rfl 0 (by decide) (hg _ k379) (fun _ h9 => h9) rfl dX5_truncate_2 ?_
  refine va_get (D := D) (ci := 3) (v := .int 0) (C := RX3) (T := TX3) (N := 8) hx hb hg inX3 hown hK hP 1 rfl rfl 1 (by decide) (hg _ k121) (fun _ h9 => h9) rfl dX5_truncate_5 ?_
  refine lv_iconst (v := 1) hx hb dX5_truncate_8 (by decide) ?_
  refine lv_iadd hx hb dX5_truncate_9 ?_
  refine ti (1) (by decide) ?_
  refine cSv (n := 2) (As := [.int 0, .int 1]) (rest := []) (wr := [(h0, .inr (5, [.ref h1, v0, v1, v2, v3, v4, v5, v6, v7, v8])), (h1, .inr (3, [v9, .int 0, v10, v11, v12, v13, v14, v15]))]) (tr := []) hx hb hml hown hg okN (cX5_needIndex_309 l D) (mwS k610 k611 k84 k612) ⟨rfl, by decide, by decide, by decide +kernel⟩ ⟨rfl, rfl, (Nat.le_of_ble_eq_true rfl), (Nat.le_of_ble_eq_true rfl)⟩ hP hD hK hS xn [] [] [0, 1] [] [] rfl (by decide) rfl rfl (by decide) (by decide) rfl rfl (aNil hA hS) (aNil hA hS) rfl hl.1 rfl (Nat.le_of_ble_eq_true rfl) dX5_truncate_10 ⟨(Nat.le_of_ble_eq_true rfl), (Nat.le_of_ble_eq_true rfl)⟩ (fun u H locs hφ hP hD hK hS hk => ?_)
  have hP : va_P D vwCl [(h0, .inr (5, [.ref h1, v0, v1, v2, v3, v4, v5, v6, v7, v8])), (h1, .inr (3, [v9, .int 0, v10, v11, v12, v13, v14, v15]))] H := hP
  have hD : va_D A [(h0, .inr (5, [.ref h1, v0, v1, v2, v3, v4, v5, v6, v7, v8])), (h1, .inr (3, [v9, .int 0, v10, v11, v12, v13, v14, v15]))] := hD
  have hK : va_K D vwCl [] s := hK
  refine W.widen (k := 0) (n := 0) (Nat.le_of_ble_eq_true rfl) (Nat.le_of_ble_eq_true rfl) ?_
  refine lv_aload_n hx hb dX5_truncate_13 rfl (lv_at hl 0 rfl) ?_
  refine va_get (D := D) (ci := 5) (v := .ref h1) (C := RX5) (T := TX5) (N := 10) hx hb hg inX5 hown hK hP 0 rfl rfl 0 (by decide) (hg _ k379) (fun _ h9 => h9) rfl dX5_truncate_14 ?_
  refine lv_iload_n hx hb dX5_truncate_17 rfl (lv_at hl 1 rfl) ?_
  refine va_put (D := D) (ci := 3) (v := .int 0) (ty := .int) (C := RX3) (T := TX3) (N := 8) hx hb hg inX3 tyX3 tyX3_ok nmX3 hown hK hP hD hS 1 rfl rfl 1 (by decide) (hg _ k121) (fun _ h9 => h9) rfl (by decide +kernel) rfl rfl (Nat.le_of_ble_eq_true rfl) dX5_truncate_18 (fun H locs hP hD hS => ?_)
  have hP : va_P D vwCl [(h0, .inr (5, [.ref h1, v0, v1, v2, v3, v4, v5, v6, v7, v8])), (h1, .inr (3, [v9, .int 0, v10, v11, v12, v13, v14, v15]))] H := hP
  have hD : va_D A [(h0, .inr (5, [.ref h1, v0, v1, v2, v3, v4, v5, v6, v7, v8])), (h1, .inr (3, [v9, .int 0, v10, v11, v12, v13, v14, v15]))] := hD
  refine lv_iload_n hx hb dX5_truncate_21 rfl (lv_at hl 1 rfl) ?_
  exact fi hx hb hr hlocks hP hD hK hS (()) trivial rfl [0, 1] [] rfl (by decide) rfl (Nat.le_of_ble_eq_true rfl) (Nat.le_of_ble_eq_true rfl) dX5_truncate_22
set_option maxHeartbeats 4000000 in
set_option maxRecDepth 100000 in
theorem cX5_needIndex_311 (l : Launch) (D : va_G) (hlt : l.stackTraces = false) (x0 : Int32)  (d0 : ¬ (x0 < 0)) (d1 : ¬ (x0 < 1)) : CX l yX5_needIndex cX5_needIndex 2 none { frames := 6, cells := 1, slots := 6, locals := 90 } [.int x0, .int 1] D [] [] XX [] xv "java/lang/IndexOutOfBoundsException" 1 6 := by
  refine CX.ofR (by decide +kernel) (Nat.le_of_ble_eq_true rfl) ?_
  intro p e s m below meth c A ls hcs hout hP hK hD hX hA hS hl
  obtain ⟨hx, hb, hr, hml, hown, hg, hlocks, hin⟩ := hcs
  have hown : s.vm.findClass RX5 = some m.cls := hown
  have hl : lv_has ls 2 [(0, .int x0), (1, .int 1)] := hl
  refine lv_iload_n hx hb dX5_needIndex_0 rfl (lv_at hl 0 rfl) ?_
  refine lv_if_lt (tgt := 9) hx hb dX5_needIndex_1 (by decide) (fun c9 => absurd c9 d0) (fun _ => ?_)
  refine lv_iload_n hx hb dX5_needIndex_4 rfl (lv_at hl 0 rfl) ?_
  refine lv_iload_n hx hb dX5_needIndex_5 rfl (lv_at hl 1 rfl) ?_
  refine lv_icmp_lt (tgt := 20) hx hb dX5_needIndex_6 (by decide) (fun c9 => absurd c9 d1) (fun _ => ?_)
  obtain ⟨sa, hsa⟩ := XX_sRX5_319 hX
  exact thSW_IOOBE hx hb hlt hown (hg _ k613) (hg _ k96) hsa hg hX hS (hl.1.trans hml.symm) dX5_needIndex_9 dX5_needIndex_12 dX5_needIndex_13 dX5_needIndex_16 dX5_needIndex_19 hout (Nat.le_of_ble_eq_true rfl) (Nat.le_of_ble_eq_true rfl) (Nat.le_of_ble_eq_true rfl) (Nat.le_of_ble_eq_true rfl) hlocks (Nat.le_of_ble_eq_true rfl) (Nat.le_of_ble_eq_true rfl)
set_option maxHeartbeats 4000000 in
set_option maxRecDepth 100000 in
theorem cX5_truncate_310 (l : Launch) (D : va_G) (hlt : l.stackTraces = false) (h0 : Nat) (x0 : Int32) (h1 : Nat) (v0 : Value) (v1 : Value) (v2 : Value) (v3 : Value) (v4 : Value) (v5 : Value) (v6 : Value) (v7 : Value) (v8 : Value) (v9 : Value) (v10 : Value) (v11 : Value) (v12 : Value) (v13 : Value) (v14 : Value) (v15 : Value)  (d0 : ¬ (x0 < 0)) (d1 : ¬ (x0 < 1)) : CX l yX5_truncate cX5_truncate 2 (some .int) { frames := 7, cells := 1, slots := 6, locals := 111 } [.ref h0, .int x0] D [(h0, .inr (5, [.ref h1, v0, v1, v2, v3, v4, v5, v6, v7, v8])), (h1, .inr (3, [v9, .int 0, v10, v11, v12, v13, v14, v15]))] [] XX [] xi "java/lang/IndexOutOfBoundsException" 1 6 := by
  refine CX.ofR (by decide +kernel) (Nat.le_of_ble_eq_true rfl) ?_
  intro p e s m below meth c A ls hcs hout hP hK hD hX hA hS hl
  obtain ⟨hx, hb, hr, hml, hown, hg, hlocks, hin⟩ := hcs
  have hown : s.vm.findClass RX5 = some m.cls := hown
  have hl : lv_has ls 2 [(0, .ref h0), (1, .int x0)] := hl
  refine lv_iload_n hx hb dX5_truncate_0 rfl (lv_at hl 1 rfl) ?_
  refine lv_aload_n hx hb dX5_truncate_1 rfl (lv_at hl 0 rfl) ?_
  refine va_get (D := D) (ci := 5) (v := .ref h1) (C := RX5) (T := TX5) (N := 10) hx hb hg inX5 hown hK hP 0 rfl rfl 0 (by decide) (hg _ k379) (fun _ h9 => h9) rfl dX5_truncate_2 ?_
  refine va_get (D := D) (ci := 3) (v := .int 0) (C := RX3) (T := TX3) (N := 8) hx hb hg inX3 hown hK hP 1 rfl rfl 1 (by decide) (hg _ k121) (fun _ h9 => h9) rfl dX5_truncate_5 ?_
  refine lv_iconst (v := 1) hx hb dX5_truncate_8 (by decide) ?_
  refine lv_iadd hx hb dX5_truncate_9 ?_
  refine ti (1) (by decide) ?_
  exact xSv (n := 2) (As := [.int x0, .int 1]) (rest := []) hx hb hml hown hg okXX (cX5_needIndex_311 l D hlt x0 d0 d1) (mwS k610 k611 k84 k612) ⟨rfl, by decide, by decide, by decide +kernel⟩ ⟨rfl, rfl, (Nat.le_of_ble_eq_true rfl), (Nat.le_of_ble_eq_true rfl)⟩ hP hD hK hS (okXX.2.2 _ _ _ _ hS.2.1 hX) [] [] rfl (by decide) rfl (aNil hA hS) rfl hl.1 rfl (Nat.le_of_ble_eq_true rfl) dX5_truncate_10 ⟨(Nat.le_of_ble_eq_true rfl), (Nat.le_of_ble_eq_true rfl)⟩ hout hlocks (Nat.le_of_ble_eq_true rfl) (Nat.le_of_ble_eq_true rfl)
set_option maxHeartbeats 4000000 in
set_option maxRecDepth 100000 in
theorem cX0_clear_314 (l : Launch) (D : va_G) (h0 : Nat) (v0 : Value) (v1 : Value) (v2 : Value) (v3 : Value) (v4 : Value) (v5 : Value) (v6 : Value)   : CT l yX0_clear cX0_clear 1 none { frames := 0, cells := 0, slots := 0, locals := 0 } [.ref h0] D [(h0, .inr (0, [v0, v1, v2, v3, v4, v5, v6]))] [] XN [(h0, .inr (0, [v0, v1, v2, v3, v4, v5, v6]))] (ev (fun _ : Unit => True) (fun _ => [(h0, .inr (0, [v0, v1, .int 0, .int 0, .int 2, .int 1, .int 2]))]) (fun u => []) D) 0 0 := by
  refine CT.ofW (by decide +kernel) (Nat.le_of_ble_eq_true rfl) ?_
  intro p e s m below meth c A ls hcs hP hK hD hX hA hS hl
  obtain ⟨hx, hb, hr, hml, hown, hg, hlocks, hin⟩ := hcs
  have hown : s.vm.findClass RX0 = some m.cls := hown
  have hl : lv_has ls 1 [(0, .ref h0)] := hl
  refine lv_aload_n hx hb dX0_clear_0 rfl (lv_at hl 0 rfl) ?_
  refine lv_iconst (v := 0) hx hb dX0_clear_1 (by decide) ?_
  refine va_put (D := D) (ci := 0) (v := .int 0) (ty := .int) (C := RX0) (T := TX0) (N := 7) hx hb hg inX0 tyX0 tyX0_ok nmX0 hown hK hP hD hS 0 rfl rfl 2 (by decide) (hg _ k161) (fun _ h9 => h9) rfl (by decide +kernel) rfl rfl (Nat.le_of_ble_eq_true rfl) dX0_clear_2 (fun H locs hP hD hS => ?_)
  have hP : va_P D vwCl [(h0, .inr (0, [v0, v1, .int 0, v3, v4, v5, v6]))] H := hP
  have hD : va_D A [(h0, .inr (0, [v0, v1, .int 0, v3, v4, v5, v6]))] := hD
  refine lv_aload_n hx hb dX0_clear_5 rfl (lv_at hl 0 rfl) ?_
  refine lv_iconst (v := 0) hx hb dX0_clear_6 (by decide) ?_
  refine va_put (D := D) (ci := 0) (v := .int 0) (ty := .int) (C := RX0) (T := TX0) (N := 7) hx hb hg inX0 tyX0 tyX0_ok nmX0 hown hK hP hD hS 0 rfl rfl 3 (by decide) (hg _ k165) (fun _ h9 => h9) rfl (by decide +kernel) rfl rfl (Nat.le_of_ble_eq_true rfl) dX0_clear_7 (fun H locs hP hD hS => ?_)
  have hP : va_P D vwCl [(h0, .inr (0, [v0, v1, .int 0, .int 0, v4, v5, v6]))] H := hP
  have hD : va_D A [(h0, .inr (0, [v0, v1, .int 0, .int 0, v4, v5, v6]))] := hD
  refine lv_aload_n hx hb dX0_clear_10 rfl (lv_at hl 0 rfl) ?_
  refine lv_iconst (v := 2) hx hb dX0_clear_11 (by decide) ?_
  refine va_put (D := D) (ci := 0) (v := .int 2) (ty := .int) (C := RX0) (T := TX0) (N := 7) hx hb hg inX0 tyX0 tyX0_ok nmX0 hown hK hP hD hS 0 rfl rfl 4 (by decide) (hg _ k168) (fun _ h9 => h9) rfl (by decide +kernel) rfl rfl (Nat.le_of_ble_eq_true rfl) dX0_clear_12 (fun H locs hP hD hS => ?_)
  have hP : va_P D vwCl [(h0, .inr (0, [v0, v1, .int 0, .int 0, .int 2, v5, v6]))] H := hP
  have hD : va_D A [(h0, .inr (0, [v0, v1, .int 0, .int 0, .int 2, v5, v6]))] := hD
  refine lv_aload_n hx hb dX0_clear_15 rfl (lv_at hl 0 rfl) ?_
  refine lv_iconst (v := 1) hx hb dX0_clear_16 (by decide) ?_
  refine va_put (D := D) (ci := 0) (v := .int 1) (ty := .boolean) (C := RX0) (T := TX0) (N := 7) hx hb hg inX0 tyX0 tyX0_ok nmX0 hown hK hP hD hS 0 rfl rfl 5 (by decide) (hg _ k171) (fun _ h9 => h9) rfl (by decide +kernel) rfl rfl (Nat.le_of_ble_eq_true rfl) dX0_clear_17 (fun H locs hP hD hS => ?_)
  have hP : va_P D vwCl [(h0, .inr (0, [v0, v1, .int 0, .int 0, .int 2, .int 1, v6]))] H := hP
  have hD : va_D A [(h0, .inr (0, [v0, v1, .int 0, .int 0, .int 2, .int 1, v6]))] := hD
  refine lv_aload_n hx hb dX0_clear_20 rfl (lv_at hl 0 rfl) ?_
  refine lv_iconst (v := 2) hx hb dX0_clear_21 (by decide) ?_
  refine va_put (D := D) (ci := 0) (v := .int 2) (ty := .int) (C := RX0) (T := TX0) (N := 7) hx hb hg inX0 tyX0 tyX0_ok nmX0 hown hK hP hD hS 0 rfl rfl 6 (by decide) (hg _ k174) (fun _ h9 => h9) rfl (by decide +kernel) rfl rfl (Nat.le_of_ble_eq_true rfl) dX0_clear_22 (fun H locs hP hD hS => ?_)
  have hP : va_P D vwCl [(h0, .inr (0, [v0, v1, .int 0, .int 0, .int 2, .int 1, .int 2]))] H := hP
  have hD : va_D A [(h0, .inr (0, [v0, v1, .int 0, .int 0, .int 2, .int 1, .int 2]))] := hD
  exact fv hx hb hr hlocks hP hD hK hS (()) trivial [0] [] rfl (by decide) rfl (Nat.le_of_ble_eq_true rfl) (Nat.le_of_ble_eq_true rfl) dX0_clear_25
set_option maxHeartbeats 4000000 in
set_option maxRecDepth 100000 in
theorem cX3_pass_315 (l : Launch) (D : va_G) (h0 : Nat) (v0 : Value) (v1 : Value) (v2 : Value) (v3 : Value) (v4 : Value) (v5 : Value)   : CT l yX3_pass cX3_pass 1 (some .boolean) { frames := 0, cells := 0, slots := 0, locals := 0 } [.ref h0] D [(h0, .inr (3, [v0, .int 0, v1, v2, v3, v4, .int 0, v5]))] [] XN [(h0, .inr (3, [v0, .int 0, v1, v2, v3, v4, .int 0, v5]))] (ei (fun _ : Unit => True) (fun u => 1) (fun _ => [(h0, .inr (3, [v0, .int 0, v1, v2, .int 0, .int 0, .int 0, v5]))]) (fun u => []) D) 0 0 := by
  refine CT.ofW (by decide +kernel) (Nat.le_of_ble_eq_true rfl) ?_
  intro p e s m below meth c A ls hcs hP hK hD hX hA hS hl
  obtain ⟨hx, hb, hr, hml, hown, hg, hlocks, hin⟩ := hcs
  have hown : s.vm.findClass RX3 = some m.cls := hown
  have hl : lv_has ls 1 [(0, .ref h0)] := hl
  refine lv_aload_n hx hb dX3_pass_0 rfl (lv_at hl 0 rfl) ?_
  refine lv_aload_n hx hb dX3_pass_1 rfl (lv_at hl 0 rfl) ?_
  refine va_get (D := D) (ci := 3) (v := .int 0) (C := RX3) (T := TX3) (N := 8) hx hb hg inX3 hown hK hP 0 rfl rfl 6 (by decide) (hg _ k128) (fun _ h9 => h9) rfl dX3_pass_2 ?_
  refine va_put (D := D) (ci := 3) (v := .int 0) (ty := .int) (C := RX3) (T := TX3) (N := 8) hx hb hg inX3 tyX3 tyX3_ok nmX3 hown hK hP hD hS 0 rfl rfl 5 (by decide) (hg _ k127) (fun _ h9 => h9) rfl (by decide +kernel) rfl rfl (Nat.le_of_ble_eq_true rfl) dX3_pass_5 (fun H locs hP hD hS => ?_)
  have hP : va_P D vwCl [(h0, .inr (3, [v0, .int 0, v1, v2, v3, .int 0, .int 0, v5]))] H := hP
  have hD : va_D A [(h0, .inr (3, [v0, .int 0, v1, v2, v3, .int 0, .int 0, v5]))] := hD
  refine lv_aload_n hx hb dX3_pass_8 rfl (lv_at hl 0 rfl) ?_
  refine va_get (D := D) (ci := 3) (v := .int 0) (C := RX3) (T := TX3) (N := 8) hx hb hg inX3 hown hK hP 0 rfl rfl 5 (by decide) (hg _ k127) (fun _ h9 => h9) rfl dX3_pass_9 ?_
  refine lv_aload_n hx hb dX3_pass_12 rfl (lv_at hl 0 rfl) ?_
  refine va_get (D := D) (ci := 3) (v := .int 0) (C := RX3) (T := TX3) (N := 8) hx hb hg inX3 hown hK hP 0 rfl rfl 1 (by decide) (hg _ k120) (fun _ h9 => h9) rfl dX3_pass_13 ?_
  refine lv_icmp_ge (tgt := 60) hx hb dX3_pass_16 (by decide) (fun _ => ?_) (fun c9 => absurd (by decide) c9)
  refine lv_aload_n hx hb dX3_pass_60 rfl (lv_at hl 0 rfl) ?_
  refine lv_aload_n hx hb dX3_pass_61 rfl (lv_at hl 0 rfl) ?_
  refine va_get (D := D) (ci := 3) (v := .int 0) (C := RX3) (T := TX3) (N := 8) hx hb hg inX3 hown hK hP 0 rfl rfl 5 (by decide) (hg _ k127) (fun _ h9 => h9) rfl dX3_pass_62 ?_
  refine va_put (D := D) (ci := 3) (v := .int 0) (ty := .int) (C := RX3) (T := TX3) (N := 8) hx hb hg inX3 tyX3 tyX3_ok nmX3 hown hK hP hD hS 0 rfl rfl 6 (by decide) (hg _ k128) (fun _ h9 => h9) rfl (by decide +kernel) rfl rfl (Nat.le_of_ble_eq_true rfl) dX3_pass_65 (fun H locs hP hD hS => ?_)
  have hP : va_P D vwCl [(h0, .inr (3, [v0, .int 0, v1, v2, v3, .int 0, .int 0, v5]))] H := hP
  have hD : va_D A [(h0, .inr (3, [v0, .int 0, v1, v2, v3, .int 0, .int 0, v5]))] := hD
  refine lv_aload_n hx hb dX3_pass_68 rfl (lv_at hl 0 rfl) ?_
  refine va_get (D := D) (ci := 3) (v := .int 0) (C := RX3) (T := TX3) (N := 8) hx hb hg inX3 hown hK hP 0 rfl rfl 5 (by decide) (hg _ k127) (fun _ h9 => h9) rfl dX3_pass_69 ?_
  refine lv_aload_n hx hb dX3_pass_72 rfl (lv_at hl 0 rfl) ?_
  refine va_get (D := D) (ci := 3) (v := .int 0) (C := RX3) (T := TX3) (N := 8) hx hb hg inX3 hown hK hP 0 rfl rfl 1 (by decide) (hg _ k120) (fun _ h9 => h9) rfl dX3_pass_73 ?_
  refine lv_icmp_lt (tgt := 87) hx hb dX3_pass_76 (by decide) (fun c9 => absurd c9 (by decide)) (fun _ => ?_)
  refine lv_aload_n hx hb dX3_pass_79 rfl (lv_at hl 0 rfl) ?_
  refine lv_iconst (v := 0) hx hb dX3_pass_80 (by decide) ?_
  refine va_put (D := D) (ci := 3) (v := .int 0) (ty := .int) (C := RX3) (T := TX3) (N := 8) hx hb hg inX3 tyX3 tyX3_ok nmX3 hown hK hP hD hS 0 rfl rfl 4 (by decide) (hg _ k126) (fun _ h9 => h9) rfl (by decide +kernel) rfl rfl (Nat.le_of_ble_eq_true rfl) dX3_pass_81 (fun H locs hP hD hS => ?_)
  have hP : va_P D vwCl [(h0, .inr (3, [v0, .int 0, v1, v2, .int 0, .int 0, .int 0, v5]))] H := hP
  have hD : va_D A [(h0, .inr (3, [v0, .int 0, v1, v2, .int 0, .int 0, .int 0, v5]))] := hD
  refine lv_goto (tgt := 209) hx hb dX3_pass_84 (by decide) ?_
  refine lv_iconst (v := 1) hx hb dX3_pass_209 (by decide) ?_
  exact fz hx hb hr rfl hlocks hP hD hK hS (()) trivial rfl [0] [] rfl (by decide) rfl (Nat.le_of_ble_eq_true rfl) (Nat.le_of_ble_eq_true rfl) dX3_pass_210
set_option maxHeartbeats 4000000 in
set_option maxRecDepth 100000 in
theorem cX3_isWord_318 (l : Launch) (D : va_G) (h0 : Nat) (h1 : Nat) (v0 : Value) (v1 : Value) (v2 : Value) (v3 : Value) (v4 : Value) (v5 : Value) (v6 : Value)   : CT l yX3_isWord cX3_isWord 3 (some .boolean) { frames := 0, cells := 0, slots := 0, locals := 0 } [.ref h0, .ref h1] D [(h0, .inr (3, [v0, v1, v2, v3, .int 0, v4, v5, v6]))] [] XN [] (ei (fun _ : Unit => True) (fun _ => 0) (fun _ => []) (fun _ => []) D) 0 0 := by
  refine CT.ofR (by decide +kernel) (Nat.le_of_ble_eq_true rfl) ?_
  intro p e s m below meth c A ls hcs hP hK hD hX hA hS hl
  obtain ⟨hx, hb, hr, hml, hown, hg, hlocks, hin⟩ := hcs
  have hown : s.vm.findClass RX3 = some m.cls := hown
  have hl : lv_has ls 3 [(0, .ref h0), (1, .ref h1)] := hl
  refine lv_aload_n hx hb dX3_isWord_0 rfl (lv_at hl 0 rfl) ?_
  refine va_get (D := D) (ci := 3) (v := .int 0) (C := RX3) (T := TX3) (N := 8) hx hb hg inX3 hown hK hP 0 rfl rfl 4 (by decide) (hg _ k126) (fun _ h9 => h9) rfl dX3_isWord_1 ?_
  refine lv_iconst (v := 1) hx hb dX3_isWord_4 (by decide) ?_
  refine lv_icmp_ne (tgt := 24) hx hb dX3_isWord_5 (by decide) (fun _ => ?_) (fun c9 => absurd c9 (by decide))
  refine lv_iconst (v := 0) hx hb dX3_isWord_24 (by decide) ?_
  exact fz0 hx hb hr rfl hlocks hK hS (Nat.le_of_ble_eq_true rfl) (Nat.le_of_ble_eq_true rfl) dX3_isWord_25
set_option maxHeartbeats 4000000 in
set_option maxRecDepth 100000 in
theorem cX3_settingHere_317 (l : Launch) (D : va_G) (hlt : l.stackTraces = false) (h0 : Nat) (v0 : Value) (v1 : Value) (v2 : Value) (v3 : Value) (v4 : Value) (v5 : Value) (v6 : Value)   : CT l yX3_settingHere cX3_settingHere 1 (some .int) { frames := 1, cells := 0, slots := 0, locals := 22 } [.ref h0] D [(h0, .inr (3, [v0, v1, v2, v3, .int 0, v4, v5, v6]))] [] XX [] (ei (fun _ : Unit => True) (fun _ => (-1)) (fun _ => []) (fun _ => []) D) 0 0 := by
  refine CT.ofR (by decide +kernel) (Nat.le_of_ble_eq_true rfl) ?_
  intro p e s m below meth c A ls hcs hP hK hD hX hA hS hl
  obtain ⟨hx, hb, hr, hml, hown, hg, hlocks, hin⟩ := hcs
  have hown : s.vm.findClass RX3 = some m.cls := hown
  have hl : lv_has ls 1 [(0, .ref h0)] := hl
  refine lv_aload_n hx hb dX3_settingHere_0 rfl (lv_at hl 0 rfl) ?_
  obtain ⟨sRX368, hsRX368⟩ := XX_sRX3_68 hX
  refine va_ldcS hx hb hown hsRX368 dX3_settingHere_1 ?_
  refine cVi (n := 1) (As := [.ref sRX368]) (rest := []) (wr := [(h0, .inr (3, [v0, v1, v2, v3, .int 0, v4, v5, v6]))]) (tr := []) hx hb hml hown hg okN (cX3_isWord_318 l D h0 sRX368 v0 v1 v2 v3 v4 v5 v6) (mwV k724 k726 k22 k85 k727) ⟨rfl, by decide, by decide, by decide +kernel⟩ ⟨rfl, rfl, (Nat.le_of_ble_eq_true rfl), (Nat.le_of_ble_eq_true rfl)⟩ hP hD hK hS xn [0] [] [0] [] [] rfl (by decide) rfl rfl (by decide) (by decide) rfl rfl (aNil hA hS) (fun _ _ => trivial) 0 rfl rfl rfl hl.1 rfl (Nat.le_of_ble_eq_true rfl) dX3_settingHere_3 ⟨(Nat.le_of_ble_eq_true rfl), (Nat.le_of_ble_eq_true rfl)⟩ (fun u H locs hφ hP hD hK hS hk => ?_)
  have hP : va_P D vwCl [(h0, .inr (3, [v0, v1, v2, v3, .int 0, v4, v5, v6]))] H := hP
  have hD : va_D (fun _ => True) [(h0, .inr (3, [v0, v1, v2, v3, .int 0, v4, v5, v6]))] := hD
  have hK : va_K D vwCl [] s := hK
  refine W.widen (k := 0) (n := 0) (Nat.le_of_ble_eq_true rfl) (Nat.le_of_ble_eq_true rfl) ?_
  refine lv_if_eq (tgt := 11) hx hb dX3_settingHere_6 (by decide) (fun _ => ?_) (fun c9 => absurd (by decide) c9)
  refine lv_aload_n hx hb dX3_settingHere_11 rfl (lv_at hl 0 rfl) ?_
  obtain ⟨sRX374, hsRX374⟩ := XX_sRX3_74 hX
  refine va_ldcS hx hb hown hsRX374 dX3_settingHere_12 ?_
  refine cVi (n := 1) (As := [.ref sRX374]) (rest := []) (wr := [(h0, .inr (3, [v0, v1, v2, v3, .int 0, v4, v5, v6]))]) (tr := []) hx hb hml hown hg okN (cX3_isWord_318 l D h0 sRX374 v0 v1 v2 v3 v4 v5 v6) (mwV k724 k726 k22 k85 k727) ⟨rfl, by decide, by decide, by decide +kernel⟩ ⟨rfl, rfl, (Nat.le_of_ble_eq_true rfl), (Nat.le_of_ble_eq_true rfl)⟩ hP hD hK hS xn [0] [] [0] [] [] rfl (by decide) rfl rfl (by decide) (by decide) rfl rfl (aNil hA hS) (fun _ _ => trivial) 0 rfl rfl rfl hl.1 rfl (Nat.le_of_ble_eq_true rfl) dX3_settingHere_14 ⟨(Nat.le_of_ble_eq_true rfl), (Nat.le_of_ble_eq_true rfl)⟩ (fun u H locs hφ hP hD hK hS hk => ?_)
  have hP : va_P D vwCl [(h0, .inr (3, [v0, v1, v2, v3, .int 0, v4, v5, v6]))] H := hP
  have hD : va_D (fun _ => True) [(h0, .inr (3, [v0, v1, v2, v3, .int 0, v4, v5, v6]))] := hD
  have hK : va_K D vwCl [] s := hK
  refine W.widen (k := 0) (n := 0) (Nat.le_of_ble_eq_true rfl) (Nat.le_of_ble_eq_true rfl) ?_
  refine lv_if_eq (tgt := 22) hx hb dX3_settingHere_17 (by decide) (fun _ => ?_) (fun c9 => absurd (by decide) c9)
  refine lv_aload_n hx hb dX3_settingHere_22 rfl (lv_at hl 0 rfl) ?_
  obtain ⟨sRX376, hsRX376⟩ := XX_sRX3_76 hX
  refine va_ldcS hx hb hown hsRX376 dX3_settingHere_23 ?_
  refine cVi (n := 1) (As := [.ref sRX376]) (rest := []) (wr := [(h0, .inr (3, [v0, v1, v2, v3, .int 0, v4, v5, v6]))]) (tr := []) hx hb hml hown hg okN (cX3_isWord_318 l D h0 sRX376 v0 v1 v2 v3 v4 v5 v6) (mwV k724 k726 k22 k85 k727) ⟨rfl, by decide, by decide, by decide +kernel⟩ ⟨rfl, rfl, (Nat.le_of_ble_eq_true rfl), (Nat.le_of_ble_eq_true rfl)⟩ hP hD hK hS xn [0] [] [0] [] [] rfl (by decide) rfl rfl (by decide) (by decide) rfl rfl (aNil hA hS) (fun _ _ => trivial) 0 rfl rfl rfl hl.1 rfl (Nat.le_of_ble_eq_true rfl) dX3_settingHere_25 ⟨(Nat.le_of_ble_eq_true rfl), (Nat.le_of_ble_eq_true rfl)⟩ (fun u H locs hφ hP hD hK hS hk => ?_)
  have hP : va_P D vwCl [(h0, .inr (3, [v0, v1, v2, v3, .int 0, v4, v5, v6]))] H := hP
  have hD : va_D (fun _ => True) [(h0, .inr (3, [v0, v1, v2, v3, .int 0, v4, v5, v6]))] := hD
  have hK : va_K D vwCl [] s := hK
  refine W.widen (k := 0) (n := 0) (Nat.le_of_ble_eq_true rfl) (Nat.le_of_ble_eq_true rfl) ?_
  refine lv_if_eq (tgt := 33) hx hb dX3_settingHere_28 (by decide) (fun _ => ?_) (fun c9 => absurd (by decide) c9)
  refine lv_aload_n hx hb dX3_settingHere_33 rfl (lv_at hl 0 rfl) ?_
  obtain ⟨sRX378, hsRX378⟩ := XX_sRX3_78 hX
  refine va_ldcS hx hb hown hsRX378 dX3_settingHere_34 ?_
  refine cVi (n := 1) (As := [.ref sRX378]) (rest := []) (wr := [(h0, .inr (3, [v0, v1, v2, v3, .int 0, v4, v5, v6]))]) (tr := []) hx hb hml hown hg okN (cX3_isWord_318 l D h0 sRX378 v0 v1 v2 v3 v4 v5 v6) (mwV k724 k726 k22 k85 k727) ⟨rfl, by decide, by decide, by decide +kernel⟩ ⟨rfl, rfl, (Nat.le_of_ble_eq_true rfl), (Nat.le_of_ble_eq_true rfl)⟩ hP hD hK hS xn [0] [] [0] [] [] rfl (by decide) rfl rfl (by decide) (by decide) rfl rfl (aNil hA hS) (fun _ _ => trivial) 0 rfl rfl rfl hl.1 rfl (Nat.le_of_ble_eq_true rfl) dX3_settingHere_36 ⟨(Nat.le_of_ble_eq_true rfl), (Nat.le_of_ble_eq_true rfl)⟩ (fun u H locs hφ hP hD hK hS hk => ?_)
  have hP : va_P D vwCl [(h0, .inr (3, [v0, v1, v2, v3, .int 0, v4, v5, v6]))] H := hP
  have hD : va_D (fun _ => True) [(h0, .inr (3, [v0, v1, v2, v3, .int 0, v4, v5, v6]))] := hD
  have hK : va_K D vwCl [] s := hK
  refine W.widen (k := 0) (n := 0) (Nat.le_of_ble_eq_true rfl) (Nat.le_of_ble_eq_true rfl) ?_
  refine lv_if_eq (tgt := 46) hx hb dX3_settingHere_39 (by decide) (fun _ => ?_) (fun c9 => absurd (by decide) c9)
  refine lv_iconst (v := (-1)) hx hb dX3_settingHere_46 (by decide) ?_
  exact fi0 hx hb hr hlocks hK hS (Nat.le_of_ble_eq_true rfl) (Nat.le_of_ble_eq_true rfl) dX3_settingHere_47
set_option maxHeartbeats 4000000 in
set_option maxRecDepth 100000 in
theorem cX3_readSettings_316 (l : Launch) (D : va_G) (hlt : l.stackTraces = false) (h0 : Nat) (h1 : Nat) (v0 : Value) (v1 : Value) (v2 : Value) (v3 : Value) (v4 : Value) (v5 : Value) (v6 : Value)   : CT l yX3_readSettings cX3_readSettings 5 (some .boolean) { frames := 2, cells := 0, slots := 0, locals := 42 } [.ref h0, .ref h1] D [(h0, .inr (3, [v0, v1, v2, v3, .int 0, v4, v5, v6]))] [] XX [] (ei (fun _ : Unit => True) (fun _ => 1) (fun _ => []) (fun _ => []) D) 0 0 := by
  refine CT.ofR (by decide +kernel) (Nat.le_of_ble_eq_true rfl) ?_
  intro p e s m below meth c A ls hcs hP hK hD hX hA hS hl
  obtain ⟨hx, hb, hr, hml, hown, hg, hlocks, hin⟩ := hcs
  have hown : s.vm.findClass RX3 = some m.cls := hown
  have hl : lv_has ls 5 [(0, .ref h0), (1, .ref h1)] := hl
  refine lv_iconst (v := 0) hx hb dX3_readSettings_0 (by decide) ?_
  refine lv_istore_n (lv' := [(2, .int 0), (0, .ref h0), (1, .ref h1)]) hx hb dX3_readSettings_1 rfl hl (by decide) rfl (fun ls hl => ?_)
  refine lv_iconst (v := 0) hx hb dX3_readSettings_2 (by decide) ?_
  refine lv_istore_n (lv' := [(3, .int 0), (2, .int 0), (0, .ref h0), (1, .ref h1)]) hx hb dX3_readSettings_3 rfl hl (by decide) rfl (fun ls hl => ?_)
  refine lv_iload_n hx hb dX3_readSettings_4 rfl (lv_at hl 0 rfl) ?_
  refine lv_iconst (v := 4) hx hb dX3_readSettings_5 (by decide) ?_
  refine lv_icmp_gt (tgt := 75) hx hb dX3_readSettings_6 (by decide) (fun c9 => absurd c9 (by decide)) (fun _ => ?_)
  refine lv_aload_n hx hb dX3_readSettings_9 rfl (lv_at hl 2 rfl) ?_
  refine cVi (n := 0) (As := []) (rest := []) (wr := [(h0, .inr (3, [v0, v1, v2, v3, .int 0, v4, v5, v6]))]) (tr := []) hx hb hml hown hg okXX (cX3_settingHere_317 l D hlt h0 v0 v1 v2 v3 v4 v5 v6) (mwV k719 k721 k21 k85 k722) ⟨rfl, by decide, by decide, by decide +kernel⟩ ⟨rfl, rfl, (Nat.le_of_ble_eq_true rfl), (Nat.le_of_ble_eq_true rfl)⟩ hP hD hK hS (okXX.2.2 _ _ _ _ hS.2.1 hX) [0] [] [0] [] [] rfl (by decide) rfl rfl (by decide) (by decide) rfl rfl (aNil hA hS) (fun _ _ => trivial) 0 rfl rfl rfl hl.1 rfl (Nat.le_of_ble_eq_true rfl) dX3_readSettings_10 ⟨(Nat.le_of_ble_eq_true rfl), (Nat.le_of_ble_eq_true rfl)⟩ (fun u H locs hφ hP hD hK hS hk => ?_)
  have hP : va_P D vwCl [(h0, .inr (3, [v0, v1, v2, v3, .int 0, v4, v5, v6]))] H := hP
  have hD : va_D (fun _ => True) [(h0, .inr (3, [v0, v1, v2, v3, .int 0, v4, v5, v6]))] := hD
  have hK : va_K D vwCl [] s := hK
  refine W.widen (k := 0) (n := 0) (Nat.le_of_ble_eq_true rfl) (Nat.le_of_ble_eq_true rfl) ?_
  refine lv_istore (lv' := [(4, .int (-1)), (3, .int 0), (2, .int 0), (0, .ref h0), (1, .ref h1)]) hx hb dX3_readSettings_13 hl (by decide) rfl (fun ls hl => ?_)
  refine lv_iload hx hb dX3_readSettings_15 (lv_at hl 0 rfl) ?_
  refine lv_iconst (v := (-1)) hx hb dX3_readSettings_17 (by decide) ?_
  refine lv_icmp_ne (tgt := 23) hx hb dX3_readSettings_18 (by decide) (fun c9 => absurd (by decide) c9) (fun _ => ?_)
  refine lv_iconst (v := 1) hx hb dX3_readSettings_21 (by decide) ?_
  exact fz0 hx hb hr rfl hlocks hK hS (Nat.le_of_ble_eq_true rfl) (Nat.le_of_ble_eq_true rfl) dX3_readSettings_22
set_option maxHeartbeats 4000000 in
set_option maxRecDepth 100000 in
theorem cX3_isWrong_320 (l : Launch) (D : va_G) (h0 : Nat) (v0 : Value) (v1 : Value) (v2 : Value) (v3 : Value) (v4 : Value) (v5 : Value) (v6 : Value)   : CT l yX3_isWrong cX3_isWrong 2 (some .boolean) { frames := 0, cells := 0, slots := 0, locals := 0 } [.ref h0, .int 1] D [(h0, .inr (3, [v0, v1, v2, v3, v4, .int 0, v5, v6]))] [] XN [(h0, .inr (3, [v0, v1, v2, v3, v4, .int 0, v5, v6]))] (ei (fun _ : Unit => True) (fun u => 0) (fun _ => [(h0, .inr (3, [v0, v1, .int 1, .int 0, v4, .int 0, v5, v6]))]) (fun u => []) D) 0 0 := by
  refine CT.ofW (by decide +kernel) (Nat.le_of_ble_eq_true rfl) ?_
  intro p e s m below meth c A ls hcs hP hK hD hX hA hS hl
  obtain ⟨hx, hb, hr, hml, hown, hg, hlocks, hin⟩ := hcs
  have hown : s.vm.findClass RX3 = some m.cls := hown
  have hl : lv_has ls 2 [(0, .ref h0), (1, .int 1)] := hl
  refine lv_aload_n hx hb dX3_isWrong_0 rfl (lv_at hl 0 rfl) ?_
  refine lv_iload_n hx hb dX3_isWrong_1 rfl (lv_at hl 1 rfl) ?_
  refine va_put (D := D) (ci := 3) (v := .int 1) (ty := .int) (C := RX3) (T := TX3) (N := 8) hx hb hg inX3 tyX3 tyX3_ok nmX3 hown hK hP hD hS 0 rfl rfl 2 (by decide) (hg _ k122) (fun _ h9 => h9) rfl (by decide +kernel) rfl rfl (Nat.le_of_ble_eq_true rfl) dX3_isWrong_2 (fun H locs hP hD hS => ?_)
  have hP : va_P D vwCl [(h0, .inr (3, [v0, v1, .int 1, v3, v4, .int 0, v5, v6]))] H := hP
  have hD : va_D A [(h0, .inr (3, [v0, v1, .int 1, v3, v4, .int 0, v5, v6]))] := hD
  refine lv_aload_n hx hb dX3_isWrong_5 rfl (lv_at hl 0 rfl) ?_
  refine lv_aload_n hx hb dX3_isWrong_6 rfl (lv_at hl 0 rfl) ?_
  refine va_get (D := D) (ci := 3) (v := .int 0) (C := RX3) (T := TX3) (N := 8) hx hb hg inX3 hown hK hP 0 rfl rfl 5 (by decide) (hg _ k127) (fun _ h9 => h9) rfl dX3_isWrong_7 ?_
  refine va_put (D := D) (ci := 3) (v := .int 0) (ty := .int) (C := RX3) (T := TX3) (N := 8) hx hb hg inX3 tyX3 tyX3_ok nmX3 hown hK hP hD hS 0 rfl rfl 3 (by decide) (hg _ k124) (fun _ h9 => h9) rfl (by decide +kernel) rfl rfl (Nat.le_of_ble_eq_true rfl) dX3_isWrong_10 (fun H locs hP hD hS => ?_)
  have hP : va_P D vwCl [(h0, .inr (3, [v0, v1, .int 1, .int 0, v4, .int 0, v5, v6]))] H := hP
  have hD : va_D A [(h0, .inr (3, [v0, v1, .int 1, .int 0, v4, .int 0, v5, v6]))] := hD
  refine lv_iconst (v := 0) hx hb dX3_isWrong_13 (by decide) ?_
  exact fz hx hb hr rfl hlocks hP hD hK hS (()) trivial rfl [0] [] rfl (by decide) rfl (Nat.le_of_ble_eq_true rfl) (Nat.le_of_ble_eq_true rfl) dX3_isWrong_14
set_option maxHeartbeats 4000000 in
set_option maxRecDepth 100000 in
theorem cX3_readSamples_319 (l : Launch) (D : va_G) (hlt : l.stackTraces = false) (h0 : Nat) (h1 : Nat) (v0 : Value) (v1 : Value) (v2 : Value) (v3 : Value) (v4 : Value) (v5 : Value)   : CT l yX3_readSamples cX3_readSamples 3 (some .boolean) { frames := 1, cells := 0, slots := 0, locals := 22 } [.ref h0, .ref h1] D [(h0, .inr (3, [v0, v1, v2, v3, .int 0, .int 0, v4, v5]))] [] XX [(h0, .inr (3, [v0, v1, v2, v3, .int 0, .int 0, v4, v5]))] (ei (fun _ : Unit => True) (fun u => 0) (fun _ => [(h0, .inr (3, [v0, v1, .int 1, .int 0, .int 0, .int 0, v4, v5]))]) (fun u => []) D) 0 0 := by
  refine CT.ofW (by decide +kernel) (Nat.le_of_ble_eq_true rfl) ?_
  intro p e s m below meth c A ls hcs hP hK hD hX hA hS hl
  obtain ⟨hx, hb, hr, hml, hown, hg, hlocks, hin⟩ := hcs
  have hown : s.vm.findClass RX3 = some m.cls := hown
  have hl : lv_has ls 3 [(0, .ref h0), (1, .ref h1)] := hl
  refine lv_iconst (v := 0) hx hb dX3_readSamples_0 (by decide) ?_
  refine lv_istore_n (lv' := [(2, .int 0), (0, .ref h0), (1, .ref h1)]) hx hb dX3_readSamples_1 rfl hl (by decide) rfl (fun ls hl => ?_)
  refine lv_iload_n hx hb dX3_readSamples_2 rfl (lv_at hl 0 rfl) ?_
  refine lv_bipush (v := 48) hx hb dX3_readSamples_3 (by decide) ?_
  refine lv_icmp_gt (tgt := 77) hx hb dX3_readSamples_5 (by decide) (fun c9 => absurd c9 (by decide)) (fun _ => ?_)
  refine lv_aload_n hx hb dX3_readSamples_8 rfl (lv_at hl 1 rfl) ?_
  refine va_get (D := D) (ci := 3) (v := .int 0) (C := RX3) (T := TX3) (N := 8) hx hb hg inX3 hown hK hP 0 rfl rfl 4 (by decide) (hg _ k126) (fun _ h9 => h9) rfl dX3_readSamples_9 ?_
  refine lv_if_ne (tgt := 22) hx hb dX3_readSamples_12 (by decide) (fun c9 => absurd (by decide) c9) (fun _ => ?_)
  refine lv_iload_n hx hb dX3_readSamples_15 rfl (lv_at hl 0 rfl) ?_
  refine lv_iconst (v := 2) hx hb dX3_readSamples_16 (by decide) ?_
  refine lv_icmp_lt (tgt := 22) hx hb dX3_readSamples_17 (by decide) (fun _ => ?_) (fun c9 => absurd (by decide) c9)
  refine lv_aload_n hx hb dX3_readSamples_22 rfl (lv_at hl 1 rfl) ?_
  obtain ⟨sRX3109, hsRX3109⟩ := XX_sRX3_109 hX
  refine va_ldcS hx hb hown hsRX3109 dX3_readSamples_23 ?_
  refine cVi (n := 1) (As := [.ref sRX3109]) (rest := []) (wr := [(h0, .inr (3, [v0, v1, v2, v3, .int 0, .int 0, v4, v5]))]) (tr := []) hx hb hml hown hg okN (cX3_isWord_318 l D h0 sRX3109 v0 v1 v2 v3 (.int 0) v4 v5) (mwV k724 k726 k22 k85 k727) ⟨rfl, by decide, by decide, by decide +kernel⟩ ⟨rfl, rfl, (Nat.le_of_ble_eq_true rfl), (Nat.le_of_ble_eq_true rfl)⟩ hP hD hK hS xn [0] [] [0] [] [] rfl (by decide) rfl rfl (by decide) (by decide) rfl rfl (aNil hA hS) (aNil hA hS) 0 rfl rfl rfl hl.1 rfl (Nat.le_of_ble_eq_true rfl) dX3_readSamples_25 ⟨(Nat.le_of_ble_eq_true rfl), (Nat.le_of_ble_eq_true rfl)⟩ (fun u H locs hφ hP hD hK hS hk => ?_)
  have hP : va_P D vwCl [(h0, .inr (3, [v0, v1, v2, v3, .int 0, .int 0, v4, v5]))] H := hP
  have hD : va_D A [(h0, .inr (3, [v0, v1, v2, v3, .int 0, .int 0, v4, v5]))] := hD
  have hK : va_K D vwCl [] s := hK
  refine W.widen (k := 0) (n := 0) (Nat.le_of_ble_eq_true rfl) (Nat.le_of_ble_eq_true rfl) ?_
  refine lv_if_ne (tgt := 37) hx hb dX3_readSamples_28 (by decide) (fun c9 => absurd (by decide) c9) (fun _ => ?_)
  refine lv_aload_n hx hb dX3_readSamples_31 rfl (lv_at hl 1 rfl) ?_
  refine lv_iconst (v := 1) hx hb dX3_readSamples_32 (by decide) ?_
  refine cVi (n := 1) (As := [.int 1]) (rest := []) (wr := []) (tr := []) hx hb hml hown hg okN (cX3_isWrong_320 l D h0 v0 v1 v2 v3 (.int 0) v4 v5) (mwV k779 k781 k23 k85 k782) ⟨rfl, by decide, by decide, by decide +kernel⟩ ⟨rfl, rfl, (Nat.le_of_ble_eq_true rfl), (Nat.le_of_ble_eq_true rfl)⟩ hP hD hK hS xn [0] [0] [] [] [] rfl (by decide) rfl rfl (by decide) (by decide) rfl rfl (va_free hD hS hA [0] rfl) (va_free hD hS hA [0] rfl) 0 rfl rfl rfl hl.1 rfl (Nat.le_of_ble_eq_true rfl) dX3_readSamples_33 ⟨(Nat.le_of_ble_eq_true rfl), (Nat.le_of_ble_eq_true rfl)⟩ (fun u H locs hφ hP hD hK hS hk => ?_)
  have hP : va_P D vwCl [(h0, .inr (3, [v0, v1, .int 1, .int 0, .int 0, .int 0, v4, v5]))] H := hP
  have hD : va_D A [(h0, .inr (3, [v0, v1, .int 1, .int 0, .int 0, .int 0, v4, v5]))] := hD
  have hK : va_K D vwCl [] s := hK
  refine W.widen (k := 0) (n := 0) (Nat.le_of_ble_eq_true rfl) (Nat.le_of_ble_eq_true rfl) ?_
  exact fz hx hb hr rfl hlocks hP hD hK hS (()) trivial rfl [0] [] rfl (by decide) rfl (Nat.le_of_ble_eq_true rfl) (Nat.le_of_ble_eq_true rfl) dX3_readSamples_36
set_option maxHeartbeats 4000000 in
set_option maxRecDepth 100000 in
theorem cX3_readInto_313 (l : Launch) (D : va_G) (hlt : l.stackTraces = false) (h0 : Nat) (h1 : Nat) (v0 : Value) (v1 : Value) (v2 : Value) (v3 : Value) (v4 : Value) (v5 : Value) (v6 : Value) (v7 : Value) (v8 : Value) (v9 : Value) (v10 : Value) (v11 : Value) (v12 : Value) (v13 : Value)   : CT l yX3_readInto cX3_readInto 2 (some .boolean) { frames := 3, cells := 0, slots := 0, locals := 66 } [.ref h0, .ref h1] D [(h0, .inr (3, [v0, .int 0, v1, v2, v3, v4, v5, v6])), (h1, .inr (0, [v7, v8, v9, v10, v11, v12, v13]))] [] XX [(h0, .inr (3, [v0, .int 0, v1, v2, v3, v4, v5, v6])), (h1, .inr (0, [v7, v8, v9, v10, v11, v12, v13]))] (ei (fun _ : Unit => True) (fun u => 0) (fun _ => [(h0, .inr (3, [v0, .int 0, .int 1, .int 0, .int 0, .int 0, .int 0, v6])), (h1, .inr (0, [v7, v8, .int 0, .int 0, .int 2, .int 1, .int 2]))]) (fun u => []) D) 0 0 := by
  refine CT.ofW (by decide +kernel) (Nat.le_of_ble_eq_true rfl) ?_
  intro p e s m below meth c A ls hcs hP hK hD hX hA hS hl
  obtain ⟨hx, hb, hr, hml, hown, hg, hlocks, hin⟩ := hcs
  have hown : s.vm.findClass RX3 = some m.cls := hown
  have hl : lv_has ls 2 [(0, .ref h0), (1, .ref h1)] := hl
  refine lv_aload_n hx hb dX3_readInto_0 rfl (lv_at hl 0 rfl) ?_
  refine lv_iconst (v := 0) hx hb dX3_readInto_1 (by decide) ?_
  refine va_put (D := D) (ci := 3) (v := .int 0) (ty := .int) (C := RX3) (T := TX3) (N := 8) hx hb hg inX3 tyX3 tyX3_ok nmX3 hown hK hP hD hS 0 rfl rfl 2 (by decide) (hg _ k122) (fun _ h9 => h9) rfl (by decide +kernel) rfl rfl (Nat.le_of_ble_eq_true rfl) dX3_readInto_2 (fun H locs hP hD hS => ?_)
  have hP : va_P D vwCl [(h0, .inr (3, [v0, .int 0, .int 0, v2, v3, v4, v5, v6])), (h1, .inr (0, [v7, v8, v9, v10, v11, v12, v13]))] H := hP
  have hD : va_D A [(h0, .inr (3, [v0, .int 0, .int 0, v2, v3, v4, v5, v6])), (h1, .inr (0, [v7, v8, v9, v10, v11, v12, v13]))] := hD
  refine lv_aload_n hx hb dX3_readInto_5 rfl (lv_at hl 0 rfl) ?_
  refine lv_iconst (v := (-1)) hx hb dX3_readInto_6 (by decide) ?_
  refine va_put (D := D) (ci := 3) (v := .int (-1)) (ty := .int) (C := RX3) (T := TX3) (N := 8) hx hb hg inX3 tyX3 tyX3_ok nmX3 hown hK hP hD hS 0 rfl rfl 3 (by decide) (hg _ k124) (fun _ h9 => h9) rfl (by decide +kernel) rfl rfl (Nat.le_of_ble_eq_true rfl) dX3_readInto_7 (fun H locs hP hD hS => ?_)
  have hP : va_P D vwCl [(h0, .inr (3, [v0, .int 0, .int 0, .int (-1), v3, v4, v5, v6])), (h1, .inr (0, [v7, v8, v9, v10, v11, v12, v13]))] H := hP
  have hD : va_D A [(h0, .inr (3, [v0, .int 0, .int 0, .int (-1), v3, v4, v5, v6])), (h1, .inr (0, [v7, v8, v9, v10, v11, v12, v13]))] := hD
  refine lv_aload_n hx hb dX3_readInto_10 rfl (lv_at hl 0 rfl) ?_
  refine lv_iconst (v := 0) hx hb dX3_readInto_11 (by decide) ?_
  refine va_put (D := D) (ci := 3) (v := .int 0) (ty := .int) (C := RX3) (T := TX3) (N := 8) hx hb hg inX3 tyX3 tyX3_ok nmX3 hown hK hP hD hS 0 rfl rfl 6 (by decide) (hg _ k128) (fun _ h9 => h9) rfl (by decide +kernel) rfl rfl (Nat.le_of_ble_eq_true rfl) dX3_readInto_12 (fun H locs hP hD hS => ?_)
  have hP : va_P D vwCl [(h0, .inr (3, [v0, .int 0, .int 0, .int (-1), v3, v4, .int 0, v6])), (h1, .inr (0, [v7, v8, v9, v10, v11, v12, v13]))] H := hP
  have hD : va_D A [(h0, .inr (3, [v0, .int 0, .int 0, .int (-1), v3, v4, .int 0, v6])), (h1, .inr (0, [v7, v8, v9, v10, v11, v12, v13]))] := hD
  refine lv_aload_n hx hb dX3_readInto_15 rfl (lv_at hl 1 rfl) ?_
  refine cVv (n := 0) (As := []) (rest := []) (wr := [(h0, .inr (3, [v0, .int 0, .int 0, .int (-1), v3, v4, .int 0, v6]))]) (tr := []) hx hb hml hown hg okN (cX0_clear_314 l D h1 v7 v8 v9 v10 v11 v12 v13) (mwV k693 k694 k695 k86 k696) ⟨rfl, by decide, by decide, by decide +kernel⟩ ⟨rfl, rfl, (Nat.le_of_ble_eq_true rfl), (Nat.le_of_ble_eq_true rfl)⟩ hP hD hK hS xn [1] [1] [0] [] [] rfl (by decide) rfl rfl (by decide) (by decide) rfl rfl (va_free hD hS hA [1] rfl) (va_free hD hS hA [1] rfl) 1 rfl rfl rfl hl.1 rfl (Nat.le_of_ble_eq_true rfl) dX3_readInto_16 ⟨(Nat.le_of_ble_eq_true rfl), (Nat.le_of_ble_eq_true rfl)⟩ (fun u H locs hφ hP hD hK hS hk => ?_)
  have hP : va_P D vwCl [(h0, .inr (3, [v0, .int 0, .int 0, .int (-1), v3, v4, .int 0, v6])), (h1, .inr (0, [v7, v8, .int 0, .int 0, .int 2, .int 1, .int 2]))] H := hP
  have hD : va_D A [(h0, .inr (3, [v0, .int 0, .int 0, .int (-1), v3, v4, .int 0, v6])), (h1, .inr (0, [v7, v8, .int 0, .int 0, .int 2, .int 1, .int 2]))] := hD
  have hK : va_K D vwCl [] s := hK
  refine W.widen (k := 0) (n := 0) (Nat.le_of_ble_eq_true rfl) (Nat.le_of_ble_eq_true rfl) ?_
  refine lv_aload_n hx hb dX3_readInto_19 rfl (lv_at hl 0 rfl) ?_
  refine cVi (n := 0) (As := []) (rest := []) (wr := [(h1, .inr (0, [v7, v8, .int 0, .int 0, .int 2, .int 1, .int 2]))]) (tr := []) hx hb hml hown hg okN (cX3_pass_315 l D h0 v0 (.int 0) (.int (-1)) v3 v4 v6) (mwV k697 k699 k17 k85 k700) ⟨rfl, by decide, by decide, by decide +kernel⟩ ⟨rfl, rfl, (Nat.le_of_ble_eq_true rfl), (Nat.le_of_ble_eq_true rfl)⟩ hP hD hK hS xn [0] [0] [1] [] [] rfl (by decide) rfl rfl (by decide) (by decide) rfl rfl (va_free hD hS hA [0] rfl) (va_free hD hS hA [0] rfl) 0 rfl rfl rfl hl.1 rfl (Nat.le_of_ble_eq_true rfl) dX3_readInto_20 ⟨(Nat.le_of_ble_eq_true rfl), (Nat.le_of_ble_eq_true rfl)⟩ (fun u H locs hφ hP hD hK hS hk => ?_)
  have hP : va_P D vwCl [(h1, .inr (0, [v7, v8, .int 0, .int 0, .int 2, .int 1, .int 2])), (h0, .inr (3, [v0, .int 0, .int 0, .int (-1), .int 0, .int 0, .int 0, v6]))] H := hP
  have hD : va_D A [(h1, .inr (0, [v7, v8, .int 0, .int 0, .int 2, .int 1, .int 2])), (h0, .inr (3, [v0, .int 0, .int 0, .int (-1), .int 0, .int 0, .int 0, v6]))] := hD
  have hK : va_K D vwCl [] s := hK
  refine W.widen (k := 0) (n := 0) (Nat.le_of_ble_eq_true rfl) (Nat.le_of_ble_eq_true rfl) ?_
  refine lv_pop hx hb dX3_readInto_23 rfl ?_
  refine lv_aload_n hx hb dX3_readInto_24 rfl (lv_at hl 0 rfl) ?_
  refine lv_aload_n hx hb dX3_readInto_25 rfl (lv_at hl 1 rfl) ?_
  refine cVi (n := 1) (As := [.ref h1]) (rest := []) (wr := [(h1, .inr (0, [v7, v8, .int 0, .int 0, .int 2, .int 1, .int 2])), (h0, .inr (3, [v0, .int 0, .int 0, .int (-1), .int 0, .int 0, .int 0, v6]))]) (tr := []) hx hb hml hown hg okXX (cX3_readSettings_316 l D hlt h0 h1 v0 (.int 0) (.int 0) (.int (-1)) (.int 0) (.int 0) v6) (mwV k715 k717 k20 k85 k718) ⟨rfl, by decide, by decide, by decide +kernel⟩ ⟨rfl, rfl, (Nat.le_of_ble_eq_true rfl), (Nat.le_of_ble_eq_true rfl)⟩ hP hD hK hS (okXX.2.2 _ _ _ _ hS.2.1 hX) [1] [] [0, 1] [] [] rfl (by decide) rfl rfl (by decide) (by decide) rfl rfl (aNil hA hS) (aNil hA hS) 1 rfl rfl rfl hl.1 rfl (Nat.le_of_ble_eq_true rfl) dX3_readInto_26 ⟨(Nat.le_of_ble_eq_true rfl), (Nat.le_of_ble_eq_true rfl)⟩ (fun u H locs hφ hP hD hK hS hk => ?_)
  have hP : va_P D vwCl [(h1, .inr (0, [v7, v8, .int 0, .int 0, .int 2, .int 1, .int 2])), (h0, .inr (3, [v0, .int 0, .int 0, .int (-1), .int 0, .int 0, .int 0, v6]))] H := hP
  have hD : va_D A [(h1, .inr (0, [v7, v8, .int 0, .int 0, .int 2, .int 1, .int 2])), (h0, .inr (3, [v0, .int 0, .int 0, .int (-1), .int 0, .int 0, .int 0, v6]))] := hD
  have hK : va_K D vwCl [] s := hK
  refine W.widen (k := 0) (n := 0) (Nat.le_of_ble_eq_true rfl) (Nat.le_of_ble_eq_true rfl) ?_
  refine lv_if_eq (tgt := 44) hx hb dX3_readInto_29 (by decide) (fun c9 => absurd c9 (by decide)) (fun _ => ?_)
  refine lv_aload_n hx hb dX3_readInto_32 rfl (lv_at hl 0 rfl) ?_
  refine lv_aload_n hx hb dX3_readInto_33 rfl (lv_at hl 1 rfl) ?_
  refine cVi (n := 1) (As := [.ref h1]) (rest := []) (wr := [(h1, .inr (0, [v7, v8, .int 0, .int 0, .int 2, .int 1, .int 2]))]) (tr := []) hx hb hml hown hg okXX (cX3_readSamples_319 l D hlt h0 h1 v0 (.int 0) (.int 0) (.int (-1)) (.int 0) v6) (mwV k803 k805 k27 k85 k806) ⟨rfl, by decide, by decide, by decide +kernel⟩ ⟨rfl, rfl, (Nat.le_of_ble_eq_true rfl), (Nat.le_of_ble_eq_true rfl)⟩ hP hD hK hS (okXX.2.2 _ _ _ _ hS.2.1 hX) [1] [1] [0] [] [] rfl (by decide) rfl rfl (by decide) (by decide) rfl rfl (va_free hD hS hA [1] rfl) (va_free hD hS hA [1] rfl) 1 rfl rfl rfl hl.1 rfl (Nat.le_of_ble_eq_true rfl) dX3_readInto_34 ⟨(Nat.le_of_ble_eq_true rfl), (Nat.le_of_ble_eq_true rfl)⟩ (fun u H locs hφ hP hD hK hS hk => ?_)
  have hP : va_P D vwCl [(h1, .inr (0, [v7, v8, .int 0, .int 0, .int 2, .int 1, .int 2])), (h0, .inr (3, [v0, .int 0, .int 1, .int 0, .int 0, .int 0, .int 0, v6]))] H := hP
  have hD : va_D A [(h1, .inr (0, [v7, v8, .int 0, .int 0, .int 2, .int 1, .int 2])), (h0, .inr (3, [v0, .int 0, .int 1, .int 0, .int 0, .int 0, .int 0, v6]))] := hD
  have hK : va_K D vwCl [] s := hK
  refine W.widen (k := 0) (n := 0) (Nat.le_of_ble_eq_true rfl) (Nat.le_of_ble_eq_true rfl) ?_
  refine lv_if_eq (tgt := 44) hx hb dX3_readInto_37 (by decide) (fun _ => ?_) (fun c9 => absurd (by decide) c9)
  refine lv_iconst (v := 0) hx hb dX3_readInto_44 (by decide) ?_
  exact fz hx hb hr rfl hlocks hP hD hK hS (()) trivial rfl [1, 0] [] rfl (by decide) rfl (Nat.le_of_ble_eq_true rfl) (Nat.le_of_ble_eq_true rfl) dX3_readInto_45
set_option maxHeartbeats 4000000 in
set_option maxRecDepth 100000 in
theorem cX5_load_312 (l : Launch) (D : va_G) (hlt : l.stackTraces = false) (h0 : Nat) (h1 : Nat) (h2 : Nat) (v0 : Value) (v1 : Value) (v2 : Value) (v3 : Value) (v4 : Value) (v5 : Value) (v6 : Value) (v7 : Value) (v8 : Value) (v9 : Value) (v10 : Value) (v11 : Value) (v12 : Value) (v13 : Value) (v14 : Value) (v15 : Value) (v16 : Value) (v17 : Value) (v18 : Value) (v19 : Value) (v20 : Value) (v21 : Value)   : CX l yX5_load cX5_load 3 (some .int) { frames := 6, cells := 1, slots := 6, locals := 90 } [.ref h0] D [(h0, .inr (5, [.ref h1, v0, .ref h2, v1, v2, v3, v4, v5, v6, v7])), (h1, .inr (3, [v8, .int 0, v9, v10, v11, v12, v13, v14])), (h2, .inr (0, [v15, v16, v17, v18, v19, v20, v21]))] [] XX [(h0, .inr (5, [.ref h1, v0, .ref h2, v1, v2, v3, v4, v5, v6, v7])), (h1, .inr (3, [v8, .int 0, v9, v10, v11, v12, v13, v14])), (h2, .inr (0, [v15, v16, v17, v18, v19, v20, v21]))] xi "java/lang/IllegalArgumentException" 1 6 := by
  refine CX.ofW (by decide +kernel) (Nat.le_of_ble_eq_true rfl) ?_
  intro p e s m below meth c A ls hcs hout hP hK hD hX hA hS hl
  obtain ⟨hx, hb, hr, hml, hown, hg, hlocks, hin⟩ := hcs
  have hown : s.vm.findClass RX5 = some m.cls := hown
  have hl : lv_has ls 3 [(0, .ref h0)] := hl
  refine lv_aload_n hx hb dX5_load_0 rfl (lv_at hl 0 rfl) ?_
  refine va_get (D := D) (ci := 5) (v := .ref h1) (C := RX5) (T := TX5) (N := 10) hx hb hg inX5 hown hK hP 0 rfl rfl 0 (by decide) (hg _ k379) (fun _ h9 => h9) rfl dX5_load_1 ?_
  refine lv_aload_n hx hb dX5_load_4 rfl (lv_at hl 0 rfl) ?_
  refine va_get (D := D) (ci := 5) (v := .ref h2) (C := RX5) (T := TX5) (N := 10) hx hb hg inX5 hown hK hP 0 rfl rfl 2 (by decide) (hg _ k381) (fun _ h9 => h9) rfl dX5_load_5 ?_
  refine cVi (n := 1) (As := [.ref h2]) (rest := []) (wr := [(h0, .inr (5, [.ref h1, v0, .ref h2, v1, v2, v3, v4, v5, v6, v7]))]) (tr := []) hx hb hml hown hg okXX (cX3_readInto_313 l D hlt h1 h2 v8 v9 v10 v11 v12 v13 v14 v15 v16 v17 v18 v19 v20 v21) (mwV k689 k690 k691 k85 k692) ⟨rfl, by decide, by decide, by decide +kernel⟩ ⟨rfl, rfl, (Nat.le_of_ble_eq_true rfl), (Nat.le_of_ble_eq_true rfl)⟩ hP hD hK hS (okXX.2.2 _ _ _ _ hS.2.1 hX) [1, 2] [1, 2] [0] [] [] rfl (by decide) rfl rfl (by decide) (by decide) rfl rfl (va_free hD hS hA [1, 2] rfl) (va_free hD hS hA [1, 2] rfl) 1 rfl rfl rfl hl.1 rfl (Nat.le_of_ble_eq_true rfl) dX5_load_8 ⟨(Nat.le_of_ble_eq_true rfl), (Nat.le_of_ble_eq_true rfl)⟩ (fun u H locs hφ hP hD hK hS hk => ?_)
  have hP : va_P D vwCl [(h0, .inr (5, [.ref h1, v0, .ref h2, v1, v2, v3, v4, v5, v6, v7])), (h1, .inr (3, [v8, .int 0, .int 1, .int 0, .int 0, .int 0, .int 0, v14])), (h2, .inr (0, [v15, v16, .int 0, .int 0, .int 2, .int 1, .int 2]))] H := hP
  have hD : va_D A [(h0, .inr (5, [.ref h1, v0, .ref h2, v1, v2, v3, v4, v5, v6, v7])), (h1, .inr (3, [v8, .int 0, .int 1, .int 0, .int 0, .int 0, .int 0, v14])), (h2, .inr (0, [v15, v16, .int 0, .int 0, .int 2, .int 1, .int 2]))] := hD
  have hK : va_K D vwCl [] s := hK
  refine W.widen (k := 0) (n := 0) (Nat.le_of_ble_eq_true rfl) (Nat.le_of_ble_eq_true rfl) ?_
  refine lv_istore_n (lv' := [(1, .int 0), (0, .ref h0)]) hx hb dX5_load_11 rfl hl (by decide) rfl (fun ls hl => ?_)
  refine lv_aload_n hx hb dX5_load_12 rfl (lv_at hl 1 rfl) ?_
  refine va_get (D := D) (ci := 5) (v := .ref h1) (C := RX5) (T := TX5) (N := 10) hx hb hg inX5 hown hK hP 0 rfl rfl 0 (by decide) (hg _ k379) (fun _ h9 => h9) rfl dX5_load_13 ?_
  refine lv_iconst (v := 0) hx hb dX5_load_16 (by decide) ?_
  refine va_put (D := D) (ci := 3) (v := .int 0) (ty := .int) (C := RX3) (T := TX3) (N := 8) hx hb hg inX3 tyX3 tyX3_ok nmX3 hown hK hP hD hS 1 rfl rfl 1 (by decide) (hg _ k121) (fun _ h9 => h9) rfl (by decide +kernel) rfl rfl (Nat.le_of_ble_eq_true rfl) dX5_load_17 (fun H locs hP hD hS => ?_)
  have hP : va_P D vwCl [(h0, .inr (5, [.ref h1, v0, .ref h2, v1, v2, v3, v4, v5, v6, v7])), (h1, .inr (3, [v8, .int 0, .int 1, .int 0, .int 0, .int 0, .int 0, v14])), (h2, .inr (0, [v15, v16, .int 0, .int 0, .int 2, .int 1, .int 2]))] H := hP
  have hD : va_D A [(h0, .inr (5, [.ref h1, v0, .ref h2, v1, v2, v3, v4, v5, v6, v7])), (h1, .inr (3, [v8, .int 0, .int 1, .int 0, .int 0, .int 0, .int 0, v14])), (h2, .inr (0, [v15, v16, .int 0, .int 0, .int 2, .int 1, .int 2]))] := hD
  refine lv_iload_n hx hb dX5_load_20 rfl (lv_at hl 0 rfl) ?_
  refine lv_if_ne (tgt := 34) hx hb dX5_load_21 (by decide) (fun c9 => absurd (by decide) c9) (fun _ => ?_)
  obtain ⟨sa, hsa⟩ := XX_sRX5_86 hX
  exact thS_IAE hx hb hlt hown (hg _ k813) (hg _ k101) hsa hg hX hS (hl.1.trans hml.symm) dX5_load_24 dX5_load_27 dX5_load_28 dX5_load_30 dX5_load_33 hout (Nat.le_of_ble_eq_true rfl) (Nat.le_of_ble_eq_true rfl) (Nat.le_of_ble_eq_true rfl) (Nat.le_of_ble_eq_true rfl) hlocks (Nat.le_of_ble_eq_true rfl) (Nat.le_of_ble_eq_true rfl)
set_option maxHeartbeats 4000000 in
set_option maxRecDepth 100000 in
theorem cX5_errorCode_321 (l : Launch) (D : va_G) (h0 : Nat) (h1 : Nat) (v0 : Value) (v1 : Value) (v2 : Value) (v3 : Value) (v4 : Value) (v5 : Value) (v6 : Value) (v7 : Value) (v8 : Value) (v9 : Value) (v10 : Value) (v11 : Value) (v12 : Value) (v13 : Value) (v14 : Value) (v15 : Value)   : CT l yX5_errorCode cX5_errorCode 1 (some .int) { frames := 0, cells := 0, slots := 0, locals := 0 } [.ref h0] D [(h0, .inr (5, [.ref h1, v0, v1, v2, v3, v4, v5, v6, v7, v8])), (h1, .inr (3, [v9, v10, .int 0, v11, v12, v13, v14, v15]))] [] XN [] (ei (fun _ : Unit => True) (fun _ => 0) (fun _ => []) (fun _ => []) D) 0 0 := by
  refine CT.ofR (by decide +kernel) (Nat.le_of_ble_eq_true rfl) ?_
  intro p e s m below meth c A ls hcs hP hK hD hX hA hS hl
  obtain ⟨hx, hb, hr, hml, hown, hg, hlocks, hin⟩ := hcs
  have hown : s.vm.findClass RX5 = some m.cls := hown
  have hl : lv_has ls 1 [(0, .ref h0)] := hl
  refine lv_aload_n hx hb dX5_errorCode_0 rfl (lv_at hl 0 rfl) ?_
  refine va_get (D := D) (ci := 5) (v := .ref h1) (C := RX5) (T := TX5) (N := 10) hx hb hg inX5 hown hK hP 0 rfl rfl 0 (by decide) (hg _ k379) (fun _ h9 => h9) rfl dX5_errorCode_1 ?_
  refine va_get (D := D) (ci := 3) (v := .int 0) (C := RX3) (T := TX3) (N := 8) hx hb hg inX3 hown hK hP 1 rfl rfl 2 (by decide) (hg _ k123) (fun _ h9 => h9) rfl dX5_errorCode_4 ?_
  exact fi0 hx hb hr hlocks hK hS (Nat.le_of_ble_eq_true rfl) (Nat.le_of_ble_eq_true rfl) dX5_errorCode_7
set_option maxHeartbeats 4000000 in
set_option maxRecDepth 100000 in
theorem cX5_errorPosition_322 (l : Launch) (D : va_G) (h0 : Nat) (h1 : Nat) (v0 : Value) (v1 : Value) (v2 : Value) (v3 : Value) (v4 : Value) (v5 : Value) (v6 : Value) (v7 : Value) (v8 : Value) (v9 : Value) (v10 : Value) (v11 : Value) (v12 : Value) (v13 : Value) (v14 : Value) (v15 : Value)   : CT l yX5_errorPosition cX5_errorPosition 1 (some .int) { frames := 0, cells := 0, slots := 0, locals := 0 } [.ref h0] D [(h0, .inr (5, [.ref h1, v0, v1, v2, v3, v4, v5, v6, v7, v8])), (h1, .inr (3, [v9, v10, v11, .int (-1), v12, v13, v14, v15]))] [] XN [] (ei (fun _ : Unit => True) (fun _ => (-1)) (fun _ => []) (fun _ => []) D) 0 0 := by
  refine CT.ofR (by decide +kernel) (Nat.le_of_ble_eq_true rfl) ?_
  intro p e s m below meth c A ls hcs hP hK hD hX hA hS hl
  obtain ⟨hx, hb, hr, hml, hown, hg, hlocks, hin⟩ := hcs
  have hown : s.vm.findClass RX5 = some m.cls := hown
  have hl : lv_has ls 1 [(0, .ref h0)] := hl
  refine lv_aload_n hx hb dX5_errorPosition_0 rfl (lv_at hl 0 rfl) ?_
  refine va_get (D := D) (ci := 5) (v := .ref h1) (C := RX5) (T := TX5) (N := 10) hx hb hg inX5 hown hK hP 0 rfl rfl 0 (by decide) (hg _ k379) (fun _ h9 => h9) rfl dX5_errorPosition_1 ?_
  refine va_get (D := D) (ci := 3) (v := .int (-1)) (C := RX3) (T := TX3) (N := 8) hx hb hg inX3 hown hK hP 1 rfl rfl 3 (by decide) (hg _ k125) (fun _ h9 => h9) rfl dX5_errorPosition_4 ?_
  exact fi0 hx hb hr hlocks hK hS (Nat.le_of_ble_eq_true rfl) (Nat.le_of_ble_eq_true rfl) dX5_errorPosition_7
set_option maxHeartbeats 4000000 in
set_option maxRecDepth 100000 in
theorem cX5_count_323 (l : Launch) (D : va_G) (hlt : l.stackTraces = false) (h0 : Nat) (x0 : Int32)  (d0 : x0.toInt < 0 ∨ 8 < x0.toInt) : CX l yX5_count cX5_count 2 (some .int) { frames := 6, cells := 1, slots := 6, locals := 90 } [.ref h0, .int x0] D [] [] XX [] xi "java/lang/IllegalArgumentException" 1 6 := by
  refine CX.ofR (by decide +kernel) (Nat.le_of_ble_eq_true rfl) ?_
  intro p e s m below meth c A ls hcs hout hP hK hD hX hA hS hl
  obtain ⟨hx, hb, hr, hml, hown, hg, hlocks, hin⟩ := hcs
  have hown : s.vm.findClass RX5 = some m.cls := hown
  have hl : lv_has ls 2 [(0, .ref h0), (1, .int x0)] := hl
  refine lv_iload_n hx hb dX5_count_0 rfl (lv_at hl 1 rfl) ?_
  refine lv_tableOut (tgt := 133) hx hb dX5_count_1 d0 (by decide) ?_
  obtain ⟨sa, hsa⟩ := XX_sRX5_130 hX
  exact thS_IAE hx hb hlt hown (hg _ k813) (hg _ k101) hsa hg hX hS (hl.1.trans hml.symm) dX5_count_133 dX5_count_136 dX5_count_137 dX5_count_139 dX5_count_142 hout (Nat.le_of_ble_eq_true rfl) (Nat.le_of_ble_eq_true rfl) (Nat.le_of_ble_eq_true rfl) (Nat.le_of_ble_eq_true rfl) hlocks (Nat.le_of_ble_eq_true rfl) (Nat.le_of_ble_eq_true rfl)
set_option maxHeartbeats 4000000 in
set_option maxRecDepth 100000 in
theorem cX5_count_324 (l : Launch) (D : va_G) (h0 : Nat) (h1 : Nat) (v0 : Value) (v1 : Value) (v2 : Value) (v3 : Value) (v4 : Value) (v5 : Value) (v6 : Value) (v7 : Value) (v8 : Value) (v9 : Value) (v10 : Value) (v11 : Value) (v12 : Value) (v13 : Value) (v14 : Value)   : CT l yX5_count cX5_count 2 (some .int) { frames := 0, cells := 0, slots := 0, locals := 0 } [.ref h0, .int 0] D [(h0, .inr (5, [v0, .ref h1, v1, v2, v3, v4, v5, v6, v7, v8])), (h1, .inr (0, [v9, v10, .int 2, v11, v12, v13, v14]))] [] XN [] (ei (fun _ : Unit => True) (fun _ => 2) (fun _ => []) (fun _ => []) D) 0 0 := by
  refine CT.ofR (by decide +kernel) (Nat.le_of_ble_eq_true rfl) ?_
  intro p e s m below meth c A ls hcs hP hK hD hX hA hS hl
  obtain ⟨hx, hb, hr, hml, hown, hg, hlocks, hin⟩ := hcs
  have hown : s.vm.findClass RX5 = some m.cls := hown
  have hl : lv_has ls 2 [(0, .ref h0), (1, .int 0)] := hl
  refine lv_iload_n hx hb dX5_count_0 rfl (lv_at hl 1 rfl) ?_
  refine lv_tableIn (off := 51) (tgt := 52) hx hb dX5_count_1 (by decide) (by decide) (by decide) (by decide) ?_
  refine lv_aload_n hx hb dX5_count_52 rfl (lv_at hl 0 rfl) ?_
  refine va_get (D := D) (ci := 5) (v := .ref h1) (C := RX5) (T := TX5) (N := 10) hx hb hg inX5 hown hK hP 0 rfl rfl 1 (by decide) (hg _ k380) (fun _ h9 => h9) rfl dX5_count_53 ?_
  refine va_get (D := D) (ci := 0) (v := .int 2) (C := RX0) (T := TX0) (N := 7) hx hb hg inX0 hown hK hP 1 rfl rfl 2 (by decide) (hg _ k163) (fun _ h9 => h9) rfl dX5_count_56 ?_
  exact fi0 hx hb hr hlocks hK hS (Nat.le_of_ble_eq_true rfl) (Nat.le_of_ble_eq_true rfl) dX5_count_59
set_option maxHeartbeats 4000000 in
set_option maxRecDepth 100000 in
theorem cX1_presentCount_326 (l : Launch) (D : va_G) (h0 : Nat) (h1 : Nat) (v0 : Value) (v1 : Value) (v2 : Value) (v3 : Value) (v4 : Value) (v5 : Value) (v6 : Value) (v7 : Value) (v8 : Value) (v9 : Value) (v10 : Value) (v11 : Value) (v12 : Value) (v13 : Value) (v14 : Value) (v15 : Value) (v16 : Value)   : CT l yX1_presentCount cX1_presentCount 1 (some .int) { frames := 0, cells := 0, slots := 0, locals := 0 } [.ref h0] D [(h0, .inr (1, [.ref h1, v0, v1, v2, v3, .int 0, v4, v5, v6, v7, v8, v9, v10])), (h1, .inr (0, [v11, v12, .int 2, v13, v14, v15, v16]))] [] XN [] (ei (fun _ : Unit => True) (fun _ => 2) (fun _ => []) (fun _ => []) D) 0 0 := by
  refine CT.ofR (by decide +kernel) (Nat.le_of_ble_eq_true rfl) ?_
  intro p e s m below meth c A ls hcs hP hK hD hX hA hS hl
  obtain ⟨hx, hb, hr, hml, hown, hg, hlocks, hin⟩ := hcs
  have hown : s.vm.findClass RX1 = some m.cls := hown
  have hl : lv_has ls 1 [(0, .ref h0)] := hl
  refine lv_aload_n hx hb dX1_presentCount_0 rfl (lv_at hl 0 rfl) ?_
  refine va_get (D := D) (ci := 1) (v := .ref h1) (C := RX1) (T := TX1) (N := 13) hx hb hg inX1 hown hK hP 0 rfl rfl 0 (by decide) (hg _ k278) (fun _ h9 => h9) rfl dX1_presentCount_1 ?_
  refine va_get (D := D) (ci := 0) (v := .int 2) (C := RX0) (T := TX0) (N := 7) hx hb hg inX0 hown hK hP 1 rfl rfl 2 (by decide) (hg _ k162) (fun _ h9 => h9) rfl dX1_presentCount_4 ?_
  refine lv_aload_n hx hb dX1_presentCount_7 rfl (lv_at hl 0 rfl) ?_
  refine va_get (D := D) (ci := 1) (v := .int 0) (C := RX1) (T := TX1) (N := 13) hx hb hg inX1 hown hK hP 0 rfl rfl 5 (by decide) (hg _ k287) (fun _ h9 => h9) rfl dX1_presentCount_8 ?_
  refine lv_isub hx hb dX1_presentCount_11 ?_
  refine ti (2) (by decide) ?_
  exact fi0 hx hb hr hlocks hK hS (Nat.le_of_ble_eq_true rfl) (Nat.le_of_ble_eq_true rfl) dX1_presentCount_12
set_option maxHeartbeats 4000000 in
set_option maxRecDepth 100000 in
theorem cX5_count_325 (l : Launch) (D : va_G) (h0 : Nat) (h1 : Nat) (h2 : Nat) (v0 : Value) (v1 : Value) (v2 : Value) (v3 : Value) (v4 : Value) (v5 : Value) (v6 : Value) (v7 : Value) (v8 : Value) (v9 : Value) (v10 : Value) (v11 : Value) (v12 : Value) (v13 : Value) (v14 : Value) (v15 : Value) (v16 : Value) (v17 : Value) (v18 : Value) (v19 : Value) (v20 : Value) (v21 : Value) (v22 : Value) (v23 : Value) (v24 : Value) (v25 : Value)   : CT l yX5_count cX5_count 2 (some .int) { frames := 1, cells := 0, slots := 0, locals := 20 } [.ref h0, .int 1] D [(h0, .inr (5, [v0, v1, v2, .ref h1, v3, v4, v5, v6, v7, v8])), (h1, .inr (1, [.ref h2, v9, v10, v11, v12, .int 0, v13, v14, v15, v16, v17, v18, v19])), (h2, .inr (0, [v20, v21, .int 2, v22, v23, v24, v25]))] [] XN [] (ei (fun _ : Unit => True) (fun _ => 2) (fun _ => []) (fun _ => []) D) 0 0 := by
  refine CT.ofR (by decide +kernel) (Nat.le_of_ble_eq_true rfl) ?_
  intro p e s m below meth c A ls hcs hP hK hD hX hA hS hl
  obtain ⟨hx, hb, hr, hml, hown, hg, hlocks, hin⟩ := hcs
  have hown : s.vm.findClass RX5 = some m.cls := hown
  have hl : lv_has ls 2 [(0, .ref h0), (1, .int 1)] := hl
  refine lv_iload_n hx hb dX5_count_0 rfl (lv_at hl 1 rfl) ?_
  refine lv_tableIn (off := 59) (tgt := 60) hx hb dX5_count_1 (by decide) (by decide) (by decide) (by decide) ?_
  refine lv_aload_n hx hb dX5_count_60 rfl (lv_at hl 0 rfl) ?_
  refine va_get (D := D) (ci := 5) (v := .ref h1) (C := RX5) (T := TX5) (N := 10) hx hb hg inX5 hown hK hP 0 rfl rfl 3 (by decide) (hg _ k382) (fun _ h9 => h9) rfl dX5_count_61 ?_
  refine cVi (n := 0) (As := []) (rest := []) (wr := [(h0, .inr (5, [v0, v1, v2, .ref h1, v3, v4, v5, v6, v7, v8])), (h1, .inr (1, [.ref h2, v9, v10, v11, v12, .int 0, v13, v14, v15, v16, v17, v18, v19])), (h2, .inr (0, [v20, v21, .int 2, v22, v23, v24, v25]))]) (tr := []) hx hb hml hown hg okN (cX1_presentCount_326 l D h1 h2 v9 v10 v11 v12 v13 v14 v15 v16 v17 v18 v19 v20 v21 v22 v23 v24 v25) (mwV k488 k489 k490 k87 k491) ⟨rfl, by decide, by decide, by decide +kernel⟩ ⟨rfl, rfl, (Nat.le_of_ble_eq_true rfl), (Nat.le_of_ble_eq_true rfl)⟩ hP hD hK hS xn [1, 2] [] [0, 1, 2] [] [] rfl (by decide) rfl rfl (by decide) (by decide) rfl rfl (aNil hA hS) (fun _ _ => trivial) 1 rfl rfl rfl hl.1 rfl (Nat.le_of_ble_eq_true rfl) dX5_count_64 ⟨(Nat.le_of_ble_eq_true rfl), (Nat.le_of_ble_eq_true rfl)⟩ (fun u H locs hφ hP hD hK hS hk => ?_)
  have hP : va_P D vwCl [(h0, .inr (5, [v0, v1, v2, .ref h1, v3, v4, v5, v6, v7, v8])), (h1, .inr (1, [.ref h2, v9, v10, v11, v12, .int 0, v13, v14, v15, v16, v17, v18, v19])), (h2, .inr (0, [v20, v21, .int 2, v22, v23, v24, v25]))] H := hP
  have hD : va_D (fun _ => True) [(h0, .inr (5, [v0, v1, v2, .ref h1, v3, v4, v5, v6, v7, v8])), (h1, .inr (1, [.ref h2, v9, v10, v11, v12, .int 0, v13, v14, v15, v16, v17, v18, v19])), (h2, .inr (0, [v20, v21, .int 2, v22, v23, v24, v25]))] := hD
  have hK : va_K D vwCl [] s := hK
  refine W.widen (k := 0) (n := 0) (Nat.le_of_ble_eq_true rfl) (Nat.le_of_ble_eq_true rfl) ?_
  exact fi0 hx hb hr hlocks hK hS (Nat.le_of_ble_eq_true rfl) (Nat.le_of_ble_eq_true rfl) dX5_count_67
set_option maxHeartbeats 4000000 in
set_option maxRecDepth 100000 in
theorem cX5_count_327 (l : Launch) (D : va_G) (h0 : Nat) (h1 : Nat) (v0 : Value) (v1 : Value) (v2 : Value) (v3 : Value) (v4 : Value) (v5 : Value) (v6 : Value) (v7 : Value) (v8 : Value) (v9 : Value) (v10 : Value) (v11 : Value) (v12 : Value) (v13 : Value) (v14 : Value) (v15 : Value) (v16 : Value) (v17 : Value) (v18 : Value) (v19 : Value) (v20 : Value)   : CT l yX5_count cX5_count 2 (some .int) { frames := 0, cells := 0, slots := 0, locals := 0 } [.ref h0, .int 2] D [(h0, .inr (5, [v0, v1, v2, .ref h1, v3, v4, v5, v6, v7, v8])), (h1, .inr (1, [v9, v10, v11, v12, v13, .int 0, v14, v15, v16, v17, v18, v19, v20]))] [] XN [] (ei (fun _ : Unit => True) (fun _ => 0) (fun _ => []) (fun _ => []) D) 0 0 := by
  refine CT.ofR (by decide +kernel) (Nat.le_of_ble_eq_true rfl) ?_
  intro p e s m below meth c A ls hcs hP hK hD hX hA hS hl
  obtain ⟨hx, hb, hr, hml, hown, hg, hlocks, hin⟩ := hcs
  have hown : s.vm.findClass RX5 = some m.cls := hown
  have hl : lv_has ls 2 [(0, .ref h0), (1, .int 2)] := hl
  refine lv_iload_n hx hb dX5_count_0 rfl (lv_at hl 1 rfl) ?_
  refine lv_tableIn (off := 67) (tgt := 68) hx hb dX5_count_1 (by decide) (by decide) (by decide) (by decide) ?_
  refine lv_aload_n hx hb dX5_count_68 rfl (lv_at hl 0 rfl) ?_
  refine va_get (D := D) (ci := 5) (v := .ref h1) (C := RX5) (T := TX5) (N := 10) hx hb hg inX5 hown hK hP 0 rfl rfl 3 (by decide) (hg _ k382) (fun _ h9 => h9) rfl dX5_count_69 ?_
  refine va_get (D := D) (ci := 1) (v := .int 0) (C := RX1) (T := TX1) (N := 13) hx hb hg inX1 hown hK hP 1 rfl rfl 5 (by decide) (hg _ k288) (fun _ h9 => h9) rfl dX5_count_72 ?_
  exact fi0 hx hb hr hlocks hK hS (Nat.le_of_ble_eq_true rfl) (Nat.le_of_ble_eq_true rfl) dX5_count_75
set_option maxHeartbeats 4000000 in
set_option maxRecDepth 100000 in
theorem cX1_zeroDetails_329 (l : Launch) (D : va_G) (h0 : Nat) (v0 : Value) (v1 : Value) (v2 : Value) (v3 : Value) (v4 : Value) (v5 : Value) (v6 : Value) (v7 : Value) (v8 : Value) (v9 : Value) (v10 : Value) (v11 : Value)   : CT l yX1_zeroDetails cX1_zeroDetails 3 (some .int) { frames := 0, cells := 0, slots := 0, locals := 0 } [.ref h0] D [(h0, .inr (1, [v0, v1, v2, v3, v4, .int 0, v5, v6, v7, v8, v9, v10, v11]))] [] XN [] (ei (fun _ : Unit => True) (fun _ => 0) (fun _ => []) (fun _ => []) D) 0 0 := by
  refine CT.ofR (by decide +kernel) (Nat.le_of_ble_eq_true rfl) ?_
  intro p e s m below meth c A ls hcs hP hK hD hX hA hS hl
  obtain ⟨hx, hb, hr, hml, hown, hg, hlocks, hin⟩ := hcs
  have hown : s.vm.findClass RX1 = some m.cls := hown
  have hl : lv_has ls 3 [(0, .ref h0)] := hl
  refine lv_iconst (v := 0) hx hb dX1_zeroDetails_0 (by decide) ?_
  refine lv_istore_n (lv' := [(1, .int 0), (0, .ref h0)]) hx hb dX1_zeroDetails_1 rfl hl (by decide) rfl (fun ls hl => ?_)
  refine lv_iconst (v := 0) hx hb dX1_zeroDetails_2 (by decide) ?_
  refine lv_istore_n (lv' := [(2, .int 0), (1, .int 0), (0, .ref h0)]) hx hb dX1_zeroDetails_3 rfl hl (by decide) rfl (fun ls hl => ?_)
  refine lv_iload_n hx hb dX1_zeroDetails_4 rfl (lv_at hl 0 rfl) ?_
  refine lv_aload_n hx hb dX1_zeroDetails_5 rfl (lv_at hl 2 rfl) ?_
  refine va_get (D := D) (ci := 1) (v := .int 0) (C := RX1) (T := TX1) (N := 13) hx hb hg inX1 hown hK hP 0 rfl rfl 5 (by decide) (hg _ k287) (fun _ h9 => h9) rfl dX1_zeroDetails_6 ?_
  refine lv_icmp_ge (tgt := 36) hx hb dX1_zeroDetails_9 (by decide) (fun _ => ?_) (fun c9 => absurd (by decide) c9)
  refine lv_iload_n hx hb dX1_zeroDetails_36 rfl (lv_at hl 1 rfl) ?_
  exact fi0 hx hb hr hlocks hK hS (Nat.le_of_ble_eq_true rfl) (Nat.le_of_ble_eq_true rfl) dX1_zeroDetails_37
set_option maxHeartbeats 4000000 in
set_option maxRecDepth 100000 in
theorem cX5_count_328 (l : Launch) (D : va_G) (h0 : Nat) (h1 : Nat) (v0 : Value) (v1 : Value) (v2 : Value) (v3 : Value) (v4 : Value) (v5 : Value) (v6 : Value) (v7 : Value) (v8 : Value) (v9 : Value) (v10 : Value) (v11 : Value) (v12 : Value) (v13 : Value) (v14 : Value) (v15 : Value) (v16 : Value) (v17 : Value) (v18 : Value) (v19 : Value) (v20 : Value)   : CT l yX5_count cX5_count 2 (some .int) { frames := 1, cells := 0, slots := 0, locals := 22 } [.ref h0, .int 3] D [(h0, .inr (5, [v0, v1, v2, .ref h1, v3, v4, v5, v6, v7, v8])), (h1, .inr (1, [v9, v10, v11, v12, v13, .int 0, v14, v15, v16, v17, v18, v19, v20]))] [] XN [] (ei (fun _ : Unit => True) (fun _ => 0) (fun _ => []) (fun _ => []) D) 0 0 := by
  refine CT.ofR (by decide +kernel) (Nat.le_of_ble_eq_true rfl) ?_
  intro p e s m below meth c A ls hcs hP hK hD hX hA hS hl
  obtain ⟨hx, hb, hr, hml, hown, hg, hlocks, hin⟩ := hcs
  have hown : s.vm.findClass RX5 = some m.cls := hown
  have hl : lv_has ls 2 [(0, .ref h0), (1, .int 3)] := hl
  refine lv_iload_n hx hb dX5_count_0 rfl (lv_at hl 1 rfl) ?_
  refine lv_tableIn (off := 75) (tgt := 76) hx hb dX5_count_1 (by decide) (by decide) (by decide) (by decide) ?_
  refine lv_aload_n hx hb dX5_count_76 rfl (lv_at hl 0 rfl) ?_
  refine va_get (D := D) (ci := 5) (v := .ref h1) (C := RX5) (T := TX5) (N := 10) hx hb hg inX5 hown hK hP 0 rfl rfl 3 (by decide) (hg _ k382) (fun _ h9 => h9) rfl dX5_count_77 ?_
  refine cVi (n := 0) (As := []) (rest := []) (wr := [(h0, .inr (5, [v0, v1, v2, .ref h1, v3, v4, v5, v6, v7, v8])), (h1, .inr (1, [v9, v10, v11, v12, v13, .int 0, v14, v15, v16, v17, v18, v19, v20]))]) (tr := []) hx hb hml hown hg okN (cX1_zeroDetails_329 l D h1 v9 v10 v11 v12 v13 v14 v15 v16 v17 v18 v19 v20) (mwV k841 k842 k843 k87 k844) ⟨rfl, by decide, by decide, by decide +kernel⟩ ⟨rfl, rfl, (Nat.le_of_ble_eq_true rfl), (Nat.le_of_ble_eq_true rfl)⟩ hP hD hK hS xn [1] [] [0, 1] [] [] rfl (by decide) rfl rfl (by decide) (by decide) rfl rfl (aNil hA hS) (fun _ _ => trivial) 1 rfl rfl rfl hl.1 rfl (Nat.le_of_ble_eq_true rfl) dX5_count_80 ⟨(Nat.le_of_ble_eq_true rfl), (Nat.le_of_ble_eq_true rfl)⟩ (fun u H locs hφ hP hD hK hS hk => ?_)
  have hP : va_P D vwCl [(h0, .inr (5, [v0, v1, v2, .ref h1, v3, v4, v5, v6, v7, v8])), (h1, .inr (1, [v9, v10, v11, v12, v13, .int 0, v14, v15, v16, v17, v18, v19, v20]))] H := hP
  have hD : va_D (fun _ => True) [(h0, .inr (5, [v0, v1, v2, .ref h1, v3, v4, v5, v6, v7, v8])), (h1, .inr (1, [v9, v10, v11, v12, v13, .int 0, v14, v15, v16, v17, v18, v19, v20]))] := hD
  have hK : va_K D vwCl [] s := hK
  refine W.widen (k := 0) (n := 0) (Nat.le_of_ble_eq_true rfl) (Nat.le_of_ble_eq_true rfl) ?_
  exact fi0 hx hb hr hlocks hK hS (Nat.le_of_ble_eq_true rfl) (Nat.le_of_ble_eq_true rfl) dX5_count_83
set_option maxHeartbeats 4000000 in
set_option maxRecDepth 100000 in
theorem cX5_count_330 (l : Launch) (D : va_G) (h0 : Nat) (h1 : Nat) (v0 : Value) (v1 : Value) (v2 : Value) (v3 : Value) (v4 : Value) (v5 : Value) (v6 : Value) (v7 : Value) (v8 : Value) (v9 : Value) (v10 : Value) (v11 : Value) (v12 : Value) (v13 : Value) (v14 : Value) (v15 : Value) (v16 : Value) (v17 : Value) (v18 : Value) (v19 : Value) (v20 : Value)   : CT l yX5_count cX5_count 2 (some .int) { frames := 0, cells := 0, slots := 0, locals := 0 } [.ref h0, .int 4] D [(h0, .inr (5, [v0, v1, v2, .ref h1, v3, v4, v5, v6, v7, v8])), (h1, .inr (1, [v9, v10, v11, v12, v13, v14, v15, .int 0, v16, v17, v18, v19, v20]))] [] XN [] (ei (fun _ : Unit => True) (fun _ => 0) (fun _ => []) (fun _ => []) D) 0 0 := by
  refine CT.ofR (by decide +kernel) (Nat.le_of_ble_eq_true rfl) ?_
  intro p e s m below meth c A ls hcs hP hK hD hX hA hS hl
  obtain ⟨hx, hb, hr, hml, hown, hg, hlocks, hin⟩ := hcs
  have hown : s.vm.findClass RX5 = some m.cls := hown
  have hl : lv_has ls 2 [(0, .ref h0), (1, .int 4)] := hl
  refine lv_iload_n hx hb dX5_count_0 rfl (lv_at hl 1 rfl) ?_
  refine lv_tableIn (off := 83) (tgt := 84) hx hb dX5_count_1 (by decide) (by decide) (by decide) (by decide) ?_
  refine lv_aload_n hx hb dX5_count_84 rfl (lv_at hl 0 rfl) ?_
  refine va_get (D := D) (ci := 5) (v := .ref h1) (C := RX5) (T := TX5) (N := 10) hx hb hg inX5 hown hK hP 0 rfl rfl 3 (by decide) (hg _ k382) (fun _ h9 => h9) rfl dX5_count_85 ?_
  refine va_get (D := D) (ci := 1) (v := .int 0) (C := RX1) (T := TX1) (N := 13) hx hb hg inX1 hown hK hP 1 rfl rfl 7 (by decide) (hg _ k292) (fun _ h9 => h9) rfl dX5_count_88 ?_
  exact fi0 hx hb hr hlocks hK hS (Nat.le_of_ble_eq_true rfl) (Nat.le_of_ble_eq_true rfl) dX5_count_91
set_option maxHeartbeats 4000000 in
set_option maxRecDepth 100000 in
theorem cX5_count_331 (l : Launch) (D : va_G) (h0 : Nat) (h1 : Nat) (v0 : Value) (v1 : Value) (v2 : Value) (v3 : Value) (v4 : Value) (v5 : Value) (v6 : Value) (v7 : Value) (v8 : Value) (v9 : Value) (v10 : Value) (v11 : Value) (v12 : Value) (v13 : Value) (v14 : Value) (v15 : Value) (v16 : Value) (v17 : Value) (v18 : Value) (v19 : Value) (v20 : Value)   : CT l yX5_count cX5_count 2 (some .int) { frames := 0, cells := 0, slots := 0, locals := 0 } [.ref h0, .int 5] D [(h0, .inr (5, [v0, v1, v2, .ref h1, v3, v4, v5, v6, v7, v8])), (h1, .inr (1, [v9, v10, v11, v12, v13, v14, v15, v16, .int 2, v17, v18, v19, v20]))] [] XN [] (ei (fun _ : Unit => True) (fun _ => 2) (fun _ => []) (fun _ => []) D) 0 0 := by
  refine CT.ofR (by decide +kernel) (Nat.le_of_ble_eq_true rfl) ?_
  intro p e s m below meth c A ls hcs hP hK hD hX hA hS hl
  obtain ⟨hx, hb, hr, hml, hown, hg, hlocks, hin⟩ := hcs
  have hown : s.vm.findClass RX5 = some m.cls := hown
  have hl : lv_has ls 2 [(0, .ref h0), (1, .int 5)] := hl
  refine lv_iload_n hx hb dX5_count_0 rfl (lv_at hl 1 rfl) ?_
  refine lv_tableIn (off := 91) (tgt := 92) hx hb dX5_count_1 (by decide) (by decide) (by decide) (by decide) ?_
  refine lv_aload_n hx hb dX5_count_92 rfl (lv_at hl 0 rfl) ?_
  refine va_get (D := D) (ci := 5) (v := .ref h1) (C := RX5) (T := TX5) (N := 10) hx hb hg inX5 hown hK hP 0 rfl rfl 3 (by decide) (hg _ k382) (fun _ h9 => h9) rfl dX5_count_93 ?_
  refine va_get (D := D) (ci := 1) (v := .int 2) (C := RX1) (T := TX1) (N := 13) hx hb hg inX1 hown hK hP 1 rfl rfl 8 (by decide) (hg _ k294) (fun _ h9 => h9) rfl dX5_count_96 ?_
  exact fi0 hx hb hr hlocks hK hS (Nat.le_of_ble_eq_true rfl) (Nat.le_of_ble_eq_true rfl) dX5_count_99
set_option maxHeartbeats 4000000 in
set_option maxRecDepth 100000 in
theorem cX5_count_332 (l : Launch) (D : va_G) (h0 : Nat) (h1 : Nat) (v0 : Value) (v1 : Value) (v2 : Value) (v3 : Value) (v4 : Value) (v5 : Value) (v6 : Value) (v7 : Value) (v8 : Value) (v9 : Value) (v10 : Value) (v11 : Value) (v12 : Value) (v13 : Value) (v14 : Value) (v15 : Value) (v16 : Value) (v17 : Value) (v18 : Value) (v19 : Value) (v20 : Value)   : CT l yX5_count cX5_count 2 (some .int) { frames := 0, cells := 0, slots := 0, locals := 0 } [.ref h0, .int 6] D [(h0, .inr (5, [v0, v1, v2, .ref h1, v3, v4, v5, v6, v7, v8])), (h1, .inr (1, [v9, v10, v11, v12, v13, v14, v15, v16, v17, .int 1, v18, v19, v20]))] [] XN [] (ei (fun _ : Unit => True) (fun _ => 1) (fun _ => []) (fun _ => []) D) 0 0 := by
  refine CT.ofR (by decide +kernel) (Nat.le_of_ble_eq_true rfl) ?_
  intro p e s m below meth c A ls hcs hP hK hD hX hA hS hl
  obtain ⟨hx, hb, hr, hml, hown, hg, hlocks, hin⟩ := hcs
  have hown : s.vm.findClass RX5 = some m.cls := hown
  have hl : lv_has ls 2 [(0, .ref h0), (1, .int 6)] := hl
  refine lv_iload_n hx hb dX5_count_0 rfl (lv_at hl 1 rfl) ?_
  refine lv_tableIn (off := 99) (tgt := 100) hx hb dX5_count_1 (by decide) (by decide) (by decide) (by decide) ?_
  refine lv_aload_n hx hb dX5_count_100 rfl (lv_at hl 0 rfl) ?_
  refine va_get (D := D) (ci := 5) (v := .ref h1) (C := RX5) (T := TX5) (N := 10) hx hb hg inX5 hown hK hP 0 rfl rfl 3 (by decide) (hg _ k382) (fun _ h9 => h9) rfl dX5_count_101 ?_
  refine va_get (D := D) (ci := 1) (v := .int 1) (C := RX1) (T := TX1) (N := 13) hx hb hg inX1 hown hK hP 1 rfl rfl 9 (by decide) (hg _ k296) (fun _ h9 => h9) rfl dX5_count_104 ?_
  refine lv_if_eq (tgt := 114) hx hb dX5_count_107 (by decide) (fun c9 => absurd c9 (by decide)) (fun _ => ?_)
  refine lv_iconst (v := 1) hx hb dX5_count_110 (by decide) ?_
  refine lv_goto (tgt := 115) hx hb dX5_count_111 (by decide) ?_
  exact fi0 hx hb hr hlocks hK hS (Nat.le_of_ble_eq_true rfl) (Nat.le_of_ble_eq_true rfl) dX5_count_115
set_option maxHeartbeats 4000000 in
set_option maxRecDepth 100000 in
theorem cX5_count_333 (l : Launch) (D : va_G) (h0 : Nat) (h1 : Nat) (v0 : Value) (v1 : Value) (v2 : Value) (v3 : Value) (v4 : Value) (v5 : Value) (v6 : Value) (v7 : Value) (v8 : Value) (v9 : Value) (v10 : Value) (v11 : Value) (v12 : Value) (v13 : Value) (v14 : Value)   : CT l yX5_count cX5_count 2 (some .int) { frames := 0, cells := 0, slots := 0, locals := 0 } [.ref h0, .int 7] D [(h0, .inr (5, [v0, .ref h1, v1, v2, v3, v4, v5, v6, v7, v8])), (h1, .inr (0, [v9, v10, v11, v12, v13, v14, .int 2]))] [] XN [] (ei (fun _ : Unit => True) (fun _ => 2) (fun _ => []) (fun _ => []) D) 0 0 := by
  refine CT.ofR (by decide +kernel) (Nat.le_of_ble_eq_true rfl) ?_
  intro p e s m below meth c A ls hcs hP hK hD hX hA hS hl
  obtain ⟨hx, hb, hr, hml, hown, hg, hlocks, hin⟩ := hcs
  have hown : s.vm.findClass RX5 = some m.cls := hown
  have hl : lv_has ls 2 [(0, .ref h0), (1, .int 7)] := hl
  refine lv_iload_n hx hb dX5_count_0 rfl (lv_at hl 1 rfl) ?_
  refine lv_tableIn (off := 115) (tgt := 116) hx hb dX5_count_1 (by decide) (by decide) (by decide) (by decide) ?_
  refine lv_aload_n hx hb dX5_count_116 rfl (lv_at hl 0 rfl) ?_
  refine va_get (D := D) (ci := 5) (v := .ref h1) (C := RX5) (T := TX5) (N := 10) hx hb hg inX5 hown hK hP 0 rfl rfl 1 (by decide) (hg _ k380) (fun _ h9 => h9) rfl dX5_count_117 ?_
  refine va_get (D := D) (ci := 0) (v := .int 2) (C := RX0) (T := TX0) (N := 7) hx hb hg inX0 hown hK hP 1 rfl rfl 6 (by decide) (hg _ k175) (fun _ h9 => h9) rfl dX5_count_120 ?_
  exact fi0 hx hb hr hlocks hK hS (Nat.le_of_ble_eq_true rfl) (Nat.le_of_ble_eq_true rfl) dX5_count_123
set_option maxHeartbeats 4000000 in
set_option maxRecDepth 100000 in
theorem cX1_isPresent_336 (l : Launch) (D : va_G) (h0 : Nat) (h1 : Nat) (v0 : Value) (v1 : Value) (v2 : Value) (v3 : Value) (v4 : Value) (v5 : Value) (v6 : Value) (v7 : Value) (v8 : Value) (v9 : Value) (v10 : Value) (v11 : Value) (f0 : Nat → Int32) (a0 : ClassId) (ef0_0 : f0 0 = (-1))  : CT l yX1_isPresent cX1_isPresent 2 (some .boolean) { frames := 0, cells := 0, slots := 0, locals := 0 } [.ref h0, .int 0] D [(h0, .inr (1, [v0, v1, v2, .ref h1, v3, v4, v5, v6, v7, v8, v9, v10, v11])), (h1, .inl (a0, 48, .inl f0))] [(a0, .int)] XN [] (ei (fun _ : Unit => True) (fun _ => 1) (fun _ => []) (fun _ => []) D) 0 0 := by
  refine CT.ofR (by decide +kernel) (Nat.le_of_ble_eq_true rfl) ?_
  intro p e s m below meth c A ls hcs hP hK hD hX hA hS hl
  obtain ⟨hx, hb, hr, hml, hown, hg, hlocks, hin⟩ := hcs
  have hown : s.vm.findClass RX1 = some m.cls := hown
  have hl : lv_has ls 2 [(0, .ref h0), (1, .int 0)] := hl
  refine lv_aload_n hx hb dX1_isPresent_0 rfl (lv_at hl 0 rfl) ?_
  refine va_get (D := D) (ci := 1) (v := .ref h1) (C := RX1) (T := TX1) (N := 13) hx hb hg inX1 hown hK hP 0 rfl rfl 3 (by decide) (hg _ k283) (fun _ h9 => h9) rfl dX1_isPresent_1 ?_
  refine lv_iload_n hx hb dX1_isPresent_4 rfl (lv_at hl 1 rfl) ?_
  refine aldI hx hb hK hP 1 0 rfl rfl 0 (by decide) (vin (by decide)) (v := (-1)) ef0_0 dX1_isPresent_5 ?_
  refine lv_iconst (v := (-1)) hx hb dX1_isPresent_6 (by decide) ?_
  refine lv_icmp_ne (tgt := 14) hx hb dX1_isPresent_7 (by decide) (fun c9 => absurd (by decide) c9) (fun _ => ?_)
  refine lv_iconst (v := 1) hx hb dX1_isPresent_10 (by decide) ?_
  refine lv_goto (tgt := 15) hx hb dX1_isPresent_11 (by decide) ?_
  exact fz0 hx hb hr rfl hlocks hK hS (Nat.le_of_ble_eq_true rfl) (Nat.le_of_ble_eq_true rfl) dX1_isPresent_15
set_option maxHeartbeats 4000000 in
set_option maxRecDepth 100000 in
theorem cX1_isPresent_337 (l : Launch) (D : va_G) (h0 : Nat) (h1 : Nat) (v0 : Value) (v1 : Value) (v2 : Value) (v3 : Value) (v4 : Value) (v5 : Value) (v6 : Value) (v7 : Value) (v8 : Value) (v9 : Value) (v10 : Value) (v11 : Value) (f0 : Nat → Int32) (a0 : ClassId) (ef0_1 : f0 1 = (-1))  : CT l yX1_isPresent cX1_isPresent 2 (some .boolean) { frames := 0, cells := 0, slots := 0, locals := 0 } [.ref h0, .int 1] D [(h0, .inr (1, [v0, v1, v2, .ref h1, v3, v4, v5, v6, v7, v8, v9, v10, v11])), (h1, .inl (a0, 48, .inl f0))] [(a0, .int)] XN [] (ei (fun _ : Unit => True) (fun _ => 1) (fun _ => []) (fun _ => []) D) 0 0 := by
  refine CT.ofR (by decide +kernel) (Nat.le_of_ble_eq_true rfl) ?_
  intro p e s m below meth c A ls hcs hP hK hD hX hA hS hl
  obtain ⟨hx, hb, hr, hml, hown, hg, hlocks, hin⟩ := hcs
  have hown : s.vm.findClass RX1 = some m.cls := hown
  have hl : lv_has ls 2 [(0, .ref h0), (1, .int 1)] := hl
  refine lv_aload_n hx hb dX1_isPresent_0 rfl (lv_at hl 0 rfl) ?_
  refine va_get (D := D) (ci := 1) (v := .ref h1) (C := RX1) (T := TX1) (N := 13) hx hb hg inX1 hown hK hP 0 rfl rfl 3 (by decide) (hg _ k283) (fun _ h9 => h9) rfl dX1_isPresent_1 ?_
  refine lv_iload_n hx hb dX1_isPresent_4 rfl (lv_at hl 1 rfl) ?_
  refine aldI hx hb hK hP 1 0 rfl rfl 1 (by decide) (vin (by decide)) (v := (-1)) ef0_1 dX1_isPresent_5 ?_
  refine lv_iconst (v := (-1)) hx hb dX1_isPresent_6 (by decide) ?_
  refine lv_icmp_ne (tgt := 14) hx hb dX1_isPresent_7 (by decide) (fun c9 => absurd (by decide) c9) (fun _ => ?_)
  refine lv_iconst (v := 1) hx hb dX1_isPresent_10 (by decide) ?_
  refine lv_goto (tgt := 15) hx hb dX1_isPresent_11 (by decide) ?_
  exact fz0 hx hb hr rfl hlocks hK hS (Nat.le_of_ble_eq_true rfl) (Nat.le_of_ble_eq_true rfl) dX1_isPresent_15
set_option maxHeartbeats 4000000 in
set_option maxRecDepth 100000 in
theorem cX1_weightSum_335 (l : Launch) (D : va_G) (h0 : Nat) (h1 : Nat) (h2 : Nat) (h3 : Nat) (v0 : Value) (v1 : Value) (v2 : Value) (v3 : Value) (v4 : Value) (v5 : Value) (v6 : Value) (v7 : Value) (v8 : Value) (v9 : Value) (v10 : Value) (v11 : Value) (v12 : Value) (v13 : Value) (v14 : Value) (v15 : Value) (f0 : Nat → Int32) (f1 : Nat → Int64) (a0 : ClassId) (a1 : ClassId) (ef0_0 : f0 0 = (-1)) (ef0_1 : f0 1 = (-1)) (ef1_0 : f1 0 = 1) (ef1_1 : f1 1 = 1)  : CT l yX1_weightSum cX1_weightSum 4 (some .long) { frames := 1, cells := 0, slots := 0, locals := 21 } [.ref h0] D [(h0, .inr (1, [.ref h1, v0, .ref h3, .ref h2, v1, v2, v3, v4, v5, v6, v7, v8, v9])), (h1, .inr (0, [v10, v11, .int 2, v12, v13, v14, v15])), (h2, .inl (a0, 48, .inl f0)), (h3, .inl (a1, 48, .inr (.inl f1)))] [(a0, .int), (a1, .long)] XN [] (el (fun _ : Unit => True) (fun _ => 2) (fun _ => []) (fun _ => []) D) 0 0 := by
  refine CT.ofR (by decide +kernel) (Nat.le_of_ble_eq_true rfl) ?_
  intro p e s m below meth c A ls hcs hP hK hD hX hA hS hl
  obtain ⟨hx, hb, hr, hml, hown, hg, hlocks, hin⟩ := hcs
  have hown : s.vm.findClass RX1 = some m.cls := hown
  have hl : lv_has ls 4 [(0, .ref h0)] := hl
  refine lv_lconst (v := 0) hx hb dX1_weightSum_0 (by decide) ?_
  refine lv_lstore_n (lv' := [(1, .long 0), (0, .ref h0)]) hx hb dX1_weightSum_1 rfl hl (by decide) rfl (fun ls hl => ?_)
  refine lv_iconst (v := 0) hx hb dX1_weightSum_2 (by decide) ?_
  refine lv_istore_n (lv' := [(3, .int 0), (1, .long 0), (0, .ref h0)]) hx hb dX1_weightSum_3 rfl hl (by decide) rfl (fun ls hl => ?_)
  refine lv_iload_n hx hb dX1_weightSum_4 rfl (lv_at hl 0 rfl) ?_
  refine lv_aload_n hx hb dX1_weightSum_5 rfl (lv_at hl 2 rfl) ?_
  refine va_get (D := D) (ci := 1) (v := .ref h1) (C := RX1) (T := TX1) (N := 13) hx hb hg inX1 hown hK hP 0 rfl rfl 0 (by decide) (hg _ k278) (fun _ h9 => h9) rfl dX1_weightSum_6 ?_
  refine va_get (D := D) (ci := 0) (v := .int 2) (C := RX0) (T := TX0) (N := 7) hx hb hg inX0 hown hK hP 1 rfl rfl 2 (by decide) (hg _ k162) (fun _ h9 => h9) rfl dX1_weightSum_9 ?_
  refine lv_icmp_ge (tgt := 38) hx hb dX1_weightSum_12 (by decide) (fun c9 => absurd c9 (by decide)) (fun _ => ?_)
  refine lv_aload_n hx hb dX1_weightSum_15 rfl (lv_at hl 2 rfl) ?_
  refine lv_iload_n hx hb dX1_weightSum_16 rfl (lv_at hl 0 rfl) ?_
  refine cVi (n := 1) (As := [.int 0]) (rest := []) (wr := [(h0, .inr (1, [.ref h1, v0, .ref h3, .ref h2, v1, v2, v3, v4, v5, v6, v7, v8, v9])), (h1, .inr (0, [v10, v11, .int 2, v12, v13, v14, v15])), (h2, .inl (a0, 48, .inl f0)), (h3, .inl (a1, 48, .inr (.inl f1)))]) (tr := [(a0, .int), (a1, .long)]) hx hb hml hown hg okN (cX1_isPresent_336 l D h0 h2 (.ref h1) v0 (.ref h3) v1 v2 v3 v4 v5 v6 v7 v8 v9 f0 a0 ef0_0) (mwV k459 k460 k461 k87 k462) ⟨rfl, by decide, by decide, by decide +kernel⟩ ⟨rfl, rfl, (Nat.le_of_ble_eq_true rfl), (Nat.le_of_ble_eq_true rfl)⟩ hP hD hK hS xn [0, 2] [] [0, 1, 2, 3] [0] [0, 1] rfl (by decide) rfl rfl (by decide) (by decide) rfl rfl (aNil hA hS) (fun _ _ => trivial) 0 rfl rfl rfl hl.1 rfl (Nat.le_of_ble_eq_true rfl) dX1_weightSum_17 ⟨(Nat.le_of_ble_eq_true rfl), (Nat.le_of_ble_eq_true rfl)⟩ (fun u H locs hφ hP hD hK hS hk => ?_)
  have hP : va_P D vwCl [(h0, .inr (1, [.ref h1, v0, .ref h3, .ref h2, v1, v2, v3, v4, v5, v6, v7, v8, v9])), (h1, .inr (0, [v10, v11, .int 2, v12, v13, v14, v15])), (h2, .inl (a0, 48, .inl f0)), (h3, .inl (a1, 48, .inr (.inl f1)))] H := hP
  have hD : va_D (fun _ => True) [(h0, .inr (1, [.ref h1, v0, .ref h3, .ref h2, v1, v2, v3, v4, v5, v6, v7, v8, v9])), (h1, .inr (0, [v10, v11, .int 2, v12, v13, v14, v15])), (h2, .inl (a0, 48, .inl f0)), (h3, .inl (a1, 48, .inr (.inl f1)))] := hD
  have hK : va_K D vwCl [(a0, .int), (a1, .long)] s := hK
  refine W.widen (k := 0) (n := 0) (Nat.le_of_ble_eq_true rfl) (Nat.le_of_ble_eq_true rfl) ?_
  refine lv_if_eq (tgt := 32) hx hb dX1_weightSum_20 (by decide) (fun c9 => absurd c9 (by decide)) (fun _ => ?_)
  refine lv_lload_n hx hb dX1_weightSum_23 rfl (lv_at hl 1 rfl) ?_
  refine lv_aload_n hx hb dX1_weightSum_24 rfl (lv_at hl 2 rfl) ?_
  refine va_get (D := D) (ci := 1) (v := .ref h3) (C := RX1) (T := TX1) (N := 13) hx hb hg inX1 hown hK hP 0 rfl rfl 2 (by decide) (hg _ k281) (fun _ h9 => h9) rfl dX1_weightSum_25 ?_
  refine lv_iload_n hx hb dX1_weightSum_28 rfl (lv_at hl 0 rfl) ?_
  refine aldL hx hb hK hP 3 1 rfl rfl 0 (by decide) (vin (by decide)) (v := 1) ef1_0 dX1_weightSum_29 ?_
  refine lv_ladd hx hb dX1_weightSum_30 ?_
  refine tl (1) (by decide) ?_
  refine lv_lstore_n (lv' := [(1, .long 1), (3, .int 0), (0, .ref h0)]) hx hb dX1_weightSum_31 rfl hl (by decide) rfl (fun ls hl => ?_)
  refine lv_iinc (v := 1) (lv' := [(3, .int 1), (1, .long 1), (0, .ref h0)]) hx hb dX1_weightSum_32 hl (k := 1) rfl (by decide) (by decide) rfl (fun ls hl => ?_)
  refine lv_goto (tgt := 4) hx hb dX1_weightSum_35 (by decide) ?_
  refine lv_iload_n hx hb dX1_weightSum_4 rfl (lv_at hl 0 rfl) ?_
  refine lv_aload_n hx hb dX1_weightSum_5 rfl (lv_at hl 2 rfl) ?_
  refine va_get (D := D) (ci := 1) (v := .ref h1) (C := RX1) (T := TX1) (N := 13) hx hb hg inX1 hown hK hP 0 rfl rfl 0 (by decide) (hg _ k278) (fun _ h9 => h9) rfl dX1_weightSum_6 ?_
  refine va_get (D := D) (ci := 0) (v := .int 2) (C := RX0) (T := TX0) (N := 7) hx hb hg inX0 hown hK hP 1 rfl rfl 2 (by decide) (hg _ k162) (fun _ h9 => h9) rfl dX1_weightSum_9 ?_
  refine lv_icmp_ge (tgt := 38) hx hb dX1_weightSum_12 (by decide) (fun c9 => absurd c9 (by decide)) (fun _ => ?_)
  refine lv_aload_n hx hb dX1_weightSum_15 rfl (lv_at hl 2 rfl) ?_
  refine lv_iload_n hx hb dX1_weightSum_16 rfl (lv_at hl 0 rfl) ?_
  refine cVi (n := 1) (As := [.int 1]) (rest := []) (wr := [(h0, .inr (1, [.ref h1, v0, .ref h3, .ref h2, v1, v2, v3, v4, v5, v6, v7, v8, v9])), (h1, .inr (0, [v10, v11, .int 2, v12, v13, v14, v15])), (h2, .inl (a0, 48, .inl f0)), (h3, .inl (a1, 48, .inr (.inl f1)))]) (tr := [(a0, .int), (a1, .long)]) hx hb hml hown hg okN (cX1_isPresent_337 l D h0 h2 (.ref h1) v0 (.ref h3) v1 v2 v3 v4 v5 v6 v7 v8 v9 f0 a0 ef0_1) (mwV k459 k460 k461 k87 k462) ⟨rfl, by decide, by decide, by decide +kernel⟩ ⟨rfl, rfl, (Nat.le_of_ble_eq_true rfl), (Nat.le_of_ble_eq_true rfl)⟩ hP hD hK hS xn [0, 2] [] [0, 1, 2, 3] [0] [0, 1] rfl (by decide) rfl rfl (by decide) (by decide) rfl rfl (aNil hA hS) (fun _ _ => trivial) 0 rfl rfl rfl hl.1 rfl (Nat.le_of_ble_eq_true rfl) dX1_weightSum_17 ⟨(Nat.le_of_ble_eq_true rfl), (Nat.le_of_ble_eq_true rfl)⟩ (fun u H locs hφ hP hD hK hS hk => ?_)
  have hP : va_P D vwCl [(h0, .inr (1, [.ref h1, v0, .ref h3, .ref h2, v1, v2, v3, v4, v5, v6, v7, v8, v9])), (h1, .inr (0, [v10, v11, .int 2, v12, v13, v14, v15])), (h2, .inl (a0, 48, .inl f0)), (h3, .inl (a1, 48, .inr (.inl f1)))] H := hP
  have hD : va_D (fun _ => True) [(h0, .inr (1, [.ref h1, v0, .ref h3, .ref h2, v1, v2, v3, v4, v5, v6, v7, v8, v9])), (h1, .inr (0, [v10, v11, .int 2, v12, v13, v14, v15])), (h2, .inl (a0, 48, .inl f0)), (h3, .inl (a1, 48, .inr (.inl f1)))] := hD
  have hK : va_K D vwCl [(a0, .int), (a1, .long)] s := hK
  refine W.widen (k := 0) (n := 0) (Nat.le_of_ble_eq_true rfl) (Nat.le_of_ble_eq_true rfl) ?_
  refine lv_if_eq (tgt := 32) hx hb dX1_weightSum_20 (by decide) (fun c9 => absurd c9 (by decide)) (fun _ => ?_)
  refine lv_lload_n hx hb dX1_weightSum_23 rfl (lv_at hl 1 rfl) ?_
  refine lv_aload_n hx hb dX1_weightSum_24 rfl (lv_at hl 2 rfl) ?_
  refine va_get (D := D) (ci := 1) (v := .ref h3) (C := RX1) (T := TX1) (N := 13) hx hb hg inX1 hown hK hP 0 rfl rfl 2 (by decide) (hg _ k281) (fun _ h9 => h9) rfl dX1_weightSum_25 ?_
  refine lv_iload_n hx hb dX1_weightSum_28 rfl (lv_at hl 0 rfl) ?_
  refine aldL hx hb hK hP 3 1 rfl rfl 1 (by decide) (vin (by decide)) (v := 1) ef1_1 dX1_weightSum_29 ?_
  refine lv_ladd hx hb dX1_weightSum_30 ?_
  refine tl (2) (by decide) ?_
  refine lv_lstore_n (lv' := [(1, .long 2), (3, .int 1), (0, .ref h0)]) hx hb dX1_weightSum_31 rfl hl (by decide) rfl (fun ls hl => ?_)
  refine lv_iinc (v := 2) (lv' := [(3, .int 2), (1, .long 2), (0, .ref h0)]) hx hb dX1_weightSum_32 hl (k := 1) rfl (by decide) (by decide) rfl (fun ls hl => ?_)
  refine lv_goto (tgt := 4) hx hb dX1_weightSum_35 (by decide) ?_
  refine lv_iload_n hx hb dX1_weightSum_4 rfl (lv_at hl 0 rfl) ?_
  refine lv_aload_n hx hb dX1_weightSum_5 rfl (lv_at hl 2 rfl) ?_
  refine va_get (D := D) (ci := 1) (v := .ref h1) (C := RX1) (T := TX1) (N := 13) hx hb hg inX1 hown hK hP 0 rfl rfl 0 (by decide) (hg _ k278) (fun _ h9 => h9) rfl dX1_weightSum_6 ?_
  refine va_get (D := D) (ci := 0) (v := .int 2) (C := RX0) (T := TX0) (N := 7) hx hb hg inX0 hown hK hP 1 rfl rfl 2 (by decide) (hg _ k162) (fun _ h9 => h9) rfl dX1_weightSum_9 ?_
  refine lv_icmp_ge (tgt := 38) hx hb dX1_weightSum_12 (by decide) (fun _ => ?_) (fun c9 => absurd (by decide) c9)
  refine lv_lload_n hx hb dX1_weightSum_38 rfl (lv_at hl 1 rfl) ?_
  exact fl0 hx hb hr hlocks hK hS (Nat.le_of_ble_eq_true rfl) (Nat.le_of_ble_eq_true rfl) dX1_weightSum_39
set_option maxHeartbeats 4000000 in
set_option maxRecDepth 100000 in
theorem cX5_count_334 (l : Launch) (D : va_G) (h0 : Nat) (h1 : Nat) (h2 : Nat) (h3 : Nat) (h4 : Nat) (v0 : Value) (v1 : Value) (v2 : Value) (v3 : Value) (v4 : Value) (v5 : Value) (v6 : Value) (v7 : Value) (v8 : Value) (v9 : Value) (v10 : Value) (v11 : Value) (v12 : Value) (v13 : Value) (v14 : Value) (v15 : Value) (v16 : Value) (v17 : Value) (v18 : Value) (v19 : Value) (v20 : Value) (v21 : Value) (v22 : Value) (v23 : Value) (v24 : Value) (f0 : Nat → Int32) (f1 : Nat → Int64) (a0 : ClassId) (a1 : ClassId) (ef0_0 : f0 0 = (-1)) (ef0_1 : f0 1 = (-1)) (ef1_0 : f1 0 = 1) (ef1_1 : f1 1 = 1)  : CT l yX5_count cX5_count 2 (some .int) { frames := 2, cells := 0, slots := 0, locals := 44 } [.ref h0, .int 8] D [(h0, .inr (5, [v0, v1, v2, .ref h1, v3, v4, v5, v6, v7, v8])), (h1, .inr (1, [.ref h2, v9, .ref h4, .ref h3, v10, v11, v12, v13, v14, v15, v16, v17, v18])), (h2, .inr (0, [v19, v20, .int 2, v21, v22, v23, v24])), (h3, .inl (a0, 48, .inl f0)), (h4, .inl (a1, 48, .inr (.inl f1)))] [(a0, .int), (a1, .long)] XN [] (ei (fun _ : Unit => True) (fun _ => 2) (fun _ => []) (fun _ => []) D) 0 0 := by
  refine CT.ofR (by decide +kernel) (Nat.le_of_ble_eq_true rfl) ?_
  intro p e s m below meth c A ls hcs hP hK hD hX hA hS hl
  obtain ⟨hx, hb, hr, hml, hown, hg, hlocks, hin⟩ := hcs
  have hown : s.vm.findClass RX5 = some m.cls := hown
  have hl : lv_has ls 2 [(0, .ref h0), (1, .int 8)] := hl
  refine lv_iload_n hx hb dX5_count_0 rfl (lv_at hl 1 rfl) ?_
  refine lv_tableIn (off := 123) (tgt := 124) hx hb dX5_count_1 (by decide) (by decide) (by decide) (by decide) ?_
  refine lv_aload_n hx hb dX5_count_124 rfl (lv_at hl 0 rfl) ?_
  refine va_get (D := D) (ci := 5) (v := .ref h1) (C := RX5) (T := TX5) (N := 10) hx hb hg inX5 hown hK hP 0 rfl rfl 3 (by decide) (hg _ k382) (fun _ h9 => h9) rfl dX5_count_125 ?_
  refine cVl (n := 0) (As := []) (rest := []) (wr := [(h0, .inr (5, [v0, v1, v2, .ref h1, v3, v4, v5, v6, v7, v8])), (h1, .inr (1, [.ref h2, v9, .ref h4, .ref h3, v10, v11, v12, v13, v14, v15, v16, v17, v18])), (h2, .inr (0, [v19, v20, .int 2, v21, v22, v23, v24])), (h3, .inl (a0, 48, .inl f0)), (h4, .inl (a1, 48, .inr (.inl f1)))]) (tr := [(a0, .int), (a1, .long)]) hx hb hml hown hg okN (cX1_weightSum_335 l D h1 h2 h3 h4 v9 v10 v11 v12 v13 v14 v15 v16 v17 v18 v19 v20 v21 v22 v23 v24 f0 f1 a0 a1 ef0_0 ef0_1 ef1_0 ef1_1) (mwV k849 k850 k851 k87 k852) ⟨rfl, by decide, by decide, by decide +kernel⟩ ⟨rfl, rfl, (Nat.le_of_ble_eq_true rfl), (Nat.le_of_ble_eq_true rfl)⟩ hP hD hK hS xn [1, 2, 3, 4] [] [0, 1, 2, 3, 4] [0, 1] [0, 1] rfl (by decide) rfl rfl (by decide) (by decide) rfl rfl (aNil hA hS) (fun _ _ => trivial) 1 rfl rfl rfl hl.1 rfl (Nat.le_of_ble_eq_true rfl) dX5_count_128 ⟨(Nat.le_of_ble_eq_true rfl), (Nat.le_of_ble_eq_true rfl)⟩ (fun u H locs hφ hP hD hK hS hk => ?_)
  have hP : va_P D vwCl [(h0, .inr (5, [v0, v1, v2, .ref h1, v3, v4, v5, v6, v7, v8])), (h1, .inr (1, [.ref h2, v9, .ref h4, .ref h3, v10, v11, v12, v13, v14, v15, v16, v17, v18])), (h2, .inr (0, [v19, v20, .int 2, v21, v22, v23, v24])), (h3, .inl (a0, 48, .inl f0)), (h4, .inl (a1, 48, .inr (.inl f1)))] H := hP
  have hD : va_D (fun _ => True) [(h0, .inr (5, [v0, v1, v2, .ref h1, v3, v4, v5, v6, v7, v8])), (h1, .inr (1, [.ref h2, v9, .ref h4, .ref h3, v10, v11, v12, v13, v14, v15, v16, v17, v18])), (h2, .inr (0, [v19, v20, .int 2, v21, v22, v23, v24])), (h3, .inl (a0, 48, .inl f0)), (h4, .inl (a1, 48, .inr (.inl f1)))] := hD
  have hK : va_K D vwCl [(a0, .int), (a1, .long)] s := hK
  refine W.widen (k := 0) (n := 0) (Nat.le_of_ble_eq_true rfl) (Nat.le_of_ble_eq_true rfl) ?_
  refine lv_l2i (v := 2) hx hb dX5_count_131 (by decide) ?_
  exact fi0 hx hb hr hlocks hK hS (Nat.le_of_ble_eq_true rfl) (Nat.le_of_ble_eq_true rfl) dX5_count_132
set_option maxHeartbeats 4000000 in
set_option maxRecDepth 100000 in
theorem cX5_needIndex_339 (l : Launch) (D : va_G) (hlt : l.stackTraces = false) (x0 : Int32)  (d0 : x0 < 0) : CX l yX5_needIndex cX5_needIndex 2 none { frames := 6, cells := 1, slots := 6, locals := 90 } [.int x0, .int 2] D [] [] XX [] xv "java/lang/IndexOutOfBoundsException" 1 6 := by
  refine CX.ofR (by decide +kernel) (Nat.le_of_ble_eq_true rfl) ?_
  intro p e s m below meth c A ls hcs hout hP hK hD hX hA hS hl
  obtain ⟨hx, hb, hr, hml, hown, hg, hlocks, hin⟩ := hcs
  have hown : s.vm.findClass RX5 = some m.cls := hown
  have hl : lv_has ls 2 [(0, .int x0), (1, .int 2)] := hl
  refine lv_iload_n hx hb dX5_needIndex_0 rfl (lv_at hl 0 rfl) ?_
  refine lv_if_lt (tgt := 9) hx hb dX5_needIndex_1 (by decide) (fun _ => ?_) (fun c9 => absurd d0 c9)
  obtain ⟨sa, hsa⟩ := XX_sRX5_319 hX
  exact thSW_IOOBE hx hb hlt hown (hg _ k613) (hg _ k96) hsa hg hX hS (hl.1.trans hml.symm) dX5_needIndex_9 dX5_needIndex_12 dX5_needIndex_13 dX5_needIndex_16 dX5_needIndex_19 hout (Nat.le_of_ble_eq_true rfl) (Nat.le_of_ble_eq_true rfl) (Nat.le_of_ble_eq_true rfl) (Nat.le_of_ble_eq_true rfl) hlocks (Nat.le_of_ble_eq_true rfl) (Nat.le_of_ble_eq_true rfl)
set_option maxHeartbeats 4000000 in
set_option maxRecDepth 100000 in
theorem cX5_sample_338 (l : Launch) (D : va_G) (hlt : l.stackTraces = false) (h0 : Nat) (x0 : Int32) (x1 : Int32) (h1 : Nat) (v0 : Value) (v1 : Value) (v2 : Value) (v3 : Value) (v4 : Value) (v5 : Value) (v6 : Value) (v7 : Value) (v8 : Value) (v9 : Value) (v10 : Value) (v11 : Value) (v12 : Value) (v13 : Value) (v14 : Value)  (d0 : x0 < 0) : CX l yX5_sample cX5_sample 3 (some .long) { frames := 7, cells := 1, slots := 6, locals := 111 } [.ref h0, .int x0, .int x1] D [(h0, .inr (5, [v0, .ref h1, v1, v2, v3, v4, v5, v6, v7, v8])), (h1, .inr (0, [v9, v10, .int 2, v11, v12, v13, v14]))] [] XX [] xl "java/lang/IndexOutOfBoundsException" 1 6 := by
  refine CX.ofR (by decide +kernel) (Nat.le_of_ble_eq_true rfl) ?_
  intro p e s m below meth c A ls hcs hout hP hK hD hX hA hS hl
  obtain ⟨hx, hb, hr, hml, hown, hg, hlocks, hin⟩ := hcs
  have hown : s.vm.findClass RX5 = some m.cls := hown
  have hl : lv_has ls 3 [(0, .ref h0), (1, .int x0), (2, .int x1)] := hl
  refine lv_iload_n hx hb dX5_sample_0 rfl (lv_at hl 1 rfl) ?_
  refine lv_aload_n hx hb dX5_sample_1 rfl (lv_at hl 0 rfl) ?_
  refine va_get (D := D) (ci := 5) (v := .ref h1) (C := RX5) (T := TX5) (N := 10) hx hb hg inX5 hown hK hP 0 rfl rfl 1 (by decide) (hg _ k380) (fun _ h9 => h9) rfl dX5_sample_2 ?_
  refine va_get (D := D) (ci := 0) (v := .int 2) (C := RX0) (T := TX0) (N := 7) hx hb hg inX0 hown hK hP 1 rfl rfl 2 (by decide) (hg _ k163) (fun _ h9 => h9) rfl dX5_sample_5 ?_
  exact xSv (n := 2) (As := [.int x0, .int 2]) (rest := []) hx hb hml hown hg okXX (cX5_needIndex_339 l D hlt x0 d0) (mwS k610 k611 k84 k612) ⟨rfl, by decide, by decide, by decide +kernel⟩ ⟨rfl, rfl, (Nat.le_of_ble_eq_true rfl), (Nat.le_of_ble_eq_true rfl)⟩ hP hD hK hS (okXX.2.2 _ _ _ _ hS.2.1 hX) [] [] rfl (by decide) rfl (aNil hA hS) rfl hl.1 rfl (Nat.le_of_ble_eq_true rfl) dX5_sample_8 ⟨(Nat.le_of_ble_eq_true rfl), (Nat.le_of_ble_eq_true rfl)⟩ hout hlocks (Nat.le_of_ble_eq_true rfl) (Nat.le_of_ble_eq_true rfl)
set_option maxHeartbeats 4000000 in
set_option maxRecDepth 100000 in
theorem cX5_needIndex_341 (l : Launch) (D : va_G) (hlt : l.stackTraces = false) (x0 : Int32)  (d0 : ¬ (x0 < 0)) (d1 : ¬ (x0 < 2)) : CX l yX5_needIndex cX5_needIndex 2 none { frames := 6, cells := 1, slots := 6, locals := 90 } [.int x0, .int 2] D [] [] XX [] xv "java/lang/IndexOutOfBoundsException" 1 6 := by
  refine CX.ofR (by decide +kernel) (Nat.le_of_ble_eq_true rfl) ?_
  intro p e s m below meth c A ls hcs hout hP hK hD hX hA hS hl
  obtain ⟨hx, hb, hr, hml, hown, hg, hlocks, hin⟩ := hcs
  have hown : s.vm.findClass RX5 = some m.cls := hown
  have hl : lv_has ls 2 [(0, .int x0), (1, .int 2)] := hl
  refine lv_iload_n hx hb dX5_needIndex_0 rfl (lv_at hl 0 rfl) ?_
  refine lv_if_lt (tgt := 9) hx hb dX5_needIndex_1 (by decide) (fun c9 => absurd c9 d0) (fun _ => ?_)
  refine lv_iload_n hx hb dX5_needIndex_4 rfl (lv_at hl 0 rfl) ?_
  refine lv_iload_n hx hb dX5_needIndex_5 rfl (lv_at hl 1 rfl) ?_
  refine lv_icmp_lt (tgt := 20) hx hb dX5_needIndex_6 (by decide) (fun c9 => absurd c9 d1) (fun _ => ?_)
  obtain ⟨sa, hsa⟩ := XX_sRX5_319 hX
  exact thSW_IOOBE hx hb hlt hown (hg _ k613) (hg _ k96) hsa hg hX hS (hl.1.trans hml.symm) dX5_needIndex_9 dX5_needIndex_12 dX5_needIndex_13 dX5_needIndex_16 dX5_needIndex_19 hout (Nat.le_of_ble_eq_true rfl) (Nat.le_of_ble_eq_true rfl) (Nat.le_of_ble_eq_true rfl) (Nat.le_of_ble_eq_true rfl) hlocks (Nat.le_of_ble_eq_true rfl) (Nat.le_of_ble_eq_true rfl)
set_option maxHeartbeats 4000000 in
set_option maxRecDepth 100000 in
theorem cX5_sample_340 (l : Launch) (D : va_G) (hlt : l.stackTraces = false) (h0 : Nat) (x0 : Int32) (x1 : Int32) (h1 : Nat) (v0 : Value) (v1 : Value) (v2 : Value) (v3 : Value) (v4 : Value) (v5 : Value) (v6 : Value) (v7 : Value) (v8 : Value) (v9 : Value) (v10 : Value) (v11 : Value) (v12 : Value) (v13 : Value) (v14 : Value)  (d0 : ¬ (x0 < 0)) (d1 : ¬ (x0 < 2)) : CX l yX5_sample cX5_sample 3 (some .long) { frames := 7, cells := 1, slots := 6, locals := 111 } [.ref h0, .int x0, .int x1] D [(h0, .inr (5, [v0, .ref h1, v1, v2, v3, v4, v5, v6, v7, v8])), (h1, .inr (0, [v9, v10, .int 2, v11, v12, v13, v14]))] [] XX [] xl "java/lang/IndexOutOfBoundsException" 1 6 := by
  refine CX.ofR (by decide +kernel) (Nat.le_of_ble_eq_true rfl) ?_
  intro p e s m below meth c A ls hcs hout hP hK hD hX hA hS hl
  obtain ⟨hx, hb, hr, hml, hown, hg, hlocks, hin⟩ := hcs
  have hown : s.vm.findClass RX5 = some m.cls := hown
  have hl : lv_has ls 3 [(0, .ref h0), (1, .int x0), (2, .int x1)] := hl
  refine lv_iload_n hx hb dX5_sample_0 rfl (lv_at hl 1 rfl) ?_
  refine lv_aload_n hx hb dX5_sample_1 rfl (lv_at hl 0 rfl) ?_
  refine va_get (D := D) (ci := 5) (v := .ref h1) (C := RX5) (T := TX5) (N := 10) hx hb hg inX5 hown hK hP 0 rfl rfl 1 (by decide) (hg _ k380) (fun _ h9 => h9) rfl dX5_sample_2 ?_
  refine va_get (D := D) (ci := 0) (v := .int 2) (C := RX0) (T := TX0) (N := 7) hx hb hg inX0 hown hK hP 1 rfl rfl 2 (by decide) (hg _ k163) (fun _ h9 => h9) rfl dX5_sample_5 ?_
  exact xSv (n := 2) (As := [.int x0, .int 2]) (rest := []) hx hb hml hown hg okXX (cX5_needIndex_341 l D hlt x0 d0 d1) (mwS k610 k611 k84 k612) ⟨rfl, by decide, by decide, by decide +kernel⟩ ⟨rfl, rfl, (Nat.le_of_ble_eq_true rfl), (Nat.le_of_ble_eq_true rfl)⟩ hP hD hK hS (okXX.2.2 _ _ _ _ hS.2.1 hX) [] [] rfl (by decide) rfl (aNil hA hS) rfl hl.1 rfl (Nat.le_of_ble_eq_true rfl) dX5_sample_8 ⟨(Nat.le_of_ble_eq_true rfl), (Nat.le_of_ble_eq_true rfl)⟩ hout hlocks (Nat.le_of_ble_eq_true rfl) (Nat.le_of_ble_eq_true rfl)
set_option maxHeartbeats 4000000 in
set_option maxRecDepth 100000 in
theorem cX5_needIndex_343 (l : Launch) (D : va_G)    : CT l yX5_needIndex cX5_needIndex 2 none { frames := 0, cells := 0, slots := 0, locals := 0 } [.int 0, .int 2] D [] [] XN [] (ev (fun _ : Unit => True) (fun _ => []) (fun _ => []) D) 0 0 := by
  refine CT.ofR (by decide +kernel) (Nat.le_of_ble_eq_true rfl) ?_
  intro p e s m below meth c A ls hcs hP hK hD hX hA hS hl
  obtain ⟨hx, hb, hr, hml, hown, hg, hlocks, hin⟩ := hcs
  have hown : s.vm.findClass RX5 = some m.cls := hown
  have hl : lv_has ls 2 [(0, .int 0), (1, .int 2)] := hl
  refine lv_iload_n hx hb dX5_needIndex_0 rfl (lv_at hl 0 rfl) ?_
  refine lv_if_lt (tgt := 9) hx hb dX5_needIndex_1 (by decide) (fun c9 => absurd c9 (by decide)) (fun _ => ?_)
  refine lv_iload_n hx hb dX5_needIndex_4 rfl (lv_at hl 0 rfl) ?_
  refine lv_iload_n hx hb dX5_needIndex_5 rfl (lv_at hl 1 rfl) ?_
  refine lv_icmp_lt (tgt := 20) hx hb dX5_needIndex_6 (by decide) (fun _ => ?_) (fun c9 => absurd (by decide) c9)
  exact fv0 hx hb hr hlocks hK hS (Nat.le_of_ble_eq_true rfl) (Nat.le_of_ble_eq_true rfl) dX5_needIndex_20
set_option maxHeartbeats 4000000 in
set_option maxRecDepth 100000 in
theorem cX5_sample_342 (l : Launch) (D : va_G) (hlt : l.stackTraces = false) (h0 : Nat) (x0 : Int32) (h1 : Nat) (v0 : Value) (v1 : Value) (v2 : Value) (v3 : Value) (v4 : Value) (v5 : Value) (v6 : Value) (v7 : Value) (v8 : Value) (v9 : Value) (v10 : Value) (v11 : Value) (v12 : Value) (v13 : Value) (v14 : Value)  (d0 : x0.toInt < 0 ∨ 5 < x0.toInt) : CX l yX5_sample cX5_sample 3 (some .long) { frames := 6, cells := 1, slots := 6, locals := 90 } [.ref h0, .int 0, .int x0] D [(h0, .inr (5, [v0, .ref h1, v1, v2, v3, v4, v5, v6, v7, v8])), (h1, .inr (0, [v9, v10, .int 2, v11, v12, v13, v14]))] [] XX [] xl "java/lang/IllegalArgumentException" 1 6 := by
  refine CX.ofR (by decide +kernel) (Nat.le_of_ble_eq_true rfl) ?_
  intro p e s m below meth c A ls hcs hout hP hK hD hX hA hS hl
  obtain ⟨hx, hb, hr, hml, hown, hg, hlocks, hin⟩ := hcs
  have hown : s.vm.findClass RX5 = some m.cls := hown
  have hl : lv_has ls 3 [(0, .ref h0), (1, .int 0), (2, .int x0)] := hl
  refine lv_iload_n hx hb dX5_sample_0 rfl (lv_at hl 1 rfl) ?_
  refine lv_aload_n hx hb dX5_sample_1 rfl (lv_at hl 0 rfl) ?_
  refine va_get (D := D) (ci := 5) (v := .ref h1) (C := RX5) (T := TX5) (N := 10) hx hb hg inX5 hown hK hP 0 rfl rfl 1 (by decide) (hg _ k380) (fun _ h9 => h9) rfl dX5_sample_2 ?_
  refine va_get (D := D) (ci := 0) (v := .int 2) (C := RX0) (T := TX0) (N := 7) hx hb hg inX0 hown hK hP 1 rfl rfl 2 (by decide) (hg _ k163) (fun _ h9 => h9) rfl dX5_sample_5 ?_
  refine cSv (n := 2) (As := [.int 0, .int 2]) (rest := []) (wr := [(h0, .inr (5, [v0, .ref h1, v1, v2, v3, v4, v5, v6, v7, v8])), (h1, .inr (0, [v9, v10, .int 2, v11, v12, v13, v14]))]) (tr := []) hx hb hml hown hg okN (cX5_needIndex_343 l D) (mwS k610 k611 k84 k612) ⟨rfl, by decide, by decide, by decide +kernel⟩ ⟨rfl, rfl, (Nat.le_of_ble_eq_true rfl), (Nat.le_of_ble_eq_true rfl)⟩ hP hD hK hS xn [] [] [0, 1] [] [] rfl (by decide) rfl rfl (by decide) (by decide) rfl rfl (aNil hA hS) (fun _ _ => trivial) rfl hl.1 rfl (Nat.le_of_ble_eq_true rfl) dX5_sample_8 ⟨(Nat.le_of_ble_eq_true rfl), (Nat.le_of_ble_eq_true rfl)⟩ (fun u H locs hφ hP hD hK hS hk => ?_)
  have hP : va_P D vwCl [(h0, .inr (5, [v0, .ref h1, v1, v2, v3, v4, v5, v6, v7, v8])), (h1, .inr (0, [v9, v10, .int 2, v11, v12, v13, v14]))] H := hP
  have hD : va_D (fun _ => True) [(h0, .inr (5, [v0, .ref h1, v1, v2, v3, v4, v5, v6, v7, v8])), (h1, .inr (0, [v9, v10, .int 2, v11, v12, v13, v14]))] := hD
  have hK : va_K D vwCl [] s := hK
  refine W.widen (k := 0) (n := 0) (Nat.le_of_ble_eq_true rfl) (Nat.le_of_ble_eq_true rfl) ?_
  refine lv_iload_n hx hb dX5_sample_11 rfl (lv_at hl 2 rfl) ?_
  refine lv_tableOut (tgt := 142) hx hb dX5_sample_12 d0 (by decide) ?_
  obtain ⟨sa, hsa⟩ := XX_sRX5_130 hX
  exact thS_IAE hx hb hlt hown (hg _ k813) (hg _ k101) hsa hg hX hS (hl.1.trans hml.symm) dX5_sample_142 dX5_sample_145 dX5_sample_146 dX5_sample_148 dX5_sample_151 hout (Nat.le_of_ble_eq_true rfl) (Nat.le_of_ble_eq_true rfl) (Nat.le_of_ble_eq_true rfl) (Nat.le_of_ble_eq_true rfl) hlocks (Nat.le_of_ble_eq_true rfl) (Nat.le_of_ble_eq_true rfl)
set_option maxHeartbeats 4000000 in
set_option maxRecDepth 100000 in
theorem cX5_sample_344 (l : Launch) (D : va_G) (h0 : Nat) (h1 : Nat) (h2 : Nat) (v0 : Value) (v1 : Value) (v2 : Value) (v3 : Value) (v4 : Value) (v5 : Value) (v6 : Value) (v7 : Value) (v8 : Value) (v9 : Value) (v10 : Value) (v11 : Value) (v12 : Value) (v13 : Value) (f0 : Nat → Int32) (a0 : ClassId) (ef0_0 : f0 0 = 0)  : CT l yX5_sample cX5_sample 3 (some .long) { frames := 1, cells := 0, slots := 0, locals := 21 } [.ref h0, .int 0, .int 0] D [(h0, .inr (5, [v0, .ref h1, v1, v2, v3, v4, v5, v6, v7, v8])), (h1, .inr (0, [.ref h2, v9, .int 2, v10, v11, v12, v13])), (h2, .inl (a0, 48, .inl f0))] [(a0, .int)] XN [] (el (fun _ : Unit => True) (fun _ => 0) (fun _ => []) (fun _ => []) D) 0 0 := by
  refine CT.ofR (by decide +kernel) (Nat.le_of_ble_eq_true rfl) ?_
  intro p e s m below meth c A ls hcs hP hK hD hX hA hS hl
  obtain ⟨hx, hb, hr, hml, hown, hg, hlocks, hin⟩ := hcs
  have hown : s.vm.findClass RX5 = some m.cls := hown
  have hl : lv_has ls 3 [(0, .ref h0), (1, .int 0), (2, .int 0)] := hl
  refine lv_iload_n hx hb dX5_sample_0 rfl (lv_at hl 1 rfl) ?_
  refine lv_aload_n hx hb dX5_sample_1 rfl (lv_at hl 0 rfl) ?_
  refine va_get (D := D) (ci := 5) (v := .ref h1) (C := RX5) (T := TX5) (N := 10) hx hb hg inX5 hown hK hP 0 rfl rfl 1 (by decide) (hg _ k380) (fun _ h9 => h9) rfl dX5_sample_2 ?_
  refine va_get (D := D) (ci := 0) (v := .int 2) (C := RX0) (T := TX0) (N := 7) hx hb hg inX0 hown hK hP 1 rfl rfl 2 (by decide) (hg _ k163) (fun _ h9 => h9) rfl dX5_sample_5 ?_
  refine cSv (n := 2) (As := [.int 0, .int 2]) (rest := []) (wr := [(h0, .inr (5, [v0, .ref h1, v1, v2, v3, v4, v5, v6, v7, v8])), (h1, .inr (0, [.ref h2, v9, .int 2, v10, v11, v12, v13])), (h2, .inl (a0, 48, .inl f0))]) (tr := [(a0, .int)]) hx hb hml hown hg okN (cX5_needIndex_343 l D) (mwS k610 k611 k84 k612) ⟨rfl, by decide, by decide, by decide +kernel⟩ ⟨rfl, rfl, (Nat.le_of_ble_eq_true rfl), (Nat.le_of_ble_eq_true rfl)⟩ hP hD hK hS xn [] [] [0, 1, 2] [] [0] rfl (by decide) rfl rfl (by decide) (by decide) rfl rfl (aNil hA hS) (fun _ _ => trivial) rfl hl.1 rfl (Nat.le_of_ble_eq_true rfl) dX5_sample_8 ⟨(Nat.le_of_ble_eq_true rfl), (Nat.le_of_ble_eq_true rfl)⟩ (fun u H locs hφ hP hD hK hS hk => ?_)
  have hP : va_P D vwCl [(h0, .inr (5, [v0, .ref h1, v1, v2, v3, v4, v5, v6, v7, v8])), (h1, .inr (0, [.ref h2, v9, .int 2, v10, v11, v12, v13])), (h2, .inl (a0, 48, .inl f0))] H := hP
  have hD : va_D (fun _ => True) [(h0, .inr (5, [v0, .ref h1, v1, v2, v3, v4, v5, v6, v7, v8])), (h1, .inr (0, [.ref h2, v9, .int 2, v10, v11, v12, v13])), (h2, .inl (a0, 48, .inl f0))] := hD
  have hK : va_K D vwCl [(a0, .int)] s := hK
  refine W.widen (k := 0) (n := 0) (Nat.le_of_ble_eq_true rfl) (Nat.le_of_ble_eq_true rfl) ?_
  refine lv_iload_n hx hb dX5_sample_11 rfl (lv_at hl 2 rfl) ?_
  refine lv_tableIn (off := 40) (tgt := 52) hx hb dX5_sample_12 (by decide) (by decide) (by decide) (by decide) ?_
  refine lv_aload_n hx hb dX5_sample_52 rfl (lv_at hl 0 rfl) ?_
  refine va_get (D := D) (ci := 5) (v := .ref h1) (C := RX5) (T := TX5) (N := 10) hx hb hg inX5 hown hK hP 0 rfl rfl 1 (by decide) (hg _ k380) (fun _ h9 => h9) rfl dX5_sample_53 ?_
  refine va_get (D := D) (ci := 0) (v := .ref h2) (C := RX0) (T := TX0) (N := 7) hx hb hg inX0 hown hK hP 1 rfl rfl 0 (by decide) (hg _ k155) (fun _ h9 => h9) rfl dX5_sample_56 ?_
  refine lv_iload_n hx hb dX5_sample_59 rfl (lv_at hl 1 rfl) ?_
  refine aldI hx hb hK hP 2 0 rfl rfl 0 (by decide) (vin (by decide)) (v := 0) ef0_0 dX5_sample_60 ?_
  refine lv_i2l (v := 0) hx hb dX5_sample_61 (by decide) ?_
  exact fl0 hx hb hr hlocks hK hS (Nat.le_of_ble_eq_true rfl) (Nat.le_of_ble_eq_true rfl) dX5_sample_62
set_option maxHeartbeats 4000000 in
set_option maxRecDepth 100000 in
theorem cX5_sample_345 (l : Launch) (D : va_G) (h0 : Nat) (h1 : Nat) (h2 : Nat) (v0 : Value) (v1 : Value) (v2 : Value) (v3 : Value) (v4 : Value) (v5 : Value) (v6 : Value) (v7 : Value) (v8 : Value) (v9 : Value) (v10 : Value) (v11 : Value) (v12 : Value) (v13 : Value) (f0 : Nat → Int32) (a0 : ClassId) (ef0_0 : f0 0 = 0)  : CT l yX5_sample cX5_sample 3 (some .long) { frames := 1, cells := 0, slots := 0, locals := 21 } [.ref h0, .int 0, .int 1] D [(h0, .inr (5, [v0, .ref h1, v1, v2, v3, v4, v5, v6, v7, v8])), (h1, .inr (0, [v9, .ref h2, .int 2, v10, v11, v12, v13])), (h2, .inl (a0, 48, .inl f0))] [(a0, .int)] XN [] (el (fun _ : Unit => True) (fun _ => 0) (fun _ => []) (fun _ => []) D) 0 0 := by
  refine CT.ofR (by decide +kernel) (Nat.le_of_ble_eq_true rfl) ?_
  intro p e s m below meth c A ls hcs hP hK hD hX hA hS hl
  obtain ⟨hx, hb, hr, hml, hown, hg, hlocks, hin⟩ := hcs
  have hown : s.vm.findClass RX5 = some m.cls := hown
  have hl : lv_has ls 3 [(0, .ref h0), (1, .int 0), (2, .int 1)] := hl
  refine lv_iload_n hx hb dX5_sample_0 rfl (lv_at hl 1 rfl) ?_
  refine lv_aload_n hx hb dX5_sample_1 rfl (lv_at hl 0 rfl) ?_
  refine va_get (D := D) (ci := 5) (v := .ref h1) (C := RX5) (T := TX5) (N := 10) hx hb hg inX5 hown hK hP 0 rfl rfl 1 (by decide) (hg _ k380) (fun _ h9 => h9) rfl dX5_sample_2 ?_
  refine va_get (D := D) (ci := 0) (v := .int 2) (C := RX0) (T := TX0) (N := 7) hx hb hg inX0 hown hK hP 1 rfl rfl 2 (by decide) (hg _ k163) (fun _ h9 => h9) rfl dX5_sample_5 ?_
  refine cSv (n := 2) (As := [.int 0, .int 2]) (rest := []) (wr := [(h0, .inr (5, [v0, .ref h1, v1, v2, v3, v4, v5, v6, v7, v8])), (h1, .inr (0, [v9, .ref h2, .int 2, v10, v11, v12, v13])), (h2, .inl (a0, 48, .inl f0))]) (tr := [(a0, .int)]) hx hb hml hown hg okN (cX5_needIndex_343 l D) (mwS k610 k611 k84 k612) ⟨rfl, by decide, by decide, by decide +kernel⟩ ⟨rfl, rfl, (Nat.le_of_ble_eq_true rfl), (Nat.le_of_ble_eq_true rfl)⟩ hP hD hK hS xn [] [] [0, 1, 2] [] [0] rfl (by decide) rfl rfl (by decide) (by decide) rfl rfl (aNil hA hS) (fun _ _ => trivial) rfl hl.1 rfl (Nat.le_of_ble_eq_true rfl) dX5_sample_8 ⟨(Nat.le_of_ble_eq_true rfl), (Nat.le_of_ble_eq_true rfl)⟩ (fun u H locs hφ hP hD hK hS hk => ?_)
  have hP : va_P D vwCl [(h0, .inr (5, [v0, .ref h1, v1, v2, v3, v4, v5, v6, v7, v8])), (h1, .inr (0, [v9, .ref h2, .int 2, v10, v11, v12, v13])), (h2, .inl (a0, 48, .inl f0))] H := hP
  have hD : va_D (fun _ => True) [(h0, .inr (5, [v0, .ref h1, v1, v2, v3, v4, v5, v6, v7, v8])), (h1, .inr (0, [v9, .ref h2, .int 2, v10, v11, v12, v13])), (h2, .inl (a0, 48, .inl f0))] := hD
  have hK : va_K D vwCl [(a0, .int)] s := hK
  refine W.widen (k := 0) (n := 0) (Nat.le_of_ble_eq_true rfl) (Nat.le_of_ble_eq_true rfl) ?_
  refine lv_iload_n hx hb dX5_sample_11 rfl (lv_at hl 2 rfl) ?_
  refine lv_tableIn (off := 51) (tgt := 63) hx hb dX5_sample_12 (by decide) (by decide) (by decide) (by decide) ?_
  refine lv_aload_n hx hb dX5_sample_63 rfl (lv_at hl 0 rfl) ?_
  refine va_get (D := D) (ci := 5) (v := .ref h1) (C := RX5) (T := TX5) (N := 10) hx hb hg inX5 hown hK hP 0 rfl rfl 1 (by decide) (hg _ k380) (fun _ h9 => h9) rfl dX5_sample_64 ?_
  refine va_get (D := D) (ci := 0) (v := .ref h2) (C := RX0) (T := TX0) (N := 7) hx hb hg inX0 hown hK hP 1 rfl rfl 1 (by decide) (hg _ k160) (fun _ h9 => h9) rfl dX5_sample_67 ?_
  refine lv_iload_n hx hb dX5_sample_70 rfl (lv_at hl 1 rfl) ?_
  refine aldI hx hb hK hP 2 0 rfl rfl 0 (by decide) (vin (by decide)) (v := 0) ef0_0 dX5_sample_71 ?_
  refine lv_i2l (v := 0) hx hb dX5_sample_72 (by decide) ?_
  exact fl0 hx hb hr hlocks hK hS (Nat.le_of_ble_eq_true rfl) (Nat.le_of_ble_eq_true rfl) dX5_sample_73
set_option maxHeartbeats 4000000 in
set_option maxRecDepth 100000 in
theorem cX5_sample_346 (l : Launch) (D : va_G) (h0 : Nat) (h1 : Nat) (h2 : Nat) (h3 : Nat) (v0 : Value) (v1 : Value) (v2 : Value) (v3 : Value) (v4 : Value) (v5 : Value) (v6 : Value) (v7 : Value) (v8 : Value) (v9 : Value) (v10 : Value) (v11 : Value) (v12 : Value) (v13 : Value) (v14 : Value) (v15 : Value) (v16 : Value) (v17 : Value) (v18 : Value) (v19 : Value) (v20 : Value) (v21 : Value) (v22 : Value) (v23 : Value) (v24 : Value) (v25 : Value) (f0 : Nat → Int32) (a0 : ClassId) (ef0_0 : f0 0 = (-1))  : CT l yX5_sample cX5_sample 3 (some .long) { frames := 1, cells := 0, slots := 0, locals := 21 } [.ref h0, .int 0, .int 2] D [(h0, .inr (5, [v0, .ref h1, v1, .ref h2, v2, v3, v4, v5, v6, v7])), (h1, .inr (0, [v8, v9, .int 2, v10, v11, v12, v13])), (h2, .inr (1, [v14, v15, v16, .ref h3, v17, v18, v19, v20, v21, v22, v23, v24, v25])), (h3, .inl (a0, 48, .inl f0))] [(a0, .int)] XN [] (el (fun _ : Unit => True) (fun _ => 1) (fun _ => []) (fun _ => []) D) 0 0 := by
  refine CT.ofR (by decide +kernel) (Nat.le_of_ble_eq_true rfl) ?_
  intro p e s m below meth c A ls hcs hP hK hD hX hA hS hl
  obtain ⟨hx, hb, hr, hml, hown, hg, hlocks, hin⟩ := hcs
  have hown : s.vm.findClass RX5 = some m.cls := hown
  have hl : lv_has ls 3 [(0, .ref h0), (1, .int 0), (2, .int 2)] := hl
  refine lv_iload_n hx hb dX5_sample_0 rfl (lv_at hl 1 rfl) ?_
  refine lv_aload_n hx hb dX5_sample_1 rfl (lv_at hl 0 rfl) ?_
  refine va_get (D := D) (ci := 5) (v := .ref h1) (C := RX5) (T := TX5) (N := 10) hx hb hg inX5 hown hK hP 0 rfl rfl 1 (by decide) (hg _ k380) (fun _ h9 => h9) rfl dX5_sample_2 ?_
  refine va_get (D := D) (ci := 0) (v := .int 2) (C := RX0) (T := TX0) (N := 7) hx hb hg inX0 hown hK hP 1 rfl rfl 2 (by decide) (hg _ k163) (fun _ h9 => h9) rfl dX5_sample_5 ?_
  refine cSv (n := 2) (As := [.int 0, .int 2]) (rest := []) (wr := [(h0, .inr (5, [v0, .ref h1, v1, .ref h2, v2, v3, v4, v5, v6, v7])), (h1, .inr (0, [v8, v9, .int 2, v10, v11, v12, v13])), (h2, .inr (1, [v14, v15, v16, .ref h3, v17, v18, v19, v20, v21, v22, v23, v24, v25])), (h3, .inl (a0, 48, .inl f0))]) (tr := [(a0, .int)]) hx hb hml hown hg okN (cX5_needIndex_343 l D) (mwS k610 k611 k84 k612) ⟨rfl, by decide, by decide, by decide +kernel⟩ ⟨rfl, rfl, (Nat.le_of_ble_eq_true rfl), (Nat.le_of_ble_eq_true rfl)⟩ hP hD hK hS xn [] [] [0, 1, 2, 3] [] [0] rfl (by decide) rfl rfl (by decide) (by decide) rfl rfl (aNil hA hS) (fun _ _ => trivial) rfl hl.1 rfl (Nat.le_of_ble_eq_true rfl) dX5_sample_8 ⟨(Nat.le_of_ble_eq_true rfl), (Nat.le_of_ble_eq_true rfl)⟩ (fun u H locs hφ hP hD hK hS hk => ?_)
  have hP : va_P D vwCl [(h0, .inr (5, [v0, .ref h1, v1, .ref h2, v2, v3, v4, v5, v6, v7])), (h1, .inr (0, [v8, v9, .int 2, v10, v11, v12, v13])), (h2, .inr (1, [v14, v15, v16, .ref h3, v17, v18, v19, v20, v21, v22, v23, v24, v25])), (h3, .inl (a0, 48, .inl f0))] H := hP
  have hD : va_D (fun _ => True) [(h0, .inr (5, [v0, .ref h1, v1, .ref h2, v2, v3, v4, v5, v6, v7])), (h1, .inr (0, [v8, v9, .int 2, v10, v11, v12, v13])), (h2, .inr (1, [v14, v15, v16, .ref h3, v17, v18, v19, v20, v21, v22, v23, v24, v25])), (h3, .inl (a0, 48, .inl f0))] := hD
  have hK : va_K D vwCl [(a0, .int)] s := hK
  refine W.widen (k := 0) (n := 0) (Nat.le_of_ble_eq_true rfl) (Nat.le_of_ble_eq_true rfl) ?_
  refine lv_iload_n hx hb dX5_sample_11 rfl (lv_at hl 2 rfl) ?_
  refine lv_tableIn (off := 62) (tgt := 74) hx hb dX5_sample_12 (by decide) (by decide) (by decide) (by decide) ?_
  refine lv_aload_n hx hb dX5_sample_74 rfl (lv_at hl 0 rfl) ?_
  refine va_get (D := D) (ci := 5) (v := .ref h2) (C := RX5) (T := TX5) (N := 10) hx hb hg inX5 hown hK hP 0 rfl rfl 3 (by decide) (hg _ k382) (fun _ h9 => h9) rfl dX5_sample_75 ?_
  refine lv_iload_n hx hb dX5_sample_78 rfl (lv_at hl 1 rfl) ?_
  refine cVi (n := 1) (As := [.int 0]) (rest := []) (wr := [(h0, .inr (5, [v0, .ref h1, v1, .ref h2, v2, v3, v4, v5, v6, v7])), (h1, .inr (0, [v8, v9, .int 2, v10, v11, v12, v13])), (h2, .inr (1, [v14, v15, v16, .ref h3, v17, v18, v19, v20, v21, v22, v23, v24, v25])), (h3, .inl (a0, 48, .inl f0))]) (tr := [(a0, .int)]) hx hb hml hown hg okN (cX1_isPresent_336 l D h2 h3 v14 v15 v16 v17 v18 v19 v20 v21 v22 v23 v24 v25 f0 a0 ef0_0) (mwV k861 k460 k461 k87 k462) ⟨rfl, by decide, by decide, by decide +kernel⟩ ⟨rfl, rfl, (Nat.le_of_ble_eq_true rfl), (Nat.le_of_ble_eq_true rfl)⟩ hP hD hK hS xn [2, 3] [] [0, 1, 2, 3] [0] [0] rfl (by decide) rfl rfl (by decide) (by decide) rfl rfl (aNil hA hS) (fun _ _ => trivial) 2 rfl rfl rfl hl.1 rfl (Nat.le_of_ble_eq_true rfl) dX5_sample_79 ⟨(Nat.le_of_ble_eq_true rfl), (Nat.le_of_ble_eq_true rfl)⟩ (fun u H locs hφ hP hD hK hS hk => ?_)
  have hP : va_P D vwCl [(h0, .inr (5, [v0, .ref h1, v1, .ref h2, v2, v3, v4, v5, v6, v7])), (h1, .inr (0, [v8, v9, .int 2, v10, v11, v12, v13])), (h2, .inr (1, [v14, v15, v16, .ref h3, v17, v18, v19, v20, v21, v22, v23, v24, v25])), (h3, .inl (a0, 48, .inl f0))] H := hP
  have hD : va_D (fun _ => True) [(h0, .inr (5, [v0, .ref h1, v1, .ref h2, v2, v3, v4, v5, v6, v7])), (h1, .inr (0, [v8, v9, .int 2, v10, v11, v12, v13])), (h2, .inr (1, [v14, v15, v16, .ref h3, v17, v18, v19, v20, v21, v22, v23, v24, v25])), (h3, .inl (a0, 48, .inl f0))] := hD
  have hK : va_K D vwCl [(a0, .int)] s := hK
  refine W.widen (k := 0) (n := 0) (Nat.le_of_ble_eq_true rfl) (Nat.le_of_ble_eq_true rfl) ?_
  refine lv_if_eq (tgt := 89) hx hb dX5_sample_82 (by decide) (fun c9 => absurd c9 (by decide)) (fun _ => ?_)
  refine lv_lconst (v := 1) hx hb dX5_sample_85 (by decide) ?_
  refine lv_goto (tgt := 90) hx hb dX5_sample_86 (by decide) ?_
  exact fl0 hx hb hr hlocks hK hS (Nat.le_of_ble_eq_true rfl) (Nat.le_of_ble_eq_true rfl) dX5_sample_90
set_option maxHeartbeats 4000000 in
set_option maxRecDepth 100000 in
theorem cX4_limbAt_350 (l : Launch) (D : va_G) (h0 : Nat) (v0 : Value) (v1 : Value)   : CT l yX4_limbAt cX4_limbAt 2 (some .long) { frames := 0, cells := 0, slots := 0, locals := 0 } [.ref h0, .int 1] D [(h0, .inr (4, [v0, .int 0, v1]))] [] XN [] (el (fun _ : Unit => True) (fun _ => 0) (fun _ => []) (fun _ => []) D) 0 0 := by
  refine CT.ofR (by decide +kernel) (Nat.le_of_ble_eq_true rfl) ?_
  intro p e s m below meth c A ls hcs hP hK hD hX hA hS hl
  obtain ⟨hx, hb, hr, hml, hown, hg, hlocks, hin⟩ := hcs
  have hown : s.vm.findClass RX4 = some m.cls := hown
  have hl : lv_has ls 2 [(0, .ref h0), (1, .int 1)] := hl
  refine lv_iload_n hx hb dX4_limbAt_0 rfl (lv_at hl 1 rfl) ?_
  refine lv_aload_n hx hb dX4_limbAt_1 rfl (lv_at hl 0 rfl) ?_
  refine va_get (D := D) (ci := 4) (v := .int 0) (C := RX4) (T := TX4) (N := 3) hx hb hg inX4 hown hK hP 0 rfl rfl 1 (by decide) (hg _ k210) (fun _ h9 => h9) rfl dX4_limbAt_2 ?_
  refine lv_icmp_ge (tgt := 22) hx hb dX4_limbAt_5 (by decide) (fun _ => ?_) (fun c9 => absurd (by decide) c9)
  refine lv_lconst (v := 0) hx hb dX4_limbAt_22 (by decide) ?_
  exact fl0 hx hb hr hlocks hK hS (Nat.le_of_ble_eq_true rfl) (Nat.le_of_ble_eq_true rfl) dX4_limbAt_23
set_option maxHeartbeats 4000000 in
set_option maxRecDepth 100000 in
theorem cX4_limbAt_351 (l : Launch) (D : va_G) (h0 : Nat) (v0 : Value) (v1 : Value)   : CT l yX4_limbAt cX4_limbAt 2 (some .long) { frames := 0, cells := 0, slots := 0, locals := 0 } [.ref h0, .int 0] D [(h0, .inr (4, [v0, .int 0, v1]))] [] XN [] (el (fun _ : Unit => True) (fun _ => 0) (fun _ => []) (fun _ => []) D) 0 0 := by
  refine CT.ofR (by decide +kernel) (Nat.le_of_ble_eq_true rfl) ?_
  intro p e s m below meth c A ls hcs hP hK hD hX hA hS hl
  obtain ⟨hx, hb, hr, hml, hown, hg, hlocks, hin⟩ := hcs
  have hown : s.vm.findClass RX4 = some m.cls := hown
  have hl : lv_has ls 2 [(0, .ref h0), (1, .int 0)] := hl
  refine lv_iload_n hx hb dX4_limbAt_0 rfl (lv_at hl 1 rfl) ?_
  refine lv_aload_n hx hb dX4_limbAt_1 rfl (lv_at hl 0 rfl) ?_
  refine va_get (D := D) (ci := 4) (v := .int 0) (C := RX4) (T := TX4) (N := 3) hx hb hg inX4 hown hK hP 0 rfl rfl 1 (by decide) (hg _ k210) (fun _ h9 => h9) rfl dX4_limbAt_2 ?_
  refine lv_icmp_ge (tgt := 22) hx hb dX4_limbAt_5 (by decide) (fun _ => ?_) (fun c9 => absurd (by decide) c9)
  refine lv_lconst (v := 0) hx hb dX4_limbAt_22 (by decide) ?_
  exact fl0 hx hb hr hlocks hK hS (Nat.le_of_ble_eq_true rfl) (Nat.le_of_ble_eq_true rfl) dX4_limbAt_23
set_option maxHeartbeats 4000000 in
set_option maxRecDepth 100000 in
theorem cX4_amountFrom_349 (l : Launch) (D : va_G) (h0 : Nat) (v0 : Value) (v1 : Value)   : CT l yX4_amountFrom cX4_amountFrom 6 (some .long) { frames := 1, cells := 0, slots := 0, locals := 21 } [.ref h0, .int 0] D [(h0, .inr (4, [v0, .int 0, v1]))] [] XN [] (el (fun _ : Unit => True) (fun _ => 0) (fun _ => []) (fun _ => []) D) 0 0 := by
  refine CT.ofR (by decide +kernel) (Nat.le_of_ble_eq_true rfl) ?_
  intro p e s m below meth c A ls hcs hP hK hD hX hA hS hl
  obtain ⟨hx, hb, hr, hml, hown, hg, hlocks, hin⟩ := hcs
  have hown : s.vm.findClass RX4 = some m.cls := hown
  have hl : lv_has ls 6 [(0, .ref h0), (1, .int 0)] := hl
  refine lv_iload_n hx hb dX4_amountFrom_0 rfl (lv_at hl 1 rfl) ?_
  refine lv_bipush (v := 32) hx hb dX4_amountFrom_1 (by decide) ?_
  refine lv_idiv hx hb dX4_amountFrom_3 (by decide) ?_
  refine ti (0) (by decide) ?_
  refine lv_istore_n (lv' := [(2, .int 0), (0, .ref h0), (1, .int 0)]) hx hb dX4_amountFrom_4 rfl hl (by decide) rfl (fun ls hl => ?_)
  refine lv_iload_n hx hb dX4_amountFrom_5 rfl (lv_at hl 2 rfl) ?_
  refine lv_bipush (v := 32) hx hb dX4_amountFrom_6 (by decide) ?_
  refine lv_irem hx hb dX4_amountFrom_8 (by decide) ?_
  refine ti (0) (by decide) ?_
  refine lv_istore_n (lv' := [(3, .int 0), (2, .int 0), (0, .ref h0), (1, .int 0)]) hx hb dX4_amountFrom_9 rfl hl (by decide) rfl (fun ls hl => ?_)
  refine lv_aload_n hx hb dX4_amountFrom_10 rfl (lv_at hl 2 rfl) ?_
  refine lv_iload_n hx hb dX4_amountFrom_11 rfl (lv_at hl 1 rfl) ?_
  refine lv_iconst (v := 1) hx hb dX4_amountFrom_12 (by decide) ?_
  refine lv_iadd hx hb dX4_amountFrom_13 ?_
  refine ti (1) (by decide) ?_
  refine cVl (n := 1) (As := [.int 1]) (rest := []) (wr := [(h0, .inr (4, [v0, .int 0, v1]))]) (tr := []) hx hb hml hown hg okN (cX4_limbAt_350 l D h0 v0 v1) (mwV k443 k445 k6 k88 k446) ⟨rfl, by decide, by decide, by decide +kernel⟩ ⟨rfl, rfl, (Nat.le_of_ble_eq_true rfl), (Nat.le_of_ble_eq_true rfl)⟩ hP hD hK hS xn [0] [] [0] [] [] rfl (by decide) rfl rfl (by decide) (by decide) rfl rfl (aNil hA hS) (fun _ _ => trivial) 0 rfl rfl rfl hl.1 rfl (Nat.le_of_ble_eq_true rfl) dX4_amountFrom_14 ⟨(Nat.le_of_ble_eq_true rfl), (Nat.le_of_ble_eq_true rfl)⟩ (fun u H locs hφ hP hD hK hS hk => ?_)
  have hP : va_P D vwCl [(h0, .inr (4, [v0, .int 0, v1]))] H := hP
  have hD : va_D (fun _ => True) [(h0, .inr (4, [v0, .int 0, v1]))] := hD
  have hK : va_K D vwCl [] s := hK
  refine W.widen (k := 0) (n := 0) (Nat.le_of_ble_eq_true rfl) (Nat.le_of_ble_eq_true rfl) ?_
  refine lv_bipush (v := 32) hx hb dX4_amountFrom_17 (by decide) ?_
  refine lv_lshl (v := 0) hx hb dX4_amountFrom_19 (by decide) ?_
  refine lv_aload_n hx hb dX4_amountFrom_20 rfl (lv_at hl 2 rfl) ?_
  refine lv_iload_n hx hb dX4_amountFrom_21 rfl (lv_at hl 1 rfl) ?_
  refine cVl (n := 1) (As := [.int 0]) (rest := [.long 0]) (wr := [(h0, .inr (4, [v0, .int 0, v1]))]) (tr := []) hx hb hml hown hg okN (cX4_limbAt_351 l D h0 v0 v1) (mwV k443 k445 k6 k88 k446) ⟨rfl, by decide, by decide, by decide +kernel⟩ ⟨rfl, rfl, (Nat.le_of_ble_eq_true rfl), (Nat.le_of_ble_eq_true rfl)⟩ hP hD hK hS xn [0] [] [0] [] [] rfl (by decide) rfl rfl (by decide) (by decide) rfl rfl (aNil hA hS) (fun _ _ => trivial) 0 rfl rfl rfl hl.1 rfl (Nat.le_of_ble_eq_true rfl) dX4_amountFrom_22 ⟨(Nat.le_of_ble_eq_true rfl), (Nat.le_of_ble_eq_true rfl)⟩ (fun u H locs hφ hP hD hK hS hk => ?_)
  have hP : va_P D vwCl [(h0, .inr (4, [v0, .int 0, v1]))] H := hP
  have hD : va_D (fun _ => True) [(h0, .inr (4, [v0, .int 0, v1]))] := hD
  have hK : va_K D vwCl [] s := hK
  refine W.widen (k := 0) (n := 0) (Nat.le_of_ble_eq_true rfl) (Nat.le_of_ble_eq_true rfl) ?_
  refine lv_lor hx hb dX4_amountFrom_25 ?_
  refine tl (0) (by decide) ?_
  refine lv_lstore (lv' := [(4, .long 0), (3, .int 0), (2, .int 0), (0, .ref h0), (1, .int 0)]) hx hb dX4_amountFrom_26 hl (by decide) rfl (fun ls hl => ?_)
  refine lv_iload_n hx hb dX4_amountFrom_28 rfl (lv_at hl 1 rfl) ?_
  refine lv_if_ne (tgt := 37) hx hb dX4_amountFrom_29 (by decide) (fun c9 => absurd (by decide) c9) (fun _ => ?_)
  refine lv_lload hx hb dX4_amountFrom_32 (lv_at hl 0 rfl) ?_
  refine lv_goto (tgt := 54) hx hb dX4_amountFrom_34 (by decide) ?_
  exact fl0 hx hb hr hlocks hK hS (Nat.le_of_ble_eq_true rfl) (Nat.le_of_ble_eq_true rfl) dX4_amountFrom_54
set_option maxHeartbeats 4000000 in
set_option maxRecDepth 100000 in
theorem cX4_toLong_348 (l : Launch) (D : va_G) (h0 : Nat) (v0 : Value)   : CT l yX4_toLong cX4_toLong 1 (some .long) { frames := 2, cells := 0, slots := 0, locals := 46 } [.ref h0] D [(h0, .inr (4, [v0, .int 0, .int 0]))] [] XN [] (el (fun _ : Unit => True) (fun _ => 0) (fun _ => []) (fun _ => []) D) 0 0 := by
  refine CT.ofR (by decide +kernel) (Nat.le_of_ble_eq_true rfl) ?_
  intro p e s m below meth c A ls hcs hP hK hD hX hA hS hl
  obtain ⟨hx, hb, hr, hml, hown, hg, hlocks, hin⟩ := hcs
  have hown : s.vm.findClass RX4 = some m.cls := hown
  have hl : lv_has ls 1 [(0, .ref h0)] := hl
  refine lv_aload_n hx hb dX4_toLong_0 rfl (lv_at hl 0 rfl) ?_
  refine va_get (D := D) (ci := 4) (v := .int 0) (C := RX4) (T := TX4) (N := 3) hx hb hg inX4 hown hK hP 0 rfl rfl 2 (by decide) (hg _ k211) (fun _ h9 => h9) rfl dX4_toLong_1 ?_
  refine lv_if_eq (tgt := 16) hx hb dX4_toLong_4 (by decide) (fun _ => ?_) (fun c9 => absurd (by decide) c9)
  refine lv_aload_n hx hb dX4_toLong_16 rfl (lv_at hl 0 rfl) ?_
  refine lv_iconst (v := 0) hx hb dX4_toLong_17 (by decide) ?_
  refine cVl (n := 1) (As := [.int 0]) (rest := []) (wr := [(h0, .inr (4, [v0, .int 0, .int 0]))]) (tr := []) hx hb hml hown hg okN (cX4_amountFrom_349 l D h0 v0 (.int 0)) (mwV k439 k441 k5 k88 k442) ⟨rfl, by decide, by decide, by decide +kernel⟩ ⟨rfl, rfl, (Nat.le_of_ble_eq_true rfl), (Nat.le_of_ble_eq_true rfl)⟩ hP hD hK hS xn [0] [] [0] [] [] rfl (by decide) rfl rfl (by decide) (by decide) rfl rfl (aNil hA hS) (fun _ _ => trivial) 0 rfl rfl rfl hl.1 rfl (Nat.le_of_ble_eq_true rfl) dX4_toLong_18 ⟨(Nat.le_of_ble_eq_true rfl), (Nat.le_of_ble_eq_true rfl)⟩ (fun u H locs hφ hP hD hK hS hk => ?_)
  have hP : va_P D vwCl [(h0, .inr (4, [v0, .int 0, .int 0]))] H := hP
  have hD : va_D (fun _ => True) [(h0, .inr (4, [v0, .int 0, .int 0]))] := hD
  have hK : va_K D vwCl [] s := hK
  refine W.widen (k := 0) (n := 0) (Nat.le_of_ble_eq_true rfl) (Nat.le_of_ble_eq_true rfl) ?_
  exact fl0 hx hb hr hlocks hK hS (Nat.le_of_ble_eq_true rfl) (Nat.le_of_ble_eq_true rfl) dX4_toLong_21
set_option maxHeartbeats 4000000 in
set_option maxRecDepth 100000 in
theorem cX5_sample_347 (l : Launch) (D : va_G) (h0 : Nat) (h1 : Nat) (h2 : Nat) (h3 : Nat) (h4 : Nat) (h5 : Nat) (v0 : Value) (v1 : Value) (v2 : Value) (v3 : Value) (v4 : Value) (v5 : Value) (v6 : Value) (v7 : Value) (v8 : Value) (v9 : Value) (v10 : Value) (v11 : Value) (v12 : Value) (v13 : Value) (v14 : Value) (v15 : Value) (v16 : Value) (v17 : Value) (v18 : Value) (v19 : Value) (v20 : Value) (v21 : Value) (v22 : Value) (v23 : Value) (v24 : Value) (f0 : Nat → Int32) (f1 : Nat → Option Nat) (v25 : Value) (a0 : ClassId) (a1 : ClassId) (ef0_0 : f0 0 = (-1)) (ef1_0 : f1 0 = some h5)  : CT l yX5_sample cX5_sample 3 (some .long) { frames := 3, cells := 0, slots := 0, locals := 66 } [.ref h0, .int 0, .int 3] D [(h0, .inr (5, [v0, .ref h1, v1, .ref h2, v2, v3, v4, v5, v6, v7])), (h1, .inr (0, [v8, v9, .int 2, v10, v11, v12, v13])), (h2, .inr (1, [v14, .ref h4, v15, .ref h3, v16, v17, v18, v19, v20, v21, v22, v23, v24])), (h3, .inl (a0, 48, .inl f0)), (h4, .inl (a1, 48, .inr (.inr (.inr (.inr f1))))), (h5, .inr (4, [v25, .int 0, .int 0]))] [(a0, .int), (a1, .object "LiftingSignal$Whole")] XN [] (el (fun _ : Unit => True) (fun _ => 0) (fun _ => []) (fun _ => []) D) 0 0 := by
  refine CT.ofR (by decide +kernel) (Nat.le_of_ble_eq_true rfl) ?_
  intro p e s m below meth c A ls hcs hP hK hD hX hA hS hl
  obtain ⟨hx, hb, hr, hml, hown, hg, hlocks, hin⟩ := hcs
  have hown : s.vm.findClass RX5 = some m.cls := hown
  have hl : lv_has ls 3 [(0, .ref h0), (1, .int 0), (2, .int 3)] := hl
  refine lv_iload_n hx hb dX5_sample_0 rfl (lv_at hl 1 rfl) ?_
  refine lv_aload_n hx hb dX5_sample_1 rfl (lv_at hl 0 rfl) ?_
  refine va_get (D := D) (ci := 5) (v := .ref h1) (C := RX5) (T := TX5) (N := 10) hx hb hg inX5 hown hK hP 0 rfl rfl 1 (by decide) (hg _ k380) (fun _ h9 => h9) rfl dX5_sample_2 ?_
  refine va_get (D := D) (ci := 0) (v := .int 2) (C := RX0) (T := TX0) (N := 7) hx hb hg inX0 hown hK hP 1 rfl rfl 2 (by decide) (hg _ k163) (fun _ h9 => h9) rfl dX5_sample_5 ?_
  refine cSv (n := 2) (As := [.int 0, .int 2]) (rest := []) (wr := [(h0, .inr (5, [v0, .ref h1, v1, .ref h2, v2, v3, v4, v5, v6, v7])), (h1, .inr (0, [v8, v9, .int 2, v10, v11, v12, v13])), (h2, .inr (1, [v14, .ref h4, v15, .ref h3, v16, v17, v18, v19, v20, v21, v22, v23, v24])), (h3, .inl (a0, 48, .inl f0)), (h4, .inl (a1, 48, .inr (.inr (.inr (.inr f1))))), (h5, .inr (4, [v25, .int 0, .int 0]))]) (tr := [(a0, .int), (a1, .object "LiftingSignal$Whole")]) hx hb hml hown hg okN (cX5_needIndex_343 l D) (mwS k610 k611 k84 k612) ⟨rfl, by decide, by decide, by decide +kernel⟩ ⟨rfl, rfl, (Nat.le_of_ble_eq_true rfl), (Nat.le_of_ble_eq_true rfl)⟩ hP hD hK hS xn [] [] [0, 1, 2, 3, 4, 5] [] [0, 1] rfl (by decide) rfl rfl (by decide) (by decide) rfl rfl (aNil hA hS) (fun _ _ => trivial) rfl hl.1 rfl (Nat.le_of_ble_eq_true rfl) dX5_sample_8 ⟨(Nat.le_of_ble_eq_true rfl), (Nat.le_of_ble_eq_true rfl)⟩ (fun u H locs hφ hP hD hK hS hk => ?_)
  have hP : va_P D vwCl [(h0, .inr (5, [v0, .ref h1, v1, .ref h2, v2, v3, v4, v5, v6, v7])), (h1, .inr (0, [v8, v9, .int 2, v10, v11, v12, v13])), (h2, .inr (1, [v14, .ref h4, v15, .ref h3, v16, v17, v18, v19, v20, v21, v22, v23, v24])), (h3, .inl (a0, 48, .inl f0)), (h4, .inl (a1, 48, .inr (.inr (.inr (.inr f1))))), (h5, .inr (4, [v25, .int 0, .int 0]))] H := hP
  have hD : va_D (fun _ => True) [(h0, .inr (5, [v0, .ref h1, v1, .ref h2, v2, v3, v4, v5, v6, v7])), (h1, .inr (0, [v8, v9, .int 2, v10, v11, v12, v13])), (h2, .inr (1, [v14, .ref h4, v15, .ref h3, v16, v17, v18, v19, v20, v21, v22, v23, v24])), (h3, .inl (a0, 48, .inl f0)), (h4, .inl (a1, 48, .inr (.inr (.inr (.inr f1))))), (h5, .inr (4, [v25, .int 0, .int 0]))] := hD
  have hK : va_K D vwCl [(a0, .int), (a1, .object "LiftingSignal$Whole")] s := hK
  refine W.widen (k := 0) (n := 0) (Nat.le_of_ble_eq_true rfl) (Nat.le_of_ble_eq_true rfl) ?_
  refine lv_iload_n hx hb dX5_sample_11 rfl (lv_at hl 2 rfl) ?_
  refine lv_tableIn (off := 79) (tgt := 91) hx hb dX5_sample_12 (by decide) (by decide) (by decide) (by decide) ?_
  refine lv_aload_n hx hb dX5_sample_91 rfl (lv_at hl 0 rfl) ?_
  refine va_get (D := D) (ci := 5) (v := .ref h2) (C := RX5) (T := TX5) (N := 10) hx hb hg inX5 hown hK hP 0 rfl rfl 3 (by decide) (hg _ k382) (fun _ h9 => h9) rfl dX5_sample_92 ?_
  refine lv_iload_n hx hb dX5_sample_95 rfl (lv_at hl 1 rfl) ?_
  refine cVi (n := 1) (As := [.int 0]) (rest := []) (wr := [(h0, .inr (5, [v0, .ref h1, v1, .ref h2, v2, v3, v4, v5, v6, v7])), (h1, .inr (0, [v8, v9, .int 2, v10, v11, v12, v13])), (h2, .inr (1, [v14, .ref h4, v15, .ref h3, v16, v17, v18, v19, v20, v21, v22, v23, v24])), (h3, .inl (a0, 48, .inl f0)), (h4, .inl (a1, 48, .inr (.inr (.inr (.inr f1))))), (h5, .inr (4, [v25, .int 0, .int 0]))]) (tr := [(a0, .int), (a1, .object "LiftingSignal$Whole")]) hx hb hml hown hg okN (cX1_isPresent_336 l D h2 h3 v14 (.ref h4) v15 v16 v17 v18 v19 v20 v21 v22 v23 v24 f0 a0 ef0_0) (mwV k861 k460 k461 k87 k462) ⟨rfl, by decide, by decide, by decide +kernel⟩ ⟨rfl, rfl, (Nat.le_of_ble_eq_true rfl), (Nat.le_of_ble_eq_true rfl)⟩ hP hD hK hS xn [2, 3] [] [0, 1, 2, 3, 4, 5] [0] [0, 1] rfl (by decide) rfl rfl (by decide) (by decide) rfl rfl (aNil hA hS) (fun _ _ => trivial) 2 rfl rfl rfl hl.1 rfl (Nat.le_of_ble_eq_true rfl) dX5_sample_96 ⟨(Nat.le_of_ble_eq_true rfl), (Nat.le_of_ble_eq_true rfl)⟩ (fun u H locs hφ hP hD hK hS hk => ?_)
  have hP : va_P D vwCl [(h0, .inr (5, [v0, .ref h1, v1, .ref h2, v2, v3, v4, v5, v6, v7])), (h1, .inr (0, [v8, v9, .int 2, v10, v11, v12, v13])), (h2, .inr (1, [v14, .ref h4, v15, .ref h3, v16, v17, v18, v19, v20, v21, v22, v23, v24])), (h3, .inl (a0, 48, .inl f0)), (h4, .inl (a1, 48, .inr (.inr (.inr (.inr f1))))), (h5, .inr (4, [v25, .int 0, .int 0]))] H := hP
  have hD : va_D (fun _ => True) [(h0, .inr (5, [v0, .ref h1, v1, .ref h2, v2, v3, v4, v5, v6, v7])), (h1, .inr (0, [v8, v9, .int 2, v10, v11, v12, v13])), (h2, .inr (1, [v14, .ref h4, v15, .ref h3, v16, v17, v18, v19, v20, v21, v22, v23, v24])), (h3, .inl (a0, 48, .inl f0)), (h4, .inl (a1, 48, .inr (.inr (.inr (.inr f1))))), (h5, .inr (4, [v25, .int 0, .int 0]))] := hD
  have hK : va_K D vwCl [(a0, .int), (a1, .object "LiftingSignal$Whole")] s := hK
  refine W.widen (k := 0) (n := 0) (Nat.le_of_ble_eq_true rfl) (Nat.le_of_ble_eq_true rfl) ?_
  refine lv_if_eq (tgt := 117) hx hb dX5_sample_99 (by decide) (fun c9 => absurd c9 (by decide)) (fun _ => ?_)
  refine lv_aload_n hx hb dX5_sample_102 rfl (lv_at hl 0 rfl) ?_
  refine va_get (D := D) (ci := 5) (v := .ref h2) (C := RX5) (T := TX5) (N := 10) hx hb hg inX5 hown hK hP 0 rfl rfl 3 (by decide) (hg _ k382) (fun _ h9 => h9) rfl dX5_sample_103 ?_
  refine va_get (D := D) (ci := 1) (v := .ref h4) (C := RX1) (T := TX1) (N := 13) hx hb hg inX1 hown hK hP 2 rfl rfl 1 (by decide) (hg _ k280) (fun _ h9 => h9) rfl dX5_sample_106 ?_
  refine lv_iload_n hx hb dX5_sample_109 rfl (lv_at hl 1 rfl) ?_
  refine aldQ hx hb hK hP 4 1 rfl rfl 0 (by decide) (vin (by decide)) (v := h5) ef1_0 dX5_sample_110 ?_
  refine cVl (n := 0) (As := []) (rest := []) (wr := [(h0, .inr (5, [v0, .ref h1, v1, .ref h2, v2, v3, v4, v5, v6, v7])), (h1, .inr (0, [v8, v9, .int 2, v10, v11, v12, v13])), (h2, .inr (1, [v14, .ref h4, v15, .ref h3, v16, v17, v18, v19, v20, v21, v22, v23, v24])), (h3, .inl (a0, 48, .inl f0)), (h4, .inl (a1, 48, .inr (.inr (.inr (.inr f1))))), (h5, .inr (4, [v25, .int 0, .int 0]))]) (tr := [(a0, .int), (a1, .object "LiftingSignal$Whole")]) hx hb hml hown hg okN (cX4_toLong_348 l D h5 v25) (mwV k435 k436 k437 k88 k438) ⟨rfl, by decide, by decide, by decide +kernel⟩ ⟨rfl, rfl, (Nat.le_of_ble_eq_true rfl), (Nat.le_of_ble_eq_true rfl)⟩ hP hD hK hS xn [5] [] [0, 1, 2, 3, 4, 5] [] [0, 1] rfl (by decide) rfl rfl (by decide) (by decide) rfl rfl (aNil hA hS) (fun _ _ => trivial) 5 rfl rfl rfl hl.1 rfl (Nat.le_of_ble_eq_true rfl) dX5_sample_111 ⟨(Nat.le_of_ble_eq_true rfl), (Nat.le_of_ble_eq_true rfl)⟩ (fun u H locs hφ hP hD hK hS hk => ?_)
  have hP : va_P D vwCl [(h0, .inr (5, [v0, .ref h1, v1, .ref h2, v2, v3, v4, v5, v6, v7])), (h1, .inr (0, [v8, v9, .int 2, v10, v11, v12, v13])), (h2, .inr (1, [v14, .ref h4, v15, .ref h3, v16, v17, v18, v19, v20, v21, v22, v23, v24])), (h3, .inl (a0, 48, .inl f0)), (h4, .inl (a1, 48, .inr (.inr (.inr (.inr f1))))), (h5, .inr (4, [v25, .int 0, .int 0]))] H := hP
  have hD : va_D (fun _ => True) [(h0, .inr (5, [v0, .ref h1, v1, .ref h2, v2, v3, v4, v5, v6, v7])), (h1, .inr (0, [v8, v9, .int 2, v10, v11, v12, v13])), (h2, .inr (1, [v14, .ref h4, v15, .ref h3, v16, v17, v18, v19, v20, v21, v22, v23, v24])), (h3, .inl (a0, 48, .inl f0)), (h4, .inl (a1, 48, .inr (.inr (.inr (.inr f1))))), (h5, .inr (4, [v25, .int 0, .int 0]))] := hD
  have hK : va_K D vwCl [(a0, .int), (a1, .object "LiftingSignal$Whole")] s := hK
  refine W.widen (k := 0) (n := 0) (Nat.le_of_ble_eq_true rfl) (Nat.le_of_ble_eq_true rfl) ?_
  refine lv_goto (tgt := 120) hx hb dX5_sample_114 (by decide) ?_
  exact fl0 hx hb hr hlocks hK hS (Nat.le_of_ble_eq_true rfl) (Nat.le_of_ble_eq_true rfl) dX5_sample_120
set_option maxHeartbeats 4000000 in
set_option maxRecDepth 100000 in
theorem cX5_sample_352 (l : Launch) (D : va_G) (h0 : Nat) (h1 : Nat) (h2 : Nat) (h3 : Nat) (v0 : Value) (v1 : Value) (v2 : Value) (v3 : Value) (v4 : Value) (v5 : Value) (v6 : Value) (v7 : Value) (v8 : Value) (v9 : Value) (v10 : Value) (v11 : Value) (v12 : Value) (v13 : Value) (v14 : Value) (v15 : Value) (v16 : Value) (v17 : Value) (v18 : Value) (v19 : Value) (v20 : Value) (v21 : Value) (v22 : Value) (v23 : Value) (v24 : Value) (v25 : Value) (f0 : Nat → Int64) (a0 : ClassId) (ef0_0 : f0 0 = 1)  : CT l yX5_sample cX5_sample 3 (some .long) { frames := 1, cells := 0, slots := 0, locals := 21 } [.ref h0, .int 0, .int 4] D [(h0, .inr (5, [v0, .ref h1, v1, .ref h2, v2, v3, v4, v5, v6, v7])), (h1, .inr (0, [v8, v9, .int 2, v10, v11, v12, v13])), (h2, .inr (1, [v14, v15, .ref h3, v16, v17, v18, v19, v20, v21, v22, v23, v24, v25])), (h3, .inl (a0, 48, .inr (.inl f0)))] [(a0, .long)] XN [] (el (fun _ : Unit => True) (fun _ => 1) (fun _ => []) (fun _ => []) D) 0 0 := by
  refine CT.ofR (by decide +kernel) (Nat.le_of_ble_eq_true rfl) ?_
  intro p e s m below meth c A ls hcs hP hK hD hX hA hS hl
  obtain ⟨hx, hb, hr, hml, hown, hg, hlocks, hin⟩ := hcs
  have hown : s.vm.findClass RX5 = some m.cls := hown
  have hl : lv_has ls 3 [(0, .ref h0), (1, .int 0), (2, .int 4)] := hl
  refine lv_iload_n hx hb dX5_sample_0 rfl (lv_at hl 1 rfl) ?_
  refine lv_aload_n hx hb dX5_sample_1 rfl (lv_at hl 0 rfl) ?_
  refine va_get (D := D) (ci := 5) (v := .ref h1) (C := RX5) (T := TX5) (N := 10) hx hb hg inX5 hown hK hP 0 rfl rfl 1 (by decide) (hg _ k380) (fun _ h9 => h9) rfl dX5_sample_2 ?_
  refine va_get (D := D) (ci := 0) (v := .int 2) (C := RX0) (T := TX0) (N := 7) hx hb hg inX0 hown hK hP 1 rfl rfl 2 (by decide) (hg _ k163) (fun _ h9 => h9) rfl dX5_sample_5 ?_
  refine cSv (n := 2) (As := [.int 0, .int 2]) (rest := []) (wr := [(h0, .inr (5, [v0, .ref h1, v1, .ref h2, v2, v3, v4, v5, v6, v7])), (h1, .inr (0, [v8, v9, .int 2, v10, v11, v12, v13])), (h2, .inr (1, [v14, v15, .ref h3, v16, v17, v18, v19, v20, v21, v22, v23, v24, v25])), (h3, .inl (a0, 48, .inr (.inl f0)))]) (tr := [(a0, .long)]) hx hb hml hown hg okN (cX5_needIndex_343 l D) (mwS k610 k611 k84 k612) ⟨rfl, by decide, by decide, by decide +kernel⟩ ⟨rfl, rfl, (Nat.le_of_ble_eq_true rfl), (Nat.le_of_ble_eq_true rfl)⟩ hP hD hK hS xn [] [] [0, 1, 2, 3] [] [0] rfl (by decide) rfl rfl (by decide) (by decide) rfl rfl (aNil hA hS) (fun _ _ => trivial) rfl hl.1 rfl (Nat.le_of_ble_eq_true rfl) dX5_sample_8 ⟨(Nat.le_of_ble_eq_true rfl), (Nat.le_of_ble_eq_true rfl)⟩ (fun u H locs hφ hP hD hK hS hk => ?_)
  have hP : va_P D vwCl [(h0, .inr (5, [v0, .ref h1, v1, .ref h2, v2, v3, v4, v5, v6, v7])), (h1, .inr (0, [v8, v9, .int 2, v10, v11, v12, v13])), (h2, .inr (1, [v14, v15, .ref h3, v16, v17, v18, v19, v20, v21, v22, v23, v24, v25])), (h3, .inl (a0, 48, .inr (.inl f0)))] H := hP
  have hD : va_D (fun _ => True) [(h0, .inr (5, [v0, .ref h1, v1, .ref h2, v2, v3, v4, v5, v6, v7])), (h1, .inr (0, [v8, v9, .int 2, v10, v11, v12, v13])), (h2, .inr (1, [v14, v15, .ref h3, v16, v17, v18, v19, v20, v21, v22, v23, v24, v25])), (h3, .inl (a0, 48, .inr (.inl f0)))] := hD
  have hK : va_K D vwCl [(a0, .long)] s := hK
  refine W.widen (k := 0) (n := 0) (Nat.le_of_ble_eq_true rfl) (Nat.le_of_ble_eq_true rfl) ?_
  refine lv_iload_n hx hb dX5_sample_11 rfl (lv_at hl 2 rfl) ?_
  refine lv_tableIn (off := 109) (tgt := 121) hx hb dX5_sample_12 (by decide) (by decide) (by decide) (by decide) ?_
  refine lv_aload_n hx hb dX5_sample_121 rfl (lv_at hl 0 rfl) ?_
  refine va_get (D := D) (ci := 5) (v := .ref h2) (C := RX5) (T := TX5) (N := 10) hx hb hg inX5 hown hK hP 0 rfl rfl 3 (by decide) (hg _ k382) (fun _ h9 => h9) rfl dX5_sample_122 ?_
  refine va_get (D := D) (ci := 1) (v := .ref h3) (C := RX1) (T := TX1) (N := 13) hx hb hg inX1 hown hK hP 2 rfl rfl 2 (by decide) (hg _ k282) (fun _ h9 => h9) rfl dX5_sample_125 ?_
  refine lv_iload_n hx hb dX5_sample_128 rfl (lv_at hl 1 rfl) ?_
  refine aldL hx hb hK hP 3 0 rfl rfl 0 (by decide) (vin (by decide)) (v := 1) ef0_0 dX5_sample_129 ?_
  exact fl0 hx hb hr hlocks hK hS (Nat.le_of_ble_eq_true rfl) (Nat.le_of_ble_eq_true rfl) dX5_sample_130
set_option maxHeartbeats 4000000 in
set_option maxRecDepth 100000 in
theorem cX5_sample_353 (l : Launch) (D : va_G) (h0 : Nat) (h1 : Nat) (h2 : Nat) (h3 : Nat) (v0 : Value) (v1 : Value) (v2 : Value) (v3 : Value) (v4 : Value) (v5 : Value) (v6 : Value) (v7 : Value) (v8 : Value) (v9 : Value) (v10 : Value) (v11 : Value) (v12 : Value) (v13 : Value) (v14 : Value) (v15 : Value) (v16 : Value) (v17 : Value) (v18 : Value) (v19 : Value) (v20 : Value) (v21 : Value) (v22 : Value) (v23 : Value) (v24 : Value) (v25 : Value) (f0 : Nat → Int32) (a0 : ClassId) (ef0_0 : f0 0 = (-1))  : CT l yX5_sample cX5_sample 3 (some .long) { frames := 1, cells := 0, slots := 0, locals := 21 } [.ref h0, .int 0, .int 5] D [(h0, .inr (5, [v0, .ref h1, v1, .ref h2, v2, v3, v4, v5, v6, v7])), (h1, .inr (0, [v8, v9, .int 2, v10, v11, v12, v13])), (h2, .inr (1, [v14, v15, v16, .ref h3, v17, v18, v19, v20, v21, v22, v23, v24, v25])), (h3, .inl (a0, 48, .inl f0))] [(a0, .int)] XN [] (el (fun _ : Unit => True) (fun _ => (-1)) (fun _ => []) (fun _ => []) D) 0 0 := by
  refine CT.ofR (by decide +kernel) (Nat.le_of_ble_eq_true rfl) ?_
  intro p e s m below meth c A ls hcs hP hK hD hX hA hS hl
  obtain ⟨hx, hb, hr, hml, hown, hg, hlocks, hin⟩ := hcs
  have hown : s.vm.findClass RX5 = some m.cls := hown
  have hl : lv_has ls 3 [(0, .ref h0), (1, .int 0), (2, .int 5)] := hl
  refine lv_iload_n hx hb dX5_sample_0 rfl (lv_at hl 1 rfl) ?_
  refine lv_aload_n hx hb dX5_sample_1 rfl (lv_at hl 0 rfl) ?_
  refine va_get (D := D) (ci := 5) (v := .ref h1) (C := RX5) (T := TX5) (N := 10) hx hb hg inX5 hown hK hP 0 rfl rfl 1 (by decide) (hg _ k380) (fun _ h9 => h9) rfl dX5_sample_2 ?_
  refine va_get (D := D) (ci := 0) (v := .int 2) (C := RX0) (T := TX0) (N := 7) hx hb hg inX0 hown hK hP 1 rfl rfl 2 (by decide) (hg _ k163) (fun _ h9 => h9) rfl dX5_sample_5 ?_
  refine cSv (n := 2) (As := [.int 0, .int 2]) (rest := []) (wr := [(h0, .inr (5, [v0, .ref h1, v1, .ref h2, v2, v3, v4, v5, v6, v7])), (h1, .inr (0, [v8, v9, .int 2, v10, v11, v12, v13])), (h2, .inr (1, [v14, v15, v16, .ref h3, v17, v18, v19, v20, v21, v22, v23, v24, v25])), (h3, .inl (a0, 48, .inl f0))]) (tr := [(a0, .int)]) hx hb hml hown hg okN (cX5_needIndex_343 l D) (mwS k610 k611 k84 k612) ⟨rfl, by decide, by decide, by decide +kernel⟩ ⟨rfl, rfl, (Nat.le_of_ble_eq_true rfl), (Nat.le_of_ble_eq_true rfl)⟩ hP hD hK hS xn [] [] [0, 1, 2, 3] [] [0] rfl (by decide) rfl rfl (by decide) (by decide) rfl rfl (aNil hA hS) (fun _ _ => trivial) rfl hl.1 rfl (Nat.le_of_ble_eq_true rfl) dX5_sample_8 ⟨(Nat.le_of_ble_eq_true rfl), (Nat.le_of_ble_eq_true rfl)⟩ (fun u H locs hφ hP hD hK hS hk => ?_)
  have hP : va_P D vwCl [(h0, .inr (5, [v0, .ref h1, v1, .ref h2, v2, v3, v4, v5, v6, v7])), (h1, .inr (0, [v8, v9, .int 2, v10, v11, v12, v13])), (h2, .inr (1, [v14, v15, v16, .ref h3, v17, v18, v19, v20, v21, v22, v23, v24, v25])), (h3, .inl (a0, 48, .inl f0))] H := hP
  have hD : va_D (fun _ => True) [(h0, .inr (5, [v0, .ref h1, v1, .ref h2, v2, v3, v4, v5, v6, v7])), (h1, .inr (0, [v8, v9, .int 2, v10, v11, v12, v13])), (h2, .inr (1, [v14, v15, v16, .ref h3, v17, v18, v19, v20, v21, v22, v23, v24, v25])), (h3, .inl (a0, 48, .inl f0))] := hD
  have hK : va_K D vwCl [(a0, .int)] s := hK
  refine W.widen (k := 0) (n := 0) (Nat.le_of_ble_eq_true rfl) (Nat.le_of_ble_eq_true rfl) ?_
  refine lv_iload_n hx hb dX5_sample_11 rfl (lv_at hl 2 rfl) ?_
  refine lv_tableIn (off := 119) (tgt := 131) hx hb dX5_sample_12 (by decide) (by decide) (by decide) (by decide) ?_
  refine lv_aload_n hx hb dX5_sample_131 rfl (lv_at hl 0 rfl) ?_
  refine va_get (D := D) (ci := 5) (v := .ref h2) (C := RX5) (T := TX5) (N := 10) hx hb hg inX5 hown hK hP 0 rfl rfl 3 (by decide) (hg _ k382) (fun _ h9 => h9) rfl dX5_sample_132 ?_
  refine va_get (D := D) (ci := 1) (v := .ref h3) (C := RX1) (T := TX1) (N := 13) hx hb hg inX1 hown hK hP 2 rfl rfl 3 (by decide) (hg _ k284) (fun _ h9 => h9) rfl dX5_sample_135 ?_
  refine lv_iload_n hx hb dX5_sample_138 rfl (lv_at hl 1 rfl) ?_
  refine aldI hx hb hK hP 3 0 rfl rfl 0 (by decide) (vin (by decide)) (v := (-1)) ef0_0 dX5_sample_139 ?_
  refine lv_i2l (v := (-1)) hx hb dX5_sample_140 (by decide) ?_
  exact fl0 hx hb hr hlocks hK hS (Nat.le_of_ble_eq_true rfl) (Nat.le_of_ble_eq_true rfl) dX5_sample_141
set_option maxHeartbeats 4000000 in
set_option maxRecDepth 100000 in
theorem cX5_needIndex_355 (l : Launch) (D : va_G)    : CT l yX5_needIndex cX5_needIndex 2 none { frames := 0, cells := 0, slots := 0, locals := 0 } [.int 1, .int 2] D [] [] XN [] (ev (fun _ : Unit => True) (fun _ => []) (fun _ => []) D) 0 0 := by
  refine CT.ofR (by decide +kernel) (Nat.le_of_ble_eq_true rfl) ?_
  intro p e s m below meth c A ls hcs hP hK hD hX hA hS hl
  obtain ⟨hx, hb, hr, hml, hown, hg, hlocks, hin⟩ := hcs
  have hown : s.vm.findClass RX5 = some m.cls := hown
  have hl : lv_has ls 2 [(0, .int 1), (1, .int 2)] := hl
  refine lv_iload_n hx hb dX5_needIndex_0 rfl (lv_at hl 0 rfl) ?_
  refine lv_if_lt (tgt := 9) hx hb dX5_needIndex_1 (by decide) (fun c9 => absurd c9 (by decide)) (fun _ => ?_)
  refine lv_iload_n hx hb dX5_needIndex_4 rfl (lv_at hl 0 rfl) ?_
  refine lv_iload_n hx hb dX5_needIndex_5 rfl (lv_at hl 1 rfl) ?_
  refine lv_icmp_lt (tgt := 20) hx hb dX5_needIndex_6 (by decide) (fun _ => ?_) (fun c9 => absurd (by decide) c9)
  exact fv0 hx hb hr hlocks hK hS (Nat.le_of_ble_eq_true rfl) (Nat.le_of_ble_eq_true rfl) dX5_needIndex_20
set_option maxHeartbeats 4000000 in
set_option maxRecDepth 100000 in
theorem cX5_sample_354 (l : Launch) (D : va_G) (hlt : l.stackTraces = false) (h0 : Nat) (x0 : Int32) (h1 : Nat) (v0 : Value) (v1 : Value) (v2 : Value) (v3 : Value) (v4 : Value) (v5 : Value) (v6 : Value) (v7 : Value) (v8 : Value) (v9 : Value) (v10 : Value) (v11 : Value) (v12 : Value) (v13 : Value) (v14 : Value)  (d0 : x0.toInt < 0 ∨ 5 < x0.toInt) : CX l yX5_sample cX5_sample 3 (some .long) { frames := 6, cells := 1, slots := 6, locals := 90 } [.ref h0, .int 1, .int x0] D [(h0, .inr (5, [v0, .ref h1, v1, v2, v3, v4, v5, v6, v7, v8])), (h1, .inr (0, [v9, v10, .int 2, v11, v12, v13, v14]))] [] XX [] xl "java/lang/IllegalArgumentException" 1 6 := by
  refine CX.ofR (by decide +kernel) (Nat.le_of_ble_eq_true rfl) ?_
  intro p e s m below meth c A ls hcs hout hP hK hD hX hA hS hl
  obtain ⟨hx, hb, hr, hml, hown, hg, hlocks, hin⟩ := hcs
  have hown : s.vm.findClass RX5 = some m.cls := hown
  have hl : lv_has ls 3 [(0, .ref h0), (1, .int 1), (2, .int x0)] := hl
  refine lv_iload_n hx hb dX5_sample_0 rfl (lv_at hl 1 rfl) ?_
  refine lv_aload_n hx hb dX5_sample_1 rfl (lv_at hl 0 rfl) ?_
  refine va_get (D := D) (ci := 5) (v := .ref h1) (C := RX5) (T := TX5) (N := 10) hx hb hg inX5 hown hK hP 0 rfl rfl 1 (by decide) (hg _ k380) (fun _ h9 => h9) rfl dX5_sample_2 ?_
  refine va_get (D := D) (ci := 0) (v := .int 2) (C := RX0) (T := TX0) (N := 7) hx hb hg inX0 hown hK hP 1 rfl rfl 2 (by decide) (hg _ k163) (fun _ h9 => h9) rfl dX5_sample_5 ?_
  refine cSv (n := 2) (As := [.int 1, .int 2]) (rest := []) (wr := [(h0, .inr (5, [v0, .ref h1, v1, v2, v3, v4, v5, v6, v7, v8])), (h1, .inr (0, [v9, v10, .int 2, v11, v12, v13, v14]))]) (tr := []) hx hb hml hown hg okN (cX5_needIndex_355 l D) (mwS k610 k611 k84 k612) ⟨rfl, by decide, by decide, by decide +kernel⟩ ⟨rfl, rfl, (Nat.le_of_ble_eq_true rfl), (Nat.le_of_ble_eq_true rfl)⟩ hP hD hK hS xn [] [] [0, 1] [] [] rfl (by decide) rfl rfl (by decide) (by decide) rfl rfl (aNil hA hS) (fun _ _ => trivial) rfl hl.1 rfl (Nat.le_of_ble_eq_true rfl) dX5_sample_8 ⟨(Nat.le_of_ble_eq_true rfl), (Nat.le_of_ble_eq_true rfl)⟩ (fun u H locs hφ hP hD hK hS hk => ?_)
  have hP : va_P D vwCl [(h0, .inr (5, [v0, .ref h1, v1, v2, v3, v4, v5, v6, v7, v8])), (h1, .inr (0, [v9, v10, .int 2, v11, v12, v13, v14]))] H := hP
  have hD : va_D (fun _ => True) [(h0, .inr (5, [v0, .ref h1, v1, v2, v3, v4, v5, v6, v7, v8])), (h1, .inr (0, [v9, v10, .int 2, v11, v12, v13, v14]))] := hD
  have hK : va_K D vwCl [] s := hK
  refine W.widen (k := 0) (n := 0) (Nat.le_of_ble_eq_true rfl) (Nat.le_of_ble_eq_true rfl) ?_
  refine lv_iload_n hx hb dX5_sample_11 rfl (lv_at hl 2 rfl) ?_
  refine lv_tableOut (tgt := 142) hx hb dX5_sample_12 d0 (by decide) ?_
  obtain ⟨sa, hsa⟩ := XX_sRX5_130 hX
  exact thS_IAE hx hb hlt hown (hg _ k813) (hg _ k101) hsa hg hX hS (hl.1.trans hml.symm) dX5_sample_142 dX5_sample_145 dX5_sample_146 dX5_sample_148 dX5_sample_151 hout (Nat.le_of_ble_eq_true rfl) (Nat.le_of_ble_eq_true rfl) (Nat.le_of_ble_eq_true rfl) (Nat.le_of_ble_eq_true rfl) hlocks (Nat.le_of_ble_eq_true rfl) (Nat.le_of_ble_eq_true rfl)
set_option maxHeartbeats 4000000 in
set_option maxRecDepth 100000 in
theorem cX5_sample_356 (l : Launch) (D : va_G) (h0 : Nat) (h1 : Nat) (h2 : Nat) (v0 : Value) (v1 : Value) (v2 : Value) (v3 : Value) (v4 : Value) (v5 : Value) (v6 : Value) (v7 : Value) (v8 : Value) (v9 : Value) (v10 : Value) (v11 : Value) (v12 : Value) (v13 : Value) (f0 : Nat → Int32) (a0 : ClassId) (ef0_1 : f0 1 = 1)  : CT l yX5_sample cX5_sample 3 (some .long) { frames := 1, cells := 0, slots := 0, locals := 21 } [.ref h0, .int 1, .int 0] D [(h0, .inr (5, [v0, .ref h1, v1, v2, v3, v4, v5, v6, v7, v8])), (h1, .inr (0, [.ref h2, v9, .int 2, v10, v11, v12, v13])), (h2, .inl (a0, 48, .inl f0))] [(a0, .int)] XN [] (el (fun _ : Unit => True) (fun _ => 1) (fun _ => []) (fun _ => []) D) 0 0 := by
  refine CT.ofR (by decide +kernel) (Nat.le_of_ble_eq_true rfl) ?_
  intro p e s m below meth c A ls hcs hP hK hD hX hA hS hl
  obtain ⟨hx, hb, hr, hml, hown, hg, hlocks, hin⟩ := hcs
  have hown : s.vm.findClass RX5 = some m.cls := hown
  have hl : lv_has ls 3 [(0, .ref h0), (1, .int 1), (2, .int 0)] := hl
  refine lv_iload_n hx hb dX5_sample_0 rfl (lv_at hl 1 rfl) ?_
  refine lv_aload_n hx hb dX5_sample_1 rfl (lv_at hl 0 rfl) ?_
  refine va_get (D := D) (ci := 5) (v := .ref h1) (C := RX5) (T := TX5) (N := 10) hx hb hg inX5 hown hK hP 0 rfl rfl 1 (by decide) (hg _ k380) (fun _ h9 => h9) rfl dX5_sample_2 ?_
  refine va_get (D := D) (ci := 0) (v := .int 2) (C := RX0) (T := TX0) (N := 7) hx hb hg inX0 hown hK hP 1 rfl rfl 2 (by decide) (hg _ k163) (fun _ h9 => h9) rfl dX5_sample_5 ?_
  refine cSv (n := 2) (As := [.int 1, .int 2]) (rest := []) (wr := [(h0, .inr (5, [v0, .ref h1, v1, v2, v3, v4, v5, v6, v7, v8])), (h1, .inr (0, [.ref h2, v9, .int 2, v10, v11, v12, v13])), (h2, .inl (a0, 48, .inl f0))]) (tr := [(a0, .int)]) hx hb hml hown hg okN (cX5_needIndex_355 l D) (mwS k610 k611 k84 k612) ⟨rfl, by decide, by decide, by decide +kernel⟩ ⟨rfl, rfl, (Nat.le_of_ble_eq_true rfl), (Nat.le_of_ble_eq_true rfl)⟩ hP hD hK hS xn [] [] [0, 1, 2] [] [0] rfl (by decide) rfl rfl (by decide) (by decide) rfl rfl (aNil hA hS) (fun _ _ => trivial) rfl hl.1 rfl (Nat.le_of_ble_eq_true rfl) dX5_sample_8 ⟨(Nat.le_of_ble_eq_true rfl), (Nat.le_of_ble_eq_true rfl)⟩ (fun u H locs hφ hP hD hK hS hk => ?_)
  have hP : va_P D vwCl [(h0, .inr (5, [v0, .ref h1, v1, v2, v3, v4, v5, v6, v7, v8])), (h1, .inr (0, [.ref h2, v9, .int 2, v10, v11, v12, v13])), (h2, .inl (a0, 48, .inl f0))] H := hP
  have hD : va_D (fun _ => True) [(h0, .inr (5, [v0, .ref h1, v1, v2, v3, v4, v5, v6, v7, v8])), (h1, .inr (0, [.ref h2, v9, .int 2, v10, v11, v12, v13])), (h2, .inl (a0, 48, .inl f0))] := hD
  have hK : va_K D vwCl [(a0, .int)] s := hK
  refine W.widen (k := 0) (n := 0) (Nat.le_of_ble_eq_true rfl) (Nat.le_of_ble_eq_true rfl) ?_
  refine lv_iload_n hx hb dX5_sample_11 rfl (lv_at hl 2 rfl) ?_
  refine lv_tableIn (off := 40) (tgt := 52) hx hb dX5_sample_12 (by decide) (by decide) (by decide) (by decide) ?_
  refine lv_aload_n hx hb dX5_sample_52 rfl (lv_at hl 0 rfl) ?_
  refine va_get (D := D) (ci := 5) (v := .ref h1) (C := RX5) (T := TX5) (N := 10) hx hb hg inX5 hown hK hP 0 rfl rfl 1 (by decide) (hg _ k380) (fun _ h9 => h9) rfl dX5_sample_53 ?_
  refine va_get (D := D) (ci := 0) (v := .ref h2) (C := RX0) (T := TX0) (N := 7) hx hb hg inX0 hown hK hP 1 rfl rfl 0 (by decide) (hg _ k155) (fun _ h9 => h9) rfl dX5_sample_56 ?_
  refine lv_iload_n hx hb dX5_sample_59 rfl (lv_at hl 1 rfl) ?_
  refine aldI hx hb hK hP 2 0 rfl rfl 1 (by decide) (vin (by decide)) (v := 1) ef0_1 dX5_sample_60 ?_
  refine lv_i2l (v := 1) hx hb dX5_sample_61 (by decide) ?_
  exact fl0 hx hb hr hlocks hK hS (Nat.le_of_ble_eq_true rfl) (Nat.le_of_ble_eq_true rfl) dX5_sample_62
set_option maxHeartbeats 4000000 in
set_option maxRecDepth 100000 in
theorem cX5_sample_357 (l : Launch) (D : va_G) (h0 : Nat) (h1 : Nat) (h2 : Nat) (v0 : Value) (v1 : Value) (v2 : Value) (v3 : Value) (v4 : Value) (v5 : Value) (v6 : Value) (v7 : Value) (v8 : Value) (v9 : Value) (v10 : Value) (v11 : Value) (v12 : Value) (v13 : Value) (f0 : Nat → Int32) (a0 : ClassId) (ef0_1 : f0 1 = 0)  : CT l yX5_sample cX5_sample 3 (some .long) { frames := 1, cells := 0, slots := 0, locals := 21 } [.ref h0, .int 1, .int 1] D [(h0, .inr (5, [v0, .ref h1, v1, v2, v3, v4, v5, v6, v7, v8])), (h1, .inr (0, [v9, .ref h2, .int 2, v10, v11, v12, v13])), (h2, .inl (a0, 48, .inl f0))] [(a0, .int)] XN [] (el (fun _ : Unit => True) (fun _ => 0) (fun _ => []) (fun _ => []) D) 0 0 := by
  refine CT.ofR (by decide +kernel) (Nat.le_of_ble_eq_true rfl) ?_
  intro p e s m below meth c A ls hcs hP hK hD hX hA hS hl
  obtain ⟨hx, hb, hr, hml, hown, hg, hlocks, hin⟩ := hcs
  have hown : s.vm.findClass RX5 = some m.cls := hown
  have hl : lv_has ls 3 [(0, .ref h0), (1, .int 1), (2, .int 1)] := hl
  refine lv_iload_n hx hb dX5_sample_0 rfl (lv_at hl 1 rfl) ?_
  refine lv_aload_n hx hb dX5_sample_1 rfl (lv_at hl 0 rfl) ?_
  refine va_get (D := D) (ci := 5) (v := .ref h1) (C := RX5) (T := TX5) (N := 10) hx hb hg inX5 hown hK hP 0 rfl rfl 1 (by decide) (hg _ k380) (fun _ h9 => h9) rfl dX5_sample_2 ?_
  refine va_get (D := D) (ci := 0) (v := .int 2) (C := RX0) (T := TX0) (N := 7) hx hb hg inX0 hown hK hP 1 rfl rfl 2 (by decide) (hg _ k163) (fun _ h9 => h9) rfl dX5_sample_5 ?_
  refine cSv (n := 2) (As := [.int 1, .int 2]) (rest := []) (wr := [(h0, .inr (5, [v0, .ref h1, v1, v2, v3, v4, v5, v6, v7, v8])), (h1, .inr (0, [v9, .ref h2, .int 2, v10, v11, v12, v13])), (h2, .inl (a0, 48, .inl f0))]) (tr := [(a0, .int)]) hx hb hml hown hg okN (cX5_needIndex_355 l D) (mwS k610 k611 k84 k612) ⟨rfl, by decide, by decide, by decide +kernel⟩ ⟨rfl, rfl, (Nat.le_of_ble_eq_true rfl), (Nat.le_of_ble_eq_true rfl)⟩ hP hD hK hS xn [] [] [0, 1, 2] [] [0] rfl (by decide) rfl rfl (by decide) (by decide) rfl rfl (aNil hA hS) (fun _ _ => trivial) rfl hl.1 rfl (Nat.le_of_ble_eq_true rfl) dX5_sample_8 ⟨(Nat.le_of_ble_eq_true rfl), (Nat.le_of_ble_eq_true rfl)⟩ (fun u H locs hφ hP hD hK hS hk => ?_)
  have hP : va_P D vwCl [(h0, .inr (5, [v0, .ref h1, v1, v2, v3, v4, v5, v6, v7, v8])), (h1, .inr (0, [v9, .ref h2, .int 2, v10, v11, v12, v13])), (h2, .inl (a0, 48, .inl f0))] H := hP
  have hD : va_D (fun _ => True) [(h0, .inr (5, [v0, .ref h1, v1, v2, v3, v4, v5, v6, v7, v8])), (h1, .inr (0, [v9, .ref h2, .int 2, v10, v11, v12, v13])), (h2, .inl (a0, 48, .inl f0))] := hD
  have hK : va_K D vwCl [(a0, .int)] s := hK
  refine W.widen (k := 0) (n := 0) (Nat.le_of_ble_eq_true rfl) (Nat.le_of_ble_eq_true rfl) ?_
  refine lv_iload_n hx hb dX5_sample_11 rfl (lv_at hl 2 rfl) ?_
  refine lv_tableIn (off := 51) (tgt := 63) hx hb dX5_sample_12 (by decide) (by decide) (by decide) (by decide) ?_
  refine lv_aload_n hx hb dX5_sample_63 rfl (lv_at hl 0 rfl) ?_
  refine va_get (D := D) (ci := 5) (v := .ref h1) (C := RX5) (T := TX5) (N := 10) hx hb hg inX5 hown hK hP 0 rfl rfl 1 (by decide) (hg _ k380) (fun _ h9 => h9) rfl dX5_sample_64 ?_
  refine va_get (D := D) (ci := 0) (v := .ref h2) (C := RX0) (T := TX0) (N := 7) hx hb hg inX0 hown hK hP 1 rfl rfl 1 (by decide) (hg _ k160) (fun _ h9 => h9) rfl dX5_sample_67 ?_
  refine lv_iload_n hx hb dX5_sample_70 rfl (lv_at hl 1 rfl) ?_
  refine aldI hx hb hK hP 2 0 rfl rfl 1 (by decide) (vin (by decide)) (v := 0) ef0_1 dX5_sample_71 ?_
  refine lv_i2l (v := 0) hx hb dX5_sample_72 (by decide) ?_
  exact fl0 hx hb hr hlocks hK hS (Nat.le_of_ble_eq_true rfl) (Nat.le_of_ble_eq_true rfl) dX5_sample_73
set_option maxHeartbeats 4000000 in
set_option maxRecDepth 100000 in
theorem cX5_sample_358 (l : Launch) (D : va_G) (h0 : Nat) (h1 : Nat) (h2 : Nat) (h3 : Nat) (v0 : Value) (v1 : Value) (v2 : Value) (v3 : Value) (v4 : Value) (v5 : Value) (v6 : Value) (v7 : Value) (v8 : Value) (v9 : Value) (v10 : Value) (v11 : Value) (v12 : Value) (v13 : Value) (v14 : Value) (v15 : Value) (v16 : Value) (v17 : Value) (v18 : Value) (v19 : Value) (v20 : Value) (v21 : Value) (v22 : Value) (v23 : Value) (v24 : Value) (v25 : Value) (f0 : Nat → Int32) (a0 : ClassId) (ef0_1 : f0 1 = (-1))  : CT l yX5_sample cX5_sample 3 (some .long) { frames := 1, cells := 0, slots := 0, locals := 21 } [.ref h0, .int 1, .int 2] D [(h0, .inr (5, [v0, .ref h1, v1, .ref h2, v2, v3, v4, v5, v6, v7])), (h1, .inr (0, [v8, v9, .int 2, v10, v11, v12, v13])), (h2, .inr (1, [v14, v15, v16, .ref h3, v17, v18, v19, v20, v21, v22, v23, v24, v25])), (h3, .inl (a0, 48, .inl f0))] [(a0, .int)] XN [] (el (fun _ : Unit => True) (fun _ => 1) (fun _ => []) (fun _ => []) D) 0 0 := by
  refine CT.ofR (by decide +kernel) (Nat.le_of_ble_eq_true rfl) ?_
  intro p e s m below meth c A ls hcs hP hK hD hX hA hS hl
  obtain ⟨hx, hb, hr, hml, hown, hg, hlocks, hin⟩ := hcs
  have hown : s.vm.findClass RX5 = some m.cls := hown
  have hl : lv_has ls 3 [(0, .ref h0), (1, .int 1), (2, .int 2)] := hl
  refine lv_iload_n hx hb dX5_sample_0 rfl (lv_at hl 1 rfl) ?_
  refine lv_aload_n hx hb dX5_sample_1 rfl (lv_at hl 0 rfl) ?_
  refine va_get (D := D) (ci := 5) (v := .ref h1) (C := RX5) (T := TX5) (N := 10) hx hb hg inX5 hown hK hP 0 rfl rfl 1 (by decide) (hg _ k380) (fun _ h9 => h9) rfl dX5_sample_2 ?_
  refine va_get (D := D) (ci := 0) (v := .int 2) (C := RX0) (T := TX0) (N := 7) hx hb hg inX0 hown hK hP 1 rfl rfl 2 (by decide) (hg _ k163) (fun _ h9 => h9) rfl dX5_sample_5 ?_
  refine cSv (n := 2) (As := [.int 1, .int 2]) (rest := []) (wr := [(h0, .inr (5, [v0, .ref h1, v1, .ref h2, v2, v3, v4, v5, v6, v7])), (h1, .inr (0, [v8, v9, .int 2, v10, v11, v12, v13])), (h2, .inr (1, [v14, v15, v16, .ref h3, v17, v18, v19, v20, v21, v22, v23, v24, v25])), (h3, .inl (a0, 48, .inl f0))]) (tr := [(a0, .int)]) hx hb hml hown hg okN (cX5_needIndex_355 l D) (mwS k610 k611 k84 k612) ⟨rfl, by decide, by decide, by decide +kernel⟩ ⟨rfl, rfl, (Nat.le_of_ble_eq_true rfl), (Nat.le_of_ble_eq_true rfl)⟩ hP hD hK hS xn [] [] [0, 1, 2, 3] [] [0] rfl (by decide) rfl rfl (by decide) (by decide) rfl rfl (aNil hA hS) (fun _ _ => trivial) rfl hl.1 rfl (Nat.le_of_ble_eq_true rfl) dX5_sample_8 ⟨(Nat.le_of_ble_eq_true rfl), (Nat.le_of_ble_eq_true rfl)⟩ (fun u H locs hφ hP hD hK hS hk => ?_)
  have hP : va_P D vwCl [(h0, .inr (5, [v0, .ref h1, v1, .ref h2, v2, v3, v4, v5, v6, v7])), (h1, .inr (0, [v8, v9, .int 2, v10, v11, v12, v13])), (h2, .inr (1, [v14, v15, v16, .ref h3, v17, v18, v19, v20, v21, v22, v23, v24, v25])), (h3, .inl (a0, 48, .inl f0))] H := hP
  have hD : va_D (fun _ => True) [(h0, .inr (5, [v0, .ref h1, v1, .ref h2, v2, v3, v4, v5, v6, v7])), (h1, .inr (0, [v8, v9, .int 2, v10, v11, v12, v13])), (h2, .inr (1, [v14, v15, v16, .ref h3, v17, v18, v19, v20, v21, v22, v23, v24, v25])), (h3, .inl (a0, 48, .inl f0))] := hD
  have hK : va_K D vwCl [(a0, .int)] s := hK
  refine W.widen (k := 0) (n := 0) (Nat.le_of_ble_eq_true rfl) (Nat.le_of_ble_eq_true rfl) ?_
  refine lv_iload_n hx hb dX5_sample_11 rfl (lv_at hl 2 rfl) ?_
  refine lv_tableIn (off := 62) (tgt := 74) hx hb dX5_sample_12 (by decide) (by decide) (by decide) (by decide) ?_
  refine lv_aload_n hx hb dX5_sample_74 rfl (lv_at hl 0 rfl) ?_
  refine va_get (D := D) (ci := 5) (v := .ref h2) (C := RX5) (T := TX5) (N := 10) hx hb hg inX5 hown hK hP 0 rfl rfl 3 (by decide) (hg _ k382) (fun _ h9 => h9) rfl dX5_sample_75 ?_
  refine lv_iload_n hx hb dX5_sample_78 rfl (lv_at hl 1 rfl) ?_
  refine cVi (n := 1) (As := [.int 1]) (rest := []) (wr := [(h0, .inr (5, [v0, .ref h1, v1, .ref h2, v2, v3, v4, v5, v6, v7])), (h1, .inr (0, [v8, v9, .int 2, v10, v11, v12, v13])), (h2, .inr (1, [v14, v15, v16, .ref h3, v17, v18, v19, v20, v21, v22, v23, v24, v25])), (h3, .inl (a0, 48, .inl f0))]) (tr := [(a0, .int)]) hx hb hml hown hg okN (cX1_isPresent_337 l D h2 h3 v14 v15 v16 v17 v18 v19 v20 v21 v22 v23 v24 v25 f0 a0 ef0_1) (mwV k861 k460 k461 k87 k462) ⟨rfl, by decide, by decide, by decide +kernel⟩ ⟨rfl, rfl, (Nat.le_of_ble_eq_true rfl), (Nat.le_of_ble_eq_true rfl)⟩ hP hD hK hS xn [2, 3] [] [0, 1, 2, 3] [0] [0] rfl (by decide) rfl rfl (by decide) (by decide) rfl rfl (aNil hA hS) (fun _ _ => trivial) 2 rfl rfl rfl hl.1 rfl (Nat.le_of_ble_eq_true rfl) dX5_sample_79 ⟨(Nat.le_of_ble_eq_true rfl), (Nat.le_of_ble_eq_true rfl)⟩ (fun u H locs hφ hP hD hK hS hk => ?_)
  have hP : va_P D vwCl [(h0, .inr (5, [v0, .ref h1, v1, .ref h2, v2, v3, v4, v5, v6, v7])), (h1, .inr (0, [v8, v9, .int 2, v10, v11, v12, v13])), (h2, .inr (1, [v14, v15, v16, .ref h3, v17, v18, v19, v20, v21, v22, v23, v24, v25])), (h3, .inl (a0, 48, .inl f0))] H := hP
  have hD : va_D (fun _ => True) [(h0, .inr (5, [v0, .ref h1, v1, .ref h2, v2, v3, v4, v5, v6, v7])), (h1, .inr (0, [v8, v9, .int 2, v10, v11, v12, v13])), (h2, .inr (1, [v14, v15, v16, .ref h3, v17, v18, v19, v20, v21, v22, v23, v24, v25])), (h3, .inl (a0, 48, .inl f0))] := hD
  have hK : va_K D vwCl [(a0, .int)] s := hK
  refine W.widen (k := 0) (n := 0) (Nat.le_of_ble_eq_true rfl) (Nat.le_of_ble_eq_true rfl) ?_
  refine lv_if_eq (tgt := 89) hx hb dX5_sample_82 (by decide) (fun c9 => absurd c9 (by decide)) (fun _ => ?_)
  refine lv_lconst (v := 1) hx hb dX5_sample_85 (by decide) ?_
  refine lv_goto (tgt := 90) hx hb dX5_sample_86 (by decide) ?_
  exact fl0 hx hb hr hlocks hK hS (Nat.le_of_ble_eq_true rfl) (Nat.le_of_ble_eq_true rfl) dX5_sample_90
set_option maxHeartbeats 4000000 in
set_option maxRecDepth 100000 in
theorem cX5_sample_359 (l : Launch) (D : va_G) (h0 : Nat) (h1 : Nat) (h2 : Nat) (h3 : Nat) (h4 : Nat) (h5 : Nat) (v0 : Value) (v1 : Value) (v2 : Value) (v3 : Value) (v4 : Value) (v5 : Value) (v6 : Value) (v7 : Value) (v8 : Value) (v9 : Value) (v10 : Value) (v11 : Value) (v12 : Value) (v13 : Value) (v14 : Value) (v15 : Value) (v16 : Value) (v17 : Value) (v18 : Value) (v19 : Value) (v20 : Value) (v21 : Value) (v22 : Value) (v23 : Value) (v24 : Value) (f0 : Nat → Int32) (f1 : Nat → Option Nat) (v25 : Value) (a0 : ClassId) (a1 : ClassId) (ef0_1 : f0 1 = (-1)) (ef1_1 : f1 1 = some h5)  : CT l yX5_sample cX5_sample 3 (some .long) { frames := 3, cells := 0, slots := 0, locals := 66 } [.ref h0, .int 1, .int 3] D [(h0, .inr (5, [v0, .ref h1, v1, .ref h2, v2, v3, v4, v5, v6, v7])), (h1, .inr (0, [v8, v9, .int 2, v10, v11, v12, v13])), (h2, .inr (1, [v14, .ref h4, v15, .ref h3, v16, v17, v18, v19, v20, v21, v22, v23, v24])), (h3, .inl (a0, 48, .inl f0)), (h4, .inl (a1, 48, .inr (.inr (.inr (.inr f1))))), (h5, .inr (4, [v25, .int 0, .int 0]))] [(a0, .int), (a1, .object "LiftingSignal$Whole")] XN [] (el (fun _ : Unit => True) (fun _ => 0) (fun _ => []) (fun _ => []) D) 0 0 := by
  refine CT.ofR (by decide +kernel) (Nat.le_of_ble_eq_true rfl) ?_
  intro p e s m below meth c A ls hcs hP hK hD hX hA hS hl
  obtain ⟨hx, hb, hr, hml, hown, hg, hlocks, hin⟩ := hcs
  have hown : s.vm.findClass RX5 = some m.cls := hown
  have hl : lv_has ls 3 [(0, .ref h0), (1, .int 1), (2, .int 3)] := hl
  refine lv_iload_n hx hb dX5_sample_0 rfl (lv_at hl 1 rfl) ?_
  refine lv_aload_n hx hb dX5_sample_1 rfl (lv_at hl 0 rfl) ?_
  refine va_get (D := D) (ci := 5) (v := .ref h1) (C := RX5) (T := TX5) (N := 10) hx hb hg inX5 hown hK hP 0 rfl rfl 1 (by decide) (hg _ k380) (fun _ h9 => h9) rfl dX5_sample_2 ?_
  refine va_get (D := D) (ci := 0) (v := .int 2) (C := RX0) (T := TX0) (N := 7) hx hb hg inX0 hown hK hP 1 rfl rfl 2 (by decide) (hg _ k163) (fun _ h9 => h9) rfl dX5_sample_5 ?_
  refine cSv (n := 2) (As := [.int 1, .int 2]) (rest := []) (wr := [(h0, .inr (5, [v0, .ref h1, v1, .ref h2, v2, v3, v4, v5, v6, v7])), (h1, .inr (0, [v8, v9, .int 2, v10, v11, v12, v13])), (h2, .inr (1, [v14, .ref h4, v15, .ref h3, v16, v17, v18, v19, v20, v21, v22, v23, v24])), (h3, .inl (a0, 48, .inl f0)), (h4, .inl (a1, 48, .inr (.inr (.inr (.inr f1))))), (h5, .inr (4, [v25, .int 0, .int 0]))]) (tr := [(a0, .int), (a1, .object "LiftingSignal$Whole")]) hx hb hml hown hg okN (cX5_needIndex_355 l D) (mwS k610 k611 k84 k612) ⟨rfl, by decide, by decide, by decide +kernel⟩ ⟨rfl, rfl, (Nat.le_of_ble_eq_true rfl), (Nat.le_of_ble_eq_true rfl)⟩ hP hD hK hS xn [] [] [0, 1, 2, 3, 4, 5] [] [0, 1] rfl (by decide) rfl rfl (by decide) (by decide) rfl rfl (aNil hA hS) (fun _ _ => trivial) rfl hl.1 rfl (Nat.le_of_ble_eq_true rfl) dX5_sample_8 ⟨(Nat.le_of_ble_eq_true rfl), (Nat.le_of_ble_eq_true rfl)⟩ (fun u H locs hφ hP hD hK hS hk => ?_)
  have hP : va_P D vwCl [(h0, .inr (5, [v0, .ref h1, v1, .ref h2, v2, v3, v4, v5, v6, v7])), (h1, .inr (0, [v8, v9, .int 2, v10, v11, v12, v13])), (h2, .inr (1, [v14, .ref h4, v15, .ref h3, v16, v17, v18, v19, v20, v21, v22, v23, v24])), (h3, .inl (a0, 48, .inl f0)), (h4, .inl (a1, 48, .inr (.inr (.inr (.inr f1))))), (h5, .inr (4, [v25, .int 0, .int 0]))] H := hP
  have hD : va_D (fun _ => True) [(h0, .inr (5, [v0, .ref h1, v1, .ref h2, v2, v3, v4, v5, v6, v7])), (h1, .inr (0, [v8, v9, .int 2, v10, v11, v12, v13])), (h2, .inr (1, [v14, .ref h4, v15, .ref h3, v16, v17, v18, v19, v20, v21, v22, v23, v24])), (h3, .inl (a0, 48, .inl f0)), (h4, .inl (a1, 48, .inr (.inr (.inr (.inr f1))))), (h5, .inr (4, [v25, .int 0, .int 0]))] := hD
  have hK : va_K D vwCl [(a0, .int), (a1, .object "LiftingSignal$Whole")] s := hK
  refine W.widen (k := 0) (n := 0) (Nat.le_of_ble_eq_true rfl) (Nat.le_of_ble_eq_true rfl) ?_
  refine lv_iload_n hx hb dX5_sample_11 rfl (lv_at hl 2 rfl) ?_
  refine lv_tableIn (off := 79) (tgt := 91) hx hb dX5_sample_12 (by decide) (by decide) (by decide) (by decide) ?_
  refine lv_aload_n hx hb dX5_sample_91 rfl (lv_at hl 0 rfl) ?_
  refine va_get (D := D) (ci := 5) (v := .ref h2) (C := RX5) (T := TX5) (N := 10) hx hb hg inX5 hown hK hP 0 rfl rfl 3 (by decide) (hg _ k382) (fun _ h9 => h9) rfl dX5_sample_92 ?_
  refine lv_iload_n hx hb dX5_sample_95 rfl (lv_at hl 1 rfl) ?_
  refine cVi (n := 1) (As := [.int 1]) (rest := []) (wr := [(h0, .inr (5, [v0, .ref h1, v1, .ref h2, v2, v3, v4, v5, v6, v7])), (h1, .inr (0, [v8, v9, .int 2, v10, v11, v12, v13])), (h2, .inr (1, [v14, .ref h4, v15, .ref h3, v16, v17, v18, v19, v20, v21, v22, v23, v24])), (h3, .inl (a0, 48, .inl f0)), (h4, .inl (a1, 48, .inr (.inr (.inr (.inr f1))))), (h5, .inr (4, [v25, .int 0, .int 0]))]) (tr := [(a0, .int), (a1, .object "LiftingSignal$Whole")]) hx hb hml hown hg okN (cX1_isPresent_337 l D h2 h3 v14 (.ref h4) v15 v16 v17 v18 v19 v20 v21 v22 v23 v24 f0 a0 ef0_1) (mwV k861 k460 k461 k87 k462) ⟨rfl, by decide, by decide, by decide +kernel⟩ ⟨rfl, rfl, (Nat.le_of_ble_eq_true rfl), (Nat.le_of_ble_eq_true rfl)⟩ hP hD hK hS xn [2, 3] [] [0, 1, 2, 3, 4, 5] [0] [0, 1] rfl (by decide) rfl rfl (by decide) (by decide) rfl rfl (aNil hA hS) (fun _ _ => trivial) 2 rfl rfl rfl hl.1 rfl (Nat.le_of_ble_eq_true rfl) dX5_sample_96 ⟨(Nat.le_of_ble_eq_true rfl), (Nat.le_of_ble_eq_true rfl)⟩ (fun u H locs hφ hP hD hK hS hk => ?_)
  have hP : va_P D vwCl [(h0, .inr (5, [v0, .ref h1, v1, .ref h2, v2, v3, v4, v5, v6, v7])), (h1, .inr (0, [v8, v9, .int 2, v10, v11, v12, v13])), (h2, .inr (1, [v14, .ref h4, v15, .ref h3, v16, v17, v18, v19, v20, v21, v22, v23, v24])), (h3, .inl (a0, 48, .inl f0)), (h4, .inl (a1, 48, .inr (.inr (.inr (.inr f1))))), (h5, .inr (4, [v25, .int 0, .int 0]))] H := hP
  have hD : va_D (fun _ => True) [(h0, .inr (5, [v0, .ref h1, v1, .ref h2, v2, v3, v4, v5, v6, v7])), (h1, .inr (0, [v8, v9, .int 2, v10, v11, v12, v13])), (h2, .inr (1, [v14, .ref h4, v15, .ref h3, v16, v17, v18, v19, v20, v21, v22, v23, v24])), (h3, .inl (a0, 48, .inl f0)), (h4, .inl (a1, 48, .inr (.inr (.inr (.inr f1))))), (h5, .inr (4, [v25, .int 0, .int 0]))] := hD
  have hK : va_K D vwCl [(a0, .int), (a1, .object "LiftingSignal$Whole")] s := hK
  refine W.widen (k := 0) (n := 0) (Nat.le_of_ble_eq_true rfl) (Nat.le_of_ble_eq_true rfl) ?_
  refine lv_if_eq (tgt := 117) hx hb dX5_sample_99 (by decide) (fun c9 => absurd c9 (by decide)) (fun _ => ?_)
  refine lv_aload_n hx hb dX5_sample_102 rfl (lv_at hl 0 rfl) ?_
  refine va_get (D := D) (ci := 5) (v := .ref h2) (C := RX5) (T := TX5) (N := 10) hx hb hg inX5 hown hK hP 0 rfl rfl 3 (by decide) (hg _ k382) (fun _ h9 => h9) rfl dX5_sample_103 ?_
  refine va_get (D := D) (ci := 1) (v := .ref h4) (C := RX1) (T := TX1) (N := 13) hx hb hg inX1 hown hK hP 2 rfl rfl 1 (by decide) (hg _ k280) (fun _ h9 => h9) rfl dX5_sample_106 ?_
  refine lv_iload_n hx hb dX5_sample_109 rfl (lv_at hl 1 rfl) ?_
  refine aldQ hx hb hK hP 4 1 rfl rfl 1 (by decide) (vin (by decide)) (v := h5) ef1_1 dX5_sample_110 ?_
  refine cVl (n := 0) (As := []) (rest := []) (wr := [(h0, .inr (5, [v0, .ref h1, v1, .ref h2, v2, v3, v4, v5, v6, v7])), (h1, .inr (0, [v8, v9, .int 2, v10, v11, v12, v13])), (h2, .inr (1, [v14, .ref h4, v15, .ref h3, v16, v17, v18, v19, v20, v21, v22, v23, v24])), (h3, .inl (a0, 48, .inl f0)), (h4, .inl (a1, 48, .inr (.inr (.inr (.inr f1))))), (h5, .inr (4, [v25, .int 0, .int 0]))]) (tr := [(a0, .int), (a1, .object "LiftingSignal$Whole")]) hx hb hml hown hg okN (cX4_toLong_348 l D h5 v25) (mwV k435 k436 k437 k88 k438) ⟨rfl, by decide, by decide, by decide +kernel⟩ ⟨rfl, rfl, (Nat.le_of_ble_eq_true rfl), (Nat.le_of_ble_eq_true rfl)⟩ hP hD hK hS xn [5] [] [0, 1, 2, 3, 4, 5] [] [0, 1] rfl (by decide) rfl rfl (by decide) (by decide) rfl rfl (aNil hA hS) (fun _ _ => trivial) 5 rfl rfl rfl hl.1 rfl (Nat.le_of_ble_eq_true rfl) dX5_sample_111 ⟨(Nat.le_of_ble_eq_true rfl), (Nat.le_of_ble_eq_true rfl)⟩ (fun u H locs hφ hP hD hK hS hk => ?_)
  have hP : va_P D vwCl [(h0, .inr (5, [v0, .ref h1, v1, .ref h2, v2, v3, v4, v5, v6, v7])), (h1, .inr (0, [v8, v9, .int 2, v10, v11, v12, v13])), (h2, .inr (1, [v14, .ref h4, v15, .ref h3, v16, v17, v18, v19, v20, v21, v22, v23, v24])), (h3, .inl (a0, 48, .inl f0)), (h4, .inl (a1, 48, .inr (.inr (.inr (.inr f1))))), (h5, .inr (4, [v25, .int 0, .int 0]))] H := hP
  have hD : va_D (fun _ => True) [(h0, .inr (5, [v0, .ref h1, v1, .ref h2, v2, v3, v4, v5, v6, v7])), (h1, .inr (0, [v8, v9, .int 2, v10, v11, v12, v13])), (h2, .inr (1, [v14, .ref h4, v15, .ref h3, v16, v17, v18, v19, v20, v21, v22, v23, v24])), (h3, .inl (a0, 48, .inl f0)), (h4, .inl (a1, 48, .inr (.inr (.inr (.inr f1))))), (h5, .inr (4, [v25, .int 0, .int 0]))] := hD
  have hK : va_K D vwCl [(a0, .int), (a1, .object "LiftingSignal$Whole")] s := hK
  refine W.widen (k := 0) (n := 0) (Nat.le_of_ble_eq_true rfl) (Nat.le_of_ble_eq_true rfl) ?_
  refine lv_goto (tgt := 120) hx hb dX5_sample_114 (by decide) ?_
  exact fl0 hx hb hr hlocks hK hS (Nat.le_of_ble_eq_true rfl) (Nat.le_of_ble_eq_true rfl) dX5_sample_120
set_option maxHeartbeats 4000000 in
set_option maxRecDepth 100000 in
theorem cX5_sample_360 (l : Launch) (D : va_G) (h0 : Nat) (h1 : Nat) (h2 : Nat) (h3 : Nat) (v0 : Value) (v1 : Value) (v2 : Value) (v3 : Value) (v4 : Value) (v5 : Value) (v6 : Value) (v7 : Value) (v8 : Value) (v9 : Value) (v10 : Value) (v11 : Value) (v12 : Value) (v13 : Value) (v14 : Value) (v15 : Value) (v16 : Value) (v17 : Value) (v18 : Value) (v19 : Value) (v20 : Value) (v21 : Value) (v22 : Value) (v23 : Value) (v24 : Value) (v25 : Value) (f0 : Nat → Int64) (a0 : ClassId) (ef0_1 : f0 1 = 1)  : CT l yX5_sample cX5_sample 3 (some .long) { frames := 1, cells := 0, slots := 0, locals := 21 } [.ref h0, .int 1, .int 4] D [(h0, .inr (5, [v0, .ref h1, v1, .ref h2, v2, v3, v4, v5, v6, v7])), (h1, .inr (0, [v8, v9, .int 2, v10, v11, v12, v13])), (h2, .inr (1, [v14, v15, .ref h3, v16, v17, v18, v19, v20, v21, v22, v23, v24, v25])), (h3, .inl (a0, 48, .inr (.inl f0)))] [(a0, .long)] XN [] (el (fun _ : Unit => True) (fun _ => 1) (fun _ => []) (fun _ => []) D) 0 0 := by
  refine CT.ofR (by decide +kernel) (Nat.le_of_ble_eq_true rfl) ?_
  intro p e s m below meth c A ls hcs hP hK hD hX hA hS hl
  obtain ⟨hx, hb, hr, hml, hown, hg, hlocks, hin⟩ := hcs
  have hown : s.vm.findClass RX5 = some m.cls := hown
  have hl : lv_has ls 3 [(0, .ref h0), (1, .int 1), (2, .int 4)] := hl
  refine lv_iload_n hx hb dX5_sample_0 rfl (lv_at hl 1 rfl) ?_
  refine lv_aload_n hx hb dX5_sample_1 rfl (lv_at hl 0 rfl) ?_
  refine va_get (D := D) (ci := 5) (v := .ref h1) (C := RX5) (T := TX5) (N := 10) hx hb hg inX5 hown hK hP 0 rfl rfl 1 (by decide) (hg _ k380) (fun _ h9 => h9) rfl dX5_sample_2 ?_
  refine va_get (D := D) (ci := 0) (v := .int 2) (C := RX0) (T := TX0) (N := 7) hx hb hg inX0 hown hK hP 1 rfl rfl 2 (by decide) (hg _ k163) (fun _ h9 => h9) rfl dX5_sample_5 ?_
  refine cSv (n := 2) (As := [.int 1, .int 2]) (rest := []) (wr := [(h0, .inr (5, [v0, .ref h1, v1, .ref h2, v2, v3, v4, v5, v6, v7])), (h1, .inr (0, [v8, v9, .int 2, v10, v11, v12, v13])), (h2, .inr (1, [v14, v15, .ref h3, v16, v17, v18, v19, v20, v21, v22, v23, v24, v25])), (h3, .inl (a0, 48, .inr (.inl f0)))]) (tr := [(a0, .long)]) hx hb hml hown hg okN (cX5_needIndex_355 l D) (mwS k610 k611 k84 k612) ⟨rfl, by decide, by decide, by decide +kernel⟩ ⟨rfl, rfl, (Nat.le_of_ble_eq_true rfl), (Nat.le_of_ble_eq_true rfl)⟩ hP hD hK hS xn [] [] [0, 1, 2, 3] [] [0] rfl (by decide) rfl rfl (by decide) (by decide) rfl rfl (aNil hA hS) (fun _ _ => trivial) rfl hl.1 rfl (Nat.le_of_ble_eq_true rfl) dX5_sample_8 ⟨(Nat.le_of_ble_eq_true rfl), (Nat.le_of_ble_eq_true rfl)⟩ (fun u H locs hφ hP hD hK hS hk => ?_)
  have hP : va_P D vwCl [(h0, .inr (5, [v0, .ref h1, v1, .ref h2, v2, v3, v4, v5, v6, v7])), (h1, .inr (0, [v8, v9, .int 2, v10, v11, v12, v13])), (h2, .inr (1, [v14, v15, .ref h3, v16, v17, v18, v19, v20, v21, v22, v23, v24, v25])), (h3, .inl (a0, 48, .inr (.inl f0)))] H := hP
  have hD : va_D (fun _ => True) [(h0, .inr (5, [v0, .ref h1, v1, .ref h2, v2, v3, v4, v5, v6, v7])), (h1, .inr (0, [v8, v9, .int 2, v10, v11, v12, v13])), (h2, .inr (1, [v14, v15, .ref h3, v16, v17, v18, v19, v20, v21, v22, v23, v24, v25])), (h3, .inl (a0, 48, .inr (.inl f0)))] := hD
  have hK : va_K D vwCl [(a0, .long)] s := hK
  refine W.widen (k := 0) (n := 0) (Nat.le_of_ble_eq_true rfl) (Nat.le_of_ble_eq_true rfl) ?_
  refine lv_iload_n hx hb dX5_sample_11 rfl (lv_at hl 2 rfl) ?_
  refine lv_tableIn (off := 109) (tgt := 121) hx hb dX5_sample_12 (by decide) (by decide) (by decide) (by decide) ?_
  refine lv_aload_n hx hb dX5_sample_121 rfl (lv_at hl 0 rfl) ?_
  refine va_get (D := D) (ci := 5) (v := .ref h2) (C := RX5) (T := TX5) (N := 10) hx hb hg inX5 hown hK hP 0 rfl rfl 3 (by decide) (hg _ k382) (fun _ h9 => h9) rfl dX5_sample_122 ?_
  refine va_get (D := D) (ci := 1) (v := .ref h3) (C := RX1) (T := TX1) (N := 13) hx hb hg inX1 hown hK hP 2 rfl rfl 2 (by decide) (hg _ k282) (fun _ h9 => h9) rfl dX5_sample_125 ?_
  refine lv_iload_n hx hb dX5_sample_128 rfl (lv_at hl 1 rfl) ?_
  refine aldL hx hb hK hP 3 0 rfl rfl 1 (by decide) (vin (by decide)) (v := 1) ef0_1 dX5_sample_129 ?_
  exact fl0 hx hb hr hlocks hK hS (Nat.le_of_ble_eq_true rfl) (Nat.le_of_ble_eq_true rfl) dX5_sample_130
set_option maxHeartbeats 4000000 in
set_option maxRecDepth 100000 in
theorem cX5_sample_361 (l : Launch) (D : va_G) (h0 : Nat) (h1 : Nat) (h2 : Nat) (h3 : Nat) (v0 : Value) (v1 : Value) (v2 : Value) (v3 : Value) (v4 : Value) (v5 : Value) (v6 : Value) (v7 : Value) (v8 : Value) (v9 : Value) (v10 : Value) (v11 : Value) (v12 : Value) (v13 : Value) (v14 : Value) (v15 : Value) (v16 : Value) (v17 : Value) (v18 : Value) (v19 : Value) (v20 : Value) (v21 : Value) (v22 : Value) (v23 : Value) (v24 : Value) (v25 : Value) (f0 : Nat → Int32) (a0 : ClassId) (ef0_1 : f0 1 = (-1))  : CT l yX5_sample cX5_sample 3 (some .long) { frames := 1, cells := 0, slots := 0, locals := 21 } [.ref h0, .int 1, .int 5] D [(h0, .inr (5, [v0, .ref h1, v1, .ref h2, v2, v3, v4, v5, v6, v7])), (h1, .inr (0, [v8, v9, .int 2, v10, v11, v12, v13])), (h2, .inr (1, [v14, v15, v16, .ref h3, v17, v18, v19, v20, v21, v22, v23, v24, v25])), (h3, .inl (a0, 48, .inl f0))] [(a0, .int)] XN [] (el (fun _ : Unit => True) (fun _ => (-1)) (fun _ => []) (fun _ => []) D) 0 0 := by
  refine CT.ofR (by decide +kernel) (Nat.le_of_ble_eq_true rfl) ?_
  intro p e s m below meth c A ls hcs hP hK hD hX hA hS hl
  obtain ⟨hx, hb, hr, hml, hown, hg, hlocks, hin⟩ := hcs
  have hown : s.vm.findClass RX5 = some m.cls := hown
  have hl : lv_has ls 3 [(0, .ref h0), (1, .int 1), (2, .int 5)] := hl
  refine lv_iload_n hx hb dX5_sample_0 rfl (lv_at hl 1 rfl) ?_
  refine lv_aload_n hx hb dX5_sample_1 rfl (lv_at hl 0 rfl) ?_
  refine va_get (D := D) (ci := 5) (v := .ref h1) (C := RX5) (T := TX5) (N := 10) hx hb hg inX5 hown hK hP 0 rfl rfl 1 (by decide) (hg _ k380) (fun _ h9 => h9) rfl dX5_sample_2 ?_
  refine va_get (D := D) (ci := 0) (v := .int 2) (C := RX0) (T := TX0) (N := 7) hx hb hg inX0 hown hK hP 1 rfl rfl 2 (by decide) (hg _ k163) (fun _ h9 => h9) rfl dX5_sample_5 ?_
  refine cSv (n := 2) (As := [.int 1, .int 2]) (rest := []) (wr := [(h0, .inr (5, [v0, .ref h1, v1, .ref h2, v2, v3, v4, v5, v6, v7])), (h1, .inr (0, [v8, v9, .int 2, v10, v11, v12, v13])), (h2, .inr (1, [v14, v15, v16, .ref h3, v17, v18, v19, v20, v21, v22, v23, v24, v25])), (h3, .inl (a0, 48, .inl f0))]) (tr := [(a0, .int)]) hx hb hml hown hg okN (cX5_needIndex_355 l D) (mwS k610 k611 k84 k612) ⟨rfl, by decide, by decide, by decide +kernel⟩ ⟨rfl, rfl, (Nat.le_of_ble_eq_true rfl), (Nat.le_of_ble_eq_true rfl)⟩ hP hD hK hS xn [] [] [0, 1, 2, 3] [] [0] rfl (by decide) rfl rfl (by decide) (by decide) rfl rfl (aNil hA hS) (fun _ _ => trivial) rfl hl.1 rfl (Nat.le_of_ble_eq_true rfl) dX5_sample_8 ⟨(Nat.le_of_ble_eq_true rfl), (Nat.le_of_ble_eq_true rfl)⟩ (fun u H locs hφ hP hD hK hS hk => ?_)
  have hP : va_P D vwCl [(h0, .inr (5, [v0, .ref h1, v1, .ref h2, v2, v3, v4, v5, v6, v7])), (h1, .inr (0, [v8, v9, .int 2, v10, v11, v12, v13])), (h2, .inr (1, [v14, v15, v16, .ref h3, v17, v18, v19, v20, v21, v22, v23, v24, v25])), (h3, .inl (a0, 48, .inl f0))] H := hP
  have hD : va_D (fun _ => True) [(h0, .inr (5, [v0, .ref h1, v1, .ref h2, v2, v3, v4, v5, v6, v7])), (h1, .inr (0, [v8, v9, .int 2, v10, v11, v12, v13])), (h2, .inr (1, [v14, v15, v16, .ref h3, v17, v18, v19, v20, v21, v22, v23, v24, v25])), (h3, .inl (a0, 48, .inl f0))] := hD
  have hK : va_K D vwCl [(a0, .int)] s := hK
  refine W.widen (k := 0) (n := 0) (Nat.le_of_ble_eq_true rfl) (Nat.le_of_ble_eq_true rfl) ?_
  refine lv_iload_n hx hb dX5_sample_11 rfl (lv_at hl 2 rfl) ?_
  refine lv_tableIn (off := 119) (tgt := 131) hx hb dX5_sample_12 (by decide) (by decide) (by decide) (by decide) ?_
  refine lv_aload_n hx hb dX5_sample_131 rfl (lv_at hl 0 rfl) ?_
  refine va_get (D := D) (ci := 5) (v := .ref h2) (C := RX5) (T := TX5) (N := 10) hx hb hg inX5 hown hK hP 0 rfl rfl 3 (by decide) (hg _ k382) (fun _ h9 => h9) rfl dX5_sample_132 ?_
  refine va_get (D := D) (ci := 1) (v := .ref h3) (C := RX1) (T := TX1) (N := 13) hx hb hg inX1 hown hK hP 2 rfl rfl 3 (by decide) (hg _ k284) (fun _ h9 => h9) rfl dX5_sample_135 ?_
  refine lv_iload_n hx hb dX5_sample_138 rfl (lv_at hl 1 rfl) ?_
  refine aldI hx hb hK hP 3 0 rfl rfl 1 (by decide) (vin (by decide)) (v := (-1)) ef0_1 dX5_sample_139 ?_
  refine lv_i2l (v := (-1)) hx hb dX5_sample_140 (by decide) ?_
  exact fl0 hx hb hr hlocks hK hS (Nat.le_of_ble_eq_true rfl) (Nat.le_of_ble_eq_true rfl) dX5_sample_141
set_option maxHeartbeats 4000000 in
set_option maxRecDepth 100000 in
theorem cX5_present_362 (l : Launch) (D : va_G) (hlt : l.stackTraces = false) (h0 : Nat) (x0 : Int32) (h1 : Nat) (h2 : Nat) (v0 : Value) (v1 : Value) (v2 : Value) (v3 : Value) (v4 : Value) (v5 : Value) (v6 : Value) (v7 : Value) (v8 : Value) (v9 : Value) (v10 : Value) (v11 : Value) (v12 : Value) (v13 : Value) (v14 : Value) (v15 : Value) (v16 : Value) (v17 : Value) (v18 : Value) (v19 : Value) (v20 : Value) (v21 : Value) (v22 : Value) (v23 : Value) (v24 : Value) (v25 : Value)  (d0 : x0 < 0) : CX l yX5_present cX5_present 2 (some .int) { frames := 7, cells := 1, slots := 6, locals := 111 } [.ref h0, .int x0] D [(h0, .inr (5, [v0, v1, v2, .ref h1, v3, v4, v5, v6, v7, v8])), (h1, .inr (1, [.ref h2, v9, v10, v11, v12, .int 0, v13, v14, v15, v16, v17, v18, v19])), (h2, .inr (0, [v20, v21, .int 2, v22, v23, v24, v25]))] [] XX [] xi "java/lang/IndexOutOfBoundsException" 1 6 := by
  refine CX.ofR (by decide +kernel) (Nat.le_of_ble_eq_true rfl) ?_
  intro p e s m below meth c A ls hcs hout hP hK hD hX hA hS hl
  obtain ⟨hx, hb, hr, hml, hown, hg, hlocks, hin⟩ := hcs
  have hown : s.vm.findClass RX5 = some m.cls := hown
  have hl : lv_has ls 2 [(0, .ref h0), (1, .int x0)] := hl
  refine lv_iload_n hx hb dX5_present_0 rfl (lv_at hl 1 rfl) ?_
  refine lv_aload_n hx hb dX5_present_1 rfl (lv_at hl 0 rfl) ?_
  refine va_get (D := D) (ci := 5) (v := .ref h1) (C := RX5) (T := TX5) (N := 10) hx hb hg inX5 hown hK hP 0 rfl rfl 3 (by decide) (hg _ k382) (fun _ h9 => h9) rfl dX5_present_2 ?_
  refine cVi (n := 0) (As := []) (rest := [.int x0]) (wr := [(h0, .inr (5, [v0, v1, v2, .ref h1, v3, v4, v5, v6, v7, v8])), (h1, .inr (1, [.ref h2, v9, v10, v11, v12, .int 0, v13, v14, v15, v16, v17, v18, v19])), (h2, .inr (0, [v20, v21, .int 2, v22, v23, v24, v25]))]) (tr := []) hx hb hml hown hg okN (cX1_presentCount_326 l D h1 h2 v9 v10 v11 v12 v13 v14 v15 v16 v17 v18 v19 v20 v21 v22 v23 v24 v25) (mwV k488 k489 k490 k87 k491) ⟨rfl, by decide, by decide, by decide +kernel⟩ ⟨rfl, rfl, (Nat.le_of_ble_eq_true rfl), (Nat.le_of_ble_eq_true rfl)⟩ hP hD hK hS xn [1, 2] [] [0, 1, 2] [] [] rfl (by decide) rfl rfl (by decide) (by decide) rfl rfl (aNil hA hS) (fun _ _ => trivial) 1 rfl rfl rfl hl.1 rfl (Nat.le_of_ble_eq_true rfl) dX5_present_5 ⟨(Nat.le_of_ble_eq_true rfl), (Nat.le_of_ble_eq_true rfl)⟩ (fun u H locs hφ hP hD hK hS hk => ?_)
  have hP : va_P D vwCl [(h0, .inr (5, [v0, v1, v2, .ref h1, v3, v4, v5, v6, v7, v8])), (h1, .inr (1, [.ref h2, v9, v10, v11, v12, .int 0, v13, v14, v15, v16, v17, v18, v19])), (h2, .inr (0, [v20, v21, .int 2, v22, v23, v24, v25]))] H := hP
  have hD : va_D (fun _ => True) [(h0, .inr (5, [v0, v1, v2, .ref h1, v3, v4, v5, v6, v7, v8])), (h1, .inr (1, [.ref h2, v9, v10, v11, v12, .int 0, v13, v14, v15, v16, v17, v18, v19])), (h2, .inr (0, [v20, v21, .int 2, v22, v23, v24, v25]))] := hD
  have hK : va_K D vwCl [] s := hK
  refine W.widen (k := 0) (n := 0) (Nat.le_of_ble_eq_true rfl) (Nat.le_of_ble_eq_true rfl) ?_
  exact xSv (n := 2) (As := [.int x0, .int 2]) (rest := []) hx hb hml hown hg okXX (cX5_needIndex_339 l D hlt x0 d0) (mwS k610 k611 k84 k612) ⟨rfl, by decide, by decide, by decide +kernel⟩ ⟨rfl, rfl, (Nat.le_of_ble_eq_true rfl), (Nat.le_of_ble_eq_true rfl)⟩ hP hD hK hS (okXX.2.2 _ _ _ _ hS.2.1 hX) [] [] rfl (by decide) rfl (aNil hA hS) rfl hl.1 rfl (Nat.le_of_ble_eq_true rfl) dX5_present_8 ⟨(Nat.le_of_ble_eq_true rfl), (Nat.le_of_ble_eq_true rfl)⟩ hout hlocks (Nat.le_of_ble_eq_true rfl) (Nat.le_of_ble_eq_true rfl)
set_option maxHeartbeats 4000000 in
set_option maxRecDepth 100000 in
theorem cX1_presentAt_364 (l : Launch) (D : va_G) (h0 : Nat) (h1 : Nat) (h2 : Nat) (v0 : Value) (v1 : Value) (v2 : Value) (v3 : Value) (v4 : Value) (v5 : Value) (v6 : Value) (v7 : Value) (v8 : Value) (v9 : Value) (v10 : Value) (v11 : Value) (v12 : Value) (v13 : Value) (v14 : Value) (v15 : Value) (v16 : Value) (f0 : Nat → Int32) (a0 : ClassId) (ef0_0 : f0 0 = (-1))  : CT l yX1_presentAt cX1_presentAt 4 (some .int) { frames := 1, cells := 0, slots := 0, locals := 21 } [.ref h0, .int 0] D [(h0, .inr (1, [.ref h1, v0, v1, .ref h2, v2, v3, v4, v5, v6, v7, v8, v9, v10])), (h1, .inr (0, [v11, v12, .int 2, v13, v14, v15, v16])), (h2, .inl (a0, 48, .inl f0))] [(a0, .int)] XN [] (ei (fun _ : Unit => True) (fun _ => 0) (fun _ => []) (fun _ => []) D) 0 0 := by
  refine CT.ofR (by decide +kernel) (Nat.le_of_ble_eq_true rfl) ?_
  intro p e s m below meth c A ls hcs hP hK hD hX hA hS hl
  obtain ⟨hx, hb, hr, hml, hown, hg, hlocks, hin⟩ := hcs
  have hown : s.vm.findClass RX1 = some m.cls := hown
  have hl : lv_has ls 4 [(0, .ref h0), (1, .int 0)] := hl
  refine lv_iconst (v := 0) hx hb dX1_presentAt_0 (by decide) ?_
  refine lv_istore_n (lv' := [(2, .int 0), (0, .ref h0), (1, .int 0)]) hx hb dX1_presentAt_1 rfl hl (by decide) rfl (fun ls hl => ?_)
  refine lv_iconst (v := 0) hx hb dX1_presentAt_2 (by decide) ?_
  refine lv_istore_n (lv' := [(3, .int 0), (2, .int 0), (0, .ref h0), (1, .int 0)]) hx hb dX1_presentAt_3 rfl hl (by decide) rfl (fun ls hl => ?_)
  refine lv_iload_n hx hb dX1_presentAt_4 rfl (lv_at hl 0 rfl) ?_
  refine lv_aload_n hx hb dX1_presentAt_5 rfl (lv_at hl 2 rfl) ?_
  refine va_get (D := D) (ci := 1) (v := .ref h1) (C := RX1) (T := TX1) (N := 13) hx hb hg inX1 hown hK hP 0 rfl rfl 0 (by decide) (hg _ k278) (fun _ h9 => h9) rfl dX1_presentAt_6 ?_
  refine va_get (D := D) (ci := 0) (v := .int 2) (C := RX0) (T := TX0) (N := 7) hx hb hg inX0 hown hK hP 1 rfl rfl 2 (by decide) (hg _ k162) (fun _ h9 => h9) rfl dX1_presentAt_9 ?_
  refine lv_icmp_ge (tgt := 39) hx hb dX1_presentAt_12 (by decide) (fun c9 => absurd c9 (by decide)) (fun _ => ?_)
  refine lv_aload_n hx hb dX1_presentAt_15 rfl (lv_at hl 2 rfl) ?_
  refine lv_iload_n hx hb dX1_presentAt_16 rfl (lv_at hl 0 rfl) ?_
  refine cVi (n := 1) (As := [.int 0]) (rest := []) (wr := [(h0, .inr (1, [.ref h1, v0, v1, .ref h2, v2, v3, v4, v5, v6, v7, v8, v9, v10])), (h1, .inr (0, [v11, v12, .int 2, v13, v14, v15, v16])), (h2, .inl (a0, 48, .inl f0))]) (tr := [(a0, .int)]) hx hb hml hown hg okN (cX1_isPresent_336 l D h0 h2 (.ref h1) v0 v1 v2 v3 v4 v5 v6 v7 v8 v9 v10 f0 a0 ef0_0) (mwV k459 k460 k461 k87 k462) ⟨rfl, by decide, by decide, by decide +kernel⟩ ⟨rfl, rfl, (Nat.le_of_ble_eq_true rfl), (Nat.le_of_ble_eq_true rfl)⟩ hP hD hK hS xn [0, 2] [] [0, 1, 2] [0] [0] rfl (by decide) rfl rfl (by decide) (by decide) rfl rfl (aNil hA hS) (fun _ _ => trivial) 0 rfl rfl rfl hl.1 rfl (Nat.le_of_ble_eq_true rfl) dX1_presentAt_17 ⟨(Nat.le_of_ble_eq_true rfl), (Nat.le_of_ble_eq_true rfl)⟩ (fun u H locs hφ hP hD hK hS hk => ?_)
  have hP : va_P D vwCl [(h0, .inr (1, [.ref h1, v0, v1, .ref h2, v2, v3, v4, v5, v6, v7, v8, v9, v10])), (h1, .inr (0, [v11, v12, .int 2, v13, v14, v15, v16])), (h2, .inl (a0, 48, .inl f0))] H := hP
  have hD : va_D (fun _ => True) [(h0, .inr (1, [.ref h1, v0, v1, .ref h2, v2, v3, v4, v5, v6, v7, v8, v9, v10])), (h1, .inr (0, [v11, v12, .int 2, v13, v14, v15, v16])), (h2, .inl (a0, 48, .inl f0))] := hD
  have hK : va_K D vwCl [(a0, .int)] s := hK
  refine W.widen (k := 0) (n := 0) (Nat.le_of_ble_eq_true rfl) (Nat.le_of_ble_eq_true rfl) ?_
  refine lv_if_eq (tgt := 33) hx hb dX1_presentAt_20 (by decide) (fun c9 => absurd c9 (by decide)) (fun _ => ?_)
  refine lv_iload_n hx hb dX1_presentAt_23 rfl (lv_at hl 1 rfl) ?_
  refine lv_iload_n hx hb dX1_presentAt_24 rfl (lv_at hl 3 rfl) ?_
  refine lv_icmp_ne (tgt := 30) hx hb dX1_presentAt_25 (by decide) (fun c9 => absurd (by decide) c9) (fun _ => ?_)
  refine lv_iload_n hx hb dX1_presentAt_28 rfl (lv_at hl 0 rfl) ?_
  exact fi0 hx hb hr hlocks hK hS (Nat.le_of_ble_eq_true rfl) (Nat.le_of_ble_eq_true rfl) dX1_presentAt_29
set_option maxHeartbeats 4000000 in
set_option maxRecDepth 100000 in
theorem cX5_present_363 (l : Launch) (D : va_G) (h0 : Nat) (h1 : Nat) (h2 : Nat) (h3 : Nat) (v0 : Value) (v1 : Value) (v2 : Value) (v3 : Value) (v4 : Value) (v5 : Value) (v6 : Value) (v7 : Value) (v8 : Value) (v9 : Value) (v10 : Value) (v11 : Value) (v12 : Value) (v13 : Value) (v14 : Value) (v15 : Value) (v16 : Value) (v17 : Value) (v18 : Value) (v19 : Value) (v20 : Value) (v21 : Value) (v22 : Value) (v23 : Value) (v24 : Value) (f0 : Nat → Int32) (a0 : ClassId) (ef0_0 : f0 0 = (-1))  : CT l yX5_present cX5_present 2 (some .int) { frames := 2, cells := 0, slots := 0, locals := 44 } [.ref h0, .int 0] D [(h0, .inr (5, [v0, v1, v2, .ref h1, v3, v4, v5, v6, v7, v8])), (h1, .inr (1, [.ref h2, v9, v10, .ref h3, v11, .int 0, v12, v13, v14, v15, v16, v17, v18])), (h2, .inr (0, [v19, v20, .int 2, v21, v22, v23, v24])), (h3, .inl (a0, 48, .inl f0))] [(a0, .int)] XN [] (ei (fun _ : Unit => True) (fun _ => 0) (fun _ => []) (fun _ => []) D) 0 0 := by
  refine CT.ofR (by decide +kernel) (Nat.le_of_ble_eq_true rfl) ?_
  intro p e s m below meth c A ls hcs hP hK hD hX hA hS hl
  obtain ⟨hx, hb, hr, hml, hown, hg, hlocks, hin⟩ := hcs
  have hown : s.vm.findClass RX5 = some m.cls := hown
  have hl : lv_has ls 2 [(0, .ref h0), (1, .int 0)] := hl
  refine lv_iload_n hx hb dX5_present_0 rfl (lv_at hl 1 rfl) ?_
  refine lv_aload_n hx hb dX5_present_1 rfl (lv_at hl 0 rfl) ?_
  refine va_get (D := D) (ci := 5) (v := .ref h1) (C := RX5) (T := TX5) (N := 10) hx hb hg inX5 hown hK hP 0 rfl rfl 3 (by decide) (hg _ k382) (fun _ h9 => h9) rfl dX5_present_2 ?_
  refine cVi (n := 0) (As := []) (rest := [.int 0]) (wr := [(h0, .inr (5, [v0, v1, v2, .ref h1, v3, v4, v5, v6, v7, v8])), (h1, .inr (1, [.ref h2, v9, v10, .ref h3, v11, .int 0, v12, v13, v14, v15, v16, v17, v18])), (h2, .inr (0, [v19, v20, .int 2, v21, v22, v23, v24])), (h3, .inl (a0, 48, .inl f0))]) (tr := [(a0, .int)]) hx hb hml hown hg okN (cX1_presentCount_326 l D h1 h2 v9 v10 (.ref h3) v11 v12 v13 v14 v15 v16 v17 v18 v19 v20 v21 v22 v23 v24) (mwV k488 k489 k490 k87 k491) ⟨rfl, by decide, by decide, by decide +kernel⟩ ⟨rfl, rfl, (Nat.le_of_ble_eq_true rfl), (Nat.le_of_ble_eq_true rfl)⟩ hP hD hK hS xn [1, 2] [] [0, 1, 2, 3] [] [0] rfl (by decide) rfl rfl (by decide) (by decide) rfl rfl (aNil hA hS) (fun _ _ => trivial) 1 rfl rfl rfl hl.1 rfl (Nat.le_of_ble_eq_true rfl) dX5_present_5 ⟨(Nat.le_of_ble_eq_true rfl), (Nat.le_of_ble_eq_true rfl)⟩ (fun u H locs hφ hP hD hK hS hk => ?_)
  have hP : va_P D vwCl [(h0, .inr (5, [v0, v1, v2, .ref h1, v3, v4, v5, v6, v7, v8])), (h1, .inr (1, [.ref h2, v9, v10, .ref h3, v11, .int 0, v12, v13, v14, v15, v16, v17, v18])), (h2, .inr (0, [v19, v20, .int 2, v21, v22, v23, v24])), (h3, .inl (a0, 48, .inl f0))] H := hP
  have hD : va_D (fun _ => True) [(h0, .inr (5, [v0, v1, v2, .ref h1, v3, v4, v5, v6, v7, v8])), (h1, .inr (1, [.ref h2, v9, v10, .ref h3, v11, .int 0, v12, v13, v14, v15, v16, v17, v18])), (h2, .inr (0, [v19, v20, .int 2, v21, v22, v23, v24])), (h3, .inl (a0, 48, .inl f0))] := hD
  have hK : va_K D vwCl [(a0, .int)] s := hK
  refine W.widen (k := 0) (n := 0) (Nat.le_of_ble_eq_true rfl) (Nat.le_of_ble_eq_true rfl) ?_
  refine cSv (n := 2) (As := [.int 0, .int 2]) (rest := []) (wr := [(h0, .inr (5, [v0, v1, v2, .ref h1, v3, v4, v5, v6, v7, v8])), (h1, .inr (1, [.ref h2, v9, v10, .ref h3, v11, .int 0, v12, v13, v14, v15, v16, v17, v18])), (h2, .inr (0, [v19, v20, .int 2, v21, v22, v23, v24])), (h3, .inl (a0, 48, .inl f0))]) (tr := [(a0, .int)]) hx hb hml hown hg okN (cX5_needIndex_343 l D) (mwS k610 k611 k84 k612) ⟨rfl, by decide, by decide, by decide +kernel⟩ ⟨rfl, rfl, (Nat.le_of_ble_eq_true rfl), (Nat.le_of_ble_eq_true rfl)⟩ hP hD hK hS xn [] [] [0, 1, 2, 3] [] [0] rfl (by decide) rfl rfl (by decide) (by decide) rfl rfl (aNil hA hS) (fun _ _ => trivial) rfl hl.1 rfl (Nat.le_of_ble_eq_true rfl) dX5_present_8 ⟨(Nat.le_of_ble_eq_true rfl), (Nat.le_of_ble_eq_true rfl)⟩ (fun u H locs hφ hP hD hK hS hk => ?_)
  have hP : va_P D vwCl [(h0, .inr (5, [v0, v1, v2, .ref h1, v3, v4, v5, v6, v7, v8])), (h1, .inr (1, [.ref h2, v9, v10, .ref h3, v11, .int 0, v12, v13, v14, v15, v16, v17, v18])), (h2, .inr (0, [v19, v20, .int 2, v21, v22, v23, v24])), (h3, .inl (a0, 48, .inl f0))] H := hP
  have hD : va_D (fun _ => True) [(h0, .inr (5, [v0, v1, v2, .ref h1, v3, v4, v5, v6, v7, v8])), (h1, .inr (1, [.ref h2, v9, v10, .ref h3, v11, .int 0, v12, v13, v14, v15, v16, v17, v18])), (h2, .inr (0, [v19, v20, .int 2, v21, v22, v23, v24])), (h3, .inl (a0, 48, .inl f0))] := hD
  have hK : va_K D vwCl [(a0, .int)] s := hK
  refine W.widen (k := 0) (n := 0) (Nat.le_of_ble_eq_true rfl) (Nat.le_of_ble_eq_true rfl) ?_
  refine lv_aload_n hx hb dX5_present_11 rfl (lv_at hl 0 rfl) ?_
  refine va_get (D := D) (ci := 5) (v := .ref h1) (C := RX5) (T := TX5) (N := 10) hx hb hg inX5 hown hK hP 0 rfl rfl 3 (by decide) (hg _ k382) (fun _ h9 => h9) rfl dX5_present_12 ?_
  refine lv_iload_n hx hb dX5_present_15 rfl (lv_at hl 1 rfl) ?_
  refine cVi (n := 1) (As := [.int 0]) (rest := []) (wr := [(h0, .inr (5, [v0, v1, v2, .ref h1, v3, v4, v5, v6, v7, v8])), (h1, .inr (1, [.ref h2, v9, v10, .ref h3, v11, .int 0, v12, v13, v14, v15, v16, v17, v18])), (h2, .inr (0, [v19, v20, .int 2, v21, v22, v23, v24])), (h3, .inl (a0, 48, .inl f0))]) (tr := [(a0, .int)]) hx hb hml hown hg okN (cX1_presentAt_364 l D h1 h2 h3 v9 v10 v11 (.int 0) v12 v13 v14 v15 v16 v17 v18 v19 v20 v21 v22 v23 v24 f0 a0 ef0_0) (mwV k870 k871 k872 k87 k873) ⟨rfl, by decide, by decide, by decide +kernel⟩ ⟨rfl, rfl, (Nat.le_of_ble_eq_true rfl), (Nat.le_of_ble_eq_true rfl)⟩ hP hD hK hS xn [1, 2, 3] [] [0, 1, 2, 3] [0] [0] rfl (by decide) rfl rfl (by decide) (by decide) rfl rfl (aNil hA hS) (fun _ _ => trivial) 1 rfl rfl rfl hl.1 rfl (Nat.le_of_ble_eq_true rfl) dX5_present_16 ⟨(Nat.le_of_ble_eq_true rfl), (Nat.le_of_ble_eq_true rfl)⟩ (fun u H locs hφ hP hD hK hS hk => ?_)
  have hP : va_P D vwCl [(h0, .inr (5, [v0, v1, v2, .ref h1, v3, v4, v5, v6, v7, v8])), (h1, .inr (1, [.ref h2, v9, v10, .ref h3, v11, .int 0, v12, v13, v14, v15, v16, v17, v18])), (h2, .inr (0, [v19, v20, .int 2, v21, v22, v23, v24])), (h3, .inl (a0, 48, .inl f0))] H := hP
  have hD : va_D (fun _ => True) [(h0, .inr (5, [v0, v1, v2, .ref h1, v3, v4, v5, v6, v7, v8])), (h1, .inr (1, [.ref h2, v9, v10, .ref h3, v11, .int 0, v12, v13, v14, v15, v16, v17, v18])), (h2, .inr (0, [v19, v20, .int 2, v21, v22, v23, v24])), (h3, .inl (a0, 48, .inl f0))] := hD
  have hK : va_K D vwCl [(a0, .int)] s := hK
  refine W.widen (k := 0) (n := 0) (Nat.le_of_ble_eq_true rfl) (Nat.le_of_ble_eq_true rfl) ?_
  exact fi0 hx hb hr hlocks hK hS (Nat.le_of_ble_eq_true rfl) (Nat.le_of_ble_eq_true rfl) dX5_present_19
set_option maxHeartbeats 4000000 in
set_option maxRecDepth 100000 in
theorem cX1_presentAt_366 (l : Launch) (D : va_G) (h0 : Nat) (h1 : Nat) (h2 : Nat) (v0 : Value) (v1 : Value) (v2 : Value) (v3 : Value) (v4 : Value) (v5 : Value) (v6 : Value) (v7 : Value) (v8 : Value) (v9 : Value) (v10 : Value) (v11 : Value) (v12 : Value) (v13 : Value) (v14 : Value) (v15 : Value) (v16 : Value) (f0 : Nat → Int32) (a0 : ClassId) (ef0_0 : f0 0 = (-1)) (ef0_1 : f0 1 = (-1))  : CT l yX1_presentAt cX1_presentAt 4 (some .int) { frames := 1, cells := 0, slots := 0, locals := 21 } [.ref h0, .int 1] D [(h0, .inr (1, [.ref h1, v0, v1, .ref h2, v2, v3, v4, v5, v6, v7, v8, v9, v10])), (h1, .inr (0, [v11, v12, .int 2, v13, v14, v15, v16])), (h2, .inl (a0, 48, .inl f0))] [(a0, .int)] XN [] (ei (fun _ : Unit => True) (fun _ => 1) (fun _ => []) (fun _ => []) D) 0 0 := by
  refine CT.ofR (by decide +kernel) (Nat.le_of_ble_eq_true rfl) ?_
  intro p e s m below meth c A ls hcs hP hK hD hX hA hS hl
  obtain ⟨hx, hb, hr, hml, hown, hg, hlocks, hin⟩ := hcs
  have hown : s.vm.findClass RX1 = some m.cls := hown
  have hl : lv_has ls 4 [(0, .ref h0), (1, .int 1)] := hl
  refine lv_iconst (v := 0) hx hb dX1_presentAt_0 (by decide) ?_
  refine lv_istore_n (lv' := [(2, .int 0), (0, .ref h0), (1, .int 1)]) hx hb dX1_presentAt_1 rfl hl (by decide) rfl (fun ls hl => ?_)
  refine lv_iconst (v := 0) hx hb dX1_presentAt_2 (by decide) ?_
  refine lv_istore_n (lv' := [(3, .int 0), (2, .int 0), (0, .ref h0), (1, .int 1)]) hx hb dX1_presentAt_3 rfl hl (by decide) rfl (fun ls hl => ?_)
  refine lv_iload_n hx hb dX1_presentAt_4 rfl (lv_at hl 0 rfl) ?_
  refine lv_aload_n hx hb dX1_presentAt_5 rfl (lv_at hl 2 rfl) ?_
  refine va_get (D := D) (ci := 1) (v := .ref h1) (C := RX1) (T := TX1) (N := 13) hx hb hg inX1 hown hK hP 0 rfl rfl 0 (by decide) (hg _ k278) (fun _ h9 => h9) rfl dX1_presentAt_6 ?_
  refine va_get (D := D) (ci := 0) (v := .int 2) (C := RX0) (T := TX0) (N := 7) hx hb hg inX0 hown hK hP 1 rfl rfl 2 (by decide) (hg _ k162) (fun _ h9 => h9) rfl dX1_presentAt_9 ?_
  refine lv_icmp_ge (tgt := 39) hx hb dX1_presentAt_12 (by decide) (fun c9 => absurd c9 (by decide)) (fun _ => ?_)
  refine lv_aload_n hx hb dX1_presentAt_15 rfl (lv_at hl 2 rfl) ?_
  refine lv_iload_n hx hb dX1_presentAt_16 rfl (lv_at hl 0 rfl) ?_
  refine cVi (n := 1) (As := [.int 0]) (rest := []) (wr := [(h0, .inr (1, [.ref h1, v0, v1, .ref h2, v2, v3, v4, v5, v6, v7, v8, v9, v10])), (h1, .inr (0, [v11, v12, .int 2, v13, v14, v15, v16])), (h2, .inl (a0, 48, .inl f0))]) (tr := [(a0, .int)]) hx hb hml hown hg okN (cX1_isPresent_336 l D h0 h2 (.ref h1) v0 v1 v2 v3 v4 v5 v6 v7 v8 v9 v10 f0 a0 ef0_0) (mwV k459 k460 k461 k87 k462) ⟨rfl, by decide, by decide, by decide +kernel⟩ ⟨rfl, rfl, (Nat.le_of_ble_eq_true rfl), (Nat.le_of_ble_eq_true rfl)⟩ hP hD hK hS xn [0, 2] [] [0, 1, 2] [0] [0] rfl (by decide) rfl rfl (by decide) (by decide) rfl rfl (aNil hA hS) (fun _ _ => trivial) 0 rfl rfl rfl hl.1 rfl (Nat.le_of_ble_eq_true rfl) dX1_presentAt_17 ⟨(Nat.le_of_ble_eq_true rfl), (Nat.le_of_ble_eq_true rfl)⟩ (fun u H locs hφ hP hD hK hS hk => ?_)
  have hP : va_P D vwCl [(h0, .inr (1, [.ref h1, v0, v1, .ref h2, v2, v3, v4, v5, v6, v7, v8, v9, v10])), (h1, .inr (0, [v11, v12, .int 2, v13, v14, v15, v16])), (h2, .inl (a0, 48, .inl f0))] H := hP
  have hD : va_D (fun _ => True) [(h0, .inr (1, [.ref h1, v0, v1, .ref h2, v2, v3, v4, v5, v6, v7, v8, v9, v10])), (h1, .inr (0, [v11, v12, .int 2, v13, v14, v15, v16])), (h2, .inl (a0, 48, .inl f0))] := hD
  have hK : va_K D vwCl [(a0, .int)] s := hK
  refine W.widen (k := 0) (n := 0) (Nat.le_of_ble_eq_true rfl) (Nat.le_of_ble_eq_true rfl) ?_
  refine lv_if_eq (tgt := 33) hx hb dX1_presentAt_20 (by decide) (fun c9 => absurd c9 (by decide)) (fun _ => ?_)
  refine lv_iload_n hx hb dX1_presentAt_23 rfl (lv_at hl 1 rfl) ?_
  refine lv_iload_n hx hb dX1_presentAt_24 rfl (lv_at hl 3 rfl) ?_
  refine lv_icmp_ne (tgt := 30) hx hb dX1_presentAt_25 (by decide) (fun _ => ?_) (fun c9 => absurd c9 (by decide))
  refine lv_iinc (v := 1) (lv' := [(2, .int 1), (3, .int 0), (0, .ref h0), (1, .int 1)]) hx hb dX1_presentAt_30 hl (k := 1) rfl (by decide) (by decide) rfl (fun ls hl => ?_)
  refine lv_iinc (v := 1) (lv' := [(3, .int 1), (2, .int 1), (0, .ref h0), (1, .int 1)]) hx hb dX1_presentAt_33 hl (k := 1) rfl (by decide) (by decide) rfl (fun ls hl => ?_)
  refine lv_goto (tgt := 4) hx hb dX1_presentAt_36 (by decide) ?_
  refine lv_iload_n hx hb dX1_presentAt_4 rfl (lv_at hl 0 rfl) ?_
  refine lv_aload_n hx hb dX1_presentAt_5 rfl (lv_at hl 2 rfl) ?_
  refine va_get (D := D) (ci := 1) (v := .ref h1) (C := RX1) (T := TX1) (N := 13) hx hb hg inX1 hown hK hP 0 rfl rfl 0 (by decide) (hg _ k278) (fun _ h9 => h9) rfl dX1_presentAt_6 ?_
  refine va_get (D := D) (ci := 0) (v := .int 2) (C := RX0) (T := TX0) (N := 7) hx hb hg inX0 hown hK hP 1 rfl rfl 2 (by decide) (hg _ k162) (fun _ h9 => h9) rfl dX1_presentAt_9 ?_
  refine lv_icmp_ge (tgt := 39) hx hb dX1_presentAt_12 (by decide) (fun c9 => absurd c9 (by decide)) (fun _ => ?_)
  refine lv_aload_n hx hb dX1_presentAt_15 rfl (lv_at hl 2 rfl) ?_
  refine lv_iload_n hx hb dX1_presentAt_16 rfl (lv_at hl 0 rfl) ?_
  refine cVi (n := 1) (As := [.int 1]) (rest := []) (wr := [(h0, .inr (1, [.ref h1, v0, v1, .ref h2, v2, v3, v4, v5, v6, v7, v8, v9, v10])), (h1, .inr (0, [v11, v12, .int 2, v13, v14, v15, v16])), (h2, .inl (a0, 48, .inl f0))]) (tr := [(a0, .int)]) hx hb hml hown hg okN (cX1_isPresent_337 l D h0 h2 (.ref h1) v0 v1 v2 v3 v4 v5 v6 v7 v8 v9 v10 f0 a0 ef0_1) (mwV k459 k460 k461 k87 k462) ⟨rfl, by decide, by decide, by decide +kernel⟩ ⟨rfl, rfl, (Nat.le_of_ble_eq_true rfl), (Nat.le_of_ble_eq_true rfl)⟩ hP hD hK hS xn [0, 2] [] [0, 1, 2] [0] [0] rfl (by decide) rfl rfl (by decide) (by decide) rfl rfl (aNil hA hS) (fun _ _ => trivial) 0 rfl rfl rfl hl.1 rfl (Nat.le_of_ble_eq_true rfl) dX1_presentAt_17 ⟨(Nat.le_of_ble_eq_true rfl), (Nat.le_of_ble_eq_true rfl)⟩ (fun u H locs hφ hP hD hK hS hk => ?_)
  have hP : va_P D vwCl [(h0, .inr (1, [.ref h1, v0, v1, .ref h2, v2, v3, v4, v5, v6, v7, v8, v9, v10])), (h1, .inr (0, [v11, v12, .int 2, v13, v14, v15, v16])), (h2, .inl (a0, 48, .inl f0))] H := hP
  have hD : va_D (fun _ => True) [(h0, .inr (1, [.ref h1, v0, v1, .ref h2, v2, v3, v4, v5, v6, v7, v8, v9, v10])), (h1, .inr (0, [v11, v12, .int 2, v13, v14, v15, v16])), (h2, .inl (a0, 48, .inl f0))] := hD
  have hK : va_K D vwCl [(a0, .int)] s := hK
  refine W.widen (k := 0) (n := 0) (Nat.le_of_ble_eq_true rfl) (Nat.le_of_ble_eq_true rfl) ?_
  refine lv_if_eq (tgt := 33) hx hb dX1_presentAt_20 (by decide) (fun c9 => absurd c9 (by decide)) (fun _ => ?_)
  refine lv_iload_n hx hb dX1_presentAt_23 rfl (lv_at hl 1 rfl) ?_
  refine lv_iload_n hx hb dX1_presentAt_24 rfl (lv_at hl 3 rfl) ?_
  refine lv_icmp_ne (tgt := 30) hx hb dX1_presentAt_25 (by decide) (fun c9 => absurd (by decide) c9) (fun _ => ?_)
  refine lv_iload_n hx hb dX1_presentAt_28 rfl (lv_at hl 0 rfl) ?_
  exact fi0 hx hb hr hlocks hK hS (Nat.le_of_ble_eq_true rfl) (Nat.le_of_ble_eq_true rfl) dX1_presentAt_29
set_option maxHeartbeats 4000000 in
set_option maxRecDepth 100000 in
theorem cX5_present_365 (l : Launch) (D : va_G) (h0 : Nat) (h1 : Nat) (h2 : Nat) (h3 : Nat) (v0 : Value) (v1 : Value) (v2 : Value) (v3 : Value) (v4 : Value) (v5 : Value) (v6 : Value) (v7 : Value) (v8 : Value) (v9 : Value) (v10 : Value) (v11 : Value) (v12 : Value) (v13 : Value) (v14 : Value) (v15 : Value) (v16 : Value) (v17 : Value) (v18 : Value) (v19 : Value) (v20 : Value) (v21 : Value) (v22 : Value) (v23 : Value) (v24 : Value) (f0 : Nat → Int32) (a0 : ClassId) (ef0_0 : f0 0 = (-1)) (ef0_1 : f0 1 = (-1))  : CT l yX5_present cX5_present 2 (some .int) { frames := 2, cells := 0, slots := 0, locals := 44 } [.ref h0, .int 1] D [(h0, .inr (5, [v0, v1, v2, .ref h1, v3, v4, v5, v6, v7, v8])), (h1, .inr (1, [.ref h2, v9, v10, .ref h3, v11, .int 0, v12, v13, v14, v15, v16, v17, v18])), (h2, .inr (0, [v19, v20, .int 2, v21, v22, v23, v24])), (h3, .inl (a0, 48, .inl f0))] [(a0, .int)] XN [] (ei (fun _ : Unit => True) (fun _ => 1) (fun _ => []) (fun _ => []) D) 0 0 := by
  refine CT.ofR (by decide +kernel) (Nat.le_of_ble_eq_true rfl) ?_
  intro p e s m below meth c A ls hcs hP hK hD hX hA hS hl
  obtain ⟨hx, hb, hr, hml, hown, hg, hlocks, hin⟩ := hcs
  have hown : s.vm.findClass RX5 = some m.cls := hown
  have hl : lv_has ls 2 [(0, .ref h0), (1, .int 1)] := hl
  refine lv_iload_n hx hb dX5_present_0 rfl (lv_at hl 1 rfl) ?_
  refine lv_aload_n hx hb dX5_present_1 rfl (lv_at hl 0 rfl) ?_
  refine va_get (D := D) (ci := 5) (v := .ref h1) (C := RX5) (T := TX5) (N := 10) hx hb hg inX5 hown hK hP 0 rfl rfl 3 (by decide) (hg _ k382) (fun _ h9 => h9) rfl dX5_present_2 ?_
  refine cVi (n := 0) (As := []) (rest := [.int 1]) (wr := [(h0, .inr (5, [v0, v1, v2, .ref h1, v3, v4, v5, v6, v7, v8])), (h1, .inr (1, [.ref h2, v9, v10, .ref h3, v11, .int 0, v12, v13, v14, v15, v16, v17, v18])), (h2, .inr (0, [v19, v20, .int 2, v21, v22, v23, v24])), (h3, .inl (a0, 48, .inl f0))]) (tr := [(a0, .int)]) hx hb hml hown hg okN (cX1_presentCount_326 l D h1 h2 v9 v10 (.ref h3) v11 v12 v13 v14 v15 v16 v17 v18 v19 v20 v21 v22 v23 v24) (mwV k488 k489 k490 k87 k491) ⟨rfl, by decide, by decide, by decide +kernel⟩ ⟨rfl, rfl, (Nat.le_of_ble_eq_true rfl), (Nat.le_of_ble_eq_true rfl)⟩ hP hD hK hS xn [1, 2] [] [0, 1, 2, 3] [] [0] rfl (by decide) rfl rfl (by decide) (by decide) rfl rfl (aNil hA hS) (fun _ _ => trivial) 1 rfl rfl rfl hl.1 rfl (Nat.le_of_ble_eq_true rfl) dX5_present_5 ⟨(Nat.le_of_ble_eq_true rfl), (Nat.le_of_ble_eq_true rfl)⟩ (fun u H locs hφ hP hD hK hS hk => ?_)
  have hP : va_P D vwCl [(h0, .inr (5, [v0, v1, v2, .ref h1, v3, v4, v5, v6, v7, v8])), (h1, .inr (1, [.ref h2, v9, v10, .ref h3, v11, .int 0, v12, v13, v14, v15, v16, v17, v18])), (h2, .inr (0, [v19, v20, .int 2, v21, v22, v23, v24])), (h3, .inl (a0, 48, .inl f0))] H := hP
  have hD : va_D (fun _ => True) [(h0, .inr (5, [v0, v1, v2, .ref h1, v3, v4, v5, v6, v7, v8])), (h1, .inr (1, [.ref h2, v9, v10, .ref h3, v11, .int 0, v12, v13, v14, v15, v16, v17, v18])), (h2, .inr (0, [v19, v20, .int 2, v21, v22, v23, v24])), (h3, .inl (a0, 48, .inl f0))] := hD
  have hK : va_K D vwCl [(a0, .int)] s := hK
  refine W.widen (k := 0) (n := 0) (Nat.le_of_ble_eq_true rfl) (Nat.le_of_ble_eq_true rfl) ?_
  refine cSv (n := 2) (As := [.int 1, .int 2]) (rest := []) (wr := [(h0, .inr (5, [v0, v1, v2, .ref h1, v3, v4, v5, v6, v7, v8])), (h1, .inr (1, [.ref h2, v9, v10, .ref h3, v11, .int 0, v12, v13, v14, v15, v16, v17, v18])), (h2, .inr (0, [v19, v20, .int 2, v21, v22, v23, v24])), (h3, .inl (a0, 48, .inl f0))]) (tr := [(a0, .int)]) hx hb hml hown hg okN (cX5_needIndex_355 l D) (mwS k610 k611 k84 k612) ⟨rfl, by decide, by decide, by decide +kernel⟩ ⟨rfl, rfl, (Nat.le_of_ble_eq_true rfl), (Nat.le_of_ble_eq_true rfl)⟩ hP hD hK hS xn [] [] [0, 1, 2, 3] [] [0] rfl (by decide) rfl rfl (by decide) (by decide) rfl rfl (aNil hA hS) (fun _ _ => trivial) rfl hl.1 rfl (Nat.le_of_ble_eq_true rfl) dX5_present_8 ⟨(Nat.le_of_ble_eq_true rfl), (Nat.le_of_ble_eq_true rfl)⟩ (fun u H locs hφ hP hD hK hS hk => ?_)
  have hP : va_P D vwCl [(h0, .inr (5, [v0, v1, v2, .ref h1, v3, v4, v5, v6, v7, v8])), (h1, .inr (1, [.ref h2, v9, v10, .ref h3, v11, .int 0, v12, v13, v14, v15, v16, v17, v18])), (h2, .inr (0, [v19, v20, .int 2, v21, v22, v23, v24])), (h3, .inl (a0, 48, .inl f0))] H := hP
  have hD : va_D (fun _ => True) [(h0, .inr (5, [v0, v1, v2, .ref h1, v3, v4, v5, v6, v7, v8])), (h1, .inr (1, [.ref h2, v9, v10, .ref h3, v11, .int 0, v12, v13, v14, v15, v16, v17, v18])), (h2, .inr (0, [v19, v20, .int 2, v21, v22, v23, v24])), (h3, .inl (a0, 48, .inl f0))] := hD
  have hK : va_K D vwCl [(a0, .int)] s := hK
  refine W.widen (k := 0) (n := 0) (Nat.le_of_ble_eq_true rfl) (Nat.le_of_ble_eq_true rfl) ?_
  refine lv_aload_n hx hb dX5_present_11 rfl (lv_at hl 0 rfl) ?_
  refine va_get (D := D) (ci := 5) (v := .ref h1) (C := RX5) (T := TX5) (N := 10) hx hb hg inX5 hown hK hP 0 rfl rfl 3 (by decide) (hg _ k382) (fun _ h9 => h9) rfl dX5_present_12 ?_
  refine lv_iload_n hx hb dX5_present_15 rfl (lv_at hl 1 rfl) ?_
  refine cVi (n := 1) (As := [.int 1]) (rest := []) (wr := [(h0, .inr (5, [v0, v1, v2, .ref h1, v3, v4, v5, v6, v7, v8])), (h1, .inr (1, [.ref h2, v9, v10, .ref h3, v11, .int 0, v12, v13, v14, v15, v16, v17, v18])), (h2, .inr (0, [v19, v20, .int 2, v21, v22, v23, v24])), (h3, .inl (a0, 48, .inl f0))]) (tr := [(a0, .int)]) hx hb hml hown hg okN (cX1_presentAt_366 l D h1 h2 h3 v9 v10 v11 (.int 0) v12 v13 v14 v15 v16 v17 v18 v19 v20 v21 v22 v23 v24 f0 a0 ef0_0 ef0_1) (mwV k870 k871 k872 k87 k873) ⟨rfl, by decide, by decide, by decide +kernel⟩ ⟨rfl, rfl, (Nat.le_of_ble_eq_true rfl), (Nat.le_of_ble_eq_true rfl)⟩ hP hD hK hS xn [1, 2, 3] [] [0, 1, 2, 3] [0] [0] rfl (by decide) rfl rfl (by decide) (by decide) rfl rfl (aNil hA hS) (fun _ _ => trivial) 1 rfl rfl rfl hl.1 rfl (Nat.le_of_ble_eq_true rfl) dX5_present_16 ⟨(Nat.le_of_ble_eq_true rfl), (Nat.le_of_ble_eq_true rfl)⟩ (fun u H locs hφ hP hD hK hS hk => ?_)
  have hP : va_P D vwCl [(h0, .inr (5, [v0, v1, v2, .ref h1, v3, v4, v5, v6, v7, v8])), (h1, .inr (1, [.ref h2, v9, v10, .ref h3, v11, .int 0, v12, v13, v14, v15, v16, v17, v18])), (h2, .inr (0, [v19, v20, .int 2, v21, v22, v23, v24])), (h3, .inl (a0, 48, .inl f0))] H := hP
  have hD : va_D (fun _ => True) [(h0, .inr (5, [v0, v1, v2, .ref h1, v3, v4, v5, v6, v7, v8])), (h1, .inr (1, [.ref h2, v9, v10, .ref h3, v11, .int 0, v12, v13, v14, v15, v16, v17, v18])), (h2, .inr (0, [v19, v20, .int 2, v21, v22, v23, v24])), (h3, .inl (a0, 48, .inl f0))] := hD
  have hK : va_K D vwCl [(a0, .int)] s := hK
  refine W.widen (k := 0) (n := 0) (Nat.le_of_ble_eq_true rfl) (Nat.le_of_ble_eq_true rfl) ?_
  exact fi0 hx hb hr hlocks hK hS (Nat.le_of_ble_eq_true rfl) (Nat.le_of_ble_eq_true rfl) dX5_present_19
set_option maxHeartbeats 4000000 in
set_option maxRecDepth 100000 in
theorem cX5_present_367 (l : Launch) (D : va_G) (hlt : l.stackTraces = false) (h0 : Nat) (x0 : Int32) (h1 : Nat) (h2 : Nat) (v0 : Value) (v1 : Value) (v2 : Value) (v3 : Value) (v4 : Value) (v5 : Value) (v6 : Value) (v7 : Value) (v8 : Value) (v9 : Value) (v10 : Value) (v11 : Value) (v12 : Value) (v13 : Value) (v14 : Value) (v15 : Value) (v16 : Value) (v17 : Value) (v18 : Value) (v19 : Value) (v20 : Value) (v21 : Value) (v22 : Value) (v23 : Value) (v24 : Value) (v25 : Value)  (d0 : ¬ (x0 < 0)) (d1 : ¬ (x0 < 2)) : CX l yX5_present cX5_present 2 (some .int) { frames := 7, cells := 1, slots := 6, locals := 111 } [.ref h0, .int x0] D [(h0, .inr (5, [v0, v1, v2, .ref h1, v3, v4, v5, v6, v7, v8])), (h1, .inr (1, [.ref h2, v9, v10, v11, v12, .int 0, v13, v14, v15, v16, v17, v18, v19])), (h2, .inr (0, [v20, v21, .int 2, v22, v23, v24, v25]))] [] XX [] xi "java/lang/IndexOutOfBoundsException" 1 6 := by
  refine CX.ofR (by decide +kernel) (Nat.le_of_ble_eq_true rfl) ?_
  intro p e s m below meth c A ls hcs hout hP hK hD hX hA hS hl
  obtain ⟨hx, hb, hr, hml, hown, hg, hlocks, hin⟩ := hcs
  have hown : s.vm.findClass RX5 = some m.cls := hown
  have hl : lv_has ls 2 [(0, .ref h0), (1, .int x0)] := hl
  refine lv_iload_n hx hb dX5_present_0 rfl (lv_at hl 1 rfl) ?_
  refine lv_aload_n hx hb dX5_present_1 rfl (lv_at hl 0 rfl) ?_
  refine va_get (D := D) (ci := 5) (v := .ref h1) (C := RX5) (T := TX5) (N := 10) hx hb hg inX5 hown hK hP 0 rfl rfl 3 (by decide) (hg _ k382) (fun _ h9 => h9) rfl dX5_present_2 ?_
  refine cVi (n := 0) (As := []) (rest := [.int x0]) (wr := [(h0, .inr (5, [v0, v1, v2, .ref h1, v3, v4, v5, v6, v7, v8])), (h1, .inr (1, [.ref h2, v9, v10, v11, v12, .int 0, v13, v14, v15, v16, v17, v18, v19])), (h2, .inr (0, [v20, v21, .int 2, v22, v23, v24, v25]))]) (tr := []) hx hb hml hown hg okN (cX1_presentCount_326 l D h1 h2 v9 v10 v11 v12 v13 v14 v15 v16 v17 v18 v19 v20 v21 v22 v23 v24 v25) (mwV k488 k489 k490 k87 k491) ⟨rfl, by decide, by decide, by decide +kernel⟩ ⟨rfl, rfl, (Nat.le_of_ble_eq_true rfl), (Nat.le_of_ble_eq_true rfl)⟩ hP hD hK hS xn [1, 2] [] [0, 1, 2] [] [] rfl (by decide) rfl rfl (by decide) (by decide) rfl rfl (aNil hA hS) (fun _ _ => trivial) 1 rfl rfl rfl hl.1 rfl (Nat.le_of_ble_eq_true rfl) dX5_present_5 ⟨(Nat.le_of_ble_eq_true rfl), (Nat.le_of_ble_eq_true rfl)⟩ (fun u H locs hφ hP hD hK hS hk => ?_)
  have hP : va_P D vwCl [(h0, .inr (5, [v0, v1, v2, .ref h1, v3, v4, v5, v6, v7, v8])), (h1, .inr (1, [.ref h2, v9, v10, v11, v12, .int 0, v13, v14, v15, v16, v17, v18, v19])), (h2, .inr (0, [v20, v21, .int 2, v22, v23, v24, v25]))] H := hP
  have hD : va_D (fun _ => True) [(h0, .inr (5, [v0, v1, v2, .ref h1, v3, v4, v5, v6, v7, v8])), (h1, .inr (1, [.ref h2, v9, v10, v11, v12, .int 0, v13, v14, v15, v16, v17, v18, v19])), (h2, .inr (0, [v20, v21, .int 2, v22, v23, v24, v25]))] := hD
  have hK : va_K D vwCl [] s := hK
  refine W.widen (k := 0) (n := 0) (Nat.le_of_ble_eq_true rfl) (Nat.le_of_ble_eq_true rfl) ?_
  exact xSv (n := 2) (As := [.int x0, .int 2]) (rest := []) hx hb hml hown hg okXX (cX5_needIndex_341 l D hlt x0 d0 d1) (mwS k610 k611 k84 k612) ⟨rfl, by decide, by decide, by decide +kernel⟩ ⟨rfl, rfl, (Nat.le_of_ble_eq_true rfl), (Nat.le_of_ble_eq_true rfl)⟩ hP hD hK hS (okXX.2.2 _ _ _ _ hS.2.1 hX) [] [] rfl (by decide) rfl (aNil hA hS) rfl hl.1 rfl (Nat.le_of_ble_eq_true rfl) dX5_present_8 ⟨(Nat.le_of_ble_eq_true rfl), (Nat.le_of_ble_eq_true rfl)⟩ hout hlocks (Nat.le_of_ble_eq_true rfl) (Nat.le_of_ble_eq_true rfl)
set_option maxHeartbeats 4000000 in
set_option maxRecDepth 100000 in
theorem cX5_neighbour_368 (l : Launch) (D : va_G) (hlt : l.stackTraces = false) (h0 : Nat) (x0 : Int32) (h1 : Nat) (v0 : Value) (v1 : Value) (v2 : Value) (v3 : Value) (v4 : Value) (v5 : Value) (v6 : Value) (v7 : Value) (v8 : Value) (v9 : Value) (v10 : Value) (v11 : Value) (v12 : Value) (v13 : Value) (v14 : Value)  (d0 : x0 < 0) : CX l yX5_neighbour cX5_neighbour 3 (some .int) { frames := 7, cells := 1, slots := 6, locals := 111 } [.ref h0, .int x0, .int 0] D [(h0, .inr (5, [v0, .ref h1, v1, v2, v3, v4, v5, v6, v7, v8])), (h1, .inr (0, [v9, v10, .int 2, v11, v12, v13, v14]))] [] XX [] xi "java/lang/IndexOutOfBoundsException" 1 6 := by
  refine CX.ofR (by decide +kernel) (Nat.le_of_ble_eq_true rfl) ?_
  intro p e s m below meth c A ls hcs hout hP hK hD hX hA hS hl
  obtain ⟨hx, hb, hr, hml, hown, hg, hlocks, hin⟩ := hcs
  have hown : s.vm.findClass RX5 = some m.cls := hown
  have hl : lv_has ls 3 [(0, .ref h0), (1, .int x0), (2, .int 0)] := hl
  refine lv_iload_n hx hb dX5_neighbour_0 rfl (lv_at hl 1 rfl) ?_
  refine lv_aload_n hx hb dX5_neighbour_1 rfl (lv_at hl 0 rfl) ?_
  refine va_get (D := D) (ci := 5) (v := .ref h1) (C := RX5) (T := TX5) (N := 10) hx hb hg inX5 hown hK hP 0 rfl rfl 1 (by decide) (hg _ k380) (fun _ h9 => h9) rfl dX5_neighbour_2 ?_
  refine va_get (D := D) (ci := 0) (v := .int 2) (C := RX0) (T := TX0) (N := 7) hx hb hg inX0 hown hK hP 1 rfl rfl 2 (by decide) (hg _ k163) (fun _ h9 => h9) rfl dX5_neighbour_5 ?_
  exact xSv (n := 2) (As := [.int x0, .int 2]) (rest := []) hx hb hml hown hg okXX (cX5_needIndex_339 l D hlt x0 d0) (mwS k610 k611 k84 k612) ⟨rfl, by decide, by decide, by decide +kernel⟩ ⟨rfl, rfl, (Nat.le_of_ble_eq_true rfl), (Nat.le_of_ble_eq_true rfl)⟩ hP hD hK hS (okXX.2.2 _ _ _ _ hS.2.1 hX) [] [] rfl (by decide) rfl (aNil hA hS) rfl hl.1 rfl (Nat.le_of_ble_eq_true rfl) dX5_neighbour_8 ⟨(Nat.le_of_ble_eq_true rfl), (Nat.le_of_ble_eq_true rfl)⟩ hout hlocks (Nat.le_of_ble_eq_true rfl) (Nat.le_of_ble_eq_true rfl)
set_option maxHeartbeats 4000000 in
set_option maxRecDepth 100000 in
theorem cX5_neighbour_369 (l : Launch) (D : va_G) (hlt : l.stackTraces = false) (h0 : Nat) (x0 : Int32) (h1 : Nat) (v0 : Value) (v1 : Value) (v2 : Value) (v3 : Value) (v4 : Value) (v5 : Value) (v6 : Value) (v7 : Value) (v8 : Value) (v9 : Value) (v10 : Value) (v11 : Value) (v12 : Value) (v13 : Value) (v14 : Value)  (d0 : x0 < 0) : CX l yX5_neighbour cX5_neighbour 3 (some .int) { frames := 7, cells := 1, slots := 6, locals := 111 } [.ref h0, .int x0, .int 1] D [(h0, .inr (5, [v0, .ref h1, v1, v2, v3, v4, v5, v6, v7, v8])), (h1, .inr (0, [v9, v10, .int 2, v11, v12, v13, v14]))] [] XX [] xi "java/lang/IndexOutOfBoundsException" 1 6 := by
  refine CX.ofR (by decide +kernel) (Nat.le_of_ble_eq_true rfl) ?_
  intro p e s m below meth c A ls hcs hout hP hK hD hX hA hS hl
  obtain ⟨hx, hb, hr, hml, hown, hg, hlocks, hin⟩ := hcs
  have hown : s.vm.findClass RX5 = some m.cls := hown
  have hl : lv_has ls 3 [(0, .ref h0), (1, .int x0), (2, .int 1)] := hl
  refine lv_iload_n hx hb dX5_neighbour_0 rfl (lv_at hl 1 rfl) ?_
  refine lv_aload_n hx hb dX5_neighbour_1 rfl (lv_at hl 0 rfl) ?_
  refine va_get (D := D) (ci := 5) (v := .ref h1) (C := RX5) (T := TX5) (N := 10) hx hb hg inX5 hown hK hP 0 rfl rfl 1 (by decide) (hg _ k380) (fun _ h9 => h9) rfl dX5_neighbour_2 ?_
  refine va_get (D := D) (ci := 0) (v := .int 2) (C := RX0) (T := TX0) (N := 7) hx hb hg inX0 hown hK hP 1 rfl rfl 2 (by decide) (hg _ k163) (fun _ h9 => h9) rfl dX5_neighbour_5 ?_
  exact xSv (n := 2) (As := [.int x0, .int 2]) (rest := []) hx hb hml hown hg okXX (cX5_needIndex_339 l D hlt x0 d0) (mwS k610 k611 k84 k612) ⟨rfl, by decide, by decide, by decide +kernel⟩ ⟨rfl, rfl, (Nat.le_of_ble_eq_true rfl), (Nat.le_of_ble_eq_true rfl)⟩ hP hD hK hS (okXX.2.2 _ _ _ _ hS.2.1 hX) [] [] rfl (by decide) rfl (aNil hA hS) rfl hl.1 rfl (Nat.le_of_ble_eq_true rfl) dX5_neighbour_8 ⟨(Nat.le_of_ble_eq_true rfl), (Nat.le_of_ble_eq_true rfl)⟩ hout hlocks (Nat.le_of_ble_eq_true rfl) (Nat.le_of_ble_eq_true rfl)
set_option maxHeartbeats 4000000 in
set_option maxRecDepth 100000 in
theorem cX1_leftOf_371 (l : Launch) (D : va_G) (h0 : Nat)   : CT l yX1_leftOf cX1_leftOf 3 (some .int) { frames := 0, cells := 0, slots := 0, locals := 0 } [.ref h0, .int 0] D [] [] XN [] (ei (fun _ : Unit => True) (fun _ => (-1)) (fun _ => []) (fun _ => []) D) 0 0 := by
  refine CT.ofR (by decide +kernel) (Nat.le_of_ble_eq_true rfl) ?_
  intro p e s m below meth c A ls hcs hP hK hD hX hA hS hl
  obtain ⟨hx, hb, hr, hml, hown, hg, hlocks, hin⟩ := hcs
  have hown : s.vm.findClass RX1 = some m.cls := hown
  have hl : lv_has ls 3 [(0, .ref h0), (1, .int 0)] := hl
  refine lv_iload_n hx hb dX1_leftOf_0 rfl (lv_at hl 1 rfl) ?_
  refine lv_iconst (v := 1) hx hb dX1_leftOf_1 (by decide) ?_
  refine lv_isub hx hb dX1_leftOf_2 ?_
  refine ti ((-1)) (by decide) ?_
  refine lv_istore_n (lv' := [(2, .int (-1)), (0, .ref h0), (1, .int 0)]) hx hb dX1_leftOf_3 rfl hl (by decide) rfl (fun ls hl => ?_)
  refine lv_iload_n hx hb dX1_leftOf_4 rfl (lv_at hl 0 rfl) ?_
  refine lv_if_lt (tgt := 24) hx hb dX1_leftOf_5 (by decide) (fun _ => ?_) (fun c9 => absurd (by decide) c9)
  refine lv_iconst (v := (-1)) hx hb dX1_leftOf_24 (by decide) ?_
  exact fi0 hx hb hr hlocks hK hS (Nat.le_of_ble_eq_true rfl) (Nat.le_of_ble_eq_true rfl) dX1_leftOf_25
set_option maxHeartbeats 4000000 in
set_option maxRecDepth 100000 in
theorem cX5_neighbour_370 (l : Launch) (D : va_G) (h0 : Nat) (h1 : Nat) (h2 : Nat) (v0 : Value) (v1 : Value) (v2 : Value) (v3 : Value) (v4 : Value) (v5 : Value) (v6 : Value) (v7 : Value) (v8 : Value) (v9 : Value) (v10 : Value) (v11 : Value) (v12 : Value) (v13 : Value) (v14 : Value) (v15 : Value) (v16 : Value) (v17 : Value) (v18 : Value) (v19 : Value) (v20 : Value) (v21 : Value) (v22 : Value) (v23 : Value) (v24 : Value) (v25 : Value) (v26 : Value)   : CT l yX5_neighbour cX5_neighbour 3 (some .int) { frames := 1, cells := 0, slots := 0, locals := 22 } [.ref h0, .int 0, .int 0] D [(h0, .inr (5, [v0, .ref h1, v1, .ref h2, v2, v3, v4, v5, v6, v7])), (h1, .inr (0, [v8, v9, .int 2, v10, v11, v12, v13])), (h2, .inr (1, [v14, v15, v16, v17, v18, v19, v20, v21, v22, v23, v24, v25, v26]))] [] XN [] (ei (fun _ : Unit => True) (fun _ => (-1)) (fun _ => []) (fun _ => []) D) 0 0 := by
  refine CT.ofR (by decide +kernel) (Nat.le_of_ble_eq_true rfl) ?_
  intro p e s m below meth c A ls hcs hP hK hD hX hA hS hl
  obtain ⟨hx, hb, hr, hml, hown, hg, hlocks, hin⟩ := hcs
  have hown : s.vm.findClass RX5 = some m.cls := hown
  have hl : lv_has ls 3 [(0, .ref h0), (1, .int 0), (2, .int 0)] := hl
  refine lv_iload_n hx hb dX5_neighbour_0 rfl (lv_at hl 1 rfl) ?_
  refine lv_aload_n hx hb dX5_neighbour_1 rfl (lv_at hl 0 rfl) ?_
  refine va_get (D := D) (ci := 5) (v := .ref h1) (C := RX5) (T := TX5) (N := 10) hx hb hg inX5 hown hK hP 0 rfl rfl 1 (by decide) (hg _ k380) (fun _ h9 => h9) rfl dX5_neighbour_2 ?_
  refine va_get (D := D) (ci := 0) (v := .int 2) (C := RX0) (T := TX0) (N := 7) hx hb hg inX0 hown hK hP 1 rfl rfl 2 (by decide) (hg _ k163) (fun _ h9 => h9) rfl dX5_neighbour_5 ?_
  refine cSv (n := 2) (As := [.int 0, .int 2]) (rest := []) (wr := [(h0, .inr (5, [v0, .ref h1, v1, .ref h2, v2, v3, v4, v5, v6, v7])), (h1, .inr (0, [v8, v9, .int 2, v10, v11, v12, v13])), (h2, .inr (1, [v14, v15, v16, v17, v18, v19, v20, v21, v22, v23, v24, v25, v26]))]) (tr := []) hx hb hml hown hg okN (cX5_needIndex_343 l D) (mwS k610 k611 k84 k612) ⟨rfl, by decide, by decide, by decide +kernel⟩ ⟨rfl, rfl, (Nat.le_of_ble_eq_true rfl), (Nat.le_of_ble_eq_true rfl)⟩ hP hD hK hS xn [] [] [0, 1, 2] [] [] rfl (by decide) rfl rfl (by decide) (by decide) rfl rfl (aNil hA hS) (fun _ _ => trivial) rfl hl.1 rfl (Nat.le_of_ble_eq_true rfl) dX5_neighbour_8 ⟨(Nat.le_of_ble_eq_true rfl), (Nat.le_of_ble_eq_true rfl)⟩ (fun u H locs hφ hP hD hK hS hk => ?_)
  have hP : va_P D vwCl [(h0, .inr (5, [v0, .ref h1, v1, .ref h2, v2, v3, v4, v5, v6, v7])), (h1, .inr (0, [v8, v9, .int 2, v10, v11, v12, v13])), (h2, .inr (1, [v14, v15, v16, v17, v18, v19, v20, v21, v22, v23, v24, v25, v26]))] H := hP
  have hD : va_D (fun _ => True) [(h0, .inr (5, [v0, .ref h1, v1, .ref h2, v2, v3, v4, v5, v6, v7])), (h1, .inr (0, [v8, v9, .int 2, v10, v11, v12, v13])), (h2, .inr (1, [v14, v15, v16, v17, v18, v19, v20, v21, v22, v23, v24, v25, v26]))] := hD
  have hK : va_K D vwCl [] s := hK
  refine W.widen (k := 0) (n := 0) (Nat.le_of_ble_eq_true rfl) (Nat.le_of_ble_eq_true rfl) ?_
  refine lv_iload_n hx hb dX5_neighbour_11 rfl (lv_at hl 2 rfl) ?_
  refine lv_if_eq (tgt := 26) hx hb dX5_neighbour_12 (by decide) (fun _ => ?_) (fun c9 => absurd (by decide) c9)
  refine lv_aload_n hx hb dX5_neighbour_26 rfl (lv_at hl 0 rfl) ?_
  refine va_get (D := D) (ci := 5) (v := .ref h2) (C := RX5) (T := TX5) (N := 10) hx hb hg inX5 hown hK hP 0 rfl rfl 3 (by decide) (hg _ k382) (fun _ h9 => h9) rfl dX5_neighbour_27 ?_
  refine lv_iload_n hx hb dX5_neighbour_30 rfl (lv_at hl 1 rfl) ?_
  refine cVi (n := 1) (As := [.int 0]) (rest := []) (wr := [(h0, .inr (5, [v0, .ref h1, v1, .ref h2, v2, v3, v4, v5, v6, v7])), (h1, .inr (0, [v8, v9, .int 2, v10, v11, v12, v13])), (h2, .inr (1, [v14, v15, v16, v17, v18, v19, v20, v21, v22, v23, v24, v25, v26]))]) (tr := []) hx hb hml hown hg okN (cX1_leftOf_371 l D h2) (mwV k882 k575 k576 k87 k577) ⟨rfl, by decide, by decide, by decide +kernel⟩ ⟨rfl, rfl, (Nat.le_of_ble_eq_true rfl), (Nat.le_of_ble_eq_true rfl)⟩ hP hD hK hS xn [] [] [0, 1, 2] [] [] rfl (by decide) rfl rfl (by decide) (by decide) rfl rfl (aNil hA hS) (fun _ _ => trivial) 2 rfl rfl rfl hl.1 rfl (Nat.le_of_ble_eq_true rfl) dX5_neighbour_31 ⟨(Nat.le_of_ble_eq_true rfl), (Nat.le_of_ble_eq_true rfl)⟩ (fun u H locs hφ hP hD hK hS hk => ?_)
  have hP : va_P D vwCl [(h0, .inr (5, [v0, .ref h1, v1, .ref h2, v2, v3, v4, v5, v6, v7])), (h1, .inr (0, [v8, v9, .int 2, v10, v11, v12, v13])), (h2, .inr (1, [v14, v15, v16, v17, v18, v19, v20, v21, v22, v23, v24, v25, v26]))] H := hP
  have hD : va_D (fun _ => True) [(h0, .inr (5, [v0, .ref h1, v1, .ref h2, v2, v3, v4, v5, v6, v7])), (h1, .inr (0, [v8, v9, .int 2, v10, v11, v12, v13])), (h2, .inr (1, [v14, v15, v16, v17, v18, v19, v20, v21, v22, v23, v24, v25, v26]))] := hD
  have hK : va_K D vwCl [] s := hK
  refine W.widen (k := 0) (n := 0) (Nat.le_of_ble_eq_true rfl) (Nat.le_of_ble_eq_true rfl) ?_
  exact fi0 hx hb hr hlocks hK hS (Nat.le_of_ble_eq_true rfl) (Nat.le_of_ble_eq_true rfl) dX5_neighbour_34
set_option maxHeartbeats 4000000 in
set_option maxRecDepth 100000 in
theorem cX1_rightOf_373 (l : Launch) (D : va_G) (h0 : Nat) (h1 : Nat) (h2 : Nat) (v0 : Value) (v1 : Value) (v2 : Value) (v3 : Value) (v4 : Value) (v5 : Value) (v6 : Value) (v7 : Value) (v8 : Value) (v9 : Value) (v10 : Value) (v11 : Value) (v12 : Value) (v13 : Value) (v14 : Value) (v15 : Value) (v16 : Value) (f0 : Nat → Int32) (a0 : ClassId) (ef0_1 : f0 1 = (-1))  : CT l yX1_rightOf cX1_rightOf 3 (some .int) { frames := 1, cells := 0, slots := 0, locals := 21 } [.ref h0, .int 0] D [(h0, .inr (1, [.ref h1, v0, v1, .ref h2, v2, v3, v4, v5, v6, v7, v8, v9, v10])), (h1, .inr (0, [v11, v12, .int 2, v13, v14, v15, v16])), (h2, .inl (a0, 48, .inl f0))] [(a0, .int)] XN [] (ei (fun _ : Unit => True) (fun _ => 1) (fun _ => []) (fun _ => []) D) 0 0 := by
  refine CT.ofR (by decide +kernel) (Nat.le_of_ble_eq_true rfl) ?_
  intro p e s m below meth c A ls hcs hP hK hD hX hA hS hl
  obtain ⟨hx, hb, hr, hml, hown, hg, hlocks, hin⟩ := hcs
  have hown : s.vm.findClass RX1 = some m.cls := hown
  have hl : lv_has ls 3 [(0, .ref h0), (1, .int 0)] := hl
  refine lv_iload_n hx hb dX1_rightOf_0 rfl (lv_at hl 1 rfl) ?_
  refine lv_iconst (v := 1) hx hb dX1_rightOf_1 (by decide) ?_
  refine lv_iadd hx hb dX1_rightOf_2 ?_
  refine ti (1) (by decide) ?_
  refine lv_istore_n (lv' := [(2, .int 1), (0, .ref h0), (1, .int 0)]) hx hb dX1_rightOf_3 rfl hl (by decide) rfl (fun ls hl => ?_)
  refine lv_iload_n hx hb dX1_rightOf_4 rfl (lv_at hl 0 rfl) ?_
  refine lv_aload_n hx hb dX1_rightOf_5 rfl (lv_at hl 1 rfl) ?_
  refine va_get (D := D) (ci := 1) (v := .ref h1) (C := RX1) (T := TX1) (N := 13) hx hb hg inX1 hown hK hP 0 rfl rfl 0 (by decide) (hg _ k278) (fun _ h9 => h9) rfl dX1_rightOf_6 ?_
  refine va_get (D := D) (ci := 0) (v := .int 2) (C := RX0) (T := TX0) (N := 7) hx hb hg inX0 hown hK hP 1 rfl rfl 2 (by decide) (hg _ k162) (fun _ h9 => h9) rfl dX1_rightOf_9 ?_
  refine lv_icmp_ge (tgt := 31) hx hb dX1_rightOf_12 (by decide) (fun c9 => absurd c9 (by decide)) (fun _ => ?_)
  refine lv_aload_n hx hb dX1_rightOf_15 rfl (lv_at hl 1 rfl) ?_
  refine lv_iload_n hx hb dX1_rightOf_16 rfl (lv_at hl 0 rfl) ?_
  refine cVi (n := 1) (As := [.int 1]) (rest := []) (wr := [(h0, .inr (1, [.ref h1, v0, v1, .ref h2, v2, v3, v4, v5, v6, v7, v8, v9, v10])), (h1, .inr (0, [v11, v12, .int 2, v13, v14, v15, v16])), (h2, .inl (a0, 48, .inl f0))]) (tr := [(a0, .int)]) hx hb hml hown hg okN (cX1_isPresent_337 l D h0 h2 (.ref h1) v0 v1 v2 v3 v4 v5 v6 v7 v8 v9 v10 f0 a0 ef0_1) (mwV k459 k460 k461 k87 k462) ⟨rfl, by decide, by decide, by decide +kernel⟩ ⟨rfl, rfl, (Nat.le_of_ble_eq_true rfl), (Nat.le_of_ble_eq_true rfl)⟩ hP hD hK hS xn [0, 2] [] [0, 1, 2] [0] [0] rfl (by decide) rfl rfl (by decide) (by decide) rfl rfl (aNil hA hS) (fun _ _ => trivial) 0 rfl rfl rfl hl.1 rfl (Nat.le_of_ble_eq_true rfl) dX1_rightOf_17 ⟨(Nat.le_of_ble_eq_true rfl), (Nat.le_of_ble_eq_true rfl)⟩ (fun u H locs hφ hP hD hK hS hk => ?_)
  have hP : va_P D vwCl [(h0, .inr (1, [.ref h1, v0, v1, .ref h2, v2, v3, v4, v5, v6, v7, v8, v9, v10])), (h1, .inr (0, [v11, v12, .int 2, v13, v14, v15, v16])), (h2, .inl (a0, 48, .inl f0))] H := hP
  have hD : va_D (fun _ => True) [(h0, .inr (1, [.ref h1, v0, v1, .ref h2, v2, v3, v4, v5, v6, v7, v8, v9, v10])), (h1, .inr (0, [v11, v12, .int 2, v13, v14, v15, v16])), (h2, .inl (a0, 48, .inl f0))] := hD
  have hK : va_K D vwCl [(a0, .int)] s := hK
  refine W.widen (k := 0) (n := 0) (Nat.le_of_ble_eq_true rfl) (Nat.le_of_ble_eq_true rfl) ?_
  refine lv_if_eq (tgt := 25) hx hb dX1_rightOf_20 (by decide) (fun c9 => absurd c9 (by decide)) (fun _ => ?_)
  refine lv_iload_n hx hb dX1_rightOf_23 rfl (lv_at hl 0 rfl) ?_
  exact fi0 hx hb hr hlocks hK hS (Nat.le_of_ble_eq_true rfl) (Nat.le_of_ble_eq_true rfl) dX1_rightOf_24
set_option maxHeartbeats 4000000 in
set_option maxRecDepth 100000 in
theorem cX5_neighbour_372 (l : Launch) (D : va_G) (h0 : Nat) (h1 : Nat) (h2 : Nat) (h3 : Nat) (v0 : Value) (v1 : Value) (v2 : Value) (v3 : Value) (v4 : Value) (v5 : Value) (v6 : Value) (v7 : Value) (v8 : Value) (v9 : Value) (v10 : Value) (v11 : Value) (v12 : Value) (v13 : Value) (v14 : Value) (v15 : Value) (v16 : Value) (v17 : Value) (v18 : Value) (v19 : Value) (v20 : Value) (v21 : Value) (v22 : Value) (v23 : Value) (v24 : Value) (f0 : Nat → Int32) (a0 : ClassId) (ef0_1 : f0 1 = (-1))  : CT l yX5_neighbour cX5_neighbour 3 (some .int) { frames := 2, cells := 0, slots := 0, locals := 43 } [.ref h0, .int 0, .int 1] D [(h0, .inr (5, [v0, .ref h1, v1, .ref h2, v2, v3, v4, v5, v6, v7])), (h1, .inr (0, [v8, v9, .int 2, v10, v11, v12, v13])), (h2, .inr (1, [.ref h1, v14, v15, .ref h3, v16, v17, v18, v19, v20, v21, v22, v23, v24])), (h3, .inl (a0, 48, .inl f0))] [(a0, .int)] XN [] (ei (fun _ : Unit => True) (fun _ => 1) (fun _ => []) (fun _ => []) D) 0 0 := by
  refine CT.ofR (by decide +kernel) (Nat.le_of_ble_eq_true rfl) ?_
  intro p e s m below meth c A ls hcs hP hK hD hX hA hS hl
  obtain ⟨hx, hb, hr, hml, hown, hg, hlocks, hin⟩ := hcs
  have hown : s.vm.findClass RX5 = some m.cls := hown
  have hl : lv_has ls 3 [(0, .ref h0), (1, .int 0), (2, .int 1)] := hl
  refine lv_iload_n hx hb dX5_neighbour_0 rfl (lv_at hl 1 rfl) ?_
  refine lv_aload_n hx hb dX5_neighbour_1 rfl (lv_at hl 0 rfl) ?_
  refine va_get (D := D) (ci := 5) (v := .ref h1) (C := RX5) (T := TX5) (N := 10) hx hb hg inX5 hown hK hP 0 rfl rfl 1 (by decide) (hg _ k380) (fun _ h9 => h9) rfl dX5_neighbour_2 ?_
  refine va_get (D := D) (ci := 0) (v := .int 2) (C := RX0) (T := TX0) (N := 7) hx hb hg inX0 hown hK hP 1 rfl rfl 2 (by decide) (hg _ k163) (fun _ h9 => h9) rfl dX5_neighbour_5 ?_
  refine cSv (n := 2) (As := [.int 0, .int 2]) (rest := []) (wr := [(h0, .inr (5, [v0, .ref h1, v1, .ref h2, v2, v3, v4, v5, v6, v7])), (h1, .inr (0, [v8, v9, .int 2, v10, v11, v12, v13])), (h2, .inr (1, [.ref h1, v14, v15, .ref h3, v16, v17, v18, v19, v20, v21, v22, v23, v24])), (h3, .inl (a0, 48, .inl f0))]) (tr := [(a0, .int)]) hx hb hml hown hg okN (cX5_needIndex_343 l D) (mwS k610 k611 k84 k612) ⟨rfl, by decide, by decide, by decide +kernel⟩ ⟨rfl, rfl, (Nat.le_of_ble_eq_true rfl), (Nat.le_of_ble_eq_true rfl)⟩ hP hD hK hS xn [] [] [0, 1, 2, 3] [] [0] rfl (by decide) rfl rfl (by decide) (by decide) rfl rfl (aNil hA hS) (fun _ _ => trivial) rfl hl.1 rfl (Nat.le_of_ble_eq_true rfl) dX5_neighbour_8 ⟨(Nat.le_of_ble_eq_true rfl), (Nat.le_of_ble_eq_true rfl)⟩ (fun u H locs hφ hP hD hK hS hk => ?_)
  have hP : va_P D vwCl [(h0, .inr (5, [v0, .ref h1, v1, .ref h2, v2, v3, v4, v5, v6, v7])), (h1, .inr (0, [v8, v9, .int 2, v10, v11, v12, v13])), (h2, .inr (1, [.ref h1, v14, v15, .ref h3, v16, v17, v18, v19, v20, v21, v22, v23, v24])), (h3, .inl (a0, 48, .inl f0))] H := hP
  have hD : va_D (fun _ => True) [(h0, .inr (5, [v0, .ref h1, v1, .ref h2, v2, v3, v4, v5, v6, v7])), (h1, .inr (0, [v8, v9, .int 2, v10, v11, v12, v13])), (h2, .inr (1, [.ref h1, v14, v15, .ref h3, v16, v17, v18, v19, v20, v21, v22, v23, v24])), (h3, .inl (a0, 48, .inl f0))] := hD
  have hK : va_K D vwCl [(a0, .int)] s := hK
  refine W.widen (k := 0) (n := 0) (Nat.le_of_ble_eq_true rfl) (Nat.le_of_ble_eq_true rfl) ?_
  refine lv_iload_n hx hb dX5_neighbour_11 rfl (lv_at hl 2 rfl) ?_
  refine lv_if_eq (tgt := 26) hx hb dX5_neighbour_12 (by decide) (fun c9 => absurd c9 (by decide)) (fun _ => ?_)
  refine lv_aload_n hx hb dX5_neighbour_15 rfl (lv_at hl 0 rfl) ?_
  refine va_get (D := D) (ci := 5) (v := .ref h2) (C := RX5) (T := TX5) (N := 10) hx hb hg inX5 hown hK hP 0 rfl rfl 3 (by decide) (hg _ k382) (fun _ h9 => h9) rfl dX5_neighbour_16 ?_
  refine lv_iload_n hx hb dX5_neighbour_19 rfl (lv_at hl 1 rfl) ?_
  refine cVi (n := 1) (As := [.int 0]) (rest := []) (wr := [(h0, .inr (5, [v0, .ref h1, v1, .ref h2, v2, v3, v4, v5, v6, v7])), (h1, .inr (0, [v8, v9, .int 2, v10, v11, v12, v13])), (h2, .inr (1, [.ref h1, v14, v15, .ref h3, v16, v17, v18, v19, v20, v21, v22, v23, v24])), (h3, .inl (a0, 48, .inl f0))]) (tr := [(a0, .int)]) hx hb hml hown hg okN (cX1_rightOf_373 l D h2 h1 h3 v14 v15 v16 v17 v18 v19 v20 v21 v22 v23 v24 v8 v9 v10 v11 v12 v13 f0 a0 ef0_1) (mwV k881 k579 k580 k87 k581) ⟨rfl, by decide, by decide, by decide +kernel⟩ ⟨rfl, rfl, (Nat.le_of_ble_eq_true rfl), (Nat.le_of_ble_eq_true rfl)⟩ hP hD hK hS xn [2, 1, 3] [] [0, 1, 2, 3] [0] [0] rfl (by decide) rfl rfl (by decide) (by decide) rfl rfl (aNil hA hS) (fun _ _ => trivial) 2 rfl rfl rfl hl.1 rfl (Nat.le_of_ble_eq_true rfl) dX5_neighbour_20 ⟨(Nat.le_of_ble_eq_true rfl), (Nat.le_of_ble_eq_true rfl)⟩ (fun u H locs hφ hP hD hK hS hk => ?_)
  have hP : va_P D vwCl [(h0, .inr (5, [v0, .ref h1, v1, .ref h2, v2, v3, v4, v5, v6, v7])), (h1, .inr (0, [v8, v9, .int 2, v10, v11, v12, v13])), (h2, .inr (1, [.ref h1, v14, v15, .ref h3, v16, v17, v18, v19, v20, v21, v22, v23, v24])), (h3, .inl (a0, 48, .inl f0))] H := hP
  have hD : va_D (fun _ => True) [(h0, .inr (5, [v0, .ref h1, v1, .ref h2, v2, v3, v4, v5, v6, v7])), (h1, .inr (0, [v8, v9, .int 2, v10, v11, v12, v13])), (h2, .inr (1, [.ref h1, v14, v15, .ref h3, v16, v17, v18, v19, v20, v21, v22, v23, v24])), (h3, .inl (a0, 48, .inl f0))] := hD
  have hK : va_K D vwCl [(a0, .int)] s := hK
  refine W.widen (k := 0) (n := 0) (Nat.le_of_ble_eq_true rfl) (Nat.le_of_ble_eq_true rfl) ?_
  refine lv_goto (tgt := 34) hx hb dX5_neighbour_23 (by decide) ?_
  exact fi0 hx hb hr hlocks hK hS (Nat.le_of_ble_eq_true rfl) (Nat.le_of_ble_eq_true rfl) dX5_neighbour_34
set_option maxHeartbeats 4000000 in
set_option maxRecDepth 100000 in
theorem cX1_leftOf_375 (l : Launch) (D : va_G) (h0 : Nat) (h1 : Nat) (v0 : Value) (v1 : Value) (v2 : Value) (v3 : Value) (v4 : Value) (v5 : Value) (v6 : Value) (v7 : Value) (v8 : Value) (v9 : Value) (v10 : Value) (v11 : Value) (f0 : Nat → Int32) (a0 : ClassId) (ef0_0 : f0 0 = (-1))  : CT l yX1_leftOf cX1_leftOf 3 (some .int) { frames := 1, cells := 0, slots := 0, locals := 21 } [.ref h0, .int 1] D [(h0, .inr (1, [v0, v1, v2, .ref h1, v3, v4, v5, v6, v7, v8, v9, v10, v11])), (h1, .inl (a0, 48, .inl f0))] [(a0, .int)] XN [] (ei (fun _ : Unit => True) (fun _ => 0) (fun _ => []) (fun _ => []) D) 0 0 := by
  refine CT.ofR (by decide +kernel) (Nat.le_of_ble_eq_true rfl) ?_
  intro p e s m below meth c A ls hcs hP hK hD hX hA hS hl
  obtain ⟨hx, hb, hr, hml, hown, hg, hlocks, hin⟩ := hcs
  have hown : s.vm.findClass RX1 = some m.cls := hown
  have hl : lv_has ls 3 [(0, .ref h0), (1, .int 1)] := hl
  refine lv_iload_n hx hb dX1_leftOf_0 rfl (lv_at hl 1 rfl) ?_
  refine lv_iconst (v := 1) hx hb dX1_leftOf_1 (by decide) ?_
  refine lv_isub hx hb dX1_leftOf_2 ?_
  refine ti (0) (by decide) ?_
  refine lv_istore_n (lv' := [(2, .int 0), (0, .ref h0), (1, .int 1)]) hx hb dX1_leftOf_3 rfl hl (by decide) rfl (fun ls hl => ?_)
  refine lv_iload_n hx hb dX1_leftOf_4 rfl (lv_at hl 0 rfl) ?_
  refine lv_if_lt (tgt := 24) hx hb dX1_leftOf_5 (by decide) (fun c9 => absurd c9 (by decide)) (fun _ => ?_)
  refine lv_aload_n hx hb dX1_leftOf_8 rfl (lv_at hl 1 rfl) ?_
  refine lv_iload_n hx hb dX1_leftOf_9 rfl (lv_at hl 0 rfl) ?_
  refine cVi (n := 1) (As := [.int 0]) (rest := []) (wr := [(h0, .inr (1, [v0, v1, v2, .ref h1, v3, v4, v5, v6, v7, v8, v9, v10, v11])), (h1, .inl (a0, 48, .inl f0))]) (tr := [(a0, .int)]) hx hb hml hown hg okN (cX1_isPresent_336 l D h0 h1 v0 v1 v2 v3 v4 v5 v6 v7 v8 v9 v10 v11 f0 a0 ef0_0) (mwV k459 k460 k461 k87 k462) ⟨rfl, by decide, by decide, by decide +kernel⟩ ⟨rfl, rfl, (Nat.le_of_ble_eq_true rfl), (Nat.le_of_ble_eq_true rfl)⟩ hP hD hK hS xn [0, 1] [] [0, 1] [0] [0] rfl (by decide) rfl rfl (by decide) (by decide) rfl rfl (aNil hA hS) (fun _ _ => trivial) 0 rfl rfl rfl hl.1 rfl (Nat.le_of_ble_eq_true rfl) dX1_leftOf_10 ⟨(Nat.le_of_ble_eq_true rfl), (Nat.le_of_ble_eq_true rfl)⟩ (fun u H locs hφ hP hD hK hS hk => ?_)
  have hP : va_P D vwCl [(h0, .inr (1, [v0, v1, v2, .ref h1, v3, v4, v5, v6, v7, v8, v9, v10, v11])), (h1, .inl (a0, 48, .inl f0))] H := hP
  have hD : va_D (fun _ => True) [(h0, .inr (1, [v0, v1, v2, .ref h1, v3, v4, v5, v6, v7, v8, v9, v10, v11])), (h1, .inl (a0, 48, .inl f0))] := hD
  have hK : va_K D vwCl [(a0, .int)] s := hK
  refine W.widen (k := 0) (n := 0) (Nat.le_of_ble_eq_true rfl) (Nat.le_of_ble_eq_true rfl) ?_
  refine lv_if_eq (tgt := 18) hx hb dX1_leftOf_13 (by decide) (fun c9 => absurd c9 (by decide)) (fun _ => ?_)
  refine lv_iload_n hx hb dX1_leftOf_16 rfl (lv_at hl 0 rfl) ?_
  exact fi0 hx hb hr hlocks hK hS (Nat.le_of_ble_eq_true rfl) (Nat.le_of_ble_eq_true rfl) dX1_leftOf_17
set_option maxHeartbeats 4000000 in
set_option maxRecDepth 100000 in
theorem cX5_neighbour_374 (l : Launch) (D : va_G) (h0 : Nat) (h1 : Nat) (h2 : Nat) (h3 : Nat) (v0 : Value) (v1 : Value) (v2 : Value) (v3 : Value) (v4 : Value) (v5 : Value) (v6 : Value) (v7 : Value) (v8 : Value) (v9 : Value) (v10 : Value) (v11 : Value) (v12 : Value) (v13 : Value) (v14 : Value) (v15 : Value) (v16 : Value) (v17 : Value) (v18 : Value) (v19 : Value) (v20 : Value) (v21 : Value) (v22 : Value) (v23 : Value) (v24 : Value) (v25 : Value) (f0 : Nat → Int32) (a0 : ClassId) (ef0_0 : f0 0 = (-1))  : CT l yX5_neighbour cX5_neighbour 3 (some .int) { frames := 2, cells := 0, slots := 0, locals := 43 } [.ref h0, .int 1, .int 0] D [(h0, .inr (5, [v0, .ref h1, v1, .ref h2, v2, v3, v4, v5, v6, v7])), (h1, .inr (0, [v8, v9, .int 2, v10, v11, v12, v13])), (h2, .inr (1, [v14, v15, v16, .ref h3, v17, v18, v19, v20, v21, v22, v23, v24, v25])), (h3, .inl (a0, 48, .inl f0))] [(a0, .int)] XN [] (ei (fun _ : Unit => True) (fun _ => 0) (fun _ => []) (fun _ => []) D) 0 0 := by
  refine CT.ofR (by decide +kernel) (Nat.le_of_ble_eq_true rfl) ?_
  intro p e s m below meth c A ls hcs hP hK hD hX hA hS hl
  obtain ⟨hx, hb, hr, hml, hown, hg, hlocks, hin⟩ := hcs
  have hown : s.vm.findClass RX5 = some m.cls := hown
  have hl : lv_has ls 3 [(0, .ref h0), (1, .int 1), (2, .int 0)] := hl
  refine lv_iload_n hx hb dX5_neighbour_0 rfl (lv_at hl 1 rfl) ?_
  refine lv_aload_n hx hb dX5_neighbour_1 rfl (lv_at hl 0 rfl) ?_
  refine va_get (D := D) (ci := 5) (v := .ref h1) (C := RX5) (T := TX5) (N := 10) hx hb hg inX5 hown hK hP 0 rfl rfl 1 (by decide) (hg _ k380) (fun _ h9 => h9) rfl dX5_neighbour_2 ?_
  refine va_get (D := D) (ci := 0) (v := .int 2) (C := RX0) (T := TX0) (N := 7) hx hb hg inX0 hown hK hP 1 rfl rfl 2 (by decide) (hg _ k163) (fun _ h9 => h9) rfl dX5_neighbour_5 ?_
  refine cSv (n := 2) (As := [.int 1, .int 2]) (rest := []) (wr := [(h0, .inr (5, [v0, .ref h1, v1, .ref h2, v2, v3, v4, v5, v6, v7])), (h1, .inr (0, [v8, v9, .int 2, v10, v11, v12, v13])), (h2, .inr (1, [v14, v15, v16, .ref h3, v17, v18, v19, v20, v21, v22, v23, v24, v25])), (h3, .inl (a0, 48, .inl f0))]) (tr := [(a0, .int)]) hx hb hml hown hg okN (cX5_needIndex_355 l D) (mwS k610 k611 k84 k612) ⟨rfl, by decide, by decide, by decide +kernel⟩ ⟨rfl, rfl, (Nat.le_of_ble_eq_true rfl), (Nat.le_of_ble_eq_true rfl)⟩ hP hD hK hS xn [] [] [0, 1, 2, 3] [] [0] rfl (by decide) rfl rfl (by decide) (by decide) rfl rfl (aNil hA hS) (fun _ _ => trivial) rfl hl.1 rfl (Nat.le_of_ble_eq_true rfl) dX5_neighbour_8 ⟨(Nat.le_of_ble_eq_true rfl), (Nat.le_of_ble_eq_true rfl)⟩ (fun u H locs hφ hP hD hK hS hk => ?_)
  have hP : va_P D vwCl [(h0, .inr (5, [v0, .ref h1, v1, .ref h2, v2, v3, v4, v5, v6, v7])), (h1, .inr (0, [v8, v9, .int 2, v10, v11, v12, v13])), (h2, .inr (1, [v14, v15, v16, .ref h3, v17, v18, v19, v20, v21, v22, v23, v24, v25])), (h3, .inl (a0, 48, .inl f0))] H := hP
  have hD : va_D (fun _ => True) [(h0, .inr (5, [v0, .ref h1, v1, .ref h2, v2, v3, v4, v5, v6, v7])), (h1, .inr (0, [v8, v9, .int 2, v10, v11, v12, v13])), (h2, .inr (1, [v14, v15, v16, .ref h3, v17, v18, v19, v20, v21, v22, v23, v24, v25])), (h3, .inl (a0, 48, .inl f0))] := hD
  have hK : va_K D vwCl [(a0, .int)] s := hK
  refine W.widen (k := 0) (n := 0) (Nat.le_of_ble_eq_true rfl) (Nat.le_of_ble_eq_true rfl) ?_
  refine lv_iload_n hx hb dX5_neighbour_11 rfl (lv_at hl 2 rfl) ?_
  refine lv_if_eq (tgt := 26) hx hb dX5_neighbour_12 (by decide) (fun _ => ?_) (fun c9 => absurd (by decide) c9)
  refine lv_aload_n hx hb dX5_neighbour_26 rfl (lv_at hl 0 rfl) ?_
  refine va_get (D := D) (ci := 5) (v := .ref h2) (C := RX5) (T := TX5) (N := 10) hx hb hg inX5 hown hK hP 0 rfl rfl 3 (by decide) (hg _ k382) (fun _ h9 => h9) rfl dX5_neighbour_27 ?_
  refine lv_iload_n hx hb dX5_neighbour_30 rfl (lv_at hl 1 rfl) ?_
  refine cVi (n := 1) (As := [.int 1]) (rest := []) (wr := [(h0, .inr (5, [v0, .ref h1, v1, .ref h2, v2, v3, v4, v5, v6, v7])), (h1, .inr (0, [v8, v9, .int 2, v10, v11, v12, v13])), (h2, .inr (1, [v14, v15, v16, .ref h3, v17, v18, v19, v20, v21, v22, v23, v24, v25])), (h3, .inl (a0, 48, .inl f0))]) (tr := [(a0, .int)]) hx hb hml hown hg okN (cX1_leftOf_375 l D h2 h3 v14 v15 v16 v17 v18 v19 v20 v21 v22 v23 v24 v25 f0 a0 ef0_0) (mwV k882 k575 k576 k87 k577) ⟨rfl, by decide, by decide, by decide +kernel⟩ ⟨rfl, rfl, (Nat.le_of_ble_eq_true rfl), (Nat.le_of_ble_eq_true rfl)⟩ hP hD hK hS xn [2, 3] [] [0, 1, 2, 3] [0] [0] rfl (by decide) rfl rfl (by decide) (by decide) rfl rfl (aNil hA hS) (fun _ _ => trivial) 2 rfl rfl rfl hl.1 rfl (Nat.le_of_ble_eq_true rfl) dX5_neighbour_31 ⟨(Nat.le_of_ble_eq_true rfl), (Nat.le_of_ble_eq_true rfl)⟩ (fun u H locs hφ hP hD hK hS hk => ?_)
  have hP : va_P D vwCl [(h0, .inr (5, [v0, .ref h1, v1, .ref h2, v2, v3, v4, v5, v6, v7])), (h1, .inr (0, [v8, v9, .int 2, v10, v11, v12, v13])), (h2, .inr (1, [v14, v15, v16, .ref h3, v17, v18, v19, v20, v21, v22, v23, v24, v25])), (h3, .inl (a0, 48, .inl f0))] H := hP
  have hD : va_D (fun _ => True) [(h0, .inr (5, [v0, .ref h1, v1, .ref h2, v2, v3, v4, v5, v6, v7])), (h1, .inr (0, [v8, v9, .int 2, v10, v11, v12, v13])), (h2, .inr (1, [v14, v15, v16, .ref h3, v17, v18, v19, v20, v21, v22, v23, v24, v25])), (h3, .inl (a0, 48, .inl f0))] := hD
  have hK : va_K D vwCl [(a0, .int)] s := hK
  refine W.widen (k := 0) (n := 0) (Nat.le_of_ble_eq_true rfl) (Nat.le_of_ble_eq_true rfl) ?_
  exact fi0 hx hb hr hlocks hK hS (Nat.le_of_ble_eq_true rfl) (Nat.le_of_ble_eq_true rfl) dX5_neighbour_34
set_option maxHeartbeats 4000000 in
set_option maxRecDepth 100000 in
theorem cX1_rightOf_377 (l : Launch) (D : va_G) (h0 : Nat) (h1 : Nat) (v0 : Value) (v1 : Value) (v2 : Value) (v3 : Value) (v4 : Value) (v5 : Value) (v6 : Value) (v7 : Value) (v8 : Value) (v9 : Value) (v10 : Value) (v11 : Value) (v12 : Value) (v13 : Value) (v14 : Value) (v15 : Value) (v16 : Value) (v17 : Value)   : CT l yX1_rightOf cX1_rightOf 3 (some .int) { frames := 0, cells := 0, slots := 0, locals := 0 } [.ref h0, .int 1] D [(h0, .inr (1, [.ref h1, v0, v1, v2, v3, v4, v5, v6, v7, v8, v9, v10, v11])), (h1, .inr (0, [v12, v13, .int 2, v14, v15, v16, v17]))] [] XN [] (ei (fun _ : Unit => True) (fun _ => (-1)) (fun _ => []) (fun _ => []) D) 0 0 := by
  refine CT.ofR (by decide +kernel) (Nat.le_of_ble_eq_true rfl) ?_
  intro p e s m below meth c A ls hcs hP hK hD hX hA hS hl
  obtain ⟨hx, hb, hr, hml, hown, hg, hlocks, hin⟩ := hcs
  have hown : s.vm.findClass RX1 = some m.cls := hown
  have hl : lv_has ls 3 [(0, .ref h0), (1, .int 1)] := hl
  refine lv_iload_n hx hb dX1_rightOf_0 rfl (lv_at hl 1 rfl) ?_
  refine lv_iconst (v := 1) hx hb dX1_rightOf_1 (by decide) ?_
  refine lv_iadd hx hb dX1_rightOf_2 ?_
  refine ti (2) (by decide) ?_
  refine lv_istore_n (lv' := [(2, .int 2), (0, .ref h0), (1, .int 1)]) hx hb dX1_rightOf_3 rfl hl (by decide) rfl (fun ls hl => ?_)
  refine lv_iload_n hx hb dX1_rightOf_4 rfl (lv_at hl 0 rfl) ?_
  refine lv_aload_n hx hb dX1_rightOf_5 rfl (lv_at hl 1 rfl) ?_
  refine va_get (D := D) (ci := 1) (v := .ref h1) (C := RX1) (T := TX1) (N := 13) hx hb hg inX1 hown hK hP 0 rfl rfl 0 (by decide) (hg _ k278) (fun _ h9 => h9) rfl dX1_rightOf_6 ?_
  refine va_get (D := D) (ci := 0) (v := .int 2) (C := RX0) (T := TX0) (N := 7) hx hb hg inX0 hown hK hP 1 rfl rfl 2 (by decide) (hg _ k162) (fun _ h9 => h9) rfl dX1_rightOf_9 ?_
  refine lv_icmp_ge (tgt := 31) hx hb dX1_rightOf_12 (by decide) (fun _ => ?_) (fun c9 => absurd (by decide) c9)
  refine lv_iconst (v := (-1)) hx hb dX1_rightOf_31 (by decide) ?_
  exact fi0 hx hb hr hlocks hK hS (Nat.le_of_ble_eq_true rfl) (Nat.le_of_ble_eq_true rfl) dX1_rightOf_32
set_option maxHeartbeats 4000000 in
set_option maxRecDepth 100000 in
theorem cX5_neighbour_376 (l : Launch) (D : va_G) (h0 : Nat) (h1 : Nat) (h2 : Nat) (v0 : Value) (v1 : Value) (v2 : Value) (v3 : Value) (v4 : Value) (v5 : Value) (v6 : Value) (v7 : Value) (v8 : Value) (v9 : Value) (v10 : Value) (v11 : Value) (v12 : Value) (v13 : Value) (v14 : Value) (v15 : Value) (v16 : Value) (v17 : Value) (v18 : Value) (v19 : Value) (v20 : Value) (v21 : Value) (v22 : Value) (v23 : Value) (v24 : Value) (v25 : Value)   : CT l yX5_neighbour cX5_neighbour 3 (some .int) { frames := 1, cells := 0, slots := 0, locals := 22 } [.ref h0, .int 1, .int 1] D [(h0, .inr (5, [v0, .ref h1, v1, .ref h2, v2, v3, v4, v5, v6, v7])), (h1, .inr (0, [v8, v9, .int 2, v10, v11, v12, v13])), (h2, .inr (1, [.ref h1, v14, v15, v16, v17, v18, v19, v20, v21, v22, v23, v24, v25]))] [] XN [] (ei (fun _ : Unit => True) (fun _ => (-1)) (fun _ => []) (fun _ => []) D) 0 0 := by
  refine CT.ofR (by decide +kernel) (Nat.le_of_ble_eq_true rfl) ?_
  intro p e s m below meth c A ls hcs hP hK hD hX hA hS hl
  obtain ⟨hx, hb, hr, hml, hown, hg, hlocks, hin⟩ := hcs
  have hown : s.vm.findClass RX5 = some m.cls := hown
  have hl : lv_has ls 3 [(0, .ref h0), (1, .int 1), (2, .int 1)] := hl
  refine lv_iload_n hx hb dX5_neighbour_0 rfl (lv_at hl 1 rfl) ?_
  refine lv_aload_n hx hb dX5_neighbour_1 rfl (lv_at hl 0 rfl) ?_
  refine va_get (D := D) (ci := 5) (v := .ref h1) (C := RX5) (T := TX5) (N := 10) hx hb hg inX5 hown hK hP 0 rfl rfl 1 (by decide) (hg _ k380) (fun _ h9 => h9) rfl dX5_neighbour_2 ?_
  refine va_get (D := D) (ci := 0) (v := .int 2) (C := RX0) (T := TX0) (N := 7) hx hb hg inX0 hown hK hP 1 rfl rfl 2 (by decide) (hg _ k163) (fun _ h9 => h9) rfl dX5_neighbour_5 ?_
  refine cSv (n := 2) (As := [.int 1, .int 2]) (rest := []) (wr := [(h0, .inr (5, [v0, .ref h1, v1, .ref h2, v2, v3, v4, v5, v6, v7])), (h1, .inr (0, [v8, v9, .int 2, v10, v11, v12, v13])), (h2, .inr (1, [.ref h1, v14, v15, v16, v17, v18, v19, v20, v21, v22, v23, v24, v25]))]) (tr := []) hx hb hml hown hg okN (cX5_needIndex_355 l D) (mwS k610 k611 k84 k612) ⟨rfl, by decide, by decide, by decide +kernel⟩ ⟨rfl, rfl, (Nat.le_of_ble_eq_true rfl), (Nat.le_of_ble_eq_true rfl)⟩ hP hD hK hS xn [] [] [0, 1, 2] [] [] rfl (by decide) rfl rfl (by decide) (by decide) rfl rfl (aNil hA hS) (fun _ _ => trivial) rfl hl.1 rfl (Nat.le_of_ble_eq_true rfl) dX5_neighbour_8 ⟨(Nat.le_of_ble_eq_true rfl), (Nat.le_of_ble_eq_true rfl)⟩ (fun u H locs hφ hP hD hK hS hk => ?_)
  have hP : va_P D vwCl [(h0, .inr (5, [v0, .ref h1, v1, .ref h2, v2, v3, v4, v5, v6, v7])), (h1, .inr (0, [v8, v9, .int 2, v10, v11, v12, v13])), (h2, .inr (1, [.ref h1, v14, v15, v16, v17, v18, v19, v20, v21, v22, v23, v24, v25]))] H := hP
  have hD : va_D (fun _ => True) [(h0, .inr (5, [v0, .ref h1, v1, .ref h2, v2, v3, v4, v5, v6, v7])), (h1, .inr (0, [v8, v9, .int 2, v10, v11, v12, v13])), (h2, .inr (1, [.ref h1, v14, v15, v16, v17, v18, v19, v20, v21, v22, v23, v24, v25]))] := hD
  have hK : va_K D vwCl [] s := hK
  refine W.widen (k := 0) (n := 0) (Nat.le_of_ble_eq_true rfl) (Nat.le_of_ble_eq_true rfl) ?_
  refine lv_iload_n hx hb dX5_neighbour_11 rfl (lv_at hl 2 rfl) ?_
  refine lv_if_eq (tgt := 26) hx hb dX5_neighbour_12 (by decide) (fun c9 => absurd c9 (by decide)) (fun _ => ?_)
  refine lv_aload_n hx hb dX5_neighbour_15 rfl (lv_at hl 0 rfl) ?_
  refine va_get (D := D) (ci := 5) (v := .ref h2) (C := RX5) (T := TX5) (N := 10) hx hb hg inX5 hown hK hP 0 rfl rfl 3 (by decide) (hg _ k382) (fun _ h9 => h9) rfl dX5_neighbour_16 ?_
  refine lv_iload_n hx hb dX5_neighbour_19 rfl (lv_at hl 1 rfl) ?_
  refine cVi (n := 1) (As := [.int 1]) (rest := []) (wr := [(h0, .inr (5, [v0, .ref h1, v1, .ref h2, v2, v3, v4, v5, v6, v7])), (h1, .inr (0, [v8, v9, .int 2, v10, v11, v12, v13])), (h2, .inr (1, [.ref h1, v14, v15, v16, v17, v18, v19, v20, v21, v22, v23, v24, v25]))]) (tr := []) hx hb hml hown hg okN (cX1_rightOf_377 l D h2 h1 v14 v15 v16 v17 v18 v19 v20 v21 v22 v23 v24 v25 v8 v9 v10 v11 v12 v13) (mwV k881 k579 k580 k87 k581) ⟨rfl, by decide, by decide, by decide +kernel⟩ ⟨rfl, rfl, (Nat.le_of_ble_eq_true rfl), (Nat.le_of_ble_eq_true rfl)⟩ hP hD hK hS xn [2, 1] [] [0, 1, 2] [] [] rfl (by decide) rfl rfl (by decide) (by decide) rfl rfl (aNil hA hS) (fun _ _ => trivial) 2 rfl rfl rfl hl.1 rfl (Nat.le_of_ble_eq_true rfl) dX5_neighbour_20 ⟨(Nat.le_of_ble_eq_true rfl), (Nat.le_of_ble_eq_true rfl)⟩ (fun u H locs hφ hP hD hK hS hk => ?_)
  have hP : va_P D vwCl [(h0, .inr (5, [v0, .ref h1, v1, .ref h2, v2, v3, v4, v5, v6, v7])), (h1, .inr (0, [v8, v9, .int 2, v10, v11, v12, v13])), (h2, .inr (1, [.ref h1, v14, v15, v16, v17, v18, v19, v20, v21, v22, v23, v24, v25]))] H := hP
  have hD : va_D (fun _ => True) [(h0, .inr (5, [v0, .ref h1, v1, .ref h2, v2, v3, v4, v5, v6, v7])), (h1, .inr (0, [v8, v9, .int 2, v10, v11, v12, v13])), (h2, .inr (1, [.ref h1, v14, v15, v16, v17, v18, v19, v20, v21, v22, v23, v24, v25]))] := hD
  have hK : va_K D vwCl [] s := hK
  refine W.widen (k := 0) (n := 0) (Nat.le_of_ble_eq_true rfl) (Nat.le_of_ble_eq_true rfl) ?_
  refine lv_goto (tgt := 34) hx hb dX5_neighbour_23 (by decide) ?_
  exact fi0 hx hb hr hlocks hK hS (Nat.le_of_ble_eq_true rfl) (Nat.le_of_ble_eq_true rfl) dX5_neighbour_34
set_option maxHeartbeats 4000000 in
set_option maxRecDepth 100000 in
theorem cX5_neighbour_378 (l : Launch) (D : va_G) (hlt : l.stackTraces = false) (h0 : Nat) (x0 : Int32) (h1 : Nat) (v0 : Value) (v1 : Value) (v2 : Value) (v3 : Value) (v4 : Value) (v5 : Value) (v6 : Value) (v7 : Value) (v8 : Value) (v9 : Value) (v10 : Value) (v11 : Value) (v12 : Value) (v13 : Value) (v14 : Value)  (d0 : ¬ (x0 < 0)) (d1 : ¬ (x0 < 2)) : CX l yX5_neighbour cX5_neighbour 3 (some .int) { frames := 7, cells := 1, slots := 6, locals := 111 } [.ref h0, .int x0, .int 0] D [(h0, .inr (5, [v0, .ref h1, v1, v2, v3, v4, v5, v6, v7, v8])), (h1, .inr (0, [v9, v10, .int 2, v11, v12, v13, v14]))] [] XX [] xi "java/lang/IndexOutOfBoundsException" 1 6 := by
  refine CX.ofR (by decide +kernel) (Nat.le_of_ble_eq_true rfl) ?_
  intro p e s m below meth c A ls hcs hout hP hK hD hX hA hS hl
  obtain ⟨hx, hb, hr, hml, hown, hg, hlocks, hin⟩ := hcs
  have hown : s.vm.findClass RX5 = some m.cls := hown
  have hl : lv_has ls 3 [(0, .ref h0), (1, .int x0), (2, .int 0)] := hl
  refine lv_iload_n hx hb dX5_neighbour_0 rfl (lv_at hl 1 rfl) ?_
  refine lv_aload_n hx hb dX5_neighbour_1 rfl (lv_at hl 0 rfl) ?_
  refine va_get (D := D) (ci := 5) (v := .ref h1) (C := RX5) (T := TX5) (N := 10) hx hb hg inX5 hown hK hP 0 rfl rfl 1 (by decide) (hg _ k380) (fun _ h9 => h9) rfl dX5_neighbour_2 ?_
  refine va_get (D := D) (ci := 0) (v := .int 2) (C := RX0) (T := TX0) (N := 7) hx hb hg inX0 hown hK hP 1 rfl rfl 2 (by decide) (hg _ k163) (fun _ h9 => h9) rfl dX5_neighbour_5 ?_
  exact xSv (n := 2) (As := [.int x0, .int 2]) (rest := []) hx hb hml hown hg okXX (cX5_needIndex_341 l D hlt x0 d0 d1) (mwS k610 k611 k84 k612) ⟨rfl, by decide, by decide, by decide +kernel⟩ ⟨rfl, rfl, (Nat.le_of_ble_eq_true rfl), (Nat.le_of_ble_eq_true rfl)⟩ hP hD hK hS (okXX.2.2 _ _ _ _ hS.2.1 hX) [] [] rfl (by decide) rfl (aNil hA hS) rfl hl.1 rfl (Nat.le_of_ble_eq_true rfl) dX5_neighbour_8 ⟨(Nat.le_of_ble_eq_true rfl), (Nat.le_of_ble_eq_true rfl)⟩ hout hlocks (Nat.le_of_ble_eq_true rfl) (Nat.le_of_ble_eq_true rfl)
set_option maxHeartbeats 4000000 in
set_option maxRecDepth 100000 in
theorem cX5_neighbour_379 (l : Launch) (D : va_G) (hlt : l.stackTraces = false) (h0 : Nat) (x0 : Int32) (h1 : Nat) (v0 : Value) (v1 : Value) (v2 : Value) (v3 : Value) (v4 : Value) (v5 : Value) (v6 : Value) (v7 : Value) (v8 : Value) (v9 : Value) (v10 : Value) (v11 : Value) (v12 : Value) (v13 : Value) (v14 : Value)  (d0 : ¬ (x0 < 0)) (d1 : ¬ (x0 < 2)) : CX l yX5_neighbour cX5_neighbour 3 (some .int) { frames := 7, cells := 1, slots := 6, locals := 111 } [.ref h0, .int x0, .int 1] D [(h0, .inr (5, [v0, .ref h1, v1, v2, v3, v4, v5, v6, v7, v8])), (h1, .inr (0, [v9, v10, .int 2, v11, v12, v13, v14]))] [] XX [] xi "java/lang/IndexOutOfBoundsException" 1 6 := by
  refine CX.ofR (by decide +kernel) (Nat.le_of_ble_eq_true rfl) ?_
  intro p e s m below meth c A ls hcs hout hP hK hD hX hA hS hl
  obtain ⟨hx, hb, hr, hml, hown, hg, hlocks, hin⟩ := hcs
  have hown : s.vm.findClass RX5 = some m.cls := hown
  have hl : lv_has ls 3 [(0, .ref h0), (1, .int x0), (2, .int 1)] := hl
  refine lv_iload_n hx hb dX5_neighbour_0 rfl (lv_at hl 1 rfl) ?_
  refine lv_aload_n hx hb dX5_neighbour_1 rfl (lv_at hl 0 rfl) ?_
  refine va_get (D := D) (ci := 5) (v := .ref h1) (C := RX5) (T := TX5) (N := 10) hx hb hg inX5 hown hK hP 0 rfl rfl 1 (by decide) (hg _ k380) (fun _ h9 => h9) rfl dX5_neighbour_2 ?_
  refine va_get (D := D) (ci := 0) (v := .int 2) (C := RX0) (T := TX0) (N := 7) hx hb hg inX0 hown hK hP 1 rfl rfl 2 (by decide) (hg _ k163) (fun _ h9 => h9) rfl dX5_neighbour_5 ?_
  exact xSv (n := 2) (As := [.int x0, .int 2]) (rest := []) hx hb hml hown hg okXX (cX5_needIndex_341 l D hlt x0 d0 d1) (mwS k610 k611 k84 k612) ⟨rfl, by decide, by decide, by decide +kernel⟩ ⟨rfl, rfl, (Nat.le_of_ble_eq_true rfl), (Nat.le_of_ble_eq_true rfl)⟩ hP hD hK hS (okXX.2.2 _ _ _ _ hS.2.1 hX) [] [] rfl (by decide) rfl (aNil hA hS) rfl hl.1 rfl (Nat.le_of_ble_eq_true rfl) dX5_neighbour_8 ⟨(Nat.le_of_ble_eq_true rfl), (Nat.le_of_ble_eq_true rfl)⟩ hout hlocks (Nat.le_of_ble_eq_true rfl) (Nat.le_of_ble_eq_true rfl)
set_option maxHeartbeats 4000000 in
set_option maxRecDepth 100000 in
theorem cX5_needIndex_381 (l : Launch) (D : va_G) (hlt : l.stackTraces = false) (x0 : Int32)  (d0 : x0 < 0) : CX l yX5_needIndex cX5_needIndex 2 none { frames := 6, cells := 1, slots := 6, locals := 90 } [.int x0, .int 0] D [] [] XX [] xv "java/lang/IndexOutOfBoundsException" 1 6 := by
  refine CX.ofR (by decide +kernel) (Nat.le_of_ble_eq_true rfl) ?_
  intro p e s m below meth c A ls hcs hout hP hK hD hX hA hS hl
  obtain ⟨hx, hb, hr, hml, hown, hg, hlocks, hin⟩ := hcs
  have hown : s.vm.findClass RX5 = some m.cls := hown
  have hl : lv_has ls 2 [(0, .int x0), (1, .int 0)] := hl
  refine lv_iload_n hx hb dX5_needIndex_0 rfl (lv_at hl 0 rfl) ?_
  refine lv_if_lt (tgt := 9) hx hb dX5_needIndex_1 (by decide) (fun _ => ?_) (fun c9 => absurd d0 c9)
  obtain ⟨sa, hsa⟩ := XX_sRX5_319 hX
  exact thSW_IOOBE hx hb hlt hown (hg _ k613) (hg _ k96) hsa hg hX hS (hl.1.trans hml.symm) dX5_needIndex_9 dX5_needIndex_12 dX5_needIndex_13 dX5_needIndex_16 dX5_needIndex_19 hout (Nat.le_of_ble_eq_true rfl) (Nat.le_of_ble_eq_true rfl) (Nat.le_of_ble_eq_true rfl) (Nat.le_of_ble_eq_true rfl) hlocks (Nat.le_of_ble_eq_true rfl) (Nat.le_of_ble_eq_true rfl)
set_option maxHeartbeats 4000000 in
set_option maxRecDepth 100000 in
theorem cX5_step_380 (l : Launch) (D : va_G) (hlt : l.stackTraces = false) (h0 : Nat) (x0 : Int32) (x1 : Int32) (h1 : Nat) (v0 : Value) (v1 : Value) (v2 : Value) (v3 : Value) (v4 : Value) (v5 : Value) (v6 : Value) (v7 : Value) (v8 : Value) (v9 : Value) (v10 : Value) (v11 : Value) (v12 : Value) (v13 : Value) (v14 : Value) (v15 : Value) (v16 : Value) (v17 : Value) (v18 : Value) (v19 : Value) (v20 : Value)  (d0 : x0 < 0) : CX l yX5_step cX5_step 4 (some .long) { frames := 7, cells := 1, slots := 6, locals := 111 } [.ref h0, .int x0, .int x1] D [(h0, .inr (5, [v0, v1, v2, .ref h1, v3, v4, v5, v6, v7, v8])), (h1, .inr (1, [v9, v10, v11, v12, v13, .int 0, v14, v15, v16, v17, v18, v19, v20]))] [] XX [] xl "java/lang/IndexOutOfBoundsException" 1 6 := by
  refine CX.ofR (by decide +kernel) (Nat.le_of_ble_eq_true rfl) ?_
  intro p e s m below meth c A ls hcs hout hP hK hD hX hA hS hl
  obtain ⟨hx, hb, hr, hml, hown, hg, hlocks, hin⟩ := hcs
  have hown : s.vm.findClass RX5 = some m.cls := hown
  have hl : lv_has ls 4 [(0, .ref h0), (1, .int x0), (2, .int x1)] := hl
  refine lv_iload_n hx hb dX5_step_0 rfl (lv_at hl 1 rfl) ?_
  refine lv_aload_n hx hb dX5_step_1 rfl (lv_at hl 0 rfl) ?_
  refine va_get (D := D) (ci := 5) (v := .ref h1) (C := RX5) (T := TX5) (N := 10) hx hb hg inX5 hown hK hP 0 rfl rfl 3 (by decide) (hg _ k382) (fun _ h9 => h9) rfl dX5_step_2 ?_
  refine va_get (D := D) (ci := 1) (v := .int 0) (C := RX1) (T := TX1) (N := 13) hx hb hg inX1 hown hK hP 1 rfl rfl 5 (by decide) (hg _ k288) (fun _ h9 => h9) rfl dX5_step_5 ?_
  exact xSv (n := 2) (As := [.int x0, .int 0]) (rest := []) hx hb hml hown hg okXX (cX5_needIndex_381 l D hlt x0 d0) (mwS k610 k611 k84 k612) ⟨rfl, by decide, by decide, by decide +kernel⟩ ⟨rfl, rfl, (Nat.le_of_ble_eq_true rfl), (Nat.le_of_ble_eq_true rfl)⟩ hP hD hK hS (okXX.2.2 _ _ _ _ hS.2.1 hX) [] [] rfl (by decide) rfl (aNil hA hS) rfl hl.1 rfl (Nat.le_of_ble_eq_true rfl) dX5_step_8 ⟨(Nat.le_of_ble_eq_true rfl), (Nat.le_of_ble_eq_true rfl)⟩ hout hlocks (Nat.le_of_ble_eq_true rfl) (Nat.le_of_ble_eq_true rfl)
set_option maxHeartbeats 4000000 in
set_option maxRecDepth 100000 in
theorem cX5_needIndex_383 (l : Launch) (D : va_G) (hlt : l.stackTraces = false) (x0 : Int32)  (d0 : ¬ (x0 < 0)) : CX l yX5_needIndex cX5_needIndex 2 none { frames := 6, cells := 1, slots := 6, locals := 90 } [.int x0, .int 0] D [] [] XX [] xv "java/lang/IndexOutOfBoundsException" 1 6 := by
  refine CX.ofR (by decide +kernel) (Nat.le_of_ble_eq_true rfl) ?_
  intro p e s m below meth c A ls hcs hout hP hK hD hX hA hS hl
  obtain ⟨hx, hb, hr, hml, hown, hg, hlocks, hin⟩ := hcs
  have hown : s.vm.findClass RX5 = some m.cls := hown
  have hl : lv_has ls 2 [(0, .int x0), (1, .int 0)] := hl
  refine lv_iload_n hx hb dX5_needIndex_0 rfl (lv_at hl 0 rfl) ?_
  refine lv_if_lt (tgt := 9) hx hb dX5_needIndex_1 (by decide) (fun c9 => absurd c9 d0) (fun _ => ?_)
  refine lv_iload_n hx hb dX5_needIndex_4 rfl (lv_at hl 0 rfl) ?_
  refine lv_iload_n hx hb dX5_needIndex_5 rfl (lv_at hl 1 rfl) ?_
  refine lv_icmp_lt (tgt := 20) hx hb dX5_needIndex_6 (by decide) (fun c9 => absurd c9 d0) (fun _ => ?_)
  obtain ⟨sa, hsa⟩ := XX_sRX5_319 hX
  exact thSW_IOOBE hx hb hlt hown (hg _ k613) (hg _ k96) hsa hg hX hS (hl.1.trans hml.symm) dX5_needIndex_9 dX5_needIndex_12 dX5_needIndex_13 dX5_needIndex_16 dX5_needIndex_19 hout (Nat.le_of_ble_eq_true rfl) (Nat.le_of_ble_eq_true rfl) (Nat.le_of_ble_eq_true rfl) (Nat.le_of_ble_eq_true rfl) hlocks (Nat.le_of_ble_eq_true rfl) (Nat.le_of_ble_eq_true rfl)
set_option maxHeartbeats 4000000 in
set_option maxRecDepth 100000 in
theorem cX5_step_382 (l : Launch) (D : va_G) (hlt : l.stackTraces = false) (h0 : Nat) (x0 : Int32) (x1 : Int32) (h1 : Nat) (v0 : Value) (v1 : Value) (v2 : Value) (v3 : Value) (v4 : Value) (v5 : Value) (v6 : Value) (v7 : Value) (v8 : Value) (v9 : Value) (v10 : Value) (v11 : Value) (v12 : Value) (v13 : Value) (v14 : Value) (v15 : Value) (v16 : Value) (v17 : Value) (v18 : Value) (v19 : Value) (v20 : Value)  (d0 : ¬ (x0 < 0)) : CX l yX5_step cX5_step 4 (some .long) { frames := 7, cells := 1, slots := 6, locals := 111 } [.ref h0, .int x0, .int x1] D [(h0, .inr (5, [v0, v1, v2, .ref h1, v3, v4, v5, v6, v7, v8])), (h1, .inr (1, [v9, v10, v11, v12, v13, .int 0, v14, v15, v16, v17, v18, v19, v20]))] [] XX [] xl "java/lang/IndexOutOfBoundsException" 1 6 := by
  refine CX.ofR (by decide +kernel) (Nat.le_of_ble_eq_true rfl) ?_
  intro p e s m below meth c A ls hcs hout hP hK hD hX hA hS hl
  obtain ⟨hx, hb, hr, hml, hown, hg, hlocks, hin⟩ := hcs
  have hown : s.vm.findClass RX5 = some m.cls := hown
  have hl : lv_has ls 4 [(0, .ref h0), (1, .int x0), (2, .int x1)] := hl
  refine lv_iload_n hx hb dX5_step_0 rfl (lv_at hl 1 rfl) ?_
  refine lv_aload_n hx hb dX5_step_1 rfl (lv_at hl 0 rfl) ?_
  refine va_get (D := D) (ci := 5) (v := .ref h1) (C := RX5) (T := TX5) (N := 10) hx hb hg inX5 hown hK hP 0 rfl rfl 3 (by decide) (hg _ k382) (fun _ h9 => h9) rfl dX5_step_2 ?_
  refine va_get (D := D) (ci := 1) (v := .int 0) (C := RX1) (T := TX1) (N := 13) hx hb hg inX1 hown hK hP 1 rfl rfl 5 (by decide) (hg _ k288) (fun _ h9 => h9) rfl dX5_step_5 ?_
  exact xSv (n := 2) (As := [.int x0, .int 0]) (rest := []) hx hb hml hown hg okXX (cX5_needIndex_383 l D hlt x0 d0) (mwS k610 k611 k84 k612) ⟨rfl, by decide, by decide, by decide +kernel⟩ ⟨rfl, rfl, (Nat.le_of_ble_eq_true rfl), (Nat.le_of_ble_eq_true rfl)⟩ hP hD hK hS (okXX.2.2 _ _ _ _ hS.2.1 hX) [] [] rfl (by decide) rfl (aNil hA hS) rfl hl.1 rfl (Nat.le_of_ble_eq_true rfl) dX5_step_8 ⟨(Nat.le_of_ble_eq_true rfl), (Nat.le_of_ble_eq_true rfl)⟩ hout hlocks (Nat.le_of_ble_eq_true rfl) (Nat.le_of_ble_eq_true rfl)
set_option maxHeartbeats 4000000 in
set_option maxRecDepth 100000 in
theorem cX5_valueAt_384 (l : Launch) (D : va_G) (hlt : l.stackTraces = false) (h0 : Nat) (x0 : Int32) (h1 : Nat) (h2 : Nat) (v0 : Value) (v1 : Value) (v2 : Value) (v3 : Value) (v4 : Value) (v5 : Value) (v6 : Value) (v7 : Value) (v8 : Value) (v9 : Value) (v10 : Value) (v11 : Value) (v12 : Value) (v13 : Value) (v14 : Value) (f0 : Nat → Int32) (a0 : ClassId) (ef0_0 : f0 0 = 0) (d0 : x0 < 0) : CX l yX5_valueAt cX5_valueAt 2 (some .long) { frames := 6, cells := 1, slots := 6, locals := 90 } [.ref h0, .int x0] D [(h0, .inr (5, [v0, .ref h1, v1, v2, v3, v4, v5, v6, v7, v8])), (h1, .inr (0, [.ref h2, v9, v10, v11, v12, v13, v14])), (h2, .inl (a0, 48, .inl f0))] [(a0, .int)] XX [] xl "java/lang/IndexOutOfBoundsException" 1 6 := by
  refine CX.ofR (by decide +kernel) (Nat.le_of_ble_eq_true rfl) ?_
  intro p e s m below meth c A ls hcs hout hP hK hD hX hA hS hl
  obtain ⟨hx, hb, hr, hml, hown, hg, hlocks, hin⟩ := hcs
  have hown : s.vm.findClass RX5 = some m.cls := hown
  have hl : lv_has ls 2 [(0, .ref h0), (1, .int x0)] := hl
  refine lv_iload_n hx hb dX5_valueAt_0 rfl (lv_at hl 1 rfl) ?_
  refine lv_aload_n hx hb dX5_valueAt_1 rfl (lv_at hl 0 rfl) ?_
  refine va_get (D := D) (ci := 5) (v := .ref h1) (C := RX5) (T := TX5) (N := 10) hx hb hg inX5 hown hK hP 0 rfl rfl 1 (by decide) (hg _ k380) (fun _ h9 => h9) rfl dX5_valueAt_2 ?_
  refine va_get (D := D) (ci := 0) (v := .ref h2) (C := RX0) (T := TX0) (N := 7) hx hb hg inX0 hown hK hP 1 rfl rfl 0 (by decide) (hg _ k155) (fun _ h9 => h9) rfl dX5_valueAt_5 ?_
  refine lv_iconst (v := 0) hx hb dX5_valueAt_8 (by decide) ?_
  refine aldI hx hb hK hP 2 0 rfl rfl 0 (by decide) (vin (by decide)) (v := 0) ef0_0 dX5_valueAt_9 ?_
  refine lv_icmp_lt (tgt := 34) hx hb dX5_valueAt_10 (by decide) (fun _ => ?_) (fun c9 => absurd d0 c9)
  obtain ⟨sa, hsa⟩ := XX_sRX5_198 hX
  exact thS_IOOBE hx hb hlt hown (hg _ k613) (hg _ k96) hsa hg hX hS (hl.1.trans hml.symm) dX5_valueAt_34 dX5_valueAt_37 dX5_valueAt_38 dX5_valueAt_40 dX5_valueAt_43 hout (Nat.le_of_ble_eq_true rfl) (Nat.le_of_ble_eq_true rfl) (Nat.le_of_ble_eq_true rfl) (Nat.le_of_ble_eq_true rfl) hlocks (Nat.le_of_ble_eq_true rfl) (Nat.le_of_ble_eq_true rfl)
set_option maxHeartbeats 4000000 in
set_option maxRecDepth 100000 in
theorem cX4_copyFrom_388 (l : Launch) (D : va_G) (h0 : Nat) (h1 : Nat) (h2 : Nat) (h3 : Nat) (v0 : Value) (v1 : Value) (f0 : Nat → Int32) (f1 : Nat → Int32) (a0 : ClassId) (a1 : ClassId) (ef0_0 : f0 0 = 0)  : CT l yX4_copyFrom cX4_copyFrom 2 none { frames := 0, cells := 0, slots := 0, locals := 0 } [.ref h0, .ref h1] D [(h0, .inr (4, [.ref h3, v0, v1])), (h1, .inr (4, [.ref h2, .int 0, .int 0])), (h2, .inl (a0, 2, .inl f0)), (h3, .inl (a1, 2, .inl f1))] [(a0, .int), (a1, .int)] XN [(h0, .inr (4, [.ref h3, v0, v1])), (h1, .inr (4, [.ref h2, .int 0, .int 0])), (h2, .inl (a0, 2, .inl f0)), (h3, .inl (a1, 2, .inl f1))] (ev (fun _ : Unit => True) (fun _ => [(h0, .inr (4, [.ref h3, .int 0, .int 0])), (h1, .inr (4, [.ref h2, .int 0, .int 0])), (h2, .inl (a0, 2, .inl f0)), (h3, .inl (a1, 2, .inl (upd f1 0 0)))]) (fun u => [(a0, .int), (a1, .int)]) D) 0 0 := by
  refine CT.ofW (by decide +kernel) (Nat.le_of_ble_eq_true rfl) ?_
  intro p e s m below meth c A ls hcs hP hK hD hX hA hS hl
  obtain ⟨hx, hb, hr, hml, hown, hg, hlocks, hin⟩ := hcs
  have hown : s.vm.findClass RX4 = some m.cls := hown
  have hl : lv_has ls 2 [(0, .ref h0), (1, .ref h1)] := hl
  refine lv_aload_n hx hb dX4_copyFrom_0 rfl (lv_at hl 0 rfl) ?_
  refine va_get (D := D) (ci := 4) (v := .ref h3) (C := RX4) (T := TX4) (N := 3) hx hb hg inX4 hown hK hP 0 rfl rfl 0 (by decide) (hg _ k209) (fun _ h9 => h9) rfl dX4_copyFrom_1 ?_
  refine lv_iconst (v := 0) hx hb dX4_copyFrom_4 (by decide) ?_
  refine lv_aload_n hx hb dX4_copyFrom_5 rfl (lv_at hl 1 rfl) ?_
  refine va_get (D := D) (ci := 4) (v := .ref h2) (C := RX4) (T := TX4) (N := 3) hx hb hg inX4 hown hK hP 1 rfl rfl 0 (by decide) (hg _ k209) (fun _ h9 => h9) rfl dX4_copyFrom_6 ?_
  refine lv_iconst (v := 0) hx hb dX4_copyFrom_9 (by decide) ?_
  refine aldI hx hb hK hP 2 0 rfl rfl 0 (by decide) (vin (by decide)) (v := 0) ef0_0 dX4_copyFrom_10 ?_
  refine astI hx hb hK hP hD hS 3 1 rfl rfl 0 (by decide) (vin (by decide)) dX4_copyFrom_11 (fun H locs hP hD hS => ?_)
  have hP : va_P D vwCl [(h0, .inr (4, [.ref h3, v0, v1])), (h1, .inr (4, [.ref h2, .int 0, .int 0])), (h2, .inl (a0, 2, .inl f0)), (h3, .inl (a1, 2, .inl (upd f1 0 0)))] H := hP
  have hD : va_D A [(h0, .inr (4, [.ref h3, v0, v1])), (h1, .inr (4, [.ref h2, .int 0, .int 0])), (h2, .inl (a0, 2, .inl f0)), (h3, .inl (a1, 2, .inl (upd f1 0 0)))] := hD
  refine lv_aload_n hx hb dX4_copyFrom_12 rfl (lv_at hl 1 rfl) ?_
  refine va_get (D := D) (ci := 4) (v := .int 0) (C := RX4) (T := TX4) (N := 3) hx hb hg inX4 hown hK hP 1 rfl rfl 1 (by decide) (hg _ k210) (fun _ h9 => h9) rfl dX4_copyFrom_13 ?_
  refine lv_iconst (v := 1) hx hb dX4_copyFrom_16 (by decide) ?_
  refine lv_icmp_le (tgt := 46) hx hb dX4_copyFrom_17 (by decide) (fun _ => ?_) (fun c9 => absurd (by decide) c9)
  refine lv_aload_n hx hb dX4_copyFrom_46 rfl (lv_at hl 0 rfl) ?_
  refine lv_aload_n hx hb dX4_copyFrom_47 rfl (lv_at hl 1 rfl) ?_
  refine va_get (D := D) (ci := 4) (v := .int 0) (C := RX4) (T := TX4) (N := 3) hx hb hg inX4 hown hK hP 1 rfl rfl 1 (by decide) (hg _ k210) (fun _ h9 => h9) rfl dX4_copyFrom_48 ?_
  refine va_put (D := D) (ci := 4) (v := .int 0) (ty := .int) (C := RX4) (T := TX4) (N := 3) hx hb hg inX4 tyX4 tyX4_ok nmX4 hown hK hP hD hS 0 rfl rfl 1 (by decide) (hg _ k210) (fun _ h9 => h9) rfl (by decide +kernel) rfl rfl (Nat.le_of_ble_eq_true rfl) dX4_copyFrom_51 (fun H locs hP hD hS => ?_)
  have hP : va_P D vwCl [(h0, .inr (4, [.ref h3, .int 0, v1])), (h1, .inr (4, [.ref h2, .int 0, .int 0])), (h2, .inl (a0, 2, .inl f0)), (h3, .inl (a1, 2, .inl (upd f1 0 0)))] H := hP
  have hD : va_D A [(h0, .inr (4, [.ref h3, .int 0, v1])), (h1, .inr (4, [.ref h2, .int 0, .int 0])), (h2, .inl (a0, 2, .inl f0)), (h3, .inl (a1, 2, .inl (upd f1 0 0)))] := hD
  refine lv_aload_n hx hb dX4_copyFrom_54 rfl (lv_at hl 0 rfl) ?_
  refine lv_aload_n hx hb dX4_copyFrom_55 rfl (lv_at hl 1 rfl) ?_
  refine va_get (D := D) (ci := 4) (v := .int 0) (C := RX4) (T := TX4) (N := 3) hx hb hg inX4 hown hK hP 1 rfl rfl 2 (by decide) (hg _ k211) (fun _ h9 => h9) rfl dX4_copyFrom_56 ?_
  refine va_put (D := D) (ci := 4) (v := .int 0) (ty := .boolean) (C := RX4) (T := TX4) (N := 3) hx hb hg inX4 tyX4 tyX4_ok nmX4 hown hK hP hD hS 0 rfl rfl 2 (by decide) (hg _ k211) (fun _ h9 => h9) rfl (by decide +kernel) rfl rfl (Nat.le_of_ble_eq_true rfl) dX4_copyFrom_59 (fun H locs hP hD hS => ?_)
  have hP : va_P D vwCl [(h0, .inr (4, [.ref h3, .int 0, .int 0])), (h1, .inr (4, [.ref h2, .int 0, .int 0])), (h2, .inl (a0, 2, .inl f0)), (h3, .inl (a1, 2, .inl (upd f1 0 0)))] H := hP
  have hD : va_D A [(h0, .inr (4, [.ref h3, .int 0, .int 0])), (h1, .inr (4, [.ref h2, .int 0, .int 0])), (h2, .inl (a0, 2, .inl f0)), (h3, .inl (a1, 2, .inl (upd f1 0 0)))] := hD
  exact fv hx hb hr hlocks hP hD hK hS (()) trivial [0, 1, 2, 3] [0, 1] rfl (by decide) rfl (Nat.le_of_ble_eq_true rfl) (Nat.le_of_ble_eq_true rfl) dX4_copyFrom_62
set_option maxHeartbeats 4000000 in
set_option maxRecDepth 100000 in
theorem cX4_lowest_390 (l : Launch) (D : va_G) (h0 : Nat) (h1 : Nat) (v0 : Value) (f0 : Nat → Int32) (a0 : ClassId) (ef0_0 : f0 0 = 0)  : CT l yX4_lowest cX4_lowest 1 (some .long) { frames := 0, cells := 0, slots := 0, locals := 0 } [.ref h0] D [(h0, .inr (4, [.ref h1, v0, .int 0])), (h1, .inl (a0, 2, .inl f0))] [(a0, .int)] XN [] (el (fun _ : Unit => True) (fun _ => 0) (fun _ => []) (fun _ => []) D) 0 0 := by
  refine CT.ofR (by decide +kernel) (Nat.le_of_ble_eq_true rfl) ?_
  intro p e s m below meth c A ls hcs hP hK hD hX hA hS hl
  obtain ⟨hx, hb, hr, hml, hown, hg, hlocks, hin⟩ := hcs
  have hown : s.vm.findClass RX4 = some m.cls := hown
  have hl : lv_has ls 1 [(0, .ref h0)] := hl
  refine lv_aload_n hx hb dX4_lowest_0 rfl (lv_at hl 0 rfl) ?_
  refine va_get (D := D) (ci := 4) (v := .int 0) (C := RX4) (T := TX4) (N := 3) hx hb hg inX4 hown hK hP 0 rfl rfl 2 (by decide) (hg _ k211) (fun _ h9 => h9) rfl dX4_lowest_1 ?_
  refine lv_if_eq (tgt := 22) hx hb dX4_lowest_4 (by decide) (fun _ => ?_) (fun c9 => absurd (by decide) c9)
  refine lv_aload_n hx hb dX4_lowest_22 rfl (lv_at hl 0 rfl) ?_
  refine va_get (D := D) (ci := 4) (v := .ref h1) (C := RX4) (T := TX4) (N := 3) hx hb hg inX4 hown hK hP 0 rfl rfl 0 (by decide) (hg _ k209) (fun _ h9 => h9) rfl dX4_lowest_23 ?_
  refine lv_iconst (v := 0) hx hb dX4_lowest_26 (by decide) ?_
  refine aldI hx hb hK hP 1 0 rfl rfl 0 (by decide) (vin (by decide)) (v := 0) ef0_0 dX4_lowest_27 ?_
  refine lv_i2l (v := 0) hx hb dX4_lowest_28 (by decide) ?_
  refine lv_ldc2 hx hb hown (hg _ k348) dX4_lowest_29 ?_
  refine lv_land hx hb dX4_lowest_32 ?_
  refine tl (0) (by decide) ?_
  exact fl0 hx hb hr hlocks hK hS (Nat.le_of_ble_eq_true rfl) (Nat.le_of_ble_eq_true rfl) dX4_lowest_33
set_option maxHeartbeats 4000000 in
set_option maxRecDepth 100000 in
theorem cX4_become_391 (l : Launch) (D : va_G) (h0 : Nat) (h1 : Nat) (v0 : Value) (v1 : Value) (f0 : Nat → Int32) (a0 : ClassId)   : CT l yX4_become cX4_become 5 none { frames := 0, cells := 0, slots := 0, locals := 0 } [.ref h0, .long 0] D [(h0, .inr (4, [.ref h1, v0, v1])), (h1, .inl (a0, 2, .inl f0))] [(a0, .int)] XN [(h0, .inr (4, [.ref h1, v0, v1])), (h1, .inl (a0, 2, .inl f0))] (ev (fun _ : Unit => True) (fun _ => [(h0, .inr (4, [.ref h1, .int 0, .int 0])), (h1, .inl (a0, 2, .inl (upd (upd f0 0 0) 1 0)))]) (fun u => [(a0, .int)]) D) 0 0 := by
  refine CT.ofW (by decide +kernel) (Nat.le_of_ble_eq_true rfl) ?_
  intro p e s m below meth c A ls hcs hP hK hD hX hA hS hl
  obtain ⟨hx, hb, hr, hml, hown, hg, hlocks, hin⟩ := hcs
  have hown : s.vm.findClass RX4 = some m.cls := hown
  have hl : lv_has ls 5 [(0, .ref h0), (1, .long 0)] := hl
  refine lv_aload_n hx hb dX4_become_0 rfl (lv_at hl 0 rfl) ?_
  refine lv_lload_n hx hb dX4_become_1 rfl (lv_at hl 1 rfl) ?_
  refine lv_lconst (v := 0) hx hb dX4_become_2 (by decide) ?_
  refine W.lcmp hx hb dX4_become_3 ?_
  refine ti (0) (by decide) ?_
  refine lv_if_ge (tgt := 11) hx hb dX4_become_4 (by decide) (fun _ => ?_) (fun c9 => absurd (by decide) c9)
  refine lv_iconst (v := 0) hx hb dX4_become_11 (by decide) ?_
  refine va_put (D := D) (ci := 4) (v := .int 0) (ty := .boolean) (C := RX4) (T := TX4) (N := 3) hx hb hg inX4 tyX4 tyX4_ok nmX4 hown hK hP hD hS 0 rfl rfl 2 (by decide) (hg _ k211) (fun _ h9 => h9) rfl (by decide +kernel) rfl rfl (Nat.le_of_ble_eq_true rfl) dX4_become_12 (fun H locs hP hD hS => ?_)
  have hP : va_P D vwCl [(h0, .inr (4, [.ref h1, v0, .int 0])), (h1, .inl (a0, 2, .inl f0))] H := hP
  have hD : va_D A [(h0, .inr (4, [.ref h1, v0, .int 0])), (h1, .inl (a0, 2, .inl f0))] := hD
  refine lv_aload_n hx hb dX4_become_15 rfl (lv_at hl 0 rfl) ?_
  refine va_get (D := D) (ci := 4) (v := .int 0) (C := RX4) (T := TX4) (N := 3) hx hb hg inX4 hown hK hP 0 rfl rfl 2 (by decide) (hg _ k211) (fun _ h9 => h9) rfl dX4_become_16 ?_
  refine lv_if_eq (tgt := 27) hx hb dX4_become_19 (by decide) (fun _ => ?_) (fun c9 => absurd (by decide) c9)
  refine lv_lload_n hx hb dX4_become_27 rfl (lv_at hl 1 rfl) ?_
  refine lv_lstore_n (lv' := [(3, .long 0), (0, .ref h0), (1, .long 0)]) hx hb dX4_become_28 rfl hl (by decide) rfl (fun ls hl => ?_)
  refine lv_aload_n hx hb dX4_become_29 rfl (lv_at hl 1 rfl) ?_
  refine va_get (D := D) (ci := 4) (v := .ref h1) (C := RX4) (T := TX4) (N := 3) hx hb hg inX4 hown hK hP 0 rfl rfl 0 (by decide) (hg _ k209) (fun _ h9 => h9) rfl dX4_become_30 ?_
  refine lv_iconst (v := 0) hx hb dX4_become_33 (by decide) ?_
  refine lv_lload_n hx hb dX4_become_34 rfl (lv_at hl 0 rfl) ?_
  refine lv_l2i (v := 0) hx hb dX4_become_35 (by decide) ?_
  refine astI hx hb hK hP hD hS 1 0 rfl rfl 0 (by decide) (vin (by decide)) dX4_become_36 (fun H locs hP hD hS => ?_)
  have hP : va_P D vwCl [(h0, .inr (4, [.ref h1, v0, .int 0])), (h1, .inl (a0, 2, .inl (upd f0 0 0)))] H := hP
  have hD : va_D A [(h0, .inr (4, [.ref h1, v0, .int 0])), (h1, .inl (a0, 2, .inl (upd f0 0 0)))] := hD
  refine lv_aload_n hx hb dX4_become_37 rfl (lv_at hl 1 rfl) ?_
  refine va_get (D := D) (ci := 4) (v := .ref h1) (C := RX4) (T := TX4) (N := 3) hx hb hg inX4 hown hK hP 0 rfl rfl 0 (by decide) (hg _ k209) (fun _ h9 => h9) rfl dX4_become_38 ?_
  refine lv_iconst (v := 1) hx hb dX4_become_41 (by decide) ?_
  refine lv_lload_n hx hb dX4_become_42 rfl (lv_at hl 0 rfl) ?_
  refine lv_bipush (v := 32) hx hb dX4_become_43 (by decide) ?_
  refine lv_lushr (v := 0) hx hb dX4_become_45 (by decide) ?_
  refine lv_l2i (v := 0) hx hb dX4_become_46 (by decide) ?_
  refine astI hx hb hK hP hD hS 1 0 rfl rfl 1 (by decide) (vin (by decide)) dX4_become_47 (fun H locs hP hD hS => ?_)
  have hP : va_P D vwCl [(h0, .inr (4, [.ref h1, v0, .int 0])), (h1, .inl (a0, 2, .inl (upd (upd f0 0 0) 1 0)))] H := hP
  have hD : va_D A [(h0, .inr (4, [.ref h1, v0, .int 0])), (h1, .inl (a0, 2, .inl (upd (upd f0 0 0) 1 0)))] := hD
  refine lv_aload_n hx hb dX4_become_48 rfl (lv_at hl 1 rfl) ?_
  refine lv_aload_n hx hb dX4_become_49 rfl (lv_at hl 1 rfl) ?_
  refine va_get (D := D) (ci := 4) (v := .ref h1) (C := RX4) (T := TX4) (N := 3) hx hb hg inX4 hown hK hP 0 rfl rfl 0 (by decide) (hg _ k209) (fun _ h9 => h9) rfl dX4_become_50 ?_
  refine lv_iconst (v := 1) hx hb dX4_become_53 (by decide) ?_
  refine aldI hx hb hK hP 1 0 rfl rfl 1 (by decide) (vin (by decide)) (v := 0) rfl dX4_become_54 ?_
  refine lv_if_eq (tgt := 62) hx hb dX4_become_55 (by decide) (fun _ => ?_) (fun c9 => absurd (by decide) c9)
  refine lv_aload_n hx hb dX4_become_62 rfl (lv_at hl 1 rfl) ?_
  refine va_get (D := D) (ci := 4) (v := .ref h1) (C := RX4) (T := TX4) (N := 3) hx hb hg inX4 hown hK hP 0 rfl rfl 0 (by decide) (hg _ k209) (fun _ h9 => h9) rfl dX4_become_63 ?_
  refine lv_iconst (v := 0) hx hb dX4_become_66 (by decide) ?_
  refine aldI hx hb hK hP 1 0 rfl rfl 0 (by decide) (vin (by decide)) (v := 0) rfl dX4_become_67 ?_
  refine lv_if_eq (tgt := 75) hx hb dX4_become_68 (by decide) (fun _ => ?_) (fun c9 => absurd (by decide) c9)
  refine lv_iconst (v := 0) hx hb dX4_become_75 (by decide) ?_
  refine va_put (D := D) (ci := 4) (v := .int 0) (ty := .int) (C := RX4) (T := TX4) (N := 3) hx hb hg inX4 tyX4 tyX4_ok nmX4 hown hK hP hD hS 0 rfl rfl 1 (by decide) (hg _ k210) (fun _ h9 => h9) rfl (by decide +kernel) rfl rfl (Nat.le_of_ble_eq_true rfl) dX4_become_76 (fun H locs hP hD hS => ?_)
  have hP : va_P D vwCl [(h0, .inr (4, [.ref h1, .int 0, .int 0])), (h1, .inl (a0, 2, .inl (upd (upd f0 0 0) 1 0)))] H := hP
  have hD : va_D A [(h0, .inr (4, [.ref h1, .int 0, .int 0])), (h1, .inl (a0, 2, .inl (upd (upd f0 0 0) 1 0)))] := hD
  exact fv hx hb hr hlocks hP hD hK hS (()) trivial [0, 1] [0] rfl (by decide) rfl (Nat.le_of_ble_eq_true rfl) (Nat.le_of_ble_eq_true rfl) dX4_become_79
set_option maxHeartbeats 4000000 in
set_option maxRecDepth 100000 in
theorem cX4_add_389 (l : Launch) (D : va_G) (h0 : Nat) (h1 : Nat) (h2 : Nat) (h3 : Nat) (f0 : Nat → Int32) (f1 : Nat → Int32) (a0 : ClassId) (a1 : ClassId) (ef0_0 : f0 0 = 0) (ef1_0 : f1 0 = 0)  : CT l yX4_add cX4_add 7 none { frames := 1, cells := 0, slots := 0, locals := 24 } [.ref h0, .ref h1, .long (-1)] D [(h0, .inr (4, [.ref h2, .int 0, .int 0])), (h1, .inr (4, [.ref h3, .int 0, .int 0])), (h2, .inl (a0, 2, .inl f0)), (h3, .inl (a1, 2, .inl f1))] [(a0, .int), (a1, .int)] XN [(h0, .inr (4, [.ref h2, .int 0, .int 0])), (h1, .inr (4, [.ref h3, .int 0, .int 0])), (h2, .inl (a0, 2, .inl f0)), (h3, .inl (a1, 2, .inl f1))] (ev (fun _ : Unit => True) (fun _ => [(h0, .inr (4, [.ref h2, .int 0, .int 0])), (h1, .inr (4, [.ref h3, .int 0, .int 0])), (h2, .inl (a0, 2, .inl (upd (upd f0 0 0) 1 0))), (h3, .inl (a1, 2, .inl f1))]) (fun u => [(a0, .int), (a1, .int)]) D) 0 0 := by
  refine CT.ofW (by decide +kernel) (Nat.le_of_ble_eq_true rfl) ?_
  intro p e s m below meth c A ls hcs hP hK hD hX hA hS hl
  obtain ⟨hx, hb, hr, hml, hown, hg, hlocks, hin⟩ := hcs
  have hown : s.vm.findClass RX4 = some m.cls := hown
  have hl : lv_has ls 7 [(0, .ref h0), (1, .ref h1), (2, .long (-1))] := hl
  refine lv_aload_n hx hb dX4_add_0 rfl (lv_at hl 0 rfl) ?_
  refine va_get (D := D) (ci := 4) (v := .int 0) (C := RX4) (T := TX4) (N := 3) hx hb hg inX4 hown hK hP 0 rfl rfl 1 (by decide) (hg _ k210) (fun _ h9 => h9) rfl dX4_add_1 ?_
  refine lv_iconst (v := 1) hx hb dX4_add_4 (by decide) ?_
  refine lv_icmp_gt (tgt := 32) hx hb dX4_add_5 (by decide) (fun c9 => absurd c9 (by decide)) (fun _ => ?_)
  refine lv_aload_n hx hb dX4_add_8 rfl (lv_at hl 1 rfl) ?_
  refine va_get (D := D) (ci := 4) (v := .int 0) (C := RX4) (T := TX4) (N := 3) hx hb hg inX4 hown hK hP 1 rfl rfl 1 (by decide) (hg _ k210) (fun _ h9 => h9) rfl dX4_add_9 ?_
  refine lv_iconst (v := 1) hx hb dX4_add_12 (by decide) ?_
  refine lv_icmp_gt (tgt := 32) hx hb dX4_add_13 (by decide) (fun c9 => absurd c9 (by decide)) (fun _ => ?_)
  refine lv_aload_n hx hb dX4_add_16 rfl (lv_at hl 0 rfl) ?_
  refine lv_aload_n hx hb dX4_add_17 rfl (lv_at hl 0 rfl) ?_
  refine cVl (n := 0) (As := []) (rest := [.ref h0]) (wr := [(h0, .inr (4, [.ref h2, .int 0, .int 0])), (h1, .inr (4, [.ref h3, .int 0, .int 0])), (h2, .inl (a0, 2, .inl f0)), (h3, .inl (a1, 2, .inl f1))]) (tr := [(a0, .int), (a1, .int)]) hx hb hml hown hg okN (cX4_lowest_390 l D h0 h2 (.int 0) f0 a0 ef0_0) (mwV k344 k346 k0 k88 k347) ⟨rfl, by decide, by decide, by decide +kernel⟩ ⟨rfl, rfl, (Nat.le_of_ble_eq_true rfl), (Nat.le_of_ble_eq_true rfl)⟩ hP hD hK hS xn [0, 2] [] [0, 1, 2, 3] [0] [0, 1] rfl (by decide) rfl rfl (by decide) (by decide) rfl rfl (aNil hA hS) (aNil hA hS) 0 rfl rfl rfl hl.1 rfl (Nat.le_of_ble_eq_true rfl) dX4_add_18 ⟨(Nat.le_of_ble_eq_true rfl), (Nat.le_of_ble_eq_true rfl)⟩ (fun u H locs hφ hP hD hK hS hk => ?_)
  have hP : va_P D vwCl [(h0, .inr (4, [.ref h2, .int 0, .int 0])), (h1, .inr (4, [.ref h3, .int 0, .int 0])), (h2, .inl (a0, 2, .inl f0)), (h3, .inl (a1, 2, .inl f1))] H := hP
  have hD : va_D A [(h0, .inr (4, [.ref h2, .int 0, .int 0])), (h1, .inr (4, [.ref h3, .int 0, .int 0])), (h2, .inl (a0, 2, .inl f0)), (h3, .inl (a1, 2, .inl f1))] := hD
  have hK : va_K D vwCl [(a0, .int), (a1, .int)] s := hK
  refine W.widen (k := 0) (n := 0) (Nat.le_of_ble_eq_true rfl) (Nat.le_of_ble_eq_true rfl) ?_
  refine lv_aload_n hx hb dX4_add_21 rfl (lv_at hl 1 rfl) ?_
  refine cVl (n := 0) (As := []) (rest := [.long 0, .ref h0]) (wr := [(h0, .inr (4, [.ref h2, .int 0, .int 0])), (h1, .inr (4, [.ref h3, .int 0, .int 0])), (h2, .inl (a0, 2, .inl f0)), (h3, .inl (a1, 2, .inl f1))]) (tr := [(a0, .int), (a1, .int)]) hx hb hml hown hg okN (cX4_lowest_390 l D h1 h3 (.int 0) f1 a1 ef1_0) (mwV k344 k346 k0 k88 k347) ⟨rfl, by decide, by decide, by decide +kernel⟩ ⟨rfl, rfl, (Nat.le_of_ble_eq_true rfl), (Nat.le_of_ble_eq_true rfl)⟩ hP hD hK hS xn [1, 3] [] [0, 1, 2, 3] [1] [0, 1] rfl (by decide) rfl rfl (by decide) (by decide) rfl rfl (aNil hA hS) (aNil hA hS) 1 rfl rfl rfl hl.1 rfl (Nat.le_of_ble_eq_true rfl) dX4_add_22 ⟨(Nat.le_of_ble_eq_true rfl), (Nat.le_of_ble_eq_true rfl)⟩ (fun u H locs hφ hP hD hK hS hk => ?_)
  have hP : va_P D vwCl [(h0, .inr (4, [.ref h2, .int 0, .int 0])), (h1, .inr (4, [.ref h3, .int 0, .int 0])), (h2, .inl (a0, 2, .inl f0)), (h3, .inl (a1, 2, .inl f1))] H := hP
  have hD : va_D A [(h0, .inr (4, [.ref h2, .int 0, .int 0])), (h1, .inr (4, [.ref h3, .int 0, .int 0])), (h2, .inl (a0, 2, .inl f0)), (h3, .inl (a1, 2, .inl f1))] := hD
  have hK : va_K D vwCl [(a0, .int), (a1, .int)] s := hK
  refine W.widen (k := 0) (n := 0) (Nat.le_of_ble_eq_true rfl) (Nat.le_of_ble_eq_true rfl) ?_
  refine lv_lload_n hx hb dX4_add_25 rfl (lv_at hl 2 rfl) ?_
  refine lv_lmul hx hb dX4_add_26 ?_
  refine tl (0) (by decide) ?_
  refine lv_ladd hx hb dX4_add_27 ?_
  refine tl (0) (by decide) ?_
  refine cVv (n := 1) (As := [.long 0]) (rest := []) (wr := [(h1, .inr (4, [.ref h3, .int 0, .int 0])), (h3, .inl (a1, 2, .inl f1))]) (tr := [(a1, .int)]) hx hb hml hown hg okN (cX4_become_391 l D h0 h2 (.int 0) (.int 0) f0 a0) (mwV k349 k275 k276 k88 k277) ⟨rfl, by decide, by decide, by decide +kernel⟩ ⟨rfl, rfl, (Nat.le_of_ble_eq_true rfl), (Nat.le_of_ble_eq_true rfl)⟩ hP hD hK hS xn [0, 2] [0, 2] [1, 3] [0] [1] rfl (by decide) rfl rfl (by decide) (by decide) rfl rfl (va_free hD hS hA [0, 2] rfl) (va_free hD hS hA [0, 2] rfl) 0 rfl rfl rfl hl.1 rfl (Nat.le_of_ble_eq_true rfl) dX4_add_28 ⟨(Nat.le_of_ble_eq_true rfl), (Nat.le_of_ble_eq_true rfl)⟩ (fun u H locs hφ hP hD hK hS hk => ?_)
  have hP : va_P D vwCl [(h1, .inr (4, [.ref h3, .int 0, .int 0])), (h3, .inl (a1, 2, .inl f1)), (h0, .inr (4, [.ref h2, .int 0, .int 0])), (h2, .inl (a0, 2, .inl (upd (upd f0 0 0) 1 0)))] H := hP
  have hD : va_D A [(h1, .inr (4, [.ref h3, .int 0, .int 0])), (h3, .inl (a1, 2, .inl f1)), (h0, .inr (4, [.ref h2, .int 0, .int 0])), (h2, .inl (a0, 2, .inl (upd (upd f0 0 0) 1 0)))] := hD
  have hK : va_K D vwCl [(a1, .int), (a0, .int)] s := hK
  refine W.widen (k := 0) (n := 0) (Nat.le_of_ble_eq_true rfl) (Nat.le_of_ble_eq_true rfl) ?_
  exact fv hx hb hr hlocks hP hD hK hS (()) trivial [2, 0, 3, 1] [1, 0] rfl (by decide) rfl (Nat.le_of_ble_eq_true rfl) (Nat.le_of_ble_eq_true rfl) dX4_add_31
