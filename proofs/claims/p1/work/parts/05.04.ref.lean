set_option maxHeartbeats 4000000 in
set_option maxRecDepth 100000 in
theorem cX6_reason_289 (l : Launch) (D : va_G) (h0 : Nat) (x0 : Int32) (v0 : Value) (v1 : Value) (v2 : Value) (v3 : Value) (v4 : Value) (v5 : Value) (v6 : Value) (v7 : Value) (v8 : Value) (v9 : Value) (v10 : Value) (v11 : Value) (v12 : Value) (v13 : Value) (v14 : Value) (v15 : Value) (v16 : Value) (v17 : Value) (v18 : Value) (v19 : Value) (v20 : Value) (v21 : Value) (v22 : Value) (v23 : Value) (v24 : Value) (v25 : Value) (v26 : Value)  (d0 : ¬ ((lg_cmp x0.toInt64 0) < 0)) (d1 : 0 < (lg_cmp x0.toInt64 1)) : CT l yX6_reason cX6_reason 2 (some .int) { frames := 1, cells := 0, slots := 0, locals := 25 } [.ref h0, .int x0] D [(h0, .inr (6, [v0, v1, v2, v3, v4, v5, v6, v7, v8, v9, v10, v11, v12, v13, v14, v15, v16, v17, v18, v19, v20, v21, v22, v23, v24, v25, v26]))] [] XN [(h0, .inr (6, [v0, v1, v2, v3, v4, v5, v6, v7, v8, v9, v10, v11, v12, v13, v14, v15, v16, v17, v18, v19, v20, v21, v22, v23, v24, v25, v26]))] (ei (fun _ : Unit => True) (fun u => 0) (fun _ => [(h0, .inr (6, [.int 1, v1, v2, v3, v4, v5, v6, v7, v8, v9, v10, v11, v12, v13, v14, v15, v16, v17, v18, v19, v20, v21, v22, v23, v24, v25, v26]))]) (fun u => []) D) 0 0 := by
  refine CT.ofW (by decide) (Nat.le_of_ble_eq_true rfl) ?_
  intro p e s m below meth c A ls hcs hP hK hD hX hA hS hl
  obtain ⟨hx, hb, hr, hml, hown, hg, hlocks, hin⟩ := hcs
  have hown : s.vm.findClass RX6 = some m.cls := hown
  have hl : lv_has ls 2 [(0, .ref h0), (1, .int x0)] := hl
  refine lv_aload_n hx hb dX6_reason_0 rfl (lv_at hl 0 rfl) ?_
  refine lv_iload_n hx hb dX6_reason_1 rfl (lv_at hl 1 rfl) ?_
  refine lv_i2l (v := x0.toInt64) hx hb dX6_reason_2 rfl ?_
  refine lv_lconst (v := 0) hx hb dX6_reason_3 (by decide) ?_
  refine lv_lconst (v := 1) hx hb dX6_reason_4 (by decide) ?_
  refine cSi (n := 3) (As := [.long x0.toInt64, .long 0, .long 1]) (rest := [.ref h0]) (wr := [(h0, .inr (6, [v0, v1, v2, v3, v4, v5, v6, v7, v8, v9, v10, v11, v12, v13, v14, v15, v16, v17, v18, v19, v20, v21, v22, v23, v24, v25, v26]))]) (tr := []) hx hb hml hown hg okN (cX6_in_61 l D x0 d0 d1) (mwS k1317 k1318 k92 k1319) ⟨rfl, by decide, by decide, by decide +kernel⟩ ⟨rfl, rfl, (Nat.le_of_ble_eq_true rfl), (Nat.le_of_ble_eq_true rfl)⟩ hP hD hK hS xn [] [] [0] [] [] rfl (by decide) rfl rfl (by decide) (by decide) rfl rfl (aNil hA hS) (aNil hA hS) rfl hl.1 rfl (Nat.le_of_ble_eq_true rfl) dX6_reason_5 ⟨(Nat.le_of_ble_eq_true rfl), (Nat.le_of_ble_eq_true rfl)⟩ (fun u H locs hφ hP hD hK hS hk => ?_)
  have hP : va_P D vwCl [(h0, .inr (6, [v0, v1, v2, v3, v4, v5, v6, v7, v8, v9, v10, v11, v12, v13, v14, v15, v16, v17, v18, v19, v20, v21, v22, v23, v24, v25, v26]))] H := hP
  have hD : va_D A [(h0, .inr (6, [v0, v1, v2, v3, v4, v5, v6, v7, v8, v9, v10, v11, v12, v13, v14, v15, v16, v17, v18, v19, v20, v21, v22, v23, v24, v25, v26]))] := hD
  have hK : va_K D vwCl [] s := hK
  refine W.widen (k := 0) (n := 0) (Nat.le_of_ble_eq_true rfl) (Nat.le_of_ble_eq_true rfl) ?_
  refine lv_if_eq (tgt := 15) hx hb dX6_reason_8 (by decide) (fun _ => ?_) (fun c9 => absurd (by decide) c9)
  refine lv_iconst (v := 1) hx hb dX6_reason_15 (by decide) ?_
  refine va_put (D := D) (ci := 6) (v := .int 1) (ty := .int) (C := RX6) (T := TX6) (N := 27) hx hb hg inX6 tyX6 tyX6_ok nmX6 hown hK hP hD hS 0 rfl rfl 0 (by decide) (hg _ k1219) (fun _ h9 => h9) rfl (by decide +kernel) rfl rfl (Nat.le_of_ble_eq_true rfl) dX6_reason_16 (fun H locs hP hD hS => ?_)
  have hP : va_P D vwCl [(h0, .inr (6, [.int 1, v1, v2, v3, v4, v5, v6, v7, v8, v9, v10, v11, v12, v13, v14, v15, v16, v17, v18, v19, v20, v21, v22, v23, v24, v25, v26]))] H := hP
  have hD : va_D A [(h0, .inr (6, [.int 1, v1, v2, v3, v4, v5, v6, v7, v8, v9, v10, v11, v12, v13, v14, v15, v16, v17, v18, v19, v20, v21, v22, v23, v24, v25, v26]))] := hD
  refine lv_aload_n hx hb dX6_reason_19 rfl (lv_at hl 0 rfl) ?_
  refine va_get (D := D) (ci := 6) (v := .int 1) (C := RX6) (T := TX6) (N := 27) hx hb hg inX6 hown hK hP 0 rfl rfl 0 (by decide) (hg _ k1219) (fun _ h9 => h9) rfl dX6_reason_20 ?_
  refine lv_if_le (tgt := 30) hx hb dX6_reason_23 (by decide) (fun c9 => absurd c9 (by decide)) (fun _ => ?_)
  refine lv_iconst (v := 0) hx hb dX6_reason_26 (by decide) ?_
  refine lv_goto (tgt := 45) hx hb dX6_reason_27 (by decide) ?_
  exact fi hx hb hr hlocks hP hD hK hS (()) trivial rfl [0] [] rfl (by decide) rfl (Nat.le_of_ble_eq_true rfl) (Nat.le_of_ble_eq_true rfl) dX6_reason_45
set_option maxHeartbeats 4000000 in
set_option maxRecDepth 100000 in
theorem cX6_reasonSample_290 (l : Launch) (D : va_G) (h0 : Nat) (v0 : Value) (v1 : Value) (v2 : Value) (v3 : Value) (v4 : Value) (v5 : Value) (v6 : Value) (v7 : Value) (v8 : Value) (v9 : Value) (v10 : Value) (v11 : Value) (v12 : Value) (v13 : Value) (v14 : Value) (v15 : Value) (v16 : Value) (v17 : Value) (v18 : Value) (v19 : Value) (v20 : Value) (v21 : Value) (v22 : Value) (v23 : Value) (v24 : Value) (v25 : Value)   : CT l yX6_reasonSample cX6_reasonSample 1 (some .int) { frames := 0, cells := 0, slots := 0, locals := 0 } [.ref h0] D [(h0, .inr (6, [v0, v1, v2, v3, v4, v5, v6, v7, v8, v9, v10, .int (-1), v11, v12, v13, v14, v15, v16, v17, v18, v19, v20, v21, v22, v23, v24, v25]))] [] XN [(h0, .inr (6, [v0, v1, v2, v3, v4, v5, v6, v7, v8, v9, v10, .int (-1), v11, v12, v13, v14, v15, v16, v17, v18, v19, v20, v21, v22, v23, v24, v25]))] (ei (fun _ : Unit => True) (fun u => (-1)) (fun _ => [(h0, .inr (6, [.int 0, v1, v2, v3, v4, v5, v6, v7, v8, v9, v10, .int (-1), v11, v12, v13, v14, v15, v16, v17, v18, v19, v20, v21, v22, v23, v24, v25]))]) (fun u => []) D) 0 0 := by
  refine CT.ofW (by decide) (Nat.le_of_ble_eq_true rfl) ?_
  intro p e s m below meth c A ls hcs hP hK hD hX hA hS hl
  obtain ⟨hx, hb, hr, hml, hown, hg, hlocks, hin⟩ := hcs
  have hown : s.vm.findClass RX6 = some m.cls := hown
  have hl : lv_has ls 1 [(0, .ref h0)] := hl
  refine lv_aload_n hx hb dX6_reasonSample_0 rfl (lv_at hl 0 rfl) ?_
  refine lv_iconst (v := 0) hx hb dX6_reasonSample_1 (by decide) ?_
  refine va_put (D := D) (ci := 6) (v := .int 0) (ty := .int) (C := RX6) (T := TX6) (N := 27) hx hb hg inX6 tyX6 tyX6_ok nmX6 hown hK hP hD hS 0 rfl rfl 0 (by decide) (hg _ k1219) (fun _ h9 => h9) rfl (by decide +kernel) rfl rfl (Nat.le_of_ble_eq_true rfl) dX6_reasonSample_2 (fun H locs hP hD hS => ?_)
  have hP : va_P D vwCl [(h0, .inr (6, [.int 0, v1, v2, v3, v4, v5, v6, v7, v8, v9, v10, .int (-1), v11, v12, v13, v14, v15, v16, v17, v18, v19, v20, v21, v22, v23, v24, v25]))] H := hP
  have hD : va_D A [(h0, .inr (6, [.int 0, v1, v2, v3, v4, v5, v6, v7, v8, v9, v10, .int (-1), v11, v12, v13, v14, v15, v16, v17, v18, v19, v20, v21, v22, v23, v24, v25]))] := hD
  refine lv_aload_n hx hb dX6_reasonSample_5 rfl (lv_at hl 0 rfl) ?_
  refine va_get (D := D) (ci := 6) (v := .int (-1)) (C := RX6) (T := TX6) (N := 27) hx hb hg inX6 hown hK hP 0 rfl rfl 11 (by decide) (hg _ k1230) (fun _ h9 => h9) rfl dX6_reasonSample_6 ?_
  exact fi hx hb hr hlocks hP hD hK hS (()) trivial rfl [0] [] rfl (by decide) rfl (Nat.le_of_ble_eq_true rfl) (Nat.le_of_ble_eq_true rfl) dX6_reasonSample_9
set_option maxHeartbeats 4000000 in
set_option maxRecDepth 100000 in
theorem cX6_save_291 (l : Launch) (D : va_G) (h0 : Nat) (x0 : Int32) (v0 : Value) (v1 : Value) (v2 : Value) (v3 : Value) (v4 : Value) (v5 : Value) (v6 : Value) (v7 : Value) (v8 : Value) (v9 : Value) (v10 : Value) (v11 : Value) (v12 : Value) (v13 : Value) (v14 : Value) (v15 : Value) (v16 : Value) (v17 : Value) (v18 : Value) (v19 : Value) (v20 : Value) (v21 : Value) (v22 : Value) (v23 : Value) (v24 : Value) (v25 : Value) (v26 : Value)  (d0 : (lg_cmp x0.toInt64 0) < 0) : CT l yX6_save cX6_save 3 none { frames := 1, cells := 0, slots := 0, locals := 25 } [.ref h0, .int x0] D [(h0, .inr (6, [v0, v1, v2, v3, v4, v5, v6, v7, v8, v9, v10, v11, v12, v13, v14, v15, v16, v17, v18, v19, v20, v21, v22, v23, v24, v25, v26]))] [] XN [(h0, .inr (6, [v0, v1, v2, v3, v4, v5, v6, v7, v8, v9, v10, v11, v12, v13, v14, v15, v16, v17, v18, v19, v20, v21, v22, v23, v24, v25, v26]))] (ev (fun _ : Unit => True) (fun _ => [(h0, .inr (6, [.int 1, v1, v2, v3, v4, v5, v6, v7, v8, v9, v10, v11, v12, v13, v14, v15, v16, v17, v18, v19, v20, v21, v22, v23, v24, v25, v26]))]) (fun u => []) D) 0 0 := by
  refine CT.ofW (by decide) (Nat.le_of_ble_eq_true rfl) ?_
  intro p e s m below meth c A ls hcs hP hK hD hX hA hS hl
  obtain ⟨hx, hb, hr, hml, hown, hg, hlocks, hin⟩ := hcs
  have hown : s.vm.findClass RX6 = some m.cls := hown
  have hl : lv_has ls 3 [(0, .ref h0), (1, .int x0)] := hl
  refine lv_aload_n hx hb dX6_save_0 rfl (lv_at hl 0 rfl) ?_
  refine lv_iload_n hx hb dX6_save_1 rfl (lv_at hl 1 rfl) ?_
  refine lv_i2l (v := x0.toInt64) hx hb dX6_save_2 rfl ?_
  refine lv_lconst (v := 0) hx hb dX6_save_3 (by decide) ?_
  refine lv_lconst (v := 1) hx hb dX6_save_4 (by decide) ?_
  refine cSi (n := 3) (As := [.long x0.toInt64, .long 0, .long 1]) (rest := [.ref h0]) (wr := [(h0, .inr (6, [v0, v1, v2, v3, v4, v5, v6, v7, v8, v9, v10, v11, v12, v13, v14, v15, v16, v17, v18, v19, v20, v21, v22, v23, v24, v25, v26]))]) (tr := []) hx hb hml hown hg okN (cX6_in_58 l D x0 d0) (mwS k1317 k1318 k92 k1319) ⟨rfl, by decide, by decide, by decide +kernel⟩ ⟨rfl, rfl, (Nat.le_of_ble_eq_true rfl), (Nat.le_of_ble_eq_true rfl)⟩ hP hD hK hS xn [] [] [0] [] [] rfl (by decide) rfl rfl (by decide) (by decide) rfl rfl (aNil hA hS) (aNil hA hS) rfl hl.1 rfl (Nat.le_of_ble_eq_true rfl) dX6_save_5 ⟨(Nat.le_of_ble_eq_true rfl), (Nat.le_of_ble_eq_true rfl)⟩ (fun u H locs hφ hP hD hK hS hk => ?_)
  have hP : va_P D vwCl [(h0, .inr (6, [v0, v1, v2, v3, v4, v5, v6, v7, v8, v9, v10, v11, v12, v13, v14, v15, v16, v17, v18, v19, v20, v21, v22, v23, v24, v25, v26]))] H := hP
  have hD : va_D A [(h0, .inr (6, [v0, v1, v2, v3, v4, v5, v6, v7, v8, v9, v10, v11, v12, v13, v14, v15, v16, v17, v18, v19, v20, v21, v22, v23, v24, v25, v26]))] := hD
  have hK : va_K D vwCl [] s := hK
  refine W.widen (k := 0) (n := 0) (Nat.le_of_ble_eq_true rfl) (Nat.le_of_ble_eq_true rfl) ?_
  refine lv_if_eq (tgt := 15) hx hb dX6_save_8 (by decide) (fun _ => ?_) (fun c9 => absurd (by decide) c9)
  refine lv_iconst (v := 1) hx hb dX6_save_15 (by decide) ?_
  refine va_put (D := D) (ci := 6) (v := .int 1) (ty := .int) (C := RX6) (T := TX6) (N := 27) hx hb hg inX6 tyX6 tyX6_ok nmX6 hown hK hP hD hS 0 rfl rfl 0 (by decide) (hg _ k1219) (fun _ h9 => h9) rfl (by decide +kernel) rfl rfl (Nat.le_of_ble_eq_true rfl) dX6_save_16 (fun H locs hP hD hS => ?_)
  have hP : va_P D vwCl [(h0, .inr (6, [.int 1, v1, v2, v3, v4, v5, v6, v7, v8, v9, v10, v11, v12, v13, v14, v15, v16, v17, v18, v19, v20, v21, v22, v23, v24, v25, v26]))] H := hP
  have hD : va_D A [(h0, .inr (6, [.int 1, v1, v2, v3, v4, v5, v6, v7, v8, v9, v10, v11, v12, v13, v14, v15, v16, v17, v18, v19, v20, v21, v22, v23, v24, v25, v26]))] := hD
  refine lv_iconst (v := 0) hx hb dX6_save_19 (by decide) ?_
  refine lv_istore_n (lv' := [(2, .int 0), (0, .ref h0), (1, .int x0)]) hx hb dX6_save_20 rfl hl (by decide) rfl (fun ls hl => ?_)
  refine lv_aload_n hx hb dX6_save_21 rfl (lv_at hl 1 rfl) ?_
  refine va_get (D := D) (ci := 6) (v := .int 1) (C := RX6) (T := TX6) (N := 27) hx hb hg inX6 hown hK hP 0 rfl rfl 0 (by decide) (hg _ k1219) (fun _ h9 => h9) rfl dX6_save_22 ?_
  refine lv_if_ne (tgt := 59) hx hb dX6_save_25 (by decide) (fun _ => ?_) (fun c9 => absurd c9 (by decide))
  refine lv_aload_n hx hb dX6_save_59 rfl (lv_at hl 1 rfl) ?_
  refine va_get (D := D) (ci := 6) (v := .int 1) (C := RX6) (T := TX6) (N := 27) hx hb hg inX6 hown hK hP 0 rfl rfl 0 (by decide) (hg _ k1219) (fun _ h9 => h9) rfl dX6_save_60 ?_
  refine lv_if_ne (tgt := 73) hx hb dX6_save_63 (by decide) (fun _ => ?_) (fun c9 => absurd c9 (by decide))
  exact fv hx hb hr hlocks hP hD hK hS (()) trivial [0] [] rfl (by decide) rfl (Nat.le_of_ble_eq_true rfl) (Nat.le_of_ble_eq_true rfl) dX6_save_73
set_option maxHeartbeats 4000000 in
set_option maxRecDepth 100000 in
theorem cX6_save_292 (l : Launch) (D : va_G) (h0 : Nat) (h1 : Nat) (h2 : Nat) (h3 : Nat) (v0 : Value) (v1 : Value) (v2 : Value) (v3 : Value) (v4 : Value) (v5 : Value) (v6 : Value) (v7 : Value) (v8 : Value) (v9 : Value) (v10 : Value) (v11 : Value) (v12 : Value) (v13 : Value) (v14 : Value) (v15 : Value) (v16 : Value) (v17 : Value) (v18 : Value) (v19 : Value) (v20 : Value) (v21 : Value) (v22 : Value) (v23 : Value) (f0 : Nat → Int64) (f1 : Nat → Int64) (f2 : Nat → Int32) (a0 : ClassId) (a1 : ClassId) (a2 : ClassId)   : CT l yX6_save cX6_save 3 none { frames := 1, cells := 0, slots := 0, locals := 25 } [.ref h0, .int 0] D [(h0, .inr (6, [v0, .ref h1, v1, .ref h2, .ref h3, v2, v3, v4, v5, v6, v7, v8, v9, v10, v11, v12, v13, v14, v15, v16, v17, v18, v19, v20, v21, v22, v23])), (h1, .inl (a0, 609, .inr (.inl f0))), (h2, .inl (a1, 1218, .inr (.inl f1))), (h3, .inl (a2, 2, .inl f2))] [(a0, .long), (a1, .long), (a2, .boolean)] XN [(h0, .inr (6, [v0, .ref h1, v1, .ref h2, .ref h3, v2, v3, v4, v5, v6, v7, v8, v9, v10, v11, v12, v13, v14, v15, v16, v17, v18, v19, v20, v21, v22, v23])), (h1, .inl (a0, 609, .inr (.inl f0))), (h2, .inl (a1, 1218, .inr (.inl f1))), (h3, .inl (a2, 2, .inl f2))] (ev (fun _ : (Nat → Int64) => True) (fun u => [(h0, .inr (6, [.int 0, .ref h1, v1, .ref h2, .ref h3, v2, v3, v4, v5, v6, v7, v8, v9, v10, v11, v12, v13, v14, v15, v16, v17, v18, v19, v20, v21, v22, v23])), (h1, .inl (a0, 609, .inr (.inl f0))), (h2, .inl (a1, 1218, .inr (.inl u))), (h3, .inl (a2, 2, .inl (upd f2 0 1)))]) (fun u => [(a0, .long), (a1, .long), (a2, .boolean)]) D) 0 0 := by
  refine CT.ofW (by decide) (Nat.le_of_ble_eq_true rfl) ?_
  intro p e s m below meth c A ls hcs hP hK hD hX hA hS hl
  obtain ⟨hx, hb, hr, hml, hown, hg, hlocks, hin⟩ := hcs
  have hown : s.vm.findClass RX6 = some m.cls := hown
  have hl : lv_has ls 3 [(0, .ref h0), (1, .int 0)] := hl
  refine lv_aload_n hx hb dX6_save_0 rfl (lv_at hl 0 rfl) ?_
  refine lv_iload_n hx hb dX6_save_1 rfl (lv_at hl 1 rfl) ?_
  refine lv_i2l (v := 0) hx hb dX6_save_2 (by decide) ?_
  refine lv_lconst (v := 0) hx hb dX6_save_3 (by decide) ?_
  refine lv_lconst (v := 1) hx hb dX6_save_4 (by decide) ?_
  refine cSi (n := 3) (As := [.long 0, .long 0, .long 1]) (rest := [.ref h0]) (wr := [(h0, .inr (6, [v0, .ref h1, v1, .ref h2, .ref h3, v2, v3, v4, v5, v6, v7, v8, v9, v10, v11, v12, v13, v14, v15, v16, v17, v18, v19, v20, v21, v22, v23])), (h1, .inl (a0, 609, .inr (.inl f0))), (h2, .inl (a1, 1218, .inr (.inl f1))), (h3, .inl (a2, 2, .inl f2))]) (tr := [(a0, .long), (a1, .long), (a2, .boolean)]) hx hb hml hown hg okN (cX6_in_64 l D) (mwS k1317 k1318 k92 k1319) ⟨rfl, by decide, by decide, by decide +kernel⟩ ⟨rfl, rfl, (Nat.le_of_ble_eq_true rfl), (Nat.le_of_ble_eq_true rfl)⟩ hP hD hK hS xn [] [] [0, 1, 2, 3] [] [0, 1, 2] rfl (by decide) rfl rfl (by decide) (by decide) rfl rfl (aNil hA hS) (aNil hA hS) rfl hl.1 rfl (Nat.le_of_ble_eq_true rfl) dX6_save_5 ⟨(Nat.le_of_ble_eq_true rfl), (Nat.le_of_ble_eq_true rfl)⟩ (fun u H locs hφ hP hD hK hS hk => ?_)
  have hP : va_P D vwCl [(h0, .inr (6, [v0, .ref h1, v1, .ref h2, .ref h3, v2, v3, v4, v5, v6, v7, v8, v9, v10, v11, v12, v13, v14, v15, v16, v17, v18, v19, v20, v21, v22, v23])), (h1, .inl (a0, 609, .inr (.inl f0))), (h2, .inl (a1, 1218, .inr (.inl f1))), (h3, .inl (a2, 2, .inl f2))] H := hP
  have hD : va_D A [(h0, .inr (6, [v0, .ref h1, v1, .ref h2, .ref h3, v2, v3, v4, v5, v6, v7, v8, v9, v10, v11, v12, v13, v14, v15, v16, v17, v18, v19, v20, v21, v22, v23])), (h1, .inl (a0, 609, .inr (.inl f0))), (h2, .inl (a1, 1218, .inr (.inl f1))), (h3, .inl (a2, 2, .inl f2))] := hD
  have hK : va_K D vwCl [(a0, .long), (a1, .long), (a2, .boolean)] s := hK
  refine W.widen (k := 0) (n := 0) (Nat.le_of_ble_eq_true rfl) (Nat.le_of_ble_eq_true rfl) ?_
  refine lv_if_eq (tgt := 15) hx hb dX6_save_8 (by decide) (fun c9 => absurd c9 (by decide)) (fun _ => ?_)
  refine lv_iconst (v := 0) hx hb dX6_save_11 (by decide) ?_
  refine lv_goto (tgt := 16) hx hb dX6_save_12 (by decide) ?_
  refine va_put (D := D) (ci := 6) (v := .int 0) (ty := .int) (C := RX6) (T := TX6) (N := 27) hx hb hg inX6 tyX6 tyX6_ok nmX6 hown hK hP hD hS 0 rfl rfl 0 (by decide) (hg _ k1219) (fun _ h9 => h9) rfl (by decide +kernel) rfl rfl (Nat.le_of_ble_eq_true rfl) dX6_save_16 (fun H locs hP hD hS => ?_)
  have hP : va_P D vwCl [(h0, .inr (6, [.int 0, .ref h1, v1, .ref h2, .ref h3, v2, v3, v4, v5, v6, v7, v8, v9, v10, v11, v12, v13, v14, v15, v16, v17, v18, v19, v20, v21, v22, v23])), (h1, .inl (a0, 609, .inr (.inl f0))), (h2, .inl (a1, 1218, .inr (.inl f1))), (h3, .inl (a2, 2, .inl f2))] H := hP
  have hD : va_D A [(h0, .inr (6, [.int 0, .ref h1, v1, .ref h2, .ref h3, v2, v3, v4, v5, v6, v7, v8, v9, v10, v11, v12, v13, v14, v15, v16, v17, v18, v19, v20, v21, v22, v23])), (h1, .inl (a0, 609, .inr (.inl f0))), (h2, .inl (a1, 1218, .inr (.inl f1))), (h3, .inl (a2, 2, .inl f2))] := hD
  refine lv_iconst (v := 0) hx hb dX6_save_19 (by decide) ?_
  refine lv_istore_n (lv' := [(2, .int 0), (0, .ref h0), (1, .int 0)]) hx hb dX6_save_20 rfl hl (by decide) rfl (fun ls hl => ?_)
  refine lv_aload_n hx hb dX6_save_21 rfl (lv_at hl 1 rfl) ?_
  refine va_get (D := D) (ci := 6) (v := .int 0) (C := RX6) (T := TX6) (N := 27) hx hb hg inX6 hown hK hP 0 rfl rfl 0 (by decide) (hg _ k1219) (fun _ h9 => h9) rfl dX6_save_22 ?_
  refine lv_if_ne (tgt := 59) hx hb dX6_save_25 (by decide) (fun c9 => absurd (by decide) c9) (fun _ => ?_)
  have lq1 : ∀ (Q9 : State → Prop), (∀ (gg1 : Nat → Int64) (H : Heap) (locs : List Loc) (ls : Array Slot), True → va_P D vwCl [(h0, .inr (6, [.int 0, .ref h1, v1, .ref h2, .ref h3, v2, v3, v4, v5, v6, v7, v8, v9, v10, v11, v12, v13, v14, v15, v16, v17, v18, v19, v20, v21, v22, v23])), (h1, .inl (a0, 609, .inr (.inl f0))), (h2, .inl (a1, 1218, .inr (.inl gg1))), (h3, .inl (a2, 2, .inl f2))] H → va_D A [(h0, .inr (6, [.int 0, .ref h1, v1, .ref h2, .ref h3, v2, v3, v4, v5, v6, v7, v8, v9, v10, v11, v12, v13, v14, v15, v16, v17, v18, v19, v20, v21, v22, v23])), (h1, .inl (a0, 609, .inr (.inl f0))), (h2, .inl (a1, 1218, .inr (.inl gg1))), (h3, .inl (a2, 2, .inl f2))] → va_K D vwCl [(a0, .long), (a1, .long), (a2, .boolean)] s → va_S A s.heap H locs → lv_has ls 3 [(2, .int 609), (0, .ref h0), (1, .int 0)] → W p l e { frames := 1, cells := 0, slots := 0, locals := 25 } s m [.ref h0, .int 0].toArray below meth c H locs (0) (0) Q9 (F0 m 59 ls [])) → ∀ (n9 i : Nat), 0 ≤ i → i + n9 = 609 → ∀ (gg1 : Nat → Int64) (H : Heap) (locs : List Loc) (ls : Array Slot), True → va_P D vwCl [(h0, .inr (6, [.int 0, .ref h1, v1, .ref h2, .ref h3, v2, v3, v4, v5, v6, v7, v8, v9, v10, v11, v12, v13, v14, v15, v16, v17, v18, v19, v20, v21, v22, v23])), (h1, .inl (a0, 609, .inr (.inl f0))), (h2, .inl (a1, 1218, .inr (.inl gg1))), (h3, .inl (a2, 2, .inl f2))] H → va_D A [(h0, .inr (6, [.int 0, .ref h1, v1, .ref h2, .ref h3, v2, v3, v4, v5, v6, v7, v8, v9, v10, v11, v12, v13, v14, v15, v16, v17, v18, v19, v20, v21, v22, v23])), (h1, .inl (a0, 609, .inr (.inl f0))), (h2, .inl (a1, 1218, .inr (.inl gg1))), (h3, .inl (a2, 2, .inl f2))] → va_K D vwCl [(a0, .long), (a1, .long), (a2, .boolean)] s → va_S A s.heap H locs → lv_has ls 3 [(2, .int (nI i)), (0, .ref h0), (1, .int 0)] → W p l e { frames := 1, cells := 0, slots := 0, locals := 25 } s m [.ref h0, .int 0].toArray below meth c H locs (0 + 0 * (i - 0)) (0 + 0 * (i - 0)) Q9 (F0 m 28 ls []) := by
    intro Q9 kx n9
    induction n9 with
    | zero =>
      intro i hi0 hin9 gg1 H locs ls _ hP hD hK hS hl
      have hi9 : i = 609 := by omega
      subst hi9
      refine lv_iload_n hx hb dX6_save_28 rfl (lv_at hl 0 rfl) ?_
      refine lv_sipush (v := 609) hx hb dX6_save_29 (by decide) ?_
      refine lv_icmp_ge (tgt := 59) hx hb dX6_save_32 (by decide) (fun _ => ?_) (fun c9 => absurd (by decide) c9)
      exact kx gg1 H locs ls trivial hP hD hK hS hl
    | succ n9 ih =>
      intro i hi0 hin9 gg1 H locs ls _ hP hD hK hS hl
      have hi : i < 609 := by omega
      refine lv_iload_n hx hb dX6_save_28 rfl (lv_at hl 0 rfl) ?_
      refine lv_sipush (v := 609) hx hb dX6_save_29 (by decide) ?_
      refine lv_icmp_ge (tgt := 59) hx hb dX6_save_32 (by decide) (fun c9 => absurd c9 (nI_ge hi (by decide))) (fun _ => ?_)
      refine lv_aload_n hx hb dX6_save_35 rfl (lv_at hl 1 rfl) ?_
      refine va_get (D := D) (ci := 6) (v := .ref h2) (C := RX6) (T := TX6) (N := 27) hx hb hg inX6 hown hK hP 0 rfl rfl 3 (by decide) (hg _ k1222) (fun _ h9 => h9) rfl dX6_save_36 ?_
      refine lv_sipush (v := 609) hx hb dX6_save_39 (by decide) ?_
      refine lv_iload_n hx hb dX6_save_42 rfl (lv_at hl 2 rfl) ?_
      refine lv_imul hx hb dX6_save_43 ?_
      refine ti (0) (by decide) ?_
      refine lv_iload_n hx hb dX6_save_44 rfl (lv_at hl 0 rfl) ?_
      refine lv_iadd hx hb dX6_save_45 ?_
      refine ti (nI (0 + i)) (nI_add 0 i) ?_
      refine lv_aload_n hx hb dX6_save_46 rfl (lv_at hl 1 rfl) ?_
      refine va_get (D := D) (ci := 6) (v := .ref h1) (C := RX6) (T := TX6) (N := 27) hx hb hg inX6 hown hK hP 0 rfl rfl 1 (by decide) (hg _ k1220) (fun _ h9 => h9) rfl dX6_save_47 ?_
      refine lv_iload_n hx hb dX6_save_50 rfl (lv_at hl 0 rfl) ?_
      refine aldL hx hb hK hP 1 0 rfl rfl i (nI_clamp (by omega)) (vp_in_nI (by omega) (by decide)) (v := f0 i) rfl dX6_save_51 ?_
      refine astL hx hb hK hP hD hS 2 1 rfl rfl (0 + i) (nI_clamp (by omega)) (vp_in_nI (by omega) (by decide)) dX6_save_52 (fun H locs hP hD hS => ?_)
      have hP : va_P D vwCl [(h0, .inr (6, [.int 0, .ref h1, v1, .ref h2, .ref h3, v2, v3, v4, v5, v6, v7, v8, v9, v10, v11, v12, v13, v14, v15, v16, v17, v18, v19, v20, v21, v22, v23])), (h1, .inl (a0, 609, .inr (.inl f0))), (h2, .inl (a1, 1218, .inr (.inl (vp_updL gg1 (0 + i) (f0 i))))), (h3, .inl (a2, 2, .inl f2))] H := hP
      have hD : va_D A [(h0, .inr (6, [.int 0, .ref h1, v1, .ref h2, .ref h3, v2, v3, v4, v5, v6, v7, v8, v9, v10, v11, v12, v13, v14, v15, v16, v17, v18, v19, v20, v21, v22, v23])), (h1, .inl (a0, 609, .inr (.inl f0))), (h2, .inl (a1, 1218, .inr (.inl (vp_updL gg1 (0 + i) (f0 i))))), (h3, .inl (a2, 2, .inl f2))] := hD
      refine lv_iinc (v := (nI (i + 1))) (lv' := [(2, .int (nI (i + 1))), (0, .ref h0), (1, .int 0)]) hx hb dX6_save_53 hl (k := 0) rfl (nI_1 i) (by decide) rfl (fun ls hl => ?_)
      refine lv_goto (tgt := 21) hx hb dX6_save_56 (by decide) ?_
      refine lv_aload_n hx hb dX6_save_21 rfl (lv_at hl 1 rfl) ?_
      refine va_get (D := D) (ci := 6) (v := .int 0) (C := RX6) (T := TX6) (N := 27) hx hb hg inX6 hown hK hP 0 rfl rfl 0 (by decide) (hg _ k1219) (fun _ h9 => h9) rfl dX6_save_22 ?_
      refine lv_if_ne (tgt := 59) hx hb dX6_save_25 (by decide) (fun c9 => absurd (by decide) c9) (fun _ => ?_)
      exact ih (i + 1) (by omega) (by omega) (vp_updL gg1 (0 + i) (f0 i)) _ _ _ trivial (hP.sub [0, 1, 2, 3] rfl) (hD.sub [0, 1, 2, 3] (by decide) rfl) (hK.sub [0, 1, 2] rfl) hS (lv_sub hl [0, 1, 2] rfl)
  refine lq1 _ (fun gg1x H locs ls _ hP hD hK hS hl => ?_) 609 0 (Nat.le_refl _) rfl f1 _ _ _ trivial hP hD hK hS hl
  refine lv_aload_n hx hb dX6_save_59 rfl (lv_at hl 1 rfl) ?_
  refine va_get (D := D) (ci := 6) (v := .int 0) (C := RX6) (T := TX6) (N := 27) hx hb hg inX6 hown hK hP 0 rfl rfl 0 (by decide) (hg _ k1219) (fun _ h9 => h9) rfl dX6_save_60 ?_
  refine lv_if_ne (tgt := 73) hx hb dX6_save_63 (by decide) (fun c9 => absurd (by decide) c9) (fun _ => ?_)
  refine lv_aload_n hx hb dX6_save_66 rfl (lv_at hl 1 rfl) ?_
  refine va_get (D := D) (ci := 6) (v := .ref h3) (C := RX6) (T := TX6) (N := 27) hx hb hg inX6 hown hK hP 0 rfl rfl 4 (by decide) (hg _ k1223) (fun _ h9 => h9) rfl dX6_save_67 ?_
  refine lv_iload_n hx hb dX6_save_70 rfl (lv_at hl 2 rfl) ?_
  refine lv_iconst (v := 1) hx hb dX6_save_71 (by decide) ?_
  refine astZ hx hb hK hP hD hS 3 2 rfl rfl 0 (by decide) (vin (by decide)) (v := 1) (by decide) dX6_save_72 (fun H locs hP hD hS => ?_)
  have hP : va_P D vwCl [(h0, .inr (6, [.int 0, .ref h1, v1, .ref h2, .ref h3, v2, v3, v4, v5, v6, v7, v8, v9, v10, v11, v12, v13, v14, v15, v16, v17, v18, v19, v20, v21, v22, v23])), (h1, .inl (a0, 609, .inr (.inl f0))), (h2, .inl (a1, 1218, .inr (.inl gg1x))), (h3, .inl (a2, 2, .inl (upd f2 0 1)))] H := hP
  have hD : va_D A [(h0, .inr (6, [.int 0, .ref h1, v1, .ref h2, .ref h3, v2, v3, v4, v5, v6, v7, v8, v9, v10, v11, v12, v13, v14, v15, v16, v17, v18, v19, v20, v21, v22, v23])), (h1, .inl (a0, 609, .inr (.inl f0))), (h2, .inl (a1, 1218, .inr (.inl gg1x))), (h3, .inl (a2, 2, .inl (upd f2 0 1)))] := hD
  exact fv hx hb hr hlocks hP hD hK hS (gg1x) trivial [0, 1, 2, 3] [0, 1, 2] rfl (by decide) rfl (Nat.le_of_ble_eq_true rfl) (Nat.le_of_ble_eq_true rfl) dX6_save_73
set_option maxHeartbeats 4000000 in
set_option maxRecDepth 100000 in
theorem cX6_save_293 (l : Launch) (D : va_G) (h0 : Nat) (h1 : Nat) (h2 : Nat) (h3 : Nat) (v0 : Value) (v1 : Value) (v2 : Value) (v3 : Value) (v4 : Value) (v5 : Value) (v6 : Value) (v7 : Value) (v8 : Value) (v9 : Value) (v10 : Value) (v11 : Value) (v12 : Value) (v13 : Value) (v14 : Value) (v15 : Value) (v16 : Value) (v17 : Value) (v18 : Value) (v19 : Value) (v20 : Value) (v21 : Value) (v22 : Value) (v23 : Value) (f0 : Nat → Int64) (f1 : Nat → Int64) (f2 : Nat → Int32) (a0 : ClassId) (a1 : ClassId) (a2 : ClassId)   : CT l yX6_save cX6_save 3 none { frames := 1, cells := 0, slots := 0, locals := 25 } [.ref h0, .int 1] D [(h0, .inr (6, [v0, .ref h1, v1, .ref h2, .ref h3, v2, v3, v4, v5, v6, v7, v8, v9, v10, v11, v12, v13, v14, v15, v16, v17, v18, v19, v20, v21, v22, v23])), (h1, .inl (a0, 609, .inr (.inl f0))), (h2, .inl (a1, 1218, .inr (.inl f1))), (h3, .inl (a2, 2, .inl f2))] [(a0, .long), (a1, .long), (a2, .boolean)] XN [(h0, .inr (6, [v0, .ref h1, v1, .ref h2, .ref h3, v2, v3, v4, v5, v6, v7, v8, v9, v10, v11, v12, v13, v14, v15, v16, v17, v18, v19, v20, v21, v22, v23])), (h1, .inl (a0, 609, .inr (.inl f0))), (h2, .inl (a1, 1218, .inr (.inl f1))), (h3, .inl (a2, 2, .inl f2))] (ev (fun _ : (Nat → Int64) => True) (fun u => [(h0, .inr (6, [.int 0, .ref h1, v1, .ref h2, .ref h3, v2, v3, v4, v5, v6, v7, v8, v9, v10, v11, v12, v13, v14, v15, v16, v17, v18, v19, v20, v21, v22, v23])), (h1, .inl (a0, 609, .inr (.inl f0))), (h2, .inl (a1, 1218, .inr (.inl u))), (h3, .inl (a2, 2, .inl (upd f2 1 1)))]) (fun u => [(a0, .long), (a1, .long), (a2, .boolean)]) D) 0 0 := by
  refine CT.ofW (by decide) (Nat.le_of_ble_eq_true rfl) ?_
  intro p e s m below meth c A ls hcs hP hK hD hX hA hS hl
  obtain ⟨hx, hb, hr, hml, hown, hg, hlocks, hin⟩ := hcs
  have hown : s.vm.findClass RX6 = some m.cls := hown
  have hl : lv_has ls 3 [(0, .ref h0), (1, .int 1)] := hl
  refine lv_aload_n hx hb dX6_save_0 rfl (lv_at hl 0 rfl) ?_
  refine lv_iload_n hx hb dX6_save_1 rfl (lv_at hl 1 rfl) ?_
  refine lv_i2l (v := 1) hx hb dX6_save_2 (by decide) ?_
  refine lv_lconst (v := 0) hx hb dX6_save_3 (by decide) ?_
  refine lv_lconst (v := 1) hx hb dX6_save_4 (by decide) ?_
  refine cSi (n := 3) (As := [.long 1, .long 0, .long 1]) (rest := [.ref h0]) (wr := [(h0, .inr (6, [v0, .ref h1, v1, .ref h2, .ref h3, v2, v3, v4, v5, v6, v7, v8, v9, v10, v11, v12, v13, v14, v15, v16, v17, v18, v19, v20, v21, v22, v23])), (h1, .inl (a0, 609, .inr (.inl f0))), (h2, .inl (a1, 1218, .inr (.inl f1))), (h3, .inl (a2, 2, .inl f2))]) (tr := [(a0, .long), (a1, .long), (a2, .boolean)]) hx hb hml hown hg okN (cX6_in_82 l D) (mwS k1317 k1318 k92 k1319) ⟨rfl, by decide, by decide, by decide +kernel⟩ ⟨rfl, rfl, (Nat.le_of_ble_eq_true rfl), (Nat.le_of_ble_eq_true rfl)⟩ hP hD hK hS xn [] [] [0, 1, 2, 3] [] [0, 1, 2] rfl (by decide) rfl rfl (by decide) (by decide) rfl rfl (aNil hA hS) (aNil hA hS) rfl hl.1 rfl (Nat.le_of_ble_eq_true rfl) dX6_save_5 ⟨(Nat.le_of_ble_eq_true rfl), (Nat.le_of_ble_eq_true rfl)⟩ (fun u H locs hφ hP hD hK hS hk => ?_)
  have hP : va_P D vwCl [(h0, .inr (6, [v0, .ref h1, v1, .ref h2, .ref h3, v2, v3, v4, v5, v6, v7, v8, v9, v10, v11, v12, v13, v14, v15, v16, v17, v18, v19, v20, v21, v22, v23])), (h1, .inl (a0, 609, .inr (.inl f0))), (h2, .inl (a1, 1218, .inr (.inl f1))), (h3, .inl (a2, 2, .inl f2))] H := hP
  have hD : va_D A [(h0, .inr (6, [v0, .ref h1, v1, .ref h2, .ref h3, v2, v3, v4, v5, v6, v7, v8, v9, v10, v11, v12, v13, v14, v15, v16, v17, v18, v19, v20, v21, v22, v23])), (h1, .inl (a0, 609, .inr (.inl f0))), (h2, .inl (a1, 1218, .inr (.inl f1))), (h3, .inl (a2, 2, .inl f2))] := hD
  have hK : va_K D vwCl [(a0, .long), (a1, .long), (a2, .boolean)] s := hK
  refine W.widen (k := 0) (n := 0) (Nat.le_of_ble_eq_true rfl) (Nat.le_of_ble_eq_true rfl) ?_
  refine lv_if_eq (tgt := 15) hx hb dX6_save_8 (by decide) (fun c9 => absurd c9 (by decide)) (fun _ => ?_)
  refine lv_iconst (v := 0) hx hb dX6_save_11 (by decide) ?_
  refine lv_goto (tgt := 16) hx hb dX6_save_12 (by decide) ?_
  refine va_put (D := D) (ci := 6) (v := .int 0) (ty := .int) (C := RX6) (T := TX6) (N := 27) hx hb hg inX6 tyX6 tyX6_ok nmX6 hown hK hP hD hS 0 rfl rfl 0 (by decide) (hg _ k1219) (fun _ h9 => h9) rfl (by decide +kernel) rfl rfl (Nat.le_of_ble_eq_true rfl) dX6_save_16 (fun H locs hP hD hS => ?_)
  have hP : va_P D vwCl [(h0, .inr (6, [.int 0, .ref h1, v1, .ref h2, .ref h3, v2, v3, v4, v5, v6, v7, v8, v9, v10, v11, v12, v13, v14, v15, v16, v17, v18, v19, v20, v21, v22, v23])), (h1, .inl (a0, 609, .inr (.inl f0))), (h2, .inl (a1, 1218, .inr (.inl f1))), (h3, .inl (a2, 2, .inl f2))] H := hP
  have hD : va_D A [(h0, .inr (6, [.int 0, .ref h1, v1, .ref h2, .ref h3, v2, v3, v4, v5, v6, v7, v8, v9, v10, v11, v12, v13, v14, v15, v16, v17, v18, v19, v20, v21, v22, v23])), (h1, .inl (a0, 609, .inr (.inl f0))), (h2, .inl (a1, 1218, .inr (.inl f1))), (h3, .inl (a2, 2, .inl f2))] := hD
  refine lv_iconst (v := 0) hx hb dX6_save_19 (by decide) ?_
  refine lv_istore_n (lv' := [(2, .int 0), (0, .ref h0), (1, .int 1)]) hx hb dX6_save_20 rfl hl (by decide) rfl (fun ls hl => ?_)
  refine lv_aload_n hx hb dX6_save_21 rfl (lv_at hl 1 rfl) ?_
  refine va_get (D := D) (ci := 6) (v := .int 0) (C := RX6) (T := TX6) (N := 27) hx hb hg inX6 hown hK hP 0 rfl rfl 0 (by decide) (hg _ k1219) (fun _ h9 => h9) rfl dX6_save_22 ?_
  refine lv_if_ne (tgt := 59) hx hb dX6_save_25 (by decide) (fun c9 => absurd (by decide) c9) (fun _ => ?_)
  have lq1 : ∀ (Q9 : State → Prop), (∀ (gg1 : Nat → Int64) (H : Heap) (locs : List Loc) (ls : Array Slot), True → va_P D vwCl [(h0, .inr (6, [.int 0, .ref h1, v1, .ref h2, .ref h3, v2, v3, v4, v5, v6, v7, v8, v9, v10, v11, v12, v13, v14, v15, v16, v17, v18, v19, v20, v21, v22, v23])), (h1, .inl (a0, 609, .inr (.inl f0))), (h2, .inl (a1, 1218, .inr (.inl gg1))), (h3, .inl (a2, 2, .inl f2))] H → va_D A [(h0, .inr (6, [.int 0, .ref h1, v1, .ref h2, .ref h3, v2, v3, v4, v5, v6, v7, v8, v9, v10, v11, v12, v13, v14, v15, v16, v17, v18, v19, v20, v21, v22, v23])), (h1, .inl (a0, 609, .inr (.inl f0))), (h2, .inl (a1, 1218, .inr (.inl gg1))), (h3, .inl (a2, 2, .inl f2))] → va_K D vwCl [(a0, .long), (a1, .long), (a2, .boolean)] s → va_S A s.heap H locs → lv_has ls 3 [(2, .int 609), (0, .ref h0), (1, .int 1)] → W p l e { frames := 1, cells := 0, slots := 0, locals := 25 } s m [.ref h0, .int 1].toArray below meth c H locs (0) (0) Q9 (F0 m 59 ls [])) → ∀ (n9 i : Nat), 0 ≤ i → i + n9 = 609 → ∀ (gg1 : Nat → Int64) (H : Heap) (locs : List Loc) (ls : Array Slot), True → va_P D vwCl [(h0, .inr (6, [.int 0, .ref h1, v1, .ref h2, .ref h3, v2, v3, v4, v5, v6, v7, v8, v9, v10, v11, v12, v13, v14, v15, v16, v17, v18, v19, v20, v21, v22, v23])), (h1, .inl (a0, 609, .inr (.inl f0))), (h2, .inl (a1, 1218, .inr (.inl gg1))), (h3, .inl (a2, 2, .inl f2))] H → va_D A [(h0, .inr (6, [.int 0, .ref h1, v1, .ref h2, .ref h3, v2, v3, v4, v5, v6, v7, v8, v9, v10, v11, v12, v13, v14, v15, v16, v17, v18, v19, v20, v21, v22, v23])), (h1, .inl (a0, 609, .inr (.inl f0))), (h2, .inl (a1, 1218, .inr (.inl gg1))), (h3, .inl (a2, 2, .inl f2))] → va_K D vwCl [(a0, .long), (a1, .long), (a2, .boolean)] s → va_S A s.heap H locs → lv_has ls 3 [(2, .int (nI i)), (0, .ref h0), (1, .int 1)] → W p l e { frames := 1, cells := 0, slots := 0, locals := 25 } s m [.ref h0, .int 1].toArray below meth c H locs (0 + 0 * (i - 0)) (0 + 0 * (i - 0)) Q9 (F0 m 28 ls []) := by
    intro Q9 kx n9
    induction n9 with
    | zero =>
      intro i hi0 hin9 gg1 H locs ls _ hP hD hK hS hl
      have hi9 : i = 609 := by omega
      subst hi9
      refine lv_iload_n hx hb dX6_save_28 rfl (lv_at hl 0 rfl) ?_
      refine lv_sipush (v := 609) hx hb dX6_save_29 (by decide) ?_
      refine lv_icmp_ge (tgt := 59) hx hb dX6_save_32 (by decide) (fun _ => ?_) (fun c9 => absurd (by decide) c9)
      exact kx gg1 H locs ls trivial hP hD hK hS hl
    | succ n9 ih =>
      intro i hi0 hin9 gg1 H locs ls _ hP hD hK hS hl
      have hi : i < 609 := by omega
      refine lv_iload_n hx hb dX6_save_28 rfl (lv_at hl 0 rfl) ?_
      refine lv_sipush (v := 609) hx hb dX6_save_29 (by decide) ?_
      refine lv_icmp_ge (tgt := 59) hx hb dX6_save_32 (by decide) (fun c9 => absurd c9 (nI_ge hi (by decide))) (fun _ => ?_)
      refine lv_aload_n hx hb dX6_save_35 rfl (lv_at hl 1 rfl) ?_
      refine va_get (D := D) (ci := 6) (v := .ref h2) (C := RX6) (T := TX6) (N := 27) hx hb hg inX6 hown hK hP 0 rfl rfl 3 (by decide) (hg _ k1222) (fun _ h9 => h9) rfl dX6_save_36 ?_
      refine lv_sipush (v := 609) hx hb dX6_save_39 (by decide) ?_
      refine lv_iload_n hx hb dX6_save_42 rfl (lv_at hl 2 rfl) ?_
      refine lv_imul hx hb dX6_save_43 ?_
      refine ti (609) (by decide) ?_
      refine lv_iload_n hx hb dX6_save_44 rfl (lv_at hl 0 rfl) ?_
      refine lv_iadd hx hb dX6_save_45 ?_
      refine ti (nI (609 + i)) (nI_add 609 i) ?_
      refine lv_aload_n hx hb dX6_save_46 rfl (lv_at hl 1 rfl) ?_
      refine va_get (D := D) (ci := 6) (v := .ref h1) (C := RX6) (T := TX6) (N := 27) hx hb hg inX6 hown hK hP 0 rfl rfl 1 (by decide) (hg _ k1220) (fun _ h9 => h9) rfl dX6_save_47 ?_
      refine lv_iload_n hx hb dX6_save_50 rfl (lv_at hl 0 rfl) ?_
      refine aldL hx hb hK hP 1 0 rfl rfl i (nI_clamp (by omega)) (vp_in_nI (by omega) (by decide)) (v := f0 i) rfl dX6_save_51 ?_
      refine astL hx hb hK hP hD hS 2 1 rfl rfl (609 + i) (nI_clamp (by omega)) (vp_in_nI (by omega) (by decide)) dX6_save_52 (fun H locs hP hD hS => ?_)
      have hP : va_P D vwCl [(h0, .inr (6, [.int 0, .ref h1, v1, .ref h2, .ref h3, v2, v3, v4, v5, v6, v7, v8, v9, v10, v11, v12, v13, v14, v15, v16, v17, v18, v19, v20, v21, v22, v23])), (h1, .inl (a0, 609, .inr (.inl f0))), (h2, .inl (a1, 1218, .inr (.inl (vp_updL gg1 (609 + i) (f0 i))))), (h3, .inl (a2, 2, .inl f2))] H := hP
      have hD : va_D A [(h0, .inr (6, [.int 0, .ref h1, v1, .ref h2, .ref h3, v2, v3, v4, v5, v6, v7, v8, v9, v10, v11, v12, v13, v14, v15, v16, v17, v18, v19, v20, v21, v22, v23])), (h1, .inl (a0, 609, .inr (.inl f0))), (h2, .inl (a1, 1218, .inr (.inl (vp_updL gg1 (609 + i) (f0 i))))), (h3, .inl (a2, 2, .inl f2))] := hD
      refine lv_iinc (v := (nI (i + 1))) (lv' := [(2, .int (nI (i + 1))), (0, .ref h0), (1, .int 1)]) hx hb dX6_save_53 hl (k := 0) rfl (nI_1 i) (by decide) rfl (fun ls hl => ?_)
      refine lv_goto (tgt := 21) hx hb dX6_save_56 (by decide) ?_
      refine lv_aload_n hx hb dX6_save_21 rfl (lv_at hl 1 rfl) ?_
      refine va_get (D := D) (ci := 6) (v := .int 0) (C := RX6) (T := TX6) (N := 27) hx hb hg inX6 hown hK hP 0 rfl rfl 0 (by decide) (hg _ k1219) (fun _ h9 => h9) rfl dX6_save_22 ?_
      refine lv_if_ne (tgt := 59) hx hb dX6_save_25 (by decide) (fun c9 => absurd (by decide) c9) (fun _ => ?_)
      exact ih (i + 1) (by omega) (by omega) (vp_updL gg1 (609 + i) (f0 i)) _ _ _ trivial (hP.sub [0, 1, 2, 3] rfl) (hD.sub [0, 1, 2, 3] (by decide) rfl) (hK.sub [0, 1, 2] rfl) hS (lv_sub hl [0, 1, 2] rfl)
  refine lq1 _ (fun gg1x H locs ls _ hP hD hK hS hl => ?_) 609 0 (Nat.le_refl _) rfl f1 _ _ _ trivial hP hD hK hS hl
  refine lv_aload_n hx hb dX6_save_59 rfl (lv_at hl 1 rfl) ?_
  refine va_get (D := D) (ci := 6) (v := .int 0) (C := RX6) (T := TX6) (N := 27) hx hb hg inX6 hown hK hP 0 rfl rfl 0 (by decide) (hg _ k1219) (fun _ h9 => h9) rfl dX6_save_60 ?_
  refine lv_if_ne (tgt := 73) hx hb dX6_save_63 (by decide) (fun c9 => absurd (by decide) c9) (fun _ => ?_)
  refine lv_aload_n hx hb dX6_save_66 rfl (lv_at hl 1 rfl) ?_
  refine va_get (D := D) (ci := 6) (v := .ref h3) (C := RX6) (T := TX6) (N := 27) hx hb hg inX6 hown hK hP 0 rfl rfl 4 (by decide) (hg _ k1223) (fun _ h9 => h9) rfl dX6_save_67 ?_
  refine lv_iload_n hx hb dX6_save_70 rfl (lv_at hl 2 rfl) ?_
  refine lv_iconst (v := 1) hx hb dX6_save_71 (by decide) ?_
  refine astZ hx hb hK hP hD hS 3 2 rfl rfl 1 (by decide) (vin (by decide)) (v := 1) (by decide) dX6_save_72 (fun H locs hP hD hS => ?_)
  have hP : va_P D vwCl [(h0, .inr (6, [.int 0, .ref h1, v1, .ref h2, .ref h3, v2, v3, v4, v5, v6, v7, v8, v9, v10, v11, v12, v13, v14, v15, v16, v17, v18, v19, v20, v21, v22, v23])), (h1, .inl (a0, 609, .inr (.inl f0))), (h2, .inl (a1, 1218, .inr (.inl gg1x))), (h3, .inl (a2, 2, .inl (upd f2 1 1)))] H := hP
  have hD : va_D A [(h0, .inr (6, [.int 0, .ref h1, v1, .ref h2, .ref h3, v2, v3, v4, v5, v6, v7, v8, v9, v10, v11, v12, v13, v14, v15, v16, v17, v18, v19, v20, v21, v22, v23])), (h1, .inl (a0, 609, .inr (.inl f0))), (h2, .inl (a1, 1218, .inr (.inl gg1x))), (h3, .inl (a2, 2, .inl (upd f2 1 1)))] := hD
  exact fv hx hb hr hlocks hP hD hK hS (gg1x) trivial [0, 1, 2, 3] [0, 1, 2] rfl (by decide) rfl (Nat.le_of_ble_eq_true rfl) (Nat.le_of_ble_eq_true rfl) dX6_save_73
set_option maxHeartbeats 4000000 in
set_option maxRecDepth 100000 in
theorem cX6_save_294 (l : Launch) (D : va_G) (h0 : Nat) (x0 : Int32) (v0 : Value) (v1 : Value) (v2 : Value) (v3 : Value) (v4 : Value) (v5 : Value) (v6 : Value) (v7 : Value) (v8 : Value) (v9 : Value) (v10 : Value) (v11 : Value) (v12 : Value) (v13 : Value) (v14 : Value) (v15 : Value) (v16 : Value) (v17 : Value) (v18 : Value) (v19 : Value) (v20 : Value) (v21 : Value) (v22 : Value) (v23 : Value) (v24 : Value) (v25 : Value) (v26 : Value)  (d0 : ¬ ((lg_cmp x0.toInt64 0) < 0)) (d1 : 0 < (lg_cmp x0.toInt64 1)) : CT l yX6_save cX6_save 3 none { frames := 1, cells := 0, slots := 0, locals := 25 } [.ref h0, .int x0] D [(h0, .inr (6, [v0, v1, v2, v3, v4, v5, v6, v7, v8, v9, v10, v11, v12, v13, v14, v15, v16, v17, v18, v19, v20, v21, v22, v23, v24, v25, v26]))] [] XN [(h0, .inr (6, [v0, v1, v2, v3, v4, v5, v6, v7, v8, v9, v10, v11, v12, v13, v14, v15, v16, v17, v18, v19, v20, v21, v22, v23, v24, v25, v26]))] (ev (fun _ : Unit => True) (fun _ => [(h0, .inr (6, [.int 1, v1, v2, v3, v4, v5, v6, v7, v8, v9, v10, v11, v12, v13, v14, v15, v16, v17, v18, v19, v20, v21, v22, v23, v24, v25, v26]))]) (fun u => []) D) 0 0 := by
  refine CT.ofW (by decide) (Nat.le_of_ble_eq_true rfl) ?_
  intro p e s m below meth c A ls hcs hP hK hD hX hA hS hl
  obtain ⟨hx, hb, hr, hml, hown, hg, hlocks, hin⟩ := hcs
  have hown : s.vm.findClass RX6 = some m.cls := hown
  have hl : lv_has ls 3 [(0, .ref h0), (1, .int x0)] := hl
  refine lv_aload_n hx hb dX6_save_0 rfl (lv_at hl 0 rfl) ?_
  refine lv_iload_n hx hb dX6_save_1 rfl (lv_at hl 1 rfl) ?_
  refine lv_i2l (v := x0.toInt64) hx hb dX6_save_2 rfl ?_
  refine lv_lconst (v := 0) hx hb dX6_save_3 (by decide) ?_
  refine lv_lconst (v := 1) hx hb dX6_save_4 (by decide) ?_
  refine cSi (n := 3) (As := [.long x0.toInt64, .long 0, .long 1]) (rest := [.ref h0]) (wr := [(h0, .inr (6, [v0, v1, v2, v3, v4, v5, v6, v7, v8, v9, v10, v11, v12, v13, v14, v15, v16, v17, v18, v19, v20, v21, v22, v23, v24, v25, v26]))]) (tr := []) hx hb hml hown hg okN (cX6_in_61 l D x0 d0 d1) (mwS k1317 k1318 k92 k1319) ⟨rfl, by decide, by decide, by decide +kernel⟩ ⟨rfl, rfl, (Nat.le_of_ble_eq_true rfl), (Nat.le_of_ble_eq_true rfl)⟩ hP hD hK hS xn [] [] [0] [] [] rfl (by decide) rfl rfl (by decide) (by decide) rfl rfl (aNil hA hS) (aNil hA hS) rfl hl.1 rfl (Nat.le_of_ble_eq_true rfl) dX6_save_5 ⟨(Nat.le_of_ble_eq_true rfl), (Nat.le_of_ble_eq_true rfl)⟩ (fun u H locs hφ hP hD hK hS hk => ?_)
  have hP : va_P D vwCl [(h0, .inr (6, [v0, v1, v2, v3, v4, v5, v6, v7, v8, v9, v10, v11, v12, v13, v14, v15, v16, v17, v18, v19, v20, v21, v22, v23, v24, v25, v26]))] H := hP
  have hD : va_D A [(h0, .inr (6, [v0, v1, v2, v3, v4, v5, v6, v7, v8, v9, v10, v11, v12, v13, v14, v15, v16, v17, v18, v19, v20, v21, v22, v23, v24, v25, v26]))] := hD
  have hK : va_K D vwCl [] s := hK
  refine W.widen (k := 0) (n := 0) (Nat.le_of_ble_eq_true rfl) (Nat.le_of_ble_eq_true rfl) ?_
  refine lv_if_eq (tgt := 15) hx hb dX6_save_8 (by decide) (fun _ => ?_) (fun c9 => absurd (by decide) c9)
  refine lv_iconst (v := 1) hx hb dX6_save_15 (by decide) ?_
  refine va_put (D := D) (ci := 6) (v := .int 1) (ty := .int) (C := RX6) (T := TX6) (N := 27) hx hb hg inX6 tyX6 tyX6_ok nmX6 hown hK hP hD hS 0 rfl rfl 0 (by decide) (hg _ k1219) (fun _ h9 => h9) rfl (by decide +kernel) rfl rfl (Nat.le_of_ble_eq_true rfl) dX6_save_16 (fun H locs hP hD hS => ?_)
  have hP : va_P D vwCl [(h0, .inr (6, [.int 1, v1, v2, v3, v4, v5, v6, v7, v8, v9, v10, v11, v12, v13, v14, v15, v16, v17, v18, v19, v20, v21, v22, v23, v24, v25, v26]))] H := hP
  have hD : va_D A [(h0, .inr (6, [.int 1, v1, v2, v3, v4, v5, v6, v7, v8, v9, v10, v11, v12, v13, v14, v15, v16, v17, v18, v19, v20, v21, v22, v23, v24, v25, v26]))] := hD
  refine lv_iconst (v := 0) hx hb dX6_save_19 (by decide) ?_
  refine lv_istore_n (lv' := [(2, .int 0), (0, .ref h0), (1, .int x0)]) hx hb dX6_save_20 rfl hl (by decide) rfl (fun ls hl => ?_)
  refine lv_aload_n hx hb dX6_save_21 rfl (lv_at hl 1 rfl) ?_
  refine va_get (D := D) (ci := 6) (v := .int 1) (C := RX6) (T := TX6) (N := 27) hx hb hg inX6 hown hK hP 0 rfl rfl 0 (by decide) (hg _ k1219) (fun _ h9 => h9) rfl dX6_save_22 ?_
  refine lv_if_ne (tgt := 59) hx hb dX6_save_25 (by decide) (fun _ => ?_) (fun c9 => absurd c9 (by decide))
  refine lv_aload_n hx hb dX6_save_59 rfl (lv_at hl 1 rfl) ?_
  refine va_get (D := D) (ci := 6) (v := .int 1) (C := RX6) (T := TX6) (N := 27) hx hb hg inX6 hown hK hP 0 rfl rfl 0 (by decide) (hg _ k1219) (fun _ h9 => h9) rfl dX6_save_60 ?_
  refine lv_if_ne (tgt := 73) hx hb dX6_save_63 (by decide) (fun _ => ?_) (fun c9 => absurd c9 (by decide))
  exact fv hx hb hr hlocks hP hD hK hS (()) trivial [0] [] rfl (by decide) rfl (Nat.le_of_ble_eq_true rfl) (Nat.le_of_ble_eq_true rfl) dX6_save_73
set_option maxHeartbeats 4000000 in
set_option maxRecDepth 100000 in
theorem cX6_restore_295 (l : Launch) (D : va_G) (h0 : Nat) (x0 : Int32) (v0 : Value) (v1 : Value) (v2 : Value) (v3 : Value) (v4 : Value) (v5 : Value) (v6 : Value) (v7 : Value) (v8 : Value) (v9 : Value) (v10 : Value) (v11 : Value) (v12 : Value) (v13 : Value) (v14 : Value) (v15 : Value) (v16 : Value) (v17 : Value) (v18 : Value) (v19 : Value) (v20 : Value) (v21 : Value) (v22 : Value) (v23 : Value) (v24 : Value) (v25 : Value) (v26 : Value)  (d0 : (lg_cmp x0.toInt64 0) < 0) : CT l yX6_restore cX6_restore 3 none { frames := 1, cells := 0, slots := 0, locals := 25 } [.ref h0, .int x0] D [(h0, .inr (6, [v0, v1, v2, v3, v4, v5, v6, v7, v8, v9, v10, v11, v12, v13, v14, v15, v16, v17, v18, v19, v20, v21, v22, v23, v24, v25, v26]))] [] XN [(h0, .inr (6, [v0, v1, v2, v3, v4, v5, v6, v7, v8, v9, v10, v11, v12, v13, v14, v15, v16, v17, v18, v19, v20, v21, v22, v23, v24, v25, v26]))] (ev (fun _ : Unit => True) (fun _ => [(h0, .inr (6, [.int 1, v1, v2, v3, v4, v5, v6, v7, v8, v9, v10, v11, v12, v13, v14, v15, v16, v17, v18, v19, v20, v21, v22, v23, v24, v25, v26]))]) (fun u => []) D) 0 0 := by
  refine CT.ofW (by decide) (Nat.le_of_ble_eq_true rfl) ?_
  intro p e s m below meth c A ls hcs hP hK hD hX hA hS hl
  obtain ⟨hx, hb, hr, hml, hown, hg, hlocks, hin⟩ := hcs
  have hown : s.vm.findClass RX6 = some m.cls := hown
  have hl : lv_has ls 3 [(0, .ref h0), (1, .int x0)] := hl
  refine lv_aload_n hx hb dX6_restore_0 rfl (lv_at hl 0 rfl) ?_
  refine lv_iload_n hx hb dX6_restore_1 rfl (lv_at hl 1 rfl) ?_
  refine lv_i2l (v := x0.toInt64) hx hb dX6_restore_2 rfl ?_
  refine lv_lconst (v := 0) hx hb dX6_restore_3 (by decide) ?_
  refine lv_lconst (v := 1) hx hb dX6_restore_4 (by decide) ?_
  refine cSi (n := 3) (As := [.long x0.toInt64, .long 0, .long 1]) (rest := [.ref h0]) (wr := [(h0, .inr (6, [v0, v1, v2, v3, v4, v5, v6, v7, v8, v9, v10, v11, v12, v13, v14, v15, v16, v17, v18, v19, v20, v21, v22, v23, v24, v25, v26]))]) (tr := []) hx hb hml hown hg okN (cX6_in_58 l D x0 d0) (mwS k1317 k1318 k92 k1319) ⟨rfl, by decide, by decide, by decide +kernel⟩ ⟨rfl, rfl, (Nat.le_of_ble_eq_true rfl), (Nat.le_of_ble_eq_true rfl)⟩ hP hD hK hS xn [] [] [0] [] [] rfl (by decide) rfl rfl (by decide) (by decide) rfl rfl (aNil hA hS) (aNil hA hS) rfl hl.1 rfl (Nat.le_of_ble_eq_true rfl) dX6_restore_5 ⟨(Nat.le_of_ble_eq_true rfl), (Nat.le_of_ble_eq_true rfl)⟩ (fun u H locs hφ hP hD hK hS hk => ?_)
  have hP : va_P D vwCl [(h0, .inr (6, [v0, v1, v2, v3, v4, v5, v6, v7, v8, v9, v10, v11, v12, v13, v14, v15, v16, v17, v18, v19, v20, v21, v22, v23, v24, v25, v26]))] H := hP
  have hD : va_D A [(h0, .inr (6, [v0, v1, v2, v3, v4, v5, v6, v7, v8, v9, v10, v11, v12, v13, v14, v15, v16, v17, v18, v19, v20, v21, v22, v23, v24, v25, v26]))] := hD
  have hK : va_K D vwCl [] s := hK
  refine W.widen (k := 0) (n := 0) (Nat.le_of_ble_eq_true rfl) (Nat.le_of_ble_eq_true rfl) ?_
  refine lv_if_ne (tgt := 15) hx hb dX6_restore_8 (by decide) (fun c9 => absurd (by decide) c9) (fun _ => ?_)
  refine lv_iconst (v := 1) hx hb dX6_restore_11 (by decide) ?_
  refine lv_goto (tgt := 29) hx hb dX6_restore_12 (by decide) ?_
  refine va_put (D := D) (ci := 6) (v := .int 1) (ty := .int) (C := RX6) (T := TX6) (N := 27) hx hb hg inX6 tyX6 tyX6_ok nmX6 hown hK hP hD hS 0 rfl rfl 0 (by decide) (hg _ k1219) (fun _ h9 => h9) rfl (by decide +kernel) rfl rfl (Nat.le_of_ble_eq_true rfl) dX6_restore_29 (fun H locs hP hD hS => ?_)
  have hP : va_P D vwCl [(h0, .inr (6, [.int 1, v1, v2, v3, v4, v5, v6, v7, v8, v9, v10, v11, v12, v13, v14, v15, v16, v17, v18, v19, v20, v21, v22, v23, v24, v25, v26]))] H := hP
  have hD : va_D A [(h0, .inr (6, [.int 1, v1, v2, v3, v4, v5, v6, v7, v8, v9, v10, v11, v12, v13, v14, v15, v16, v17, v18, v19, v20, v21, v22, v23, v24, v25, v26]))] := hD
  refine lv_iconst (v := 0) hx hb dX6_restore_32 (by decide) ?_
  refine lv_istore_n (lv' := [(2, .int 0), (0, .ref h0), (1, .int x0)]) hx hb dX6_restore_33 rfl hl (by decide) rfl (fun ls hl => ?_)
  refine lv_aload_n hx hb dX6_restore_34 rfl (lv_at hl 1 rfl) ?_
  refine va_get (D := D) (ci := 6) (v := .int 1) (C := RX6) (T := TX6) (N := 27) hx hb hg inX6 hown hK hP 0 rfl rfl 0 (by decide) (hg _ k1219) (fun _ h9 => h9) rfl dX6_restore_35 ?_
  refine lv_if_ne (tgt := 72) hx hb dX6_restore_38 (by decide) (fun _ => ?_) (fun c9 => absurd c9 (by decide))
  exact fv hx hb hr hlocks hP hD hK hS (()) trivial [0] [] rfl (by decide) rfl (Nat.le_of_ble_eq_true rfl) (Nat.le_of_ble_eq_true rfl) dX6_restore_72
set_option maxHeartbeats 4000000 in
set_option maxRecDepth 100000 in
theorem cX6_restore_296 (l : Launch) (D : va_G) (h0 : Nat) (h1 : Nat) (v0 : Value) (v1 : Value) (v2 : Value) (v3 : Value) (v4 : Value) (v5 : Value) (v6 : Value) (v7 : Value) (v8 : Value) (v9 : Value) (v10 : Value) (v11 : Value) (v12 : Value) (v13 : Value) (v14 : Value) (v15 : Value) (v16 : Value) (v17 : Value) (v18 : Value) (v19 : Value) (v20 : Value) (v21 : Value) (v22 : Value) (v23 : Value) (v24 : Value) (v25 : Value) (f0 : Nat → Int32) (a0 : ClassId) (ef0_0 : f0 0 = 0)  : CT l yX6_restore cX6_restore 3 none { frames := 1, cells := 0, slots := 0, locals := 25 } [.ref h0, .int 0] D [(h0, .inr (6, [v0, v1, v2, v3, .ref h1, v4, v5, v6, v7, v8, v9, v10, v11, v12, v13, v14, v15, v16, v17, v18, v19, v20, v21, v22, v23, v24, v25])), (h1, .inl (a0, 2, .inl f0))] [(a0, .boolean)] XN [(h0, .inr (6, [v0, v1, v2, v3, .ref h1, v4, v5, v6, v7, v8, v9, v10, v11, v12, v13, v14, v15, v16, v17, v18, v19, v20, v21, v22, v23, v24, v25])), (h1, .inl (a0, 2, .inl f0))] (ev (fun _ : Unit => True) (fun _ => [(h0, .inr (6, [.int 2, v1, v2, v3, .ref h1, v4, v5, v6, v7, v8, v9, v10, v11, v12, v13, v14, v15, v16, v17, v18, v19, v20, v21, v22, v23, v24, v25])), (h1, .inl (a0, 2, .inl f0))]) (fun u => [(a0, .boolean)]) D) 0 0 := by
  refine CT.ofW (by decide) (Nat.le_of_ble_eq_true rfl) ?_
  intro p e s m below meth c A ls hcs hP hK hD hX hA hS hl
  obtain ⟨hx, hb, hr, hml, hown, hg, hlocks, hin⟩ := hcs
  have hown : s.vm.findClass RX6 = some m.cls := hown
  have hl : lv_has ls 3 [(0, .ref h0), (1, .int 0)] := hl
  refine lv_aload_n hx hb dX6_restore_0 rfl (lv_at hl 0 rfl) ?_
  refine lv_iload_n hx hb dX6_restore_1 rfl (lv_at hl 1 rfl) ?_
  refine lv_i2l (v := 0) hx hb dX6_restore_2 (by decide) ?_
  refine lv_lconst (v := 0) hx hb dX6_restore_3 (by decide) ?_
  refine lv_lconst (v := 1) hx hb dX6_restore_4 (by decide) ?_
  refine cSi (n := 3) (As := [.long 0, .long 0, .long 1]) (rest := [.ref h0]) (wr := [(h0, .inr (6, [v0, v1, v2, v3, .ref h1, v4, v5, v6, v7, v8, v9, v10, v11, v12, v13, v14, v15, v16, v17, v18, v19, v20, v21, v22, v23, v24, v25])), (h1, .inl (a0, 2, .inl f0))]) (tr := [(a0, .boolean)]) hx hb hml hown hg okN (cX6_in_64 l D) (mwS k1317 k1318 k92 k1319) ⟨rfl, by decide, by decide, by decide +kernel⟩ ⟨rfl, rfl, (Nat.le_of_ble_eq_true rfl), (Nat.le_of_ble_eq_true rfl)⟩ hP hD hK hS xn [] [] [0, 1] [] [0] rfl (by decide) rfl rfl (by decide) (by decide) rfl rfl (aNil hA hS) (aNil hA hS) rfl hl.1 rfl (Nat.le_of_ble_eq_true rfl) dX6_restore_5 ⟨(Nat.le_of_ble_eq_true rfl), (Nat.le_of_ble_eq_true rfl)⟩ (fun u H locs hφ hP hD hK hS hk => ?_)
  have hP : va_P D vwCl [(h0, .inr (6, [v0, v1, v2, v3, .ref h1, v4, v5, v6, v7, v8, v9, v10, v11, v12, v13, v14, v15, v16, v17, v18, v19, v20, v21, v22, v23, v24, v25])), (h1, .inl (a0, 2, .inl f0))] H := hP
  have hD : va_D A [(h0, .inr (6, [v0, v1, v2, v3, .ref h1, v4, v5, v6, v7, v8, v9, v10, v11, v12, v13, v14, v15, v16, v17, v18, v19, v20, v21, v22, v23, v24, v25])), (h1, .inl (a0, 2, .inl f0))] := hD
  have hK : va_K D vwCl [(a0, .boolean)] s := hK
  refine W.widen (k := 0) (n := 0) (Nat.le_of_ble_eq_true rfl) (Nat.le_of_ble_eq_true rfl) ?_
  refine lv_if_ne (tgt := 15) hx hb dX6_restore_8 (by decide) (fun _ => ?_) (fun c9 => absurd c9 (by decide))
  refine lv_aload_n hx hb dX6_restore_15 rfl (lv_at hl 0 rfl) ?_
  refine va_get (D := D) (ci := 6) (v := .ref h1) (C := RX6) (T := TX6) (N := 27) hx hb hg inX6 hown hK hP 0 rfl rfl 4 (by decide) (hg _ k1223) (fun _ h9 => h9) rfl dX6_restore_16 ?_
  refine lv_iload_n hx hb dX6_restore_19 rfl (lv_at hl 1 rfl) ?_
  refine aldZ hx hb hK hP 1 0 rfl rfl 0 (by decide) (vin (by decide)) (v := 0) ef0_0 dX6_restore_20 ?_
  refine lv_if_eq (tgt := 28) hx hb dX6_restore_21 (by decide) (fun _ => ?_) (fun c9 => absurd (by decide) c9)
  refine lv_iconst (v := 2) hx hb dX6_restore_28 (by decide) ?_
  refine va_put (D := D) (ci := 6) (v := .int 2) (ty := .int) (C := RX6) (T := TX6) (N := 27) hx hb hg inX6 tyX6 tyX6_ok nmX6 hown hK hP hD hS 0 rfl rfl 0 (by decide) (hg _ k1219) (fun _ h9 => h9) rfl (by decide +kernel) rfl rfl (Nat.le_of_ble_eq_true rfl) dX6_restore_29 (fun H locs hP hD hS => ?_)
  have hP : va_P D vwCl [(h0, .inr (6, [.int 2, v1, v2, v3, .ref h1, v4, v5, v6, v7, v8, v9, v10, v11, v12, v13, v14, v15, v16, v17, v18, v19, v20, v21, v22, v23, v24, v25])), (h1, .inl (a0, 2, .inl f0))] H := hP
  have hD : va_D A [(h0, .inr (6, [.int 2, v1, v2, v3, .ref h1, v4, v5, v6, v7, v8, v9, v10, v11, v12, v13, v14, v15, v16, v17, v18, v19, v20, v21, v22, v23, v24, v25])), (h1, .inl (a0, 2, .inl f0))] := hD
  refine lv_iconst (v := 0) hx hb dX6_restore_32 (by decide) ?_
  refine lv_istore_n (lv' := [(2, .int 0), (0, .ref h0), (1, .int 0)]) hx hb dX6_restore_33 rfl hl (by decide) rfl (fun ls hl => ?_)
  refine lv_aload_n hx hb dX6_restore_34 rfl (lv_at hl 1 rfl) ?_
  refine va_get (D := D) (ci := 6) (v := .int 2) (C := RX6) (T := TX6) (N := 27) hx hb hg inX6 hown hK hP 0 rfl rfl 0 (by decide) (hg _ k1219) (fun _ h9 => h9) rfl dX6_restore_35 ?_
  refine lv_if_ne (tgt := 72) hx hb dX6_restore_38 (by decide) (fun _ => ?_) (fun c9 => absurd c9 (by decide))
  exact fv hx hb hr hlocks hP hD hK hS (()) trivial [0, 1] [0] rfl (by decide) rfl (Nat.le_of_ble_eq_true rfl) (Nat.le_of_ble_eq_true rfl) dX6_restore_72
set_option maxHeartbeats 4000000 in
set_option maxRecDepth 100000 in
theorem cX6_restore_297 (l : Launch) (D : va_G) (h0 : Nat) (h1 : Nat) (v0 : Value) (v1 : Value) (v2 : Value) (v3 : Value) (v4 : Value) (v5 : Value) (v6 : Value) (v7 : Value) (v8 : Value) (v9 : Value) (v10 : Value) (v11 : Value) (v12 : Value) (v13 : Value) (v14 : Value) (v15 : Value) (v16 : Value) (v17 : Value) (v18 : Value) (v19 : Value) (v20 : Value) (v21 : Value) (v22 : Value) (v23 : Value) (v24 : Value) (v25 : Value) (f0 : Nat → Int32) (a0 : ClassId) (ef0_1 : f0 1 = 0)  : CT l yX6_restore cX6_restore 3 none { frames := 1, cells := 0, slots := 0, locals := 25 } [.ref h0, .int 1] D [(h0, .inr (6, [v0, v1, v2, v3, .ref h1, v4, v5, v6, v7, v8, v9, v10, v11, v12, v13, v14, v15, v16, v17, v18, v19, v20, v21, v22, v23, v24, v25])), (h1, .inl (a0, 2, .inl f0))] [(a0, .boolean)] XN [(h0, .inr (6, [v0, v1, v2, v3, .ref h1, v4, v5, v6, v7, v8, v9, v10, v11, v12, v13, v14, v15, v16, v17, v18, v19, v20, v21, v22, v23, v24, v25])), (h1, .inl (a0, 2, .inl f0))] (ev (fun _ : Unit => True) (fun _ => [(h0, .inr (6, [.int 2, v1, v2, v3, .ref h1, v4, v5, v6, v7, v8, v9, v10, v11, v12, v13, v14, v15, v16, v17, v18, v19, v20, v21, v22, v23, v24, v25])), (h1, .inl (a0, 2, .inl f0))]) (fun u => [(a0, .boolean)]) D) 0 0 := by
  refine CT.ofW (by decide) (Nat.le_of_ble_eq_true rfl) ?_
  intro p e s m below meth c A ls hcs hP hK hD hX hA hS hl
  obtain ⟨hx, hb, hr, hml, hown, hg, hlocks, hin⟩ := hcs
  have hown : s.vm.findClass RX6 = some m.cls := hown
  have hl : lv_has ls 3 [(0, .ref h0), (1, .int 1)] := hl
  refine lv_aload_n hx hb dX6_restore_0 rfl (lv_at hl 0 rfl) ?_
  refine lv_iload_n hx hb dX6_restore_1 rfl (lv_at hl 1 rfl) ?_
  refine lv_i2l (v := 1) hx hb dX6_restore_2 (by decide) ?_
  refine lv_lconst (v := 0) hx hb dX6_restore_3 (by decide) ?_
  refine lv_lconst (v := 1) hx hb dX6_restore_4 (by decide) ?_
  refine cSi (n := 3) (As := [.long 1, .long 0, .long 1]) (rest := [.ref h0]) (wr := [(h0, .inr (6, [v0, v1, v2, v3, .ref h1, v4, v5, v6, v7, v8, v9, v10, v11, v12, v13, v14, v15, v16, v17, v18, v19, v20, v21, v22, v23, v24, v25])), (h1, .inl (a0, 2, .inl f0))]) (tr := [(a0, .boolean)]) hx hb hml hown hg okN (cX6_in_82 l D) (mwS k1317 k1318 k92 k1319) ⟨rfl, by decide, by decide, by decide +kernel⟩ ⟨rfl, rfl, (Nat.le_of_ble_eq_true rfl), (Nat.le_of_ble_eq_true rfl)⟩ hP hD hK hS xn [] [] [0, 1] [] [0] rfl (by decide) rfl rfl (by decide) (by decide) rfl rfl (aNil hA hS) (aNil hA hS) rfl hl.1 rfl (Nat.le_of_ble_eq_true rfl) dX6_restore_5 ⟨(Nat.le_of_ble_eq_true rfl), (Nat.le_of_ble_eq_true rfl)⟩ (fun u H locs hφ hP hD hK hS hk => ?_)
  have hP : va_P D vwCl [(h0, .inr (6, [v0, v1, v2, v3, .ref h1, v4, v5, v6, v7, v8, v9, v10, v11, v12, v13, v14, v15, v16, v17, v18, v19, v20, v21, v22, v23, v24, v25])), (h1, .inl (a0, 2, .inl f0))] H := hP
  have hD : va_D A [(h0, .inr (6, [v0, v1, v2, v3, .ref h1, v4, v5, v6, v7, v8, v9, v10, v11, v12, v13, v14, v15, v16, v17, v18, v19, v20, v21, v22, v23, v24, v25])), (h1, .inl (a0, 2, .inl f0))] := hD
  have hK : va_K D vwCl [(a0, .boolean)] s := hK
  refine W.widen (k := 0) (n := 0) (Nat.le_of_ble_eq_true rfl) (Nat.le_of_ble_eq_true rfl) ?_
  refine lv_if_ne (tgt := 15) hx hb dX6_restore_8 (by decide) (fun _ => ?_) (fun c9 => absurd c9 (by decide))
  refine lv_aload_n hx hb dX6_restore_15 rfl (lv_at hl 0 rfl) ?_
  refine va_get (D := D) (ci := 6) (v := .ref h1) (C := RX6) (T := TX6) (N := 27) hx hb hg inX6 hown hK hP 0 rfl rfl 4 (by decide) (hg _ k1223) (fun _ h9 => h9) rfl dX6_restore_16 ?_
  refine lv_iload_n hx hb dX6_restore_19 rfl (lv_at hl 1 rfl) ?_
  refine aldZ hx hb hK hP 1 0 rfl rfl 1 (by decide) (vin (by decide)) (v := 0) ef0_1 dX6_restore_20 ?_
  refine lv_if_eq (tgt := 28) hx hb dX6_restore_21 (by decide) (fun _ => ?_) (fun c9 => absurd (by decide) c9)
  refine lv_iconst (v := 2) hx hb dX6_restore_28 (by decide) ?_
  refine va_put (D := D) (ci := 6) (v := .int 2) (ty := .int) (C := RX6) (T := TX6) (N := 27) hx hb hg inX6 tyX6 tyX6_ok nmX6 hown hK hP hD hS 0 rfl rfl 0 (by decide) (hg _ k1219) (fun _ h9 => h9) rfl (by decide +kernel) rfl rfl (Nat.le_of_ble_eq_true rfl) dX6_restore_29 (fun H locs hP hD hS => ?_)
  have hP : va_P D vwCl [(h0, .inr (6, [.int 2, v1, v2, v3, .ref h1, v4, v5, v6, v7, v8, v9, v10, v11, v12, v13, v14, v15, v16, v17, v18, v19, v20, v21, v22, v23, v24, v25])), (h1, .inl (a0, 2, .inl f0))] H := hP
  have hD : va_D A [(h0, .inr (6, [.int 2, v1, v2, v3, .ref h1, v4, v5, v6, v7, v8, v9, v10, v11, v12, v13, v14, v15, v16, v17, v18, v19, v20, v21, v22, v23, v24, v25])), (h1, .inl (a0, 2, .inl f0))] := hD
  refine lv_iconst (v := 0) hx hb dX6_restore_32 (by decide) ?_
  refine lv_istore_n (lv' := [(2, .int 0), (0, .ref h0), (1, .int 1)]) hx hb dX6_restore_33 rfl hl (by decide) rfl (fun ls hl => ?_)
  refine lv_aload_n hx hb dX6_restore_34 rfl (lv_at hl 1 rfl) ?_
  refine va_get (D := D) (ci := 6) (v := .int 2) (C := RX6) (T := TX6) (N := 27) hx hb hg inX6 hown hK hP 0 rfl rfl 0 (by decide) (hg _ k1219) (fun _ h9 => h9) rfl dX6_restore_35 ?_
  refine lv_if_ne (tgt := 72) hx hb dX6_restore_38 (by decide) (fun _ => ?_) (fun c9 => absurd c9 (by decide))
  exact fv hx hb hr hlocks hP hD hK hS (()) trivial [0, 1] [0] rfl (by decide) rfl (Nat.le_of_ble_eq_true rfl) (Nat.le_of_ble_eq_true rfl) dX6_restore_72
set_option maxHeartbeats 4000000 in
set_option maxRecDepth 100000 in
theorem cX6_restore_298 (l : Launch) (D : va_G) (h0 : Nat) (x0 : Int32) (v0 : Value) (v1 : Value) (v2 : Value) (v3 : Value) (v4 : Value) (v5 : Value) (v6 : Value) (v7 : Value) (v8 : Value) (v9 : Value) (v10 : Value) (v11 : Value) (v12 : Value) (v13 : Value) (v14 : Value) (v15 : Value) (v16 : Value) (v17 : Value) (v18 : Value) (v19 : Value) (v20 : Value) (v21 : Value) (v22 : Value) (v23 : Value) (v24 : Value) (v25 : Value) (v26 : Value)  (d0 : ¬ ((lg_cmp x0.toInt64 0) < 0)) (d1 : 0 < (lg_cmp x0.toInt64 1)) : CT l yX6_restore cX6_restore 3 none { frames := 1, cells := 0, slots := 0, locals := 25 } [.ref h0, .int x0] D [(h0, .inr (6, [v0, v1, v2, v3, v4, v5, v6, v7, v8, v9, v10, v11, v12, v13, v14, v15, v16, v17, v18, v19, v20, v21, v22, v23, v24, v25, v26]))] [] XN [(h0, .inr (6, [v0, v1, v2, v3, v4, v5, v6, v7, v8, v9, v10, v11, v12, v13, v14, v15, v16, v17, v18, v19, v20, v21, v22, v23, v24, v25, v26]))] (ev (fun _ : Unit => True) (fun _ => [(h0, .inr (6, [.int 1, v1, v2, v3, v4, v5, v6, v7, v8, v9, v10, v11, v12, v13, v14, v15, v16, v17, v18, v19, v20, v21, v22, v23, v24, v25, v26]))]) (fun u => []) D) 0 0 := by
  refine CT.ofW (by decide) (Nat.le_of_ble_eq_true rfl) ?_
  intro p e s m below meth c A ls hcs hP hK hD hX hA hS hl
  obtain ⟨hx, hb, hr, hml, hown, hg, hlocks, hin⟩ := hcs
  have hown : s.vm.findClass RX6 = some m.cls := hown
  have hl : lv_has ls 3 [(0, .ref h0), (1, .int x0)] := hl
  refine lv_aload_n hx hb dX6_restore_0 rfl (lv_at hl 0 rfl) ?_
  refine lv_iload_n hx hb dX6_restore_1 rfl (lv_at hl 1 rfl) ?_
  refine lv_i2l (v := x0.toInt64) hx hb dX6_restore_2 rfl ?_
  refine lv_lconst (v := 0) hx hb dX6_restore_3 (by decide) ?_
  refine lv_lconst (v := 1) hx hb dX6_restore_4 (by decide) ?_
  refine cSi (n := 3) (As := [.long x0.toInt64, .long 0, .long 1]) (rest := [.ref h0]) (wr := [(h0, .inr (6, [v0, v1, v2, v3, v4, v5, v6, v7, v8, v9, v10, v11, v12, v13, v14, v15, v16, v17, v18, v19, v20, v21, v22, v23, v24, v25, v26]))]) (tr := []) hx hb hml hown hg okN (cX6_in_61 l D x0 d0 d1) (mwS k1317 k1318 k92 k1319) ⟨rfl, by decide, by decide, by decide +kernel⟩ ⟨rfl, rfl, (Nat.le_of_ble_eq_true rfl), (Nat.le_of_ble_eq_true rfl)⟩ hP hD hK hS xn [] [] [0] [] [] rfl (by decide) rfl rfl (by decide) (by decide) rfl rfl (aNil hA hS) (aNil hA hS) rfl hl.1 rfl (Nat.le_of_ble_eq_true rfl) dX6_restore_5 ⟨(Nat.le_of_ble_eq_true rfl), (Nat.le_of_ble_eq_true rfl)⟩ (fun u H locs hφ hP hD hK hS hk => ?_)
  have hP : va_P D vwCl [(h0, .inr (6, [v0, v1, v2, v3, v4, v5, v6, v7, v8, v9, v10, v11, v12, v13, v14, v15, v16, v17, v18, v19, v20, v21, v22, v23, v24, v25, v26]))] H := hP
  have hD : va_D A [(h0, .inr (6, [v0, v1, v2, v3, v4, v5, v6, v7, v8, v9, v10, v11, v12, v13, v14, v15, v16, v17, v18, v19, v20, v21, v22, v23, v24, v25, v26]))] := hD
  have hK : va_K D vwCl [] s := hK
  refine W.widen (k := 0) (n := 0) (Nat.le_of_ble_eq_true rfl) (Nat.le_of_ble_eq_true rfl) ?_
  refine lv_if_ne (tgt := 15) hx hb dX6_restore_8 (by decide) (fun c9 => absurd (by decide) c9) (fun _ => ?_)
  refine lv_iconst (v := 1) hx hb dX6_restore_11 (by decide) ?_
  refine lv_goto (tgt := 29) hx hb dX6_restore_12 (by decide) ?_
  refine va_put (D := D) (ci := 6) (v := .int 1) (ty := .int) (C := RX6) (T := TX6) (N := 27) hx hb hg inX6 tyX6 tyX6_ok nmX6 hown hK hP hD hS 0 rfl rfl 0 (by decide) (hg _ k1219) (fun _ h9 => h9) rfl (by decide +kernel) rfl rfl (Nat.le_of_ble_eq_true rfl) dX6_restore_29 (fun H locs hP hD hS => ?_)
  have hP : va_P D vwCl [(h0, .inr (6, [.int 1, v1, v2, v3, v4, v5, v6, v7, v8, v9, v10, v11, v12, v13, v14, v15, v16, v17, v18, v19, v20, v21, v22, v23, v24, v25, v26]))] H := hP
  have hD : va_D A [(h0, .inr (6, [.int 1, v1, v2, v3, v4, v5, v6, v7, v8, v9, v10, v11, v12, v13, v14, v15, v16, v17, v18, v19, v20, v21, v22, v23, v24, v25, v26]))] := hD
  refine lv_iconst (v := 0) hx hb dX6_restore_32 (by decide) ?_
  refine lv_istore_n (lv' := [(2, .int 0), (0, .ref h0), (1, .int x0)]) hx hb dX6_restore_33 rfl hl (by decide) rfl (fun ls hl => ?_)
  refine lv_aload_n hx hb dX6_restore_34 rfl (lv_at hl 1 rfl) ?_
  refine va_get (D := D) (ci := 6) (v := .int 1) (C := RX6) (T := TX6) (N := 27) hx hb hg inX6 hown hK hP 0 rfl rfl 0 (by decide) (hg _ k1219) (fun _ h9 => h9) rfl dX6_restore_35 ?_
  refine lv_if_ne (tgt := 72) hx hb dX6_restore_38 (by decide) (fun _ => ?_) (fun c9 => absurd c9 (by decide))
  exact fv hx hb hr hlocks hP hD hK hS (()) trivial [0] [] rfl (by decide) rfl (Nat.le_of_ble_eq_true rfl) (Nat.le_of_ble_eq_true rfl) dX6_restore_72
