set_option maxHeartbeats 4000000 in
set_option maxRecDepth 100000 in
theorem cX6_setPredict_157 (l : Launch) (D : va_G) (h0 : Nat) (h1 : Nat) (v0 : Value) (v1 : Value) (v2 : Value) (v3 : Value) (v4 : Value) (v5 : Value) (v6 : Value) (v7 : Value) (v8 : Value) (v9 : Value) (v10 : Value) (v11 : Value) (v12 : Value) (v13 : Value) (v14 : Value) (v15 : Value) (v16 : Value) (v17 : Value) (v18 : Value) (v19 : Value) (v20 : Value) (v21 : Value) (v22 : Value) (v23 : Value) (v24 : Value) (v25 : Value) (f0 : Nat → Int64) (a0 : ClassId) (ef0_1 : f0 1 = 2)  : CT l yX6_setPredict cX6_setPredict 2 (some .int) { frames := 2, cells := 0, slots := 0, locals := 49 } [.ref h0, .int 1] D [(h0, .inr (6, [v0, .ref h1, v1, v2, v3, v4, v5, v6, v7, v8, v9, v10, v11, v12, v13, v14, v15, v16, v17, v18, v19, v20, v21, v22, v23, v24, v25])), (h1, .inl (a0, 609, .inr (.inl f0)))] [(a0, .long)] XN [(h0, .inr (6, [v0, .ref h1, v1, v2, v3, v4, v5, v6, v7, v8, v9, v10, v11, v12, v13, v14, v15, v16, v17, v18, v19, v20, v21, v22, v23, v24, v25])), (h1, .inl (a0, 609, .inr (.inl f0)))] (ei (fun _ : Unit => True) (fun u => 2) (fun _ => [(h0, .inr (6, [.int 0, .ref h1, v1, v2, v3, v4, v5, v6, v7, v8, v9, v10, v11, v12, v13, v14, v15, v16, v17, v18, v19, v20, v21, v22, v23, v24, v25])), (h1, .inl (a0, 609, .inr (.inl (vp_updL f0 1 1))))]) (fun u => [(a0, .long)]) D) 0 0 := by
  refine CT.ofW (by decide +kernel) (Nat.le_of_ble_eq_true rfl) ?_
  intro p e s m below meth c A ls hcs hP hK hD hX hA hS hl
  obtain ⟨hx, hb, hr, hml, hown, hg, hlocks, hin⟩ := hcs
  have hown : s.vm.findClass RX6 = some m.cls := hown
  have hl : lv_has ls 2 [(0, .ref h0), (1, .int 1)] := hl
  refine lv_aload_n hx hb dX6_setPredict_0 rfl (lv_at hl 0 rfl) ?_
  refine lv_iconst (v := 1) hx hb dX6_setPredict_1 (by decide) ?_
  refine lv_iload_n hx hb dX6_setPredict_2 rfl (lv_at hl 1 rfl) ?_
  refine lv_iconst (v := 2) hx hb dX6_setPredict_3 (by decide) ?_
  refine cVi (n := 3) (As := [.int 1, .int 1, .int 2]) (rest := []) (wr := []) (tr := []) hx hb hml hown hg okN (cX6_sets_158 l D h0 h1 v0 v1 v2 v3 v4 v5 v6 v7 v8 v9 v10 v11 v12 v13 v14 v15 v16 v17 v18 v19 v20 v21 v22 v23 v24 v25 f0 a0 ef0_1) (mwV k1551 k1553 k69 k92 k1554) ⟨rfl, by decide, by decide, by decide +kernel⟩ ⟨rfl, rfl, (Nat.le_of_ble_eq_true rfl), (Nat.le_of_ble_eq_true rfl)⟩ hP hD hK hS xn [0, 1] [0, 1] [] [0] [] rfl (by decide) rfl rfl (by decide) (by decide) rfl rfl (va_free hD hS hA [0, 1] rfl) (va_free hD hS hA [0, 1] rfl) 0 rfl rfl rfl hl.1 rfl (Nat.le_of_ble_eq_true rfl) dX6_setPredict_4 ⟨(Nat.le_of_ble_eq_true rfl), (Nat.le_of_ble_eq_true rfl)⟩ (fun u H locs hφ hP hD hK hS hk => ?_)
  have hP : va_P D vwCl [(h0, .inr (6, [.int 0, .ref h1, v1, v2, v3, v4, v5, v6, v7, v8, v9, v10, v11, v12, v13, v14, v15, v16, v17, v18, v19, v20, v21, v22, v23, v24, v25])), (h1, .inl (a0, 609, .inr (.inl (vp_updL f0 1 1))))] H := hP
  have hD : va_D A [(h0, .inr (6, [.int 0, .ref h1, v1, v2, v3, v4, v5, v6, v7, v8, v9, v10, v11, v12, v13, v14, v15, v16, v17, v18, v19, v20, v21, v22, v23, v24, v25])), (h1, .inl (a0, 609, .inr (.inl (vp_updL f0 1 1))))] := hD
  have hK : va_K D vwCl [(a0, .long)] s := hK
  refine W.widen (k := 0) (n := 0) (Nat.le_of_ble_eq_true rfl) (Nat.le_of_ble_eq_true rfl) ?_
  exact fi hx hb hr hlocks hP hD hK hS (()) trivial rfl [0, 1] [0] rfl (by decide) rfl (Nat.le_of_ble_eq_true rfl) (Nat.le_of_ble_eq_true rfl) dX6_setPredict_7
set_option maxHeartbeats 4000000 in
set_option maxRecDepth 100000 in
theorem cX6_sets_160 (l : Launch) (D : va_G) (h0 : Nat) (h1 : Nat) (v0 : Value) (v1 : Value) (v2 : Value) (v3 : Value) (v4 : Value) (v5 : Value) (v6 : Value) (v7 : Value) (v8 : Value) (v9 : Value) (v10 : Value) (v11 : Value) (v12 : Value) (v13 : Value) (v14 : Value) (v15 : Value) (v16 : Value) (v17 : Value) (v18 : Value) (v19 : Value) (v20 : Value) (v21 : Value) (v22 : Value) (v23 : Value) (v24 : Value) (v25 : Value) (f0 : Nat → Int64) (a0 : ClassId) (ef0_1 : f0 1 = 2)  : CT l yX6_sets cX6_sets 5 (some .int) { frames := 1, cells := 0, slots := 0, locals := 25 } [.ref h0, .int 1, .int 2, .int 2] D [(h0, .inr (6, [v0, .ref h1, v1, v2, v3, v4, v5, v6, v7, v8, v9, v10, v11, v12, v13, v14, v15, v16, v17, v18, v19, v20, v21, v22, v23, v24, v25])), (h1, .inl (a0, 609, .inr (.inl f0)))] [(a0, .long)] XN [(h0, .inr (6, [v0, .ref h1, v1, v2, v3, v4, v5, v6, v7, v8, v9, v10, v11, v12, v13, v14, v15, v16, v17, v18, v19, v20, v21, v22, v23, v24, v25])), (h1, .inl (a0, 609, .inr (.inl f0)))] (ei (fun _ : Unit => True) (fun u => 2) (fun _ => [(h0, .inr (6, [.int 0, .ref h1, v1, v2, v3, v4, v5, v6, v7, v8, v9, v10, v11, v12, v13, v14, v15, v16, v17, v18, v19, v20, v21, v22, v23, v24, v25])), (h1, .inl (a0, 609, .inr (.inl (vp_updL f0 1 2))))]) (fun u => [(a0, .long)]) D) 0 0 := by
  refine CT.ofW (by decide +kernel) (Nat.le_of_ble_eq_true rfl) ?_
  intro p e s m below meth c A ls hcs hP hK hD hX hA hS hl
  obtain ⟨hx, hb, hr, hml, hown, hg, hlocks, hin⟩ := hcs
  have hown : s.vm.findClass RX6 = some m.cls := hown
  have hl : lv_has ls 5 [(0, .ref h0), (1, .int 1), (2, .int 2), (3, .int 2)] := hl
  refine lv_aload_n hx hb dX6_sets_0 rfl (lv_at hl 0 rfl) ?_
  refine lv_iload_n hx hb dX6_sets_1 rfl (lv_at hl 2 rfl) ?_
  refine lv_i2l (v := 2) hx hb dX6_sets_2 (by decide) ?_
  refine lv_lconst (v := 0) hx hb dX6_sets_3 (by decide) ?_
  refine lv_iload_n hx hb dX6_sets_4 rfl (lv_at hl 3 rfl) ?_
  refine lv_i2l (v := 2) hx hb dX6_sets_5 (by decide) ?_
  refine cSi (n := 3) (As := [.long 2, .long 0, .long 2]) (rest := [.ref h0]) (wr := [(h0, .inr (6, [v0, .ref h1, v1, v2, v3, v4, v5, v6, v7, v8, v9, v10, v11, v12, v13, v14, v15, v16, v17, v18, v19, v20, v21, v22, v23, v24, v25])), (h1, .inl (a0, 609, .inr (.inl f0)))]) (tr := [(a0, .long)]) hx hb hml hown hg okN (cX6_in_149 l D) (mwS k1317 k1318 k92 k1319) ⟨rfl, by decide, by decide, by decide +kernel⟩ ⟨rfl, rfl, (Nat.le_of_ble_eq_true rfl), (Nat.le_of_ble_eq_true rfl)⟩ hP hD hK hS xn [] [] [0, 1] [] [0] rfl (by decide) rfl rfl (by decide) (by decide) rfl rfl (aNil hA hS) (aNil hA hS) rfl hl.1 rfl (Nat.le_of_ble_eq_true rfl) dX6_sets_6 ⟨(Nat.le_of_ble_eq_true rfl), (Nat.le_of_ble_eq_true rfl)⟩ (fun u H locs hφ hP hD hK hS hk => ?_)
  have hP : va_P D vwCl [(h0, .inr (6, [v0, .ref h1, v1, v2, v3, v4, v5, v6, v7, v8, v9, v10, v11, v12, v13, v14, v15, v16, v17, v18, v19, v20, v21, v22, v23, v24, v25])), (h1, .inl (a0, 609, .inr (.inl f0)))] H := hP
  have hD : va_D A [(h0, .inr (6, [v0, .ref h1, v1, v2, v3, v4, v5, v6, v7, v8, v9, v10, v11, v12, v13, v14, v15, v16, v17, v18, v19, v20, v21, v22, v23, v24, v25])), (h1, .inl (a0, 609, .inr (.inl f0)))] := hD
  have hK : va_K D vwCl [(a0, .long)] s := hK
  refine W.widen (k := 0) (n := 0) (Nat.le_of_ble_eq_true rfl) (Nat.le_of_ble_eq_true rfl) ?_
  refine lv_if_eq (tgt := 16) hx hb dX6_sets_9 (by decide) (fun c9 => absurd c9 (by decide)) (fun _ => ?_)
  refine lv_iconst (v := 0) hx hb dX6_sets_12 (by decide) ?_
  refine lv_goto (tgt := 17) hx hb dX6_sets_13 (by decide) ?_
  refine va_put (D := D) (ci := 6) (v := .int 0) (ty := .int) (C := RX6) (T := TX6) (N := 27) hx hb hg inX6 tyX6 tyX6_ok nmX6 hown hK hP hD hS 0 rfl rfl 0 (by decide) (hg _ k1219) (fun _ h9 => h9) rfl (by decide +kernel) rfl rfl (Nat.le_of_ble_eq_true rfl) dX6_sets_17 (fun H locs hP hD hS => ?_)
  have hP : va_P D vwCl [(h0, .inr (6, [.int 0, .ref h1, v1, v2, v3, v4, v5, v6, v7, v8, v9, v10, v11, v12, v13, v14, v15, v16, v17, v18, v19, v20, v21, v22, v23, v24, v25])), (h1, .inl (a0, 609, .inr (.inl f0)))] H := hP
  have hD : va_D A [(h0, .inr (6, [.int 0, .ref h1, v1, v2, v3, v4, v5, v6, v7, v8, v9, v10, v11, v12, v13, v14, v15, v16, v17, v18, v19, v20, v21, v22, v23, v24, v25])), (h1, .inl (a0, 609, .inr (.inl f0)))] := hD
  refine lv_aload_n hx hb dX6_sets_20 rfl (lv_at hl 0 rfl) ?_
  refine va_get (D := D) (ci := 6) (v := .ref h1) (C := RX6) (T := TX6) (N := 27) hx hb hg inX6 hown hK hP 0 rfl rfl 1 (by decide) (hg _ k1220) (fun _ h9 => h9) rfl dX6_sets_21 ?_
  refine lv_iload_n hx hb dX6_sets_24 rfl (lv_at hl 1 rfl) ?_
  refine aldL hx hb hK hP 1 0 rfl rfl 1 (by decide) (vin (by decide)) (v := 2) ef0_1 dX6_sets_25 ?_
  refine lv_l2i (v := 2) hx hb dX6_sets_26 (by decide) ?_
  refine lv_istore (lv' := [(4, .int 2), (0, .ref h0), (1, .int 1), (2, .int 2), (3, .int 2)]) hx hb dX6_sets_27 hl (by decide) rfl (fun ls hl => ?_)
  refine lv_aload_n hx hb dX6_sets_29 rfl (lv_at hl 1 rfl) ?_
  refine va_get (D := D) (ci := 6) (v := .int 0) (C := RX6) (T := TX6) (N := 27) hx hb hg inX6 hown hK hP 0 rfl rfl 0 (by decide) (hg _ k1219) (fun _ h9 => h9) rfl dX6_sets_30 ?_
  refine lv_if_ne (tgt := 44) hx hb dX6_sets_33 (by decide) (fun c9 => absurd (by decide) c9) (fun _ => ?_)
  refine lv_aload_n hx hb dX6_sets_36 rfl (lv_at hl 1 rfl) ?_
  refine va_get (D := D) (ci := 6) (v := .ref h1) (C := RX6) (T := TX6) (N := 27) hx hb hg inX6 hown hK hP 0 rfl rfl 1 (by decide) (hg _ k1220) (fun _ h9 => h9) rfl dX6_sets_37 ?_
  refine lv_iload_n hx hb dX6_sets_40 rfl (lv_at hl 2 rfl) ?_
  refine lv_iload_n hx hb dX6_sets_41 rfl (lv_at hl 3 rfl) ?_
  refine lv_i2l (v := 2) hx hb dX6_sets_42 (by decide) ?_
  refine astL hx hb hK hP hD hS 1 0 rfl rfl 1 (by decide) (vin (by decide)) dX6_sets_43 (fun H locs hP hD hS => ?_)
  have hP : va_P D vwCl [(h0, .inr (6, [.int 0, .ref h1, v1, v2, v3, v4, v5, v6, v7, v8, v9, v10, v11, v12, v13, v14, v15, v16, v17, v18, v19, v20, v21, v22, v23, v24, v25])), (h1, .inl (a0, 609, .inr (.inl (vp_updL f0 1 2))))] H := hP
  have hD : va_D A [(h0, .inr (6, [.int 0, .ref h1, v1, v2, v3, v4, v5, v6, v7, v8, v9, v10, v11, v12, v13, v14, v15, v16, v17, v18, v19, v20, v21, v22, v23, v24, v25])), (h1, .inl (a0, 609, .inr (.inl (vp_updL f0 1 2))))] := hD
  refine lv_iload hx hb dX6_sets_44 (lv_at hl 0 rfl) ?_
  exact fi hx hb hr hlocks hP hD hK hS (()) trivial rfl [0, 1] [0] rfl (by decide) rfl (Nat.le_of_ble_eq_true rfl) (Nat.le_of_ble_eq_true rfl) dX6_sets_46
set_option maxHeartbeats 4000000 in
set_option maxRecDepth 100000 in
theorem cX6_setPredict_159 (l : Launch) (D : va_G) (h0 : Nat) (h1 : Nat) (v0 : Value) (v1 : Value) (v2 : Value) (v3 : Value) (v4 : Value) (v5 : Value) (v6 : Value) (v7 : Value) (v8 : Value) (v9 : Value) (v10 : Value) (v11 : Value) (v12 : Value) (v13 : Value) (v14 : Value) (v15 : Value) (v16 : Value) (v17 : Value) (v18 : Value) (v19 : Value) (v20 : Value) (v21 : Value) (v22 : Value) (v23 : Value) (v24 : Value) (v25 : Value) (f0 : Nat → Int64) (a0 : ClassId) (ef0_1 : f0 1 = 2)  : CT l yX6_setPredict cX6_setPredict 2 (some .int) { frames := 2, cells := 0, slots := 0, locals := 49 } [.ref h0, .int 2] D [(h0, .inr (6, [v0, .ref h1, v1, v2, v3, v4, v5, v6, v7, v8, v9, v10, v11, v12, v13, v14, v15, v16, v17, v18, v19, v20, v21, v22, v23, v24, v25])), (h1, .inl (a0, 609, .inr (.inl f0)))] [(a0, .long)] XN [(h0, .inr (6, [v0, .ref h1, v1, v2, v3, v4, v5, v6, v7, v8, v9, v10, v11, v12, v13, v14, v15, v16, v17, v18, v19, v20, v21, v22, v23, v24, v25])), (h1, .inl (a0, 609, .inr (.inl f0)))] (ei (fun _ : Unit => True) (fun u => 2) (fun _ => [(h0, .inr (6, [.int 0, .ref h1, v1, v2, v3, v4, v5, v6, v7, v8, v9, v10, v11, v12, v13, v14, v15, v16, v17, v18, v19, v20, v21, v22, v23, v24, v25])), (h1, .inl (a0, 609, .inr (.inl (vp_updL f0 1 2))))]) (fun u => [(a0, .long)]) D) 0 0 := by
  refine CT.ofW (by decide +kernel) (Nat.le_of_ble_eq_true rfl) ?_
  intro p e s m below meth c A ls hcs hP hK hD hX hA hS hl
  obtain ⟨hx, hb, hr, hml, hown, hg, hlocks, hin⟩ := hcs
  have hown : s.vm.findClass RX6 = some m.cls := hown
  have hl : lv_has ls 2 [(0, .ref h0), (1, .int 2)] := hl
  refine lv_aload_n hx hb dX6_setPredict_0 rfl (lv_at hl 0 rfl) ?_
  refine lv_iconst (v := 1) hx hb dX6_setPredict_1 (by decide) ?_
  refine lv_iload_n hx hb dX6_setPredict_2 rfl (lv_at hl 1 rfl) ?_
  refine lv_iconst (v := 2) hx hb dX6_setPredict_3 (by decide) ?_
  refine cVi (n := 3) (As := [.int 1, .int 2, .int 2]) (rest := []) (wr := []) (tr := []) hx hb hml hown hg okN (cX6_sets_160 l D h0 h1 v0 v1 v2 v3 v4 v5 v6 v7 v8 v9 v10 v11 v12 v13 v14 v15 v16 v17 v18 v19 v20 v21 v22 v23 v24 v25 f0 a0 ef0_1) (mwV k1551 k1553 k69 k92 k1554) ⟨rfl, by decide, by decide, by decide +kernel⟩ ⟨rfl, rfl, (Nat.le_of_ble_eq_true rfl), (Nat.le_of_ble_eq_true rfl)⟩ hP hD hK hS xn [0, 1] [0, 1] [] [0] [] rfl (by decide) rfl rfl (by decide) (by decide) rfl rfl (va_free hD hS hA [0, 1] rfl) (va_free hD hS hA [0, 1] rfl) 0 rfl rfl rfl hl.1 rfl (Nat.le_of_ble_eq_true rfl) dX6_setPredict_4 ⟨(Nat.le_of_ble_eq_true rfl), (Nat.le_of_ble_eq_true rfl)⟩ (fun u H locs hφ hP hD hK hS hk => ?_)
  have hP : va_P D vwCl [(h0, .inr (6, [.int 0, .ref h1, v1, v2, v3, v4, v5, v6, v7, v8, v9, v10, v11, v12, v13, v14, v15, v16, v17, v18, v19, v20, v21, v22, v23, v24, v25])), (h1, .inl (a0, 609, .inr (.inl (vp_updL f0 1 2))))] H := hP
  have hD : va_D A [(h0, .inr (6, [.int 0, .ref h1, v1, v2, v3, v4, v5, v6, v7, v8, v9, v10, v11, v12, v13, v14, v15, v16, v17, v18, v19, v20, v21, v22, v23, v24, v25])), (h1, .inl (a0, 609, .inr (.inl (vp_updL f0 1 2))))] := hD
  have hK : va_K D vwCl [(a0, .long)] s := hK
  refine W.widen (k := 0) (n := 0) (Nat.le_of_ble_eq_true rfl) (Nat.le_of_ble_eq_true rfl) ?_
  exact fi hx hb hr hlocks hP hD hK hS (()) trivial rfl [0, 1] [0] rfl (by decide) rfl (Nat.le_of_ble_eq_true rfl) (Nat.le_of_ble_eq_true rfl) dX6_setPredict_7
set_option maxHeartbeats 4000000 in
set_option maxRecDepth 100000 in
theorem cX6_sets_162 (l : Launch) (D : va_G) (h0 : Nat) (x0 : Int32) (h1 : Nat) (v0 : Value) (v1 : Value) (v2 : Value) (v3 : Value) (v4 : Value) (v5 : Value) (v6 : Value) (v7 : Value) (v8 : Value) (v9 : Value) (v10 : Value) (v11 : Value) (v12 : Value) (v13 : Value) (v14 : Value) (v15 : Value) (v16 : Value) (v17 : Value) (v18 : Value) (v19 : Value) (v20 : Value) (v21 : Value) (v22 : Value) (v23 : Value) (v24 : Value) (v25 : Value) (f0 : Nat → Int64) (a0 : ClassId) (ef0_1 : f0 1 = 2) (d0 : ¬ ((lg_cmp x0.toInt64 0) < 0)) (d1 : 0 < (lg_cmp x0.toInt64 2)) : CT l yX6_sets cX6_sets 5 (some .int) { frames := 1, cells := 0, slots := 0, locals := 25 } [.ref h0, .int 1, .int x0, .int 2] D [(h0, .inr (6, [v0, .ref h1, v1, v2, v3, v4, v5, v6, v7, v8, v9, v10, v11, v12, v13, v14, v15, v16, v17, v18, v19, v20, v21, v22, v23, v24, v25])), (h1, .inl (a0, 609, .inr (.inl f0)))] [(a0, .long)] XN [(h0, .inr (6, [v0, .ref h1, v1, v2, v3, v4, v5, v6, v7, v8, v9, v10, v11, v12, v13, v14, v15, v16, v17, v18, v19, v20, v21, v22, v23, v24, v25])), (h1, .inl (a0, 609, .inr (.inl f0)))] (ei (fun _ : Unit => True) (fun u => 2) (fun _ => [(h0, .inr (6, [.int 1, .ref h1, v1, v2, v3, v4, v5, v6, v7, v8, v9, v10, v11, v12, v13, v14, v15, v16, v17, v18, v19, v20, v21, v22, v23, v24, v25])), (h1, .inl (a0, 609, .inr (.inl f0)))]) (fun u => [(a0, .long)]) D) 0 0 := by
  refine CT.ofW (by decide +kernel) (Nat.le_of_ble_eq_true rfl) ?_
  intro p e s m below meth c A ls hcs hP hK hD hX hA hS hl
  obtain ⟨hx, hb, hr, hml, hown, hg, hlocks, hin⟩ := hcs
  have hown : s.vm.findClass RX6 = some m.cls := hown
  have hl : lv_has ls 5 [(0, .ref h0), (1, .int 1), (2, .int x0), (3, .int 2)] := hl
  refine lv_aload_n hx hb dX6_sets_0 rfl (lv_at hl 0 rfl) ?_
  refine lv_iload_n hx hb dX6_sets_1 rfl (lv_at hl 2 rfl) ?_
  refine lv_i2l (v := x0.toInt64) hx hb dX6_sets_2 rfl ?_
  refine lv_lconst (v := 0) hx hb dX6_sets_3 (by decide) ?_
  refine lv_iload_n hx hb dX6_sets_4 rfl (lv_at hl 3 rfl) ?_
  refine lv_i2l (v := 2) hx hb dX6_sets_5 (by decide) ?_
  refine cSi (n := 3) (As := [.long x0.toInt64, .long 0, .long 2]) (rest := [.ref h0]) (wr := [(h0, .inr (6, [v0, .ref h1, v1, v2, v3, v4, v5, v6, v7, v8, v9, v10, v11, v12, v13, v14, v15, v16, v17, v18, v19, v20, v21, v22, v23, v24, v25])), (h1, .inl (a0, 609, .inr (.inl f0)))]) (tr := [(a0, .long)]) hx hb hml hown hg okN (cX6_in_152 l D x0 d0 d1) (mwS k1317 k1318 k92 k1319) ⟨rfl, by decide, by decide, by decide +kernel⟩ ⟨rfl, rfl, (Nat.le_of_ble_eq_true rfl), (Nat.le_of_ble_eq_true rfl)⟩ hP hD hK hS xn [] [] [0, 1] [] [0] rfl (by decide) rfl rfl (by decide) (by decide) rfl rfl (aNil hA hS) (aNil hA hS) rfl hl.1 rfl (Nat.le_of_ble_eq_true rfl) dX6_sets_6 ⟨(Nat.le_of_ble_eq_true rfl), (Nat.le_of_ble_eq_true rfl)⟩ (fun u H locs hφ hP hD hK hS hk => ?_)
  have hP : va_P D vwCl [(h0, .inr (6, [v0, .ref h1, v1, v2, v3, v4, v5, v6, v7, v8, v9, v10, v11, v12, v13, v14, v15, v16, v17, v18, v19, v20, v21, v22, v23, v24, v25])), (h1, .inl (a0, 609, .inr (.inl f0)))] H := hP
  have hD : va_D A [(h0, .inr (6, [v0, .ref h1, v1, v2, v3, v4, v5, v6, v7, v8, v9, v10, v11, v12, v13, v14, v15, v16, v17, v18, v19, v20, v21, v22, v23, v24, v25])), (h1, .inl (a0, 609, .inr (.inl f0)))] := hD
  have hK : va_K D vwCl [(a0, .long)] s := hK
  refine W.widen (k := 0) (n := 0) (Nat.le_of_ble_eq_true rfl) (Nat.le_of_ble_eq_true rfl) ?_
  refine lv_if_eq (tgt := 16) hx hb dX6_sets_9 (by decide) (fun _ => ?_) (fun c9 => absurd (by decide) c9)
  refine lv_iconst (v := 1) hx hb dX6_sets_16 (by decide) ?_
  refine va_put (D := D) (ci := 6) (v := .int 1) (ty := .int) (C := RX6) (T := TX6) (N := 27) hx hb hg inX6 tyX6 tyX6_ok nmX6 hown hK hP hD hS 0 rfl rfl 0 (by decide) (hg _ k1219) (fun _ h9 => h9) rfl (by decide +kernel) rfl rfl (Nat.le_of_ble_eq_true rfl) dX6_sets_17 (fun H locs hP hD hS => ?_)
  have hP : va_P D vwCl [(h0, .inr (6, [.int 1, .ref h1, v1, v2, v3, v4, v5, v6, v7, v8, v9, v10, v11, v12, v13, v14, v15, v16, v17, v18, v19, v20, v21, v22, v23, v24, v25])), (h1, .inl (a0, 609, .inr (.inl f0)))] H := hP
  have hD : va_D A [(h0, .inr (6, [.int 1, .ref h1, v1, v2, v3, v4, v5, v6, v7, v8, v9, v10, v11, v12, v13, v14, v15, v16, v17, v18, v19, v20, v21, v22, v23, v24, v25])), (h1, .inl (a0, 609, .inr (.inl f0)))] := hD
  refine lv_aload_n hx hb dX6_sets_20 rfl (lv_at hl 0 rfl) ?_
  refine va_get (D := D) (ci := 6) (v := .ref h1) (C := RX6) (T := TX6) (N := 27) hx hb hg inX6 hown hK hP 0 rfl rfl 1 (by decide) (hg _ k1220) (fun _ h9 => h9) rfl dX6_sets_21 ?_
  refine lv_iload_n hx hb dX6_sets_24 rfl (lv_at hl 1 rfl) ?_
  refine aldL hx hb hK hP 1 0 rfl rfl 1 (by decide) (vin (by decide)) (v := 2) ef0_1 dX6_sets_25 ?_
  refine lv_l2i (v := 2) hx hb dX6_sets_26 (by decide) ?_
  refine lv_istore (lv' := [(4, .int 2), (0, .ref h0), (1, .int 1), (2, .int x0), (3, .int 2)]) hx hb dX6_sets_27 hl (by decide) rfl (fun ls hl => ?_)
  refine lv_aload_n hx hb dX6_sets_29 rfl (lv_at hl 1 rfl) ?_
  refine va_get (D := D) (ci := 6) (v := .int 1) (C := RX6) (T := TX6) (N := 27) hx hb hg inX6 hown hK hP 0 rfl rfl 0 (by decide) (hg _ k1219) (fun _ h9 => h9) rfl dX6_sets_30 ?_
  refine lv_if_ne (tgt := 44) hx hb dX6_sets_33 (by decide) (fun _ => ?_) (fun c9 => absurd c9 (by decide))
  refine lv_iload hx hb dX6_sets_44 (lv_at hl 0 rfl) ?_
  exact fi hx hb hr hlocks hP hD hK hS (()) trivial rfl [0, 1] [0] rfl (by decide) rfl (Nat.le_of_ble_eq_true rfl) (Nat.le_of_ble_eq_true rfl) dX6_sets_46
set_option maxHeartbeats 4000000 in
set_option maxRecDepth 100000 in
theorem cX6_setPredict_161 (l : Launch) (D : va_G) (h0 : Nat) (x0 : Int32) (h1 : Nat) (v0 : Value) (v1 : Value) (v2 : Value) (v3 : Value) (v4 : Value) (v5 : Value) (v6 : Value) (v7 : Value) (v8 : Value) (v9 : Value) (v10 : Value) (v11 : Value) (v12 : Value) (v13 : Value) (v14 : Value) (v15 : Value) (v16 : Value) (v17 : Value) (v18 : Value) (v19 : Value) (v20 : Value) (v21 : Value) (v22 : Value) (v23 : Value) (v24 : Value) (v25 : Value) (f0 : Nat → Int64) (a0 : ClassId) (ef0_1 : f0 1 = 2) (d0 : ¬ ((lg_cmp x0.toInt64 0) < 0)) (d1 : 0 < (lg_cmp x0.toInt64 2)) : CT l yX6_setPredict cX6_setPredict 2 (some .int) { frames := 2, cells := 0, slots := 0, locals := 49 } [.ref h0, .int x0] D [(h0, .inr (6, [v0, .ref h1, v1, v2, v3, v4, v5, v6, v7, v8, v9, v10, v11, v12, v13, v14, v15, v16, v17, v18, v19, v20, v21, v22, v23, v24, v25])), (h1, .inl (a0, 609, .inr (.inl f0)))] [(a0, .long)] XN [(h0, .inr (6, [v0, .ref h1, v1, v2, v3, v4, v5, v6, v7, v8, v9, v10, v11, v12, v13, v14, v15, v16, v17, v18, v19, v20, v21, v22, v23, v24, v25])), (h1, .inl (a0, 609, .inr (.inl f0)))] (ei (fun _ : Unit => True) (fun u => 2) (fun _ => [(h0, .inr (6, [.int 1, .ref h1, v1, v2, v3, v4, v5, v6, v7, v8, v9, v10, v11, v12, v13, v14, v15, v16, v17, v18, v19, v20, v21, v22, v23, v24, v25])), (h1, .inl (a0, 609, .inr (.inl f0)))]) (fun u => [(a0, .long)]) D) 0 0 := by
  refine CT.ofW (by decide +kernel) (Nat.le_of_ble_eq_true rfl) ?_
  intro p e s m below meth c A ls hcs hP hK hD hX hA hS hl
  obtain ⟨hx, hb, hr, hml, hown, hg, hlocks, hin⟩ := hcs
  have hown : s.vm.findClass RX6 = some m.cls := hown
  have hl : lv_has ls 2 [(0, .ref h0), (1, .int x0)] := hl
  refine lv_aload_n hx hb dX6_setPredict_0 rfl (lv_at hl 0 rfl) ?_
  refine lv_iconst (v := 1) hx hb dX6_setPredict_1 (by decide) ?_
  refine lv_iload_n hx hb dX6_setPredict_2 rfl (lv_at hl 1 rfl) ?_
  refine lv_iconst (v := 2) hx hb dX6_setPredict_3 (by decide) ?_
  refine cVi (n := 3) (As := [.int 1, .int x0, .int 2]) (rest := []) (wr := []) (tr := []) hx hb hml hown hg okN (cX6_sets_162 l D h0 x0 h1 v0 v1 v2 v3 v4 v5 v6 v7 v8 v9 v10 v11 v12 v13 v14 v15 v16 v17 v18 v19 v20 v21 v22 v23 v24 v25 f0 a0 ef0_1 d0 d1) (mwV k1551 k1553 k69 k92 k1554) ⟨rfl, by decide, by decide, by decide +kernel⟩ ⟨rfl, rfl, (Nat.le_of_ble_eq_true rfl), (Nat.le_of_ble_eq_true rfl)⟩ hP hD hK hS xn [0, 1] [0, 1] [] [0] [] rfl (by decide) rfl rfl (by decide) (by decide) rfl rfl (va_free hD hS hA [0, 1] rfl) (va_free hD hS hA [0, 1] rfl) 0 rfl rfl rfl hl.1 rfl (Nat.le_of_ble_eq_true rfl) dX6_setPredict_4 ⟨(Nat.le_of_ble_eq_true rfl), (Nat.le_of_ble_eq_true rfl)⟩ (fun u H locs hφ hP hD hK hS hk => ?_)
  have hP : va_P D vwCl [(h0, .inr (6, [.int 1, .ref h1, v1, v2, v3, v4, v5, v6, v7, v8, v9, v10, v11, v12, v13, v14, v15, v16, v17, v18, v19, v20, v21, v22, v23, v24, v25])), (h1, .inl (a0, 609, .inr (.inl f0)))] H := hP
  have hD : va_D A [(h0, .inr (6, [.int 1, .ref h1, v1, v2, v3, v4, v5, v6, v7, v8, v9, v10, v11, v12, v13, v14, v15, v16, v17, v18, v19, v20, v21, v22, v23, v24, v25])), (h1, .inl (a0, 609, .inr (.inl f0)))] := hD
  have hK : va_K D vwCl [(a0, .long)] s := hK
  refine W.widen (k := 0) (n := 0) (Nat.le_of_ble_eq_true rfl) (Nat.le_of_ble_eq_true rfl) ?_
  exact fi hx hb hr hlocks hP hD hK hS (()) trivial rfl [0, 1] [0] rfl (by decide) rfl (Nat.le_of_ble_eq_true rfl) (Nat.le_of_ble_eq_true rfl) dX6_setPredict_7
set_option maxHeartbeats 4000000 in
set_option maxRecDepth 100000 in
theorem cX6_sets_164 (l : Launch) (D : va_G) (h0 : Nat) (h1 : Nat) (v0 : Value) (v1 : Value) (v2 : Value) (v3 : Value) (v4 : Value) (v5 : Value) (v6 : Value) (v7 : Value) (v8 : Value) (v9 : Value) (v10 : Value) (v11 : Value) (v12 : Value) (v13 : Value) (v14 : Value) (v15 : Value) (v16 : Value) (v17 : Value) (v18 : Value) (v19 : Value) (v20 : Value) (v21 : Value) (v22 : Value) (v23 : Value) (v24 : Value) (v25 : Value) (f0 : Nat → Int64) (a0 : ClassId) (ef0_2 : f0 2 = 1)  : CT l yX6_sets cX6_sets 5 (some .int) { frames := 1, cells := 0, slots := 0, locals := 25 } [.ref h0, .int 2, .int 0, .int 1] D [(h0, .inr (6, [v0, .ref h1, v1, v2, v3, v4, v5, v6, v7, v8, v9, v10, v11, v12, v13, v14, v15, v16, v17, v18, v19, v20, v21, v22, v23, v24, v25])), (h1, .inl (a0, 609, .inr (.inl f0)))] [(a0, .long)] XN [(h0, .inr (6, [v0, .ref h1, v1, v2, v3, v4, v5, v6, v7, v8, v9, v10, v11, v12, v13, v14, v15, v16, v17, v18, v19, v20, v21, v22, v23, v24, v25])), (h1, .inl (a0, 609, .inr (.inl f0)))] (ei (fun _ : Unit => True) (fun u => 1) (fun _ => [(h0, .inr (6, [.int 0, .ref h1, v1, v2, v3, v4, v5, v6, v7, v8, v9, v10, v11, v12, v13, v14, v15, v16, v17, v18, v19, v20, v21, v22, v23, v24, v25])), (h1, .inl (a0, 609, .inr (.inl (vp_updL f0 2 0))))]) (fun u => [(a0, .long)]) D) 0 0 := by
  refine CT.ofW (by decide +kernel) (Nat.le_of_ble_eq_true rfl) ?_
  intro p e s m below meth c A ls hcs hP hK hD hX hA hS hl
  obtain ⟨hx, hb, hr, hml, hown, hg, hlocks, hin⟩ := hcs
  have hown : s.vm.findClass RX6 = some m.cls := hown
  have hl : lv_has ls 5 [(0, .ref h0), (1, .int 2), (2, .int 0), (3, .int 1)] := hl
  refine lv_aload_n hx hb dX6_sets_0 rfl (lv_at hl 0 rfl) ?_
  refine lv_iload_n hx hb dX6_sets_1 rfl (lv_at hl 2 rfl) ?_
  refine lv_i2l (v := 0) hx hb dX6_sets_2 (by decide) ?_
  refine lv_lconst (v := 0) hx hb dX6_sets_3 (by decide) ?_
  refine lv_iload_n hx hb dX6_sets_4 rfl (lv_at hl 3 rfl) ?_
  refine lv_i2l (v := 1) hx hb dX6_sets_5 (by decide) ?_
  refine cSi (n := 3) (As := [.long 0, .long 0, .long 1]) (rest := [.ref h0]) (wr := [(h0, .inr (6, [v0, .ref h1, v1, v2, v3, v4, v5, v6, v7, v8, v9, v10, v11, v12, v13, v14, v15, v16, v17, v18, v19, v20, v21, v22, v23, v24, v25])), (h1, .inl (a0, 609, .inr (.inl f0)))]) (tr := [(a0, .long)]) hx hb hml hown hg okN (cX6_in_64 l D) (mwS k1317 k1318 k92 k1319) ⟨rfl, by decide, by decide, by decide +kernel⟩ ⟨rfl, rfl, (Nat.le_of_ble_eq_true rfl), (Nat.le_of_ble_eq_true rfl)⟩ hP hD hK hS xn [] [] [0, 1] [] [0] rfl (by decide) rfl rfl (by decide) (by decide) rfl rfl (aNil hA hS) (aNil hA hS) rfl hl.1 rfl (Nat.le_of_ble_eq_true rfl) dX6_sets_6 ⟨(Nat.le_of_ble_eq_true rfl), (Nat.le_of_ble_eq_true rfl)⟩ (fun u H locs hφ hP hD hK hS hk => ?_)
  have hP : va_P D vwCl [(h0, .inr (6, [v0, .ref h1, v1, v2, v3, v4, v5, v6, v7, v8, v9, v10, v11, v12, v13, v14, v15, v16, v17, v18, v19, v20, v21, v22, v23, v24, v25])), (h1, .inl (a0, 609, .inr (.inl f0)))] H := hP
  have hD : va_D A [(h0, .inr (6, [v0, .ref h1, v1, v2, v3, v4, v5, v6, v7, v8, v9, v10, v11, v12, v13, v14, v15, v16, v17, v18, v19, v20, v21, v22, v23, v24, v25])), (h1, .inl (a0, 609, .inr (.inl f0)))] := hD
  have hK : va_K D vwCl [(a0, .long)] s := hK
  refine W.widen (k := 0) (n := 0) (Nat.le_of_ble_eq_true rfl) (Nat.le_of_ble_eq_true rfl) ?_
  refine lv_if_eq (tgt := 16) hx hb dX6_sets_9 (by decide) (fun c9 => absurd c9 (by decide)) (fun _ => ?_)
  refine lv_iconst (v := 0) hx hb dX6_sets_12 (by decide) ?_
  refine lv_goto (tgt := 17) hx hb dX6_sets_13 (by decide) ?_
  refine va_put (D := D) (ci := 6) (v := .int 0) (ty := .int) (C := RX6) (T := TX6) (N := 27) hx hb hg inX6 tyX6 tyX6_ok nmX6 hown hK hP hD hS 0 rfl rfl 0 (by decide) (hg _ k1219) (fun _ h9 => h9) rfl (by decide +kernel) rfl rfl (Nat.le_of_ble_eq_true rfl) dX6_sets_17 (fun H locs hP hD hS => ?_)
  have hP : va_P D vwCl [(h0, .inr (6, [.int 0, .ref h1, v1, v2, v3, v4, v5, v6, v7, v8, v9, v10, v11, v12, v13, v14, v15, v16, v17, v18, v19, v20, v21, v22, v23, v24, v25])), (h1, .inl (a0, 609, .inr (.inl f0)))] H := hP
  have hD : va_D A [(h0, .inr (6, [.int 0, .ref h1, v1, v2, v3, v4, v5, v6, v7, v8, v9, v10, v11, v12, v13, v14, v15, v16, v17, v18, v19, v20, v21, v22, v23, v24, v25])), (h1, .inl (a0, 609, .inr (.inl f0)))] := hD
  refine lv_aload_n hx hb dX6_sets_20 rfl (lv_at hl 0 rfl) ?_
  refine va_get (D := D) (ci := 6) (v := .ref h1) (C := RX6) (T := TX6) (N := 27) hx hb hg inX6 hown hK hP 0 rfl rfl 1 (by decide) (hg _ k1220) (fun _ h9 => h9) rfl dX6_sets_21 ?_
  refine lv_iload_n hx hb dX6_sets_24 rfl (lv_at hl 1 rfl) ?_
  refine aldL hx hb hK hP 1 0 rfl rfl 2 (by decide) (vin (by decide)) (v := 1) ef0_2 dX6_sets_25 ?_
  refine lv_l2i (v := 1) hx hb dX6_sets_26 (by decide) ?_
  refine lv_istore (lv' := [(4, .int 1), (0, .ref h0), (1, .int 2), (2, .int 0), (3, .int 1)]) hx hb dX6_sets_27 hl (by decide) rfl (fun ls hl => ?_)
  refine lv_aload_n hx hb dX6_sets_29 rfl (lv_at hl 1 rfl) ?_
  refine va_get (D := D) (ci := 6) (v := .int 0) (C := RX6) (T := TX6) (N := 27) hx hb hg inX6 hown hK hP 0 rfl rfl 0 (by decide) (hg _ k1219) (fun _ h9 => h9) rfl dX6_sets_30 ?_
  refine lv_if_ne (tgt := 44) hx hb dX6_sets_33 (by decide) (fun c9 => absurd (by decide) c9) (fun _ => ?_)
  refine lv_aload_n hx hb dX6_sets_36 rfl (lv_at hl 1 rfl) ?_
  refine va_get (D := D) (ci := 6) (v := .ref h1) (C := RX6) (T := TX6) (N := 27) hx hb hg inX6 hown hK hP 0 rfl rfl 1 (by decide) (hg _ k1220) (fun _ h9 => h9) rfl dX6_sets_37 ?_
  refine lv_iload_n hx hb dX6_sets_40 rfl (lv_at hl 2 rfl) ?_
  refine lv_iload_n hx hb dX6_sets_41 rfl (lv_at hl 3 rfl) ?_
  refine lv_i2l (v := 0) hx hb dX6_sets_42 (by decide) ?_
  refine astL hx hb hK hP hD hS 1 0 rfl rfl 2 (by decide) (vin (by decide)) dX6_sets_43 (fun H locs hP hD hS => ?_)
  have hP : va_P D vwCl [(h0, .inr (6, [.int 0, .ref h1, v1, v2, v3, v4, v5, v6, v7, v8, v9, v10, v11, v12, v13, v14, v15, v16, v17, v18, v19, v20, v21, v22, v23, v24, v25])), (h1, .inl (a0, 609, .inr (.inl (vp_updL f0 2 0))))] H := hP
  have hD : va_D A [(h0, .inr (6, [.int 0, .ref h1, v1, v2, v3, v4, v5, v6, v7, v8, v9, v10, v11, v12, v13, v14, v15, v16, v17, v18, v19, v20, v21, v22, v23, v24, v25])), (h1, .inl (a0, 609, .inr (.inl (vp_updL f0 2 0))))] := hD
  refine lv_iload hx hb dX6_sets_44 (lv_at hl 0 rfl) ?_
  exact fi hx hb hr hlocks hP hD hK hS (()) trivial rfl [0, 1] [0] rfl (by decide) rfl (Nat.le_of_ble_eq_true rfl) (Nat.le_of_ble_eq_true rfl) dX6_sets_46
set_option maxHeartbeats 4000000 in
set_option maxRecDepth 100000 in
theorem cX6_setUpdate_163 (l : Launch) (D : va_G) (h0 : Nat) (h1 : Nat) (v0 : Value) (v1 : Value) (v2 : Value) (v3 : Value) (v4 : Value) (v5 : Value) (v6 : Value) (v7 : Value) (v8 : Value) (v9 : Value) (v10 : Value) (v11 : Value) (v12 : Value) (v13 : Value) (v14 : Value) (v15 : Value) (v16 : Value) (v17 : Value) (v18 : Value) (v19 : Value) (v20 : Value) (v21 : Value) (v22 : Value) (v23 : Value) (v24 : Value) (v25 : Value) (f0 : Nat → Int64) (a0 : ClassId) (ef0_2 : f0 2 = 1)  : CT l yX6_setUpdate cX6_setUpdate 2 (some .boolean) { frames := 2, cells := 0, slots := 0, locals := 49 } [.ref h0, .int 0] D [(h0, .inr (6, [v0, .ref h1, v1, v2, v3, v4, v5, v6, v7, v8, v9, v10, v11, v12, v13, v14, v15, v16, v17, v18, v19, v20, v21, v22, v23, v24, v25])), (h1, .inl (a0, 609, .inr (.inl f0)))] [(a0, .long)] XN [(h0, .inr (6, [v0, .ref h1, v1, v2, v3, v4, v5, v6, v7, v8, v9, v10, v11, v12, v13, v14, v15, v16, v17, v18, v19, v20, v21, v22, v23, v24, v25])), (h1, .inl (a0, 609, .inr (.inl f0)))] (ei (fun _ : Unit => True) (fun u => 1) (fun _ => [(h0, .inr (6, [.int 0, .ref h1, v1, v2, v3, v4, v5, v6, v7, v8, v9, v10, v11, v12, v13, v14, v15, v16, v17, v18, v19, v20, v21, v22, v23, v24, v25])), (h1, .inl (a0, 609, .inr (.inl (vp_updL f0 2 0))))]) (fun u => [(a0, .long)]) D) 0 0 := by
  refine CT.ofW (by decide +kernel) (Nat.le_of_ble_eq_true rfl) ?_
  intro p e s m below meth c A ls hcs hP hK hD hX hA hS hl
  obtain ⟨hx, hb, hr, hml, hown, hg, hlocks, hin⟩ := hcs
  have hown : s.vm.findClass RX6 = some m.cls := hown
  have hl : lv_has ls 2 [(0, .ref h0), (1, .int 0)] := hl
  refine lv_aload_n hx hb dX6_setUpdate_0 rfl (lv_at hl 0 rfl) ?_
  refine lv_iconst (v := 2) hx hb dX6_setUpdate_1 (by decide) ?_
  refine lv_iload_n hx hb dX6_setUpdate_2 rfl (lv_at hl 1 rfl) ?_
  refine lv_if_eq (tgt := 10) hx hb dX6_setUpdate_3 (by decide) (fun _ => ?_) (fun c9 => absurd (by decide) c9)
  refine lv_iconst (v := 0) hx hb dX6_setUpdate_10 (by decide) ?_
  refine lv_iconst (v := 1) hx hb dX6_setUpdate_11 (by decide) ?_
  refine cVi (n := 3) (As := [.int 2, .int 0, .int 1]) (rest := []) (wr := []) (tr := []) hx hb hml hown hg okN (cX6_sets_164 l D h0 h1 v0 v1 v2 v3 v4 v5 v6 v7 v8 v9 v10 v11 v12 v13 v14 v15 v16 v17 v18 v19 v20 v21 v22 v23 v24 v25 f0 a0 ef0_2) (mwV k1551 k1553 k69 k92 k1554) ⟨rfl, by decide, by decide, by decide +kernel⟩ ⟨rfl, rfl, (Nat.le_of_ble_eq_true rfl), (Nat.le_of_ble_eq_true rfl)⟩ hP hD hK hS xn [0, 1] [0, 1] [] [0] [] rfl (by decide) rfl rfl (by decide) (by decide) rfl rfl (va_free hD hS hA [0, 1] rfl) (va_free hD hS hA [0, 1] rfl) 0 rfl rfl rfl hl.1 rfl (Nat.le_of_ble_eq_true rfl) dX6_setUpdate_12 ⟨(Nat.le_of_ble_eq_true rfl), (Nat.le_of_ble_eq_true rfl)⟩ (fun u H locs hφ hP hD hK hS hk => ?_)
  have hP : va_P D vwCl [(h0, .inr (6, [.int 0, .ref h1, v1, v2, v3, v4, v5, v6, v7, v8, v9, v10, v11, v12, v13, v14, v15, v16, v17, v18, v19, v20, v21, v22, v23, v24, v25])), (h1, .inl (a0, 609, .inr (.inl (vp_updL f0 2 0))))] H := hP
  have hD : va_D A [(h0, .inr (6, [.int 0, .ref h1, v1, v2, v3, v4, v5, v6, v7, v8, v9, v10, v11, v12, v13, v14, v15, v16, v17, v18, v19, v20, v21, v22, v23, v24, v25])), (h1, .inl (a0, 609, .inr (.inl (vp_updL f0 2 0))))] := hD
  have hK : va_K D vwCl [(a0, .long)] s := hK
  refine W.widen (k := 0) (n := 0) (Nat.le_of_ble_eq_true rfl) (Nat.le_of_ble_eq_true rfl) ?_
  refine lv_iconst (v := 1) hx hb dX6_setUpdate_15 (by decide) ?_
  refine lv_icmp_ne (tgt := 23) hx hb dX6_setUpdate_16 (by decide) (fun c9 => absurd (by decide) c9) (fun _ => ?_)
  refine lv_iconst (v := 1) hx hb dX6_setUpdate_19 (by decide) ?_
  refine lv_goto (tgt := 24) hx hb dX6_setUpdate_20 (by decide) ?_
  exact fz hx hb hr rfl hlocks hP hD hK hS (()) trivial rfl [0, 1] [0] rfl (by decide) rfl (Nat.le_of_ble_eq_true rfl) (Nat.le_of_ble_eq_true rfl) dX6_setUpdate_24
set_option maxHeartbeats 4000000 in
set_option maxRecDepth 100000 in
theorem cX6_sets_166 (l : Launch) (D : va_G) (h0 : Nat) (h1 : Nat) (v0 : Value) (v1 : Value) (v2 : Value) (v3 : Value) (v4 : Value) (v5 : Value) (v6 : Value) (v7 : Value) (v8 : Value) (v9 : Value) (v10 : Value) (v11 : Value) (v12 : Value) (v13 : Value) (v14 : Value) (v15 : Value) (v16 : Value) (v17 : Value) (v18 : Value) (v19 : Value) (v20 : Value) (v21 : Value) (v22 : Value) (v23 : Value) (v24 : Value) (v25 : Value) (f0 : Nat → Int64) (a0 : ClassId) (ef0_2 : f0 2 = 1)  : CT l yX6_sets cX6_sets 5 (some .int) { frames := 1, cells := 0, slots := 0, locals := 25 } [.ref h0, .int 2, .int 1, .int 1] D [(h0, .inr (6, [v0, .ref h1, v1, v2, v3, v4, v5, v6, v7, v8, v9, v10, v11, v12, v13, v14, v15, v16, v17, v18, v19, v20, v21, v22, v23, v24, v25])), (h1, .inl (a0, 609, .inr (.inl f0)))] [(a0, .long)] XN [(h0, .inr (6, [v0, .ref h1, v1, v2, v3, v4, v5, v6, v7, v8, v9, v10, v11, v12, v13, v14, v15, v16, v17, v18, v19, v20, v21, v22, v23, v24, v25])), (h1, .inl (a0, 609, .inr (.inl f0)))] (ei (fun _ : Unit => True) (fun u => 1) (fun _ => [(h0, .inr (6, [.int 0, .ref h1, v1, v2, v3, v4, v5, v6, v7, v8, v9, v10, v11, v12, v13, v14, v15, v16, v17, v18, v19, v20, v21, v22, v23, v24, v25])), (h1, .inl (a0, 609, .inr (.inl (vp_updL f0 2 1))))]) (fun u => [(a0, .long)]) D) 0 0 := by
  refine CT.ofW (by decide +kernel) (Nat.le_of_ble_eq_true rfl) ?_
  intro p e s m below meth c A ls hcs hP hK hD hX hA hS hl
  obtain ⟨hx, hb, hr, hml, hown, hg, hlocks, hin⟩ := hcs
  have hown : s.vm.findClass RX6 = some m.cls := hown
  have hl : lv_has ls 5 [(0, .ref h0), (1, .int 2), (2, .int 1), (3, .int 1)] := hl
  refine lv_aload_n hx hb dX6_sets_0 rfl (lv_at hl 0 rfl) ?_
  refine lv_iload_n hx hb dX6_sets_1 rfl (lv_at hl 2 rfl) ?_
  refine lv_i2l (v := 1) hx hb dX6_sets_2 (by decide) ?_
  refine lv_lconst (v := 0) hx hb dX6_sets_3 (by decide) ?_
  refine lv_iload_n hx hb dX6_sets_4 rfl (lv_at hl 3 rfl) ?_
  refine lv_i2l (v := 1) hx hb dX6_sets_5 (by decide) ?_
  refine cSi (n := 3) (As := [.long 1, .long 0, .long 1]) (rest := [.ref h0]) (wr := [(h0, .inr (6, [v0, .ref h1, v1, v2, v3, v4, v5, v6, v7, v8, v9, v10, v11, v12, v13, v14, v15, v16, v17, v18, v19, v20, v21, v22, v23, v24, v25])), (h1, .inl (a0, 609, .inr (.inl f0)))]) (tr := [(a0, .long)]) hx hb hml hown hg okN (cX6_in_82 l D) (mwS k1317 k1318 k92 k1319) ⟨rfl, by decide, by decide, by decide +kernel⟩ ⟨rfl, rfl, (Nat.le_of_ble_eq_true rfl), (Nat.le_of_ble_eq_true rfl)⟩ hP hD hK hS xn [] [] [0, 1] [] [0] rfl (by decide) rfl rfl (by decide) (by decide) rfl rfl (aNil hA hS) (aNil hA hS) rfl hl.1 rfl (Nat.le_of_ble_eq_true rfl) dX6_sets_6 ⟨(Nat.le_of_ble_eq_true rfl), (Nat.le_of_ble_eq_true rfl)⟩ (fun u H locs hφ hP hD hK hS hk => ?_)
  have hP : va_P D vwCl [(h0, .inr (6, [v0, .ref h1, v1, v2, v3, v4, v5, v6, v7, v8, v9, v10, v11, v12, v13, v14, v15, v16, v17, v18, v19, v20, v21, v22, v23, v24, v25])), (h1, .inl (a0, 609, .inr (.inl f0)))] H := hP
  have hD : va_D A [(h0, .inr (6, [v0, .ref h1, v1, v2, v3, v4, v5, v6, v7, v8, v9, v10, v11, v12, v13, v14, v15, v16, v17, v18, v19, v20, v21, v22, v23, v24, v25])), (h1, .inl (a0, 609, .inr (.inl f0)))] := hD
  have hK : va_K D vwCl [(a0, .long)] s := hK
  refine W.widen (k := 0) (n := 0) (Nat.le_of_ble_eq_true rfl) (Nat.le_of_ble_eq_true rfl) ?_
  refine lv_if_eq (tgt := 16) hx hb dX6_sets_9 (by decide) (fun c9 => absurd c9 (by decide)) (fun _ => ?_)
  refine lv_iconst (v := 0) hx hb dX6_sets_12 (by decide) ?_
  refine lv_goto (tgt := 17) hx hb dX6_sets_13 (by decide) ?_
  refine va_put (D := D) (ci := 6) (v := .int 0) (ty := .int) (C := RX6) (T := TX6) (N := 27) hx hb hg inX6 tyX6 tyX6_ok nmX6 hown hK hP hD hS 0 rfl rfl 0 (by decide) (hg _ k1219) (fun _ h9 => h9) rfl (by decide +kernel) rfl rfl (Nat.le_of_ble_eq_true rfl) dX6_sets_17 (fun H locs hP hD hS => ?_)
  have hP : va_P D vwCl [(h0, .inr (6, [.int 0, .ref h1, v1, v2, v3, v4, v5, v6, v7, v8, v9, v10, v11, v12, v13, v14, v15, v16, v17, v18, v19, v20, v21, v22, v23, v24, v25])), (h1, .inl (a0, 609, .inr (.inl f0)))] H := hP
  have hD : va_D A [(h0, .inr (6, [.int 0, .ref h1, v1, v2, v3, v4, v5, v6, v7, v8, v9, v10, v11, v12, v13, v14, v15, v16, v17, v18, v19, v20, v21, v22, v23, v24, v25])), (h1, .inl (a0, 609, .inr (.inl f0)))] := hD
  refine lv_aload_n hx hb dX6_sets_20 rfl (lv_at hl 0 rfl) ?_
  refine va_get (D := D) (ci := 6) (v := .ref h1) (C := RX6) (T := TX6) (N := 27) hx hb hg inX6 hown hK hP 0 rfl rfl 1 (by decide) (hg _ k1220) (fun _ h9 => h9) rfl dX6_sets_21 ?_
  refine lv_iload_n hx hb dX6_sets_24 rfl (lv_at hl 1 rfl) ?_
  refine aldL hx hb hK hP 1 0 rfl rfl 2 (by decide) (vin (by decide)) (v := 1) ef0_2 dX6_sets_25 ?_
  refine lv_l2i (v := 1) hx hb dX6_sets_26 (by decide) ?_
  refine lv_istore (lv' := [(4, .int 1), (0, .ref h0), (1, .int 2), (2, .int 1), (3, .int 1)]) hx hb dX6_sets_27 hl (by decide) rfl (fun ls hl => ?_)
  refine lv_aload_n hx hb dX6_sets_29 rfl (lv_at hl 1 rfl) ?_
  refine va_get (D := D) (ci := 6) (v := .int 0) (C := RX6) (T := TX6) (N := 27) hx hb hg inX6 hown hK hP 0 rfl rfl 0 (by decide) (hg _ k1219) (fun _ h9 => h9) rfl dX6_sets_30 ?_
  refine lv_if_ne (tgt := 44) hx hb dX6_sets_33 (by decide) (fun c9 => absurd (by decide) c9) (fun _ => ?_)
  refine lv_aload_n hx hb dX6_sets_36 rfl (lv_at hl 1 rfl) ?_
  refine va_get (D := D) (ci := 6) (v := .ref h1) (C := RX6) (T := TX6) (N := 27) hx hb hg inX6 hown hK hP 0 rfl rfl 1 (by decide) (hg _ k1220) (fun _ h9 => h9) rfl dX6_sets_37 ?_
  refine lv_iload_n hx hb dX6_sets_40 rfl (lv_at hl 2 rfl) ?_
  refine lv_iload_n hx hb dX6_sets_41 rfl (lv_at hl 3 rfl) ?_
  refine lv_i2l (v := 1) hx hb dX6_sets_42 (by decide) ?_
  refine astL hx hb hK hP hD hS 1 0 rfl rfl 2 (by decide) (vin (by decide)) dX6_sets_43 (fun H locs hP hD hS => ?_)
  have hP : va_P D vwCl [(h0, .inr (6, [.int 0, .ref h1, v1, v2, v3, v4, v5, v6, v7, v8, v9, v10, v11, v12, v13, v14, v15, v16, v17, v18, v19, v20, v21, v22, v23, v24, v25])), (h1, .inl (a0, 609, .inr (.inl (vp_updL f0 2 1))))] H := hP
  have hD : va_D A [(h0, .inr (6, [.int 0, .ref h1, v1, v2, v3, v4, v5, v6, v7, v8, v9, v10, v11, v12, v13, v14, v15, v16, v17, v18, v19, v20, v21, v22, v23, v24, v25])), (h1, .inl (a0, 609, .inr (.inl (vp_updL f0 2 1))))] := hD
  refine lv_iload hx hb dX6_sets_44 (lv_at hl 0 rfl) ?_
  exact fi hx hb hr hlocks hP hD hK hS (()) trivial rfl [0, 1] [0] rfl (by decide) rfl (Nat.le_of_ble_eq_true rfl) (Nat.le_of_ble_eq_true rfl) dX6_sets_46
set_option maxHeartbeats 4000000 in
set_option maxRecDepth 100000 in
theorem cX6_setUpdate_165 (l : Launch) (D : va_G) (h0 : Nat) (h1 : Nat) (v0 : Value) (v1 : Value) (v2 : Value) (v3 : Value) (v4 : Value) (v5 : Value) (v6 : Value) (v7 : Value) (v8 : Value) (v9 : Value) (v10 : Value) (v11 : Value) (v12 : Value) (v13 : Value) (v14 : Value) (v15 : Value) (v16 : Value) (v17 : Value) (v18 : Value) (v19 : Value) (v20 : Value) (v21 : Value) (v22 : Value) (v23 : Value) (v24 : Value) (v25 : Value) (f0 : Nat → Int64) (a0 : ClassId) (ef0_2 : f0 2 = 1)  : CT l yX6_setUpdate cX6_setUpdate 2 (some .boolean) { frames := 2, cells := 0, slots := 0, locals := 49 } [.ref h0, .int 1] D [(h0, .inr (6, [v0, .ref h1, v1, v2, v3, v4, v5, v6, v7, v8, v9, v10, v11, v12, v13, v14, v15, v16, v17, v18, v19, v20, v21, v22, v23, v24, v25])), (h1, .inl (a0, 609, .inr (.inl f0)))] [(a0, .long)] XN [(h0, .inr (6, [v0, .ref h1, v1, v2, v3, v4, v5, v6, v7, v8, v9, v10, v11, v12, v13, v14, v15, v16, v17, v18, v19, v20, v21, v22, v23, v24, v25])), (h1, .inl (a0, 609, .inr (.inl f0)))] (ei (fun _ : Unit => True) (fun u => 1) (fun _ => [(h0, .inr (6, [.int 0, .ref h1, v1, v2, v3, v4, v5, v6, v7, v8, v9, v10, v11, v12, v13, v14, v15, v16, v17, v18, v19, v20, v21, v22, v23, v24, v25])), (h1, .inl (a0, 609, .inr (.inl (vp_updL f0 2 1))))]) (fun u => [(a0, .long)]) D) 0 0 := by
  refine CT.ofW (by decide +kernel) (Nat.le_of_ble_eq_true rfl) ?_
  intro p e s m below meth c A ls hcs hP hK hD hX hA hS hl
  obtain ⟨hx, hb, hr, hml, hown, hg, hlocks, hin⟩ := hcs
  have hown : s.vm.findClass RX6 = some m.cls := hown
  have hl : lv_has ls 2 [(0, .ref h0), (1, .int 1)] := hl
  refine lv_aload_n hx hb dX6_setUpdate_0 rfl (lv_at hl 0 rfl) ?_
  refine lv_iconst (v := 2) hx hb dX6_setUpdate_1 (by decide) ?_
  refine lv_iload_n hx hb dX6_setUpdate_2 rfl (lv_at hl 1 rfl) ?_
  refine lv_if_eq (tgt := 10) hx hb dX6_setUpdate_3 (by decide) (fun c9 => absurd c9 (by decide)) (fun _ => ?_)
  refine lv_iconst (v := 1) hx hb dX6_setUpdate_6 (by decide) ?_
  refine lv_goto (tgt := 11) hx hb dX6_setUpdate_7 (by decide) ?_
  refine lv_iconst (v := 1) hx hb dX6_setUpdate_11 (by decide) ?_
  refine cVi (n := 3) (As := [.int 2, .int 1, .int 1]) (rest := []) (wr := []) (tr := []) hx hb hml hown hg okN (cX6_sets_166 l D h0 h1 v0 v1 v2 v3 v4 v5 v6 v7 v8 v9 v10 v11 v12 v13 v14 v15 v16 v17 v18 v19 v20 v21 v22 v23 v24 v25 f0 a0 ef0_2) (mwV k1551 k1553 k69 k92 k1554) ⟨rfl, by decide, by decide, by decide +kernel⟩ ⟨rfl, rfl, (Nat.le_of_ble_eq_true rfl), (Nat.le_of_ble_eq_true rfl)⟩ hP hD hK hS xn [0, 1] [0, 1] [] [0] [] rfl (by decide) rfl rfl (by decide) (by decide) rfl rfl (va_free hD hS hA [0, 1] rfl) (va_free hD hS hA [0, 1] rfl) 0 rfl rfl rfl hl.1 rfl (Nat.le_of_ble_eq_true rfl) dX6_setUpdate_12 ⟨(Nat.le_of_ble_eq_true rfl), (Nat.le_of_ble_eq_true rfl)⟩ (fun u H locs hφ hP hD hK hS hk => ?_)
  have hP : va_P D vwCl [(h0, .inr (6, [.int 0, .ref h1, v1, v2, v3, v4, v5, v6, v7, v8, v9, v10, v11, v12, v13, v14, v15, v16, v17, v18, v19, v20, v21, v22, v23, v24, v25])), (h1, .inl (a0, 609, .inr (.inl (vp_updL f0 2 1))))] H := hP
  have hD : va_D A [(h0, .inr (6, [.int 0, .ref h1, v1, v2, v3, v4, v5, v6, v7, v8, v9, v10, v11, v12, v13, v14, v15, v16, v17, v18, v19, v20, v21, v22, v23, v24, v25])), (h1, .inl (a0, 609, .inr (.inl (vp_updL f0 2 1))))] := hD
  have hK : va_K D vwCl [(a0, .long)] s := hK
  refine W.widen (k := 0) (n := 0) (Nat.le_of_ble_eq_true rfl) (Nat.le_of_ble_eq_true rfl) ?_
  refine lv_iconst (v := 1) hx hb dX6_setUpdate_15 (by decide) ?_
  refine lv_icmp_ne (tgt := 23) hx hb dX6_setUpdate_16 (by decide) (fun c9 => absurd (by decide) c9) (fun _ => ?_)
  refine lv_iconst (v := 1) hx hb dX6_setUpdate_19 (by decide) ?_
  refine lv_goto (tgt := 24) hx hb dX6_setUpdate_20 (by decide) ?_
  exact fz hx hb hr rfl hlocks hP hD hK hS (()) trivial rfl [0, 1] [0] rfl (by decide) rfl (Nat.le_of_ble_eq_true rfl) (Nat.le_of_ble_eq_true rfl) dX6_setUpdate_24
set_option maxHeartbeats 4000000 in
set_option maxRecDepth 100000 in
theorem cX6_set_167 (l : Launch) (D : va_G) (h0 : Nat) (x0 : Int32) (x1 : Int32) (v0 : Value) (v1 : Value) (v2 : Value) (v3 : Value) (v4 : Value) (v5 : Value) (v6 : Value) (v7 : Value) (v8 : Value) (v9 : Value) (v10 : Value) (v11 : Value) (v12 : Value) (v13 : Value) (v14 : Value) (v15 : Value) (v16 : Value) (v17 : Value) (v18 : Value) (v19 : Value) (v20 : Value) (v21 : Value) (v22 : Value) (v23 : Value) (v24 : Value) (v25 : Value)  (d0 : (lg_cmp x0.toInt64 0) < 0) : CT l yX6_set cX6_set 5 (some .long) { frames := 2, cells := 0, slots := 0, locals := 46 } [.ref h0, .int x0, .int x1] D [(h0, .inr (6, [v0, v1, v2, v3, v4, v5, v6, .int 2, v7, v8, v9, v10, v11, v12, v13, v14, v15, v16, v17, v18, v19, v20, v21, v22, v23, v24, v25]))] [] XN [(h0, .inr (6, [v0, v1, v2, v3, v4, v5, v6, .int 2, v7, v8, v9, v10, v11, v12, v13, v14, v15, v16, v17, v18, v19, v20, v21, v22, v23, v24, v25]))] (el (fun _ : Unit => True) (fun u => 0) (fun _ => [(h0, .inr (6, [.int 1, v1, v2, v3, v4, v5, v6, .int 2, v7, v8, v9, v10, v11, v12, v13, v14, v15, v16, v17, v18, v19, v20, v21, v22, v23, v24, v25]))]) (fun u => []) D) 0 0 := by
  refine CT.ofW (by decide +kernel) (Nat.le_of_ble_eq_true rfl) ?_
  intro p e s m below meth c A ls hcs hP hK hD hX hA hS hl
  obtain ⟨hx, hb, hr, hml, hown, hg, hlocks, hin⟩ := hcs
  have hown : s.vm.findClass RX6 = some m.cls := hown
  have hl : lv_has ls 5 [(0, .ref h0), (1, .int x0), (2, .int x1)] := hl
  refine lv_aload_n hx hb dX6_set_0 rfl (lv_at hl 0 rfl) ?_
  refine lv_aload_n hx hb dX6_set_1 rfl (lv_at hl 0 rfl) ?_
  refine lv_iload_n hx hb dX6_set_2 rfl (lv_at hl 1 rfl) ?_
  refine cVi (n := 1) (As := [.int x0]) (rest := [.ref h0]) (wr := [(h0, .inr (6, [v0, v1, v2, v3, v4, v5, v6, .int 2, v7, v8, v9, v10, v11, v12, v13, v14, v15, v16, v17, v18, v19, v20, v21, v22, v23, v24, v25]))]) (tr := []) hx hb hml hown hg okN (cX6_isSample_57 l D h0 x0 v0 v1 v2 v3 v4 v5 v6 v7 v8 v9 v10 v11 v12 v13 v14 v15 v16 v17 v18 v19 v20 v21 v22 v23 v24 v25 d0) (mwV k1440 k1442 k57 k92 k1443) ⟨rfl, by decide, by decide, by decide +kernel⟩ ⟨rfl, rfl, (Nat.le_of_ble_eq_true rfl), (Nat.le_of_ble_eq_true rfl)⟩ hP hD hK hS xn [0] [] [0] [] [] rfl (by decide) rfl rfl (by decide) (by decide) rfl rfl (aNil hA hS) (aNil hA hS) 0 rfl rfl rfl hl.1 rfl (Nat.le_of_ble_eq_true rfl) dX6_set_3 ⟨(Nat.le_of_ble_eq_true rfl), (Nat.le_of_ble_eq_true rfl)⟩ (fun u H locs hφ hP hD hK hS hk => ?_)
  have hP : va_P D vwCl [(h0, .inr (6, [v0, v1, v2, v3, v4, v5, v6, .int 2, v7, v8, v9, v10, v11, v12, v13, v14, v15, v16, v17, v18, v19, v20, v21, v22, v23, v24, v25]))] H := hP
  have hD : va_D A [(h0, .inr (6, [v0, v1, v2, v3, v4, v5, v6, .int 2, v7, v8, v9, v10, v11, v12, v13, v14, v15, v16, v17, v18, v19, v20, v21, v22, v23, v24, v25]))] := hD
  have hK : va_K D vwCl [] s := hK
  refine W.widen (k := 0) (n := 0) (Nat.le_of_ble_eq_true rfl) (Nat.le_of_ble_eq_true rfl) ?_
  refine lv_if_ne (tgt := 13) hx hb dX6_set_6 (by decide) (fun c9 => absurd (by decide) c9) (fun _ => ?_)
  refine lv_iconst (v := 1) hx hb dX6_set_9 (by decide) ?_
  refine lv_goto (tgt := 32) hx hb dX6_set_10 (by decide) ?_
  refine va_put (D := D) (ci := 6) (v := .int 1) (ty := .int) (C := RX6) (T := TX6) (N := 27) hx hb hg inX6 tyX6 tyX6_ok nmX6 hown hK hP hD hS 0 rfl rfl 0 (by decide) (hg _ k1219) (fun _ h9 => h9) rfl (by decide +kernel) rfl rfl (Nat.le_of_ble_eq_true rfl) dX6_set_32 (fun H locs hP hD hS => ?_)
  have hP : va_P D vwCl [(h0, .inr (6, [.int 1, v1, v2, v3, v4, v5, v6, .int 2, v7, v8, v9, v10, v11, v12, v13, v14, v15, v16, v17, v18, v19, v20, v21, v22, v23, v24, v25]))] H := hP
  have hD : va_D A [(h0, .inr (6, [.int 1, v1, v2, v3, v4, v5, v6, .int 2, v7, v8, v9, v10, v11, v12, v13, v14, v15, v16, v17, v18, v19, v20, v21, v22, v23, v24, v25]))] := hD
  refine lv_aload_n hx hb dX6_set_35 rfl (lv_at hl 0 rfl) ?_
  refine va_get (D := D) (ci := 6) (v := .int 1) (C := RX6) (T := TX6) (N := 27) hx hb hg inX6 hown hK hP 0 rfl rfl 0 (by decide) (hg _ k1219) (fun _ h9 => h9) rfl dX6_set_36 ?_
  refine lv_if_le (tgt := 44) hx hb dX6_set_39 (by decide) (fun c9 => absurd c9 (by decide)) (fun _ => ?_)
  refine lv_lconst (v := 0) hx hb dX6_set_42 (by decide) ?_
  exact fl hx hb hr hlocks hP hD hK hS (()) trivial rfl [0] [] rfl (by decide) rfl (Nat.le_of_ble_eq_true rfl) (Nat.le_of_ble_eq_true rfl) dX6_set_43
set_option maxHeartbeats 4000000 in
set_option maxRecDepth 100000 in
theorem cX6_set_168 (l : Launch) (D : va_G) (h0 : Nat) (x0 : Int32) (x1 : Int32) (v0 : Value) (v1 : Value) (v2 : Value) (v3 : Value) (v4 : Value) (v5 : Value) (v6 : Value) (v7 : Value) (v8 : Value) (v9 : Value) (v10 : Value) (v11 : Value) (v12 : Value) (v13 : Value) (v14 : Value) (v15 : Value) (v16 : Value) (v17 : Value) (v18 : Value) (v19 : Value) (v20 : Value) (v21 : Value) (v22 : Value) (v23 : Value) (v24 : Value) (v25 : Value)  (d0 : ¬ ((lg_cmp x0.toInt64 0) < 0)) (d1 : 0 < (lg_cmp x0.toInt64 1)) : CT l yX6_set cX6_set 5 (some .long) { frames := 2, cells := 0, slots := 0, locals := 46 } [.ref h0, .int x0, .int x1] D [(h0, .inr (6, [v0, v1, v2, v3, v4, v5, v6, .int 2, v7, v8, v9, v10, v11, v12, v13, v14, v15, v16, v17, v18, v19, v20, v21, v22, v23, v24, v25]))] [] XN [(h0, .inr (6, [v0, v1, v2, v3, v4, v5, v6, .int 2, v7, v8, v9, v10, v11, v12, v13, v14, v15, v16, v17, v18, v19, v20, v21, v22, v23, v24, v25]))] (el (fun _ : Unit => True) (fun u => 0) (fun _ => [(h0, .inr (6, [.int 1, v1, v2, v3, v4, v5, v6, .int 2, v7, v8, v9, v10, v11, v12, v13, v14, v15, v16, v17, v18, v19, v20, v21, v22, v23, v24, v25]))]) (fun u => []) D) 0 0 := by
  refine CT.ofW (by decide +kernel) (Nat.le_of_ble_eq_true rfl) ?_
  intro p e s m below meth c A ls hcs hP hK hD hX hA hS hl
  obtain ⟨hx, hb, hr, hml, hown, hg, hlocks, hin⟩ := hcs
  have hown : s.vm.findClass RX6 = some m.cls := hown
  have hl : lv_has ls 5 [(0, .ref h0), (1, .int x0), (2, .int x1)] := hl
  refine lv_aload_n hx hb dX6_set_0 rfl (lv_at hl 0 rfl) ?_
  refine lv_aload_n hx hb dX6_set_1 rfl (lv_at hl 0 rfl) ?_
  refine lv_iload_n hx hb dX6_set_2 rfl (lv_at hl 1 rfl) ?_
  refine cVi (n := 1) (As := [.int x0]) (rest := [.ref h0]) (wr := [(h0, .inr (6, [v0, v1, v2, v3, v4, v5, v6, .int 2, v7, v8, v9, v10, v11, v12, v13, v14, v15, v16, v17, v18, v19, v20, v21, v22, v23, v24, v25]))]) (tr := []) hx hb hml hown hg okN (cX6_isSample_60 l D h0 x0 v0 v1 v2 v3 v4 v5 v6 v7 v8 v9 v10 v11 v12 v13 v14 v15 v16 v17 v18 v19 v20 v21 v22 v23 v24 v25 d0 d1) (mwV k1440 k1442 k57 k92 k1443) ⟨rfl, by decide, by decide, by decide +kernel⟩ ⟨rfl, rfl, (Nat.le_of_ble_eq_true rfl), (Nat.le_of_ble_eq_true rfl)⟩ hP hD hK hS xn [0] [] [0] [] [] rfl (by decide) rfl rfl (by decide) (by decide) rfl rfl (aNil hA hS) (aNil hA hS) 0 rfl rfl rfl hl.1 rfl (Nat.le_of_ble_eq_true rfl) dX6_set_3 ⟨(Nat.le_of_ble_eq_true rfl), (Nat.le_of_ble_eq_true rfl)⟩ (fun u H locs hφ hP hD hK hS hk => ?_)
  have hP : va_P D vwCl [(h0, .inr (6, [v0, v1, v2, v3, v4, v5, v6, .int 2, v7, v8, v9, v10, v11, v12, v13, v14, v15, v16, v17, v18, v19, v20, v21, v22, v23, v24, v25]))] H := hP
  have hD : va_D A [(h0, .inr (6, [v0, v1, v2, v3, v4, v5, v6, .int 2, v7, v8, v9, v10, v11, v12, v13, v14, v15, v16, v17, v18, v19, v20, v21, v22, v23, v24, v25]))] := hD
  have hK : va_K D vwCl [] s := hK
  refine W.widen (k := 0) (n := 0) (Nat.le_of_ble_eq_true rfl) (Nat.le_of_ble_eq_true rfl) ?_
  refine lv_if_ne (tgt := 13) hx hb dX6_set_6 (by decide) (fun c9 => absurd (by decide) c9) (fun _ => ?_)
  refine lv_iconst (v := 1) hx hb dX6_set_9 (by decide) ?_
  refine lv_goto (tgt := 32) hx hb dX6_set_10 (by decide) ?_
  refine va_put (D := D) (ci := 6) (v := .int 1) (ty := .int) (C := RX6) (T := TX6) (N := 27) hx hb hg inX6 tyX6 tyX6_ok nmX6 hown hK hP hD hS 0 rfl rfl 0 (by decide) (hg _ k1219) (fun _ h9 => h9) rfl (by decide +kernel) rfl rfl (Nat.le_of_ble_eq_true rfl) dX6_set_32 (fun H locs hP hD hS => ?_)
  have hP : va_P D vwCl [(h0, .inr (6, [.int 1, v1, v2, v3, v4, v5, v6, .int 2, v7, v8, v9, v10, v11, v12, v13, v14, v15, v16, v17, v18, v19, v20, v21, v22, v23, v24, v25]))] H := hP
  have hD : va_D A [(h0, .inr (6, [.int 1, v1, v2, v3, v4, v5, v6, .int 2, v7, v8, v9, v10, v11, v12, v13, v14, v15, v16, v17, v18, v19, v20, v21, v22, v23, v24, v25]))] := hD
  refine lv_aload_n hx hb dX6_set_35 rfl (lv_at hl 0 rfl) ?_
  refine va_get (D := D) (ci := 6) (v := .int 1) (C := RX6) (T := TX6) (N := 27) hx hb hg inX6 hown hK hP 0 rfl rfl 0 (by decide) (hg _ k1219) (fun _ h9 => h9) rfl dX6_set_36 ?_
  refine lv_if_le (tgt := 44) hx hb dX6_set_39 (by decide) (fun c9 => absurd c9 (by decide)) (fun _ => ?_)
  refine lv_lconst (v := 0) hx hb dX6_set_42 (by decide) ?_
  exact fl hx hb hr hlocks hP hD hK hS (()) trivial rfl [0] [] rfl (by decide) rfl (Nat.le_of_ble_eq_true rfl) (Nat.le_of_ble_eq_true rfl) dX6_set_43
set_option maxHeartbeats 4000000 in
set_option maxRecDepth 100000 in
theorem cX6_in_170 (l : Launch) (D : va_G) (x0 : Int32)  (d0 : (lg_cmp x0.toInt64 (-9999)) < 0) : CT l yX6_in cX6_in 6 (some .boolean) { frames := 0, cells := 0, slots := 0, locals := 0 } [.long x0.toInt64, .long (-9999), .long 9999] D [] [] XN [] (ei (fun _ : Unit => True) (fun _ => 0) (fun _ => []) (fun _ => []) D) 0 0 := by
  refine CT.ofR (by decide +kernel) (Nat.le_of_ble_eq_true rfl) ?_
  intro p e s m below meth c A ls hcs hP hK hD hX hA hS hl
  obtain ⟨hx, hb, hr, hml, hown, hg, hlocks, hin⟩ := hcs
  have hown : s.vm.findClass RX6 = some m.cls := hown
  have hl : lv_has ls 6 [(0, .long x0.toInt64), (2, .long (-9999)), (4, .long 9999)] := hl
  refine lv_lload_n hx hb dX6_in_0 rfl (lv_at hl 0 rfl) ?_
  refine lv_lload_n hx hb dX6_in_1 rfl (lv_at hl 1 rfl) ?_
  refine W.lcmp hx hb dX6_in_2 ?_
  refine lv_if_lt (tgt := 17) hx hb dX6_in_3 (by decide) (fun _ => ?_) (fun c9 => absurd d0 c9)
  refine lv_iconst (v := 0) hx hb dX6_in_17 (by decide) ?_
  exact fz0 hx hb hr rfl hlocks hK hS (Nat.le_of_ble_eq_true rfl) (Nat.le_of_ble_eq_true rfl) dX6_in_18
set_option maxHeartbeats 4000000 in
set_option maxRecDepth 100000 in
theorem cX6_set_169 (l : Launch) (D : va_G) (h0 : Nat) (x0 : Int32) (v0 : Value) (v1 : Value) (v2 : Value) (v3 : Value) (v4 : Value) (v5 : Value) (v6 : Value) (v7 : Value) (v8 : Value) (v9 : Value) (v10 : Value) (v11 : Value) (v12 : Value) (v13 : Value) (v14 : Value) (v15 : Value) (v16 : Value) (v17 : Value) (v18 : Value) (v19 : Value) (v20 : Value) (v21 : Value) (v22 : Value) (v23 : Value) (v24 : Value) (v25 : Value)  (d0 : (lg_cmp x0.toInt64 (-9999)) < 0) : CT l yX6_set cX6_set 5 (some .long) { frames := 2, cells := 0, slots := 0, locals := 46 } [.ref h0, .int 0, .int x0] D [(h0, .inr (6, [v0, v1, v2, v3, v4, v5, v6, .int 2, v7, v8, v9, v10, v11, v12, v13, v14, v15, v16, v17, v18, v19, v20, v21, v22, v23, v24, v25]))] [] XN [(h0, .inr (6, [v0, v1, v2, v3, v4, v5, v6, .int 2, v7, v8, v9, v10, v11, v12, v13, v14, v15, v16, v17, v18, v19, v20, v21, v22, v23, v24, v25]))] (el (fun _ : Unit => True) (fun u => 0) (fun _ => [(h0, .inr (6, [.int 2, v1, v2, v3, v4, v5, v6, .int 2, v7, v8, v9, v10, v11, v12, v13, v14, v15, v16, v17, v18, v19, v20, v21, v22, v23, v24, v25]))]) (fun u => []) D) 0 0 := by
  refine CT.ofW (by decide +kernel) (Nat.le_of_ble_eq_true rfl) ?_
  intro p e s m below meth c A ls hcs hP hK hD hX hA hS hl
  obtain ⟨hx, hb, hr, hml, hown, hg, hlocks, hin⟩ := hcs
  have hown : s.vm.findClass RX6 = some m.cls := hown
  have hl : lv_has ls 5 [(0, .ref h0), (1, .int 0), (2, .int x0)] := hl
  refine lv_aload_n hx hb dX6_set_0 rfl (lv_at hl 0 rfl) ?_
  refine lv_aload_n hx hb dX6_set_1 rfl (lv_at hl 0 rfl) ?_
  refine lv_iload_n hx hb dX6_set_2 rfl (lv_at hl 1 rfl) ?_
  refine cVi (n := 1) (As := [.int 0]) (rest := [.ref h0]) (wr := [(h0, .inr (6, [v0, v1, v2, v3, v4, v5, v6, .int 2, v7, v8, v9, v10, v11, v12, v13, v14, v15, v16, v17, v18, v19, v20, v21, v22, v23, v24, v25]))]) (tr := []) hx hb hml hown hg okN (cX6_isSample_63 l D h0 v0 v1 v2 v3 v4 v5 v6 v7 v8 v9 v10 v11 v12 v13 v14 v15 v16 v17 v18 v19 v20 v21 v22 v23 v24 v25) (mwV k1440 k1442 k57 k92 k1443) ⟨rfl, by decide, by decide, by decide +kernel⟩ ⟨rfl, rfl, (Nat.le_of_ble_eq_true rfl), (Nat.le_of_ble_eq_true rfl)⟩ hP hD hK hS xn [0] [] [0] [] [] rfl (by decide) rfl rfl (by decide) (by decide) rfl rfl (aNil hA hS) (aNil hA hS) 0 rfl rfl rfl hl.1 rfl (Nat.le_of_ble_eq_true rfl) dX6_set_3 ⟨(Nat.le_of_ble_eq_true rfl), (Nat.le_of_ble_eq_true rfl)⟩ (fun u H locs hφ hP hD hK hS hk => ?_)
  have hP : va_P D vwCl [(h0, .inr (6, [v0, v1, v2, v3, v4, v5, v6, .int 2, v7, v8, v9, v10, v11, v12, v13, v14, v15, v16, v17, v18, v19, v20, v21, v22, v23, v24, v25]))] H := hP
  have hD : va_D A [(h0, .inr (6, [v0, v1, v2, v3, v4, v5, v6, .int 2, v7, v8, v9, v10, v11, v12, v13, v14, v15, v16, v17, v18, v19, v20, v21, v22, v23, v24, v25]))] := hD
  have hK : va_K D vwCl [] s := hK
  refine W.widen (k := 0) (n := 0) (Nat.le_of_ble_eq_true rfl) (Nat.le_of_ble_eq_true rfl) ?_
  refine lv_if_ne (tgt := 13) hx hb dX6_set_6 (by decide) (fun _ => ?_) (fun c9 => absurd c9 (by decide))
  refine lv_iload_n hx hb dX6_set_13 rfl (lv_at hl 2 rfl) ?_
  refine lv_i2l (v := x0.toInt64) hx hb dX6_set_14 rfl ?_
  refine lv_ldc2 hx hb hown (hg _ k1567) dX6_set_15 ?_
  refine lv_ldc2 hx hb hown (hg _ k1568) dX6_set_18 ?_
  refine cSi (n := 3) (As := [.long x0.toInt64, .long (-9999), .long 9999]) (rest := [.ref h0]) (wr := [(h0, .inr (6, [v0, v1, v2, v3, v4, v5, v6, .int 2, v7, v8, v9, v10, v11, v12, v13, v14, v15, v16, v17, v18, v19, v20, v21, v22, v23, v24, v25]))]) (tr := []) hx hb hml hown hg okN (cX6_in_170 l D x0 d0) (mwS k1317 k1318 k92 k1319) ⟨rfl, by decide, by decide, by decide +kernel⟩ ⟨rfl, rfl, (Nat.le_of_ble_eq_true rfl), (Nat.le_of_ble_eq_true rfl)⟩ hP hD hK hS xn [] [] [0] [] [] rfl (by decide) rfl rfl (by decide) (by decide) rfl rfl (aNil hA hS) (aNil hA hS) rfl hl.1 rfl (Nat.le_of_ble_eq_true rfl) dX6_set_21 ⟨(Nat.le_of_ble_eq_true rfl), (Nat.le_of_ble_eq_true rfl)⟩ (fun u H locs hφ hP hD hK hS hk => ?_)
  have hP : va_P D vwCl [(h0, .inr (6, [v0, v1, v2, v3, v4, v5, v6, .int 2, v7, v8, v9, v10, v11, v12, v13, v14, v15, v16, v17, v18, v19, v20, v21, v22, v23, v24, v25]))] H := hP
  have hD : va_D A [(h0, .inr (6, [v0, v1, v2, v3, v4, v5, v6, .int 2, v7, v8, v9, v10, v11, v12, v13, v14, v15, v16, v17, v18, v19, v20, v21, v22, v23, v24, v25]))] := hD
  have hK : va_K D vwCl [] s := hK
  refine W.widen (k := 0) (n := 0) (Nat.le_of_ble_eq_true rfl) (Nat.le_of_ble_eq_true rfl) ?_
  refine lv_if_eq (tgt := 31) hx hb dX6_set_24 (by decide) (fun _ => ?_) (fun c9 => absurd (by decide) c9)
  refine lv_iconst (v := 2) hx hb dX6_set_31 (by decide) ?_
  refine va_put (D := D) (ci := 6) (v := .int 2) (ty := .int) (C := RX6) (T := TX6) (N := 27) hx hb hg inX6 tyX6 tyX6_ok nmX6 hown hK hP hD hS 0 rfl rfl 0 (by decide) (hg _ k1219) (fun _ h9 => h9) rfl (by decide +kernel) rfl rfl (Nat.le_of_ble_eq_true rfl) dX6_set_32 (fun H locs hP hD hS => ?_)
  have hP : va_P D vwCl [(h0, .inr (6, [.int 2, v1, v2, v3, v4, v5, v6, .int 2, v7, v8, v9, v10, v11, v12, v13, v14, v15, v16, v17, v18, v19, v20, v21, v22, v23, v24, v25]))] H := hP
  have hD : va_D A [(h0, .inr (6, [.int 2, v1, v2, v3, v4, v5, v6, .int 2, v7, v8, v9, v10, v11, v12, v13, v14, v15, v16, v17, v18, v19, v20, v21, v22, v23, v24, v25]))] := hD
  refine lv_aload_n hx hb dX6_set_35 rfl (lv_at hl 0 rfl) ?_
  refine va_get (D := D) (ci := 6) (v := .int 2) (C := RX6) (T := TX6) (N := 27) hx hb hg inX6 hown hK hP 0 rfl rfl 0 (by decide) (hg _ k1219) (fun _ h9 => h9) rfl dX6_set_36 ?_
  refine lv_if_le (tgt := 44) hx hb dX6_set_39 (by decide) (fun c9 => absurd c9 (by decide)) (fun _ => ?_)
  refine lv_lconst (v := 0) hx hb dX6_set_42 (by decide) ?_
  exact fl hx hb hr hlocks hP hD hK hS (()) trivial rfl [0] [] rfl (by decide) rfl (Nat.le_of_ble_eq_true rfl) (Nat.le_of_ble_eq_true rfl) dX6_set_43
set_option maxHeartbeats 4000000 in
set_option maxRecDepth 100000 in
theorem cX6_in_172 (l : Launch) (D : va_G) (x0 : Int32)  (d0 : ¬ ((lg_cmp x0.toInt64 (-9999)) < 0)) (d1 : ¬ (0 < (lg_cmp x0.toInt64 9999))) : CT l yX6_in cX6_in 6 (some .boolean) { frames := 0, cells := 0, slots := 0, locals := 0 } [.long x0.toInt64, .long (-9999), .long 9999] D [] [] XN [] (ei (fun _ : Unit => True) (fun _ => 1) (fun _ => []) (fun _ => []) D) 0 0 := by
  refine CT.ofR (by decide +kernel) (Nat.le_of_ble_eq_true rfl) ?_
  intro p e s m below meth c A ls hcs hP hK hD hX hA hS hl
  obtain ⟨hx, hb, hr, hml, hown, hg, hlocks, hin⟩ := hcs
  have hown : s.vm.findClass RX6 = some m.cls := hown
  have hl : lv_has ls 6 [(0, .long x0.toInt64), (2, .long (-9999)), (4, .long 9999)] := hl
  refine lv_lload_n hx hb dX6_in_0 rfl (lv_at hl 0 rfl) ?_
  refine lv_lload_n hx hb dX6_in_1 rfl (lv_at hl 1 rfl) ?_
  refine W.lcmp hx hb dX6_in_2 ?_
  refine lv_if_lt (tgt := 17) hx hb dX6_in_3 (by decide) (fun c9 => absurd c9 d0) (fun _ => ?_)
  refine lv_lload_n hx hb dX6_in_6 rfl (lv_at hl 0 rfl) ?_
  refine lv_lload hx hb dX6_in_7 (lv_at hl 2 rfl) ?_
  refine W.lcmp hx hb dX6_in_9 ?_
  refine lv_if_gt (tgt := 17) hx hb dX6_in_10 (by decide) (fun c9 => absurd c9 d1) (fun _ => ?_)
  refine lv_iconst (v := 1) hx hb dX6_in_13 (by decide) ?_
  refine lv_goto (tgt := 18) hx hb dX6_in_14 (by decide) ?_
  exact fz0 hx hb hr rfl hlocks hK hS (Nat.le_of_ble_eq_true rfl) (Nat.le_of_ble_eq_true rfl) dX6_in_18
set_option maxHeartbeats 4000000 in
set_option maxRecDepth 100000 in
theorem cX6_set_171 (l : Launch) (D : va_G) (h0 : Nat) (x0 : Int32) (h1 : Nat) (v0 : Value) (v1 : Value) (v2 : Value) (v3 : Value) (v4 : Value) (v5 : Value) (v6 : Value) (v7 : Value) (v8 : Value) (v9 : Value) (v10 : Value) (v11 : Value) (v12 : Value) (v13 : Value) (v14 : Value) (v15 : Value) (v16 : Value) (v17 : Value) (v18 : Value) (v19 : Value) (v20 : Value) (v21 : Value) (v22 : Value) (v23 : Value) (v24 : Value) (f0 : Nat → Int64) (a0 : ClassId) (ef0_5 : f0 5 = 0) (ef0_101 : f0 101 = (-1)) (d0 : ¬ ((lg_cmp x0.toInt64 (-9999)) < 0)) (d1 : ¬ (0 < (lg_cmp x0.toInt64 9999))) : CT l yX6_set cX6_set 5 (some .long) { frames := 2, cells := 0, slots := 0, locals := 46 } [.ref h0, .int 0, .int x0] D [(h0, .inr (6, [v0, .ref h1, v1, v2, v3, v4, v5, .int 2, v6, v7, v8, v9, v10, v11, v12, v13, v14, v15, v16, v17, v18, v19, v20, v21, v22, v23, v24])), (h1, .inl (a0, 609, .inr (.inl f0)))] [(a0, .long)] XN [(h0, .inr (6, [v0, .ref h1, v1, v2, v3, v4, v5, .int 2, v6, v7, v8, v9, v10, v11, v12, v13, v14, v15, v16, v17, v18, v19, v20, v21, v22, v23, v24])), (h1, .inl (a0, 609, .inr (.inl f0)))] (el (fun _ : Unit => True) (fun u => 0) (fun _ => [(h0, .inr (6, [.int 0, .ref h1, v1, v2, v3, v4, v5, .int 2, v6, v7, v8, v9, v10, v11, v12, v13, v14, v15, v16, v17, v18, v19, v20, v21, v22, v23, v24])), (h1, .inl (a0, 609, .inr (.inl (vp_updL f0 5 x0.toInt64))))]) (fun u => [(a0, .long)]) D) 0 0 := by
  refine CT.ofW (by decide +kernel) (Nat.le_of_ble_eq_true rfl) ?_
  intro p e s m below meth c A ls hcs hP hK hD hX hA hS hl
  obtain ⟨hx, hb, hr, hml, hown, hg, hlocks, hin⟩ := hcs
  have hown : s.vm.findClass RX6 = some m.cls := hown
  have hl : lv_has ls 5 [(0, .ref h0), (1, .int 0), (2, .int x0)] := hl
  refine lv_aload_n hx hb dX6_set_0 rfl (lv_at hl 0 rfl) ?_
  refine lv_aload_n hx hb dX6_set_1 rfl (lv_at hl 0 rfl) ?_
  refine lv_iload_n hx hb dX6_set_2 rfl (lv_at hl 1 rfl) ?_
  refine cVi (n := 1) (As := [.int 0]) (rest := [.ref h0]) (wr := [(h0, .inr (6, [v0, .ref h1, v1, v2, v3, v4, v5, .int 2, v6, v7, v8, v9, v10, v11, v12, v13, v14, v15, v16, v17, v18, v19, v20, v21, v22, v23, v24])), (h1, .inl (a0, 609, .inr (.inl f0)))]) (tr := [(a0, .long)]) hx hb hml hown hg okN (cX6_isSample_63 l D h0 v0 (.ref h1) v1 v2 v3 v4 v5 v6 v7 v8 v9 v10 v11 v12 v13 v14 v15 v16 v17 v18 v19 v20 v21 v22 v23 v24) (mwV k1440 k1442 k57 k92 k1443) ⟨rfl, by decide, by decide, by decide +kernel⟩ ⟨rfl, rfl, (Nat.le_of_ble_eq_true rfl), (Nat.le_of_ble_eq_true rfl)⟩ hP hD hK hS xn [0] [] [0, 1] [] [0] rfl (by decide) rfl rfl (by decide) (by decide) rfl rfl (aNil hA hS) (aNil hA hS) 0 rfl rfl rfl hl.1 rfl (Nat.le_of_ble_eq_true rfl) dX6_set_3 ⟨(Nat.le_of_ble_eq_true rfl), (Nat.le_of_ble_eq_true rfl)⟩ (fun u H locs hφ hP hD hK hS hk => ?_)
  have hP : va_P D vwCl [(h0, .inr (6, [v0, .ref h1, v1, v2, v3, v4, v5, .int 2, v6, v7, v8, v9, v10, v11, v12, v13, v14, v15, v16, v17, v18, v19, v20, v21, v22, v23, v24])), (h1, .inl (a0, 609, .inr (.inl f0)))] H := hP
  have hD : va_D A [(h0, .inr (6, [v0, .ref h1, v1, v2, v3, v4, v5, .int 2, v6, v7, v8, v9, v10, v11, v12, v13, v14, v15, v16, v17, v18, v19, v20, v21, v22, v23, v24])), (h1, .inl (a0, 609, .inr (.inl f0)))] := hD
  have hK : va_K D vwCl [(a0, .long)] s := hK
  refine W.widen (k := 0) (n := 0) (Nat.le_of_ble_eq_true rfl) (Nat.le_of_ble_eq_true rfl) ?_
  refine lv_if_ne (tgt := 13) hx hb dX6_set_6 (by decide) (fun _ => ?_) (fun c9 => absurd c9 (by decide))
  refine lv_iload_n hx hb dX6_set_13 rfl (lv_at hl 2 rfl) ?_
  refine lv_i2l (v := x0.toInt64) hx hb dX6_set_14 rfl ?_
  refine lv_ldc2 hx hb hown (hg _ k1567) dX6_set_15 ?_
  refine lv_ldc2 hx hb hown (hg _ k1568) dX6_set_18 ?_
  refine cSi (n := 3) (As := [.long x0.toInt64, .long (-9999), .long 9999]) (rest := [.ref h0]) (wr := [(h0, .inr (6, [v0, .ref h1, v1, v2, v3, v4, v5, .int 2, v6, v7, v8, v9, v10, v11, v12, v13, v14, v15, v16, v17, v18, v19, v20, v21, v22, v23, v24])), (h1, .inl (a0, 609, .inr (.inl f0)))]) (tr := [(a0, .long)]) hx hb hml hown hg okN (cX6_in_172 l D x0 d0 d1) (mwS k1317 k1318 k92 k1319) ⟨rfl, by decide, by decide, by decide +kernel⟩ ⟨rfl, rfl, (Nat.le_of_ble_eq_true rfl), (Nat.le_of_ble_eq_true rfl)⟩ hP hD hK hS xn [] [] [0, 1] [] [0] rfl (by decide) rfl rfl (by decide) (by decide) rfl rfl (aNil hA hS) (aNil hA hS) rfl hl.1 rfl (Nat.le_of_ble_eq_true rfl) dX6_set_21 ⟨(Nat.le_of_ble_eq_true rfl), (Nat.le_of_ble_eq_true rfl)⟩ (fun u H locs hφ hP hD hK hS hk => ?_)
  have hP : va_P D vwCl [(h0, .inr (6, [v0, .ref h1, v1, v2, v3, v4, v5, .int 2, v6, v7, v8, v9, v10, v11, v12, v13, v14, v15, v16, v17, v18, v19, v20, v21, v22, v23, v24])), (h1, .inl (a0, 609, .inr (.inl f0)))] H := hP
  have hD : va_D A [(h0, .inr (6, [v0, .ref h1, v1, v2, v3, v4, v5, .int 2, v6, v7, v8, v9, v10, v11, v12, v13, v14, v15, v16, v17, v18, v19, v20, v21, v22, v23, v24])), (h1, .inl (a0, 609, .inr (.inl f0)))] := hD
  have hK : va_K D vwCl [(a0, .long)] s := hK
  refine W.widen (k := 0) (n := 0) (Nat.le_of_ble_eq_true rfl) (Nat.le_of_ble_eq_true rfl) ?_
  refine lv_if_eq (tgt := 31) hx hb dX6_set_24 (by decide) (fun c9 => absurd c9 (by decide)) (fun _ => ?_)
  refine lv_iconst (v := 0) hx hb dX6_set_27 (by decide) ?_
  refine lv_goto (tgt := 32) hx hb dX6_set_28 (by decide) ?_
  refine va_put (D := D) (ci := 6) (v := .int 0) (ty := .int) (C := RX6) (T := TX6) (N := 27) hx hb hg inX6 tyX6 tyX6_ok nmX6 hown hK hP hD hS 0 rfl rfl 0 (by decide) (hg _ k1219) (fun _ h9 => h9) rfl (by decide +kernel) rfl rfl (Nat.le_of_ble_eq_true rfl) dX6_set_32 (fun H locs hP hD hS => ?_)
  have hP : va_P D vwCl [(h0, .inr (6, [.int 0, .ref h1, v1, v2, v3, v4, v5, .int 2, v6, v7, v8, v9, v10, v11, v12, v13, v14, v15, v16, v17, v18, v19, v20, v21, v22, v23, v24])), (h1, .inl (a0, 609, .inr (.inl f0)))] H := hP
  have hD : va_D A [(h0, .inr (6, [.int 0, .ref h1, v1, v2, v3, v4, v5, .int 2, v6, v7, v8, v9, v10, v11, v12, v13, v14, v15, v16, v17, v18, v19, v20, v21, v22, v23, v24])), (h1, .inl (a0, 609, .inr (.inl f0)))] := hD
  refine lv_aload_n hx hb dX6_set_35 rfl (lv_at hl 0 rfl) ?_
  refine va_get (D := D) (ci := 6) (v := .int 0) (C := RX6) (T := TX6) (N := 27) hx hb hg inX6 hown hK hP 0 rfl rfl 0 (by decide) (hg _ k1219) (fun _ h9 => h9) rfl dX6_set_36 ?_
  refine lv_if_le (tgt := 44) hx hb dX6_set_39 (by decide) (fun _ => ?_) (fun c9 => absurd (by decide) c9)
  refine lv_aload_n hx hb dX6_set_44 rfl (lv_at hl 0 rfl) ?_
  refine lv_iload_n hx hb dX6_set_45 rfl (lv_at hl 1 rfl) ?_
  refine cVi (n := 1) (As := [.int 0]) (rest := []) (wr := [(h0, .inr (6, [.int 0, .ref h1, v1, v2, v3, v4, v5, .int 2, v6, v7, v8, v9, v10, v11, v12, v13, v14, v15, v16, v17, v18, v19, v20, v21, v22, v23, v24])), (h1, .inl (a0, 609, .inr (.inl f0)))]) (tr := [(a0, .long)]) hx hb hml hown hg okN (cX6_isPresent_52 l D h0 h1 (.int 0) v1 v2 v3 v4 v5 (.int 2) v6 v7 v8 v9 v10 v11 v12 v13 v14 v15 v16 v17 v18 v19 v20 v21 v22 v23 v24 f0 a0 ef0_101) (mwV k1432 k1434 k56 k92 k1435) ⟨rfl, by decide, by decide, by decide +kernel⟩ ⟨rfl, rfl, (Nat.le_of_ble_eq_true rfl), (Nat.le_of_ble_eq_true rfl)⟩ hP hD hK hS xn [0, 1] [] [0, 1] [0] [0] rfl (by decide) rfl rfl (by decide) (by decide) rfl rfl (aNil hA hS) (aNil hA hS) 0 rfl rfl rfl hl.1 rfl (Nat.le_of_ble_eq_true rfl) dX6_set_46 ⟨(Nat.le_of_ble_eq_true rfl), (Nat.le_of_ble_eq_true rfl)⟩ (fun u H locs hφ hP hD hK hS hk => ?_)
  have hP : va_P D vwCl [(h0, .inr (6, [.int 0, .ref h1, v1, v2, v3, v4, v5, .int 2, v6, v7, v8, v9, v10, v11, v12, v13, v14, v15, v16, v17, v18, v19, v20, v21, v22, v23, v24])), (h1, .inl (a0, 609, .inr (.inl f0)))] H := hP
  have hD : va_D A [(h0, .inr (6, [.int 0, .ref h1, v1, v2, v3, v4, v5, .int 2, v6, v7, v8, v9, v10, v11, v12, v13, v14, v15, v16, v17, v18, v19, v20, v21, v22, v23, v24])), (h1, .inl (a0, 609, .inr (.inl f0)))] := hD
  have hK : va_K D vwCl [(a0, .long)] s := hK
  refine W.widen (k := 0) (n := 0) (Nat.le_of_ble_eq_true rfl) (Nat.le_of_ble_eq_true rfl) ?_
  refine lv_if_ne (tgt := 63) hx hb dX6_set_49 (by decide) (fun _ => ?_) (fun c9 => absurd c9 (by decide))
  refine lv_aload_n hx hb dX6_set_63 rfl (lv_at hl 0 rfl) ?_
  refine va_get (D := D) (ci := 6) (v := .ref h1) (C := RX6) (T := TX6) (N := 27) hx hb hg inX6 hown hK hP 0 rfl rfl 1 (by decide) (hg _ k1220) (fun _ h9 => h9) rfl dX6_set_64 ?_
  refine lv_iconst (v := 5) hx hb dX6_set_67 (by decide) ?_
  refine lv_iload_n hx hb dX6_set_68 rfl (lv_at hl 1 rfl) ?_
  refine lv_iadd hx hb dX6_set_69 ?_
  refine ti (5) (by decide) ?_
  refine aldL hx hb hK hP 1 0 rfl rfl 5 (by decide) (vin (by decide)) (v := 0) ef0_5 dX6_set_70 ?_
  refine lv_lstore_n (lv' := [(3, .long 0), (0, .ref h0), (1, .int 0), (2, .int x0)]) hx hb dX6_set_71 rfl hl (by decide) rfl (fun ls hl => ?_)
  refine lv_aload_n hx hb dX6_set_72 rfl (lv_at hl 1 rfl) ?_
  refine va_get (D := D) (ci := 6) (v := .ref h1) (C := RX6) (T := TX6) (N := 27) hx hb hg inX6 hown hK hP 0 rfl rfl 1 (by decide) (hg _ k1220) (fun _ h9 => h9) rfl dX6_set_73 ?_
  refine lv_iconst (v := 5) hx hb dX6_set_76 (by decide) ?_
  refine lv_iload_n hx hb dX6_set_77 rfl (lv_at hl 2 rfl) ?_
  refine lv_iadd hx hb dX6_set_78 ?_
  refine ti (5) (by decide) ?_
  refine lv_iload_n hx hb dX6_set_79 rfl (lv_at hl 3 rfl) ?_
  refine lv_i2l (v := x0.toInt64) hx hb dX6_set_80 rfl ?_
  refine astL hx hb hK hP hD hS 1 0 rfl rfl 5 (by decide) (vin (by decide)) dX6_set_81 (fun H locs hP hD hS => ?_)
  have hP : va_P D vwCl [(h0, .inr (6, [.int 0, .ref h1, v1, v2, v3, v4, v5, .int 2, v6, v7, v8, v9, v10, v11, v12, v13, v14, v15, v16, v17, v18, v19, v20, v21, v22, v23, v24])), (h1, .inl (a0, 609, .inr (.inl (vp_updL f0 5 x0.toInt64))))] H := hP
  have hD : va_D A [(h0, .inr (6, [.int 0, .ref h1, v1, v2, v3, v4, v5, .int 2, v6, v7, v8, v9, v10, v11, v12, v13, v14, v15, v16, v17, v18, v19, v20, v21, v22, v23, v24])), (h1, .inl (a0, 609, .inr (.inl (vp_updL f0 5 x0.toInt64))))] := hD
  refine lv_lload_n hx hb dX6_set_82 rfl (lv_at hl 0 rfl) ?_
  exact fl hx hb hr hlocks hP hD hK hS (()) trivial rfl [0, 1] [0] rfl (by decide) rfl (Nat.le_of_ble_eq_true rfl) (Nat.le_of_ble_eq_true rfl) dX6_set_83
set_option maxHeartbeats 4000000 in
set_option maxRecDepth 100000 in
theorem cX6_in_174 (l : Launch) (D : va_G)    : CT l yX6_in cX6_in 6 (some .boolean) { frames := 0, cells := 0, slots := 0, locals := 0 } [.long 0, .long (-9999), .long 9999] D [] [] XN [] (ei (fun _ : Unit => True) (fun _ => 1) (fun _ => []) (fun _ => []) D) 0 0 := by
  refine CT.ofR (by decide +kernel) (Nat.le_of_ble_eq_true rfl) ?_
  intro p e s m below meth c A ls hcs hP hK hD hX hA hS hl
  obtain ⟨hx, hb, hr, hml, hown, hg, hlocks, hin⟩ := hcs
  have hown : s.vm.findClass RX6 = some m.cls := hown
  have hl : lv_has ls 6 [(0, .long 0), (2, .long (-9999)), (4, .long 9999)] := hl
  refine lv_lload_n hx hb dX6_in_0 rfl (lv_at hl 0 rfl) ?_
  refine lv_lload_n hx hb dX6_in_1 rfl (lv_at hl 1 rfl) ?_
  refine W.lcmp hx hb dX6_in_2 ?_
  refine ti (1) (by decide) ?_
  refine lv_if_lt (tgt := 17) hx hb dX6_in_3 (by decide) (fun c9 => absurd c9 (by decide)) (fun _ => ?_)
  refine lv_lload_n hx hb dX6_in_6 rfl (lv_at hl 0 rfl) ?_
  refine lv_lload hx hb dX6_in_7 (lv_at hl 2 rfl) ?_
  refine W.lcmp hx hb dX6_in_9 ?_
  refine ti ((-1)) (by decide) ?_
  refine lv_if_gt (tgt := 17) hx hb dX6_in_10 (by decide) (fun c9 => absurd c9 (by decide)) (fun _ => ?_)
  refine lv_iconst (v := 1) hx hb dX6_in_13 (by decide) ?_
  refine lv_goto (tgt := 18) hx hb dX6_in_14 (by decide) ?_
  exact fz0 hx hb hr rfl hlocks hK hS (Nat.le_of_ble_eq_true rfl) (Nat.le_of_ble_eq_true rfl) dX6_in_18
set_option maxHeartbeats 4000000 in
set_option maxRecDepth 100000 in
theorem cX6_set_173 (l : Launch) (D : va_G) (h0 : Nat) (h1 : Nat) (v0 : Value) (v1 : Value) (v2 : Value) (v3 : Value) (v4 : Value) (v5 : Value) (v6 : Value) (v7 : Value) (v8 : Value) (v9 : Value) (v10 : Value) (v11 : Value) (v12 : Value) (v13 : Value) (v14 : Value) (v15 : Value) (v16 : Value) (v17 : Value) (v18 : Value) (v19 : Value) (v20 : Value) (v21 : Value) (v22 : Value) (v23 : Value) (v24 : Value) (f0 : Nat → Int64) (a0 : ClassId) (ef0_5 : f0 5 = 0) (ef0_101 : f0 101 = (-1))  : CT l yX6_set cX6_set 5 (some .long) { frames := 2, cells := 0, slots := 0, locals := 46 } [.ref h0, .int 0, .int 0] D [(h0, .inr (6, [v0, .ref h1, v1, v2, v3, v4, v5, .int 2, v6, v7, v8, v9, v10, v11, v12, v13, v14, v15, v16, v17, v18, v19, v20, v21, v22, v23, v24])), (h1, .inl (a0, 609, .inr (.inl f0)))] [(a0, .long)] XN [(h0, .inr (6, [v0, .ref h1, v1, v2, v3, v4, v5, .int 2, v6, v7, v8, v9, v10, v11, v12, v13, v14, v15, v16, v17, v18, v19, v20, v21, v22, v23, v24])), (h1, .inl (a0, 609, .inr (.inl f0)))] (el (fun _ : Unit => True) (fun u => 0) (fun _ => [(h0, .inr (6, [.int 0, .ref h1, v1, v2, v3, v4, v5, .int 2, v6, v7, v8, v9, v10, v11, v12, v13, v14, v15, v16, v17, v18, v19, v20, v21, v22, v23, v24])), (h1, .inl (a0, 609, .inr (.inl (vp_updL f0 5 0))))]) (fun u => [(a0, .long)]) D) 0 0 := by
  refine CT.ofW (by decide +kernel) (Nat.le_of_ble_eq_true rfl) ?_
  intro p e s m below meth c A ls hcs hP hK hD hX hA hS hl
  obtain ⟨hx, hb, hr, hml, hown, hg, hlocks, hin⟩ := hcs
  have hown : s.vm.findClass RX6 = some m.cls := hown
  have hl : lv_has ls 5 [(0, .ref h0), (1, .int 0), (2, .int 0)] := hl
  refine lv_aload_n hx hb dX6_set_0 rfl (lv_at hl 0 rfl) ?_
  refine lv_aload_n hx hb dX6_set_1 rfl (lv_at hl 0 rfl) ?_
  refine lv_iload_n hx hb dX6_set_2 rfl (lv_at hl 1 rfl) ?_
  refine cVi (n := 1) (As := [.int 0]) (rest := [.ref h0]) (wr := [(h0, .inr (6, [v0, .ref h1, v1, v2, v3, v4, v5, .int 2, v6, v7, v8, v9, v10, v11, v12, v13, v14, v15, v16, v17, v18, v19, v20, v21, v22, v23, v24])), (h1, .inl (a0, 609, .inr (.inl f0)))]) (tr := [(a0, .long)]) hx hb hml hown hg okN (cX6_isSample_63 l D h0 v0 (.ref h1) v1 v2 v3 v4 v5 v6 v7 v8 v9 v10 v11 v12 v13 v14 v15 v16 v17 v18 v19 v20 v21 v22 v23 v24) (mwV k1440 k1442 k57 k92 k1443) ⟨rfl, by decide, by decide, by decide +kernel⟩ ⟨rfl, rfl, (Nat.le_of_ble_eq_true rfl), (Nat.le_of_ble_eq_true rfl)⟩ hP hD hK hS xn [0] [] [0, 1] [] [0] rfl (by decide) rfl rfl (by decide) (by decide) rfl rfl (aNil hA hS) (aNil hA hS) 0 rfl rfl rfl hl.1 rfl (Nat.le_of_ble_eq_true rfl) dX6_set_3 ⟨(Nat.le_of_ble_eq_true rfl), (Nat.le_of_ble_eq_true rfl)⟩ (fun u H locs hφ hP hD hK hS hk => ?_)
  have hP : va_P D vwCl [(h0, .inr (6, [v0, .ref h1, v1, v2, v3, v4, v5, .int 2, v6, v7, v8, v9, v10, v11, v12, v13, v14, v15, v16, v17, v18, v19, v20, v21, v22, v23, v24])), (h1, .inl (a0, 609, .inr (.inl f0)))] H := hP
  have hD : va_D A [(h0, .inr (6, [v0, .ref h1, v1, v2, v3, v4, v5, .int 2, v6, v7, v8, v9, v10, v11, v12, v13, v14, v15, v16, v17, v18, v19, v20, v21, v22, v23, v24])), (h1, .inl (a0, 609, .inr (.inl f0)))] := hD
  have hK : va_K D vwCl [(a0, .long)] s := hK
  refine W.widen (k := 0) (n := 0) (Nat.le_of_ble_eq_true rfl) (Nat.le_of_ble_eq_true rfl) ?_
  refine lv_if_ne (tgt := 13) hx hb dX6_set_6 (by decide) (fun _ => ?_) (fun c9 => absurd c9 (by decide))
  refine lv_iload_n hx hb dX6_set_13 rfl (lv_at hl 2 rfl) ?_
  refine lv_i2l (v := 0) hx hb dX6_set_14 (by decide) ?_
  refine lv_ldc2 hx hb hown (hg _ k1567) dX6_set_15 ?_
  refine lv_ldc2 hx hb hown (hg _ k1568) dX6_set_18 ?_
  refine cSi (n := 3) (As := [.long 0, .long (-9999), .long 9999]) (rest := [.ref h0]) (wr := [(h0, .inr (6, [v0, .ref h1, v1, v2, v3, v4, v5, .int 2, v6, v7, v8, v9, v10, v11, v12, v13, v14, v15, v16, v17, v18, v19, v20, v21, v22, v23, v24])), (h1, .inl (a0, 609, .inr (.inl f0)))]) (tr := [(a0, .long)]) hx hb hml hown hg okN (cX6_in_174 l D) (mwS k1317 k1318 k92 k1319) ⟨rfl, by decide, by decide, by decide +kernel⟩ ⟨rfl, rfl, (Nat.le_of_ble_eq_true rfl), (Nat.le_of_ble_eq_true rfl)⟩ hP hD hK hS xn [] [] [0, 1] [] [0] rfl (by decide) rfl rfl (by decide) (by decide) rfl rfl (aNil hA hS) (aNil hA hS) rfl hl.1 rfl (Nat.le_of_ble_eq_true rfl) dX6_set_21 ⟨(Nat.le_of_ble_eq_true rfl), (Nat.le_of_ble_eq_true rfl)⟩ (fun u H locs hφ hP hD hK hS hk => ?_)
  have hP : va_P D vwCl [(h0, .inr (6, [v0, .ref h1, v1, v2, v3, v4, v5, .int 2, v6, v7, v8, v9, v10, v11, v12, v13, v14, v15, v16, v17, v18, v19, v20, v21, v22, v23, v24])), (h1, .inl (a0, 609, .inr (.inl f0)))] H := hP
  have hD : va_D A [(h0, .inr (6, [v0, .ref h1, v1, v2, v3, v4, v5, .int 2, v6, v7, v8, v9, v10, v11, v12, v13, v14, v15, v16, v17, v18, v19, v20, v21, v22, v23, v24])), (h1, .inl (a0, 609, .inr (.inl f0)))] := hD
  have hK : va_K D vwCl [(a0, .long)] s := hK
  refine W.widen (k := 0) (n := 0) (Nat.le_of_ble_eq_true rfl) (Nat.le_of_ble_eq_true rfl) ?_
  refine lv_if_eq (tgt := 31) hx hb dX6_set_24 (by decide) (fun c9 => absurd c9 (by decide)) (fun _ => ?_)
  refine lv_iconst (v := 0) hx hb dX6_set_27 (by decide) ?_
  refine lv_goto (tgt := 32) hx hb dX6_set_28 (by decide) ?_
  refine va_put (D := D) (ci := 6) (v := .int 0) (ty := .int) (C := RX6) (T := TX6) (N := 27) hx hb hg inX6 tyX6 tyX6_ok nmX6 hown hK hP hD hS 0 rfl rfl 0 (by decide) (hg _ k1219) (fun _ h9 => h9) rfl (by decide +kernel) rfl rfl (Nat.le_of_ble_eq_true rfl) dX6_set_32 (fun H locs hP hD hS => ?_)
  have hP : va_P D vwCl [(h0, .inr (6, [.int 0, .ref h1, v1, v2, v3, v4, v5, .int 2, v6, v7, v8, v9, v10, v11, v12, v13, v14, v15, v16, v17, v18, v19, v20, v21, v22, v23, v24])), (h1, .inl (a0, 609, .inr (.inl f0)))] H := hP
  have hD : va_D A [(h0, .inr (6, [.int 0, .ref h1, v1, v2, v3, v4, v5, .int 2, v6, v7, v8, v9, v10, v11, v12, v13, v14, v15, v16, v17, v18, v19, v20, v21, v22, v23, v24])), (h1, .inl (a0, 609, .inr (.inl f0)))] := hD
  refine lv_aload_n hx hb dX6_set_35 rfl (lv_at hl 0 rfl) ?_
  refine va_get (D := D) (ci := 6) (v := .int 0) (C := RX6) (T := TX6) (N := 27) hx hb hg inX6 hown hK hP 0 rfl rfl 0 (by decide) (hg _ k1219) (fun _ h9 => h9) rfl dX6_set_36 ?_
  refine lv_if_le (tgt := 44) hx hb dX6_set_39 (by decide) (fun _ => ?_) (fun c9 => absurd (by decide) c9)
  refine lv_aload_n hx hb dX6_set_44 rfl (lv_at hl 0 rfl) ?_
  refine lv_iload_n hx hb dX6_set_45 rfl (lv_at hl 1 rfl) ?_
  refine cVi (n := 1) (As := [.int 0]) (rest := []) (wr := [(h0, .inr (6, [.int 0, .ref h1, v1, v2, v3, v4, v5, .int 2, v6, v7, v8, v9, v10, v11, v12, v13, v14, v15, v16, v17, v18, v19, v20, v21, v22, v23, v24])), (h1, .inl (a0, 609, .inr (.inl f0)))]) (tr := [(a0, .long)]) hx hb hml hown hg okN (cX6_isPresent_52 l D h0 h1 (.int 0) v1 v2 v3 v4 v5 (.int 2) v6 v7 v8 v9 v10 v11 v12 v13 v14 v15 v16 v17 v18 v19 v20 v21 v22 v23 v24 f0 a0 ef0_101) (mwV k1432 k1434 k56 k92 k1435) ⟨rfl, by decide, by decide, by decide +kernel⟩ ⟨rfl, rfl, (Nat.le_of_ble_eq_true rfl), (Nat.le_of_ble_eq_true rfl)⟩ hP hD hK hS xn [0, 1] [] [0, 1] [0] [0] rfl (by decide) rfl rfl (by decide) (by decide) rfl rfl (aNil hA hS) (aNil hA hS) 0 rfl rfl rfl hl.1 rfl (Nat.le_of_ble_eq_true rfl) dX6_set_46 ⟨(Nat.le_of_ble_eq_true rfl), (Nat.le_of_ble_eq_true rfl)⟩ (fun u H locs hφ hP hD hK hS hk => ?_)
  have hP : va_P D vwCl [(h0, .inr (6, [.int 0, .ref h1, v1, v2, v3, v4, v5, .int 2, v6, v7, v8, v9, v10, v11, v12, v13, v14, v15, v16, v17, v18, v19, v20, v21, v22, v23, v24])), (h1, .inl (a0, 609, .inr (.inl f0)))] H := hP
  have hD : va_D A [(h0, .inr (6, [.int 0, .ref h1, v1, v2, v3, v4, v5, .int 2, v6, v7, v8, v9, v10, v11, v12, v13, v14, v15, v16, v17, v18, v19, v20, v21, v22, v23, v24])), (h1, .inl (a0, 609, .inr (.inl f0)))] := hD
  have hK : va_K D vwCl [(a0, .long)] s := hK
  refine W.widen (k := 0) (n := 0) (Nat.le_of_ble_eq_true rfl) (Nat.le_of_ble_eq_true rfl) ?_
  refine lv_if_ne (tgt := 63) hx hb dX6_set_49 (by decide) (fun _ => ?_) (fun c9 => absurd c9 (by decide))
  refine lv_aload_n hx hb dX6_set_63 rfl (lv_at hl 0 rfl) ?_
  refine va_get (D := D) (ci := 6) (v := .ref h1) (C := RX6) (T := TX6) (N := 27) hx hb hg inX6 hown hK hP 0 rfl rfl 1 (by decide) (hg _ k1220) (fun _ h9 => h9) rfl dX6_set_64 ?_
  refine lv_iconst (v := 5) hx hb dX6_set_67 (by decide) ?_
  refine lv_iload_n hx hb dX6_set_68 rfl (lv_at hl 1 rfl) ?_
  refine lv_iadd hx hb dX6_set_69 ?_
  refine ti (5) (by decide) ?_
  refine aldL hx hb hK hP 1 0 rfl rfl 5 (by decide) (vin (by decide)) (v := 0) ef0_5 dX6_set_70 ?_
  refine lv_lstore_n (lv' := [(3, .long 0), (0, .ref h0), (1, .int 0), (2, .int 0)]) hx hb dX6_set_71 rfl hl (by decide) rfl (fun ls hl => ?_)
  refine lv_aload_n hx hb dX6_set_72 rfl (lv_at hl 1 rfl) ?_
  refine va_get (D := D) (ci := 6) (v := .ref h1) (C := RX6) (T := TX6) (N := 27) hx hb hg inX6 hown hK hP 0 rfl rfl 1 (by decide) (hg _ k1220) (fun _ h9 => h9) rfl dX6_set_73 ?_
  refine lv_iconst (v := 5) hx hb dX6_set_76 (by decide) ?_
  refine lv_iload_n hx hb dX6_set_77 rfl (lv_at hl 2 rfl) ?_
  refine lv_iadd hx hb dX6_set_78 ?_
  refine ti (5) (by decide) ?_
  refine lv_iload_n hx hb dX6_set_79 rfl (lv_at hl 3 rfl) ?_
  refine lv_i2l (v := 0) hx hb dX6_set_80 (by decide) ?_
  refine astL hx hb hK hP hD hS 1 0 rfl rfl 5 (by decide) (vin (by decide)) dX6_set_81 (fun H locs hP hD hS => ?_)
  have hP : va_P D vwCl [(h0, .inr (6, [.int 0, .ref h1, v1, v2, v3, v4, v5, .int 2, v6, v7, v8, v9, v10, v11, v12, v13, v14, v15, v16, v17, v18, v19, v20, v21, v22, v23, v24])), (h1, .inl (a0, 609, .inr (.inl (vp_updL f0 5 0))))] H := hP
  have hD : va_D A [(h0, .inr (6, [.int 0, .ref h1, v1, v2, v3, v4, v5, .int 2, v6, v7, v8, v9, v10, v11, v12, v13, v14, v15, v16, v17, v18, v19, v20, v21, v22, v23, v24])), (h1, .inl (a0, 609, .inr (.inl (vp_updL f0 5 0))))] := hD
  refine lv_lload_n hx hb dX6_set_82 rfl (lv_at hl 0 rfl) ?_
  exact fl hx hb hr hlocks hP hD hK hS (()) trivial rfl [0, 1] [0] rfl (by decide) rfl (Nat.le_of_ble_eq_true rfl) (Nat.le_of_ble_eq_true rfl) dX6_set_83
set_option maxHeartbeats 4000000 in
set_option maxRecDepth 100000 in
theorem cX6_in_176 (l : Launch) (D : va_G) (x0 : Int32)  (d0 : ¬ ((lg_cmp x0.toInt64 (-9999)) < 0)) (d1 : 0 < (lg_cmp x0.toInt64 9999)) : CT l yX6_in cX6_in 6 (some .boolean) { frames := 0, cells := 0, slots := 0, locals := 0 } [.long x0.toInt64, .long (-9999), .long 9999] D [] [] XN [] (ei (fun _ : Unit => True) (fun _ => 0) (fun _ => []) (fun _ => []) D) 0 0 := by
  refine CT.ofR (by decide +kernel) (Nat.le_of_ble_eq_true rfl) ?_
  intro p e s m below meth c A ls hcs hP hK hD hX hA hS hl
  obtain ⟨hx, hb, hr, hml, hown, hg, hlocks, hin⟩ := hcs
  have hown : s.vm.findClass RX6 = some m.cls := hown
  have hl : lv_has ls 6 [(0, .long x0.toInt64), (2, .long (-9999)), (4, .long 9999)] := hl
  refine lv_lload_n hx hb dX6_in_0 rfl (lv_at hl 0 rfl) ?_
  refine lv_lload_n hx hb dX6_in_1 rfl (lv_at hl 1 rfl) ?_
  refine W.lcmp hx hb dX6_in_2 ?_
  refine lv_if_lt (tgt := 17) hx hb dX6_in_3 (by decide) (fun c9 => absurd c9 d0) (fun _ => ?_)
  refine lv_lload_n hx hb dX6_in_6 rfl (lv_at hl 0 rfl) ?_
  refine lv_lload hx hb dX6_in_7 (lv_at hl 2 rfl) ?_
  refine W.lcmp hx hb dX6_in_9 ?_
  refine lv_if_gt (tgt := 17) hx hb dX6_in_10 (by decide) (fun _ => ?_) (fun c9 => absurd d1 c9)
  refine lv_iconst (v := 0) hx hb dX6_in_17 (by decide) ?_
  exact fz0 hx hb hr rfl hlocks hK hS (Nat.le_of_ble_eq_true rfl) (Nat.le_of_ble_eq_true rfl) dX6_in_18
set_option maxHeartbeats 4000000 in
set_option maxRecDepth 100000 in
theorem cX6_set_175 (l : Launch) (D : va_G) (h0 : Nat) (x0 : Int32) (v0 : Value) (v1 : Value) (v2 : Value) (v3 : Value) (v4 : Value) (v5 : Value) (v6 : Value) (v7 : Value) (v8 : Value) (v9 : Value) (v10 : Value) (v11 : Value) (v12 : Value) (v13 : Value) (v14 : Value) (v15 : Value) (v16 : Value) (v17 : Value) (v18 : Value) (v19 : Value) (v20 : Value) (v21 : Value) (v22 : Value) (v23 : Value) (v24 : Value) (v25 : Value)  (d0 : ¬ ((lg_cmp x0.toInt64 (-9999)) < 0)) (d1 : 0 < (lg_cmp x0.toInt64 9999)) : CT l yX6_set cX6_set 5 (some .long) { frames := 2, cells := 0, slots := 0, locals := 46 } [.ref h0, .int 0, .int x0] D [(h0, .inr (6, [v0, v1, v2, v3, v4, v5, v6, .int 2, v7, v8, v9, v10, v11, v12, v13, v14, v15, v16, v17, v18, v19, v20, v21, v22, v23, v24, v25]))] [] XN [(h0, .inr (6, [v0, v1, v2, v3, v4, v5, v6, .int 2, v7, v8, v9, v10, v11, v12, v13, v14, v15, v16, v17, v18, v19, v20, v21, v22, v23, v24, v25]))] (el (fun _ : Unit => True) (fun u => 0) (fun _ => [(h0, .inr (6, [.int 2, v1, v2, v3, v4, v5, v6, .int 2, v7, v8, v9, v10, v11, v12, v13, v14, v15, v16, v17, v18, v19, v20, v21, v22, v23, v24, v25]))]) (fun u => []) D) 0 0 := by
  refine CT.ofW (by decide +kernel) (Nat.le_of_ble_eq_true rfl) ?_
  intro p e s m below meth c A ls hcs hP hK hD hX hA hS hl
  obtain ⟨hx, hb, hr, hml, hown, hg, hlocks, hin⟩ := hcs
  have hown : s.vm.findClass RX6 = some m.cls := hown
  have hl : lv_has ls 5 [(0, .ref h0), (1, .int 0), (2, .int x0)] := hl
  refine lv_aload_n hx hb dX6_set_0 rfl (lv_at hl 0 rfl) ?_
  refine lv_aload_n hx hb dX6_set_1 rfl (lv_at hl 0 rfl) ?_
  refine lv_iload_n hx hb dX6_set_2 rfl (lv_at hl 1 rfl) ?_
  refine cVi (n := 1) (As := [.int 0]) (rest := [.ref h0]) (wr := [(h0, .inr (6, [v0, v1, v2, v3, v4, v5, v6, .int 2, v7, v8, v9, v10, v11, v12, v13, v14, v15, v16, v17, v18, v19, v20, v21, v22, v23, v24, v25]))]) (tr := []) hx hb hml hown hg okN (cX6_isSample_63 l D h0 v0 v1 v2 v3 v4 v5 v6 v7 v8 v9 v10 v11 v12 v13 v14 v15 v16 v17 v18 v19 v20 v21 v22 v23 v24 v25) (mwV k1440 k1442 k57 k92 k1443) ⟨rfl, by decide, by decide, by decide +kernel⟩ ⟨rfl, rfl, (Nat.le_of_ble_eq_true rfl), (Nat.le_of_ble_eq_true rfl)⟩ hP hD hK hS xn [0] [] [0] [] [] rfl (by decide) rfl rfl (by decide) (by decide) rfl rfl (aNil hA hS) (aNil hA hS) 0 rfl rfl rfl hl.1 rfl (Nat.le_of_ble_eq_true rfl) dX6_set_3 ⟨(Nat.le_of_ble_eq_true rfl), (Nat.le_of_ble_eq_true rfl)⟩ (fun u H locs hφ hP hD hK hS hk => ?_)
  have hP : va_P D vwCl [(h0, .inr (6, [v0, v1, v2, v3, v4, v5, v6, .int 2, v7, v8, v9, v10, v11, v12, v13, v14, v15, v16, v17, v18, v19, v20, v21, v22, v23, v24, v25]))] H := hP
  have hD : va_D A [(h0, .inr (6, [v0, v1, v2, v3, v4, v5, v6, .int 2, v7, v8, v9, v10, v11, v12, v13, v14, v15, v16, v17, v18, v19, v20, v21, v22, v23, v24, v25]))] := hD
  have hK : va_K D vwCl [] s := hK
  refine W.widen (k := 0) (n := 0) (Nat.le_of_ble_eq_true rfl) (Nat.le_of_ble_eq_true rfl) ?_
  refine lv_if_ne (tgt := 13) hx hb dX6_set_6 (by decide) (fun _ => ?_) (fun c9 => absurd c9 (by decide))
  refine lv_iload_n hx hb dX6_set_13 rfl (lv_at hl 2 rfl) ?_
  refine lv_i2l (v := x0.toInt64) hx hb dX6_set_14 rfl ?_
  refine lv_ldc2 hx hb hown (hg _ k1567) dX6_set_15 ?_
  refine lv_ldc2 hx hb hown (hg _ k1568) dX6_set_18 ?_
  refine cSi (n := 3) (As := [.long x0.toInt64, .long (-9999), .long 9999]) (rest := [.ref h0]) (wr := [(h0, .inr (6, [v0, v1, v2, v3, v4, v5, v6, .int 2, v7, v8, v9, v10, v11, v12, v13, v14, v15, v16, v17, v18, v19, v20, v21, v22, v23, v24, v25]))]) (tr := []) hx hb hml hown hg okN (cX6_in_176 l D x0 d0 d1) (mwS k1317 k1318 k92 k1319) ⟨rfl, by decide, by decide, by decide +kernel⟩ ⟨rfl, rfl, (Nat.le_of_ble_eq_true rfl), (Nat.le_of_ble_eq_true rfl)⟩ hP hD hK hS xn [] [] [0] [] [] rfl (by decide) rfl rfl (by decide) (by decide) rfl rfl (aNil hA hS) (aNil hA hS) rfl hl.1 rfl (Nat.le_of_ble_eq_true rfl) dX6_set_21 ⟨(Nat.le_of_ble_eq_true rfl), (Nat.le_of_ble_eq_true rfl)⟩ (fun u H locs hφ hP hD hK hS hk => ?_)
  have hP : va_P D vwCl [(h0, .inr (6, [v0, v1, v2, v3, v4, v5, v6, .int 2, v7, v8, v9, v10, v11, v12, v13, v14, v15, v16, v17, v18, v19, v20, v21, v22, v23, v24, v25]))] H := hP
  have hD : va_D A [(h0, .inr (6, [v0, v1, v2, v3, v4, v5, v6, .int 2, v7, v8, v9, v10, v11, v12, v13, v14, v15, v16, v17, v18, v19, v20, v21, v22, v23, v24, v25]))] := hD
  have hK : va_K D vwCl [] s := hK
  refine W.widen (k := 0) (n := 0) (Nat.le_of_ble_eq_true rfl) (Nat.le_of_ble_eq_true rfl) ?_
  refine lv_if_eq (tgt := 31) hx hb dX6_set_24 (by decide) (fun _ => ?_) (fun c9 => absurd (by decide) c9)
  refine lv_iconst (v := 2) hx hb dX6_set_31 (by decide) ?_
  refine va_put (D := D) (ci := 6) (v := .int 2) (ty := .int) (C := RX6) (T := TX6) (N := 27) hx hb hg inX6 tyX6 tyX6_ok nmX6 hown hK hP hD hS 0 rfl rfl 0 (by decide) (hg _ k1219) (fun _ h9 => h9) rfl (by decide +kernel) rfl rfl (Nat.le_of_ble_eq_true rfl) dX6_set_32 (fun H locs hP hD hS => ?_)
  have hP : va_P D vwCl [(h0, .inr (6, [.int 2, v1, v2, v3, v4, v5, v6, .int 2, v7, v8, v9, v10, v11, v12, v13, v14, v15, v16, v17, v18, v19, v20, v21, v22, v23, v24, v25]))] H := hP
  have hD : va_D A [(h0, .inr (6, [.int 2, v1, v2, v3, v4, v5, v6, .int 2, v7, v8, v9, v10, v11, v12, v13, v14, v15, v16, v17, v18, v19, v20, v21, v22, v23, v24, v25]))] := hD
  refine lv_aload_n hx hb dX6_set_35 rfl (lv_at hl 0 rfl) ?_
  refine va_get (D := D) (ci := 6) (v := .int 2) (C := RX6) (T := TX6) (N := 27) hx hb hg inX6 hown hK hP 0 rfl rfl 0 (by decide) (hg _ k1219) (fun _ h9 => h9) rfl dX6_set_36 ?_
  refine lv_if_le (tgt := 44) hx hb dX6_set_39 (by decide) (fun c9 => absurd c9 (by decide)) (fun _ => ?_)
  refine lv_lconst (v := 0) hx hb dX6_set_42 (by decide) ?_
  exact fl hx hb hr hlocks hP hD hK hS (()) trivial rfl [0] [] rfl (by decide) rfl (Nat.le_of_ble_eq_true rfl) (Nat.le_of_ble_eq_true rfl) dX6_set_43
set_option maxHeartbeats 4000000 in
set_option maxRecDepth 100000 in
theorem cX6_set_177 (l : Launch) (D : va_G) (h0 : Nat) (x0 : Int32) (v0 : Value) (v1 : Value) (v2 : Value) (v3 : Value) (v4 : Value) (v5 : Value) (v6 : Value) (v7 : Value) (v8 : Value) (v9 : Value) (v10 : Value) (v11 : Value) (v12 : Value) (v13 : Value) (v14 : Value) (v15 : Value) (v16 : Value) (v17 : Value) (v18 : Value) (v19 : Value) (v20 : Value) (v21 : Value) (v22 : Value) (v23 : Value) (v24 : Value) (v25 : Value)  (d0 : (lg_cmp x0.toInt64 (-9999)) < 0) : CT l yX6_set cX6_set 5 (some .long) { frames := 2, cells := 0, slots := 0, locals := 46 } [.ref h0, .int 1, .int x0] D [(h0, .inr (6, [v0, v1, v2, v3, v4, v5, v6, .int 2, v7, v8, v9, v10, v11, v12, v13, v14, v15, v16, v17, v18, v19, v20, v21, v22, v23, v24, v25]))] [] XN [(h0, .inr (6, [v0, v1, v2, v3, v4, v5, v6, .int 2, v7, v8, v9, v10, v11, v12, v13, v14, v15, v16, v17, v18, v19, v20, v21, v22, v23, v24, v25]))] (el (fun _ : Unit => True) (fun u => 0) (fun _ => [(h0, .inr (6, [.int 2, v1, v2, v3, v4, v5, v6, .int 2, v7, v8, v9, v10, v11, v12, v13, v14, v15, v16, v17, v18, v19, v20, v21, v22, v23, v24, v25]))]) (fun u => []) D) 0 0 := by
  refine CT.ofW (by decide +kernel) (Nat.le_of_ble_eq_true rfl) ?_
  intro p e s m below meth c A ls hcs hP hK hD hX hA hS hl
  obtain ⟨hx, hb, hr, hml, hown, hg, hlocks, hin⟩ := hcs
  have hown : s.vm.findClass RX6 = some m.cls := hown
  have hl : lv_has ls 5 [(0, .ref h0), (1, .int 1), (2, .int x0)] := hl
  refine lv_aload_n hx hb dX6_set_0 rfl (lv_at hl 0 rfl) ?_
  refine lv_aload_n hx hb dX6_set_1 rfl (lv_at hl 0 rfl) ?_
  refine lv_iload_n hx hb dX6_set_2 rfl (lv_at hl 1 rfl) ?_
  refine cVi (n := 1) (As := [.int 1]) (rest := [.ref h0]) (wr := [(h0, .inr (6, [v0, v1, v2, v3, v4, v5, v6, .int 2, v7, v8, v9, v10, v11, v12, v13, v14, v15, v16, v17, v18, v19, v20, v21, v22, v23, v24, v25]))]) (tr := []) hx hb hml hown hg okN (cX6_isSample_81 l D h0 v0 v1 v2 v3 v4 v5 v6 v7 v8 v9 v10 v11 v12 v13 v14 v15 v16 v17 v18 v19 v20 v21 v22 v23 v24 v25) (mwV k1440 k1442 k57 k92 k1443) ⟨rfl, by decide, by decide, by decide +kernel⟩ ⟨rfl, rfl, (Nat.le_of_ble_eq_true rfl), (Nat.le_of_ble_eq_true rfl)⟩ hP hD hK hS xn [0] [] [0] [] [] rfl (by decide) rfl rfl (by decide) (by decide) rfl rfl (aNil hA hS) (aNil hA hS) 0 rfl rfl rfl hl.1 rfl (Nat.le_of_ble_eq_true rfl) dX6_set_3 ⟨(Nat.le_of_ble_eq_true rfl), (Nat.le_of_ble_eq_true rfl)⟩ (fun u H locs hφ hP hD hK hS hk => ?_)
  have hP : va_P D vwCl [(h0, .inr (6, [v0, v1, v2, v3, v4, v5, v6, .int 2, v7, v8, v9, v10, v11, v12, v13, v14, v15, v16, v17, v18, v19, v20, v21, v22, v23, v24, v25]))] H := hP
  have hD : va_D A [(h0, .inr (6, [v0, v1, v2, v3, v4, v5, v6, .int 2, v7, v8, v9, v10, v11, v12, v13, v14, v15, v16, v17, v18, v19, v20, v21, v22, v23, v24, v25]))] := hD
  have hK : va_K D vwCl [] s := hK
  refine W.widen (k := 0) (n := 0) (Nat.le_of_ble_eq_true rfl) (Nat.le_of_ble_eq_true rfl) ?_
  refine lv_if_ne (tgt := 13) hx hb dX6_set_6 (by decide) (fun _ => ?_) (fun c9 => absurd c9 (by decide))
  refine lv_iload_n hx hb dX6_set_13 rfl (lv_at hl 2 rfl) ?_
  refine lv_i2l (v := x0.toInt64) hx hb dX6_set_14 rfl ?_
  refine lv_ldc2 hx hb hown (hg _ k1567) dX6_set_15 ?_
  refine lv_ldc2 hx hb hown (hg _ k1568) dX6_set_18 ?_
  refine cSi (n := 3) (As := [.long x0.toInt64, .long (-9999), .long 9999]) (rest := [.ref h0]) (wr := [(h0, .inr (6, [v0, v1, v2, v3, v4, v5, v6, .int 2, v7, v8, v9, v10, v11, v12, v13, v14, v15, v16, v17, v18, v19, v20, v21, v22, v23, v24, v25]))]) (tr := []) hx hb hml hown hg okN (cX6_in_170 l D x0 d0) (mwS k1317 k1318 k92 k1319) ⟨rfl, by decide, by decide, by decide +kernel⟩ ⟨rfl, rfl, (Nat.le_of_ble_eq_true rfl), (Nat.le_of_ble_eq_true rfl)⟩ hP hD hK hS xn [] [] [0] [] [] rfl (by decide) rfl rfl (by decide) (by decide) rfl rfl (aNil hA hS) (aNil hA hS) rfl hl.1 rfl (Nat.le_of_ble_eq_true rfl) dX6_set_21 ⟨(Nat.le_of_ble_eq_true rfl), (Nat.le_of_ble_eq_true rfl)⟩ (fun u H locs hφ hP hD hK hS hk => ?_)
  have hP : va_P D vwCl [(h0, .inr (6, [v0, v1, v2, v3, v4, v5, v6, .int 2, v7, v8, v9, v10, v11, v12, v13, v14, v15, v16, v17, v18, v19, v20, v21, v22, v23, v24, v25]))] H := hP
  have hD : va_D A [(h0, .inr (6, [v0, v1, v2, v3, v4, v5, v6, .int 2, v7, v8, v9, v10, v11, v12, v13, v14, v15, v16, v17, v18, v19, v20, v21, v22, v23, v24, v25]))] := hD
  have hK : va_K D vwCl [] s := hK
  refine W.widen (k := 0) (n := 0) (Nat.le_of_ble_eq_true rfl) (Nat.le_of_ble_eq_true rfl) ?_
  refine lv_if_eq (tgt := 31) hx hb dX6_set_24 (by decide) (fun _ => ?_) (fun c9 => absurd (by decide) c9)
  refine lv_iconst (v := 2) hx hb dX6_set_31 (by decide) ?_
  refine va_put (D := D) (ci := 6) (v := .int 2) (ty := .int) (C := RX6) (T := TX6) (N := 27) hx hb hg inX6 tyX6 tyX6_ok nmX6 hown hK hP hD hS 0 rfl rfl 0 (by decide) (hg _ k1219) (fun _ h9 => h9) rfl (by decide +kernel) rfl rfl (Nat.le_of_ble_eq_true rfl) dX6_set_32 (fun H locs hP hD hS => ?_)
  have hP : va_P D vwCl [(h0, .inr (6, [.int 2, v1, v2, v3, v4, v5, v6, .int 2, v7, v8, v9, v10, v11, v12, v13, v14, v15, v16, v17, v18, v19, v20, v21, v22, v23, v24, v25]))] H := hP
  have hD : va_D A [(h0, .inr (6, [.int 2, v1, v2, v3, v4, v5, v6, .int 2, v7, v8, v9, v10, v11, v12, v13, v14, v15, v16, v17, v18, v19, v20, v21, v22, v23, v24, v25]))] := hD
  refine lv_aload_n hx hb dX6_set_35 rfl (lv_at hl 0 rfl) ?_
  refine va_get (D := D) (ci := 6) (v := .int 2) (C := RX6) (T := TX6) (N := 27) hx hb hg inX6 hown hK hP 0 rfl rfl 0 (by decide) (hg _ k1219) (fun _ h9 => h9) rfl dX6_set_36 ?_
  refine lv_if_le (tgt := 44) hx hb dX6_set_39 (by decide) (fun c9 => absurd c9 (by decide)) (fun _ => ?_)
  refine lv_lconst (v := 0) hx hb dX6_set_42 (by decide) ?_
  exact fl hx hb hr hlocks hP hD hK hS (()) trivial rfl [0] [] rfl (by decide) rfl (Nat.le_of_ble_eq_true rfl) (Nat.le_of_ble_eq_true rfl) dX6_set_43
set_option maxHeartbeats 4000000 in
set_option maxRecDepth 100000 in
theorem cX6_set_178 (l : Launch) (D : va_G) (h0 : Nat) (x0 : Int32) (h1 : Nat) (v0 : Value) (v1 : Value) (v2 : Value) (v3 : Value) (v4 : Value) (v5 : Value) (v6 : Value) (v7 : Value) (v8 : Value) (v9 : Value) (v10 : Value) (v11 : Value) (v12 : Value) (v13 : Value) (v14 : Value) (v15 : Value) (v16 : Value) (v17 : Value) (v18 : Value) (v19 : Value) (v20 : Value) (v21 : Value) (v22 : Value) (v23 : Value) (v24 : Value) (f0 : Nat → Int64) (a0 : ClassId) (ef0_6 : f0 6 = 0) (ef0_102 : f0 102 = (-1)) (d0 : ¬ ((lg_cmp x0.toInt64 (-9999)) < 0)) (d1 : ¬ (0 < (lg_cmp x0.toInt64 9999))) : CT l yX6_set cX6_set 5 (some .long) { frames := 2, cells := 0, slots := 0, locals := 46 } [.ref h0, .int 1, .int x0] D [(h0, .inr (6, [v0, .ref h1, v1, v2, v3, v4, v5, .int 2, v6, v7, v8, v9, v10, v11, v12, v13, v14, v15, v16, v17, v18, v19, v20, v21, v22, v23, v24])), (h1, .inl (a0, 609, .inr (.inl f0)))] [(a0, .long)] XN [(h0, .inr (6, [v0, .ref h1, v1, v2, v3, v4, v5, .int 2, v6, v7, v8, v9, v10, v11, v12, v13, v14, v15, v16, v17, v18, v19, v20, v21, v22, v23, v24])), (h1, .inl (a0, 609, .inr (.inl f0)))] (el (fun _ : Unit => True) (fun u => 0) (fun _ => [(h0, .inr (6, [.int 0, .ref h1, v1, v2, v3, v4, v5, .int 2, v6, v7, v8, v9, v10, v11, v12, v13, v14, v15, v16, v17, v18, v19, v20, v21, v22, v23, v24])), (h1, .inl (a0, 609, .inr (.inl (vp_updL f0 6 x0.toInt64))))]) (fun u => [(a0, .long)]) D) 0 0 := by
  refine CT.ofW (by decide +kernel) (Nat.le_of_ble_eq_true rfl) ?_
  intro p e s m below meth c A ls hcs hP hK hD hX hA hS hl
  obtain ⟨hx, hb, hr, hml, hown, hg, hlocks, hin⟩ := hcs
  have hown : s.vm.findClass RX6 = some m.cls := hown
  have hl : lv_has ls 5 [(0, .ref h0), (1, .int 1), (2, .int x0)] := hl
  refine lv_aload_n hx hb dX6_set_0 rfl (lv_at hl 0 rfl) ?_
  refine lv_aload_n hx hb dX6_set_1 rfl (lv_at hl 0 rfl) ?_
  refine lv_iload_n hx hb dX6_set_2 rfl (lv_at hl 1 rfl) ?_
  refine cVi (n := 1) (As := [.int 1]) (rest := [.ref h0]) (wr := [(h0, .inr (6, [v0, .ref h1, v1, v2, v3, v4, v5, .int 2, v6, v7, v8, v9, v10, v11, v12, v13, v14, v15, v16, v17, v18, v19, v20, v21, v22, v23, v24])), (h1, .inl (a0, 609, .inr (.inl f0)))]) (tr := [(a0, .long)]) hx hb hml hown hg okN (cX6_isSample_81 l D h0 v0 (.ref h1) v1 v2 v3 v4 v5 v6 v7 v8 v9 v10 v11 v12 v13 v14 v15 v16 v17 v18 v19 v20 v21 v22 v23 v24) (mwV k1440 k1442 k57 k92 k1443) ⟨rfl, by decide, by decide, by decide +kernel⟩ ⟨rfl, rfl, (Nat.le_of_ble_eq_true rfl), (Nat.le_of_ble_eq_true rfl)⟩ hP hD hK hS xn [0] [] [0, 1] [] [0] rfl (by decide) rfl rfl (by decide) (by decide) rfl rfl (aNil hA hS) (aNil hA hS) 0 rfl rfl rfl hl.1 rfl (Nat.le_of_ble_eq_true rfl) dX6_set_3 ⟨(Nat.le_of_ble_eq_true rfl), (Nat.le_of_ble_eq_true rfl)⟩ (fun u H locs hφ hP hD hK hS hk => ?_)
  have hP : va_P D vwCl [(h0, .inr (6, [v0, .ref h1, v1, v2, v3, v4, v5, .int 2, v6, v7, v8, v9, v10, v11, v12, v13, v14, v15, v16, v17, v18, v19, v20, v21, v22, v23, v24])), (h1, .inl (a0, 609, .inr (.inl f0)))] H := hP
  have hD : va_D A [(h0, .inr (6, [v0, .ref h1, v1, v2, v3, v4, v5, .int 2, v6, v7, v8, v9, v10, v11, v12, v13, v14, v15, v16, v17, v18, v19, v20, v21, v22, v23, v24])), (h1, .inl (a0, 609, .inr (.inl f0)))] := hD
  have hK : va_K D vwCl [(a0, .long)] s := hK
  refine W.widen (k := 0) (n := 0) (Nat.le_of_ble_eq_true rfl) (Nat.le_of_ble_eq_true rfl) ?_
  refine lv_if_ne (tgt := 13) hx hb dX6_set_6 (by decide) (fun _ => ?_) (fun c9 => absurd c9 (by decide))
  refine lv_iload_n hx hb dX6_set_13 rfl (lv_at hl 2 rfl) ?_
  refine lv_i2l (v := x0.toInt64) hx hb dX6_set_14 rfl ?_
  refine lv_ldc2 hx hb hown (hg _ k1567) dX6_set_15 ?_
  refine lv_ldc2 hx hb hown (hg _ k1568) dX6_set_18 ?_
  refine cSi (n := 3) (As := [.long x0.toInt64, .long (-9999), .long 9999]) (rest := [.ref h0]) (wr := [(h0, .inr (6, [v0, .ref h1, v1, v2, v3, v4, v5, .int 2, v6, v7, v8, v9, v10, v11, v12, v13, v14, v15, v16, v17, v18, v19, v20, v21, v22, v23, v24])), (h1, .inl (a0, 609, .inr (.inl f0)))]) (tr := [(a0, .long)]) hx hb hml hown hg okN (cX6_in_172 l D x0 d0 d1) (mwS k1317 k1318 k92 k1319) ⟨rfl, by decide, by decide, by decide +kernel⟩ ⟨rfl, rfl, (Nat.le_of_ble_eq_true rfl), (Nat.le_of_ble_eq_true rfl)⟩ hP hD hK hS xn [] [] [0, 1] [] [0] rfl (by decide) rfl rfl (by decide) (by decide) rfl rfl (aNil hA hS) (aNil hA hS) rfl hl.1 rfl (Nat.le_of_ble_eq_true rfl) dX6_set_21 ⟨(Nat.le_of_ble_eq_true rfl), (Nat.le_of_ble_eq_true rfl)⟩ (fun u H locs hφ hP hD hK hS hk => ?_)
  have hP : va_P D vwCl [(h0, .inr (6, [v0, .ref h1, v1, v2, v3, v4, v5, .int 2, v6, v7, v8, v9, v10, v11, v12, v13, v14, v15, v16, v17, v18, v19, v20, v21, v22, v23, v24])), (h1, .inl (a0, 609, .inr (.inl f0)))] H := hP
  have hD : va_D A [(h0, .inr (6, [v0, .ref h1, v1, v2, v3, v4, v5, .int 2, v6, v7, v8, v9, v10, v11, v12, v13, v14, v15, v16, v17, v18, v19, v20, v21, v22, v23, v24])), (h1, .inl (a0, 609, .inr (.inl f0)))] := hD
  have hK : va_K D vwCl [(a0, .long)] s := hK
  refine W.widen (k := 0) (n := 0) (Nat.le_of_ble_eq_true rfl) (Nat.le_of_ble_eq_true rfl) ?_
  refine lv_if_eq (tgt := 31) hx hb dX6_set_24 (by decide) (fun c9 => absurd c9 (by decide)) (fun _ => ?_)
  refine lv_iconst (v := 0) hx hb dX6_set_27 (by decide) ?_
  refine lv_goto (tgt := 32) hx hb dX6_set_28 (by decide) ?_
  refine va_put (D := D) (ci := 6) (v := .int 0) (ty := .int) (C := RX6) (T := TX6) (N := 27) hx hb hg inX6 tyX6 tyX6_ok nmX6 hown hK hP hD hS 0 rfl rfl 0 (by decide) (hg _ k1219) (fun _ h9 => h9) rfl (by decide +kernel) rfl rfl (Nat.le_of_ble_eq_true rfl) dX6_set_32 (fun H locs hP hD hS => ?_)
  have hP : va_P D vwCl [(h0, .inr (6, [.int 0, .ref h1, v1, v2, v3, v4, v5, .int 2, v6, v7, v8, v9, v10, v11, v12, v13, v14, v15, v16, v17, v18, v19, v20, v21, v22, v23, v24])), (h1, .inl (a0, 609, .inr (.inl f0)))] H := hP
  have hD : va_D A [(h0, .inr (6, [.int 0, .ref h1, v1, v2, v3, v4, v5, .int 2, v6, v7, v8, v9, v10, v11, v12, v13, v14, v15, v16, v17, v18, v19, v20, v21, v22, v23, v24])), (h1, .inl (a0, 609, .inr (.inl f0)))] := hD
  refine lv_aload_n hx hb dX6_set_35 rfl (lv_at hl 0 rfl) ?_
  refine va_get (D := D) (ci := 6) (v := .int 0) (C := RX6) (T := TX6) (N := 27) hx hb hg inX6 hown hK hP 0 rfl rfl 0 (by decide) (hg _ k1219) (fun _ h9 => h9) rfl dX6_set_36 ?_
  refine lv_if_le (tgt := 44) hx hb dX6_set_39 (by decide) (fun _ => ?_) (fun c9 => absurd (by decide) c9)
  refine lv_aload_n hx hb dX6_set_44 rfl (lv_at hl 0 rfl) ?_
  refine lv_iload_n hx hb dX6_set_45 rfl (lv_at hl 1 rfl) ?_
  refine cVi (n := 1) (As := [.int 1]) (rest := []) (wr := [(h0, .inr (6, [.int 0, .ref h1, v1, v2, v3, v4, v5, .int 2, v6, v7, v8, v9, v10, v11, v12, v13, v14, v15, v16, v17, v18, v19, v20, v21, v22, v23, v24])), (h1, .inl (a0, 609, .inr (.inl f0)))]) (tr := [(a0, .long)]) hx hb hml hown hg okN (cX6_isPresent_53 l D h0 h1 (.int 0) v1 v2 v3 v4 v5 (.int 2) v6 v7 v8 v9 v10 v11 v12 v13 v14 v15 v16 v17 v18 v19 v20 v21 v22 v23 v24 f0 a0 ef0_102) (mwV k1432 k1434 k56 k92 k1435) ⟨rfl, by decide, by decide, by decide +kernel⟩ ⟨rfl, rfl, (Nat.le_of_ble_eq_true rfl), (Nat.le_of_ble_eq_true rfl)⟩ hP hD hK hS xn [0, 1] [] [0, 1] [0] [0] rfl (by decide) rfl rfl (by decide) (by decide) rfl rfl (aNil hA hS) (aNil hA hS) 0 rfl rfl rfl hl.1 rfl (Nat.le_of_ble_eq_true rfl) dX6_set_46 ⟨(Nat.le_of_ble_eq_true rfl), (Nat.le_of_ble_eq_true rfl)⟩ (fun u H locs hφ hP hD hK hS hk => ?_)
  have hP : va_P D vwCl [(h0, .inr (6, [.int 0, .ref h1, v1, v2, v3, v4, v5, .int 2, v6, v7, v8, v9, v10, v11, v12, v13, v14, v15, v16, v17, v18, v19, v20, v21, v22, v23, v24])), (h1, .inl (a0, 609, .inr (.inl f0)))] H := hP
  have hD : va_D A [(h0, .inr (6, [.int 0, .ref h1, v1, v2, v3, v4, v5, .int 2, v6, v7, v8, v9, v10, v11, v12, v13, v14, v15, v16, v17, v18, v19, v20, v21, v22, v23, v24])), (h1, .inl (a0, 609, .inr (.inl f0)))] := hD
  have hK : va_K D vwCl [(a0, .long)] s := hK
  refine W.widen (k := 0) (n := 0) (Nat.le_of_ble_eq_true rfl) (Nat.le_of_ble_eq_true rfl) ?_
  refine lv_if_ne (tgt := 63) hx hb dX6_set_49 (by decide) (fun _ => ?_) (fun c9 => absurd c9 (by decide))
  refine lv_aload_n hx hb dX6_set_63 rfl (lv_at hl 0 rfl) ?_
  refine va_get (D := D) (ci := 6) (v := .ref h1) (C := RX6) (T := TX6) (N := 27) hx hb hg inX6 hown hK hP 0 rfl rfl 1 (by decide) (hg _ k1220) (fun _ h9 => h9) rfl dX6_set_64 ?_
  refine lv_iconst (v := 5) hx hb dX6_set_67 (by decide) ?_
  refine lv_iload_n hx hb dX6_set_68 rfl (lv_at hl 1 rfl) ?_
  refine lv_iadd hx hb dX6_set_69 ?_
  refine ti (6) (by decide) ?_
  refine aldL hx hb hK hP 1 0 rfl rfl 6 (by decide) (vin (by decide)) (v := 0) ef0_6 dX6_set_70 ?_
  refine lv_lstore_n (lv' := [(3, .long 0), (0, .ref h0), (1, .int 1), (2, .int x0)]) hx hb dX6_set_71 rfl hl (by decide) rfl (fun ls hl => ?_)
  refine lv_aload_n hx hb dX6_set_72 rfl (lv_at hl 1 rfl) ?_
  refine va_get (D := D) (ci := 6) (v := .ref h1) (C := RX6) (T := TX6) (N := 27) hx hb hg inX6 hown hK hP 0 rfl rfl 1 (by decide) (hg _ k1220) (fun _ h9 => h9) rfl dX6_set_73 ?_
  refine lv_iconst (v := 5) hx hb dX6_set_76 (by decide) ?_
  refine lv_iload_n hx hb dX6_set_77 rfl (lv_at hl 2 rfl) ?_
  refine lv_iadd hx hb dX6_set_78 ?_
  refine ti (6) (by decide) ?_
  refine lv_iload_n hx hb dX6_set_79 rfl (lv_at hl 3 rfl) ?_
  refine lv_i2l (v := x0.toInt64) hx hb dX6_set_80 rfl ?_
  refine astL hx hb hK hP hD hS 1 0 rfl rfl 6 (by decide) (vin (by decide)) dX6_set_81 (fun H locs hP hD hS => ?_)
  have hP : va_P D vwCl [(h0, .inr (6, [.int 0, .ref h1, v1, v2, v3, v4, v5, .int 2, v6, v7, v8, v9, v10, v11, v12, v13, v14, v15, v16, v17, v18, v19, v20, v21, v22, v23, v24])), (h1, .inl (a0, 609, .inr (.inl (vp_updL f0 6 x0.toInt64))))] H := hP
  have hD : va_D A [(h0, .inr (6, [.int 0, .ref h1, v1, v2, v3, v4, v5, .int 2, v6, v7, v8, v9, v10, v11, v12, v13, v14, v15, v16, v17, v18, v19, v20, v21, v22, v23, v24])), (h1, .inl (a0, 609, .inr (.inl (vp_updL f0 6 x0.toInt64))))] := hD
  refine lv_lload_n hx hb dX6_set_82 rfl (lv_at hl 0 rfl) ?_
  exact fl hx hb hr hlocks hP hD hK hS (()) trivial rfl [0, 1] [0] rfl (by decide) rfl (Nat.le_of_ble_eq_true rfl) (Nat.le_of_ble_eq_true rfl) dX6_set_83
set_option maxHeartbeats 4000000 in
set_option maxRecDepth 100000 in
theorem cX6_set_179 (l : Launch) (D : va_G) (h0 : Nat) (h1 : Nat) (v0 : Value) (v1 : Value) (v2 : Value) (v3 : Value) (v4 : Value) (v5 : Value) (v6 : Value) (v7 : Value) (v8 : Value) (v9 : Value) (v10 : Value) (v11 : Value) (v12 : Value) (v13 : Value) (v14 : Value) (v15 : Value) (v16 : Value) (v17 : Value) (v18 : Value) (v19 : Value) (v20 : Value) (v21 : Value) (v22 : Value) (v23 : Value) (v24 : Value) (f0 : Nat → Int64) (a0 : ClassId) (ef0_6 : f0 6 = 0) (ef0_102 : f0 102 = (-1))  : CT l yX6_set cX6_set 5 (some .long) { frames := 2, cells := 0, slots := 0, locals := 46 } [.ref h0, .int 1, .int 0] D [(h0, .inr (6, [v0, .ref h1, v1, v2, v3, v4, v5, .int 2, v6, v7, v8, v9, v10, v11, v12, v13, v14, v15, v16, v17, v18, v19, v20, v21, v22, v23, v24])), (h1, .inl (a0, 609, .inr (.inl f0)))] [(a0, .long)] XN [(h0, .inr (6, [v0, .ref h1, v1, v2, v3, v4, v5, .int 2, v6, v7, v8, v9, v10, v11, v12, v13, v14, v15, v16, v17, v18, v19, v20, v21, v22, v23, v24])), (h1, .inl (a0, 609, .inr (.inl f0)))] (el (fun _ : Unit => True) (fun u => 0) (fun _ => [(h0, .inr (6, [.int 0, .ref h1, v1, v2, v3, v4, v5, .int 2, v6, v7, v8, v9, v10, v11, v12, v13, v14, v15, v16, v17, v18, v19, v20, v21, v22, v23, v24])), (h1, .inl (a0, 609, .inr (.inl (vp_updL f0 6 0))))]) (fun u => [(a0, .long)]) D) 0 0 := by
  refine CT.ofW (by decide +kernel) (Nat.le_of_ble_eq_true rfl) ?_
  intro p e s m below meth c A ls hcs hP hK hD hX hA hS hl
  obtain ⟨hx, hb, hr, hml, hown, hg, hlocks, hin⟩ := hcs
  have hown : s.vm.findClass RX6 = some m.cls := hown
  have hl : lv_has ls 5 [(0, .ref h0), (1, .int 1), (2, .int 0)] := hl
  refine lv_aload_n hx hb dX6_set_0 rfl (lv_at hl 0 rfl) ?_
  refine lv_aload_n hx hb dX6_set_1 rfl (lv_at hl 0 rfl) ?_
  refine lv_iload_n hx hb dX6_set_2 rfl (lv_at hl 1 rfl) ?_
  refine cVi (n := 1) (As := [.int 1]) (rest := [.ref h0]) (wr := [(h0, .inr (6, [v0, .ref h1, v1, v2, v3, v4, v5, .int 2, v6, v7, v8, v9, v10, v11, v12, v13, v14, v15, v16, v17, v18, v19, v20, v21, v22, v23, v24])), (h1, .inl (a0, 609, .inr (.inl f0)))]) (tr := [(a0, .long)]) hx hb hml hown hg okN (cX6_isSample_81 l D h0 v0 (.ref h1) v1 v2 v3 v4 v5 v6 v7 v8 v9 v10 v11 v12 v13 v14 v15 v16 v17 v18 v19 v20 v21 v22 v23 v24) (mwV k1440 k1442 k57 k92 k1443) ⟨rfl, by decide, by decide, by decide +kernel⟩ ⟨rfl, rfl, (Nat.le_of_ble_eq_true rfl), (Nat.le_of_ble_eq_true rfl)⟩ hP hD hK hS xn [0] [] [0, 1] [] [0] rfl (by decide) rfl rfl (by decide) (by decide) rfl rfl (aNil hA hS) (aNil hA hS) 0 rfl rfl rfl hl.1 rfl (Nat.le_of_ble_eq_true rfl) dX6_set_3 ⟨(Nat.le_of_ble_eq_true rfl), (Nat.le_of_ble_eq_true rfl)⟩ (fun u H locs hφ hP hD hK hS hk => ?_)
  have hP : va_P D vwCl [(h0, .inr (6, [v0, .ref h1, v1, v2, v3, v4, v5, .int 2, v6, v7, v8, v9, v10, v11, v12, v13, v14, v15, v16, v17, v18, v19, v20, v21, v22, v23, v24])), (h1, .inl (a0, 609, .inr (.inl f0)))] H := hP
  have hD : va_D A [(h0, .inr (6, [v0, .ref h1, v1, v2, v3, v4, v5, .int 2, v6, v7, v8, v9, v10, v11, v12, v13, v14, v15, v16, v17, v18, v19, v20, v21, v22, v23, v24])), (h1, .inl (a0, 609, .inr (.inl f0)))] := hD
  have hK : va_K D vwCl [(a0, .long)] s := hK
  refine W.widen (k := 0) (n := 0) (Nat.le_of_ble_eq_true rfl) (Nat.le_of_ble_eq_true rfl) ?_
  refine lv_if_ne (tgt := 13) hx hb dX6_set_6 (by decide) (fun _ => ?_) (fun c9 => absurd c9 (by decide))
  refine lv_iload_n hx hb dX6_set_13 rfl (lv_at hl 2 rfl) ?_
  refine lv_i2l (v := 0) hx hb dX6_set_14 (by decide) ?_
  refine lv_ldc2 hx hb hown (hg _ k1567) dX6_set_15 ?_
  refine lv_ldc2 hx hb hown (hg _ k1568) dX6_set_18 ?_
  refine cSi (n := 3) (As := [.long 0, .long (-9999), .long 9999]) (rest := [.ref h0]) (wr := [(h0, .inr (6, [v0, .ref h1, v1, v2, v3, v4, v5, .int 2, v6, v7, v8, v9, v10, v11, v12, v13, v14, v15, v16, v17, v18, v19, v20, v21, v22, v23, v24])), (h1, .inl (a0, 609, .inr (.inl f0)))]) (tr := [(a0, .long)]) hx hb hml hown hg okN (cX6_in_174 l D) (mwS k1317 k1318 k92 k1319) ⟨rfl, by decide, by decide, by decide +kernel⟩ ⟨rfl, rfl, (Nat.le_of_ble_eq_true rfl), (Nat.le_of_ble_eq_true rfl)⟩ hP hD hK hS xn [] [] [0, 1] [] [0] rfl (by decide) rfl rfl (by decide) (by decide) rfl rfl (aNil hA hS) (aNil hA hS) rfl hl.1 rfl (Nat.le_of_ble_eq_true rfl) dX6_set_21 ⟨(Nat.le_of_ble_eq_true rfl), (Nat.le_of_ble_eq_true rfl)⟩ (fun u H locs hφ hP hD hK hS hk => ?_)
  have hP : va_P D vwCl [(h0, .inr (6, [v0, .ref h1, v1, v2, v3, v4, v5, .int 2, v6, v7, v8, v9, v10, v11, v12, v13, v14, v15, v16, v17, v18, v19, v20, v21, v22, v23, v24])), (h1, .inl (a0, 609, .inr (.inl f0)))] H := hP
  have hD : va_D A [(h0, .inr (6, [v0, .ref h1, v1, v2, v3, v4, v5, .int 2, v6, v7, v8, v9, v10, v11, v12, v13, v14, v15, v16, v17, v18, v19, v20, v21, v22, v23, v24])), (h1, .inl (a0, 609, .inr (.inl f0)))] := hD
  have hK : va_K D vwCl [(a0, .long)] s := hK
  refine W.widen (k := 0) (n := 0) (Nat.le_of_ble_eq_true rfl) (Nat.le_of_ble_eq_true rfl) ?_
  refine lv_if_eq (tgt := 31) hx hb dX6_set_24 (by decide) (fun c9 => absurd c9 (by decide)) (fun _ => ?_)
  refine lv_iconst (v := 0) hx hb dX6_set_27 (by decide) ?_
  refine lv_goto (tgt := 32) hx hb dX6_set_28 (by decide) ?_
  refine va_put (D := D) (ci := 6) (v := .int 0) (ty := .int) (C := RX6) (T := TX6) (N := 27) hx hb hg inX6 tyX6 tyX6_ok nmX6 hown hK hP hD hS 0 rfl rfl 0 (by decide) (hg _ k1219) (fun _ h9 => h9) rfl (by decide +kernel) rfl rfl (Nat.le_of_ble_eq_true rfl) dX6_set_32 (fun H locs hP hD hS => ?_)
  have hP : va_P D vwCl [(h0, .inr (6, [.int 0, .ref h1, v1, v2, v3, v4, v5, .int 2, v6, v7, v8, v9, v10, v11, v12, v13, v14, v15, v16, v17, v18, v19, v20, v21, v22, v23, v24])), (h1, .inl (a0, 609, .inr (.inl f0)))] H := hP
  have hD : va_D A [(h0, .inr (6, [.int 0, .ref h1, v1, v2, v3, v4, v5, .int 2, v6, v7, v8, v9, v10, v11, v12, v13, v14, v15, v16, v17, v18, v19, v20, v21, v22, v23, v24])), (h1, .inl (a0, 609, .inr (.inl f0)))] := hD
  refine lv_aload_n hx hb dX6_set_35 rfl (lv_at hl 0 rfl) ?_
  refine va_get (D := D) (ci := 6) (v := .int 0) (C := RX6) (T := TX6) (N := 27) hx hb hg inX6 hown hK hP 0 rfl rfl 0 (by decide) (hg _ k1219) (fun _ h9 => h9) rfl dX6_set_36 ?_
  refine lv_if_le (tgt := 44) hx hb dX6_set_39 (by decide) (fun _ => ?_) (fun c9 => absurd (by decide) c9)
  refine lv_aload_n hx hb dX6_set_44 rfl (lv_at hl 0 rfl) ?_
  refine lv_iload_n hx hb dX6_set_45 rfl (lv_at hl 1 rfl) ?_
  refine cVi (n := 1) (As := [.int 1]) (rest := []) (wr := [(h0, .inr (6, [.int 0, .ref h1, v1, v2, v3, v4, v5, .int 2, v6, v7, v8, v9, v10, v11, v12, v13, v14, v15, v16, v17, v18, v19, v20, v21, v22, v23, v24])), (h1, .inl (a0, 609, .inr (.inl f0)))]) (tr := [(a0, .long)]) hx hb hml hown hg okN (cX6_isPresent_53 l D h0 h1 (.int 0) v1 v2 v3 v4 v5 (.int 2) v6 v7 v8 v9 v10 v11 v12 v13 v14 v15 v16 v17 v18 v19 v20 v21 v22 v23 v24 f0 a0 ef0_102) (mwV k1432 k1434 k56 k92 k1435) ⟨rfl, by decide, by decide, by decide +kernel⟩ ⟨rfl, rfl, (Nat.le_of_ble_eq_true rfl), (Nat.le_of_ble_eq_true rfl)⟩ hP hD hK hS xn [0, 1] [] [0, 1] [0] [0] rfl (by decide) rfl rfl (by decide) (by decide) rfl rfl (aNil hA hS) (aNil hA hS) 0 rfl rfl rfl hl.1 rfl (Nat.le_of_ble_eq_true rfl) dX6_set_46 ⟨(Nat.le_of_ble_eq_true rfl), (Nat.le_of_ble_eq_true rfl)⟩ (fun u H locs hφ hP hD hK hS hk => ?_)
  have hP : va_P D vwCl [(h0, .inr (6, [.int 0, .ref h1, v1, v2, v3, v4, v5, .int 2, v6, v7, v8, v9, v10, v11, v12, v13, v14, v15, v16, v17, v18, v19, v20, v21, v22, v23, v24])), (h1, .inl (a0, 609, .inr (.inl f0)))] H := hP
  have hD : va_D A [(h0, .inr (6, [.int 0, .ref h1, v1, v2, v3, v4, v5, .int 2, v6, v7, v8, v9, v10, v11, v12, v13, v14, v15, v16, v17, v18, v19, v20, v21, v22, v23, v24])), (h1, .inl (a0, 609, .inr (.inl f0)))] := hD
  have hK : va_K D vwCl [(a0, .long)] s := hK
  refine W.widen (k := 0) (n := 0) (Nat.le_of_ble_eq_true rfl) (Nat.le_of_ble_eq_true rfl) ?_
  refine lv_if_ne (tgt := 63) hx hb dX6_set_49 (by decide) (fun _ => ?_) (fun c9 => absurd c9 (by decide))
  refine lv_aload_n hx hb dX6_set_63 rfl (lv_at hl 0 rfl) ?_
  refine va_get (D := D) (ci := 6) (v := .ref h1) (C := RX6) (T := TX6) (N := 27) hx hb hg inX6 hown hK hP 0 rfl rfl 1 (by decide) (hg _ k1220) (fun _ h9 => h9) rfl dX6_set_64 ?_
  refine lv_iconst (v := 5) hx hb dX6_set_67 (by decide) ?_
  refine lv_iload_n hx hb dX6_set_68 rfl (lv_at hl 1 rfl) ?_
  refine lv_iadd hx hb dX6_set_69 ?_
  refine ti (6) (by decide) ?_
  refine aldL hx hb hK hP 1 0 rfl rfl 6 (by decide) (vin (by decide)) (v := 0) ef0_6 dX6_set_70 ?_
  refine lv_lstore_n (lv' := [(3, .long 0), (0, .ref h0), (1, .int 1), (2, .int 0)]) hx hb dX6_set_71 rfl hl (by decide) rfl (fun ls hl => ?_)
  refine lv_aload_n hx hb dX6_set_72 rfl (lv_at hl 1 rfl) ?_
  refine va_get (D := D) (ci := 6) (v := .ref h1) (C := RX6) (T := TX6) (N := 27) hx hb hg inX6 hown hK hP 0 rfl rfl 1 (by decide) (hg _ k1220) (fun _ h9 => h9) rfl dX6_set_73 ?_
  refine lv_iconst (v := 5) hx hb dX6_set_76 (by decide) ?_
  refine lv_iload_n hx hb dX6_set_77 rfl (lv_at hl 2 rfl) ?_
  refine lv_iadd hx hb dX6_set_78 ?_
  refine ti (6) (by decide) ?_
  refine lv_iload_n hx hb dX6_set_79 rfl (lv_at hl 3 rfl) ?_
  refine lv_i2l (v := 0) hx hb dX6_set_80 (by decide) ?_
  refine astL hx hb hK hP hD hS 1 0 rfl rfl 6 (by decide) (vin (by decide)) dX6_set_81 (fun H locs hP hD hS => ?_)
  have hP : va_P D vwCl [(h0, .inr (6, [.int 0, .ref h1, v1, v2, v3, v4, v5, .int 2, v6, v7, v8, v9, v10, v11, v12, v13, v14, v15, v16, v17, v18, v19, v20, v21, v22, v23, v24])), (h1, .inl (a0, 609, .inr (.inl (vp_updL f0 6 0))))] H := hP
  have hD : va_D A [(h0, .inr (6, [.int 0, .ref h1, v1, v2, v3, v4, v5, .int 2, v6, v7, v8, v9, v10, v11, v12, v13, v14, v15, v16, v17, v18, v19, v20, v21, v22, v23, v24])), (h1, .inl (a0, 609, .inr (.inl (vp_updL f0 6 0))))] := hD
  refine lv_lload_n hx hb dX6_set_82 rfl (lv_at hl 0 rfl) ?_
  exact fl hx hb hr hlocks hP hD hK hS (()) trivial rfl [0, 1] [0] rfl (by decide) rfl (Nat.le_of_ble_eq_true rfl) (Nat.le_of_ble_eq_true rfl) dX6_set_83
set_option maxHeartbeats 4000000 in
set_option maxRecDepth 100000 in
theorem cX6_set_180 (l : Launch) (D : va_G) (h0 : Nat) (x0 : Int32) (v0 : Value) (v1 : Value) (v2 : Value) (v3 : Value) (v4 : Value) (v5 : Value) (v6 : Value) (v7 : Value) (v8 : Value) (v9 : Value) (v10 : Value) (v11 : Value) (v12 : Value) (v13 : Value) (v14 : Value) (v15 : Value) (v16 : Value) (v17 : Value) (v18 : Value) (v19 : Value) (v20 : Value) (v21 : Value) (v22 : Value) (v23 : Value) (v24 : Value) (v25 : Value)  (d0 : ¬ ((lg_cmp x0.toInt64 (-9999)) < 0)) (d1 : 0 < (lg_cmp x0.toInt64 9999)) : CT l yX6_set cX6_set 5 (some .long) { frames := 2, cells := 0, slots := 0, locals := 46 } [.ref h0, .int 1, .int x0] D [(h0, .inr (6, [v0, v1, v2, v3, v4, v5, v6, .int 2, v7, v8, v9, v10, v11, v12, v13, v14, v15, v16, v17, v18, v19, v20, v21, v22, v23, v24, v25]))] [] XN [(h0, .inr (6, [v0, v1, v2, v3, v4, v5, v6, .int 2, v7, v8, v9, v10, v11, v12, v13, v14, v15, v16, v17, v18, v19, v20, v21, v22, v23, v24, v25]))] (el (fun _ : Unit => True) (fun u => 0) (fun _ => [(h0, .inr (6, [.int 2, v1, v2, v3, v4, v5, v6, .int 2, v7, v8, v9, v10, v11, v12, v13, v14, v15, v16, v17, v18, v19, v20, v21, v22, v23, v24, v25]))]) (fun u => []) D) 0 0 := by
  refine CT.ofW (by decide +kernel) (Nat.le_of_ble_eq_true rfl) ?_
  intro p e s m below meth c A ls hcs hP hK hD hX hA hS hl
  obtain ⟨hx, hb, hr, hml, hown, hg, hlocks, hin⟩ := hcs
  have hown : s.vm.findClass RX6 = some m.cls := hown
  have hl : lv_has ls 5 [(0, .ref h0), (1, .int 1), (2, .int x0)] := hl
  refine lv_aload_n hx hb dX6_set_0 rfl (lv_at hl 0 rfl) ?_
  refine lv_aload_n hx hb dX6_set_1 rfl (lv_at hl 0 rfl) ?_
  refine lv_iload_n hx hb dX6_set_2 rfl (lv_at hl 1 rfl) ?_
  refine cVi (n := 1) (As := [.int 1]) (rest := [.ref h0]) (wr := [(h0, .inr (6, [v0, v1, v2, v3, v4, v5, v6, .int 2, v7, v8, v9, v10, v11, v12, v13, v14, v15, v16, v17, v18, v19, v20, v21, v22, v23, v24, v25]))]) (tr := []) hx hb hml hown hg okN (cX6_isSample_81 l D h0 v0 v1 v2 v3 v4 v5 v6 v7 v8 v9 v10 v11 v12 v13 v14 v15 v16 v17 v18 v19 v20 v21 v22 v23 v24 v25) (mwV k1440 k1442 k57 k92 k1443) ⟨rfl, by decide, by decide, by decide +kernel⟩ ⟨rfl, rfl, (Nat.le_of_ble_eq_true rfl), (Nat.le_of_ble_eq_true rfl)⟩ hP hD hK hS xn [0] [] [0] [] [] rfl (by decide) rfl rfl (by decide) (by decide) rfl rfl (aNil hA hS) (aNil hA hS) 0 rfl rfl rfl hl.1 rfl (Nat.le_of_ble_eq_true rfl) dX6_set_3 ⟨(Nat.le_of_ble_eq_true rfl), (Nat.le_of_ble_eq_true rfl)⟩ (fun u H locs hφ hP hD hK hS hk => ?_)
  have hP : va_P D vwCl [(h0, .inr (6, [v0, v1, v2, v3, v4, v5, v6, .int 2, v7, v8, v9, v10, v11, v12, v13, v14, v15, v16, v17, v18, v19, v20, v21, v22, v23, v24, v25]))] H := hP
  have hD : va_D A [(h0, .inr (6, [v0, v1, v2, v3, v4, v5, v6, .int 2, v7, v8, v9, v10, v11, v12, v13, v14, v15, v16, v17, v18, v19, v20, v21, v22, v23, v24, v25]))] := hD
  have hK : va_K D vwCl [] s := hK
  refine W.widen (k := 0) (n := 0) (Nat.le_of_ble_eq_true rfl) (Nat.le_of_ble_eq_true rfl) ?_
  refine lv_if_ne (tgt := 13) hx hb dX6_set_6 (by decide) (fun _ => ?_) (fun c9 => absurd c9 (by decide))
  refine lv_iload_n hx hb dX6_set_13 rfl (lv_at hl 2 rfl) ?_
  refine lv_i2l (v := x0.toInt64) hx hb dX6_set_14 rfl ?_
  refine lv_ldc2 hx hb hown (hg _ k1567) dX6_set_15 ?_
  refine lv_ldc2 hx hb hown (hg _ k1568) dX6_set_18 ?_
  refine cSi (n := 3) (As := [.long x0.toInt64, .long (-9999), .long 9999]) (rest := [.ref h0]) (wr := [(h0, .inr (6, [v0, v1, v2, v3, v4, v5, v6, .int 2, v7, v8, v9, v10, v11, v12, v13, v14, v15, v16, v17, v18, v19, v20, v21, v22, v23, v24, v25]))]) (tr := []) hx hb hml hown hg okN (cX6_in_176 l D x0 d0 d1) (mwS k1317 k1318 k92 k1319) ⟨rfl, by decide, by decide, by decide +kernel⟩ ⟨rfl, rfl, (Nat.le_of_ble_eq_true rfl), (Nat.le_of_ble_eq_true rfl)⟩ hP hD hK hS xn [] [] [0] [] [] rfl (by decide) rfl rfl (by decide) (by decide) rfl rfl (aNil hA hS) (aNil hA hS) rfl hl.1 rfl (Nat.le_of_ble_eq_true rfl) dX6_set_21 ⟨(Nat.le_of_ble_eq_true rfl), (Nat.le_of_ble_eq_true rfl)⟩ (fun u H locs hφ hP hD hK hS hk => ?_)
  have hP : va_P D vwCl [(h0, .inr (6, [v0, v1, v2, v3, v4, v5, v6, .int 2, v7, v8, v9, v10, v11, v12, v13, v14, v15, v16, v17, v18, v19, v20, v21, v22, v23, v24, v25]))] H := hP
  have hD : va_D A [(h0, .inr (6, [v0, v1, v2, v3, v4, v5, v6, .int 2, v7, v8, v9, v10, v11, v12, v13, v14, v15, v16, v17, v18, v19, v20, v21, v22, v23, v24, v25]))] := hD
  have hK : va_K D vwCl [] s := hK
  refine W.widen (k := 0) (n := 0) (Nat.le_of_ble_eq_true rfl) (Nat.le_of_ble_eq_true rfl) ?_
  refine lv_if_eq (tgt := 31) hx hb dX6_set_24 (by decide) (fun _ => ?_) (fun c9 => absurd (by decide) c9)
  refine lv_iconst (v := 2) hx hb dX6_set_31 (by decide) ?_
  refine va_put (D := D) (ci := 6) (v := .int 2) (ty := .int) (C := RX6) (T := TX6) (N := 27) hx hb hg inX6 tyX6 tyX6_ok nmX6 hown hK hP hD hS 0 rfl rfl 0 (by decide) (hg _ k1219) (fun _ h9 => h9) rfl (by decide +kernel) rfl rfl (Nat.le_of_ble_eq_true rfl) dX6_set_32 (fun H locs hP hD hS => ?_)
  have hP : va_P D vwCl [(h0, .inr (6, [.int 2, v1, v2, v3, v4, v5, v6, .int 2, v7, v8, v9, v10, v11, v12, v13, v14, v15, v16, v17, v18, v19, v20, v21, v22, v23, v24, v25]))] H := hP
  have hD : va_D A [(h0, .inr (6, [.int 2, v1, v2, v3, v4, v5, v6, .int 2, v7, v8, v9, v10, v11, v12, v13, v14, v15, v16, v17, v18, v19, v20, v21, v22, v23, v24, v25]))] := hD
  refine lv_aload_n hx hb dX6_set_35 rfl (lv_at hl 0 rfl) ?_
  refine va_get (D := D) (ci := 6) (v := .int 2) (C := RX6) (T := TX6) (N := 27) hx hb hg inX6 hown hK hP 0 rfl rfl 0 (by decide) (hg _ k1219) (fun _ h9 => h9) rfl dX6_set_36 ?_
  refine lv_if_le (tgt := 44) hx hb dX6_set_39 (by decide) (fun c9 => absurd c9 (by decide)) (fun _ => ?_)
  refine lv_lconst (v := 0) hx hb dX6_set_42 (by decide) ?_
  exact fl hx hb hr hlocks hP hD hK hS (()) trivial rfl [0] [] rfl (by decide) rfl (Nat.le_of_ble_eq_true rfl) (Nat.le_of_ble_eq_true rfl) dX6_set_43
set_option maxHeartbeats 4000000 in
set_option maxRecDepth 100000 in
theorem cX6_in_182 (l : Launch) (D : va_G) (x0 : Int32)  (d0 : (lg_cmp x0.toInt64 0) < 0) : CT l yX6_in cX6_in 6 (some .boolean) { frames := 0, cells := 0, slots := 0, locals := 0 } [.long x0.toInt64, .long 0, .long 999] D [] [] XN [] (ei (fun _ : Unit => True) (fun _ => 0) (fun _ => []) (fun _ => []) D) 0 0 := by
  refine CT.ofR (by decide +kernel) (Nat.le_of_ble_eq_true rfl) ?_
  intro p e s m below meth c A ls hcs hP hK hD hX hA hS hl
  obtain ⟨hx, hb, hr, hml, hown, hg, hlocks, hin⟩ := hcs
  have hown : s.vm.findClass RX6 = some m.cls := hown
  have hl : lv_has ls 6 [(0, .long x0.toInt64), (2, .long 0), (4, .long 999)] := hl
  refine lv_lload_n hx hb dX6_in_0 rfl (lv_at hl 0 rfl) ?_
  refine lv_lload_n hx hb dX6_in_1 rfl (lv_at hl 1 rfl) ?_
  refine W.lcmp hx hb dX6_in_2 ?_
  refine lv_if_lt (tgt := 17) hx hb dX6_in_3 (by decide) (fun _ => ?_) (fun c9 => absurd d0 c9)
  refine lv_iconst (v := 0) hx hb dX6_in_17 (by decide) ?_
  exact fz0 hx hb hr rfl hlocks hK hS (Nat.le_of_ble_eq_true rfl) (Nat.le_of_ble_eq_true rfl) dX6_in_18
set_option maxHeartbeats 4000000 in
set_option maxRecDepth 100000 in
theorem cX6_noise_181 (l : Launch) (D : va_G) (h0 : Nat) (x0 : Int32) (x1 : Int32) (v0 : Value) (v1 : Value) (v2 : Value) (v3 : Value) (v4 : Value) (v5 : Value) (v6 : Value) (v7 : Value) (v8 : Value) (v9 : Value) (v10 : Value) (v11 : Value) (v12 : Value) (v13 : Value) (v14 : Value) (v15 : Value) (v16 : Value) (v17 : Value) (v18 : Value) (v19 : Value) (v20 : Value) (v21 : Value) (v22 : Value) (v23 : Value) (v24 : Value) (v25 : Value) (v26 : Value)  (d0 : (lg_cmp x1.toInt64 0) < 0) : CT l yX6_noise cX6_noise 7 (some .long) { frames := 1, cells := 0, slots := 0, locals := 25 } [.ref h0, .int x0, .int x1] D [(h0, .inr (6, [v0, v1, v2, v3, v4, v5, v6, v7, v8, v9, v10, v11, v12, v13, v14, v15, v16, v17, v18, v19, v20, v21, v22, v23, v24, v25, v26]))] [] XN [(h0, .inr (6, [v0, v1, v2, v3, v4, v5, v6, v7, v8, v9, v10, v11, v12, v13, v14, v15, v16, v17, v18, v19, v20, v21, v22, v23, v24, v25, v26]))] (el (fun _ : Unit => True) (fun u => 0) (fun _ => [(h0, .inr (6, [.int 1, v1, v2, v3, v4, v5, v6, v7, v8, v9, v10, v11, v12, v13, v14, v15, v16, v17, v18, v19, v20, v21, v22, v23, v24, v25, v26]))]) (fun u => []) D) 0 0 := by
  refine CT.ofW (by decide +kernel) (Nat.le_of_ble_eq_true rfl) ?_
  intro p e s m below meth c A ls hcs hP hK hD hX hA hS hl
  obtain ⟨hx, hb, hr, hml, hown, hg, hlocks, hin⟩ := hcs
  have hown : s.vm.findClass RX6 = some m.cls := hown
  have hl : lv_has ls 7 [(0, .ref h0), (1, .int x0), (2, .int x1)] := hl
  refine lv_aload_n hx hb dX6_noise_0 rfl (lv_at hl 0 rfl) ?_
  refine lv_iload_n hx hb dX6_noise_1 rfl (lv_at hl 2 rfl) ?_
  refine lv_i2l (v := x1.toInt64) hx hb dX6_noise_2 rfl ?_
  refine lv_lconst (v := 0) hx hb dX6_noise_3 (by decide) ?_
  refine lv_ldc2 hx hb hown (hg _ k1577) dX6_noise_4 ?_
  refine cSi (n := 3) (As := [.long x1.toInt64, .long 0, .long 999]) (rest := [.ref h0]) (wr := [(h0, .inr (6, [v0, v1, v2, v3, v4, v5, v6, v7, v8, v9, v10, v11, v12, v13, v14, v15, v16, v17, v18, v19, v20, v21, v22, v23, v24, v25, v26]))]) (tr := []) hx hb hml hown hg okN (cX6_in_182 l D x1 d0) (mwS k1317 k1318 k92 k1319) ⟨rfl, by decide, by decide, by decide +kernel⟩ ⟨rfl, rfl, (Nat.le_of_ble_eq_true rfl), (Nat.le_of_ble_eq_true rfl)⟩ hP hD hK hS xn [] [] [0] [] [] rfl (by decide) rfl rfl (by decide) (by decide) rfl rfl (aNil hA hS) (aNil hA hS) rfl hl.1 rfl (Nat.le_of_ble_eq_true rfl) dX6_noise_7 ⟨(Nat.le_of_ble_eq_true rfl), (Nat.le_of_ble_eq_true rfl)⟩ (fun u H locs hφ hP hD hK hS hk => ?_)
  have hP : va_P D vwCl [(h0, .inr (6, [v0, v1, v2, v3, v4, v5, v6, v7, v8, v9, v10, v11, v12, v13, v14, v15, v16, v17, v18, v19, v20, v21, v22, v23, v24, v25, v26]))] H := hP
  have hD : va_D A [(h0, .inr (6, [v0, v1, v2, v3, v4, v5, v6, v7, v8, v9, v10, v11, v12, v13, v14, v15, v16, v17, v18, v19, v20, v21, v22, v23, v24, v25, v26]))] := hD
  have hK : va_K D vwCl [] s := hK
  refine W.widen (k := 0) (n := 0) (Nat.le_of_ble_eq_true rfl) (Nat.le_of_ble_eq_true rfl) ?_
  refine lv_if_eq (tgt := 17) hx hb dX6_noise_10 (by decide) (fun _ => ?_) (fun c9 => absurd (by decide) c9)
  refine lv_iconst (v := 1) hx hb dX6_noise_17 (by decide) ?_
  refine va_put (D := D) (ci := 6) (v := .int 1) (ty := .int) (C := RX6) (T := TX6) (N := 27) hx hb hg inX6 tyX6 tyX6_ok nmX6 hown hK hP hD hS 0 rfl rfl 0 (by decide) (hg _ k1219) (fun _ h9 => h9) rfl (by decide +kernel) rfl rfl (Nat.le_of_ble_eq_true rfl) dX6_noise_18 (fun H locs hP hD hS => ?_)
  have hP : va_P D vwCl [(h0, .inr (6, [.int 1, v1, v2, v3, v4, v5, v6, v7, v8, v9, v10, v11, v12, v13, v14, v15, v16, v17, v18, v19, v20, v21, v22, v23, v24, v25, v26]))] H := hP
  have hD : va_D A [(h0, .inr (6, [.int 1, v1, v2, v3, v4, v5, v6, v7, v8, v9, v10, v11, v12, v13, v14, v15, v16, v17, v18, v19, v20, v21, v22, v23, v24, v25, v26]))] := hD
  refine lv_aload_n hx hb dX6_noise_21 rfl (lv_at hl 0 rfl) ?_
  refine va_get (D := D) (ci := 6) (v := .int 1) (C := RX6) (T := TX6) (N := 27) hx hb hg inX6 hown hK hP 0 rfl rfl 0 (by decide) (hg _ k1219) (fun _ h9 => h9) rfl dX6_noise_22 ?_
  refine lv_if_le (tgt := 30) hx hb dX6_noise_25 (by decide) (fun c9 => absurd c9 (by decide)) (fun _ => ?_)
  refine lv_lconst (v := 0) hx hb dX6_noise_28 (by decide) ?_
  exact fl hx hb hr hlocks hP hD hK hS (()) trivial rfl [0] [] rfl (by decide) rfl (Nat.le_of_ble_eq_true rfl) (Nat.le_of_ble_eq_true rfl) dX6_noise_29
set_option maxHeartbeats 4000000 in
set_option maxRecDepth 100000 in
theorem cX6_in_184 (l : Launch) (D : va_G) (x0 : Int32)  (d0 : ¬ ((lg_cmp x0.toInt64 0) < 0)) (d1 : 0 < (lg_cmp x0.toInt64 999)) : CT l yX6_in cX6_in 6 (some .boolean) { frames := 0, cells := 0, slots := 0, locals := 0 } [.long x0.toInt64, .long 0, .long 999] D [] [] XN [] (ei (fun _ : Unit => True) (fun _ => 0) (fun _ => []) (fun _ => []) D) 0 0 := by
  refine CT.ofR (by decide +kernel) (Nat.le_of_ble_eq_true rfl) ?_
  intro p e s m below meth c A ls hcs hP hK hD hX hA hS hl
  obtain ⟨hx, hb, hr, hml, hown, hg, hlocks, hin⟩ := hcs
  have hown : s.vm.findClass RX6 = some m.cls := hown
  have hl : lv_has ls 6 [(0, .long x0.toInt64), (2, .long 0), (4, .long 999)] := hl
  refine lv_lload_n hx hb dX6_in_0 rfl (lv_at hl 0 rfl) ?_
  refine lv_lload_n hx hb dX6_in_1 rfl (lv_at hl 1 rfl) ?_
  refine W.lcmp hx hb dX6_in_2 ?_
  refine lv_if_lt (tgt := 17) hx hb dX6_in_3 (by decide) (fun c9 => absurd c9 d0) (fun _ => ?_)
  refine lv_lload_n hx hb dX6_in_6 rfl (lv_at hl 0 rfl) ?_
  refine lv_lload hx hb dX6_in_7 (lv_at hl 2 rfl) ?_
  refine W.lcmp hx hb dX6_in_9 ?_
  refine lv_if_gt (tgt := 17) hx hb dX6_in_10 (by decide) (fun _ => ?_) (fun c9 => absurd d1 c9)
  refine lv_iconst (v := 0) hx hb dX6_in_17 (by decide) ?_
  exact fz0 hx hb hr rfl hlocks hK hS (Nat.le_of_ble_eq_true rfl) (Nat.le_of_ble_eq_true rfl) dX6_in_18
set_option maxHeartbeats 4000000 in
set_option maxRecDepth 100000 in
theorem cX6_noise_183 (l : Launch) (D : va_G) (h0 : Nat) (x0 : Int32) (x1 : Int32) (v0 : Value) (v1 : Value) (v2 : Value) (v3 : Value) (v4 : Value) (v5 : Value) (v6 : Value) (v7 : Value) (v8 : Value) (v9 : Value) (v10 : Value) (v11 : Value) (v12 : Value) (v13 : Value) (v14 : Value) (v15 : Value) (v16 : Value) (v17 : Value) (v18 : Value) (v19 : Value) (v20 : Value) (v21 : Value) (v22 : Value) (v23 : Value) (v24 : Value) (v25 : Value) (v26 : Value)  (d0 : ¬ ((lg_cmp x1.toInt64 0) < 0)) (d1 : 0 < (lg_cmp x1.toInt64 999)) : CT l yX6_noise cX6_noise 7 (some .long) { frames := 1, cells := 0, slots := 0, locals := 25 } [.ref h0, .int x0, .int x1] D [(h0, .inr (6, [v0, v1, v2, v3, v4, v5, v6, v7, v8, v9, v10, v11, v12, v13, v14, v15, v16, v17, v18, v19, v20, v21, v22, v23, v24, v25, v26]))] [] XN [(h0, .inr (6, [v0, v1, v2, v3, v4, v5, v6, v7, v8, v9, v10, v11, v12, v13, v14, v15, v16, v17, v18, v19, v20, v21, v22, v23, v24, v25, v26]))] (el (fun _ : Unit => True) (fun u => 0) (fun _ => [(h0, .inr (6, [.int 1, v1, v2, v3, v4, v5, v6, v7, v8, v9, v10, v11, v12, v13, v14, v15, v16, v17, v18, v19, v20, v21, v22, v23, v24, v25, v26]))]) (fun u => []) D) 0 0 := by
  refine CT.ofW (by decide +kernel) (Nat.le_of_ble_eq_true rfl) ?_
  intro p e s m below meth c A ls hcs hP hK hD hX hA hS hl
  obtain ⟨hx, hb, hr, hml, hown, hg, hlocks, hin⟩ := hcs
  have hown : s.vm.findClass RX6 = some m.cls := hown
  have hl : lv_has ls 7 [(0, .ref h0), (1, .int x0), (2, .int x1)] := hl
  refine lv_aload_n hx hb dX6_noise_0 rfl (lv_at hl 0 rfl) ?_
  refine lv_iload_n hx hb dX6_noise_1 rfl (lv_at hl 2 rfl) ?_
  refine lv_i2l (v := x1.toInt64) hx hb dX6_noise_2 rfl ?_
  refine lv_lconst (v := 0) hx hb dX6_noise_3 (by decide) ?_
  refine lv_ldc2 hx hb hown (hg _ k1577) dX6_noise_4 ?_
  refine cSi (n := 3) (As := [.long x1.toInt64, .long 0, .long 999]) (rest := [.ref h0]) (wr := [(h0, .inr (6, [v0, v1, v2, v3, v4, v5, v6, v7, v8, v9, v10, v11, v12, v13, v14, v15, v16, v17, v18, v19, v20, v21, v22, v23, v24, v25, v26]))]) (tr := []) hx hb hml hown hg okN (cX6_in_184 l D x1 d0 d1) (mwS k1317 k1318 k92 k1319) ⟨rfl, by decide, by decide, by decide +kernel⟩ ⟨rfl, rfl, (Nat.le_of_ble_eq_true rfl), (Nat.le_of_ble_eq_true rfl)⟩ hP hD hK hS xn [] [] [0] [] [] rfl (by decide) rfl rfl (by decide) (by decide) rfl rfl (aNil hA hS) (aNil hA hS) rfl hl.1 rfl (Nat.le_of_ble_eq_true rfl) dX6_noise_7 ⟨(Nat.le_of_ble_eq_true rfl), (Nat.le_of_ble_eq_true rfl)⟩ (fun u H locs hφ hP hD hK hS hk => ?_)
  have hP : va_P D vwCl [(h0, .inr (6, [v0, v1, v2, v3, v4, v5, v6, v7, v8, v9, v10, v11, v12, v13, v14, v15, v16, v17, v18, v19, v20, v21, v22, v23, v24, v25, v26]))] H := hP
  have hD : va_D A [(h0, .inr (6, [v0, v1, v2, v3, v4, v5, v6, v7, v8, v9, v10, v11, v12, v13, v14, v15, v16, v17, v18, v19, v20, v21, v22, v23, v24, v25, v26]))] := hD
  have hK : va_K D vwCl [] s := hK
  refine W.widen (k := 0) (n := 0) (Nat.le_of_ble_eq_true rfl) (Nat.le_of_ble_eq_true rfl) ?_
  refine lv_if_eq (tgt := 17) hx hb dX6_noise_10 (by decide) (fun _ => ?_) (fun c9 => absurd (by decide) c9)
  refine lv_iconst (v := 1) hx hb dX6_noise_17 (by decide) ?_
  refine va_put (D := D) (ci := 6) (v := .int 1) (ty := .int) (C := RX6) (T := TX6) (N := 27) hx hb hg inX6 tyX6 tyX6_ok nmX6 hown hK hP hD hS 0 rfl rfl 0 (by decide) (hg _ k1219) (fun _ h9 => h9) rfl (by decide +kernel) rfl rfl (Nat.le_of_ble_eq_true rfl) dX6_noise_18 (fun H locs hP hD hS => ?_)
  have hP : va_P D vwCl [(h0, .inr (6, [.int 1, v1, v2, v3, v4, v5, v6, v7, v8, v9, v10, v11, v12, v13, v14, v15, v16, v17, v18, v19, v20, v21, v22, v23, v24, v25, v26]))] H := hP
  have hD : va_D A [(h0, .inr (6, [.int 1, v1, v2, v3, v4, v5, v6, v7, v8, v9, v10, v11, v12, v13, v14, v15, v16, v17, v18, v19, v20, v21, v22, v23, v24, v25, v26]))] := hD
  refine lv_aload_n hx hb dX6_noise_21 rfl (lv_at hl 0 rfl) ?_
  refine va_get (D := D) (ci := 6) (v := .int 1) (C := RX6) (T := TX6) (N := 27) hx hb hg inX6 hown hK hP 0 rfl rfl 0 (by decide) (hg _ k1219) (fun _ h9 => h9) rfl dX6_noise_22 ?_
  refine lv_if_le (tgt := 30) hx hb dX6_noise_25 (by decide) (fun c9 => absurd c9 (by decide)) (fun _ => ?_)
  refine lv_lconst (v := 0) hx hb dX6_noise_28 (by decide) ?_
  exact fl hx hb hr hlocks hP hD hK hS (()) trivial rfl [0] [] rfl (by decide) rfl (Nat.le_of_ble_eq_true rfl) (Nat.le_of_ble_eq_true rfl) dX6_noise_29
set_option maxHeartbeats 4000000 in
set_option maxRecDepth 100000 in
theorem cX6_anew_186 (l : Launch) (D : va_G) (h0 : Nat) (h1 : Nat) (h2 : Nat) (h3 : Nat) (v0 : Value) (v1 : Value) (v2 : Value) (v3 : Value) (v4 : Value) (v5 : Value) (v6 : Value) (v7 : Value) (v8 : Value) (v9 : Value) (v10 : Value) (v11 : Value) (v12 : Value) (v13 : Value) (v14 : Value) (v15 : Value) (v16 : Value) (v17 : Value) (v18 : Value) (v19 : Value) (v20 : Value) (v21 : Value) (v22 : Value) (f0 : Nat → Int64) (f1 : Nat → Int32) (f2 : Nat → Int32) (a0 : ClassId) (a1 : ClassId) (a2 : ClassId) (ef1_0 : f1 0 = 0) (ef1_1 : f1 1 = 0) (ef2_0 : f2 0 = 0) (ef2_1 : f2 1 = 1)  : CT l yX6_anew cX6_anew 4 none { frames := 0, cells := 0, slots := 0, locals := 0 } [.ref h0] D [(h0, .inr (6, [v0, .ref h1, v1, v2, v3, .ref h3, .ref h2, .int 2, v4, v5, v6, v7, v8, v9, v10, v11, v12, v13, v14, v15, v16, v17, v18, v19, v20, v21, v22])), (h1, .inl (a0, 609, .inr (.inl f0))), (h2, .inl (a1, 48, .inl f1)), (h3, .inl (a2, 48, .inl f2))] [(a0, .long), (a1, .int), (a2, .int)] XN [(h0, .inr (6, [v0, .ref h1, v1, v2, v3, .ref h3, .ref h2, .int 2, v4, v5, v6, v7, v8, v9, v10, v11, v12, v13, v14, v15, v16, v17, v18, v19, v20, v21, v22])), (h1, .inl (a0, 609, .inr (.inl f0))), (h2, .inl (a1, 48, .inl f1)), (h3, .inl (a2, 48, .inl f2))] (ev (fun _ : Unit => True) (fun _ => [(h0, .inr (6, [v0, .ref h1, v1, v2, v3, .ref h3, .ref h2, .int 2, v4, v5, v6, v7, v8, v9, v10, v11, v12, v13, v14, v15, v16, v17, v18, v19, v20, v21, v22])), (h1, .inl (a0, 609, .inr (.inl (vp_updL (vp_updL (vp_updL (vp_updL (vp_updL (vp_updL (vp_updL (vp_updL f0 3 0) 4 0) 5 0) 53 1) 101 (-1)) 6 0) 54 1) 102 (-1))))), (h2, .inl (a1, 48, .inl f1)), (h3, .inl (a2, 48, .inl f2))]) (fun u => [(a0, .long), (a1, .int), (a2, .int)]) D) 0 0 := by
  refine CT.ofW (by decide +kernel) (Nat.le_of_ble_eq_true rfl) ?_
  intro p e s m below meth c A ls hcs hP hK hD hX hA hS hl
  obtain ⟨hx, hb, hr, hml, hown, hg, hlocks, hin⟩ := hcs
  have hown : s.vm.findClass RX6 = some m.cls := hown
  have hl : lv_has ls 4 [(0, .ref h0)] := hl
  refine lv_aload_n hx hb dX6_anew_0 rfl (lv_at hl 0 rfl) ?_
  refine va_get (D := D) (ci := 6) (v := .ref h1) (C := RX6) (T := TX6) (N := 27) hx hb hg inX6 hown hK hP 0 rfl rfl 1 (by decide) (hg _ k1220) (fun _ h9 => h9) rfl dX6_anew_1 ?_
  refine lv_iconst (v := 3) hx hb dX6_anew_4 (by decide) ?_
  refine lv_lconst (v := 0) hx hb dX6_anew_5 (by decide) ?_
  refine astL hx hb hK hP hD hS 1 0 rfl rfl 3 (by decide) (vin (by decide)) dX6_anew_6 (fun H locs hP hD hS => ?_)
  have hP : va_P D vwCl [(h0, .inr (6, [v0, .ref h1, v1, v2, v3, .ref h3, .ref h2, .int 2, v4, v5, v6, v7, v8, v9, v10, v11, v12, v13, v14, v15, v16, v17, v18, v19, v20, v21, v22])), (h1, .inl (a0, 609, .inr (.inl (vp_updL f0 3 0)))), (h2, .inl (a1, 48, .inl f1)), (h3, .inl (a2, 48, .inl f2))] H := hP
  have hD : va_D A [(h0, .inr (6, [v0, .ref h1, v1, v2, v3, .ref h3, .ref h2, .int 2, v4, v5, v6, v7, v8, v9, v10, v11, v12, v13, v14, v15, v16, v17, v18, v19, v20, v21, v22])), (h1, .inl (a0, 609, .inr (.inl (vp_updL f0 3 0)))), (h2, .inl (a1, 48, .inl f1)), (h3, .inl (a2, 48, .inl f2))] := hD
  refine lv_aload_n hx hb dX6_anew_7 rfl (lv_at hl 0 rfl) ?_
  refine va_get (D := D) (ci := 6) (v := .ref h1) (C := RX6) (T := TX6) (N := 27) hx hb hg inX6 hown hK hP 0 rfl rfl 1 (by decide) (hg _ k1220) (fun _ h9 => h9) rfl dX6_anew_8 ?_
  refine lv_iconst (v := 4) hx hb dX6_anew_11 (by decide) ?_
  refine lv_lconst (v := 0) hx hb dX6_anew_12 (by decide) ?_
  refine astL hx hb hK hP hD hS 1 0 rfl rfl 4 (by decide) (vin (by decide)) dX6_anew_13 (fun H locs hP hD hS => ?_)
  have hP : va_P D vwCl [(h0, .inr (6, [v0, .ref h1, v1, v2, v3, .ref h3, .ref h2, .int 2, v4, v5, v6, v7, v8, v9, v10, v11, v12, v13, v14, v15, v16, v17, v18, v19, v20, v21, v22])), (h1, .inl (a0, 609, .inr (.inl (vp_updL (vp_updL f0 3 0) 4 0)))), (h2, .inl (a1, 48, .inl f1)), (h3, .inl (a2, 48, .inl f2))] H := hP
  have hD : va_D A [(h0, .inr (6, [v0, .ref h1, v1, v2, v3, .ref h3, .ref h2, .int 2, v4, v5, v6, v7, v8, v9, v10, v11, v12, v13, v14, v15, v16, v17, v18, v19, v20, v21, v22])), (h1, .inl (a0, 609, .inr (.inl (vp_updL (vp_updL f0 3 0) 4 0)))), (h2, .inl (a1, 48, .inl f1)), (h3, .inl (a2, 48, .inl f2))] := hD
  refine lv_iconst (v := 0) hx hb dX6_anew_14 (by decide) ?_
  refine lv_istore_n (lv' := [(1, .int 0), (0, .ref h0)]) hx hb dX6_anew_15 rfl hl (by decide) rfl (fun ls hl => ?_)
  refine lv_iload_n hx hb dX6_anew_16 rfl (lv_at hl 0 rfl) ?_
  refine lv_aload_n hx hb dX6_anew_17 rfl (lv_at hl 1 rfl) ?_
  refine va_get (D := D) (ci := 6) (v := .int 2) (C := RX6) (T := TX6) (N := 27) hx hb hg inX6 hown hK hP 0 rfl rfl 7 (by decide) (hg _ k1226) (fun _ h9 => h9) rfl dX6_anew_18 ?_
  refine lv_icmp_ge (tgt := 120) hx hb dX6_anew_21 (by decide) (fun c9 => absurd c9 (by decide)) (fun _ => ?_)
  refine lv_aload_n hx hb dX6_anew_24 rfl (lv_at hl 1 rfl) ?_
  refine va_get (D := D) (ci := 6) (v := .ref h1) (C := RX6) (T := TX6) (N := 27) hx hb hg inX6 hown hK hP 0 rfl rfl 1 (by decide) (hg _ k1220) (fun _ h9 => h9) rfl dX6_anew_25 ?_
  refine lv_iconst (v := 5) hx hb dX6_anew_28 (by decide) ?_
  refine lv_iload_n hx hb dX6_anew_29 rfl (lv_at hl 0 rfl) ?_
  refine lv_iadd hx hb dX6_anew_30 ?_
  refine ti (5) (by decide) ?_
  refine lv_aload_n hx hb dX6_anew_31 rfl (lv_at hl 1 rfl) ?_
  refine va_get (D := D) (ci := 6) (v := .ref h2) (C := RX6) (T := TX6) (N := 27) hx hb hg inX6 hown hK hP 0 rfl rfl 6 (by decide) (hg _ k1225) (fun _ h9 => h9) rfl dX6_anew_32 ?_
  refine lv_iload_n hx hb dX6_anew_35 rfl (lv_at hl 0 rfl) ?_
  refine aldI hx hb hK hP 2 1 rfl rfl 0 (by decide) (vin (by decide)) (v := 0) ef1_0 dX6_anew_36 ?_
  refine lv_i2l (v := 0) hx hb dX6_anew_37 (by decide) ?_
  refine astL hx hb hK hP hD hS 1 0 rfl rfl 5 (by decide) (vin (by decide)) dX6_anew_38 (fun H locs hP hD hS => ?_)
  have hP : va_P D vwCl [(h0, .inr (6, [v0, .ref h1, v1, v2, v3, .ref h3, .ref h2, .int 2, v4, v5, v6, v7, v8, v9, v10, v11, v12, v13, v14, v15, v16, v17, v18, v19, v20, v21, v22])), (h1, .inl (a0, 609, .inr (.inl (vp_updL (vp_updL (vp_updL f0 3 0) 4 0) 5 0)))), (h2, .inl (a1, 48, .inl f1)), (h3, .inl (a2, 48, .inl f2))] H := hP
  have hD : va_D A [(h0, .inr (6, [v0, .ref h1, v1, v2, v3, .ref h3, .ref h2, .int 2, v4, v5, v6, v7, v8, v9, v10, v11, v12, v13, v14, v15, v16, v17, v18, v19, v20, v21, v22])), (h1, .inl (a0, 609, .inr (.inl (vp_updL (vp_updL (vp_updL f0 3 0) 4 0) 5 0)))), (h2, .inl (a1, 48, .inl f1)), (h3, .inl (a2, 48, .inl f2))] := hD
  refine lv_iload_n hx hb dX6_anew_39 rfl (lv_at hl 0 rfl) ?_
  refine lv_if_ne (tgt := 52) hx hb dX6_anew_40 (by decide) (fun c9 => absurd (by decide) c9) (fun _ => ?_)
  refine lv_aload_n hx hb dX6_anew_43 rfl (lv_at hl 1 rfl) ?_
  refine va_get (D := D) (ci := 6) (v := .ref h3) (C := RX6) (T := TX6) (N := 27) hx hb hg inX6 hown hK hP 0 rfl rfl 5 (by decide) (hg _ k1224) (fun _ h9 => h9) rfl dX6_anew_44 ?_
  refine lv_iconst (v := 0) hx hb dX6_anew_47 (by decide) ?_
  refine aldI hx hb hK hP 3 2 rfl rfl 0 (by decide) (vin (by decide)) (v := 0) ef2_0 dX6_anew_48 ?_
  refine lv_goto (tgt := 60) hx hb dX6_anew_49 (by decide) ?_
  refine lv_istore_n (lv' := [(2, .int 0), (1, .int 0), (0, .ref h0)]) hx hb dX6_anew_60 rfl hl (by decide) rfl (fun ls hl => ?_)
  refine lv_iload_n hx hb dX6_anew_61 rfl (lv_at hl 1 rfl) ?_
  refine lv_aload_n hx hb dX6_anew_62 rfl (lv_at hl 2 rfl) ?_
  refine va_get (D := D) (ci := 6) (v := .int 2) (C := RX6) (T := TX6) (N := 27) hx hb hg inX6 hown hK hP 0 rfl rfl 7 (by decide) (hg _ k1226) (fun _ h9 => h9) rfl dX6_anew_63 ?_
  refine lv_iconst (v := 1) hx hb dX6_anew_66 (by decide) ?_
  refine lv_isub hx hb dX6_anew_67 ?_
  refine ti (1) (by decide) ?_
  refine lv_icmp_ne (tgt := 80) hx hb dX6_anew_68 (by decide) (fun _ => ?_) (fun c9 => absurd c9 (by decide))
  refine lv_aload_n hx hb dX6_anew_80 rfl (lv_at hl 2 rfl) ?_
  refine va_get (D := D) (ci := 6) (v := .ref h3) (C := RX6) (T := TX6) (N := 27) hx hb hg inX6 hown hK hP 0 rfl rfl 5 (by decide) (hg _ k1224) (fun _ h9 => h9) rfl dX6_anew_81 ?_
  refine lv_iload_n hx hb dX6_anew_84 rfl (lv_at hl 1 rfl) ?_
  refine lv_iconst (v := 1) hx hb dX6_anew_85 (by decide) ?_
  refine lv_iadd hx hb dX6_anew_86 ?_
  refine ti (1) (by decide) ?_
  refine aldI hx hb hK hP 3 2 rfl rfl 1 (by decide) (vin (by decide)) (v := 1) ef2_1 dX6_anew_87 ?_
  refine lv_istore_n (lv' := [(3, .int 1), (2, .int 0), (1, .int 0), (0, .ref h0)]) hx hb dX6_anew_88 rfl hl (by decide) rfl (fun ls hl => ?_)
  refine lv_aload_n hx hb dX6_anew_89 rfl (lv_at hl 3 rfl) ?_
  refine va_get (D := D) (ci := 6) (v := .ref h1) (C := RX6) (T := TX6) (N := 27) hx hb hg inX6 hown hK hP 0 rfl rfl 1 (by decide) (hg _ k1220) (fun _ h9 => h9) rfl dX6_anew_90 ?_
  refine lv_bipush (v := 53) hx hb dX6_anew_93 (by decide) ?_
  refine lv_iload_n hx hb dX6_anew_95 rfl (lv_at hl 2 rfl) ?_
  refine lv_iadd hx hb dX6_anew_96 ?_
  refine ti (53) (by decide) ?_
  refine lv_iload_n hx hb dX6_anew_97 rfl (lv_at hl 0 rfl) ?_
  refine lv_iload_n hx hb dX6_anew_98 rfl (lv_at hl 1 rfl) ?_
  refine lv_isub hx hb dX6_anew_99 ?_
  refine ti (1) (by decide) ?_
  refine lv_i2l (v := 1) hx hb dX6_anew_100 (by decide) ?_
  refine astL hx hb hK hP hD hS 1 0 rfl rfl 53 (by decide) (vin (by decide)) dX6_anew_101 (fun H locs hP hD hS => ?_)
  have hP : va_P D vwCl [(h0, .inr (6, [v0, .ref h1, v1, v2, v3, .ref h3, .ref h2, .int 2, v4, v5, v6, v7, v8, v9, v10, v11, v12, v13, v14, v15, v16, v17, v18, v19, v20, v21, v22])), (h1, .inl (a0, 609, .inr (.inl (vp_updL (vp_updL (vp_updL (vp_updL f0 3 0) 4 0) 5 0) 53 1)))), (h2, .inl (a1, 48, .inl f1)), (h3, .inl (a2, 48, .inl f2))] H := hP
  have hD : va_D A [(h0, .inr (6, [v0, .ref h1, v1, v2, v3, .ref h3, .ref h2, .int 2, v4, v5, v6, v7, v8, v9, v10, v11, v12, v13, v14, v15, v16, v17, v18, v19, v20, v21, v22])), (h1, .inl (a0, 609, .inr (.inl (vp_updL (vp_updL (vp_updL (vp_updL f0 3 0) 4 0) 5 0) 53 1)))), (h2, .inl (a1, 48, .inl f1)), (h3, .inl (a2, 48, .inl f2))] := hD
  refine lv_aload_n hx hb dX6_anew_102 rfl (lv_at hl 3 rfl) ?_
  refine va_get (D := D) (ci := 6) (v := .ref h1) (C := RX6) (T := TX6) (N := 27) hx hb hg inX6 hown hK hP 0 rfl rfl 1 (by decide) (hg _ k1220) (fun _ h9 => h9) rfl dX6_anew_103 ?_
  refine lv_bipush (v := 101) hx hb dX6_anew_106 (by decide) ?_
  refine lv_iload_n hx hb dX6_anew_108 rfl (lv_at hl 2 rfl) ?_
  refine lv_iadd hx hb dX6_anew_109 ?_
  refine ti (101) (by decide) ?_
  refine lv_ldc2 hx hb hown (hg _ k1218) dX6_anew_110 ?_
  refine astL hx hb hK hP hD hS 1 0 rfl rfl 101 (by decide) (vin (by decide)) dX6_anew_113 (fun H locs hP hD hS => ?_)
  have hP : va_P D vwCl [(h0, .inr (6, [v0, .ref h1, v1, v2, v3, .ref h3, .ref h2, .int 2, v4, v5, v6, v7, v8, v9, v10, v11, v12, v13, v14, v15, v16, v17, v18, v19, v20, v21, v22])), (h1, .inl (a0, 609, .inr (.inl (vp_updL (vp_updL (vp_updL (vp_updL (vp_updL f0 3 0) 4 0) 5 0) 53 1) 101 (-1))))), (h2, .inl (a1, 48, .inl f1)), (h3, .inl (a2, 48, .inl f2))] H := hP
  have hD : va_D A [(h0, .inr (6, [v0, .ref h1, v1, v2, v3, .ref h3, .ref h2, .int 2, v4, v5, v6, v7, v8, v9, v10, v11, v12, v13, v14, v15, v16, v17, v18, v19, v20, v21, v22])), (h1, .inl (a0, 609, .inr (.inl (vp_updL (vp_updL (vp_updL (vp_updL (vp_updL f0 3 0) 4 0) 5 0) 53 1) 101 (-1))))), (h2, .inl (a1, 48, .inl f1)), (h3, .inl (a2, 48, .inl f2))] := hD
  refine lv_iinc (v := 1) (lv' := [(1, .int 1), (3, .int 1), (2, .int 0), (0, .ref h0)]) hx hb dX6_anew_114 hl (k := 2) rfl (by decide) (by decide) rfl (fun ls hl => ?_)
  refine lv_goto (tgt := 16) hx hb dX6_anew_117 (by decide) ?_
  refine lv_iload_n hx hb dX6_anew_16 rfl (lv_at hl 0 rfl) ?_
  refine lv_aload_n hx hb dX6_anew_17 rfl (lv_at hl 3 rfl) ?_
  refine va_get (D := D) (ci := 6) (v := .int 2) (C := RX6) (T := TX6) (N := 27) hx hb hg inX6 hown hK hP 0 rfl rfl 7 (by decide) (hg _ k1226) (fun _ h9 => h9) rfl dX6_anew_18 ?_
  refine lv_icmp_ge (tgt := 120) hx hb dX6_anew_21 (by decide) (fun c9 => absurd c9 (by decide)) (fun _ => ?_)
  refine lv_aload_n hx hb dX6_anew_24 rfl (lv_at hl 3 rfl) ?_
  refine va_get (D := D) (ci := 6) (v := .ref h1) (C := RX6) (T := TX6) (N := 27) hx hb hg inX6 hown hK hP 0 rfl rfl 1 (by decide) (hg _ k1220) (fun _ h9 => h9) rfl dX6_anew_25 ?_
  refine lv_iconst (v := 5) hx hb dX6_anew_28 (by decide) ?_
  refine lv_iload_n hx hb dX6_anew_29 rfl (lv_at hl 0 rfl) ?_
  refine lv_iadd hx hb dX6_anew_30 ?_
  refine ti (6) (by decide) ?_
  refine lv_aload_n hx hb dX6_anew_31 rfl (lv_at hl 3 rfl) ?_
  refine va_get (D := D) (ci := 6) (v := .ref h2) (C := RX6) (T := TX6) (N := 27) hx hb hg inX6 hown hK hP 0 rfl rfl 6 (by decide) (hg _ k1225) (fun _ h9 => h9) rfl dX6_anew_32 ?_
  refine lv_iload_n hx hb dX6_anew_35 rfl (lv_at hl 0 rfl) ?_
  refine aldI hx hb hK hP 2 1 rfl rfl 1 (by decide) (vin (by decide)) (v := 0) ef1_1 dX6_anew_36 ?_
  refine lv_i2l (v := 0) hx hb dX6_anew_37 (by decide) ?_
  refine astL hx hb hK hP hD hS 1 0 rfl rfl 6 (by decide) (vin (by decide)) dX6_anew_38 (fun H locs hP hD hS => ?_)
  have hP : va_P D vwCl [(h0, .inr (6, [v0, .ref h1, v1, v2, v3, .ref h3, .ref h2, .int 2, v4, v5, v6, v7, v8, v9, v10, v11, v12, v13, v14, v15, v16, v17, v18, v19, v20, v21, v22])), (h1, .inl (a0, 609, .inr (.inl (vp_updL (vp_updL (vp_updL (vp_updL (vp_updL (vp_updL f0 3 0) 4 0) 5 0) 53 1) 101 (-1)) 6 0)))), (h2, .inl (a1, 48, .inl f1)), (h3, .inl (a2, 48, .inl f2))] H := hP
  have hD : va_D A [(h0, .inr (6, [v0, .ref h1, v1, v2, v3, .ref h3, .ref h2, .int 2, v4, v5, v6, v7, v8, v9, v10, v11, v12, v13, v14, v15, v16, v17, v18, v19, v20, v21, v22])), (h1, .inl (a0, 609, .inr (.inl (vp_updL (vp_updL (vp_updL (vp_updL (vp_updL (vp_updL f0 3 0) 4 0) 5 0) 53 1) 101 (-1)) 6 0)))), (h2, .inl (a1, 48, .inl f1)), (h3, .inl (a2, 48, .inl f2))] := hD
  refine lv_iload_n hx hb dX6_anew_39 rfl (lv_at hl 0 rfl) ?_
  refine lv_if_ne (tgt := 52) hx hb dX6_anew_40 (by decide) (fun _ => ?_) (fun c9 => absurd c9 (by decide))
  refine lv_aload_n hx hb dX6_anew_52 rfl (lv_at hl 3 rfl) ?_
  refine va_get (D := D) (ci := 6) (v := .ref h3) (C := RX6) (T := TX6) (N := 27) hx hb hg inX6 hown hK hP 0 rfl rfl 5 (by decide) (hg _ k1224) (fun _ h9 => h9) rfl dX6_anew_53 ?_
  refine lv_iload_n hx hb dX6_anew_56 rfl (lv_at hl 0 rfl) ?_
  refine lv_iconst (v := 1) hx hb dX6_anew_57 (by decide) ?_
  refine lv_isub hx hb dX6_anew_58 ?_
  refine ti (0) (by decide) ?_
  refine aldI hx hb hK hP 3 2 rfl rfl 0 (by decide) (vin (by decide)) (v := 0) ef2_0 dX6_anew_59 ?_
  refine lv_istore_n (lv' := [(2, .int 0), (1, .int 1), (3, .int 1), (0, .ref h0)]) hx hb dX6_anew_60 rfl hl (by decide) rfl (fun ls hl => ?_)
  refine lv_iload_n hx hb dX6_anew_61 rfl (lv_at hl 1 rfl) ?_
  refine lv_aload_n hx hb dX6_anew_62 rfl (lv_at hl 3 rfl) ?_
  refine va_get (D := D) (ci := 6) (v := .int 2) (C := RX6) (T := TX6) (N := 27) hx hb hg inX6 hown hK hP 0 rfl rfl 7 (by decide) (hg _ k1226) (fun _ h9 => h9) rfl dX6_anew_63 ?_
  refine lv_iconst (v := 1) hx hb dX6_anew_66 (by decide) ?_
  refine lv_isub hx hb dX6_anew_67 ?_
  refine ti (1) (by decide) ?_
  refine lv_icmp_ne (tgt := 80) hx hb dX6_anew_68 (by decide) (fun c9 => absurd (by decide) c9) (fun _ => ?_)
  refine lv_aload_n hx hb dX6_anew_71 rfl (lv_at hl 3 rfl) ?_
  refine va_get (D := D) (ci := 6) (v := .ref h3) (C := RX6) (T := TX6) (N := 27) hx hb hg inX6 hown hK hP 0 rfl rfl 5 (by decide) (hg _ k1224) (fun _ h9 => h9) rfl dX6_anew_72 ?_
  refine lv_iload_n hx hb dX6_anew_75 rfl (lv_at hl 1 rfl) ?_
  refine aldI hx hb hK hP 3 2 rfl rfl 1 (by decide) (vin (by decide)) (v := 1) ef2_1 dX6_anew_76 ?_
  refine lv_goto (tgt := 88) hx hb dX6_anew_77 (by decide) ?_
  refine lv_istore_n (lv' := [(3, .int 1), (2, .int 0), (1, .int 1), (0, .ref h0)]) hx hb dX6_anew_88 rfl hl (by decide) rfl (fun ls hl => ?_)
  refine lv_aload_n hx hb dX6_anew_89 rfl (lv_at hl 3 rfl) ?_
  refine va_get (D := D) (ci := 6) (v := .ref h1) (C := RX6) (T := TX6) (N := 27) hx hb hg inX6 hown hK hP 0 rfl rfl 1 (by decide) (hg _ k1220) (fun _ h9 => h9) rfl dX6_anew_90 ?_
  refine lv_bipush (v := 53) hx hb dX6_anew_93 (by decide) ?_
  refine lv_iload_n hx hb dX6_anew_95 rfl (lv_at hl 2 rfl) ?_
  refine lv_iadd hx hb dX6_anew_96 ?_
  refine ti (54) (by decide) ?_
  refine lv_iload_n hx hb dX6_anew_97 rfl (lv_at hl 0 rfl) ?_
  refine lv_iload_n hx hb dX6_anew_98 rfl (lv_at hl 1 rfl) ?_
  refine lv_isub hx hb dX6_anew_99 ?_
  refine ti (1) (by decide) ?_
  refine lv_i2l (v := 1) hx hb dX6_anew_100 (by decide) ?_
  refine astL hx hb hK hP hD hS 1 0 rfl rfl 54 (by decide) (vin (by decide)) dX6_anew_101 (fun H locs hP hD hS => ?_)
  have hP : va_P D vwCl [(h0, .inr (6, [v0, .ref h1, v1, v2, v3, .ref h3, .ref h2, .int 2, v4, v5, v6, v7, v8, v9, v10, v11, v12, v13, v14, v15, v16, v17, v18, v19, v20, v21, v22])), (h1, .inl (a0, 609, .inr (.inl (vp_updL (vp_updL (vp_updL (vp_updL (vp_updL (vp_updL (vp_updL f0 3 0) 4 0) 5 0) 53 1) 101 (-1)) 6 0) 54 1)))), (h2, .inl (a1, 48, .inl f1)), (h3, .inl (a2, 48, .inl f2))] H := hP
  have hD : va_D A [(h0, .inr (6, [v0, .ref h1, v1, v2, v3, .ref h3, .ref h2, .int 2, v4, v5, v6, v7, v8, v9, v10, v11, v12, v13, v14, v15, v16, v17, v18, v19, v20, v21, v22])), (h1, .inl (a0, 609, .inr (.inl (vp_updL (vp_updL (vp_updL (vp_updL (vp_updL (vp_updL (vp_updL f0 3 0) 4 0) 5 0) 53 1) 101 (-1)) 6 0) 54 1)))), (h2, .inl (a1, 48, .inl f1)), (h3, .inl (a2, 48, .inl f2))] := hD
  refine lv_aload_n hx hb dX6_anew_102 rfl (lv_at hl 3 rfl) ?_
  refine va_get (D := D) (ci := 6) (v := .ref h1) (C := RX6) (T := TX6) (N := 27) hx hb hg inX6 hown hK hP 0 rfl rfl 1 (by decide) (hg _ k1220) (fun _ h9 => h9) rfl dX6_anew_103 ?_
  refine lv_bipush (v := 101) hx hb dX6_anew_106 (by decide) ?_
  refine lv_iload_n hx hb dX6_anew_108 rfl (lv_at hl 2 rfl) ?_
  refine lv_iadd hx hb dX6_anew_109 ?_
  refine ti (102) (by decide) ?_
  refine lv_ldc2 hx hb hown (hg _ k1218) dX6_anew_110 ?_
  refine astL hx hb hK hP hD hS 1 0 rfl rfl 102 (by decide) (vin (by decide)) dX6_anew_113 (fun H locs hP hD hS => ?_)
  have hP : va_P D vwCl [(h0, .inr (6, [v0, .ref h1, v1, v2, v3, .ref h3, .ref h2, .int 2, v4, v5, v6, v7, v8, v9, v10, v11, v12, v13, v14, v15, v16, v17, v18, v19, v20, v21, v22])), (h1, .inl (a0, 609, .inr (.inl (vp_updL (vp_updL (vp_updL (vp_updL (vp_updL (vp_updL (vp_updL (vp_updL f0 3 0) 4 0) 5 0) 53 1) 101 (-1)) 6 0) 54 1) 102 (-1))))), (h2, .inl (a1, 48, .inl f1)), (h3, .inl (a2, 48, .inl f2))] H := hP
  have hD : va_D A [(h0, .inr (6, [v0, .ref h1, v1, v2, v3, .ref h3, .ref h2, .int 2, v4, v5, v6, v7, v8, v9, v10, v11, v12, v13, v14, v15, v16, v17, v18, v19, v20, v21, v22])), (h1, .inl (a0, 609, .inr (.inl (vp_updL (vp_updL (vp_updL (vp_updL (vp_updL (vp_updL (vp_updL (vp_updL f0 3 0) 4 0) 5 0) 53 1) 101 (-1)) 6 0) 54 1) 102 (-1))))), (h2, .inl (a1, 48, .inl f1)), (h3, .inl (a2, 48, .inl f2))] := hD
  refine lv_iinc (v := 2) (lv' := [(1, .int 2), (3, .int 1), (2, .int 0), (0, .ref h0)]) hx hb dX6_anew_114 hl (k := 2) rfl (by decide) (by decide) rfl (fun ls hl => ?_)
  refine lv_goto (tgt := 16) hx hb dX6_anew_117 (by decide) ?_
  refine lv_iload_n hx hb dX6_anew_16 rfl (lv_at hl 0 rfl) ?_
  refine lv_aload_n hx hb dX6_anew_17 rfl (lv_at hl 3 rfl) ?_
  refine va_get (D := D) (ci := 6) (v := .int 2) (C := RX6) (T := TX6) (N := 27) hx hb hg inX6 hown hK hP 0 rfl rfl 7 (by decide) (hg _ k1226) (fun _ h9 => h9) rfl dX6_anew_18 ?_
  refine lv_icmp_ge (tgt := 120) hx hb dX6_anew_21 (by decide) (fun _ => ?_) (fun c9 => absurd (by decide) c9)
  exact fv hx hb hr hlocks hP hD hK hS (()) trivial [0, 1, 2, 3] [0, 1, 2] rfl (by decide) rfl (Nat.le_of_ble_eq_true rfl) (Nat.le_of_ble_eq_true rfl) dX6_anew_120
set_option maxHeartbeats 4000000 in
set_option maxRecDepth 100000 in
theorem cX6_reset_185 (l : Launch) (D : va_G) (h0 : Nat) (h1 : Nat) (h2 : Nat) (h3 : Nat) (v0 : Value) (v1 : Value) (v2 : Value) (v3 : Value) (v4 : Value) (v5 : Value) (v6 : Value) (v7 : Value) (v8 : Value) (v9 : Value) (v10 : Value) (v11 : Value) (v12 : Value) (v13 : Value) (v14 : Value) (v15 : Value) (v16 : Value) (v17 : Value) (v18 : Value) (v19 : Value) (v20 : Value) (v21 : Value) (v22 : Value) (f0 : Nat → Int64) (f1 : Nat → Int32) (f2 : Nat → Int32) (a0 : ClassId) (a1 : ClassId) (a2 : ClassId) (ef0_4 : f0 4 = 0) (ef1_0 : f1 0 = 0) (ef1_1 : f1 1 = 0) (ef2_0 : f2 0 = 0) (ef2_1 : f2 1 = 1)  : CT l yX6_reset cX6_reset 2 (some .int) { frames := 1, cells := 0, slots := 0, locals := 23 } [.ref h0] D [(h0, .inr (6, [v0, .ref h1, v1, v2, v3, .ref h3, .ref h2, .int 2, v4, v5, v6, v7, v8, v9, v10, v11, v12, v13, v14, v15, v16, v17, v18, v19, v20, v21, v22])), (h1, .inl (a0, 609, .inr (.inl f0))), (h2, .inl (a1, 48, .inl f1)), (h3, .inl (a2, 48, .inl f2))] [(a0, .long), (a1, .int), (a2, .int)] XN [(h0, .inr (6, [v0, .ref h1, v1, v2, v3, .ref h3, .ref h2, .int 2, v4, v5, v6, v7, v8, v9, v10, v11, v12, v13, v14, v15, v16, v17, v18, v19, v20, v21, v22])), (h1, .inl (a0, 609, .inr (.inl f0))), (h2, .inl (a1, 48, .inl f1)), (h3, .inl (a2, 48, .inl f2))] (ei (fun _ : Unit => True) (fun u => 0) (fun _ => [(h0, .inr (6, [.int 0, .ref h1, v1, v2, v3, .ref h3, .ref h2, .int 2, v4, v5, v6, v7, v8, v9, v10, v11, v12, v13, v14, v15, v16, v17, v18, v19, v20, v21, v22])), (h1, .inl (a0, 609, .inr (.inl (vp_updL (vp_updL (vp_updL (vp_updL (vp_updL (vp_updL (vp_updL (vp_updL f0 3 0) 4 0) 5 0) 53 1) 101 (-1)) 6 0) 54 1) 102 (-1))))), (h2, .inl (a1, 48, .inl f1)), (h3, .inl (a2, 48, .inl f2))]) (fun u => [(a0, .long), (a1, .int), (a2, .int)]) D) 0 0 := by
  refine CT.ofW (by decide +kernel) (Nat.le_of_ble_eq_true rfl) ?_
  intro p e s m below meth c A ls hcs hP hK hD hX hA hS hl
  obtain ⟨hx, hb, hr, hml, hown, hg, hlocks, hin⟩ := hcs
  have hown : s.vm.findClass RX6 = some m.cls := hown
  have hl : lv_has ls 2 [(0, .ref h0)] := hl
  refine lv_aload_n hx hb dX6_reset_0 rfl (lv_at hl 0 rfl) ?_
  refine lv_iconst (v := 0) hx hb dX6_reset_1 (by decide) ?_
  refine va_put (D := D) (ci := 6) (v := .int 0) (ty := .int) (C := RX6) (T := TX6) (N := 27) hx hb hg inX6 tyX6 tyX6_ok nmX6 hown hK hP hD hS 0 rfl rfl 0 (by decide) (hg _ k1219) (fun _ h9 => h9) rfl (by decide +kernel) rfl rfl (Nat.le_of_ble_eq_true rfl) dX6_reset_2 (fun H locs hP hD hS => ?_)
  have hP : va_P D vwCl [(h0, .inr (6, [.int 0, .ref h1, v1, v2, v3, .ref h3, .ref h2, .int 2, v4, v5, v6, v7, v8, v9, v10, v11, v12, v13, v14, v15, v16, v17, v18, v19, v20, v21, v22])), (h1, .inl (a0, 609, .inr (.inl f0))), (h2, .inl (a1, 48, .inl f1)), (h3, .inl (a2, 48, .inl f2))] H := hP
  have hD : va_D A [(h0, .inr (6, [.int 0, .ref h1, v1, v2, v3, .ref h3, .ref h2, .int 2, v4, v5, v6, v7, v8, v9, v10, v11, v12, v13, v14, v15, v16, v17, v18, v19, v20, v21, v22])), (h1, .inl (a0, 609, .inr (.inl f0))), (h2, .inl (a1, 48, .inl f1)), (h3, .inl (a2, 48, .inl f2))] := hD
  refine lv_aload_n hx hb dX6_reset_5 rfl (lv_at hl 0 rfl) ?_
  refine cVi (n := 0) (As := []) (rest := []) (wr := [(h0, .inr (6, [.int 0, .ref h1, v1, v2, v3, .ref h3, .ref h2, .int 2, v4, v5, v6, v7, v8, v9, v10, v11, v12, v13, v14, v15, v16, v17, v18, v19, v20, v21, v22])), (h1, .inl (a0, 609, .inr (.inl f0))), (h2, .inl (a1, 48, .inl f1)), (h3, .inl (a2, 48, .inl f2))]) (tr := [(a0, .long), (a1, .int), (a2, .int)]) hx hb hml hown hg okN (cX6_steps_35 l D h0 h1 (.int 0) v1 v2 v3 (.ref h3) (.ref h2) (.int 2) v4 v5 v6 v7 v8 v9 v10 v11 v12 v13 v14 v15 v16 v17 v18 v19 v20 v21 v22 f0 a0 ef0_4) (mwV k1416 k1418 k52 k92 k1419) ⟨rfl, by decide, by decide, by decide +kernel⟩ ⟨rfl, rfl, (Nat.le_of_ble_eq_true rfl), (Nat.le_of_ble_eq_true rfl)⟩ hP hD hK hS xn [0, 1] [] [0, 1, 2, 3] [0] [0, 1, 2] rfl (by decide) rfl rfl (by decide) (by decide) rfl rfl (aNil hA hS) (aNil hA hS) 0 rfl rfl rfl hl.1 rfl (Nat.le_of_ble_eq_true rfl) dX6_reset_6 ⟨(Nat.le_of_ble_eq_true rfl), (Nat.le_of_ble_eq_true rfl)⟩ (fun u H locs hφ hP hD hK hS hk => ?_)
  have hP : va_P D vwCl [(h0, .inr (6, [.int 0, .ref h1, v1, v2, v3, .ref h3, .ref h2, .int 2, v4, v5, v6, v7, v8, v9, v10, v11, v12, v13, v14, v15, v16, v17, v18, v19, v20, v21, v22])), (h1, .inl (a0, 609, .inr (.inl f0))), (h2, .inl (a1, 48, .inl f1)), (h3, .inl (a2, 48, .inl f2))] H := hP
  have hD : va_D A [(h0, .inr (6, [.int 0, .ref h1, v1, v2, v3, .ref h3, .ref h2, .int 2, v4, v5, v6, v7, v8, v9, v10, v11, v12, v13, v14, v15, v16, v17, v18, v19, v20, v21, v22])), (h1, .inl (a0, 609, .inr (.inl f0))), (h2, .inl (a1, 48, .inl f1)), (h3, .inl (a2, 48, .inl f2))] := hD
  have hK : va_K D vwCl [(a0, .long), (a1, .int), (a2, .int)] s := hK
  refine W.widen (k := 0) (n := 0) (Nat.le_of_ble_eq_true rfl) (Nat.le_of_ble_eq_true rfl) ?_
  refine lv_istore_n (lv' := [(1, .int 0), (0, .ref h0)]) hx hb dX6_reset_9 rfl hl (by decide) rfl (fun ls hl => ?_)
  refine lv_aload_n hx hb dX6_reset_10 rfl (lv_at hl 1 rfl) ?_
  refine cVv (n := 0) (As := []) (rest := []) (wr := []) (tr := []) hx hb hml hown hg okN (cX6_anew_186 l D h0 h1 h2 h3 (.int 0) v1 v2 v3 v4 v5 v6 v7 v8 v9 v10 v11 v12 v13 v14 v15 v16 v17 v18 v19 v20 v21 v22 f0 f1 f2 a0 a1 a2 ef1_0 ef1_1 ef2_0 ef2_1) (mwV k1214 k1216 k35 k92 k1217) ⟨rfl, by decide, by decide, by decide +kernel⟩ ⟨rfl, rfl, (Nat.le_of_ble_eq_true rfl), (Nat.le_of_ble_eq_true rfl)⟩ hP hD hK hS xn [0, 1, 2, 3] [0, 1, 2, 3] [] [0, 1, 2] [] rfl (by decide) rfl rfl (by decide) (by decide) rfl rfl (va_free hD hS hA [0, 1, 2, 3] rfl) (va_free hD hS hA [0, 1, 2, 3] rfl) 0 rfl rfl rfl hl.1 rfl (Nat.le_of_ble_eq_true rfl) dX6_reset_11 ⟨(Nat.le_of_ble_eq_true rfl), (Nat.le_of_ble_eq_true rfl)⟩ (fun u H locs hφ hP hD hK hS hk => ?_)
  have hP : va_P D vwCl [(h0, .inr (6, [.int 0, .ref h1, v1, v2, v3, .ref h3, .ref h2, .int 2, v4, v5, v6, v7, v8, v9, v10, v11, v12, v13, v14, v15, v16, v17, v18, v19, v20, v21, v22])), (h1, .inl (a0, 609, .inr (.inl (vp_updL (vp_updL (vp_updL (vp_updL (vp_updL (vp_updL (vp_updL (vp_updL f0 3 0) 4 0) 5 0) 53 1) 101 (-1)) 6 0) 54 1) 102 (-1))))), (h2, .inl (a1, 48, .inl f1)), (h3, .inl (a2, 48, .inl f2))] H := hP
  have hD : va_D A [(h0, .inr (6, [.int 0, .ref h1, v1, v2, v3, .ref h3, .ref h2, .int 2, v4, v5, v6, v7, v8, v9, v10, v11, v12, v13, v14, v15, v16, v17, v18, v19, v20, v21, v22])), (h1, .inl (a0, 609, .inr (.inl (vp_updL (vp_updL (vp_updL (vp_updL (vp_updL (vp_updL (vp_updL (vp_updL f0 3 0) 4 0) 5 0) 53 1) 101 (-1)) 6 0) 54 1) 102 (-1))))), (h2, .inl (a1, 48, .inl f1)), (h3, .inl (a2, 48, .inl f2))] := hD
  have hK : va_K D vwCl [(a0, .long), (a1, .int), (a2, .int)] s := hK
  refine W.widen (k := 0) (n := 0) (Nat.le_of_ble_eq_true rfl) (Nat.le_of_ble_eq_true rfl) ?_
  refine lv_iload_n hx hb dX6_reset_14 rfl (lv_at hl 0 rfl) ?_
  exact fi hx hb hr hlocks hP hD hK hS (()) trivial rfl [0, 1, 2, 3] [0, 1, 2] rfl (by decide) rfl (Nat.le_of_ble_eq_true rfl) (Nat.le_of_ble_eq_true rfl) dX6_reset_15
set_option maxHeartbeats 4000000 in
set_option maxRecDepth 100000 in
theorem cX6_in_188 (l : Launch) (D : va_G) (x0 : Int32)  (d0 : (lg_cmp x0.toInt64 1) < 0) : CT l yX6_in cX6_in 6 (some .boolean) { frames := 0, cells := 0, slots := 0, locals := 0 } [.long x0.toInt64, .long 1, .long 46] D [] [] XN [] (ei (fun _ : Unit => True) (fun _ => 0) (fun _ => []) (fun _ => []) D) 0 0 := by
  refine CT.ofR (by decide +kernel) (Nat.le_of_ble_eq_true rfl) ?_
  intro p e s m below meth c A ls hcs hP hK hD hX hA hS hl
  obtain ⟨hx, hb, hr, hml, hown, hg, hlocks, hin⟩ := hcs
  have hown : s.vm.findClass RX6 = some m.cls := hown
  have hl : lv_has ls 6 [(0, .long x0.toInt64), (2, .long 1), (4, .long 46)] := hl
  refine lv_lload_n hx hb dX6_in_0 rfl (lv_at hl 0 rfl) ?_
  refine lv_lload_n hx hb dX6_in_1 rfl (lv_at hl 1 rfl) ?_
  refine W.lcmp hx hb dX6_in_2 ?_
  refine lv_if_lt (tgt := 17) hx hb dX6_in_3 (by decide) (fun _ => ?_) (fun c9 => absurd d0 c9)
  refine lv_iconst (v := 0) hx hb dX6_in_17 (by decide) ?_
  exact fz0 hx hb hr rfl hlocks hK hS (Nat.le_of_ble_eq_true rfl) (Nat.le_of_ble_eq_true rfl) dX6_in_18
set_option maxHeartbeats 4000000 in
set_option maxRecDepth 100000 in
theorem cX6_forward_187 (l : Launch) (D : va_G) (h0 : Nat) (x0 : Int32) (v0 : Value) (v1 : Value) (v2 : Value) (v3 : Value) (v4 : Value) (v5 : Value) (v6 : Value) (v7 : Value) (v8 : Value) (v9 : Value) (v10 : Value) (v11 : Value) (v12 : Value) (v13 : Value) (v14 : Value) (v15 : Value) (v16 : Value) (v17 : Value) (v18 : Value) (v19 : Value) (v20 : Value) (v21 : Value) (v22 : Value) (v23 : Value) (v24 : Value) (v25 : Value) (v26 : Value)  (d0 : (lg_cmp x0.toInt64 1) < 0) : CT l yX6_forward cX6_forward 2 (some .int) { frames := 1, cells := 0, slots := 0, locals := 25 } [.ref h0, .int x0] D [(h0, .inr (6, [v0, v1, v2, v3, v4, v5, v6, v7, v8, v9, v10, v11, v12, v13, v14, v15, v16, v17, v18, v19, v20, v21, v22, v23, v24, v25, v26]))] [] XN [(h0, .inr (6, [v0, v1, v2, v3, v4, v5, v6, v7, v8, v9, v10, v11, v12, v13, v14, v15, v16, v17, v18, v19, v20, v21, v22, v23, v24, v25, v26]))] (ei (fun _ : Unit => True) (fun u => 0) (fun _ => [(h0, .inr (6, [.int 1, v1, v2, v3, v4, v5, v6, v7, v8, v9, v10, v11, v12, v13, v14, v15, v16, v17, v18, v19, v20, v21, v22, v23, v24, v25, v26]))]) (fun u => []) D) 0 0 := by
  refine CT.ofW (by decide +kernel) (Nat.le_of_ble_eq_true rfl) ?_
  intro p e s m below meth c A ls hcs hP hK hD hX hA hS hl
  obtain ⟨hx, hb, hr, hml, hown, hg, hlocks, hin⟩ := hcs
  have hown : s.vm.findClass RX6 = some m.cls := hown
  have hl : lv_has ls 2 [(0, .ref h0), (1, .int x0)] := hl
  refine lv_aload_n hx hb dX6_forward_0 rfl (lv_at hl 0 rfl) ?_
  refine lv_iload_n hx hb dX6_forward_1 rfl (lv_at hl 1 rfl) ?_
  refine lv_i2l (v := x0.toInt64) hx hb dX6_forward_2 rfl ?_
  refine lv_lconst (v := 1) hx hb dX6_forward_3 (by decide) ?_
  refine lv_ldc2 hx hb hown (hg _ k1587) dX6_forward_4 ?_
  refine cSi (n := 3) (As := [.long x0.toInt64, .long 1, .long 46]) (rest := [.ref h0]) (wr := [(h0, .inr (6, [v0, v1, v2, v3, v4, v5, v6, v7, v8, v9, v10, v11, v12, v13, v14, v15, v16, v17, v18, v19, v20, v21, v22, v23, v24, v25, v26]))]) (tr := []) hx hb hml hown hg okN (cX6_in_188 l D x0 d0) (mwS k1317 k1318 k92 k1319) ⟨rfl, by decide, by decide, by decide +kernel⟩ ⟨rfl, rfl, (Nat.le_of_ble_eq_true rfl), (Nat.le_of_ble_eq_true rfl)⟩ hP hD hK hS xn [] [] [0] [] [] rfl (by decide) rfl rfl (by decide) (by decide) rfl rfl (aNil hA hS) (aNil hA hS) rfl hl.1 rfl (Nat.le_of_ble_eq_true rfl) dX6_forward_7 ⟨(Nat.le_of_ble_eq_true rfl), (Nat.le_of_ble_eq_true rfl)⟩ (fun u H locs hφ hP hD hK hS hk => ?_)
  have hP : va_P D vwCl [(h0, .inr (6, [v0, v1, v2, v3, v4, v5, v6, v7, v8, v9, v10, v11, v12, v13, v14, v15, v16, v17, v18, v19, v20, v21, v22, v23, v24, v25, v26]))] H := hP
  have hD : va_D A [(h0, .inr (6, [v0, v1, v2, v3, v4, v5, v6, v7, v8, v9, v10, v11, v12, v13, v14, v15, v16, v17, v18, v19, v20, v21, v22, v23, v24, v25, v26]))] := hD
  have hK : va_K D vwCl [] s := hK
  refine W.widen (k := 0) (n := 0) (Nat.le_of_ble_eq_true rfl) (Nat.le_of_ble_eq_true rfl) ?_
  refine lv_if_eq (tgt := 17) hx hb dX6_forward_10 (by decide) (fun _ => ?_) (fun c9 => absurd (by decide) c9)
  refine lv_iconst (v := 1) hx hb dX6_forward_17 (by decide) ?_
  refine va_put (D := D) (ci := 6) (v := .int 1) (ty := .int) (C := RX6) (T := TX6) (N := 27) hx hb hg inX6 tyX6 tyX6_ok nmX6 hown hK hP hD hS 0 rfl rfl 0 (by decide) (hg _ k1219) (fun _ h9 => h9) rfl (by decide +kernel) rfl rfl (Nat.le_of_ble_eq_true rfl) dX6_forward_18 (fun H locs hP hD hS => ?_)
  have hP : va_P D vwCl [(h0, .inr (6, [.int 1, v1, v2, v3, v4, v5, v6, v7, v8, v9, v10, v11, v12, v13, v14, v15, v16, v17, v18, v19, v20, v21, v22, v23, v24, v25, v26]))] H := hP
  have hD : va_D A [(h0, .inr (6, [.int 1, v1, v2, v3, v4, v5, v6, v7, v8, v9, v10, v11, v12, v13, v14, v15, v16, v17, v18, v19, v20, v21, v22, v23, v24, v25, v26]))] := hD
  refine lv_aload_n hx hb dX6_forward_21 rfl (lv_at hl 0 rfl) ?_
  refine va_get (D := D) (ci := 6) (v := .int 1) (C := RX6) (T := TX6) (N := 27) hx hb hg inX6 hown hK hP 0 rfl rfl 0 (by decide) (hg _ k1219) (fun _ h9 => h9) rfl dX6_forward_22 ?_
  refine lv_if_le (tgt := 30) hx hb dX6_forward_25 (by decide) (fun c9 => absurd c9 (by decide)) (fun _ => ?_)
  refine lv_iconst (v := 0) hx hb dX6_forward_28 (by decide) ?_
  exact fi hx hb hr hlocks hP hD hK hS (()) trivial rfl [0] [] rfl (by decide) rfl (Nat.le_of_ble_eq_true rfl) (Nat.le_of_ble_eq_true rfl) dX6_forward_29
set_option maxHeartbeats 4000000 in
set_option maxRecDepth 100000 in
theorem cX6_in_190 (l : Launch) (D : va_G) (x0 : Int32)  (d0 : ¬ ((lg_cmp x0.toInt64 1) < 0)) (d1 : ¬ (0 < (lg_cmp x0.toInt64 46))) : CT l yX6_in cX6_in 6 (some .boolean) { frames := 0, cells := 0, slots := 0, locals := 0 } [.long x0.toInt64, .long 1, .long 46] D [] [] XN [] (ei (fun _ : Unit => True) (fun _ => 1) (fun _ => []) (fun _ => []) D) 0 0 := by
  refine CT.ofR (by decide +kernel) (Nat.le_of_ble_eq_true rfl) ?_
  intro p e s m below meth c A ls hcs hP hK hD hX hA hS hl
  obtain ⟨hx, hb, hr, hml, hown, hg, hlocks, hin⟩ := hcs
  have hown : s.vm.findClass RX6 = some m.cls := hown
  have hl : lv_has ls 6 [(0, .long x0.toInt64), (2, .long 1), (4, .long 46)] := hl
  refine lv_lload_n hx hb dX6_in_0 rfl (lv_at hl 0 rfl) ?_
  refine lv_lload_n hx hb dX6_in_1 rfl (lv_at hl 1 rfl) ?_
  refine W.lcmp hx hb dX6_in_2 ?_
  refine lv_if_lt (tgt := 17) hx hb dX6_in_3 (by decide) (fun c9 => absurd c9 d0) (fun _ => ?_)
  refine lv_lload_n hx hb dX6_in_6 rfl (lv_at hl 0 rfl) ?_
  refine lv_lload hx hb dX6_in_7 (lv_at hl 2 rfl) ?_
  refine W.lcmp hx hb dX6_in_9 ?_
  refine lv_if_gt (tgt := 17) hx hb dX6_in_10 (by decide) (fun c9 => absurd c9 d1) (fun _ => ?_)
  refine lv_iconst (v := 1) hx hb dX6_in_13 (by decide) ?_
  refine lv_goto (tgt := 18) hx hb dX6_in_14 (by decide) ?_
  exact fz0 hx hb hr rfl hlocks hK hS (Nat.le_of_ble_eq_true rfl) (Nat.le_of_ble_eq_true rfl) dX6_in_18
set_option maxHeartbeats 4000000 in
set_option maxRecDepth 100000 in
theorem cX6_fails_192 (l : Launch) (D : va_G) (h0 : Nat) (v0 : Value) (v1 : Value) (v2 : Value) (v3 : Value) (v4 : Value) (v5 : Value) (v6 : Value) (v7 : Value) (v8 : Value) (v9 : Value) (v10 : Value) (v11 : Value) (v12 : Value) (v13 : Value) (v14 : Value) (v15 : Value) (v16 : Value) (v17 : Value) (v18 : Value) (v19 : Value) (v20 : Value) (v21 : Value) (v22 : Value) (v23 : Value) (v24 : Value) (v25 : Value) (v26 : Value)   : CT l yX6_fails cX6_fails 2 (some .int) { frames := 0, cells := 0, slots := 0, locals := 0 } [.ref h0, .int 2] D [(h0, .inr (6, [v0, v1, v2, v3, v4, v5, v6, v7, v8, v9, v10, v11, v12, v13, v14, v15, v16, v17, v18, v19, v20, v21, v22, v23, v24, v25, v26]))] [] XN [(h0, .inr (6, [v0, v1, v2, v3, v4, v5, v6, v7, v8, v9, v10, v11, v12, v13, v14, v15, v16, v17, v18, v19, v20, v21, v22, v23, v24, v25, v26]))] (ei (fun _ : Unit => True) (fun u => 0) (fun _ => [(h0, .inr (6, [.int 2, v1, v2, v3, v4, v5, v6, v7, v8, v9, v10, v11, v12, v13, v14, v15, v16, v17, v18, v19, v20, v21, v22, v23, v24, v25, v26]))]) (fun u => []) D) 0 0 := by
  refine CT.ofW (by decide +kernel) (Nat.le_of_ble_eq_true rfl) ?_
  intro p e s m below meth c A ls hcs hP hK hD hX hA hS hl
  obtain ⟨hx, hb, hr, hml, hown, hg, hlocks, hin⟩ := hcs
  have hown : s.vm.findClass RX6 = some m.cls := hown
  have hl : lv_has ls 2 [(0, .ref h0), (1, .int 2)] := hl
  refine lv_aload_n hx hb dX6_fails_0 rfl (lv_at hl 0 rfl) ?_
  refine lv_iload_n hx hb dX6_fails_1 rfl (lv_at hl 1 rfl) ?_
  refine va_put (D := D) (ci := 6) (v := .int 2) (ty := .int) (C := RX6) (T := TX6) (N := 27) hx hb hg inX6 tyX6 tyX6_ok nmX6 hown hK hP hD hS 0 rfl rfl 0 (by decide) (hg _ k1219) (fun _ h9 => h9) rfl (by decide +kernel) rfl rfl (Nat.le_of_ble_eq_true rfl) dX6_fails_2 (fun H locs hP hD hS => ?_)
  have hP : va_P D vwCl [(h0, .inr (6, [.int 2, v1, v2, v3, v4, v5, v6, v7, v8, v9, v10, v11, v12, v13, v14, v15, v16, v17, v18, v19, v20, v21, v22, v23, v24, v25, v26]))] H := hP
  have hD : va_D A [(h0, .inr (6, [.int 2, v1, v2, v3, v4, v5, v6, v7, v8, v9, v10, v11, v12, v13, v14, v15, v16, v17, v18, v19, v20, v21, v22, v23, v24, v25, v26]))] := hD
  refine lv_iconst (v := 0) hx hb dX6_fails_5 (by decide) ?_
  exact fi hx hb hr hlocks hP hD hK hS (()) trivial rfl [0] [] rfl (by decide) rfl (Nat.le_of_ble_eq_true rfl) (Nat.le_of_ble_eq_true rfl) dX6_fails_6
set_option maxHeartbeats 4000000 in
set_option maxRecDepth 100000 in
theorem cX6_stateFails_191 (l : Launch) (D : va_G) (h0 : Nat) (v0 : Value) (v1 : Value) (v2 : Value) (v3 : Value) (v4 : Value) (v5 : Value) (v6 : Value) (v7 : Value) (v8 : Value) (v9 : Value) (v10 : Value) (v11 : Value) (v12 : Value) (v13 : Value) (v14 : Value) (v15 : Value) (v16 : Value) (v17 : Value) (v18 : Value) (v19 : Value) (v20 : Value) (v21 : Value) (v22 : Value) (v23 : Value) (v24 : Value) (v25 : Value) (v26 : Value)   : CT l yX6_stateFails cX6_stateFails 5 (some .int) { frames := 1, cells := 0, slots := 0, locals := 21 } [.ref h0, .int 2, .int 1, .int 0, .int (-1)] D [(h0, .inr (6, [v0, v1, v2, v3, v4, v5, v6, v7, v8, v9, v10, v11, v12, v13, v14, v15, v16, v17, v18, v19, v20, v21, v22, v23, v24, v25, v26]))] [] XN [(h0, .inr (6, [v0, v1, v2, v3, v4, v5, v6, v7, v8, v9, v10, v11, v12, v13, v14, v15, v16, v17, v18, v19, v20, v21, v22, v23, v24, v25, v26]))] (ei (fun _ : Unit => True) (fun u => 0) (fun _ => [(h0, .inr (6, [.int 2, v1, v2, v3, v4, v5, v6, v7, v8, .int 1, .int 0, .int (-1), v12, v13, v14, v15, v16, v17, v18, v19, v20, v21, v22, v23, v24, v25, v26]))]) (fun u => []) D) 0 0 := by
  refine CT.ofW (by decide +kernel) (Nat.le_of_ble_eq_true rfl) ?_
  intro p e s m below meth c A ls hcs hP hK hD hX hA hS hl
  obtain ⟨hx, hb, hr, hml, hown, hg, hlocks, hin⟩ := hcs
  have hown : s.vm.findClass RX6 = some m.cls := hown
  have hl : lv_has ls 5 [(0, .ref h0), (1, .int 2), (2, .int 1), (3, .int 0), (4, .int (-1))] := hl
  refine lv_aload_n hx hb dX6_stateFails_0 rfl (lv_at hl 0 rfl) ?_
  refine lv_iload_n hx hb dX6_stateFails_1 rfl (lv_at hl 2 rfl) ?_
  refine va_put (D := D) (ci := 6) (v := .int 1) (ty := .int) (C := RX6) (T := TX6) (N := 27) hx hb hg inX6 tyX6 tyX6_ok nmX6 hown hK hP hD hS 0 rfl rfl 9 (by decide) (hg _ k1228) (fun _ h9 => h9) rfl (by decide +kernel) rfl rfl (Nat.le_of_ble_eq_true rfl) dX6_stateFails_2 (fun H locs hP hD hS => ?_)
  have hP : va_P D vwCl [(h0, .inr (6, [v0, v1, v2, v3, v4, v5, v6, v7, v8, .int 1, v10, v11, v12, v13, v14, v15, v16, v17, v18, v19, v20, v21, v22, v23, v24, v25, v26]))] H := hP
  have hD : va_D A [(h0, .inr (6, [v0, v1, v2, v3, v4, v5, v6, v7, v8, .int 1, v10, v11, v12, v13, v14, v15, v16, v17, v18, v19, v20, v21, v22, v23, v24, v25, v26]))] := hD
  refine lv_aload_n hx hb dX6_stateFails_5 rfl (lv_at hl 0 rfl) ?_
  refine lv_iload_n hx hb dX6_stateFails_6 rfl (lv_at hl 3 rfl) ?_
  refine va_put (D := D) (ci := 6) (v := .int 0) (ty := .int) (C := RX6) (T := TX6) (N := 27) hx hb hg inX6 tyX6 tyX6_ok nmX6 hown hK hP hD hS 0 rfl rfl 10 (by decide) (hg _ k1229) (fun _ h9 => h9) rfl (by decide +kernel) rfl rfl (Nat.le_of_ble_eq_true rfl) dX6_stateFails_7 (fun H locs hP hD hS => ?_)
  have hP : va_P D vwCl [(h0, .inr (6, [v0, v1, v2, v3, v4, v5, v6, v7, v8, .int 1, .int 0, v11, v12, v13, v14, v15, v16, v17, v18, v19, v20, v21, v22, v23, v24, v25, v26]))] H := hP
  have hD : va_D A [(h0, .inr (6, [v0, v1, v2, v3, v4, v5, v6, v7, v8, .int 1, .int 0, v11, v12, v13, v14, v15, v16, v17, v18, v19, v20, v21, v22, v23, v24, v25, v26]))] := hD
  refine lv_aload_n hx hb dX6_stateFails_10 rfl (lv_at hl 0 rfl) ?_
  refine lv_iload hx hb dX6_stateFails_11 (lv_at hl 4 rfl) ?_
  refine va_put (D := D) (ci := 6) (v := .int (-1)) (ty := .int) (C := RX6) (T := TX6) (N := 27) hx hb hg inX6 tyX6 tyX6_ok nmX6 hown hK hP hD hS 0 rfl rfl 11 (by decide) (hg _ k1230) (fun _ h9 => h9) rfl (by decide +kernel) rfl rfl (Nat.le_of_ble_eq_true rfl) dX6_stateFails_13 (fun H locs hP hD hS => ?_)
  have hP : va_P D vwCl [(h0, .inr (6, [v0, v1, v2, v3, v4, v5, v6, v7, v8, .int 1, .int 0, .int (-1), v12, v13, v14, v15, v16, v17, v18, v19, v20, v21, v22, v23, v24, v25, v26]))] H := hP
  have hD : va_D A [(h0, .inr (6, [v0, v1, v2, v3, v4, v5, v6, v7, v8, .int 1, .int 0, .int (-1), v12, v13, v14, v15, v16, v17, v18, v19, v20, v21, v22, v23, v24, v25, v26]))] := hD
  refine lv_aload_n hx hb dX6_stateFails_16 rfl (lv_at hl 0 rfl) ?_
  refine lv_iload_n hx hb dX6_stateFails_17 rfl (lv_at hl 1 rfl) ?_
  refine cVi (n := 1) (As := [.int 2]) (rest := []) (wr := []) (tr := []) hx hb hml hown hg okN (cX6_fails_192 l D h0 v0 v1 v2 v3 v4 v5 v6 v7 v8 (.int 1) (.int 0) (.int (-1)) v12 v13 v14 v15 v16 v17 v18 v19 v20 v21 v22 v23 v24 v25 v26) (mwV k1320 k1322 k37 k92 k1323) ⟨rfl, by decide, by decide, by decide +kernel⟩ ⟨rfl, rfl, (Nat.le_of_ble_eq_true rfl), (Nat.le_of_ble_eq_true rfl)⟩ hP hD hK hS xn [0] [0] [] [] [] rfl (by decide) rfl rfl (by decide) (by decide) rfl rfl (va_free hD hS hA [0] rfl) (va_free hD hS hA [0] rfl) 0 rfl rfl rfl hl.1 rfl (Nat.le_of_ble_eq_true rfl) dX6_stateFails_18 ⟨(Nat.le_of_ble_eq_true rfl), (Nat.le_of_ble_eq_true rfl)⟩ (fun u H locs hφ hP hD hK hS hk => ?_)
  have hP : va_P D vwCl [(h0, .inr (6, [.int 2, v1, v2, v3, v4, v5, v6, v7, v8, .int 1, .int 0, .int (-1), v12, v13, v14, v15, v16, v17, v18, v19, v20, v21, v22, v23, v24, v25, v26]))] H := hP
  have hD : va_D A [(h0, .inr (6, [.int 2, v1, v2, v3, v4, v5, v6, v7, v8, .int 1, .int 0, .int (-1), v12, v13, v14, v15, v16, v17, v18, v19, v20, v21, v22, v23, v24, v25, v26]))] := hD
  have hK : va_K D vwCl [] s := hK
  refine W.widen (k := 0) (n := 0) (Nat.le_of_ble_eq_true rfl) (Nat.le_of_ble_eq_true rfl) ?_
  exact fi hx hb hr hlocks hP hD hK hS (()) trivial rfl [0] [] rfl (by decide) rfl (Nat.le_of_ble_eq_true rfl) (Nat.le_of_ble_eq_true rfl) dX6_stateFails_21
set_option maxHeartbeats 4000000 in
set_option maxRecDepth 100000 in
theorem cX6_forward_189 (l : Launch) (D : va_G) (h0 : Nat) (x0 : Int32) (h1 : Nat) (v0 : Value) (v1 : Value) (v2 : Value) (v3 : Value) (v4 : Value) (v5 : Value) (v6 : Value) (v7 : Value) (v8 : Value) (v9 : Value) (v10 : Value) (v11 : Value) (v12 : Value) (v13 : Value) (v14 : Value) (v15 : Value) (v16 : Value) (v17 : Value) (v18 : Value) (v19 : Value) (v20 : Value) (v21 : Value) (v22 : Value) (v23 : Value) (f0 : Nat → Int64) (a0 : ClassId) (ef0_4 : f0 4 = 0) (d0 : ¬ ((lg_cmp x0.toInt64 1) < 0)) (d1 : ¬ (0 < (lg_cmp x0.toInt64 46))) : CT l yX6_forward cX6_forward 2 (some .int) { frames := 3, cells := 0, slots := 0, locals := 62 } [.ref h0, .int x0] D [(h0, .inr (6, [v0, .ref h1, v1, v2, v3, v4, v5, .int 2, .int 2, v6, v7, v8, v9, v10, v11, v12, v13, v14, v15, v16, v17, v18, v19, v20, v21, v22, v23])), (h1, .inl (a0, 609, .inr (.inl f0)))] [(a0, .long)] XN [(h0, .inr (6, [v0, .ref h1, v1, v2, v3, v4, v5, .int 2, .int 2, v6, v7, v8, v9, v10, v11, v12, v13, v14, v15, v16, v17, v18, v19, v20, v21, v22, v23])), (h1, .inl (a0, 609, .inr (.inl f0)))] (ei (fun _ : Unit => True) (fun u => 0) (fun _ => [(h0, .inr (6, [.int 2, .ref h1, v1, v2, v3, v4, v5, .int 2, .int 2, .int 1, .int 0, .int (-1), v9, v10, v11, v12, v13, v14, v15, v16, v17, v18, v19, v20, v21, v22, v23])), (h1, .inl (a0, 609, .inr (.inl f0)))]) (fun u => [(a0, .long)]) D) 0 0 := by
  refine CT.ofW (by decide +kernel) (Nat.le_of_ble_eq_true rfl) ?_
  intro p e s m below meth c A ls hcs hP hK hD hX hA hS hl
  obtain ⟨hx, hb, hr, hml, hown, hg, hlocks, hin⟩ := hcs
  have hown : s.vm.findClass RX6 = some m.cls := hown
  have hl : lv_has ls 2 [(0, .ref h0), (1, .int x0)] := hl
  refine lv_aload_n hx hb dX6_forward_0 rfl (lv_at hl 0 rfl) ?_
  refine lv_iload_n hx hb dX6_forward_1 rfl (lv_at hl 1 rfl) ?_
  refine lv_i2l (v := x0.toInt64) hx hb dX6_forward_2 rfl ?_
  refine lv_lconst (v := 1) hx hb dX6_forward_3 (by decide) ?_
  refine lv_ldc2 hx hb hown (hg _ k1587) dX6_forward_4 ?_
  refine cSi (n := 3) (As := [.long x0.toInt64, .long 1, .long 46]) (rest := [.ref h0]) (wr := [(h0, .inr (6, [v0, .ref h1, v1, v2, v3, v4, v5, .int 2, .int 2, v6, v7, v8, v9, v10, v11, v12, v13, v14, v15, v16, v17, v18, v19, v20, v21, v22, v23])), (h1, .inl (a0, 609, .inr (.inl f0)))]) (tr := [(a0, .long)]) hx hb hml hown hg okN (cX6_in_190 l D x0 d0 d1) (mwS k1317 k1318 k92 k1319) ⟨rfl, by decide, by decide, by decide +kernel⟩ ⟨rfl, rfl, (Nat.le_of_ble_eq_true rfl), (Nat.le_of_ble_eq_true rfl)⟩ hP hD hK hS xn [] [] [0, 1] [] [0] rfl (by decide) rfl rfl (by decide) (by decide) rfl rfl (aNil hA hS) (aNil hA hS) rfl hl.1 rfl (Nat.le_of_ble_eq_true rfl) dX6_forward_7 ⟨(Nat.le_of_ble_eq_true rfl), (Nat.le_of_ble_eq_true rfl)⟩ (fun u H locs hφ hP hD hK hS hk => ?_)
  have hP : va_P D vwCl [(h0, .inr (6, [v0, .ref h1, v1, v2, v3, v4, v5, .int 2, .int 2, v6, v7, v8, v9, v10, v11, v12, v13, v14, v15, v16, v17, v18, v19, v20, v21, v22, v23])), (h1, .inl (a0, 609, .inr (.inl f0)))] H := hP
  have hD : va_D A [(h0, .inr (6, [v0, .ref h1, v1, v2, v3, v4, v5, .int 2, .int 2, v6, v7, v8, v9, v10, v11, v12, v13, v14, v15, v16, v17, v18, v19, v20, v21, v22, v23])), (h1, .inl (a0, 609, .inr (.inl f0)))] := hD
  have hK : va_K D vwCl [(a0, .long)] s := hK
  refine W.widen (k := 0) (n := 0) (Nat.le_of_ble_eq_true rfl) (Nat.le_of_ble_eq_true rfl) ?_
  refine lv_if_eq (tgt := 17) hx hb dX6_forward_10 (by decide) (fun c9 => absurd c9 (by decide)) (fun _ => ?_)
  refine lv_iconst (v := 0) hx hb dX6_forward_13 (by decide) ?_
  refine lv_goto (tgt := 18) hx hb dX6_forward_14 (by decide) ?_
  refine va_put (D := D) (ci := 6) (v := .int 0) (ty := .int) (C := RX6) (T := TX6) (N := 27) hx hb hg inX6 tyX6 tyX6_ok nmX6 hown hK hP hD hS 0 rfl rfl 0 (by decide) (hg _ k1219) (fun _ h9 => h9) rfl (by decide +kernel) rfl rfl (Nat.le_of_ble_eq_true rfl) dX6_forward_18 (fun H locs hP hD hS => ?_)
  have hP : va_P D vwCl [(h0, .inr (6, [.int 0, .ref h1, v1, v2, v3, v4, v5, .int 2, .int 2, v6, v7, v8, v9, v10, v11, v12, v13, v14, v15, v16, v17, v18, v19, v20, v21, v22, v23])), (h1, .inl (a0, 609, .inr (.inl f0)))] H := hP
  have hD : va_D A [(h0, .inr (6, [.int 0, .ref h1, v1, v2, v3, v4, v5, .int 2, .int 2, v6, v7, v8, v9, v10, v11, v12, v13, v14, v15, v16, v17, v18, v19, v20, v21, v22, v23])), (h1, .inl (a0, 609, .inr (.inl f0)))] := hD
  refine lv_aload_n hx hb dX6_forward_21 rfl (lv_at hl 0 rfl) ?_
  refine va_get (D := D) (ci := 6) (v := .int 0) (C := RX6) (T := TX6) (N := 27) hx hb hg inX6 hown hK hP 0 rfl rfl 0 (by decide) (hg _ k1219) (fun _ h9 => h9) rfl dX6_forward_22 ?_
  refine lv_if_le (tgt := 30) hx hb dX6_forward_25 (by decide) (fun _ => ?_) (fun c9 => absurd (by decide) c9)
  refine lv_aload_n hx hb dX6_forward_30 rfl (lv_at hl 0 rfl) ?_
  refine cVi (n := 0) (As := []) (rest := []) (wr := [(h0, .inr (6, [.int 0, .ref h1, v1, v2, v3, v4, v5, .int 2, .int 2, v6, v7, v8, v9, v10, v11, v12, v13, v14, v15, v16, v17, v18, v19, v20, v21, v22, v23])), (h1, .inl (a0, 609, .inr (.inl f0)))]) (tr := [(a0, .long)]) hx hb hml hown hg okN (cX6_nextOne_137 l D h0 h1 (.int 0) v1 v2 v3 v4 v5 v6 v7 v8 v9 v10 v11 v12 v13 v14 v15 v16 v17 v18 v19 v20 v21 v22 v23 f0 a0 ef0_4) (mwV k1523 k1525 k63 k92 k1526) ⟨rfl, by decide, by decide, by decide +kernel⟩ ⟨rfl, rfl, (Nat.le_of_ble_eq_true rfl), (Nat.le_of_ble_eq_true rfl)⟩ hP hD hK hS xn [0, 1] [] [0, 1] [0] [0] rfl (by decide) rfl rfl (by decide) (by decide) rfl rfl (aNil hA hS) (aNil hA hS) 0 rfl rfl rfl hl.1 rfl (Nat.le_of_ble_eq_true rfl) dX6_forward_31 ⟨(Nat.le_of_ble_eq_true rfl), (Nat.le_of_ble_eq_true rfl)⟩ (fun u H locs hφ hP hD hK hS hk => ?_)
  have hP : va_P D vwCl [(h0, .inr (6, [.int 0, .ref h1, v1, v2, v3, v4, v5, .int 2, .int 2, v6, v7, v8, v9, v10, v11, v12, v13, v14, v15, v16, v17, v18, v19, v20, v21, v22, v23])), (h1, .inl (a0, 609, .inr (.inl f0)))] H := hP
  have hD : va_D A [(h0, .inr (6, [.int 0, .ref h1, v1, v2, v3, v4, v5, .int 2, .int 2, v6, v7, v8, v9, v10, v11, v12, v13, v14, v15, v16, v17, v18, v19, v20, v21, v22, v23])), (h1, .inl (a0, 609, .inr (.inl f0)))] := hD
  have hK : va_K D vwCl [(a0, .long)] s := hK
  refine W.widen (k := 0) (n := 0) (Nat.le_of_ble_eq_true rfl) (Nat.le_of_ble_eq_true rfl) ?_
  refine lv_iconst (v := (-1)) hx hb dX6_forward_34 (by decide) ?_
  refine lv_icmp_ne (tgt := 49) hx hb dX6_forward_35 (by decide) (fun c9 => absurd (by decide) c9) (fun _ => ?_)
  refine lv_aload_n hx hb dX6_forward_38 rfl (lv_at hl 0 rfl) ?_
  refine lv_iconst (v := 2) hx hb dX6_forward_39 (by decide) ?_
  refine lv_iconst (v := 1) hx hb dX6_forward_40 (by decide) ?_
  refine lv_iconst (v := 0) hx hb dX6_forward_41 (by decide) ?_
  refine lv_iconst (v := (-1)) hx hb dX6_forward_42 (by decide) ?_
  refine cVi (n := 4) (As := [.int 2, .int 1, .int 0, .int (-1)]) (rest := []) (wr := [(h1, .inl (a0, 609, .inr (.inl f0)))]) (tr := [(a0, .long)]) hx hb hml hown hg okN (cX6_stateFails_191 l D h0 (.int 0) (.ref h1) v1 v2 v3 v4 v5 (.int 2) (.int 2) v6 v7 v8 v9 v10 v11 v12 v13 v14 v15 v16 v17 v18 v19 v20 v21 v22 v23) (mwV k1569 k1571 k70 k92 k1572) ⟨rfl, by decide, by decide, by decide +kernel⟩ ⟨rfl, rfl, (Nat.le_of_ble_eq_true rfl), (Nat.le_of_ble_eq_true rfl)⟩ hP hD hK hS xn [0] [0] [1] [] [0] rfl (by decide) rfl rfl (by decide) (by decide) rfl rfl (va_free hD hS hA [0] rfl) (va_free hD hS hA [0] rfl) 0 rfl rfl rfl hl.1 rfl (Nat.le_of_ble_eq_true rfl) dX6_forward_43 ⟨(Nat.le_of_ble_eq_true rfl), (Nat.le_of_ble_eq_true rfl)⟩ (fun u H locs hφ hP hD hK hS hk => ?_)
  have hP : va_P D vwCl [(h1, .inl (a0, 609, .inr (.inl f0))), (h0, .inr (6, [.int 2, .ref h1, v1, v2, v3, v4, v5, .int 2, .int 2, .int 1, .int 0, .int (-1), v9, v10, v11, v12, v13, v14, v15, v16, v17, v18, v19, v20, v21, v22, v23]))] H := hP
  have hD : va_D A [(h1, .inl (a0, 609, .inr (.inl f0))), (h0, .inr (6, [.int 2, .ref h1, v1, v2, v3, v4, v5, .int 2, .int 2, .int 1, .int 0, .int (-1), v9, v10, v11, v12, v13, v14, v15, v16, v17, v18, v19, v20, v21, v22, v23]))] := hD
  have hK : va_K D vwCl [(a0, .long)] s := hK
  refine W.widen (k := 0) (n := 0) (Nat.le_of_ble_eq_true rfl) (Nat.le_of_ble_eq_true rfl) ?_
  refine lv_goto (tgt := 54) hx hb dX6_forward_46 (by decide) ?_
  exact fi hx hb hr hlocks hP hD hK hS (()) trivial rfl [1, 0] [0] rfl (by decide) rfl (Nat.le_of_ble_eq_true rfl) (Nat.le_of_ble_eq_true rfl) dX6_forward_54
set_option maxHeartbeats 4000000 in
set_option maxRecDepth 100000 in
theorem cX6_in_194 (l : Launch) (D : va_G) (x0 : Int32)  (d0 : ¬ ((lg_cmp x0.toInt64 1) < 0)) (d1 : 0 < (lg_cmp x0.toInt64 46)) : CT l yX6_in cX6_in 6 (some .boolean) { frames := 0, cells := 0, slots := 0, locals := 0 } [.long x0.toInt64, .long 1, .long 46] D [] [] XN [] (ei (fun _ : Unit => True) (fun _ => 0) (fun _ => []) (fun _ => []) D) 0 0 := by
  refine CT.ofR (by decide +kernel) (Nat.le_of_ble_eq_true rfl) ?_
  intro p e s m below meth c A ls hcs hP hK hD hX hA hS hl
  obtain ⟨hx, hb, hr, hml, hown, hg, hlocks, hin⟩ := hcs
  have hown : s.vm.findClass RX6 = some m.cls := hown
  have hl : lv_has ls 6 [(0, .long x0.toInt64), (2, .long 1), (4, .long 46)] := hl
  refine lv_lload_n hx hb dX6_in_0 rfl (lv_at hl 0 rfl) ?_
  refine lv_lload_n hx hb dX6_in_1 rfl (lv_at hl 1 rfl) ?_
  refine W.lcmp hx hb dX6_in_2 ?_
  refine lv_if_lt (tgt := 17) hx hb dX6_in_3 (by decide) (fun c9 => absurd c9 d0) (fun _ => ?_)
  refine lv_lload_n hx hb dX6_in_6 rfl (lv_at hl 0 rfl) ?_
  refine lv_lload hx hb dX6_in_7 (lv_at hl 2 rfl) ?_
  refine W.lcmp hx hb dX6_in_9 ?_
  refine lv_if_gt (tgt := 17) hx hb dX6_in_10 (by decide) (fun _ => ?_) (fun c9 => absurd d1 c9)
  refine lv_iconst (v := 0) hx hb dX6_in_17 (by decide) ?_
  exact fz0 hx hb hr rfl hlocks hK hS (Nat.le_of_ble_eq_true rfl) (Nat.le_of_ble_eq_true rfl) dX6_in_18
set_option maxHeartbeats 4000000 in
set_option maxRecDepth 100000 in
theorem cX6_forward_193 (l : Launch) (D : va_G) (h0 : Nat) (x0 : Int32) (v0 : Value) (v1 : Value) (v2 : Value) (v3 : Value) (v4 : Value) (v5 : Value) (v6 : Value) (v7 : Value) (v8 : Value) (v9 : Value) (v10 : Value) (v11 : Value) (v12 : Value) (v13 : Value) (v14 : Value) (v15 : Value) (v16 : Value) (v17 : Value) (v18 : Value) (v19 : Value) (v20 : Value) (v21 : Value) (v22 : Value) (v23 : Value) (v24 : Value) (v25 : Value) (v26 : Value)  (d0 : ¬ ((lg_cmp x0.toInt64 1) < 0)) (d1 : 0 < (lg_cmp x0.toInt64 46)) : CT l yX6_forward cX6_forward 2 (some .int) { frames := 1, cells := 0, slots := 0, locals := 25 } [.ref h0, .int x0] D [(h0, .inr (6, [v0, v1, v2, v3, v4, v5, v6, v7, v8, v9, v10, v11, v12, v13, v14, v15, v16, v17, v18, v19, v20, v21, v22, v23, v24, v25, v26]))] [] XN [(h0, .inr (6, [v0, v1, v2, v3, v4, v5, v6, v7, v8, v9, v10, v11, v12, v13, v14, v15, v16, v17, v18, v19, v20, v21, v22, v23, v24, v25, v26]))] (ei (fun _ : Unit => True) (fun u => 0) (fun _ => [(h0, .inr (6, [.int 1, v1, v2, v3, v4, v5, v6, v7, v8, v9, v10, v11, v12, v13, v14, v15, v16, v17, v18, v19, v20, v21, v22, v23, v24, v25, v26]))]) (fun u => []) D) 0 0 := by
  refine CT.ofW (by decide +kernel) (Nat.le_of_ble_eq_true rfl) ?_
  intro p e s m below meth c A ls hcs hP hK hD hX hA hS hl
  obtain ⟨hx, hb, hr, hml, hown, hg, hlocks, hin⟩ := hcs
  have hown : s.vm.findClass RX6 = some m.cls := hown
  have hl : lv_has ls 2 [(0, .ref h0), (1, .int x0)] := hl
  refine lv_aload_n hx hb dX6_forward_0 rfl (lv_at hl 0 rfl) ?_
  refine lv_iload_n hx hb dX6_forward_1 rfl (lv_at hl 1 rfl) ?_
  refine lv_i2l (v := x0.toInt64) hx hb dX6_forward_2 rfl ?_
  refine lv_lconst (v := 1) hx hb dX6_forward_3 (by decide) ?_
  refine lv_ldc2 hx hb hown (hg _ k1587) dX6_forward_4 ?_
  refine cSi (n := 3) (As := [.long x0.toInt64, .long 1, .long 46]) (rest := [.ref h0]) (wr := [(h0, .inr (6, [v0, v1, v2, v3, v4, v5, v6, v7, v8, v9, v10, v11, v12, v13, v14, v15, v16, v17, v18, v19, v20, v21, v22, v23, v24, v25, v26]))]) (tr := []) hx hb hml hown hg okN (cX6_in_194 l D x0 d0 d1) (mwS k1317 k1318 k92 k1319) ⟨rfl, by decide, by decide, by decide +kernel⟩ ⟨rfl, rfl, (Nat.le_of_ble_eq_true rfl), (Nat.le_of_ble_eq_true rfl)⟩ hP hD hK hS xn [] [] [0] [] [] rfl (by decide) rfl rfl (by decide) (by decide) rfl rfl (aNil hA hS) (aNil hA hS) rfl hl.1 rfl (Nat.le_of_ble_eq_true rfl) dX6_forward_7 ⟨(Nat.le_of_ble_eq_true rfl), (Nat.le_of_ble_eq_true rfl)⟩ (fun u H locs hφ hP hD hK hS hk => ?_)
  have hP : va_P D vwCl [(h0, .inr (6, [v0, v1, v2, v3, v4, v5, v6, v7, v8, v9, v10, v11, v12, v13, v14, v15, v16, v17, v18, v19, v20, v21, v22, v23, v24, v25, v26]))] H := hP
  have hD : va_D A [(h0, .inr (6, [v0, v1, v2, v3, v4, v5, v6, v7, v8, v9, v10, v11, v12, v13, v14, v15, v16, v17, v18, v19, v20, v21, v22, v23, v24, v25, v26]))] := hD
  have hK : va_K D vwCl [] s := hK
  refine W.widen (k := 0) (n := 0) (Nat.le_of_ble_eq_true rfl) (Nat.le_of_ble_eq_true rfl) ?_
  refine lv_if_eq (tgt := 17) hx hb dX6_forward_10 (by decide) (fun _ => ?_) (fun c9 => absurd (by decide) c9)
  refine lv_iconst (v := 1) hx hb dX6_forward_17 (by decide) ?_
  refine va_put (D := D) (ci := 6) (v := .int 1) (ty := .int) (C := RX6) (T := TX6) (N := 27) hx hb hg inX6 tyX6 tyX6_ok nmX6 hown hK hP hD hS 0 rfl rfl 0 (by decide) (hg _ k1219) (fun _ h9 => h9) rfl (by decide +kernel) rfl rfl (Nat.le_of_ble_eq_true rfl) dX6_forward_18 (fun H locs hP hD hS => ?_)
  have hP : va_P D vwCl [(h0, .inr (6, [.int 1, v1, v2, v3, v4, v5, v6, v7, v8, v9, v10, v11, v12, v13, v14, v15, v16, v17, v18, v19, v20, v21, v22, v23, v24, v25, v26]))] H := hP
  have hD : va_D A [(h0, .inr (6, [.int 1, v1, v2, v3, v4, v5, v6, v7, v8, v9, v10, v11, v12, v13, v14, v15, v16, v17, v18, v19, v20, v21, v22, v23, v24, v25, v26]))] := hD
  refine lv_aload_n hx hb dX6_forward_21 rfl (lv_at hl 0 rfl) ?_
  refine va_get (D := D) (ci := 6) (v := .int 1) (C := RX6) (T := TX6) (N := 27) hx hb hg inX6 hown hK hP 0 rfl rfl 0 (by decide) (hg _ k1219) (fun _ h9 => h9) rfl dX6_forward_22 ?_
  refine lv_if_le (tgt := 30) hx hb dX6_forward_25 (by decide) (fun c9 => absurd c9 (by decide)) (fun _ => ?_)
  refine lv_iconst (v := 0) hx hb dX6_forward_28 (by decide) ?_
  exact fi hx hb hr hlocks hP hD hK hS (()) trivial rfl [0] [] rfl (by decide) rfl (Nat.le_of_ble_eq_true rfl) (Nat.le_of_ble_eq_true rfl) dX6_forward_29
set_option maxHeartbeats 4000000 in
set_option maxRecDepth 100000 in
theorem cX6_lift_195 (l : Launch) (D : va_G) (h0 : Nat) (x0 : Int32) (v0 : Value) (v1 : Value) (v2 : Value) (v3 : Value) (v4 : Value) (v5 : Value) (v6 : Value) (v7 : Value) (v8 : Value) (v9 : Value) (v10 : Value) (v11 : Value) (v12 : Value) (v13 : Value) (v14 : Value) (v15 : Value) (v16 : Value) (v17 : Value) (v18 : Value) (v19 : Value) (v20 : Value) (v21 : Value) (v22 : Value) (v23 : Value) (v24 : Value) (v25 : Value)  (d0 : (lg_cmp x0.toInt64 0) < 0) : CT l yX6_lift cX6_lift 2 (some .long) { frames := 2, cells := 0, slots := 0, locals := 46 } [.ref h0, .int x0] D [(h0, .inr (6, [v0, v1, v2, v3, v4, v5, v6, .int 2, v7, v8, v9, v10, v11, v12, v13, v14, v15, v16, v17, v18, v19, v20, v21, v22, v23, v24, v25]))] [] XN [(h0, .inr (6, [v0, v1, v2, v3, v4, v5, v6, .int 2, v7, v8, v9, v10, v11, v12, v13, v14, v15, v16, v17, v18, v19, v20, v21, v22, v23, v24, v25]))] (el (fun _ : Unit => True) (fun u => 0) (fun _ => [(h0, .inr (6, [.int 1, v1, v2, v3, v4, v5, v6, .int 2, v7, v8, v9, v10, v11, v12, v13, v14, v15, v16, v17, v18, v19, v20, v21, v22, v23, v24, v25]))]) (fun u => []) D) 0 0 := by
  refine CT.ofW (by decide +kernel) (Nat.le_of_ble_eq_true rfl) ?_
  intro p e s m below meth c A ls hcs hP hK hD hX hA hS hl
  obtain ⟨hx, hb, hr, hml, hown, hg, hlocks, hin⟩ := hcs
  have hown : s.vm.findClass RX6 = some m.cls := hown
  have hl : lv_has ls 2 [(0, .ref h0), (1, .int x0)] := hl
  refine lv_aload_n hx hb dX6_lift_0 rfl (lv_at hl 0 rfl) ?_
  refine lv_aload_n hx hb dX6_lift_1 rfl (lv_at hl 0 rfl) ?_
  refine lv_iload_n hx hb dX6_lift_2 rfl (lv_at hl 1 rfl) ?_
  refine cVi (n := 1) (As := [.int x0]) (rest := [.ref h0]) (wr := [(h0, .inr (6, [v0, v1, v2, v3, v4, v5, v6, .int 2, v7, v8, v9, v10, v11, v12, v13, v14, v15, v16, v17, v18, v19, v20, v21, v22, v23, v24, v25]))]) (tr := []) hx hb hml hown hg okN (cX6_isSample_57 l D h0 x0 v0 v1 v2 v3 v4 v5 v6 v7 v8 v9 v10 v11 v12 v13 v14 v15 v16 v17 v18 v19 v20 v21 v22 v23 v24 v25 d0) (mwV k1440 k1442 k57 k92 k1443) ⟨rfl, by decide, by decide, by decide +kernel⟩ ⟨rfl, rfl, (Nat.le_of_ble_eq_true rfl), (Nat.le_of_ble_eq_true rfl)⟩ hP hD hK hS xn [0] [] [0] [] [] rfl (by decide) rfl rfl (by decide) (by decide) rfl rfl (aNil hA hS) (aNil hA hS) 0 rfl rfl rfl hl.1 rfl (Nat.le_of_ble_eq_true rfl) dX6_lift_3 ⟨(Nat.le_of_ble_eq_true rfl), (Nat.le_of_ble_eq_true rfl)⟩ (fun u H locs hφ hP hD hK hS hk => ?_)
  have hP : va_P D vwCl [(h0, .inr (6, [v0, v1, v2, v3, v4, v5, v6, .int 2, v7, v8, v9, v10, v11, v12, v13, v14, v15, v16, v17, v18, v19, v20, v21, v22, v23, v24, v25]))] H := hP
  have hD : va_D A [(h0, .inr (6, [v0, v1, v2, v3, v4, v5, v6, .int 2, v7, v8, v9, v10, v11, v12, v13, v14, v15, v16, v17, v18, v19, v20, v21, v22, v23, v24, v25]))] := hD
  have hK : va_K D vwCl [] s := hK
  refine W.widen (k := 0) (n := 0) (Nat.le_of_ble_eq_true rfl) (Nat.le_of_ble_eq_true rfl) ?_
  refine lv_if_eq (tgt := 13) hx hb dX6_lift_6 (by decide) (fun _ => ?_) (fun c9 => absurd (by decide) c9)
  refine lv_iconst (v := 1) hx hb dX6_lift_13 (by decide) ?_
  refine va_put (D := D) (ci := 6) (v := .int 1) (ty := .int) (C := RX6) (T := TX6) (N := 27) hx hb hg inX6 tyX6 tyX6_ok nmX6 hown hK hP hD hS 0 rfl rfl 0 (by decide) (hg _ k1219) (fun _ h9 => h9) rfl (by decide +kernel) rfl rfl (Nat.le_of_ble_eq_true rfl) dX6_lift_14 (fun H locs hP hD hS => ?_)
  have hP : va_P D vwCl [(h0, .inr (6, [.int 1, v1, v2, v3, v4, v5, v6, .int 2, v7, v8, v9, v10, v11, v12, v13, v14, v15, v16, v17, v18, v19, v20, v21, v22, v23, v24, v25]))] H := hP
  have hD : va_D A [(h0, .inr (6, [.int 1, v1, v2, v3, v4, v5, v6, .int 2, v7, v8, v9, v10, v11, v12, v13, v14, v15, v16, v17, v18, v19, v20, v21, v22, v23, v24, v25]))] := hD
  refine lv_aload_n hx hb dX6_lift_17 rfl (lv_at hl 0 rfl) ?_
  refine va_get (D := D) (ci := 6) (v := .int 1) (C := RX6) (T := TX6) (N := 27) hx hb hg inX6 hown hK hP 0 rfl rfl 0 (by decide) (hg _ k1219) (fun _ h9 => h9) rfl dX6_lift_18 ?_
  refine lv_if_le (tgt := 26) hx hb dX6_lift_21 (by decide) (fun c9 => absurd c9 (by decide)) (fun _ => ?_)
  refine lv_lconst (v := 0) hx hb dX6_lift_24 (by decide) ?_
  exact fl hx hb hr hlocks hP hD hK hS (()) trivial rfl [0] [] rfl (by decide) rfl (Nat.le_of_ble_eq_true rfl) (Nat.le_of_ble_eq_true rfl) dX6_lift_25
set_option maxHeartbeats 4000000 in
set_option maxRecDepth 100000 in
theorem cX6_isInner_197 (l : Launch) (D : va_G) (h0 : Nat)   : CT l yX6_isInner cX6_isInner 2 (some .boolean) { frames := 0, cells := 0, slots := 0, locals := 0 } [.ref h0, .int 0] D [] [] XN [] (ei (fun _ : Unit => True) (fun _ => 0) (fun _ => []) (fun _ => []) D) 0 0 := by
  refine CT.ofR (by decide +kernel) (Nat.le_of_ble_eq_true rfl) ?_
  intro p e s m below meth c A ls hcs hP hK hD hX hA hS hl
  obtain ⟨hx, hb, hr, hml, hown, hg, hlocks, hin⟩ := hcs
  have hown : s.vm.findClass RX6 = some m.cls := hown
  have hl : lv_has ls 2 [(0, .ref h0), (1, .int 0)] := hl
  refine lv_iload_n hx hb dX6_isInner_0 rfl (lv_at hl 1 rfl) ?_
  refine lv_if_le (tgt := 26) hx hb dX6_isInner_1 (by decide) (fun _ => ?_) (fun c9 => absurd (by decide) c9)
  refine lv_iconst (v := 0) hx hb dX6_isInner_26 (by decide) ?_
  exact fz0 hx hb hr rfl hlocks hK hS (Nat.le_of_ble_eq_true rfl) (Nat.le_of_ble_eq_true rfl) dX6_isInner_27
set_option maxHeartbeats 4000000 in
set_option maxRecDepth 100000 in
theorem cX6_stateFails_198 (l : Launch) (D : va_G) (h0 : Nat) (v0 : Value) (v1 : Value) (v2 : Value) (v3 : Value) (v4 : Value) (v5 : Value) (v6 : Value) (v7 : Value) (v8 : Value) (v9 : Value) (v10 : Value) (v11 : Value) (v12 : Value) (v13 : Value) (v14 : Value) (v15 : Value) (v16 : Value) (v17 : Value) (v18 : Value) (v19 : Value) (v20 : Value) (v21 : Value) (v22 : Value) (v23 : Value) (v24 : Value) (v25 : Value) (v26 : Value)   : CT l yX6_stateFails cX6_stateFails 5 (some .int) { frames := 1, cells := 0, slots := 0, locals := 21 } [.ref h0, .int 2, .int 3, .int 5, .int 0] D [(h0, .inr (6, [v0, v1, v2, v3, v4, v5, v6, v7, v8, v9, v10, v11, v12, v13, v14, v15, v16, v17, v18, v19, v20, v21, v22, v23, v24, v25, v26]))] [] XN [(h0, .inr (6, [v0, v1, v2, v3, v4, v5, v6, v7, v8, v9, v10, v11, v12, v13, v14, v15, v16, v17, v18, v19, v20, v21, v22, v23, v24, v25, v26]))] (ei (fun _ : Unit => True) (fun u => 0) (fun _ => [(h0, .inr (6, [.int 2, v1, v2, v3, v4, v5, v6, v7, v8, .int 3, .int 5, .int 0, v12, v13, v14, v15, v16, v17, v18, v19, v20, v21, v22, v23, v24, v25, v26]))]) (fun u => []) D) 0 0 := by
  refine CT.ofW (by decide +kernel) (Nat.le_of_ble_eq_true rfl) ?_
  intro p e s m below meth c A ls hcs hP hK hD hX hA hS hl
  obtain ⟨hx, hb, hr, hml, hown, hg, hlocks, hin⟩ := hcs
  have hown : s.vm.findClass RX6 = some m.cls := hown
  have hl : lv_has ls 5 [(0, .ref h0), (1, .int 2), (2, .int 3), (3, .int 5), (4, .int 0)] := hl
  refine lv_aload_n hx hb dX6_stateFails_0 rfl (lv_at hl 0 rfl) ?_
  refine lv_iload_n hx hb dX6_stateFails_1 rfl (lv_at hl 2 rfl) ?_
  refine va_put (D := D) (ci := 6) (v := .int 3) (ty := .int) (C := RX6) (T := TX6) (N := 27) hx hb hg inX6 tyX6 tyX6_ok nmX6 hown hK hP hD hS 0 rfl rfl 9 (by decide) (hg _ k1228) (fun _ h9 => h9) rfl (by decide +kernel) rfl rfl (Nat.le_of_ble_eq_true rfl) dX6_stateFails_2 (fun H locs hP hD hS => ?_)
  have hP : va_P D vwCl [(h0, .inr (6, [v0, v1, v2, v3, v4, v5, v6, v7, v8, .int 3, v10, v11, v12, v13, v14, v15, v16, v17, v18, v19, v20, v21, v22, v23, v24, v25, v26]))] H := hP
  have hD : va_D A [(h0, .inr (6, [v0, v1, v2, v3, v4, v5, v6, v7, v8, .int 3, v10, v11, v12, v13, v14, v15, v16, v17, v18, v19, v20, v21, v22, v23, v24, v25, v26]))] := hD
  refine lv_aload_n hx hb dX6_stateFails_5 rfl (lv_at hl 0 rfl) ?_
  refine lv_iload_n hx hb dX6_stateFails_6 rfl (lv_at hl 3 rfl) ?_
  refine va_put (D := D) (ci := 6) (v := .int 5) (ty := .int) (C := RX6) (T := TX6) (N := 27) hx hb hg inX6 tyX6 tyX6_ok nmX6 hown hK hP hD hS 0 rfl rfl 10 (by decide) (hg _ k1229) (fun _ h9 => h9) rfl (by decide +kernel) rfl rfl (Nat.le_of_ble_eq_true rfl) dX6_stateFails_7 (fun H locs hP hD hS => ?_)
  have hP : va_P D vwCl [(h0, .inr (6, [v0, v1, v2, v3, v4, v5, v6, v7, v8, .int 3, .int 5, v11, v12, v13, v14, v15, v16, v17, v18, v19, v20, v21, v22, v23, v24, v25, v26]))] H := hP
  have hD : va_D A [(h0, .inr (6, [v0, v1, v2, v3, v4, v5, v6, v7, v8, .int 3, .int 5, v11, v12, v13, v14, v15, v16, v17, v18, v19, v20, v21, v22, v23, v24, v25, v26]))] := hD
  refine lv_aload_n hx hb dX6_stateFails_10 rfl (lv_at hl 0 rfl) ?_
  refine lv_iload hx hb dX6_stateFails_11 (lv_at hl 4 rfl) ?_
  refine va_put (D := D) (ci := 6) (v := .int 0) (ty := .int) (C := RX6) (T := TX6) (N := 27) hx hb hg inX6 tyX6 tyX6_ok nmX6 hown hK hP hD hS 0 rfl rfl 11 (by decide) (hg _ k1230) (fun _ h9 => h9) rfl (by decide +kernel) rfl rfl (Nat.le_of_ble_eq_true rfl) dX6_stateFails_13 (fun H locs hP hD hS => ?_)
  have hP : va_P D vwCl [(h0, .inr (6, [v0, v1, v2, v3, v4, v5, v6, v7, v8, .int 3, .int 5, .int 0, v12, v13, v14, v15, v16, v17, v18, v19, v20, v21, v22, v23, v24, v25, v26]))] H := hP
  have hD : va_D A [(h0, .inr (6, [v0, v1, v2, v3, v4, v5, v6, v7, v8, .int 3, .int 5, .int 0, v12, v13, v14, v15, v16, v17, v18, v19, v20, v21, v22, v23, v24, v25, v26]))] := hD
  refine lv_aload_n hx hb dX6_stateFails_16 rfl (lv_at hl 0 rfl) ?_
  refine lv_iload_n hx hb dX6_stateFails_17 rfl (lv_at hl 1 rfl) ?_
  refine cVi (n := 1) (As := [.int 2]) (rest := []) (wr := []) (tr := []) hx hb hml hown hg okN (cX6_fails_192 l D h0 v0 v1 v2 v3 v4 v5 v6 v7 v8 (.int 3) (.int 5) (.int 0) v12 v13 v14 v15 v16 v17 v18 v19 v20 v21 v22 v23 v24 v25 v26) (mwV k1320 k1322 k37 k92 k1323) ⟨rfl, by decide, by decide, by decide +kernel⟩ ⟨rfl, rfl, (Nat.le_of_ble_eq_true rfl), (Nat.le_of_ble_eq_true rfl)⟩ hP hD hK hS xn [0] [0] [] [] [] rfl (by decide) rfl rfl (by decide) (by decide) rfl rfl (va_free hD hS hA [0] rfl) (va_free hD hS hA [0] rfl) 0 rfl rfl rfl hl.1 rfl (Nat.le_of_ble_eq_true rfl) dX6_stateFails_18 ⟨(Nat.le_of_ble_eq_true rfl), (Nat.le_of_ble_eq_true rfl)⟩ (fun u H locs hφ hP hD hK hS hk => ?_)
  have hP : va_P D vwCl [(h0, .inr (6, [.int 2, v1, v2, v3, v4, v5, v6, v7, v8, .int 3, .int 5, .int 0, v12, v13, v14, v15, v16, v17, v18, v19, v20, v21, v22, v23, v24, v25, v26]))] H := hP
  have hD : va_D A [(h0, .inr (6, [.int 2, v1, v2, v3, v4, v5, v6, v7, v8, .int 3, .int 5, .int 0, v12, v13, v14, v15, v16, v17, v18, v19, v20, v21, v22, v23, v24, v25, v26]))] := hD
  have hK : va_K D vwCl [] s := hK
  refine W.widen (k := 0) (n := 0) (Nat.le_of_ble_eq_true rfl) (Nat.le_of_ble_eq_true rfl) ?_
  exact fi hx hb hr hlocks hP hD hK hS (()) trivial rfl [0] [] rfl (by decide) rfl (Nat.le_of_ble_eq_true rfl) (Nat.le_of_ble_eq_true rfl) dX6_stateFails_21
set_option maxHeartbeats 4000000 in
set_option maxRecDepth 100000 in
theorem cX6_lift_196 (l : Launch) (D : va_G) (h0 : Nat) (h1 : Nat) (v0 : Value) (v1 : Value) (v2 : Value) (v3 : Value) (v4 : Value) (v5 : Value) (v6 : Value) (v7 : Value) (v8 : Value) (v9 : Value) (v10 : Value) (v11 : Value) (v12 : Value) (v13 : Value) (v14 : Value) (v15 : Value) (v16 : Value) (v17 : Value) (v18 : Value) (v19 : Value) (v20 : Value) (v21 : Value) (v22 : Value) (v23 : Value) (v24 : Value) (f0 : Nat → Int64) (a0 : ClassId) (ef0_101 : f0 101 = (-1))  : CT l yX6_lift cX6_lift 2 (some .long) { frames := 2, cells := 0, slots := 0, locals := 46 } [.ref h0, .int 0] D [(h0, .inr (6, [v0, .ref h1, v1, v2, v3, v4, v5, .int 2, v6, v7, v8, v9, v10, v11, v12, v13, v14, v15, v16, v17, v18, v19, v20, v21, v22, v23, v24])), (h1, .inl (a0, 609, .inr (.inl f0)))] [(a0, .long)] XN [(h0, .inr (6, [v0, .ref h1, v1, v2, v3, v4, v5, .int 2, v6, v7, v8, v9, v10, v11, v12, v13, v14, v15, v16, v17, v18, v19, v20, v21, v22, v23, v24])), (h1, .inl (a0, 609, .inr (.inl f0)))] (el (fun _ : Unit => True) (fun u => 0) (fun _ => [(h0, .inr (6, [.int 2, .ref h1, v1, v2, v3, v4, v5, .int 2, v6, .int 3, .int 5, .int 0, v10, v11, v12, v13, v14, v15, v16, v17, v18, v19, v20, v21, v22, v23, v24])), (h1, .inl (a0, 609, .inr (.inl f0)))]) (fun u => [(a0, .long)]) D) 0 0 := by
  refine CT.ofW (by decide +kernel) (Nat.le_of_ble_eq_true rfl) ?_
  intro p e s m below meth c A ls hcs hP hK hD hX hA hS hl
  obtain ⟨hx, hb, hr, hml, hown, hg, hlocks, hin⟩ := hcs
  have hown : s.vm.findClass RX6 = some m.cls := hown
  have hl : lv_has ls 2 [(0, .ref h0), (1, .int 0)] := hl
  refine lv_aload_n hx hb dX6_lift_0 rfl (lv_at hl 0 rfl) ?_
  refine lv_aload_n hx hb dX6_lift_1 rfl (lv_at hl 0 rfl) ?_
  refine lv_iload_n hx hb dX6_lift_2 rfl (lv_at hl 1 rfl) ?_
  refine cVi (n := 1) (As := [.int 0]) (rest := [.ref h0]) (wr := [(h0, .inr (6, [v0, .ref h1, v1, v2, v3, v4, v5, .int 2, v6, v7, v8, v9, v10, v11, v12, v13, v14, v15, v16, v17, v18, v19, v20, v21, v22, v23, v24])), (h1, .inl (a0, 609, .inr (.inl f0)))]) (tr := [(a0, .long)]) hx hb hml hown hg okN (cX6_isSample_63 l D h0 v0 (.ref h1) v1 v2 v3 v4 v5 v6 v7 v8 v9 v10 v11 v12 v13 v14 v15 v16 v17 v18 v19 v20 v21 v22 v23 v24) (mwV k1440 k1442 k57 k92 k1443) ⟨rfl, by decide, by decide, by decide +kernel⟩ ⟨rfl, rfl, (Nat.le_of_ble_eq_true rfl), (Nat.le_of_ble_eq_true rfl)⟩ hP hD hK hS xn [0] [] [0, 1] [] [0] rfl (by decide) rfl rfl (by decide) (by decide) rfl rfl (aNil hA hS) (aNil hA hS) 0 rfl rfl rfl hl.1 rfl (Nat.le_of_ble_eq_true rfl) dX6_lift_3 ⟨(Nat.le_of_ble_eq_true rfl), (Nat.le_of_ble_eq_true rfl)⟩ (fun u H locs hφ hP hD hK hS hk => ?_)
  have hP : va_P D vwCl [(h0, .inr (6, [v0, .ref h1, v1, v2, v3, v4, v5, .int 2, v6, v7, v8, v9, v10, v11, v12, v13, v14, v15, v16, v17, v18, v19, v20, v21, v22, v23, v24])), (h1, .inl (a0, 609, .inr (.inl f0)))] H := hP
  have hD : va_D A [(h0, .inr (6, [v0, .ref h1, v1, v2, v3, v4, v5, .int 2, v6, v7, v8, v9, v10, v11, v12, v13, v14, v15, v16, v17, v18, v19, v20, v21, v22, v23, v24])), (h1, .inl (a0, 609, .inr (.inl f0)))] := hD
  have hK : va_K D vwCl [(a0, .long)] s := hK
  refine W.widen (k := 0) (n := 0) (Nat.le_of_ble_eq_true rfl) (Nat.le_of_ble_eq_true rfl) ?_
  refine lv_if_eq (tgt := 13) hx hb dX6_lift_6 (by decide) (fun c9 => absurd c9 (by decide)) (fun _ => ?_)
  refine lv_iconst (v := 0) hx hb dX6_lift_9 (by decide) ?_
  refine lv_goto (tgt := 14) hx hb dX6_lift_10 (by decide) ?_
  refine va_put (D := D) (ci := 6) (v := .int 0) (ty := .int) (C := RX6) (T := TX6) (N := 27) hx hb hg inX6 tyX6 tyX6_ok nmX6 hown hK hP hD hS 0 rfl rfl 0 (by decide) (hg _ k1219) (fun _ h9 => h9) rfl (by decide +kernel) rfl rfl (Nat.le_of_ble_eq_true rfl) dX6_lift_14 (fun H locs hP hD hS => ?_)
  have hP : va_P D vwCl [(h0, .inr (6, [.int 0, .ref h1, v1, v2, v3, v4, v5, .int 2, v6, v7, v8, v9, v10, v11, v12, v13, v14, v15, v16, v17, v18, v19, v20, v21, v22, v23, v24])), (h1, .inl (a0, 609, .inr (.inl f0)))] H := hP
  have hD : va_D A [(h0, .inr (6, [.int 0, .ref h1, v1, v2, v3, v4, v5, .int 2, v6, v7, v8, v9, v10, v11, v12, v13, v14, v15, v16, v17, v18, v19, v20, v21, v22, v23, v24])), (h1, .inl (a0, 609, .inr (.inl f0)))] := hD
  refine lv_aload_n hx hb dX6_lift_17 rfl (lv_at hl 0 rfl) ?_
  refine va_get (D := D) (ci := 6) (v := .int 0) (C := RX6) (T := TX6) (N := 27) hx hb hg inX6 hown hK hP 0 rfl rfl 0 (by decide) (hg _ k1219) (fun _ h9 => h9) rfl dX6_lift_18 ?_
  refine lv_if_le (tgt := 26) hx hb dX6_lift_21 (by decide) (fun _ => ?_) (fun c9 => absurd (by decide) c9)
  refine lv_aload_n hx hb dX6_lift_26 rfl (lv_at hl 0 rfl) ?_
  refine lv_iload_n hx hb dX6_lift_27 rfl (lv_at hl 1 rfl) ?_
  refine cVi (n := 1) (As := [.int 0]) (rest := []) (wr := [(h0, .inr (6, [.int 0, .ref h1, v1, v2, v3, v4, v5, .int 2, v6, v7, v8, v9, v10, v11, v12, v13, v14, v15, v16, v17, v18, v19, v20, v21, v22, v23, v24])), (h1, .inl (a0, 609, .inr (.inl f0)))]) (tr := [(a0, .long)]) hx hb hml hown hg okN (cX6_isInner_197 l D h0) (mwV k1527 k1529 k64 k92 k1530) ⟨rfl, by decide, by decide, by decide +kernel⟩ ⟨rfl, rfl, (Nat.le_of_ble_eq_true rfl), (Nat.le_of_ble_eq_true rfl)⟩ hP hD hK hS xn [] [] [0, 1] [] [0] rfl (by decide) rfl rfl (by decide) (by decide) rfl rfl (aNil hA hS) (aNil hA hS) 0 rfl rfl rfl hl.1 rfl (Nat.le_of_ble_eq_true rfl) dX6_lift_28 ⟨(Nat.le_of_ble_eq_true rfl), (Nat.le_of_ble_eq_true rfl)⟩ (fun u H locs hφ hP hD hK hS hk => ?_)
  have hP : va_P D vwCl [(h0, .inr (6, [.int 0, .ref h1, v1, v2, v3, v4, v5, .int 2, v6, v7, v8, v9, v10, v11, v12, v13, v14, v15, v16, v17, v18, v19, v20, v21, v22, v23, v24])), (h1, .inl (a0, 609, .inr (.inl f0)))] H := hP
  have hD : va_D A [(h0, .inr (6, [.int 0, .ref h1, v1, v2, v3, v4, v5, .int 2, v6, v7, v8, v9, v10, v11, v12, v13, v14, v15, v16, v17, v18, v19, v20, v21, v22, v23, v24])), (h1, .inl (a0, 609, .inr (.inl f0)))] := hD
  have hK : va_K D vwCl [(a0, .long)] s := hK
  refine W.widen (k := 0) (n := 0) (Nat.le_of_ble_eq_true rfl) (Nat.le_of_ble_eq_true rfl) ?_
  refine lv_if_ne (tgt := 56) hx hb dX6_lift_31 (by decide) (fun c9 => absurd (by decide) c9) (fun _ => ?_)
  refine lv_aload_n hx hb dX6_lift_34 rfl (lv_at hl 0 rfl) ?_
  refine lv_iconst (v := 2) hx hb dX6_lift_35 (by decide) ?_
  refine lv_iconst (v := 3) hx hb dX6_lift_36 (by decide) ?_
  refine lv_aload_n hx hb dX6_lift_37 rfl (lv_at hl 0 rfl) ?_
  refine lv_iload_n hx hb dX6_lift_38 rfl (lv_at hl 1 rfl) ?_
  refine cVi (n := 1) (As := [.int 0]) (rest := [.int 3, .int 2, .ref h0]) (wr := [(h0, .inr (6, [.int 0, .ref h1, v1, v2, v3, v4, v5, .int 2, v6, v7, v8, v9, v10, v11, v12, v13, v14, v15, v16, v17, v18, v19, v20, v21, v22, v23, v24])), (h1, .inl (a0, 609, .inr (.inl f0)))]) (tr := [(a0, .long)]) hx hb hml hown hg okN (cX6_isPresent_52 l D h0 h1 (.int 0) v1 v2 v3 v4 v5 (.int 2) v6 v7 v8 v9 v10 v11 v12 v13 v14 v15 v16 v17 v18 v19 v20 v21 v22 v23 v24 f0 a0 ef0_101) (mwV k1432 k1434 k56 k92 k1435) ⟨rfl, by decide, by decide, by decide +kernel⟩ ⟨rfl, rfl, (Nat.le_of_ble_eq_true rfl), (Nat.le_of_ble_eq_true rfl)⟩ hP hD hK hS xn [0, 1] [] [0, 1] [0] [0] rfl (by decide) rfl rfl (by decide) (by decide) rfl rfl (aNil hA hS) (aNil hA hS) 0 rfl rfl rfl hl.1 rfl (Nat.le_of_ble_eq_true rfl) dX6_lift_39 ⟨(Nat.le_of_ble_eq_true rfl), (Nat.le_of_ble_eq_true rfl)⟩ (fun u H locs hφ hP hD hK hS hk => ?_)
  have hP : va_P D vwCl [(h0, .inr (6, [.int 0, .ref h1, v1, v2, v3, v4, v5, .int 2, v6, v7, v8, v9, v10, v11, v12, v13, v14, v15, v16, v17, v18, v19, v20, v21, v22, v23, v24])), (h1, .inl (a0, 609, .inr (.inl f0)))] H := hP
  have hD : va_D A [(h0, .inr (6, [.int 0, .ref h1, v1, v2, v3, v4, v5, .int 2, v6, v7, v8, v9, v10, v11, v12, v13, v14, v15, v16, v17, v18, v19, v20, v21, v22, v23, v24])), (h1, .inl (a0, 609, .inr (.inl f0)))] := hD
  have hK : va_K D vwCl [(a0, .long)] s := hK
  refine W.widen (k := 0) (n := 0) (Nat.le_of_ble_eq_true rfl) (Nat.le_of_ble_eq_true rfl) ?_
  refine lv_if_eq (tgt := 49) hx hb dX6_lift_42 (by decide) (fun c9 => absurd c9 (by decide)) (fun _ => ?_)
  refine lv_iconst (v := 5) hx hb dX6_lift_45 (by decide) ?_
  refine lv_goto (tgt := 50) hx hb dX6_lift_46 (by decide) ?_
  refine lv_iload_n hx hb dX6_lift_50 rfl (lv_at hl 1 rfl) ?_
  refine cVi (n := 4) (As := [.int 2, .int 3, .int 5, .int 0]) (rest := []) (wr := [(h1, .inl (a0, 609, .inr (.inl f0)))]) (tr := [(a0, .long)]) hx hb hml hown hg okN (cX6_stateFails_198 l D h0 (.int 0) (.ref h1) v1 v2 v3 v4 v5 (.int 2) v6 v7 v8 v9 v10 v11 v12 v13 v14 v15 v16 v17 v18 v19 v20 v21 v22 v23 v24) (mwV k1569 k1571 k70 k92 k1572) ⟨rfl, by decide, by decide, by decide +kernel⟩ ⟨rfl, rfl, (Nat.le_of_ble_eq_true rfl), (Nat.le_of_ble_eq_true rfl)⟩ hP hD hK hS xn [0] [0] [1] [] [0] rfl (by decide) rfl rfl (by decide) (by decide) rfl rfl (va_free hD hS hA [0] rfl) (va_free hD hS hA [0] rfl) 0 rfl rfl rfl hl.1 rfl (Nat.le_of_ble_eq_true rfl) dX6_lift_51 ⟨(Nat.le_of_ble_eq_true rfl), (Nat.le_of_ble_eq_true rfl)⟩ (fun u H locs hφ hP hD hK hS hk => ?_)
  have hP : va_P D vwCl [(h1, .inl (a0, 609, .inr (.inl f0))), (h0, .inr (6, [.int 2, .ref h1, v1, v2, v3, v4, v5, .int 2, v6, .int 3, .int 5, .int 0, v10, v11, v12, v13, v14, v15, v16, v17, v18, v19, v20, v21, v22, v23, v24]))] H := hP
  have hD : va_D A [(h1, .inl (a0, 609, .inr (.inl f0))), (h0, .inr (6, [.int 2, .ref h1, v1, v2, v3, v4, v5, .int 2, v6, .int 3, .int 5, .int 0, v10, v11, v12, v13, v14, v15, v16, v17, v18, v19, v20, v21, v22, v23, v24]))] := hD
  have hK : va_K D vwCl [(a0, .long)] s := hK
  refine W.widen (k := 0) (n := 0) (Nat.le_of_ble_eq_true rfl) (Nat.le_of_ble_eq_true rfl) ?_
  refine lv_i2l (v := 0) hx hb dX6_lift_54 (by decide) ?_
  exact fl hx hb hr hlocks hP hD hK hS (()) trivial rfl [1, 0] [0] rfl (by decide) rfl (Nat.le_of_ble_eq_true rfl) (Nat.le_of_ble_eq_true rfl) dX6_lift_55
set_option maxHeartbeats 4000000 in
set_option maxRecDepth 100000 in
theorem cX6_isInner_200 (l : Launch) (D : va_G) (h0 : Nat) (v0 : Value) (v1 : Value) (v2 : Value) (v3 : Value) (v4 : Value) (v5 : Value) (v6 : Value) (v7 : Value) (v8 : Value) (v9 : Value) (v10 : Value) (v11 : Value) (v12 : Value) (v13 : Value) (v14 : Value) (v15 : Value) (v16 : Value) (v17 : Value) (v18 : Value) (v19 : Value) (v20 : Value) (v21 : Value) (v22 : Value) (v23 : Value) (v24 : Value) (v25 : Value)   : CT l yX6_isInner cX6_isInner 2 (some .boolean) { frames := 0, cells := 0, slots := 0, locals := 0 } [.ref h0, .int 1] D [(h0, .inr (6, [v0, v1, v2, v3, v4, v5, v6, .int 2, v7, v8, v9, v10, v11, v12, v13, v14, v15, v16, v17, v18, v19, v20, v21, v22, v23, v24, v25]))] [] XN [] (ei (fun _ : Unit => True) (fun _ => 0) (fun _ => []) (fun _ => []) D) 0 0 := by
  refine CT.ofR (by decide +kernel) (Nat.le_of_ble_eq_true rfl) ?_
  intro p e s m below meth c A ls hcs hP hK hD hX hA hS hl
  obtain ⟨hx, hb, hr, hml, hown, hg, hlocks, hin⟩ := hcs
  have hown : s.vm.findClass RX6 = some m.cls := hown
  have hl : lv_has ls 2 [(0, .ref h0), (1, .int 1)] := hl
  refine lv_iload_n hx hb dX6_isInner_0 rfl (lv_at hl 1 rfl) ?_
  refine lv_if_le (tgt := 26) hx hb dX6_isInner_1 (by decide) (fun c9 => absurd c9 (by decide)) (fun _ => ?_)
  refine lv_iload_n hx hb dX6_isInner_4 rfl (lv_at hl 1 rfl) ?_
  refine lv_aload_n hx hb dX6_isInner_5 rfl (lv_at hl 0 rfl) ?_
  refine va_get (D := D) (ci := 6) (v := .int 2) (C := RX6) (T := TX6) (N := 27) hx hb hg inX6 hown hK hP 0 rfl rfl 7 (by decide) (hg _ k1226) (fun _ h9 => h9) rfl dX6_isInner_6 ?_
  refine lv_iconst (v := 1) hx hb dX6_isInner_9 (by decide) ?_
  refine lv_isub hx hb dX6_isInner_10 ?_
  refine ti (1) (by decide) ?_
  refine lv_icmp_ge (tgt := 26) hx hb dX6_isInner_11 (by decide) (fun _ => ?_) (fun c9 => absurd (by decide) c9)
  refine lv_iconst (v := 0) hx hb dX6_isInner_26 (by decide) ?_
  exact fz0 hx hb hr rfl hlocks hK hS (Nat.le_of_ble_eq_true rfl) (Nat.le_of_ble_eq_true rfl) dX6_isInner_27
set_option maxHeartbeats 4000000 in
set_option maxRecDepth 100000 in
theorem cX6_stateFails_201 (l : Launch) (D : va_G) (h0 : Nat) (v0 : Value) (v1 : Value) (v2 : Value) (v3 : Value) (v4 : Value) (v5 : Value) (v6 : Value) (v7 : Value) (v8 : Value) (v9 : Value) (v10 : Value) (v11 : Value) (v12 : Value) (v13 : Value) (v14 : Value) (v15 : Value) (v16 : Value) (v17 : Value) (v18 : Value) (v19 : Value) (v20 : Value) (v21 : Value) (v22 : Value) (v23 : Value) (v24 : Value) (v25 : Value) (v26 : Value)   : CT l yX6_stateFails cX6_stateFails 5 (some .int) { frames := 1, cells := 0, slots := 0, locals := 21 } [.ref h0, .int 2, .int 3, .int 5, .int 1] D [(h0, .inr (6, [v0, v1, v2, v3, v4, v5, v6, v7, v8, v9, v10, v11, v12, v13, v14, v15, v16, v17, v18, v19, v20, v21, v22, v23, v24, v25, v26]))] [] XN [(h0, .inr (6, [v0, v1, v2, v3, v4, v5, v6, v7, v8, v9, v10, v11, v12, v13, v14, v15, v16, v17, v18, v19, v20, v21, v22, v23, v24, v25, v26]))] (ei (fun _ : Unit => True) (fun u => 0) (fun _ => [(h0, .inr (6, [.int 2, v1, v2, v3, v4, v5, v6, v7, v8, .int 3, .int 5, .int 1, v12, v13, v14, v15, v16, v17, v18, v19, v20, v21, v22, v23, v24, v25, v26]))]) (fun u => []) D) 0 0 := by
  refine CT.ofW (by decide +kernel) (Nat.le_of_ble_eq_true rfl) ?_
  intro p e s m below meth c A ls hcs hP hK hD hX hA hS hl
  obtain ⟨hx, hb, hr, hml, hown, hg, hlocks, hin⟩ := hcs
  have hown : s.vm.findClass RX6 = some m.cls := hown
  have hl : lv_has ls 5 [(0, .ref h0), (1, .int 2), (2, .int 3), (3, .int 5), (4, .int 1)] := hl
  refine lv_aload_n hx hb dX6_stateFails_0 rfl (lv_at hl 0 rfl) ?_
  refine lv_iload_n hx hb dX6_stateFails_1 rfl (lv_at hl 2 rfl) ?_
  refine va_put (D := D) (ci := 6) (v := .int 3) (ty := .int) (C := RX6) (T := TX6) (N := 27) hx hb hg inX6 tyX6 tyX6_ok nmX6 hown hK hP hD hS 0 rfl rfl 9 (by decide) (hg _ k1228) (fun _ h9 => h9) rfl (by decide +kernel) rfl rfl (Nat.le_of_ble_eq_true rfl) dX6_stateFails_2 (fun H locs hP hD hS => ?_)
  have hP : va_P D vwCl [(h0, .inr (6, [v0, v1, v2, v3, v4, v5, v6, v7, v8, .int 3, v10, v11, v12, v13, v14, v15, v16, v17, v18, v19, v20, v21, v22, v23, v24, v25, v26]))] H := hP
  have hD : va_D A [(h0, .inr (6, [v0, v1, v2, v3, v4, v5, v6, v7, v8, .int 3, v10, v11, v12, v13, v14, v15, v16, v17, v18, v19, v20, v21, v22, v23, v24, v25, v26]))] := hD
  refine lv_aload_n hx hb dX6_stateFails_5 rfl (lv_at hl 0 rfl) ?_
  refine lv_iload_n hx hb dX6_stateFails_6 rfl (lv_at hl 3 rfl) ?_
  refine va_put (D := D) (ci := 6) (v := .int 5) (ty := .int) (C := RX6) (T := TX6) (N := 27) hx hb hg inX6 tyX6 tyX6_ok nmX6 hown hK hP hD hS 0 rfl rfl 10 (by decide) (hg _ k1229) (fun _ h9 => h9) rfl (by decide +kernel) rfl rfl (Nat.le_of_ble_eq_true rfl) dX6_stateFails_7 (fun H locs hP hD hS => ?_)
  have hP : va_P D vwCl [(h0, .inr (6, [v0, v1, v2, v3, v4, v5, v6, v7, v8, .int 3, .int 5, v11, v12, v13, v14, v15, v16, v17, v18, v19, v20, v21, v22, v23, v24, v25, v26]))] H := hP
  have hD : va_D A [(h0, .inr (6, [v0, v1, v2, v3, v4, v5, v6, v7, v8, .int 3, .int 5, v11, v12, v13, v14, v15, v16, v17, v18, v19, v20, v21, v22, v23, v24, v25, v26]))] := hD
  refine lv_aload_n hx hb dX6_stateFails_10 rfl (lv_at hl 0 rfl) ?_
  refine lv_iload hx hb dX6_stateFails_11 (lv_at hl 4 rfl) ?_
  refine va_put (D := D) (ci := 6) (v := .int 1) (ty := .int) (C := RX6) (T := TX6) (N := 27) hx hb hg inX6 tyX6 tyX6_ok nmX6 hown hK hP hD hS 0 rfl rfl 11 (by decide) (hg _ k1230) (fun _ h9 => h9) rfl (by decide +kernel) rfl rfl (Nat.le_of_ble_eq_true rfl) dX6_stateFails_13 (fun H locs hP hD hS => ?_)
  have hP : va_P D vwCl [(h0, .inr (6, [v0, v1, v2, v3, v4, v5, v6, v7, v8, .int 3, .int 5, .int 1, v12, v13, v14, v15, v16, v17, v18, v19, v20, v21, v22, v23, v24, v25, v26]))] H := hP
  have hD : va_D A [(h0, .inr (6, [v0, v1, v2, v3, v4, v5, v6, v7, v8, .int 3, .int 5, .int 1, v12, v13, v14, v15, v16, v17, v18, v19, v20, v21, v22, v23, v24, v25, v26]))] := hD
  refine lv_aload_n hx hb dX6_stateFails_16 rfl (lv_at hl 0 rfl) ?_
  refine lv_iload_n hx hb dX6_stateFails_17 rfl (lv_at hl 1 rfl) ?_
  refine cVi (n := 1) (As := [.int 2]) (rest := []) (wr := []) (tr := []) hx hb hml hown hg okN (cX6_fails_192 l D h0 v0 v1 v2 v3 v4 v5 v6 v7 v8 (.int 3) (.int 5) (.int 1) v12 v13 v14 v15 v16 v17 v18 v19 v20 v21 v22 v23 v24 v25 v26) (mwV k1320 k1322 k37 k92 k1323) ⟨rfl, by decide, by decide, by decide +kernel⟩ ⟨rfl, rfl, (Nat.le_of_ble_eq_true rfl), (Nat.le_of_ble_eq_true rfl)⟩ hP hD hK hS xn [0] [0] [] [] [] rfl (by decide) rfl rfl (by decide) (by decide) rfl rfl (va_free hD hS hA [0] rfl) (va_free hD hS hA [0] rfl) 0 rfl rfl rfl hl.1 rfl (Nat.le_of_ble_eq_true rfl) dX6_stateFails_18 ⟨(Nat.le_of_ble_eq_true rfl), (Nat.le_of_ble_eq_true rfl)⟩ (fun u H locs hφ hP hD hK hS hk => ?_)
  have hP : va_P D vwCl [(h0, .inr (6, [.int 2, v1, v2, v3, v4, v5, v6, v7, v8, .int 3, .int 5, .int 1, v12, v13, v14, v15, v16, v17, v18, v19, v20, v21, v22, v23, v24, v25, v26]))] H := hP
  have hD : va_D A [(h0, .inr (6, [.int 2, v1, v2, v3, v4, v5, v6, v7, v8, .int 3, .int 5, .int 1, v12, v13, v14, v15, v16, v17, v18, v19, v20, v21, v22, v23, v24, v25, v26]))] := hD
  have hK : va_K D vwCl [] s := hK
  refine W.widen (k := 0) (n := 0) (Nat.le_of_ble_eq_true rfl) (Nat.le_of_ble_eq_true rfl) ?_
  exact fi hx hb hr hlocks hP hD hK hS (()) trivial rfl [0] [] rfl (by decide) rfl (Nat.le_of_ble_eq_true rfl) (Nat.le_of_ble_eq_true rfl) dX6_stateFails_21
set_option maxHeartbeats 4000000 in
set_option maxRecDepth 100000 in
theorem cX6_lift_199 (l : Launch) (D : va_G) (h0 : Nat) (h1 : Nat) (v0 : Value) (v1 : Value) (v2 : Value) (v3 : Value) (v4 : Value) (v5 : Value) (v6 : Value) (v7 : Value) (v8 : Value) (v9 : Value) (v10 : Value) (v11 : Value) (v12 : Value) (v13 : Value) (v14 : Value) (v15 : Value) (v16 : Value) (v17 : Value) (v18 : Value) (v19 : Value) (v20 : Value) (v21 : Value) (v22 : Value) (v23 : Value) (v24 : Value) (f0 : Nat → Int64) (a0 : ClassId) (ef0_102 : f0 102 = (-1))  : CT l yX6_lift cX6_lift 2 (some .long) { frames := 2, cells := 0, slots := 0, locals := 46 } [.ref h0, .int 1] D [(h0, .inr (6, [v0, .ref h1, v1, v2, v3, v4, v5, .int 2, v6, v7, v8, v9, v10, v11, v12, v13, v14, v15, v16, v17, v18, v19, v20, v21, v22, v23, v24])), (h1, .inl (a0, 609, .inr (.inl f0)))] [(a0, .long)] XN [(h0, .inr (6, [v0, .ref h1, v1, v2, v3, v4, v5, .int 2, v6, v7, v8, v9, v10, v11, v12, v13, v14, v15, v16, v17, v18, v19, v20, v21, v22, v23, v24])), (h1, .inl (a0, 609, .inr (.inl f0)))] (el (fun _ : Unit => True) (fun u => 0) (fun _ => [(h0, .inr (6, [.int 2, .ref h1, v1, v2, v3, v4, v5, .int 2, v6, .int 3, .int 5, .int 1, v10, v11, v12, v13, v14, v15, v16, v17, v18, v19, v20, v21, v22, v23, v24])), (h1, .inl (a0, 609, .inr (.inl f0)))]) (fun u => [(a0, .long)]) D) 0 0 := by
  refine CT.ofW (by decide +kernel) (Nat.le_of_ble_eq_true rfl) ?_
  intro p e s m below meth c A ls hcs hP hK hD hX hA hS hl
  obtain ⟨hx, hb, hr, hml, hown, hg, hlocks, hin⟩ := hcs
  have hown : s.vm.findClass RX6 = some m.cls := hown
  have hl : lv_has ls 2 [(0, .ref h0), (1, .int 1)] := hl
  refine lv_aload_n hx hb dX6_lift_0 rfl (lv_at hl 0 rfl) ?_
  refine lv_aload_n hx hb dX6_lift_1 rfl (lv_at hl 0 rfl) ?_
  refine lv_iload_n hx hb dX6_lift_2 rfl (lv_at hl 1 rfl) ?_
  refine cVi (n := 1) (As := [.int 1]) (rest := [.ref h0]) (wr := [(h0, .inr (6, [v0, .ref h1, v1, v2, v3, v4, v5, .int 2, v6, v7, v8, v9, v10, v11, v12, v13, v14, v15, v16, v17, v18, v19, v20, v21, v22, v23, v24])), (h1, .inl (a0, 609, .inr (.inl f0)))]) (tr := [(a0, .long)]) hx hb hml hown hg okN (cX6_isSample_81 l D h0 v0 (.ref h1) v1 v2 v3 v4 v5 v6 v7 v8 v9 v10 v11 v12 v13 v14 v15 v16 v17 v18 v19 v20 v21 v22 v23 v24) (mwV k1440 k1442 k57 k92 k1443) ⟨rfl, by decide, by decide, by decide +kernel⟩ ⟨rfl, rfl, (Nat.le_of_ble_eq_true rfl), (Nat.le_of_ble_eq_true rfl)⟩ hP hD hK hS xn [0] [] [0, 1] [] [0] rfl (by decide) rfl rfl (by decide) (by decide) rfl rfl (aNil hA hS) (aNil hA hS) 0 rfl rfl rfl hl.1 rfl (Nat.le_of_ble_eq_true rfl) dX6_lift_3 ⟨(Nat.le_of_ble_eq_true rfl), (Nat.le_of_ble_eq_true rfl)⟩ (fun u H locs hφ hP hD hK hS hk => ?_)
  have hP : va_P D vwCl [(h0, .inr (6, [v0, .ref h1, v1, v2, v3, v4, v5, .int 2, v6, v7, v8, v9, v10, v11, v12, v13, v14, v15, v16, v17, v18, v19, v20, v21, v22, v23, v24])), (h1, .inl (a0, 609, .inr (.inl f0)))] H := hP
  have hD : va_D A [(h0, .inr (6, [v0, .ref h1, v1, v2, v3, v4, v5, .int 2, v6, v7, v8, v9, v10, v11, v12, v13, v14, v15, v16, v17, v18, v19, v20, v21, v22, v23, v24])), (h1, .inl (a0, 609, .inr (.inl f0)))] := hD
  have hK : va_K D vwCl [(a0, .long)] s := hK
  refine W.widen (k := 0) (n := 0) (Nat.le_of_ble_eq_true rfl) (Nat.le_of_ble_eq_true rfl) ?_
  refine lv_if_eq (tgt := 13) hx hb dX6_lift_6 (by decide) (fun c9 => absurd c9 (by decide)) (fun _ => ?_)
  refine lv_iconst (v := 0) hx hb dX6_lift_9 (by decide) ?_
  refine lv_goto (tgt := 14) hx hb dX6_lift_10 (by decide) ?_
  refine va_put (D := D) (ci := 6) (v := .int 0) (ty := .int) (C := RX6) (T := TX6) (N := 27) hx hb hg inX6 tyX6 tyX6_ok nmX6 hown hK hP hD hS 0 rfl rfl 0 (by decide) (hg _ k1219) (fun _ h9 => h9) rfl (by decide +kernel) rfl rfl (Nat.le_of_ble_eq_true rfl) dX6_lift_14 (fun H locs hP hD hS => ?_)
  have hP : va_P D vwCl [(h0, .inr (6, [.int 0, .ref h1, v1, v2, v3, v4, v5, .int 2, v6, v7, v8, v9, v10, v11, v12, v13, v14, v15, v16, v17, v18, v19, v20, v21, v22, v23, v24])), (h1, .inl (a0, 609, .inr (.inl f0)))] H := hP
  have hD : va_D A [(h0, .inr (6, [.int 0, .ref h1, v1, v2, v3, v4, v5, .int 2, v6, v7, v8, v9, v10, v11, v12, v13, v14, v15, v16, v17, v18, v19, v20, v21, v22, v23, v24])), (h1, .inl (a0, 609, .inr (.inl f0)))] := hD
  refine lv_aload_n hx hb dX6_lift_17 rfl (lv_at hl 0 rfl) ?_
  refine va_get (D := D) (ci := 6) (v := .int 0) (C := RX6) (T := TX6) (N := 27) hx hb hg inX6 hown hK hP 0 rfl rfl 0 (by decide) (hg _ k1219) (fun _ h9 => h9) rfl dX6_lift_18 ?_
  refine lv_if_le (tgt := 26) hx hb dX6_lift_21 (by decide) (fun _ => ?_) (fun c9 => absurd (by decide) c9)
  refine lv_aload_n hx hb dX6_lift_26 rfl (lv_at hl 0 rfl) ?_
  refine lv_iload_n hx hb dX6_lift_27 rfl (lv_at hl 1 rfl) ?_
  refine cVi (n := 1) (As := [.int 1]) (rest := []) (wr := [(h0, .inr (6, [.int 0, .ref h1, v1, v2, v3, v4, v5, .int 2, v6, v7, v8, v9, v10, v11, v12, v13, v14, v15, v16, v17, v18, v19, v20, v21, v22, v23, v24])), (h1, .inl (a0, 609, .inr (.inl f0)))]) (tr := [(a0, .long)]) hx hb hml hown hg okN (cX6_isInner_200 l D h0 (.int 0) (.ref h1) v1 v2 v3 v4 v5 v6 v7 v8 v9 v10 v11 v12 v13 v14 v15 v16 v17 v18 v19 v20 v21 v22 v23 v24) (mwV k1527 k1529 k64 k92 k1530) ⟨rfl, by decide, by decide, by decide +kernel⟩ ⟨rfl, rfl, (Nat.le_of_ble_eq_true rfl), (Nat.le_of_ble_eq_true rfl)⟩ hP hD hK hS xn [0] [] [0, 1] [] [0] rfl (by decide) rfl rfl (by decide) (by decide) rfl rfl (aNil hA hS) (aNil hA hS) 0 rfl rfl rfl hl.1 rfl (Nat.le_of_ble_eq_true rfl) dX6_lift_28 ⟨(Nat.le_of_ble_eq_true rfl), (Nat.le_of_ble_eq_true rfl)⟩ (fun u H locs hφ hP hD hK hS hk => ?_)
  have hP : va_P D vwCl [(h0, .inr (6, [.int 0, .ref h1, v1, v2, v3, v4, v5, .int 2, v6, v7, v8, v9, v10, v11, v12, v13, v14, v15, v16, v17, v18, v19, v20, v21, v22, v23, v24])), (h1, .inl (a0, 609, .inr (.inl f0)))] H := hP
  have hD : va_D A [(h0, .inr (6, [.int 0, .ref h1, v1, v2, v3, v4, v5, .int 2, v6, v7, v8, v9, v10, v11, v12, v13, v14, v15, v16, v17, v18, v19, v20, v21, v22, v23, v24])), (h1, .inl (a0, 609, .inr (.inl f0)))] := hD
  have hK : va_K D vwCl [(a0, .long)] s := hK
  refine W.widen (k := 0) (n := 0) (Nat.le_of_ble_eq_true rfl) (Nat.le_of_ble_eq_true rfl) ?_
  refine lv_if_ne (tgt := 56) hx hb dX6_lift_31 (by decide) (fun c9 => absurd (by decide) c9) (fun _ => ?_)
  refine lv_aload_n hx hb dX6_lift_34 rfl (lv_at hl 0 rfl) ?_
  refine lv_iconst (v := 2) hx hb dX6_lift_35 (by decide) ?_
  refine lv_iconst (v := 3) hx hb dX6_lift_36 (by decide) ?_
  refine lv_aload_n hx hb dX6_lift_37 rfl (lv_at hl 0 rfl) ?_
  refine lv_iload_n hx hb dX6_lift_38 rfl (lv_at hl 1 rfl) ?_
  refine cVi (n := 1) (As := [.int 1]) (rest := [.int 3, .int 2, .ref h0]) (wr := [(h0, .inr (6, [.int 0, .ref h1, v1, v2, v3, v4, v5, .int 2, v6, v7, v8, v9, v10, v11, v12, v13, v14, v15, v16, v17, v18, v19, v20, v21, v22, v23, v24])), (h1, .inl (a0, 609, .inr (.inl f0)))]) (tr := [(a0, .long)]) hx hb hml hown hg okN (cX6_isPresent_53 l D h0 h1 (.int 0) v1 v2 v3 v4 v5 (.int 2) v6 v7 v8 v9 v10 v11 v12 v13 v14 v15 v16 v17 v18 v19 v20 v21 v22 v23 v24 f0 a0 ef0_102) (mwV k1432 k1434 k56 k92 k1435) ⟨rfl, by decide, by decide, by decide +kernel⟩ ⟨rfl, rfl, (Nat.le_of_ble_eq_true rfl), (Nat.le_of_ble_eq_true rfl)⟩ hP hD hK hS xn [0, 1] [] [0, 1] [0] [0] rfl (by decide) rfl rfl (by decide) (by decide) rfl rfl (aNil hA hS) (aNil hA hS) 0 rfl rfl rfl hl.1 rfl (Nat.le_of_ble_eq_true rfl) dX6_lift_39 ⟨(Nat.le_of_ble_eq_true rfl), (Nat.le_of_ble_eq_true rfl)⟩ (fun u H locs hφ hP hD hK hS hk => ?_)
  have hP : va_P D vwCl [(h0, .inr (6, [.int 0, .ref h1, v1, v2, v3, v4, v5, .int 2, v6, v7, v8, v9, v10, v11, v12, v13, v14, v15, v16, v17, v18, v19, v20, v21, v22, v23, v24])), (h1, .inl (a0, 609, .inr (.inl f0)))] H := hP
  have hD : va_D A [(h0, .inr (6, [.int 0, .ref h1, v1, v2, v3, v4, v5, .int 2, v6, v7, v8, v9, v10, v11, v12, v13, v14, v15, v16, v17, v18, v19, v20, v21, v22, v23, v24])), (h1, .inl (a0, 609, .inr (.inl f0)))] := hD
  have hK : va_K D vwCl [(a0, .long)] s := hK
  refine W.widen (k := 0) (n := 0) (Nat.le_of_ble_eq_true rfl) (Nat.le_of_ble_eq_true rfl) ?_
  refine lv_if_eq (tgt := 49) hx hb dX6_lift_42 (by decide) (fun c9 => absurd c9 (by decide)) (fun _ => ?_)
  refine lv_iconst (v := 5) hx hb dX6_lift_45 (by decide) ?_
  refine lv_goto (tgt := 50) hx hb dX6_lift_46 (by decide) ?_
  refine lv_iload_n hx hb dX6_lift_50 rfl (lv_at hl 1 rfl) ?_
  refine cVi (n := 4) (As := [.int 2, .int 3, .int 5, .int 1]) (rest := []) (wr := [(h1, .inl (a0, 609, .inr (.inl f0)))]) (tr := [(a0, .long)]) hx hb hml hown hg okN (cX6_stateFails_201 l D h0 (.int 0) (.ref h1) v1 v2 v3 v4 v5 (.int 2) v6 v7 v8 v9 v10 v11 v12 v13 v14 v15 v16 v17 v18 v19 v20 v21 v22 v23 v24) (mwV k1569 k1571 k70 k92 k1572) ⟨rfl, by decide, by decide, by decide +kernel⟩ ⟨rfl, rfl, (Nat.le_of_ble_eq_true rfl), (Nat.le_of_ble_eq_true rfl)⟩ hP hD hK hS xn [0] [0] [1] [] [0] rfl (by decide) rfl rfl (by decide) (by decide) rfl rfl (va_free hD hS hA [0] rfl) (va_free hD hS hA [0] rfl) 0 rfl rfl rfl hl.1 rfl (Nat.le_of_ble_eq_true rfl) dX6_lift_51 ⟨(Nat.le_of_ble_eq_true rfl), (Nat.le_of_ble_eq_true rfl)⟩ (fun u H locs hφ hP hD hK hS hk => ?_)
  have hP : va_P D vwCl [(h1, .inl (a0, 609, .inr (.inl f0))), (h0, .inr (6, [.int 2, .ref h1, v1, v2, v3, v4, v5, .int 2, v6, .int 3, .int 5, .int 1, v10, v11, v12, v13, v14, v15, v16, v17, v18, v19, v20, v21, v22, v23, v24]))] H := hP
  have hD : va_D A [(h1, .inl (a0, 609, .inr (.inl f0))), (h0, .inr (6, [.int 2, .ref h1, v1, v2, v3, v4, v5, .int 2, v6, .int 3, .int 5, .int 1, v10, v11, v12, v13, v14, v15, v16, v17, v18, v19, v20, v21, v22, v23, v24]))] := hD
  have hK : va_K D vwCl [(a0, .long)] s := hK
  refine W.widen (k := 0) (n := 0) (Nat.le_of_ble_eq_true rfl) (Nat.le_of_ble_eq_true rfl) ?_
  refine lv_i2l (v := 0) hx hb dX6_lift_54 (by decide) ?_
  exact fl hx hb hr hlocks hP hD hK hS (()) trivial rfl [1, 0] [0] rfl (by decide) rfl (Nat.le_of_ble_eq_true rfl) (Nat.le_of_ble_eq_true rfl) dX6_lift_55
set_option maxHeartbeats 4000000 in
set_option maxRecDepth 100000 in
theorem cX6_lift_202 (l : Launch) (D : va_G) (h0 : Nat) (x0 : Int32) (v0 : Value) (v1 : Value) (v2 : Value) (v3 : Value) (v4 : Value) (v5 : Value) (v6 : Value) (v7 : Value) (v8 : Value) (v9 : Value) (v10 : Value) (v11 : Value) (v12 : Value) (v13 : Value) (v14 : Value) (v15 : Value) (v16 : Value) (v17 : Value) (v18 : Value) (v19 : Value) (v20 : Value) (v21 : Value) (v22 : Value) (v23 : Value) (v24 : Value) (v25 : Value)  (d0 : ¬ ((lg_cmp x0.toInt64 0) < 0)) (d1 : 0 < (lg_cmp x0.toInt64 1)) : CT l yX6_lift cX6_lift 2 (some .long) { frames := 2, cells := 0, slots := 0, locals := 46 } [.ref h0, .int x0] D [(h0, .inr (6, [v0, v1, v2, v3, v4, v5, v6, .int 2, v7, v8, v9, v10, v11, v12, v13, v14, v15, v16, v17, v18, v19, v20, v21, v22, v23, v24, v25]))] [] XN [(h0, .inr (6, [v0, v1, v2, v3, v4, v5, v6, .int 2, v7, v8, v9, v10, v11, v12, v13, v14, v15, v16, v17, v18, v19, v20, v21, v22, v23, v24, v25]))] (el (fun _ : Unit => True) (fun u => 0) (fun _ => [(h0, .inr (6, [.int 1, v1, v2, v3, v4, v5, v6, .int 2, v7, v8, v9, v10, v11, v12, v13, v14, v15, v16, v17, v18, v19, v20, v21, v22, v23, v24, v25]))]) (fun u => []) D) 0 0 := by
  refine CT.ofW (by decide +kernel) (Nat.le_of_ble_eq_true rfl) ?_
  intro p e s m below meth c A ls hcs hP hK hD hX hA hS hl
  obtain ⟨hx, hb, hr, hml, hown, hg, hlocks, hin⟩ := hcs
  have hown : s.vm.findClass RX6 = some m.cls := hown
  have hl : lv_has ls 2 [(0, .ref h0), (1, .int x0)] := hl
  refine lv_aload_n hx hb dX6_lift_0 rfl (lv_at hl 0 rfl) ?_
  refine lv_aload_n hx hb dX6_lift_1 rfl (lv_at hl 0 rfl) ?_
  refine lv_iload_n hx hb dX6_lift_2 rfl (lv_at hl 1 rfl) ?_
  refine cVi (n := 1) (As := [.int x0]) (rest := [.ref h0]) (wr := [(h0, .inr (6, [v0, v1, v2, v3, v4, v5, v6, .int 2, v7, v8, v9, v10, v11, v12, v13, v14, v15, v16, v17, v18, v19, v20, v21, v22, v23, v24, v25]))]) (tr := []) hx hb hml hown hg okN (cX6_isSample_60 l D h0 x0 v0 v1 v2 v3 v4 v5 v6 v7 v8 v9 v10 v11 v12 v13 v14 v15 v16 v17 v18 v19 v20 v21 v22 v23 v24 v25 d0 d1) (mwV k1440 k1442 k57 k92 k1443) ⟨rfl, by decide, by decide, by decide +kernel⟩ ⟨rfl, rfl, (Nat.le_of_ble_eq_true rfl), (Nat.le_of_ble_eq_true rfl)⟩ hP hD hK hS xn [0] [] [0] [] [] rfl (by decide) rfl rfl (by decide) (by decide) rfl rfl (aNil hA hS) (aNil hA hS) 0 rfl rfl rfl hl.1 rfl (Nat.le_of_ble_eq_true rfl) dX6_lift_3 ⟨(Nat.le_of_ble_eq_true rfl), (Nat.le_of_ble_eq_true rfl)⟩ (fun u H locs hφ hP hD hK hS hk => ?_)
  have hP : va_P D vwCl [(h0, .inr (6, [v0, v1, v2, v3, v4, v5, v6, .int 2, v7, v8, v9, v10, v11, v12, v13, v14, v15, v16, v17, v18, v19, v20, v21, v22, v23, v24, v25]))] H := hP
  have hD : va_D A [(h0, .inr (6, [v0, v1, v2, v3, v4, v5, v6, .int 2, v7, v8, v9, v10, v11, v12, v13, v14, v15, v16, v17, v18, v19, v20, v21, v22, v23, v24, v25]))] := hD
  have hK : va_K D vwCl [] s := hK
  refine W.widen (k := 0) (n := 0) (Nat.le_of_ble_eq_true rfl) (Nat.le_of_ble_eq_true rfl) ?_
  refine lv_if_eq (tgt := 13) hx hb dX6_lift_6 (by decide) (fun _ => ?_) (fun c9 => absurd (by decide) c9)
  refine lv_iconst (v := 1) hx hb dX6_lift_13 (by decide) ?_
  refine va_put (D := D) (ci := 6) (v := .int 1) (ty := .int) (C := RX6) (T := TX6) (N := 27) hx hb hg inX6 tyX6 tyX6_ok nmX6 hown hK hP hD hS 0 rfl rfl 0 (by decide) (hg _ k1219) (fun _ h9 => h9) rfl (by decide +kernel) rfl rfl (Nat.le_of_ble_eq_true rfl) dX6_lift_14 (fun H locs hP hD hS => ?_)
  have hP : va_P D vwCl [(h0, .inr (6, [.int 1, v1, v2, v3, v4, v5, v6, .int 2, v7, v8, v9, v10, v11, v12, v13, v14, v15, v16, v17, v18, v19, v20, v21, v22, v23, v24, v25]))] H := hP
  have hD : va_D A [(h0, .inr (6, [.int 1, v1, v2, v3, v4, v5, v6, .int 2, v7, v8, v9, v10, v11, v12, v13, v14, v15, v16, v17, v18, v19, v20, v21, v22, v23, v24, v25]))] := hD
  refine lv_aload_n hx hb dX6_lift_17 rfl (lv_at hl 0 rfl) ?_
  refine va_get (D := D) (ci := 6) (v := .int 1) (C := RX6) (T := TX6) (N := 27) hx hb hg inX6 hown hK hP 0 rfl rfl 0 (by decide) (hg _ k1219) (fun _ h9 => h9) rfl dX6_lift_18 ?_
  refine lv_if_le (tgt := 26) hx hb dX6_lift_21 (by decide) (fun c9 => absurd c9 (by decide)) (fun _ => ?_)
  refine lv_lconst (v := 0) hx hb dX6_lift_24 (by decide) ?_
  exact fl hx hb hr hlocks hP hD hK hS (()) trivial rfl [0] [] rfl (by decide) rfl (Nat.le_of_ble_eq_true rfl) (Nat.le_of_ble_eq_true rfl) dX6_lift_25
set_option maxHeartbeats 4000000 in
set_option maxRecDepth 100000 in
theorem cX6_inverse_203 (l : Launch) (D : va_G) (h0 : Nat) (x0 : Int32) (v0 : Value) (v1 : Value) (v2 : Value) (v3 : Value) (v4 : Value) (v5 : Value) (v6 : Value) (v7 : Value) (v8 : Value) (v9 : Value) (v10 : Value) (v11 : Value) (v12 : Value) (v13 : Value) (v14 : Value) (v15 : Value) (v16 : Value) (v17 : Value) (v18 : Value) (v19 : Value) (v20 : Value) (v21 : Value) (v22 : Value) (v23 : Value) (v24 : Value) (v25 : Value) (v26 : Value)  (d0 : (lg_cmp x0.toInt64 1) < 0) : CT l yX6_inverse cX6_inverse 3 (some .int) { frames := 1, cells := 0, slots := 0, locals := 25 } [.ref h0, .int x0] D [(h0, .inr (6, [v0, v1, v2, v3, v4, v5, v6, v7, v8, v9, v10, v11, v12, v13, v14, v15, v16, v17, v18, v19, v20, v21, v22, v23, v24, v25, v26]))] [] XN [(h0, .inr (6, [v0, v1, v2, v3, v4, v5, v6, v7, v8, v9, v10, v11, v12, v13, v14, v15, v16, v17, v18, v19, v20, v21, v22, v23, v24, v25, v26]))] (ei (fun _ : Unit => True) (fun u => 0) (fun _ => [(h0, .inr (6, [.int 1, v1, v2, v3, v4, v5, v6, v7, v8, v9, v10, v11, v12, v13, v14, v15, v16, v17, v18, v19, v20, v21, v22, v23, v24, v25, v26]))]) (fun u => []) D) 0 0 := by
  refine CT.ofW (by decide +kernel) (Nat.le_of_ble_eq_true rfl) ?_
  intro p e s m below meth c A ls hcs hP hK hD hX hA hS hl
  obtain ⟨hx, hb, hr, hml, hown, hg, hlocks, hin⟩ := hcs
  have hown : s.vm.findClass RX6 = some m.cls := hown
  have hl : lv_has ls 3 [(0, .ref h0), (1, .int x0)] := hl
  refine lv_aload_n hx hb dX6_inverse_0 rfl (lv_at hl 0 rfl) ?_
  refine lv_iload_n hx hb dX6_inverse_1 rfl (lv_at hl 1 rfl) ?_
  refine lv_i2l (v := x0.toInt64) hx hb dX6_inverse_2 rfl ?_
  refine lv_lconst (v := 1) hx hb dX6_inverse_3 (by decide) ?_
  refine lv_ldc2 hx hb hown (hg _ k1587) dX6_inverse_4 ?_
  refine cSi (n := 3) (As := [.long x0.toInt64, .long 1, .long 46]) (rest := [.ref h0]) (wr := [(h0, .inr (6, [v0, v1, v2, v3, v4, v5, v6, v7, v8, v9, v10, v11, v12, v13, v14, v15, v16, v17, v18, v19, v20, v21, v22, v23, v24, v25, v26]))]) (tr := []) hx hb hml hown hg okN (cX6_in_188 l D x0 d0) (mwS k1317 k1318 k92 k1319) ⟨rfl, by decide, by decide, by decide +kernel⟩ ⟨rfl, rfl, (Nat.le_of_ble_eq_true rfl), (Nat.le_of_ble_eq_true rfl)⟩ hP hD hK hS xn [] [] [0] [] [] rfl (by decide) rfl rfl (by decide) (by decide) rfl rfl (aNil hA hS) (aNil hA hS) rfl hl.1 rfl (Nat.le_of_ble_eq_true rfl) dX6_inverse_7 ⟨(Nat.le_of_ble_eq_true rfl), (Nat.le_of_ble_eq_true rfl)⟩ (fun u H locs hφ hP hD hK hS hk => ?_)
  have hP : va_P D vwCl [(h0, .inr (6, [v0, v1, v2, v3, v4, v5, v6, v7, v8, v9, v10, v11, v12, v13, v14, v15, v16, v17, v18, v19, v20, v21, v22, v23, v24, v25, v26]))] H := hP
  have hD : va_D A [(h0, .inr (6, [v0, v1, v2, v3, v4, v5, v6, v7, v8, v9, v10, v11, v12, v13, v14, v15, v16, v17, v18, v19, v20, v21, v22, v23, v24, v25, v26]))] := hD
  have hK : va_K D vwCl [] s := hK
  refine W.widen (k := 0) (n := 0) (Nat.le_of_ble_eq_true rfl) (Nat.le_of_ble_eq_true rfl) ?_
  refine lv_if_eq (tgt := 17) hx hb dX6_inverse_10 (by decide) (fun _ => ?_) (fun c9 => absurd (by decide) c9)
  refine lv_iconst (v := 1) hx hb dX6_inverse_17 (by decide) ?_
  refine va_put (D := D) (ci := 6) (v := .int 1) (ty := .int) (C := RX6) (T := TX6) (N := 27) hx hb hg inX6 tyX6 tyX6_ok nmX6 hown hK hP hD hS 0 rfl rfl 0 (by decide) (hg _ k1219) (fun _ h9 => h9) rfl (by decide +kernel) rfl rfl (Nat.le_of_ble_eq_true rfl) dX6_inverse_18 (fun H locs hP hD hS => ?_)
  have hP : va_P D vwCl [(h0, .inr (6, [.int 1, v1, v2, v3, v4, v5, v6, v7, v8, v9, v10, v11, v12, v13, v14, v15, v16, v17, v18, v19, v20, v21, v22, v23, v24, v25, v26]))] H := hP
  have hD : va_D A [(h0, .inr (6, [.int 1, v1, v2, v3, v4, v5, v6, v7, v8, v9, v10, v11, v12, v13, v14, v15, v16, v17, v18, v19, v20, v21, v22, v23, v24, v25, v26]))] := hD
  refine lv_aload_n hx hb dX6_inverse_21 rfl (lv_at hl 0 rfl) ?_
  refine va_get (D := D) (ci := 6) (v := .int 1) (C := RX6) (T := TX6) (N := 27) hx hb hg inX6 hown hK hP 0 rfl rfl 0 (by decide) (hg _ k1219) (fun _ h9 => h9) rfl dX6_inverse_22 ?_
  refine lv_if_le (tgt := 30) hx hb dX6_inverse_25 (by decide) (fun c9 => absurd c9 (by decide)) (fun _ => ?_)
  refine lv_iconst (v := 0) hx hb dX6_inverse_28 (by decide) ?_
  exact fi hx hb hr hlocks hP hD hK hS (()) trivial rfl [0] [] rfl (by decide) rfl (Nat.le_of_ble_eq_true rfl) (Nat.le_of_ble_eq_true rfl) dX6_inverse_29
set_option maxHeartbeats 4000000 in
set_option maxRecDepth 100000 in
theorem cX6_stateFails_205 (l : Launch) (D : va_G) (h0 : Nat) (v0 : Value) (v1 : Value) (v2 : Value) (v3 : Value) (v4 : Value) (v5 : Value) (v6 : Value) (v7 : Value) (v8 : Value) (v9 : Value) (v10 : Value) (v11 : Value) (v12 : Value) (v13 : Value) (v14 : Value) (v15 : Value) (v16 : Value) (v17 : Value) (v18 : Value) (v19 : Value) (v20 : Value) (v21 : Value) (v22 : Value) (v23 : Value) (v24 : Value) (v25 : Value) (v26 : Value)   : CT l yX6_stateFails cX6_stateFails 5 (some .int) { frames := 1, cells := 0, slots := 0, locals := 21 } [.ref h0, .int 2, .int 2, .int 0, .int (-1)] D [(h0, .inr (6, [v0, v1, v2, v3, v4, v5, v6, v7, v8, v9, v10, v11, v12, v13, v14, v15, v16, v17, v18, v19, v20, v21, v22, v23, v24, v25, v26]))] [] XN [(h0, .inr (6, [v0, v1, v2, v3, v4, v5, v6, v7, v8, v9, v10, v11, v12, v13, v14, v15, v16, v17, v18, v19, v20, v21, v22, v23, v24, v25, v26]))] (ei (fun _ : Unit => True) (fun u => 0) (fun _ => [(h0, .inr (6, [.int 2, v1, v2, v3, v4, v5, v6, v7, v8, .int 2, .int 0, .int (-1), v12, v13, v14, v15, v16, v17, v18, v19, v20, v21, v22, v23, v24, v25, v26]))]) (fun u => []) D) 0 0 := by
  refine CT.ofW (by decide +kernel) (Nat.le_of_ble_eq_true rfl) ?_
  intro p e s m below meth c A ls hcs hP hK hD hX hA hS hl
  obtain ⟨hx, hb, hr, hml, hown, hg, hlocks, hin⟩ := hcs
  have hown : s.vm.findClass RX6 = some m.cls := hown
  have hl : lv_has ls 5 [(0, .ref h0), (1, .int 2), (2, .int 2), (3, .int 0), (4, .int (-1))] := hl
  refine lv_aload_n hx hb dX6_stateFails_0 rfl (lv_at hl 0 rfl) ?_
  refine lv_iload_n hx hb dX6_stateFails_1 rfl (lv_at hl 2 rfl) ?_
  refine va_put (D := D) (ci := 6) (v := .int 2) (ty := .int) (C := RX6) (T := TX6) (N := 27) hx hb hg inX6 tyX6 tyX6_ok nmX6 hown hK hP hD hS 0 rfl rfl 9 (by decide) (hg _ k1228) (fun _ h9 => h9) rfl (by decide +kernel) rfl rfl (Nat.le_of_ble_eq_true rfl) dX6_stateFails_2 (fun H locs hP hD hS => ?_)
  have hP : va_P D vwCl [(h0, .inr (6, [v0, v1, v2, v3, v4, v5, v6, v7, v8, .int 2, v10, v11, v12, v13, v14, v15, v16, v17, v18, v19, v20, v21, v22, v23, v24, v25, v26]))] H := hP
  have hD : va_D A [(h0, .inr (6, [v0, v1, v2, v3, v4, v5, v6, v7, v8, .int 2, v10, v11, v12, v13, v14, v15, v16, v17, v18, v19, v20, v21, v22, v23, v24, v25, v26]))] := hD
  refine lv_aload_n hx hb dX6_stateFails_5 rfl (lv_at hl 0 rfl) ?_
  refine lv_iload_n hx hb dX6_stateFails_6 rfl (lv_at hl 3 rfl) ?_
  refine va_put (D := D) (ci := 6) (v := .int 0) (ty := .int) (C := RX6) (T := TX6) (N := 27) hx hb hg inX6 tyX6 tyX6_ok nmX6 hown hK hP hD hS 0 rfl rfl 10 (by decide) (hg _ k1229) (fun _ h9 => h9) rfl (by decide +kernel) rfl rfl (Nat.le_of_ble_eq_true rfl) dX6_stateFails_7 (fun H locs hP hD hS => ?_)
  have hP : va_P D vwCl [(h0, .inr (6, [v0, v1, v2, v3, v4, v5, v6, v7, v8, .int 2, .int 0, v11, v12, v13, v14, v15, v16, v17, v18, v19, v20, v21, v22, v23, v24, v25, v26]))] H := hP
  have hD : va_D A [(h0, .inr (6, [v0, v1, v2, v3, v4, v5, v6, v7, v8, .int 2, .int 0, v11, v12, v13, v14, v15, v16, v17, v18, v19, v20, v21, v22, v23, v24, v25, v26]))] := hD
  refine lv_aload_n hx hb dX6_stateFails_10 rfl (lv_at hl 0 rfl) ?_
  refine lv_iload hx hb dX6_stateFails_11 (lv_at hl 4 rfl) ?_
  refine va_put (D := D) (ci := 6) (v := .int (-1)) (ty := .int) (C := RX6) (T := TX6) (N := 27) hx hb hg inX6 tyX6 tyX6_ok nmX6 hown hK hP hD hS 0 rfl rfl 11 (by decide) (hg _ k1230) (fun _ h9 => h9) rfl (by decide +kernel) rfl rfl (Nat.le_of_ble_eq_true rfl) dX6_stateFails_13 (fun H locs hP hD hS => ?_)
  have hP : va_P D vwCl [(h0, .inr (6, [v0, v1, v2, v3, v4, v5, v6, v7, v8, .int 2, .int 0, .int (-1), v12, v13, v14, v15, v16, v17, v18, v19, v20, v21, v22, v23, v24, v25, v26]))] H := hP
  have hD : va_D A [(h0, .inr (6, [v0, v1, v2, v3, v4, v5, v6, v7, v8, .int 2, .int 0, .int (-1), v12, v13, v14, v15, v16, v17, v18, v19, v20, v21, v22, v23, v24, v25, v26]))] := hD
  refine lv_aload_n hx hb dX6_stateFails_16 rfl (lv_at hl 0 rfl) ?_
  refine lv_iload_n hx hb dX6_stateFails_17 rfl (lv_at hl 1 rfl) ?_
  refine cVi (n := 1) (As := [.int 2]) (rest := []) (wr := []) (tr := []) hx hb hml hown hg okN (cX6_fails_192 l D h0 v0 v1 v2 v3 v4 v5 v6 v7 v8 (.int 2) (.int 0) (.int (-1)) v12 v13 v14 v15 v16 v17 v18 v19 v20 v21 v22 v23 v24 v25 v26) (mwV k1320 k1322 k37 k92 k1323) ⟨rfl, by decide, by decide, by decide +kernel⟩ ⟨rfl, rfl, (Nat.le_of_ble_eq_true rfl), (Nat.le_of_ble_eq_true rfl)⟩ hP hD hK hS xn [0] [0] [] [] [] rfl (by decide) rfl rfl (by decide) (by decide) rfl rfl (va_free hD hS hA [0] rfl) (va_free hD hS hA [0] rfl) 0 rfl rfl rfl hl.1 rfl (Nat.le_of_ble_eq_true rfl) dX6_stateFails_18 ⟨(Nat.le_of_ble_eq_true rfl), (Nat.le_of_ble_eq_true rfl)⟩ (fun u H locs hφ hP hD hK hS hk => ?_)
  have hP : va_P D vwCl [(h0, .inr (6, [.int 2, v1, v2, v3, v4, v5, v6, v7, v8, .int 2, .int 0, .int (-1), v12, v13, v14, v15, v16, v17, v18, v19, v20, v21, v22, v23, v24, v25, v26]))] H := hP
  have hD : va_D A [(h0, .inr (6, [.int 2, v1, v2, v3, v4, v5, v6, v7, v8, .int 2, .int 0, .int (-1), v12, v13, v14, v15, v16, v17, v18, v19, v20, v21, v22, v23, v24, v25, v26]))] := hD
  have hK : va_K D vwCl [] s := hK
  refine W.widen (k := 0) (n := 0) (Nat.le_of_ble_eq_true rfl) (Nat.le_of_ble_eq_true rfl) ?_
  exact fi hx hb hr hlocks hP hD hK hS (()) trivial rfl [0] [] rfl (by decide) rfl (Nat.le_of_ble_eq_true rfl) (Nat.le_of_ble_eq_true rfl) dX6_stateFails_21
set_option maxHeartbeats 4000000 in
set_option maxRecDepth 100000 in
theorem cX6_inverse_204 (l : Launch) (D : va_G) (h0 : Nat) (x0 : Int32) (h1 : Nat) (v0 : Value) (v1 : Value) (v2 : Value) (v3 : Value) (v4 : Value) (v5 : Value) (v6 : Value) (v7 : Value) (v8 : Value) (v9 : Value) (v10 : Value) (v11 : Value) (v12 : Value) (v13 : Value) (v14 : Value) (v15 : Value) (v16 : Value) (v17 : Value) (v18 : Value) (v19 : Value) (v20 : Value) (v21 : Value) (v22 : Value) (v23 : Value) (v24 : Value) (v25 : Value) (f0 : Nat → Int64) (a0 : ClassId) (ef0_4 : f0 4 = 0) (d0 : ¬ ((lg_cmp x0.toInt64 1) < 0)) (d1 : ¬ (0 < (lg_cmp x0.toInt64 46))) : CT l yX6_inverse cX6_inverse 3 (some .int) { frames := 2, cells := 0, slots := 0, locals := 45 } [.ref h0, .int x0] D [(h0, .inr (6, [v0, .ref h1, v1, v2, v3, v4, v5, v6, v7, v8, v9, v10, v11, v12, v13, v14, v15, v16, v17, v18, v19, v20, v21, v22, v23, v24, v25])), (h1, .inl (a0, 609, .inr (.inl f0)))] [(a0, .long)] XN [(h0, .inr (6, [v0, .ref h1, v1, v2, v3, v4, v5, v6, v7, v8, v9, v10, v11, v12, v13, v14, v15, v16, v17, v18, v19, v20, v21, v22, v23, v24, v25])), (h1, .inl (a0, 609, .inr (.inl f0)))] (ei (fun _ : Unit => True) (fun u => 0) (fun _ => [(h0, .inr (6, [.int 2, .ref h1, v1, v2, v3, v4, v5, v6, v7, .int 2, .int 0, .int (-1), v11, v12, v13, v14, v15, v16, v17, v18, v19, v20, v21, v22, v23, v24, v25])), (h1, .inl (a0, 609, .inr (.inl f0)))]) (fun u => [(a0, .long)]) D) 0 0 := by
  refine CT.ofW (by decide +kernel) (Nat.le_of_ble_eq_true rfl) ?_
  intro p e s m below meth c A ls hcs hP hK hD hX hA hS hl
  obtain ⟨hx, hb, hr, hml, hown, hg, hlocks, hin⟩ := hcs
  have hown : s.vm.findClass RX6 = some m.cls := hown
  have hl : lv_has ls 3 [(0, .ref h0), (1, .int x0)] := hl
  refine lv_aload_n hx hb dX6_inverse_0 rfl (lv_at hl 0 rfl) ?_
  refine lv_iload_n hx hb dX6_inverse_1 rfl (lv_at hl 1 rfl) ?_
  refine lv_i2l (v := x0.toInt64) hx hb dX6_inverse_2 rfl ?_
  refine lv_lconst (v := 1) hx hb dX6_inverse_3 (by decide) ?_
  refine lv_ldc2 hx hb hown (hg _ k1587) dX6_inverse_4 ?_
  refine cSi (n := 3) (As := [.long x0.toInt64, .long 1, .long 46]) (rest := [.ref h0]) (wr := [(h0, .inr (6, [v0, .ref h1, v1, v2, v3, v4, v5, v6, v7, v8, v9, v10, v11, v12, v13, v14, v15, v16, v17, v18, v19, v20, v21, v22, v23, v24, v25])), (h1, .inl (a0, 609, .inr (.inl f0)))]) (tr := [(a0, .long)]) hx hb hml hown hg okN (cX6_in_190 l D x0 d0 d1) (mwS k1317 k1318 k92 k1319) ⟨rfl, by decide, by decide, by decide +kernel⟩ ⟨rfl, rfl, (Nat.le_of_ble_eq_true rfl), (Nat.le_of_ble_eq_true rfl)⟩ hP hD hK hS xn [] [] [0, 1] [] [0] rfl (by decide) rfl rfl (by decide) (by decide) rfl rfl (aNil hA hS) (aNil hA hS) rfl hl.1 rfl (Nat.le_of_ble_eq_true rfl) dX6_inverse_7 ⟨(Nat.le_of_ble_eq_true rfl), (Nat.le_of_ble_eq_true rfl)⟩ (fun u H locs hφ hP hD hK hS hk => ?_)
  have hP : va_P D vwCl [(h0, .inr (6, [v0, .ref h1, v1, v2, v3, v4, v5, v6, v7, v8, v9, v10, v11, v12, v13, v14, v15, v16, v17, v18, v19, v20, v21, v22, v23, v24, v25])), (h1, .inl (a0, 609, .inr (.inl f0)))] H := hP
  have hD : va_D A [(h0, .inr (6, [v0, .ref h1, v1, v2, v3, v4, v5, v6, v7, v8, v9, v10, v11, v12, v13, v14, v15, v16, v17, v18, v19, v20, v21, v22, v23, v24, v25])), (h1, .inl (a0, 609, .inr (.inl f0)))] := hD
  have hK : va_K D vwCl [(a0, .long)] s := hK
  refine W.widen (k := 0) (n := 0) (Nat.le_of_ble_eq_true rfl) (Nat.le_of_ble_eq_true rfl) ?_
  refine lv_if_eq (tgt := 17) hx hb dX6_inverse_10 (by decide) (fun c9 => absurd c9 (by decide)) (fun _ => ?_)
  refine lv_iconst (v := 0) hx hb dX6_inverse_13 (by decide) ?_
  refine lv_goto (tgt := 18) hx hb dX6_inverse_14 (by decide) ?_
  refine va_put (D := D) (ci := 6) (v := .int 0) (ty := .int) (C := RX6) (T := TX6) (N := 27) hx hb hg inX6 tyX6 tyX6_ok nmX6 hown hK hP hD hS 0 rfl rfl 0 (by decide) (hg _ k1219) (fun _ h9 => h9) rfl (by decide +kernel) rfl rfl (Nat.le_of_ble_eq_true rfl) dX6_inverse_18 (fun H locs hP hD hS => ?_)
  have hP : va_P D vwCl [(h0, .inr (6, [.int 0, .ref h1, v1, v2, v3, v4, v5, v6, v7, v8, v9, v10, v11, v12, v13, v14, v15, v16, v17, v18, v19, v20, v21, v22, v23, v24, v25])), (h1, .inl (a0, 609, .inr (.inl f0)))] H := hP
  have hD : va_D A [(h0, .inr (6, [.int 0, .ref h1, v1, v2, v3, v4, v5, v6, v7, v8, v9, v10, v11, v12, v13, v14, v15, v16, v17, v18, v19, v20, v21, v22, v23, v24, v25])), (h1, .inl (a0, 609, .inr (.inl f0)))] := hD
  refine lv_aload_n hx hb dX6_inverse_21 rfl (lv_at hl 0 rfl) ?_
  refine va_get (D := D) (ci := 6) (v := .int 0) (C := RX6) (T := TX6) (N := 27) hx hb hg inX6 hown hK hP 0 rfl rfl 0 (by decide) (hg _ k1219) (fun _ h9 => h9) rfl dX6_inverse_22 ?_
  refine lv_if_le (tgt := 30) hx hb dX6_inverse_25 (by decide) (fun _ => ?_) (fun c9 => absurd (by decide) c9)
  refine lv_aload_n hx hb dX6_inverse_30 rfl (lv_at hl 0 rfl) ?_
  refine cVi (n := 0) (As := []) (rest := []) (wr := [(h0, .inr (6, [.int 0, .ref h1, v1, v2, v3, v4, v5, v6, v7, v8, v9, v10, v11, v12, v13, v14, v15, v16, v17, v18, v19, v20, v21, v22, v23, v24, v25])), (h1, .inl (a0, 609, .inr (.inl f0)))]) (tr := [(a0, .long)]) hx hb hml hown hg okN (cX6_steps_35 l D h0 h1 (.int 0) v1 v2 v3 v4 v5 v6 v7 v8 v9 v10 v11 v12 v13 v14 v15 v16 v17 v18 v19 v20 v21 v22 v23 v24 v25 f0 a0 ef0_4) (mwV k1416 k1418 k52 k92 k1419) ⟨rfl, by decide, by decide, by decide +kernel⟩ ⟨rfl, rfl, (Nat.le_of_ble_eq_true rfl), (Nat.le_of_ble_eq_true rfl)⟩ hP hD hK hS xn [0, 1] [] [0, 1] [0] [0] rfl (by decide) rfl rfl (by decide) (by decide) rfl rfl (aNil hA hS) (aNil hA hS) 0 rfl rfl rfl hl.1 rfl (Nat.le_of_ble_eq_true rfl) dX6_inverse_31 ⟨(Nat.le_of_ble_eq_true rfl), (Nat.le_of_ble_eq_true rfl)⟩ (fun u H locs hφ hP hD hK hS hk => ?_)
  have hP : va_P D vwCl [(h0, .inr (6, [.int 0, .ref h1, v1, v2, v3, v4, v5, v6, v7, v8, v9, v10, v11, v12, v13, v14, v15, v16, v17, v18, v19, v20, v21, v22, v23, v24, v25])), (h1, .inl (a0, 609, .inr (.inl f0)))] H := hP
  have hD : va_D A [(h0, .inr (6, [.int 0, .ref h1, v1, v2, v3, v4, v5, v6, v7, v8, v9, v10, v11, v12, v13, v14, v15, v16, v17, v18, v19, v20, v21, v22, v23, v24, v25])), (h1, .inl (a0, 609, .inr (.inl f0)))] := hD
  have hK : va_K D vwCl [(a0, .long)] s := hK
  refine W.widen (k := 0) (n := 0) (Nat.le_of_ble_eq_true rfl) (Nat.le_of_ble_eq_true rfl) ?_
  refine lv_if_ne (tgt := 46) hx hb dX6_inverse_34 (by decide) (fun c9 => absurd (by decide) c9) (fun _ => ?_)
  refine lv_aload_n hx hb dX6_inverse_37 rfl (lv_at hl 0 rfl) ?_
  refine lv_iconst (v := 2) hx hb dX6_inverse_38 (by decide) ?_
  refine lv_iconst (v := 2) hx hb dX6_inverse_39 (by decide) ?_
  refine lv_iconst (v := 0) hx hb dX6_inverse_40 (by decide) ?_
  refine lv_iconst (v := (-1)) hx hb dX6_inverse_41 (by decide) ?_
  refine cVi (n := 4) (As := [.int 2, .int 2, .int 0, .int (-1)]) (rest := []) (wr := [(h1, .inl (a0, 609, .inr (.inl f0)))]) (tr := [(a0, .long)]) hx hb hml hown hg okN (cX6_stateFails_205 l D h0 (.int 0) (.ref h1) v1 v2 v3 v4 v5 v6 v7 v8 v9 v10 v11 v12 v13 v14 v15 v16 v17 v18 v19 v20 v21 v22 v23 v24 v25) (mwV k1569 k1571 k70 k92 k1572) ⟨rfl, by decide, by decide, by decide +kernel⟩ ⟨rfl, rfl, (Nat.le_of_ble_eq_true rfl), (Nat.le_of_ble_eq_true rfl)⟩ hP hD hK hS xn [0] [0] [1] [] [0] rfl (by decide) rfl rfl (by decide) (by decide) rfl rfl (va_free hD hS hA [0] rfl) (va_free hD hS hA [0] rfl) 0 rfl rfl rfl hl.1 rfl (Nat.le_of_ble_eq_true rfl) dX6_inverse_42 ⟨(Nat.le_of_ble_eq_true rfl), (Nat.le_of_ble_eq_true rfl)⟩ (fun u H locs hφ hP hD hK hS hk => ?_)
  have hP : va_P D vwCl [(h1, .inl (a0, 609, .inr (.inl f0))), (h0, .inr (6, [.int 2, .ref h1, v1, v2, v3, v4, v5, v6, v7, .int 2, .int 0, .int (-1), v11, v12, v13, v14, v15, v16, v17, v18, v19, v20, v21, v22, v23, v24, v25]))] H := hP
  have hD : va_D A [(h1, .inl (a0, 609, .inr (.inl f0))), (h0, .inr (6, [.int 2, .ref h1, v1, v2, v3, v4, v5, v6, v7, .int 2, .int 0, .int (-1), v11, v12, v13, v14, v15, v16, v17, v18, v19, v20, v21, v22, v23, v24, v25]))] := hD
  have hK : va_K D vwCl [(a0, .long)] s := hK
  refine W.widen (k := 0) (n := 0) (Nat.le_of_ble_eq_true rfl) (Nat.le_of_ble_eq_true rfl) ?_
  exact fi hx hb hr hlocks hP hD hK hS (()) trivial rfl [1, 0] [0] rfl (by decide) rfl (Nat.le_of_ble_eq_true rfl) (Nat.le_of_ble_eq_true rfl) dX6_inverse_45
set_option maxHeartbeats 4000000 in
set_option maxRecDepth 100000 in
theorem cX6_inverse_206 (l : Launch) (D : va_G) (h0 : Nat) (x0 : Int32) (v0 : Value) (v1 : Value) (v2 : Value) (v3 : Value) (v4 : Value) (v5 : Value) (v6 : Value) (v7 : Value) (v8 : Value) (v9 : Value) (v10 : Value) (v11 : Value) (v12 : Value) (v13 : Value) (v14 : Value) (v15 : Value) (v16 : Value) (v17 : Value) (v18 : Value) (v19 : Value) (v20 : Value) (v21 : Value) (v22 : Value) (v23 : Value) (v24 : Value) (v25 : Value) (v26 : Value)  (d0 : ¬ ((lg_cmp x0.toInt64 1) < 0)) (d1 : 0 < (lg_cmp x0.toInt64 46)) : CT l yX6_inverse cX6_inverse 3 (some .int) { frames := 1, cells := 0, slots := 0, locals := 25 } [.ref h0, .int x0] D [(h0, .inr (6, [v0, v1, v2, v3, v4, v5, v6, v7, v8, v9, v10, v11, v12, v13, v14, v15, v16, v17, v18, v19, v20, v21, v22, v23, v24, v25, v26]))] [] XN [(h0, .inr (6, [v0, v1, v2, v3, v4, v5, v6, v7, v8, v9, v10, v11, v12, v13, v14, v15, v16, v17, v18, v19, v20, v21, v22, v23, v24, v25, v26]))] (ei (fun _ : Unit => True) (fun u => 0) (fun _ => [(h0, .inr (6, [.int 1, v1, v2, v3, v4, v5, v6, v7, v8, v9, v10, v11, v12, v13, v14, v15, v16, v17, v18, v19, v20, v21, v22, v23, v24, v25, v26]))]) (fun u => []) D) 0 0 := by
  refine CT.ofW (by decide +kernel) (Nat.le_of_ble_eq_true rfl) ?_
  intro p e s m below meth c A ls hcs hP hK hD hX hA hS hl
  obtain ⟨hx, hb, hr, hml, hown, hg, hlocks, hin⟩ := hcs
  have hown : s.vm.findClass RX6 = some m.cls := hown
  have hl : lv_has ls 3 [(0, .ref h0), (1, .int x0)] := hl
  refine lv_aload_n hx hb dX6_inverse_0 rfl (lv_at hl 0 rfl) ?_
  refine lv_iload_n hx hb dX6_inverse_1 rfl (lv_at hl 1 rfl) ?_
  refine lv_i2l (v := x0.toInt64) hx hb dX6_inverse_2 rfl ?_
  refine lv_lconst (v := 1) hx hb dX6_inverse_3 (by decide) ?_
  refine lv_ldc2 hx hb hown (hg _ k1587) dX6_inverse_4 ?_
  refine cSi (n := 3) (As := [.long x0.toInt64, .long 1, .long 46]) (rest := [.ref h0]) (wr := [(h0, .inr (6, [v0, v1, v2, v3, v4, v5, v6, v7, v8, v9, v10, v11, v12, v13, v14, v15, v16, v17, v18, v19, v20, v21, v22, v23, v24, v25, v26]))]) (tr := []) hx hb hml hown hg okN (cX6_in_194 l D x0 d0 d1) (mwS k1317 k1318 k92 k1319) ⟨rfl, by decide, by decide, by decide +kernel⟩ ⟨rfl, rfl, (Nat.le_of_ble_eq_true rfl), (Nat.le_of_ble_eq_true rfl)⟩ hP hD hK hS xn [] [] [0] [] [] rfl (by decide) rfl rfl (by decide) (by decide) rfl rfl (aNil hA hS) (aNil hA hS) rfl hl.1 rfl (Nat.le_of_ble_eq_true rfl) dX6_inverse_7 ⟨(Nat.le_of_ble_eq_true rfl), (Nat.le_of_ble_eq_true rfl)⟩ (fun u H locs hφ hP hD hK hS hk => ?_)
  have hP : va_P D vwCl [(h0, .inr (6, [v0, v1, v2, v3, v4, v5, v6, v7, v8, v9, v10, v11, v12, v13, v14, v15, v16, v17, v18, v19, v20, v21, v22, v23, v24, v25, v26]))] H := hP
  have hD : va_D A [(h0, .inr (6, [v0, v1, v2, v3, v4, v5, v6, v7, v8, v9, v10, v11, v12, v13, v14, v15, v16, v17, v18, v19, v20, v21, v22, v23, v24, v25, v26]))] := hD
  have hK : va_K D vwCl [] s := hK
  refine W.widen (k := 0) (n := 0) (Nat.le_of_ble_eq_true rfl) (Nat.le_of_ble_eq_true rfl) ?_
  refine lv_if_eq (tgt := 17) hx hb dX6_inverse_10 (by decide) (fun _ => ?_) (fun c9 => absurd (by decide) c9)
  refine lv_iconst (v := 1) hx hb dX6_inverse_17 (by decide) ?_
  refine va_put (D := D) (ci := 6) (v := .int 1) (ty := .int) (C := RX6) (T := TX6) (N := 27) hx hb hg inX6 tyX6 tyX6_ok nmX6 hown hK hP hD hS 0 rfl rfl 0 (by decide) (hg _ k1219) (fun _ h9 => h9) rfl (by decide +kernel) rfl rfl (Nat.le_of_ble_eq_true rfl) dX6_inverse_18 (fun H locs hP hD hS => ?_)
  have hP : va_P D vwCl [(h0, .inr (6, [.int 1, v1, v2, v3, v4, v5, v6, v7, v8, v9, v10, v11, v12, v13, v14, v15, v16, v17, v18, v19, v20, v21, v22, v23, v24, v25, v26]))] H := hP
  have hD : va_D A [(h0, .inr (6, [.int 1, v1, v2, v3, v4, v5, v6, v7, v8, v9, v10, v11, v12, v13, v14, v15, v16, v17, v18, v19, v20, v21, v22, v23, v24, v25, v26]))] := hD
  refine lv_aload_n hx hb dX6_inverse_21 rfl (lv_at hl 0 rfl) ?_
  refine va_get (D := D) (ci := 6) (v := .int 1) (C := RX6) (T := TX6) (N := 27) hx hb hg inX6 hown hK hP 0 rfl rfl 0 (by decide) (hg _ k1219) (fun _ h9 => h9) rfl dX6_inverse_22 ?_
  refine lv_if_le (tgt := 30) hx hb dX6_inverse_25 (by decide) (fun c9 => absurd c9 (by decide)) (fun _ => ?_)
  refine lv_iconst (v := 0) hx hb dX6_inverse_28 (by decide) ?_
  exact fi hx hb hr hlocks hP hD hK hS (()) trivial rfl [0] [] rfl (by decide) rfl (Nat.le_of_ble_eq_true rfl) (Nat.le_of_ble_eq_true rfl) dX6_inverse_29
set_option maxHeartbeats 4000000 in
set_option maxRecDepth 100000 in
theorem cX6_setDetail_207 (l : Launch) (D : va_G) (h0 : Nat) (x0 : Int32) (x1 : Int32) (h1 : Nat) (v0 : Value) (v1 : Value) (v2 : Value) (v3 : Value) (v4 : Value) (v5 : Value) (v6 : Value) (v7 : Value) (v8 : Value) (v9 : Value) (v10 : Value) (v11 : Value) (v12 : Value) (v13 : Value) (v14 : Value) (v15 : Value) (v16 : Value) (v17 : Value) (v18 : Value) (v19 : Value) (v20 : Value) (v21 : Value) (v22 : Value) (v23 : Value) (v24 : Value) (v25 : Value) (f0 : Nat → Int64) (a0 : ClassId) (ef0_4 : f0 4 = 0) (d0 : (lg_cmp x0.toInt64 0) < 0) : CT l yX6_setDetail cX6_setDetail 5 (some .long) { frames := 2, cells := 0, slots := 0, locals := 46 } [.ref h0, .int x0, .int x1] D [(h0, .inr (6, [v0, .ref h1, v1, v2, v3, v4, v5, v6, v7, v8, v9, v10, v11, v12, v13, v14, v15, v16, v17, v18, v19, v20, v21, v22, v23, v24, v25])), (h1, .inl (a0, 609, .inr (.inl f0)))] [(a0, .long)] XN [(h0, .inr (6, [v0, .ref h1, v1, v2, v3, v4, v5, v6, v7, v8, v9, v10, v11, v12, v13, v14, v15, v16, v17, v18, v19, v20, v21, v22, v23, v24, v25])), (h1, .inl (a0, 609, .inr (.inl f0)))] (el (fun _ : Unit => True) (fun u => 0) (fun _ => [(h0, .inr (6, [.int 1, .ref h1, v1, v2, v3, v4, v5, v6, v7, v8, v9, v10, v11, v12, v13, v14, v15, v16, v17, v18, v19, v20, v21, v22, v23, v24, v25])), (h1, .inl (a0, 609, .inr (.inl f0)))]) (fun u => [(a0, .long)]) D) 0 0 := by
  refine CT.ofW (by decide +kernel) (Nat.le_of_ble_eq_true rfl) ?_
  intro p e s m below meth c A ls hcs hP hK hD hX hA hS hl
  obtain ⟨hx, hb, hr, hml, hown, hg, hlocks, hin⟩ := hcs
  have hown : s.vm.findClass RX6 = some m.cls := hown
  have hl : lv_has ls 5 [(0, .ref h0), (1, .int x0), (2, .int x1)] := hl
  refine lv_aload_n hx hb dX6_setDetail_0 rfl (lv_at hl 0 rfl) ?_
  refine lv_aload_n hx hb dX6_setDetail_1 rfl (lv_at hl 0 rfl) ?_
  refine lv_iload_n hx hb dX6_setDetail_2 rfl (lv_at hl 1 rfl) ?_
  refine cVi (n := 1) (As := [.int x0]) (rest := [.ref h0]) (wr := [(h0, .inr (6, [v0, .ref h1, v1, v2, v3, v4, v5, v6, v7, v8, v9, v10, v11, v12, v13, v14, v15, v16, v17, v18, v19, v20, v21, v22, v23, v24, v25])), (h1, .inl (a0, 609, .inr (.inl f0)))]) (tr := [(a0, .long)]) hx hb hml hown hg okN (cX6_isStep_111 l D h0 x0 h1 v0 v1 v2 v3 v4 v5 v6 v7 v8 v9 v10 v11 v12 v13 v14 v15 v16 v17 v18 v19 v20 v21 v22 v23 v24 v25 f0 a0 ef0_4 d0) (mwV k1461 k1463 k59 k92 k1464) ⟨rfl, by decide, by decide, by decide +kernel⟩ ⟨rfl, rfl, (Nat.le_of_ble_eq_true rfl), (Nat.le_of_ble_eq_true rfl)⟩ hP hD hK hS xn [0, 1] [] [0, 1] [0] [0] rfl (by decide) rfl rfl (by decide) (by decide) rfl rfl (aNil hA hS) (aNil hA hS) 0 rfl rfl rfl hl.1 rfl (Nat.le_of_ble_eq_true rfl) dX6_setDetail_3 ⟨(Nat.le_of_ble_eq_true rfl), (Nat.le_of_ble_eq_true rfl)⟩ (fun u H locs hφ hP hD hK hS hk => ?_)
  have hP : va_P D vwCl [(h0, .inr (6, [v0, .ref h1, v1, v2, v3, v4, v5, v6, v7, v8, v9, v10, v11, v12, v13, v14, v15, v16, v17, v18, v19, v20, v21, v22, v23, v24, v25])), (h1, .inl (a0, 609, .inr (.inl f0)))] H := hP
  have hD : va_D A [(h0, .inr (6, [v0, .ref h1, v1, v2, v3, v4, v5, v6, v7, v8, v9, v10, v11, v12, v13, v14, v15, v16, v17, v18, v19, v20, v21, v22, v23, v24, v25])), (h1, .inl (a0, 609, .inr (.inl f0)))] := hD
  have hK : va_K D vwCl [(a0, .long)] s := hK
  refine W.widen (k := 0) (n := 0) (Nat.le_of_ble_eq_true rfl) (Nat.le_of_ble_eq_true rfl) ?_
  refine lv_if_ne (tgt := 13) hx hb dX6_setDetail_6 (by decide) (fun c9 => absurd (by decide) c9) (fun _ => ?_)
  refine lv_iconst (v := 1) hx hb dX6_setDetail_9 (by decide) ?_
  refine lv_goto (tgt := 32) hx hb dX6_setDetail_10 (by decide) ?_
  refine va_put (D := D) (ci := 6) (v := .int 1) (ty := .int) (C := RX6) (T := TX6) (N := 27) hx hb hg inX6 tyX6 tyX6_ok nmX6 hown hK hP hD hS 0 rfl rfl 0 (by decide) (hg _ k1219) (fun _ h9 => h9) rfl (by decide +kernel) rfl rfl (Nat.le_of_ble_eq_true rfl) dX6_setDetail_32 (fun H locs hP hD hS => ?_)
  have hP : va_P D vwCl [(h0, .inr (6, [.int 1, .ref h1, v1, v2, v3, v4, v5, v6, v7, v8, v9, v10, v11, v12, v13, v14, v15, v16, v17, v18, v19, v20, v21, v22, v23, v24, v25])), (h1, .inl (a0, 609, .inr (.inl f0)))] H := hP
  have hD : va_D A [(h0, .inr (6, [.int 1, .ref h1, v1, v2, v3, v4, v5, v6, v7, v8, v9, v10, v11, v12, v13, v14, v15, v16, v17, v18, v19, v20, v21, v22, v23, v24, v25])), (h1, .inl (a0, 609, .inr (.inl f0)))] := hD
  refine lv_aload_n hx hb dX6_setDetail_35 rfl (lv_at hl 0 rfl) ?_
  refine va_get (D := D) (ci := 6) (v := .int 1) (C := RX6) (T := TX6) (N := 27) hx hb hg inX6 hown hK hP 0 rfl rfl 0 (by decide) (hg _ k1219) (fun _ h9 => h9) rfl dX6_setDetail_36 ?_
  refine lv_if_le (tgt := 44) hx hb dX6_setDetail_39 (by decide) (fun c9 => absurd c9 (by decide)) (fun _ => ?_)
  refine lv_lconst (v := 0) hx hb dX6_setDetail_42 (by decide) ?_
  exact fl hx hb hr hlocks hP hD hK hS (()) trivial rfl [0, 1] [0] rfl (by decide) rfl (Nat.le_of_ble_eq_true rfl) (Nat.le_of_ble_eq_true rfl) dX6_setDetail_43
set_option maxHeartbeats 4000000 in
set_option maxRecDepth 100000 in
theorem cX6_setDetail_208 (l : Launch) (D : va_G) (h0 : Nat) (x0 : Int32) (x1 : Int32) (h1 : Nat) (v0 : Value) (v1 : Value) (v2 : Value) (v3 : Value) (v4 : Value) (v5 : Value) (v6 : Value) (v7 : Value) (v8 : Value) (v9 : Value) (v10 : Value) (v11 : Value) (v12 : Value) (v13 : Value) (v14 : Value) (v15 : Value) (v16 : Value) (v17 : Value) (v18 : Value) (v19 : Value) (v20 : Value) (v21 : Value) (v22 : Value) (v23 : Value) (v24 : Value) (v25 : Value) (f0 : Nat → Int64) (a0 : ClassId) (ef0_4 : f0 4 = 0) (d0 : ¬ ((lg_cmp x0.toInt64 0) < 0)) (d1 : 0 < (lg_cmp x0.toInt64 (-1))) : CT l yX6_setDetail cX6_setDetail 5 (some .long) { frames := 2, cells := 0, slots := 0, locals := 46 } [.ref h0, .int x0, .int x1] D [(h0, .inr (6, [v0, .ref h1, v1, v2, v3, v4, v5, v6, v7, v8, v9, v10, v11, v12, v13, v14, v15, v16, v17, v18, v19, v20, v21, v22, v23, v24, v25])), (h1, .inl (a0, 609, .inr (.inl f0)))] [(a0, .long)] XN [(h0, .inr (6, [v0, .ref h1, v1, v2, v3, v4, v5, v6, v7, v8, v9, v10, v11, v12, v13, v14, v15, v16, v17, v18, v19, v20, v21, v22, v23, v24, v25])), (h1, .inl (a0, 609, .inr (.inl f0)))] (el (fun _ : Unit => True) (fun u => 0) (fun _ => [(h0, .inr (6, [.int 1, .ref h1, v1, v2, v3, v4, v5, v6, v7, v8, v9, v10, v11, v12, v13, v14, v15, v16, v17, v18, v19, v20, v21, v22, v23, v24, v25])), (h1, .inl (a0, 609, .inr (.inl f0)))]) (fun u => [(a0, .long)]) D) 0 0 := by
  refine CT.ofW (by decide +kernel) (Nat.le_of_ble_eq_true rfl) ?_
  intro p e s m below meth c A ls hcs hP hK hD hX hA hS hl
  obtain ⟨hx, hb, hr, hml, hown, hg, hlocks, hin⟩ := hcs
  have hown : s.vm.findClass RX6 = some m.cls := hown
  have hl : lv_has ls 5 [(0, .ref h0), (1, .int x0), (2, .int x1)] := hl
  refine lv_aload_n hx hb dX6_setDetail_0 rfl (lv_at hl 0 rfl) ?_
  refine lv_aload_n hx hb dX6_setDetail_1 rfl (lv_at hl 0 rfl) ?_
  refine lv_iload_n hx hb dX6_setDetail_2 rfl (lv_at hl 1 rfl) ?_
  refine cVi (n := 1) (As := [.int x0]) (rest := [.ref h0]) (wr := [(h0, .inr (6, [v0, .ref h1, v1, v2, v3, v4, v5, v6, v7, v8, v9, v10, v11, v12, v13, v14, v15, v16, v17, v18, v19, v20, v21, v22, v23, v24, v25])), (h1, .inl (a0, 609, .inr (.inl f0)))]) (tr := [(a0, .long)]) hx hb hml hown hg okN (cX6_isStep_114 l D h0 x0 h1 v0 v1 v2 v3 v4 v5 v6 v7 v8 v9 v10 v11 v12 v13 v14 v15 v16 v17 v18 v19 v20 v21 v22 v23 v24 v25 f0 a0 ef0_4 d0 d1) (mwV k1461 k1463 k59 k92 k1464) ⟨rfl, by decide, by decide, by decide +kernel⟩ ⟨rfl, rfl, (Nat.le_of_ble_eq_true rfl), (Nat.le_of_ble_eq_true rfl)⟩ hP hD hK hS xn [0, 1] [] [0, 1] [0] [0] rfl (by decide) rfl rfl (by decide) (by decide) rfl rfl (aNil hA hS) (aNil hA hS) 0 rfl rfl rfl hl.1 rfl (Nat.le_of_ble_eq_true rfl) dX6_setDetail_3 ⟨(Nat.le_of_ble_eq_true rfl), (Nat.le_of_ble_eq_true rfl)⟩ (fun u H locs hφ hP hD hK hS hk => ?_)
  have hP : va_P D vwCl [(h0, .inr (6, [v0, .ref h1, v1, v2, v3, v4, v5, v6, v7, v8, v9, v10, v11, v12, v13, v14, v15, v16, v17, v18, v19, v20, v21, v22, v23, v24, v25])), (h1, .inl (a0, 609, .inr (.inl f0)))] H := hP
  have hD : va_D A [(h0, .inr (6, [v0, .ref h1, v1, v2, v3, v4, v5, v6, v7, v8, v9, v10, v11, v12, v13, v14, v15, v16, v17, v18, v19, v20, v21, v22, v23, v24, v25])), (h1, .inl (a0, 609, .inr (.inl f0)))] := hD
  have hK : va_K D vwCl [(a0, .long)] s := hK
  refine W.widen (k := 0) (n := 0) (Nat.le_of_ble_eq_true rfl) (Nat.le_of_ble_eq_true rfl) ?_
  refine lv_if_ne (tgt := 13) hx hb dX6_setDetail_6 (by decide) (fun c9 => absurd (by decide) c9) (fun _ => ?_)
  refine lv_iconst (v := 1) hx hb dX6_setDetail_9 (by decide) ?_
  refine lv_goto (tgt := 32) hx hb dX6_setDetail_10 (by decide) ?_
  refine va_put (D := D) (ci := 6) (v := .int 1) (ty := .int) (C := RX6) (T := TX6) (N := 27) hx hb hg inX6 tyX6 tyX6_ok nmX6 hown hK hP hD hS 0 rfl rfl 0 (by decide) (hg _ k1219) (fun _ h9 => h9) rfl (by decide +kernel) rfl rfl (Nat.le_of_ble_eq_true rfl) dX6_setDetail_32 (fun H locs hP hD hS => ?_)
  have hP : va_P D vwCl [(h0, .inr (6, [.int 1, .ref h1, v1, v2, v3, v4, v5, v6, v7, v8, v9, v10, v11, v12, v13, v14, v15, v16, v17, v18, v19, v20, v21, v22, v23, v24, v25])), (h1, .inl (a0, 609, .inr (.inl f0)))] H := hP
  have hD : va_D A [(h0, .inr (6, [.int 1, .ref h1, v1, v2, v3, v4, v5, v6, v7, v8, v9, v10, v11, v12, v13, v14, v15, v16, v17, v18, v19, v20, v21, v22, v23, v24, v25])), (h1, .inl (a0, 609, .inr (.inl f0)))] := hD
  refine lv_aload_n hx hb dX6_setDetail_35 rfl (lv_at hl 0 rfl) ?_
  refine va_get (D := D) (ci := 6) (v := .int 1) (C := RX6) (T := TX6) (N := 27) hx hb hg inX6 hown hK hP 0 rfl rfl 0 (by decide) (hg _ k1219) (fun _ h9 => h9) rfl dX6_setDetail_36 ?_
  refine lv_if_le (tgt := 44) hx hb dX6_setDetail_39 (by decide) (fun c9 => absurd c9 (by decide)) (fun _ => ?_)
  refine lv_lconst (v := 0) hx hb dX6_setDetail_42 (by decide) ?_
  exact fl hx hb hr hlocks hP hD hK hS (()) trivial rfl [0, 1] [0] rfl (by decide) rfl (Nat.le_of_ble_eq_true rfl) (Nat.le_of_ble_eq_true rfl) dX6_setDetail_43
set_option maxHeartbeats 4000000 in
set_option maxRecDepth 100000 in
theorem cX6_in_210 (l : Launch) (D : va_G) (x0 : Int32)  (d0 : (lg_cmp x0.toInt64 0) < 0) : CT l yX6_in cX6_in 6 (some .boolean) { frames := 0, cells := 0, slots := 0, locals := 0 } [.long x0.toInt64, .long 0, .long 9999] D [] [] XN [] (ei (fun _ : Unit => True) (fun _ => 0) (fun _ => []) (fun _ => []) D) 0 0 := by
  refine CT.ofR (by decide +kernel) (Nat.le_of_ble_eq_true rfl) ?_
  intro p e s m below meth c A ls hcs hP hK hD hX hA hS hl
  obtain ⟨hx, hb, hr, hml, hown, hg, hlocks, hin⟩ := hcs
  have hown : s.vm.findClass RX6 = some m.cls := hown
  have hl : lv_has ls 6 [(0, .long x0.toInt64), (2, .long 0), (4, .long 9999)] := hl
  refine lv_lload_n hx hb dX6_in_0 rfl (lv_at hl 0 rfl) ?_
  refine lv_lload_n hx hb dX6_in_1 rfl (lv_at hl 1 rfl) ?_
  refine W.lcmp hx hb dX6_in_2 ?_
  refine lv_if_lt (tgt := 17) hx hb dX6_in_3 (by decide) (fun _ => ?_) (fun c9 => absurd d0 c9)
  refine lv_iconst (v := 0) hx hb dX6_in_17 (by decide) ?_
  exact fz0 hx hb hr rfl hlocks hK hS (Nat.le_of_ble_eq_true rfl) (Nat.le_of_ble_eq_true rfl) dX6_in_18
set_option maxHeartbeats 4000000 in
set_option maxRecDepth 100000 in
theorem cX6_threshold_209 (l : Launch) (D : va_G) (h0 : Nat) (x0 : Int32) (v0 : Value) (v1 : Value) (v2 : Value) (v3 : Value) (v4 : Value) (v5 : Value) (v6 : Value) (v7 : Value) (v8 : Value) (v9 : Value) (v10 : Value) (v11 : Value) (v12 : Value) (v13 : Value) (v14 : Value) (v15 : Value) (v16 : Value) (v17 : Value) (v18 : Value) (v19 : Value) (v20 : Value) (v21 : Value) (v22 : Value) (v23 : Value) (v24 : Value) (v25 : Value) (v26 : Value)  (d0 : (lg_cmp x0.toInt64 0) < 0) : CT l yX6_threshold cX6_threshold 3 (some .int) { frames := 1, cells := 0, slots := 0, locals := 25 } [.ref h0, .int x0, .int 0] D [(h0, .inr (6, [v0, v1, v2, v3, v4, v5, v6, v7, v8, v9, v10, v11, v12, v13, v14, v15, v16, v17, v18, v19, v20, v21, v22, v23, v24, v25, v26]))] [] XN [(h0, .inr (6, [v0, v1, v2, v3, v4, v5, v6, v7, v8, v9, v10, v11, v12, v13, v14, v15, v16, v17, v18, v19, v20, v21, v22, v23, v24, v25, v26]))] (ei (fun _ : Unit => True) (fun u => 0) (fun _ => [(h0, .inr (6, [.int 1, v1, v2, v3, v4, v5, v6, v7, v8, v9, v10, v11, v12, v13, v14, v15, v16, v17, v18, v19, v20, v21, v22, v23, v24, v25, v26]))]) (fun u => []) D) 0 0 := by
  refine CT.ofW (by decide +kernel) (Nat.le_of_ble_eq_true rfl) ?_
  intro p e s m below meth c A ls hcs hP hK hD hX hA hS hl
  obtain ⟨hx, hb, hr, hml, hown, hg, hlocks, hin⟩ := hcs
  have hown : s.vm.findClass RX6 = some m.cls := hown
  have hl : lv_has ls 3 [(0, .ref h0), (1, .int x0), (2, .int 0)] := hl
  refine lv_aload_n hx hb dX6_threshold_0 rfl (lv_at hl 0 rfl) ?_
  refine lv_iload_n hx hb dX6_threshold_1 rfl (lv_at hl 1 rfl) ?_
  refine lv_i2l (v := x0.toInt64) hx hb dX6_threshold_2 rfl ?_
  refine lv_lconst (v := 0) hx hb dX6_threshold_3 (by decide) ?_
  refine lv_ldc2 hx hb hown (hg _ k1568) dX6_threshold_4 ?_
  refine cSi (n := 3) (As := [.long x0.toInt64, .long 0, .long 9999]) (rest := [.ref h0]) (wr := [(h0, .inr (6, [v0, v1, v2, v3, v4, v5, v6, v7, v8, v9, v10, v11, v12, v13, v14, v15, v16, v17, v18, v19, v20, v21, v22, v23, v24, v25, v26]))]) (tr := []) hx hb hml hown hg okN (cX6_in_210 l D x0 d0) (mwS k1317 k1318 k92 k1319) ⟨rfl, by decide, by decide, by decide +kernel⟩ ⟨rfl, rfl, (Nat.le_of_ble_eq_true rfl), (Nat.le_of_ble_eq_true rfl)⟩ hP hD hK hS xn [] [] [0] [] [] rfl (by decide) rfl rfl (by decide) (by decide) rfl rfl (aNil hA hS) (aNil hA hS) rfl hl.1 rfl (Nat.le_of_ble_eq_true rfl) dX6_threshold_7 ⟨(Nat.le_of_ble_eq_true rfl), (Nat.le_of_ble_eq_true rfl)⟩ (fun u H locs hφ hP hD hK hS hk => ?_)
  have hP : va_P D vwCl [(h0, .inr (6, [v0, v1, v2, v3, v4, v5, v6, v7, v8, v9, v10, v11, v12, v13, v14, v15, v16, v17, v18, v19, v20, v21, v22, v23, v24, v25, v26]))] H := hP
  have hD : va_D A [(h0, .inr (6, [v0, v1, v2, v3, v4, v5, v6, v7, v8, v9, v10, v11, v12, v13, v14, v15, v16, v17, v18, v19, v20, v21, v22, v23, v24, v25, v26]))] := hD
  have hK : va_K D vwCl [] s := hK
  refine W.widen (k := 0) (n := 0) (Nat.le_of_ble_eq_true rfl) (Nat.le_of_ble_eq_true rfl) ?_
  refine lv_if_eq (tgt := 17) hx hb dX6_threshold_10 (by decide) (fun _ => ?_) (fun c9 => absurd (by decide) c9)
  refine lv_iconst (v := 1) hx hb dX6_threshold_17 (by decide) ?_
  refine va_put (D := D) (ci := 6) (v := .int 1) (ty := .int) (C := RX6) (T := TX6) (N := 27) hx hb hg inX6 tyX6 tyX6_ok nmX6 hown hK hP hD hS 0 rfl rfl 0 (by decide) (hg _ k1219) (fun _ h9 => h9) rfl (by decide +kernel) rfl rfl (Nat.le_of_ble_eq_true rfl) dX6_threshold_18 (fun H locs hP hD hS => ?_)
  have hP : va_P D vwCl [(h0, .inr (6, [.int 1, v1, v2, v3, v4, v5, v6, v7, v8, v9, v10, v11, v12, v13, v14, v15, v16, v17, v18, v19, v20, v21, v22, v23, v24, v25, v26]))] H := hP
  have hD : va_D A [(h0, .inr (6, [.int 1, v1, v2, v3, v4, v5, v6, v7, v8, v9, v10, v11, v12, v13, v14, v15, v16, v17, v18, v19, v20, v21, v22, v23, v24, v25, v26]))] := hD
  refine lv_aload_n hx hb dX6_threshold_21 rfl (lv_at hl 0 rfl) ?_
  refine va_get (D := D) (ci := 6) (v := .int 1) (C := RX6) (T := TX6) (N := 27) hx hb hg inX6 hown hK hP 0 rfl rfl 0 (by decide) (hg _ k1219) (fun _ h9 => h9) rfl dX6_threshold_22 ?_
  refine lv_if_le (tgt := 30) hx hb dX6_threshold_25 (by decide) (fun c9 => absurd c9 (by decide)) (fun _ => ?_)
  refine lv_iconst (v := 0) hx hb dX6_threshold_28 (by decide) ?_
  exact fi hx hb hr hlocks hP hD hK hS (()) trivial rfl [0] [] rfl (by decide) rfl (Nat.le_of_ble_eq_true rfl) (Nat.le_of_ble_eq_true rfl) dX6_threshold_29
set_option maxHeartbeats 4000000 in
set_option maxRecDepth 100000 in
theorem cX6_threshold_211 (l : Launch) (D : va_G) (h0 : Nat) (x0 : Int32) (v0 : Value) (v1 : Value) (v2 : Value) (v3 : Value) (v4 : Value) (v5 : Value) (v6 : Value) (v7 : Value) (v8 : Value) (v9 : Value) (v10 : Value) (v11 : Value) (v12 : Value) (v13 : Value) (v14 : Value) (v15 : Value) (v16 : Value) (v17 : Value) (v18 : Value) (v19 : Value) (v20 : Value) (v21 : Value) (v22 : Value) (v23 : Value) (v24 : Value) (v25 : Value) (v26 : Value)  (d0 : (lg_cmp x0.toInt64 0) < 0) : CT l yX6_threshold cX6_threshold 3 (some .int) { frames := 1, cells := 0, slots := 0, locals := 25 } [.ref h0, .int x0, .int 1] D [(h0, .inr (6, [v0, v1, v2, v3, v4, v5, v6, v7, v8, v9, v10, v11, v12, v13, v14, v15, v16, v17, v18, v19, v20, v21, v22, v23, v24, v25, v26]))] [] XN [(h0, .inr (6, [v0, v1, v2, v3, v4, v5, v6, v7, v8, v9, v10, v11, v12, v13, v14, v15, v16, v17, v18, v19, v20, v21, v22, v23, v24, v25, v26]))] (ei (fun _ : Unit => True) (fun u => 0) (fun _ => [(h0, .inr (6, [.int 1, v1, v2, v3, v4, v5, v6, v7, v8, v9, v10, v11, v12, v13, v14, v15, v16, v17, v18, v19, v20, v21, v22, v23, v24, v25, v26]))]) (fun u => []) D) 0 0 := by
  refine CT.ofW (by decide +kernel) (Nat.le_of_ble_eq_true rfl) ?_
  intro p e s m below meth c A ls hcs hP hK hD hX hA hS hl
  obtain ⟨hx, hb, hr, hml, hown, hg, hlocks, hin⟩ := hcs
  have hown : s.vm.findClass RX6 = some m.cls := hown
  have hl : lv_has ls 3 [(0, .ref h0), (1, .int x0), (2, .int 1)] := hl
  refine lv_aload_n hx hb dX6_threshold_0 rfl (lv_at hl 0 rfl) ?_
  refine lv_iload_n hx hb dX6_threshold_1 rfl (lv_at hl 1 rfl) ?_
  refine lv_i2l (v := x0.toInt64) hx hb dX6_threshold_2 rfl ?_
  refine lv_lconst (v := 0) hx hb dX6_threshold_3 (by decide) ?_
  refine lv_ldc2 hx hb hown (hg _ k1568) dX6_threshold_4 ?_
  refine cSi (n := 3) (As := [.long x0.toInt64, .long 0, .long 9999]) (rest := [.ref h0]) (wr := [(h0, .inr (6, [v0, v1, v2, v3, v4, v5, v6, v7, v8, v9, v10, v11, v12, v13, v14, v15, v16, v17, v18, v19, v20, v21, v22, v23, v24, v25, v26]))]) (tr := []) hx hb hml hown hg okN (cX6_in_210 l D x0 d0) (mwS k1317 k1318 k92 k1319) ⟨rfl, by decide, by decide, by decide +kernel⟩ ⟨rfl, rfl, (Nat.le_of_ble_eq_true rfl), (Nat.le_of_ble_eq_true rfl)⟩ hP hD hK hS xn [] [] [0] [] [] rfl (by decide) rfl rfl (by decide) (by decide) rfl rfl (aNil hA hS) (aNil hA hS) rfl hl.1 rfl (Nat.le_of_ble_eq_true rfl) dX6_threshold_7 ⟨(Nat.le_of_ble_eq_true rfl), (Nat.le_of_ble_eq_true rfl)⟩ (fun u H locs hφ hP hD hK hS hk => ?_)
  have hP : va_P D vwCl [(h0, .inr (6, [v0, v1, v2, v3, v4, v5, v6, v7, v8, v9, v10, v11, v12, v13, v14, v15, v16, v17, v18, v19, v20, v21, v22, v23, v24, v25, v26]))] H := hP
  have hD : va_D A [(h0, .inr (6, [v0, v1, v2, v3, v4, v5, v6, v7, v8, v9, v10, v11, v12, v13, v14, v15, v16, v17, v18, v19, v20, v21, v22, v23, v24, v25, v26]))] := hD
  have hK : va_K D vwCl [] s := hK
  refine W.widen (k := 0) (n := 0) (Nat.le_of_ble_eq_true rfl) (Nat.le_of_ble_eq_true rfl) ?_
  refine lv_if_eq (tgt := 17) hx hb dX6_threshold_10 (by decide) (fun _ => ?_) (fun c9 => absurd (by decide) c9)
  refine lv_iconst (v := 1) hx hb dX6_threshold_17 (by decide) ?_
  refine va_put (D := D) (ci := 6) (v := .int 1) (ty := .int) (C := RX6) (T := TX6) (N := 27) hx hb hg inX6 tyX6 tyX6_ok nmX6 hown hK hP hD hS 0 rfl rfl 0 (by decide) (hg _ k1219) (fun _ h9 => h9) rfl (by decide +kernel) rfl rfl (Nat.le_of_ble_eq_true rfl) dX6_threshold_18 (fun H locs hP hD hS => ?_)
  have hP : va_P D vwCl [(h0, .inr (6, [.int 1, v1, v2, v3, v4, v5, v6, v7, v8, v9, v10, v11, v12, v13, v14, v15, v16, v17, v18, v19, v20, v21, v22, v23, v24, v25, v26]))] H := hP
  have hD : va_D A [(h0, .inr (6, [.int 1, v1, v2, v3, v4, v5, v6, v7, v8, v9, v10, v11, v12, v13, v14, v15, v16, v17, v18, v19, v20, v21, v22, v23, v24, v25, v26]))] := hD
  refine lv_aload_n hx hb dX6_threshold_21 rfl (lv_at hl 0 rfl) ?_
  refine va_get (D := D) (ci := 6) (v := .int 1) (C := RX6) (T := TX6) (N := 27) hx hb hg inX6 hown hK hP 0 rfl rfl 0 (by decide) (hg _ k1219) (fun _ h9 => h9) rfl dX6_threshold_22 ?_
  refine lv_if_le (tgt := 30) hx hb dX6_threshold_25 (by decide) (fun c9 => absurd c9 (by decide)) (fun _ => ?_)
  refine lv_iconst (v := 0) hx hb dX6_threshold_28 (by decide) ?_
  exact fi hx hb hr hlocks hP hD hK hS (()) trivial rfl [0] [] rfl (by decide) rfl (Nat.le_of_ble_eq_true rfl) (Nat.le_of_ble_eq_true rfl) dX6_threshold_29
set_option maxHeartbeats 4000000 in
set_option maxRecDepth 100000 in
theorem cX6_in_213 (l : Launch) (D : va_G) (x0 : Int32)  (d0 : ¬ ((lg_cmp x0.toInt64 0) < 0)) (d1 : ¬ (0 < (lg_cmp x0.toInt64 9999))) : CT l yX6_in cX6_in 6 (some .boolean) { frames := 0, cells := 0, slots := 0, locals := 0 } [.long x0.toInt64, .long 0, .long 9999] D [] [] XN [] (ei (fun _ : Unit => True) (fun _ => 1) (fun _ => []) (fun _ => []) D) 0 0 := by
  refine CT.ofR (by decide +kernel) (Nat.le_of_ble_eq_true rfl) ?_
  intro p e s m below meth c A ls hcs hP hK hD hX hA hS hl
  obtain ⟨hx, hb, hr, hml, hown, hg, hlocks, hin⟩ := hcs
  have hown : s.vm.findClass RX6 = some m.cls := hown
  have hl : lv_has ls 6 [(0, .long x0.toInt64), (2, .long 0), (4, .long 9999)] := hl
  refine lv_lload_n hx hb dX6_in_0 rfl (lv_at hl 0 rfl) ?_
  refine lv_lload_n hx hb dX6_in_1 rfl (lv_at hl 1 rfl) ?_
  refine W.lcmp hx hb dX6_in_2 ?_
  refine lv_if_lt (tgt := 17) hx hb dX6_in_3 (by decide) (fun c9 => absurd c9 d0) (fun _ => ?_)
  refine lv_lload_n hx hb dX6_in_6 rfl (lv_at hl 0 rfl) ?_
  refine lv_lload hx hb dX6_in_7 (lv_at hl 2 rfl) ?_
  refine W.lcmp hx hb dX6_in_9 ?_
  refine lv_if_gt (tgt := 17) hx hb dX6_in_10 (by decide) (fun c9 => absurd c9 d1) (fun _ => ?_)
  refine lv_iconst (v := 1) hx hb dX6_in_13 (by decide) ?_
  refine lv_goto (tgt := 18) hx hb dX6_in_14 (by decide) ?_
  exact fz0 hx hb hr rfl hlocks hK hS (Nat.le_of_ble_eq_true rfl) (Nat.le_of_ble_eq_true rfl) dX6_in_18
set_option maxHeartbeats 4000000 in
set_option maxRecDepth 100000 in
theorem cX6_cuts_214 (l : Launch) (D : va_G) (h0 : Nat) (x0 : Int32) (h1 : Nat) (v0 : Value) (v1 : Value) (v2 : Value) (v3 : Value) (v4 : Value) (v5 : Value) (v6 : Value) (v7 : Value) (v8 : Value) (v9 : Value) (v10 : Value) (v11 : Value) (v12 : Value) (v13 : Value) (v14 : Value) (v15 : Value) (v16 : Value) (v17 : Value) (v18 : Value) (v19 : Value) (v20 : Value) (v21 : Value) (v22 : Value) (v23 : Value) (v24 : Value) (v25 : Value) (f0 : Nat → Int64) (a0 : ClassId) (ef0_4 : f0 4 = 0)  : CT l yX6_cuts cX6_cuts 8 none { frames := 1, cells := 0, slots := 0, locals := 20 } [.ref h0, .int x0, .int 0] D [(h0, .inr (6, [v0, .ref h1, v1, v2, v3, v4, v5, v6, v7, v8, v9, v10, v11, v12, v13, v14, v15, v16, v17, v18, v19, v20, v21, v22, v23, v24, v25])), (h1, .inl (a0, 609, .inr (.inl f0)))] [(a0, .long)] XN [] (ev (fun _ : Unit => True) (fun _ => []) (fun _ => []) D) 0 0 := by
  refine CT.ofR (by decide +kernel) (Nat.le_of_ble_eq_true rfl) ?_
  intro p e s m below meth c A ls hcs hP hK hD hX hA hS hl
  obtain ⟨hx, hb, hr, hml, hown, hg, hlocks, hin⟩ := hcs
  have hown : s.vm.findClass RX6 = some m.cls := hown
  have hl : lv_has ls 8 [(0, .ref h0), (1, .int x0), (2, .int 0)] := hl
  refine lv_iconst (v := 0) hx hb dX6_cuts_0 (by decide) ?_
  refine lv_istore_n (lv' := [(3, .int 0), (0, .ref h0), (1, .int x0), (2, .int 0)]) hx hb dX6_cuts_1 rfl hl (by decide) rfl (fun ls hl => ?_)
  refine lv_iload_n hx hb dX6_cuts_2 rfl (lv_at hl 0 rfl) ?_
  refine lv_aload_n hx hb dX6_cuts_3 rfl (lv_at hl 1 rfl) ?_
  refine cVi (n := 0) (As := []) (rest := [.int 0]) (wr := [(h0, .inr (6, [v0, .ref h1, v1, v2, v3, v4, v5, v6, v7, v8, v9, v10, v11, v12, v13, v14, v15, v16, v17, v18, v19, v20, v21, v22, v23, v24, v25])), (h1, .inl (a0, 609, .inr (.inl f0)))]) (tr := [(a0, .long)]) hx hb hml hown hg okN (cX6_steps_35 l D h0 h1 v0 v1 v2 v3 v4 v5 v6 v7 v8 v9 v10 v11 v12 v13 v14 v15 v16 v17 v18 v19 v20 v21 v22 v23 v24 v25 f0 a0 ef0_4) (mwV k1416 k1418 k52 k92 k1419) ⟨rfl, by decide, by decide, by decide +kernel⟩ ⟨rfl, rfl, (Nat.le_of_ble_eq_true rfl), (Nat.le_of_ble_eq_true rfl)⟩ hP hD hK hS xn [0, 1] [] [0, 1] [0] [0] rfl (by decide) rfl rfl (by decide) (by decide) rfl rfl (aNil hA hS) (fun _ _ => trivial) 0 rfl rfl rfl hl.1 rfl (Nat.le_of_ble_eq_true rfl) dX6_cuts_4 ⟨(Nat.le_of_ble_eq_true rfl), (Nat.le_of_ble_eq_true rfl)⟩ (fun u H locs hφ hP hD hK hS hk => ?_)
  have hP : va_P D vwCl [(h0, .inr (6, [v0, .ref h1, v1, v2, v3, v4, v5, v6, v7, v8, v9, v10, v11, v12, v13, v14, v15, v16, v17, v18, v19, v20, v21, v22, v23, v24, v25])), (h1, .inl (a0, 609, .inr (.inl f0)))] H := hP
  have hD : va_D (fun _ => True) [(h0, .inr (6, [v0, .ref h1, v1, v2, v3, v4, v5, v6, v7, v8, v9, v10, v11, v12, v13, v14, v15, v16, v17, v18, v19, v20, v21, v22, v23, v24, v25])), (h1, .inl (a0, 609, .inr (.inl f0)))] := hD
  have hK : va_K D vwCl [(a0, .long)] s := hK
  refine W.widen (k := 0) (n := 0) (Nat.le_of_ble_eq_true rfl) (Nat.le_of_ble_eq_true rfl) ?_
  refine lv_icmp_ge (tgt := 77) hx hb dX6_cuts_7 (by decide) (fun _ => ?_) (fun c9 => absurd (by decide) c9)
  exact fv0 hx hb hr hlocks hK hS (Nat.le_of_ble_eq_true rfl) (Nat.le_of_ble_eq_true rfl) dX6_cuts_77
set_option maxHeartbeats 4000000 in
set_option maxRecDepth 100000 in
theorem cX6_threshold_212 (l : Launch) (D : va_G) (h0 : Nat) (x0 : Int32) (h1 : Nat) (v0 : Value) (v1 : Value) (v2 : Value) (v3 : Value) (v4 : Value) (v5 : Value) (v6 : Value) (v7 : Value) (v8 : Value) (v9 : Value) (v10 : Value) (v11 : Value) (v12 : Value) (v13 : Value) (v14 : Value) (v15 : Value) (v16 : Value) (v17 : Value) (v18 : Value) (v19 : Value) (v20 : Value) (v21 : Value) (v22 : Value) (v23 : Value) (v24 : Value) (v25 : Value) (f0 : Nat → Int64) (a0 : ClassId) (ef0_4 : f0 4 = 0) (d0 : ¬ ((lg_cmp x0.toInt64 0) < 0)) (d1 : ¬ (0 < (lg_cmp x0.toInt64 9999))) : CT l yX6_threshold cX6_threshold 3 (some .int) { frames := 2, cells := 0, slots := 0, locals := 47 } [.ref h0, .int x0, .int 0] D [(h0, .inr (6, [v0, .ref h1, v1, v2, v3, v4, v5, v6, v7, v8, v9, v10, v11, v12, v13, v14, v15, v16, v17, v18, v19, v20, v21, v22, v23, v24, v25])), (h1, .inl (a0, 609, .inr (.inl f0)))] [(a0, .long)] XN [(h0, .inr (6, [v0, .ref h1, v1, v2, v3, v4, v5, v6, v7, v8, v9, v10, v11, v12, v13, v14, v15, v16, v17, v18, v19, v20, v21, v22, v23, v24, v25])), (h1, .inl (a0, 609, .inr (.inl f0)))] (ei (fun _ : Unit => True) (fun u => 0) (fun _ => [(h0, .inr (6, [.int 0, .ref h1, v1, v2, v3, v4, v5, v6, v7, v8, v9, v10, v11, v12, v13, v14, v15, v16, v17, v18, v19, v20, v21, v22, v23, v24, v25])), (h1, .inl (a0, 609, .inr (.inl f0)))]) (fun u => [(a0, .long)]) D) 0 0 := by
  refine CT.ofW (by decide +kernel) (Nat.le_of_ble_eq_true rfl) ?_
  intro p e s m below meth c A ls hcs hP hK hD hX hA hS hl
  obtain ⟨hx, hb, hr, hml, hown, hg, hlocks, hin⟩ := hcs
  have hown : s.vm.findClass RX6 = some m.cls := hown
  have hl : lv_has ls 3 [(0, .ref h0), (1, .int x0), (2, .int 0)] := hl
  refine lv_aload_n hx hb dX6_threshold_0 rfl (lv_at hl 0 rfl) ?_
  refine lv_iload_n hx hb dX6_threshold_1 rfl (lv_at hl 1 rfl) ?_
  refine lv_i2l (v := x0.toInt64) hx hb dX6_threshold_2 rfl ?_
  refine lv_lconst (v := 0) hx hb dX6_threshold_3 (by decide) ?_
  refine lv_ldc2 hx hb hown (hg _ k1568) dX6_threshold_4 ?_
  refine cSi (n := 3) (As := [.long x0.toInt64, .long 0, .long 9999]) (rest := [.ref h0]) (wr := [(h0, .inr (6, [v0, .ref h1, v1, v2, v3, v4, v5, v6, v7, v8, v9, v10, v11, v12, v13, v14, v15, v16, v17, v18, v19, v20, v21, v22, v23, v24, v25])), (h1, .inl (a0, 609, .inr (.inl f0)))]) (tr := [(a0, .long)]) hx hb hml hown hg okN (cX6_in_213 l D x0 d0 d1) (mwS k1317 k1318 k92 k1319) ⟨rfl, by decide, by decide, by decide +kernel⟩ ⟨rfl, rfl, (Nat.le_of_ble_eq_true rfl), (Nat.le_of_ble_eq_true rfl)⟩ hP hD hK hS xn [] [] [0, 1] [] [0] rfl (by decide) rfl rfl (by decide) (by decide) rfl rfl (aNil hA hS) (aNil hA hS) rfl hl.1 rfl (Nat.le_of_ble_eq_true rfl) dX6_threshold_7 ⟨(Nat.le_of_ble_eq_true rfl), (Nat.le_of_ble_eq_true rfl)⟩ (fun u H locs hφ hP hD hK hS hk => ?_)
  have hP : va_P D vwCl [(h0, .inr (6, [v0, .ref h1, v1, v2, v3, v4, v5, v6, v7, v8, v9, v10, v11, v12, v13, v14, v15, v16, v17, v18, v19, v20, v21, v22, v23, v24, v25])), (h1, .inl (a0, 609, .inr (.inl f0)))] H := hP
  have hD : va_D A [(h0, .inr (6, [v0, .ref h1, v1, v2, v3, v4, v5, v6, v7, v8, v9, v10, v11, v12, v13, v14, v15, v16, v17, v18, v19, v20, v21, v22, v23, v24, v25])), (h1, .inl (a0, 609, .inr (.inl f0)))] := hD
  have hK : va_K D vwCl [(a0, .long)] s := hK
  refine W.widen (k := 0) (n := 0) (Nat.le_of_ble_eq_true rfl) (Nat.le_of_ble_eq_true rfl) ?_
  refine lv_if_eq (tgt := 17) hx hb dX6_threshold_10 (by decide) (fun c9 => absurd c9 (by decide)) (fun _ => ?_)
  refine lv_iconst (v := 0) hx hb dX6_threshold_13 (by decide) ?_
  refine lv_goto (tgt := 18) hx hb dX6_threshold_14 (by decide) ?_
  refine va_put (D := D) (ci := 6) (v := .int 0) (ty := .int) (C := RX6) (T := TX6) (N := 27) hx hb hg inX6 tyX6 tyX6_ok nmX6 hown hK hP hD hS 0 rfl rfl 0 (by decide) (hg _ k1219) (fun _ h9 => h9) rfl (by decide +kernel) rfl rfl (Nat.le_of_ble_eq_true rfl) dX6_threshold_18 (fun H locs hP hD hS => ?_)
  have hP : va_P D vwCl [(h0, .inr (6, [.int 0, .ref h1, v1, v2, v3, v4, v5, v6, v7, v8, v9, v10, v11, v12, v13, v14, v15, v16, v17, v18, v19, v20, v21, v22, v23, v24, v25])), (h1, .inl (a0, 609, .inr (.inl f0)))] H := hP
  have hD : va_D A [(h0, .inr (6, [.int 0, .ref h1, v1, v2, v3, v4, v5, v6, v7, v8, v9, v10, v11, v12, v13, v14, v15, v16, v17, v18, v19, v20, v21, v22, v23, v24, v25])), (h1, .inl (a0, 609, .inr (.inl f0)))] := hD
  refine lv_aload_n hx hb dX6_threshold_21 rfl (lv_at hl 0 rfl) ?_
  refine va_get (D := D) (ci := 6) (v := .int 0) (C := RX6) (T := TX6) (N := 27) hx hb hg inX6 hown hK hP 0 rfl rfl 0 (by decide) (hg _ k1219) (fun _ h9 => h9) rfl dX6_threshold_22 ?_
  refine lv_if_le (tgt := 30) hx hb dX6_threshold_25 (by decide) (fun _ => ?_) (fun c9 => absurd (by decide) c9)
  refine lv_aload_n hx hb dX6_threshold_30 rfl (lv_at hl 0 rfl) ?_
  refine lv_iload_n hx hb dX6_threshold_31 rfl (lv_at hl 1 rfl) ?_
  refine lv_iload_n hx hb dX6_threshold_32 rfl (lv_at hl 2 rfl) ?_
  refine cVv (n := 2) (As := [.int x0, .int 0]) (rest := []) (wr := [(h0, .inr (6, [.int 0, .ref h1, v1, v2, v3, v4, v5, v6, v7, v8, v9, v10, v11, v12, v13, v14, v15, v16, v17, v18, v19, v20, v21, v22, v23, v24, v25])), (h1, .inl (a0, 609, .inr (.inl f0)))]) (tr := [(a0, .long)]) hx hb hml hown hg okN (cX6_cuts_214 l D h0 x0 h1 (.int 0) v1 v2 v3 v4 v5 v6 v7 v8 v9 v10 v11 v12 v13 v14 v15 v16 v17 v18 v19 v20 v21 v22 v23 v24 v25 f0 a0 ef0_4) (mwV k1630 k1632 k77 k92 k1633) ⟨rfl, by decide, by decide, by decide +kernel⟩ ⟨rfl, rfl, (Nat.le_of_ble_eq_true rfl), (Nat.le_of_ble_eq_true rfl)⟩ hP hD hK hS xn [0, 1] [] [0, 1] [0] [0] rfl (by decide) rfl rfl (by decide) (by decide) rfl rfl (aNil hA hS) (aNil hA hS) 0 rfl rfl rfl hl.1 rfl (Nat.le_of_ble_eq_true rfl) dX6_threshold_33 ⟨(Nat.le_of_ble_eq_true rfl), (Nat.le_of_ble_eq_true rfl)⟩ (fun u H locs hφ hP hD hK hS hk => ?_)
  have hP : va_P D vwCl [(h0, .inr (6, [.int 0, .ref h1, v1, v2, v3, v4, v5, v6, v7, v8, v9, v10, v11, v12, v13, v14, v15, v16, v17, v18, v19, v20, v21, v22, v23, v24, v25])), (h1, .inl (a0, 609, .inr (.inl f0)))] H := hP
  have hD : va_D A [(h0, .inr (6, [.int 0, .ref h1, v1, v2, v3, v4, v5, v6, v7, v8, v9, v10, v11, v12, v13, v14, v15, v16, v17, v18, v19, v20, v21, v22, v23, v24, v25])), (h1, .inl (a0, 609, .inr (.inl f0)))] := hD
  have hK : va_K D vwCl [(a0, .long)] s := hK
  refine W.widen (k := 0) (n := 0) (Nat.le_of_ble_eq_true rfl) (Nat.le_of_ble_eq_true rfl) ?_
  refine lv_aload_n hx hb dX6_threshold_36 rfl (lv_at hl 0 rfl) ?_
  refine cVi (n := 0) (As := []) (rest := []) (wr := [(h0, .inr (6, [.int 0, .ref h1, v1, v2, v3, v4, v5, v6, v7, v8, v9, v10, v11, v12, v13, v14, v15, v16, v17, v18, v19, v20, v21, v22, v23, v24, v25])), (h1, .inl (a0, 609, .inr (.inl f0)))]) (tr := [(a0, .long)]) hx hb hml hown hg okN (cX6_zeros_40 l D h0 h1 (.int 0) v1 v2 v3 v4 v5 v6 v7 v8 v9 v10 v11 v12 v13 v14 v15 v16 v17 v18 v19 v20 v21 v22 v23 v24 v25 f0 a0 ef0_4) (mwV k1420 k1422 k53 k92 k1423) ⟨rfl, by decide, by decide, by decide +kernel⟩ ⟨rfl, rfl, (Nat.le_of_ble_eq_true rfl), (Nat.le_of_ble_eq_true rfl)⟩ hP hD hK hS xn [0, 1] [] [0, 1] [0] [0] rfl (by decide) rfl rfl (by decide) (by decide) rfl rfl (aNil hA hS) (aNil hA hS) 0 rfl rfl rfl hl.1 rfl (Nat.le_of_ble_eq_true rfl) dX6_threshold_37 ⟨(Nat.le_of_ble_eq_true rfl), (Nat.le_of_ble_eq_true rfl)⟩ (fun u H locs hφ hP hD hK hS hk => ?_)
  have hP : va_P D vwCl [(h0, .inr (6, [.int 0, .ref h1, v1, v2, v3, v4, v5, v6, v7, v8, v9, v10, v11, v12, v13, v14, v15, v16, v17, v18, v19, v20, v21, v22, v23, v24, v25])), (h1, .inl (a0, 609, .inr (.inl f0)))] H := hP
  have hD : va_D A [(h0, .inr (6, [.int 0, .ref h1, v1, v2, v3, v4, v5, v6, v7, v8, v9, v10, v11, v12, v13, v14, v15, v16, v17, v18, v19, v20, v21, v22, v23, v24, v25])), (h1, .inl (a0, 609, .inr (.inl f0)))] := hD
  have hK : va_K D vwCl [(a0, .long)] s := hK
  refine W.widen (k := 0) (n := 0) (Nat.le_of_ble_eq_true rfl) (Nat.le_of_ble_eq_true rfl) ?_
  exact fi hx hb hr hlocks hP hD hK hS (()) trivial rfl [0, 1] [0] rfl (by decide) rfl (Nat.le_of_ble_eq_true rfl) (Nat.le_of_ble_eq_true rfl) dX6_threshold_40
set_option maxHeartbeats 4000000 in
set_option maxRecDepth 100000 in
theorem cX6_cuts_216 (l : Launch) (D : va_G) (h0 : Nat) (x0 : Int32) (h1 : Nat) (v0 : Value) (v1 : Value) (v2 : Value) (v3 : Value) (v4 : Value) (v5 : Value) (v6 : Value) (v7 : Value) (v8 : Value) (v9 : Value) (v10 : Value) (v11 : Value) (v12 : Value) (v13 : Value) (v14 : Value) (v15 : Value) (v16 : Value) (v17 : Value) (v18 : Value) (v19 : Value) (v20 : Value) (v21 : Value) (v22 : Value) (v23 : Value) (v24 : Value) (v25 : Value) (f0 : Nat → Int64) (a0 : ClassId) (ef0_4 : f0 4 = 0)  : CT l yX6_cuts cX6_cuts 8 none { frames := 1, cells := 0, slots := 0, locals := 20 } [.ref h0, .int x0, .int 1] D [(h0, .inr (6, [v0, .ref h1, v1, v2, v3, v4, v5, v6, v7, v8, v9, v10, v11, v12, v13, v14, v15, v16, v17, v18, v19, v20, v21, v22, v23, v24, v25])), (h1, .inl (a0, 609, .inr (.inl f0)))] [(a0, .long)] XN [] (ev (fun _ : Unit => True) (fun _ => []) (fun _ => []) D) 0 0 := by
  refine CT.ofR (by decide +kernel) (Nat.le_of_ble_eq_true rfl) ?_
  intro p e s m below meth c A ls hcs hP hK hD hX hA hS hl
  obtain ⟨hx, hb, hr, hml, hown, hg, hlocks, hin⟩ := hcs
  have hown : s.vm.findClass RX6 = some m.cls := hown
  have hl : lv_has ls 8 [(0, .ref h0), (1, .int x0), (2, .int 1)] := hl
  refine lv_iconst (v := 0) hx hb dX6_cuts_0 (by decide) ?_
  refine lv_istore_n (lv' := [(3, .int 0), (0, .ref h0), (1, .int x0), (2, .int 1)]) hx hb dX6_cuts_1 rfl hl (by decide) rfl (fun ls hl => ?_)
  refine lv_iload_n hx hb dX6_cuts_2 rfl (lv_at hl 0 rfl) ?_
  refine lv_aload_n hx hb dX6_cuts_3 rfl (lv_at hl 1 rfl) ?_
  refine cVi (n := 0) (As := []) (rest := [.int 0]) (wr := [(h0, .inr (6, [v0, .ref h1, v1, v2, v3, v4, v5, v6, v7, v8, v9, v10, v11, v12, v13, v14, v15, v16, v17, v18, v19, v20, v21, v22, v23, v24, v25])), (h1, .inl (a0, 609, .inr (.inl f0)))]) (tr := [(a0, .long)]) hx hb hml hown hg okN (cX6_steps_35 l D h0 h1 v0 v1 v2 v3 v4 v5 v6 v7 v8 v9 v10 v11 v12 v13 v14 v15 v16 v17 v18 v19 v20 v21 v22 v23 v24 v25 f0 a0 ef0_4) (mwV k1416 k1418 k52 k92 k1419) ⟨rfl, by decide, by decide, by decide +kernel⟩ ⟨rfl, rfl, (Nat.le_of_ble_eq_true rfl), (Nat.le_of_ble_eq_true rfl)⟩ hP hD hK hS xn [0, 1] [] [0, 1] [0] [0] rfl (by decide) rfl rfl (by decide) (by decide) rfl rfl (aNil hA hS) (fun _ _ => trivial) 0 rfl rfl rfl hl.1 rfl (Nat.le_of_ble_eq_true rfl) dX6_cuts_4 ⟨(Nat.le_of_ble_eq_true rfl), (Nat.le_of_ble_eq_true rfl)⟩ (fun u H locs hφ hP hD hK hS hk => ?_)
  have hP : va_P D vwCl [(h0, .inr (6, [v0, .ref h1, v1, v2, v3, v4, v5, v6, v7, v8, v9, v10, v11, v12, v13, v14, v15, v16, v17, v18, v19, v20, v21, v22, v23, v24, v25])), (h1, .inl (a0, 609, .inr (.inl f0)))] H := hP
  have hD : va_D (fun _ => True) [(h0, .inr (6, [v0, .ref h1, v1, v2, v3, v4, v5, v6, v7, v8, v9, v10, v11, v12, v13, v14, v15, v16, v17, v18, v19, v20, v21, v22, v23, v24, v25])), (h1, .inl (a0, 609, .inr (.inl f0)))] := hD
  have hK : va_K D vwCl [(a0, .long)] s := hK
  refine W.widen (k := 0) (n := 0) (Nat.le_of_ble_eq_true rfl) (Nat.le_of_ble_eq_true rfl) ?_
  refine lv_icmp_ge (tgt := 77) hx hb dX6_cuts_7 (by decide) (fun _ => ?_) (fun c9 => absurd (by decide) c9)
  exact fv0 hx hb hr hlocks hK hS (Nat.le_of_ble_eq_true rfl) (Nat.le_of_ble_eq_true rfl) dX6_cuts_77
set_option maxHeartbeats 4000000 in
set_option maxRecDepth 100000 in
theorem cX6_threshold_215 (l : Launch) (D : va_G) (h0 : Nat) (x0 : Int32) (h1 : Nat) (v0 : Value) (v1 : Value) (v2 : Value) (v3 : Value) (v4 : Value) (v5 : Value) (v6 : Value) (v7 : Value) (v8 : Value) (v9 : Value) (v10 : Value) (v11 : Value) (v12 : Value) (v13 : Value) (v14 : Value) (v15 : Value) (v16 : Value) (v17 : Value) (v18 : Value) (v19 : Value) (v20 : Value) (v21 : Value) (v22 : Value) (v23 : Value) (v24 : Value) (v25 : Value) (f0 : Nat → Int64) (a0 : ClassId) (ef0_4 : f0 4 = 0) (d0 : ¬ ((lg_cmp x0.toInt64 0) < 0)) (d1 : ¬ (0 < (lg_cmp x0.toInt64 9999))) : CT l yX6_threshold cX6_threshold 3 (some .int) { frames := 2, cells := 0, slots := 0, locals := 47 } [.ref h0, .int x0, .int 1] D [(h0, .inr (6, [v0, .ref h1, v1, v2, v3, v4, v5, v6, v7, v8, v9, v10, v11, v12, v13, v14, v15, v16, v17, v18, v19, v20, v21, v22, v23, v24, v25])), (h1, .inl (a0, 609, .inr (.inl f0)))] [(a0, .long)] XN [(h0, .inr (6, [v0, .ref h1, v1, v2, v3, v4, v5, v6, v7, v8, v9, v10, v11, v12, v13, v14, v15, v16, v17, v18, v19, v20, v21, v22, v23, v24, v25])), (h1, .inl (a0, 609, .inr (.inl f0)))] (ei (fun _ : Unit => True) (fun u => 0) (fun _ => [(h0, .inr (6, [.int 0, .ref h1, v1, v2, v3, v4, v5, v6, v7, v8, v9, v10, v11, v12, v13, v14, v15, v16, v17, v18, v19, v20, v21, v22, v23, v24, v25])), (h1, .inl (a0, 609, .inr (.inl f0)))]) (fun u => [(a0, .long)]) D) 0 0 := by
  refine CT.ofW (by decide +kernel) (Nat.le_of_ble_eq_true rfl) ?_
  intro p e s m below meth c A ls hcs hP hK hD hX hA hS hl
  obtain ⟨hx, hb, hr, hml, hown, hg, hlocks, hin⟩ := hcs
  have hown : s.vm.findClass RX6 = some m.cls := hown
  have hl : lv_has ls 3 [(0, .ref h0), (1, .int x0), (2, .int 1)] := hl
  refine lv_aload_n hx hb dX6_threshold_0 rfl (lv_at hl 0 rfl) ?_
  refine lv_iload_n hx hb dX6_threshold_1 rfl (lv_at hl 1 rfl) ?_
  refine lv_i2l (v := x0.toInt64) hx hb dX6_threshold_2 rfl ?_
  refine lv_lconst (v := 0) hx hb dX6_threshold_3 (by decide) ?_
  refine lv_ldc2 hx hb hown (hg _ k1568) dX6_threshold_4 ?_
  refine cSi (n := 3) (As := [.long x0.toInt64, .long 0, .long 9999]) (rest := [.ref h0]) (wr := [(h0, .inr (6, [v0, .ref h1, v1, v2, v3, v4, v5, v6, v7, v8, v9, v10, v11, v12, v13, v14, v15, v16, v17, v18, v19, v20, v21, v22, v23, v24, v25])), (h1, .inl (a0, 609, .inr (.inl f0)))]) (tr := [(a0, .long)]) hx hb hml hown hg okN (cX6_in_213 l D x0 d0 d1) (mwS k1317 k1318 k92 k1319) ⟨rfl, by decide, by decide, by decide +kernel⟩ ⟨rfl, rfl, (Nat.le_of_ble_eq_true rfl), (Nat.le_of_ble_eq_true rfl)⟩ hP hD hK hS xn [] [] [0, 1] [] [0] rfl (by decide) rfl rfl (by decide) (by decide) rfl rfl (aNil hA hS) (aNil hA hS) rfl hl.1 rfl (Nat.le_of_ble_eq_true rfl) dX6_threshold_7 ⟨(Nat.le_of_ble_eq_true rfl), (Nat.le_of_ble_eq_true rfl)⟩ (fun u H locs hφ hP hD hK hS hk => ?_)
  have hP : va_P D vwCl [(h0, .inr (6, [v0, .ref h1, v1, v2, v3, v4, v5, v6, v7, v8, v9, v10, v11, v12, v13, v14, v15, v16, v17, v18, v19, v20, v21, v22, v23, v24, v25])), (h1, .inl (a0, 609, .inr (.inl f0)))] H := hP
  have hD : va_D A [(h0, .inr (6, [v0, .ref h1, v1, v2, v3, v4, v5, v6, v7, v8, v9, v10, v11, v12, v13, v14, v15, v16, v17, v18, v19, v20, v21, v22, v23, v24, v25])), (h1, .inl (a0, 609, .inr (.inl f0)))] := hD
  have hK : va_K D vwCl [(a0, .long)] s := hK
  refine W.widen (k := 0) (n := 0) (Nat.le_of_ble_eq_true rfl) (Nat.le_of_ble_eq_true rfl) ?_
  refine lv_if_eq (tgt := 17) hx hb dX6_threshold_10 (by decide) (fun c9 => absurd c9 (by decide)) (fun _ => ?_)
  refine lv_iconst (v := 0) hx hb dX6_threshold_13 (by decide) ?_
  refine lv_goto (tgt := 18) hx hb dX6_threshold_14 (by decide) ?_
  refine va_put (D := D) (ci := 6) (v := .int 0) (ty := .int) (C := RX6) (T := TX6) (N := 27) hx hb hg inX6 tyX6 tyX6_ok nmX6 hown hK hP hD hS 0 rfl rfl 0 (by decide) (hg _ k1219) (fun _ h9 => h9) rfl (by decide +kernel) rfl rfl (Nat.le_of_ble_eq_true rfl) dX6_threshold_18 (fun H locs hP hD hS => ?_)
  have hP : va_P D vwCl [(h0, .inr (6, [.int 0, .ref h1, v1, v2, v3, v4, v5, v6, v7, v8, v9, v10, v11, v12, v13, v14, v15, v16, v17, v18, v19, v20, v21, v22, v23, v24, v25])), (h1, .inl (a0, 609, .inr (.inl f0)))] H := hP
  have hD : va_D A [(h0, .inr (6, [.int 0, .ref h1, v1, v2, v3, v4, v5, v6, v7, v8, v9, v10, v11, v12, v13, v14, v15, v16, v17, v18, v19, v20, v21, v22, v23, v24, v25])), (h1, .inl (a0, 609, .inr (.inl f0)))] := hD
  refine lv_aload_n hx hb dX6_threshold_21 rfl (lv_at hl 0 rfl) ?_
  refine va_get (D := D) (ci := 6) (v := .int 0) (C := RX6) (T := TX6) (N := 27) hx hb hg inX6 hown hK hP 0 rfl rfl 0 (by decide) (hg _ k1219) (fun _ h9 => h9) rfl dX6_threshold_22 ?_
  refine lv_if_le (tgt := 30) hx hb dX6_threshold_25 (by decide) (fun _ => ?_) (fun c9 => absurd (by decide) c9)
  refine lv_aload_n hx hb dX6_threshold_30 rfl (lv_at hl 0 rfl) ?_
  refine lv_iload_n hx hb dX6_threshold_31 rfl (lv_at hl 1 rfl) ?_
  refine lv_iload_n hx hb dX6_threshold_32 rfl (lv_at hl 2 rfl) ?_
  refine cVv (n := 2) (As := [.int x0, .int 1]) (rest := []) (wr := [(h0, .inr (6, [.int 0, .ref h1, v1, v2, v3, v4, v5, v6, v7, v8, v9, v10, v11, v12, v13, v14, v15, v16, v17, v18, v19, v20, v21, v22, v23, v24, v25])), (h1, .inl (a0, 609, .inr (.inl f0)))]) (tr := [(a0, .long)]) hx hb hml hown hg okN (cX6_cuts_216 l D h0 x0 h1 (.int 0) v1 v2 v3 v4 v5 v6 v7 v8 v9 v10 v11 v12 v13 v14 v15 v16 v17 v18 v19 v20 v21 v22 v23 v24 v25 f0 a0 ef0_4) (mwV k1630 k1632 k77 k92 k1633) ⟨rfl, by decide, by decide, by decide +kernel⟩ ⟨rfl, rfl, (Nat.le_of_ble_eq_true rfl), (Nat.le_of_ble_eq_true rfl)⟩ hP hD hK hS xn [0, 1] [] [0, 1] [0] [0] rfl (by decide) rfl rfl (by decide) (by decide) rfl rfl (aNil hA hS) (aNil hA hS) 0 rfl rfl rfl hl.1 rfl (Nat.le_of_ble_eq_true rfl) dX6_threshold_33 ⟨(Nat.le_of_ble_eq_true rfl), (Nat.le_of_ble_eq_true rfl)⟩ (fun u H locs hφ hP hD hK hS hk => ?_)
  have hP : va_P D vwCl [(h0, .inr (6, [.int 0, .ref h1, v1, v2, v3, v4, v5, v6, v7, v8, v9, v10, v11, v12, v13, v14, v15, v16, v17, v18, v19, v20, v21, v22, v23, v24, v25])), (h1, .inl (a0, 609, .inr (.inl f0)))] H := hP
  have hD : va_D A [(h0, .inr (6, [.int 0, .ref h1, v1, v2, v3, v4, v5, v6, v7, v8, v9, v10, v11, v12, v13, v14, v15, v16, v17, v18, v19, v20, v21, v22, v23, v24, v25])), (h1, .inl (a0, 609, .inr (.inl f0)))] := hD
  have hK : va_K D vwCl [(a0, .long)] s := hK
  refine W.widen (k := 0) (n := 0) (Nat.le_of_ble_eq_true rfl) (Nat.le_of_ble_eq_true rfl) ?_
  refine lv_aload_n hx hb dX6_threshold_36 rfl (lv_at hl 0 rfl) ?_
  refine cVi (n := 0) (As := []) (rest := []) (wr := [(h0, .inr (6, [.int 0, .ref h1, v1, v2, v3, v4, v5, v6, v7, v8, v9, v10, v11, v12, v13, v14, v15, v16, v17, v18, v19, v20, v21, v22, v23, v24, v25])), (h1, .inl (a0, 609, .inr (.inl f0)))]) (tr := [(a0, .long)]) hx hb hml hown hg okN (cX6_zeros_40 l D h0 h1 (.int 0) v1 v2 v3 v4 v5 v6 v7 v8 v9 v10 v11 v12 v13 v14 v15 v16 v17 v18 v19 v20 v21 v22 v23 v24 v25 f0 a0 ef0_4) (mwV k1420 k1422 k53 k92 k1423) ⟨rfl, by decide, by decide, by decide +kernel⟩ ⟨rfl, rfl, (Nat.le_of_ble_eq_true rfl), (Nat.le_of_ble_eq_true rfl)⟩ hP hD hK hS xn [0, 1] [] [0, 1] [0] [0] rfl (by decide) rfl rfl (by decide) (by decide) rfl rfl (aNil hA hS) (aNil hA hS) 0 rfl rfl rfl hl.1 rfl (Nat.le_of_ble_eq_true rfl) dX6_threshold_37 ⟨(Nat.le_of_ble_eq_true rfl), (Nat.le_of_ble_eq_true rfl)⟩ (fun u H locs hφ hP hD hK hS hk => ?_)
  have hP : va_P D vwCl [(h0, .inr (6, [.int 0, .ref h1, v1, v2, v3, v4, v5, v6, v7, v8, v9, v10, v11, v12, v13, v14, v15, v16, v17, v18, v19, v20, v21, v22, v23, v24, v25])), (h1, .inl (a0, 609, .inr (.inl f0)))] H := hP
  have hD : va_D A [(h0, .inr (6, [.int 0, .ref h1, v1, v2, v3, v4, v5, v6, v7, v8, v9, v10, v11, v12, v13, v14, v15, v16, v17, v18, v19, v20, v21, v22, v23, v24, v25])), (h1, .inl (a0, 609, .inr (.inl f0)))] := hD
  have hK : va_K D vwCl [(a0, .long)] s := hK
  refine W.widen (k := 0) (n := 0) (Nat.le_of_ble_eq_true rfl) (Nat.le_of_ble_eq_true rfl) ?_
  exact fi hx hb hr hlocks hP hD hK hS (()) trivial rfl [0, 1] [0] rfl (by decide) rfl (Nat.le_of_ble_eq_true rfl) (Nat.le_of_ble_eq_true rfl) dX6_threshold_40
set_option maxHeartbeats 4000000 in
set_option maxRecDepth 100000 in
theorem cX6_in_218 (l : Launch) (D : va_G) (x0 : Int32)  (d0 : ¬ ((lg_cmp x0.toInt64 0) < 0)) (d1 : 0 < (lg_cmp x0.toInt64 9999)) : CT l yX6_in cX6_in 6 (some .boolean) { frames := 0, cells := 0, slots := 0, locals := 0 } [.long x0.toInt64, .long 0, .long 9999] D [] [] XN [] (ei (fun _ : Unit => True) (fun _ => 0) (fun _ => []) (fun _ => []) D) 0 0 := by
  refine CT.ofR (by decide +kernel) (Nat.le_of_ble_eq_true rfl) ?_
  intro p e s m below meth c A ls hcs hP hK hD hX hA hS hl
  obtain ⟨hx, hb, hr, hml, hown, hg, hlocks, hin⟩ := hcs
  have hown : s.vm.findClass RX6 = some m.cls := hown
  have hl : lv_has ls 6 [(0, .long x0.toInt64), (2, .long 0), (4, .long 9999)] := hl
  refine lv_lload_n hx hb dX6_in_0 rfl (lv_at hl 0 rfl) ?_
  refine lv_lload_n hx hb dX6_in_1 rfl (lv_at hl 1 rfl) ?_
  refine W.lcmp hx hb dX6_in_2 ?_
  refine lv_if_lt (tgt := 17) hx hb dX6_in_3 (by decide) (fun c9 => absurd c9 d0) (fun _ => ?_)
  refine lv_lload_n hx hb dX6_in_6 rfl (lv_at hl 0 rfl) ?_
  refine lv_lload hx hb dX6_in_7 (lv_at hl 2 rfl) ?_
  refine W.lcmp hx hb dX6_in_9 ?_
  refine lv_if_gt (tgt := 17) hx hb dX6_in_10 (by decide) (fun _ => ?_) (fun c9 => absurd d1 c9)
  refine lv_iconst (v := 0) hx hb dX6_in_17 (by decide) ?_
  exact fz0 hx hb hr rfl hlocks hK hS (Nat.le_of_ble_eq_true rfl) (Nat.le_of_ble_eq_true rfl) dX6_in_18
set_option maxHeartbeats 4000000 in
set_option maxRecDepth 100000 in
theorem cX6_threshold_217 (l : Launch) (D : va_G) (h0 : Nat) (x0 : Int32) (v0 : Value) (v1 : Value) (v2 : Value) (v3 : Value) (v4 : Value) (v5 : Value) (v6 : Value) (v7 : Value) (v8 : Value) (v9 : Value) (v10 : Value) (v11 : Value) (v12 : Value) (v13 : Value) (v14 : Value) (v15 : Value) (v16 : Value) (v17 : Value) (v18 : Value) (v19 : Value) (v20 : Value) (v21 : Value) (v22 : Value) (v23 : Value) (v24 : Value) (v25 : Value) (v26 : Value)  (d0 : ¬ ((lg_cmp x0.toInt64 0) < 0)) (d1 : 0 < (lg_cmp x0.toInt64 9999)) : CT l yX6_threshold cX6_threshold 3 (some .int) { frames := 1, cells := 0, slots := 0, locals := 25 } [.ref h0, .int x0, .int 0] D [(h0, .inr (6, [v0, v1, v2, v3, v4, v5, v6, v7, v8, v9, v10, v11, v12, v13, v14, v15, v16, v17, v18, v19, v20, v21, v22, v23, v24, v25, v26]))] [] XN [(h0, .inr (6, [v0, v1, v2, v3, v4, v5, v6, v7, v8, v9, v10, v11, v12, v13, v14, v15, v16, v17, v18, v19, v20, v21, v22, v23, v24, v25, v26]))] (ei (fun _ : Unit => True) (fun u => 0) (fun _ => [(h0, .inr (6, [.int 1, v1, v2, v3, v4, v5, v6, v7, v8, v9, v10, v11, v12, v13, v14, v15, v16, v17, v18, v19, v20, v21, v22, v23, v24, v25, v26]))]) (fun u => []) D) 0 0 := by
  refine CT.ofW (by decide +kernel) (Nat.le_of_ble_eq_true rfl) ?_
  intro p e s m below meth c A ls hcs hP hK hD hX hA hS hl
  obtain ⟨hx, hb, hr, hml, hown, hg, hlocks, hin⟩ := hcs
  have hown : s.vm.findClass RX6 = some m.cls := hown
  have hl : lv_has ls 3 [(0, .ref h0), (1, .int x0), (2, .int 0)] := hl
  refine lv_aload_n hx hb dX6_threshold_0 rfl (lv_at hl 0 rfl) ?_
  refine lv_iload_n hx hb dX6_threshold_1 rfl (lv_at hl 1 rfl) ?_
  refine lv_i2l (v := x0.toInt64) hx hb dX6_threshold_2 rfl ?_
  refine lv_lconst (v := 0) hx hb dX6_threshold_3 (by decide) ?_
  refine lv_ldc2 hx hb hown (hg _ k1568) dX6_threshold_4 ?_
  refine cSi (n := 3) (As := [.long x0.toInt64, .long 0, .long 9999]) (rest := [.ref h0]) (wr := [(h0, .inr (6, [v0, v1, v2, v3, v4, v5, v6, v7, v8, v9, v10, v11, v12, v13, v14, v15, v16, v17, v18, v19, v20, v21, v22, v23, v24, v25, v26]))]) (tr := []) hx hb hml hown hg okN (cX6_in_218 l D x0 d0 d1) (mwS k1317 k1318 k92 k1319) ⟨rfl, by decide, by decide, by decide +kernel⟩ ⟨rfl, rfl, (Nat.le_of_ble_eq_true rfl), (Nat.le_of_ble_eq_true rfl)⟩ hP hD hK hS xn [] [] [0] [] [] rfl (by decide) rfl rfl (by decide) (by decide) rfl rfl (aNil hA hS) (aNil hA hS) rfl hl.1 rfl (Nat.le_of_ble_eq_true rfl) dX6_threshold_7 ⟨(Nat.le_of_ble_eq_true rfl), (Nat.le_of_ble_eq_true rfl)⟩ (fun u H locs hφ hP hD hK hS hk => ?_)
  have hP : va_P D vwCl [(h0, .inr (6, [v0, v1, v2, v3, v4, v5, v6, v7, v8, v9, v10, v11, v12, v13, v14, v15, v16, v17, v18, v19, v20, v21, v22, v23, v24, v25, v26]))] H := hP
  have hD : va_D A [(h0, .inr (6, [v0, v1, v2, v3, v4, v5, v6, v7, v8, v9, v10, v11, v12, v13, v14, v15, v16, v17, v18, v19, v20, v21, v22, v23, v24, v25, v26]))] := hD
  have hK : va_K D vwCl [] s := hK
  refine W.widen (k := 0) (n := 0) (Nat.le_of_ble_eq_true rfl) (Nat.le_of_ble_eq_true rfl) ?_
  refine lv_if_eq (tgt := 17) hx hb dX6_threshold_10 (by decide) (fun _ => ?_) (fun c9 => absurd (by decide) c9)
  refine lv_iconst (v := 1) hx hb dX6_threshold_17 (by decide) ?_
  refine va_put (D := D) (ci := 6) (v := .int 1) (ty := .int) (C := RX6) (T := TX6) (N := 27) hx hb hg inX6 tyX6 tyX6_ok nmX6 hown hK hP hD hS 0 rfl rfl 0 (by decide) (hg _ k1219) (fun _ h9 => h9) rfl (by decide +kernel) rfl rfl (Nat.le_of_ble_eq_true rfl) dX6_threshold_18 (fun H locs hP hD hS => ?_)
  have hP : va_P D vwCl [(h0, .inr (6, [.int 1, v1, v2, v3, v4, v5, v6, v7, v8, v9, v10, v11, v12, v13, v14, v15, v16, v17, v18, v19, v20, v21, v22, v23, v24, v25, v26]))] H := hP
  have hD : va_D A [(h0, .inr (6, [.int 1, v1, v2, v3, v4, v5, v6, v7, v8, v9, v10, v11, v12, v13, v14, v15, v16, v17, v18, v19, v20, v21, v22, v23, v24, v25, v26]))] := hD
  refine lv_aload_n hx hb dX6_threshold_21 rfl (lv_at hl 0 rfl) ?_
  refine va_get (D := D) (ci := 6) (v := .int 1) (C := RX6) (T := TX6) (N := 27) hx hb hg inX6 hown hK hP 0 rfl rfl 0 (by decide) (hg _ k1219) (fun _ h9 => h9) rfl dX6_threshold_22 ?_
  refine lv_if_le (tgt := 30) hx hb dX6_threshold_25 (by decide) (fun c9 => absurd c9 (by decide)) (fun _ => ?_)
  refine lv_iconst (v := 0) hx hb dX6_threshold_28 (by decide) ?_
  exact fi hx hb hr hlocks hP hD hK hS (()) trivial rfl [0] [] rfl (by decide) rfl (Nat.le_of_ble_eq_true rfl) (Nat.le_of_ble_eq_true rfl) dX6_threshold_29
set_option maxHeartbeats 4000000 in
set_option maxRecDepth 100000 in
theorem cX6_threshold_219 (l : Launch) (D : va_G) (h0 : Nat) (x0 : Int32) (v0 : Value) (v1 : Value) (v2 : Value) (v3 : Value) (v4 : Value) (v5 : Value) (v6 : Value) (v7 : Value) (v8 : Value) (v9 : Value) (v10 : Value) (v11 : Value) (v12 : Value) (v13 : Value) (v14 : Value) (v15 : Value) (v16 : Value) (v17 : Value) (v18 : Value) (v19 : Value) (v20 : Value) (v21 : Value) (v22 : Value) (v23 : Value) (v24 : Value) (v25 : Value) (v26 : Value)  (d0 : ¬ ((lg_cmp x0.toInt64 0) < 0)) (d1 : 0 < (lg_cmp x0.toInt64 9999)) : CT l yX6_threshold cX6_threshold 3 (some .int) { frames := 1, cells := 0, slots := 0, locals := 25 } [.ref h0, .int x0, .int 1] D [(h0, .inr (6, [v0, v1, v2, v3, v4, v5, v6, v7, v8, v9, v10, v11, v12, v13, v14, v15, v16, v17, v18, v19, v20, v21, v22, v23, v24, v25, v26]))] [] XN [(h0, .inr (6, [v0, v1, v2, v3, v4, v5, v6, v7, v8, v9, v10, v11, v12, v13, v14, v15, v16, v17, v18, v19, v20, v21, v22, v23, v24, v25, v26]))] (ei (fun _ : Unit => True) (fun u => 0) (fun _ => [(h0, .inr (6, [.int 1, v1, v2, v3, v4, v5, v6, v7, v8, v9, v10, v11, v12, v13, v14, v15, v16, v17, v18, v19, v20, v21, v22, v23, v24, v25, v26]))]) (fun u => []) D) 0 0 := by
  refine CT.ofW (by decide +kernel) (Nat.le_of_ble_eq_true rfl) ?_
  intro p e s m below meth c A ls hcs hP hK hD hX hA hS hl
  obtain ⟨hx, hb, hr, hml, hown, hg, hlocks, hin⟩ := hcs
  have hown : s.vm.findClass RX6 = some m.cls := hown
  have hl : lv_has ls 3 [(0, .ref h0), (1, .int x0), (2, .int 1)] := hl
  refine lv_aload_n hx hb dX6_threshold_0 rfl (lv_at hl 0 rfl) ?_
  refine lv_iload_n hx hb dX6_threshold_1 rfl (lv_at hl 1 rfl) ?_
  refine lv_i2l (v := x0.toInt64) hx hb dX6_threshold_2 rfl ?_
  refine lv_lconst (v := 0) hx hb dX6_threshold_3 (by decide) ?_
  refine lv_ldc2 hx hb hown (hg _ k1568) dX6_threshold_4 ?_
  refine cSi (n := 3) (As := [.long x0.toInt64, .long 0, .long 9999]) (rest := [.ref h0]) (wr := [(h0, .inr (6, [v0, v1, v2, v3, v4, v5, v6, v7, v8, v9, v10, v11, v12, v13, v14, v15, v16, v17, v18, v19, v20, v21, v22, v23, v24, v25, v26]))]) (tr := []) hx hb hml hown hg okN (cX6_in_218 l D x0 d0 d1) (mwS k1317 k1318 k92 k1319) ⟨rfl, by decide, by decide, by decide +kernel⟩ ⟨rfl, rfl, (Nat.le_of_ble_eq_true rfl), (Nat.le_of_ble_eq_true rfl)⟩ hP hD hK hS xn [] [] [0] [] [] rfl (by decide) rfl rfl (by decide) (by decide) rfl rfl (aNil hA hS) (aNil hA hS) rfl hl.1 rfl (Nat.le_of_ble_eq_true rfl) dX6_threshold_7 ⟨(Nat.le_of_ble_eq_true rfl), (Nat.le_of_ble_eq_true rfl)⟩ (fun u H locs hφ hP hD hK hS hk => ?_)
  have hP : va_P D vwCl [(h0, .inr (6, [v0, v1, v2, v3, v4, v5, v6, v7, v8, v9, v10, v11, v12, v13, v14, v15, v16, v17, v18, v19, v20, v21, v22, v23, v24, v25, v26]))] H := hP
  have hD : va_D A [(h0, .inr (6, [v0, v1, v2, v3, v4, v5, v6, v7, v8, v9, v10, v11, v12, v13, v14, v15, v16, v17, v18, v19, v20, v21, v22, v23, v24, v25, v26]))] := hD
  have hK : va_K D vwCl [] s := hK
  refine W.widen (k := 0) (n := 0) (Nat.le_of_ble_eq_true rfl) (Nat.le_of_ble_eq_true rfl) ?_
  refine lv_if_eq (tgt := 17) hx hb dX6_threshold_10 (by decide) (fun _ => ?_) (fun c9 => absurd (by decide) c9)
  refine lv_iconst (v := 1) hx hb dX6_threshold_17 (by decide) ?_
  refine va_put (D := D) (ci := 6) (v := .int 1) (ty := .int) (C := RX6) (T := TX6) (N := 27) hx hb hg inX6 tyX6 tyX6_ok nmX6 hown hK hP hD hS 0 rfl rfl 0 (by decide) (hg _ k1219) (fun _ h9 => h9) rfl (by decide +kernel) rfl rfl (Nat.le_of_ble_eq_true rfl) dX6_threshold_18 (fun H locs hP hD hS => ?_)
  have hP : va_P D vwCl [(h0, .inr (6, [.int 1, v1, v2, v3, v4, v5, v6, v7, v8, v9, v10, v11, v12, v13, v14, v15, v16, v17, v18, v19, v20, v21, v22, v23, v24, v25, v26]))] H := hP
  have hD : va_D A [(h0, .inr (6, [.int 1, v1, v2, v3, v4, v5, v6, v7, v8, v9, v10, v11, v12, v13, v14, v15, v16, v17, v18, v19, v20, v21, v22, v23, v24, v25, v26]))] := hD
  refine lv_aload_n hx hb dX6_threshold_21 rfl (lv_at hl 0 rfl) ?_
  refine va_get (D := D) (ci := 6) (v := .int 1) (C := RX6) (T := TX6) (N := 27) hx hb hg inX6 hown hK hP 0 rfl rfl 0 (by decide) (hg _ k1219) (fun _ h9 => h9) rfl dX6_threshold_22 ?_
  refine lv_if_le (tgt := 30) hx hb dX6_threshold_25 (by decide) (fun c9 => absurd c9 (by decide)) (fun _ => ?_)
  refine lv_iconst (v := 0) hx hb dX6_threshold_28 (by decide) ?_
  exact fi hx hb hr hlocks hP hD hK hS (()) trivial rfl [0] [] rfl (by decide) rfl (Nat.le_of_ble_eq_true rfl) (Nat.le_of_ble_eq_true rfl) dX6_threshold_29
set_option maxHeartbeats 4000000 in
set_option maxRecDepth 100000 in
theorem cX6_in_221 (l : Launch) (D : va_G) (x0 : Int32)  (d0 : (lg_cmp x0.toInt64 1) < 0) : CT l yX6_in cX6_in 6 (some .boolean) { frames := 0, cells := 0, slots := 0, locals := 0 } [.long x0.toInt64, .long 1, .long 9999] D [] [] XN [] (ei (fun _ : Unit => True) (fun _ => 0) (fun _ => []) (fun _ => []) D) 0 0 := by
  refine CT.ofR (by decide +kernel) (Nat.le_of_ble_eq_true rfl) ?_
  intro p e s m below meth c A ls hcs hP hK hD hX hA hS hl
  obtain ⟨hx, hb, hr, hml, hown, hg, hlocks, hin⟩ := hcs
  have hown : s.vm.findClass RX6 = some m.cls := hown
  have hl : lv_has ls 6 [(0, .long x0.toInt64), (2, .long 1), (4, .long 9999)] := hl
  refine lv_lload_n hx hb dX6_in_0 rfl (lv_at hl 0 rfl) ?_
  refine lv_lload_n hx hb dX6_in_1 rfl (lv_at hl 1 rfl) ?_
  refine W.lcmp hx hb dX6_in_2 ?_
  refine lv_if_lt (tgt := 17) hx hb dX6_in_3 (by decide) (fun _ => ?_) (fun c9 => absurd d0 c9)
  refine lv_iconst (v := 0) hx hb dX6_in_17 (by decide) ?_
  exact fz0 hx hb hr rfl hlocks hK hS (Nat.le_of_ble_eq_true rfl) (Nat.le_of_ble_eq_true rfl) dX6_in_18
set_option maxHeartbeats 4000000 in
set_option maxRecDepth 100000 in
theorem cX6_quantize_220 (l : Launch) (D : va_G) (h0 : Nat) (x0 : Int32) (v0 : Value) (v1 : Value) (v2 : Value) (v3 : Value) (v4 : Value) (v5 : Value) (v6 : Value) (v7 : Value) (v8 : Value) (v9 : Value) (v10 : Value) (v11 : Value) (v12 : Value) (v13 : Value) (v14 : Value) (v15 : Value) (v16 : Value) (v17 : Value) (v18 : Value) (v19 : Value) (v20 : Value) (v21 : Value) (v22 : Value) (v23 : Value) (v24 : Value) (v25 : Value) (v26 : Value)  (d0 : (lg_cmp x0.toInt64 1) < 0) : CT l yX6_quantize cX6_quantize 13 (some .long) { frames := 1, cells := 0, slots := 0, locals := 25 } [.ref h0, .int x0] D [(h0, .inr (6, [v0, v1, v2, v3, v4, v5, v6, v7, v8, v9, v10, v11, v12, v13, v14, v15, v16, v17, v18, v19, v20, v21, v22, v23, v24, v25, v26]))] [] XN [(h0, .inr (6, [v0, v1, v2, v3, v4, v5, v6, v7, v8, v9, v10, v11, v12, v13, v14, v15, v16, v17, v18, v19, v20, v21, v22, v23, v24, v25, v26]))] (el (fun _ : Unit => True) (fun u => 0) (fun _ => [(h0, .inr (6, [.int 1, v1, v2, v3, v4, v5, v6, v7, v8, v9, v10, v11, v12, v13, v14, v15, v16, v17, v18, v19, v20, v21, v22, v23, v24, v25, v26]))]) (fun u => []) D) 0 0 := by
  refine CT.ofW (by decide +kernel) (Nat.le_of_ble_eq_true rfl) ?_
  intro p e s m below meth c A ls hcs hP hK hD hX hA hS hl
  obtain ⟨hx, hb, hr, hml, hown, hg, hlocks, hin⟩ := hcs
  have hown : s.vm.findClass RX6 = some m.cls := hown
  have hl : lv_has ls 13 [(0, .ref h0), (1, .int x0)] := hl
  refine lv_aload_n hx hb dX6_quantize_0 rfl (lv_at hl 0 rfl) ?_
  refine lv_iload_n hx hb dX6_quantize_1 rfl (lv_at hl 1 rfl) ?_
  refine lv_i2l (v := x0.toInt64) hx hb dX6_quantize_2 rfl ?_
  refine lv_lconst (v := 1) hx hb dX6_quantize_3 (by decide) ?_
  refine lv_ldc2 hx hb hown (hg _ k1568) dX6_quantize_4 ?_
  refine cSi (n := 3) (As := [.long x0.toInt64, .long 1, .long 9999]) (rest := [.ref h0]) (wr := [(h0, .inr (6, [v0, v1, v2, v3, v4, v5, v6, v7, v8, v9, v10, v11, v12, v13, v14, v15, v16, v17, v18, v19, v20, v21, v22, v23, v24, v25, v26]))]) (tr := []) hx hb hml hown hg okN (cX6_in_221 l D x0 d0) (mwS k1317 k1318 k92 k1319) ⟨rfl, by decide, by decide, by decide +kernel⟩ ⟨rfl, rfl, (Nat.le_of_ble_eq_true rfl), (Nat.le_of_ble_eq_true rfl)⟩ hP hD hK hS xn [] [] [0] [] [] rfl (by decide) rfl rfl (by decide) (by decide) rfl rfl (aNil hA hS) (aNil hA hS) rfl hl.1 rfl (Nat.le_of_ble_eq_true rfl) dX6_quantize_7 ⟨(Nat.le_of_ble_eq_true rfl), (Nat.le_of_ble_eq_true rfl)⟩ (fun u H locs hφ hP hD hK hS hk => ?_)
  have hP : va_P D vwCl [(h0, .inr (6, [v0, v1, v2, v3, v4, v5, v6, v7, v8, v9, v10, v11, v12, v13, v14, v15, v16, v17, v18, v19, v20, v21, v22, v23, v24, v25, v26]))] H := hP
  have hD : va_D A [(h0, .inr (6, [v0, v1, v2, v3, v4, v5, v6, v7, v8, v9, v10, v11, v12, v13, v14, v15, v16, v17, v18, v19, v20, v21, v22, v23, v24, v25, v26]))] := hD
  have hK : va_K D vwCl [] s := hK
  refine W.widen (k := 0) (n := 0) (Nat.le_of_ble_eq_true rfl) (Nat.le_of_ble_eq_true rfl) ?_
  refine lv_if_eq (tgt := 17) hx hb dX6_quantize_10 (by decide) (fun _ => ?_) (fun c9 => absurd (by decide) c9)
  refine lv_iconst (v := 1) hx hb dX6_quantize_17 (by decide) ?_
  refine va_put (D := D) (ci := 6) (v := .int 1) (ty := .int) (C := RX6) (T := TX6) (N := 27) hx hb hg inX6 tyX6 tyX6_ok nmX6 hown hK hP hD hS 0 rfl rfl 0 (by decide) (hg _ k1219) (fun _ h9 => h9) rfl (by decide +kernel) rfl rfl (Nat.le_of_ble_eq_true rfl) dX6_quantize_18 (fun H locs hP hD hS => ?_)
  have hP : va_P D vwCl [(h0, .inr (6, [.int 1, v1, v2, v3, v4, v5, v6, v7, v8, v9, v10, v11, v12, v13, v14, v15, v16, v17, v18, v19, v20, v21, v22, v23, v24, v25, v26]))] H := hP
  have hD : va_D A [(h0, .inr (6, [.int 1, v1, v2, v3, v4, v5, v6, v7, v8, v9, v10, v11, v12, v13, v14, v15, v16, v17, v18, v19, v20, v21, v22, v23, v24, v25, v26]))] := hD
  refine lv_lconst (v := 0) hx hb dX6_quantize_21 (by decide) ?_
  refine lv_lstore_n (lv' := [(2, .long 0), (0, .ref h0), (1, .int x0)]) hx hb dX6_quantize_22 rfl hl (by decide) rfl (fun ls hl => ?_)
  refine lv_iconst (v := 0) hx hb dX6_quantize_23 (by decide) ?_
  refine lv_istore (lv' := [(4, .int 0), (2, .long 0), (0, .ref h0), (1, .int x0)]) hx hb dX6_quantize_24 hl (by decide) rfl (fun ls hl => ?_)
  refine lv_aload_n hx hb dX6_quantize_26 rfl (lv_at hl 2 rfl) ?_
  refine va_get (D := D) (ci := 6) (v := .int 1) (C := RX6) (T := TX6) (N := 27) hx hb hg inX6 hown hK hP 0 rfl rfl 0 (by decide) (hg _ k1219) (fun _ h9 => h9) rfl dX6_quantize_27 ?_
  refine lv_if_ne (tgt := 134) hx hb dX6_quantize_30 (by decide) (fun _ => ?_) (fun c9 => absurd c9 (by decide))
  refine lv_lload_n hx hb dX6_quantize_134 rfl (lv_at hl 1 rfl) ?_
  exact fl hx hb hr hlocks hP hD hK hS (()) trivial rfl [0] [] rfl (by decide) rfl (Nat.le_of_ble_eq_true rfl) (Nat.le_of_ble_eq_true rfl) dX6_quantize_135
set_option maxHeartbeats 4000000 in
set_option maxRecDepth 100000 in
theorem cX6_in_223 (l : Launch) (D : va_G) (x0 : Int32)  (d0 : ¬ ((lg_cmp x0.toInt64 1) < 0)) (d1 : ¬ (0 < (lg_cmp x0.toInt64 9999))) : CT l yX6_in cX6_in 6 (some .boolean) { frames := 0, cells := 0, slots := 0, locals := 0 } [.long x0.toInt64, .long 1, .long 9999] D [] [] XN [] (ei (fun _ : Unit => True) (fun _ => 1) (fun _ => []) (fun _ => []) D) 0 0 := by
  refine CT.ofR (by decide +kernel) (Nat.le_of_ble_eq_true rfl) ?_
  intro p e s m below meth c A ls hcs hP hK hD hX hA hS hl
  obtain ⟨hx, hb, hr, hml, hown, hg, hlocks, hin⟩ := hcs
  have hown : s.vm.findClass RX6 = some m.cls := hown
  have hl : lv_has ls 6 [(0, .long x0.toInt64), (2, .long 1), (4, .long 9999)] := hl
  refine lv_lload_n hx hb dX6_in_0 rfl (lv_at hl 0 rfl) ?_
  refine lv_lload_n hx hb dX6_in_1 rfl (lv_at hl 1 rfl) ?_
  refine W.lcmp hx hb dX6_in_2 ?_
  refine lv_if_lt (tgt := 17) hx hb dX6_in_3 (by decide) (fun c9 => absurd c9 d0) (fun _ => ?_)
  refine lv_lload_n hx hb dX6_in_6 rfl (lv_at hl 0 rfl) ?_
  refine lv_lload hx hb dX6_in_7 (lv_at hl 2 rfl) ?_
  refine W.lcmp hx hb dX6_in_9 ?_
  refine lv_if_gt (tgt := 17) hx hb dX6_in_10 (by decide) (fun c9 => absurd c9 d1) (fun _ => ?_)
  refine lv_iconst (v := 1) hx hb dX6_in_13 (by decide) ?_
  refine lv_goto (tgt := 18) hx hb dX6_in_14 (by decide) ?_
  exact fz0 hx hb hr rfl hlocks hK hS (Nat.le_of_ble_eq_true rfl) (Nat.le_of_ble_eq_true rfl) dX6_in_18
set_option maxHeartbeats 4000000 in
set_option maxRecDepth 100000 in
theorem cX6_quantize_222 (l : Launch) (D : va_G) (h0 : Nat) (x0 : Int32) (h1 : Nat) (v0 : Value) (v1 : Value) (v2 : Value) (v3 : Value) (v4 : Value) (v5 : Value) (v6 : Value) (v7 : Value) (v8 : Value) (v9 : Value) (v10 : Value) (v11 : Value) (v12 : Value) (v13 : Value) (v14 : Value) (v15 : Value) (v16 : Value) (v17 : Value) (v18 : Value) (v19 : Value) (v20 : Value) (v21 : Value) (v22 : Value) (v23 : Value) (v24 : Value) (v25 : Value) (f0 : Nat → Int64) (a0 : ClassId) (ef0_4 : f0 4 = 0) (d0 : ¬ ((lg_cmp x0.toInt64 1) < 0)) (d1 : ¬ (0 < (lg_cmp x0.toInt64 9999))) : CT l yX6_quantize cX6_quantize 13 (some .long) { frames := 1, cells := 0, slots := 0, locals := 25 } [.ref h0, .int x0] D [(h0, .inr (6, [v0, .ref h1, v1, v2, v3, v4, v5, v6, v7, v8, v9, v10, v11, v12, v13, v14, v15, v16, v17, v18, v19, v20, v21, v22, v23, v24, v25])), (h1, .inl (a0, 609, .inr (.inl f0)))] [(a0, .long)] XN [(h0, .inr (6, [v0, .ref h1, v1, v2, v3, v4, v5, v6, v7, v8, v9, v10, v11, v12, v13, v14, v15, v16, v17, v18, v19, v20, v21, v22, v23, v24, v25])), (h1, .inl (a0, 609, .inr (.inl f0)))] (el (fun _ : Unit => True) (fun u => 0) (fun _ => [(h0, .inr (6, [.int 0, .ref h1, v1, v2, v3, v4, v5, v6, v7, v8, v9, v10, v11, v12, v13, v14, v15, v16, v17, v18, v19, v20, v21, v22, v23, v24, v25])), (h1, .inl (a0, 609, .inr (.inl f0)))]) (fun u => [(a0, .long)]) D) 0 0 := by
  refine CT.ofW (by decide +kernel) (Nat.le_of_ble_eq_true rfl) ?_
  intro p e s m below meth c A ls hcs hP hK hD hX hA hS hl
  obtain ⟨hx, hb, hr, hml, hown, hg, hlocks, hin⟩ := hcs
  have hown : s.vm.findClass RX6 = some m.cls := hown
  have hl : lv_has ls 13 [(0, .ref h0), (1, .int x0)] := hl
  refine lv_aload_n hx hb dX6_quantize_0 rfl (lv_at hl 0 rfl) ?_
  refine lv_iload_n hx hb dX6_quantize_1 rfl (lv_at hl 1 rfl) ?_
  refine lv_i2l (v := x0.toInt64) hx hb dX6_quantize_2 rfl ?_
  refine lv_lconst (v := 1) hx hb dX6_quantize_3 (by decide) ?_
  refine lv_ldc2 hx hb hown (hg _ k1568) dX6_quantize_4 ?_
  refine cSi (n := 3) (As := [.long x0.toInt64, .long 1, .long 9999]) (rest := [.ref h0]) (wr := [(h0, .inr (6, [v0, .ref h1, v1, v2, v3, v4, v5, v6, v7, v8, v9, v10, v11, v12, v13, v14, v15, v16, v17, v18, v19, v20, v21, v22, v23, v24, v25])), (h1, .inl (a0, 609, .inr (.inl f0)))]) (tr := [(a0, .long)]) hx hb hml hown hg okN (cX6_in_223 l D x0 d0 d1) (mwS k1317 k1318 k92 k1319) ⟨rfl, by decide, by decide, by decide +kernel⟩ ⟨rfl, rfl, (Nat.le_of_ble_eq_true rfl), (Nat.le_of_ble_eq_true rfl)⟩ hP hD hK hS xn [] [] [0, 1] [] [0] rfl (by decide) rfl rfl (by decide) (by decide) rfl rfl (aNil hA hS) (aNil hA hS) rfl hl.1 rfl (Nat.le_of_ble_eq_true rfl) dX6_quantize_7 ⟨(Nat.le_of_ble_eq_true rfl), (Nat.le_of_ble_eq_true rfl)⟩ (fun u H locs hφ hP hD hK hS hk => ?_)
  have hP : va_P D vwCl [(h0, .inr (6, [v0, .ref h1, v1, v2, v3, v4, v5, v6, v7, v8, v9, v10, v11, v12, v13, v14, v15, v16, v17, v18, v19, v20, v21, v22, v23, v24, v25])), (h1, .inl (a0, 609, .inr (.inl f0)))] H := hP
  have hD : va_D A [(h0, .inr (6, [v0, .ref h1, v1, v2, v3, v4, v5, v6, v7, v8, v9, v10, v11, v12, v13, v14, v15, v16, v17, v18, v19, v20, v21, v22, v23, v24, v25])), (h1, .inl (a0, 609, .inr (.inl f0)))] := hD
  have hK : va_K D vwCl [(a0, .long)] s := hK
  refine W.widen (k := 0) (n := 0) (Nat.le_of_ble_eq_true rfl) (Nat.le_of_ble_eq_true rfl) ?_
  refine lv_if_eq (tgt := 17) hx hb dX6_quantize_10 (by decide) (fun c9 => absurd c9 (by decide)) (fun _ => ?_)
  refine lv_iconst (v := 0) hx hb dX6_quantize_13 (by decide) ?_
  refine lv_goto (tgt := 18) hx hb dX6_quantize_14 (by decide) ?_
  refine va_put (D := D) (ci := 6) (v := .int 0) (ty := .int) (C := RX6) (T := TX6) (N := 27) hx hb hg inX6 tyX6 tyX6_ok nmX6 hown hK hP hD hS 0 rfl rfl 0 (by decide) (hg _ k1219) (fun _ h9 => h9) rfl (by decide +kernel) rfl rfl (Nat.le_of_ble_eq_true rfl) dX6_quantize_18 (fun H locs hP hD hS => ?_)
  have hP : va_P D vwCl [(h0, .inr (6, [.int 0, .ref h1, v1, v2, v3, v4, v5, v6, v7, v8, v9, v10, v11, v12, v13, v14, v15, v16, v17, v18, v19, v20, v21, v22, v23, v24, v25])), (h1, .inl (a0, 609, .inr (.inl f0)))] H := hP
  have hD : va_D A [(h0, .inr (6, [.int 0, .ref h1, v1, v2, v3, v4, v5, v6, v7, v8, v9, v10, v11, v12, v13, v14, v15, v16, v17, v18, v19, v20, v21, v22, v23, v24, v25])), (h1, .inl (a0, 609, .inr (.inl f0)))] := hD
  refine lv_lconst (v := 0) hx hb dX6_quantize_21 (by decide) ?_
  refine lv_lstore_n (lv' := [(2, .long 0), (0, .ref h0), (1, .int x0)]) hx hb dX6_quantize_22 rfl hl (by decide) rfl (fun ls hl => ?_)
  refine lv_iconst (v := 0) hx hb dX6_quantize_23 (by decide) ?_
  refine lv_istore (lv' := [(4, .int 0), (2, .long 0), (0, .ref h0), (1, .int x0)]) hx hb dX6_quantize_24 hl (by decide) rfl (fun ls hl => ?_)
  refine lv_aload_n hx hb dX6_quantize_26 rfl (lv_at hl 2 rfl) ?_
  refine va_get (D := D) (ci := 6) (v := .int 0) (C := RX6) (T := TX6) (N := 27) hx hb hg inX6 hown hK hP 0 rfl rfl 0 (by decide) (hg _ k1219) (fun _ h9 => h9) rfl dX6_quantize_27 ?_
  refine lv_if_ne (tgt := 134) hx hb dX6_quantize_30 (by decide) (fun c9 => absurd (by decide) c9) (fun _ => ?_)
  refine lv_iload hx hb dX6_quantize_33 (lv_at hl 0 rfl) ?_
  refine lv_aload_n hx hb dX6_quantize_35 rfl (lv_at hl 2 rfl) ?_
  refine cVi (n := 0) (As := []) (rest := [.int 0]) (wr := [(h0, .inr (6, [.int 0, .ref h1, v1, v2, v3, v4, v5, v6, v7, v8, v9, v10, v11, v12, v13, v14, v15, v16, v17, v18, v19, v20, v21, v22, v23, v24, v25])), (h1, .inl (a0, 609, .inr (.inl f0)))]) (tr := [(a0, .long)]) hx hb hml hown hg okN (cX6_steps_35 l D h0 h1 (.int 0) v1 v2 v3 v4 v5 v6 v7 v8 v9 v10 v11 v12 v13 v14 v15 v16 v17 v18 v19 v20 v21 v22 v23 v24 v25 f0 a0 ef0_4) (mwV k1416 k1418 k52 k92 k1419) ⟨rfl, by decide, by decide, by decide +kernel⟩ ⟨rfl, rfl, (Nat.le_of_ble_eq_true rfl), (Nat.le_of_ble_eq_true rfl)⟩ hP hD hK hS xn [0, 1] [] [0, 1] [0] [0] rfl (by decide) rfl rfl (by decide) (by decide) rfl rfl (aNil hA hS) (aNil hA hS) 0 rfl rfl rfl hl.1 rfl (Nat.le_of_ble_eq_true rfl) dX6_quantize_36 ⟨(Nat.le_of_ble_eq_true rfl), (Nat.le_of_ble_eq_true rfl)⟩ (fun u H locs hφ hP hD hK hS hk => ?_)
  have hP : va_P D vwCl [(h0, .inr (6, [.int 0, .ref h1, v1, v2, v3, v4, v5, v6, v7, v8, v9, v10, v11, v12, v13, v14, v15, v16, v17, v18, v19, v20, v21, v22, v23, v24, v25])), (h1, .inl (a0, 609, .inr (.inl f0)))] H := hP
  have hD : va_D A [(h0, .inr (6, [.int 0, .ref h1, v1, v2, v3, v4, v5, v6, v7, v8, v9, v10, v11, v12, v13, v14, v15, v16, v17, v18, v19, v20, v21, v22, v23, v24, v25])), (h1, .inl (a0, 609, .inr (.inl f0)))] := hD
  have hK : va_K D vwCl [(a0, .long)] s := hK
  refine W.widen (k := 0) (n := 0) (Nat.le_of_ble_eq_true rfl) (Nat.le_of_ble_eq_true rfl) ?_
  refine lv_icmp_ge (tgt := 134) hx hb dX6_quantize_39 (by decide) (fun _ => ?_) (fun c9 => absurd (by decide) c9)
  refine lv_lload_n hx hb dX6_quantize_134 rfl (lv_at hl 1 rfl) ?_
  exact fl hx hb hr hlocks hP hD hK hS (()) trivial rfl [0, 1] [0] rfl (by decide) rfl (Nat.le_of_ble_eq_true rfl) (Nat.le_of_ble_eq_true rfl) dX6_quantize_135
set_option maxHeartbeats 4000000 in
set_option maxRecDepth 100000 in
theorem cX6_in_225 (l : Launch) (D : va_G) (x0 : Int32)  (d0 : ¬ ((lg_cmp x0.toInt64 1) < 0)) (d1 : 0 < (lg_cmp x0.toInt64 9999)) : CT l yX6_in cX6_in 6 (some .boolean) { frames := 0, cells := 0, slots := 0, locals := 0 } [.long x0.toInt64, .long 1, .long 9999] D [] [] XN [] (ei (fun _ : Unit => True) (fun _ => 0) (fun _ => []) (fun _ => []) D) 0 0 := by
  refine CT.ofR (by decide +kernel) (Nat.le_of_ble_eq_true rfl) ?_
  intro p e s m below meth c A ls hcs hP hK hD hX hA hS hl
  obtain ⟨hx, hb, hr, hml, hown, hg, hlocks, hin⟩ := hcs
  have hown : s.vm.findClass RX6 = some m.cls := hown
  have hl : lv_has ls 6 [(0, .long x0.toInt64), (2, .long 1), (4, .long 9999)] := hl
  refine lv_lload_n hx hb dX6_in_0 rfl (lv_at hl 0 rfl) ?_
  refine lv_lload_n hx hb dX6_in_1 rfl (lv_at hl 1 rfl) ?_
  refine W.lcmp hx hb dX6_in_2 ?_
  refine lv_if_lt (tgt := 17) hx hb dX6_in_3 (by decide) (fun c9 => absurd c9 d0) (fun _ => ?_)
  refine lv_lload_n hx hb dX6_in_6 rfl (lv_at hl 0 rfl) ?_
  refine lv_lload hx hb dX6_in_7 (lv_at hl 2 rfl) ?_
  refine W.lcmp hx hb dX6_in_9 ?_
  refine lv_if_gt (tgt := 17) hx hb dX6_in_10 (by decide) (fun _ => ?_) (fun c9 => absurd d1 c9)
  refine lv_iconst (v := 0) hx hb dX6_in_17 (by decide) ?_
  exact fz0 hx hb hr rfl hlocks hK hS (Nat.le_of_ble_eq_true rfl) (Nat.le_of_ble_eq_true rfl) dX6_in_18
set_option maxHeartbeats 4000000 in
set_option maxRecDepth 100000 in
theorem cX6_quantize_224 (l : Launch) (D : va_G) (h0 : Nat) (x0 : Int32) (v0 : Value) (v1 : Value) (v2 : Value) (v3 : Value) (v4 : Value) (v5 : Value) (v6 : Value) (v7 : Value) (v8 : Value) (v9 : Value) (v10 : Value) (v11 : Value) (v12 : Value) (v13 : Value) (v14 : Value) (v15 : Value) (v16 : Value) (v17 : Value) (v18 : Value) (v19 : Value) (v20 : Value) (v21 : Value) (v22 : Value) (v23 : Value) (v24 : Value) (v25 : Value) (v26 : Value)  (d0 : ¬ ((lg_cmp x0.toInt64 1) < 0)) (d1 : 0 < (lg_cmp x0.toInt64 9999)) : CT l yX6_quantize cX6_quantize 13 (some .long) { frames := 1, cells := 0, slots := 0, locals := 25 } [.ref h0, .int x0] D [(h0, .inr (6, [v0, v1, v2, v3, v4, v5, v6, v7, v8, v9, v10, v11, v12, v13, v14, v15, v16, v17, v18, v19, v20, v21, v22, v23, v24, v25, v26]))] [] XN [(h0, .inr (6, [v0, v1, v2, v3, v4, v5, v6, v7, v8, v9, v10, v11, v12, v13, v14, v15, v16, v17, v18, v19, v20, v21, v22, v23, v24, v25, v26]))] (el (fun _ : Unit => True) (fun u => 0) (fun _ => [(h0, .inr (6, [.int 1, v1, v2, v3, v4, v5, v6, v7, v8, v9, v10, v11, v12, v13, v14, v15, v16, v17, v18, v19, v20, v21, v22, v23, v24, v25, v26]))]) (fun u => []) D) 0 0 := by
  refine CT.ofW (by decide +kernel) (Nat.le_of_ble_eq_true rfl) ?_
  intro p e s m below meth c A ls hcs hP hK hD hX hA hS hl
  obtain ⟨hx, hb, hr, hml, hown, hg, hlocks, hin⟩ := hcs
  have hown : s.vm.findClass RX6 = some m.cls := hown
  have hl : lv_has ls 13 [(0, .ref h0), (1, .int x0)] := hl
  refine lv_aload_n hx hb dX6_quantize_0 rfl (lv_at hl 0 rfl) ?_
  refine lv_iload_n hx hb dX6_quantize_1 rfl (lv_at hl 1 rfl) ?_
  refine lv_i2l (v := x0.toInt64) hx hb dX6_quantize_2 rfl ?_
  refine lv_lconst (v := 1) hx hb dX6_quantize_3 (by decide) ?_
  refine lv_ldc2 hx hb hown (hg _ k1568) dX6_quantize_4 ?_
  refine cSi (n := 3) (As := [.long x0.toInt64, .long 1, .long 9999]) (rest := [.ref h0]) (wr := [(h0, .inr (6, [v0, v1, v2, v3, v4, v5, v6, v7, v8, v9, v10, v11, v12, v13, v14, v15, v16, v17, v18, v19, v20, v21, v22, v23, v24, v25, v26]))]) (tr := []) hx hb hml hown hg okN (cX6_in_225 l D x0 d0 d1) (mwS k1317 k1318 k92 k1319) ⟨rfl, by decide, by decide, by decide +kernel⟩ ⟨rfl, rfl, (Nat.le_of_ble_eq_true rfl), (Nat.le_of_ble_eq_true rfl)⟩ hP hD hK hS xn [] [] [0] [] [] rfl (by decide) rfl rfl (by decide) (by decide) rfl rfl (aNil hA hS) (aNil hA hS) rfl hl.1 rfl (Nat.le_of_ble_eq_true rfl) dX6_quantize_7 ⟨(Nat.le_of_ble_eq_true rfl), (Nat.le_of_ble_eq_true rfl)⟩ (fun u H locs hφ hP hD hK hS hk => ?_)
  have hP : va_P D vwCl [(h0, .inr (6, [v0, v1, v2, v3, v4, v5, v6, v7, v8, v9, v10, v11, v12, v13, v14, v15, v16, v17, v18, v19, v20, v21, v22, v23, v24, v25, v26]))] H := hP
  have hD : va_D A [(h0, .inr (6, [v0, v1, v2, v3, v4, v5, v6, v7, v8, v9, v10, v11, v12, v13, v14, v15, v16, v17, v18, v19, v20, v21, v22, v23, v24, v25, v26]))] := hD
  have hK : va_K D vwCl [] s := hK
  refine W.widen (k := 0) (n := 0) (Nat.le_of_ble_eq_true rfl) (Nat.le_of_ble_eq_true rfl) ?_
  refine lv_if_eq (tgt := 17) hx hb dX6_quantize_10 (by decide) (fun _ => ?_) (fun c9 => absurd (by decide) c9)
  refine lv_iconst (v := 1) hx hb dX6_quantize_17 (by decide) ?_
  refine va_put (D := D) (ci := 6) (v := .int 1) (ty := .int) (C := RX6) (T := TX6) (N := 27) hx hb hg inX6 tyX6 tyX6_ok nmX6 hown hK hP hD hS 0 rfl rfl 0 (by decide) (hg _ k1219) (fun _ h9 => h9) rfl (by decide +kernel) rfl rfl (Nat.le_of_ble_eq_true rfl) dX6_quantize_18 (fun H locs hP hD hS => ?_)
  have hP : va_P D vwCl [(h0, .inr (6, [.int 1, v1, v2, v3, v4, v5, v6, v7, v8, v9, v10, v11, v12, v13, v14, v15, v16, v17, v18, v19, v20, v21, v22, v23, v24, v25, v26]))] H := hP
  have hD : va_D A [(h0, .inr (6, [.int 1, v1, v2, v3, v4, v5, v6, v7, v8, v9, v10, v11, v12, v13, v14, v15, v16, v17, v18, v19, v20, v21, v22, v23, v24, v25, v26]))] := hD
  refine lv_lconst (v := 0) hx hb dX6_quantize_21 (by decide) ?_
  refine lv_lstore_n (lv' := [(2, .long 0), (0, .ref h0), (1, .int x0)]) hx hb dX6_quantize_22 rfl hl (by decide) rfl (fun ls hl => ?_)
  refine lv_iconst (v := 0) hx hb dX6_quantize_23 (by decide) ?_
  refine lv_istore (lv' := [(4, .int 0), (2, .long 0), (0, .ref h0), (1, .int x0)]) hx hb dX6_quantize_24 hl (by decide) rfl (fun ls hl => ?_)
  refine lv_aload_n hx hb dX6_quantize_26 rfl (lv_at hl 2 rfl) ?_
  refine va_get (D := D) (ci := 6) (v := .int 1) (C := RX6) (T := TX6) (N := 27) hx hb hg inX6 hown hK hP 0 rfl rfl 0 (by decide) (hg _ k1219) (fun _ h9 => h9) rfl dX6_quantize_27 ?_
  refine lv_if_ne (tgt := 134) hx hb dX6_quantize_30 (by decide) (fun _ => ?_) (fun c9 => absurd c9 (by decide))
  refine lv_lload_n hx hb dX6_quantize_134 rfl (lv_at hl 1 rfl) ?_
  exact fl hx hb hr hlocks hP hD hK hS (()) trivial rfl [0] [] rfl (by decide) rfl (Nat.le_of_ble_eq_true rfl) (Nat.le_of_ble_eq_true rfl) dX6_quantize_135
set_option maxHeartbeats 4000000 in
set_option maxRecDepth 100000 in
theorem cX6_in_227 (l : Launch) (D : va_G) (x0 : Int32)  (d0 : (lg_cmp x0.toInt64 0) < 0) : CT l yX6_in cX6_in 6 (some .boolean) { frames := 0, cells := 0, slots := 0, locals := 0 } [.long x0.toInt64, .long 0, .long 46] D [] [] XN [] (ei (fun _ : Unit => True) (fun _ => 0) (fun _ => []) (fun _ => []) D) 0 0 := by
  refine CT.ofR (by decide +kernel) (Nat.le_of_ble_eq_true rfl) ?_
  intro p e s m below meth c A ls hcs hP hK hD hX hA hS hl
  obtain ⟨hx, hb, hr, hml, hown, hg, hlocks, hin⟩ := hcs
  have hown : s.vm.findClass RX6 = some m.cls := hown
  have hl : lv_has ls 6 [(0, .long x0.toInt64), (2, .long 0), (4, .long 46)] := hl
  refine lv_lload_n hx hb dX6_in_0 rfl (lv_at hl 0 rfl) ?_
  refine lv_lload_n hx hb dX6_in_1 rfl (lv_at hl 1 rfl) ?_
  refine W.lcmp hx hb dX6_in_2 ?_
  refine lv_if_lt (tgt := 17) hx hb dX6_in_3 (by decide) (fun _ => ?_) (fun c9 => absurd d0 c9)
  refine lv_iconst (v := 0) hx hb dX6_in_17 (by decide) ?_
  exact fz0 hx hb hr rfl hlocks hK hS (Nat.le_of_ble_eq_true rfl) (Nat.le_of_ble_eq_true rfl) dX6_in_18
set_option maxHeartbeats 4000000 in
set_option maxRecDepth 100000 in
theorem cX6_keepLargest_226 (l : Launch) (D : va_G) (h0 : Nat) (x0 : Int32) (v0 : Value) (v1 : Value) (v2 : Value) (v3 : Value) (v4 : Value) (v5 : Value) (v6 : Value) (v7 : Value) (v8 : Value) (v9 : Value) (v10 : Value) (v11 : Value) (v12 : Value) (v13 : Value) (v14 : Value) (v15 : Value) (v16 : Value) (v17 : Value) (v18 : Value) (v19 : Value) (v20 : Value) (v21 : Value) (v22 : Value) (v23 : Value) (v24 : Value) (v25 : Value) (v26 : Value)  (d0 : (lg_cmp x0.toInt64 0) < 0) : CT l yX6_keepLargest cX6_keepLargest 6 (some .long) { frames := 1, cells := 0, slots := 0, locals := 25 } [.ref h0, .int x0] D [(h0, .inr (6, [v0, v1, v2, v3, v4, v5, v6, v7, v8, v9, v10, v11, v12, v13, v14, v15, v16, v17, v18, v19, v20, v21, v22, v23, v24, v25, v26]))] [] XN [(h0, .inr (6, [v0, v1, v2, v3, v4, v5, v6, v7, v8, v9, v10, v11, v12, v13, v14, v15, v16, v17, v18, v19, v20, v21, v22, v23, v24, v25, v26]))] (el (fun _ : Unit => True) (fun u => 0) (fun _ => [(h0, .inr (6, [.int 1, v1, v2, v3, v4, v5, v6, v7, v8, v9, v10, v11, v12, v13, v14, v15, v16, v17, v18, v19, v20, v21, v22, v23, v24, v25, v26]))]) (fun u => []) D) 0 0 := by
  refine CT.ofW (by decide +kernel) (Nat.le_of_ble_eq_true rfl) ?_
  intro p e s m below meth c A ls hcs hP hK hD hX hA hS hl
  obtain ⟨hx, hb, hr, hml, hown, hg, hlocks, hin⟩ := hcs
  have hown : s.vm.findClass RX6 = some m.cls := hown
  have hl : lv_has ls 6 [(0, .ref h0), (1, .int x0)] := hl
  refine lv_aload_n hx hb dX6_keepLargest_0 rfl (lv_at hl 0 rfl) ?_
  refine lv_iload_n hx hb dX6_keepLargest_1 rfl (lv_at hl 1 rfl) ?_
  refine lv_i2l (v := x0.toInt64) hx hb dX6_keepLargest_2 rfl ?_
  refine lv_lconst (v := 0) hx hb dX6_keepLargest_3 (by decide) ?_
  refine lv_ldc2 hx hb hown (hg _ k1587) dX6_keepLargest_4 ?_
  refine cSi (n := 3) (As := [.long x0.toInt64, .long 0, .long 46]) (rest := [.ref h0]) (wr := [(h0, .inr (6, [v0, v1, v2, v3, v4, v5, v6, v7, v8, v9, v10, v11, v12, v13, v14, v15, v16, v17, v18, v19, v20, v21, v22, v23, v24, v25, v26]))]) (tr := []) hx hb hml hown hg okN (cX6_in_227 l D x0 d0) (mwS k1317 k1318 k92 k1319) ⟨rfl, by decide, by decide, by decide +kernel⟩ ⟨rfl, rfl, (Nat.le_of_ble_eq_true rfl), (Nat.le_of_ble_eq_true rfl)⟩ hP hD hK hS xn [] [] [0] [] [] rfl (by decide) rfl rfl (by decide) (by decide) rfl rfl (aNil hA hS) (aNil hA hS) rfl hl.1 rfl (Nat.le_of_ble_eq_true rfl) dX6_keepLargest_7 ⟨(Nat.le_of_ble_eq_true rfl), (Nat.le_of_ble_eq_true rfl)⟩ (fun u H locs hφ hP hD hK hS hk => ?_)
  have hP : va_P D vwCl [(h0, .inr (6, [v0, v1, v2, v3, v4, v5, v6, v7, v8, v9, v10, v11, v12, v13, v14, v15, v16, v17, v18, v19, v20, v21, v22, v23, v24, v25, v26]))] H := hP
  have hD : va_D A [(h0, .inr (6, [v0, v1, v2, v3, v4, v5, v6, v7, v8, v9, v10, v11, v12, v13, v14, v15, v16, v17, v18, v19, v20, v21, v22, v23, v24, v25, v26]))] := hD
  have hK : va_K D vwCl [] s := hK
  refine W.widen (k := 0) (n := 0) (Nat.le_of_ble_eq_true rfl) (Nat.le_of_ble_eq_true rfl) ?_
  refine lv_if_eq (tgt := 17) hx hb dX6_keepLargest_10 (by decide) (fun _ => ?_) (fun c9 => absurd (by decide) c9)
  refine lv_iconst (v := 1) hx hb dX6_keepLargest_17 (by decide) ?_
  refine va_put (D := D) (ci := 6) (v := .int 1) (ty := .int) (C := RX6) (T := TX6) (N := 27) hx hb hg inX6 tyX6 tyX6_ok nmX6 hown hK hP hD hS 0 rfl rfl 0 (by decide) (hg _ k1219) (fun _ h9 => h9) rfl (by decide +kernel) rfl rfl (Nat.le_of_ble_eq_true rfl) dX6_keepLargest_18 (fun H locs hP hD hS => ?_)
  have hP : va_P D vwCl [(h0, .inr (6, [.int 1, v1, v2, v3, v4, v5, v6, v7, v8, v9, v10, v11, v12, v13, v14, v15, v16, v17, v18, v19, v20, v21, v22, v23, v24, v25, v26]))] H := hP
  have hD : va_D A [(h0, .inr (6, [.int 1, v1, v2, v3, v4, v5, v6, v7, v8, v9, v10, v11, v12, v13, v14, v15, v16, v17, v18, v19, v20, v21, v22, v23, v24, v25, v26]))] := hD
  refine lv_aload_n hx hb dX6_keepLargest_21 rfl (lv_at hl 0 rfl) ?_
  refine va_get (D := D) (ci := 6) (v := .int 1) (C := RX6) (T := TX6) (N := 27) hx hb hg inX6 hown hK hP 0 rfl rfl 0 (by decide) (hg _ k1219) (fun _ h9 => h9) rfl dX6_keepLargest_22 ?_
  refine lv_if_le (tgt := 30) hx hb dX6_keepLargest_25 (by decide) (fun c9 => absurd c9 (by decide)) (fun _ => ?_)
  refine lv_lconst (v := 0) hx hb dX6_keepLargest_28 (by decide) ?_
  exact fl hx hb hr hlocks hP hD hK hS (()) trivial rfl [0] [] rfl (by decide) rfl (Nat.le_of_ble_eq_true rfl) (Nat.le_of_ble_eq_true rfl) dX6_keepLargest_29
set_option maxHeartbeats 4000000 in
set_option maxRecDepth 100000 in
theorem cX6_in_229 (l : Launch) (D : va_G) (x0 : Int32)  (d0 : ¬ ((lg_cmp x0.toInt64 0) < 0)) (d1 : ¬ (0 < (lg_cmp x0.toInt64 46))) : CT l yX6_in cX6_in 6 (some .boolean) { frames := 0, cells := 0, slots := 0, locals := 0 } [.long x0.toInt64, .long 0, .long 46] D [] [] XN [] (ei (fun _ : Unit => True) (fun _ => 1) (fun _ => []) (fun _ => []) D) 0 0 := by
  refine CT.ofR (by decide +kernel) (Nat.le_of_ble_eq_true rfl) ?_
  intro p e s m below meth c A ls hcs hP hK hD hX hA hS hl
  obtain ⟨hx, hb, hr, hml, hown, hg, hlocks, hin⟩ := hcs
  have hown : s.vm.findClass RX6 = some m.cls := hown
  have hl : lv_has ls 6 [(0, .long x0.toInt64), (2, .long 0), (4, .long 46)] := hl
  refine lv_lload_n hx hb dX6_in_0 rfl (lv_at hl 0 rfl) ?_
  refine lv_lload_n hx hb dX6_in_1 rfl (lv_at hl 1 rfl) ?_
  refine W.lcmp hx hb dX6_in_2 ?_
  refine lv_if_lt (tgt := 17) hx hb dX6_in_3 (by decide) (fun c9 => absurd c9 d0) (fun _ => ?_)
  refine lv_lload_n hx hb dX6_in_6 rfl (lv_at hl 0 rfl) ?_
  refine lv_lload hx hb dX6_in_7 (lv_at hl 2 rfl) ?_
  refine W.lcmp hx hb dX6_in_9 ?_
  refine lv_if_gt (tgt := 17) hx hb dX6_in_10 (by decide) (fun c9 => absurd c9 d1) (fun _ => ?_)
  refine lv_iconst (v := 1) hx hb dX6_in_13 (by decide) ?_
  refine lv_goto (tgt := 18) hx hb dX6_in_14 (by decide) ?_
  exact fz0 hx hb hr rfl hlocks hK hS (Nat.le_of_ble_eq_true rfl) (Nat.le_of_ble_eq_true rfl) dX6_in_18
set_option maxHeartbeats 4000000 in
set_option maxRecDepth 100000 in
theorem cX6_keepLargest_228 (l : Launch) (D : va_G) (h0 : Nat) (x0 : Int32) (h1 : Nat) (v0 : Value) (v1 : Value) (v2 : Value) (v3 : Value) (v4 : Value) (v5 : Value) (v6 : Value) (v7 : Value) (v8 : Value) (v9 : Value) (v10 : Value) (v11 : Value) (v12 : Value) (v13 : Value) (v14 : Value) (v15 : Value) (v16 : Value) (v17 : Value) (v18 : Value) (v19 : Value) (v20 : Value) (v21 : Value) (v22 : Value) (v23 : Value) (v24 : Value) (v25 : Value) (f0 : Nat → Int64) (a0 : ClassId) (ef0_4 : f0 4 = 0) (d0 : ¬ ((lg_cmp x0.toInt64 0) < 0)) (d1 : ¬ (0 < (lg_cmp x0.toInt64 46))) : CT l yX6_keepLargest cX6_keepLargest 6 (some .long) { frames := 1, cells := 0, slots := 0, locals := 25 } [.ref h0, .int x0] D [(h0, .inr (6, [v0, .ref h1, v1, v2, v3, v4, v5, v6, v7, v8, v9, v10, v11, v12, v13, v14, v15, v16, v17, v18, v19, v20, v21, v22, v23, v24, v25])), (h1, .inl (a0, 609, .inr (.inl f0)))] [(a0, .long)] XN [(h0, .inr (6, [v0, .ref h1, v1, v2, v3, v4, v5, v6, v7, v8, v9, v10, v11, v12, v13, v14, v15, v16, v17, v18, v19, v20, v21, v22, v23, v24, v25])), (h1, .inl (a0, 609, .inr (.inl f0)))] (el (fun _ : Unit => True) (fun u => 0) (fun _ => [(h0, .inr (6, [.int 0, .ref h1, v1, v2, v3, v4, v5, v6, v7, v8, v9, v10, v11, v12, v13, v14, v15, v16, v17, v18, v19, v20, v21, v22, v23, v24, v25])), (h1, .inl (a0, 609, .inr (.inl f0)))]) (fun u => [(a0, .long)]) D) 0 0 := by
  refine CT.ofW (by decide +kernel) (Nat.le_of_ble_eq_true rfl) ?_
  intro p e s m below meth c A ls hcs hP hK hD hX hA hS hl
  obtain ⟨hx, hb, hr, hml, hown, hg, hlocks, hin⟩ := hcs
  have hown : s.vm.findClass RX6 = some m.cls := hown
  have hl : lv_has ls 6 [(0, .ref h0), (1, .int x0)] := hl
  refine lv_aload_n hx hb dX6_keepLargest_0 rfl (lv_at hl 0 rfl) ?_
  refine lv_iload_n hx hb dX6_keepLargest_1 rfl (lv_at hl 1 rfl) ?_
  refine lv_i2l (v := x0.toInt64) hx hb dX6_keepLargest_2 rfl ?_
  refine lv_lconst (v := 0) hx hb dX6_keepLargest_3 (by decide) ?_
  refine lv_ldc2 hx hb hown (hg _ k1587) dX6_keepLargest_4 ?_
  refine cSi (n := 3) (As := [.long x0.toInt64, .long 0, .long 46]) (rest := [.ref h0]) (wr := [(h0, .inr (6, [v0, .ref h1, v1, v2, v3, v4, v5, v6, v7, v8, v9, v10, v11, v12, v13, v14, v15, v16, v17, v18, v19, v20, v21, v22, v23, v24, v25])), (h1, .inl (a0, 609, .inr (.inl f0)))]) (tr := [(a0, .long)]) hx hb hml hown hg okN (cX6_in_229 l D x0 d0 d1) (mwS k1317 k1318 k92 k1319) ⟨rfl, by decide, by decide, by decide +kernel⟩ ⟨rfl, rfl, (Nat.le_of_ble_eq_true rfl), (Nat.le_of_ble_eq_true rfl)⟩ hP hD hK hS xn [] [] [0, 1] [] [0] rfl (by decide) rfl rfl (by decide) (by decide) rfl rfl (aNil hA hS) (aNil hA hS) rfl hl.1 rfl (Nat.le_of_ble_eq_true rfl) dX6_keepLargest_7 ⟨(Nat.le_of_ble_eq_true rfl), (Nat.le_of_ble_eq_true rfl)⟩ (fun u H locs hφ hP hD hK hS hk => ?_)
  have hP : va_P D vwCl [(h0, .inr (6, [v0, .ref h1, v1, v2, v3, v4, v5, v6, v7, v8, v9, v10, v11, v12, v13, v14, v15, v16, v17, v18, v19, v20, v21, v22, v23, v24, v25])), (h1, .inl (a0, 609, .inr (.inl f0)))] H := hP
  have hD : va_D A [(h0, .inr (6, [v0, .ref h1, v1, v2, v3, v4, v5, v6, v7, v8, v9, v10, v11, v12, v13, v14, v15, v16, v17, v18, v19, v20, v21, v22, v23, v24, v25])), (h1, .inl (a0, 609, .inr (.inl f0)))] := hD
  have hK : va_K D vwCl [(a0, .long)] s := hK
  refine W.widen (k := 0) (n := 0) (Nat.le_of_ble_eq_true rfl) (Nat.le_of_ble_eq_true rfl) ?_
  refine lv_if_eq (tgt := 17) hx hb dX6_keepLargest_10 (by decide) (fun c9 => absurd c9 (by decide)) (fun _ => ?_)
  refine lv_iconst (v := 0) hx hb dX6_keepLargest_13 (by decide) ?_
  refine lv_goto (tgt := 18) hx hb dX6_keepLargest_14 (by decide) ?_
  refine va_put (D := D) (ci := 6) (v := .int 0) (ty := .int) (C := RX6) (T := TX6) (N := 27) hx hb hg inX6 tyX6 tyX6_ok nmX6 hown hK hP hD hS 0 rfl rfl 0 (by decide) (hg _ k1219) (fun _ h9 => h9) rfl (by decide +kernel) rfl rfl (Nat.le_of_ble_eq_true rfl) dX6_keepLargest_18 (fun H locs hP hD hS => ?_)
  have hP : va_P D vwCl [(h0, .inr (6, [.int 0, .ref h1, v1, v2, v3, v4, v5, v6, v7, v8, v9, v10, v11, v12, v13, v14, v15, v16, v17, v18, v19, v20, v21, v22, v23, v24, v25])), (h1, .inl (a0, 609, .inr (.inl f0)))] H := hP
  have hD : va_D A [(h0, .inr (6, [.int 0, .ref h1, v1, v2, v3, v4, v5, v6, v7, v8, v9, v10, v11, v12, v13, v14, v15, v16, v17, v18, v19, v20, v21, v22, v23, v24, v25])), (h1, .inl (a0, 609, .inr (.inl f0)))] := hD
  refine lv_aload_n hx hb dX6_keepLargest_21 rfl (lv_at hl 0 rfl) ?_
  refine va_get (D := D) (ci := 6) (v := .int 0) (C := RX6) (T := TX6) (N := 27) hx hb hg inX6 hown hK hP 0 rfl rfl 0 (by decide) (hg _ k1219) (fun _ h9 => h9) rfl dX6_keepLargest_22 ?_
  refine lv_if_le (tgt := 30) hx hb dX6_keepLargest_25 (by decide) (fun _ => ?_) (fun c9 => absurd (by decide) c9)
  refine lv_iconst (v := 0) hx hb dX6_keepLargest_30 (by decide) ?_
  refine lv_istore_n (lv' := [(2, .int 0), (0, .ref h0), (1, .int x0)]) hx hb dX6_keepLargest_31 rfl hl (by decide) rfl (fun ls hl => ?_)
  refine lv_iconst (v := 0) hx hb dX6_keepLargest_32 (by decide) ?_
  refine lv_istore_n (lv' := [(3, .int 0), (2, .int 0), (0, .ref h0), (1, .int x0)]) hx hb dX6_keepLargest_33 rfl hl (by decide) rfl (fun ls hl => ?_)
  refine lv_iload_n hx hb dX6_keepLargest_34 rfl (lv_at hl 0 rfl) ?_
  refine lv_aload_n hx hb dX6_keepLargest_35 rfl (lv_at hl 2 rfl) ?_
  refine cVi (n := 0) (As := []) (rest := [.int 0]) (wr := [(h0, .inr (6, [.int 0, .ref h1, v1, v2, v3, v4, v5, v6, v7, v8, v9, v10, v11, v12, v13, v14, v15, v16, v17, v18, v19, v20, v21, v22, v23, v24, v25])), (h1, .inl (a0, 609, .inr (.inl f0)))]) (tr := [(a0, .long)]) hx hb hml hown hg okN (cX6_steps_35 l D h0 h1 (.int 0) v1 v2 v3 v4 v5 v6 v7 v8 v9 v10 v11 v12 v13 v14 v15 v16 v17 v18 v19 v20 v21 v22 v23 v24 v25 f0 a0 ef0_4) (mwV k1416 k1418 k52 k92 k1419) ⟨rfl, by decide, by decide, by decide +kernel⟩ ⟨rfl, rfl, (Nat.le_of_ble_eq_true rfl), (Nat.le_of_ble_eq_true rfl)⟩ hP hD hK hS xn [0, 1] [] [0, 1] [0] [0] rfl (by decide) rfl rfl (by decide) (by decide) rfl rfl (aNil hA hS) (aNil hA hS) 0 rfl rfl rfl hl.1 rfl (Nat.le_of_ble_eq_true rfl) dX6_keepLargest_36 ⟨(Nat.le_of_ble_eq_true rfl), (Nat.le_of_ble_eq_true rfl)⟩ (fun u H locs hφ hP hD hK hS hk => ?_)
  have hP : va_P D vwCl [(h0, .inr (6, [.int 0, .ref h1, v1, v2, v3, v4, v5, v6, v7, v8, v9, v10, v11, v12, v13, v14, v15, v16, v17, v18, v19, v20, v21, v22, v23, v24, v25])), (h1, .inl (a0, 609, .inr (.inl f0)))] H := hP
  have hD : va_D A [(h0, .inr (6, [.int 0, .ref h1, v1, v2, v3, v4, v5, v6, v7, v8, v9, v10, v11, v12, v13, v14, v15, v16, v17, v18, v19, v20, v21, v22, v23, v24, v25])), (h1, .inl (a0, 609, .inr (.inl f0)))] := hD
  have hK : va_K D vwCl [(a0, .long)] s := hK
  refine W.widen (k := 0) (n := 0) (Nat.le_of_ble_eq_true rfl) (Nat.le_of_ble_eq_true rfl) ?_
  refine lv_icmp_ge (tgt := 78) hx hb dX6_keepLargest_39 (by decide) (fun _ => ?_) (fun c9 => absurd (by decide) c9)
  refine lv_lconst (v := 0) hx hb dX6_keepLargest_78 (by decide) ?_
  refine lv_lstore_n (lv' := [(3, .long 0), (2, .int 0), (0, .ref h0), (1, .int x0)]) hx hb dX6_keepLargest_79 rfl hl (by decide) rfl (fun ls hl => ?_)
  refine lv_iconst (v := 0) hx hb dX6_keepLargest_80 (by decide) ?_
  refine lv_istore (lv' := [(5, .int 0), (3, .long 0), (2, .int 0), (0, .ref h0), (1, .int x0)]) hx hb dX6_keepLargest_81 hl (by decide) rfl (fun ls hl => ?_)
  refine lv_iload hx hb dX6_keepLargest_83 (lv_at hl 0 rfl) ?_
  refine lv_aload_n hx hb dX6_keepLargest_85 rfl (lv_at hl 3 rfl) ?_
  refine cVi (n := 0) (As := []) (rest := [.int 0]) (wr := [(h0, .inr (6, [.int 0, .ref h1, v1, v2, v3, v4, v5, v6, v7, v8, v9, v10, v11, v12, v13, v14, v15, v16, v17, v18, v19, v20, v21, v22, v23, v24, v25])), (h1, .inl (a0, 609, .inr (.inl f0)))]) (tr := [(a0, .long)]) hx hb hml hown hg okN (cX6_steps_35 l D h0 h1 (.int 0) v1 v2 v3 v4 v5 v6 v7 v8 v9 v10 v11 v12 v13 v14 v15 v16 v17 v18 v19 v20 v21 v22 v23 v24 v25 f0 a0 ef0_4) (mwV k1416 k1418 k52 k92 k1419) ⟨rfl, by decide, by decide, by decide +kernel⟩ ⟨rfl, rfl, (Nat.le_of_ble_eq_true rfl), (Nat.le_of_ble_eq_true rfl)⟩ hP hD hK hS xn [0, 1] [] [0, 1] [0] [0] rfl (by decide) rfl rfl (by decide) (by decide) rfl rfl (aNil hA hS) (aNil hA hS) 0 rfl rfl rfl hl.1 rfl (Nat.le_of_ble_eq_true rfl) dX6_keepLargest_86 ⟨(Nat.le_of_ble_eq_true rfl), (Nat.le_of_ble_eq_true rfl)⟩ (fun u H locs hφ hP hD hK hS hk => ?_)
  have hP : va_P D vwCl [(h0, .inr (6, [.int 0, .ref h1, v1, v2, v3, v4, v5, v6, v7, v8, v9, v10, v11, v12, v13, v14, v15, v16, v17, v18, v19, v20, v21, v22, v23, v24, v25])), (h1, .inl (a0, 609, .inr (.inl f0)))] H := hP
  have hD : va_D A [(h0, .inr (6, [.int 0, .ref h1, v1, v2, v3, v4, v5, v6, v7, v8, v9, v10, v11, v12, v13, v14, v15, v16, v17, v18, v19, v20, v21, v22, v23, v24, v25])), (h1, .inl (a0, 609, .inr (.inl f0)))] := hD
  have hK : va_K D vwCl [(a0, .long)] s := hK
  refine W.widen (k := 0) (n := 0) (Nat.le_of_ble_eq_true rfl) (Nat.le_of_ble_eq_true rfl) ?_
  refine lv_icmp_ge (tgt := 152) hx hb dX6_keepLargest_89 (by decide) (fun _ => ?_) (fun c9 => absurd (by decide) c9)
  refine lv_lload_n hx hb dX6_keepLargest_152 rfl (lv_at hl 1 rfl) ?_
  exact fl hx hb hr hlocks hP hD hK hS (()) trivial rfl [0, 1] [0] rfl (by decide) rfl (Nat.le_of_ble_eq_true rfl) (Nat.le_of_ble_eq_true rfl) dX6_keepLargest_153
set_option maxHeartbeats 4000000 in
set_option maxRecDepth 100000 in
theorem cX6_in_231 (l : Launch) (D : va_G) (x0 : Int32)  (d0 : ¬ ((lg_cmp x0.toInt64 0) < 0)) (d1 : 0 < (lg_cmp x0.toInt64 46)) : CT l yX6_in cX6_in 6 (some .boolean) { frames := 0, cells := 0, slots := 0, locals := 0 } [.long x0.toInt64, .long 0, .long 46] D [] [] XN [] (ei (fun _ : Unit => True) (fun _ => 0) (fun _ => []) (fun _ => []) D) 0 0 := by
  refine CT.ofR (by decide +kernel) (Nat.le_of_ble_eq_true rfl) ?_
  intro p e s m below meth c A ls hcs hP hK hD hX hA hS hl
  obtain ⟨hx, hb, hr, hml, hown, hg, hlocks, hin⟩ := hcs
  have hown : s.vm.findClass RX6 = some m.cls := hown
  have hl : lv_has ls 6 [(0, .long x0.toInt64), (2, .long 0), (4, .long 46)] := hl
  refine lv_lload_n hx hb dX6_in_0 rfl (lv_at hl 0 rfl) ?_
  refine lv_lload_n hx hb dX6_in_1 rfl (lv_at hl 1 rfl) ?_
  refine W.lcmp hx hb dX6_in_2 ?_
  refine lv_if_lt (tgt := 17) hx hb dX6_in_3 (by decide) (fun c9 => absurd c9 d0) (fun _ => ?_)
  refine lv_lload_n hx hb dX6_in_6 rfl (lv_at hl 0 rfl) ?_
  refine lv_lload hx hb dX6_in_7 (lv_at hl 2 rfl) ?_
  refine W.lcmp hx hb dX6_in_9 ?_
  refine lv_if_gt (tgt := 17) hx hb dX6_in_10 (by decide) (fun _ => ?_) (fun c9 => absurd d1 c9)
  refine lv_iconst (v := 0) hx hb dX6_in_17 (by decide) ?_
  exact fz0 hx hb hr rfl hlocks hK hS (Nat.le_of_ble_eq_true rfl) (Nat.le_of_ble_eq_true rfl) dX6_in_18
set_option maxHeartbeats 4000000 in
set_option maxRecDepth 100000 in
theorem cX6_keepLargest_230 (l : Launch) (D : va_G) (h0 : Nat) (x0 : Int32) (v0 : Value) (v1 : Value) (v2 : Value) (v3 : Value) (v4 : Value) (v5 : Value) (v6 : Value) (v7 : Value) (v8 : Value) (v9 : Value) (v10 : Value) (v11 : Value) (v12 : Value) (v13 : Value) (v14 : Value) (v15 : Value) (v16 : Value) (v17 : Value) (v18 : Value) (v19 : Value) (v20 : Value) (v21 : Value) (v22 : Value) (v23 : Value) (v24 : Value) (v25 : Value) (v26 : Value)  (d0 : ¬ ((lg_cmp x0.toInt64 0) < 0)) (d1 : 0 < (lg_cmp x0.toInt64 46)) : CT l yX6_keepLargest cX6_keepLargest 6 (some .long) { frames := 1, cells := 0, slots := 0, locals := 25 } [.ref h0, .int x0] D [(h0, .inr (6, [v0, v1, v2, v3, v4, v5, v6, v7, v8, v9, v10, v11, v12, v13, v14, v15, v16, v17, v18, v19, v20, v21, v22, v23, v24, v25, v26]))] [] XN [(h0, .inr (6, [v0, v1, v2, v3, v4, v5, v6, v7, v8, v9, v10, v11, v12, v13, v14, v15, v16, v17, v18, v19, v20, v21, v22, v23, v24, v25, v26]))] (el (fun _ : Unit => True) (fun u => 0) (fun _ => [(h0, .inr (6, [.int 1, v1, v2, v3, v4, v5, v6, v7, v8, v9, v10, v11, v12, v13, v14, v15, v16, v17, v18, v19, v20, v21, v22, v23, v24, v25, v26]))]) (fun u => []) D) 0 0 := by
  refine CT.ofW (by decide +kernel) (Nat.le_of_ble_eq_true rfl) ?_
  intro p e s m below meth c A ls hcs hP hK hD hX hA hS hl
  obtain ⟨hx, hb, hr, hml, hown, hg, hlocks, hin⟩ := hcs
  have hown : s.vm.findClass RX6 = some m.cls := hown
  have hl : lv_has ls 6 [(0, .ref h0), (1, .int x0)] := hl
  refine lv_aload_n hx hb dX6_keepLargest_0 rfl (lv_at hl 0 rfl) ?_
  refine lv_iload_n hx hb dX6_keepLargest_1 rfl (lv_at hl 1 rfl) ?_
  refine lv_i2l (v := x0.toInt64) hx hb dX6_keepLargest_2 rfl ?_
  refine lv_lconst (v := 0) hx hb dX6_keepLargest_3 (by decide) ?_
  refine lv_ldc2 hx hb hown (hg _ k1587) dX6_keepLargest_4 ?_
  refine cSi (n := 3) (As := [.long x0.toInt64, .long 0, .long 46]) (rest := [.ref h0]) (wr := [(h0, .inr (6, [v0, v1, v2, v3, v4, v5, v6, v7, v8, v9, v10, v11, v12, v13, v14, v15, v16, v17, v18, v19, v20, v21, v22, v23, v24, v25, v26]))]) (tr := []) hx hb hml hown hg okN (cX6_in_231 l D x0 d0 d1) (mwS k1317 k1318 k92 k1319) ⟨rfl, by decide, by decide, by decide +kernel⟩ ⟨rfl, rfl, (Nat.le_of_ble_eq_true rfl), (Nat.le_of_ble_eq_true rfl)⟩ hP hD hK hS xn [] [] [0] [] [] rfl (by decide) rfl rfl (by decide) (by decide) rfl rfl (aNil hA hS) (aNil hA hS) rfl hl.1 rfl (Nat.le_of_ble_eq_true rfl) dX6_keepLargest_7 ⟨(Nat.le_of_ble_eq_true rfl), (Nat.le_of_ble_eq_true rfl)⟩ (fun u H locs hφ hP hD hK hS hk => ?_)
  have hP : va_P D vwCl [(h0, .inr (6, [v0, v1, v2, v3, v4, v5, v6, v7, v8, v9, v10, v11, v12, v13, v14, v15, v16, v17, v18, v19, v20, v21, v22, v23, v24, v25, v26]))] H := hP
  have hD : va_D A [(h0, .inr (6, [v0, v1, v2, v3, v4, v5, v6, v7, v8, v9, v10, v11, v12, v13, v14, v15, v16, v17, v18, v19, v20, v21, v22, v23, v24, v25, v26]))] := hD
  have hK : va_K D vwCl [] s := hK
  refine W.widen (k := 0) (n := 0) (Nat.le_of_ble_eq_true rfl) (Nat.le_of_ble_eq_true rfl) ?_
  refine lv_if_eq (tgt := 17) hx hb dX6_keepLargest_10 (by decide) (fun _ => ?_) (fun c9 => absurd (by decide) c9)
  refine lv_iconst (v := 1) hx hb dX6_keepLargest_17 (by decide) ?_
  refine va_put (D := D) (ci := 6) (v := .int 1) (ty := .int) (C := RX6) (T := TX6) (N := 27) hx hb hg inX6 tyX6 tyX6_ok nmX6 hown hK hP hD hS 0 rfl rfl 0 (by decide) (hg _ k1219) (fun _ h9 => h9) rfl (by decide +kernel) rfl rfl (Nat.le_of_ble_eq_true rfl) dX6_keepLargest_18 (fun H locs hP hD hS => ?_)
  have hP : va_P D vwCl [(h0, .inr (6, [.int 1, v1, v2, v3, v4, v5, v6, v7, v8, v9, v10, v11, v12, v13, v14, v15, v16, v17, v18, v19, v20, v21, v22, v23, v24, v25, v26]))] H := hP
  have hD : va_D A [(h0, .inr (6, [.int 1, v1, v2, v3, v4, v5, v6, v7, v8, v9, v10, v11, v12, v13, v14, v15, v16, v17, v18, v19, v20, v21, v22, v23, v24, v25, v26]))] := hD
  refine lv_aload_n hx hb dX6_keepLargest_21 rfl (lv_at hl 0 rfl) ?_
  refine va_get (D := D) (ci := 6) (v := .int 1) (C := RX6) (T := TX6) (N := 27) hx hb hg inX6 hown hK hP 0 rfl rfl 0 (by decide) (hg _ k1219) (fun _ h9 => h9) rfl dX6_keepLargest_22 ?_
  refine lv_if_le (tgt := 30) hx hb dX6_keepLargest_25 (by decide) (fun c9 => absurd c9 (by decide)) (fun _ => ?_)
  refine lv_lconst (v := 0) hx hb dX6_keepLargest_28 (by decide) ?_
  exact fl hx hb hr hlocks hP hD hK hS (()) trivial rfl [0] [] rfl (by decide) rfl (Nat.le_of_ble_eq_true rfl) (Nat.le_of_ble_eq_true rfl) dX6_keepLargest_29
set_option maxHeartbeats 4000000 in
set_option maxRecDepth 100000 in
theorem cX6_error_232 (l : Launch) (D : va_G) (h0 : Nat) (x0 : Int32) (v0 : Value) (v1 : Value) (v2 : Value) (v3 : Value) (v4 : Value) (v5 : Value) (v6 : Value) (v7 : Value) (v8 : Value) (v9 : Value) (v10 : Value) (v11 : Value) (v12 : Value) (v13 : Value) (v14 : Value) (v15 : Value) (v16 : Value) (v17 : Value) (v18 : Value) (v19 : Value) (v20 : Value) (v21 : Value) (v22 : Value) (v23 : Value) (v24 : Value) (v25 : Value) (v26 : Value)  (d0 : (lg_cmp x0.toInt64 0) < 0) : CT l yX6_error cX6_error 2 (some .long) { frames := 1, cells := 0, slots := 0, locals := 25 } [.ref h0, .int x0] D [(h0, .inr (6, [v0, v1, v2, v3, v4, v5, v6, v7, v8, v9, v10, v11, v12, v13, v14, v15, v16, v17, v18, v19, v20, v21, v22, v23, v24, v25, v26]))] [] XN [(h0, .inr (6, [v0, v1, v2, v3, v4, v5, v6, v7, v8, v9, v10, v11, v12, v13, v14, v15, v16, v17, v18, v19, v20, v21, v22, v23, v24, v25, v26]))] (el (fun _ : Unit => True) (fun u => 0) (fun _ => [(h0, .inr (6, [.int 1, v1, v2, v3, v4, v5, v6, v7, v8, v9, v10, v11, v12, v13, v14, v15, v16, v17, v18, v19, v20, v21, v22, v23, v24, v25, v26]))]) (fun u => []) D) 0 0 := by
  refine CT.ofW (by decide +kernel) (Nat.le_of_ble_eq_true rfl) ?_
  intro p e s m below meth c A ls hcs hP hK hD hX hA hS hl
  obtain ⟨hx, hb, hr, hml, hown, hg, hlocks, hin⟩ := hcs
  have hown : s.vm.findClass RX6 = some m.cls := hown
  have hl : lv_has ls 2 [(0, .ref h0), (1, .int x0)] := hl
  refine lv_aload_n hx hb dX6_error_0 rfl (lv_at hl 0 rfl) ?_
  refine lv_iload_n hx hb dX6_error_1 rfl (lv_at hl 1 rfl) ?_
  refine lv_i2l (v := x0.toInt64) hx hb dX6_error_2 rfl ?_
  refine lv_lconst (v := 0) hx hb dX6_error_3 (by decide) ?_
  refine lv_ldc2 hx hb hown (hg _ k1510) dX6_error_4 ?_
  refine cSi (n := 3) (As := [.long x0.toInt64, .long 0, .long 2]) (rest := [.ref h0]) (wr := [(h0, .inr (6, [v0, v1, v2, v3, v4, v5, v6, v7, v8, v9, v10, v11, v12, v13, v14, v15, v16, v17, v18, v19, v20, v21, v22, v23, v24, v25, v26]))]) (tr := []) hx hb hml hown hg okN (cX6_in_140 l D x0 d0) (mwS k1317 k1318 k92 k1319) ⟨rfl, by decide, by decide, by decide +kernel⟩ ⟨rfl, rfl, (Nat.le_of_ble_eq_true rfl), (Nat.le_of_ble_eq_true rfl)⟩ hP hD hK hS xn [] [] [0] [] [] rfl (by decide) rfl rfl (by decide) (by decide) rfl rfl (aNil hA hS) (aNil hA hS) rfl hl.1 rfl (Nat.le_of_ble_eq_true rfl) dX6_error_7 ⟨(Nat.le_of_ble_eq_true rfl), (Nat.le_of_ble_eq_true rfl)⟩ (fun u H locs hφ hP hD hK hS hk => ?_)
  have hP : va_P D vwCl [(h0, .inr (6, [v0, v1, v2, v3, v4, v5, v6, v7, v8, v9, v10, v11, v12, v13, v14, v15, v16, v17, v18, v19, v20, v21, v22, v23, v24, v25, v26]))] H := hP
  have hD : va_D A [(h0, .inr (6, [v0, v1, v2, v3, v4, v5, v6, v7, v8, v9, v10, v11, v12, v13, v14, v15, v16, v17, v18, v19, v20, v21, v22, v23, v24, v25, v26]))] := hD
  have hK : va_K D vwCl [] s := hK
  refine W.widen (k := 0) (n := 0) (Nat.le_of_ble_eq_true rfl) (Nat.le_of_ble_eq_true rfl) ?_
  refine lv_if_eq (tgt := 17) hx hb dX6_error_10 (by decide) (fun _ => ?_) (fun c9 => absurd (by decide) c9)
  refine lv_iconst (v := 1) hx hb dX6_error_17 (by decide) ?_
  refine va_put (D := D) (ci := 6) (v := .int 1) (ty := .int) (C := RX6) (T := TX6) (N := 27) hx hb hg inX6 tyX6 tyX6_ok nmX6 hown hK hP hD hS 0 rfl rfl 0 (by decide) (hg _ k1219) (fun _ h9 => h9) rfl (by decide +kernel) rfl rfl (Nat.le_of_ble_eq_true rfl) dX6_error_18 (fun H locs hP hD hS => ?_)
  have hP : va_P D vwCl [(h0, .inr (6, [.int 1, v1, v2, v3, v4, v5, v6, v7, v8, v9, v10, v11, v12, v13, v14, v15, v16, v17, v18, v19, v20, v21, v22, v23, v24, v25, v26]))] H := hP
  have hD : va_D A [(h0, .inr (6, [.int 1, v1, v2, v3, v4, v5, v6, v7, v8, v9, v10, v11, v12, v13, v14, v15, v16, v17, v18, v19, v20, v21, v22, v23, v24, v25, v26]))] := hD
  refine lv_aload_n hx hb dX6_error_21 rfl (lv_at hl 0 rfl) ?_
  refine va_get (D := D) (ci := 6) (v := .int 1) (C := RX6) (T := TX6) (N := 27) hx hb hg inX6 hown hK hP 0 rfl rfl 0 (by decide) (hg _ k1219) (fun _ h9 => h9) rfl dX6_error_22 ?_
  refine lv_if_le (tgt := 30) hx hb dX6_error_25 (by decide) (fun c9 => absurd c9 (by decide)) (fun _ => ?_)
  refine lv_lconst (v := 0) hx hb dX6_error_28 (by decide) ?_
  exact fl hx hb hr hlocks hP hD hK hS (()) trivial rfl [0] [] rfl (by decide) rfl (Nat.le_of_ble_eq_true rfl) (Nat.le_of_ble_eq_true rfl) dX6_error_29
set_option maxHeartbeats 4000000 in
set_option maxRecDepth 100000 in
theorem cX6_puts_234 (l : Launch) (D : va_G) (h0 : Nat) (h1 : Nat) (h2 : Nat) (v0 : Value) (v1 : Value) (v2 : Value) (v3 : Value) (v4 : Value) (v5 : Value) (v6 : Value) (v7 : Value) (v8 : Value) (v9 : Value) (v10 : Value) (v11 : Value) (v12 : Value) (v13 : Value) (v14 : Value) (v15 : Value) (v16 : Value) (v17 : Value) (v18 : Value) (v19 : Value) (v20 : Value) (v21 : Value) (v22 : Value) (v23 : Value) (v24 : Value) (f0 : Nat → Int64) (f1 : Nat → Int64) (a0 : ClassId) (a1 : ClassId)   : CT l yX6_puts cX6_puts 2 none { frames := 0, cells := 0, slots := 0, locals := 0 } [.ref h0] D [(h0, .inr (6, [v0, .ref h1, .ref h2, v1, v2, v3, v4, v5, v6, v7, v8, v9, v10, v11, v12, v13, v14, v15, v16, v17, v18, v19, v20, v21, v22, v23, v24])), (h1, .inl (a0, 609, .inr (.inl f0))), (h2, .inl (a1, 609, .inr (.inl f1)))] [(a0, .long), (a1, .long)] XN [(h0, .inr (6, [v0, .ref h1, .ref h2, v1, v2, v3, v4, v5, v6, v7, v8, v9, v10, v11, v12, v13, v14, v15, v16, v17, v18, v19, v20, v21, v22, v23, v24])), (h1, .inl (a0, 609, .inr (.inl f0))), (h2, .inl (a1, 609, .inr (.inl f1)))] (ev (fun _ : (Nat → Int64) => True) (fun u => [(h0, .inr (6, [v0, .ref h1, .ref h2, v1, v2, v3, v4, v5, v6, v7, v8, v9, v10, v11, v12, v13, v14, v15, v16, v17, v18, v19, v20, v21, v22, v23, v24])), (h1, .inl (a0, 609, .inr (.inl f0))), (h2, .inl (a1, 609, .inr (.inl u)))]) (fun u => [(a0, .long), (a1, .long)]) D) 0 0 := by
  refine CT.ofW (by decide +kernel) (Nat.le_of_ble_eq_true rfl) ?_
  intro p e s m below meth c A ls hcs hP hK hD hX hA hS hl
  obtain ⟨hx, hb, hr, hml, hown, hg, hlocks, hin⟩ := hcs
  have hown : s.vm.findClass RX6 = some m.cls := hown
  have hl : lv_has ls 2 [(0, .ref h0)] := hl
  refine lv_iconst (v := 0) hx hb dX6_puts_0 (by decide) ?_
  refine lv_istore_n (lv' := [(1, .int 0), (0, .ref h0)]) hx hb dX6_puts_1 rfl hl (by decide) rfl (fun ls hl => ?_)
  have lq1 : ∀ (Q9 : State → Prop), (∀ (gg1 : Nat → Int64) (H : Heap) (locs : List Loc) (ls : Array Slot), True → va_P D vwCl [(h0, .inr (6, [v0, .ref h1, .ref h2, v1, v2, v3, v4, v5, v6, v7, v8, v9, v10, v11, v12, v13, v14, v15, v16, v17, v18, v19, v20, v21, v22, v23, v24])), (h1, .inl (a0, 609, .inr (.inl f0))), (h2, .inl (a1, 609, .inr (.inl gg1)))] H → va_D A [(h0, .inr (6, [v0, .ref h1, .ref h2, v1, v2, v3, v4, v5, v6, v7, v8, v9, v10, v11, v12, v13, v14, v15, v16, v17, v18, v19, v20, v21, v22, v23, v24])), (h1, .inl (a0, 609, .inr (.inl f0))), (h2, .inl (a1, 609, .inr (.inl gg1)))] → va_K D vwCl [(a0, .long), (a1, .long)] s → va_S A s.heap H locs → lv_has ls 2 [(1, .int 609), (0, .ref h0)] → W p l e { frames := 0, cells := 0, slots := 0, locals := 0 } s m [.ref h0].toArray below meth c H locs (0) (0) Q9 (F0 m 27 ls [])) → ∀ (n9 i : Nat), 0 ≤ i → i + n9 = 609 → ∀ (gg1 : Nat → Int64) (H : Heap) (locs : List Loc) (ls : Array Slot), True → va_P D vwCl [(h0, .inr (6, [v0, .ref h1, .ref h2, v1, v2, v3, v4, v5, v6, v7, v8, v9, v10, v11, v12, v13, v14, v15, v16, v17, v18, v19, v20, v21, v22, v23, v24])), (h1, .inl (a0, 609, .inr (.inl f0))), (h2, .inl (a1, 609, .inr (.inl gg1)))] H → va_D A [(h0, .inr (6, [v0, .ref h1, .ref h2, v1, v2, v3, v4, v5, v6, v7, v8, v9, v10, v11, v12, v13, v14, v15, v16, v17, v18, v19, v20, v21, v22, v23, v24])), (h1, .inl (a0, 609, .inr (.inl f0))), (h2, .inl (a1, 609, .inr (.inl gg1)))] → va_K D vwCl [(a0, .long), (a1, .long)] s → va_S A s.heap H locs → lv_has ls 2 [(1, .int (nI i)), (0, .ref h0)] → W p l e { frames := 0, cells := 0, slots := 0, locals := 0 } s m [.ref h0].toArray below meth c H locs (0 + 0 * (i - 0)) (0 + 0 * (i - 0)) Q9 (F0 m 2 ls []) := by
    intro Q9 kx n9
    induction n9 with
    | zero =>
      intro i hi0 hin9 gg1 H locs ls _ hP hD hK hS hl
      have hi9 : i = 609 := by omega
      subst hi9
      refine lv_iload_n hx hb dX6_puts_2 rfl (lv_at hl 0 rfl) ?_
      refine lv_sipush (v := 609) hx hb dX6_puts_3 (by decide) ?_
      refine lv_icmp_ge (tgt := 27) hx hb dX6_puts_6 (by decide) (fun _ => ?_) (fun c9 => absurd (by decide) c9)
      exact kx gg1 H locs ls trivial hP hD hK hS hl
    | succ n9 ih =>
      intro i hi0 hin9 gg1 H locs ls _ hP hD hK hS hl
      have hi : i < 609 := by omega
      refine lv_iload_n hx hb dX6_puts_2 rfl (lv_at hl 0 rfl) ?_
      refine lv_sipush (v := 609) hx hb dX6_puts_3 (by decide) ?_
      refine lv_icmp_ge (tgt := 27) hx hb dX6_puts_6 (by decide) (fun c9 => absurd c9 (nI_ge hi (by decide))) (fun _ => ?_)
      refine lv_aload_n hx hb dX6_puts_9 rfl (lv_at hl 1 rfl) ?_
      refine va_get (D := D) (ci := 6) (v := .ref h2) (C := RX6) (T := TX6) (N := 27) hx hb hg inX6 hown hK hP 0 rfl rfl 2 (by decide) (hg _ k1221) (fun _ h9 => h9) rfl dX6_puts_10 ?_
      refine lv_iload_n hx hb dX6_puts_13 rfl (lv_at hl 0 rfl) ?_
      refine lv_aload_n hx hb dX6_puts_14 rfl (lv_at hl 1 rfl) ?_
      refine va_get (D := D) (ci := 6) (v := .ref h1) (C := RX6) (T := TX6) (N := 27) hx hb hg inX6 hown hK hP 0 rfl rfl 1 (by decide) (hg _ k1220) (fun _ h9 => h9) rfl dX6_puts_15 ?_
      refine lv_iload_n hx hb dX6_puts_18 rfl (lv_at hl 0 rfl) ?_
      refine aldL hx hb hK hP 1 0 rfl rfl i (nI_clamp (by omega)) (vp_in_nI (by omega) (by decide)) (v := f0 i) rfl dX6_puts_19 ?_
      refine astL hx hb hK hP hD hS 2 1 rfl rfl i (nI_clamp (by omega)) (vp_in_nI (by omega) (by decide)) dX6_puts_20 (fun H locs hP hD hS => ?_)
      have hP : va_P D vwCl [(h0, .inr (6, [v0, .ref h1, .ref h2, v1, v2, v3, v4, v5, v6, v7, v8, v9, v10, v11, v12, v13, v14, v15, v16, v17, v18, v19, v20, v21, v22, v23, v24])), (h1, .inl (a0, 609, .inr (.inl f0))), (h2, .inl (a1, 609, .inr (.inl (vp_updL gg1 i (f0 i)))))] H := hP
      have hD : va_D A [(h0, .inr (6, [v0, .ref h1, .ref h2, v1, v2, v3, v4, v5, v6, v7, v8, v9, v10, v11, v12, v13, v14, v15, v16, v17, v18, v19, v20, v21, v22, v23, v24])), (h1, .inl (a0, 609, .inr (.inl f0))), (h2, .inl (a1, 609, .inr (.inl (vp_updL gg1 i (f0 i)))))] := hD
      refine lv_iinc (v := (nI (i + 1))) (lv' := [(1, .int (nI (i + 1))), (0, .ref h0)]) hx hb dX6_puts_21 hl (k := 0) rfl (nI_1 i) (by decide) rfl (fun ls hl => ?_)
      refine lv_goto (tgt := 2) hx hb dX6_puts_24 (by decide) ?_
      exact ih (i + 1) (by omega) (by omega) (vp_updL gg1 i (f0 i)) _ _ _ trivial (hP.sub [0, 1, 2] rfl) (hD.sub [0, 1, 2] (by decide) rfl) (hK.sub [0, 1] rfl) hS (lv_sub hl [0, 1] rfl)
  refine lq1 _ (fun gg1x H locs ls _ hP hD hK hS hl => ?_) 609 0 (Nat.le_refl _) rfl f1 _ _ _ trivial hP hD hK hS hl
  exact fv hx hb hr hlocks hP hD hK hS (gg1x) trivial [0, 1, 2] [0, 1] rfl (by decide) rfl (Nat.le_of_ble_eq_true rfl) (Nat.le_of_ble_eq_true rfl) dX6_puts_27
set_option maxHeartbeats 4000000 in
set_option maxRecDepth 100000 in
theorem cX6_takesBack_236 (l : Launch) (D : va_G) (h0 : Nat) (h1 : Nat) (h2 : Nat) (v0 : Value) (v1 : Value) (v2 : Value) (v3 : Value) (v4 : Value) (v5 : Value) (v6 : Value) (v7 : Value) (v8 : Value) (v9 : Value) (v10 : Value) (v11 : Value) (v12 : Value) (v13 : Value) (v14 : Value) (v15 : Value) (v16 : Value) (v17 : Value) (v18 : Value) (v19 : Value) (v20 : Value) (v21 : Value) (v22 : Value) (v23 : Value) (v24 : Value) (f0 : Nat → Int64) (f1 : Nat → Int64) (a0 : ClassId) (a1 : ClassId)   : CT l yX6_takesBack cX6_takesBack 2 none { frames := 0, cells := 0, slots := 0, locals := 0 } [.ref h0] D [(h0, .inr (6, [v0, .ref h2, .ref h1, v1, v2, v3, v4, v5, v6, v7, v8, v9, v10, v11, v12, v13, v14, v15, v16, v17, v18, v19, v20, v21, v22, v23, v24])), (h1, .inl (a0, 609, .inr (.inl f0))), (h2, .inl (a1, 609, .inr (.inl f1)))] [(a0, .long), (a1, .long)] XN [(h0, .inr (6, [v0, .ref h2, .ref h1, v1, v2, v3, v4, v5, v6, v7, v8, v9, v10, v11, v12, v13, v14, v15, v16, v17, v18, v19, v20, v21, v22, v23, v24])), (h1, .inl (a0, 609, .inr (.inl f0))), (h2, .inl (a1, 609, .inr (.inl f1)))] (ev (fun _ : (Nat → Int64) => True) (fun u => [(h0, .inr (6, [v0, .ref h2, .ref h1, v1, v2, v3, v4, v5, v6, v7, v8, v9, v10, v11, v12, v13, v14, v15, v16, v17, v18, v19, v20, v21, v22, v23, v24])), (h1, .inl (a0, 609, .inr (.inl f0))), (h2, .inl (a1, 609, .inr (.inl u)))]) (fun u => [(a0, .long), (a1, .long)]) D) 0 0 := by
  refine CT.ofW (by decide +kernel) (Nat.le_of_ble_eq_true rfl) ?_
  intro p e s m below meth c A ls hcs hP hK hD hX hA hS hl
  obtain ⟨hx, hb, hr, hml, hown, hg, hlocks, hin⟩ := hcs
  have hown : s.vm.findClass RX6 = some m.cls := hown
  have hl : lv_has ls 2 [(0, .ref h0)] := hl
  refine lv_iconst (v := 0) hx hb dX6_takesBack_0 (by decide) ?_
  refine lv_istore_n (lv' := [(1, .int 0), (0, .ref h0)]) hx hb dX6_takesBack_1 rfl hl (by decide) rfl (fun ls hl => ?_)
  have lq1 : ∀ (Q9 : State → Prop), (∀ (gg1 : Nat → Int64) (H : Heap) (locs : List Loc) (ls : Array Slot), True → va_P D vwCl [(h0, .inr (6, [v0, .ref h2, .ref h1, v1, v2, v3, v4, v5, v6, v7, v8, v9, v10, v11, v12, v13, v14, v15, v16, v17, v18, v19, v20, v21, v22, v23, v24])), (h1, .inl (a0, 609, .inr (.inl f0))), (h2, .inl (a1, 609, .inr (.inl gg1)))] H → va_D A [(h0, .inr (6, [v0, .ref h2, .ref h1, v1, v2, v3, v4, v5, v6, v7, v8, v9, v10, v11, v12, v13, v14, v15, v16, v17, v18, v19, v20, v21, v22, v23, v24])), (h1, .inl (a0, 609, .inr (.inl f0))), (h2, .inl (a1, 609, .inr (.inl gg1)))] → va_K D vwCl [(a0, .long), (a1, .long)] s → va_S A s.heap H locs → lv_has ls 2 [(1, .int 609), (0, .ref h0)] → W p l e { frames := 0, cells := 0, slots := 0, locals := 0 } s m [.ref h0].toArray below meth c H locs (0) (0) Q9 (F0 m 27 ls [])) → ∀ (n9 i : Nat), 0 ≤ i → i + n9 = 609 → ∀ (gg1 : Nat → Int64) (H : Heap) (locs : List Loc) (ls : Array Slot), True → va_P D vwCl [(h0, .inr (6, [v0, .ref h2, .ref h1, v1, v2, v3, v4, v5, v6, v7, v8, v9, v10, v11, v12, v13, v14, v15, v16, v17, v18, v19, v20, v21, v22, v23, v24])), (h1, .inl (a0, 609, .inr (.inl f0))), (h2, .inl (a1, 609, .inr (.inl gg1)))] H → va_D A [(h0, .inr (6, [v0, .ref h2, .ref h1, v1, v2, v3, v4, v5, v6, v7, v8, v9, v10, v11, v12, v13, v14, v15, v16, v17, v18, v19, v20, v21, v22, v23, v24])), (h1, .inl (a0, 609, .inr (.inl f0))), (h2, .inl (a1, 609, .inr (.inl gg1)))] → va_K D vwCl [(a0, .long), (a1, .long)] s → va_S A s.heap H locs → lv_has ls 2 [(1, .int (nI i)), (0, .ref h0)] → W p l e { frames := 0, cells := 0, slots := 0, locals := 0 } s m [.ref h0].toArray below meth c H locs (0 + 0 * (i - 0)) (0 + 0 * (i - 0)) Q9 (F0 m 2 ls []) := by
    intro Q9 kx n9
    induction n9 with
    | zero =>
      intro i hi0 hin9 gg1 H locs ls _ hP hD hK hS hl
      have hi9 : i = 609 := by omega
      subst hi9
      refine lv_iload_n hx hb dX6_takesBack_2 rfl (lv_at hl 0 rfl) ?_
      refine lv_sipush (v := 609) hx hb dX6_takesBack_3 (by decide) ?_
      refine lv_icmp_ge (tgt := 27) hx hb dX6_takesBack_6 (by decide) (fun _ => ?_) (fun c9 => absurd (by decide) c9)
      exact kx gg1 H locs ls trivial hP hD hK hS hl
    | succ n9 ih =>
      intro i hi0 hin9 gg1 H locs ls _ hP hD hK hS hl
      have hi : i < 609 := by omega
      refine lv_iload_n hx hb dX6_takesBack_2 rfl (lv_at hl 0 rfl) ?_
      refine lv_sipush (v := 609) hx hb dX6_takesBack_3 (by decide) ?_
      refine lv_icmp_ge (tgt := 27) hx hb dX6_takesBack_6 (by decide) (fun c9 => absurd c9 (nI_ge hi (by decide))) (fun _ => ?_)
      refine lv_aload_n hx hb dX6_takesBack_9 rfl (lv_at hl 1 rfl) ?_
      refine va_get (D := D) (ci := 6) (v := .ref h2) (C := RX6) (T := TX6) (N := 27) hx hb hg inX6 hown hK hP 0 rfl rfl 1 (by decide) (hg _ k1220) (fun _ h9 => h9) rfl dX6_takesBack_10 ?_
      refine lv_iload_n hx hb dX6_takesBack_13 rfl (lv_at hl 0 rfl) ?_
      refine lv_aload_n hx hb dX6_takesBack_14 rfl (lv_at hl 1 rfl) ?_
      refine va_get (D := D) (ci := 6) (v := .ref h1) (C := RX6) (T := TX6) (N := 27) hx hb hg inX6 hown hK hP 0 rfl rfl 2 (by decide) (hg _ k1221) (fun _ h9 => h9) rfl dX6_takesBack_15 ?_
      refine lv_iload_n hx hb dX6_takesBack_18 rfl (lv_at hl 0 rfl) ?_
      refine aldL hx hb hK hP 1 0 rfl rfl i (nI_clamp (by omega)) (vp_in_nI (by omega) (by decide)) (v := f0 i) rfl dX6_takesBack_19 ?_
      refine astL hx hb hK hP hD hS 2 1 rfl rfl i (nI_clamp (by omega)) (vp_in_nI (by omega) (by decide)) dX6_takesBack_20 (fun H locs hP hD hS => ?_)
      have hP : va_P D vwCl [(h0, .inr (6, [v0, .ref h2, .ref h1, v1, v2, v3, v4, v5, v6, v7, v8, v9, v10, v11, v12, v13, v14, v15, v16, v17, v18, v19, v20, v21, v22, v23, v24])), (h1, .inl (a0, 609, .inr (.inl f0))), (h2, .inl (a1, 609, .inr (.inl (vp_updL gg1 i (f0 i)))))] H := hP
      have hD : va_D A [(h0, .inr (6, [v0, .ref h2, .ref h1, v1, v2, v3, v4, v5, v6, v7, v8, v9, v10, v11, v12, v13, v14, v15, v16, v17, v18, v19, v20, v21, v22, v23, v24])), (h1, .inl (a0, 609, .inr (.inl f0))), (h2, .inl (a1, 609, .inr (.inl (vp_updL gg1 i (f0 i)))))] := hD
      refine lv_iinc (v := (nI (i + 1))) (lv' := [(1, .int (nI (i + 1))), (0, .ref h0)]) hx hb dX6_takesBack_21 hl (k := 0) rfl (nI_1 i) (by decide) rfl (fun ls hl => ?_)
      refine lv_goto (tgt := 2) hx hb dX6_takesBack_24 (by decide) ?_
      exact ih (i + 1) (by omega) (by omega) (vp_updL gg1 i (f0 i)) _ _ _ trivial (hP.sub [0, 1, 2] rfl) (hD.sub [0, 1, 2] (by decide) rfl) (hK.sub [0, 1] rfl) hS (lv_sub hl [0, 1] rfl)
  refine lq1 _ (fun gg1x H locs ls _ hP hD hK hS hl => ?_) 609 0 (Nat.le_refl _) rfl f1 _ _ _ trivial hP hD hK hS hl
  exact fv hx hb hr hlocks hP hD hK hS (gg1x) trivial [0, 1, 2] [0, 1] rfl (by decide) rfl (Nat.le_of_ble_eq_true rfl) (Nat.le_of_ble_eq_true rfl) dX6_takesBack_27
set_option maxHeartbeats 4000000 in
set_option maxRecDepth 100000 in
theorem cX6_errorOf_235 (l : Launch) (D : va_G) (h0 : Nat) (h1 : Nat) (h2 : Nat) (h3 : Nat) (v0 : Value) (v1 : Value) (v2 : Value) (v3 : Value) (v4 : Value) (v5 : Value) (v6 : Value) (v7 : Value) (v8 : Value) (v9 : Value) (v10 : Value) (v11 : Value) (v12 : Value) (v13 : Value) (v14 : Value) (v15 : Value) (v16 : Value) (v17 : Value) (v18 : Value) (v19 : Value) (v20 : Value) (v21 : Value) (v22 : Value) (f0 : Nat → Int64) (f1 : Nat → Int32) (f2 : Nat → Int64) (a0 : ClassId) (a1 : ClassId) (a2 : ClassId) (ef0_4 : f0 4 = 0) (ef0_5 : f0 5 = 0) (ef0_6 : f0 6 = 0) (ef1_0 : f1 0 = 0) (ef1_1 : f1 1 = 0)  : CT l yX6_errorOf cX6_errorOf 7 (some .long) { frames := 1, cells := 0, slots := 0, locals := 21 } [.ref h0, .int 0] D [(h0, .inr (6, [v0, .ref h1, .ref h3, v1, v2, v3, .ref h2, .int 2, v4, v5, v6, v7, v8, v9, v10, v11, v12, v13, v14, v15, v16, v17, v18, v19, v20, v21, v22])), (h1, .inl (a0, 609, .inr (.inl f0))), (h2, .inl (a1, 48, .inl f1)), (h3, .inl (a2, 609, .inr (.inl f2)))] [(a0, .long), (a1, .int), (a2, .long)] XN [(h0, .inr (6, [v0, .ref h1, .ref h3, v1, v2, v3, .ref h2, .int 2, v4, v5, v6, v7, v8, v9, v10, v11, v12, v13, v14, v15, v16, v17, v18, v19, v20, v21, v22])), (h1, .inl (a0, 609, .inr (.inl f0))), (h2, .inl (a1, 48, .inl f1)), (h3, .inl (a2, 609, .inr (.inl f2)))] (el (fun _ : (Nat → Int64) => True) (fun u => 0) (fun u => [(h0, .inr (6, [v0, .ref h1, .ref h3, v1, v2, v3, .ref h2, .int 2, v4, v5, v6, v7, v8, v9, v10, v11, v12, v13, v14, v15, v16, v17, v18, v19, v20, v21, v22])), (h1, .inl (a0, 609, .inr (.inl u))), (h2, .inl (a1, 48, .inl f1)), (h3, .inl (a2, 609, .inr (.inl f2)))]) (fun u => [(a0, .long), (a1, .int), (a2, .long)]) D) 0 0 := by
  refine CT.ofW (by decide +kernel) (Nat.le_of_ble_eq_true rfl) ?_
  intro p e s m below meth c A ls hcs hP hK hD hX hA hS hl
  obtain ⟨hx, hb, hr, hml, hown, hg, hlocks, hin⟩ := hcs
  have hown : s.vm.findClass RX6 = some m.cls := hown
  have hl : lv_has ls 7 [(0, .ref h0), (1, .int 0)] := hl
  refine lv_aload_n hx hb dX6_errorOf_0 rfl (lv_at hl 0 rfl) ?_
  refine cVi (n := 0) (As := []) (rest := []) (wr := [(h0, .inr (6, [v0, .ref h1, .ref h3, v1, v2, v3, .ref h2, .int 2, v4, v5, v6, v7, v8, v9, v10, v11, v12, v13, v14, v15, v16, v17, v18, v19, v20, v21, v22])), (h1, .inl (a0, 609, .inr (.inl f0))), (h2, .inl (a1, 48, .inl f1)), (h3, .inl (a2, 609, .inr (.inl f2)))]) (tr := [(a0, .long), (a1, .int), (a2, .long)]) hx hb hml hown hg okN (cX6_steps_35 l D h0 h1 v0 (.ref h3) v1 v2 v3 (.ref h2) (.int 2) v4 v5 v6 v7 v8 v9 v10 v11 v12 v13 v14 v15 v16 v17 v18 v19 v20 v21 v22 f0 a0 ef0_4) (mwV k1416 k1418 k52 k92 k1419) ⟨rfl, by decide, by decide, by decide +kernel⟩ ⟨rfl, rfl, (Nat.le_of_ble_eq_true rfl), (Nat.le_of_ble_eq_true rfl)⟩ hP hD hK hS xn [0, 1] [] [0, 1, 2, 3] [0] [0, 1, 2] rfl (by decide) rfl rfl (by decide) (by decide) rfl rfl (aNil hA hS) (aNil hA hS) 0 rfl rfl rfl hl.1 rfl (Nat.le_of_ble_eq_true rfl) dX6_errorOf_1 ⟨(Nat.le_of_ble_eq_true rfl), (Nat.le_of_ble_eq_true rfl)⟩ (fun u H locs hφ hP hD hK hS hk => ?_)
  have hP : va_P D vwCl [(h0, .inr (6, [v0, .ref h1, .ref h3, v1, v2, v3, .ref h2, .int 2, v4, v5, v6, v7, v8, v9, v10, v11, v12, v13, v14, v15, v16, v17, v18, v19, v20, v21, v22])), (h1, .inl (a0, 609, .inr (.inl f0))), (h2, .inl (a1, 48, .inl f1)), (h3, .inl (a2, 609, .inr (.inl f2)))] H := hP
  have hD : va_D A [(h0, .inr (6, [v0, .ref h1, .ref h3, v1, v2, v3, .ref h2, .int 2, v4, v5, v6, v7, v8, v9, v10, v11, v12, v13, v14, v15, v16, v17, v18, v19, v20, v21, v22])), (h1, .inl (a0, 609, .inr (.inl f0))), (h2, .inl (a1, 48, .inl f1)), (h3, .inl (a2, 609, .inr (.inl f2)))] := hD
  have hK : va_K D vwCl [(a0, .long), (a1, .int), (a2, .long)] s := hK
  refine W.widen (k := 0) (n := 0) (Nat.le_of_ble_eq_true rfl) (Nat.le_of_ble_eq_true rfl) ?_
  refine lv_if_le (tgt := 14) hx hb dX6_errorOf_4 (by decide) (fun _ => ?_) (fun c9 => absurd (by decide) c9)
  refine lv_lconst (v := 0) hx hb dX6_errorOf_14 (by decide) ?_
  refine lv_lstore_n (lv' := [(2, .long 0), (0, .ref h0), (1, .int 0)]) hx hb dX6_errorOf_15 rfl hl (by decide) rfl (fun ls hl => ?_)
  refine lv_iconst (v := 0) hx hb dX6_errorOf_16 (by decide) ?_
  refine lv_istore (lv' := [(4, .int 0), (2, .long 0), (0, .ref h0), (1, .int 0)]) hx hb dX6_errorOf_17 hl (by decide) rfl (fun ls hl => ?_)
  refine lv_iload hx hb dX6_errorOf_19 (lv_at hl 0 rfl) ?_
  refine lv_aload_n hx hb dX6_errorOf_21 rfl (lv_at hl 2 rfl) ?_
  refine va_get (D := D) (ci := 6) (v := .int 2) (C := RX6) (T := TX6) (N := 27) hx hb hg inX6 hown hK hP 0 rfl rfl 7 (by decide) (hg _ k1226) (fun _ h9 => h9) rfl dX6_errorOf_22 ?_
  refine lv_icmp_ge (tgt := 104) hx hb dX6_errorOf_25 (by decide) (fun c9 => absurd c9 (by decide)) (fun _ => ?_)
  refine lv_aload_n hx hb dX6_errorOf_28 rfl (lv_at hl 2 rfl) ?_
  refine va_get (D := D) (ci := 6) (v := .ref h1) (C := RX6) (T := TX6) (N := 27) hx hb hg inX6 hown hK hP 0 rfl rfl 1 (by decide) (hg _ k1220) (fun _ h9 => h9) rfl dX6_errorOf_29 ?_
  refine lv_iconst (v := 5) hx hb dX6_errorOf_32 (by decide) ?_
  refine lv_iload hx hb dX6_errorOf_33 (lv_at hl 0 rfl) ?_
  refine lv_iadd hx hb dX6_errorOf_35 ?_
  refine ti (5) (by decide) ?_
  refine aldL hx hb hK hP 1 0 rfl rfl 5 (by decide) (vin (by decide)) (v := 0) ef0_5 dX6_errorOf_36 ?_
  refine lv_aload_n hx hb dX6_errorOf_37 rfl (lv_at hl 2 rfl) ?_
  refine va_get (D := D) (ci := 6) (v := .ref h2) (C := RX6) (T := TX6) (N := 27) hx hb hg inX6 hown hK hP 0 rfl rfl 6 (by decide) (hg _ k1225) (fun _ h9 => h9) rfl dX6_errorOf_38 ?_
  refine lv_iload hx hb dX6_errorOf_41 (lv_at hl 0 rfl) ?_
  refine aldI hx hb hK hP 2 1 rfl rfl 0 (by decide) (vin (by decide)) (v := 0) ef1_0 dX6_errorOf_43 ?_
  refine lv_i2l (v := 0) hx hb dX6_errorOf_44 (by decide) ?_
  refine lv_lsub hx hb dX6_errorOf_45 ?_
  refine tl (0) (by decide) ?_
  refine cSl (n := 1) (As := [.long 0]) (rest := []) (wr := [(h0, .inr (6, [v0, .ref h1, .ref h3, v1, v2, v3, .ref h2, .int 2, v4, v5, v6, v7, v8, v9, v10, v11, v12, v13, v14, v15, v16, v17, v18, v19, v20, v21, v22])), (h1, .inl (a0, 609, .inr (.inl f0))), (h2, .inl (a1, 48, .inl f1)), (h3, .inl (a2, 609, .inr (.inl f2)))]) (tr := [(a0, .long), (a1, .int), (a2, .long)]) hx hb hml hown hg okN (cX6_amount_126 l D) (mwS k1488 k1489 k92 k1490) ⟨rfl, by decide, by decide, by decide +kernel⟩ ⟨rfl, rfl, (Nat.le_of_ble_eq_true rfl), (Nat.le_of_ble_eq_true rfl)⟩ hP hD hK hS xn [] [] [0, 1, 2, 3] [] [0, 1, 2] rfl (by decide) rfl rfl (by decide) (by decide) rfl rfl (aNil hA hS) (aNil hA hS) rfl hl.1 rfl (Nat.le_of_ble_eq_true rfl) dX6_errorOf_46 ⟨(Nat.le_of_ble_eq_true rfl), (Nat.le_of_ble_eq_true rfl)⟩ (fun u H locs hφ hP hD hK hS hk => ?_)
  have hP : va_P D vwCl [(h0, .inr (6, [v0, .ref h1, .ref h3, v1, v2, v3, .ref h2, .int 2, v4, v5, v6, v7, v8, v9, v10, v11, v12, v13, v14, v15, v16, v17, v18, v19, v20, v21, v22])), (h1, .inl (a0, 609, .inr (.inl f0))), (h2, .inl (a1, 48, .inl f1)), (h3, .inl (a2, 609, .inr (.inl f2)))] H := hP
  have hD : va_D A [(h0, .inr (6, [v0, .ref h1, .ref h3, v1, v2, v3, .ref h2, .int 2, v4, v5, v6, v7, v8, v9, v10, v11, v12, v13, v14, v15, v16, v17, v18, v19, v20, v21, v22])), (h1, .inl (a0, 609, .inr (.inl f0))), (h2, .inl (a1, 48, .inl f1)), (h3, .inl (a2, 609, .inr (.inl f2)))] := hD
  have hK : va_K D vwCl [(a0, .long), (a1, .int), (a2, .long)] s := hK
  refine W.widen (k := 0) (n := 0) (Nat.le_of_ble_eq_true rfl) (Nat.le_of_ble_eq_true rfl) ?_
  refine lv_lstore (lv' := [(5, .long 0), (4, .int 0), (2, .long 0), (0, .ref h0), (1, .int 0)]) hx hb dX6_errorOf_49 hl (by decide) rfl (fun ls hl => ?_)
  refine lv_iload_n hx hb dX6_errorOf_51 rfl (lv_at hl 4 rfl) ?_
  refine lv_if_ne (tgt := 71) hx hb dX6_errorOf_52 (by decide) (fun c9 => absurd (by decide) c9) (fun _ => ?_)
  refine lv_lload hx hb dX6_errorOf_55 (lv_at hl 0 rfl) ?_
  refine lv_lload_n hx hb dX6_errorOf_57 rfl (lv_at hl 2 rfl) ?_
  refine W.lcmp hx hb dX6_errorOf_58 ?_
  refine ti (0) (by decide) ?_
  refine lv_if_le (tgt := 67) hx hb dX6_errorOf_59 (by decide) (fun _ => ?_) (fun c9 => absurd (by decide) c9)
  refine lv_lload_n hx hb dX6_errorOf_67 rfl (lv_at hl 2 rfl) ?_
  refine lv_goto (tgt := 97) hx hb dX6_errorOf_68 (by decide) ?_
  refine lv_lstore_n (lv' := [(2, .long 0), (5, .long 0), (4, .int 0), (0, .ref h0), (1, .int 0)]) hx hb dX6_errorOf_97 rfl hl (by decide) rfl (fun ls hl => ?_)
  refine lv_iinc (v := 1) (lv' := [(4, .int 1), (2, .long 0), (5, .long 0), (0, .ref h0), (1, .int 0)]) hx hb dX6_errorOf_98 hl (k := 2) rfl (by decide) (by decide) rfl (fun ls hl => ?_)
  refine lv_goto (tgt := 19) hx hb dX6_errorOf_101 (by decide) ?_
  refine lv_iload hx hb dX6_errorOf_19 (lv_at hl 0 rfl) ?_
  refine lv_aload_n hx hb dX6_errorOf_21 rfl (lv_at hl 3 rfl) ?_
  refine va_get (D := D) (ci := 6) (v := .int 2) (C := RX6) (T := TX6) (N := 27) hx hb hg inX6 hown hK hP 0 rfl rfl 7 (by decide) (hg _ k1226) (fun _ h9 => h9) rfl dX6_errorOf_22 ?_
  refine lv_icmp_ge (tgt := 104) hx hb dX6_errorOf_25 (by decide) (fun c9 => absurd c9 (by decide)) (fun _ => ?_)
  refine lv_aload_n hx hb dX6_errorOf_28 rfl (lv_at hl 3 rfl) ?_
  refine va_get (D := D) (ci := 6) (v := .ref h1) (C := RX6) (T := TX6) (N := 27) hx hb hg inX6 hown hK hP 0 rfl rfl 1 (by decide) (hg _ k1220) (fun _ h9 => h9) rfl dX6_errorOf_29 ?_
  refine lv_iconst (v := 5) hx hb dX6_errorOf_32 (by decide) ?_
  refine lv_iload hx hb dX6_errorOf_33 (lv_at hl 0 rfl) ?_
  refine lv_iadd hx hb dX6_errorOf_35 ?_
  refine ti (6) (by decide) ?_
  refine aldL hx hb hK hP 1 0 rfl rfl 6 (by decide) (vin (by decide)) (v := 0) ef0_6 dX6_errorOf_36 ?_
  refine lv_aload_n hx hb dX6_errorOf_37 rfl (lv_at hl 3 rfl) ?_
  refine va_get (D := D) (ci := 6) (v := .ref h2) (C := RX6) (T := TX6) (N := 27) hx hb hg inX6 hown hK hP 0 rfl rfl 6 (by decide) (hg _ k1225) (fun _ h9 => h9) rfl dX6_errorOf_38 ?_
  refine lv_iload hx hb dX6_errorOf_41 (lv_at hl 0 rfl) ?_
  refine aldI hx hb hK hP 2 1 rfl rfl 1 (by decide) (vin (by decide)) (v := 0) ef1_1 dX6_errorOf_43 ?_
  refine lv_i2l (v := 0) hx hb dX6_errorOf_44 (by decide) ?_
  refine lv_lsub hx hb dX6_errorOf_45 ?_
  refine tl (0) (by decide) ?_
  refine cSl (n := 1) (As := [.long 0]) (rest := []) (wr := [(h0, .inr (6, [v0, .ref h1, .ref h3, v1, v2, v3, .ref h2, .int 2, v4, v5, v6, v7, v8, v9, v10, v11, v12, v13, v14, v15, v16, v17, v18, v19, v20, v21, v22])), (h1, .inl (a0, 609, .inr (.inl f0))), (h2, .inl (a1, 48, .inl f1)), (h3, .inl (a2, 609, .inr (.inl f2)))]) (tr := [(a0, .long), (a1, .int), (a2, .long)]) hx hb hml hown hg okN (cX6_amount_126 l D) (mwS k1488 k1489 k92 k1490) ⟨rfl, by decide, by decide, by decide +kernel⟩ ⟨rfl, rfl, (Nat.le_of_ble_eq_true rfl), (Nat.le_of_ble_eq_true rfl)⟩ hP hD hK hS xn [] [] [0, 1, 2, 3] [] [0, 1, 2] rfl (by decide) rfl rfl (by decide) (by decide) rfl rfl (aNil hA hS) (aNil hA hS) rfl hl.1 rfl (Nat.le_of_ble_eq_true rfl) dX6_errorOf_46 ⟨(Nat.le_of_ble_eq_true rfl), (Nat.le_of_ble_eq_true rfl)⟩ (fun u H locs hφ hP hD hK hS hk => ?_)
  have hP : va_P D vwCl [(h0, .inr (6, [v0, .ref h1, .ref h3, v1, v2, v3, .ref h2, .int 2, v4, v5, v6, v7, v8, v9, v10, v11, v12, v13, v14, v15, v16, v17, v18, v19, v20, v21, v22])), (h1, .inl (a0, 609, .inr (.inl f0))), (h2, .inl (a1, 48, .inl f1)), (h3, .inl (a2, 609, .inr (.inl f2)))] H := hP
  have hD : va_D A [(h0, .inr (6, [v0, .ref h1, .ref h3, v1, v2, v3, .ref h2, .int 2, v4, v5, v6, v7, v8, v9, v10, v11, v12, v13, v14, v15, v16, v17, v18, v19, v20, v21, v22])), (h1, .inl (a0, 609, .inr (.inl f0))), (h2, .inl (a1, 48, .inl f1)), (h3, .inl (a2, 609, .inr (.inl f2)))] := hD
  have hK : va_K D vwCl [(a0, .long), (a1, .int), (a2, .long)] s := hK
  refine W.widen (k := 0) (n := 0) (Nat.le_of_ble_eq_true rfl) (Nat.le_of_ble_eq_true rfl) ?_
  refine lv_lstore (lv' := [(5, .long 0), (4, .int 1), (2, .long 0), (0, .ref h0), (1, .int 0)]) hx hb dX6_errorOf_49 hl (by decide) rfl (fun ls hl => ?_)
  refine lv_iload_n hx hb dX6_errorOf_51 rfl (lv_at hl 4 rfl) ?_
  refine lv_if_ne (tgt := 71) hx hb dX6_errorOf_52 (by decide) (fun c9 => absurd (by decide) c9) (fun _ => ?_)
  refine lv_lload hx hb dX6_errorOf_55 (lv_at hl 0 rfl) ?_
  refine lv_lload_n hx hb dX6_errorOf_57 rfl (lv_at hl 2 rfl) ?_
  refine W.lcmp hx hb dX6_errorOf_58 ?_
  refine ti (0) (by decide) ?_
  refine lv_if_le (tgt := 67) hx hb dX6_errorOf_59 (by decide) (fun _ => ?_) (fun c9 => absurd (by decide) c9)
  refine lv_lload_n hx hb dX6_errorOf_67 rfl (lv_at hl 2 rfl) ?_
  refine lv_goto (tgt := 97) hx hb dX6_errorOf_68 (by decide) ?_
  refine lv_lstore_n (lv' := [(2, .long 0), (5, .long 0), (4, .int 1), (0, .ref h0), (1, .int 0)]) hx hb dX6_errorOf_97 rfl hl (by decide) rfl (fun ls hl => ?_)
  refine lv_iinc (v := 2) (lv' := [(4, .int 2), (2, .long 0), (5, .long 0), (0, .ref h0), (1, .int 0)]) hx hb dX6_errorOf_98 hl (k := 2) rfl (by decide) (by decide) rfl (fun ls hl => ?_)
  refine lv_goto (tgt := 19) hx hb dX6_errorOf_101 (by decide) ?_
  refine lv_iload hx hb dX6_errorOf_19 (lv_at hl 0 rfl) ?_
  refine lv_aload_n hx hb dX6_errorOf_21 rfl (lv_at hl 3 rfl) ?_
  refine va_get (D := D) (ci := 6) (v := .int 2) (C := RX6) (T := TX6) (N := 27) hx hb hg inX6 hown hK hP 0 rfl rfl 7 (by decide) (hg _ k1226) (fun _ h9 => h9) rfl dX6_errorOf_22 ?_
  refine lv_icmp_ge (tgt := 104) hx hb dX6_errorOf_25 (by decide) (fun _ => ?_) (fun c9 => absurd (by decide) c9)
  refine lv_aload_n hx hb dX6_errorOf_104 rfl (lv_at hl 3 rfl) ?_
  refine cVv (n := 0) (As := []) (rest := []) (wr := [(h2, .inl (a1, 48, .inl f1))]) (tr := [(a1, .int)]) hx hb hml hown hg okN (cX6_takesBack_236 l D h0 h3 h1 v0 v1 v2 v3 (.ref h2) (.int 2) v4 v5 v6 v7 v8 v9 v10 v11 v12 v13 v14 v15 v16 v17 v18 v19 v20 v21 v22 f2 f0 a2 a0) (mwV k1654 k1656 k80 k92 k1657) ⟨rfl, by decide, by decide, by decide +kernel⟩ ⟨rfl, rfl, (Nat.le_of_ble_eq_true rfl), (Nat.le_of_ble_eq_true rfl)⟩ hP hD hK hS xn [0, 3, 1] [0, 3, 1] [2] [2, 0] [1] rfl (by decide) rfl rfl (by decide) (by decide) rfl rfl (va_free hD hS hA [0, 3, 1] rfl) (va_free hD hS hA [0, 3, 1] rfl) 0 rfl rfl rfl hl.1 rfl (Nat.le_of_ble_eq_true rfl) dX6_errorOf_105 ⟨(Nat.le_of_ble_eq_true rfl), (Nat.le_of_ble_eq_true rfl)⟩ (fun u H locs hφ hP hD hK hS hk => ?_)
  obtain ⟨y1_1, rfl⟩ : ∃ z, z = u := ⟨_, rfl⟩
  have hP : va_P D vwCl [(h2, .inl (a1, 48, .inl f1)), (h0, .inr (6, [v0, .ref h1, .ref h3, v1, v2, v3, .ref h2, .int 2, v4, v5, v6, v7, v8, v9, v10, v11, v12, v13, v14, v15, v16, v17, v18, v19, v20, v21, v22])), (h3, .inl (a2, 609, .inr (.inl f2))), (h1, .inl (a0, 609, .inr (.inl y1_1)))] H := hP
  have hD : va_D A [(h2, .inl (a1, 48, .inl f1)), (h0, .inr (6, [v0, .ref h1, .ref h3, v1, v2, v3, .ref h2, .int 2, v4, v5, v6, v7, v8, v9, v10, v11, v12, v13, v14, v15, v16, v17, v18, v19, v20, v21, v22])), (h3, .inl (a2, 609, .inr (.inl f2))), (h1, .inl (a0, 609, .inr (.inl y1_1)))] := hD
  have hK : va_K D vwCl [(a1, .int), (a2, .long), (a0, .long)] s := hK
  refine W.widen (k := 0) (n := 0) (Nat.le_of_ble_eq_true rfl) (Nat.le_of_ble_eq_true rfl) ?_
  refine lv_lload_n hx hb dX6_errorOf_108 rfl (lv_at hl 1 rfl) ?_
  exact fl hx hb hr hlocks hP hD hK hS (y1_1) trivial rfl [1, 3, 0, 2] [2, 0, 1] rfl (by decide) rfl (Nat.le_of_ble_eq_true rfl) (Nat.le_of_ble_eq_true rfl) dX6_errorOf_109
set_option maxHeartbeats 4000000 in
set_option maxRecDepth 100000 in
theorem cX6_error_233 (l : Launch) (D : va_G) (h0 : Nat) (h1 : Nat) (h2 : Nat) (h3 : Nat) (v0 : Value) (v1 : Value) (v2 : Value) (v3 : Value) (v4 : Value) (v5 : Value) (v6 : Value) (v7 : Value) (v8 : Value) (v9 : Value) (v10 : Value) (v11 : Value) (v12 : Value) (v13 : Value) (v14 : Value) (v15 : Value) (v16 : Value) (v17 : Value) (v18 : Value) (v19 : Value) (v20 : Value) (v21 : Value) (v22 : Value) (f0 : Nat → Int64) (f1 : Nat → Int64) (f2 : Nat → Int32) (a0 : ClassId) (a1 : ClassId) (a2 : ClassId) (ef0_4 : f0 4 = 0) (ef0_5 : f0 5 = 0) (ef0_6 : f0 6 = 0) (ef2_0 : f2 0 = 0) (ef2_1 : f2 1 = 0)  : CT l yX6_error cX6_error 2 (some .long) { frames := 2, cells := 0, slots := 0, locals := 47 } [.ref h0, .int 0] D [(h0, .inr (6, [v0, .ref h1, .ref h2, v1, v2, v3, .ref h3, .int 2, v4, v5, v6, v7, v8, v9, v10, v11, v12, v13, v14, v15, v16, v17, v18, v19, v20, v21, v22])), (h1, .inl (a0, 609, .inr (.inl f0))), (h2, .inl (a1, 609, .inr (.inl f1))), (h3, .inl (a2, 48, .inl f2))] [(a0, .long), (a1, .long), (a2, .int)] XN [(h0, .inr (6, [v0, .ref h1, .ref h2, v1, v2, v3, .ref h3, .int 2, v4, v5, v6, v7, v8, v9, v10, v11, v12, v13, v14, v15, v16, v17, v18, v19, v20, v21, v22])), (h1, .inl (a0, 609, .inr (.inl f0))), (h2, .inl (a1, 609, .inr (.inl f1))), (h3, .inl (a2, 48, .inl f2))] (el (fun _ : (Nat → Int64) × (Nat → Int64) => True) (fun u => 0) (fun u => [(h0, .inr (6, [.int 0, .ref h1, .ref h2, v1, v2, v3, .ref h3, .int 2, v4, v5, v6, v7, v8, v9, v10, v11, v12, v13, v14, v15, v16, v17, v18, v19, v20, v21, v22])), (h1, .inl (a0, 609, .inr (.inl u.1))), (h2, .inl (a1, 609, .inr (.inl u.2))), (h3, .inl (a2, 48, .inl f2))]) (fun u => [(a0, .long), (a1, .long), (a2, .int)]) D) 0 0 := by
  refine CT.ofW (by decide +kernel) (Nat.le_of_ble_eq_true rfl) ?_
  intro p e s m below meth c A ls hcs hP hK hD hX hA hS hl
  obtain ⟨hx, hb, hr, hml, hown, hg, hlocks, hin⟩ := hcs
  have hown : s.vm.findClass RX6 = some m.cls := hown
  have hl : lv_has ls 2 [(0, .ref h0), (1, .int 0)] := hl
  refine lv_aload_n hx hb dX6_error_0 rfl (lv_at hl 0 rfl) ?_
  refine lv_iload_n hx hb dX6_error_1 rfl (lv_at hl 1 rfl) ?_
  refine lv_i2l (v := 0) hx hb dX6_error_2 (by decide) ?_
  refine lv_lconst (v := 0) hx hb dX6_error_3 (by decide) ?_
  refine lv_ldc2 hx hb hown (hg _ k1510) dX6_error_4 ?_
  refine cSi (n := 3) (As := [.long 0, .long 0, .long 2]) (rest := [.ref h0]) (wr := [(h0, .inr (6, [v0, .ref h1, .ref h2, v1, v2, v3, .ref h3, .int 2, v4, v5, v6, v7, v8, v9, v10, v11, v12, v13, v14, v15, v16, v17, v18, v19, v20, v21, v22])), (h1, .inl (a0, 609, .inr (.inl f0))), (h2, .inl (a1, 609, .inr (.inl f1))), (h3, .inl (a2, 48, .inl f2))]) (tr := [(a0, .long), (a1, .long), (a2, .int)]) hx hb hml hown hg okN (cX6_in_143 l D) (mwS k1317 k1318 k92 k1319) ⟨rfl, by decide, by decide, by decide +kernel⟩ ⟨rfl, rfl, (Nat.le_of_ble_eq_true rfl), (Nat.le_of_ble_eq_true rfl)⟩ hP hD hK hS xn [] [] [0, 1, 2, 3] [] [0, 1, 2] rfl (by decide) rfl rfl (by decide) (by decide) rfl rfl (aNil hA hS) (aNil hA hS) rfl hl.1 rfl (Nat.le_of_ble_eq_true rfl) dX6_error_7 ⟨(Nat.le_of_ble_eq_true rfl), (Nat.le_of_ble_eq_true rfl)⟩ (fun u H locs hφ hP hD hK hS hk => ?_)
  have hP : va_P D vwCl [(h0, .inr (6, [v0, .ref h1, .ref h2, v1, v2, v3, .ref h3, .int 2, v4, v5, v6, v7, v8, v9, v10, v11, v12, v13, v14, v15, v16, v17, v18, v19, v20, v21, v22])), (h1, .inl (a0, 609, .inr (.inl f0))), (h2, .inl (a1, 609, .inr (.inl f1))), (h3, .inl (a2, 48, .inl f2))] H := hP
  have hD : va_D A [(h0, .inr (6, [v0, .ref h1, .ref h2, v1, v2, v3, .ref h3, .int 2, v4, v5, v6, v7, v8, v9, v10, v11, v12, v13, v14, v15, v16, v17, v18, v19, v20, v21, v22])), (h1, .inl (a0, 609, .inr (.inl f0))), (h2, .inl (a1, 609, .inr (.inl f1))), (h3, .inl (a2, 48, .inl f2))] := hD
  have hK : va_K D vwCl [(a0, .long), (a1, .long), (a2, .int)] s := hK
  refine W.widen (k := 0) (n := 0) (Nat.le_of_ble_eq_true rfl) (Nat.le_of_ble_eq_true rfl) ?_
  refine lv_if_eq (tgt := 17) hx hb dX6_error_10 (by decide) (fun c9 => absurd c9 (by decide)) (fun _ => ?_)
  refine lv_iconst (v := 0) hx hb dX6_error_13 (by decide) ?_
  refine lv_goto (tgt := 18) hx hb dX6_error_14 (by decide) ?_
  refine va_put (D := D) (ci := 6) (v := .int 0) (ty := .int) (C := RX6) (T := TX6) (N := 27) hx hb hg inX6 tyX6 tyX6_ok nmX6 hown hK hP hD hS 0 rfl rfl 0 (by decide) (hg _ k1219) (fun _ h9 => h9) rfl (by decide +kernel) rfl rfl (Nat.le_of_ble_eq_true rfl) dX6_error_18 (fun H locs hP hD hS => ?_)
  have hP : va_P D vwCl [(h0, .inr (6, [.int 0, .ref h1, .ref h2, v1, v2, v3, .ref h3, .int 2, v4, v5, v6, v7, v8, v9, v10, v11, v12, v13, v14, v15, v16, v17, v18, v19, v20, v21, v22])), (h1, .inl (a0, 609, .inr (.inl f0))), (h2, .inl (a1, 609, .inr (.inl f1))), (h3, .inl (a2, 48, .inl f2))] H := hP
  have hD : va_D A [(h0, .inr (6, [.int 0, .ref h1, .ref h2, v1, v2, v3, .ref h3, .int 2, v4, v5, v6, v7, v8, v9, v10, v11, v12, v13, v14, v15, v16, v17, v18, v19, v20, v21, v22])), (h1, .inl (a0, 609, .inr (.inl f0))), (h2, .inl (a1, 609, .inr (.inl f1))), (h3, .inl (a2, 48, .inl f2))] := hD
  refine lv_aload_n hx hb dX6_error_21 rfl (lv_at hl 0 rfl) ?_
  refine va_get (D := D) (ci := 6) (v := .int 0) (C := RX6) (T := TX6) (N := 27) hx hb hg inX6 hown hK hP 0 rfl rfl 0 (by decide) (hg _ k1219) (fun _ h9 => h9) rfl dX6_error_22 ?_
  refine lv_if_le (tgt := 30) hx hb dX6_error_25 (by decide) (fun _ => ?_) (fun c9 => absurd (by decide) c9)
  refine lv_aload_n hx hb dX6_error_30 rfl (lv_at hl 0 rfl) ?_
  refine cVv (n := 0) (As := []) (rest := []) (wr := [(h3, .inl (a2, 48, .inl f2))]) (tr := [(a2, .int)]) hx hb hml hown hg okN (cX6_puts_234 l D h0 h1 h2 (.int 0) v1 v2 v3 (.ref h3) (.int 2) v4 v5 v6 v7 v8 v9 v10 v11 v12 v13 v14 v15 v16 v17 v18 v19 v20 v21 v22 f0 f1 a0 a1) (mwV k1646 k1648 k78 k92 k1649) ⟨rfl, by decide, by decide, by decide +kernel⟩ ⟨rfl, rfl, (Nat.le_of_ble_eq_true rfl), (Nat.le_of_ble_eq_true rfl)⟩ hP hD hK hS xn [0, 1, 2] [0, 1, 2] [3] [0, 1] [2] rfl (by decide) rfl rfl (by decide) (by decide) rfl rfl (va_free hD hS hA [0, 1, 2] rfl) (va_free hD hS hA [0, 1, 2] rfl) 0 rfl rfl rfl hl.1 rfl (Nat.le_of_ble_eq_true rfl) dX6_error_31 ⟨(Nat.le_of_ble_eq_true rfl), (Nat.le_of_ble_eq_true rfl)⟩ (fun u H locs hφ hP hD hK hS hk => ?_)
  obtain ⟨y0_1, rfl⟩ : ∃ z, z = u := ⟨_, rfl⟩
  have hP : va_P D vwCl [(h3, .inl (a2, 48, .inl f2)), (h0, .inr (6, [.int 0, .ref h1, .ref h2, v1, v2, v3, .ref h3, .int 2, v4, v5, v6, v7, v8, v9, v10, v11, v12, v13, v14, v15, v16, v17, v18, v19, v20, v21, v22])), (h1, .inl (a0, 609, .inr (.inl f0))), (h2, .inl (a1, 609, .inr (.inl y0_1)))] H := hP
  have hD : va_D A [(h3, .inl (a2, 48, .inl f2)), (h0, .inr (6, [.int 0, .ref h1, .ref h2, v1, v2, v3, .ref h3, .int 2, v4, v5, v6, v7, v8, v9, v10, v11, v12, v13, v14, v15, v16, v17, v18, v19, v20, v21, v22])), (h1, .inl (a0, 609, .inr (.inl f0))), (h2, .inl (a1, 609, .inr (.inl y0_1)))] := hD
  have hK : va_K D vwCl [(a2, .int), (a0, .long), (a1, .long)] s := hK
  refine W.widen (k := 0) (n := 0) (Nat.le_of_ble_eq_true rfl) (Nat.le_of_ble_eq_true rfl) ?_
  refine lv_aload_n hx hb dX6_error_34 rfl (lv_at hl 0 rfl) ?_
  refine lv_iload_n hx hb dX6_error_35 rfl (lv_at hl 1 rfl) ?_
  refine cVl (n := 1) (As := [.int 0]) (rest := []) (wr := []) (tr := []) hx hb hml hown hg okN (cX6_errorOf_235 l D h0 h1 h3 h2 (.int 0) v1 v2 v3 v4 v5 v6 v7 v8 v9 v10 v11 v12 v13 v14 v15 v16 v17 v18 v19 v20 v21 v22 f0 f2 y0_1 a0 a2 a1 ef0_4 ef0_5 ef0_6 ef2_0 ef2_1) (mwV k1650 k1652 k79 k92 k1653) ⟨rfl, by decide, by decide, by decide +kernel⟩ ⟨rfl, rfl, (Nat.le_of_ble_eq_true rfl), (Nat.le_of_ble_eq_true rfl)⟩ hP hD hK hS xn [1, 2, 0, 3] [1, 2, 0, 3] [] [1, 0, 2] [] rfl (by decide) rfl rfl (by decide) (by decide) rfl rfl (va_free hD hS hA [1, 2, 0, 3] rfl) (va_free hD hS hA [1, 2, 0, 3] rfl) 1 rfl rfl rfl hl.1 rfl (Nat.le_of_ble_eq_true rfl) dX6_error_36 ⟨(Nat.le_of_ble_eq_true rfl), (Nat.le_of_ble_eq_true rfl)⟩ (fun u H locs hφ hP hD hK hS hk => ?_)
  obtain ⟨y0_2, rfl⟩ : ∃ z, z = u := ⟨_, rfl⟩
  have hP : va_P D vwCl [(h0, .inr (6, [.int 0, .ref h1, .ref h2, v1, v2, v3, .ref h3, .int 2, v4, v5, v6, v7, v8, v9, v10, v11, v12, v13, v14, v15, v16, v17, v18, v19, v20, v21, v22])), (h1, .inl (a0, 609, .inr (.inl y0_2))), (h3, .inl (a2, 48, .inl f2)), (h2, .inl (a1, 609, .inr (.inl y0_1)))] H := hP
  have hD : va_D A [(h0, .inr (6, [.int 0, .ref h1, .ref h2, v1, v2, v3, .ref h3, .int 2, v4, v5, v6, v7, v8, v9, v10, v11, v12, v13, v14, v15, v16, v17, v18, v19, v20, v21, v22])), (h1, .inl (a0, 609, .inr (.inl y0_2))), (h3, .inl (a2, 48, .inl f2)), (h2, .inl (a1, 609, .inr (.inl y0_1)))] := hD
  have hK : va_K D vwCl [(a0, .long), (a2, .int), (a1, .long)] s := hK
  refine W.widen (k := 0) (n := 0) (Nat.le_of_ble_eq_true rfl) (Nat.le_of_ble_eq_true rfl) ?_
  exact fl hx hb hr hlocks hP hD hK hS ((y0_2, y0_1)) trivial rfl [0, 1, 3, 2] [0, 2, 1] rfl (by decide) rfl (Nat.le_of_ble_eq_true rfl) (Nat.le_of_ble_eq_true rfl) dX6_error_39
set_option maxHeartbeats 4000000 in
set_option maxRecDepth 100000 in
theorem cX6_errorOf_238 (l : Launch) (D : va_G) (h0 : Nat) (h1 : Nat) (h2 : Nat) (h3 : Nat) (v0 : Value) (v1 : Value) (v2 : Value) (v3 : Value) (v4 : Value) (v5 : Value) (v6 : Value) (v7 : Value) (v8 : Value) (v9 : Value) (v10 : Value) (v11 : Value) (v12 : Value) (v13 : Value) (v14 : Value) (v15 : Value) (v16 : Value) (v17 : Value) (v18 : Value) (v19 : Value) (v20 : Value) (v21 : Value) (v22 : Value) (f0 : Nat → Int64) (f1 : Nat → Int32) (f2 : Nat → Int64) (a0 : ClassId) (a1 : ClassId) (a2 : ClassId) (ef0_4 : f0 4 = 0) (ef0_5 : f0 5 = 0) (ef0_6 : f0 6 = 0) (ef1_0 : f1 0 = 0) (ef1_1 : f1 1 = 0)  : CT l yX6_errorOf cX6_errorOf 7 (some .long) { frames := 1, cells := 0, slots := 0, locals := 21 } [.ref h0, .int 1] D [(h0, .inr (6, [v0, .ref h1, .ref h3, v1, v2, v3, .ref h2, .int 2, v4, v5, v6, v7, v8, v9, v10, v11, v12, v13, v14, v15, v16, v17, v18, v19, v20, v21, v22])), (h1, .inl (a0, 609, .inr (.inl f0))), (h2, .inl (a1, 48, .inl f1)), (h3, .inl (a2, 609, .inr (.inl f2)))] [(a0, .long), (a1, .int), (a2, .long)] XN [(h0, .inr (6, [v0, .ref h1, .ref h3, v1, v2, v3, .ref h2, .int 2, v4, v5, v6, v7, v8, v9, v10, v11, v12, v13, v14, v15, v16, v17, v18, v19, v20, v21, v22])), (h1, .inl (a0, 609, .inr (.inl f0))), (h2, .inl (a1, 48, .inl f1)), (h3, .inl (a2, 609, .inr (.inl f2)))] (el (fun _ : (Nat → Int64) => True) (fun u => 0) (fun u => [(h0, .inr (6, [v0, .ref h1, .ref h3, v1, v2, v3, .ref h2, .int 2, v4, v5, v6, v7, v8, v9, v10, v11, v12, v13, v14, v15, v16, v17, v18, v19, v20, v21, v22])), (h1, .inl (a0, 609, .inr (.inl u))), (h2, .inl (a1, 48, .inl f1)), (h3, .inl (a2, 609, .inr (.inl f2)))]) (fun u => [(a0, .long), (a1, .int), (a2, .long)]) D) 0 0 := by
  refine CT.ofW (by decide +kernel) (Nat.le_of_ble_eq_true rfl) ?_
  intro p e s m below meth c A ls hcs hP hK hD hX hA hS hl
  obtain ⟨hx, hb, hr, hml, hown, hg, hlocks, hin⟩ := hcs
  have hown : s.vm.findClass RX6 = some m.cls := hown
  have hl : lv_has ls 7 [(0, .ref h0), (1, .int 1)] := hl
  refine lv_aload_n hx hb dX6_errorOf_0 rfl (lv_at hl 0 rfl) ?_
  refine cVi (n := 0) (As := []) (rest := []) (wr := [(h0, .inr (6, [v0, .ref h1, .ref h3, v1, v2, v3, .ref h2, .int 2, v4, v5, v6, v7, v8, v9, v10, v11, v12, v13, v14, v15, v16, v17, v18, v19, v20, v21, v22])), (h1, .inl (a0, 609, .inr (.inl f0))), (h2, .inl (a1, 48, .inl f1)), (h3, .inl (a2, 609, .inr (.inl f2)))]) (tr := [(a0, .long), (a1, .int), (a2, .long)]) hx hb hml hown hg okN (cX6_steps_35 l D h0 h1 v0 (.ref h3) v1 v2 v3 (.ref h2) (.int 2) v4 v5 v6 v7 v8 v9 v10 v11 v12 v13 v14 v15 v16 v17 v18 v19 v20 v21 v22 f0 a0 ef0_4) (mwV k1416 k1418 k52 k92 k1419) ⟨rfl, by decide, by decide, by decide +kernel⟩ ⟨rfl, rfl, (Nat.le_of_ble_eq_true rfl), (Nat.le_of_ble_eq_true rfl)⟩ hP hD hK hS xn [0, 1] [] [0, 1, 2, 3] [0] [0, 1, 2] rfl (by decide) rfl rfl (by decide) (by decide) rfl rfl (aNil hA hS) (aNil hA hS) 0 rfl rfl rfl hl.1 rfl (Nat.le_of_ble_eq_true rfl) dX6_errorOf_1 ⟨(Nat.le_of_ble_eq_true rfl), (Nat.le_of_ble_eq_true rfl)⟩ (fun u H locs hφ hP hD hK hS hk => ?_)
  have hP : va_P D vwCl [(h0, .inr (6, [v0, .ref h1, .ref h3, v1, v2, v3, .ref h2, .int 2, v4, v5, v6, v7, v8, v9, v10, v11, v12, v13, v14, v15, v16, v17, v18, v19, v20, v21, v22])), (h1, .inl (a0, 609, .inr (.inl f0))), (h2, .inl (a1, 48, .inl f1)), (h3, .inl (a2, 609, .inr (.inl f2)))] H := hP
  have hD : va_D A [(h0, .inr (6, [v0, .ref h1, .ref h3, v1, v2, v3, .ref h2, .int 2, v4, v5, v6, v7, v8, v9, v10, v11, v12, v13, v14, v15, v16, v17, v18, v19, v20, v21, v22])), (h1, .inl (a0, 609, .inr (.inl f0))), (h2, .inl (a1, 48, .inl f1)), (h3, .inl (a2, 609, .inr (.inl f2)))] := hD
  have hK : va_K D vwCl [(a0, .long), (a1, .int), (a2, .long)] s := hK
  refine W.widen (k := 0) (n := 0) (Nat.le_of_ble_eq_true rfl) (Nat.le_of_ble_eq_true rfl) ?_
  refine lv_if_le (tgt := 14) hx hb dX6_errorOf_4 (by decide) (fun _ => ?_) (fun c9 => absurd (by decide) c9)
  refine lv_lconst (v := 0) hx hb dX6_errorOf_14 (by decide) ?_
  refine lv_lstore_n (lv' := [(2, .long 0), (0, .ref h0), (1, .int 1)]) hx hb dX6_errorOf_15 rfl hl (by decide) rfl (fun ls hl => ?_)
  refine lv_iconst (v := 0) hx hb dX6_errorOf_16 (by decide) ?_
  refine lv_istore (lv' := [(4, .int 0), (2, .long 0), (0, .ref h0), (1, .int 1)]) hx hb dX6_errorOf_17 hl (by decide) rfl (fun ls hl => ?_)
  refine lv_iload hx hb dX6_errorOf_19 (lv_at hl 0 rfl) ?_
  refine lv_aload_n hx hb dX6_errorOf_21 rfl (lv_at hl 2 rfl) ?_
  refine va_get (D := D) (ci := 6) (v := .int 2) (C := RX6) (T := TX6) (N := 27) hx hb hg inX6 hown hK hP 0 rfl rfl 7 (by decide) (hg _ k1226) (fun _ h9 => h9) rfl dX6_errorOf_22 ?_
  refine lv_icmp_ge (tgt := 104) hx hb dX6_errorOf_25 (by decide) (fun c9 => absurd c9 (by decide)) (fun _ => ?_)
  refine lv_aload_n hx hb dX6_errorOf_28 rfl (lv_at hl 2 rfl) ?_
  refine va_get (D := D) (ci := 6) (v := .ref h1) (C := RX6) (T := TX6) (N := 27) hx hb hg inX6 hown hK hP 0 rfl rfl 1 (by decide) (hg _ k1220) (fun _ h9 => h9) rfl dX6_errorOf_29 ?_
  refine lv_iconst (v := 5) hx hb dX6_errorOf_32 (by decide) ?_
  refine lv_iload hx hb dX6_errorOf_33 (lv_at hl 0 rfl) ?_
  refine lv_iadd hx hb dX6_errorOf_35 ?_
  refine ti (5) (by decide) ?_
  refine aldL hx hb hK hP 1 0 rfl rfl 5 (by decide) (vin (by decide)) (v := 0) ef0_5 dX6_errorOf_36 ?_
  refine lv_aload_n hx hb dX6_errorOf_37 rfl (lv_at hl 2 rfl) ?_
  refine va_get (D := D) (ci := 6) (v := .ref h2) (C := RX6) (T := TX6) (N := 27) hx hb hg inX6 hown hK hP 0 rfl rfl 6 (by decide) (hg _ k1225) (fun _ h9 => h9) rfl dX6_errorOf_38 ?_
  refine lv_iload hx hb dX6_errorOf_41 (lv_at hl 0 rfl) ?_
  refine aldI hx hb hK hP 2 1 rfl rfl 0 (by decide) (vin (by decide)) (v := 0) ef1_0 dX6_errorOf_43 ?_
  refine lv_i2l (v := 0) hx hb dX6_errorOf_44 (by decide) ?_
  refine lv_lsub hx hb dX6_errorOf_45 ?_
  refine tl (0) (by decide) ?_
  refine cSl (n := 1) (As := [.long 0]) (rest := []) (wr := [(h0, .inr (6, [v0, .ref h1, .ref h3, v1, v2, v3, .ref h2, .int 2, v4, v5, v6, v7, v8, v9, v10, v11, v12, v13, v14, v15, v16, v17, v18, v19, v20, v21, v22])), (h1, .inl (a0, 609, .inr (.inl f0))), (h2, .inl (a1, 48, .inl f1)), (h3, .inl (a2, 609, .inr (.inl f2)))]) (tr := [(a0, .long), (a1, .int), (a2, .long)]) hx hb hml hown hg okN (cX6_amount_126 l D) (mwS k1488 k1489 k92 k1490) ⟨rfl, by decide, by decide, by decide +kernel⟩ ⟨rfl, rfl, (Nat.le_of_ble_eq_true rfl), (Nat.le_of_ble_eq_true rfl)⟩ hP hD hK hS xn [] [] [0, 1, 2, 3] [] [0, 1, 2] rfl (by decide) rfl rfl (by decide) (by decide) rfl rfl (aNil hA hS) (aNil hA hS) rfl hl.1 rfl (Nat.le_of_ble_eq_true rfl) dX6_errorOf_46 ⟨(Nat.le_of_ble_eq_true rfl), (Nat.le_of_ble_eq_true rfl)⟩ (fun u H locs hφ hP hD hK hS hk => ?_)
  have hP : va_P D vwCl [(h0, .inr (6, [v0, .ref h1, .ref h3, v1, v2, v3, .ref h2, .int 2, v4, v5, v6, v7, v8, v9, v10, v11, v12, v13, v14, v15, v16, v17, v18, v19, v20, v21, v22])), (h1, .inl (a0, 609, .inr (.inl f0))), (h2, .inl (a1, 48, .inl f1)), (h3, .inl (a2, 609, .inr (.inl f2)))] H := hP
  have hD : va_D A [(h0, .inr (6, [v0, .ref h1, .ref h3, v1, v2, v3, .ref h2, .int 2, v4, v5, v6, v7, v8, v9, v10, v11, v12, v13, v14, v15, v16, v17, v18, v19, v20, v21, v22])), (h1, .inl (a0, 609, .inr (.inl f0))), (h2, .inl (a1, 48, .inl f1)), (h3, .inl (a2, 609, .inr (.inl f2)))] := hD
  have hK : va_K D vwCl [(a0, .long), (a1, .int), (a2, .long)] s := hK
  refine W.widen (k := 0) (n := 0) (Nat.le_of_ble_eq_true rfl) (Nat.le_of_ble_eq_true rfl) ?_
  refine lv_lstore (lv' := [(5, .long 0), (4, .int 0), (2, .long 0), (0, .ref h0), (1, .int 1)]) hx hb dX6_errorOf_49 hl (by decide) rfl (fun ls hl => ?_)
  refine lv_iload_n hx hb dX6_errorOf_51 rfl (lv_at hl 4 rfl) ?_
  refine lv_if_ne (tgt := 71) hx hb dX6_errorOf_52 (by decide) (fun _ => ?_) (fun c9 => absurd c9 (by decide))
  refine lv_iload_n hx hb dX6_errorOf_71 rfl (lv_at hl 4 rfl) ?_
  refine lv_iconst (v := 1) hx hb dX6_errorOf_72 (by decide) ?_
  refine lv_icmp_ne (tgt := 83) hx hb dX6_errorOf_73 (by decide) (fun c9 => absurd (by decide) c9) (fun _ => ?_)
  refine lv_lload_n hx hb dX6_errorOf_76 rfl (lv_at hl 2 rfl) ?_
  refine lv_lload hx hb dX6_errorOf_77 (lv_at hl 0 rfl) ?_
  refine lv_ladd hx hb dX6_errorOf_79 ?_
  refine tl (0) (by decide) ?_
  refine lv_goto (tgt := 97) hx hb dX6_errorOf_80 (by decide) ?_
  refine lv_lstore_n (lv' := [(2, .long 0), (5, .long 0), (4, .int 0), (0, .ref h0), (1, .int 1)]) hx hb dX6_errorOf_97 rfl hl (by decide) rfl (fun ls hl => ?_)
  refine lv_iinc (v := 1) (lv' := [(4, .int 1), (2, .long 0), (5, .long 0), (0, .ref h0), (1, .int 1)]) hx hb dX6_errorOf_98 hl (k := 2) rfl (by decide) (by decide) rfl (fun ls hl => ?_)
  refine lv_goto (tgt := 19) hx hb dX6_errorOf_101 (by decide) ?_
  refine lv_iload hx hb dX6_errorOf_19 (lv_at hl 0 rfl) ?_
  refine lv_aload_n hx hb dX6_errorOf_21 rfl (lv_at hl 3 rfl) ?_
  refine va_get (D := D) (ci := 6) (v := .int 2) (C := RX6) (T := TX6) (N := 27) hx hb hg inX6 hown hK hP 0 rfl rfl 7 (by decide) (hg _ k1226) (fun _ h9 => h9) rfl dX6_errorOf_22 ?_
  refine lv_icmp_ge (tgt := 104) hx hb dX6_errorOf_25 (by decide) (fun c9 => absurd c9 (by decide)) (fun _ => ?_)
  refine lv_aload_n hx hb dX6_errorOf_28 rfl (lv_at hl 3 rfl) ?_
  refine va_get (D := D) (ci := 6) (v := .ref h1) (C := RX6) (T := TX6) (N := 27) hx hb hg inX6 hown hK hP 0 rfl rfl 1 (by decide) (hg _ k1220) (fun _ h9 => h9) rfl dX6_errorOf_29 ?_
  refine lv_iconst (v := 5) hx hb dX6_errorOf_32 (by decide) ?_
  refine lv_iload hx hb dX6_errorOf_33 (lv_at hl 0 rfl) ?_
  refine lv_iadd hx hb dX6_errorOf_35 ?_
  refine ti (6) (by decide) ?_
  refine aldL hx hb hK hP 1 0 rfl rfl 6 (by decide) (vin (by decide)) (v := 0) ef0_6 dX6_errorOf_36 ?_
  refine lv_aload_n hx hb dX6_errorOf_37 rfl (lv_at hl 3 rfl) ?_
  refine va_get (D := D) (ci := 6) (v := .ref h2) (C := RX6) (T := TX6) (N := 27) hx hb hg inX6 hown hK hP 0 rfl rfl 6 (by decide) (hg _ k1225) (fun _ h9 => h9) rfl dX6_errorOf_38 ?_
  refine lv_iload hx hb dX6_errorOf_41 (lv_at hl 0 rfl) ?_
  refine aldI hx hb hK hP 2 1 rfl rfl 1 (by decide) (vin (by decide)) (v := 0) ef1_1 dX6_errorOf_43 ?_
  refine lv_i2l (v := 0) hx hb dX6_errorOf_44 (by decide) ?_
  refine lv_lsub hx hb dX6_errorOf_45 ?_
  refine tl (0) (by decide) ?_
  refine cSl (n := 1) (As := [.long 0]) (rest := []) (wr := [(h0, .inr (6, [v0, .ref h1, .ref h3, v1, v2, v3, .ref h2, .int 2, v4, v5, v6, v7, v8, v9, v10, v11, v12, v13, v14, v15, v16, v17, v18, v19, v20, v21, v22])), (h1, .inl (a0, 609, .inr (.inl f0))), (h2, .inl (a1, 48, .inl f1)), (h3, .inl (a2, 609, .inr (.inl f2)))]) (tr := [(a0, .long), (a1, .int), (a2, .long)]) hx hb hml hown hg okN (cX6_amount_126 l D) (mwS k1488 k1489 k92 k1490) ⟨rfl, by decide, by decide, by decide +kernel⟩ ⟨rfl, rfl, (Nat.le_of_ble_eq_true rfl), (Nat.le_of_ble_eq_true rfl)⟩ hP hD hK hS xn [] [] [0, 1, 2, 3] [] [0, 1, 2] rfl (by decide) rfl rfl (by decide) (by decide) rfl rfl (aNil hA hS) (aNil hA hS) rfl hl.1 rfl (Nat.le_of_ble_eq_true rfl) dX6_errorOf_46 ⟨(Nat.le_of_ble_eq_true rfl), (Nat.le_of_ble_eq_true rfl)⟩ (fun u H locs hφ hP hD hK hS hk => ?_)
  have hP : va_P D vwCl [(h0, .inr (6, [v0, .ref h1, .ref h3, v1, v2, v3, .ref h2, .int 2, v4, v5, v6, v7, v8, v9, v10, v11, v12, v13, v14, v15, v16, v17, v18, v19, v20, v21, v22])), (h1, .inl (a0, 609, .inr (.inl f0))), (h2, .inl (a1, 48, .inl f1)), (h3, .inl (a2, 609, .inr (.inl f2)))] H := hP
  have hD : va_D A [(h0, .inr (6, [v0, .ref h1, .ref h3, v1, v2, v3, .ref h2, .int 2, v4, v5, v6, v7, v8, v9, v10, v11, v12, v13, v14, v15, v16, v17, v18, v19, v20, v21, v22])), (h1, .inl (a0, 609, .inr (.inl f0))), (h2, .inl (a1, 48, .inl f1)), (h3, .inl (a2, 609, .inr (.inl f2)))] := hD
  have hK : va_K D vwCl [(a0, .long), (a1, .int), (a2, .long)] s := hK
  refine W.widen (k := 0) (n := 0) (Nat.le_of_ble_eq_true rfl) (Nat.le_of_ble_eq_true rfl) ?_
  refine lv_lstore (lv' := [(5, .long 0), (4, .int 1), (2, .long 0), (0, .ref h0), (1, .int 1)]) hx hb dX6_errorOf_49 hl (by decide) rfl (fun ls hl => ?_)
  refine lv_iload_n hx hb dX6_errorOf_51 rfl (lv_at hl 4 rfl) ?_
  refine lv_if_ne (tgt := 71) hx hb dX6_errorOf_52 (by decide) (fun _ => ?_) (fun c9 => absurd c9 (by decide))
  refine lv_iload_n hx hb dX6_errorOf_71 rfl (lv_at hl 4 rfl) ?_
  refine lv_iconst (v := 1) hx hb dX6_errorOf_72 (by decide) ?_
  refine lv_icmp_ne (tgt := 83) hx hb dX6_errorOf_73 (by decide) (fun c9 => absurd (by decide) c9) (fun _ => ?_)
  refine lv_lload_n hx hb dX6_errorOf_76 rfl (lv_at hl 2 rfl) ?_
  refine lv_lload hx hb dX6_errorOf_77 (lv_at hl 0 rfl) ?_
  refine lv_ladd hx hb dX6_errorOf_79 ?_
  refine tl (0) (by decide) ?_
  refine lv_goto (tgt := 97) hx hb dX6_errorOf_80 (by decide) ?_
  refine lv_lstore_n (lv' := [(2, .long 0), (5, .long 0), (4, .int 1), (0, .ref h0), (1, .int 1)]) hx hb dX6_errorOf_97 rfl hl (by decide) rfl (fun ls hl => ?_)
  refine lv_iinc (v := 2) (lv' := [(4, .int 2), (2, .long 0), (5, .long 0), (0, .ref h0), (1, .int 1)]) hx hb dX6_errorOf_98 hl (k := 2) rfl (by decide) (by decide) rfl (fun ls hl => ?_)
  refine lv_goto (tgt := 19) hx hb dX6_errorOf_101 (by decide) ?_
  refine lv_iload hx hb dX6_errorOf_19 (lv_at hl 0 rfl) ?_
  refine lv_aload_n hx hb dX6_errorOf_21 rfl (lv_at hl 3 rfl) ?_
  refine va_get (D := D) (ci := 6) (v := .int 2) (C := RX6) (T := TX6) (N := 27) hx hb hg inX6 hown hK hP 0 rfl rfl 7 (by decide) (hg _ k1226) (fun _ h9 => h9) rfl dX6_errorOf_22 ?_
  refine lv_icmp_ge (tgt := 104) hx hb dX6_errorOf_25 (by decide) (fun _ => ?_) (fun c9 => absurd (by decide) c9)
  refine lv_aload_n hx hb dX6_errorOf_104 rfl (lv_at hl 3 rfl) ?_
  refine cVv (n := 0) (As := []) (rest := []) (wr := [(h2, .inl (a1, 48, .inl f1))]) (tr := [(a1, .int)]) hx hb hml hown hg okN (cX6_takesBack_236 l D h0 h3 h1 v0 v1 v2 v3 (.ref h2) (.int 2) v4 v5 v6 v7 v8 v9 v10 v11 v12 v13 v14 v15 v16 v17 v18 v19 v20 v21 v22 f2 f0 a2 a0) (mwV k1654 k1656 k80 k92 k1657) ⟨rfl, by decide, by decide, by decide +kernel⟩ ⟨rfl, rfl, (Nat.le_of_ble_eq_true rfl), (Nat.le_of_ble_eq_true rfl)⟩ hP hD hK hS xn [0, 3, 1] [0, 3, 1] [2] [2, 0] [1] rfl (by decide) rfl rfl (by decide) (by decide) rfl rfl (va_free hD hS hA [0, 3, 1] rfl) (va_free hD hS hA [0, 3, 1] rfl) 0 rfl rfl rfl hl.1 rfl (Nat.le_of_ble_eq_true rfl) dX6_errorOf_105 ⟨(Nat.le_of_ble_eq_true rfl), (Nat.le_of_ble_eq_true rfl)⟩ (fun u H locs hφ hP hD hK hS hk => ?_)
  obtain ⟨y1_1, rfl⟩ : ∃ z, z = u := ⟨_, rfl⟩
  have hP : va_P D vwCl [(h2, .inl (a1, 48, .inl f1)), (h0, .inr (6, [v0, .ref h1, .ref h3, v1, v2, v3, .ref h2, .int 2, v4, v5, v6, v7, v8, v9, v10, v11, v12, v13, v14, v15, v16, v17, v18, v19, v20, v21, v22])), (h3, .inl (a2, 609, .inr (.inl f2))), (h1, .inl (a0, 609, .inr (.inl y1_1)))] H := hP
  have hD : va_D A [(h2, .inl (a1, 48, .inl f1)), (h0, .inr (6, [v0, .ref h1, .ref h3, v1, v2, v3, .ref h2, .int 2, v4, v5, v6, v7, v8, v9, v10, v11, v12, v13, v14, v15, v16, v17, v18, v19, v20, v21, v22])), (h3, .inl (a2, 609, .inr (.inl f2))), (h1, .inl (a0, 609, .inr (.inl y1_1)))] := hD
  have hK : va_K D vwCl [(a1, .int), (a2, .long), (a0, .long)] s := hK
  refine W.widen (k := 0) (n := 0) (Nat.le_of_ble_eq_true rfl) (Nat.le_of_ble_eq_true rfl) ?_
  refine lv_lload_n hx hb dX6_errorOf_108 rfl (lv_at hl 1 rfl) ?_
  exact fl hx hb hr hlocks hP hD hK hS (y1_1) trivial rfl [1, 3, 0, 2] [2, 0, 1] rfl (by decide) rfl (Nat.le_of_ble_eq_true rfl) (Nat.le_of_ble_eq_true rfl) dX6_errorOf_109
set_option maxHeartbeats 4000000 in
set_option maxRecDepth 100000 in
theorem cX6_error_237 (l : Launch) (D : va_G) (h0 : Nat) (h1 : Nat) (h2 : Nat) (h3 : Nat) (v0 : Value) (v1 : Value) (v2 : Value) (v3 : Value) (v4 : Value) (v5 : Value) (v6 : Value) (v7 : Value) (v8 : Value) (v9 : Value) (v10 : Value) (v11 : Value) (v12 : Value) (v13 : Value) (v14 : Value) (v15 : Value) (v16 : Value) (v17 : Value) (v18 : Value) (v19 : Value) (v20 : Value) (v21 : Value) (v22 : Value) (f0 : Nat → Int64) (f1 : Nat → Int64) (f2 : Nat → Int32) (a0 : ClassId) (a1 : ClassId) (a2 : ClassId) (ef0_4 : f0 4 = 0) (ef0_5 : f0 5 = 0) (ef0_6 : f0 6 = 0) (ef2_0 : f2 0 = 0) (ef2_1 : f2 1 = 0)  : CT l yX6_error cX6_error 2 (some .long) { frames := 2, cells := 0, slots := 0, locals := 47 } [.ref h0, .int 1] D [(h0, .inr (6, [v0, .ref h1, .ref h2, v1, v2, v3, .ref h3, .int 2, v4, v5, v6, v7, v8, v9, v10, v11, v12, v13, v14, v15, v16, v17, v18, v19, v20, v21, v22])), (h1, .inl (a0, 609, .inr (.inl f0))), (h2, .inl (a1, 609, .inr (.inl f1))), (h3, .inl (a2, 48, .inl f2))] [(a0, .long), (a1, .long), (a2, .int)] XN [(h0, .inr (6, [v0, .ref h1, .ref h2, v1, v2, v3, .ref h3, .int 2, v4, v5, v6, v7, v8, v9, v10, v11, v12, v13, v14, v15, v16, v17, v18, v19, v20, v21, v22])), (h1, .inl (a0, 609, .inr (.inl f0))), (h2, .inl (a1, 609, .inr (.inl f1))), (h3, .inl (a2, 48, .inl f2))] (el (fun _ : (Nat → Int64) × (Nat → Int64) => True) (fun u => 0) (fun u => [(h0, .inr (6, [.int 0, .ref h1, .ref h2, v1, v2, v3, .ref h3, .int 2, v4, v5, v6, v7, v8, v9, v10, v11, v12, v13, v14, v15, v16, v17, v18, v19, v20, v21, v22])), (h1, .inl (a0, 609, .inr (.inl u.1))), (h2, .inl (a1, 609, .inr (.inl u.2))), (h3, .inl (a2, 48, .inl f2))]) (fun u => [(a0, .long), (a1, .long), (a2, .int)]) D) 0 0 := by
  refine CT.ofW (by decide +kernel) (Nat.le_of_ble_eq_true rfl) ?_
  intro p e s m below meth c A ls hcs hP hK hD hX hA hS hl
  obtain ⟨hx, hb, hr, hml, hown, hg, hlocks, hin⟩ := hcs
  have hown : s.vm.findClass RX6 = some m.cls := hown
  have hl : lv_has ls 2 [(0, .ref h0), (1, .int 1)] := hl
  refine lv_aload_n hx hb dX6_error_0 rfl (lv_at hl 0 rfl) ?_
  refine lv_iload_n hx hb dX6_error_1 rfl (lv_at hl 1 rfl) ?_
  refine lv_i2l (v := 1) hx hb dX6_error_2 (by decide) ?_
  refine lv_lconst (v := 0) hx hb dX6_error_3 (by decide) ?_
  refine lv_ldc2 hx hb hown (hg _ k1510) dX6_error_4 ?_
  refine cSi (n := 3) (As := [.long 1, .long 0, .long 2]) (rest := [.ref h0]) (wr := [(h0, .inr (6, [v0, .ref h1, .ref h2, v1, v2, v3, .ref h3, .int 2, v4, v5, v6, v7, v8, v9, v10, v11, v12, v13, v14, v15, v16, v17, v18, v19, v20, v21, v22])), (h1, .inl (a0, 609, .inr (.inl f0))), (h2, .inl (a1, 609, .inr (.inl f1))), (h3, .inl (a2, 48, .inl f2))]) (tr := [(a0, .long), (a1, .long), (a2, .int)]) hx hb hml hown hg okN (cX6_in_146 l D) (mwS k1317 k1318 k92 k1319) ⟨rfl, by decide, by decide, by decide +kernel⟩ ⟨rfl, rfl, (Nat.le_of_ble_eq_true rfl), (Nat.le_of_ble_eq_true rfl)⟩ hP hD hK hS xn [] [] [0, 1, 2, 3] [] [0, 1, 2] rfl (by decide) rfl rfl (by decide) (by decide) rfl rfl (aNil hA hS) (aNil hA hS) rfl hl.1 rfl (Nat.le_of_ble_eq_true rfl) dX6_error_7 ⟨(Nat.le_of_ble_eq_true rfl), (Nat.le_of_ble_eq_true rfl)⟩ (fun u H locs hφ hP hD hK hS hk => ?_)
  have hP : va_P D vwCl [(h0, .inr (6, [v0, .ref h1, .ref h2, v1, v2, v3, .ref h3, .int 2, v4, v5, v6, v7, v8, v9, v10, v11, v12, v13, v14, v15, v16, v17, v18, v19, v20, v21, v22])), (h1, .inl (a0, 609, .inr (.inl f0))), (h2, .inl (a1, 609, .inr (.inl f1))), (h3, .inl (a2, 48, .inl f2))] H := hP
  have hD : va_D A [(h0, .inr (6, [v0, .ref h1, .ref h2, v1, v2, v3, .ref h3, .int 2, v4, v5, v6, v7, v8, v9, v10, v11, v12, v13, v14, v15, v16, v17, v18, v19, v20, v21, v22])), (h1, .inl (a0, 609, .inr (.inl f0))), (h2, .inl (a1, 609, .inr (.inl f1))), (h3, .inl (a2, 48, .inl f2))] := hD
  have hK : va_K D vwCl [(a0, .long), (a1, .long), (a2, .int)] s := hK
  refine W.widen (k := 0) (n := 0) (Nat.le_of_ble_eq_true rfl) (Nat.le_of_ble_eq_true rfl) ?_
  refine lv_if_eq (tgt := 17) hx hb dX6_error_10 (by decide) (fun c9 => absurd c9 (by decide)) (fun _ => ?_)
  refine lv_iconst (v := 0) hx hb dX6_error_13 (by decide) ?_
  refine lv_goto (tgt := 18) hx hb dX6_error_14 (by decide) ?_
  refine va_put (D := D) (ci := 6) (v := .int 0) (ty := .int) (C := RX6) (T := TX6) (N := 27) hx hb hg inX6 tyX6 tyX6_ok nmX6 hown hK hP hD hS 0 rfl rfl 0 (by decide) (hg _ k1219) (fun _ h9 => h9) rfl (by decide +kernel) rfl rfl (Nat.le_of_ble_eq_true rfl) dX6_error_18 (fun H locs hP hD hS => ?_)
  have hP : va_P D vwCl [(h0, .inr (6, [.int 0, .ref h1, .ref h2, v1, v2, v3, .ref h3, .int 2, v4, v5, v6, v7, v8, v9, v10, v11, v12, v13, v14, v15, v16, v17, v18, v19, v20, v21, v22])), (h1, .inl (a0, 609, .inr (.inl f0))), (h2, .inl (a1, 609, .inr (.inl f1))), (h3, .inl (a2, 48, .inl f2))] H := hP
  have hD : va_D A [(h0, .inr (6, [.int 0, .ref h1, .ref h2, v1, v2, v3, .ref h3, .int 2, v4, v5, v6, v7, v8, v9, v10, v11, v12, v13, v14, v15, v16, v17, v18, v19, v20, v21, v22])), (h1, .inl (a0, 609, .inr (.inl f0))), (h2, .inl (a1, 609, .inr (.inl f1))), (h3, .inl (a2, 48, .inl f2))] := hD
  refine lv_aload_n hx hb dX6_error_21 rfl (lv_at hl 0 rfl) ?_
  refine va_get (D := D) (ci := 6) (v := .int 0) (C := RX6) (T := TX6) (N := 27) hx hb hg inX6 hown hK hP 0 rfl rfl 0 (by decide) (hg _ k1219) (fun _ h9 => h9) rfl dX6_error_22 ?_
  refine lv_if_le (tgt := 30) hx hb dX6_error_25 (by decide) (fun _ => ?_) (fun c9 => absurd (by decide) c9)
  refine lv_aload_n hx hb dX6_error_30 rfl (lv_at hl 0 rfl) ?_
  refine cVv (n := 0) (As := []) (rest := []) (wr := [(h3, .inl (a2, 48, .inl f2))]) (tr := [(a2, .int)]) hx hb hml hown hg okN (cX6_puts_234 l D h0 h1 h2 (.int 0) v1 v2 v3 (.ref h3) (.int 2) v4 v5 v6 v7 v8 v9 v10 v11 v12 v13 v14 v15 v16 v17 v18 v19 v20 v21 v22 f0 f1 a0 a1) (mwV k1646 k1648 k78 k92 k1649) ⟨rfl, by decide, by decide, by decide +kernel⟩ ⟨rfl, rfl, (Nat.le_of_ble_eq_true rfl), (Nat.le_of_ble_eq_true rfl)⟩ hP hD hK hS xn [0, 1, 2] [0, 1, 2] [3] [0, 1] [2] rfl (by decide) rfl rfl (by decide) (by decide) rfl rfl (va_free hD hS hA [0, 1, 2] rfl) (va_free hD hS hA [0, 1, 2] rfl) 0 rfl rfl rfl hl.1 rfl (Nat.le_of_ble_eq_true rfl) dX6_error_31 ⟨(Nat.le_of_ble_eq_true rfl), (Nat.le_of_ble_eq_true rfl)⟩ (fun u H locs hφ hP hD hK hS hk => ?_)
  obtain ⟨y0_1, rfl⟩ : ∃ z, z = u := ⟨_, rfl⟩
  have hP : va_P D vwCl [(h3, .inl (a2, 48, .inl f2)), (h0, .inr (6, [.int 0, .ref h1, .ref h2, v1, v2, v3, .ref h3, .int 2, v4, v5, v6, v7, v8, v9, v10, v11, v12, v13, v14, v15, v16, v17, v18, v19, v20, v21, v22])), (h1, .inl (a0, 609, .inr (.inl f0))), (h2, .inl (a1, 609, .inr (.inl y0_1)))] H := hP
  have hD : va_D A [(h3, .inl (a2, 48, .inl f2)), (h0, .inr (6, [.int 0, .ref h1, .ref h2, v1, v2, v3, .ref h3, .int 2, v4, v5, v6, v7, v8, v9, v10, v11, v12, v13, v14, v15, v16, v17, v18, v19, v20, v21, v22])), (h1, .inl (a0, 609, .inr (.inl f0))), (h2, .inl (a1, 609, .inr (.inl y0_1)))] := hD
  have hK : va_K D vwCl [(a2, .int), (a0, .long), (a1, .long)] s := hK
  refine W.widen (k := 0) (n := 0) (Nat.le_of_ble_eq_true rfl) (Nat.le_of_ble_eq_true rfl) ?_
  refine lv_aload_n hx hb dX6_error_34 rfl (lv_at hl 0 rfl) ?_
  refine lv_iload_n hx hb dX6_error_35 rfl (lv_at hl 1 rfl) ?_
  refine cVl (n := 1) (As := [.int 1]) (rest := []) (wr := []) (tr := []) hx hb hml hown hg okN (cX6_errorOf_238 l D h0 h1 h3 h2 (.int 0) v1 v2 v3 v4 v5 v6 v7 v8 v9 v10 v11 v12 v13 v14 v15 v16 v17 v18 v19 v20 v21 v22 f0 f2 y0_1 a0 a2 a1 ef0_4 ef0_5 ef0_6 ef2_0 ef2_1) (mwV k1650 k1652 k79 k92 k1653) ⟨rfl, by decide, by decide, by decide +kernel⟩ ⟨rfl, rfl, (Nat.le_of_ble_eq_true rfl), (Nat.le_of_ble_eq_true rfl)⟩ hP hD hK hS xn [1, 2, 0, 3] [1, 2, 0, 3] [] [1, 0, 2] [] rfl (by decide) rfl rfl (by decide) (by decide) rfl rfl (va_free hD hS hA [1, 2, 0, 3] rfl) (va_free hD hS hA [1, 2, 0, 3] rfl) 1 rfl rfl rfl hl.1 rfl (Nat.le_of_ble_eq_true rfl) dX6_error_36 ⟨(Nat.le_of_ble_eq_true rfl), (Nat.le_of_ble_eq_true rfl)⟩ (fun u H locs hφ hP hD hK hS hk => ?_)
  obtain ⟨y0_2, rfl⟩ : ∃ z, z = u := ⟨_, rfl⟩
  have hP : va_P D vwCl [(h0, .inr (6, [.int 0, .ref h1, .ref h2, v1, v2, v3, .ref h3, .int 2, v4, v5, v6, v7, v8, v9, v10, v11, v12, v13, v14, v15, v16, v17, v18, v19, v20, v21, v22])), (h1, .inl (a0, 609, .inr (.inl y0_2))), (h3, .inl (a2, 48, .inl f2)), (h2, .inl (a1, 609, .inr (.inl y0_1)))] H := hP
  have hD : va_D A [(h0, .inr (6, [.int 0, .ref h1, .ref h2, v1, v2, v3, .ref h3, .int 2, v4, v5, v6, v7, v8, v9, v10, v11, v12, v13, v14, v15, v16, v17, v18, v19, v20, v21, v22])), (h1, .inl (a0, 609, .inr (.inl y0_2))), (h3, .inl (a2, 48, .inl f2)), (h2, .inl (a1, 609, .inr (.inl y0_1)))] := hD
  have hK : va_K D vwCl [(a0, .long), (a2, .int), (a1, .long)] s := hK
  refine W.widen (k := 0) (n := 0) (Nat.le_of_ble_eq_true rfl) (Nat.le_of_ble_eq_true rfl) ?_
  exact fl hx hb hr hlocks hP hD hK hS ((y0_2, y0_1)) trivial rfl [0, 1, 3, 2] [0, 2, 1] rfl (by decide) rfl (Nat.le_of_ble_eq_true rfl) (Nat.le_of_ble_eq_true rfl) dX6_error_39
