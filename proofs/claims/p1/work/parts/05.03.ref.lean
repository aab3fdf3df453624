set_option maxHeartbeats 4000000 in
set_option maxRecDepth 100000 in
theorem cX6_errorOf_240 (l : Launch) (D : va_G) (h0 : Nat) (h1 : Nat) (h2 : Nat) (h3 : Nat) (v0 : Value) (v1 : Value) (v2 : Value) (v3 : Value) (v4 : Value) (v5 : Value) (v6 : Value) (v7 : Value) (v8 : Value) (v9 : Value) (v10 : Value) (v11 : Value) (v12 : Value) (v13 : Value) (v14 : Value) (v15 : Value) (v16 : Value) (v17 : Value) (v18 : Value) (v19 : Value) (v20 : Value) (v21 : Value) (v22 : Value) (f0 : Nat → Int64) (f1 : Nat → Int32) (f2 : Nat → Int64) (a0 : ClassId) (a1 : ClassId) (a2 : ClassId) (ef0_4 : f0 4 = 0) (ef0_5 : f0 5 = 0) (ef0_6 : f0 6 = 0) (ef1_0 : f1 0 = 0) (ef1_1 : f1 1 = 0)  : CT l yX6_errorOf cX6_errorOf 7 (some .long) { frames := 1, cells := 0, slots := 0, locals := 21 } [.ref h0, .int 2] D [(h0, .inr (6, [v0, .ref h1, .ref h3, v1, v2, v3, .ref h2, .int 2, v4, v5, v6, v7, v8, v9, v10, v11, v12, v13, v14, v15, v16, v17, v18, v19, v20, v21, v22])), (h1, .inl (a0, 609, .inr (.inl f0))), (h2, .inl (a1, 48, .inl f1)), (h3, .inl (a2, 609, .inr (.inl f2)))] [(a0, .long), (a1, .int), (a2, .long)] XN [(h0, .inr (6, [v0, .ref h1, .ref h3, v1, v2, v3, .ref h2, .int 2, v4, v5, v6, v7, v8, v9, v10, v11, v12, v13, v14, v15, v16, v17, v18, v19, v20, v21, v22])), (h1, .inl (a0, 609, .inr (.inl f0))), (h2, .inl (a1, 48, .inl f1)), (h3, .inl (a2, 609, .inr (.inl f2)))] (el (fun _ : (Nat → Int64) => True) (fun u => 0) (fun u => [(h0, .inr (6, [v0, .ref h1, .ref h3, v1, v2, v3, .ref h2, .int 2, v4, v5, v6, v7, v8, v9, v10, v11, v12, v13, v14, v15, v16, v17, v18, v19, v20, v21, v22])), (h1, .inl (a0, 609, .inr (.inl u))), (h2, .inl (a1, 48, .inl f1)), (h3, .inl (a2, 609, .inr (.inl f2)))]) (fun u => [(a0, .long), (a1, .int), (a2, .long)]) D) 0 0 := by
  refine CT.ofW (by decide +kernel) (Nat.le_of_ble_eq_true rfl) ?_
  intro p e s m below meth c A ls hcs hP hK hD hX hA hS hl
  obtain ⟨hx, hb, hr, hml, hown, hg, hlocks, hin⟩ := hcs
  have hown : s.vm.findClass RX6 = some m.cls := hown
  have hl : lv_has ls 7 [(0, .ref h0), (1, .int 2)] := hl
  refine lv_aload_n hx hb dX6_errorOf_0 rfl (lv_at hl 0 rfl) ?_
  refine cVi (n := 0) (As := []) (rest := []) (wr := [(h0, .inr (6, [v0, .ref h1, .ref h3, v1, v2, v3, .ref h2, .int 2, v4, v5, v6, v7, v8, v9, v10, v11, v12, v13, v14, v15, v16, v17, v18, v19, v20, v21, v22])), (h1, .inl (a0, 609, .inr (.inl f0))), (h2, .inl (a1, 48, .inl f1)), (h3, .inl (a2, 609, .inr (.inl f2)))]) (tr := [(a0, .long), (a1, .int), (a2, .long)]) hx hb hml hown hg okN (cX6_steps_35 l D h0 h1 v0 (.ref h3) v1 v2 v3 (.ref h2) (.int 2) v4 v5 v6 v7 v8 v9 v10 v11 v12 v13 v14 v15 v16 v17 v18 v19 v20 v21 v22 f0 a0 ef0_4) (mwV k1416 k1418 k52 k92 k1419) ⟨rfl, by decide, by decide, by decide +kernel⟩ ⟨rfl, rfl, (Nat.le_of_ble_eq_true rfl), (Nat.le_of_ble_eq_true rfl)⟩ hP hD hK hS xn [0, 1] [] [0, 1, 2, 3] [0] [0, 1, 2] rfl (by decide) rfl rfl (by decide) (by decide) rfl rfl (aNil hA hS) (aNil hA hS) 0 rfl rfl rfl hl.1 rfl (Nat.le_of_ble_eq_true rfl) dX6_errorOf_1 ⟨(Nat.le_of_ble_eq_true rfl), (Nat.le_of_ble_eq_true rfl)⟩ (fun u H locs hφ hP hD hK hS hk => ?_)
  have hP : va_P D vwCl [(h0, .inr (6, [v0, .ref h1, .ref h3, v1, v2, v3, .ref h2, .int 2, v4, v5, v6, v7, v8, v9, v10, v11, v12, v13, v14, v15, v16, v17, v18, v19, v20, v21, v22])), (h1, .inl (a0, 609, .inr (.inl f0))), (h2, .inl (a1, 48, .inl f1)), (h3, .inl (a2, 609, .inr (.inl f2)))] H := hP
  have hD : va_D A [(h0, .inr (6, [v0, .ref h1, .ref h3, v1, v2, v3, .ref h2, .int 2, v4, v5, v6, v7, v8, v9, v10, v11, v12, v13, v14, v15, v16, v17, v18, v19, v20, v21, v22])), (h1, .inl (a0, 609, .inr (.inl f0))), (h2, .inl (a1, 48, .inl f1)), (h3, .inl (a2, 609, .inr (.inl f2)))] := hD
  have hK : va_K D vwCl [(a0, .long), (a1, .int), (a2, .long)] s := hK
  refine W.widen (k := 0) (n := 0) (Nat.le_of_ble_eq_true rfl) (Nat.le_of_ble_eq_true rfl) ?_
  refine lv_if_le (tgt := 14) hx hb dX6_errorOf_4 (by decide) (fun _ => ?_) (fun c9 => absurd (by decide) c9)
  refine lv_lconst (v := 0) hx hb dX6_errorOf_14 (by decide) ?_
  refine lv_lstore_n (lv' := [(2, .long 0), (0, .ref h0), (1, .int 2)]) hx hb dX6_errorOf_15 rfl hl (by decide) rfl (fun ls hl => ?_)
  refine lv_iconst (v := 0) hx hb dX6_errorOf_16 (by decide) ?_
  refine lv_istore (lv' := [(4, .int 0), (2, .long 0), (0, .ref h0), (1, .int 2)]) hx hb dX6_errorOf_17 hl (by decide) rfl (fun ls hl => ?_)
  refine lv_iload hx hb dX6_errorOf_19 (lv_at hl 0 rfl) ?_
  refine lv_aload_n hx hb dX6_errorOf_21 rfl (lv_at hl 2 rfl) ?_
  refine va_get (D := D) (ci := 6) (v := .int 2) (C := RX6) (T := TX6) (N := 27) hx hb hg inX6 hown hK hP 0 rfl rfl 7 (by decide) (hg _ k1226) (fun _ h9 => h9) rfl dX6_errorOf_22 ?_
  refine lv_icmp_ge (tgt := 104) hx hb dX6_errorOf_25 (by decide) (fun c9 => absurd c9 (by decide)) (fun _ => ?_)
  refine lv_aload_n hx hb dX6_errorOf_28 rfl (lv_at hl 2 rfl) ?_
  refine va_get (D := D) (ci := 6) (v := .ref h1) (C := RX6) (T := TX6) (N := 27) hx hb hg inX6 hown hK hP 0 rfl rfl 1 (by decide) (hg _ k1220) (fun _ h9 => h9) rfl dX6_errorOf_29 ?_
  refine lv_iconst (v := 5) hx hb dX6_errorOf_32 (by decide) ?_
  refine lv_iload hx hb dX6_errorOf_33 (lv_at hl 0 rfl) ?_
  refine lv_iadd hx hb dX6_errorOf_35 ?_
  refine ti (5) (by decide) ?_
  refine aldL hx hb hK hP 1 0 rfl rfl 5 (by decide) (vin (by decide)) (v := 0) ef0_5 dX6_errorOf_36 ?_
  refine lv_aload_n hx hb dX6_errorOf_37 rfl (lv_at hl 2 rfl) ?_
  refine va_get (D := D) (ci := 6) (v := .ref h2) (C := RX6) (T := TX6) (N := 27) hx hb hg inX6 hown hK hP 0 rfl rfl 6 (by decide) (hg _ k1225) (fun _ h9 => h9) rfl dX6_errorOf_38 ?_
  refine lv_iload hx hb dX6_errorOf_41 (lv_at hl 0 rfl) ?_
  refine aldI hx hb hK hP 2 1 rfl rfl 0 (by decide) (vin (by decide)) (v := 0) ef1_0 dX6_errorOf_43 ?_
  refine lv_i2l (v := 0) hx hb dX6_errorOf_44 (by decide) ?_
  refine lv_lsub hx hb dX6_errorOf_45 ?_
  refine tl (0) (by decide) ?_
  refine cSl (n := 1) (As := [.long 0]) (rest := []) (wr := [(h0, .inr (6, [v0, .ref h1, .ref h3, v1, v2, v3, .ref h2, .int 2, v4, v5, v6, v7, v8, v9, v10, v11, v12, v13, v14, v15, v16, v17, v18, v19, v20, v21, v22])), (h1, .inl (a0, 609, .inr (.inl f0))), (h2, .inl (a1, 48, .inl f1)), (h3, .inl (a2, 609, .inr (.inl f2)))]) (tr := [(a0, .long), (a1, .int), (a2, .long)]) hx hb hml hown hg okN (cX6_amount_126 l D) (mwS k1488 k1489 k92 k1490) ⟨rfl, by decide, by decide, by decide +kernel⟩ ⟨rfl, rfl, (Nat.le_of_ble_eq_true rfl), (Nat.le_of_ble_eq_true rfl)⟩ hP hD hK hS xn [] [] [0, 1, 2, 3] [] [0, 1, 2] rfl (by decide) rfl rfl (by decide) (by decide) rfl rfl (aNil hA hS) (aNil hA hS) rfl hl.1 rfl (Nat.le_of_ble_eq_true rfl) dX6_errorOf_46 ⟨(Nat.le_of_ble_eq_true rfl), (Nat.le_of_ble_eq_true rfl)⟩ (fun u H locs hφ hP hD hK hS hk => ?_)
  have hP : va_P D vwCl [(h0, .inr (6, [v0, .ref h1, .ref h3, v1, v2, v3, .ref h2, .int 2, v4, v5, v6, v7, v8, v9, v10, v11, v12, v13, v14, v15, v16, v17, v18, v19, v20, v21, v22])), (h1, .inl (a0, 609, .inr (.inl f0))), (h2, .inl (a1, 48, .inl f1)), (h3, .inl (a2, 609, .inr (.inl f2)))] H := hP
  have hD : va_D A [(h0, .inr (6, [v0, .ref h1, .ref h3, v1, v2, v3, .ref h2, .int 2, v4, v5, v6, v7, v8, v9, v10, v11, v12, v13, v14, v15, v16, v17, v18, v19, v20, v21, v22])), (h1, .inl (a0, 609, .inr (.inl f0))), (h2, .inl (a1, 48, .inl f1)), (h3, .inl (a2, 609, .inr (.inl f2)))] := hD
  have hK : va_K D vwCl [(a0, .long), (a1, .int), (a2, .long)] s := hK
  refine W.widen (k := 0) (n := 0) (Nat.le_of_ble_eq_true rfl) (Nat.le_of_ble_eq_true rfl) ?_
  refine lv_lstore (lv' := [(5, .long 0), (4, .int 0), (2, .long 0), (0, .ref h0), (1, .int 2)]) hx hb dX6_errorOf_49 hl (by decide) rfl (fun ls hl => ?_)
  refine lv_iload_n hx hb dX6_errorOf_51 rfl (lv_at hl 4 rfl) ?_
  refine lv_if_ne (tgt := 71) hx hb dX6_errorOf_52 (by decide) (fun _ => ?_) (fun c9 => absurd c9 (by decide))
  refine lv_iload_n hx hb dX6_errorOf_71 rfl (lv_at hl 4 rfl) ?_
  refine lv_iconst (v := 1) hx hb dX6_errorOf_72 (by decide) ?_
  refine lv_icmp_ne (tgt := 83) hx hb dX6_errorOf_73 (by decide) (fun _ => ?_) (fun c9 => absurd c9 (by decide))
  refine lv_lload hx hb dX6_errorOf_83 (lv_at hl 0 rfl) ?_
  refine lv_lconst (v := 0) hx hb dX6_errorOf_85 (by decide) ?_
  refine W.lcmp hx hb dX6_errorOf_86 ?_
  refine ti (0) (by decide) ?_
  refine lv_if_le (tgt := 96) hx hb dX6_errorOf_87 (by decide) (fun _ => ?_) (fun c9 => absurd (by decide) c9)
  refine lv_lload_n hx hb dX6_errorOf_96 rfl (lv_at hl 2 rfl) ?_
  refine lv_lstore_n (lv' := [(2, .long 0), (5, .long 0), (4, .int 0), (0, .ref h0), (1, .int 2)]) hx hb dX6_errorOf_97 rfl hl (by decide) rfl (fun ls hl => ?_)
  refine lv_iinc (v := 1) (lv' := [(4, .int 1), (2, .long 0), (5, .long 0), (0, .ref h0), (1, .int 2)]) hx hb dX6_errorOf_98 hl (k := 2) rfl (by decide) (by decide) rfl (fun ls hl => ?_)
  refine lv_goto (tgt := 19) hx hb dX6_errorOf_101 (by decide) ?_
  refine lv_iload hx hb dX6_errorOf_19 (lv_at hl 0 rfl) ?_
  refine lv_aload_n hx hb dX6_errorOf_21 rfl (lv_at hl 3 rfl) ?_
  refine va_get (D := D) (ci := 6) (v := .int 2) (C := RX6) (T := TX6) (N := 27) hx hb hg inX6 hown hK hP 0 rfl rfl 7 (by decide) (hg _ k1226) (fun _ h9 => h9) rfl dX6_errorOf_22 ?_
  refine lv_icmp_ge (tgt := 104) hx hb dX6_errorOf_25 (by decide) (fun c9 => absurd c9 (by decide)) (fun _ => ?_)
  refine lv_aload_n hx hb dX6_errorOf_28 rfl (lv_at hl 3 rfl) ?_
  refine va_get (D := D) (ci := 6) (v := .ref h1) (C := RX6) (T := TX6) (N := 27) hx hb hg inX6 hown hK hP 0 rfl rfl 1 (by decide) (hg _ k1220) (fun _ h9 => h9) rfl dX6_errorOf_29 ?_
  refine lv_iconst (v := 5) hx hb dX6_errorOf_32 (by decide) ?_
  refine lv_iload hx hb dX6_errorOf_33 (lv_at hl 0 rfl) ?_
  refine lv_iadd hx hb dX6_errorOf_35 ?_
  refine ti (6) (by decide) ?_
  refine aldL hx hb hK hP 1 0 rfl rfl 6 (by decide) (vin (by decide)) (v := 0) ef0_6 dX6_errorOf_36 ?_
  refine lv_aload_n hx hb dX6_errorOf_37 rfl (lv_at hl 3 rfl) ?_
  refine va_get (D := D) (ci := 6) (v := .ref h2) (C := RX6) (T := TX6) (N := 27) hx hb hg inX6 hown hK hP 0 rfl rfl 6 (by decide) (hg _ k1225) (fun _ h9 => h9) rfl dX6_errorOf_38 ?_
  refine lv_iload hx hb dX6_errorOf_41 (lv_at hl 0 rfl) ?_
  refine aldI hx hb hK hP 2 1 rfl rfl 1 (by decide) (vin (by decide)) (v := 0) ef1_1 dX6_errorOf_43 ?_
  refine lv_i2l (v := 0) hx hb dX6_errorOf_44 (by decide) ?_
  refine lv_lsub hx hb dX6_errorOf_45 ?_
  refine tl (0) (by decide) ?_
  refine cSl (n := 1) (As := [.long 0]) (rest := []) (wr := [(h0, .inr (6, [v0, .ref h1, .ref h3, v1, v2, v3, .ref h2, .int 2, v4, v5, v6, v7, v8, v9, v10, v11, v12, v13, v14, v15, v16, v17, v18, v19, v20, v21, v22])), (h1, .inl (a0, 609, .inr (.inl f0))), (h2, .inl (a1, 48, .inl f1)), (h3, .inl (a2, 609, .inr (.inl f2)))]) (tr := [(a0, .long), (a1, .int), (a2, .long)]) hx hb hml hown hg okN (cX6_amount_126 l D) (mwS k1488 k1489 k92 k1490) ⟨rfl, by decide, by decide, by decide +kernel⟩ ⟨rfl, rfl, (Nat.le_of_ble_eq_true rfl), (Nat.le_of_ble_eq_true rfl)⟩ hP hD hK hS xn [] [] [0, 1, 2, 3] [] [0, 1, 2] rfl (by decide) rfl rfl (by decide) (by decide) rfl rfl (aNil hA hS) (aNil hA hS) rfl hl.1 rfl (Nat.le_of_ble_eq_true rfl) dX6_errorOf_46 ⟨(Nat.le_of_ble_eq_true rfl), (Nat.le_of_ble_eq_true rfl)⟩ (fun u H locs hφ hP hD hK hS hk => ?_)
  have hP : va_P D vwCl [(h0, .inr (6, [v0, .ref h1, .ref h3, v1, v2, v3, .ref h2, .int 2, v4, v5, v6, v7, v8, v9, v10, v11, v12, v13, v14, v15, v16, v17, v18, v19, v20, v21, v22])), (h1, .inl (a0, 609, .inr (.inl f0))), (h2, .inl (a1, 48, .inl f1)), (h3, .inl (a2, 609, .inr (.inl f2)))] H := hP
  have hD : va_D A [(h0, .inr (6, [v0, .ref h1, .ref h3, v1, v2, v3, .ref h2, .int 2, v4, v5, v6, v7, v8, v9, v10, v11, v12, v13, v14, v15, v16, v17, v18, v19, v20, v21, v22])), (h1, .inl (a0, 609, .inr (.inl f0))), (h2, .inl (a1, 48, .inl f1)), (h3, .inl (a2, 609, .inr (.inl f2)))] := hD
  have hK : va_K D vwCl [(a0, .long), (a1, .int), (a2, .long)] s := hK
  refine W.widen (k := 0) (n := 0) (Nat.le_of_ble_eq_true rfl) (Nat.le_of_ble_eq_true rfl) ?_
  refine lv_lstore (lv' := [(5, .long 0), (4, .int 1), (2, .long 0), (0, .ref h0), (1, .int 2)]) hx hb dX6_errorOf_49 hl (by decide) rfl (fun ls hl => ?_)
  refine lv_iload_n hx hb dX6_errorOf_51 rfl (lv_at hl 4 rfl) ?_
  refine lv_if_ne (tgt := 71) hx hb dX6_errorOf_52 (by decide) (fun _ => ?_) (fun c9 => absurd c9 (by decide))
  refine lv_iload_n hx hb dX6_errorOf_71 rfl (lv_at hl 4 rfl) ?_
  refine lv_iconst (v := 1) hx hb dX6_errorOf_72 (by decide) ?_
  refine lv_icmp_ne (tgt := 83) hx hb dX6_errorOf_73 (by decide) (fun _ => ?_) (fun c9 => absurd c9 (by decide))
  refine lv_lload hx hb dX6_errorOf_83 (lv_at hl 0 rfl) ?_
  refine lv_lconst (v := 0) hx hb dX6_errorOf_85 (by decide) ?_
  refine W.lcmp hx hb dX6_errorOf_86 ?_
  refine ti (0) (by decide) ?_
  refine lv_if_le (tgt := 96) hx hb dX6_errorOf_87 (by decide) (fun _ => ?_) (fun c9 => absurd (by decide) c9)
  refine lv_lload_n hx hb dX6_errorOf_96 rfl (lv_at hl 2 rfl) ?_
  refine lv_lstore_n (lv' := [(2, .long 0), (5, .long 0), (4, .int 1), (0, .ref h0), (1, .int 2)]) hx hb dX6_errorOf_97 rfl hl (by decide) rfl (fun ls hl => ?_)
  refine lv_iinc (v := 2) (lv' := [(4, .int 2), (2, .long 0), (5, .long 0), (0, .ref h0), (1, .int 2)]) hx hb dX6_errorOf_98 hl (k := 2) rfl (by decide) (by decide) rfl (fun ls hl => ?_)
  refine lv_goto (tgt := 19) hx hb dX6_errorOf_101 (by decide) ?_
  refine lv_iload hx hb dX6_errorOf_19 (lv_at hl 0 rfl) ?_
  refine lv_aload_n hx hb dX6_errorOf_21 rfl (lv_at hl 3 rfl) ?_
  refine va_get (D := D) (ci := 6) (v := .int 2) (C := RX6) (T := TX6) (N := 27) hx hb hg inX6 hown hK hP 0 rfl rfl 7 (by decide) (hg _ k1226) (fun _ h9 => h9) rfl dX6_errorOf_22 ?_
  refine lv_icmp_ge (tgt := 104) hx hb dX6_errorOf_25 (by decide) (fun _ => ?_) (fun c9 => absurd (by decide) c9)
  refine lv_aload_n hx hb dX6_errorOf_104 rfl (lv_at hl 3 rfl) ?_
  refine cVv (n := 0) (As := []) (rest := []) (wr := [(h2, .inl (a1, 48, .inl f1))]) (tr := [(a1, .int)]) hx hb hml hown hg okN (cX6_takesBack_236 l D h0 h3 h1 v0 v1 v2 v3 (.ref h2) (.int 2) v4 v5 v6 v7 v8 v9 v10 v11 v12 v13 v14 v15 v16 v17 v18 v19 v20 v21 v22 f2 f0 a2 a0) (mwV k1654 k1656 k80 k92 k1657) ⟨rfl, by decide, by decide, by decide +kernel⟩ ⟨rfl, rfl, (Nat.le_of_ble_eq_true rfl), (Nat.le_of_ble_eq_true rfl)⟩ hP hD hK hS xn [0, 3, 1] [0, 3, 1] [2] [2, 0] [1] rfl (by decide) rfl rfl (by decide) (by decide) rfl rfl (va_free hD hS hA [0, 3, 1] rfl) (va_free hD hS hA [0, 3, 1] rfl) 0 rfl rfl rfl hl.1 rfl (Nat.le_of_ble_eq_true rfl) dX6_errorOf_105 ⟨(Nat.le_of_ble_eq_true rfl), (Nat.le_of_ble_eq_true rfl)⟩ (fun u H locs hφ hP hD hK hS hk => ?_)
  obtain ⟨y1_1, rfl⟩ : ∃ z, z = u := ⟨_, rfl⟩
  have hP : va_P D vwCl [(h2, .inl (a1, 48, .inl f1)), (h0, .inr (6, [v0, .ref h1, .ref h3, v1, v2, v3, .ref h2, .int 2, v4, v5, v6, v7, v8, v9, v10, v11, v12, v13, v14, v15, v16, v17, v18, v19, v20, v21, v22])), (h3, .inl (a2, 609, .inr (.inl f2))), (h1, .inl (a0, 609, .inr (.inl y1_1)))] H := hP
  have hD : va_D A [(h2, .inl (a1, 48, .inl f1)), (h0, .inr (6, [v0, .ref h1, .ref h3, v1, v2, v3, .ref h2, .int 2, v4, v5, v6, v7, v8, v9, v10, v11, v12, v13, v14, v15, v16, v17, v18, v19, v20, v21, v22])), (h3, .inl (a2, 609, .inr (.inl f2))), (h1, .inl (a0, 609, .inr (.inl y1_1)))] := hD
  have hK : va_K D vwCl [(a1, .int), (a2, .long), (a0, .long)] s := hK
  refine W.widen (k := 0) (n := 0) (Nat.le_of_ble_eq_true rfl) (Nat.le_of_ble_eq_true rfl) ?_
  refine lv_lload_n hx hb dX6_errorOf_108 rfl (lv_at hl 1 rfl) ?_
  exact fl hx hb hr hlocks hP hD hK hS (y1_1) trivial rfl [1, 3, 0, 2] [2, 0, 1] rfl (by decide) rfl (Nat.le_of_ble_eq_true rfl) (Nat.le_of_ble_eq_true rfl) dX6_errorOf_109
set_option maxHeartbeats 4000000 in
set_option maxRecDepth 100000 in
theorem cX6_error_239 (l : Launch) (D : va_G) (h0 : Nat) (h1 : Nat) (h2 : Nat) (h3 : Nat) (v0 : Value) (v1 : Value) (v2 : Value) (v3 : Value) (v4 : Value) (v5 : Value) (v6 : Value) (v7 : Value) (v8 : Value) (v9 : Value) (v10 : Value) (v11 : Value) (v12 : Value) (v13 : Value) (v14 : Value) (v15 : Value) (v16 : Value) (v17 : Value) (v18 : Value) (v19 : Value) (v20 : Value) (v21 : Value) (v22 : Value) (f0 : Nat → Int64) (f1 : Nat → Int64) (f2 : Nat → Int32) (a0 : ClassId) (a1 : ClassId) (a2 : ClassId) (ef0_4 : f0 4 = 0) (ef0_5 : f0 5 = 0) (ef0_6 : f0 6 = 0) (ef2_0 : f2 0 = 0) (ef2_1 : f2 1 = 0)  : CT l yX6_error cX6_error 2 (some .long) { frames := 2, cells := 0, slots := 0, locals := 47 } [.ref h0, .int 2] D [(h0, .inr (6, [v0, .ref h1, .ref h2, v1, v2, v3, .ref h3, .int 2, v4, v5, v6, v7, v8, v9, v10, v11, v12, v13, v14, v15, v16, v17, v18, v19, v20, v21, v22])), (h1, .inl (a0, 609, .inr (.inl f0))), (h2, .inl (a1, 609, .inr (.inl f1))), (h3, .inl (a2, 48, .inl f2))] [(a0, .long), (a1, .long), (a2, .int)] XN [(h0, .inr (6, [v0, .ref h1, .ref h2, v1, v2, v3, .ref h3, .int 2, v4, v5, v6, v7, v8, v9, v10, v11, v12, v13, v14, v15, v16, v17, v18, v19, v20, v21, v22])), (h1, .inl (a0, 609, .inr (.inl f0))), (h2, .inl (a1, 609, .inr (.inl f1))), (h3, .inl (a2, 48, .inl f2))] (el (fun _ : (Nat → Int64) × (Nat → Int64) => True) (fun u => 0) (fun u => [(h0, .inr (6, [.int 0, .ref h1, .ref h2, v1, v2, v3, .ref h3, .int 2, v4, v5, v6, v7, v8, v9, v10, v11, v12, v13, v14, v15, v16, v17, v18, v19, v20, v21, v22])), (h1, .inl (a0, 609, .inr (.inl u.1))), (h2, .inl (a1, 609, .inr (.inl u.2))), (h3, .inl (a2, 48, .inl f2))]) (fun u => [(a0, .long), (a1, .long), (a2, .int)]) D) 0 0 := by
  refine CT.ofW (by decide +kernel) (Nat.le_of_ble_eq_true rfl) ?_
  intro p e s m below meth c A ls hcs hP hK hD hX hA hS hl
  obtain ⟨hx, hb, hr, hml, hown, hg, hlocks, hin⟩ := hcs
  have hown : s.vm.findClass RX6 = some m.cls := hown
  have hl : lv_has ls 2 [(0, .ref h0), (1, .int 2)] := hl
  refine lv_aload_n hx hb dX6_error_0 rfl (lv_at hl 0 rfl) ?_
  refine lv_iload_n hx hb dX6_error_1 rfl (lv_at hl 1 rfl) ?_
  refine lv_i2l (v := 2) hx hb dX6_error_2 (by decide) ?_
  refine lv_lconst (v := 0) hx hb dX6_error_3 (by decide) ?_
  refine lv_ldc2 hx hb hown (hg _ k1510) dX6_error_4 ?_
  refine cSi (n := 3) (As := [.long 2, .long 0, .long 2]) (rest := [.ref h0]) (wr := [(h0, .inr (6, [v0, .ref h1, .ref h2, v1, v2, v3, .ref h3, .int 2, v4, v5, v6, v7, v8, v9, v10, v11, v12, v13, v14, v15, v16, v17, v18, v19, v20, v21, v22])), (h1, .inl (a0, 609, .inr (.inl f0))), (h2, .inl (a1, 609, .inr (.inl f1))), (h3, .inl (a2, 48, .inl f2))]) (tr := [(a0, .long), (a1, .long), (a2, .int)]) hx hb hml hown hg okN (cX6_in_149 l D) (mwS k1317 k1318 k92 k1319) ⟨rfl, by decide, by decide, by decide +kernel⟩ ⟨rfl, rfl, (Nat.le_of_ble_eq_true rfl), (Nat.le_of_ble_eq_true rfl)⟩ hP hD hK hS xn [] [] [0, 1, 2, 3] [] [0, 1, 2] rfl (by decide) rfl rfl (by decide) (by decide) rfl rfl (aNil hA hS) (aNil hA hS) rfl hl.1 rfl (Nat.le_of_ble_eq_true rfl) dX6_error_7 ⟨(Nat.le_of_ble_eq_true rfl), (Nat.le_of_ble_eq_true rfl)⟩ (fun u H locs hφ hP hD hK hS hk => ?_)
  have hP : va_P D vwCl [(h0, .inr (6, [v0, .ref h1, .ref h2, v1, v2, v3, .ref h3, .int 2, v4, v5, v6, v7, v8, v9, v10, v11, v12, v13, v14, v15, v16, v17, v18, v19, v20, v21, v22])), (h1, .inl (a0, 609, .inr (.inl f0))), (h2, .inl (a1, 609, .inr (.inl f1))), (h3, .inl (a2, 48, .inl f2))] H := hP
  have hD : va_D A [(h0, .inr (6, [v0, .ref h1, .ref h2, v1, v2, v3, .ref h3, .int 2, v4, v5, v6, v7, v8, v9, v10, v11, v12, v13, v14, v15, v16, v17, v18, v19, v20, v21, v22])), (h1, .inl (a0, 609, .inr (.inl f0))), (h2, .inl (a1, 609, .inr (.inl f1))), (h3, .inl (a2, 48, .inl f2))] := hD
  have hK : va_K D vwCl [(a0, .long), (a1, .long), (a2, .int)] s := hK
  refine W.widen (k := 0) (n := 0) (Nat.le_of_ble_eq_true rfl) (Nat.le_of_ble_eq_true rfl) ?_
  refine lv_if_eq (tgt := 17) hx hb dX6_error_10 (by decide) (fun c9 => absurd c9 (by decide)) (fun _ => ?_)
  refine lv_iconst (v := 0) hx hb dX6_error_13 (by decide) ?_
  refine lv_goto (tgt := 18) hx hb dX6_error_14 (by decide) ?_
  refine va_put (D := D) (ci := 6) (v := .int 0) (ty := .int) (C := RX6) (T := TX6) (N := 27) hx hb hg inX6 tyX6 tyX6_ok nmX6 hown hK hP hD hS 0 rfl rfl 0 (by decide) (hg _ k1219) (fun _ h9 => h9) rfl (by decide +kernel) rfl rfl (Nat.le_of_ble_eq_true rfl) dX6_error_18 (fun H locs hP hD hS => ?_)
  have hP : va_P D vwCl [(h0, .inr (6, [.int 0, .ref h1, .ref h2, v1, v2, v3, .ref h3, .int 2, v4, v5, v6, v7, v8, v9, v10, v11, v12, v13, v14, v15, v16, v17, v18, v19, v20, v21, v22])), (h1, .inl (a0, 609, .inr (.inl f0))), (h2, .inl (a1, 609, .inr (.inl f1))), (h3, .inl (a2, 48, .inl f2))] H := hP
  have hD : va_D A [(h0, .inr (6, [.int 0, .ref h1, .ref h2, v1, v2, v3, .ref h3, .int 2, v4, v5, v6, v7, v8, v9, v10, v11, v12, v13, v14, v15, v16, v17, v18, v19, v20, v21, v22])), (h1, .inl (a0, 609, .inr (.inl f0))), (h2, .inl (a1, 609, .inr (.inl f1))), (h3, .inl (a2, 48, .inl f2))] := hD
  refine lv_aload_n hx hb dX6_error_21 rfl (lv_at hl 0 rfl) ?_
  refine va_get (D := D) (ci := 6) (v := .int 0) (C := RX6) (T := TX6) (N := 27) hx hb hg inX6 hown hK hP 0 rfl rfl 0 (by decide) (hg _ k1219) (fun _ h9 => h9) rfl dX6_error_22 ?_
  refine lv_if_le (tgt := 30) hx hb dX6_error_25 (by decide) (fun _ => ?_) (fun c9 => absurd (by decide) c9)
  refine lv_aload_n hx hb dX6_error_30 rfl (lv_at hl 0 rfl) ?_
  refine cVv (n := 0) (As := []) (rest := []) (wr := [(h3, .inl (a2, 48, .inl f2))]) (tr := [(a2, .int)]) hx hb hml hown hg okN (cX6_puts_234 l D h0 h1 h2 (.int 0) v1 v2 v3 (.ref h3) (.int 2) v4 v5 v6 v7 v8 v9 v10 v11 v12 v13 v14 v15 v16 v17 v18 v19 v20 v21 v22 f0 f1 a0 a1) (mwV k1646 k1648 k78 k92 k1649) ⟨rfl, by decide, by decide, by decide +kernel⟩ ⟨rfl, rfl, (Nat.le_of_ble_eq_true rfl), (Nat.le_of_ble_eq_true rfl)⟩ hP hD hK hS xn [0, 1, 2] [0, 1, 2] [3] [0, 1] [2] rfl (by decide) rfl rfl (by decide) (by decide) rfl rfl (va_free hD hS hA [0, 1, 2] rfl) (va_free hD hS hA [0, 1, 2] rfl) 0 rfl rfl rfl hl.1 rfl (Nat.le_of_ble_eq_true rfl) dX6_error_31 ⟨(Nat.le_of_ble_eq_true rfl), (Nat.le_of_ble_eq_true rfl)⟩ (fun u H locs hφ hP hD hK hS hk => ?_)
  obtain ⟨y0_1, rfl⟩ : ∃ z, z = u := ⟨_, rfl⟩
  have hP : va_P D vwCl [(h3, .inl (a2, 48, .inl f2)), (h0, .inr (6, [.int 0, .ref h1, .ref h2, v1, v2, v3, .ref h3, .int 2, v4, v5, v6, v7, v8, v9, v10, v11, v12, v13, v14, v15, v16, v17, v18, v19, v20, v21, v22])), (h1, .inl (a0, 609, .inr (.inl f0))), (h2, .inl (a1, 609, .inr (.inl y0_1)))] H := hP
  have hD : va_D A [(h3, .inl (a2, 48, .inl f2)), (h0, .inr (6, [.int 0, .ref h1, .ref h2, v1, v2, v3, .ref h3, .int 2, v4, v5, v6, v7, v8, v9, v10, v11, v12, v13, v14, v15, v16, v17, v18, v19, v20, v21, v22])), (h1, .inl (a0, 609, .inr (.inl f0))), (h2, .inl (a1, 609, .inr (.inl y0_1)))] := hD
  have hK : va_K D vwCl [(a2, .int), (a0, .long), (a1, .long)] s := hK
  refine W.widen (k := 0) (n := 0) (Nat.le_of_ble_eq_true rfl) (Nat.le_of_ble_eq_true rfl) ?_
  refine lv_aload_n hx hb dX6_error_34 rfl (lv_at hl 0 rfl) ?_
  refine lv_iload_n hx hb dX6_error_35 rfl (lv_at hl 1 rfl) ?_
  refine cVl (n := 1) (As := [.int 2]) (rest := []) (wr := []) (tr := []) hx hb hml hown hg okN (cX6_errorOf_240 l D h0 h1 h3 h2 (.int 0) v1 v2 v3 v4 v5 v6 v7 v8 v9 v10 v11 v12 v13 v14 v15 v16 v17 v18 v19 v20 v21 v22 f0 f2 y0_1 a0 a2 a1 ef0_4 ef0_5 ef0_6 ef2_0 ef2_1) (mwV k1650 k1652 k79 k92 k1653) ⟨rfl, by decide, by decide, by decide +kernel⟩ ⟨rfl, rfl, (Nat.le_of_ble_eq_true rfl), (Nat.le_of_ble_eq_true rfl)⟩ hP hD hK hS xn [1, 2, 0, 3] [1, 2, 0, 3] [] [1, 0, 2] [] rfl (by decide) rfl rfl (by decide) (by decide) rfl rfl (va_free hD hS hA [1, 2, 0, 3] rfl) (va_free hD hS hA [1, 2, 0, 3] rfl) 1 rfl rfl rfl hl.1 rfl (Nat.le_of_ble_eq_true rfl) dX6_error_36 ⟨(Nat.le_of_ble_eq_true rfl), (Nat.le_of_ble_eq_true rfl)⟩ (fun u H locs hφ hP hD hK hS hk => ?_)
  obtain ⟨y0_2, rfl⟩ : ∃ z, z = u := ⟨_, rfl⟩
  have hP : va_P D vwCl [(h0, .inr (6, [.int 0, .ref h1, .ref h2, v1, v2, v3, .ref h3, .int 2, v4, v5, v6, v7, v8, v9, v10, v11, v12, v13, v14, v15, v16, v17, v18, v19, v20, v21, v22])), (h1, .inl (a0, 609, .inr (.inl y0_2))), (h3, .inl (a2, 48, .inl f2)), (h2, .inl (a1, 609, .inr (.inl y0_1)))] H := hP
  have hD : va_D A [(h0, .inr (6, [.int 0, .ref h1, .ref h2, v1, v2, v3, .ref h3, .int 2, v4, v5, v6, v7, v8, v9, v10, v11, v12, v13, v14, v15, v16, v17, v18, v19, v20, v21, v22])), (h1, .inl (a0, 609, .inr (.inl y0_2))), (h3, .inl (a2, 48, .inl f2)), (h2, .inl (a1, 609, .inr (.inl y0_1)))] := hD
  have hK : va_K D vwCl [(a0, .long), (a2, .int), (a1, .long)] s := hK
  refine W.widen (k := 0) (n := 0) (Nat.le_of_ble_eq_true rfl) (Nat.le_of_ble_eq_true rfl) ?_
  exact fl hx hb hr hlocks hP hD hK hS ((y0_2, y0_1)) trivial rfl [0, 1, 3, 2] [0, 2, 1] rfl (by decide) rfl (Nat.le_of_ble_eq_true rfl) (Nat.le_of_ble_eq_true rfl) dX6_error_39
set_option maxHeartbeats 4000000 in
set_option maxRecDepth 100000 in
theorem cX6_error_241 (l : Launch) (D : va_G) (h0 : Nat) (x0 : Int32) (v0 : Value) (v1 : Value) (v2 : Value) (v3 : Value) (v4 : Value) (v5 : Value) (v6 : Value) (v7 : Value) (v8 : Value) (v9 : Value) (v10 : Value) (v11 : Value) (v12 : Value) (v13 : Value) (v14 : Value) (v15 : Value) (v16 : Value) (v17 : Value) (v18 : Value) (v19 : Value) (v20 : Value) (v21 : Value) (v22 : Value) (v23 : Value) (v24 : Value) (v25 : Value) (v26 : Value)  (d0 : ¬ ((lg_cmp x0.toInt64 0) < 0)) (d1 : 0 < (lg_cmp x0.toInt64 2)) : CT l yX6_error cX6_error 2 (some .long) { frames := 1, cells := 0, slots := 0, locals := 25 } [.ref h0, .int x0] D [(h0, .inr (6, [v0, v1, v2, v3, v4, v5, v6, v7, v8, v9, v10, v11, v12, v13, v14, v15, v16, v17, v18, v19, v20, v21, v22, v23, v24, v25, v26]))] [] XN [(h0, .inr (6, [v0, v1, v2, v3, v4, v5, v6, v7, v8, v9, v10, v11, v12, v13, v14, v15, v16, v17, v18, v19, v20, v21, v22, v23, v24, v25, v26]))] (el (fun _ : Unit => True) (fun u => 0) (fun _ => [(h0, .inr (6, [.int 1, v1, v2, v3, v4, v5, v6, v7, v8, v9, v10, v11, v12, v13, v14, v15, v16, v17, v18, v19, v20, v21, v22, v23, v24, v25, v26]))]) (fun u => []) D) 0 0 := by
  refine CT.ofW (by decide +kernel) (Nat.le_of_ble_eq_true rfl) ?_
  intro p e s m below meth c A ls hcs hP hK hD hX hA hS hl
  obtain ⟨hx, hb, hr, hml, hown, hg, hlocks, hin⟩ := hcs
  have hown : s.vm.findClass RX6 = some m.cls := hown
  have hl : lv_has ls 2 [(0, .ref h0), (1, .int x0)] := hl
  refine lv_aload_n hx hb dX6_error_0 rfl (lv_at hl 0 rfl) ?_
  refine lv_iload_n hx hb dX6_error_1 rfl (lv_at hl 1 rfl) ?_
  refine lv_i2l (v := x0.toInt64) hx hb dX6_error_2 rfl ?_
  refine lv_lconst (v := 0) hx hb dX6_error_3 (by decide) ?_
  refine lv_ldc2 hx hb hown (hg _ k1510) dX6_error_4 ?_
  refine cSi (n := 3) (As := [.long x0.toInt64, .long 0, .long 2]) (rest := [.ref h0]) (wr := [(h0, .inr (6, [v0, v1, v2, v3, v4, v5, v6, v7, v8, v9, v10, v11, v12, v13, v14, v15, v16, v17, v18, v19, v20, v21, v22, v23, v24, v25, v26]))]) (tr := []) hx hb hml hown hg okN (cX6_in_152 l D x0 d0 d1) (mwS k1317 k1318 k92 k1319) ⟨rfl, by decide, by decide, by decide +kernel⟩ ⟨rfl, rfl, (Nat.le_of_ble_eq_true rfl), (Nat.le_of_ble_eq_true rfl)⟩ hP hD hK hS xn [] [] [0] [] [] rfl (by decide) rfl rfl (by decide) (by decide) rfl rfl (aNil hA hS) (aNil hA hS) rfl hl.1 rfl (Nat.le_of_ble_eq_true rfl) dX6_error_7 ⟨(Nat.le_of_ble_eq_true rfl), (Nat.le_of_ble_eq_true rfl)⟩ (fun u H locs hφ hP hD hK hS hk => ?_)
  have hP : va_P D vwCl [(h0, .inr (6, [v0, v1, v2, v3, v4, v5, v6, v7, v8, v9, v10, v11, v12, v13, v14, v15, v16, v17, v18, v19, v20, v21, v22, v23, v24, v25, v26]))] H := hP
  have hD : va_D A [(h0, .inr (6, [v0, v1, v2, v3, v4, v5, v6, v7, v8, v9, v10, v11, v12, v13, v14, v15, v16, v17, v18, v19, v20, v21, v22, v23, v24, v25, v26]))] := hD
  have hK : va_K D vwCl [] s := hK
  refine W.widen (k := 0) (n := 0) (Nat.le_of_ble_eq_true rfl) (Nat.le_of_ble_eq_true rfl) ?_
  refine lv_if_eq (tgt := 17) hx hb dX6_error_10 (by decide) (fun _ => ?_) (fun c9 => absurd (by decide) c9)
  refine lv_iconst (v := 1) hx hb dX6_error_17 (by decide) ?_
  refine va_put (D := D) (ci := 6) (v := .int 1) (ty := .int) (C := RX6) (T := TX6) (N := 27) hx hb hg inX6 tyX6 tyX6_ok nmX6 hown hK hP hD hS 0 rfl rfl 0 (by decide) (hg _ k1219) (fun _ h9 => h9) rfl (by decide +kernel) rfl rfl (Nat.le_of_ble_eq_true rfl) dX6_error_18 (fun H locs hP hD hS => ?_)
  have hP : va_P D vwCl [(h0, .inr (6, [.int 1, v1, v2, v3, v4, v5, v6, v7, v8, v9, v10, v11, v12, v13, v14, v15, v16, v17, v18, v19, v20, v21, v22, v23, v24, v25, v26]))] H := hP
  have hD : va_D A [(h0, .inr (6, [.int 1, v1, v2, v3, v4, v5, v6, v7, v8, v9, v10, v11, v12, v13, v14, v15, v16, v17, v18, v19, v20, v21, v22, v23, v24, v25, v26]))] := hD
  refine lv_aload_n hx hb dX6_error_21 rfl (lv_at hl 0 rfl) ?_
  refine va_get (D := D) (ci := 6) (v := .int 1) (C := RX6) (T := TX6) (N := 27) hx hb hg inX6 hown hK hP 0 rfl rfl 0 (by decide) (hg _ k1219) (fun _ h9 => h9) rfl dX6_error_22 ?_
  refine lv_if_le (tgt := 30) hx hb dX6_error_25 (by decide) (fun c9 => absurd c9 (by decide)) (fun _ => ?_)
  refine lv_lconst (v := 0) hx hb dX6_error_28 (by decide) ?_
  exact fl hx hb hr hlocks hP hD hK hS (()) trivial rfl [0] [] rfl (by decide) rfl (Nat.le_of_ble_eq_true rfl) (Nat.le_of_ble_eq_true rfl) dX6_error_29
set_option maxHeartbeats 4000000 in
set_option maxRecDepth 100000 in
theorem cX6_errorWith_242 (l : Launch) (D : va_G) (h0 : Nat) (x0 : Int32) (v0 : Value) (v1 : Value) (v2 : Value) (v3 : Value) (v4 : Value) (v5 : Value) (v6 : Value) (v7 : Value) (v8 : Value) (v9 : Value) (v10 : Value) (v11 : Value) (v12 : Value) (v13 : Value) (v14 : Value) (v15 : Value) (v16 : Value) (v17 : Value) (v18 : Value) (v19 : Value) (v20 : Value) (v21 : Value) (v22 : Value) (v23 : Value) (v24 : Value) (v25 : Value) (v26 : Value)  (d0 : (lg_cmp x0.toInt64 0) < 0) : CT l yX6_errorWith cX6_errorWith 3 (some .long) { frames := 1, cells := 0, slots := 0, locals := 25 } [.ref h0, .int x0, .int 0] D [(h0, .inr (6, [v0, v1, v2, v3, v4, v5, v6, v7, v8, v9, v10, v11, v12, v13, v14, v15, v16, v17, v18, v19, v20, v21, v22, v23, v24, v25, v26]))] [] XN [(h0, .inr (6, [v0, v1, v2, v3, v4, v5, v6, v7, v8, v9, v10, v11, v12, v13, v14, v15, v16, v17, v18, v19, v20, v21, v22, v23, v24, v25, v26]))] (el (fun _ : Unit => True) (fun u => 0) (fun _ => [(h0, .inr (6, [.int 1, v1, v2, v3, v4, v5, v6, v7, v8, v9, v10, v11, v12, v13, v14, v15, v16, v17, v18, v19, v20, v21, v22, v23, v24, v25, v26]))]) (fun u => []) D) 0 0 := by
  refine CT.ofW (by decide +kernel) (Nat.le_of_ble_eq_true rfl) ?_
  intro p e s m below meth c A ls hcs hP hK hD hX hA hS hl
  obtain ⟨hx, hb, hr, hml, hown, hg, hlocks, hin⟩ := hcs
  have hown : s.vm.findClass RX6 = some m.cls := hown
  have hl : lv_has ls 3 [(0, .ref h0), (1, .int x0), (2, .int 0)] := hl
  refine lv_aload_n hx hb dX6_errorWith_0 rfl (lv_at hl 0 rfl) ?_
  refine lv_iload_n hx hb dX6_errorWith_1 rfl (lv_at hl 1 rfl) ?_
  refine lv_i2l (v := x0.toInt64) hx hb dX6_errorWith_2 rfl ?_
  refine lv_lconst (v := 0) hx hb dX6_errorWith_3 (by decide) ?_
  refine lv_ldc2 hx hb hown (hg _ k1568) dX6_errorWith_4 ?_
  refine cSi (n := 3) (As := [.long x0.toInt64, .long 0, .long 9999]) (rest := [.ref h0]) (wr := [(h0, .inr (6, [v0, v1, v2, v3, v4, v5, v6, v7, v8, v9, v10, v11, v12, v13, v14, v15, v16, v17, v18, v19, v20, v21, v22, v23, v24, v25, v26]))]) (tr := []) hx hb hml hown hg okN (cX6_in_210 l D x0 d0) (mwS k1317 k1318 k92 k1319) ⟨rfl, by decide, by decide, by decide +kernel⟩ ⟨rfl, rfl, (Nat.le_of_ble_eq_true rfl), (Nat.le_of_ble_eq_true rfl)⟩ hP hD hK hS xn [] [] [0] [] [] rfl (by decide) rfl rfl (by decide) (by decide) rfl rfl (aNil hA hS) (aNil hA hS) rfl hl.1 rfl (Nat.le_of_ble_eq_true rfl) dX6_errorWith_7 ⟨(Nat.le_of_ble_eq_true rfl), (Nat.le_of_ble_eq_true rfl)⟩ (fun u H locs hφ hP hD hK hS hk => ?_)
  have hP : va_P D vwCl [(h0, .inr (6, [v0, v1, v2, v3, v4, v5, v6, v7, v8, v9, v10, v11, v12, v13, v14, v15, v16, v17, v18, v19, v20, v21, v22, v23, v24, v25, v26]))] H := hP
  have hD : va_D A [(h0, .inr (6, [v0, v1, v2, v3, v4, v5, v6, v7, v8, v9, v10, v11, v12, v13, v14, v15, v16, v17, v18, v19, v20, v21, v22, v23, v24, v25, v26]))] := hD
  have hK : va_K D vwCl [] s := hK
  refine W.widen (k := 0) (n := 0) (Nat.le_of_ble_eq_true rfl) (Nat.le_of_ble_eq_true rfl) ?_
  refine lv_if_eq (tgt := 17) hx hb dX6_errorWith_10 (by decide) (fun _ => ?_) (fun c9 => absurd (by decide) c9)
  refine lv_iconst (v := 1) hx hb dX6_errorWith_17 (by decide) ?_
  refine va_put (D := D) (ci := 6) (v := .int 1) (ty := .int) (C := RX6) (T := TX6) (N := 27) hx hb hg inX6 tyX6 tyX6_ok nmX6 hown hK hP hD hS 0 rfl rfl 0 (by decide) (hg _ k1219) (fun _ h9 => h9) rfl (by decide +kernel) rfl rfl (Nat.le_of_ble_eq_true rfl) dX6_errorWith_18 (fun H locs hP hD hS => ?_)
  have hP : va_P D vwCl [(h0, .inr (6, [.int 1, v1, v2, v3, v4, v5, v6, v7, v8, v9, v10, v11, v12, v13, v14, v15, v16, v17, v18, v19, v20, v21, v22, v23, v24, v25, v26]))] H := hP
  have hD : va_D A [(h0, .inr (6, [.int 1, v1, v2, v3, v4, v5, v6, v7, v8, v9, v10, v11, v12, v13, v14, v15, v16, v17, v18, v19, v20, v21, v22, v23, v24, v25, v26]))] := hD
  refine lv_aload_n hx hb dX6_errorWith_21 rfl (lv_at hl 0 rfl) ?_
  refine va_get (D := D) (ci := 6) (v := .int 1) (C := RX6) (T := TX6) (N := 27) hx hb hg inX6 hown hK hP 0 rfl rfl 0 (by decide) (hg _ k1219) (fun _ h9 => h9) rfl dX6_errorWith_22 ?_
  refine lv_if_le (tgt := 32) hx hb dX6_errorWith_25 (by decide) (fun c9 => absurd c9 (by decide)) (fun _ => ?_)
  refine lv_lconst (v := 0) hx hb dX6_errorWith_28 (by decide) ?_
  refine lv_goto (tgt := 38) hx hb dX6_errorWith_29 (by decide) ?_
  exact fl hx hb hr hlocks hP hD hK hS (()) trivial rfl [0] [] rfl (by decide) rfl (Nat.le_of_ble_eq_true rfl) (Nat.le_of_ble_eq_true rfl) dX6_errorWith_38
set_option maxHeartbeats 4000000 in
set_option maxRecDepth 100000 in
theorem cX6_errorWith_243 (l : Launch) (D : va_G) (h0 : Nat) (x0 : Int32) (v0 : Value) (v1 : Value) (v2 : Value) (v3 : Value) (v4 : Value) (v5 : Value) (v6 : Value) (v7 : Value) (v8 : Value) (v9 : Value) (v10 : Value) (v11 : Value) (v12 : Value) (v13 : Value) (v14 : Value) (v15 : Value) (v16 : Value) (v17 : Value) (v18 : Value) (v19 : Value) (v20 : Value) (v21 : Value) (v22 : Value) (v23 : Value) (v24 : Value) (v25 : Value) (v26 : Value)  (d0 : (lg_cmp x0.toInt64 0) < 0) : CT l yX6_errorWith cX6_errorWith 3 (some .long) { frames := 1, cells := 0, slots := 0, locals := 25 } [.ref h0, .int x0, .int 1] D [(h0, .inr (6, [v0, v1, v2, v3, v4, v5, v6, v7, v8, v9, v10, v11, v12, v13, v14, v15, v16, v17, v18, v19, v20, v21, v22, v23, v24, v25, v26]))] [] XN [(h0, .inr (6, [v0, v1, v2, v3, v4, v5, v6, v7, v8, v9, v10, v11, v12, v13, v14, v15, v16, v17, v18, v19, v20, v21, v22, v23, v24, v25, v26]))] (el (fun _ : Unit => True) (fun u => 0) (fun _ => [(h0, .inr (6, [.int 1, v1, v2, v3, v4, v5, v6, v7, v8, v9, v10, v11, v12, v13, v14, v15, v16, v17, v18, v19, v20, v21, v22, v23, v24, v25, v26]))]) (fun u => []) D) 0 0 := by
  refine CT.ofW (by decide +kernel) (Nat.le_of_ble_eq_true rfl) ?_
  intro p e s m below meth c A ls hcs hP hK hD hX hA hS hl
  obtain ⟨hx, hb, hr, hml, hown, hg, hlocks, hin⟩ := hcs
  have hown : s.vm.findClass RX6 = some m.cls := hown
  have hl : lv_has ls 3 [(0, .ref h0), (1, .int x0), (2, .int 1)] := hl
  refine lv_aload_n hx hb dX6_errorWith_0 rfl (lv_at hl 0 rfl) ?_
  refine lv_iload_n hx hb dX6_errorWith_1 rfl (lv_at hl 1 rfl) ?_
  refine lv_i2l (v := x0.toInt64) hx hb dX6_errorWith_2 rfl ?_
  refine lv_lconst (v := 0) hx hb dX6_errorWith_3 (by decide) ?_
  refine lv_ldc2 hx hb hown (hg _ k1568) dX6_errorWith_4 ?_
  refine cSi (n := 3) (As := [.long x0.toInt64, .long 0, .long 9999]) (rest := [.ref h0]) (wr := [(h0, .inr (6, [v0, v1, v2, v3, v4, v5, v6, v7, v8, v9, v10, v11, v12, v13, v14, v15, v16, v17, v18, v19, v20, v21, v22, v23, v24, v25, v26]))]) (tr := []) hx hb hml hown hg okN (cX6_in_210 l D x0 d0) (mwS k1317 k1318 k92 k1319) ⟨rfl, by decide, by decide, by decide +kernel⟩ ⟨rfl, rfl, (Nat.le_of_ble_eq_true rfl), (Nat.le_of_ble_eq_true rfl)⟩ hP hD hK hS xn [] [] [0] [] [] rfl (by decide) rfl rfl (by decide) (by decide) rfl rfl (aNil hA hS) (aNil hA hS) rfl hl.1 rfl (Nat.le_of_ble_eq_true rfl) dX6_errorWith_7 ⟨(Nat.le_of_ble_eq_true rfl), (Nat.le_of_ble_eq_true rfl)⟩ (fun u H locs hφ hP hD hK hS hk => ?_)
  have hP : va_P D vwCl [(h0, .inr (6, [v0, v1, v2, v3, v4, v5, v6, v7, v8, v9, v10, v11, v12, v13, v14, v15, v16, v17, v18, v19, v20, v21, v22, v23, v24, v25, v26]))] H := hP
  have hD : va_D A [(h0, .inr (6, [v0, v1, v2, v3, v4, v5, v6, v7, v8, v9, v10, v11, v12, v13, v14, v15, v16, v17, v18, v19, v20, v21, v22, v23, v24, v25, v26]))] := hD
  have hK : va_K D vwCl [] s := hK
  refine W.widen (k := 0) (n := 0) (Nat.le_of_ble_eq_true rfl) (Nat.le_of_ble_eq_true rfl) ?_
  refine lv_if_eq (tgt := 17) hx hb dX6_errorWith_10 (by decide) (fun _ => ?_) (fun c9 => absurd (by decide) c9)
  refine lv_iconst (v := 1) hx hb dX6_errorWith_17 (by decide) ?_
  refine va_put (D := D) (ci := 6) (v := .int 1) (ty := .int) (C := RX6) (T := TX6) (N := 27) hx hb hg inX6 tyX6 tyX6_ok nmX6 hown hK hP hD hS 0 rfl rfl 0 (by decide) (hg _ k1219) (fun _ h9 => h9) rfl (by decide +kernel) rfl rfl (Nat.le_of_ble_eq_true rfl) dX6_errorWith_18 (fun H locs hP hD hS => ?_)
  have hP : va_P D vwCl [(h0, .inr (6, [.int 1, v1, v2, v3, v4, v5, v6, v7, v8, v9, v10, v11, v12, v13, v14, v15, v16, v17, v18, v19, v20, v21, v22, v23, v24, v25, v26]))] H := hP
  have hD : va_D A [(h0, .inr (6, [.int 1, v1, v2, v3, v4, v5, v6, v7, v8, v9, v10, v11, v12, v13, v14, v15, v16, v17, v18, v19, v20, v21, v22, v23, v24, v25, v26]))] := hD
  refine lv_aload_n hx hb dX6_errorWith_21 rfl (lv_at hl 0 rfl) ?_
  refine va_get (D := D) (ci := 6) (v := .int 1) (C := RX6) (T := TX6) (N := 27) hx hb hg inX6 hown hK hP 0 rfl rfl 0 (by decide) (hg _ k1219) (fun _ h9 => h9) rfl dX6_errorWith_22 ?_
  refine lv_if_le (tgt := 32) hx hb dX6_errorWith_25 (by decide) (fun c9 => absurd c9 (by decide)) (fun _ => ?_)
  refine lv_lconst (v := 0) hx hb dX6_errorWith_28 (by decide) ?_
  refine lv_goto (tgt := 38) hx hb dX6_errorWith_29 (by decide) ?_
  exact fl hx hb hr hlocks hP hD hK hS (()) trivial rfl [0] [] rfl (by decide) rfl (Nat.le_of_ble_eq_true rfl) (Nat.le_of_ble_eq_true rfl) dX6_errorWith_38
set_option maxHeartbeats 4000000 in
set_option maxRecDepth 100000 in
theorem cX6_errorBy_245 (l : Launch) (D : va_G) (h0 : Nat) (x0 : Int32) (h1 : Nat) (h2 : Nat) (h3 : Nat) (v0 : Value) (v1 : Value) (v2 : Value) (v3 : Value) (v4 : Value) (v5 : Value) (v6 : Value) (v7 : Value) (v8 : Value) (v9 : Value) (v10 : Value) (v11 : Value) (v12 : Value) (v13 : Value) (v14 : Value) (v15 : Value) (v16 : Value) (v17 : Value) (v18 : Value) (v19 : Value) (v20 : Value) (v21 : Value) (v22 : Value) (f0 : Nat → Int64) (f1 : Nat → Int64) (f2 : Nat → Int32) (a0 : ClassId) (a1 : ClassId) (a2 : ClassId) (ef0_4 : f0 4 = 0) (ef0_5 : f0 5 = 0) (ef0_6 : f0 6 = 0) (ef2_0 : f2 0 = 0) (ef2_1 : f2 1 = 0)  : CT l yX6_errorBy cX6_errorBy 3 (some .long) { frames := 2, cells := 0, slots := 0, locals := 47 } [.ref h0, .int x0, .int 0] D [(h0, .inr (6, [v0, .ref h1, .ref h2, v1, v2, v3, .ref h3, .int 2, v4, v5, v6, v7, v8, v9, v10, v11, v12, v13, v14, v15, v16, v17, v18, v19, v20, v21, v22])), (h1, .inl (a0, 609, .inr (.inl f0))), (h2, .inl (a1, 609, .inr (.inl f1))), (h3, .inl (a2, 48, .inl f2))] [(a0, .long), (a1, .long), (a2, .int)] XN [(h0, .inr (6, [v0, .ref h1, .ref h2, v1, v2, v3, .ref h3, .int 2, v4, v5, v6, v7, v8, v9, v10, v11, v12, v13, v14, v15, v16, v17, v18, v19, v20, v21, v22])), (h1, .inl (a0, 609, .inr (.inl f0))), (h2, .inl (a1, 609, .inr (.inl f1))), (h3, .inl (a2, 48, .inl f2))] (el (fun _ : (Nat → Int64) × (Nat → Int64) => True) (fun u => 0) (fun u => [(h0, .inr (6, [v0, .ref h1, .ref h2, v1, v2, v3, .ref h3, .int 2, v4, v5, v6, v7, v8, v9, v10, v11, v12, v13, v14, v15, v16, v17, v18, v19, v20, v21, v22])), (h1, .inl (a0, 609, .inr (.inl u.1))), (h2, .inl (a1, 609, .inr (.inl u.2))), (h3, .inl (a2, 48, .inl f2))]) (fun u => [(a0, .long), (a1, .long), (a2, .int)]) D) 0 0 := by
  refine CT.ofW (by decide +kernel) (Nat.le_of_ble_eq_true rfl) ?_
  intro p e s m below meth c A ls hcs hP hK hD hX hA hS hl
  obtain ⟨hx, hb, hr, hml, hown, hg, hlocks, hin⟩ := hcs
  have hown : s.vm.findClass RX6 = some m.cls := hown
  have hl : lv_has ls 3 [(0, .ref h0), (1, .int x0), (2, .int 0)] := hl
  refine lv_aload_n hx hb dX6_errorBy_0 rfl (lv_at hl 0 rfl) ?_
  refine cVv (n := 0) (As := []) (rest := []) (wr := [(h3, .inl (a2, 48, .inl f2))]) (tr := [(a2, .int)]) hx hb hml hown hg okN (cX6_puts_234 l D h0 h1 h2 v0 v1 v2 v3 (.ref h3) (.int 2) v4 v5 v6 v7 v8 v9 v10 v11 v12 v13 v14 v15 v16 v17 v18 v19 v20 v21 v22 f0 f1 a0 a1) (mwV k1646 k1648 k78 k92 k1649) ⟨rfl, by decide, by decide, by decide +kernel⟩ ⟨rfl, rfl, (Nat.le_of_ble_eq_true rfl), (Nat.le_of_ble_eq_true rfl)⟩ hP hD hK hS xn [0, 1, 2] [0, 1, 2] [3] [0, 1] [2] rfl (by decide) rfl rfl (by decide) (by decide) rfl rfl (va_free hD hS hA [0, 1, 2] rfl) (va_free hD hS hA [0, 1, 2] rfl) 0 rfl rfl rfl hl.1 rfl (Nat.le_of_ble_eq_true rfl) dX6_errorBy_1 ⟨(Nat.le_of_ble_eq_true rfl), (Nat.le_of_ble_eq_true rfl)⟩ (fun u H locs hφ hP hD hK hS hk => ?_)
  obtain ⟨y1_1, rfl⟩ : ∃ z, z = u := ⟨_, rfl⟩
  have hP : va_P D vwCl [(h3, .inl (a2, 48, .inl f2)), (h0, .inr (6, [v0, .ref h1, .ref h2, v1, v2, v3, .ref h3, .int 2, v4, v5, v6, v7, v8, v9, v10, v11, v12, v13, v14, v15, v16, v17, v18, v19, v20, v21, v22])), (h1, .inl (a0, 609, .inr (.inl f0))), (h2, .inl (a1, 609, .inr (.inl y1_1)))] H := hP
  have hD : va_D A [(h3, .inl (a2, 48, .inl f2)), (h0, .inr (6, [v0, .ref h1, .ref h2, v1, v2, v3, .ref h3, .int 2, v4, v5, v6, v7, v8, v9, v10, v11, v12, v13, v14, v15, v16, v17, v18, v19, v20, v21, v22])), (h1, .inl (a0, 609, .inr (.inl f0))), (h2, .inl (a1, 609, .inr (.inl y1_1)))] := hD
  have hK : va_K D vwCl [(a2, .int), (a0, .long), (a1, .long)] s := hK
  refine W.widen (k := 0) (n := 0) (Nat.le_of_ble_eq_true rfl) (Nat.le_of_ble_eq_true rfl) ?_
  refine lv_aload_n hx hb dX6_errorBy_4 rfl (lv_at hl 0 rfl) ?_
  refine lv_iload_n hx hb dX6_errorBy_5 rfl (lv_at hl 1 rfl) ?_
  refine lv_iload_n hx hb dX6_errorBy_6 rfl (lv_at hl 2 rfl) ?_
  refine cVv (n := 2) (As := [.int x0, .int 0]) (rest := []) (wr := [(h3, .inl (a2, 48, .inl f2)), (h0, .inr (6, [v0, .ref h1, .ref h2, v1, v2, v3, .ref h3, .int 2, v4, v5, v6, v7, v8, v9, v10, v11, v12, v13, v14, v15, v16, v17, v18, v19, v20, v21, v22])), (h1, .inl (a0, 609, .inr (.inl f0))), (h2, .inl (a1, 609, .inr (.inl y1_1)))]) (tr := [(a2, .int), (a0, .long), (a1, .long)]) hx hb hml hown hg okN (cX6_cuts_214 l D h0 x0 h1 v0 (.ref h2) v1 v2 v3 (.ref h3) (.int 2) v4 v5 v6 v7 v8 v9 v10 v11 v12 v13 v14 v15 v16 v17 v18 v19 v20 v21 v22 f0 a0 ef0_4) (mwV k1630 k1632 k77 k92 k1633) ⟨rfl, by decide, by decide, by decide +kernel⟩ ⟨rfl, rfl, (Nat.le_of_ble_eq_true rfl), (Nat.le_of_ble_eq_true rfl)⟩ hP hD hK hS xn [1, 2] [] [0, 1, 2, 3] [1] [0, 1, 2] rfl (by decide) rfl rfl (by decide) (by decide) rfl rfl (aNil hA hS) (aNil hA hS) 1 rfl rfl rfl hl.1 rfl (Nat.le_of_ble_eq_true rfl) dX6_errorBy_7 ⟨(Nat.le_of_ble_eq_true rfl), (Nat.le_of_ble_eq_true rfl)⟩ (fun u H locs hφ hP hD hK hS hk => ?_)
  have hP : va_P D vwCl [(h3, .inl (a2, 48, .inl f2)), (h0, .inr (6, [v0, .ref h1, .ref h2, v1, v2, v3, .ref h3, .int 2, v4, v5, v6, v7, v8, v9, v10, v11, v12, v13, v14, v15, v16, v17, v18, v19, v20, v21, v22])), (h1, .inl (a0, 609, .inr (.inl f0))), (h2, .inl (a1, 609, .inr (.inl y1_1)))] H := hP
  have hD : va_D A [(h3, .inl (a2, 48, .inl f2)), (h0, .inr (6, [v0, .ref h1, .ref h2, v1, v2, v3, .ref h3, .int 2, v4, v5, v6, v7, v8, v9, v10, v11, v12, v13, v14, v15, v16, v17, v18, v19, v20, v21, v22])), (h1, .inl (a0, 609, .inr (.inl f0))), (h2, .inl (a1, 609, .inr (.inl y1_1)))] := hD
  have hK : va_K D vwCl [(a2, .int), (a0, .long), (a1, .long)] s := hK
  refine W.widen (k := 0) (n := 0) (Nat.le_of_ble_eq_true rfl) (Nat.le_of_ble_eq_true rfl) ?_
  refine lv_aload_n hx hb dX6_errorBy_10 rfl (lv_at hl 0 rfl) ?_
  refine lv_iconst (v := 0) hx hb dX6_errorBy_11 (by decide) ?_
  refine cVl (n := 1) (As := [.int 0]) (rest := []) (wr := []) (tr := []) hx hb hml hown hg okN (cX6_errorOf_235 l D h0 h1 h3 h2 v0 v1 v2 v3 v4 v5 v6 v7 v8 v9 v10 v11 v12 v13 v14 v15 v16 v17 v18 v19 v20 v21 v22 f0 f2 y1_1 a0 a2 a1 ef0_4 ef0_5 ef0_6 ef2_0 ef2_1) (mwV k1650 k1652 k79 k92 k1653) ⟨rfl, by decide, by decide, by decide +kernel⟩ ⟨rfl, rfl, (Nat.le_of_ble_eq_true rfl), (Nat.le_of_ble_eq_true rfl)⟩ hP hD hK hS xn [1, 2, 0, 3] [1, 2, 0, 3] [] [1, 0, 2] [] rfl (by decide) rfl rfl (by decide) (by decide) rfl rfl (va_free hD hS hA [1, 2, 0, 3] rfl) (va_free hD hS hA [1, 2, 0, 3] rfl) 1 rfl rfl rfl hl.1 rfl (Nat.le_of_ble_eq_true rfl) dX6_errorBy_12 ⟨(Nat.le_of_ble_eq_true rfl), (Nat.le_of_ble_eq_true rfl)⟩ (fun u H locs hφ hP hD hK hS hk => ?_)
  obtain ⟨y1_2, rfl⟩ : ∃ z, z = u := ⟨_, rfl⟩
  have hP : va_P D vwCl [(h0, .inr (6, [v0, .ref h1, .ref h2, v1, v2, v3, .ref h3, .int 2, v4, v5, v6, v7, v8, v9, v10, v11, v12, v13, v14, v15, v16, v17, v18, v19, v20, v21, v22])), (h1, .inl (a0, 609, .inr (.inl y1_2))), (h3, .inl (a2, 48, .inl f2)), (h2, .inl (a1, 609, .inr (.inl y1_1)))] H := hP
  have hD : va_D A [(h0, .inr (6, [v0, .ref h1, .ref h2, v1, v2, v3, .ref h3, .int 2, v4, v5, v6, v7, v8, v9, v10, v11, v12, v13, v14, v15, v16, v17, v18, v19, v20, v21, v22])), (h1, .inl (a0, 609, .inr (.inl y1_2))), (h3, .inl (a2, 48, .inl f2)), (h2, .inl (a1, 609, .inr (.inl y1_1)))] := hD
  have hK : va_K D vwCl [(a0, .long), (a2, .int), (a1, .long)] s := hK
  refine W.widen (k := 0) (n := 0) (Nat.le_of_ble_eq_true rfl) (Nat.le_of_ble_eq_true rfl) ?_
  exact fl hx hb hr hlocks hP hD hK hS ((y1_2, y1_1)) trivial rfl [0, 1, 3, 2] [0, 2, 1] rfl (by decide) rfl (Nat.le_of_ble_eq_true rfl) (Nat.le_of_ble_eq_true rfl) dX6_errorBy_15
set_option maxHeartbeats 4000000 in
set_option maxRecDepth 100000 in
theorem cX6_errorWith_244 (l : Launch) (D : va_G) (h0 : Nat) (x0 : Int32) (h1 : Nat) (h2 : Nat) (h3 : Nat) (v0 : Value) (v1 : Value) (v2 : Value) (v3 : Value) (v4 : Value) (v5 : Value) (v6 : Value) (v7 : Value) (v8 : Value) (v9 : Value) (v10 : Value) (v11 : Value) (v12 : Value) (v13 : Value) (v14 : Value) (v15 : Value) (v16 : Value) (v17 : Value) (v18 : Value) (v19 : Value) (v20 : Value) (v21 : Value) (v22 : Value) (f0 : Nat → Int64) (f1 : Nat → Int64) (f2 : Nat → Int32) (a0 : ClassId) (a1 : ClassId) (a2 : ClassId) (ef0_4 : f0 4 = 0) (ef0_5 : f0 5 = 0) (ef0_6 : f0 6 = 0) (ef2_0 : f2 0 = 0) (ef2_1 : f2 1 = 0) (d0 : ¬ ((lg_cmp x0.toInt64 0) < 0)) (d1 : ¬ (0 < (lg_cmp x0.toInt64 9999))) : CT l yX6_errorWith cX6_errorWith 3 (some .long) { frames := 3, cells := 0, slots := 0, locals := 69 } [.ref h0, .int x0, .int 0] D [(h0, .inr (6, [v0, .ref h1, .ref h2, v1, v2, v3, .ref h3, .int 2, v4, v5, v6, v7, v8, v9, v10, v11, v12, v13, v14, v15, v16, v17, v18, v19, v20, v21, v22])), (h1, .inl (a0, 609, .inr (.inl f0))), (h2, .inl (a1, 609, .inr (.inl f1))), (h3, .inl (a2, 48, .inl f2))] [(a0, .long), (a1, .long), (a2, .int)] XN [(h0, .inr (6, [v0, .ref h1, .ref h2, v1, v2, v3, .ref h3, .int 2, v4, v5, v6, v7, v8, v9, v10, v11, v12, v13, v14, v15, v16, v17, v18, v19, v20, v21, v22])), (h1, .inl (a0, 609, .inr (.inl f0))), (h2, .inl (a1, 609, .inr (.inl f1))), (h3, .inl (a2, 48, .inl f2))] (el (fun _ : (Nat → Int64) × (Nat → Int64) => True) (fun u => 0) (fun u => [(h0, .inr (6, [.int 0, .ref h1, .ref h2, v1, v2, v3, .ref h3, .int 2, v4, v5, v6, v7, v8, v9, v10, v11, v12, v13, v14, v15, v16, v17, v18, v19, v20, v21, v22])), (h1, .inl (a0, 609, .inr (.inl u.1))), (h2, .inl (a1, 609, .inr (.inl u.2))), (h3, .inl (a2, 48, .inl f2))]) (fun u => [(a0, .long), (a1, .long), (a2, .int)]) D) 0 0 := by
  refine CT.ofW (by decide +kernel) (Nat.le_of_ble_eq_true rfl) ?_
  intro p e s m below meth c A ls hcs hP hK hD hX hA hS hl
  obtain ⟨hx, hb, hr, hml, hown, hg, hlocks, hin⟩ := hcs
  have hown : s.vm.findClass RX6 = some m.cls := hown
  have hl : lv_has ls 3 [(0, .ref h0), (1, .int x0), (2, .int 0)] := hl
  refine lv_aload_n hx hb dX6_errorWith_0 rfl (lv_at hl 0 rfl) ?_
  refine lv_iload_n hx hb dX6_errorWith_1 rfl (lv_at hl 1 rfl) ?_
  refine lv_i2l (v := x0.toInt64) hx hb dX6_errorWith_2 rfl ?_
  refine lv_lconst (v := 0) hx hb dX6_errorWith_3 (by decide) ?_
  refine lv_ldc2 hx hb hown (hg _ k1568) dX6_errorWith_4 ?_
  refine cSi (n := 3) (As := [.long x0.toInt64, .long 0, .long 9999]) (rest := [.ref h0]) (wr := [(h0, .inr (6, [v0, .ref h1, .ref h2, v1, v2, v3, .ref h3, .int 2, v4, v5, v6, v7, v8, v9, v10, v11, v12, v13, v14, v15, v16, v17, v18, v19, v20, v21, v22])), (h1, .inl (a0, 609, .inr (.inl f0))), (h2, .inl (a1, 609, .inr (.inl f1))), (h3, .inl (a2, 48, .inl f2))]) (tr := [(a0, .long), (a1, .long), (a2, .int)]) hx hb hml hown hg okN (cX6_in_213 l D x0 d0 d1) (mwS k1317 k1318 k92 k1319) ⟨rfl, by decide, by decide, by decide +kernel⟩ ⟨rfl, rfl, (Nat.le_of_ble_eq_true rfl), (Nat.le_of_ble_eq_true rfl)⟩ hP hD hK hS xn [] [] [0, 1, 2, 3] [] [0, 1, 2] rfl (by decide) rfl rfl (by decide) (by decide) rfl rfl (aNil hA hS) (aNil hA hS) rfl hl.1 rfl (Nat.le_of_ble_eq_true rfl) dX6_errorWith_7 ⟨(Nat.le_of_ble_eq_true rfl), (Nat.le_of_ble_eq_true rfl)⟩ (fun u H locs hφ hP hD hK hS hk => ?_)
  have hP : va_P D vwCl [(h0, .inr (6, [v0, .ref h1, .ref h2, v1, v2, v3, .ref h3, .int 2, v4, v5, v6, v7, v8, v9, v10, v11, v12, v13, v14, v15, v16, v17, v18, v19, v20, v21, v22])), (h1, .inl (a0, 609, .inr (.inl f0))), (h2, .inl (a1, 609, .inr (.inl f1))), (h3, .inl (a2, 48, .inl f2))] H := hP
  have hD : va_D A [(h0, .inr (6, [v0, .ref h1, .ref h2, v1, v2, v3, .ref h3, .int 2, v4, v5, v6, v7, v8, v9, v10, v11, v12, v13, v14, v15, v16, v17, v18, v19, v20, v21, v22])), (h1, .inl (a0, 609, .inr (.inl f0))), (h2, .inl (a1, 609, .inr (.inl f1))), (h3, .inl (a2, 48, .inl f2))] := hD
  have hK : va_K D vwCl [(a0, .long), (a1, .long), (a2, .int)] s := hK
  refine W.widen (k := 0) (n := 0) (Nat.le_of_ble_eq_true rfl) (Nat.le_of_ble_eq_true rfl) ?_
  refine lv_if_eq (tgt := 17) hx hb dX6_errorWith_10 (by decide) (fun c9 => absurd c9 (by decide)) (fun _ => ?_)
  refine lv_iconst (v := 0) hx hb dX6_errorWith_13 (by decide) ?_
  refine lv_goto (tgt := 18) hx hb dX6_errorWith_14 (by decide) ?_
  refine va_put (D := D) (ci := 6) (v := .int 0) (ty := .int) (C := RX6) (T := TX6) (N := 27) hx hb hg inX6 tyX6 tyX6_ok nmX6 hown hK hP hD hS 0 rfl rfl 0 (by decide) (hg _ k1219) (fun _ h9 => h9) rfl (by decide +kernel) rfl rfl (Nat.le_of_ble_eq_true rfl) dX6_errorWith_18 (fun H locs hP hD hS => ?_)
  have hP : va_P D vwCl [(h0, .inr (6, [.int 0, .ref h1, .ref h2, v1, v2, v3, .ref h3, .int 2, v4, v5, v6, v7, v8, v9, v10, v11, v12, v13, v14, v15, v16, v17, v18, v19, v20, v21, v22])), (h1, .inl (a0, 609, .inr (.inl f0))), (h2, .inl (a1, 609, .inr (.inl f1))), (h3, .inl (a2, 48, .inl f2))] H := hP
  have hD : va_D A [(h0, .inr (6, [.int 0, .ref h1, .ref h2, v1, v2, v3, .ref h3, .int 2, v4, v5, v6, v7, v8, v9, v10, v11, v12, v13, v14, v15, v16, v17, v18, v19, v20, v21, v22])), (h1, .inl (a0, 609, .inr (.inl f0))), (h2, .inl (a1, 609, .inr (.inl f1))), (h3, .inl (a2, 48, .inl f2))] := hD
  refine lv_aload_n hx hb dX6_errorWith_21 rfl (lv_at hl 0 rfl) ?_
  refine va_get (D := D) (ci := 6) (v := .int 0) (C := RX6) (T := TX6) (N := 27) hx hb hg inX6 hown hK hP 0 rfl rfl 0 (by decide) (hg _ k1219) (fun _ h9 => h9) rfl dX6_errorWith_22 ?_
  refine lv_if_le (tgt := 32) hx hb dX6_errorWith_25 (by decide) (fun _ => ?_) (fun c9 => absurd (by decide) c9)
  refine lv_aload_n hx hb dX6_errorWith_32 rfl (lv_at hl 0 rfl) ?_
  refine lv_iload_n hx hb dX6_errorWith_33 rfl (lv_at hl 1 rfl) ?_
  refine lv_iload_n hx hb dX6_errorWith_34 rfl (lv_at hl 2 rfl) ?_
  refine cVl (n := 2) (As := [.int x0, .int 0]) (rest := []) (wr := []) (tr := []) hx hb hml hown hg okN (cX6_errorBy_245 l D h0 x0 h1 h2 h3 (.int 0) v1 v2 v3 v4 v5 v6 v7 v8 v9 v10 v11 v12 v13 v14 v15 v16 v17 v18 v19 v20 v21 v22 f0 f1 f2 a0 a1 a2 ef0_4 ef0_5 ef0_6 ef2_0 ef2_1) (mwV k1662 k1664 k81 k92 k1665) ⟨rfl, by decide, by decide, by decide +kernel⟩ ⟨rfl, rfl, (Nat.le_of_ble_eq_true rfl), (Nat.le_of_ble_eq_true rfl)⟩ hP hD hK hS xn [0, 1, 2, 3] [0, 1, 2, 3] [] [0, 1, 2] [] rfl (by decide) rfl rfl (by decide) (by decide) rfl rfl (va_free hD hS hA [0, 1, 2, 3] rfl) (va_free hD hS hA [0, 1, 2, 3] rfl) 0 rfl rfl rfl hl.1 rfl (Nat.le_of_ble_eq_true rfl) dX6_errorWith_35 ⟨(Nat.le_of_ble_eq_true rfl), (Nat.le_of_ble_eq_true rfl)⟩ (fun u H locs hφ hP hD hK hS hk => ?_)
  obtain ⟨y0_1, y0_2⟩ := u
  have hP : va_P D vwCl [(h0, .inr (6, [.int 0, .ref h1, .ref h2, v1, v2, v3, .ref h3, .int 2, v4, v5, v6, v7, v8, v9, v10, v11, v12, v13, v14, v15, v16, v17, v18, v19, v20, v21, v22])), (h1, .inl (a0, 609, .inr (.inl y0_1))), (h2, .inl (a1, 609, .inr (.inl y0_2))), (h3, .inl (a2, 48, .inl f2))] H := hP
  have hD : va_D A [(h0, .inr (6, [.int 0, .ref h1, .ref h2, v1, v2, v3, .ref h3, .int 2, v4, v5, v6, v7, v8, v9, v10, v11, v12, v13, v14, v15, v16, v17, v18, v19, v20, v21, v22])), (h1, .inl (a0, 609, .inr (.inl y0_1))), (h2, .inl (a1, 609, .inr (.inl y0_2))), (h3, .inl (a2, 48, .inl f2))] := hD
  have hK : va_K D vwCl [(a0, .long), (a1, .long), (a2, .int)] s := hK
  refine W.widen (k := 0) (n := 0) (Nat.le_of_ble_eq_true rfl) (Nat.le_of_ble_eq_true rfl) ?_
  exact fl hx hb hr hlocks hP hD hK hS ((y0_1, y0_2)) trivial rfl [0, 1, 2, 3] [0, 1, 2] rfl (by decide) rfl (Nat.le_of_ble_eq_true rfl) (Nat.le_of_ble_eq_true rfl) dX6_errorWith_38
set_option maxHeartbeats 4000000 in
set_option maxRecDepth 100000 in
theorem cX6_errorBy_247 (l : Launch) (D : va_G) (h0 : Nat) (x0 : Int32) (h1 : Nat) (h2 : Nat) (h3 : Nat) (v0 : Value) (v1 : Value) (v2 : Value) (v3 : Value) (v4 : Value) (v5 : Value) (v6 : Value) (v7 : Value) (v8 : Value) (v9 : Value) (v10 : Value) (v11 : Value) (v12 : Value) (v13 : Value) (v14 : Value) (v15 : Value) (v16 : Value) (v17 : Value) (v18 : Value) (v19 : Value) (v20 : Value) (v21 : Value) (v22 : Value) (f0 : Nat → Int64) (f1 : Nat → Int64) (f2 : Nat → Int32) (a0 : ClassId) (a1 : ClassId) (a2 : ClassId) (ef0_4 : f0 4 = 0) (ef0_5 : f0 5 = 0) (ef0_6 : f0 6 = 0) (ef2_0 : f2 0 = 0) (ef2_1 : f2 1 = 0)  : CT l yX6_errorBy cX6_errorBy 3 (some .long) { frames := 2, cells := 0, slots := 0, locals := 47 } [.ref h0, .int x0, .int 1] D [(h0, .inr (6, [v0, .ref h1, .ref h2, v1, v2, v3, .ref h3, .int 2, v4, v5, v6, v7, v8, v9, v10, v11, v12, v13, v14, v15, v16, v17, v18, v19, v20, v21, v22])), (h1, .inl (a0, 609, .inr (.inl f0))), (h2, .inl (a1, 609, .inr (.inl f1))), (h3, .inl (a2, 48, .inl f2))] [(a0, .long), (a1, .long), (a2, .int)] XN [(h0, .inr (6, [v0, .ref h1, .ref h2, v1, v2, v3, .ref h3, .int 2, v4, v5, v6, v7, v8, v9, v10, v11, v12, v13, v14, v15, v16, v17, v18, v19, v20, v21, v22])), (h1, .inl (a0, 609, .inr (.inl f0))), (h2, .inl (a1, 609, .inr (.inl f1))), (h3, .inl (a2, 48, .inl f2))] (el (fun _ : (Nat → Int64) × (Nat → Int64) => True) (fun u => 0) (fun u => [(h0, .inr (6, [v0, .ref h1, .ref h2, v1, v2, v3, .ref h3, .int 2, v4, v5, v6, v7, v8, v9, v10, v11, v12, v13, v14, v15, v16, v17, v18, v19, v20, v21, v22])), (h1, .inl (a0, 609, .inr (.inl u.1))), (h2, .inl (a1, 609, .inr (.inl u.2))), (h3, .inl (a2, 48, .inl f2))]) (fun u => [(a0, .long), (a1, .long), (a2, .int)]) D) 0 0 := by
  refine CT.ofW (by decide +kernel) (Nat.le_of_ble_eq_true rfl) ?_
  intro p e s m below meth c A ls hcs hP hK hD hX hA hS hl
  obtain ⟨hx, hb, hr, hml, hown, hg, hlocks, hin⟩ := hcs
  have hown : s.vm.findClass RX6 = some m.cls := hown
  have hl : lv_has ls 3 [(0, .ref h0), (1, .int x0), (2, .int 1)] := hl
  refine lv_aload_n hx hb dX6_errorBy_0 rfl (lv_at hl 0 rfl) ?_
  refine cVv (n := 0) (As := []) (rest := []) (wr := [(h3, .inl (a2, 48, .inl f2))]) (tr := [(a2, .int)]) hx hb hml hown hg okN (cX6_puts_234 l D h0 h1 h2 v0 v1 v2 v3 (.ref h3) (.int 2) v4 v5 v6 v7 v8 v9 v10 v11 v12 v13 v14 v15 v16 v17 v18 v19 v20 v21 v22 f0 f1 a0 a1) (mwV k1646 k1648 k78 k92 k1649) ⟨rfl, by decide, by decide, by decide +kernel⟩ ⟨rfl, rfl, (Nat.le_of_ble_eq_true rfl), (Nat.le_of_ble_eq_true rfl)⟩ hP hD hK hS xn [0, 1, 2] [0, 1, 2] [3] [0, 1] [2] rfl (by decide) rfl rfl (by decide) (by decide) rfl rfl (va_free hD hS hA [0, 1, 2] rfl) (va_free hD hS hA [0, 1, 2] rfl) 0 rfl rfl rfl hl.1 rfl (Nat.le_of_ble_eq_true rfl) dX6_errorBy_1 ⟨(Nat.le_of_ble_eq_true rfl), (Nat.le_of_ble_eq_true rfl)⟩ (fun u H locs hφ hP hD hK hS hk => ?_)
  obtain ⟨y1_1, rfl⟩ : ∃ z, z = u := ⟨_, rfl⟩
  have hP : va_P D vwCl [(h3, .inl (a2, 48, .inl f2)), (h0, .inr (6, [v0, .ref h1, .ref h2, v1, v2, v3, .ref h3, .int 2, v4, v5, v6, v7, v8, v9, v10, v11, v12, v13, v14, v15, v16, v17, v18, v19, v20, v21, v22])), (h1, .inl (a0, 609, .inr (.inl f0))), (h2, .inl (a1, 609, .inr (.inl y1_1)))] H := hP
  have hD : va_D A [(h3, .inl (a2, 48, .inl f2)), (h0, .inr (6, [v0, .ref h1, .ref h2, v1, v2, v3, .ref h3, .int 2, v4, v5, v6, v7, v8, v9, v10, v11, v12, v13, v14, v15, v16, v17, v18, v19, v20, v21, v22])), (h1, .inl (a0, 609, .inr (.inl f0))), (h2, .inl (a1, 609, .inr (.inl y1_1)))] := hD
  have hK : va_K D vwCl [(a2, .int), (a0, .long), (a1, .long)] s := hK
  refine W.widen (k := 0) (n := 0) (Nat.le_of_ble_eq_true rfl) (Nat.le_of_ble_eq_true rfl) ?_
  refine lv_aload_n hx hb dX6_errorBy_4 rfl (lv_at hl 0 rfl) ?_
  refine lv_iload_n hx hb dX6_errorBy_5 rfl (lv_at hl 1 rfl) ?_
  refine lv_iload_n hx hb dX6_errorBy_6 rfl (lv_at hl 2 rfl) ?_
  refine cVv (n := 2) (As := [.int x0, .int 1]) (rest := []) (wr := [(h3, .inl (a2, 48, .inl f2)), (h0, .inr (6, [v0, .ref h1, .ref h2, v1, v2, v3, .ref h3, .int 2, v4, v5, v6, v7, v8, v9, v10, v11, v12, v13, v14, v15, v16, v17, v18, v19, v20, v21, v22])), (h1, .inl (a0, 609, .inr (.inl f0))), (h2, .inl (a1, 609, .inr (.inl y1_1)))]) (tr := [(a2, .int), (a0, .long), (a1, .long)]) hx hb hml hown hg okN (cX6_cuts_216 l D h0 x0 h1 v0 (.ref h2) v1 v2 v3 (.ref h3) (.int 2) v4 v5 v6 v7 v8 v9 v10 v11 v12 v13 v14 v15 v16 v17 v18 v19 v20 v21 v22 f0 a0 ef0_4) (mwV k1630 k1632 k77 k92 k1633) ⟨rfl, by decide, by decide, by decide +kernel⟩ ⟨rfl, rfl, (Nat.le_of_ble_eq_true rfl), (Nat.le_of_ble_eq_true rfl)⟩ hP hD hK hS xn [1, 2] [] [0, 1, 2, 3] [1] [0, 1, 2] rfl (by decide) rfl rfl (by decide) (by decide) rfl rfl (aNil hA hS) (aNil hA hS) 1 rfl rfl rfl hl.1 rfl (Nat.le_of_ble_eq_true rfl) dX6_errorBy_7 ⟨(Nat.le_of_ble_eq_true rfl), (Nat.le_of_ble_eq_true rfl)⟩ (fun u H locs hφ hP hD hK hS hk => ?_)
  have hP : va_P D vwCl [(h3, .inl (a2, 48, .inl f2)), (h0, .inr (6, [v0, .ref h1, .ref h2, v1, v2, v3, .ref h3, .int 2, v4, v5, v6, v7, v8, v9, v10, v11, v12, v13, v14, v15, v16, v17, v18, v19, v20, v21, v22])), (h1, .inl (a0, 609, .inr (.inl f0))), (h2, .inl (a1, 609, .inr (.inl y1_1)))] H := hP
  have hD : va_D A [(h3, .inl (a2, 48, .inl f2)), (h0, .inr (6, [v0, .ref h1, .ref h2, v1, v2, v3, .ref h3, .int 2, v4, v5, v6, v7, v8, v9, v10, v11, v12, v13, v14, v15, v16, v17, v18, v19, v20, v21, v22])), (h1, .inl (a0, 609, .inr (.inl f0))), (h2, .inl (a1, 609, .inr (.inl y1_1)))] := hD
  have hK : va_K D vwCl [(a2, .int), (a0, .long), (a1, .long)] s := hK
  refine W.widen (k := 0) (n := 0) (Nat.le_of_ble_eq_true rfl) (Nat.le_of_ble_eq_true rfl) ?_
  refine lv_aload_n hx hb dX6_errorBy_10 rfl (lv_at hl 0 rfl) ?_
  refine lv_iconst (v := 0) hx hb dX6_errorBy_11 (by decide) ?_
  refine cVl (n := 1) (As := [.int 0]) (rest := []) (wr := []) (tr := []) hx hb hml hown hg okN (cX6_errorOf_235 l D h0 h1 h3 h2 v0 v1 v2 v3 v4 v5 v6 v7 v8 v9 v10 v11 v12 v13 v14 v15 v16 v17 v18 v19 v20 v21 v22 f0 f2 y1_1 a0 a2 a1 ef0_4 ef0_5 ef0_6 ef2_0 ef2_1) (mwV k1650 k1652 k79 k92 k1653) ⟨rfl, by decide, by decide, by decide +kernel⟩ ⟨rfl, rfl, (Nat.le_of_ble_eq_true rfl), (Nat.le_of_ble_eq_true rfl)⟩ hP hD hK hS xn [1, 2, 0, 3] [1, 2, 0, 3] [] [1, 0, 2] [] rfl (by decide) rfl rfl (by decide) (by decide) rfl rfl (va_free hD hS hA [1, 2, 0, 3] rfl) (va_free hD hS hA [1, 2, 0, 3] rfl) 1 rfl rfl rfl hl.1 rfl (Nat.le_of_ble_eq_true rfl) dX6_errorBy_12 ⟨(Nat.le_of_ble_eq_true rfl), (Nat.le_of_ble_eq_true rfl)⟩ (fun u H locs hφ hP hD hK hS hk => ?_)
  obtain ⟨y1_2, rfl⟩ : ∃ z, z = u := ⟨_, rfl⟩
  have hP : va_P D vwCl [(h0, .inr (6, [v0, .ref h1, .ref h2, v1, v2, v3, .ref h3, .int 2, v4, v5, v6, v7, v8, v9, v10, v11, v12, v13, v14, v15, v16, v17, v18, v19, v20, v21, v22])), (h1, .inl (a0, 609, .inr (.inl y1_2))), (h3, .inl (a2, 48, .inl f2)), (h2, .inl (a1, 609, .inr (.inl y1_1)))] H := hP
  have hD : va_D A [(h0, .inr (6, [v0, .ref h1, .ref h2, v1, v2, v3, .ref h3, .int 2, v4, v5, v6, v7, v8, v9, v10, v11, v12, v13, v14, v15, v16, v17, v18, v19, v20, v21, v22])), (h1, .inl (a0, 609, .inr (.inl y1_2))), (h3, .inl (a2, 48, .inl f2)), (h2, .inl (a1, 609, .inr (.inl y1_1)))] := hD
  have hK : va_K D vwCl [(a0, .long), (a2, .int), (a1, .long)] s := hK
  refine W.widen (k := 0) (n := 0) (Nat.le_of_ble_eq_true rfl) (Nat.le_of_ble_eq_true rfl) ?_
  exact fl hx hb hr hlocks hP hD hK hS ((y1_2, y1_1)) trivial rfl [0, 1, 3, 2] [0, 2, 1] rfl (by decide) rfl (Nat.le_of_ble_eq_true rfl) (Nat.le_of_ble_eq_true rfl) dX6_errorBy_15
set_option maxHeartbeats 4000000 in
set_option maxRecDepth 100000 in
theorem cX6_errorWith_246 (l : Launch) (D : va_G) (h0 : Nat) (x0 : Int32) (h1 : Nat) (h2 : Nat) (h3 : Nat) (v0 : Value) (v1 : Value) (v2 : Value) (v3 : Value) (v4 : Value) (v5 : Value) (v6 : Value) (v7 : Value) (v8 : Value) (v9 : Value) (v10 : Value) (v11 : Value) (v12 : Value) (v13 : Value) (v14 : Value) (v15 : Value) (v16 : Value) (v17 : Value) (v18 : Value) (v19 : Value) (v20 : Value) (v21 : Value) (v22 : Value) (f0 : Nat → Int64) (f1 : Nat → Int64) (f2 : Nat → Int32) (a0 : ClassId) (a1 : ClassId) (a2 : ClassId) (ef0_4 : f0 4 = 0) (ef0_5 : f0 5 = 0) (ef0_6 : f0 6 = 0) (ef2_0 : f2 0 = 0) (ef2_1 : f2 1 = 0) (d0 : ¬ ((lg_cmp x0.toInt64 0) < 0)) (d1 : ¬ (0 < (lg_cmp x0.toInt64 9999))) : CT l yX6_errorWith cX6_errorWith 3 (some .long) { frames := 3, cells := 0, slots := 0, locals := 69 } [.ref h0, .int x0, .int 1] D [(h0, .inr (6, [v0, .ref h1, .ref h2, v1, v2, v3, .ref h3, .int 2, v4, v5, v6, v7, v8, v9, v10, v11, v12, v13, v14, v15, v16, v17, v18, v19, v20, v21, v22])), (h1, .inl (a0, 609, .inr (.inl f0))), (h2, .inl (a1, 609, .inr (.inl f1))), (h3, .inl (a2, 48, .inl f2))] [(a0, .long), (a1, .long), (a2, .int)] XN [(h0, .inr (6, [v0, .ref h1, .ref h2, v1, v2, v3, .ref h3, .int 2, v4, v5, v6, v7, v8, v9, v10, v11, v12, v13, v14, v15, v16, v17, v18, v19, v20, v21, v22])), (h1, .inl (a0, 609, .inr (.inl f0))), (h2, .inl (a1, 609, .inr (.inl f1))), (h3, .inl (a2, 48, .inl f2))] (el (fun _ : (Nat → Int64) × (Nat → Int64) => True) (fun u => 0) (fun u => [(h0, .inr (6, [.int 0, .ref h1, .ref h2, v1, v2, v3, .ref h3, .int 2, v4, v5, v6, v7, v8, v9, v10, v11, v12, v13, v14, v15, v16, v17, v18, v19, v20, v21, v22])), (h1, .inl (a0, 609, .inr (.inl u.1))), (h2, .inl (a1, 609, .inr (.inl u.2))), (h3, .inl (a2, 48, .inl f2))]) (fun u => [(a0, .long), (a1, .long), (a2, .int)]) D) 0 0 := by
  refine CT.ofW (by decide +kernel) (Nat.le_of_ble_eq_true rfl) ?_
  intro p e s m below meth c A ls hcs hP hK hD hX hA hS hl
  obtain ⟨hx, hb, hr, hml, hown, hg, hlocks, hin⟩ := hcs
  have hown : s.vm.findClass RX6 = some m.cls := hown
  have hl : lv_has ls 3 [(0, .ref h0), (1, .int x0), (2, .int 1)] := hl
  refine lv_aload_n hx hb dX6_errorWith_0 rfl (lv_at hl 0 rfl) ?_
  refine lv_iload_n hx hb dX6_errorWith_1 rfl (lv_at hl 1 rfl) ?_
  refine lv_i2l (v := x0.toInt64) hx hb dX6_errorWith_2 rfl ?_
  refine lv_lconst (v := 0) hx hb dX6_errorWith_3 (by decide) ?_
  refine lv_ldc2 hx hb hown (hg _ k1568) dX6_errorWith_4 ?_
  refine cSi (n := 3) (As := [.long x0.toInt64, .long 0, .long 9999]) (rest := [.ref h0]) (wr := [(h0, .inr (6, [v0, .ref h1, .ref h2, v1, v2, v3, .ref h3, .int 2, v4, v5, v6, v7, v8, v9, v10, v11, v12, v13, v14, v15, v16, v17, v18, v19, v20, v21, v22])), (h1, .inl (a0, 609, .inr (.inl f0))), (h2, .inl (a1, 609, .inr (.inl f1))), (h3, .inl (a2, 48, .inl f2))]) (tr := [(a0, .long), (a1, .long), (a2, .int)]) hx hb hml hown hg okN (cX6_in_213 l D x0 d0 d1) (mwS k1317 k1318 k92 k1319) ⟨rfl, by decide, by decide, by decide +kernel⟩ ⟨rfl, rfl, (Nat.le_of_ble_eq_true rfl), (Nat.le_of_ble_eq_true rfl)⟩ hP hD hK hS xn [] [] [0, 1, 2, 3] [] [0, 1, 2] rfl (by decide) rfl rfl (by decide) (by decide) rfl rfl (aNil hA hS) (aNil hA hS) rfl hl.1 rfl (Nat.le_of_ble_eq_true rfl) dX6_errorWith_7 ⟨(Nat.le_of_ble_eq_true rfl), (Nat.le_of_ble_eq_true rfl)⟩ (fun u H locs hφ hP hD hK hS hk => ?_)
  have hP : va_P D vwCl [(h0, .inr (6, [v0, .ref h1, .ref h2, v1, v2, v3, .ref h3, .int 2, v4, v5, v6, v7, v8, v9, v10, v11, v12, v13, v14, v15, v16, v17, v18, v19, v20, v21, v22])), (h1, .inl (a0, 609, .inr (.inl f0))), (h2, .inl (a1, 609, .inr (.inl f1))), (h3, .inl (a2, 48, .inl f2))] H := hP
  have hD : va_D A [(h0, .inr (6, [v0, .ref h1, .ref h2, v1, v2, v3, .ref h3, .int 2, v4, v5, v6, v7, v8, v9, v10, v11, v12, v13, v14, v15, v16, v17, v18, v19, v20, v21, v22])), (h1, .inl (a0, 609, .inr (.inl f0))), (h2, .inl (a1, 609, .inr (.inl f1))), (h3, .inl (a2, 48, .inl f2))] := hD
  have hK : va_K D vwCl [(a0, .long), (a1, .long), (a2, .int)] s := hK
  refine W.widen (k := 0) (n := 0) (Nat.le_of_ble_eq_true rfl) (Nat.le_of_ble_eq_true rfl) ?_
  refine lv_if_eq (tgt := 17) hx hb dX6_errorWith_10 (by decide) (fun c9 => absurd c9 (by decide)) (fun _ => ?_)
  refine lv_iconst (v := 0) hx hb dX6_errorWith_13 (by decide) ?_
  refine lv_goto (tgt := 18) hx hb dX6_errorWith_14 (by decide) ?_
  refine va_put (D := D) (ci := 6) (v := .int 0) (ty := .int) (C := RX6) (T := TX6) (N := 27) hx hb hg inX6 tyX6 tyX6_ok nmX6 hown hK hP hD hS 0 rfl rfl 0 (by decide) (hg _ k1219) (fun _ h9 => h9) rfl (by decide +kernel) rfl rfl (Nat.le_of_ble_eq_true rfl) dX6_errorWith_18 (fun H locs hP hD hS => ?_)
  have hP : va_P D vwCl [(h0, .inr (6, [.int 0, .ref h1, .ref h2, v1, v2, v3, .ref h3, .int 2, v4, v5, v6, v7, v8, v9, v10, v11, v12, v13, v14, v15, v16, v17, v18, v19, v20, v21, v22])), (h1, .inl (a0, 609, .inr (.inl f0))), (h2, .inl (a1, 609, .inr (.inl f1))), (h3, .inl (a2, 48, .inl f2))] H := hP
  have hD : va_D A [(h0, .inr (6, [.int 0, .ref h1, .ref h2, v1, v2, v3, .ref h3, .int 2, v4, v5, v6, v7, v8, v9, v10, v11, v12, v13, v14, v15, v16, v17, v18, v19, v20, v21, v22])), (h1, .inl (a0, 609, .inr (.inl f0))), (h2, .inl (a1, 609, .inr (.inl f1))), (h3, .inl (a2, 48, .inl f2))] := hD
  refine lv_aload_n hx hb dX6_errorWith_21 rfl (lv_at hl 0 rfl) ?_
  refine va_get (D := D) (ci := 6) (v := .int 0) (C := RX6) (T := TX6) (N := 27) hx hb hg inX6 hown hK hP 0 rfl rfl 0 (by decide) (hg _ k1219) (fun _ h9 => h9) rfl dX6_errorWith_22 ?_
  refine lv_if_le (tgt := 32) hx hb dX6_errorWith_25 (by decide) (fun _ => ?_) (fun c9 => absurd (by decide) c9)
  refine lv_aload_n hx hb dX6_errorWith_32 rfl (lv_at hl 0 rfl) ?_
  refine lv_iload_n hx hb dX6_errorWith_33 rfl (lv_at hl 1 rfl) ?_
  refine lv_iload_n hx hb dX6_errorWith_34 rfl (lv_at hl 2 rfl) ?_
  refine cVl (n := 2) (As := [.int x0, .int 1]) (rest := []) (wr := []) (tr := []) hx hb hml hown hg okN (cX6_errorBy_247 l D h0 x0 h1 h2 h3 (.int 0) v1 v2 v3 v4 v5 v6 v7 v8 v9 v10 v11 v12 v13 v14 v15 v16 v17 v18 v19 v20 v21 v22 f0 f1 f2 a0 a1 a2 ef0_4 ef0_5 ef0_6 ef2_0 ef2_1) (mwV k1662 k1664 k81 k92 k1665) ⟨rfl, by decide, by decide, by decide +kernel⟩ ⟨rfl, rfl, (Nat.le_of_ble_eq_true rfl), (Nat.le_of_ble_eq_true rfl)⟩ hP hD hK hS xn [0, 1, 2, 3] [0, 1, 2, 3] [] [0, 1, 2] [] rfl (by decide) rfl rfl (by decide) (by decide) rfl rfl (va_free hD hS hA [0, 1, 2, 3] rfl) (va_free hD hS hA [0, 1, 2, 3] rfl) 0 rfl rfl rfl hl.1 rfl (Nat.le_of_ble_eq_true rfl) dX6_errorWith_35 ⟨(Nat.le_of_ble_eq_true rfl), (Nat.le_of_ble_eq_true rfl)⟩ (fun u H locs hφ hP hD hK hS hk => ?_)
  obtain ⟨y0_1, y0_2⟩ := u
  have hP : va_P D vwCl [(h0, .inr (6, [.int 0, .ref h1, .ref h2, v1, v2, v3, .ref h3, .int 2, v4, v5, v6, v7, v8, v9, v10, v11, v12, v13, v14, v15, v16, v17, v18, v19, v20, v21, v22])), (h1, .inl (a0, 609, .inr (.inl y0_1))), (h2, .inl (a1, 609, .inr (.inl y0_2))), (h3, .inl (a2, 48, .inl f2))] H := hP
  have hD : va_D A [(h0, .inr (6, [.int 0, .ref h1, .ref h2, v1, v2, v3, .ref h3, .int 2, v4, v5, v6, v7, v8, v9, v10, v11, v12, v13, v14, v15, v16, v17, v18, v19, v20, v21, v22])), (h1, .inl (a0, 609, .inr (.inl y0_1))), (h2, .inl (a1, 609, .inr (.inl y0_2))), (h3, .inl (a2, 48, .inl f2))] := hD
  have hK : va_K D vwCl [(a0, .long), (a1, .long), (a2, .int)] s := hK
  refine W.widen (k := 0) (n := 0) (Nat.le_of_ble_eq_true rfl) (Nat.le_of_ble_eq_true rfl) ?_
  exact fl hx hb hr hlocks hP hD hK hS ((y0_1, y0_2)) trivial rfl [0, 1, 2, 3] [0, 1, 2] rfl (by decide) rfl (Nat.le_of_ble_eq_true rfl) (Nat.le_of_ble_eq_true rfl) dX6_errorWith_38
set_option maxHeartbeats 4000000 in
set_option maxRecDepth 100000 in
theorem cX6_errorWith_248 (l : Launch) (D : va_G) (h0 : Nat) (x0 : Int32) (v0 : Value) (v1 : Value) (v2 : Value) (v3 : Value) (v4 : Value) (v5 : Value) (v6 : Value) (v7 : Value) (v8 : Value) (v9 : Value) (v10 : Value) (v11 : Value) (v12 : Value) (v13 : Value) (v14 : Value) (v15 : Value) (v16 : Value) (v17 : Value) (v18 : Value) (v19 : Value) (v20 : Value) (v21 : Value) (v22 : Value) (v23 : Value) (v24 : Value) (v25 : Value) (v26 : Value)  (d0 : ¬ ((lg_cmp x0.toInt64 0) < 0)) (d1 : 0 < (lg_cmp x0.toInt64 9999)) : CT l yX6_errorWith cX6_errorWith 3 (some .long) { frames := 1, cells := 0, slots := 0, locals := 25 } [.ref h0, .int x0, .int 0] D [(h0, .inr (6, [v0, v1, v2, v3, v4, v5, v6, v7, v8, v9, v10, v11, v12, v13, v14, v15, v16, v17, v18, v19, v20, v21, v22, v23, v24, v25, v26]))] [] XN [(h0, .inr (6, [v0, v1, v2, v3, v4, v5, v6, v7, v8, v9, v10, v11, v12, v13, v14, v15, v16, v17, v18, v19, v20, v21, v22, v23, v24, v25, v26]))] (el (fun _ : Unit => True) (fun u => 0) (fun _ => [(h0, .inr (6, [.int 1, v1, v2, v3, v4, v5, v6, v7, v8, v9, v10, v11, v12, v13, v14, v15, v16, v17, v18, v19, v20, v21, v22, v23, v24, v25, v26]))]) (fun u => []) D) 0 0 := by
  refine CT.ofW (by decide +kernel) (Nat.le_of_ble_eq_true rfl) ?_
  intro p e s m below meth c A ls hcs hP hK hD hX hA hS hl
  obtain ⟨hx, hb, hr, hml, hown, hg, hlocks, hin⟩ := hcs
  have hown : s.vm.findClass RX6 = some m.cls := hown
  have hl : lv_has ls 3 [(0, .ref h0), (1, .int x0), (2, .int 0)] := hl
  refine lv_aload_n hx hb dX6_errorWith_0 rfl (lv_at hl 0 rfl) ?_
  refine lv_iload_n hx hb dX6_errorWith_1 rfl (lv_at hl 1 rfl) ?_
  refine lv_i2l (v := x0.toInt64) hx hb dX6_errorWith_2 rfl ?_
  refine lv_lconst (v := 0) hx hb dX6_errorWith_3 (by decide) ?_
  refine lv_ldc2 hx hb hown (hg _ k1568) dX6_errorWith_4 ?_
  refine cSi (n := 3) (As := [.long x0.toInt64, .long 0, .long 9999]) (rest := [.ref h0]) (wr := [(h0, .inr (6, [v0, v1, v2, v3, v4, v5, v6, v7, v8, v9, v10, v11, v12, v13, v14, v15, v16, v17, v18, v19, v20, v21, v22, v23, v24, v25, v26]))]) (tr := []) hx hb hml hown hg okN (cX6_in_218 l D x0 d0 d1) (mwS k1317 k1318 k92 k1319) ⟨rfl, by decide, by decide, by decide +kernel⟩ ⟨rfl, rfl, (Nat.le_of_ble_eq_true rfl), (Nat.le_of_ble_eq_true rfl)⟩ hP hD hK hS xn [] [] [0] [] [] rfl (by decide) rfl rfl (by decide) (by decide) rfl rfl (aNil hA hS) (aNil hA hS) rfl hl.1 rfl (Nat.le_of_ble_eq_true rfl) dX6_errorWith_7 ⟨(Nat.le_of_ble_eq_true rfl), (Nat.le_of_ble_eq_true rfl)⟩ (fun u H locs hφ hP hD hK hS hk => ?_)
  have hP : va_P D vwCl [(h0, .inr (6, [v0, v1, v2, v3, v4, v5, v6, v7, v8, v9, v10, v11, v12, v13, v14, v15, v16, v17, v18, v19, v20, v21, v22, v23, v24, v25, v26]))] H := hP
  have hD : va_D A [(h0, .inr (6, [v0, v1, v2, v3, v4, v5, v6, v7, v8, v9, v10, v11, v12, v13, v14, v15, v16, v17, v18, v19, v20, v21, v22, v23, v24, v25, v26]))] := hD
  have hK : va_K D vwCl [] s := hK
  refine W.widen (k := 0) (n := 0) (Nat.le_of_ble_eq_true rfl) (Nat.le_of_ble_eq_true rfl) ?_
  refine lv_if_eq (tgt := 17) hx hb dX6_errorWith_10 (by decide) (fun _ => ?_) (fun c9 => absurd (by decide) c9)
  refine lv_iconst (v := 1) hx hb dX6_errorWith_17 (by decide) ?_
  refine va_put (D := D) (ci := 6) (v := .int 1) (ty := .int) (C := RX6) (T := TX6) (N := 27) hx hb hg inX6 tyX6 tyX6_ok nmX6 hown hK hP hD hS 0 rfl rfl 0 (by decide) (hg _ k1219) (fun _ h9 => h9) rfl (by decide +kernel) rfl rfl (Nat.le_of_ble_eq_true rfl) dX6_errorWith_18 (fun H locs hP hD hS => ?_)
  have hP : va_P D vwCl [(h0, .inr (6, [.int 1, v1, v2, v3, v4, v5, v6, v7, v8, v9, v10, v11, v12, v13, v14, v15, v16, v17, v18, v19, v20, v21, v22, v23, v24, v25, v26]))] H := hP
  have hD : va_D A [(h0, .inr (6, [.int 1, v1, v2, v3, v4, v5, v6, v7, v8, v9, v10, v11, v12, v13, v14, v15, v16, v17, v18, v19, v20, v21, v22, v23, v24, v25, v26]))] := hD
  refine lv_aload_n hx hb dX6_errorWith_21 rfl (lv_at hl 0 rfl) ?_
  refine va_get (D := D) (ci := 6) (v := .int 1) (C := RX6) (T := TX6) (N := 27) hx hb hg inX6 hown hK hP 0 rfl rfl 0 (by decide) (hg _ k1219) (fun _ h9 => h9) rfl dX6_errorWith_22 ?_
  refine lv_if_le (tgt := 32) hx hb dX6_errorWith_25 (by decide) (fun c9 => absurd c9 (by decide)) (fun _ => ?_)
  refine lv_lconst (v := 0) hx hb dX6_errorWith_28 (by decide) ?_
  refine lv_goto (tgt := 38) hx hb dX6_errorWith_29 (by decide) ?_
  exact fl hx hb hr hlocks hP hD hK hS (()) trivial rfl [0] [] rfl (by decide) rfl (Nat.le_of_ble_eq_true rfl) (Nat.le_of_ble_eq_true rfl) dX6_errorWith_38
set_option maxHeartbeats 4000000 in
set_option maxRecDepth 100000 in
theorem cX6_errorWith_249 (l : Launch) (D : va_G) (h0 : Nat) (x0 : Int32) (v0 : Value) (v1 : Value) (v2 : Value) (v3 : Value) (v4 : Value) (v5 : Value) (v6 : Value) (v7 : Value) (v8 : Value) (v9 : Value) (v10 : Value) (v11 : Value) (v12 : Value) (v13 : Value) (v14 : Value) (v15 : Value) (v16 : Value) (v17 : Value) (v18 : Value) (v19 : Value) (v20 : Value) (v21 : Value) (v22 : Value) (v23 : Value) (v24 : Value) (v25 : Value) (v26 : Value)  (d0 : ¬ ((lg_cmp x0.toInt64 0) < 0)) (d1 : 0 < (lg_cmp x0.toInt64 9999)) : CT l yX6_errorWith cX6_errorWith 3 (some .long) { frames := 1, cells := 0, slots := 0, locals := 25 } [.ref h0, .int x0, .int 1] D [(h0, .inr (6, [v0, v1, v2, v3, v4, v5, v6, v7, v8, v9, v10, v11, v12, v13, v14, v15, v16, v17, v18, v19, v20, v21, v22, v23, v24, v25, v26]))] [] XN [(h0, .inr (6, [v0, v1, v2, v3, v4, v5, v6, v7, v8, v9, v10, v11, v12, v13, v14, v15, v16, v17, v18, v19, v20, v21, v22, v23, v24, v25, v26]))] (el (fun _ : Unit => True) (fun u => 0) (fun _ => [(h0, .inr (6, [.int 1, v1, v2, v3, v4, v5, v6, v7, v8, v9, v10, v11, v12, v13, v14, v15, v16, v17, v18, v19, v20, v21, v22, v23, v24, v25, v26]))]) (fun u => []) D) 0 0 := by
  refine CT.ofW (by decide +kernel) (Nat.le_of_ble_eq_true rfl) ?_
  intro p e s m below meth c A ls hcs hP hK hD hX hA hS hl
  obtain ⟨hx, hb, hr, hml, hown, hg, hlocks, hin⟩ := hcs
  have hown : s.vm.findClass RX6 = some m.cls := hown
  have hl : lv_has ls 3 [(0, .ref h0), (1, .int x0), (2, .int 1)] := hl
  refine lv_aload_n hx hb dX6_errorWith_0 rfl (lv_at hl 0 rfl) ?_
  refine lv_iload_n hx hb dX6_errorWith_1 rfl (lv_at hl 1 rfl) ?_
  refine lv_i2l (v := x0.toInt64) hx hb dX6_errorWith_2 rfl ?_
  refine lv_lconst (v := 0) hx hb dX6_errorWith_3 (by decide) ?_
  refine lv_ldc2 hx hb hown (hg _ k1568) dX6_errorWith_4 ?_
  refine cSi (n := 3) (As := [.long x0.toInt64, .long 0, .long 9999]) (rest := [.ref h0]) (wr := [(h0, .inr (6, [v0, v1, v2, v3, v4, v5, v6, v7, v8, v9, v10, v11, v12, v13, v14, v15, v16, v17, v18, v19, v20, v21, v22, v23, v24, v25, v26]))]) (tr := []) hx hb hml hown hg okN (cX6_in_218 l D x0 d0 d1) (mwS k1317 k1318 k92 k1319) ⟨rfl, by decide, by decide, by decide +kernel⟩ ⟨rfl, rfl, (Nat.le_of_ble_eq_true rfl), (Nat.le_of_ble_eq_true rfl)⟩ hP hD hK hS xn [] [] [0] [] [] rfl (by decide) rfl rfl (by decide) (by decide) rfl rfl (aNil hA hS) (aNil hA hS) rfl hl.1 rfl (Nat.le_of_ble_eq_true rfl) dX6_errorWith_7 ⟨(Nat.le_of_ble_eq_true rfl), (Nat.le_of_ble_eq_true rfl)⟩ (fun u H locs hφ hP hD hK hS hk => ?_)
  have hP : va_P D vwCl [(h0, .inr (6, [v0, v1, v2, v3, v4, v5, v6, v7, v8, v9, v10, v11, v12, v13, v14, v15, v16, v17, v18, v19, v20, v21, v22, v23, v24, v25, v26]))] H := hP
  have hD : va_D A [(h0, .inr (6, [v0, v1, v2, v3, v4, v5, v6, v7, v8, v9, v10, v11, v12, v13, v14, v15, v16, v17, v18, v19, v20, v21, v22, v23, v24, v25, v26]))] := hD
  have hK : va_K D vwCl [] s := hK
  refine W.widen (k := 0) (n := 0) (Nat.le_of_ble_eq_true rfl) (Nat.le_of_ble_eq_true rfl) ?_
  refine lv_if_eq (tgt := 17) hx hb dX6_errorWith_10 (by decide) (fun _ => ?_) (fun c9 => absurd (by decide) c9)
  refine lv_iconst (v := 1) hx hb dX6_errorWith_17 (by decide) ?_
  refine va_put (D := D) (ci := 6) (v := .int 1) (ty := .int) (C := RX6) (T := TX6) (N := 27) hx hb hg inX6 tyX6 tyX6_ok nmX6 hown hK hP hD hS 0 rfl rfl 0 (by decide) (hg _ k1219) (fun _ h9 => h9) rfl (by decide +kernel) rfl rfl (Nat.le_of_ble_eq_true rfl) dX6_errorWith_18 (fun H locs hP hD hS => ?_)
  have hP : va_P D vwCl [(h0, .inr (6, [.int 1, v1, v2, v3, v4, v5, v6, v7, v8, v9, v10, v11, v12, v13, v14, v15, v16, v17, v18, v19, v20, v21, v22, v23, v24, v25, v26]))] H := hP
  have hD : va_D A [(h0, .inr (6, [.int 1, v1, v2, v3, v4, v5, v6, v7, v8, v9, v10, v11, v12, v13, v14, v15, v16, v17, v18, v19, v20, v21, v22, v23, v24, v25, v26]))] := hD
  refine lv_aload_n hx hb dX6_errorWith_21 rfl (lv_at hl 0 rfl) ?_
  refine va_get (D := D) (ci := 6) (v := .int 1) (C := RX6) (T := TX6) (N := 27) hx hb hg inX6 hown hK hP 0 rfl rfl 0 (by decide) (hg _ k1219) (fun _ h9 => h9) rfl dX6_errorWith_22 ?_
  refine lv_if_le (tgt := 32) hx hb dX6_errorWith_25 (by decide) (fun c9 => absurd c9 (by decide)) (fun _ => ?_)
  refine lv_lconst (v := 0) hx hb dX6_errorWith_28 (by decide) ?_
  refine lv_goto (tgt := 38) hx hb dX6_errorWith_29 (by decide) ?_
  exact fl hx hb hr hlocks hP hD hK hS (()) trivial rfl [0] [] rfl (by decide) rfl (Nat.le_of_ble_eq_true rfl) (Nat.le_of_ble_eq_true rfl) dX6_errorWith_38
set_option maxHeartbeats 4000000 in
set_option maxRecDepth 100000 in
theorem cX6_in_251 (l : Launch) (D : va_G) (x0 : Int32)  (d0 : (lg_cmp x0.toInt64 0) < 0) : CT l yX6_in cX6_in 6 (some .boolean) { frames := 0, cells := 0, slots := 0, locals := 0 } [.long x0.toInt64, .long 0, .long 99999] D [] [] XN [] (ei (fun _ : Unit => True) (fun _ => 0) (fun _ => []) (fun _ => []) D) 0 0 := by
  refine CT.ofR (by decide +kernel) (Nat.le_of_ble_eq_true rfl) ?_
  intro p e s m below meth c A ls hcs hP hK hD hX hA hS hl
  obtain ⟨hx, hb, hr, hml, hown, hg, hlocks, hin⟩ := hcs
  have hown : s.vm.findClass RX6 = some m.cls := hown
  have hl : lv_has ls 6 [(0, .long x0.toInt64), (2, .long 0), (4, .long 99999)] := hl
  refine lv_lload_n hx hb dX6_in_0 rfl (lv_at hl 0 rfl) ?_
  refine lv_lload_n hx hb dX6_in_1 rfl (lv_at hl 1 rfl) ?_
  refine W.lcmp hx hb dX6_in_2 ?_
  refine lv_if_lt (tgt := 17) hx hb dX6_in_3 (by decide) (fun _ => ?_) (fun c9 => absurd d0 c9)
  refine lv_iconst (v := 0) hx hb dX6_in_17 (by decide) ?_
  exact fz0 hx hb hr rfl hlocks hK hS (Nat.le_of_ble_eq_true rfl) (Nat.le_of_ble_eq_true rfl) dX6_in_18
set_option maxHeartbeats 4000000 in
set_option maxRecDepth 100000 in
theorem cX6_bestThreshold_250 (l : Launch) (D : va_G) (h0 : Nat) (x0 : Int32) (v0 : Value) (v1 : Value) (v2 : Value) (v3 : Value) (v4 : Value) (v5 : Value) (v6 : Value) (v7 : Value) (v8 : Value) (v9 : Value) (v10 : Value) (v11 : Value) (v12 : Value) (v13 : Value) (v14 : Value) (v15 : Value) (v16 : Value) (v17 : Value) (v18 : Value) (v19 : Value) (v20 : Value) (v21 : Value) (v22 : Value) (v23 : Value) (v24 : Value) (v25 : Value) (v26 : Value)  (d0 : (lg_cmp x0.toInt64 0) < 0) : CT l yX6_bestThreshold cX6_bestThreshold 3 (some .int) { frames := 1, cells := 0, slots := 0, locals := 25 } [.ref h0, .int x0] D [(h0, .inr (6, [v0, v1, v2, v3, v4, v5, v6, v7, v8, v9, v10, v11, v12, v13, v14, v15, v16, v17, v18, v19, v20, v21, v22, v23, v24, v25, v26]))] [] XN [(h0, .inr (6, [v0, v1, v2, v3, v4, v5, v6, v7, v8, v9, v10, v11, v12, v13, v14, v15, v16, v17, v18, v19, v20, v21, v22, v23, v24, v25, v26]))] (ei (fun _ : Unit => True) (fun u => 0) (fun _ => [(h0, .inr (6, [.int 1, v1, v2, v3, v4, v5, v6, v7, v8, v9, v10, v11, v12, v13, v14, v15, v16, v17, v18, v19, v20, v21, v22, v23, v24, v25, v26]))]) (fun u => []) D) 0 0 := by
  refine CT.ofW (by decide +kernel) (Nat.le_of_ble_eq_true rfl) ?_
  intro p e s m below meth c A ls hcs hP hK hD hX hA hS hl
  obtain ⟨hx, hb, hr, hml, hown, hg, hlocks, hin⟩ := hcs
  have hown : s.vm.findClass RX6 = some m.cls := hown
  have hl : lv_has ls 3 [(0, .ref h0), (1, .int x0)] := hl
  refine lv_aload_n hx hb dX6_bestThreshold_0 rfl (lv_at hl 0 rfl) ?_
  refine lv_iload_n hx hb dX6_bestThreshold_1 rfl (lv_at hl 1 rfl) ?_
  refine lv_i2l (v := x0.toInt64) hx hb dX6_bestThreshold_2 rfl ?_
  refine lv_lconst (v := 0) hx hb dX6_bestThreshold_3 (by decide) ?_
  refine lv_ldc2 hx hb hown (hg _ k1625) dX6_bestThreshold_4 ?_
  refine cSi (n := 3) (As := [.long x0.toInt64, .long 0, .long 99999]) (rest := [.ref h0]) (wr := [(h0, .inr (6, [v0, v1, v2, v3, v4, v5, v6, v7, v8, v9, v10, v11, v12, v13, v14, v15, v16, v17, v18, v19, v20, v21, v22, v23, v24, v25, v26]))]) (tr := []) hx hb hml hown hg okN (cX6_in_251 l D x0 d0) (mwS k1317 k1318 k92 k1319) ⟨rfl, by decide, by decide, by decide +kernel⟩ ⟨rfl, rfl, (Nat.le_of_ble_eq_true rfl), (Nat.le_of_ble_eq_true rfl)⟩ hP hD hK hS xn [] [] [0] [] [] rfl (by decide) rfl rfl (by decide) (by decide) rfl rfl (aNil hA hS) (aNil hA hS) rfl hl.1 rfl (Nat.le_of_ble_eq_true rfl) dX6_bestThreshold_7 ⟨(Nat.le_of_ble_eq_true rfl), (Nat.le_of_ble_eq_true rfl)⟩ (fun u H locs hφ hP hD hK hS hk => ?_)
  have hP : va_P D vwCl [(h0, .inr (6, [v0, v1, v2, v3, v4, v5, v6, v7, v8, v9, v10, v11, v12, v13, v14, v15, v16, v17, v18, v19, v20, v21, v22, v23, v24, v25, v26]))] H := hP
  have hD : va_D A [(h0, .inr (6, [v0, v1, v2, v3, v4, v5, v6, v7, v8, v9, v10, v11, v12, v13, v14, v15, v16, v17, v18, v19, v20, v21, v22, v23, v24, v25, v26]))] := hD
  have hK : va_K D vwCl [] s := hK
  refine W.widen (k := 0) (n := 0) (Nat.le_of_ble_eq_true rfl) (Nat.le_of_ble_eq_true rfl) ?_
  refine lv_if_eq (tgt := 17) hx hb dX6_bestThreshold_10 (by decide) (fun _ => ?_) (fun c9 => absurd (by decide) c9)
  refine lv_iconst (v := 1) hx hb dX6_bestThreshold_17 (by decide) ?_
  refine va_put (D := D) (ci := 6) (v := .int 1) (ty := .int) (C := RX6) (T := TX6) (N := 27) hx hb hg inX6 tyX6 tyX6_ok nmX6 hown hK hP hD hS 0 rfl rfl 0 (by decide) (hg _ k1219) (fun _ h9 => h9) rfl (by decide +kernel) rfl rfl (Nat.le_of_ble_eq_true rfl) dX6_bestThreshold_18 (fun H locs hP hD hS => ?_)
  have hP : va_P D vwCl [(h0, .inr (6, [.int 1, v1, v2, v3, v4, v5, v6, v7, v8, v9, v10, v11, v12, v13, v14, v15, v16, v17, v18, v19, v20, v21, v22, v23, v24, v25, v26]))] H := hP
  have hD : va_D A [(h0, .inr (6, [.int 1, v1, v2, v3, v4, v5, v6, v7, v8, v9, v10, v11, v12, v13, v14, v15, v16, v17, v18, v19, v20, v21, v22, v23, v24, v25, v26]))] := hD
  refine lv_aload_n hx hb dX6_bestThreshold_21 rfl (lv_at hl 0 rfl) ?_
  refine va_get (D := D) (ci := 6) (v := .int 1) (C := RX6) (T := TX6) (N := 27) hx hb hg inX6 hown hK hP 0 rfl rfl 0 (by decide) (hg _ k1219) (fun _ h9 => h9) rfl dX6_bestThreshold_22 ?_
  refine lv_if_le (tgt := 30) hx hb dX6_bestThreshold_25 (by decide) (fun c9 => absurd c9 (by decide)) (fun _ => ?_)
  refine lv_iconst (v := 0) hx hb dX6_bestThreshold_28 (by decide) ?_
  exact fi hx hb hr hlocks hP hD hK hS (()) trivial rfl [0] [] rfl (by decide) rfl (Nat.le_of_ble_eq_true rfl) (Nat.le_of_ble_eq_true rfl) dX6_bestThreshold_29
set_option maxHeartbeats 4000000 in
set_option maxRecDepth 100000 in
theorem cX6_in_253 (l : Launch) (D : va_G) (x0 : Int32)  (d0 : ¬ ((lg_cmp x0.toInt64 0) < 0)) (d1 : ¬ (0 < (lg_cmp x0.toInt64 99999))) : CT l yX6_in cX6_in 6 (some .boolean) { frames := 0, cells := 0, slots := 0, locals := 0 } [.long x0.toInt64, .long 0, .long 99999] D [] [] XN [] (ei (fun _ : Unit => True) (fun _ => 1) (fun _ => []) (fun _ => []) D) 0 0 := by
  refine CT.ofR (by decide +kernel) (Nat.le_of_ble_eq_true rfl) ?_
  intro p e s m below meth c A ls hcs hP hK hD hX hA hS hl
  obtain ⟨hx, hb, hr, hml, hown, hg, hlocks, hin⟩ := hcs
  have hown : s.vm.findClass RX6 = some m.cls := hown
  have hl : lv_has ls 6 [(0, .long x0.toInt64), (2, .long 0), (4, .long 99999)] := hl
  refine lv_lload_n hx hb dX6_in_0 rfl (lv_at hl 0 rfl) ?_
  refine lv_lload_n hx hb dX6_in_1 rfl (lv_at hl 1 rfl) ?_
  refine W.lcmp hx hb dX6_in_2 ?_
  refine lv_if_lt (tgt := 17) hx hb dX6_in_3 (by decide) (fun c9 => absurd c9 d0) (fun _ => ?_)
  refine lv_lload_n hx hb dX6_in_6 rfl (lv_at hl 0 rfl) ?_
  refine lv_lload hx hb dX6_in_7 (lv_at hl 2 rfl) ?_
  refine W.lcmp hx hb dX6_in_9 ?_
  refine lv_if_gt (tgt := 17) hx hb dX6_in_10 (by decide) (fun c9 => absurd c9 d1) (fun _ => ?_)
  refine lv_iconst (v := 1) hx hb dX6_in_13 (by decide) ?_
  refine lv_goto (tgt := 18) hx hb dX6_in_14 (by decide) ?_
  exact fz0 hx hb hr rfl hlocks hK hS (Nat.le_of_ble_eq_true rfl) (Nat.le_of_ble_eq_true rfl) dX6_in_18
set_option maxHeartbeats 4000000 in
set_option maxRecDepth 100000 in
theorem cX6_cuts_255 (l : Launch) (D : va_G) (h0 : Nat) (h1 : Nat) (v0 : Value) (v1 : Value) (v2 : Value) (v3 : Value) (v4 : Value) (v5 : Value) (v6 : Value) (v7 : Value) (v8 : Value) (v9 : Value) (v10 : Value) (v11 : Value) (v12 : Value) (v13 : Value) (v14 : Value) (v15 : Value) (v16 : Value) (v17 : Value) (v18 : Value) (v19 : Value) (v20 : Value) (v21 : Value) (v22 : Value) (v23 : Value) (v24 : Value) (v25 : Value) (f0 : Nat → Int64) (a0 : ClassId) (ef0_4 : f0 4 = 0)  : CT l yX6_cuts cX6_cuts 8 none { frames := 1, cells := 0, slots := 0, locals := 20 } [.ref h0, .int 1000, .int 0] D [(h0, .inr (6, [v0, .ref h1, v1, v2, v3, v4, v5, v6, v7, v8, v9, v10, v11, v12, v13, v14, v15, v16, v17, v18, v19, v20, v21, v22, v23, v24, v25])), (h1, .inl (a0, 609, .inr (.inl f0)))] [(a0, .long)] XN [] (ev (fun _ : Unit => True) (fun _ => []) (fun _ => []) D) 0 0 := by
  refine CT.ofR (by decide +kernel) (Nat.le_of_ble_eq_true rfl) ?_
  intro p e s m below meth c A ls hcs hP hK hD hX hA hS hl
  obtain ⟨hx, hb, hr, hml, hown, hg, hlocks, hin⟩ := hcs
  have hown : s.vm.findClass RX6 = some m.cls := hown
  have hl : lv_has ls 8 [(0, .ref h0), (1, .int 1000), (2, .int 0)] := hl
  refine lv_iconst (v := 0) hx hb dX6_cuts_0 (by decide) ?_
  refine lv_istore_n (lv' := [(3, .int 0), (0, .ref h0), (1, .int 1000), (2, .int 0)]) hx hb dX6_cuts_1 rfl hl (by decide) rfl (fun ls hl => ?_)
  refine lv_iload_n hx hb dX6_cuts_2 rfl (lv_at hl 0 rfl) ?_
  refine lv_aload_n hx hb dX6_cuts_3 rfl (lv_at hl 1 rfl) ?_
  refine cVi (n := 0) (As := []) (rest := [.int 0]) (wr := [(h0, .inr (6, [v0, .ref h1, v1, v2, v3, v4, v5, v6, v7, v8, v9, v10, v11, v12, v13, v14, v15, v16, v17, v18, v19, v20, v21, v22, v23, v24, v25])), (h1, .inl (a0, 609, .inr (.inl f0)))]) (tr := [(a0, .long)]) hx hb hml hown hg okN (cX6_steps_35 l D h0 h1 v0 v1 v2 v3 v4 v5 v6 v7 v8 v9 v10 v11 v12 v13 v14 v15 v16 v17 v18 v19 v20 v21 v22 v23 v24 v25 f0 a0 ef0_4) (mwV k1416 k1418 k52 k92 k1419) ⟨rfl, by decide, by decide, by decide +kernel⟩ ⟨rfl, rfl, (Nat.le_of_ble_eq_true rfl), (Nat.le_of_ble_eq_true rfl)⟩ hP hD hK hS xn [0, 1] [] [0, 1] [0] [0] rfl (by decide) rfl rfl (by decide) (by decide) rfl rfl (aNil hA hS) (fun _ _ => trivial) 0 rfl rfl rfl hl.1 rfl (Nat.le_of_ble_eq_true rfl) dX6_cuts_4 ⟨(Nat.le_of_ble_eq_true rfl), (Nat.le_of_ble_eq_true rfl)⟩ (fun u H locs hφ hP hD hK hS hk => ?_)
  have hP : va_P D vwCl [(h0, .inr (6, [v0, .ref h1, v1, v2, v3, v4, v5, v6, v7, v8, v9, v10, v11, v12, v13, v14, v15, v16, v17, v18, v19, v20, v21, v22, v23, v24, v25])), (h1, .inl (a0, 609, .inr (.inl f0)))] H := hP
  have hD : va_D (fun _ => True) [(h0, .inr (6, [v0, .ref h1, v1, v2, v3, v4, v5, v6, v7, v8, v9, v10, v11, v12, v13, v14, v15, v16, v17, v18, v19, v20, v21, v22, v23, v24, v25])), (h1, .inl (a0, 609, .inr (.inl f0)))] := hD
  have hK : va_K D vwCl [(a0, .long)] s := hK
  refine W.widen (k := 0) (n := 0) (Nat.le_of_ble_eq_true rfl) (Nat.le_of_ble_eq_true rfl) ?_
  refine lv_icmp_ge (tgt := 77) hx hb dX6_cuts_7 (by decide) (fun _ => ?_) (fun c9 => absurd (by decide) c9)
  exact fv0 hx hb hr hlocks hK hS (Nat.le_of_ble_eq_true rfl) (Nat.le_of_ble_eq_true rfl) dX6_cuts_77
set_option maxHeartbeats 4000000 in
set_option maxRecDepth 100000 in
theorem cX6_errorBy_254 (l : Launch) (D : va_G) (h0 : Nat) (h1 : Nat) (h2 : Nat) (h3 : Nat) (v0 : Value) (v1 : Value) (v2 : Value) (v3 : Value) (v4 : Value) (v5 : Value) (v6 : Value) (v7 : Value) (v8 : Value) (v9 : Value) (v10 : Value) (v11 : Value) (v12 : Value) (v13 : Value) (v14 : Value) (v15 : Value) (v16 : Value) (v17 : Value) (v18 : Value) (v19 : Value) (v20 : Value) (v21 : Value) (v22 : Value) (f0 : Nat → Int64) (f1 : Nat → Int64) (f2 : Nat → Int32) (a0 : ClassId) (a1 : ClassId) (a2 : ClassId) (ef0_4 : f0 4 = 0) (ef0_5 : f0 5 = 0) (ef0_6 : f0 6 = 0) (ef2_0 : f2 0 = 0) (ef2_1 : f2 1 = 0)  : CT l yX6_errorBy cX6_errorBy 3 (some .long) { frames := 2, cells := 0, slots := 0, locals := 47 } [.ref h0, .int 1000, .int 0] D [(h0, .inr (6, [v0, .ref h1, .ref h2, v1, v2, v3, .ref h3, .int 2, v4, v5, v6, v7, v8, v9, v10, v11, v12, v13, v14, v15, v16, v17, v18, v19, v20, v21, v22])), (h1, .inl (a0, 609, .inr (.inl f0))), (h2, .inl (a1, 609, .inr (.inl f1))), (h3, .inl (a2, 48, .inl f2))] [(a0, .long), (a1, .long), (a2, .int)] XN [(h0, .inr (6, [v0, .ref h1, .ref h2, v1, v2, v3, .ref h3, .int 2, v4, v5, v6, v7, v8, v9, v10, v11, v12, v13, v14, v15, v16, v17, v18, v19, v20, v21, v22])), (h1, .inl (a0, 609, .inr (.inl f0))), (h2, .inl (a1, 609, .inr (.inl f1))), (h3, .inl (a2, 48, .inl f2))] (el (fun _ : (Nat → Int64) × (Nat → Int64) => True) (fun u => 0) (fun u => [(h0, .inr (6, [v0, .ref h1, .ref h2, v1, v2, v3, .ref h3, .int 2, v4, v5, v6, v7, v8, v9, v10, v11, v12, v13, v14, v15, v16, v17, v18, v19, v20, v21, v22])), (h1, .inl (a0, 609, .inr (.inl u.1))), (h2, .inl (a1, 609, .inr (.inl u.2))), (h3, .inl (a2, 48, .inl f2))]) (fun u => [(a0, .long), (a1, .long), (a2, .int)]) D) 0 0 := by
  refine CT.ofW (by decide +kernel) (Nat.le_of_ble_eq_true rfl) ?_
  intro p e s m below meth c A ls hcs hP hK hD hX hA hS hl
  obtain ⟨hx, hb, hr, hml, hown, hg, hlocks, hin⟩ := hcs
  have hown : s.vm.findClass RX6 = some m.cls := hown
  have hl : lv_has ls 3 [(0, .ref h0), (1, .int 1000), (2, .int 0)] := hl
  refine lv_aload_n hx hb dX6_errorBy_0 rfl (lv_at hl 0 rfl) ?_
  refine cVv (n := 0) (As := []) (rest := []) (wr := [(h3, .inl (a2, 48, .inl f2))]) (tr := [(a2, .int)]) hx hb hml hown hg okN (cX6_puts_234 l D h0 h1 h2 v0 v1 v2 v3 (.ref h3) (.int 2) v4 v5 v6 v7 v8 v9 v10 v11 v12 v13 v14 v15 v16 v17 v18 v19 v20 v21 v22 f0 f1 a0 a1) (mwV k1646 k1648 k78 k92 k1649) ⟨rfl, by decide, by decide, by decide +kernel⟩ ⟨rfl, rfl, (Nat.le_of_ble_eq_true rfl), (Nat.le_of_ble_eq_true rfl)⟩ hP hD hK hS xn [0, 1, 2] [0, 1, 2] [3] [0, 1] [2] rfl (by decide) rfl rfl (by decide) (by decide) rfl rfl (va_free hD hS hA [0, 1, 2] rfl) (va_free hD hS hA [0, 1, 2] rfl) 0 rfl rfl rfl hl.1 rfl (Nat.le_of_ble_eq_true rfl) dX6_errorBy_1 ⟨(Nat.le_of_ble_eq_true rfl), (Nat.le_of_ble_eq_true rfl)⟩ (fun u H locs hφ hP hD hK hS hk => ?_)
  obtain ⟨y1_1, rfl⟩ : ∃ z, z = u := ⟨_, rfl⟩
  have hP : va_P D vwCl [(h3, .inl (a2, 48, .inl f2)), (h0, .inr (6, [v0, .ref h1, .ref h2, v1, v2, v3, .ref h3, .int 2, v4, v5, v6, v7, v8, v9, v10, v11, v12, v13, v14, v15, v16, v17, v18, v19, v20, v21, v22])), (h1, .inl (a0, 609, .inr (.inl f0))), (h2, .inl (a1, 609, .inr (.inl y1_1)))] H := hP
  have hD : va_D A [(h3, .inl (a2, 48, .inl f2)), (h0, .inr (6, [v0, .ref h1, .ref h2, v1, v2, v3, .ref h3, .int 2, v4, v5, v6, v7, v8, v9, v10, v11, v12, v13, v14, v15, v16, v17, v18, v19, v20, v21, v22])), (h1, .inl (a0, 609, .inr (.inl f0))), (h2, .inl (a1, 609, .inr (.inl y1_1)))] := hD
  have hK : va_K D vwCl [(a2, .int), (a0, .long), (a1, .long)] s := hK
  refine W.widen (k := 0) (n := 0) (Nat.le_of_ble_eq_true rfl) (Nat.le_of_ble_eq_true rfl) ?_
  refine lv_aload_n hx hb dX6_errorBy_4 rfl (lv_at hl 0 rfl) ?_
  refine lv_iload_n hx hb dX6_errorBy_5 rfl (lv_at hl 1 rfl) ?_
  refine lv_iload_n hx hb dX6_errorBy_6 rfl (lv_at hl 2 rfl) ?_
  refine cVv (n := 2) (As := [.int 1000, .int 0]) (rest := []) (wr := [(h3, .inl (a2, 48, .inl f2)), (h0, .inr (6, [v0, .ref h1, .ref h2, v1, v2, v3, .ref h3, .int 2, v4, v5, v6, v7, v8, v9, v10, v11, v12, v13, v14, v15, v16, v17, v18, v19, v20, v21, v22])), (h1, .inl (a0, 609, .inr (.inl f0))), (h2, .inl (a1, 609, .inr (.inl y1_1)))]) (tr := [(a2, .int), (a0, .long), (a1, .long)]) hx hb hml hown hg okN (cX6_cuts_255 l D h0 h1 v0 (.ref h2) v1 v2 v3 (.ref h3) (.int 2) v4 v5 v6 v7 v8 v9 v10 v11 v12 v13 v14 v15 v16 v17 v18 v19 v20 v21 v22 f0 a0 ef0_4) (mwV k1630 k1632 k77 k92 k1633) ⟨rfl, by decide, by decide, by decide +kernel⟩ ⟨rfl, rfl, (Nat.le_of_ble_eq_true rfl), (Nat.le_of_ble_eq_true rfl)⟩ hP hD hK hS xn [1, 2] [] [0, 1, 2, 3] [1] [0, 1, 2] rfl (by decide) rfl rfl (by decide) (by decide) rfl rfl (aNil hA hS) (aNil hA hS) 1 rfl rfl rfl hl.1 rfl (Nat.le_of_ble_eq_true rfl) dX6_errorBy_7 ⟨(Nat.le_of_ble_eq_true rfl), (Nat.le_of_ble_eq_true rfl)⟩ (fun u H locs hφ hP hD hK hS hk => ?_)
  have hP : va_P D vwCl [(h3, .inl (a2, 48, .inl f2)), (h0, .inr (6, [v0, .ref h1, .ref h2, v1, v2, v3, .ref h3, .int 2, v4, v5, v6, v7, v8, v9, v10, v11, v12, v13, v14, v15, v16, v17, v18, v19, v20, v21, v22])), (h1, .inl (a0, 609, .inr (.inl f0))), (h2, .inl (a1, 609, .inr (.inl y1_1)))] H := hP
  have hD : va_D A [(h3, .inl (a2, 48, .inl f2)), (h0, .inr (6, [v0, .ref h1, .ref h2, v1, v2, v3, .ref h3, .int 2, v4, v5, v6, v7, v8, v9, v10, v11, v12, v13, v14, v15, v16, v17, v18, v19, v20, v21, v22])), (h1, .inl (a0, 609, .inr (.inl f0))), (h2, .inl (a1, 609, .inr (.inl y1_1)))] := hD
  have hK : va_K D vwCl [(a2, .int), (a0, .long), (a1, .long)] s := hK
  refine W.widen (k := 0) (n := 0) (Nat.le_of_ble_eq_true rfl) (Nat.le_of_ble_eq_true rfl) ?_
  refine lv_aload_n hx hb dX6_errorBy_10 rfl (lv_at hl 0 rfl) ?_
  refine lv_iconst (v := 0) hx hb dX6_errorBy_11 (by decide) ?_
  refine cVl (n := 1) (As := [.int 0]) (rest := []) (wr := []) (tr := []) hx hb hml hown hg okN (cX6_errorOf_235 l D h0 h1 h3 h2 v0 v1 v2 v3 v4 v5 v6 v7 v8 v9 v10 v11 v12 v13 v14 v15 v16 v17 v18 v19 v20 v21 v22 f0 f2 y1_1 a0 a2 a1 ef0_4 ef0_5 ef0_6 ef2_0 ef2_1) (mwV k1650 k1652 k79 k92 k1653) ⟨rfl, by decide, by decide, by decide +kernel⟩ ⟨rfl, rfl, (Nat.le_of_ble_eq_true rfl), (Nat.le_of_ble_eq_true rfl)⟩ hP hD hK hS xn [1, 2, 0, 3] [1, 2, 0, 3] [] [1, 0, 2] [] rfl (by decide) rfl rfl (by decide) (by decide) rfl rfl (va_free hD hS hA [1, 2, 0, 3] rfl) (va_free hD hS hA [1, 2, 0, 3] rfl) 1 rfl rfl rfl hl.1 rfl (Nat.le_of_ble_eq_true rfl) dX6_errorBy_12 ⟨(Nat.le_of_ble_eq_true rfl), (Nat.le_of_ble_eq_true rfl)⟩ (fun u H locs hφ hP hD hK hS hk => ?_)
  obtain ⟨y1_2, rfl⟩ : ∃ z, z = u := ⟨_, rfl⟩
  have hP : va_P D vwCl [(h0, .inr (6, [v0, .ref h1, .ref h2, v1, v2, v3, .ref h3, .int 2, v4, v5, v6, v7, v8, v9, v10, v11, v12, v13, v14, v15, v16, v17, v18, v19, v20, v21, v22])), (h1, .inl (a0, 609, .inr (.inl y1_2))), (h3, .inl (a2, 48, .inl f2)), (h2, .inl (a1, 609, .inr (.inl y1_1)))] H := hP
  have hD : va_D A [(h0, .inr (6, [v0, .ref h1, .ref h2, v1, v2, v3, .ref h3, .int 2, v4, v5, v6, v7, v8, v9, v10, v11, v12, v13, v14, v15, v16, v17, v18, v19, v20, v21, v22])), (h1, .inl (a0, 609, .inr (.inl y1_2))), (h3, .inl (a2, 48, .inl f2)), (h2, .inl (a1, 609, .inr (.inl y1_1)))] := hD
  have hK : va_K D vwCl [(a0, .long), (a2, .int), (a1, .long)] s := hK
  refine W.widen (k := 0) (n := 0) (Nat.le_of_ble_eq_true rfl) (Nat.le_of_ble_eq_true rfl) ?_
  exact fl hx hb hr hlocks hP hD hK hS ((y1_2, y1_1)) trivial rfl [0, 1, 3, 2] [0, 2, 1] rfl (by decide) rfl (Nat.le_of_ble_eq_true rfl) (Nat.le_of_ble_eq_true rfl) dX6_errorBy_15
set_option maxHeartbeats 4000000 in
set_option maxRecDepth 100000 in
theorem cX6_bestThreshold_252 (l : Launch) (D : va_G) (h0 : Nat) (x0 : Int32) (h1 : Nat) (h2 : Nat) (h3 : Nat) (v0 : Value) (v1 : Value) (v2 : Value) (v3 : Value) (v4 : Value) (v5 : Value) (v6 : Value) (v7 : Value) (v8 : Value) (v9 : Value) (v10 : Value) (v11 : Value) (v12 : Value) (v13 : Value) (v14 : Value) (v15 : Value) (v16 : Value) (v17 : Value) (v18 : Value) (v19 : Value) (v20 : Value) (v21 : Value) (v22 : Value) (f0 : Nat → Int64) (f1 : Nat → Int64) (f2 : Nat → Int32) (a0 : ClassId) (a1 : ClassId) (a2 : ClassId) (ef0_4 : f0 4 = 0) (ef0_5 : f0 5 = 0) (ef0_6 : f0 6 = 0) (ef2_0 : f2 0 = 0) (ef2_1 : f2 1 = 0) (d0 : ¬ ((lg_cmp x0.toInt64 0) < 0)) (d1 : ¬ (0 < (lg_cmp x0.toInt64 99999))) (d2 : (lg_cmp 0 x0.toInt64) ≤ 0) : CT l yX6_bestThreshold cX6_bestThreshold 3 (some .int) { frames := 3, cells := 0, slots := 0, locals := 69 } [.ref h0, .int x0] D [(h0, .inr (6, [v0, .ref h1, .ref h2, v1, v2, v3, .ref h3, .int 2, v4, v5, v6, v7, v8, v9, v10, v11, v12, v13, v14, v15, v16, v17, v18, v19, v20, v21, v22])), (h1, .inl (a0, 609, .inr (.inl f0))), (h2, .inl (a1, 609, .inr (.inl f1))), (h3, .inl (a2, 48, .inl f2))] [(a0, .long), (a1, .long), (a2, .int)] XN [(h0, .inr (6, [v0, .ref h1, .ref h2, v1, v2, v3, .ref h3, .int 2, v4, v5, v6, v7, v8, v9, v10, v11, v12, v13, v14, v15, v16, v17, v18, v19, v20, v21, v22])), (h1, .inl (a0, 609, .inr (.inl f0))), (h2, .inl (a1, 609, .inr (.inl f1))), (h3, .inl (a2, 48, .inl f2))] (ei (fun _ : (Nat → Int64) × (Nat → Int64) => True) (fun u => 1000) (fun u => [(h0, .inr (6, [.int 0, .ref h1, .ref h2, v1, v2, v3, .ref h3, .int 2, v4, v5, v6, v7, v8, v9, v10, v11, v12, v13, v14, v15, v16, v17, v18, v19, v20, v21, v22])), (h1, .inl (a0, 609, .inr (.inl u.1))), (h2, .inl (a1, 609, .inr (.inl u.2))), (h3, .inl (a2, 48, .inl f2))]) (fun u => [(a0, .long), (a1, .long), (a2, .int)]) D) 0 0 := by
  refine CT.ofW (by decide +kernel) (Nat.le_of_ble_eq_true rfl) ?_
  intro p e s m below meth c A ls hcs hP hK hD hX hA hS hl
  obtain ⟨hx, hb, hr, hml, hown, hg, hlocks, hin⟩ := hcs
  have hown : s.vm.findClass RX6 = some m.cls := hown
  have hl : lv_has ls 3 [(0, .ref h0), (1, .int x0)] := hl
  refine lv_aload_n hx hb dX6_bestThreshold_0 rfl (lv_at hl 0 rfl) ?_
  refine lv_iload_n hx hb dX6_bestThreshold_1 rfl (lv_at hl 1 rfl) ?_
  refine lv_i2l (v := x0.toInt64) hx hb dX6_bestThreshold_2 rfl ?_
  refine lv_lconst (v := 0) hx hb dX6_bestThreshold_3 (by decide) ?_
  refine lv_ldc2 hx hb hown (hg _ k1625) dX6_bestThreshold_4 ?_
  refine cSi (n := 3) (As := [.long x0.toInt64, .long 0, .long 99999]) (rest := [.ref h0]) (wr := [(h0, .inr (6, [v0, .ref h1, .ref h2, v1, v2, v3, .ref h3, .int 2, v4, v5, v6, v7, v8, v9, v10, v11, v12, v13, v14, v15, v16, v17, v18, v19, v20, v21, v22])), (h1, .inl (a0, 609, .inr (.inl f0))), (h2, .inl (a1, 609, .inr (.inl f1))), (h3, .inl (a2, 48, .inl f2))]) (tr := [(a0, .long), (a1, .long), (a2, .int)]) hx hb hml hown hg okN (cX6_in_253 l D x0 d0 d1) (mwS k1317 k1318 k92 k1319) ⟨rfl, by decide, by decide, by decide +kernel⟩ ⟨rfl, rfl, (Nat.le_of_ble_eq_true rfl), (Nat.le_of_ble_eq_true rfl)⟩ hP hD hK hS xn [] [] [0, 1, 2, 3] [] [0, 1, 2] rfl (by decide) rfl rfl (by decide) (by decide) rfl rfl (aNil hA hS) (aNil hA hS) rfl hl.1 rfl (Nat.le_of_ble_eq_true rfl) dX6_bestThreshold_7 ⟨(Nat.le_of_ble_eq_true rfl), (Nat.le_of_ble_eq_true rfl)⟩ (fun u H locs hφ hP hD hK hS hk => ?_)
  have hP : va_P D vwCl [(h0, .inr (6, [v0, .ref h1, .ref h2, v1, v2, v3, .ref h3, .int 2, v4, v5, v6, v7, v8, v9, v10, v11, v12, v13, v14, v15, v16, v17, v18, v19, v20, v21, v22])), (h1, .inl (a0, 609, .inr (.inl f0))), (h2, .inl (a1, 609, .inr (.inl f1))), (h3, .inl (a2, 48, .inl f2))] H := hP
  have hD : va_D A [(h0, .inr (6, [v0, .ref h1, .ref h2, v1, v2, v3, .ref h3, .int 2, v4, v5, v6, v7, v8, v9, v10, v11, v12, v13, v14, v15, v16, v17, v18, v19, v20, v21, v22])), (h1, .inl (a0, 609, .inr (.inl f0))), (h2, .inl (a1, 609, .inr (.inl f1))), (h3, .inl (a2, 48, .inl f2))] := hD
  have hK : va_K D vwCl [(a0, .long), (a1, .long), (a2, .int)] s := hK
  refine W.widen (k := 0) (n := 0) (Nat.le_of_ble_eq_true rfl) (Nat.le_of_ble_eq_true rfl) ?_
  refine lv_if_eq (tgt := 17) hx hb dX6_bestThreshold_10 (by decide) (fun c9 => absurd c9 (by decide)) (fun _ => ?_)
  refine lv_iconst (v := 0) hx hb dX6_bestThreshold_13 (by decide) ?_
  refine lv_goto (tgt := 18) hx hb dX6_bestThreshold_14 (by decide) ?_
  refine va_put (D := D) (ci := 6) (v := .int 0) (ty := .int) (C := RX6) (T := TX6) (N := 27) hx hb hg inX6 tyX6 tyX6_ok nmX6 hown hK hP hD hS 0 rfl rfl 0 (by decide) (hg _ k1219) (fun _ h9 => h9) rfl (by decide +kernel) rfl rfl (Nat.le_of_ble_eq_true rfl) dX6_bestThreshold_18 (fun H locs hP hD hS => ?_)
  have hP : va_P D vwCl [(h0, .inr (6, [.int 0, .ref h1, .ref h2, v1, v2, v3, .ref h3, .int 2, v4, v5, v6, v7, v8, v9, v10, v11, v12, v13, v14, v15, v16, v17, v18, v19, v20, v21, v22])), (h1, .inl (a0, 609, .inr (.inl f0))), (h2, .inl (a1, 609, .inr (.inl f1))), (h3, .inl (a2, 48, .inl f2))] H := hP
  have hD : va_D A [(h0, .inr (6, [.int 0, .ref h1, .ref h2, v1, v2, v3, .ref h3, .int 2, v4, v5, v6, v7, v8, v9, v10, v11, v12, v13, v14, v15, v16, v17, v18, v19, v20, v21, v22])), (h1, .inl (a0, 609, .inr (.inl f0))), (h2, .inl (a1, 609, .inr (.inl f1))), (h3, .inl (a2, 48, .inl f2))] := hD
  refine lv_aload_n hx hb dX6_bestThreshold_21 rfl (lv_at hl 0 rfl) ?_
  refine va_get (D := D) (ci := 6) (v := .int 0) (C := RX6) (T := TX6) (N := 27) hx hb hg inX6 hown hK hP 0 rfl rfl 0 (by decide) (hg _ k1219) (fun _ h9 => h9) rfl dX6_bestThreshold_22 ?_
  refine lv_if_le (tgt := 30) hx hb dX6_bestThreshold_25 (by decide) (fun _ => ?_) (fun c9 => absurd (by decide) c9)
  refine lv_sipush (v := 1000) hx hb dX6_bestThreshold_30 (by decide) ?_
  refine lv_istore_n (lv' := [(2, .int 1000), (0, .ref h0), (1, .int x0)]) hx hb dX6_bestThreshold_33 rfl hl (by decide) rfl (fun ls hl => ?_)
  refine lv_iload_n hx hb dX6_bestThreshold_34 rfl (lv_at hl 0 rfl) ?_
  refine lv_if_lt (tgt := 56) hx hb dX6_bestThreshold_35 (by decide) (fun c9 => absurd c9 (by decide)) (fun _ => ?_)
  refine lv_aload_n hx hb dX6_bestThreshold_38 rfl (lv_at hl 1 rfl) ?_
  refine lv_iload_n hx hb dX6_bestThreshold_39 rfl (lv_at hl 0 rfl) ?_
  refine lv_iconst (v := 0) hx hb dX6_bestThreshold_40 (by decide) ?_
  refine cVl (n := 2) (As := [.int 1000, .int 0]) (rest := []) (wr := []) (tr := []) hx hb hml hown hg okN (cX6_errorBy_254 l D h0 h1 h2 h3 (.int 0) v1 v2 v3 v4 v5 v6 v7 v8 v9 v10 v11 v12 v13 v14 v15 v16 v17 v18 v19 v20 v21 v22 f0 f1 f2 a0 a1 a2 ef0_4 ef0_5 ef0_6 ef2_0 ef2_1) (mwV k1662 k1664 k81 k92 k1665) ⟨rfl, by decide, by decide, by decide +kernel⟩ ⟨rfl, rfl, (Nat.le_of_ble_eq_true rfl), (Nat.le_of_ble_eq_true rfl)⟩ hP hD hK hS xn [0, 1, 2, 3] [0, 1, 2, 3] [] [0, 1, 2] [] rfl (by decide) rfl rfl (by decide) (by decide) rfl rfl (va_free hD hS hA [0, 1, 2, 3] rfl) (va_free hD hS hA [0, 1, 2, 3] rfl) 0 rfl rfl rfl hl.1 rfl (Nat.le_of_ble_eq_true rfl) dX6_bestThreshold_41 ⟨(Nat.le_of_ble_eq_true rfl), (Nat.le_of_ble_eq_true rfl)⟩ (fun u H locs hφ hP hD hK hS hk => ?_)
  obtain ⟨y0_1, y0_2⟩ := u
  have hP : va_P D vwCl [(h0, .inr (6, [.int 0, .ref h1, .ref h2, v1, v2, v3, .ref h3, .int 2, v4, v5, v6, v7, v8, v9, v10, v11, v12, v13, v14, v15, v16, v17, v18, v19, v20, v21, v22])), (h1, .inl (a0, 609, .inr (.inl y0_1))), (h2, .inl (a1, 609, .inr (.inl y0_2))), (h3, .inl (a2, 48, .inl f2))] H := hP
  have hD : va_D A [(h0, .inr (6, [.int 0, .ref h1, .ref h2, v1, v2, v3, .ref h3, .int 2, v4, v5, v6, v7, v8, v9, v10, v11, v12, v13, v14, v15, v16, v17, v18, v19, v20, v21, v22])), (h1, .inl (a0, 609, .inr (.inl y0_1))), (h2, .inl (a1, 609, .inr (.inl y0_2))), (h3, .inl (a2, 48, .inl f2))] := hD
  have hK : va_K D vwCl [(a0, .long), (a1, .long), (a2, .int)] s := hK
  refine W.widen (k := 0) (n := 0) (Nat.le_of_ble_eq_true rfl) (Nat.le_of_ble_eq_true rfl) ?_
  refine lv_iload_n hx hb dX6_bestThreshold_44 rfl (lv_at hl 2 rfl) ?_
  refine lv_i2l (v := x0.toInt64) hx hb dX6_bestThreshold_45 rfl ?_
  refine W.lcmp hx hb dX6_bestThreshold_46 ?_
  refine lv_if_le (tgt := 56) hx hb dX6_bestThreshold_47 (by decide) (fun _ => ?_) (fun c9 => absurd d2 c9)
  refine lv_iload_n hx hb dX6_bestThreshold_56 rfl (lv_at hl 0 rfl) ?_
  refine lv_if_ge (tgt := 68) hx hb dX6_bestThreshold_57 (by decide) (fun _ => ?_) (fun c9 => absurd (by decide) c9)
  refine lv_iload_n hx hb dX6_bestThreshold_68 rfl (lv_at hl 0 rfl) ?_
  exact fi hx hb hr hlocks hP hD hK hS ((y0_1, y0_2)) trivial rfl [0, 1, 2, 3] [0, 1, 2] rfl (by decide) rfl (Nat.le_of_ble_eq_true rfl) (Nat.le_of_ble_eq_true rfl) dX6_bestThreshold_69
set_option maxHeartbeats 4000000 in
set_option maxRecDepth 100000 in
theorem cX6_in_257 (l : Launch) (D : va_G) (x0 : Int32)  (d0 : ¬ ((lg_cmp x0.toInt64 0) < 0)) (d1 : 0 < (lg_cmp x0.toInt64 99999)) : CT l yX6_in cX6_in 6 (some .boolean) { frames := 0, cells := 0, slots := 0, locals := 0 } [.long x0.toInt64, .long 0, .long 99999] D [] [] XN [] (ei (fun _ : Unit => True) (fun _ => 0) (fun _ => []) (fun _ => []) D) 0 0 := by
  refine CT.ofR (by decide +kernel) (Nat.le_of_ble_eq_true rfl) ?_
  intro p e s m below meth c A ls hcs hP hK hD hX hA hS hl
  obtain ⟨hx, hb, hr, hml, hown, hg, hlocks, hin⟩ := hcs
  have hown : s.vm.findClass RX6 = some m.cls := hown
  have hl : lv_has ls 6 [(0, .long x0.toInt64), (2, .long 0), (4, .long 99999)] := hl
  refine lv_lload_n hx hb dX6_in_0 rfl (lv_at hl 0 rfl) ?_
  refine lv_lload_n hx hb dX6_in_1 rfl (lv_at hl 1 rfl) ?_
  refine W.lcmp hx hb dX6_in_2 ?_
  refine lv_if_lt (tgt := 17) hx hb dX6_in_3 (by decide) (fun c9 => absurd c9 d0) (fun _ => ?_)
  refine lv_lload_n hx hb dX6_in_6 rfl (lv_at hl 0 rfl) ?_
  refine lv_lload hx hb dX6_in_7 (lv_at hl 2 rfl) ?_
  refine W.lcmp hx hb dX6_in_9 ?_
  refine lv_if_gt (tgt := 17) hx hb dX6_in_10 (by decide) (fun _ => ?_) (fun c9 => absurd d1 c9)
  refine lv_iconst (v := 0) hx hb dX6_in_17 (by decide) ?_
  exact fz0 hx hb hr rfl hlocks hK hS (Nat.le_of_ble_eq_true rfl) (Nat.le_of_ble_eq_true rfl) dX6_in_18
set_option maxHeartbeats 4000000 in
set_option maxRecDepth 100000 in
theorem cX6_bestThreshold_256 (l : Launch) (D : va_G) (h0 : Nat) (x0 : Int32) (v0 : Value) (v1 : Value) (v2 : Value) (v3 : Value) (v4 : Value) (v5 : Value) (v6 : Value) (v7 : Value) (v8 : Value) (v9 : Value) (v10 : Value) (v11 : Value) (v12 : Value) (v13 : Value) (v14 : Value) (v15 : Value) (v16 : Value) (v17 : Value) (v18 : Value) (v19 : Value) (v20 : Value) (v21 : Value) (v22 : Value) (v23 : Value) (v24 : Value) (v25 : Value) (v26 : Value)  (d0 : ¬ ((lg_cmp x0.toInt64 0) < 0)) (d1 : 0 < (lg_cmp x0.toInt64 99999)) : CT l yX6_bestThreshold cX6_bestThreshold 3 (some .int) { frames := 1, cells := 0, slots := 0, locals := 25 } [.ref h0, .int x0] D [(h0, .inr (6, [v0, v1, v2, v3, v4, v5, v6, v7, v8, v9, v10, v11, v12, v13, v14, v15, v16, v17, v18, v19, v20, v21, v22, v23, v24, v25, v26]))] [] XN [(h0, .inr (6, [v0, v1, v2, v3, v4, v5, v6, v7, v8, v9, v10, v11, v12, v13, v14, v15, v16, v17, v18, v19, v20, v21, v22, v23, v24, v25, v26]))] (ei (fun _ : Unit => True) (fun u => 0) (fun _ => [(h0, .inr (6, [.int 1, v1, v2, v3, v4, v5, v6, v7, v8, v9, v10, v11, v12, v13, v14, v15, v16, v17, v18, v19, v20, v21, v22, v23, v24, v25, v26]))]) (fun u => []) D) 0 0 := by
  refine CT.ofW (by decide +kernel) (Nat.le_of_ble_eq_true rfl) ?_
  intro p e s m below meth c A ls hcs hP hK hD hX hA hS hl
  obtain ⟨hx, hb, hr, hml, hown, hg, hlocks, hin⟩ := hcs
  have hown : s.vm.findClass RX6 = some m.cls := hown
  have hl : lv_has ls 3 [(0, .ref h0), (1, .int x0)] := hl
  refine lv_aload_n hx hb dX6_bestThreshold_0 rfl (lv_at hl 0 rfl) ?_
  refine lv_iload_n hx hb dX6_bestThreshold_1 rfl (lv_at hl 1 rfl) ?_
  refine lv_i2l (v := x0.toInt64) hx hb dX6_bestThreshold_2 rfl ?_
  refine lv_lconst (v := 0) hx hb dX6_bestThreshold_3 (by decide) ?_
  refine lv_ldc2 hx hb hown (hg _ k1625) dX6_bestThreshold_4 ?_
  refine cSi (n := 3) (As := [.long x0.toInt64, .long 0, .long 99999]) (rest := [.ref h0]) (wr := [(h0, .inr (6, [v0, v1, v2, v3, v4, v5, v6, v7, v8, v9, v10, v11, v12, v13, v14, v15, v16, v17, v18, v19, v20, v21, v22, v23, v24, v25, v26]))]) (tr := []) hx hb hml hown hg okN (cX6_in_257 l D x0 d0 d1) (mwS k1317 k1318 k92 k1319) ⟨rfl, by decide, by decide, by decide +kernel⟩ ⟨rfl, rfl, (Nat.le_of_ble_eq_true rfl), (Nat.le_of_ble_eq_true rfl)⟩ hP hD hK hS xn [] [] [0] [] [] rfl (by decide) rfl rfl (by decide) (by decide) rfl rfl (aNil hA hS) (aNil hA hS) rfl hl.1 rfl (Nat.le_of_ble_eq_true rfl) dX6_bestThreshold_7 ⟨(Nat.le_of_ble_eq_true rfl), (Nat.le_of_ble_eq_true rfl)⟩ (fun u H locs hφ hP hD hK hS hk => ?_)
  have hP : va_P D vwCl [(h0, .inr (6, [v0, v1, v2, v3, v4, v5, v6, v7, v8, v9, v10, v11, v12, v13, v14, v15, v16, v17, v18, v19, v20, v21, v22, v23, v24, v25, v26]))] H := hP
  have hD : va_D A [(h0, .inr (6, [v0, v1, v2, v3, v4, v5, v6, v7, v8, v9, v10, v11, v12, v13, v14, v15, v16, v17, v18, v19, v20, v21, v22, v23, v24, v25, v26]))] := hD
  have hK : va_K D vwCl [] s := hK
  refine W.widen (k := 0) (n := 0) (Nat.le_of_ble_eq_true rfl) (Nat.le_of_ble_eq_true rfl) ?_
  refine lv_if_eq (tgt := 17) hx hb dX6_bestThreshold_10 (by decide) (fun _ => ?_) (fun c9 => absurd (by decide) c9)
  refine lv_iconst (v := 1) hx hb dX6_bestThreshold_17 (by decide) ?_
  refine va_put (D := D) (ci := 6) (v := .int 1) (ty := .int) (C := RX6) (T := TX6) (N := 27) hx hb hg inX6 tyX6 tyX6_ok nmX6 hown hK hP hD hS 0 rfl rfl 0 (by decide) (hg _ k1219) (fun _ h9 => h9) rfl (by decide +kernel) rfl rfl (Nat.le_of_ble_eq_true rfl) dX6_bestThreshold_18 (fun H locs hP hD hS => ?_)
  have hP : va_P D vwCl [(h0, .inr (6, [.int 1, v1, v2, v3, v4, v5, v6, v7, v8, v9, v10, v11, v12, v13, v14, v15, v16, v17, v18, v19, v20, v21, v22, v23, v24, v25, v26]))] H := hP
  have hD : va_D A [(h0, .inr (6, [.int 1, v1, v2, v3, v4, v5, v6, v7, v8, v9, v10, v11, v12, v13, v14, v15, v16, v17, v18, v19, v20, v21, v22, v23, v24, v25, v26]))] := hD
  refine lv_aload_n hx hb dX6_bestThreshold_21 rfl (lv_at hl 0 rfl) ?_
  refine va_get (D := D) (ci := 6) (v := .int 1) (C := RX6) (T := TX6) (N := 27) hx hb hg inX6 hown hK hP 0 rfl rfl 0 (by decide) (hg _ k1219) (fun _ h9 => h9) rfl dX6_bestThreshold_22 ?_
  refine lv_if_le (tgt := 30) hx hb dX6_bestThreshold_25 (by decide) (fun c9 => absurd c9 (by decide)) (fun _ => ?_)
  refine lv_iconst (v := 0) hx hb dX6_bestThreshold_28 (by decide) ?_
  exact fi hx hb hr hlocks hP hD hK hS (()) trivial rfl [0] [] rfl (by decide) rfl (Nat.le_of_ble_eq_true rfl) (Nat.le_of_ble_eq_true rfl) dX6_bestThreshold_29
set_option maxHeartbeats 4000000 in
set_option maxRecDepth 100000 in
theorem cX6_bitsBy_258 (l : Launch) (D : va_G) (h0 : Nat) (x0 : Int32) (x1 : Int32) (v0 : Value) (v1 : Value) (v2 : Value) (v3 : Value) (v4 : Value) (v5 : Value) (v6 : Value) (v7 : Value) (v8 : Value) (v9 : Value) (v10 : Value) (v11 : Value) (v12 : Value) (v13 : Value) (v14 : Value) (v15 : Value) (v16 : Value) (v17 : Value) (v18 : Value) (v19 : Value) (v20 : Value) (v21 : Value) (v22 : Value) (v23 : Value) (v24 : Value) (v25 : Value) (v26 : Value)  (d0 : (lg_cmp x0.toInt64 0) < 0) : CT l yX6_bitsBy cX6_bitsBy 3 (some .int) { frames := 1, cells := 0, slots := 0, locals := 25 } [.ref h0, .int x0, .int x1] D [(h0, .inr (6, [v0, v1, v2, v3, v4, v5, v6, v7, v8, v9, v10, v11, v12, v13, v14, v15, v16, v17, v18, v19, v20, v21, v22, v23, v24, v25, v26]))] [] XN [(h0, .inr (6, [v0, v1, v2, v3, v4, v5, v6, v7, v8, v9, v10, v11, v12, v13, v14, v15, v16, v17, v18, v19, v20, v21, v22, v23, v24, v25, v26]))] (ei (fun _ : Unit => True) (fun u => 0) (fun _ => [(h0, .inr (6, [.int 1, v1, v2, v3, v4, v5, v6, v7, v8, v9, v10, v11, v12, v13, v14, v15, v16, v17, v18, v19, v20, v21, v22, v23, v24, v25, v26]))]) (fun u => []) D) 0 0 := by
  refine CT.ofW (by decide +kernel) (Nat.le_of_ble_eq_true rfl) ?_
  intro p e s m below meth c A ls hcs hP hK hD hX hA hS hl
  obtain ⟨hx, hb, hr, hml, hown, hg, hlocks, hin⟩ := hcs
  have hown : s.vm.findClass RX6 = some m.cls := hown
  have hl : lv_has ls 3 [(0, .ref h0), (1, .int x0), (2, .int x1)] := hl
  refine lv_aload_n hx hb dX6_bitsBy_0 rfl (lv_at hl 0 rfl) ?_
  refine lv_iload_n hx hb dX6_bitsBy_1 rfl (lv_at hl 1 rfl) ?_
  refine lv_i2l (v := x0.toInt64) hx hb dX6_bitsBy_2 rfl ?_
  refine lv_lconst (v := 0) hx hb dX6_bitsBy_3 (by decide) ?_
  refine lv_ldc2 hx hb hown (hg _ k1510) dX6_bitsBy_4 ?_
  refine cSi (n := 3) (As := [.long x0.toInt64, .long 0, .long 2]) (rest := [.ref h0]) (wr := [(h0, .inr (6, [v0, v1, v2, v3, v4, v5, v6, v7, v8, v9, v10, v11, v12, v13, v14, v15, v16, v17, v18, v19, v20, v21, v22, v23, v24, v25, v26]))]) (tr := []) hx hb hml hown hg okN (cX6_in_140 l D x0 d0) (mwS k1317 k1318 k92 k1319) ⟨rfl, by decide, by decide, by decide +kernel⟩ ⟨rfl, rfl, (Nat.le_of_ble_eq_true rfl), (Nat.le_of_ble_eq_true rfl)⟩ hP hD hK hS xn [] [] [0] [] [] rfl (by decide) rfl rfl (by decide) (by decide) rfl rfl (aNil hA hS) (aNil hA hS) rfl hl.1 rfl (Nat.le_of_ble_eq_true rfl) dX6_bitsBy_7 ⟨(Nat.le_of_ble_eq_true rfl), (Nat.le_of_ble_eq_true rfl)⟩ (fun u H locs hφ hP hD hK hS hk => ?_)
  have hP : va_P D vwCl [(h0, .inr (6, [v0, v1, v2, v3, v4, v5, v6, v7, v8, v9, v10, v11, v12, v13, v14, v15, v16, v17, v18, v19, v20, v21, v22, v23, v24, v25, v26]))] H := hP
  have hD : va_D A [(h0, .inr (6, [v0, v1, v2, v3, v4, v5, v6, v7, v8, v9, v10, v11, v12, v13, v14, v15, v16, v17, v18, v19, v20, v21, v22, v23, v24, v25, v26]))] := hD
  have hK : va_K D vwCl [] s := hK
  refine W.widen (k := 0) (n := 0) (Nat.le_of_ble_eq_true rfl) (Nat.le_of_ble_eq_true rfl) ?_
  refine lv_if_eq (tgt := 29) hx hb dX6_bitsBy_10 (by decide) (fun _ => ?_) (fun c9 => absurd (by decide) c9)
  refine lv_iconst (v := 1) hx hb dX6_bitsBy_29 (by decide) ?_
  refine va_put (D := D) (ci := 6) (v := .int 1) (ty := .int) (C := RX6) (T := TX6) (N := 27) hx hb hg inX6 tyX6 tyX6_ok nmX6 hown hK hP hD hS 0 rfl rfl 0 (by decide) (hg _ k1219) (fun _ h9 => h9) rfl (by decide +kernel) rfl rfl (Nat.le_of_ble_eq_true rfl) dX6_bitsBy_30 (fun H locs hP hD hS => ?_)
  have hP : va_P D vwCl [(h0, .inr (6, [.int 1, v1, v2, v3, v4, v5, v6, v7, v8, v9, v10, v11, v12, v13, v14, v15, v16, v17, v18, v19, v20, v21, v22, v23, v24, v25, v26]))] H := hP
  have hD : va_D A [(h0, .inr (6, [.int 1, v1, v2, v3, v4, v5, v6, v7, v8, v9, v10, v11, v12, v13, v14, v15, v16, v17, v18, v19, v20, v21, v22, v23, v24, v25, v26]))] := hD
  refine lv_aload_n hx hb dX6_bitsBy_33 rfl (lv_at hl 0 rfl) ?_
  refine va_get (D := D) (ci := 6) (v := .int 1) (C := RX6) (T := TX6) (N := 27) hx hb hg inX6 hown hK hP 0 rfl rfl 0 (by decide) (hg _ k1219) (fun _ h9 => h9) rfl dX6_bitsBy_34 ?_
  refine lv_if_le (tgt := 44) hx hb dX6_bitsBy_37 (by decide) (fun c9 => absurd c9 (by decide)) (fun _ => ?_)
  refine lv_iconst (v := 0) hx hb dX6_bitsBy_40 (by decide) ?_
  refine lv_goto (tgt := 50) hx hb dX6_bitsBy_41 (by decide) ?_
  exact fi hx hb hr hlocks hP hD hK hS (()) trivial rfl [0] [] rfl (by decide) rfl (Nat.le_of_ble_eq_true rfl) (Nat.le_of_ble_eq_true rfl) dX6_bitsBy_50
set_option maxHeartbeats 4000000 in
set_option maxRecDepth 100000 in
theorem cX6_bitsBy_259 (l : Launch) (D : va_G) (h0 : Nat) (x0 : Int32) (x1 : Int32) (v0 : Value) (v1 : Value) (v2 : Value) (v3 : Value) (v4 : Value) (v5 : Value) (v6 : Value) (v7 : Value) (v8 : Value) (v9 : Value) (v10 : Value) (v11 : Value) (v12 : Value) (v13 : Value) (v14 : Value) (v15 : Value) (v16 : Value) (v17 : Value) (v18 : Value) (v19 : Value) (v20 : Value) (v21 : Value) (v22 : Value) (v23 : Value) (v24 : Value) (v25 : Value) (v26 : Value)  (d0 : ¬ ((lg_cmp x0.toInt64 0) < 0)) (d1 : 0 < (lg_cmp x0.toInt64 2)) : CT l yX6_bitsBy cX6_bitsBy 3 (some .int) { frames := 1, cells := 0, slots := 0, locals := 25 } [.ref h0, .int x0, .int x1] D [(h0, .inr (6, [v0, v1, v2, v3, v4, v5, v6, v7, v8, v9, v10, v11, v12, v13, v14, v15, v16, v17, v18, v19, v20, v21, v22, v23, v24, v25, v26]))] [] XN [(h0, .inr (6, [v0, v1, v2, v3, v4, v5, v6, v7, v8, v9, v10, v11, v12, v13, v14, v15, v16, v17, v18, v19, v20, v21, v22, v23, v24, v25, v26]))] (ei (fun _ : Unit => True) (fun u => 0) (fun _ => [(h0, .inr (6, [.int 1, v1, v2, v3, v4, v5, v6, v7, v8, v9, v10, v11, v12, v13, v14, v15, v16, v17, v18, v19, v20, v21, v22, v23, v24, v25, v26]))]) (fun u => []) D) 0 0 := by
  refine CT.ofW (by decide +kernel) (Nat.le_of_ble_eq_true rfl) ?_
  intro p e s m below meth c A ls hcs hP hK hD hX hA hS hl
  obtain ⟨hx, hb, hr, hml, hown, hg, hlocks, hin⟩ := hcs
  have hown : s.vm.findClass RX6 = some m.cls := hown
  have hl : lv_has ls 3 [(0, .ref h0), (1, .int x0), (2, .int x1)] := hl
  refine lv_aload_n hx hb dX6_bitsBy_0 rfl (lv_at hl 0 rfl) ?_
  refine lv_iload_n hx hb dX6_bitsBy_1 rfl (lv_at hl 1 rfl) ?_
  refine lv_i2l (v := x0.toInt64) hx hb dX6_bitsBy_2 rfl ?_
  refine lv_lconst (v := 0) hx hb dX6_bitsBy_3 (by decide) ?_
  refine lv_ldc2 hx hb hown (hg _ k1510) dX6_bitsBy_4 ?_
  refine cSi (n := 3) (As := [.long x0.toInt64, .long 0, .long 2]) (rest := [.ref h0]) (wr := [(h0, .inr (6, [v0, v1, v2, v3, v4, v5, v6, v7, v8, v9, v10, v11, v12, v13, v14, v15, v16, v17, v18, v19, v20, v21, v22, v23, v24, v25, v26]))]) (tr := []) hx hb hml hown hg okN (cX6_in_152 l D x0 d0 d1) (mwS k1317 k1318 k92 k1319) ⟨rfl, by decide, by decide, by decide +kernel⟩ ⟨rfl, rfl, (Nat.le_of_ble_eq_true rfl), (Nat.le_of_ble_eq_true rfl)⟩ hP hD hK hS xn [] [] [0] [] [] rfl (by decide) rfl rfl (by decide) (by decide) rfl rfl (aNil hA hS) (aNil hA hS) rfl hl.1 rfl (Nat.le_of_ble_eq_true rfl) dX6_bitsBy_7 ⟨(Nat.le_of_ble_eq_true rfl), (Nat.le_of_ble_eq_true rfl)⟩ (fun u H locs hφ hP hD hK hS hk => ?_)
  have hP : va_P D vwCl [(h0, .inr (6, [v0, v1, v2, v3, v4, v5, v6, v7, v8, v9, v10, v11, v12, v13, v14, v15, v16, v17, v18, v19, v20, v21, v22, v23, v24, v25, v26]))] H := hP
  have hD : va_D A [(h0, .inr (6, [v0, v1, v2, v3, v4, v5, v6, v7, v8, v9, v10, v11, v12, v13, v14, v15, v16, v17, v18, v19, v20, v21, v22, v23, v24, v25, v26]))] := hD
  have hK : va_K D vwCl [] s := hK
  refine W.widen (k := 0) (n := 0) (Nat.le_of_ble_eq_true rfl) (Nat.le_of_ble_eq_true rfl) ?_
  refine lv_if_eq (tgt := 29) hx hb dX6_bitsBy_10 (by decide) (fun _ => ?_) (fun c9 => absurd (by decide) c9)
  refine lv_iconst (v := 1) hx hb dX6_bitsBy_29 (by decide) ?_
  refine va_put (D := D) (ci := 6) (v := .int 1) (ty := .int) (C := RX6) (T := TX6) (N := 27) hx hb hg inX6 tyX6 tyX6_ok nmX6 hown hK hP hD hS 0 rfl rfl 0 (by decide) (hg _ k1219) (fun _ h9 => h9) rfl (by decide +kernel) rfl rfl (Nat.le_of_ble_eq_true rfl) dX6_bitsBy_30 (fun H locs hP hD hS => ?_)
  have hP : va_P D vwCl [(h0, .inr (6, [.int 1, v1, v2, v3, v4, v5, v6, v7, v8, v9, v10, v11, v12, v13, v14, v15, v16, v17, v18, v19, v20, v21, v22, v23, v24, v25, v26]))] H := hP
  have hD : va_D A [(h0, .inr (6, [.int 1, v1, v2, v3, v4, v5, v6, v7, v8, v9, v10, v11, v12, v13, v14, v15, v16, v17, v18, v19, v20, v21, v22, v23, v24, v25, v26]))] := hD
  refine lv_aload_n hx hb dX6_bitsBy_33 rfl (lv_at hl 0 rfl) ?_
  refine va_get (D := D) (ci := 6) (v := .int 1) (C := RX6) (T := TX6) (N := 27) hx hb hg inX6 hown hK hP 0 rfl rfl 0 (by decide) (hg _ k1219) (fun _ h9 => h9) rfl dX6_bitsBy_34 ?_
  refine lv_if_le (tgt := 44) hx hb dX6_bitsBy_37 (by decide) (fun c9 => absurd c9 (by decide)) (fun _ => ?_)
  refine lv_iconst (v := 0) hx hb dX6_bitsBy_40 (by decide) ?_
  refine lv_goto (tgt := 50) hx hb dX6_bitsBy_41 (by decide) ?_
  exact fi hx hb hr hlocks hP hD hK hS (()) trivial rfl [0] [] rfl (by decide) rfl (Nat.le_of_ble_eq_true rfl) (Nat.le_of_ble_eq_true rfl) dX6_bitsBy_50
set_option maxHeartbeats 4000000 in
set_option maxRecDepth 100000 in
theorem cX6_bitsBy_260 (l : Launch) (D : va_G) (h0 : Nat) (x0 : Int32) (v0 : Value) (v1 : Value) (v2 : Value) (v3 : Value) (v4 : Value) (v5 : Value) (v6 : Value) (v7 : Value) (v8 : Value) (v9 : Value) (v10 : Value) (v11 : Value) (v12 : Value) (v13 : Value) (v14 : Value) (v15 : Value) (v16 : Value) (v17 : Value) (v18 : Value) (v19 : Value) (v20 : Value) (v21 : Value) (v22 : Value) (v23 : Value) (v24 : Value) (v25 : Value) (v26 : Value)  (d0 : (lg_cmp x0.toInt64 0) < 0) : CT l yX6_bitsBy cX6_bitsBy 3 (some .int) { frames := 1, cells := 0, slots := 0, locals := 25 } [.ref h0, .int 0, .int x0] D [(h0, .inr (6, [v0, v1, v2, v3, v4, v5, v6, v7, v8, v9, v10, v11, v12, v13, v14, v15, v16, v17, v18, v19, v20, v21, v22, v23, v24, v25, v26]))] [] XN [(h0, .inr (6, [v0, v1, v2, v3, v4, v5, v6, v7, v8, v9, v10, v11, v12, v13, v14, v15, v16, v17, v18, v19, v20, v21, v22, v23, v24, v25, v26]))] (ei (fun _ : Unit => True) (fun u => 0) (fun _ => [(h0, .inr (6, [.int 1, v1, v2, v3, v4, v5, v6, v7, v8, v9, v10, v11, v12, v13, v14, v15, v16, v17, v18, v19, v20, v21, v22, v23, v24, v25, v26]))]) (fun u => []) D) 0 0 := by
  refine CT.ofW (by decide +kernel) (Nat.le_of_ble_eq_true rfl) ?_
  intro p e s m below meth c A ls hcs hP hK hD hX hA hS hl
  obtain ⟨hx, hb, hr, hml, hown, hg, hlocks, hin⟩ := hcs
  have hown : s.vm.findClass RX6 = some m.cls := hown
  have hl : lv_has ls 3 [(0, .ref h0), (1, .int 0), (2, .int x0)] := hl
  refine lv_aload_n hx hb dX6_bitsBy_0 rfl (lv_at hl 0 rfl) ?_
  refine lv_iload_n hx hb dX6_bitsBy_1 rfl (lv_at hl 1 rfl) ?_
  refine lv_i2l (v := 0) hx hb dX6_bitsBy_2 (by decide) ?_
  refine lv_lconst (v := 0) hx hb dX6_bitsBy_3 (by decide) ?_
  refine lv_ldc2 hx hb hown (hg _ k1510) dX6_bitsBy_4 ?_
  refine cSi (n := 3) (As := [.long 0, .long 0, .long 2]) (rest := [.ref h0]) (wr := [(h0, .inr (6, [v0, v1, v2, v3, v4, v5, v6, v7, v8, v9, v10, v11, v12, v13, v14, v15, v16, v17, v18, v19, v20, v21, v22, v23, v24, v25, v26]))]) (tr := []) hx hb hml hown hg okN (cX6_in_143 l D) (mwS k1317 k1318 k92 k1319) ⟨rfl, by decide, by decide, by decide +kernel⟩ ⟨rfl, rfl, (Nat.le_of_ble_eq_true rfl), (Nat.le_of_ble_eq_true rfl)⟩ hP hD hK hS xn [] [] [0] [] [] rfl (by decide) rfl rfl (by decide) (by decide) rfl rfl (aNil hA hS) (aNil hA hS) rfl hl.1 rfl (Nat.le_of_ble_eq_true rfl) dX6_bitsBy_7 ⟨(Nat.le_of_ble_eq_true rfl), (Nat.le_of_ble_eq_true rfl)⟩ (fun u H locs hφ hP hD hK hS hk => ?_)
  have hP : va_P D vwCl [(h0, .inr (6, [v0, v1, v2, v3, v4, v5, v6, v7, v8, v9, v10, v11, v12, v13, v14, v15, v16, v17, v18, v19, v20, v21, v22, v23, v24, v25, v26]))] H := hP
  have hD : va_D A [(h0, .inr (6, [v0, v1, v2, v3, v4, v5, v6, v7, v8, v9, v10, v11, v12, v13, v14, v15, v16, v17, v18, v19, v20, v21, v22, v23, v24, v25, v26]))] := hD
  have hK : va_K D vwCl [] s := hK
  refine W.widen (k := 0) (n := 0) (Nat.le_of_ble_eq_true rfl) (Nat.le_of_ble_eq_true rfl) ?_
  refine lv_if_eq (tgt := 29) hx hb dX6_bitsBy_10 (by decide) (fun c9 => absurd c9 (by decide)) (fun _ => ?_)
  refine lv_iload_n hx hb dX6_bitsBy_13 rfl (lv_at hl 2 rfl) ?_
  refine lv_i2l (v := x0.toInt64) hx hb dX6_bitsBy_14 rfl ?_
  refine lv_lconst (v := 0) hx hb dX6_bitsBy_15 (by decide) ?_
  refine lv_ldc2 hx hb hown (hg _ k1510) dX6_bitsBy_16 ?_
  refine cSi (n := 3) (As := [.long x0.toInt64, .long 0, .long 2]) (rest := [.ref h0]) (wr := [(h0, .inr (6, [v0, v1, v2, v3, v4, v5, v6, v7, v8, v9, v10, v11, v12, v13, v14, v15, v16, v17, v18, v19, v20, v21, v22, v23, v24, v25, v26]))]) (tr := []) hx hb hml hown hg okN (cX6_in_140 l D x0 d0) (mwS k1317 k1318 k92 k1319) ⟨rfl, by decide, by decide, by decide +kernel⟩ ⟨rfl, rfl, (Nat.le_of_ble_eq_true rfl), (Nat.le_of_ble_eq_true rfl)⟩ hP hD hK hS xn [] [] [0] [] [] rfl (by decide) rfl rfl (by decide) (by decide) rfl rfl (aNil hA hS) (aNil hA hS) rfl hl.1 rfl (Nat.le_of_ble_eq_true rfl) dX6_bitsBy_19 ⟨(Nat.le_of_ble_eq_true rfl), (Nat.le_of_ble_eq_true rfl)⟩ (fun u H locs hφ hP hD hK hS hk => ?_)
  have hP : va_P D vwCl [(h0, .inr (6, [v0, v1, v2, v3, v4, v5, v6, v7, v8, v9, v10, v11, v12, v13, v14, v15, v16, v17, v18, v19, v20, v21, v22, v23, v24, v25, v26]))] H := hP
  have hD : va_D A [(h0, .inr (6, [v0, v1, v2, v3, v4, v5, v6, v7, v8, v9, v10, v11, v12, v13, v14, v15, v16, v17, v18, v19, v20, v21, v22, v23, v24, v25, v26]))] := hD
  have hK : va_K D vwCl [] s := hK
  refine W.widen (k := 0) (n := 0) (Nat.le_of_ble_eq_true rfl) (Nat.le_of_ble_eq_true rfl) ?_
  refine lv_if_eq (tgt := 29) hx hb dX6_bitsBy_22 (by decide) (fun _ => ?_) (fun c9 => absurd (by decide) c9)
  refine lv_iconst (v := 1) hx hb dX6_bitsBy_29 (by decide) ?_
  refine va_put (D := D) (ci := 6) (v := .int 1) (ty := .int) (C := RX6) (T := TX6) (N := 27) hx hb hg inX6 tyX6 tyX6_ok nmX6 hown hK hP hD hS 0 rfl rfl 0 (by decide) (hg _ k1219) (fun _ h9 => h9) rfl (by decide +kernel) rfl rfl (Nat.le_of_ble_eq_true rfl) dX6_bitsBy_30 (fun H locs hP hD hS => ?_)
  have hP : va_P D vwCl [(h0, .inr (6, [.int 1, v1, v2, v3, v4, v5, v6, v7, v8, v9, v10, v11, v12, v13, v14, v15, v16, v17, v18, v19, v20, v21, v22, v23, v24, v25, v26]))] H := hP
  have hD : va_D A [(h0, .inr (6, [.int 1, v1, v2, v3, v4, v5, v6, v7, v8, v9, v10, v11, v12, v13, v14, v15, v16, v17, v18, v19, v20, v21, v22, v23, v24, v25, v26]))] := hD
  refine lv_aload_n hx hb dX6_bitsBy_33 rfl (lv_at hl 0 rfl) ?_
  refine va_get (D := D) (ci := 6) (v := .int 1) (C := RX6) (T := TX6) (N := 27) hx hb hg inX6 hown hK hP 0 rfl rfl 0 (by decide) (hg _ k1219) (fun _ h9 => h9) rfl dX6_bitsBy_34 ?_
  refine lv_if_le (tgt := 44) hx hb dX6_bitsBy_37 (by decide) (fun c9 => absurd c9 (by decide)) (fun _ => ?_)
  refine lv_iconst (v := 0) hx hb dX6_bitsBy_40 (by decide) ?_
  refine lv_goto (tgt := 50) hx hb dX6_bitsBy_41 (by decide) ?_
  exact fi hx hb hr hlocks hP hD hK hS (()) trivial rfl [0] [] rfl (by decide) rfl (Nat.le_of_ble_eq_true rfl) (Nat.le_of_ble_eq_true rfl) dX6_bitsBy_50
set_option maxHeartbeats 4000000 in
set_option maxRecDepth 100000 in
theorem cX6_goesOn_263 (l : Launch) (D : va_G) (h0 : Nat) (h1 : Nat) (v0 : Value) (v1 : Value) (v2 : Value) (v3 : Value) (v4 : Value) (v5 : Value) (v6 : Value) (v7 : Value) (v8 : Value) (v9 : Value) (v10 : Value) (v11 : Value) (v12 : Value) (v13 : Value) (v14 : Value) (v15 : Value) (v16 : Value) (v17 : Value) (v18 : Value) (v19 : Value) (v20 : Value) (v21 : Value) (v22 : Value) (v23 : Value) (f0 : Nat → Int64) (a0 : ClassId) (ef0_4 : f0 4 = 0)  : CT l yX6_goesOn cX6_goesOn 4 (some .int) { frames := 3, cells := 0, slots := 0, locals := 62 } [.ref h0, .int 46] D [(h0, .inr (6, [v0, .ref h1, v1, v2, v3, v4, v5, .int 2, .int 2, v6, v7, v8, v9, v10, v11, v12, v13, v14, v15, v16, v17, v18, v19, v20, v21, v22, v23])), (h1, .inl (a0, 609, .inr (.inl f0)))] [(a0, .long)] XN [] (ei (fun _ : Unit => True) (fun _ => 0) (fun _ => []) (fun _ => []) D) 0 0 := by
  refine CT.ofR (by decide +kernel) (Nat.le_of_ble_eq_true rfl) ?_
  intro p e s m below meth c A ls hcs hP hK hD hX hA hS hl
  obtain ⟨hx, hb, hr, hml, hown, hg, hlocks, hin⟩ := hcs
  have hown : s.vm.findClass RX6 = some m.cls := hown
  have hl : lv_has ls 4 [(0, .ref h0), (1, .int 46)] := hl
  refine lv_iconst (v := 0) hx hb dX6_goesOn_0 (by decide) ?_
  refine lv_istore_n (lv' := [(2, .int 0), (0, .ref h0), (1, .int 46)]) hx hb dX6_goesOn_1 rfl hl (by decide) rfl (fun ls hl => ?_)
  refine lv_aload_n hx hb dX6_goesOn_2 rfl (lv_at hl 1 rfl) ?_
  refine cVi (n := 0) (As := []) (rest := []) (wr := [(h0, .inr (6, [v0, .ref h1, v1, v2, v3, v4, v5, .int 2, .int 2, v6, v7, v8, v9, v10, v11, v12, v13, v14, v15, v16, v17, v18, v19, v20, v21, v22, v23])), (h1, .inl (a0, 609, .inr (.inl f0)))]) (tr := [(a0, .long)]) hx hb hml hown hg okN (cX6_nextOne_137 l D h0 h1 v0 v1 v2 v3 v4 v5 v6 v7 v8 v9 v10 v11 v12 v13 v14 v15 v16 v17 v18 v19 v20 v21 v22 v23 f0 a0 ef0_4) (mwV k1523 k1525 k63 k92 k1526) ⟨rfl, by decide, by decide, by decide +kernel⟩ ⟨rfl, rfl, (Nat.le_of_ble_eq_true rfl), (Nat.le_of_ble_eq_true rfl)⟩ hP hD hK hS xn [0, 1] [] [0, 1] [0] [0] rfl (by decide) rfl rfl (by decide) (by decide) rfl rfl (aNil hA hS) (fun _ _ => trivial) 0 rfl rfl rfl hl.1 rfl (Nat.le_of_ble_eq_true rfl) dX6_goesOn_3 ⟨(Nat.le_of_ble_eq_true rfl), (Nat.le_of_ble_eq_true rfl)⟩ (fun u H locs hφ hP hD hK hS hk => ?_)
  have hP : va_P D vwCl [(h0, .inr (6, [v0, .ref h1, v1, v2, v3, v4, v5, .int 2, .int 2, v6, v7, v8, v9, v10, v11, v12, v13, v14, v15, v16, v17, v18, v19, v20, v21, v22, v23])), (h1, .inl (a0, 609, .inr (.inl f0)))] H := hP
  have hD : va_D (fun _ => True) [(h0, .inr (6, [v0, .ref h1, v1, v2, v3, v4, v5, .int 2, .int 2, v6, v7, v8, v9, v10, v11, v12, v13, v14, v15, v16, v17, v18, v19, v20, v21, v22, v23])), (h1, .inl (a0, 609, .inr (.inl f0)))] := hD
  have hK : va_K D vwCl [(a0, .long)] s := hK
  refine W.widen (k := 0) (n := 0) (Nat.le_of_ble_eq_true rfl) (Nat.le_of_ble_eq_true rfl) ?_
  refine lv_istore_n (lv' := [(3, .int (-1)), (2, .int 0), (0, .ref h0), (1, .int 46)]) hx hb dX6_goesOn_6 rfl hl (by decide) rfl (fun ls hl => ?_)
  refine lv_iload_n hx hb dX6_goesOn_7 rfl (lv_at hl 1 rfl) ?_
  refine lv_iload_n hx hb dX6_goesOn_8 rfl (lv_at hl 3 rfl) ?_
  refine lv_icmp_ge (tgt := 33) hx hb dX6_goesOn_9 (by decide) (fun c9 => absurd c9 (by decide)) (fun _ => ?_)
  refine lv_iload_n hx hb dX6_goesOn_12 rfl (lv_at hl 0 rfl) ?_
  refine lv_iconst (v := (-1)) hx hb dX6_goesOn_13 (by decide) ?_
  refine lv_icmp_eq (tgt := 33) hx hb dX6_goesOn_14 (by decide) (fun _ => ?_) (fun c9 => absurd (by decide) c9)
  refine lv_iload_n hx hb dX6_goesOn_33 rfl (lv_at hl 1 rfl) ?_
  exact fi0 hx hb hr hlocks hK hS (Nat.le_of_ble_eq_true rfl) (Nat.le_of_ble_eq_true rfl) dX6_goesOn_34
set_option maxHeartbeats 4000000 in
set_option maxRecDepth 100000 in
theorem cX6_bitsOf_262 (l : Launch) (D : va_G) (h0 : Nat) (h1 : Nat) (h2 : Nat) (h3 : Nat) (h4 : Nat) (v0 : Value) (v1 : Value) (v2 : Value) (v3 : Value) (v4 : Value) (v5 : Value) (v6 : Value) (v7 : Value) (v8 : Value) (v9 : Value) (v10 : Value) (v11 : Value) (v12 : Value) (v13 : Value) (v14 : Value) (v15 : Value) (v16 : Value) (v17 : Value) (v18 : Value) (v19 : Value) (v20 : Value) (f0 : Nat → Int64) (f1 : Nat → Int64) (f2 : Nat → Int32) (f3 : Nat → Int32) (a0 : ClassId) (a1 : ClassId) (a2 : ClassId) (a3 : ClassId) (ef2_0 : f2 0 = 0) (ef2_1 : f2 1 = 0) (ef3_0 : f3 0 = 0) (ef3_1 : f3 1 = 1)  : CT l yX6_bitsOf cX6_bitsOf 4 (some .int) { frames := 4, cells := 0, slots := 0, locals := 85 } [.ref h0, .int 0, .int 0] D [(h0, .inr (6, [v0, .ref h1, .ref h2, v1, v2, .ref h4, .ref h3, .int 2, .int 2, v3, v4, v5, v6, v7, v8, v9, v10, v11, v12, v13, v14, v15, v16, v17, v18, v19, v20])), (h1, .inl (a0, 609, .inr (.inl f0))), (h2, .inl (a1, 609, .inr (.inl f1))), (h3, .inl (a2, 48, .inl f2)), (h4, .inl (a3, 48, .inl f3))] [(a0, .long), (a1, .long), (a2, .int), (a3, .int)] XN [(h0, .inr (6, [v0, .ref h1, .ref h2, v1, v2, .ref h4, .ref h3, .int 2, .int 2, v3, v4, v5, v6, v7, v8, v9, v10, v11, v12, v13, v14, v15, v16, v17, v18, v19, v20])), (h1, .inl (a0, 609, .inr (.inl f0))), (h2, .inl (a1, 609, .inr (.inl f1))), (h3, .inl (a2, 48, .inl f2)), (h4, .inl (a3, 48, .inl f3))] (ei (fun _ : (Nat → Int64) × (Nat → Int64) => True) (fun u => 0) (fun u => [(h0, .inr (6, [v0, .ref h1, .ref h2, v1, v2, .ref h4, .ref h3, .int 2, .int 2, v3, v4, v5, v6, v7, v8, v9, v10, v11, v12, v13, v14, v15, v16, v17, v18, v19, v20])), (h1, .inl (a0, 609, .inr (.inl u.1))), (h2, .inl (a1, 609, .inr (.inl u.2))), (h3, .inl (a2, 48, .inl f2)), (h4, .inl (a3, 48, .inl f3))]) (fun u => [(a0, .long), (a1, .long), (a2, .int), (a3, .int)]) D) 0 0 := by
  refine CT.ofW (by decide +kernel) (Nat.le_of_ble_eq_true rfl) ?_
  intro p e s m below meth c A ls hcs hP hK hD hX hA hS hl
  obtain ⟨hx, hb, hr, hml, hown, hg, hlocks, hin⟩ := hcs
  have hown : s.vm.findClass RX6 = some m.cls := hown
  have hl : lv_has ls 4 [(0, .ref h0), (1, .int 0), (2, .int 0)] := hl
  refine lv_aload_n hx hb dX6_bitsOf_0 rfl (lv_at hl 0 rfl) ?_
  refine cVv (n := 0) (As := []) (rest := []) (wr := [(h3, .inl (a2, 48, .inl f2)), (h4, .inl (a3, 48, .inl f3))]) (tr := [(a2, .int), (a3, .int)]) hx hb hml hown hg okN (cX6_puts_234 l D h0 h1 h2 v0 v1 v2 (.ref h4) (.ref h3) (.int 2) (.int 2) v3 v4 v5 v6 v7 v8 v9 v10 v11 v12 v13 v14 v15 v16 v17 v18 v19 v20 f0 f1 a0 a1) (mwV k1646 k1648 k78 k92 k1649) ⟨rfl, by decide, by decide, by decide +kernel⟩ ⟨rfl, rfl, (Nat.le_of_ble_eq_true rfl), (Nat.le_of_ble_eq_true rfl)⟩ hP hD hK hS xn [0, 1, 2] [0, 1, 2] [3, 4] [0, 1] [2, 3] rfl (by decide) rfl rfl (by decide) (by decide) rfl rfl (va_free hD hS hA [0, 1, 2] rfl) (va_free hD hS hA [0, 1, 2] rfl) 0 rfl rfl rfl hl.1 rfl (Nat.le_of_ble_eq_true rfl) dX6_bitsOf_1 ⟨(Nat.le_of_ble_eq_true rfl), (Nat.le_of_ble_eq_true rfl)⟩ (fun u H locs hφ hP hD hK hS hk => ?_)
  obtain ⟨y1_1, rfl⟩ : ∃ z, z = u := ⟨_, rfl⟩
  have hP : va_P D vwCl [(h3, .inl (a2, 48, .inl f2)), (h4, .inl (a3, 48, .inl f3)), (h0, .inr (6, [v0, .ref h1, .ref h2, v1, v2, .ref h4, .ref h3, .int 2, .int 2, v3, v4, v5, v6, v7, v8, v9, v10, v11, v12, v13, v14, v15, v16, v17, v18, v19, v20])), (h1, .inl (a0, 609, .inr (.inl f0))), (h2, .inl (a1, 609, .inr (.inl y1_1)))] H := hP
  have hD : va_D A [(h3, .inl (a2, 48, .inl f2)), (h4, .inl (a3, 48, .inl f3)), (h0, .inr (6, [v0, .ref h1, .ref h2, v1, v2, .ref h4, .ref h3, .int 2, .int 2, v3, v4, v5, v6, v7, v8, v9, v10, v11, v12, v13, v14, v15, v16, v17, v18, v19, v20])), (h1, .inl (a0, 609, .inr (.inl f0))), (h2, .inl (a1, 609, .inr (.inl y1_1)))] := hD
  have hK : va_K D vwCl [(a2, .int), (a3, .int), (a0, .long), (a1, .long)] s := hK
  refine W.widen (k := 0) (n := 0) (Nat.le_of_ble_eq_true rfl) (Nat.le_of_ble_eq_true rfl) ?_
  refine lv_aload_n hx hb dX6_bitsOf_4 rfl (lv_at hl 0 rfl) ?_
  refine va_get (D := D) (ci := 6) (v := .ref h1) (C := RX6) (T := TX6) (N := 27) hx hb hg inX6 hown hK hP 2 rfl rfl 1 (by decide) (hg _ k1220) (fun _ h9 => h9) rfl dX6_bitsOf_5 ?_
  refine lv_iconst (v := 0) hx hb dX6_bitsOf_8 (by decide) ?_
  refine lv_iload_n hx hb dX6_bitsOf_9 rfl (lv_at hl 1 rfl) ?_
  refine lv_i2l (v := 0) hx hb dX6_bitsOf_10 (by decide) ?_
  refine astL hx hb hK hP hD hS 3 2 rfl rfl 0 (by decide) (vin (by decide)) dX6_bitsOf_11 (fun H locs hP hD hS => ?_)
  have hP : va_P D vwCl [(h3, .inl (a2, 48, .inl f2)), (h4, .inl (a3, 48, .inl f3)), (h0, .inr (6, [v0, .ref h1, .ref h2, v1, v2, .ref h4, .ref h3, .int 2, .int 2, v3, v4, v5, v6, v7, v8, v9, v10, v11, v12, v13, v14, v15, v16, v17, v18, v19, v20])), (h1, .inl (a0, 609, .inr (.inl (vp_updL f0 0 0)))), (h2, .inl (a1, 609, .inr (.inl y1_1)))] H := hP
  have hD : va_D A [(h3, .inl (a2, 48, .inl f2)), (h4, .inl (a3, 48, .inl f3)), (h0, .inr (6, [v0, .ref h1, .ref h2, v1, v2, .ref h4, .ref h3, .int 2, .int 2, v3, v4, v5, v6, v7, v8, v9, v10, v11, v12, v13, v14, v15, v16, v17, v18, v19, v20])), (h1, .inl (a0, 609, .inr (.inl (vp_updL f0 0 0)))), (h2, .inl (a1, 609, .inr (.inl y1_1)))] := hD
  refine lv_aload_n hx hb dX6_bitsOf_12 rfl (lv_at hl 0 rfl) ?_
  refine va_get (D := D) (ci := 6) (v := .ref h1) (C := RX6) (T := TX6) (N := 27) hx hb hg inX6 hown hK hP 2 rfl rfl 1 (by decide) (hg _ k1220) (fun _ h9 => h9) rfl dX6_bitsOf_13 ?_
  refine lv_iconst (v := 1) hx hb dX6_bitsOf_16 (by decide) ?_
  refine lv_iload_n hx hb dX6_bitsOf_17 rfl (lv_at hl 2 rfl) ?_
  refine lv_i2l (v := 0) hx hb dX6_bitsOf_18 (by decide) ?_
  refine astL hx hb hK hP hD hS 3 2 rfl rfl 1 (by decide) (vin (by decide)) dX6_bitsOf_19 (fun H locs hP hD hS => ?_)
  have hP : va_P D vwCl [(h3, .inl (a2, 48, .inl f2)), (h4, .inl (a3, 48, .inl f3)), (h0, .inr (6, [v0, .ref h1, .ref h2, v1, v2, .ref h4, .ref h3, .int 2, .int 2, v3, v4, v5, v6, v7, v8, v9, v10, v11, v12, v13, v14, v15, v16, v17, v18, v19, v20])), (h1, .inl (a0, 609, .inr (.inl (vp_updL (vp_updL f0 0 0) 1 0)))), (h2, .inl (a1, 609, .inr (.inl y1_1)))] H := hP
  have hD : va_D A [(h3, .inl (a2, 48, .inl f2)), (h4, .inl (a3, 48, .inl f3)), (h0, .inr (6, [v0, .ref h1, .ref h2, v1, v2, .ref h4, .ref h3, .int 2, .int 2, v3, v4, v5, v6, v7, v8, v9, v10, v11, v12, v13, v14, v15, v16, v17, v18, v19, v20])), (h1, .inl (a0, 609, .inr (.inl (vp_updL (vp_updL f0 0 0) 1 0)))), (h2, .inl (a1, 609, .inr (.inl y1_1)))] := hD
  refine lv_aload_n hx hb dX6_bitsOf_20 rfl (lv_at hl 0 rfl) ?_
  refine cVv (n := 0) (As := []) (rest := []) (wr := [(h2, .inl (a1, 609, .inr (.inl y1_1)))]) (tr := [(a1, .long)]) hx hb hml hown hg okN (cX6_anew_186 l D h0 h1 h3 h4 v0 (.ref h2) v1 v2 (.int 2) v3 v4 v5 v6 v7 v8 v9 v10 v11 v12 v13 v14 v15 v16 v17 v18 v19 v20 (vp_updL (vp_updL f0 0 0) 1 0) f2 f3 a0 a2 a3 ef2_0 ef2_1 ef3_0 ef3_1) (mwV k1214 k1216 k35 k92 k1217) ⟨rfl, by decide, by decide, by decide +kernel⟩ ⟨rfl, rfl, (Nat.le_of_ble_eq_true rfl), (Nat.le_of_ble_eq_true rfl)⟩ hP hD hK hS xn [2, 3, 0, 1] [2, 3, 0, 1] [4] [2, 0, 1] [3] rfl (by decide) rfl rfl (by decide) (by decide) rfl rfl (va_free hD hS hA [2, 3, 0, 1] rfl) (va_free hD hS hA [2, 3, 0, 1] rfl) 2 rfl rfl rfl hl.1 rfl (Nat.le_of_ble_eq_true rfl) dX6_bitsOf_21 ⟨(Nat.le_of_ble_eq_true rfl), (Nat.le_of_ble_eq_true rfl)⟩ (fun u H locs hφ hP hD hK hS hk => ?_)
  have hP : va_P D vwCl [(h2, .inl (a1, 609, .inr (.inl y1_1))), (h0, .inr (6, [v0, .ref h1, .ref h2, v1, v2, .ref h4, .ref h3, .int 2, .int 2, v3, v4, v5, v6, v7, v8, v9, v10, v11, v12, v13, v14, v15, v16, v17, v18, v19, v20])), (h1, .inl (a0, 609, .inr (.inl (vp_updL (vp_updL (vp_updL (vp_updL (vp_updL (vp_updL (vp_updL (vp_updL (vp_updL (vp_updL f0 0 0) 1 0) 3 0) 4 0) 5 0) 53 1) 101 (-1)) 6 0) 54 1) 102 (-1))))), (h3, .inl (a2, 48, .inl f2)), (h4, .inl (a3, 48, .inl f3))] H := hP
  have hD : va_D A [(h2, .inl (a1, 609, .inr (.inl y1_1))), (h0, .inr (6, [v0, .ref h1, .ref h2, v1, v2, .ref h4, .ref h3, .int 2, .int 2, v3, v4, v5, v6, v7, v8, v9, v10, v11, v12, v13, v14, v15, v16, v17, v18, v19, v20])), (h1, .inl (a0, 609, .inr (.inl (vp_updL (vp_updL (vp_updL (vp_updL (vp_updL (vp_updL (vp_updL (vp_updL (vp_updL (vp_updL f0 0 0) 1 0) 3 0) 4 0) 5 0) 53 1) 101 (-1)) 6 0) 54 1) 102 (-1))))), (h3, .inl (a2, 48, .inl f2)), (h4, .inl (a3, 48, .inl f3))] := hD
  have hK : va_K D vwCl [(a1, .long), (a0, .long), (a2, .int), (a3, .int)] s := hK
  refine W.widen (k := 0) (n := 0) (Nat.le_of_ble_eq_true rfl) (Nat.le_of_ble_eq_true rfl) ?_
  refine lv_aload_n hx hb dX6_bitsOf_24 rfl (lv_at hl 0 rfl) ?_
  refine lv_bipush (v := 46) hx hb dX6_bitsOf_25 (by decide) ?_
  refine cVi (n := 1) (As := [.int 46]) (rest := []) (wr := [(h2, .inl (a1, 609, .inr (.inl y1_1))), (h0, .inr (6, [v0, .ref h1, .ref h2, v1, v2, .ref h4, .ref h3, .int 2, .int 2, v3, v4, v5, v6, v7, v8, v9, v10, v11, v12, v13, v14, v15, v16, v17, v18, v19, v20])), (h1, .inl (a0, 609, .inr (.inl (vp_updL (vp_updL (vp_updL (vp_updL (vp_updL (vp_updL (vp_updL (vp_updL (vp_updL (vp_updL f0 0 0) 1 0) 3 0) 4 0) 5 0) 53 1) 101 (-1)) 6 0) 54 1) 102 (-1))))), (h3, .inl (a2, 48, .inl f2)), (h4, .inl (a3, 48, .inl f3))]) (tr := [(a1, .long), (a0, .long), (a2, .int), (a3, .int)]) hx hb hml hown hg okN (cX6_goesOn_263 l D h0 h1 v0 (.ref h2) v1 v2 (.ref h4) (.ref h3) v3 v4 v5 v6 v7 v8 v9 v10 v11 v12 v13 v14 v15 v16 v17 v18 v19 v20 (vp_updL (vp_updL (vp_updL (vp_updL (vp_updL (vp_updL (vp_updL (vp_updL (vp_updL (vp_updL f0 0 0) 1 0) 3 0) 4 0) 5 0) 53 1) 101 (-1)) 6 0) 54 1) 102 (-1)) a0 rfl) (mwV k1588 k1590 k71 k92 k1591) ⟨rfl, by decide, by decide, by decide +kernel⟩ ⟨rfl, rfl, (Nat.le_of_ble_eq_true rfl), (Nat.le_of_ble_eq_true rfl)⟩ hP hD hK hS xn [1, 2] [] [0, 1, 2, 3, 4] [1] [0, 1, 2, 3] rfl (by decide) rfl rfl (by decide) (by decide) rfl rfl (aNil hA hS) (aNil hA hS) 1 rfl rfl rfl hl.1 rfl (Nat.le_of_ble_eq_true rfl) dX6_bitsOf_27 ⟨(Nat.le_of_ble_eq_true rfl), (Nat.le_of_ble_eq_true rfl)⟩ (fun u H locs hφ hP hD hK hS hk => ?_)
  have hP : va_P D vwCl [(h2, .inl (a1, 609, .inr (.inl y1_1))), (h0, .inr (6, [v0, .ref h1, .ref h2, v1, v2, .ref h4, .ref h3, .int 2, .int 2, v3, v4, v5, v6, v7, v8, v9, v10, v11, v12, v13, v14, v15, v16, v17, v18, v19, v20])), (h1, .inl (a0, 609, .inr (.inl (vp_updL (vp_updL (vp_updL (vp_updL (vp_updL (vp_updL (vp_updL (vp_updL (vp_updL (vp_updL f0 0 0) 1 0) 3 0) 4 0) 5 0) 53 1) 101 (-1)) 6 0) 54 1) 102 (-1))))), (h3, .inl (a2, 48, .inl f2)), (h4, .inl (a3, 48, .inl f3))] H := hP
  have hD : va_D A [(h2, .inl (a1, 609, .inr (.inl y1_1))), (h0, .inr (6, [v0, .ref h1, .ref h2, v1, v2, .ref h4, .ref h3, .int 2, .int 2, v3, v4, v5, v6, v7, v8, v9, v10, v11, v12, v13, v14, v15, v16, v17, v18, v19, v20])), (h1, .inl (a0, 609, .inr (.inl (vp_updL (vp_updL (vp_updL (vp_updL (vp_updL (vp_updL (vp_updL (vp_updL (vp_updL (vp_updL f0 0 0) 1 0) 3 0) 4 0) 5 0) 53 1) 101 (-1)) 6 0) 54 1) 102 (-1))))), (h3, .inl (a2, 48, .inl f2)), (h4, .inl (a3, 48, .inl f3))] := hD
  have hK : va_K D vwCl [(a1, .long), (a0, .long), (a2, .int), (a3, .int)] s := hK
  refine W.widen (k := 0) (n := 0) (Nat.le_of_ble_eq_true rfl) (Nat.le_of_ble_eq_true rfl) ?_
  refine lv_istore_n (lv' := [(3, .int 0), (0, .ref h0), (1, .int 0), (2, .int 0)]) hx hb dX6_bitsOf_30 rfl hl (by decide) rfl (fun ls hl => ?_)
  refine lv_aload_n hx hb dX6_bitsOf_31 rfl (lv_at hl 1 rfl) ?_
  refine cVi (n := 0) (As := []) (rest := []) (wr := [(h2, .inl (a1, 609, .inr (.inl y1_1))), (h0, .inr (6, [v0, .ref h1, .ref h2, v1, v2, .ref h4, .ref h3, .int 2, .int 2, v3, v4, v5, v6, v7, v8, v9, v10, v11, v12, v13, v14, v15, v16, v17, v18, v19, v20])), (h1, .inl (a0, 609, .inr (.inl (vp_updL (vp_updL (vp_updL (vp_updL (vp_updL (vp_updL (vp_updL (vp_updL (vp_updL (vp_updL f0 0 0) 1 0) 3 0) 4 0) 5 0) 53 1) 101 (-1)) 6 0) 54 1) 102 (-1))))), (h3, .inl (a2, 48, .inl f2)), (h4, .inl (a3, 48, .inl f3))]) (tr := [(a1, .long), (a0, .long), (a2, .int), (a3, .int)]) hx hb hml hown hg okN (cX6_bitsNow_133 l D h0 h1 v0 (.ref h2) v1 v2 (.ref h4) (.ref h3) (.int 2) (.int 2) v3 v4 v5 v6 v7 v8 v9 v10 v11 v12 v13 v14 v15 v16 v17 v18 v19 v20 (vp_updL (vp_updL (vp_updL (vp_updL (vp_updL (vp_updL (vp_updL (vp_updL (vp_updL (vp_updL f0 0 0) 1 0) 3 0) 4 0) 5 0) 53 1) 101 (-1)) 6 0) 54 1) 102 (-1)) a0 rfl) (mwV k1506 k1508 k61 k92 k1509) ⟨rfl, by decide, by decide, by decide +kernel⟩ ⟨rfl, rfl, (Nat.le_of_ble_eq_true rfl), (Nat.le_of_ble_eq_true rfl)⟩ hP hD hK hS xn [1, 2] [] [0, 1, 2, 3, 4] [1] [0, 1, 2, 3] rfl (by decide) rfl rfl (by decide) (by decide) rfl rfl (aNil hA hS) (aNil hA hS) 1 rfl rfl rfl hl.1 rfl (Nat.le_of_ble_eq_true rfl) dX6_bitsOf_32 ⟨(Nat.le_of_ble_eq_true rfl), (Nat.le_of_ble_eq_true rfl)⟩ (fun u H locs hφ hP hD hK hS hk => ?_)
  have hP : va_P D vwCl [(h2, .inl (a1, 609, .inr (.inl y1_1))), (h0, .inr (6, [v0, .ref h1, .ref h2, v1, v2, .ref h4, .ref h3, .int 2, .int 2, v3, v4, v5, v6, v7, v8, v9, v10, v11, v12, v13, v14, v15, v16, v17, v18, v19, v20])), (h1, .inl (a0, 609, .inr (.inl (vp_updL (vp_updL (vp_updL (vp_updL (vp_updL (vp_updL (vp_updL (vp_updL (vp_updL (vp_updL f0 0 0) 1 0) 3 0) 4 0) 5 0) 53 1) 101 (-1)) 6 0) 54 1) 102 (-1))))), (h3, .inl (a2, 48, .inl f2)), (h4, .inl (a3, 48, .inl f3))] H := hP
  have hD : va_D A [(h2, .inl (a1, 609, .inr (.inl y1_1))), (h0, .inr (6, [v0, .ref h1, .ref h2, v1, v2, .ref h4, .ref h3, .int 2, .int 2, v3, v4, v5, v6, v7, v8, v9, v10, v11, v12, v13, v14, v15, v16, v17, v18, v19, v20])), (h1, .inl (a0, 609, .inr (.inl (vp_updL (vp_updL (vp_updL (vp_updL (vp_updL (vp_updL (vp_updL (vp_updL (vp_updL (vp_updL f0 0 0) 1 0) 3 0) 4 0) 5 0) 53 1) 101 (-1)) 6 0) 54 1) 102 (-1))))), (h3, .inl (a2, 48, .inl f2)), (h4, .inl (a3, 48, .inl f3))] := hD
  have hK : va_K D vwCl [(a1, .long), (a0, .long), (a2, .int), (a3, .int)] s := hK
  refine W.widen (k := 0) (n := 0) (Nat.le_of_ble_eq_true rfl) (Nat.le_of_ble_eq_true rfl) ?_
  refine lv_istore_n (lv' := [(3, .int 0), (0, .ref h0), (1, .int 0), (2, .int 0)]) hx hb dX6_bitsOf_35 rfl hl (by decide) rfl (fun ls hl => ?_)
  refine lv_aload_n hx hb dX6_bitsOf_36 rfl (lv_at hl 1 rfl) ?_
  refine cVv (n := 0) (As := []) (rest := []) (wr := [(h3, .inl (a2, 48, .inl f2)), (h4, .inl (a3, 48, .inl f3))]) (tr := [(a2, .int), (a3, .int)]) hx hb hml hown hg okN (cX6_takesBack_236 l D h0 h2 h1 v0 v1 v2 (.ref h4) (.ref h3) (.int 2) (.int 2) v3 v4 v5 v6 v7 v8 v9 v10 v11 v12 v13 v14 v15 v16 v17 v18 v19 v20 y1_1 (vp_updL (vp_updL (vp_updL (vp_updL (vp_updL (vp_updL (vp_updL (vp_updL (vp_updL (vp_updL f0 0 0) 1 0) 3 0) 4 0) 5 0) 53 1) 101 (-1)) 6 0) 54 1) 102 (-1)) a1 a0) (mwV k1654 k1656 k80 k92 k1657) ⟨rfl, by decide, by decide, by decide +kernel⟩ ⟨rfl, rfl, (Nat.le_of_ble_eq_true rfl), (Nat.le_of_ble_eq_true rfl)⟩ hP hD hK hS xn [1, 0, 2] [1, 0, 2] [3, 4] [0, 1] [2, 3] rfl (by decide) rfl rfl (by decide) (by decide) rfl rfl (va_free hD hS hA [1, 0, 2] rfl) (va_free hD hS hA [1, 0, 2] rfl) 1 rfl rfl rfl hl.1 rfl (Nat.le_of_ble_eq_true rfl) dX6_bitsOf_37 ⟨(Nat.le_of_ble_eq_true rfl), (Nat.le_of_ble_eq_true rfl)⟩ (fun u H locs hφ hP hD hK hS hk => ?_)
  obtain ⟨y1_2, rfl⟩ : ∃ z, z = u := ⟨_, rfl⟩
  have hP : va_P D vwCl [(h3, .inl (a2, 48, .inl f2)), (h4, .inl (a3, 48, .inl f3)), (h0, .inr (6, [v0, .ref h1, .ref h2, v1, v2, .ref h4, .ref h3, .int 2, .int 2, v3, v4, v5, v6, v7, v8, v9, v10, v11, v12, v13, v14, v15, v16, v17, v18, v19, v20])), (h2, .inl (a1, 609, .inr (.inl y1_1))), (h1, .inl (a0, 609, .inr (.inl y1_2)))] H := hP
  have hD : va_D A [(h3, .inl (a2, 48, .inl f2)), (h4, .inl (a3, 48, .inl f3)), (h0, .inr (6, [v0, .ref h1, .ref h2, v1, v2, .ref h4, .ref h3, .int 2, .int 2, v3, v4, v5, v6, v7, v8, v9, v10, v11, v12, v13, v14, v15, v16, v17, v18, v19, v20])), (h2, .inl (a1, 609, .inr (.inl y1_1))), (h1, .inl (a0, 609, .inr (.inl y1_2)))] := hD
  have hK : va_K D vwCl [(a2, .int), (a3, .int), (a1, .long), (a0, .long)] s := hK
  refine W.widen (k := 0) (n := 0) (Nat.le_of_ble_eq_true rfl) (Nat.le_of_ble_eq_true rfl) ?_
  refine lv_iload_n hx hb dX6_bitsOf_40 rfl (lv_at hl 0 rfl) ?_
  exact fi hx hb hr hlocks hP hD hK hS ((y1_2, y1_1)) trivial rfl [2, 4, 3, 0, 1] [3, 2, 0, 1] rfl (by decide) rfl (Nat.le_of_ble_eq_true rfl) (Nat.le_of_ble_eq_true rfl) dX6_bitsOf_41
set_option maxHeartbeats 4000000 in
set_option maxRecDepth 100000 in
theorem cX6_bitsBy_261 (l : Launch) (D : va_G) (h0 : Nat) (h1 : Nat) (h2 : Nat) (h3 : Nat) (h4 : Nat) (v0 : Value) (v1 : Value) (v2 : Value) (v3 : Value) (v4 : Value) (v5 : Value) (v6 : Value) (v7 : Value) (v8 : Value) (v9 : Value) (v10 : Value) (v11 : Value) (v12 : Value) (v13 : Value) (v14 : Value) (v15 : Value) (v16 : Value) (v17 : Value) (v18 : Value) (v19 : Value) (v20 : Value) (f0 : Nat → Int64) (f1 : Nat → Int64) (f2 : Nat → Int32) (f3 : Nat → Int32) (a0 : ClassId) (a1 : ClassId) (a2 : ClassId) (a3 : ClassId) (ef2_0 : f2 0 = 0) (ef2_1 : f2 1 = 0) (ef3_0 : f3 0 = 0) (ef3_1 : f3 1 = 1)  : CT l yX6_bitsBy cX6_bitsBy 3 (some .int) { frames := 5, cells := 0, slots := 0, locals := 108 } [.ref h0, .int 0, .int 0] D [(h0, .inr (6, [v0, .ref h1, .ref h2, v1, v2, .ref h4, .ref h3, .int 2, .int 2, v3, v4, v5, v6, v7, v8, v9, v10, v11, v12, v13, v14, v15, v16, v17, v18, v19, v20])), (h1, .inl (a0, 609, .inr (.inl f0))), (h2, .inl (a1, 609, .inr (.inl f1))), (h3, .inl (a2, 48, .inl f2)), (h4, .inl (a3, 48, .inl f3))] [(a0, .long), (a1, .long), (a2, .int), (a3, .int)] XN [(h0, .inr (6, [v0, .ref h1, .ref h2, v1, v2, .ref h4, .ref h3, .int 2, .int 2, v3, v4, v5, v6, v7, v8, v9, v10, v11, v12, v13, v14, v15, v16, v17, v18, v19, v20])), (h1, .inl (a0, 609, .inr (.inl f0))), (h2, .inl (a1, 609, .inr (.inl f1))), (h3, .inl (a2, 48, .inl f2)), (h4, .inl (a3, 48, .inl f3))] (ei (fun _ : (Nat → Int64) × (Nat → Int64) => True) (fun u => 0) (fun u => [(h0, .inr (6, [.int 0, .ref h1, .ref h2, v1, v2, .ref h4, .ref h3, .int 2, .int 2, v3, v4, v5, v6, v7, v8, v9, v10, v11, v12, v13, v14, v15, v16, v17, v18, v19, v20])), (h1, .inl (a0, 609, .inr (.inl u.1))), (h2, .inl (a1, 609, .inr (.inl u.2))), (h3, .inl (a2, 48, .inl f2)), (h4, .inl (a3, 48, .inl f3))]) (fun u => [(a0, .long), (a1, .long), (a2, .int), (a3, .int)]) D) 0 0 := by
  refine CT.ofW (by decide +kernel) (Nat.le_of_ble_eq_true rfl) ?_
  intro p e s m below meth c A ls hcs hP hK hD hX hA hS hl
  obtain ⟨hx, hb, hr, hml, hown, hg, hlocks, hin⟩ := hcs
  have hown : s.vm.findClass RX6 = some m.cls := hown
  have hl : lv_has ls 3 [(0, .ref h0), (1, .int 0), (2, .int 0)] := hl
  refine lv_aload_n hx hb dX6_bitsBy_0 rfl (lv_at hl 0 rfl) ?_
  refine lv_iload_n hx hb dX6_bitsBy_1 rfl (lv_at hl 1 rfl) ?_
  refine lv_i2l (v := 0) hx hb dX6_bitsBy_2 (by decide) ?_
  refine lv_lconst (v := 0) hx hb dX6_bitsBy_3 (by decide) ?_
  refine lv_ldc2 hx hb hown (hg _ k1510) dX6_bitsBy_4 ?_
  refine cSi (n := 3) (As := [.long 0, .long 0, .long 2]) (rest := [.ref h0]) (wr := [(h0, .inr (6, [v0, .ref h1, .ref h2, v1, v2, .ref h4, .ref h3, .int 2, .int 2, v3, v4, v5, v6, v7, v8, v9, v10, v11, v12, v13, v14, v15, v16, v17, v18, v19, v20])), (h1, .inl (a0, 609, .inr (.inl f0))), (h2, .inl (a1, 609, .inr (.inl f1))), (h3, .inl (a2, 48, .inl f2)), (h4, .inl (a3, 48, .inl f3))]) (tr := [(a0, .long), (a1, .long), (a2, .int), (a3, .int)]) hx hb hml hown hg okN (cX6_in_143 l D) (mwS k1317 k1318 k92 k1319) ⟨rfl, by decide, by decide, by decide +kernel⟩ ⟨rfl, rfl, (Nat.le_of_ble_eq_true rfl), (Nat.le_of_ble_eq_true rfl)⟩ hP hD hK hS xn [] [] [0, 1, 2, 3, 4] [] [0, 1, 2, 3] rfl (by decide) rfl rfl (by decide) (by decide) rfl rfl (aNil hA hS) (aNil hA hS) rfl hl.1 rfl (Nat.le_of_ble_eq_true rfl) dX6_bitsBy_7 ⟨(Nat.le_of_ble_eq_true rfl), (Nat.le_of_ble_eq_true rfl)⟩ (fun u H locs hφ hP hD hK hS hk => ?_)
  have hP : va_P D vwCl [(h0, .inr (6, [v0, .ref h1, .ref h2, v1, v2, .ref h4, .ref h3, .int 2, .int 2, v3, v4, v5, v6, v7, v8, v9, v10, v11, v12, v13, v14, v15, v16, v17, v18, v19, v20])), (h1, .inl (a0, 609, .inr (.inl f0))), (h2, .inl (a1, 609, .inr (.inl f1))), (h3, .inl (a2, 48, .inl f2)), (h4, .inl (a3, 48, .inl f3))] H := hP
  have hD : va_D A [(h0, .inr (6, [v0, .ref h1, .ref h2, v1, v2, .ref h4, .ref h3, .int 2, .int 2, v3, v4, v5, v6, v7, v8, v9, v10, v11, v12, v13, v14, v15, v16, v17, v18, v19, v20])), (h1, .inl (a0, 609, .inr (.inl f0))), (h2, .inl (a1, 609, .inr (.inl f1))), (h3, .inl (a2, 48, .inl f2)), (h4, .inl (a3, 48, .inl f3))] := hD
  have hK : va_K D vwCl [(a0, .long), (a1, .long), (a2, .int), (a3, .int)] s := hK
  refine W.widen (k := 0) (n := 0) (Nat.le_of_ble_eq_true rfl) (Nat.le_of_ble_eq_true rfl) ?_
  refine lv_if_eq (tgt := 29) hx hb dX6_bitsBy_10 (by decide) (fun c9 => absurd c9 (by decide)) (fun _ => ?_)
  refine lv_iload_n hx hb dX6_bitsBy_13 rfl (lv_at hl 2 rfl) ?_
  refine lv_i2l (v := 0) hx hb dX6_bitsBy_14 (by decide) ?_
  refine lv_lconst (v := 0) hx hb dX6_bitsBy_15 (by decide) ?_
  refine lv_ldc2 hx hb hown (hg _ k1510) dX6_bitsBy_16 ?_
  refine cSi (n := 3) (As := [.long 0, .long 0, .long 2]) (rest := [.ref h0]) (wr := [(h0, .inr (6, [v0, .ref h1, .ref h2, v1, v2, .ref h4, .ref h3, .int 2, .int 2, v3, v4, v5, v6, v7, v8, v9, v10, v11, v12, v13, v14, v15, v16, v17, v18, v19, v20])), (h1, .inl (a0, 609, .inr (.inl f0))), (h2, .inl (a1, 609, .inr (.inl f1))), (h3, .inl (a2, 48, .inl f2)), (h4, .inl (a3, 48, .inl f3))]) (tr := [(a0, .long), (a1, .long), (a2, .int), (a3, .int)]) hx hb hml hown hg okN (cX6_in_143 l D) (mwS k1317 k1318 k92 k1319) ⟨rfl, by decide, by decide, by decide +kernel⟩ ⟨rfl, rfl, (Nat.le_of_ble_eq_true rfl), (Nat.le_of_ble_eq_true rfl)⟩ hP hD hK hS xn [] [] [0, 1, 2, 3, 4] [] [0, 1, 2, 3] rfl (by decide) rfl rfl (by decide) (by decide) rfl rfl (aNil hA hS) (aNil hA hS) rfl hl.1 rfl (Nat.le_of_ble_eq_true rfl) dX6_bitsBy_19 ⟨(Nat.le_of_ble_eq_true rfl), (Nat.le_of_ble_eq_true rfl)⟩ (fun u H locs hφ hP hD hK hS hk => ?_)
  have hP : va_P D vwCl [(h0, .inr (6, [v0, .ref h1, .ref h2, v1, v2, .ref h4, .ref h3, .int 2, .int 2, v3, v4, v5, v6, v7, v8, v9, v10, v11, v12, v13, v14, v15, v16, v17, v18, v19, v20])), (h1, .inl (a0, 609, .inr (.inl f0))), (h2, .inl (a1, 609, .inr (.inl f1))), (h3, .inl (a2, 48, .inl f2)), (h4, .inl (a3, 48, .inl f3))] H := hP
  have hD : va_D A [(h0, .inr (6, [v0, .ref h1, .ref h2, v1, v2, .ref h4, .ref h3, .int 2, .int 2, v3, v4, v5, v6, v7, v8, v9, v10, v11, v12, v13, v14, v15, v16, v17, v18, v19, v20])), (h1, .inl (a0, 609, .inr (.inl f0))), (h2, .inl (a1, 609, .inr (.inl f1))), (h3, .inl (a2, 48, .inl f2)), (h4, .inl (a3, 48, .inl f3))] := hD
  have hK : va_K D vwCl [(a0, .long), (a1, .long), (a2, .int), (a3, .int)] s := hK
  refine W.widen (k := 0) (n := 0) (Nat.le_of_ble_eq_true rfl) (Nat.le_of_ble_eq_true rfl) ?_
  refine lv_if_eq (tgt := 29) hx hb dX6_bitsBy_22 (by decide) (fun c9 => absurd c9 (by decide)) (fun _ => ?_)
  refine lv_iconst (v := 0) hx hb dX6_bitsBy_25 (by decide) ?_
  refine lv_goto (tgt := 30) hx hb dX6_bitsBy_26 (by decide) ?_
  refine va_put (D := D) (ci := 6) (v := .int 0) (ty := .int) (C := RX6) (T := TX6) (N := 27) hx hb hg inX6 tyX6 tyX6_ok nmX6 hown hK hP hD hS 0 rfl rfl 0 (by decide) (hg _ k1219) (fun _ h9 => h9) rfl (by decide +kernel) rfl rfl (Nat.le_of_ble_eq_true rfl) dX6_bitsBy_30 (fun H locs hP hD hS => ?_)
  have hP : va_P D vwCl [(h0, .inr (6, [.int 0, .ref h1, .ref h2, v1, v2, .ref h4, .ref h3, .int 2, .int 2, v3, v4, v5, v6, v7, v8, v9, v10, v11, v12, v13, v14, v15, v16, v17, v18, v19, v20])), (h1, .inl (a0, 609, .inr (.inl f0))), (h2, .inl (a1, 609, .inr (.inl f1))), (h3, .inl (a2, 48, .inl f2)), (h4, .inl (a3, 48, .inl f3))] H := hP
  have hD : va_D A [(h0, .inr (6, [.int 0, .ref h1, .ref h2, v1, v2, .ref h4, .ref h3, .int 2, .int 2, v3, v4, v5, v6, v7, v8, v9, v10, v11, v12, v13, v14, v15, v16, v17, v18, v19, v20])), (h1, .inl (a0, 609, .inr (.inl f0))), (h2, .inl (a1, 609, .inr (.inl f1))), (h3, .inl (a2, 48, .inl f2)), (h4, .inl (a3, 48, .inl f3))] := hD
  refine lv_aload_n hx hb dX6_bitsBy_33 rfl (lv_at hl 0 rfl) ?_
  refine va_get (D := D) (ci := 6) (v := .int 0) (C := RX6) (T := TX6) (N := 27) hx hb hg inX6 hown hK hP 0 rfl rfl 0 (by decide) (hg _ k1219) (fun _ h9 => h9) rfl dX6_bitsBy_34 ?_
  refine lv_if_le (tgt := 44) hx hb dX6_bitsBy_37 (by decide) (fun _ => ?_) (fun c9 => absurd (by decide) c9)
  refine lv_aload_n hx hb dX6_bitsBy_44 rfl (lv_at hl 0 rfl) ?_
  refine lv_iload_n hx hb dX6_bitsBy_45 rfl (lv_at hl 1 rfl) ?_
  refine lv_iload_n hx hb dX6_bitsBy_46 rfl (lv_at hl 2 rfl) ?_
  refine cVi (n := 2) (As := [.int 0, .int 0]) (rest := []) (wr := []) (tr := []) hx hb hml hown hg okN (cX6_bitsOf_262 l D h0 h1 h2 h3 h4 (.int 0) v1 v2 v3 v4 v5 v6 v7 v8 v9 v10 v11 v12 v13 v14 v15 v16 v17 v18 v19 v20 f0 f1 f2 f3 a0 a1 a2 a3 ef2_0 ef2_1 ef3_0 ef3_1) (mwV k1674 k1676 k82 k92 k1677) ⟨rfl, by decide, by decide, by decide +kernel⟩ ⟨rfl, rfl, (Nat.le_of_ble_eq_true rfl), (Nat.le_of_ble_eq_true rfl)⟩ hP hD hK hS xn [0, 1, 2, 3, 4] [0, 1, 2, 3, 4] [] [0, 1, 2, 3] [] rfl (by decide) rfl rfl (by decide) (by decide) rfl rfl (va_free hD hS hA [0, 1, 2, 3, 4] rfl) (va_free hD hS hA [0, 1, 2, 3, 4] rfl) 0 rfl rfl rfl hl.1 rfl (Nat.le_of_ble_eq_true rfl) dX6_bitsBy_47 ⟨(Nat.le_of_ble_eq_true rfl), (Nat.le_of_ble_eq_true rfl)⟩ (fun u H locs hφ hP hD hK hS hk => ?_)
  obtain ⟨y0_1, y0_2⟩ := u
  have hP : va_P D vwCl [(h0, .inr (6, [.int 0, .ref h1, .ref h2, v1, v2, .ref h4, .ref h3, .int 2, .int 2, v3, v4, v5, v6, v7, v8, v9, v10, v11, v12, v13, v14, v15, v16, v17, v18, v19, v20])), (h1, .inl (a0, 609, .inr (.inl y0_1))), (h2, .inl (a1, 609, .inr (.inl y0_2))), (h3, .inl (a2, 48, .inl f2)), (h4, .inl (a3, 48, .inl f3))] H := hP
  have hD : va_D A [(h0, .inr (6, [.int 0, .ref h1, .ref h2, v1, v2, .ref h4, .ref h3, .int 2, .int 2, v3, v4, v5, v6, v7, v8, v9, v10, v11, v12, v13, v14, v15, v16, v17, v18, v19, v20])), (h1, .inl (a0, 609, .inr (.inl y0_1))), (h2, .inl (a1, 609, .inr (.inl y0_2))), (h3, .inl (a2, 48, .inl f2)), (h4, .inl (a3, 48, .inl f3))] := hD
  have hK : va_K D vwCl [(a0, .long), (a1, .long), (a2, .int), (a3, .int)] s := hK
  refine W.widen (k := 0) (n := 0) (Nat.le_of_ble_eq_true rfl) (Nat.le_of_ble_eq_true rfl) ?_
  exact fi hx hb hr hlocks hP hD hK hS ((y0_1, y0_2)) trivial rfl [0, 1, 2, 3, 4] [0, 1, 2, 3] rfl (by decide) rfl (Nat.le_of_ble_eq_true rfl) (Nat.le_of_ble_eq_true rfl) dX6_bitsBy_50
set_option maxHeartbeats 4000000 in
set_option maxRecDepth 100000 in
theorem cX6_bitsOf_265 (l : Launch) (D : va_G) (h0 : Nat) (h1 : Nat) (h2 : Nat) (h3 : Nat) (h4 : Nat) (v0 : Value) (v1 : Value) (v2 : Value) (v3 : Value) (v4 : Value) (v5 : Value) (v6 : Value) (v7 : Value) (v8 : Value) (v9 : Value) (v10 : Value) (v11 : Value) (v12 : Value) (v13 : Value) (v14 : Value) (v15 : Value) (v16 : Value) (v17 : Value) (v18 : Value) (v19 : Value) (v20 : Value) (f0 : Nat → Int64) (f1 : Nat → Int64) (f2 : Nat → Int32) (f3 : Nat → Int32) (a0 : ClassId) (a1 : ClassId) (a2 : ClassId) (a3 : ClassId) (ef2_0 : f2 0 = 0) (ef2_1 : f2 1 = 0) (ef3_0 : f3 0 = 0) (ef3_1 : f3 1 = 1)  : CT l yX6_bitsOf cX6_bitsOf 4 (some .int) { frames := 4, cells := 0, slots := 0, locals := 85 } [.ref h0, .int 0, .int 1] D [(h0, .inr (6, [v0, .ref h1, .ref h2, v1, v2, .ref h4, .ref h3, .int 2, .int 2, v3, v4, v5, v6, v7, v8, v9, v10, v11, v12, v13, v14, v15, v16, v17, v18, v19, v20])), (h1, .inl (a0, 609, .inr (.inl f0))), (h2, .inl (a1, 609, .inr (.inl f1))), (h3, .inl (a2, 48, .inl f2)), (h4, .inl (a3, 48, .inl f3))] [(a0, .long), (a1, .long), (a2, .int), (a3, .int)] XN [(h0, .inr (6, [v0, .ref h1, .ref h2, v1, v2, .ref h4, .ref h3, .int 2, .int 2, v3, v4, v5, v6, v7, v8, v9, v10, v11, v12, v13, v14, v15, v16, v17, v18, v19, v20])), (h1, .inl (a0, 609, .inr (.inl f0))), (h2, .inl (a1, 609, .inr (.inl f1))), (h3, .inl (a2, 48, .inl f2)), (h4, .inl (a3, 48, .inl f3))] (ei (fun _ : (Nat → Int64) × (Nat → Int64) => True) (fun u => 0) (fun u => [(h0, .inr (6, [v0, .ref h1, .ref h2, v1, v2, .ref h4, .ref h3, .int 2, .int 2, v3, v4, v5, v6, v7, v8, v9, v10, v11, v12, v13, v14, v15, v16, v17, v18, v19, v20])), (h1, .inl (a0, 609, .inr (.inl u.1))), (h2, .inl (a1, 609, .inr (.inl u.2))), (h3, .inl (a2, 48, .inl f2)), (h4, .inl (a3, 48, .inl f3))]) (fun u => [(a0, .long), (a1, .long), (a2, .int), (a3, .int)]) D) 0 0 := by
  refine CT.ofW (by decide +kernel) (Nat.le_of_ble_eq_true rfl) ?_
  intro p e s m below meth c A ls hcs hP hK hD hX hA hS hl
  obtain ⟨hx, hb, hr, hml, hown, hg, hlocks, hin⟩ := hcs
  have hown : s.vm.findClass RX6 = some m.cls := hown
  have hl : lv_has ls 4 [(0, .ref h0), (1, .int 0), (2, .int 1)] := hl
  refine lv_aload_n hx hb dX6_bitsOf_0 rfl (lv_at hl 0 rfl) ?_
  refine cVv (n := 0) (As := []) (rest := []) (wr := [(h3, .inl (a2, 48, .inl f2)), (h4, .inl (a3, 48, .inl f3))]) (tr := [(a2, .int), (a3, .int)]) hx hb hml hown hg okN (cX6_puts_234 l D h0 h1 h2 v0 v1 v2 (.ref h4) (.ref h3) (.int 2) (.int 2) v3 v4 v5 v6 v7 v8 v9 v10 v11 v12 v13 v14 v15 v16 v17 v18 v19 v20 f0 f1 a0 a1) (mwV k1646 k1648 k78 k92 k1649) ⟨rfl, by decide, by decide, by decide +kernel⟩ ⟨rfl, rfl, (Nat.le_of_ble_eq_true rfl), (Nat.le_of_ble_eq_true rfl)⟩ hP hD hK hS xn [0, 1, 2] [0, 1, 2] [3, 4] [0, 1] [2, 3] rfl (by decide) rfl rfl (by decide) (by decide) rfl rfl (va_free hD hS hA [0, 1, 2] rfl) (va_free hD hS hA [0, 1, 2] rfl) 0 rfl rfl rfl hl.1 rfl (Nat.le_of_ble_eq_true rfl) dX6_bitsOf_1 ⟨(Nat.le_of_ble_eq_true rfl), (Nat.le_of_ble_eq_true rfl)⟩ (fun u H locs hφ hP hD hK hS hk => ?_)
  obtain ⟨y1_1, rfl⟩ : ∃ z, z = u := ⟨_, rfl⟩
  have hP : va_P D vwCl [(h3, .inl (a2, 48, .inl f2)), (h4, .inl (a3, 48, .inl f3)), (h0, .inr (6, [v0, .ref h1, .ref h2, v1, v2, .ref h4, .ref h3, .int 2, .int 2, v3, v4, v5, v6, v7, v8, v9, v10, v11, v12, v13, v14, v15, v16, v17, v18, v19, v20])), (h1, .inl (a0, 609, .inr (.inl f0))), (h2, .inl (a1, 609, .inr (.inl y1_1)))] H := hP
  have hD : va_D A [(h3, .inl (a2, 48, .inl f2)), (h4, .inl (a3, 48, .inl f3)), (h0, .inr (6, [v0, .ref h1, .ref h2, v1, v2, .ref h4, .ref h3, .int 2, .int 2, v3, v4, v5, v6, v7, v8, v9, v10, v11, v12, v13, v14, v15, v16, v17, v18, v19, v20])), (h1, .inl (a0, 609, .inr (.inl f0))), (h2, .inl (a1, 609, .inr (.inl y1_1)))] := hD
  have hK : va_K D vwCl [(a2, .int), (a3, .int), (a0, .long), (a1, .long)] s := hK
  refine W.widen (k := 0) (n := 0) (Nat.le_of_ble_eq_true rfl) (Nat.le_of_ble_eq_true rfl) ?_
  refine lv_aload_n hx hb dX6_bitsOf_4 rfl (lv_at hl 0 rfl) ?_
  refine va_get (D := D) (ci := 6) (v := .ref h1) (C := RX6) (T := TX6) (N := 27) hx hb hg inX6 hown hK hP 2 rfl rfl 1 (by decide) (hg _ k1220) (fun _ h9 => h9) rfl dX6_bitsOf_5 ?_
  refine lv_iconst (v := 0) hx hb dX6_bitsOf_8 (by decide) ?_
  refine lv_iload_n hx hb dX6_bitsOf_9 rfl (lv_at hl 1 rfl) ?_
  refine lv_i2l (v := 0) hx hb dX6_bitsOf_10 (by decide) ?_
  refine astL hx hb hK hP hD hS 3 2 rfl rfl 0 (by decide) (vin (by decide)) dX6_bitsOf_11 (fun H locs hP hD hS => ?_)
  have hP : va_P D vwCl [(h3, .inl (a2, 48, .inl f2)), (h4, .inl (a3, 48, .inl f3)), (h0, .inr (6, [v0, .ref h1, .ref h2, v1, v2, .ref h4, .ref h3, .int 2, .int 2, v3, v4, v5, v6, v7, v8, v9, v10, v11, v12, v13, v14, v15, v16, v17, v18, v19, v20])), (h1, .inl (a0, 609, .inr (.inl (vp_updL f0 0 0)))), (h2, .inl (a1, 609, .inr (.inl y1_1)))] H := hP
  have hD : va_D A [(h3, .inl (a2, 48, .inl f2)), (h4, .inl (a3, 48, .inl f3)), (h0, .inr (6, [v0, .ref h1, .ref h2, v1, v2, .ref h4, .ref h3, .int 2, .int 2, v3, v4, v5, v6, v7, v8, v9, v10, v11, v12, v13, v14, v15, v16, v17, v18, v19, v20])), (h1, .inl (a0, 609, .inr (.inl (vp_updL f0 0 0)))), (h2, .inl (a1, 609, .inr (.inl y1_1)))] := hD
  refine lv_aload_n hx hb dX6_bitsOf_12 rfl (lv_at hl 0 rfl) ?_
  refine va_get (D := D) (ci := 6) (v := .ref h1) (C := RX6) (T := TX6) (N := 27) hx hb hg inX6 hown hK hP 2 rfl rfl 1 (by decide) (hg _ k1220) (fun _ h9 => h9) rfl dX6_bitsOf_13 ?_
  refine lv_iconst (v := 1) hx hb dX6_bitsOf_16 (by decide) ?_
  refine lv_iload_n hx hb dX6_bitsOf_17 rfl (lv_at hl 2 rfl) ?_
  refine lv_i2l (v := 1) hx hb dX6_bitsOf_18 (by decide) ?_
  refine astL hx hb hK hP hD hS 3 2 rfl rfl 1 (by decide) (vin (by decide)) dX6_bitsOf_19 (fun H locs hP hD hS => ?_)
  have hP : va_P D vwCl [(h3, .inl (a2, 48, .inl f2)), (h4, .inl (a3, 48, .inl f3)), (h0, .inr (6, [v0, .ref h1, .ref h2, v1, v2, .ref h4, .ref h3, .int 2, .int 2, v3, v4, v5, v6, v7, v8, v9, v10, v11, v12, v13, v14, v15, v16, v17, v18, v19, v20])), (h1, .inl (a0, 609, .inr (.inl (vp_updL (vp_updL f0 0 0) 1 1)))), (h2, .inl (a1, 609, .inr (.inl y1_1)))] H := hP
  have hD : va_D A [(h3, .inl (a2, 48, .inl f2)), (h4, .inl (a3, 48, .inl f3)), (h0, .inr (6, [v0, .ref h1, .ref h2, v1, v2, .ref h4, .ref h3, .int 2, .int 2, v3, v4, v5, v6, v7, v8, v9, v10, v11, v12, v13, v14, v15, v16, v17, v18, v19, v20])), (h1, .inl (a0, 609, .inr (.inl (vp_updL (vp_updL f0 0 0) 1 1)))), (h2, .inl (a1, 609, .inr (.inl y1_1)))] := hD
  refine lv_aload_n hx hb dX6_bitsOf_20 rfl (lv_at hl 0 rfl) ?_
  refine cVv (n := 0) (As := []) (rest := []) (wr := [(h2, .inl (a1, 609, .inr (.inl y1_1)))]) (tr := [(a1, .long)]) hx hb hml hown hg okN (cX6_anew_186 l D h0 h1 h3 h4 v0 (.ref h2) v1 v2 (.int 2) v3 v4 v5 v6 v7 v8 v9 v10 v11 v12 v13 v14 v15 v16 v17 v18 v19 v20 (vp_updL (vp_updL f0 0 0) 1 1) f2 f3 a0 a2 a3 ef2_0 ef2_1 ef3_0 ef3_1) (mwV k1214 k1216 k35 k92 k1217) ⟨rfl, by decide, by decide, by decide +kernel⟩ ⟨rfl, rfl, (Nat.le_of_ble_eq_true rfl), (Nat.le_of_ble_eq_true rfl)⟩ hP hD hK hS xn [2, 3, 0, 1] [2, 3, 0, 1] [4] [2, 0, 1] [3] rfl (by decide) rfl rfl (by decide) (by decide) rfl rfl (va_free hD hS hA [2, 3, 0, 1] rfl) (va_free hD hS hA [2, 3, 0, 1] rfl) 2 rfl rfl rfl hl.1 rfl (Nat.le_of_ble_eq_true rfl) dX6_bitsOf_21 ⟨(Nat.le_of_ble_eq_true rfl), (Nat.le_of_ble_eq_true rfl)⟩ (fun u H locs hφ hP hD hK hS hk => ?_)
  have hP : va_P D vwCl [(h2, .inl (a1, 609, .inr (.inl y1_1))), (h0, .inr (6, [v0, .ref h1, .ref h2, v1, v2, .ref h4, .ref h3, .int 2, .int 2, v3, v4, v5, v6, v7, v8, v9, v10, v11, v12, v13, v14, v15, v16, v17, v18, v19, v20])), (h1, .inl (a0, 609, .inr (.inl (vp_updL (vp_updL (vp_updL (vp_updL (vp_updL (vp_updL (vp_updL (vp_updL (vp_updL (vp_updL f0 0 0) 1 1) 3 0) 4 0) 5 0) 53 1) 101 (-1)) 6 0) 54 1) 102 (-1))))), (h3, .inl (a2, 48, .inl f2)), (h4, .inl (a3, 48, .inl f3))] H := hP
  have hD : va_D A [(h2, .inl (a1, 609, .inr (.inl y1_1))), (h0, .inr (6, [v0, .ref h1, .ref h2, v1, v2, .ref h4, .ref h3, .int 2, .int 2, v3, v4, v5, v6, v7, v8, v9, v10, v11, v12, v13, v14, v15, v16, v17, v18, v19, v20])), (h1, .inl (a0, 609, .inr (.inl (vp_updL (vp_updL (vp_updL (vp_updL (vp_updL (vp_updL (vp_updL (vp_updL (vp_updL (vp_updL f0 0 0) 1 1) 3 0) 4 0) 5 0) 53 1) 101 (-1)) 6 0) 54 1) 102 (-1))))), (h3, .inl (a2, 48, .inl f2)), (h4, .inl (a3, 48, .inl f3))] := hD
  have hK : va_K D vwCl [(a1, .long), (a0, .long), (a2, .int), (a3, .int)] s := hK
  refine W.widen (k := 0) (n := 0) (Nat.le_of_ble_eq_true rfl) (Nat.le_of_ble_eq_true rfl) ?_
  refine lv_aload_n hx hb dX6_bitsOf_24 rfl (lv_at hl 0 rfl) ?_
  refine lv_bipush (v := 46) hx hb dX6_bitsOf_25 (by decide) ?_
  refine cVi (n := 1) (As := [.int 46]) (rest := []) (wr := [(h2, .inl (a1, 609, .inr (.inl y1_1))), (h0, .inr (6, [v0, .ref h1, .ref h2, v1, v2, .ref h4, .ref h3, .int 2, .int 2, v3, v4, v5, v6, v7, v8, v9, v10, v11, v12, v13, v14, v15, v16, v17, v18, v19, v20])), (h1, .inl (a0, 609, .inr (.inl (vp_updL (vp_updL (vp_updL (vp_updL (vp_updL (vp_updL (vp_updL (vp_updL (vp_updL (vp_updL f0 0 0) 1 1) 3 0) 4 0) 5 0) 53 1) 101 (-1)) 6 0) 54 1) 102 (-1))))), (h3, .inl (a2, 48, .inl f2)), (h4, .inl (a3, 48, .inl f3))]) (tr := [(a1, .long), (a0, .long), (a2, .int), (a3, .int)]) hx hb hml hown hg okN (cX6_goesOn_263 l D h0 h1 v0 (.ref h2) v1 v2 (.ref h4) (.ref h3) v3 v4 v5 v6 v7 v8 v9 v10 v11 v12 v13 v14 v15 v16 v17 v18 v19 v20 (vp_updL (vp_updL (vp_updL (vp_updL (vp_updL (vp_updL (vp_updL (vp_updL (vp_updL (vp_updL f0 0 0) 1 1) 3 0) 4 0) 5 0) 53 1) 101 (-1)) 6 0) 54 1) 102 (-1)) a0 rfl) (mwV k1588 k1590 k71 k92 k1591) ⟨rfl, by decide, by decide, by decide +kernel⟩ ⟨rfl, rfl, (Nat.le_of_ble_eq_true rfl), (Nat.le_of_ble_eq_true rfl)⟩ hP hD hK hS xn [1, 2] [] [0, 1, 2, 3, 4] [1] [0, 1, 2, 3] rfl (by decide) rfl rfl (by decide) (by decide) rfl rfl (aNil hA hS) (aNil hA hS) 1 rfl rfl rfl hl.1 rfl (Nat.le_of_ble_eq_true rfl) dX6_bitsOf_27 ⟨(Nat.le_of_ble_eq_true rfl), (Nat.le_of_ble_eq_true rfl)⟩ (fun u H locs hφ hP hD hK hS hk => ?_)
  have hP : va_P D vwCl [(h2, .inl (a1, 609, .inr (.inl y1_1))), (h0, .inr (6, [v0, .ref h1, .ref h2, v1, v2, .ref h4, .ref h3, .int 2, .int 2, v3, v4, v5, v6, v7, v8, v9, v10, v11, v12, v13, v14, v15, v16, v17, v18, v19, v20])), (h1, .inl (a0, 609, .inr (.inl (vp_updL (vp_updL (vp_updL (vp_updL (vp_updL (vp_updL (vp_updL (vp_updL (vp_updL (vp_updL f0 0 0) 1 1) 3 0) 4 0) 5 0) 53 1) 101 (-1)) 6 0) 54 1) 102 (-1))))), (h3, .inl (a2, 48, .inl f2)), (h4, .inl (a3, 48, .inl f3))] H := hP
  have hD : va_D A [(h2, .inl (a1, 609, .inr (.inl y1_1))), (h0, .inr (6, [v0, .ref h1, .ref h2, v1, v2, .ref h4, .ref h3, .int 2, .int 2, v3, v4, v5, v6, v7, v8, v9, v10, v11, v12, v13, v14, v15, v16, v17, v18, v19, v20])), (h1, .inl (a0, 609, .inr (.inl (vp_updL (vp_updL (vp_updL (vp_updL (vp_updL (vp_updL (vp_updL (vp_updL (vp_updL (vp_updL f0 0 0) 1 1) 3 0) 4 0) 5 0) 53 1) 101 (-1)) 6 0) 54 1) 102 (-1))))), (h3, .inl (a2, 48, .inl f2)), (h4, .inl (a3, 48, .inl f3))] := hD
  have hK : va_K D vwCl [(a1, .long), (a0, .long), (a2, .int), (a3, .int)] s := hK
  refine W.widen (k := 0) (n := 0) (Nat.le_of_ble_eq_true rfl) (Nat.le_of_ble_eq_true rfl) ?_
  refine lv_istore_n (lv' := [(3, .int 0), (0, .ref h0), (1, .int 0), (2, .int 1)]) hx hb dX6_bitsOf_30 rfl hl (by decide) rfl (fun ls hl => ?_)
  refine lv_aload_n hx hb dX6_bitsOf_31 rfl (lv_at hl 1 rfl) ?_
  refine cVi (n := 0) (As := []) (rest := []) (wr := [(h2, .inl (a1, 609, .inr (.inl y1_1))), (h0, .inr (6, [v0, .ref h1, .ref h2, v1, v2, .ref h4, .ref h3, .int 2, .int 2, v3, v4, v5, v6, v7, v8, v9, v10, v11, v12, v13, v14, v15, v16, v17, v18, v19, v20])), (h1, .inl (a0, 609, .inr (.inl (vp_updL (vp_updL (vp_updL (vp_updL (vp_updL (vp_updL (vp_updL (vp_updL (vp_updL (vp_updL f0 0 0) 1 1) 3 0) 4 0) 5 0) 53 1) 101 (-1)) 6 0) 54 1) 102 (-1))))), (h3, .inl (a2, 48, .inl f2)), (h4, .inl (a3, 48, .inl f3))]) (tr := [(a1, .long), (a0, .long), (a2, .int), (a3, .int)]) hx hb hml hown hg okN (cX6_bitsNow_133 l D h0 h1 v0 (.ref h2) v1 v2 (.ref h4) (.ref h3) (.int 2) (.int 2) v3 v4 v5 v6 v7 v8 v9 v10 v11 v12 v13 v14 v15 v16 v17 v18 v19 v20 (vp_updL (vp_updL (vp_updL (vp_updL (vp_updL (vp_updL (vp_updL (vp_updL (vp_updL (vp_updL f0 0 0) 1 1) 3 0) 4 0) 5 0) 53 1) 101 (-1)) 6 0) 54 1) 102 (-1)) a0 rfl) (mwV k1506 k1508 k61 k92 k1509) ⟨rfl, by decide, by decide, by decide +kernel⟩ ⟨rfl, rfl, (Nat.le_of_ble_eq_true rfl), (Nat.le_of_ble_eq_true rfl)⟩ hP hD hK hS xn [1, 2] [] [0, 1, 2, 3, 4] [1] [0, 1, 2, 3] rfl (by decide) rfl rfl (by decide) (by decide) rfl rfl (aNil hA hS) (aNil hA hS) 1 rfl rfl rfl hl.1 rfl (Nat.le_of_ble_eq_true rfl) dX6_bitsOf_32 ⟨(Nat.le_of_ble_eq_true rfl), (Nat.le_of_ble_eq_true rfl)⟩ (fun u H locs hφ hP hD hK hS hk => ?_)
  have hP : va_P D vwCl [(h2, .inl (a1, 609, .inr (.inl y1_1))), (h0, .inr (6, [v0, .ref h1, .ref h2, v1, v2, .ref h4, .ref h3, .int 2, .int 2, v3, v4, v5, v6, v7, v8, v9, v10, v11, v12, v13, v14, v15, v16, v17, v18, v19, v20])), (h1, .inl (a0, 609, .inr (.inl (vp_updL (vp_updL (vp_updL (vp_updL (vp_updL (vp_updL (vp_updL (vp_updL (vp_updL (vp_updL f0 0 0) 1 1) 3 0) 4 0) 5 0) 53 1) 101 (-1)) 6 0) 54 1) 102 (-1))))), (h3, .inl (a2, 48, .inl f2)), (h4, .inl (a3, 48, .inl f3))] H := hP
  have hD : va_D A [(h2, .inl (a1, 609, .inr (.inl y1_1))), (h0, .inr (6, [v0, .ref h1, .ref h2, v1, v2, .ref h4, .ref h3, .int 2, .int 2, v3, v4, v5, v6, v7, v8, v9, v10, v11, v12, v13, v14, v15, v16, v17, v18, v19, v20])), (h1, .inl (a0, 609, .inr (.inl (vp_updL (vp_updL (vp_updL (vp_updL (vp_updL (vp_updL (vp_updL (vp_updL (vp_updL (vp_updL f0 0 0) 1 1) 3 0) 4 0) 5 0) 53 1) 101 (-1)) 6 0) 54 1) 102 (-1))))), (h3, .inl (a2, 48, .inl f2)), (h4, .inl (a3, 48, .inl f3))] := hD
  have hK : va_K D vwCl [(a1, .long), (a0, .long), (a2, .int), (a3, .int)] s := hK
  refine W.widen (k := 0) (n := 0) (Nat.le_of_ble_eq_true rfl) (Nat.le_of_ble_eq_true rfl) ?_
  refine lv_istore_n (lv' := [(3, .int 0), (0, .ref h0), (1, .int 0), (2, .int 1)]) hx hb dX6_bitsOf_35 rfl hl (by decide) rfl (fun ls hl => ?_)
  refine lv_aload_n hx hb dX6_bitsOf_36 rfl (lv_at hl 1 rfl) ?_
  refine cVv (n := 0) (As := []) (rest := []) (wr := [(h3, .inl (a2, 48, .inl f2)), (h4, .inl (a3, 48, .inl f3))]) (tr := [(a2, .int), (a3, .int)]) hx hb hml hown hg okN (cX6_takesBack_236 l D h0 h2 h1 v0 v1 v2 (.ref h4) (.ref h3) (.int 2) (.int 2) v3 v4 v5 v6 v7 v8 v9 v10 v11 v12 v13 v14 v15 v16 v17 v18 v19 v20 y1_1 (vp_updL (vp_updL (vp_updL (vp_updL (vp_updL (vp_updL (vp_updL (vp_updL (vp_updL (vp_updL f0 0 0) 1 1) 3 0) 4 0) 5 0) 53 1) 101 (-1)) 6 0) 54 1) 102 (-1)) a1 a0) (mwV k1654 k1656 k80 k92 k1657) ⟨rfl, by decide, by decide, by decide +kernel⟩ ⟨rfl, rfl, (Nat.le_of_ble_eq_true rfl), (Nat.le_of_ble_eq_true rfl)⟩ hP hD hK hS xn [1, 0, 2] [1, 0, 2] [3, 4] [0, 1] [2, 3] rfl (by decide) rfl rfl (by decide) (by decide) rfl rfl (va_free hD hS hA [1, 0, 2] rfl) (va_free hD hS hA [1, 0, 2] rfl) 1 rfl rfl rfl hl.1 rfl (Nat.le_of_ble_eq_true rfl) dX6_bitsOf_37 ⟨(Nat.le_of_ble_eq_true rfl), (Nat.le_of_ble_eq_true rfl)⟩ (fun u H locs hφ hP hD hK hS hk => ?_)
  obtain ⟨y1_2, rfl⟩ : ∃ z, z = u := ⟨_, rfl⟩
  have hP : va_P D vwCl [(h3, .inl (a2, 48, .inl f2)), (h4, .inl (a3, 48, .inl f3)), (h0, .inr (6, [v0, .ref h1, .ref h2, v1, v2, .ref h4, .ref h3, .int 2, .int 2, v3, v4, v5, v6, v7, v8, v9, v10, v11, v12, v13, v14, v15, v16, v17, v18, v19, v20])), (h2, .inl (a1, 609, .inr (.inl y1_1))), (h1, .inl (a0, 609, .inr (.inl y1_2)))] H := hP
  have hD : va_D A [(h3, .inl (a2, 48, .inl f2)), (h4, .inl (a3, 48, .inl f3)), (h0, .inr (6, [v0, .ref h1, .ref h2, v1, v2, .ref h4, .ref h3, .int 2, .int 2, v3, v4, v5, v6, v7, v8, v9, v10, v11, v12, v13, v14, v15, v16, v17, v18, v19, v20])), (h2, .inl (a1, 609, .inr (.inl y1_1))), (h1, .inl (a0, 609, .inr (.inl y1_2)))] := hD
  have hK : va_K D vwCl [(a2, .int), (a3, .int), (a1, .long), (a0, .long)] s := hK
  refine W.widen (k := 0) (n := 0) (Nat.le_of_ble_eq_true rfl) (Nat.le_of_ble_eq_true rfl) ?_
  refine lv_iload_n hx hb dX6_bitsOf_40 rfl (lv_at hl 0 rfl) ?_
  exact fi hx hb hr hlocks hP hD hK hS ((y1_2, y1_1)) trivial rfl [2, 4, 3, 0, 1] [3, 2, 0, 1] rfl (by decide) rfl (Nat.le_of_ble_eq_true rfl) (Nat.le_of_ble_eq_true rfl) dX6_bitsOf_41
set_option maxHeartbeats 4000000 in
set_option maxRecDepth 100000 in
theorem cX6_bitsBy_264 (l : Launch) (D : va_G) (h0 : Nat) (h1 : Nat) (h2 : Nat) (h3 : Nat) (h4 : Nat) (v0 : Value) (v1 : Value) (v2 : Value) (v3 : Value) (v4 : Value) (v5 : Value) (v6 : Value) (v7 : Value) (v8 : Value) (v9 : Value) (v10 : Value) (v11 : Value) (v12 : Value) (v13 : Value) (v14 : Value) (v15 : Value) (v16 : Value) (v17 : Value) (v18 : Value) (v19 : Value) (v20 : Value) (f0 : Nat → Int64) (f1 : Nat → Int64) (f2 : Nat → Int32) (f3 : Nat → Int32) (a0 : ClassId) (a1 : ClassId) (a2 : ClassId) (a3 : ClassId) (ef2_0 : f2 0 = 0) (ef2_1 : f2 1 = 0) (ef3_0 : f3 0 = 0) (ef3_1 : f3 1 = 1)  : CT l yX6_bitsBy cX6_bitsBy 3 (some .int) { frames := 5, cells := 0, slots := 0, locals := 108 } [.ref h0, .int 0, .int 1] D [(h0, .inr (6, [v0, .ref h1, .ref h2, v1, v2, .ref h4, .ref h3, .int 2, .int 2, v3, v4, v5, v6, v7, v8, v9, v10, v11, v12, v13, v14, v15, v16, v17, v18, v19, v20])), (h1, .inl (a0, 609, .inr (.inl f0))), (h2, .inl (a1, 609, .inr (.inl f1))), (h3, .inl (a2, 48, .inl f2)), (h4, .inl (a3, 48, .inl f3))] [(a0, .long), (a1, .long), (a2, .int), (a3, .int)] XN [(h0, .inr (6, [v0, .ref h1, .ref h2, v1, v2, .ref h4, .ref h3, .int 2, .int 2, v3, v4, v5, v6, v7, v8, v9, v10, v11, v12, v13, v14, v15, v16, v17, v18, v19, v20])), (h1, .inl (a0, 609, .inr (.inl f0))), (h2, .inl (a1, 609, .inr (.inl f1))), (h3, .inl (a2, 48, .inl f2)), (h4, .inl (a3, 48, .inl f3))] (ei (fun _ : (Nat → Int64) × (Nat → Int64) => True) (fun u => 0) (fun u => [(h0, .inr (6, [.int 0, .ref h1, .ref h2, v1, v2, .ref h4, .ref h3, .int 2, .int 2, v3, v4, v5, v6, v7, v8, v9, v10, v11, v12, v13, v14, v15, v16, v17, v18, v19, v20])), (h1, .inl (a0, 609, .inr (.inl u.1))), (h2, .inl (a1, 609, .inr (.inl u.2))), (h3, .inl (a2, 48, .inl f2)), (h4, .inl (a3, 48, .inl f3))]) (fun u => [(a0, .long), (a1, .long), (a2, .int), (a3, .int)]) D) 0 0 := by
  refine CT.ofW (by decide +kernel) (Nat.le_of_ble_eq_true rfl) ?_
  intro p e s m below meth c A ls hcs hP hK hD hX hA hS hl
  obtain ⟨hx, hb, hr, hml, hown, hg, hlocks, hin⟩ := hcs
  have hown : s.vm.findClass RX6 = some m.cls := hown
  have hl : lv_has ls 3 [(0, .ref h0), (1, .int 0), (2, .int 1)] := hl
  refine lv_aload_n hx hb dX6_bitsBy_0 rfl (lv_at hl 0 rfl) ?_
  refine lv_iload_n hx hb dX6_bitsBy_1 rfl (lv_at hl 1 rfl) ?_
  refine lv_i2l (v := 0) hx hb dX6_bitsBy_2 (by decide) ?_
  refine lv_lconst (v := 0) hx hb dX6_bitsBy_3 (by decide) ?_
  refine lv_ldc2 hx hb hown (hg _ k1510) dX6_bitsBy_4 ?_
  refine cSi (n := 3) (As := [.long 0, .long 0, .long 2]) (rest := [.ref h0]) (wr := [(h0, .inr (6, [v0, .ref h1, .ref h2, v1, v2, .ref h4, .ref h3, .int 2, .int 2, v3, v4, v5, v6, v7, v8, v9, v10, v11, v12, v13, v14, v15, v16, v17, v18, v19, v20])), (h1, .inl (a0, 609, .inr (.inl f0))), (h2, .inl (a1, 609, .inr (.inl f1))), (h3, .inl (a2, 48, .inl f2)), (h4, .inl (a3, 48, .inl f3))]) (tr := [(a0, .long), (a1, .long), (a2, .int), (a3, .int)]) hx hb hml hown hg okN (cX6_in_143 l D) (mwS k1317 k1318 k92 k1319) ⟨rfl, by decide, by decide, by decide +kernel⟩ ⟨rfl, rfl, (Nat.le_of_ble_eq_true rfl), (Nat.le_of_ble_eq_true rfl)⟩ hP hD hK hS xn [] [] [0, 1, 2, 3, 4] [] [0, 1, 2, 3] rfl (by decide) rfl rfl (by decide) (by decide) rfl rfl (aNil hA hS) (aNil hA hS) rfl hl.1 rfl (Nat.le_of_ble_eq_true rfl) dX6_bitsBy_7 ⟨(Nat.le_of_ble_eq_true rfl), (Nat.le_of_ble_eq_true rfl)⟩ (fun u H locs hφ hP hD hK hS hk => ?_)
  have hP : va_P D vwCl [(h0, .inr (6, [v0, .ref h1, .ref h2, v1, v2, .ref h4, .ref h3, .int 2, .int 2, v3, v4, v5, v6, v7, v8, v9, v10, v11, v12, v13, v14, v15, v16, v17, v18, v19, v20])), (h1, .inl (a0, 609, .inr (.inl f0))), (h2, .inl (a1, 609, .inr (.inl f1))), (h3, .inl (a2, 48, .inl f2)), (h4, .inl (a3, 48, .inl f3))] H := hP
  have hD : va_D A [(h0, .inr (6, [v0, .ref h1, .ref h2, v1, v2, .ref h4, .ref h3, .int 2, .int 2, v3, v4, v5, v6, v7, v8, v9, v10, v11, v12, v13, v14, v15, v16, v17, v18, v19, v20])), (h1, .inl (a0, 609, .inr (.inl f0))), (h2, .inl (a1, 609, .inr (.inl f1))), (h3, .inl (a2, 48, .inl f2)), (h4, .inl (a3, 48, .inl f3))] := hD
  have hK : va_K D vwCl [(a0, .long), (a1, .long), (a2, .int), (a3, .int)] s := hK
  refine W.widen (k := 0) (n := 0) (Nat.le_of_ble_eq_true rfl) (Nat.le_of_ble_eq_true rfl) ?_
  refine lv_if_eq (tgt := 29) hx hb dX6_bitsBy_10 (by decide) (fun c9 => absurd c9 (by decide)) (fun _ => ?_)
  refine lv_iload_n hx hb dX6_bitsBy_13 rfl (lv_at hl 2 rfl) ?_
  refine lv_i2l (v := 1) hx hb dX6_bitsBy_14 (by decide) ?_
  refine lv_lconst (v := 0) hx hb dX6_bitsBy_15 (by decide) ?_
  refine lv_ldc2 hx hb hown (hg _ k1510) dX6_bitsBy_16 ?_
  refine cSi (n := 3) (As := [.long 1, .long 0, .long 2]) (rest := [.ref h0]) (wr := [(h0, .inr (6, [v0, .ref h1, .ref h2, v1, v2, .ref h4, .ref h3, .int 2, .int 2, v3, v4, v5, v6, v7, v8, v9, v10, v11, v12, v13, v14, v15, v16, v17, v18, v19, v20])), (h1, .inl (a0, 609, .inr (.inl f0))), (h2, .inl (a1, 609, .inr (.inl f1))), (h3, .inl (a2, 48, .inl f2)), (h4, .inl (a3, 48, .inl f3))]) (tr := [(a0, .long), (a1, .long), (a2, .int), (a3, .int)]) hx hb hml hown hg okN (cX6_in_146 l D) (mwS k1317 k1318 k92 k1319) ⟨rfl, by decide, by decide, by decide +kernel⟩ ⟨rfl, rfl, (Nat.le_of_ble_eq_true rfl), (Nat.le_of_ble_eq_true rfl)⟩ hP hD hK hS xn [] [] [0, 1, 2, 3, 4] [] [0, 1, 2, 3] rfl (by decide) rfl rfl (by decide) (by decide) rfl rfl (aNil hA hS) (aNil hA hS) rfl hl.1 rfl (Nat.le_of_ble_eq_true rfl) dX6_bitsBy_19 ⟨(Nat.le_of_ble_eq_true rfl), (Nat.le_of_ble_eq_true rfl)⟩ (fun u H locs hφ hP hD hK hS hk => ?_)
  have hP : va_P D vwCl [(h0, .inr (6, [v0, .ref h1, .ref h2, v1, v2, .ref h4, .ref h3, .int 2, .int 2, v3, v4, v5, v6, v7, v8, v9, v10, v11, v12, v13, v14, v15, v16, v17, v18, v19, v20])), (h1, .inl (a0, 609, .inr (.inl f0))), (h2, .inl (a1, 609, .inr (.inl f1))), (h3, .inl (a2, 48, .inl f2)), (h4, .inl (a3, 48, .inl f3))] H := hP
  have hD : va_D A [(h0, .inr (6, [v0, .ref h1, .ref h2, v1, v2, .ref h4, .ref h3, .int 2, .int 2, v3, v4, v5, v6, v7, v8, v9, v10, v11, v12, v13, v14, v15, v16, v17, v18, v19, v20])), (h1, .inl (a0, 609, .inr (.inl f0))), (h2, .inl (a1, 609, .inr (.inl f1))), (h3, .inl (a2, 48, .inl f2)), (h4, .inl (a3, 48, .inl f3))] := hD
  have hK : va_K D vwCl [(a0, .long), (a1, .long), (a2, .int), (a3, .int)] s := hK
  refine W.widen (k := 0) (n := 0) (Nat.le_of_ble_eq_true rfl) (Nat.le_of_ble_eq_true rfl) ?_
  refine lv_if_eq (tgt := 29) hx hb dX6_bitsBy_22 (by decide) (fun c9 => absurd c9 (by decide)) (fun _ => ?_)
  refine lv_iconst (v := 0) hx hb dX6_bitsBy_25 (by decide) ?_
  refine lv_goto (tgt := 30) hx hb dX6_bitsBy_26 (by decide) ?_
  refine va_put (D := D) (ci := 6) (v := .int 0) (ty := .int) (C := RX6) (T := TX6) (N := 27) hx hb hg inX6 tyX6 tyX6_ok nmX6 hown hK hP hD hS 0 rfl rfl 0 (by decide) (hg _ k1219) (fun _ h9 => h9) rfl (by decide +kernel) rfl rfl (Nat.le_of_ble_eq_true rfl) dX6_bitsBy_30 (fun H locs hP hD hS => ?_)
  have hP : va_P D vwCl [(h0, .inr (6, [.int 0, .ref h1, .ref h2, v1, v2, .ref h4, .ref h3, .int 2, .int 2, v3, v4, v5, v6, v7, v8, v9, v10, v11, v12, v13, v14, v15, v16, v17, v18, v19, v20])), (h1, .inl (a0, 609, .inr (.inl f0))), (h2, .inl (a1, 609, .inr (.inl f1))), (h3, .inl (a2, 48, .inl f2)), (h4, .inl (a3, 48, .inl f3))] H := hP
  have hD : va_D A [(h0, .inr (6, [.int 0, .ref h1, .ref h2, v1, v2, .ref h4, .ref h3, .int 2, .int 2, v3, v4, v5, v6, v7, v8, v9, v10, v11, v12, v13, v14, v15, v16, v17, v18, v19, v20])), (h1, .inl (a0, 609, .inr (.inl f0))), (h2, .inl (a1, 609, .inr (.inl f1))), (h3, .inl (a2, 48, .inl f2)), (h4, .inl (a3, 48, .inl f3))] := hD
  refine lv_aload_n hx hb dX6_bitsBy_33 rfl (lv_at hl 0 rfl) ?_
  refine va_get (D := D) (ci := 6) (v := .int 0) (C := RX6) (T := TX6) (N := 27) hx hb hg inX6 hown hK hP 0 rfl rfl 0 (by decide) (hg _ k1219) (fun _ h9 => h9) rfl dX6_bitsBy_34 ?_
  refine lv_if_le (tgt := 44) hx hb dX6_bitsBy_37 (by decide) (fun _ => ?_) (fun c9 => absurd (by decide) c9)
  refine lv_aload_n hx hb dX6_bitsBy_44 rfl (lv_at hl 0 rfl) ?_
  refine lv_iload_n hx hb dX6_bitsBy_45 rfl (lv_at hl 1 rfl) ?_
  refine lv_iload_n hx hb dX6_bitsBy_46 rfl (lv_at hl 2 rfl) ?_
  refine cVi (n := 2) (As := [.int 0, .int 1]) (rest := []) (wr := []) (tr := []) hx hb hml hown hg okN (cX6_bitsOf_265 l D h0 h1 h2 h3 h4 (.int 0) v1 v2 v3 v4 v5 v6 v7 v8 v9 v10 v11 v12 v13 v14 v15 v16 v17 v18 v19 v20 f0 f1 f2 f3 a0 a1 a2 a3 ef2_0 ef2_1 ef3_0 ef3_1) (mwV k1674 k1676 k82 k92 k1677) ⟨rfl, by decide, by decide, by decide +kernel⟩ ⟨rfl, rfl, (Nat.le_of_ble_eq_true rfl), (Nat.le_of_ble_eq_true rfl)⟩ hP hD hK hS xn [0, 1, 2, 3, 4] [0, 1, 2, 3, 4] [] [0, 1, 2, 3] [] rfl (by decide) rfl rfl (by decide) (by decide) rfl rfl (va_free hD hS hA [0, 1, 2, 3, 4] rfl) (va_free hD hS hA [0, 1, 2, 3, 4] rfl) 0 rfl rfl rfl hl.1 rfl (Nat.le_of_ble_eq_true rfl) dX6_bitsBy_47 ⟨(Nat.le_of_ble_eq_true rfl), (Nat.le_of_ble_eq_true rfl)⟩ (fun u H locs hφ hP hD hK hS hk => ?_)
  obtain ⟨y0_1, y0_2⟩ := u
  have hP : va_P D vwCl [(h0, .inr (6, [.int 0, .ref h1, .ref h2, v1, v2, .ref h4, .ref h3, .int 2, .int 2, v3, v4, v5, v6, v7, v8, v9, v10, v11, v12, v13, v14, v15, v16, v17, v18, v19, v20])), (h1, .inl (a0, 609, .inr (.inl y0_1))), (h2, .inl (a1, 609, .inr (.inl y0_2))), (h3, .inl (a2, 48, .inl f2)), (h4, .inl (a3, 48, .inl f3))] H := hP
  have hD : va_D A [(h0, .inr (6, [.int 0, .ref h1, .ref h2, v1, v2, .ref h4, .ref h3, .int 2, .int 2, v3, v4, v5, v6, v7, v8, v9, v10, v11, v12, v13, v14, v15, v16, v17, v18, v19, v20])), (h1, .inl (a0, 609, .inr (.inl y0_1))), (h2, .inl (a1, 609, .inr (.inl y0_2))), (h3, .inl (a2, 48, .inl f2)), (h4, .inl (a3, 48, .inl f3))] := hD
  have hK : va_K D vwCl [(a0, .long), (a1, .long), (a2, .int), (a3, .int)] s := hK
  refine W.widen (k := 0) (n := 0) (Nat.le_of_ble_eq_true rfl) (Nat.le_of_ble_eq_true rfl) ?_
  exact fi hx hb hr hlocks hP hD hK hS ((y0_1, y0_2)) trivial rfl [0, 1, 2, 3, 4] [0, 1, 2, 3] rfl (by decide) rfl (Nat.le_of_ble_eq_true rfl) (Nat.le_of_ble_eq_true rfl) dX6_bitsBy_50
set_option maxHeartbeats 4000000 in
set_option maxRecDepth 100000 in
theorem cX6_bitsOf_267 (l : Launch) (D : va_G) (h0 : Nat) (h1 : Nat) (h2 : Nat) (h3 : Nat) (h4 : Nat) (v0 : Value) (v1 : Value) (v2 : Value) (v3 : Value) (v4 : Value) (v5 : Value) (v6 : Value) (v7 : Value) (v8 : Value) (v9 : Value) (v10 : Value) (v11 : Value) (v12 : Value) (v13 : Value) (v14 : Value) (v15 : Value) (v16 : Value) (v17 : Value) (v18 : Value) (v19 : Value) (v20 : Value) (f0 : Nat → Int64) (f1 : Nat → Int64) (f2 : Nat → Int32) (f3 : Nat → Int32) (a0 : ClassId) (a1 : ClassId) (a2 : ClassId) (a3 : ClassId) (ef2_0 : f2 0 = 0) (ef2_1 : f2 1 = 0) (ef3_0 : f3 0 = 0) (ef3_1 : f3 1 = 1)  : CT l yX6_bitsOf cX6_bitsOf 4 (some .int) { frames := 4, cells := 0, slots := 0, locals := 85 } [.ref h0, .int 0, .int 2] D [(h0, .inr (6, [v0, .ref h1, .ref h2, v1, v2, .ref h4, .ref h3, .int 2, .int 2, v3, v4, v5, v6, v7, v8, v9, v10, v11, v12, v13, v14, v15, v16, v17, v18, v19, v20])), (h1, .inl (a0, 609, .inr (.inl f0))), (h2, .inl (a1, 609, .inr (.inl f1))), (h3, .inl (a2, 48, .inl f2)), (h4, .inl (a3, 48, .inl f3))] [(a0, .long), (a1, .long), (a2, .int), (a3, .int)] XN [(h0, .inr (6, [v0, .ref h1, .ref h2, v1, v2, .ref h4, .ref h3, .int 2, .int 2, v3, v4, v5, v6, v7, v8, v9, v10, v11, v12, v13, v14, v15, v16, v17, v18, v19, v20])), (h1, .inl (a0, 609, .inr (.inl f0))), (h2, .inl (a1, 609, .inr (.inl f1))), (h3, .inl (a2, 48, .inl f2)), (h4, .inl (a3, 48, .inl f3))] (ei (fun _ : (Nat → Int64) × (Nat → Int64) => True) (fun u => 0) (fun u => [(h0, .inr (6, [v0, .ref h1, .ref h2, v1, v2, .ref h4, .ref h3, .int 2, .int 2, v3, v4, v5, v6, v7, v8, v9, v10, v11, v12, v13, v14, v15, v16, v17, v18, v19, v20])), (h1, .inl (a0, 609, .inr (.inl u.1))), (h2, .inl (a1, 609, .inr (.inl u.2))), (h3, .inl (a2, 48, .inl f2)), (h4, .inl (a3, 48, .inl f3))]) (fun u => [(a0, .long), (a1, .long), (a2, .int), (a3, .int)]) D) 0 0 := by
  refine CT.ofW (by decide +kernel) (Nat.le_of_ble_eq_true rfl) ?_
  intro p e s m below meth c A ls hcs hP hK hD hX hA hS hl
  obtain ⟨hx, hb, hr, hml, hown, hg, hlocks, hin⟩ := hcs
  have hown : s.vm.findClass RX6 = some m.cls := hown
  have hl : lv_has ls 4 [(0, .ref h0), (1, .int 0), (2, .int 2)] := hl
  refine lv_aload_n hx hb dX6_bitsOf_0 rfl (lv_at hl 0 rfl) ?_
  refine cVv (n := 0) (As := []) (rest := []) (wr := [(h3, .inl (a2, 48, .inl f2)), (h4, .inl (a3, 48, .inl f3))]) (tr := [(a2, .int), (a3, .int)]) hx hb hml hown hg okN (cX6_puts_234 l D h0 h1 h2 v0 v1 v2 (.ref h4) (.ref h3) (.int 2) (.int 2) v3 v4 v5 v6 v7 v8 v9 v10 v11 v12 v13 v14 v15 v16 v17 v18 v19 v20 f0 f1 a0 a1) (mwV k1646 k1648 k78 k92 k1649) ⟨rfl, by decide, by decide, by decide +kernel⟩ ⟨rfl, rfl, (Nat.le_of_ble_eq_true rfl), (Nat.le_of_ble_eq_true rfl)⟩ hP hD hK hS xn [0, 1, 2] [0, 1, 2] [3, 4] [0, 1] [2, 3] rfl (by decide) rfl rfl (by decide) (by decide) rfl rfl (va_free hD hS hA [0, 1, 2] rfl) (va_free hD hS hA [0, 1, 2] rfl) 0 rfl rfl rfl hl.1 rfl (Nat.le_of_ble_eq_true rfl) dX6_bitsOf_1 ⟨(Nat.le_of_ble_eq_true rfl), (Nat.le_of_ble_eq_true rfl)⟩ (fun u H locs hφ hP hD hK hS hk => ?_)
  obtain ⟨y1_1, rfl⟩ : ∃ z, z = u := ⟨_, rfl⟩
  have hP : va_P D vwCl [(h3, .inl (a2, 48, .inl f2)), (h4, .inl (a3, 48, .inl f3)), (h0, .inr (6, [v0, .ref h1, .ref h2, v1, v2, .ref h4, .ref h3, .int 2, .int 2, v3, v4, v5, v6, v7, v8, v9, v10, v11, v12, v13, v14, v15, v16, v17, v18, v19, v20])), (h1, .inl (a0, 609, .inr (.inl f0))), (h2, .inl (a1, 609, .inr (.inl y1_1)))] H := hP
  have hD : va_D A [(h3, .inl (a2, 48, .inl f2)), (h4, .inl (a3, 48, .inl f3)), (h0, .inr (6, [v0, .ref h1, .ref h2, v1, v2, .ref h4, .ref h3, .int 2, .int 2, v3, v4, v5, v6, v7, v8, v9, v10, v11, v12, v13, v14, v15, v16, v17, v18, v19, v20])), (h1, .inl (a0, 609, .inr (.inl f0))), (h2, .inl (a1, 609, .inr (.inl y1_1)))] := hD
  have hK : va_K D vwCl [(a2, .int), (a3, .int), (a0, .long), (a1, .long)] s := hK
  refine W.widen (k := 0) (n := 0) (Nat.le_of_ble_eq_true rfl) (Nat.le_of_ble_eq_true rfl) ?_
  refine lv_aload_n hx hb dX6_bitsOf_4 rfl (lv_at hl 0 rfl) ?_
  refine va_get (D := D) (ci := 6) (v := .ref h1) (C := RX6) (T := TX6) (N := 27) hx hb hg inX6 hown hK hP 2 rfl rfl 1 (by decide) (hg _ k1220) (fun _ h9 => h9) rfl dX6_bitsOf_5 ?_
  refine lv_iconst (v := 0) hx hb dX6_bitsOf_8 (by decide) ?_
  refine lv_iload_n hx hb dX6_bitsOf_9 rfl (lv_at hl 1 rfl) ?_
  refine lv_i2l (v := 0) hx hb dX6_bitsOf_10 (by decide) ?_
  refine astL hx hb hK hP hD hS 3 2 rfl rfl 0 (by decide) (vin (by decide)) dX6_bitsOf_11 (fun H locs hP hD hS => ?_)
  have hP : va_P D vwCl [(h3, .inl (a2, 48, .inl f2)), (h4, .inl (a3, 48, .inl f3)), (h0, .inr (6, [v0, .ref h1, .ref h2, v1, v2, .ref h4, .ref h3, .int 2, .int 2, v3, v4, v5, v6, v7, v8, v9, v10, v11, v12, v13, v14, v15, v16, v17, v18, v19, v20])), (h1, .inl (a0, 609, .inr (.inl (vp_updL f0 0 0)))), (h2, .inl (a1, 609, .inr (.inl y1_1)))] H := hP
  have hD : va_D A [(h3, .inl (a2, 48, .inl f2)), (h4, .inl (a3, 48, .inl f3)), (h0, .inr (6, [v0, .ref h1, .ref h2, v1, v2, .ref h4, .ref h3, .int 2, .int 2, v3, v4, v5, v6, v7, v8, v9, v10, v11, v12, v13, v14, v15, v16, v17, v18, v19, v20])), (h1, .inl (a0, 609, .inr (.inl (vp_updL f0 0 0)))), (h2, .inl (a1, 609, .inr (.inl y1_1)))] := hD
  refine lv_aload_n hx hb dX6_bitsOf_12 rfl (lv_at hl 0 rfl) ?_
  refine va_get (D := D) (ci := 6) (v := .ref h1) (C := RX6) (T := TX6) (N := 27) hx hb hg inX6 hown hK hP 2 rfl rfl 1 (by decide) (hg _ k1220) (fun _ h9 => h9) rfl dX6_bitsOf_13 ?_
  refine lv_iconst (v := 1) hx hb dX6_bitsOf_16 (by decide) ?_
  refine lv_iload_n hx hb dX6_bitsOf_17 rfl (lv_at hl 2 rfl) ?_
  refine lv_i2l (v := 2) hx hb dX6_bitsOf_18 (by decide) ?_
  refine astL hx hb hK hP hD hS 3 2 rfl rfl 1 (by decide) (vin (by decide)) dX6_bitsOf_19 (fun H locs hP hD hS => ?_)
  have hP : va_P D vwCl [(h3, .inl (a2, 48, .inl f2)), (h4, .inl (a3, 48, .inl f3)), (h0, .inr (6, [v0, .ref h1, .ref h2, v1, v2, .ref h4, .ref h3, .int 2, .int 2, v3, v4, v5, v6, v7, v8, v9, v10, v11, v12, v13, v14, v15, v16, v17, v18, v19, v20])), (h1, .inl (a0, 609, .inr (.inl (vp_updL (vp_updL f0 0 0) 1 2)))), (h2, .inl (a1, 609, .inr (.inl y1_1)))] H := hP
  have hD : va_D A [(h3, .inl (a2, 48, .inl f2)), (h4, .inl (a3, 48, .inl f3)), (h0, .inr (6, [v0, .ref h1, .ref h2, v1, v2, .ref h4, .ref h3, .int 2, .int 2, v3, v4, v5, v6, v7, v8, v9, v10, v11, v12, v13, v14, v15, v16, v17, v18, v19, v20])), (h1, .inl (a0, 609, .inr (.inl (vp_updL (vp_updL f0 0 0) 1 2)))), (h2, .inl (a1, 609, .inr (.inl y1_1)))] := hD
  refine lv_aload_n hx hb dX6_bitsOf_20 rfl (lv_at hl 0 rfl) ?_
  refine cVv (n := 0) (As := []) (rest := []) (wr := [(h2, .inl (a1, 609, .inr (.inl y1_1)))]) (tr := [(a1, .long)]) hx hb hml hown hg okN (cX6_anew_186 l D h0 h1 h3 h4 v0 (.ref h2) v1 v2 (.int 2) v3 v4 v5 v6 v7 v8 v9 v10 v11 v12 v13 v14 v15 v16 v17 v18 v19 v20 (vp_updL (vp_updL f0 0 0) 1 2) f2 f3 a0 a2 a3 ef2_0 ef2_1 ef3_0 ef3_1) (mwV k1214 k1216 k35 k92 k1217) ⟨rfl, by decide, by decide, by decide +kernel⟩ ⟨rfl, rfl, (Nat.le_of_ble_eq_true rfl), (Nat.le_of_ble_eq_true rfl)⟩ hP hD hK hS xn [2, 3, 0, 1] [2, 3, 0, 1] [4] [2, 0, 1] [3] rfl (by decide) rfl rfl (by decide) (by decide) rfl rfl (va_free hD hS hA [2, 3, 0, 1] rfl) (va_free hD hS hA [2, 3, 0, 1] rfl) 2 rfl rfl rfl hl.1 rfl (Nat.le_of_ble_eq_true rfl) dX6_bitsOf_21 ⟨(Nat.le_of_ble_eq_true rfl), (Nat.le_of_ble_eq_true rfl)⟩ (fun u H locs hφ hP hD hK hS hk => ?_)
  have hP : va_P D vwCl [(h2, .inl (a1, 609, .inr (.inl y1_1))), (h0, .inr (6, [v0, .ref h1, .ref h2, v1, v2, .ref h4, .ref h3, .int 2, .int 2, v3, v4, v5, v6, v7, v8, v9, v10, v11, v12, v13, v14, v15, v16, v17, v18, v19, v20])), (h1, .inl (a0, 609, .inr (.inl (vp_updL (vp_updL (vp_updL (vp_updL (vp_updL (vp_updL (vp_updL (vp_updL (vp_updL (vp_updL f0 0 0) 1 2) 3 0) 4 0) 5 0) 53 1) 101 (-1)) 6 0) 54 1) 102 (-1))))), (h3, .inl (a2, 48, .inl f2)), (h4, .inl (a3, 48, .inl f3))] H := hP
  have hD : va_D A [(h2, .inl (a1, 609, .inr (.inl y1_1))), (h0, .inr (6, [v0, .ref h1, .ref h2, v1, v2, .ref h4, .ref h3, .int 2, .int 2, v3, v4, v5, v6, v7, v8, v9, v10, v11, v12, v13, v14, v15, v16, v17, v18, v19, v20])), (h1, .inl (a0, 609, .inr (.inl (vp_updL (vp_updL (vp_updL (vp_updL (vp_updL (vp_updL (vp_updL (vp_updL (vp_updL (vp_updL f0 0 0) 1 2) 3 0) 4 0) 5 0) 53 1) 101 (-1)) 6 0) 54 1) 102 (-1))))), (h3, .inl (a2, 48, .inl f2)), (h4, .inl (a3, 48, .inl f3))] := hD
  have hK : va_K D vwCl [(a1, .long), (a0, .long), (a2, .int), (a3, .int)] s := hK
  refine W.widen (k := 0) (n := 0) (Nat.le_of_ble_eq_true rfl) (Nat.le_of_ble_eq_true rfl) ?_
  refine lv_aload_n hx hb dX6_bitsOf_24 rfl (lv_at hl 0 rfl) ?_
  refine lv_bipush (v := 46) hx hb dX6_bitsOf_25 (by decide) ?_
  refine cVi (n := 1) (As := [.int 46]) (rest := []) (wr := [(h2, .inl (a1, 609, .inr (.inl y1_1))), (h0, .inr (6, [v0, .ref h1, .ref h2, v1, v2, .ref h4, .ref h3, .int 2, .int 2, v3, v4, v5, v6, v7, v8, v9, v10, v11, v12, v13, v14, v15, v16, v17, v18, v19, v20])), (h1, .inl (a0, 609, .inr (.inl (vp_updL (vp_updL (vp_updL (vp_updL (vp_updL (vp_updL (vp_updL (vp_updL (vp_updL (vp_updL f0 0 0) 1 2) 3 0) 4 0) 5 0) 53 1) 101 (-1)) 6 0) 54 1) 102 (-1))))), (h3, .inl (a2, 48, .inl f2)), (h4, .inl (a3, 48, .inl f3))]) (tr := [(a1, .long), (a0, .long), (a2, .int), (a3, .int)]) hx hb hml hown hg okN (cX6_goesOn_263 l D h0 h1 v0 (.ref h2) v1 v2 (.ref h4) (.ref h3) v3 v4 v5 v6 v7 v8 v9 v10 v11 v12 v13 v14 v15 v16 v17 v18 v19 v20 (vp_updL (vp_updL (vp_updL (vp_updL (vp_updL (vp_updL (vp_updL (vp_updL (vp_updL (vp_updL f0 0 0) 1 2) 3 0) 4 0) 5 0) 53 1) 101 (-1)) 6 0) 54 1) 102 (-1)) a0 rfl) (mwV k1588 k1590 k71 k92 k1591) ⟨rfl, by decide, by decide, by decide +kernel⟩ ⟨rfl, rfl, (Nat.le_of_ble_eq_true rfl), (Nat.le_of_ble_eq_true rfl)⟩ hP hD hK hS xn [1, 2] [] [0, 1, 2, 3, 4] [1] [0, 1, 2, 3] rfl (by decide) rfl rfl (by decide) (by decide) rfl rfl (aNil hA hS) (aNil hA hS) 1 rfl rfl rfl hl.1 rfl (Nat.le_of_ble_eq_true rfl) dX6_bitsOf_27 ⟨(Nat.le_of_ble_eq_true rfl), (Nat.le_of_ble_eq_true rfl)⟩ (fun u H locs hφ hP hD hK hS hk => ?_)
  have hP : va_P D vwCl [(h2, .inl (a1, 609, .inr (.inl y1_1))), (h0, .inr (6, [v0, .ref h1, .ref h2, v1, v2, .ref h4, .ref h3, .int 2, .int 2, v3, v4, v5, v6, v7, v8, v9, v10, v11, v12, v13, v14, v15, v16, v17, v18, v19, v20])), (h1, .inl (a0, 609, .inr (.inl (vp_updL (vp_updL (vp_updL (vp_updL (vp_updL (vp_updL (vp_updL (vp_updL (vp_updL (vp_updL f0 0 0) 1 2) 3 0) 4 0) 5 0) 53 1) 101 (-1)) 6 0) 54 1) 102 (-1))))), (h3, .inl (a2, 48, .inl f2)), (h4, .inl (a3, 48, .inl f3))] H := hP
  have hD : va_D A [(h2, .inl (a1, 609, .inr (.inl y1_1))), (h0, .inr (6, [v0, .ref h1, .ref h2, v1, v2, .ref h4, .ref h3, .int 2, .int 2, v3, v4, v5, v6, v7, v8, v9, v10, v11, v12, v13, v14, v15, v16, v17, v18, v19, v20])), (h1, .inl (a0, 609, .inr (.inl (vp_updL (vp_updL (vp_updL (vp_updL (vp_updL (vp_updL (vp_updL (vp_updL (vp_updL (vp_updL f0 0 0) 1 2) 3 0) 4 0) 5 0) 53 1) 101 (-1)) 6 0) 54 1) 102 (-1))))), (h3, .inl (a2, 48, .inl f2)), (h4, .inl (a3, 48, .inl f3))] := hD
  have hK : va_K D vwCl [(a1, .long), (a0, .long), (a2, .int), (a3, .int)] s := hK
  refine W.widen (k := 0) (n := 0) (Nat.le_of_ble_eq_true rfl) (Nat.le_of_ble_eq_true rfl) ?_
  refine lv_istore_n (lv' := [(3, .int 0), (0, .ref h0), (1, .int 0), (2, .int 2)]) hx hb dX6_bitsOf_30 rfl hl (by decide) rfl (fun ls hl => ?_)
  refine lv_aload_n hx hb dX6_bitsOf_31 rfl (lv_at hl 1 rfl) ?_
  refine cVi (n := 0) (As := []) (rest := []) (wr := [(h2, .inl (a1, 609, .inr (.inl y1_1))), (h0, .inr (6, [v0, .ref h1, .ref h2, v1, v2, .ref h4, .ref h3, .int 2, .int 2, v3, v4, v5, v6, v7, v8, v9, v10, v11, v12, v13, v14, v15, v16, v17, v18, v19, v20])), (h1, .inl (a0, 609, .inr (.inl (vp_updL (vp_updL (vp_updL (vp_updL (vp_updL (vp_updL (vp_updL (vp_updL (vp_updL (vp_updL f0 0 0) 1 2) 3 0) 4 0) 5 0) 53 1) 101 (-1)) 6 0) 54 1) 102 (-1))))), (h3, .inl (a2, 48, .inl f2)), (h4, .inl (a3, 48, .inl f3))]) (tr := [(a1, .long), (a0, .long), (a2, .int), (a3, .int)]) hx hb hml hown hg okN (cX6_bitsNow_133 l D h0 h1 v0 (.ref h2) v1 v2 (.ref h4) (.ref h3) (.int 2) (.int 2) v3 v4 v5 v6 v7 v8 v9 v10 v11 v12 v13 v14 v15 v16 v17 v18 v19 v20 (vp_updL (vp_updL (vp_updL (vp_updL (vp_updL (vp_updL (vp_updL (vp_updL (vp_updL (vp_updL f0 0 0) 1 2) 3 0) 4 0) 5 0) 53 1) 101 (-1)) 6 0) 54 1) 102 (-1)) a0 rfl) (mwV k1506 k1508 k61 k92 k1509) ⟨rfl, by decide, by decide, by decide +kernel⟩ ⟨rfl, rfl, (Nat.le_of_ble_eq_true rfl), (Nat.le_of_ble_eq_true rfl)⟩ hP hD hK hS xn [1, 2] [] [0, 1, 2, 3, 4] [1] [0, 1, 2, 3] rfl (by decide) rfl rfl (by decide) (by decide) rfl rfl (aNil hA hS) (aNil hA hS) 1 rfl rfl rfl hl.1 rfl (Nat.le_of_ble_eq_true rfl) dX6_bitsOf_32 ⟨(Nat.le_of_ble_eq_true rfl), (Nat.le_of_ble_eq_true rfl)⟩ (fun u H locs hφ hP hD hK hS hk => ?_)
  have hP : va_P D vwCl [(h2, .inl (a1, 609, .inr (.inl y1_1))), (h0, .inr (6, [v0, .ref h1, .ref h2, v1, v2, .ref h4, .ref h3, .int 2, .int 2, v3, v4, v5, v6, v7, v8, v9, v10, v11, v12, v13, v14, v15, v16, v17, v18, v19, v20])), (h1, .inl (a0, 609, .inr (.inl (vp_updL (vp_updL (vp_updL (vp_updL (vp_updL (vp_updL (vp_updL (vp_updL (vp_updL (vp_updL f0 0 0) 1 2) 3 0) 4 0) 5 0) 53 1) 101 (-1)) 6 0) 54 1) 102 (-1))))), (h3, .inl (a2, 48, .inl f2)), (h4, .inl (a3, 48, .inl f3))] H := hP
  have hD : va_D A [(h2, .inl (a1, 609, .inr (.inl y1_1))), (h0, .inr (6, [v0, .ref h1, .ref h2, v1, v2, .ref h4, .ref h3, .int 2, .int 2, v3, v4, v5, v6, v7, v8, v9, v10, v11, v12, v13, v14, v15, v16, v17, v18, v19, v20])), (h1, .inl (a0, 609, .inr (.inl (vp_updL (vp_updL (vp_updL (vp_updL (vp_updL (vp_updL (vp_updL (vp_updL (vp_updL (vp_updL f0 0 0) 1 2) 3 0) 4 0) 5 0) 53 1) 101 (-1)) 6 0) 54 1) 102 (-1))))), (h3, .inl (a2, 48, .inl f2)), (h4, .inl (a3, 48, .inl f3))] := hD
  have hK : va_K D vwCl [(a1, .long), (a0, .long), (a2, .int), (a3, .int)] s := hK
  refine W.widen (k := 0) (n := 0) (Nat.le_of_ble_eq_true rfl) (Nat.le_of_ble_eq_true rfl) ?_
  refine lv_istore_n (lv' := [(3, .int 0), (0, .ref h0), (1, .int 0), (2, .int 2)]) hx hb dX6_bitsOf_35 rfl hl (by decide) rfl (fun ls hl => ?_)
  refine lv_aload_n hx hb dX6_bitsOf_36 rfl (lv_at hl 1 rfl) ?_
  refine cVv (n := 0) (As := []) (rest := []) (wr := [(h3, .inl (a2, 48, .inl f2)), (h4, .inl (a3, 48, .inl f3))]) (tr := [(a2, .int), (a3, .int)]) hx hb hml hown hg okN (cX6_takesBack_236 l D h0 h2 h1 v0 v1 v2 (.ref h4) (.ref h3) (.int 2) (.int 2) v3 v4 v5 v6 v7 v8 v9 v10 v11 v12 v13 v14 v15 v16 v17 v18 v19 v20 y1_1 (vp_updL (vp_updL (vp_updL (vp_updL (vp_updL (vp_updL (vp_updL (vp_updL (vp_updL (vp_updL f0 0 0) 1 2) 3 0) 4 0) 5 0) 53 1) 101 (-1)) 6 0) 54 1) 102 (-1)) a1 a0) (mwV k1654 k1656 k80 k92 k1657) ⟨rfl, by decide, by decide, by decide +kernel⟩ ⟨rfl, rfl, (Nat.le_of_ble_eq_true rfl), (Nat.le_of_ble_eq_true rfl)⟩ hP hD hK hS xn [1, 0, 2] [1, 0, 2] [3, 4] [0, 1] [2, 3] rfl (by decide) rfl rfl (by decide) (by decide) rfl rfl (va_free hD hS hA [1, 0, 2] rfl) (va_free hD hS hA [1, 0, 2] rfl) 1 rfl rfl rfl hl.1 rfl (Nat.le_of_ble_eq_true rfl) dX6_bitsOf_37 ⟨(Nat.le_of_ble_eq_true rfl), (Nat.le_of_ble_eq_true rfl)⟩ (fun u H locs hφ hP hD hK hS hk => ?_)
  obtain ⟨y1_2, rfl⟩ : ∃ z, z = u := ⟨_, rfl⟩
  have hP : va_P D vwCl [(h3, .inl (a2, 48, .inl f2)), (h4, .inl (a3, 48, .inl f3)), (h0, .inr (6, [v0, .ref h1, .ref h2, v1, v2, .ref h4, .ref h3, .int 2, .int 2, v3, v4, v5, v6, v7, v8, v9, v10, v11, v12, v13, v14, v15, v16, v17, v18, v19, v20])), (h2, .inl (a1, 609, .inr (.inl y1_1))), (h1, .inl (a0, 609, .inr (.inl y1_2)))] H := hP
  have hD : va_D A [(h3, .inl (a2, 48, .inl f2)), (h4, .inl (a3, 48, .inl f3)), (h0, .inr (6, [v0, .ref h1, .ref h2, v1, v2, .ref h4, .ref h3, .int 2, .int 2, v3, v4, v5, v6, v7, v8, v9, v10, v11, v12, v13, v14, v15, v16, v17, v18, v19, v20])), (h2, .inl (a1, 609, .inr (.inl y1_1))), (h1, .inl (a0, 609, .inr (.inl y1_2)))] := hD
  have hK : va_K D vwCl [(a2, .int), (a3, .int), (a1, .long), (a0, .long)] s := hK
  refine W.widen (k := 0) (n := 0) (Nat.le_of_ble_eq_true rfl) (Nat.le_of_ble_eq_true rfl) ?_
  refine lv_iload_n hx hb dX6_bitsOf_40 rfl (lv_at hl 0 rfl) ?_
  exact fi hx hb hr hlocks hP hD hK hS ((y1_2, y1_1)) trivial rfl [2, 4, 3, 0, 1] [3, 2, 0, 1] rfl (by decide) rfl (Nat.le_of_ble_eq_true rfl) (Nat.le_of_ble_eq_true rfl) dX6_bitsOf_41
set_option maxHeartbeats 4000000 in
set_option maxRecDepth 100000 in
theorem cX6_bitsBy_266 (l : Launch) (D : va_G) (h0 : Nat) (h1 : Nat) (h2 : Nat) (h3 : Nat) (h4 : Nat) (v0 : Value) (v1 : Value) (v2 : Value) (v3 : Value) (v4 : Value) (v5 : Value) (v6 : Value) (v7 : Value) (v8 : Value) (v9 : Value) (v10 : Value) (v11 : Value) (v12 : Value) (v13 : Value) (v14 : Value) (v15 : Value) (v16 : Value) (v17 : Value) (v18 : Value) (v19 : Value) (v20 : Value) (f0 : Nat → Int64) (f1 : Nat → Int64) (f2 : Nat → Int32) (f3 : Nat → Int32) (a0 : ClassId) (a1 : ClassId) (a2 : ClassId) (a3 : ClassId) (ef2_0 : f2 0 = 0) (ef2_1 : f2 1 = 0) (ef3_0 : f3 0 = 0) (ef3_1 : f3 1 = 1)  : CT l yX6_bitsBy cX6_bitsBy 3 (some .int) { frames := 5, cells := 0, slots := 0, locals := 108 } [.ref h0, .int 0, .int 2] D [(h0, .inr (6, [v0, .ref h1, .ref h2, v1, v2, .ref h4, .ref h3, .int 2, .int 2, v3, v4, v5, v6, v7, v8, v9, v10, v11, v12, v13, v14, v15, v16, v17, v18, v19, v20])), (h1, .inl (a0, 609, .inr (.inl f0))), (h2, .inl (a1, 609, .inr (.inl f1))), (h3, .inl (a2, 48, .inl f2)), (h4, .inl (a3, 48, .inl f3))] [(a0, .long), (a1, .long), (a2, .int), (a3, .int)] XN [(h0, .inr (6, [v0, .ref h1, .ref h2, v1, v2, .ref h4, .ref h3, .int 2, .int 2, v3, v4, v5, v6, v7, v8, v9, v10, v11, v12, v13, v14, v15, v16, v17, v18, v19, v20])), (h1, .inl (a0, 609, .inr (.inl f0))), (h2, .inl (a1, 609, .inr (.inl f1))), (h3, .inl (a2, 48, .inl f2)), (h4, .inl (a3, 48, .inl f3))] (ei (fun _ : (Nat → Int64) × (Nat → Int64) => True) (fun u => 0) (fun u => [(h0, .inr (6, [.int 0, .ref h1, .ref h2, v1, v2, .ref h4, .ref h3, .int 2, .int 2, v3, v4, v5, v6, v7, v8, v9, v10, v11, v12, v13, v14, v15, v16, v17, v18, v19, v20])), (h1, .inl (a0, 609, .inr (.inl u.1))), (h2, .inl (a1, 609, .inr (.inl u.2))), (h3, .inl (a2, 48, .inl f2)), (h4, .inl (a3, 48, .inl f3))]) (fun u => [(a0, .long), (a1, .long), (a2, .int), (a3, .int)]) D) 0 0 := by
  refine CT.ofW (by decide +kernel) (Nat.le_of_ble_eq_true rfl) ?_
  intro p e s m below meth c A ls hcs hP hK hD hX hA hS hl
  obtain ⟨hx, hb, hr, hml, hown, hg, hlocks, hin⟩ := hcs
  have hown : s.vm.findClass RX6 = some m.cls := hown
  have hl : lv_has ls 3 [(0, .ref h0), (1, .int 0), (2, .int 2)] := hl
  refine lv_aload_n hx hb dX6_bitsBy_0 rfl (lv_at hl 0 rfl) ?_
  refine lv_iload_n hx hb dX6_bitsBy_1 rfl (lv_at hl 1 rfl) ?_
  refine lv_i2l (v := 0) hx hb dX6_bitsBy_2 (by decide) ?_
  refine lv_lconst (v := 0) hx hb dX6_bitsBy_3 (by decide) ?_
  refine lv_ldc2 hx hb hown (hg _ k1510) dX6_bitsBy_4 ?_
  refine cSi (n := 3) (As := [.long 0, .long 0, .long 2]) (rest := [.ref h0]) (wr := [(h0, .inr (6, [v0, .ref h1, .ref h2, v1, v2, .ref h4, .ref h3, .int 2, .int 2, v3, v4, v5, v6, v7, v8, v9, v10, v11, v12, v13, v14, v15, v16, v17, v18, v19, v20])), (h1, .inl (a0, 609, .inr (.inl f0))), (h2, .inl (a1, 609, .inr (.inl f1))), (h3, .inl (a2, 48, .inl f2)), (h4, .inl (a3, 48, .inl f3))]) (tr := [(a0, .long), (a1, .long), (a2, .int), (a3, .int)]) hx hb hml hown hg okN (cX6_in_143 l D) (mwS k1317 k1318 k92 k1319) ⟨rfl, by decide, by decide, by decide +kernel⟩ ⟨rfl, rfl, (Nat.le_of_ble_eq_true rfl), (Nat.le_of_ble_eq_true rfl)⟩ hP hD hK hS xn [] [] [0, 1, 2, 3, 4] [] [0, 1, 2, 3] rfl (by decide) rfl rfl (by decide) (by decide) rfl rfl (aNil hA hS) (aNil hA hS) rfl hl.1 rfl (Nat.le_of_ble_eq_true rfl) dX6_bitsBy_7 ⟨(Nat.le_of_ble_eq_true rfl), (Nat.le_of_ble_eq_true rfl)⟩ (fun u H locs hφ hP hD hK hS hk => ?_)
  have hP : va_P D vwCl [(h0, .inr (6, [v0, .ref h1, .ref h2, v1, v2, .ref h4, .ref h3, .int 2, .int 2, v3, v4, v5, v6, v7, v8, v9, v10, v11, v12, v13, v14, v15, v16, v17, v18, v19, v20])), (h1, .inl (a0, 609, .inr (.inl f0))), (h2, .inl (a1, 609, .inr (.inl f1))), (h3, .inl (a2, 48, .inl f2)), (h4, .inl (a3, 48, .inl f3))] H := hP
  have hD : va_D A [(h0, .inr (6, [v0, .ref h1, .ref h2, v1, v2, .ref h4, .ref h3, .int 2, .int 2, v3, v4, v5, v6, v7, v8, v9, v10, v11, v12, v13, v14, v15, v16, v17, v18, v19, v20])), (h1, .inl (a0, 609, .inr (.inl f0))), (h2, .inl (a1, 609, .inr (.inl f1))), (h3, .inl (a2, 48, .inl f2)), (h4, .inl (a3, 48, .inl f3))] := hD
  have hK : va_K D vwCl [(a0, .long), (a1, .long), (a2, .int), (a3, .int)] s := hK
  refine W.widen (k := 0) (n := 0) (Nat.le_of_ble_eq_true rfl) (Nat.le_of_ble_eq_true rfl) ?_
  refine lv_if_eq (tgt := 29) hx hb dX6_bitsBy_10 (by decide) (fun c9 => absurd c9 (by decide)) (fun _ => ?_)
  refine lv_iload_n hx hb dX6_bitsBy_13 rfl (lv_at hl 2 rfl) ?_
  refine lv_i2l (v := 2) hx hb dX6_bitsBy_14 (by decide) ?_
  refine lv_lconst (v := 0) hx hb dX6_bitsBy_15 (by decide) ?_
  refine lv_ldc2 hx hb hown (hg _ k1510) dX6_bitsBy_16 ?_
  refine cSi (n := 3) (As := [.long 2, .long 0, .long 2]) (rest := [.ref h0]) (wr := [(h0, .inr (6, [v0, .ref h1, .ref h2, v1, v2, .ref h4, .ref h3, .int 2, .int 2, v3, v4, v5, v6, v7, v8, v9, v10, v11, v12, v13, v14, v15, v16, v17, v18, v19, v20])), (h1, .inl (a0, 609, .inr (.inl f0))), (h2, .inl (a1, 609, .inr (.inl f1))), (h3, .inl (a2, 48, .inl f2)), (h4, .inl (a3, 48, .inl f3))]) (tr := [(a0, .long), (a1, .long), (a2, .int), (a3, .int)]) hx hb hml hown hg okN (cX6_in_149 l D) (mwS k1317 k1318 k92 k1319) ⟨rfl, by decide, by decide, by decide +kernel⟩ ⟨rfl, rfl, (Nat.le_of_ble_eq_true rfl), (Nat.le_of_ble_eq_true rfl)⟩ hP hD hK hS xn [] [] [0, 1, 2, 3, 4] [] [0, 1, 2, 3] rfl (by decide) rfl rfl (by decide) (by decide) rfl rfl (aNil hA hS) (aNil hA hS) rfl hl.1 rfl (Nat.le_of_ble_eq_true rfl) dX6_bitsBy_19 ⟨(Nat.le_of_ble_eq_true rfl), (Nat.le_of_ble_eq_true rfl)⟩ (fun u H locs hφ hP hD hK hS hk => ?_)
  have hP : va_P D vwCl [(h0, .inr (6, [v0, .ref h1, .ref h2, v1, v2, .ref h4, .ref h3, .int 2, .int 2, v3, v4, v5, v6, v7, v8, v9, v10, v11, v12, v13, v14, v15, v16, v17, v18, v19, v20])), (h1, .inl (a0, 609, .inr (.inl f0))), (h2, .inl (a1, 609, .inr (.inl f1))), (h3, .inl (a2, 48, .inl f2)), (h4, .inl (a3, 48, .inl f3))] H := hP
  have hD : va_D A [(h0, .inr (6, [v0, .ref h1, .ref h2, v1, v2, .ref h4, .ref h3, .int 2, .int 2, v3, v4, v5, v6, v7, v8, v9, v10, v11, v12, v13, v14, v15, v16, v17, v18, v19, v20])), (h1, .inl (a0, 609, .inr (.inl f0))), (h2, .inl (a1, 609, .inr (.inl f1))), (h3, .inl (a2, 48, .inl f2)), (h4, .inl (a3, 48, .inl f3))] := hD
  have hK : va_K D vwCl [(a0, .long), (a1, .long), (a2, .int), (a3, .int)] s := hK
  refine W.widen (k := 0) (n := 0) (Nat.le_of_ble_eq_true rfl) (Nat.le_of_ble_eq_true rfl) ?_
  refine lv_if_eq (tgt := 29) hx hb dX6_bitsBy_22 (by decide) (fun c9 => absurd c9 (by decide)) (fun _ => ?_)
  refine lv_iconst (v := 0) hx hb dX6_bitsBy_25 (by decide) ?_
  refine lv_goto (tgt := 30) hx hb dX6_bitsBy_26 (by decide) ?_
  refine va_put (D := D) (ci := 6) (v := .int 0) (ty := .int) (C := RX6) (T := TX6) (N := 27) hx hb hg inX6 tyX6 tyX6_ok nmX6 hown hK hP hD hS 0 rfl rfl 0 (by decide) (hg _ k1219) (fun _ h9 => h9) rfl (by decide +kernel) rfl rfl (Nat.le_of_ble_eq_true rfl) dX6_bitsBy_30 (fun H locs hP hD hS => ?_)
  have hP : va_P D vwCl [(h0, .inr (6, [.int 0, .ref h1, .ref h2, v1, v2, .ref h4, .ref h3, .int 2, .int 2, v3, v4, v5, v6, v7, v8, v9, v10, v11, v12, v13, v14, v15, v16, v17, v18, v19, v20])), (h1, .inl (a0, 609, .inr (.inl f0))), (h2, .inl (a1, 609, .inr (.inl f1))), (h3, .inl (a2, 48, .inl f2)), (h4, .inl (a3, 48, .inl f3))] H := hP
  have hD : va_D A [(h0, .inr (6, [.int 0, .ref h1, .ref h2, v1, v2, .ref h4, .ref h3, .int 2, .int 2, v3, v4, v5, v6, v7, v8, v9, v10, v11, v12, v13, v14, v15, v16, v17, v18, v19, v20])), (h1, .inl (a0, 609, .inr (.inl f0))), (h2, .inl (a1, 609, .inr (.inl f1))), (h3, .inl (a2, 48, .inl f2)), (h4, .inl (a3, 48, .inl f3))] := hD
  refine lv_aload_n hx hb dX6_bitsBy_33 rfl (lv_at hl 0 rfl) ?_
  refine va_get (D := D) (ci := 6) (v := .int 0) (C := RX6) (T := TX6) (N := 27) hx hb hg inX6 hown hK hP 0 rfl rfl 0 (by decide) (hg _ k1219) (fun _ h9 => h9) rfl dX6_bitsBy_34 ?_
  refine lv_if_le (tgt := 44) hx hb dX6_bitsBy_37 (by decide) (fun _ => ?_) (fun c9 => absurd (by decide) c9)
  refine lv_aload_n hx hb dX6_bitsBy_44 rfl (lv_at hl 0 rfl) ?_
  refine lv_iload_n hx hb dX6_bitsBy_45 rfl (lv_at hl 1 rfl) ?_
  refine lv_iload_n hx hb dX6_bitsBy_46 rfl (lv_at hl 2 rfl) ?_
  refine cVi (n := 2) (As := [.int 0, .int 2]) (rest := []) (wr := []) (tr := []) hx hb hml hown hg okN (cX6_bitsOf_267 l D h0 h1 h2 h3 h4 (.int 0) v1 v2 v3 v4 v5 v6 v7 v8 v9 v10 v11 v12 v13 v14 v15 v16 v17 v18 v19 v20 f0 f1 f2 f3 a0 a1 a2 a3 ef2_0 ef2_1 ef3_0 ef3_1) (mwV k1674 k1676 k82 k92 k1677) ⟨rfl, by decide, by decide, by decide +kernel⟩ ⟨rfl, rfl, (Nat.le_of_ble_eq_true rfl), (Nat.le_of_ble_eq_true rfl)⟩ hP hD hK hS xn [0, 1, 2, 3, 4] [0, 1, 2, 3, 4] [] [0, 1, 2, 3] [] rfl (by decide) rfl rfl (by decide) (by decide) rfl rfl (va_free hD hS hA [0, 1, 2, 3, 4] rfl) (va_free hD hS hA [0, 1, 2, 3, 4] rfl) 0 rfl rfl rfl hl.1 rfl (Nat.le_of_ble_eq_true rfl) dX6_bitsBy_47 ⟨(Nat.le_of_ble_eq_true rfl), (Nat.le_of_ble_eq_true rfl)⟩ (fun u H locs hφ hP hD hK hS hk => ?_)
  obtain ⟨y0_1, y0_2⟩ := u
  have hP : va_P D vwCl [(h0, .inr (6, [.int 0, .ref h1, .ref h2, v1, v2, .ref h4, .ref h3, .int 2, .int 2, v3, v4, v5, v6, v7, v8, v9, v10, v11, v12, v13, v14, v15, v16, v17, v18, v19, v20])), (h1, .inl (a0, 609, .inr (.inl y0_1))), (h2, .inl (a1, 609, .inr (.inl y0_2))), (h3, .inl (a2, 48, .inl f2)), (h4, .inl (a3, 48, .inl f3))] H := hP
  have hD : va_D A [(h0, .inr (6, [.int 0, .ref h1, .ref h2, v1, v2, .ref h4, .ref h3, .int 2, .int 2, v3, v4, v5, v6, v7, v8, v9, v10, v11, v12, v13, v14, v15, v16, v17, v18, v19, v20])), (h1, .inl (a0, 609, .inr (.inl y0_1))), (h2, .inl (a1, 609, .inr (.inl y0_2))), (h3, .inl (a2, 48, .inl f2)), (h4, .inl (a3, 48, .inl f3))] := hD
  have hK : va_K D vwCl [(a0, .long), (a1, .long), (a2, .int), (a3, .int)] s := hK
  refine W.widen (k := 0) (n := 0) (Nat.le_of_ble_eq_true rfl) (Nat.le_of_ble_eq_true rfl) ?_
  exact fi hx hb hr hlocks hP hD hK hS ((y0_1, y0_2)) trivial rfl [0, 1, 2, 3, 4] [0, 1, 2, 3] rfl (by decide) rfl (Nat.le_of_ble_eq_true rfl) (Nat.le_of_ble_eq_true rfl) dX6_bitsBy_50
set_option maxHeartbeats 4000000 in
set_option maxRecDepth 100000 in
theorem cX6_bitsBy_268 (l : Launch) (D : va_G) (h0 : Nat) (x0 : Int32) (v0 : Value) (v1 : Value) (v2 : Value) (v3 : Value) (v4 : Value) (v5 : Value) (v6 : Value) (v7 : Value) (v8 : Value) (v9 : Value) (v10 : Value) (v11 : Value) (v12 : Value) (v13 : Value) (v14 : Value) (v15 : Value) (v16 : Value) (v17 : Value) (v18 : Value) (v19 : Value) (v20 : Value) (v21 : Value) (v22 : Value) (v23 : Value) (v24 : Value) (v25 : Value) (v26 : Value)  (d0 : ¬ ((lg_cmp x0.toInt64 0) < 0)) (d1 : 0 < (lg_cmp x0.toInt64 2)) : CT l yX6_bitsBy cX6_bitsBy 3 (some .int) { frames := 1, cells := 0, slots := 0, locals := 25 } [.ref h0, .int 0, .int x0] D [(h0, .inr (6, [v0, v1, v2, v3, v4, v5, v6, v7, v8, v9, v10, v11, v12, v13, v14, v15, v16, v17, v18, v19, v20, v21, v22, v23, v24, v25, v26]))] [] XN [(h0, .inr (6, [v0, v1, v2, v3, v4, v5, v6, v7, v8, v9, v10, v11, v12, v13, v14, v15, v16, v17, v18, v19, v20, v21, v22, v23, v24, v25, v26]))] (ei (fun _ : Unit => True) (fun u => 0) (fun _ => [(h0, .inr (6, [.int 1, v1, v2, v3, v4, v5, v6, v7, v8, v9, v10, v11, v12, v13, v14, v15, v16, v17, v18, v19, v20, v21, v22, v23, v24, v25, v26]))]) (fun u => []) D) 0 0 := by
  refine CT.ofW (by decide +kernel) (Nat.le_of_ble_eq_true rfl) ?_
  intro p e s m below meth c A ls hcs hP hK hD hX hA hS hl
  obtain ⟨hx, hb, hr, hml, hown, hg, hlocks, hin⟩ := hcs
  have hown : s.vm.findClass RX6 = some m.cls := hown
  have hl : lv_has ls 3 [(0, .ref h0), (1, .int 0), (2, .int x0)] := hl
  refine lv_aload_n hx hb dX6_bitsBy_0 rfl (lv_at hl 0 rfl) ?_
  refine lv_iload_n hx hb dX6_bitsBy_1 rfl (lv_at hl 1 rfl) ?_
  refine lv_i2l (v := 0) hx hb dX6_bitsBy_2 (by decide) ?_
  refine lv_lconst (v := 0) hx hb dX6_bitsBy_3 (by decide) ?_
  refine lv_ldc2 hx hb hown (hg _ k1510) dX6_bitsBy_4 ?_
  refine cSi (n := 3) (As := [.long 0, .long 0, .long 2]) (rest := [.ref h0]) (wr := [(h0, .inr (6, [v0, v1, v2, v3, v4, v5, v6, v7, v8, v9, v10, v11, v12, v13, v14, v15, v16, v17, v18, v19, v20, v21, v22, v23, v24, v25, v26]))]) (tr := []) hx hb hml hown hg okN (cX6_in_143 l D) (mwS k1317 k1318 k92 k1319) ⟨rfl, by decide, by decide, by decide +kernel⟩ ⟨rfl, rfl, (Nat.le_of_ble_eq_true rfl), (Nat.le_of_ble_eq_true rfl)⟩ hP hD hK hS xn [] [] [0] [] [] rfl (by decide) rfl rfl (by decide) (by decide) rfl rfl (aNil hA hS) (aNil hA hS) rfl hl.1 rfl (Nat.le_of_ble_eq_true rfl) dX6_bitsBy_7 ⟨(Nat.le_of_ble_eq_true rfl), (Nat.le_of_ble_eq_true rfl)⟩ (fun u H locs hφ hP hD hK hS hk => ?_)
  have hP : va_P D vwCl [(h0, .inr (6, [v0, v1, v2, v3, v4, v5, v6, v7, v8, v9, v10, v11, v12, v13, v14, v15, v16, v17, v18, v19, v20, v21, v22, v23, v24, v25, v26]))] H := hP
  have hD : va_D A [(h0, .inr (6, [v0, v1, v2, v3, v4, v5, v6, v7, v8, v9, v10, v11, v12, v13, v14, v15, v16, v17, v18, v19, v20, v21, v22, v23, v24, v25, v26]))] := hD
  have hK : va_K D vwCl [] s := hK
  refine W.widen (k := 0) (n := 0) (Nat.le_of_ble_eq_true rfl) (Nat.le_of_ble_eq_true rfl) ?_
  refine lv_if_eq (tgt := 29) hx hb dX6_bitsBy_10 (by decide) (fun c9 => absurd c9 (by decide)) (fun _ => ?_)
  refine lv_iload_n hx hb dX6_bitsBy_13 rfl (lv_at hl 2 rfl) ?_
  refine lv_i2l (v := x0.toInt64) hx hb dX6_bitsBy_14 rfl ?_
  refine lv_lconst (v := 0) hx hb dX6_bitsBy_15 (by decide) ?_
  refine lv_ldc2 hx hb hown (hg _ k1510) dX6_bitsBy_16 ?_
  refine cSi (n := 3) (As := [.long x0.toInt64, .long 0, .long 2]) (rest := [.ref h0]) (wr := [(h0, .inr (6, [v0, v1, v2, v3, v4, v5, v6, v7, v8, v9, v10, v11, v12, v13, v14, v15, v16, v17, v18, v19, v20, v21, v22, v23, v24, v25, v26]))]) (tr := []) hx hb hml hown hg okN (cX6_in_152 l D x0 d0 d1) (mwS k1317 k1318 k92 k1319) ⟨rfl, by decide, by decide, by decide +kernel⟩ ⟨rfl, rfl, (Nat.le_of_ble_eq_true rfl), (Nat.le_of_ble_eq_true rfl)⟩ hP hD hK hS xn [] [] [0] [] [] rfl (by decide) rfl rfl (by decide) (by decide) rfl rfl (aNil hA hS) (aNil hA hS) rfl hl.1 rfl (Nat.le_of_ble_eq_true rfl) dX6_bitsBy_19 ⟨(Nat.le_of_ble_eq_true rfl), (Nat.le_of_ble_eq_true rfl)⟩ (fun u H locs hφ hP hD hK hS hk => ?_)
  have hP : va_P D vwCl [(h0, .inr (6, [v0, v1, v2, v3, v4, v5, v6, v7, v8, v9, v10, v11, v12, v13, v14, v15, v16, v17, v18, v19, v20, v21, v22, v23, v24, v25, v26]))] H := hP
  have hD : va_D A [(h0, .inr (6, [v0, v1, v2, v3, v4, v5, v6, v7, v8, v9, v10, v11, v12, v13, v14, v15, v16, v17, v18, v19, v20, v21, v22, v23, v24, v25, v26]))] := hD
  have hK : va_K D vwCl [] s := hK
  refine W.widen (k := 0) (n := 0) (Nat.le_of_ble_eq_true rfl) (Nat.le_of_ble_eq_true rfl) ?_
  refine lv_if_eq (tgt := 29) hx hb dX6_bitsBy_22 (by decide) (fun _ => ?_) (fun c9 => absurd (by decide) c9)
  refine lv_iconst (v := 1) hx hb dX6_bitsBy_29 (by decide) ?_
  refine va_put (D := D) (ci := 6) (v := .int 1) (ty := .int) (C := RX6) (T := TX6) (N := 27) hx hb hg inX6 tyX6 tyX6_ok nmX6 hown hK hP hD hS 0 rfl rfl 0 (by decide) (hg _ k1219) (fun _ h9 => h9) rfl (by decide +kernel) rfl rfl (Nat.le_of_ble_eq_true rfl) dX6_bitsBy_30 (fun H locs hP hD hS => ?_)
  have hP : va_P D vwCl [(h0, .inr (6, [.int 1, v1, v2, v3, v4, v5, v6, v7, v8, v9, v10, v11, v12, v13, v14, v15, v16, v17, v18, v19, v20, v21, v22, v23, v24, v25, v26]))] H := hP
  have hD : va_D A [(h0, .inr (6, [.int 1, v1, v2, v3, v4, v5, v6, v7, v8, v9, v10, v11, v12, v13, v14, v15, v16, v17, v18, v19, v20, v21, v22, v23, v24, v25, v26]))] := hD
  refine lv_aload_n hx hb dX6_bitsBy_33 rfl (lv_at hl 0 rfl) ?_
  refine va_get (D := D) (ci := 6) (v := .int 1) (C := RX6) (T := TX6) (N := 27) hx hb hg inX6 hown hK hP 0 rfl rfl 0 (by decide) (hg _ k1219) (fun _ h9 => h9) rfl dX6_bitsBy_34 ?_
  refine lv_if_le (tgt := 44) hx hb dX6_bitsBy_37 (by decide) (fun c9 => absurd c9 (by decide)) (fun _ => ?_)
  refine lv_iconst (v := 0) hx hb dX6_bitsBy_40 (by decide) ?_
  refine lv_goto (tgt := 50) hx hb dX6_bitsBy_41 (by decide) ?_
  exact fi hx hb hr hlocks hP hD hK hS (()) trivial rfl [0] [] rfl (by decide) rfl (Nat.le_of_ble_eq_true rfl) (Nat.le_of_ble_eq_true rfl) dX6_bitsBy_50
set_option maxHeartbeats 4000000 in
set_option maxRecDepth 100000 in
theorem cX6_bitsBy_269 (l : Launch) (D : va_G) (h0 : Nat) (x0 : Int32) (v0 : Value) (v1 : Value) (v2 : Value) (v3 : Value) (v4 : Value) (v5 : Value) (v6 : Value) (v7 : Value) (v8 : Value) (v9 : Value) (v10 : Value) (v11 : Value) (v12 : Value) (v13 : Value) (v14 : Value) (v15 : Value) (v16 : Value) (v17 : Value) (v18 : Value) (v19 : Value) (v20 : Value) (v21 : Value) (v22 : Value) (v23 : Value) (v24 : Value) (v25 : Value) (v26 : Value)  (d0 : (lg_cmp x0.toInt64 0) < 0) : CT l yX6_bitsBy cX6_bitsBy 3 (some .int) { frames := 1, cells := 0, slots := 0, locals := 25 } [.ref h0, .int 1, .int x0] D [(h0, .inr (6, [v0, v1, v2, v3, v4, v5, v6, v7, v8, v9, v10, v11, v12, v13, v14, v15, v16, v17, v18, v19, v20, v21, v22, v23, v24, v25, v26]))] [] XN [(h0, .inr (6, [v0, v1, v2, v3, v4, v5, v6, v7, v8, v9, v10, v11, v12, v13, v14, v15, v16, v17, v18, v19, v20, v21, v22, v23, v24, v25, v26]))] (ei (fun _ : Unit => True) (fun u => 0) (fun _ => [(h0, .inr (6, [.int 1, v1, v2, v3, v4, v5, v6, v7, v8, v9, v10, v11, v12, v13, v14, v15, v16, v17, v18, v19, v20, v21, v22, v23, v24, v25, v26]))]) (fun u => []) D) 0 0 := by
  refine CT.ofW (by decide +kernel) (Nat.le_of_ble_eq_true rfl) ?_
  intro p e s m below meth c A ls hcs hP hK hD hX hA hS hl
  obtain ⟨hx, hb, hr, hml, hown, hg, hlocks, hin⟩ := hcs
  have hown : s.vm.findClass RX6 = some m.cls := hown
  have hl : lv_has ls 3 [(0, .ref h0), (1, .int 1), (2, .int x0)] := hl
  refine lv_aload_n hx hb dX6_bitsBy_0 rfl (lv_at hl 0 rfl) ?_
  refine lv_iload_n hx hb dX6_bitsBy_1 rfl (lv_at hl 1 rfl) ?_
  refine lv_i2l (v := 1) hx hb dX6_bitsBy_2 (by decide) ?_
  refine lv_lconst (v := 0) hx hb dX6_bitsBy_3 (by decide) ?_
  refine lv_ldc2 hx hb hown (hg _ k1510) dX6_bitsBy_4 ?_
  refine cSi (n := 3) (As := [.long 1, .long 0, .long 2]) (rest := [.ref h0]) (wr := [(h0, .inr (6, [v0, v1, v2, v3, v4, v5, v6, v7, v8, v9, v10, v11, v12, v13, v14, v15, v16, v17, v18, v19, v20, v21, v22, v23, v24, v25, v26]))]) (tr := []) hx hb hml hown hg okN (cX6_in_146 l D) (mwS k1317 k1318 k92 k1319) ⟨rfl, by decide, by decide, by decide +kernel⟩ ⟨rfl, rfl, (Nat.le_of_ble_eq_true rfl), (Nat.le_of_ble_eq_true rfl)⟩ hP hD hK hS xn [] [] [0] [] [] rfl (by decide) rfl rfl (by decide) (by decide) rfl rfl (aNil hA hS) (aNil hA hS) rfl hl.1 rfl (Nat.le_of_ble_eq_true rfl) dX6_bitsBy_7 ⟨(Nat.le_of_ble_eq_true rfl), (Nat.le_of_ble_eq_true rfl)⟩ (fun u H locs hφ hP hD hK hS hk => ?_)
  have hP : va_P D vwCl [(h0, .inr (6, [v0, v1, v2, v3, v4, v5, v6, v7, v8, v9, v10, v11, v12, v13, v14, v15, v16, v17, v18, v19, v20, v21, v22, v23, v24, v25, v26]))] H := hP
  have hD : va_D A [(h0, .inr (6, [v0, v1, v2, v3, v4, v5, v6, v7, v8, v9, v10, v11, v12, v13, v14, v15, v16, v17, v18, v19, v20, v21, v22, v23, v24, v25, v26]))] := hD
  have hK : va_K D vwCl [] s := hK
  refine W.widen (k := 0) (n := 0) (Nat.le_of_ble_eq_true rfl) (Nat.le_of_ble_eq_true rfl) ?_
  refine lv_if_eq (tgt := 29) hx hb dX6_bitsBy_10 (by decide) (fun c9 => absurd c9 (by decide)) (fun _ => ?_)
  refine lv_iload_n hx hb dX6_bitsBy_13 rfl (lv_at hl 2 rfl) ?_
  refine lv_i2l (v := x0.toInt64) hx hb dX6_bitsBy_14 rfl ?_
  refine lv_lconst (v := 0) hx hb dX6_bitsBy_15 (by decide) ?_
  refine lv_ldc2 hx hb hown (hg _ k1510) dX6_bitsBy_16 ?_
  refine cSi (n := 3) (As := [.long x0.toInt64, .long 0, .long 2]) (rest := [.ref h0]) (wr := [(h0, .inr (6, [v0, v1, v2, v3, v4, v5, v6, v7, v8, v9, v10, v11, v12, v13, v14, v15, v16, v17, v18, v19, v20, v21, v22, v23, v24, v25, v26]))]) (tr := []) hx hb hml hown hg okN (cX6_in_140 l D x0 d0) (mwS k1317 k1318 k92 k1319) ⟨rfl, by decide, by decide, by decide +kernel⟩ ⟨rfl, rfl, (Nat.le_of_ble_eq_true rfl), (Nat.le_of_ble_eq_true rfl)⟩ hP hD hK hS xn [] [] [0] [] [] rfl (by decide) rfl rfl (by decide) (by decide) rfl rfl (aNil hA hS) (aNil hA hS) rfl hl.1 rfl (Nat.le_of_ble_eq_true rfl) dX6_bitsBy_19 ⟨(Nat.le_of_ble_eq_true rfl), (Nat.le_of_ble_eq_true rfl)⟩ (fun u H locs hφ hP hD hK hS hk => ?_)
  have hP : va_P D vwCl [(h0, .inr (6, [v0, v1, v2, v3, v4, v5, v6, v7, v8, v9, v10, v11, v12, v13, v14, v15, v16, v17, v18, v19, v20, v21, v22, v23, v24, v25, v26]))] H := hP
  have hD : va_D A [(h0, .inr (6, [v0, v1, v2, v3, v4, v5, v6, v7, v8, v9, v10, v11, v12, v13, v14, v15, v16, v17, v18, v19, v20, v21, v22, v23, v24, v25, v26]))] := hD
  have hK : va_K D vwCl [] s := hK
  refine W.widen (k := 0) (n := 0) (Nat.le_of_ble_eq_true rfl) (Nat.le_of_ble_eq_true rfl) ?_
  refine lv_if_eq (tgt := 29) hx hb dX6_bitsBy_22 (by decide) (fun _ => ?_) (fun c9 => absurd (by decide) c9)
  refine lv_iconst (v := 1) hx hb dX6_bitsBy_29 (by decide) ?_
  refine va_put (D := D) (ci := 6) (v := .int 1) (ty := .int) (C := RX6) (T := TX6) (N := 27) hx hb hg inX6 tyX6 tyX6_ok nmX6 hown hK hP hD hS 0 rfl rfl 0 (by decide) (hg _ k1219) (fun _ h9 => h9) rfl (by decide +kernel) rfl rfl (Nat.le_of_ble_eq_true rfl) dX6_bitsBy_30 (fun H locs hP hD hS => ?_)
  have hP : va_P D vwCl [(h0, .inr (6, [.int 1, v1, v2, v3, v4, v5, v6, v7, v8, v9, v10, v11, v12, v13, v14, v15, v16, v17, v18, v19, v20, v21, v22, v23, v24, v25, v26]))] H := hP
  have hD : va_D A [(h0, .inr (6, [.int 1, v1, v2, v3, v4, v5, v6, v7, v8, v9, v10, v11, v12, v13, v14, v15, v16, v17, v18, v19, v20, v21, v22, v23, v24, v25, v26]))] := hD
  refine lv_aload_n hx hb dX6_bitsBy_33 rfl (lv_at hl 0 rfl) ?_
  refine va_get (D := D) (ci := 6) (v := .int 1) (C := RX6) (T := TX6) (N := 27) hx hb hg inX6 hown hK hP 0 rfl rfl 0 (by decide) (hg _ k1219) (fun _ h9 => h9) rfl dX6_bitsBy_34 ?_
  refine lv_if_le (tgt := 44) hx hb dX6_bitsBy_37 (by decide) (fun c9 => absurd c9 (by decide)) (fun _ => ?_)
  refine lv_iconst (v := 0) hx hb dX6_bitsBy_40 (by decide) ?_
  refine lv_goto (tgt := 50) hx hb dX6_bitsBy_41 (by decide) ?_
  exact fi hx hb hr hlocks hP hD hK hS (()) trivial rfl [0] [] rfl (by decide) rfl (Nat.le_of_ble_eq_true rfl) (Nat.le_of_ble_eq_true rfl) dX6_bitsBy_50
set_option maxHeartbeats 4000000 in
set_option maxRecDepth 100000 in
theorem cX6_bitsOf_271 (l : Launch) (D : va_G) (h0 : Nat) (h1 : Nat) (h2 : Nat) (h3 : Nat) (h4 : Nat) (v0 : Value) (v1 : Value) (v2 : Value) (v3 : Value) (v4 : Value) (v5 : Value) (v6 : Value) (v7 : Value) (v8 : Value) (v9 : Value) (v10 : Value) (v11 : Value) (v12 : Value) (v13 : Value) (v14 : Value) (v15 : Value) (v16 : Value) (v17 : Value) (v18 : Value) (v19 : Value) (v20 : Value) (f0 : Nat → Int64) (f1 : Nat → Int64) (f2 : Nat → Int32) (f3 : Nat → Int32) (a0 : ClassId) (a1 : ClassId) (a2 : ClassId) (a3 : ClassId) (ef2_0 : f2 0 = 0) (ef2_1 : f2 1 = 0) (ef3_0 : f3 0 = 0) (ef3_1 : f3 1 = 1)  : CT l yX6_bitsOf cX6_bitsOf 4 (some .int) { frames := 4, cells := 0, slots := 0, locals := 85 } [.ref h0, .int 1, .int 0] D [(h0, .inr (6, [v0, .ref h1, .ref h2, v1, v2, .ref h4, .ref h3, .int 2, .int 2, v3, v4, v5, v6, v7, v8, v9, v10, v11, v12, v13, v14, v15, v16, v17, v18, v19, v20])), (h1, .inl (a0, 609, .inr (.inl f0))), (h2, .inl (a1, 609, .inr (.inl f1))), (h3, .inl (a2, 48, .inl f2)), (h4, .inl (a3, 48, .inl f3))] [(a0, .long), (a1, .long), (a2, .int), (a3, .int)] XN [(h0, .inr (6, [v0, .ref h1, .ref h2, v1, v2, .ref h4, .ref h3, .int 2, .int 2, v3, v4, v5, v6, v7, v8, v9, v10, v11, v12, v13, v14, v15, v16, v17, v18, v19, v20])), (h1, .inl (a0, 609, .inr (.inl f0))), (h2, .inl (a1, 609, .inr (.inl f1))), (h3, .inl (a2, 48, .inl f2)), (h4, .inl (a3, 48, .inl f3))] (ei (fun _ : (Nat → Int64) × (Nat → Int64) => True) (fun u => 0) (fun u => [(h0, .inr (6, [v0, .ref h1, .ref h2, v1, v2, .ref h4, .ref h3, .int 2, .int 2, v3, v4, v5, v6, v7, v8, v9, v10, v11, v12, v13, v14, v15, v16, v17, v18, v19, v20])), (h1, .inl (a0, 609, .inr (.inl u.1))), (h2, .inl (a1, 609, .inr (.inl u.2))), (h3, .inl (a2, 48, .inl f2)), (h4, .inl (a3, 48, .inl f3))]) (fun u => [(a0, .long), (a1, .long), (a2, .int), (a3, .int)]) D) 0 0 := by
  refine CT.ofW (by decide +kernel) (Nat.le_of_ble_eq_true rfl) ?_
  intro p e s m below meth c A ls hcs hP hK hD hX hA hS hl
  obtain ⟨hx, hb, hr, hml, hown, hg, hlocks, hin⟩ := hcs
  have hown : s.vm.findClass RX6 = some m.cls := hown
  have hl : lv_has ls 4 [(0, .ref h0), (1, .int 1), (2, .int 0)] := hl
  refine lv_aload_n hx hb dX6_bitsOf_0 rfl (lv_at hl 0 rfl) ?_
  refine cVv (n := 0) (As := []) (rest := []) (wr := [(h3, .inl (a2, 48, .inl f2)), (h4, .inl (a3, 48, .inl f3))]) (tr := [(a2, .int), (a3, .int)]) hx hb hml hown hg okN (cX6_puts_234 l D h0 h1 h2 v0 v1 v2 (.ref h4) (.ref h3) (.int 2) (.int 2) v3 v4 v5 v6 v7 v8 v9 v10 v11 v12 v13 v14 v15 v16 v17 v18 v19 v20 f0 f1 a0 a1) (mwV k1646 k1648 k78 k92 k1649) ⟨rfl, by decide, by decide, by decide +kernel⟩ ⟨rfl, rfl, (Nat.le_of_ble_eq_true rfl), (Nat.le_of_ble_eq_true rfl)⟩ hP hD hK hS xn [0, 1, 2] [0, 1, 2] [3, 4] [0, 1] [2, 3] rfl (by decide) rfl rfl (by decide) (by decide) rfl rfl (va_free hD hS hA [0, 1, 2] rfl) (va_free hD hS hA [0, 1, 2] rfl) 0 rfl rfl rfl hl.1 rfl (Nat.le_of_ble_eq_true rfl) dX6_bitsOf_1 ⟨(Nat.le_of_ble_eq_true rfl), (Nat.le_of_ble_eq_true rfl)⟩ (fun u H locs hφ hP hD hK hS hk => ?_)
  obtain ⟨y1_1, rfl⟩ : ∃ z, z = u := ⟨_, rfl⟩
  have hP : va_P D vwCl [(h3, .inl (a2, 48, .inl f2)), (h4, .inl (a3, 48, .inl f3)), (h0, .inr (6, [v0, .ref h1, .ref h2, v1, v2, .ref h4, .ref h3, .int 2, .int 2, v3, v4, v5, v6, v7, v8, v9, v10, v11, v12, v13, v14, v15, v16, v17, v18, v19, v20])), (h1, .inl (a0, 609, .inr (.inl f0))), (h2, .inl (a1, 609, .inr (.inl y1_1)))] H := hP
  have hD : va_D A [(h3, .inl (a2, 48, .inl f2)), (h4, .inl (a3, 48, .inl f3)), (h0, .inr (6, [v0, .ref h1, .ref h2, v1, v2, .ref h4, .ref h3, .int 2, .int 2, v3, v4, v5, v6, v7, v8, v9, v10, v11, v12, v13, v14, v15, v16, v17, v18, v19, v20])), (h1, .inl (a0, 609, .inr (.inl f0))), (h2, .inl (a1, 609, .inr (.inl y1_1)))] := hD
  have hK : va_K D vwCl [(a2, .int), (a3, .int), (a0, .long), (a1, .long)] s := hK
  refine W.widen (k := 0) (n := 0) (Nat.le_of_ble_eq_true rfl) (Nat.le_of_ble_eq_true rfl) ?_
  refine lv_aload_n hx hb dX6_bitsOf_4 rfl (lv_at hl 0 rfl) ?_
  refine va_get (D := D) (ci := 6) (v := .ref h1) (C := RX6) (T := TX6) (N := 27) hx hb hg inX6 hown hK hP 2 rfl rfl 1 (by decide) (hg _ k1220) (fun _ h9 => h9) rfl dX6_bitsOf_5 ?_
  refine lv_iconst (v := 0) hx hb dX6_bitsOf_8 (by decide) ?_
  refine lv_iload_n hx hb dX6_bitsOf_9 rfl (lv_at hl 1 rfl) ?_
  refine lv_i2l (v := 1) hx hb dX6_bitsOf_10 (by decide) ?_
  refine astL hx hb hK hP hD hS 3 2 rfl rfl 0 (by decide) (vin (by decide)) dX6_bitsOf_11 (fun H locs hP hD hS => ?_)
  have hP : va_P D vwCl [(h3, .inl (a2, 48, .inl f2)), (h4, .inl (a3, 48, .inl f3)), (h0, .inr (6, [v0, .ref h1, .ref h2, v1, v2, .ref h4, .ref h3, .int 2, .int 2, v3, v4, v5, v6, v7, v8, v9, v10, v11, v12, v13, v14, v15, v16, v17, v18, v19, v20])), (h1, .inl (a0, 609, .inr (.inl (vp_updL f0 0 1)))), (h2, .inl (a1, 609, .inr (.inl y1_1)))] H := hP
  have hD : va_D A [(h3, .inl (a2, 48, .inl f2)), (h4, .inl (a3, 48, .inl f3)), (h0, .inr (6, [v0, .ref h1, .ref h2, v1, v2, .ref h4, .ref h3, .int 2, .int 2, v3, v4, v5, v6, v7, v8, v9, v10, v11, v12, v13, v14, v15, v16, v17, v18, v19, v20])), (h1, .inl (a0, 609, .inr (.inl (vp_updL f0 0 1)))), (h2, .inl (a1, 609, .inr (.inl y1_1)))] := hD
  refine lv_aload_n hx hb dX6_bitsOf_12 rfl (lv_at hl 0 rfl) ?_
  refine va_get (D := D) (ci := 6) (v := .ref h1) (C := RX6) (T := TX6) (N := 27) hx hb hg inX6 hown hK hP 2 rfl rfl 1 (by decide) (hg _ k1220) (fun _ h9 => h9) rfl dX6_bitsOf_13 ?_
  refine lv_iconst (v := 1) hx hb dX6_bitsOf_16 (by decide) ?_
  refine lv_iload_n hx hb dX6_bitsOf_17 rfl (lv_at hl 2 rfl) ?_
  refine lv_i2l (v := 0) hx hb dX6_bitsOf_18 (by decide) ?_
  refine astL hx hb hK hP hD hS 3 2 rfl rfl 1 (by decide) (vin (by decide)) dX6_bitsOf_19 (fun H locs hP hD hS => ?_)
  have hP : va_P D vwCl [(h3, .inl (a2, 48, .inl f2)), (h4, .inl (a3, 48, .inl f3)), (h0, .inr (6, [v0, .ref h1, .ref h2, v1, v2, .ref h4, .ref h3, .int 2, .int 2, v3, v4, v5, v6, v7, v8, v9, v10, v11, v12, v13, v14, v15, v16, v17, v18, v19, v20])), (h1, .inl (a0, 609, .inr (.inl (vp_updL (vp_updL f0 0 1) 1 0)))), (h2, .inl (a1, 609, .inr (.inl y1_1)))] H := hP
  have hD : va_D A [(h3, .inl (a2, 48, .inl f2)), (h4, .inl (a3, 48, .inl f3)), (h0, .inr (6, [v0, .ref h1, .ref h2, v1, v2, .ref h4, .ref h3, .int 2, .int 2, v3, v4, v5, v6, v7, v8, v9, v10, v11, v12, v13, v14, v15, v16, v17, v18, v19, v20])), (h1, .inl (a0, 609, .inr (.inl (vp_updL (vp_updL f0 0 1) 1 0)))), (h2, .inl (a1, 609, .inr (.inl y1_1)))] := hD
  refine lv_aload_n hx hb dX6_bitsOf_20 rfl (lv_at hl 0 rfl) ?_
  refine cVv (n := 0) (As := []) (rest := []) (wr := [(h2, .inl (a1, 609, .inr (.inl y1_1)))]) (tr := [(a1, .long)]) hx hb hml hown hg okN (cX6_anew_186 l D h0 h1 h3 h4 v0 (.ref h2) v1 v2 (.int 2) v3 v4 v5 v6 v7 v8 v9 v10 v11 v12 v13 v14 v15 v16 v17 v18 v19 v20 (vp_updL (vp_updL f0 0 1) 1 0) f2 f3 a0 a2 a3 ef2_0 ef2_1 ef3_0 ef3_1) (mwV k1214 k1216 k35 k92 k1217) ⟨rfl, by decide, by decide, by decide +kernel⟩ ⟨rfl, rfl, (Nat.le_of_ble_eq_true rfl), (Nat.le_of_ble_eq_true rfl)⟩ hP hD hK hS xn [2, 3, 0, 1] [2, 3, 0, 1] [4] [2, 0, 1] [3] rfl (by decide) rfl rfl (by decide) (by decide) rfl rfl (va_free hD hS hA [2, 3, 0, 1] rfl) (va_free hD hS hA [2, 3, 0, 1] rfl) 2 rfl rfl rfl hl.1 rfl (Nat.le_of_ble_eq_true rfl) dX6_bitsOf_21 ⟨(Nat.le_of_ble_eq_true rfl), (Nat.le_of_ble_eq_true rfl)⟩ (fun u H locs hφ hP hD hK hS hk => ?_)
  have hP : va_P D vwCl [(h2, .inl (a1, 609, .inr (.inl y1_1))), (h0, .inr (6, [v0, .ref h1, .ref h2, v1, v2, .ref h4, .ref h3, .int 2, .int 2, v3, v4, v5, v6, v7, v8, v9, v10, v11, v12, v13, v14, v15, v16, v17, v18, v19, v20])), (h1, .inl (a0, 609, .inr (.inl (vp_updL (vp_updL (vp_updL (vp_updL (vp_updL (vp_updL (vp_updL (vp_updL (vp_updL (vp_updL f0 0 1) 1 0) 3 0) 4 0) 5 0) 53 1) 101 (-1)) 6 0) 54 1) 102 (-1))))), (h3, .inl (a2, 48, .inl f2)), (h4, .inl (a3, 48, .inl f3))] H := hP
  have hD : va_D A [(h2, .inl (a1, 609, .inr (.inl y1_1))), (h0, .inr (6, [v0, .ref h1, .ref h2, v1, v2, .ref h4, .ref h3, .int 2, .int 2, v3, v4, v5, v6, v7, v8, v9, v10, v11, v12, v13, v14, v15, v16, v17, v18, v19, v20])), (h1, .inl (a0, 609, .inr (.inl (vp_updL (vp_updL (vp_updL (vp_updL (vp_updL (vp_updL (vp_updL (vp_updL (vp_updL (vp_updL f0 0 1) 1 0) 3 0) 4 0) 5 0) 53 1) 101 (-1)) 6 0) 54 1) 102 (-1))))), (h3, .inl (a2, 48, .inl f2)), (h4, .inl (a3, 48, .inl f3))] := hD
  have hK : va_K D vwCl [(a1, .long), (a0, .long), (a2, .int), (a3, .int)] s := hK
  refine W.widen (k := 0) (n := 0) (Nat.le_of_ble_eq_true rfl) (Nat.le_of_ble_eq_true rfl) ?_
  refine lv_aload_n hx hb dX6_bitsOf_24 rfl (lv_at hl 0 rfl) ?_
  refine lv_bipush (v := 46) hx hb dX6_bitsOf_25 (by decide) ?_
  refine cVi (n := 1) (As := [.int 46]) (rest := []) (wr := [(h2, .inl (a1, 609, .inr (.inl y1_1))), (h0, .inr (6, [v0, .ref h1, .ref h2, v1, v2, .ref h4, .ref h3, .int 2, .int 2, v3, v4, v5, v6, v7, v8, v9, v10, v11, v12, v13, v14, v15, v16, v17, v18, v19, v20])), (h1, .inl (a0, 609, .inr (.inl (vp_updL (vp_updL (vp_updL (vp_updL (vp_updL (vp_updL (vp_updL (vp_updL (vp_updL (vp_updL f0 0 1) 1 0) 3 0) 4 0) 5 0) 53 1) 101 (-1)) 6 0) 54 1) 102 (-1))))), (h3, .inl (a2, 48, .inl f2)), (h4, .inl (a3, 48, .inl f3))]) (tr := [(a1, .long), (a0, .long), (a2, .int), (a3, .int)]) hx hb hml hown hg okN (cX6_goesOn_263 l D h0 h1 v0 (.ref h2) v1 v2 (.ref h4) (.ref h3) v3 v4 v5 v6 v7 v8 v9 v10 v11 v12 v13 v14 v15 v16 v17 v18 v19 v20 (vp_updL (vp_updL (vp_updL (vp_updL (vp_updL (vp_updL (vp_updL (vp_updL (vp_updL (vp_updL f0 0 1) 1 0) 3 0) 4 0) 5 0) 53 1) 101 (-1)) 6 0) 54 1) 102 (-1)) a0 rfl) (mwV k1588 k1590 k71 k92 k1591) ⟨rfl, by decide, by decide, by decide +kernel⟩ ⟨rfl, rfl, (Nat.le_of_ble_eq_true rfl), (Nat.le_of_ble_eq_true rfl)⟩ hP hD hK hS xn [1, 2] [] [0, 1, 2, 3, 4] [1] [0, 1, 2, 3] rfl (by decide) rfl rfl (by decide) (by decide) rfl rfl (aNil hA hS) (aNil hA hS) 1 rfl rfl rfl hl.1 rfl (Nat.le_of_ble_eq_true rfl) dX6_bitsOf_27 ⟨(Nat.le_of_ble_eq_true rfl), (Nat.le_of_ble_eq_true rfl)⟩ (fun u H locs hφ hP hD hK hS hk => ?_)
  have hP : va_P D vwCl [(h2, .inl (a1, 609, .inr (.inl y1_1))), (h0, .inr (6, [v0, .ref h1, .ref h2, v1, v2, .ref h4, .ref h3, .int 2, .int 2, v3, v4, v5, v6, v7, v8, v9, v10, v11, v12, v13, v14, v15, v16, v17, v18, v19, v20])), (h1, .inl (a0, 609, .inr (.inl (vp_updL (vp_updL (vp_updL (vp_updL (vp_updL (vp_updL (vp_updL (vp_updL (vp_updL (vp_updL f0 0 1) 1 0) 3 0) 4 0) 5 0) 53 1) 101 (-1)) 6 0) 54 1) 102 (-1))))), (h3, .inl (a2, 48, .inl f2)), (h4, .inl (a3, 48, .inl f3))] H := hP
  have hD : va_D A [(h2, .inl (a1, 609, .inr (.inl y1_1))), (h0, .inr (6, [v0, .ref h1, .ref h2, v1, v2, .ref h4, .ref h3, .int 2, .int 2, v3, v4, v5, v6, v7, v8, v9, v10, v11, v12, v13, v14, v15, v16, v17, v18, v19, v20])), (h1, .inl (a0, 609, .inr (.inl (vp_updL (vp_updL (vp_updL (vp_updL (vp_updL (vp_updL (vp_updL (vp_updL (vp_updL (vp_updL f0 0 1) 1 0) 3 0) 4 0) 5 0) 53 1) 101 (-1)) 6 0) 54 1) 102 (-1))))), (h3, .inl (a2, 48, .inl f2)), (h4, .inl (a3, 48, .inl f3))] := hD
  have hK : va_K D vwCl [(a1, .long), (a0, .long), (a2, .int), (a3, .int)] s := hK
  refine W.widen (k := 0) (n := 0) (Nat.le_of_ble_eq_true rfl) (Nat.le_of_ble_eq_true rfl) ?_
  refine lv_istore_n (lv' := [(3, .int 0), (0, .ref h0), (1, .int 1), (2, .int 0)]) hx hb dX6_bitsOf_30 rfl hl (by decide) rfl (fun ls hl => ?_)
  refine lv_aload_n hx hb dX6_bitsOf_31 rfl (lv_at hl 1 rfl) ?_
  refine cVi (n := 0) (As := []) (rest := []) (wr := [(h2, .inl (a1, 609, .inr (.inl y1_1))), (h0, .inr (6, [v0, .ref h1, .ref h2, v1, v2, .ref h4, .ref h3, .int 2, .int 2, v3, v4, v5, v6, v7, v8, v9, v10, v11, v12, v13, v14, v15, v16, v17, v18, v19, v20])), (h1, .inl (a0, 609, .inr (.inl (vp_updL (vp_updL (vp_updL (vp_updL (vp_updL (vp_updL (vp_updL (vp_updL (vp_updL (vp_updL f0 0 1) 1 0) 3 0) 4 0) 5 0) 53 1) 101 (-1)) 6 0) 54 1) 102 (-1))))), (h3, .inl (a2, 48, .inl f2)), (h4, .inl (a3, 48, .inl f3))]) (tr := [(a1, .long), (a0, .long), (a2, .int), (a3, .int)]) hx hb hml hown hg okN (cX6_bitsNow_133 l D h0 h1 v0 (.ref h2) v1 v2 (.ref h4) (.ref h3) (.int 2) (.int 2) v3 v4 v5 v6 v7 v8 v9 v10 v11 v12 v13 v14 v15 v16 v17 v18 v19 v20 (vp_updL (vp_updL (vp_updL (vp_updL (vp_updL (vp_updL (vp_updL (vp_updL (vp_updL (vp_updL f0 0 1) 1 0) 3 0) 4 0) 5 0) 53 1) 101 (-1)) 6 0) 54 1) 102 (-1)) a0 rfl) (mwV k1506 k1508 k61 k92 k1509) ⟨rfl, by decide, by decide, by decide +kernel⟩ ⟨rfl, rfl, (Nat.le_of_ble_eq_true rfl), (Nat.le_of_ble_eq_true rfl)⟩ hP hD hK hS xn [1, 2] [] [0, 1, 2, 3, 4] [1] [0, 1, 2, 3] rfl (by decide) rfl rfl (by decide) (by decide) rfl rfl (aNil hA hS) (aNil hA hS) 1 rfl rfl rfl hl.1 rfl (Nat.le_of_ble_eq_true rfl) dX6_bitsOf_32 ⟨(Nat.le_of_ble_eq_true rfl), (Nat.le_of_ble_eq_true rfl)⟩ (fun u H locs hφ hP hD hK hS hk => ?_)
  have hP : va_P D vwCl [(h2, .inl (a1, 609, .inr (.inl y1_1))), (h0, .inr (6, [v0, .ref h1, .ref h2, v1, v2, .ref h4, .ref h3, .int 2, .int 2, v3, v4, v5, v6, v7, v8, v9, v10, v11, v12, v13, v14, v15, v16, v17, v18, v19, v20])), (h1, .inl (a0, 609, .inr (.inl (vp_updL (vp_updL (vp_updL (vp_updL (vp_updL (vp_updL (vp_updL (vp_updL (vp_updL (vp_updL f0 0 1) 1 0) 3 0) 4 0) 5 0) 53 1) 101 (-1)) 6 0) 54 1) 102 (-1))))), (h3, .inl (a2, 48, .inl f2)), (h4, .inl (a3, 48, .inl f3))] H := hP
  have hD : va_D A [(h2, .inl (a1, 609, .inr (.inl y1_1))), (h0, .inr (6, [v0, .ref h1, .ref h2, v1, v2, .ref h4, .ref h3, .int 2, .int 2, v3, v4, v5, v6, v7, v8, v9, v10, v11, v12, v13, v14, v15, v16, v17, v18, v19, v20])), (h1, .inl (a0, 609, .inr (.inl (vp_updL (vp_updL (vp_updL (vp_updL (vp_updL (vp_updL (vp_updL (vp_updL (vp_updL (vp_updL f0 0 1) 1 0) 3 0) 4 0) 5 0) 53 1) 101 (-1)) 6 0) 54 1) 102 (-1))))), (h3, .inl (a2, 48, .inl f2)), (h4, .inl (a3, 48, .inl f3))] := hD
  have hK : va_K D vwCl [(a1, .long), (a0, .long), (a2, .int), (a3, .int)] s := hK
  refine W.widen (k := 0) (n := 0) (Nat.le_of_ble_eq_true rfl) (Nat.le_of_ble_eq_true rfl) ?_
  refine lv_istore_n (lv' := [(3, .int 0), (0, .ref h0), (1, .int 1), (2, .int 0)]) hx hb dX6_bitsOf_35 rfl hl (by decide) rfl (fun ls hl => ?_)
  refine lv_aload_n hx hb dX6_bitsOf_36 rfl (lv_at hl 1 rfl) ?_
  refine cVv (n := 0) (As := []) (rest := []) (wr := [(h3, .inl (a2, 48, .inl f2)), (h4, .inl (a3, 48, .inl f3))]) (tr := [(a2, .int), (a3, .int)]) hx hb hml hown hg okN (cX6_takesBack_236 l D h0 h2 h1 v0 v1 v2 (.ref h4) (.ref h3) (.int 2) (.int 2) v3 v4 v5 v6 v7 v8 v9 v10 v11 v12 v13 v14 v15 v16 v17 v18 v19 v20 y1_1 (vp_updL (vp_updL (vp_updL (vp_updL (vp_updL (vp_updL (vp_updL (vp_updL (vp_updL (vp_updL f0 0 1) 1 0) 3 0) 4 0) 5 0) 53 1) 101 (-1)) 6 0) 54 1) 102 (-1)) a1 a0) (mwV k1654 k1656 k80 k92 k1657) ⟨rfl, by decide, by decide, by decide +kernel⟩ ⟨rfl, rfl, (Nat.le_of_ble_eq_true rfl), (Nat.le_of_ble_eq_true rfl)⟩ hP hD hK hS xn [1, 0, 2] [1, 0, 2] [3, 4] [0, 1] [2, 3] rfl (by decide) rfl rfl (by decide) (by decide) rfl rfl (va_free hD hS hA [1, 0, 2] rfl) (va_free hD hS hA [1, 0, 2] rfl) 1 rfl rfl rfl hl.1 rfl (Nat.le_of_ble_eq_true rfl) dX6_bitsOf_37 ⟨(Nat.le_of_ble_eq_true rfl), (Nat.le_of_ble_eq_true rfl)⟩ (fun u H locs hφ hP hD hK hS hk => ?_)
  obtain ⟨y1_2, rfl⟩ : ∃ z, z = u := ⟨_, rfl⟩
  have hP : va_P D vwCl [(h3, .inl (a2, 48, .inl f2)), (h4, .inl (a3, 48, .inl f3)), (h0, .inr (6, [v0, .ref h1, .ref h2, v1, v2, .ref h4, .ref h3, .int 2, .int 2, v3, v4, v5, v6, v7, v8, v9, v10, v11, v12, v13, v14, v15, v16, v17, v18, v19, v20])), (h2, .inl (a1, 609, .inr (.inl y1_1))), (h1, .inl (a0, 609, .inr (.inl y1_2)))] H := hP
  have hD : va_D A [(h3, .inl (a2, 48, .inl f2)), (h4, .inl (a3, 48, .inl f3)), (h0, .inr (6, [v0, .ref h1, .ref h2, v1, v2, .ref h4, .ref h3, .int 2, .int 2, v3, v4, v5, v6, v7, v8, v9, v10, v11, v12, v13, v14, v15, v16, v17, v18, v19, v20])), (h2, .inl (a1, 609, .inr (.inl y1_1))), (h1, .inl (a0, 609, .inr (.inl y1_2)))] := hD
  have hK : va_K D vwCl [(a2, .int), (a3, .int), (a1, .long), (a0, .long)] s := hK
  refine W.widen (k := 0) (n := 0) (Nat.le_of_ble_eq_true rfl) (Nat.le_of_ble_eq_true rfl) ?_
  refine lv_iload_n hx hb dX6_bitsOf_40 rfl (lv_at hl 0 rfl) ?_
  exact fi hx hb hr hlocks hP hD hK hS ((y1_2, y1_1)) trivial rfl [2, 4, 3, 0, 1] [3, 2, 0, 1] rfl (by decide) rfl (Nat.le_of_ble_eq_true rfl) (Nat.le_of_ble_eq_true rfl) dX6_bitsOf_41
set_option maxHeartbeats 4000000 in
set_option maxRecDepth 100000 in
theorem cX6_bitsBy_270 (l : Launch) (D : va_G) (h0 : Nat) (h1 : Nat) (h2 : Nat) (h3 : Nat) (h4 : Nat) (v0 : Value) (v1 : Value) (v2 : Value) (v3 : Value) (v4 : Value) (v5 : Value) (v6 : Value) (v7 : Value) (v8 : Value) (v9 : Value) (v10 : Value) (v11 : Value) (v12 : Value) (v13 : Value) (v14 : Value) (v15 : Value) (v16 : Value) (v17 : Value) (v18 : Value) (v19 : Value) (v20 : Value) (f0 : Nat → Int64) (f1 : Nat → Int64) (f2 : Nat → Int32) (f3 : Nat → Int32) (a0 : ClassId) (a1 : ClassId) (a2 : ClassId) (a3 : ClassId) (ef2_0 : f2 0 = 0) (ef2_1 : f2 1 = 0) (ef3_0 : f3 0 = 0) (ef3_1 : f3 1 = 1)  : CT l yX6_bitsBy cX6_bitsBy 3 (some .int) { frames := 5, cells := 0, slots := 0, locals := 108 } [.ref h0, .int 1, .int 0] D [(h0, .inr (6, [v0, .ref h1, .ref h2, v1, v2, .ref h4, .ref h3, .int 2, .int 2, v3, v4, v5, v6, v7, v8, v9, v10, v11, v12, v13, v14, v15, v16, v17, v18, v19, v20])), (h1, .inl (a0, 609, .inr (.inl f0))), (h2, .inl (a1, 609, .inr (.inl f1))), (h3, .inl (a2, 48, .inl f2)), (h4, .inl (a3, 48, .inl f3))] [(a0, .long), (a1, .long), (a2, .int), (a3, .int)] XN [(h0, .inr (6, [v0, .ref h1, .ref h2, v1, v2, .ref h4, .ref h3, .int 2, .int 2, v3, v4, v5, v6, v7, v8, v9, v10, v11, v12, v13, v14, v15, v16, v17, v18, v19, v20])), (h1, .inl (a0, 609, .inr (.inl f0))), (h2, .inl (a1, 609, .inr (.inl f1))), (h3, .inl (a2, 48, .inl f2)), (h4, .inl (a3, 48, .inl f3))] (ei (fun _ : (Nat → Int64) × (Nat → Int64) => True) (fun u => 0) (fun u => [(h0, .inr (6, [.int 0, .ref h1, .ref h2, v1, v2, .ref h4, .ref h3, .int 2, .int 2, v3, v4, v5, v6, v7, v8, v9, v10, v11, v12, v13, v14, v15, v16, v17, v18, v19, v20])), (h1, .inl (a0, 609, .inr (.inl u.1))), (h2, .inl (a1, 609, .inr (.inl u.2))), (h3, .inl (a2, 48, .inl f2)), (h4, .inl (a3, 48, .inl f3))]) (fun u => [(a0, .long), (a1, .long), (a2, .int), (a3, .int)]) D) 0 0 := by
  refine CT.ofW (by decide +kernel) (Nat.le_of_ble_eq_true rfl) ?_
  intro p e s m below meth c A ls hcs hP hK hD hX hA hS hl
  obtain ⟨hx, hb, hr, hml, hown, hg, hlocks, hin⟩ := hcs
  have hown : s.vm.findClass RX6 = some m.cls := hown
  have hl : lv_has ls 3 [(0, .ref h0), (1, .int 1), (2, .int 0)] := hl
  refine lv_aload_n hx hb dX6_bitsBy_0 rfl (lv_at hl 0 rfl) ?_
  refine lv_iload_n hx hb dX6_bitsBy_1 rfl (lv_at hl 1 rfl) ?_
  refine lv_i2l (v := 1) hx hb dX6_bitsBy_2 (by decide) ?_
  refine lv_lconst (v := 0) hx hb dX6_bitsBy_3 (by decide) ?_
  refine lv_ldc2 hx hb hown (hg _ k1510) dX6_bitsBy_4 ?_
  refine cSi (n := 3) (As := [.long 1, .long 0, .long 2]) (rest := [.ref h0]) (wr := [(h0, .inr (6, [v0, .ref h1, .ref h2, v1, v2, .ref h4, .ref h3, .int 2, .int 2, v3, v4, v5, v6, v7, v8, v9, v10, v11, v12, v13, v14, v15, v16, v17, v18, v19, v20])), (h1, .inl (a0, 609, .inr (.inl f0))), (h2, .inl (a1, 609, .inr (.inl f1))), (h3, .inl (a2, 48, .inl f2)), (h4, .inl (a3, 48, .inl f3))]) (tr := [(a0, .long), (a1, .long), (a2, .int), (a3, .int)]) hx hb hml hown hg okN (cX6_in_146 l D) (mwS k1317 k1318 k92 k1319) ⟨rfl, by decide, by decide, by decide +kernel⟩ ⟨rfl, rfl, (Nat.le_of_ble_eq_true rfl), (Nat.le_of_ble_eq_true rfl)⟩ hP hD hK hS xn [] [] [0, 1, 2, 3, 4] [] [0, 1, 2, 3] rfl (by decide) rfl rfl (by decide) (by decide) rfl rfl (aNil hA hS) (aNil hA hS) rfl hl.1 rfl (Nat.le_of_ble_eq_true rfl) dX6_bitsBy_7 ⟨(Nat.le_of_ble_eq_true rfl), (Nat.le_of_ble_eq_true rfl)⟩ (fun u H locs hφ hP hD hK hS hk => ?_)
  have hP : va_P D vwCl [(h0, .inr (6, [v0, .ref h1, .ref h2, v1, v2, .ref h4, .ref h3, .int 2, .int 2, v3, v4, v5, v6, v7, v8, v9, v10, v11, v12, v13, v14, v15, v16, v17, v18, v19, v20])), (h1, .inl (a0, 609, .inr (.inl f0))), (h2, .inl (a1, 609, .inr (.inl f1))), (h3, .inl (a2, 48, .inl f2)), (h4, .inl (a3, 48, .inl f3))] H := hP
  have hD : va_D A [(h0, .inr (6, [v0, .ref h1, .ref h2, v1, v2, .ref h4, .ref h3, .int 2, .int 2, v3, v4, v5, v6, v7, v8, v9, v10, v11, v12, v13, v14, v15, v16, v17, v18, v19, v20])), (h1, .inl (a0, 609, .inr (.inl f0))), (h2, .inl (a1, 609, .inr (.inl f1))), (h3, .inl (a2, 48, .inl f2)), (h4, .inl (a3, 48, .inl f3))] := hD
  have hK : va_K D vwCl [(a0, .long), (a1, .long), (a2, .int), (a3, .int)] s := hK
  refine W.widen (k := 0) (n := 0) (Nat.le_of_ble_eq_true rfl) (Nat.le_of_ble_eq_true rfl) ?_
  refine lv_if_eq (tgt := 29) hx hb dX6_bitsBy_10 (by decide) (fun c9 => absurd c9 (by decide)) (fun _ => ?_)
  refine lv_iload_n hx hb dX6_bitsBy_13 rfl (lv_at hl 2 rfl) ?_
  refine lv_i2l (v := 0) hx hb dX6_bitsBy_14 (by decide) ?_
  refine lv_lconst (v := 0) hx hb dX6_bitsBy_15 (by decide) ?_
  refine lv_ldc2 hx hb hown (hg _ k1510) dX6_bitsBy_16 ?_
  refine cSi (n := 3) (As := [.long 0, .long 0, .long 2]) (rest := [.ref h0]) (wr := [(h0, .inr (6, [v0, .ref h1, .ref h2, v1, v2, .ref h4, .ref h3, .int 2, .int 2, v3, v4, v5, v6, v7, v8, v9, v10, v11, v12, v13, v14, v15, v16, v17, v18, v19, v20])), (h1, .inl (a0, 609, .inr (.inl f0))), (h2, .inl (a1, 609, .inr (.inl f1))), (h3, .inl (a2, 48, .inl f2)), (h4, .inl (a3, 48, .inl f3))]) (tr := [(a0, .long), (a1, .long), (a2, .int), (a3, .int)]) hx hb hml hown hg okN (cX6_in_143 l D) (mwS k1317 k1318 k92 k1319) ⟨rfl, by decide, by decide, by decide +kernel⟩ ⟨rfl, rfl, (Nat.le_of_ble_eq_true rfl), (Nat.le_of_ble_eq_true rfl)⟩ hP hD hK hS xn [] [] [0, 1, 2, 3, 4] [] [0, 1, 2, 3] rfl (by decide) rfl rfl (by decide) (by decide) rfl rfl (aNil hA hS) (aNil hA hS) rfl hl.1 rfl (Nat.le_of_ble_eq_true rfl) dX6_bitsBy_19 ⟨(Nat.le_of_ble_eq_true rfl), (Nat.le_of_ble_eq_true rfl)⟩ (fun u H locs hφ hP hD hK hS hk => ?_)
  have hP : va_P D vwCl [(h0, .inr (6, [v0, .ref h1, .ref h2, v1, v2, .ref h4, .ref h3, .int 2, .int 2, v3, v4, v5, v6, v7, v8, v9, v10, v11, v12, v13, v14, v15, v16, v17, v18, v19, v20])), (h1, .inl (a0, 609, .inr (.inl f0))), (h2, .inl (a1, 609, .inr (.inl f1))), (h3, .inl (a2, 48, .inl f2)), (h4, .inl (a3, 48, .inl f3))] H := hP
  have hD : va_D A [(h0, .inr (6, [v0, .ref h1, .ref h2, v1, v2, .ref h4, .ref h3, .int 2, .int 2, v3, v4, v5, v6, v7, v8, v9, v10, v11, v12, v13, v14, v15, v16, v17, v18, v19, v20])), (h1, .inl (a0, 609, .inr (.inl f0))), (h2, .inl (a1, 609, .inr (.inl f1))), (h3, .inl (a2, 48, .inl f2)), (h4, .inl (a3, 48, .inl f3))] := hD
  have hK : va_K D vwCl [(a0, .long), (a1, .long), (a2, .int), (a3, .int)] s := hK
  refine W.widen (k := 0) (n := 0) (Nat.le_of_ble_eq_true rfl) (Nat.le_of_ble_eq_true rfl) ?_
  refine lv_if_eq (tgt := 29) hx hb dX6_bitsBy_22 (by decide) (fun c9 => absurd c9 (by decide)) (fun _ => ?_)
  refine lv_iconst (v := 0) hx hb dX6_bitsBy_25 (by decide) ?_
  refine lv_goto (tgt := 30) hx hb dX6_bitsBy_26 (by decide) ?_
  refine va_put (D := D) (ci := 6) (v := .int 0) (ty := .int) (C := RX6) (T := TX6) (N := 27) hx hb hg inX6 tyX6 tyX6_ok nmX6 hown hK hP hD hS 0 rfl rfl 0 (by decide) (hg _ k1219) (fun _ h9 => h9) rfl (by decide +kernel) rfl rfl (Nat.le_of_ble_eq_true rfl) dX6_bitsBy_30 (fun H locs hP hD hS => ?_)
  have hP : va_P D vwCl [(h0, .inr (6, [.int 0, .ref h1, .ref h2, v1, v2, .ref h4, .ref h3, .int 2, .int 2, v3, v4, v5, v6, v7, v8, v9, v10, v11, v12, v13, v14, v15, v16, v17, v18, v19, v20])), (h1, .inl (a0, 609, .inr (.inl f0))), (h2, .inl (a1, 609, .inr (.inl f1))), (h3, .inl (a2, 48, .inl f2)), (h4, .inl (a3, 48, .inl f3))] H := hP
  have hD : va_D A [(h0, .inr (6, [.int 0, .ref h1, .ref h2, v1, v2, .ref h4, .ref h3, .int 2, .int 2, v3, v4, v5, v6, v7, v8, v9, v10, v11, v12, v13, v14, v15, v16, v17, v18, v19, v20])), (h1, .inl (a0, 609, .inr (.inl f0))), (h2, .inl (a1, 609, .inr (.inl f1))), (h3, .inl (a2, 48, .inl f2)), (h4, .inl (a3, 48, .inl f3))] := hD
  refine lv_aload_n hx hb dX6_bitsBy_33 rfl (lv_at hl 0 rfl) ?_
  refine va_get (D := D) (ci := 6) (v := .int 0) (C := RX6) (T := TX6) (N := 27) hx hb hg inX6 hown hK hP 0 rfl rfl 0 (by decide) (hg _ k1219) (fun _ h9 => h9) rfl dX6_bitsBy_34 ?_
  refine lv_if_le (tgt := 44) hx hb dX6_bitsBy_37 (by decide) (fun _ => ?_) (fun c9 => absurd (by decide) c9)
  refine lv_aload_n hx hb dX6_bitsBy_44 rfl (lv_at hl 0 rfl) ?_
  refine lv_iload_n hx hb dX6_bitsBy_45 rfl (lv_at hl 1 rfl) ?_
  refine lv_iload_n hx hb dX6_bitsBy_46 rfl (lv_at hl 2 rfl) ?_
  refine cVi (n := 2) (As := [.int 1, .int 0]) (rest := []) (wr := []) (tr := []) hx hb hml hown hg okN (cX6_bitsOf_271 l D h0 h1 h2 h3 h4 (.int 0) v1 v2 v3 v4 v5 v6 v7 v8 v9 v10 v11 v12 v13 v14 v15 v16 v17 v18 v19 v20 f0 f1 f2 f3 a0 a1 a2 a3 ef2_0 ef2_1 ef3_0 ef3_1) (mwV k1674 k1676 k82 k92 k1677) ⟨rfl, by decide, by decide, by decide +kernel⟩ ⟨rfl, rfl, (Nat.le_of_ble_eq_true rfl), (Nat.le_of_ble_eq_true rfl)⟩ hP hD hK hS xn [0, 1, 2, 3, 4] [0, 1, 2, 3, 4] [] [0, 1, 2, 3] [] rfl (by decide) rfl rfl (by decide) (by decide) rfl rfl (va_free hD hS hA [0, 1, 2, 3, 4] rfl) (va_free hD hS hA [0, 1, 2, 3, 4] rfl) 0 rfl rfl rfl hl.1 rfl (Nat.le_of_ble_eq_true rfl) dX6_bitsBy_47 ⟨(Nat.le_of_ble_eq_true rfl), (Nat.le_of_ble_eq_true rfl)⟩ (fun u H locs hφ hP hD hK hS hk => ?_)
  obtain ⟨y0_1, y0_2⟩ := u
  have hP : va_P D vwCl [(h0, .inr (6, [.int 0, .ref h1, .ref h2, v1, v2, .ref h4, .ref h3, .int 2, .int 2, v3, v4, v5, v6, v7, v8, v9, v10, v11, v12, v13, v14, v15, v16, v17, v18, v19, v20])), (h1, .inl (a0, 609, .inr (.inl y0_1))), (h2, .inl (a1, 609, .inr (.inl y0_2))), (h3, .inl (a2, 48, .inl f2)), (h4, .inl (a3, 48, .inl f3))] H := hP
  have hD : va_D A [(h0, .inr (6, [.int 0, .ref h1, .ref h2, v1, v2, .ref h4, .ref h3, .int 2, .int 2, v3, v4, v5, v6, v7, v8, v9, v10, v11, v12, v13, v14, v15, v16, v17, v18, v19, v20])), (h1, .inl (a0, 609, .inr (.inl y0_1))), (h2, .inl (a1, 609, .inr (.inl y0_2))), (h3, .inl (a2, 48, .inl f2)), (h4, .inl (a3, 48, .inl f3))] := hD
  have hK : va_K D vwCl [(a0, .long), (a1, .long), (a2, .int), (a3, .int)] s := hK
  refine W.widen (k := 0) (n := 0) (Nat.le_of_ble_eq_true rfl) (Nat.le_of_ble_eq_true rfl) ?_
  exact fi hx hb hr hlocks hP hD hK hS ((y0_1, y0_2)) trivial rfl [0, 1, 2, 3, 4] [0, 1, 2, 3] rfl (by decide) rfl (Nat.le_of_ble_eq_true rfl) (Nat.le_of_ble_eq_true rfl) dX6_bitsBy_50
set_option maxHeartbeats 4000000 in
set_option maxRecDepth 100000 in
theorem cX6_bitsOf_273 (l : Launch) (D : va_G) (h0 : Nat) (h1 : Nat) (h2 : Nat) (h3 : Nat) (h4 : Nat) (v0 : Value) (v1 : Value) (v2 : Value) (v3 : Value) (v4 : Value) (v5 : Value) (v6 : Value) (v7 : Value) (v8 : Value) (v9 : Value) (v10 : Value) (v11 : Value) (v12 : Value) (v13 : Value) (v14 : Value) (v15 : Value) (v16 : Value) (v17 : Value) (v18 : Value) (v19 : Value) (v20 : Value) (f0 : Nat → Int64) (f1 : Nat → Int64) (f2 : Nat → Int32) (f3 : Nat → Int32) (a0 : ClassId) (a1 : ClassId) (a2 : ClassId) (a3 : ClassId) (ef2_0 : f2 0 = 0) (ef2_1 : f2 1 = 0) (ef3_0 : f3 0 = 0) (ef3_1 : f3 1 = 1)  : CT l yX6_bitsOf cX6_bitsOf 4 (some .int) { frames := 4, cells := 0, slots := 0, locals := 85 } [.ref h0, .int 1, .int 1] D [(h0, .inr (6, [v0, .ref h1, .ref h2, v1, v2, .ref h4, .ref h3, .int 2, .int 2, v3, v4, v5, v6, v7, v8, v9, v10, v11, v12, v13, v14, v15, v16, v17, v18, v19, v20])), (h1, .inl (a0, 609, .inr (.inl f0))), (h2, .inl (a1, 609, .inr (.inl f1))), (h3, .inl (a2, 48, .inl f2)), (h4, .inl (a3, 48, .inl f3))] [(a0, .long), (a1, .long), (a2, .int), (a3, .int)] XN [(h0, .inr (6, [v0, .ref h1, .ref h2, v1, v2, .ref h4, .ref h3, .int 2, .int 2, v3, v4, v5, v6, v7, v8, v9, v10, v11, v12, v13, v14, v15, v16, v17, v18, v19, v20])), (h1, .inl (a0, 609, .inr (.inl f0))), (h2, .inl (a1, 609, .inr (.inl f1))), (h3, .inl (a2, 48, .inl f2)), (h4, .inl (a3, 48, .inl f3))] (ei (fun _ : (Nat → Int64) × (Nat → Int64) => True) (fun u => 0) (fun u => [(h0, .inr (6, [v0, .ref h1, .ref h2, v1, v2, .ref h4, .ref h3, .int 2, .int 2, v3, v4, v5, v6, v7, v8, v9, v10, v11, v12, v13, v14, v15, v16, v17, v18, v19, v20])), (h1, .inl (a0, 609, .inr (.inl u.1))), (h2, .inl (a1, 609, .inr (.inl u.2))), (h3, .inl (a2, 48, .inl f2)), (h4, .inl (a3, 48, .inl f3))]) (fun u => [(a0, .long), (a1, .long), (a2, .int), (a3, .int)]) D) 0 0 := by
  refine CT.ofW (by decide +kernel) (Nat.le_of_ble_eq_true rfl) ?_
  intro p e s m below meth c A ls hcs hP hK hD hX hA hS hl
  obtain ⟨hx, hb, hr, hml, hown, hg, hlocks, hin⟩ := hcs
  have hown : s.vm.findClass RX6 = some m.cls := hown
  have hl : lv_has ls 4 [(0, .ref h0), (1, .int 1), (2, .int 1)] := hl
  refine lv_aload_n hx hb dX6_bitsOf_0 rfl (lv_at hl 0 rfl) ?_
  refine cVv (n := 0) (As := []) (rest := []) (wr := [(h3, .inl (a2, 48, .inl f2)), (h4, .inl (a3, 48, .inl f3))]) (tr := [(a2, .int), (a3, .int)]) hx hb hml hown hg okN (cX6_puts_234 l D h0 h1 h2 v0 v1 v2 (.ref h4) (.ref h3) (.int 2) (.int 2) v3 v4 v5 v6 v7 v8 v9 v10 v11 v12 v13 v14 v15 v16 v17 v18 v19 v20 f0 f1 a0 a1) (mwV k1646 k1648 k78 k92 k1649) ⟨rfl, by decide, by decide, by decide +kernel⟩ ⟨rfl, rfl, (Nat.le_of_ble_eq_true rfl), (Nat.le_of_ble_eq_true rfl)⟩ hP hD hK hS xn [0, 1, 2] [0, 1, 2] [3, 4] [0, 1] [2, 3] rfl (by decide) rfl rfl (by decide) (by decide) rfl rfl (va_free hD hS hA [0, 1, 2] rfl) (va_free hD hS hA [0, 1, 2] rfl) 0 rfl rfl rfl hl.1 rfl (Nat.le_of_ble_eq_true rfl) dX6_bitsOf_1 ⟨(Nat.le_of_ble_eq_true rfl), (Nat.le_of_ble_eq_true rfl)⟩ (fun u H locs hφ hP hD hK hS hk => ?_)
  obtain ⟨y1_1, rfl⟩ : ∃ z, z = u := ⟨_, rfl⟩
  have hP : va_P D vwCl [(h3, .inl (a2, 48, .inl f2)), (h4, .inl (a3, 48, .inl f3)), (h0, .inr (6, [v0, .ref h1, .ref h2, v1, v2, .ref h4, .ref h3, .int 2, .int 2, v3, v4, v5, v6, v7, v8, v9, v10, v11, v12, v13, v14, v15, v16, v17, v18, v19, v20])), (h1, .inl (a0, 609, .inr (.inl f0))), (h2, .inl (a1, 609, .inr (.inl y1_1)))] H := hP
  have hD : va_D A [(h3, .inl (a2, 48, .inl f2)), (h4, .inl (a3, 48, .inl f3)), (h0, .inr (6, [v0, .ref h1, .ref h2, v1, v2, .ref h4, .ref h3, .int 2, .int 2, v3, v4, v5, v6, v7, v8, v9, v10, v11, v12, v13, v14, v15, v16, v17, v18, v19, v20])), (h1, .inl (a0, 609, .inr (.inl f0))), (h2, .inl (a1, 609, .inr (.inl y1_1)))] := hD
  have hK : va_K D vwCl [(a2, .int), (a3, .int), (a0, .long), (a1, .long)] s := hK
  refine W.widen (k := 0) (n := 0) (Nat.le_of_ble_eq_true rfl) (Nat.le_of_ble_eq_true rfl) ?_
  refine lv_aload_n hx hb dX6_bitsOf_4 rfl (lv_at hl 0 rfl) ?_
  refine va_get (D := D) (ci := 6) (v := .ref h1) (C := RX6) (T := TX6) (N := 27) hx hb hg inX6 hown hK hP 2 rfl rfl 1 (by decide) (hg _ k1220) (fun _ h9 => h9) rfl dX6_bitsOf_5 ?_
  refine lv_iconst (v := 0) hx hb dX6_bitsOf_8 (by decide) ?_
  refine lv_iload_n hx hb dX6_bitsOf_9 rfl (lv_at hl 1 rfl) ?_
  refine lv_i2l (v := 1) hx hb dX6_bitsOf_10 (by decide) ?_
  refine astL hx hb hK hP hD hS 3 2 rfl rfl 0 (by decide) (vin (by decide)) dX6_bitsOf_11 (fun H locs hP hD hS => ?_)
  have hP : va_P D vwCl [(h3, .inl (a2, 48, .inl f2)), (h4, .inl (a3, 48, .inl f3)), (h0, .inr (6, [v0, .ref h1, .ref h2, v1, v2, .ref h4, .ref h3, .int 2, .int 2, v3, v4, v5, v6, v7, v8, v9, v10, v11, v12, v13, v14, v15, v16, v17, v18, v19, v20])), (h1, .inl (a0, 609, .inr (.inl (vp_updL f0 0 1)))), (h2, .inl (a1, 609, .inr (.inl y1_1)))] H := hP
  have hD : va_D A [(h3, .inl (a2, 48, .inl f2)), (h4, .inl (a3, 48, .inl f3)), (h0, .inr (6, [v0, .ref h1, .ref h2, v1, v2, .ref h4, .ref h3, .int 2, .int 2, v3, v4, v5, v6, v7, v8, v9, v10, v11, v12, v13, v14, v15, v16, v17, v18, v19, v20])), (h1, .inl (a0, 609, .inr (.inl (vp_updL f0 0 1)))), (h2, .inl (a1, 609, .inr (.inl y1_1)))] := hD
  refine lv_aload_n hx hb dX6_bitsOf_12 rfl (lv_at hl 0 rfl) ?_
  refine va_get (D := D) (ci := 6) (v := .ref h1) (C := RX6) (T := TX6) (N := 27) hx hb hg inX6 hown hK hP 2 rfl rfl 1 (by decide) (hg _ k1220) (fun _ h9 => h9) rfl dX6_bitsOf_13 ?_
  refine lv_iconst (v := 1) hx hb dX6_bitsOf_16 (by decide) ?_
  refine lv_iload_n hx hb dX6_bitsOf_17 rfl (lv_at hl 2 rfl) ?_
  refine lv_i2l (v := 1) hx hb dX6_bitsOf_18 (by decide) ?_
  refine astL hx hb hK hP hD hS 3 2 rfl rfl 1 (by decide) (vin (by decide)) dX6_bitsOf_19 (fun H locs hP hD hS => ?_)
  have hP : va_P D vwCl [(h3, .inl (a2, 48, .inl f2)), (h4, .inl (a3, 48, .inl f3)), (h0, .inr (6, [v0, .ref h1, .ref h2, v1, v2, .ref h4, .ref h3, .int 2, .int 2, v3, v4, v5, v6, v7, v8, v9, v10, v11, v12, v13, v14, v15, v16, v17, v18, v19, v20])), (h1, .inl (a0, 609, .inr (.inl (vp_updL (vp_updL f0 0 1) 1 1)))), (h2, .inl (a1, 609, .inr (.inl y1_1)))] H := hP
  have hD : va_D A [(h3, .inl (a2, 48, .inl f2)), (h4, .inl (a3, 48, .inl f3)), (h0, .inr (6, [v0, .ref h1, .ref h2, v1, v2, .ref h4, .ref h3, .int 2, .int 2, v3, v4, v5, v6, v7, v8, v9, v10, v11, v12, v13, v14, v15, v16, v17, v18, v19, v20])), (h1, .inl (a0, 609, .inr (.inl (vp_updL (vp_updL f0 0 1) 1 1)))), (h2, .inl (a1, 609, .inr (.inl y1_1)))] := hD
  refine lv_aload_n hx hb dX6_bitsOf_20 rfl (lv_at hl 0 rfl) ?_
  refine cVv (n := 0) (As := []) (rest := []) (wr := [(h2, .inl (a1, 609, .inr (.inl y1_1)))]) (tr := [(a1, .long)]) hx hb hml hown hg okN (cX6_anew_186 l D h0 h1 h3 h4 v0 (.ref h2) v1 v2 (.int 2) v3 v4 v5 v6 v7 v8 v9 v10 v11 v12 v13 v14 v15 v16 v17 v18 v19 v20 (vp_updL (vp_updL f0 0 1) 1 1) f2 f3 a0 a2 a3 ef2_0 ef2_1 ef3_0 ef3_1) (mwV k1214 k1216 k35 k92 k1217) ⟨rfl, by decide, by decide, by decide +kernel⟩ ⟨rfl, rfl, (Nat.le_of_ble_eq_true rfl), (Nat.le_of_ble_eq_true rfl)⟩ hP hD hK hS xn [2, 3, 0, 1] [2, 3, 0, 1] [4] [2, 0, 1] [3] rfl (by decide) rfl rfl (by decide) (by decide) rfl rfl (va_free hD hS hA [2, 3, 0, 1] rfl) (va_free hD hS hA [2, 3, 0, 1] rfl) 2 rfl rfl rfl hl.1 rfl (Nat.le_of_ble_eq_true rfl) dX6_bitsOf_21 ⟨(Nat.le_of_ble_eq_true rfl), (Nat.le_of_ble_eq_true rfl)⟩ (fun u H locs hφ hP hD hK hS hk => ?_)
  have hP : va_P D vwCl [(h2, .inl (a1, 609, .inr (.inl y1_1))), (h0, .inr (6, [v0, .ref h1, .ref h2, v1, v2, .ref h4, .ref h3, .int 2, .int 2, v3, v4, v5, v6, v7, v8, v9, v10, v11, v12, v13, v14, v15, v16, v17, v18, v19, v20])), (h1, .inl (a0, 609, .inr (.inl (vp_updL (vp_updL (vp_updL (vp_updL (vp_updL (vp_updL (vp_updL (vp_updL (vp_updL (vp_updL f0 0 1) 1 1) 3 0) 4 0) 5 0) 53 1) 101 (-1)) 6 0) 54 1) 102 (-1))))), (h3, .inl (a2, 48, .inl f2)), (h4, .inl (a3, 48, .inl f3))] H := hP
  have hD : va_D A [(h2, .inl (a1, 609, .inr (.inl y1_1))), (h0, .inr (6, [v0, .ref h1, .ref h2, v1, v2, .ref h4, .ref h3, .int 2, .int 2, v3, v4, v5, v6, v7, v8, v9, v10, v11, v12, v13, v14, v15, v16, v17, v18, v19, v20])), (h1, .inl (a0, 609, .inr (.inl (vp_updL (vp_updL (vp_updL (vp_updL (vp_updL (vp_updL (vp_updL (vp_updL (vp_updL (vp_updL f0 0 1) 1 1) 3 0) 4 0) 5 0) 53 1) 101 (-1)) 6 0) 54 1) 102 (-1))))), (h3, .inl (a2, 48, .inl f2)), (h4, .inl (a3, 48, .inl f3))] := hD
  have hK : va_K D vwCl [(a1, .long), (a0, .long), (a2, .int), (a3, .int)] s := hK
  refine W.widen (k := 0) (n := 0) (Nat.le_of_ble_eq_true rfl) (Nat.le_of_ble_eq_true rfl) ?_
  refine lv_aload_n hx hb dX6_bitsOf_24 rfl (lv_at hl 0 rfl) ?_
  refine lv_bipush (v := 46) hx hb dX6_bitsOf_25 (by decide) ?_
  refine cVi (n := 1) (As := [.int 46]) (rest := []) (wr := [(h2, .inl (a1, 609, .inr (.inl y1_1))), (h0, .inr (6, [v0, .ref h1, .ref h2, v1, v2, .ref h4, .ref h3, .int 2, .int 2, v3, v4, v5, v6, v7, v8, v9, v10, v11, v12, v13, v14, v15, v16, v17, v18, v19, v20])), (h1, .inl (a0, 609, .inr (.inl (vp_updL (vp_updL (vp_updL (vp_updL (vp_updL (vp_updL (vp_updL (vp_updL (vp_updL (vp_updL f0 0 1) 1 1) 3 0) 4 0) 5 0) 53 1) 101 (-1)) 6 0) 54 1) 102 (-1))))), (h3, .inl (a2, 48, .inl f2)), (h4, .inl (a3, 48, .inl f3))]) (tr := [(a1, .long), (a0, .long), (a2, .int), (a3, .int)]) hx hb hml hown hg okN (cX6_goesOn_263 l D h0 h1 v0 (.ref h2) v1 v2 (.ref h4) (.ref h3) v3 v4 v5 v6 v7 v8 v9 v10 v11 v12 v13 v14 v15 v16 v17 v18 v19 v20 (vp_updL (vp_updL (vp_updL (vp_updL (vp_updL (vp_updL (vp_updL (vp_updL (vp_updL (vp_updL f0 0 1) 1 1) 3 0) 4 0) 5 0) 53 1) 101 (-1)) 6 0) 54 1) 102 (-1)) a0 rfl) (mwV k1588 k1590 k71 k92 k1591) ⟨rfl, by decide, by decide, by decide +kernel⟩ ⟨rfl, rfl, (Nat.le_of_ble_eq_true rfl), (Nat.le_of_ble_eq_true rfl)⟩ hP hD hK hS xn [1, 2] [] [0, 1, 2, 3, 4] [1] [0, 1, 2, 3] rfl (by decide) rfl rfl (by decide) (by decide) rfl rfl (aNil hA hS) (aNil hA hS) 1 rfl rfl rfl hl.1 rfl (Nat.le_of_ble_eq_true rfl) dX6_bitsOf_27 ⟨(Nat.le_of_ble_eq_true rfl), (Nat.le_of_ble_eq_true rfl)⟩ (fun u H locs hφ hP hD hK hS hk => ?_)
  have hP : va_P D vwCl [(h2, .inl (a1, 609, .inr (.inl y1_1))), (h0, .inr (6, [v0, .ref h1, .ref h2, v1, v2, .ref h4, .ref h3, .int 2, .int 2, v3, v4, v5, v6, v7, v8, v9, v10, v11, v12, v13, v14, v15, v16, v17, v18, v19, v20])), (h1, .inl (a0, 609, .inr (.inl (vp_updL (vp_updL (vp_updL (vp_updL (vp_updL (vp_updL (vp_updL (vp_updL (vp_updL (vp_updL f0 0 1) 1 1) 3 0) 4 0) 5 0) 53 1) 101 (-1)) 6 0) 54 1) 102 (-1))))), (h3, .inl (a2, 48, .inl f2)), (h4, .inl (a3, 48, .inl f3))] H := hP
  have hD : va_D A [(h2, .inl (a1, 609, .inr (.inl y1_1))), (h0, .inr (6, [v0, .ref h1, .ref h2, v1, v2, .ref h4, .ref h3, .int 2, .int 2, v3, v4, v5, v6, v7, v8, v9, v10, v11, v12, v13, v14, v15, v16, v17, v18, v19, v20])), (h1, .inl (a0, 609, .inr (.inl (vp_updL (vp_updL (vp_updL (vp_updL (vp_updL (vp_updL (vp_updL (vp_updL (vp_updL (vp_updL f0 0 1) 1 1) 3 0) 4 0) 5 0) 53 1) 101 (-1)) 6 0) 54 1) 102 (-1))))), (h3, .inl (a2, 48, .inl f2)), (h4, .inl (a3, 48, .inl f3))] := hD
  have hK : va_K D vwCl [(a1, .long), (a0, .long), (a2, .int), (a3, .int)] s := hK
  refine W.widen (k := 0) (n := 0) (Nat.le_of_ble_eq_true rfl) (Nat.le_of_ble_eq_true rfl) ?_
  refine lv_istore_n (lv' := [(3, .int 0), (0, .ref h0), (1, .int 1), (2, .int 1)]) hx hb dX6_bitsOf_30 rfl hl (by decide) rfl (fun ls hl => ?_)
  refine lv_aload_n hx hb dX6_bitsOf_31 rfl (lv_at hl 1 rfl) ?_
  refine cVi (n := 0) (As := []) (rest := []) (wr := [(h2, .inl (a1, 609, .inr (.inl y1_1))), (h0, .inr (6, [v0, .ref h1, .ref h2, v1, v2, .ref h4, .ref h3, .int 2, .int 2, v3, v4, v5, v6, v7, v8, v9, v10, v11, v12, v13, v14, v15, v16, v17, v18, v19, v20])), (h1, .inl (a0, 609, .inr (.inl (vp_updL (vp_updL (vp_updL (vp_updL (vp_updL (vp_updL (vp_updL (vp_updL (vp_updL (vp_updL f0 0 1) 1 1) 3 0) 4 0) 5 0) 53 1) 101 (-1)) 6 0) 54 1) 102 (-1))))), (h3, .inl (a2, 48, .inl f2)), (h4, .inl (a3, 48, .inl f3))]) (tr := [(a1, .long), (a0, .long), (a2, .int), (a3, .int)]) hx hb hml hown hg okN (cX6_bitsNow_133 l D h0 h1 v0 (.ref h2) v1 v2 (.ref h4) (.ref h3) (.int 2) (.int 2) v3 v4 v5 v6 v7 v8 v9 v10 v11 v12 v13 v14 v15 v16 v17 v18 v19 v20 (vp_updL (vp_updL (vp_updL (vp_updL (vp_updL (vp_updL (vp_updL (vp_updL (vp_updL (vp_updL f0 0 1) 1 1) 3 0) 4 0) 5 0) 53 1) 101 (-1)) 6 0) 54 1) 102 (-1)) a0 rfl) (mwV k1506 k1508 k61 k92 k1509) ⟨rfl, by decide, by decide, by decide +kernel⟩ ⟨rfl, rfl, (Nat.le_of_ble_eq_true rfl), (Nat.le_of_ble_eq_true rfl)⟩ hP hD hK hS xn [1, 2] [] [0, 1, 2, 3, 4] [1] [0, 1, 2, 3] rfl (by decide) rfl rfl (by decide) (by decide) rfl rfl (aNil hA hS) (aNil hA hS) 1 rfl rfl rfl hl.1 rfl (Nat.le_of_ble_eq_true rfl) dX6_bitsOf_32 ⟨(Nat.le_of_ble_eq_true rfl), (Nat.le_of_ble_eq_true rfl)⟩ (fun u H locs hφ hP hD hK hS hk => ?_)
  have hP : va_P D vwCl [(h2, .inl (a1, 609, .inr (.inl y1_1))), (h0, .inr (6, [v0, .ref h1, .ref h2, v1, v2, .ref h4, .ref h3, .int 2, .int 2, v3, v4, v5, v6, v7, v8, v9, v10, v11, v12, v13, v14, v15, v16, v17, v18, v19, v20])), (h1, .inl (a0, 609, .inr (.inl (vp_updL (vp_updL (vp_updL (vp_updL (vp_updL (vp_updL (vp_updL (vp_updL (vp_updL (vp_updL f0 0 1) 1 1) 3 0) 4 0) 5 0) 53 1) 101 (-1)) 6 0) 54 1) 102 (-1))))), (h3, .inl (a2, 48, .inl f2)), (h4, .inl (a3, 48, .inl f3))] H := hP
  have hD : va_D A [(h2, .inl (a1, 609, .inr (.inl y1_1))), (h0, .inr (6, [v0, .ref h1, .ref h2, v1, v2, .ref h4, .ref h3, .int 2, .int 2, v3, v4, v5, v6, v7, v8, v9, v10, v11, v12, v13, v14, v15, v16, v17, v18, v19, v20])), (h1, .inl (a0, 609, .inr (.inl (vp_updL (vp_updL (vp_updL (vp_updL (vp_updL (vp_updL (vp_updL (vp_updL (vp_updL (vp_updL f0 0 1) 1 1) 3 0) 4 0) 5 0) 53 1) 101 (-1)) 6 0) 54 1) 102 (-1))))), (h3, .inl (a2, 48, .inl f2)), (h4, .inl (a3, 48, .inl f3))] := hD
  have hK : va_K D vwCl [(a1, .long), (a0, .long), (a2, .int), (a3, .int)] s := hK
  refine W.widen (k := 0) (n := 0) (Nat.le_of_ble_eq_true rfl) (Nat.le_of_ble_eq_true rfl) ?_
  refine lv_istore_n (lv' := [(3, .int 0), (0, .ref h0), (1, .int 1), (2, .int 1)]) hx hb dX6_bitsOf_35 rfl hl (by decide) rfl (fun ls hl => ?_)
  refine lv_aload_n hx hb dX6_bitsOf_36 rfl (lv_at hl 1 rfl) ?_
  refine cVv (n := 0) (As := []) (rest := []) (wr := [(h3, .inl (a2, 48, .inl f2)), (h4, .inl (a3, 48, .inl f3))]) (tr := [(a2, .int), (a3, .int)]) hx hb hml hown hg okN (cX6_takesBack_236 l D h0 h2 h1 v0 v1 v2 (.ref h4) (.ref h3) (.int 2) (.int 2) v3 v4 v5 v6 v7 v8 v9 v10 v11 v12 v13 v14 v15 v16 v17 v18 v19 v20 y1_1 (vp_updL (vp_updL (vp_updL (vp_updL (vp_updL (vp_updL (vp_updL (vp_updL (vp_updL (vp_updL f0 0 1) 1 1) 3 0) 4 0) 5 0) 53 1) 101 (-1)) 6 0) 54 1) 102 (-1)) a1 a0) (mwV k1654 k1656 k80 k92 k1657) ⟨rfl, by decide, by decide, by decide +kernel⟩ ⟨rfl, rfl, (Nat.le_of_ble_eq_true rfl), (Nat.le_of_ble_eq_true rfl)⟩ hP hD hK hS xn [1, 0, 2] [1, 0, 2] [3, 4] [0, 1] [2, 3] rfl (by decide) rfl rfl (by decide) (by decide) rfl rfl (va_free hD hS hA [1, 0, 2] rfl) (va_free hD hS hA [1, 0, 2] rfl) 1 rfl rfl rfl hl.1 rfl (Nat.le_of_ble_eq_true rfl) dX6_bitsOf_37 ⟨(Nat.le_of_ble_eq_true rfl), (Nat.le_of_ble_eq_true rfl)⟩ (fun u H locs hφ hP hD hK hS hk => ?_)
  obtain ⟨y1_2, rfl⟩ : ∃ z, z = u := ⟨_, rfl⟩
  have hP : va_P D vwCl [(h3, .inl (a2, 48, .inl f2)), (h4, .inl (a3, 48, .inl f3)), (h0, .inr (6, [v0, .ref h1, .ref h2, v1, v2, .ref h4, .ref h3, .int 2, .int 2, v3, v4, v5, v6, v7, v8, v9, v10, v11, v12, v13, v14, v15, v16, v17, v18, v19, v20])), (h2, .inl (a1, 609, .inr (.inl y1_1))), (h1, .inl (a0, 609, .inr (.inl y1_2)))] H := hP
  have hD : va_D A [(h3, .inl (a2, 48, .inl f2)), (h4, .inl (a3, 48, .inl f3)), (h0, .inr (6, [v0, .ref h1, .ref h2, v1, v2, .ref h4, .ref h3, .int 2, .int 2, v3, v4, v5, v6, v7, v8, v9, v10, v11, v12, v13, v14, v15, v16, v17, v18, v19, v20])), (h2, .inl (a1, 609, .inr (.inl y1_1))), (h1, .inl (a0, 609, .inr (.inl y1_2)))] := hD
  have hK : va_K D vwCl [(a2, .int), (a3, .int), (a1, .long), (a0, .long)] s := hK
  refine W.widen (k := 0) (n := 0) (Nat.le_of_ble_eq_true rfl) (Nat.le_of_ble_eq_true rfl) ?_
  refine lv_iload_n hx hb dX6_bitsOf_40 rfl (lv_at hl 0 rfl) ?_
  exact fi hx hb hr hlocks hP hD hK hS ((y1_2, y1_1)) trivial rfl [2, 4, 3, 0, 1] [3, 2, 0, 1] rfl (by decide) rfl (Nat.le_of_ble_eq_true rfl) (Nat.le_of_ble_eq_true rfl) dX6_bitsOf_41
set_option maxHeartbeats 4000000 in
set_option maxRecDepth 100000 in
theorem cX6_bitsBy_272 (l : Launch) (D : va_G) (h0 : Nat) (h1 : Nat) (h2 : Nat) (h3 : Nat) (h4 : Nat) (v0 : Value) (v1 : Value) (v2 : Value) (v3 : Value) (v4 : Value) (v5 : Value) (v6 : Value) (v7 : Value) (v8 : Value) (v9 : Value) (v10 : Value) (v11 : Value) (v12 : Value) (v13 : Value) (v14 : Value) (v15 : Value) (v16 : Value) (v17 : Value) (v18 : Value) (v19 : Value) (v20 : Value) (f0 : Nat → Int64) (f1 : Nat → Int64) (f2 : Nat → Int32) (f3 : Nat → Int32) (a0 : ClassId) (a1 : ClassId) (a2 : ClassId) (a3 : ClassId) (ef2_0 : f2 0 = 0) (ef2_1 : f2 1 = 0) (ef3_0 : f3 0 = 0) (ef3_1 : f3 1 = 1)  : CT l yX6_bitsBy cX6_bitsBy 3 (some .int) { frames := 5, cells := 0, slots := 0, locals := 108 } [.ref h0, .int 1, .int 1] D [(h0, .inr (6, [v0, .ref h1, .ref h2, v1, v2, .ref h4, .ref h3, .int 2, .int 2, v3, v4, v5, v6, v7, v8, v9, v10, v11, v12, v13, v14, v15, v16, v17, v18, v19, v20])), (h1, .inl (a0, 609, .inr (.inl f0))), (h2, .inl (a1, 609, .inr (.inl f1))), (h3, .inl (a2, 48, .inl f2)), (h4, .inl (a3, 48, .inl f3))] [(a0, .long), (a1, .long), (a2, .int), (a3, .int)] XN [(h0, .inr (6, [v0, .ref h1, .ref h2, v1, v2, .ref h4, .ref h3, .int 2, .int 2, v3, v4, v5, v6, v7, v8, v9, v10, v11, v12, v13, v14, v15, v16, v17, v18, v19, v20])), (h1, .inl (a0, 609, .inr (.inl f0))), (h2, .inl (a1, 609, .inr (.inl f1))), (h3, .inl (a2, 48, .inl f2)), (h4, .inl (a3, 48, .inl f3))] (ei (fun _ : (Nat → Int64) × (Nat → Int64) => True) (fun u => 0) (fun u => [(h0, .inr (6, [.int 0, .ref h1, .ref h2, v1, v2, .ref h4, .ref h3, .int 2, .int 2, v3, v4, v5, v6, v7, v8, v9, v10, v11, v12, v13, v14, v15, v16, v17, v18, v19, v20])), (h1, .inl (a0, 609, .inr (.inl u.1))), (h2, .inl (a1, 609, .inr (.inl u.2))), (h3, .inl (a2, 48, .inl f2)), (h4, .inl (a3, 48, .inl f3))]) (fun u => [(a0, .long), (a1, .long), (a2, .int), (a3, .int)]) D) 0 0 := by
  refine CT.ofW (by decide +kernel) (Nat.le_of_ble_eq_true rfl) ?_
  intro p e s m below meth c A ls hcs hP hK hD hX hA hS hl
  obtain ⟨hx, hb, hr, hml, hown, hg, hlocks, hin⟩ := hcs
  have hown : s.vm.findClass RX6 = some m.cls := hown
  have hl : lv_has ls 3 [(0, .ref h0), (1, .int 1), (2, .int 1)] := hl
  refine lv_aload_n hx hb dX6_bitsBy_0 rfl (lv_at hl 0 rfl) ?_
  refine lv_iload_n hx hb dX6_bitsBy_1 rfl (lv_at hl 1 rfl) ?_
  refine lv_i2l (v := 1) hx hb dX6_bitsBy_2 (by decide) ?_
  refine lv_lconst (v := 0) hx hb dX6_bitsBy_3 (by decide) ?_
  refine lv_ldc2 hx hb hown (hg _ k1510) dX6_bitsBy_4 ?_
  refine cSi (n := 3) (As := [.long 1, .long 0, .long 2]) (rest := [.ref h0]) (wr := [(h0, .inr (6, [v0, .ref h1, .ref h2, v1, v2, .ref h4, .ref h3, .int 2, .int 2, v3, v4, v5, v6, v7, v8, v9, v10, v11, v12, v13, v14, v15, v16, v17, v18, v19, v20])), (h1, .inl (a0, 609, .inr (.inl f0))), (h2, .inl (a1, 609, .inr (.inl f1))), (h3, .inl (a2, 48, .inl f2)), (h4, .inl (a3, 48, .inl f3))]) (tr := [(a0, .long), (a1, .long), (a2, .int), (a3, .int)]) hx hb hml hown hg okN (cX6_in_146 l D) (mwS k1317 k1318 k92 k1319) ⟨rfl, by decide, by decide, by decide +kernel⟩ ⟨rfl, rfl, (Nat.le_of_ble_eq_true rfl), (Nat.le_of_ble_eq_true rfl)⟩ hP hD hK hS xn [] [] [0, 1, 2, 3, 4] [] [0, 1, 2, 3] rfl (by decide) rfl rfl (by decide) (by decide) rfl rfl (aNil hA hS) (aNil hA hS) rfl hl.1 rfl (Nat.le_of_ble_eq_true rfl) dX6_bitsBy_7 ⟨(Nat.le_of_ble_eq_true rfl), (Nat.le_of_ble_eq_true rfl)⟩ (fun u H locs hφ hP hD hK hS hk => ?_)
  have hP : va_P D vwCl [(h0, .inr (6, [v0, .ref h1, .ref h2, v1, v2, .ref h4, .ref h3, .int 2, .int 2, v3, v4, v5, v6, v7, v8, v9, v10, v11, v12, v13, v14, v15, v16, v17, v18, v19, v20])), (h1, .inl (a0, 609, .inr (.inl f0))), (h2, .inl (a1, 609, .inr (.inl f1))), (h3, .inl (a2, 48, .inl f2)), (h4, .inl (a3, 48, .inl f3))] H := hP
  have hD : va_D A [(h0, .inr (6, [v0, .ref h1, .ref h2, v1, v2, .ref h4, .ref h3, .int 2, .int 2, v3, v4, v5, v6, v7, v8, v9, v10, v11, v12, v13, v14, v15, v16, v17, v18, v19, v20])), (h1, .inl (a0, 609, .inr (.inl f0))), (h2, .inl (a1, 609, .inr (.inl f1))), (h3, .inl (a2, 48, .inl f2)), (h4, .inl (a3, 48, .inl f3))] := hD
  have hK : va_K D vwCl [(a0, .long), (a1, .long), (a2, .int), (a3, .int)] s := hK
  refine W.widen (k := 0) (n := 0) (Nat.le_of_ble_eq_true rfl) (Nat.le_of_ble_eq_true rfl) ?_
  refine lv_if_eq (tgt := 29) hx hb dX6_bitsBy_10 (by decide) (fun c9 => absurd c9 (by decide)) (fun _ => ?_)
  refine lv_iload_n hx hb dX6_bitsBy_13 rfl (lv_at hl 2 rfl) ?_
  refine lv_i2l (v := 1) hx hb dX6_bitsBy_14 (by decide) ?_
  refine lv_lconst (v := 0) hx hb dX6_bitsBy_15 (by decide) ?_
  refine lv_ldc2 hx hb hown (hg _ k1510) dX6_bitsBy_16 ?_
  refine cSi (n := 3) (As := [.long 1, .long 0, .long 2]) (rest := [.ref h0]) (wr := [(h0, .inr (6, [v0, .ref h1, .ref h2, v1, v2, .ref h4, .ref h3, .int 2, .int 2, v3, v4, v5, v6, v7, v8, v9, v10, v11, v12, v13, v14, v15, v16, v17, v18, v19, v20])), (h1, .inl (a0, 609, .inr (.inl f0))), (h2, .inl (a1, 609, .inr (.inl f1))), (h3, .inl (a2, 48, .inl f2)), (h4, .inl (a3, 48, .inl f3))]) (tr := [(a0, .long), (a1, .long), (a2, .int), (a3, .int)]) hx hb hml hown hg okN (cX6_in_146 l D) (mwS k1317 k1318 k92 k1319) ⟨rfl, by decide, by decide, by decide +kernel⟩ ⟨rfl, rfl, (Nat.le_of_ble_eq_true rfl), (Nat.le_of_ble_eq_true rfl)⟩ hP hD hK hS xn [] [] [0, 1, 2, 3, 4] [] [0, 1, 2, 3] rfl (by decide) rfl rfl (by decide) (by decide) rfl rfl (aNil hA hS) (aNil hA hS) rfl hl.1 rfl (Nat.le_of_ble_eq_true rfl) dX6_bitsBy_19 ⟨(Nat.le_of_ble_eq_true rfl), (Nat.le_of_ble_eq_true rfl)⟩ (fun u H locs hφ hP hD hK hS hk => ?_)
  have hP : va_P D vwCl [(h0, .inr (6, [v0, .ref h1, .ref h2, v1, v2, .ref h4, .ref h3, .int 2, .int 2, v3, v4, v5, v6, v7, v8, v9, v10, v11, v12, v13, v14, v15, v16, v17, v18, v19, v20])), (h1, .inl (a0, 609, .inr (.inl f0))), (h2, .inl (a1, 609, .inr (.inl f1))), (h3, .inl (a2, 48, .inl f2)), (h4, .inl (a3, 48, .inl f3))] H := hP
  have hD : va_D A [(h0, .inr (6, [v0, .ref h1, .ref h2, v1, v2, .ref h4, .ref h3, .int 2, .int 2, v3, v4, v5, v6, v7, v8, v9, v10, v11, v12, v13, v14, v15, v16, v17, v18, v19, v20])), (h1, .inl (a0, 609, .inr (.inl f0))), (h2, .inl (a1, 609, .inr (.inl f1))), (h3, .inl (a2, 48, .inl f2)), (h4, .inl (a3, 48, .inl f3))] := hD
  have hK : va_K D vwCl [(a0, .long), (a1, .long), (a2, .int), (a3, .int)] s := hK
  refine W.widen (k := 0) (n := 0) (Nat.le_of_ble_eq_true rfl) (Nat.le_of_ble_eq_true rfl) ?_
  refine lv_if_eq (tgt := 29) hx hb dX6_bitsBy_22 (by decide) (fun c9 => absurd c9 (by decide)) (fun _ => ?_)
  refine lv_iconst (v := 0) hx hb dX6_bitsBy_25 (by decide) ?_
  refine lv_goto (tgt := 30) hx hb dX6_bitsBy_26 (by decide) ?_
  refine va_put (D := D) (ci := 6) (v := .int 0) (ty := .int) (C := RX6) (T := TX6) (N := 27) hx hb hg inX6 tyX6 tyX6_ok nmX6 hown hK hP hD hS 0 rfl rfl 0 (by decide) (hg _ k1219) (fun _ h9 => h9) rfl (by decide +kernel) rfl rfl (Nat.le_of_ble_eq_true rfl) dX6_bitsBy_30 (fun H locs hP hD hS => ?_)
  have hP : va_P D vwCl [(h0, .inr (6, [.int 0, .ref h1, .ref h2, v1, v2, .ref h4, .ref h3, .int 2, .int 2, v3, v4, v5, v6, v7, v8, v9, v10, v11, v12, v13, v14, v15, v16, v17, v18, v19, v20])), (h1, .inl (a0, 609, .inr (.inl f0))), (h2, .inl (a1, 609, .inr (.inl f1))), (h3, .inl (a2, 48, .inl f2)), (h4, .inl (a3, 48, .inl f3))] H := hP
  have hD : va_D A [(h0, .inr (6, [.int 0, .ref h1, .ref h2, v1, v2, .ref h4, .ref h3, .int 2, .int 2, v3, v4, v5, v6, v7, v8, v9, v10, v11, v12, v13, v14, v15, v16, v17, v18, v19, v20])), (h1, .inl (a0, 609, .inr (.inl f0))), (h2, .inl (a1, 609, .inr (.inl f1))), (h3, .inl (a2, 48, .inl f2)), (h4, .inl (a3, 48, .inl f3))] := hD
  refine lv_aload_n hx hb dX6_bitsBy_33 rfl (lv_at hl 0 rfl) ?_
  refine va_get (D := D) (ci := 6) (v := .int 0) (C := RX6) (T := TX6) (N := 27) hx hb hg inX6 hown hK hP 0 rfl rfl 0 (by decide) (hg _ k1219) (fun _ h9 => h9) rfl dX6_bitsBy_34 ?_
  refine lv_if_le (tgt := 44) hx hb dX6_bitsBy_37 (by decide) (fun _ => ?_) (fun c9 => absurd (by decide) c9)
  refine lv_aload_n hx hb dX6_bitsBy_44 rfl (lv_at hl 0 rfl) ?_
  refine lv_iload_n hx hb dX6_bitsBy_45 rfl (lv_at hl 1 rfl) ?_
  refine lv_iload_n hx hb dX6_bitsBy_46 rfl (lv_at hl 2 rfl) ?_
  refine cVi (n := 2) (As := [.int 1, .int 1]) (rest := []) (wr := []) (tr := []) hx hb hml hown hg okN (cX6_bitsOf_273 l D h0 h1 h2 h3 h4 (.int 0) v1 v2 v3 v4 v5 v6 v7 v8 v9 v10 v11 v12 v13 v14 v15 v16 v17 v18 v19 v20 f0 f1 f2 f3 a0 a1 a2 a3 ef2_0 ef2_1 ef3_0 ef3_1) (mwV k1674 k1676 k82 k92 k1677) ⟨rfl, by decide, by decide, by decide +kernel⟩ ⟨rfl, rfl, (Nat.le_of_ble_eq_true rfl), (Nat.le_of_ble_eq_true rfl)⟩ hP hD hK hS xn [0, 1, 2, 3, 4] [0, 1, 2, 3, 4] [] [0, 1, 2, 3] [] rfl (by decide) rfl rfl (by decide) (by decide) rfl rfl (va_free hD hS hA [0, 1, 2, 3, 4] rfl) (va_free hD hS hA [0, 1, 2, 3, 4] rfl) 0 rfl rfl rfl hl.1 rfl (Nat.le_of_ble_eq_true rfl) dX6_bitsBy_47 ⟨(Nat.le_of_ble_eq_true rfl), (Nat.le_of_ble_eq_true rfl)⟩ (fun u H locs hφ hP hD hK hS hk => ?_)
  obtain ⟨y0_1, y0_2⟩ := u
  have hP : va_P D vwCl [(h0, .inr (6, [.int 0, .ref h1, .ref h2, v1, v2, .ref h4, .ref h3, .int 2, .int 2, v3, v4, v5, v6, v7, v8, v9, v10, v11, v12, v13, v14, v15, v16, v17, v18, v19, v20])), (h1, .inl (a0, 609, .inr (.inl y0_1))), (h2, .inl (a1, 609, .inr (.inl y0_2))), (h3, .inl (a2, 48, .inl f2)), (h4, .inl (a3, 48, .inl f3))] H := hP
  have hD : va_D A [(h0, .inr (6, [.int 0, .ref h1, .ref h2, v1, v2, .ref h4, .ref h3, .int 2, .int 2, v3, v4, v5, v6, v7, v8, v9, v10, v11, v12, v13, v14, v15, v16, v17, v18, v19, v20])), (h1, .inl (a0, 609, .inr (.inl y0_1))), (h2, .inl (a1, 609, .inr (.inl y0_2))), (h3, .inl (a2, 48, .inl f2)), (h4, .inl (a3, 48, .inl f3))] := hD
  have hK : va_K D vwCl [(a0, .long), (a1, .long), (a2, .int), (a3, .int)] s := hK
  refine W.widen (k := 0) (n := 0) (Nat.le_of_ble_eq_true rfl) (Nat.le_of_ble_eq_true rfl) ?_
  exact fi hx hb hr hlocks hP hD hK hS ((y0_1, y0_2)) trivial rfl [0, 1, 2, 3, 4] [0, 1, 2, 3] rfl (by decide) rfl (Nat.le_of_ble_eq_true rfl) (Nat.le_of_ble_eq_true rfl) dX6_bitsBy_50
set_option maxHeartbeats 4000000 in
set_option maxRecDepth 100000 in
theorem cX6_bitsOf_275 (l : Launch) (D : va_G) (h0 : Nat) (h1 : Nat) (h2 : Nat) (h3 : Nat) (h4 : Nat) (v0 : Value) (v1 : Value) (v2 : Value) (v3 : Value) (v4 : Value) (v5 : Value) (v6 : Value) (v7 : Value) (v8 : Value) (v9 : Value) (v10 : Value) (v11 : Value) (v12 : Value) (v13 : Value) (v14 : Value) (v15 : Value) (v16 : Value) (v17 : Value) (v18 : Value) (v19 : Value) (v20 : Value) (f0 : Nat → Int64) (f1 : Nat → Int64) (f2 : Nat → Int32) (f3 : Nat → Int32) (a0 : ClassId) (a1 : ClassId) (a2 : ClassId) (a3 : ClassId) (ef2_0 : f2 0 = 0) (ef2_1 : f2 1 = 0) (ef3_0 : f3 0 = 0) (ef3_1 : f3 1 = 1)  : CT l yX6_bitsOf cX6_bitsOf 4 (some .int) { frames := 4, cells := 0, slots := 0, locals := 85 } [.ref h0, .int 1, .int 2] D [(h0, .inr (6, [v0, .ref h1, .ref h2, v1, v2, .ref h4, .ref h3, .int 2, .int 2, v3, v4, v5, v6, v7, v8, v9, v10, v11, v12, v13, v14, v15, v16, v17, v18, v19, v20])), (h1, .inl (a0, 609, .inr (.inl f0))), (h2, .inl (a1, 609, .inr (.inl f1))), (h3, .inl (a2, 48, .inl f2)), (h4, .inl (a3, 48, .inl f3))] [(a0, .long), (a1, .long), (a2, .int), (a3, .int)] XN [(h0, .inr (6, [v0, .ref h1, .ref h2, v1, v2, .ref h4, .ref h3, .int 2, .int 2, v3, v4, v5, v6, v7, v8, v9, v10, v11, v12, v13, v14, v15, v16, v17, v18, v19, v20])), (h1, .inl (a0, 609, .inr (.inl f0))), (h2, .inl (a1, 609, .inr (.inl f1))), (h3, .inl (a2, 48, .inl f2)), (h4, .inl (a3, 48, .inl f3))] (ei (fun _ : (Nat → Int64) × (Nat → Int64) => True) (fun u => 0) (fun u => [(h0, .inr (6, [v0, .ref h1, .ref h2, v1, v2, .ref h4, .ref h3, .int 2, .int 2, v3, v4, v5, v6, v7, v8, v9, v10, v11, v12, v13, v14, v15, v16, v17, v18, v19, v20])), (h1, .inl (a0, 609, .inr (.inl u.1))), (h2, .inl (a1, 609, .inr (.inl u.2))), (h3, .inl (a2, 48, .inl f2)), (h4, .inl (a3, 48, .inl f3))]) (fun u => [(a0, .long), (a1, .long), (a2, .int), (a3, .int)]) D) 0 0 := by
  refine CT.ofW (by decide +kernel) (Nat.le_of_ble_eq_true rfl) ?_
  intro p e s m below meth c A ls hcs hP hK hD hX hA hS hl
  obtain ⟨hx, hb, hr, hml, hown, hg, hlocks, hin⟩ := hcs
  have hown : s.vm.findClass RX6 = some m.cls := hown
  have hl : lv_has ls 4 [(0, .ref h0), (1, .int 1), (2, .int 2)] := hl
  refine lv_aload_n hx hb dX6_bitsOf_0 rfl (lv_at hl 0 rfl) ?_
  refine cVv (n := 0) (As := []) (rest := []) (wr := [(h3, .inl (a2, 48, .inl f2)), (h4, .inl (a3, 48, .inl f3))]) (tr := [(a2, .int), (a3, .int)]) hx hb hml hown hg okN (cX6_puts_234 l D h0 h1 h2 v0 v1 v2 (.ref h4) (.ref h3) (.int 2) (.int 2) v3 v4 v5 v6 v7 v8 v9 v10 v11 v12 v13 v14 v15 v16 v17 v18 v19 v20 f0 f1 a0 a1) (mwV k1646 k1648 k78 k92 k1649) ⟨rfl, by decide, by decide, by decide +kernel⟩ ⟨rfl, rfl, (Nat.le_of_ble_eq_true rfl), (Nat.le_of_ble_eq_true rfl)⟩ hP hD hK hS xn [0, 1, 2] [0, 1, 2] [3, 4] [0, 1] [2, 3] rfl (by decide) rfl rfl (by decide) (by decide) rfl rfl (va_free hD hS hA [0, 1, 2] rfl) (va_free hD hS hA [0, 1, 2] rfl) 0 rfl rfl rfl hl.1 rfl (Nat.le_of_ble_eq_true rfl) dX6_bitsOf_1 ⟨(Nat.le_of_ble_eq_true rfl), (Nat.le_of_ble_eq_true rfl)⟩ (fun u H locs hφ hP hD hK hS hk => ?_)
  obtain ⟨y1_1, rfl⟩ : ∃ z, z = u := ⟨_, rfl⟩
  have hP : va_P D vwCl [(h3, .inl (a2, 48, .inl f2)), (h4, .inl (a3, 48, .inl f3)), (h0, .inr (6, [v0, .ref h1, .ref h2, v1, v2, .ref h4, .ref h3, .int 2, .int 2, v3, v4, v5, v6, v7, v8, v9, v10, v11, v12, v13, v14, v15, v16, v17, v18, v19, v20])), (h1, .inl (a0, 609, .inr (.inl f0))), (h2, .inl (a1, 609, .inr (.inl y1_1)))] H := hP
  have hD : va_D A [(h3, .inl (a2, 48, .inl f2)), (h4, .inl (a3, 48, .inl f3)), (h0, .inr (6, [v0, .ref h1, .ref h2, v1, v2, .ref h4, .ref h3, .int 2, .int 2, v3, v4, v5, v6, v7, v8, v9, v10, v11, v12, v13, v14, v15, v16, v17, v18, v19, v20])), (h1, .inl (a0, 609, .inr (.inl f0))), (h2, .inl (a1, 609, .inr (.inl y1_1)))] := hD
  have hK : va_K D vwCl [(a2, .int), (a3, .int), (a0, .long), (a1, .long)] s := hK
  refine W.widen (k := 0) (n := 0) (Nat.le_of_ble_eq_true rfl) (Nat.le_of_ble_eq_true rfl) ?_
  refine lv_aload_n hx hb dX6_bitsOf_4 rfl (lv_at hl 0 rfl) ?_
  refine va_get (D := D) (ci := 6) (v := .ref h1) (C := RX6) (T := TX6) (N := 27) hx hb hg inX6 hown hK hP 2 rfl rfl 1 (by decide) (hg _ k1220) (fun _ h9 => h9) rfl dX6_bitsOf_5 ?_
  refine lv_iconst (v := 0) hx hb dX6_bitsOf_8 (by decide) ?_
  refine lv_iload_n hx hb dX6_bitsOf_9 rfl (lv_at hl 1 rfl) ?_
  refine lv_i2l (v := 1) hx hb dX6_bitsOf_10 (by decide) ?_
  refine astL hx hb hK hP hD hS 3 2 rfl rfl 0 (by decide) (vin (by decide)) dX6_bitsOf_11 (fun H locs hP hD hS => ?_)
  have hP : va_P D vwCl [(h3, .inl (a2, 48, .inl f2)), (h4, .inl (a3, 48, .inl f3)), (h0, .inr (6, [v0, .ref h1, .ref h2, v1, v2, .ref h4, .ref h3, .int 2, .int 2, v3, v4, v5, v6, v7, v8, v9, v10, v11, v12, v13, v14, v15, v16, v17, v18, v19, v20])), (h1, .inl (a0, 609, .inr (.inl (vp_updL f0 0 1)))), (h2, .inl (a1, 609, .inr (.inl y1_1)))] H := hP
  have hD : va_D A [(h3, .inl (a2, 48, .inl f2)), (h4, .inl (a3, 48, .inl f3)), (h0, .inr (6, [v0, .ref h1, .ref h2, v1, v2, .ref h4, .ref h3, .int 2, .int 2, v3, v4, v5, v6, v7, v8, v9, v10, v11, v12, v13, v14, v15, v16, v17, v18, v19, v20])), (h1, .inl (a0, 609, .inr (.inl (vp_updL f0 0 1)))), (h2, .inl (a1, 609, .inr (.inl y1_1)))] := hD
  refine lv_aload_n hx hb dX6_bitsOf_12 rfl (lv_at hl 0 rfl) ?_
  refine va_get (D := D) (ci := 6) (v := .ref h1) (C := RX6) (T := TX6) (N := 27) hx hb hg inX6 hown hK hP 2 rfl rfl 1 (by decide) (hg _ k1220) (fun _ h9 => h9) rfl dX6_bitsOf_13 ?_
  refine lv_iconst (v := 1) hx hb dX6_bitsOf_16 (by decide) ?_
  refine lv_iload_n hx hb dX6_bitsOf_17 rfl (lv_at hl 2 rfl) ?_
  refine lv_i2l (v := 2) hx hb dX6_bitsOf_18 (by decide) ?_
  refine astL hx hb hK hP hD hS 3 2 rfl rfl 1 (by decide) (vin (by decide)) dX6_bitsOf_19 (fun H locs hP hD hS => ?_)
  have hP : va_P D vwCl [(h3, .inl (a2, 48, .inl f2)), (h4, .inl (a3, 48, .inl f3)), (h0, .inr (6, [v0, .ref h1, .ref h2, v1, v2, .ref h4, .ref h3, .int 2, .int 2, v3, v4, v5, v6, v7, v8, v9, v10, v11, v12, v13, v14, v15, v16, v17, v18, v19, v20])), (h1, .inl (a0, 609, .inr (.inl (vp_updL (vp_updL f0 0 1) 1 2)))), (h2, .inl (a1, 609, .inr (.inl y1_1)))] H := hP
  have hD : va_D A [(h3, .inl (a2, 48, .inl f2)), (h4, .inl (a3, 48, .inl f3)), (h0, .inr (6, [v0, .ref h1, .ref h2, v1, v2, .ref h4, .ref h3, .int 2, .int 2, v3, v4, v5, v6, v7, v8, v9, v10, v11, v12, v13, v14, v15, v16, v17, v18, v19, v20])), (h1, .inl (a0, 609, .inr (.inl (vp_updL (vp_updL f0 0 1) 1 2)))), (h2, .inl (a1, 609, .inr (.inl y1_1)))] := hD
  refine lv_aload_n hx hb dX6_bitsOf_20 rfl (lv_at hl 0 rfl) ?_
  refine cVv (n := 0) (As := []) (rest := []) (wr := [(h2, .inl (a1, 609, .inr (.inl y1_1)))]) (tr := [(a1, .long)]) hx hb hml hown hg okN (cX6_anew_186 l D h0 h1 h3 h4 v0 (.ref h2) v1 v2 (.int 2) v3 v4 v5 v6 v7 v8 v9 v10 v11 v12 v13 v14 v15 v16 v17 v18 v19 v20 (vp_updL (vp_updL f0 0 1) 1 2) f2 f3 a0 a2 a3 ef2_0 ef2_1 ef3_0 ef3_1) (mwV k1214 k1216 k35 k92 k1217) ⟨rfl, by decide, by decide, by decide +kernel⟩ ⟨rfl, rfl, (Nat.le_of_ble_eq_true rfl), (Nat.le_of_ble_eq_true rfl)⟩ hP hD hK hS xn [2, 3, 0, 1] [2, 3, 0, 1] [4] [2, 0, 1] [3] rfl (by decide) rfl rfl (by decide) (by decide) rfl rfl (va_free hD hS hA [2, 3, 0, 1] rfl) (va_free hD hS hA [2, 3, 0, 1] rfl) 2 rfl rfl rfl hl.1 rfl (Nat.le_of_ble_eq_true rfl) dX6_bitsOf_21 ⟨(Nat.le_of_ble_eq_true rfl), (Nat.le_of_ble_eq_true rfl)⟩ (fun u H locs hφ hP hD hK hS hk => ?_)
  have hP : va_P D vwCl [(h2, .inl (a1, 609, .inr (.inl y1_1))), (h0, .inr (6, [v0, .ref h1, .ref h2, v1, v2, .ref h4, .ref h3, .int 2, .int 2, v3, v4, v5, v6, v7, v8, v9, v10, v11, v12, v13, v14, v15, v16, v17, v18, v19, v20])), (h1, .inl (a0, 609, .inr (.inl (vp_updL (vp_updL (vp_updL (vp_updL (vp_updL (vp_updL (vp_updL (vp_updL (vp_updL (vp_updL f0 0 1) 1 2) 3 0) 4 0) 5 0) 53 1) 101 (-1)) 6 0) 54 1) 102 (-1))))), (h3, .inl (a2, 48, .inl f2)), (h4, .inl (a3, 48, .inl f3))] H := hP
  have hD : va_D A [(h2, .inl (a1, 609, .inr (.inl y1_1))), (h0, .inr (6, [v0, .ref h1, .ref h2, v1, v2, .ref h4, .ref h3, .int 2, .int 2, v3, v4, v5, v6, v7, v8, v9, v10, v11, v12, v13, v14, v15, v16, v17, v18, v19, v20])), (h1, .inl (a0, 609, .inr (.inl (vp_updL (vp_updL (vp_updL (vp_updL (vp_updL (vp_updL (vp_updL (vp_updL (vp_updL (vp_updL f0 0 1) 1 2) 3 0) 4 0) 5 0) 53 1) 101 (-1)) 6 0) 54 1) 102 (-1))))), (h3, .inl (a2, 48, .inl f2)), (h4, .inl (a3, 48, .inl f3))] := hD
  have hK : va_K D vwCl [(a1, .long), (a0, .long), (a2, .int), (a3, .int)] s := hK
  refine W.widen (k := 0) (n := 0) (Nat.le_of_ble_eq_true rfl) (Nat.le_of_ble_eq_true rfl) ?_
  refine lv_aload_n hx hb dX6_bitsOf_24 rfl (lv_at hl 0 rfl) ?_
  refine lv_bipush (v := 46) hx hb dX6_bitsOf_25 (by decide) ?_
  refine cVi (n := 1) (As := [.int 46]) (rest := []) (wr := [(h2, .inl (a1, 609, .inr (.inl y1_1))), (h0, .inr (6, [v0, .ref h1, .ref h2, v1, v2, .ref h4, .ref h3, .int 2, .int 2, v3, v4, v5, v6, v7, v8, v9, v10, v11, v12, v13, v14, v15, v16, v17, v18, v19, v20])), (h1, .inl (a0, 609, .inr (.inl (vp_updL (vp_updL (vp_updL (vp_updL (vp_updL (vp_updL (vp_updL (vp_updL (vp_updL (vp_updL f0 0 1) 1 2) 3 0) 4 0) 5 0) 53 1) 101 (-1)) 6 0) 54 1) 102 (-1))))), (h3, .inl (a2, 48, .inl f2)), (h4, .inl (a3, 48, .inl f3))]) (tr := [(a1, .long), (a0, .long), (a2, .int), (a3, .int)]) hx hb hml hown hg okN (cX6_goesOn_263 l D h0 h1 v0 (.ref h2) v1 v2 (.ref h4) (.ref h3) v3 v4 v5 v6 v7 v8 v9 v10 v11 v12 v13 v14 v15 v16 v17 v18 v19 v20 (vp_updL (vp_updL (vp_updL (vp_updL (vp_updL (vp_updL (vp_updL (vp_updL (vp_updL (vp_updL f0 0 1) 1 2) 3 0) 4 0) 5 0) 53 1) 101 (-1)) 6 0) 54 1) 102 (-1)) a0 rfl) (mwV k1588 k1590 k71 k92 k1591) ⟨rfl, by decide, by decide, by decide +kernel⟩ ⟨rfl, rfl, (Nat.le_of_ble_eq_true rfl), (Nat.le_of_ble_eq_true rfl)⟩ hP hD hK hS xn [1, 2] [] [0, 1, 2, 3, 4] [1] [0, 1, 2, 3] rfl (by decide) rfl rfl (by decide) (by decide) rfl rfl (aNil hA hS) (aNil hA hS) 1 rfl rfl rfl hl.1 rfl (Nat.le_of_ble_eq_true rfl) dX6_bitsOf_27 ⟨(Nat.le_of_ble_eq_true rfl), (Nat.le_of_ble_eq_true rfl)⟩ (fun u H locs hφ hP hD hK hS hk => ?_)
  have hP : va_P D vwCl [(h2, .inl (a1, 609, .inr (.inl y1_1))), (h0, .inr (6, [v0, .ref h1, .ref h2, v1, v2, .ref h4, .ref h3, .int 2, .int 2, v3, v4, v5, v6, v7, v8, v9, v10, v11, v12, v13, v14, v15, v16, v17, v18, v19, v20])), (h1, .inl (a0, 609, .inr (.inl (vp_updL (vp_updL (vp_updL (vp_updL (vp_updL (vp_updL (vp_updL (vp_updL (vp_updL (vp_updL f0 0 1) 1 2) 3 0) 4 0) 5 0) 53 1) 101 (-1)) 6 0) 54 1) 102 (-1))))), (h3, .inl (a2, 48, .inl f2)), (h4, .inl (a3, 48, .inl f3))] H := hP
  have hD : va_D A [(h2, .inl (a1, 609, .inr (.inl y1_1))), (h0, .inr (6, [v0, .ref h1, .ref h2, v1, v2, .ref h4, .ref h3, .int 2, .int 2, v3, v4, v5, v6, v7, v8, v9, v10, v11, v12, v13, v14, v15, v16, v17, v18, v19, v20])), (h1, .inl (a0, 609, .inr (.inl (vp_updL (vp_updL (vp_updL (vp_updL (vp_updL (vp_updL (vp_updL (vp_updL (vp_updL (vp_updL f0 0 1) 1 2) 3 0) 4 0) 5 0) 53 1) 101 (-1)) 6 0) 54 1) 102 (-1))))), (h3, .inl (a2, 48, .inl f2)), (h4, .inl (a3, 48, .inl f3))] := hD
  have hK : va_K D vwCl [(a1, .long), (a0, .long), (a2, .int), (a3, .int)] s := hK
  refine W.widen (k := 0) (n := 0) (Nat.le_of_ble_eq_true rfl) (Nat.le_of_ble_eq_true rfl) ?_
  refine lv_istore_n (lv' := [(3, .int 0), (0, .ref h0), (1, .int 1), (2, .int 2)]) hx hb dX6_bitsOf_30 rfl hl (by decide) rfl (fun ls hl => ?_)
  refine lv_aload_n hx hb dX6_bitsOf_31 rfl (lv_at hl 1 rfl) ?_
  refine cVi (n := 0) (As := []) (rest := []) (wr := [(h2, .inl (a1, 609, .inr (.inl y1_1))), (h0, .inr (6, [v0, .ref h1, .ref h2, v1, v2, .ref h4, .ref h3, .int 2, .int 2, v3, v4, v5, v6, v7, v8, v9, v10, v11, v12, v13, v14, v15, v16, v17, v18, v19, v20])), (h1, .inl (a0, 609, .inr (.inl (vp_updL (vp_updL (vp_updL (vp_updL (vp_updL (vp_updL (vp_updL (vp_updL (vp_updL (vp_updL f0 0 1) 1 2) 3 0) 4 0) 5 0) 53 1) 101 (-1)) 6 0) 54 1) 102 (-1))))), (h3, .inl (a2, 48, .inl f2)), (h4, .inl (a3, 48, .inl f3))]) (tr := [(a1, .long), (a0, .long), (a2, .int), (a3, .int)]) hx hb hml hown hg okN (cX6_bitsNow_133 l D h0 h1 v0 (.ref h2) v1 v2 (.ref h4) (.ref h3) (.int 2) (.int 2) v3 v4 v5 v6 v7 v8 v9 v10 v11 v12 v13 v14 v15 v16 v17 v18 v19 v20 (vp_updL (vp_updL (vp_updL (vp_updL (vp_updL (vp_updL (vp_updL (vp_updL (vp_updL (vp_updL f0 0 1) 1 2) 3 0) 4 0) 5 0) 53 1) 101 (-1)) 6 0) 54 1) 102 (-1)) a0 rfl) (mwV k1506 k1508 k61 k92 k1509) ⟨rfl, by decide, by decide, by decide +kernel⟩ ⟨rfl, rfl, (Nat.le_of_ble_eq_true rfl), (Nat.le_of_ble_eq_true rfl)⟩ hP hD hK hS xn [1, 2] [] [0, 1, 2, 3, 4] [1] [0, 1, 2, 3] rfl (by decide) rfl rfl (by decide) (by decide) rfl rfl (aNil hA hS) (aNil hA hS) 1 rfl rfl rfl hl.1 rfl (Nat.le_of_ble_eq_true rfl) dX6_bitsOf_32 ⟨(Nat.le_of_ble_eq_true rfl), (Nat.le_of_ble_eq_true rfl)⟩ (fun u H locs hφ hP hD hK hS hk => ?_)
  have hP : va_P D vwCl [(h2, .inl (a1, 609, .inr (.inl y1_1))), (h0, .inr (6, [v0, .ref h1, .ref h2, v1, v2, .ref h4, .ref h3, .int 2, .int 2, v3, v4, v5, v6, v7, v8, v9, v10, v11, v12, v13, v14, v15, v16, v17, v18, v19, v20])), (h1, .inl (a0, 609, .inr (.inl (vp_updL (vp_updL (vp_updL (vp_updL (vp_updL (vp_updL (vp_updL (vp_updL (vp_updL (vp_updL f0 0 1) 1 2) 3 0) 4 0) 5 0) 53 1) 101 (-1)) 6 0) 54 1) 102 (-1))))), (h3, .inl (a2, 48, .inl f2)), (h4, .inl (a3, 48, .inl f3))] H := hP
  have hD : va_D A [(h2, .inl (a1, 609, .inr (.inl y1_1))), (h0, .inr (6, [v0, .ref h1, .ref h2, v1, v2, .ref h4, .ref h3, .int 2, .int 2, v3, v4, v5, v6, v7, v8, v9, v10, v11, v12, v13, v14, v15, v16, v17, v18, v19, v20])), (h1, .inl (a0, 609, .inr (.inl (vp_updL (vp_updL (vp_updL (vp_updL (vp_updL (vp_updL (vp_updL (vp_updL (vp_updL (vp_updL f0 0 1) 1 2) 3 0) 4 0) 5 0) 53 1) 101 (-1)) 6 0) 54 1) 102 (-1))))), (h3, .inl (a2, 48, .inl f2)), (h4, .inl (a3, 48, .inl f3))] := hD
  have hK : va_K D vwCl [(a1, .long), (a0, .long), (a2, .int), (a3, .int)] s := hK
  refine W.widen (k := 0) (n := 0) (Nat.le_of_ble_eq_true rfl) (Nat.le_of_ble_eq_true rfl) ?_
  refine lv_istore_n (lv' := [(3, .int 0), (0, .ref h0), (1, .int 1), (2, .int 2)]) hx hb dX6_bitsOf_35 rfl hl (by decide) rfl (fun ls hl => ?_)
  refine lv_aload_n hx hb dX6_bitsOf_36 rfl (lv_at hl 1 rfl) ?_
  refine cVv (n := 0) (As := []) (rest := []) (wr := [(h3, .inl (a2, 48, .inl f2)), (h4, .inl (a3, 48, .inl f3))]) (tr := [(a2, .int), (a3, .int)]) hx hb hml hown hg okN (cX6_takesBack_236 l D h0 h2 h1 v0 v1 v2 (.ref h4) (.ref h3) (.int 2) (.int 2) v3 v4 v5 v6 v7 v8 v9 v10 v11 v12 v13 v14 v15 v16 v17 v18 v19 v20 y1_1 (vp_updL (vp_updL (vp_updL (vp_updL (vp_updL (vp_updL (vp_updL (vp_updL (vp_updL (vp_updL f0 0 1) 1 2) 3 0) 4 0) 5 0) 53 1) 101 (-1)) 6 0) 54 1) 102 (-1)) a1 a0) (mwV k1654 k1656 k80 k92 k1657) ⟨rfl, by decide, by decide, by decide +kernel⟩ ⟨rfl, rfl, (Nat.le_of_ble_eq_true rfl), (Nat.le_of_ble_eq_true rfl)⟩ hP hD hK hS xn [1, 0, 2] [1, 0, 2] [3, 4] [0, 1] [2, 3] rfl (by decide) rfl rfl (by decide) (by decide) rfl rfl (va_free hD hS hA [1, 0, 2] rfl) (va_free hD hS hA [1, 0, 2] rfl) 1 rfl rfl rfl hl.1 rfl (Nat.le_of_ble_eq_true rfl) dX6_bitsOf_37 ⟨(Nat.le_of_ble_eq_true rfl), (Nat.le_of_ble_eq_true rfl)⟩ (fun u H locs hφ hP hD hK hS hk => ?_)
  obtain ⟨y1_2, rfl⟩ : ∃ z, z = u := ⟨_, rfl⟩
  have hP : va_P D vwCl [(h3, .inl (a2, 48, .inl f2)), (h4, .inl (a3, 48, .inl f3)), (h0, .inr (6, [v0, .ref h1, .ref h2, v1, v2, .ref h4, .ref h3, .int 2, .int 2, v3, v4, v5, v6, v7, v8, v9, v10, v11, v12, v13, v14, v15, v16, v17, v18, v19, v20])), (h2, .inl (a1, 609, .inr (.inl y1_1))), (h1, .inl (a0, 609, .inr (.inl y1_2)))] H := hP
  have hD : va_D A [(h3, .inl (a2, 48, .inl f2)), (h4, .inl (a3, 48, .inl f3)), (h0, .inr (6, [v0, .ref h1, .ref h2, v1, v2, .ref h4, .ref h3, .int 2, .int 2, v3, v4, v5, v6, v7, v8, v9, v10, v11, v12, v13, v14, v15, v16, v17, v18, v19, v20])), (h2, .inl (a1, 609, .inr (.inl y1_1))), (h1, .inl (a0, 609, .inr (.inl y1_2)))] := hD
  have hK : va_K D vwCl [(a2, .int), (a3, .int), (a1, .long), (a0, .long)] s := hK
  refine W.widen (k := 0) (n := 0) (Nat.le_of_ble_eq_true rfl) (Nat.le_of_ble_eq_true rfl) ?_
  refine lv_iload_n hx hb dX6_bitsOf_40 rfl (lv_at hl 0 rfl) ?_
  exact fi hx hb hr hlocks hP hD hK hS ((y1_2, y1_1)) trivial rfl [2, 4, 3, 0, 1] [3, 2, 0, 1] rfl (by decide) rfl (Nat.le_of_ble_eq_true rfl) (Nat.le_of_ble_eq_true rfl) dX6_bitsOf_41
set_option maxHeartbeats 4000000 in
set_option maxRecDepth 100000 in
theorem cX6_bitsBy_274 (l : Launch) (D : va_G) (h0 : Nat) (h1 : Nat) (h2 : Nat) (h3 : Nat) (h4 : Nat) (v0 : Value) (v1 : Value) (v2 : Value) (v3 : Value) (v4 : Value) (v5 : Value) (v6 : Value) (v7 : Value) (v8 : Value) (v9 : Value) (v10 : Value) (v11 : Value) (v12 : Value) (v13 : Value) (v14 : Value) (v15 : Value) (v16 : Value) (v17 : Value) (v18 : Value) (v19 : Value) (v20 : Value) (f0 : Nat → Int64) (f1 : Nat → Int64) (f2 : Nat → Int32) (f3 : Nat → Int32) (a0 : ClassId) (a1 : ClassId) (a2 : ClassId) (a3 : ClassId) (ef2_0 : f2 0 = 0) (ef2_1 : f2 1 = 0) (ef3_0 : f3 0 = 0) (ef3_1 : f3 1 = 1)  : CT l yX6_bitsBy cX6_bitsBy 3 (some .int) { frames := 5, cells := 0, slots := 0, locals := 108 } [.ref h0, .int 1, .int 2] D [(h0, .inr (6, [v0, .ref h1, .ref h2, v1, v2, .ref h4, .ref h3, .int 2, .int 2, v3, v4, v5, v6, v7, v8, v9, v10, v11, v12, v13, v14, v15, v16, v17, v18, v19, v20])), (h1, .inl (a0, 609, .inr (.inl f0))), (h2, .inl (a1, 609, .inr (.inl f1))), (h3, .inl (a2, 48, .inl f2)), (h4, .inl (a3, 48, .inl f3))] [(a0, .long), (a1, .long), (a2, .int), (a3, .int)] XN [(h0, .inr (6, [v0, .ref h1, .ref h2, v1, v2, .ref h4, .ref h3, .int 2, .int 2, v3, v4, v5, v6, v7, v8, v9, v10, v11, v12, v13, v14, v15, v16, v17, v18, v19, v20])), (h1, .inl (a0, 609, .inr (.inl f0))), (h2, .inl (a1, 609, .inr (.inl f1))), (h3, .inl (a2, 48, .inl f2)), (h4, .inl (a3, 48, .inl f3))] (ei (fun _ : (Nat → Int64) × (Nat → Int64) => True) (fun u => 0) (fun u => [(h0, .inr (6, [.int 0, .ref h1, .ref h2, v1, v2, .ref h4, .ref h3, .int 2, .int 2, v3, v4, v5, v6, v7, v8, v9, v10, v11, v12, v13, v14, v15, v16, v17, v18, v19, v20])), (h1, .inl (a0, 609, .inr (.inl u.1))), (h2, .inl (a1, 609, .inr (.inl u.2))), (h3, .inl (a2, 48, .inl f2)), (h4, .inl (a3, 48, .inl f3))]) (fun u => [(a0, .long), (a1, .long), (a2, .int), (a3, .int)]) D) 0 0 := by
  refine CT.ofW (by decide +kernel) (Nat.le_of_ble_eq_true rfl) ?_
  intro p e s m below meth c A ls hcs hP hK hD hX hA hS hl
  obtain ⟨hx, hb, hr, hml, hown, hg, hlocks, hin⟩ := hcs
  have hown : s.vm.findClass RX6 = some m.cls := hown
  have hl : lv_has ls 3 [(0, .ref h0), (1, .int 1), (2, .int 2)] := hl
  refine lv_aload_n hx hb dX6_bitsBy_0 rfl (lv_at hl 0 rfl) ?_
  refine lv_iload_n hx hb dX6_bitsBy_1 rfl (lv_at hl 1 rfl) ?_
  refine lv_i2l (v := 1) hx hb dX6_bitsBy_2 (by decide) ?_
  refine lv_lconst (v := 0) hx hb dX6_bitsBy_3 (by decide) ?_
  refine lv_ldc2 hx hb hown (hg _ k1510) dX6_bitsBy_4 ?_
  refine cSi (n := 3) (As := [.long 1, .long 0, .long 2]) (rest := [.ref h0]) (wr := [(h0, .inr (6, [v0, .ref h1, .ref h2, v1, v2, .ref h4, .ref h3, .int 2, .int 2, v3, v4, v5, v6, v7, v8, v9, v10, v11, v12, v13, v14, v15, v16, v17, v18, v19, v20])), (h1, .inl (a0, 609, .inr (.inl f0))), (h2, .inl (a1, 609, .inr (.inl f1))), (h3, .inl (a2, 48, .inl f2)), (h4, .inl (a3, 48, .inl f3))]) (tr := [(a0, .long), (a1, .long), (a2, .int), (a3, .int)]) hx hb hml hown hg okN (cX6_in_146 l D) (mwS k1317 k1318 k92 k1319) ⟨rfl, by decide, by decide, by decide +kernel⟩ ⟨rfl, rfl, (Nat.le_of_ble_eq_true rfl), (Nat.le_of_ble_eq_true rfl)⟩ hP hD hK hS xn [] [] [0, 1, 2, 3, 4] [] [0, 1, 2, 3] rfl (by decide) rfl rfl (by decide) (by decide) rfl rfl (aNil hA hS) (aNil hA hS) rfl hl.1 rfl (Nat.le_of_ble_eq_true rfl) dX6_bitsBy_7 ⟨(Nat.le_of_ble_eq_true rfl), (Nat.le_of_ble_eq_true rfl)⟩ (fun u H locs hφ hP hD hK hS hk => ?_)
  have hP : va_P D vwCl [(h0, .inr (6, [v0, .ref h1, .ref h2, v1, v2, .ref h4, .ref h3, .int 2, .int 2, v3, v4, v5, v6, v7, v8, v9, v10, v11, v12, v13, v14, v15, v16, v17, v18, v19, v20])), (h1, .inl (a0, 609, .inr (.inl f0))), (h2, .inl (a1, 609, .inr (.inl f1))), (h3, .inl (a2, 48, .inl f2)), (h4, .inl (a3, 48, .inl f3))] H := hP
  have hD : va_D A [(h0, .inr (6, [v0, .ref h1, .ref h2, v1, v2, .ref h4, .ref h3, .int 2, .int 2, v3, v4, v5, v6, v7, v8, v9, v10, v11, v12, v13, v14, v15, v16, v17, v18, v19, v20])), (h1, .inl (a0, 609, .inr (.inl f0))), (h2, .inl (a1, 609, .inr (.inl f1))), (h3, .inl (a2, 48, .inl f2)), (h4, .inl (a3, 48, .inl f3))] := hD
  have hK : va_K D vwCl [(a0, .long), (a1, .long), (a2, .int), (a3, .int)] s := hK
  refine W.widen (k := 0) (n := 0) (Nat.le_of_ble_eq_true rfl) (Nat.le_of_ble_eq_true rfl) ?_
  refine lv_if_eq (tgt := 29) hx hb dX6_bitsBy_10 (by decide) (fun c9 => absurd c9 (by decide)) (fun _ => ?_)
  refine lv_iload_n hx hb dX6_bitsBy_13 rfl (lv_at hl 2 rfl) ?_
  refine lv_i2l (v := 2) hx hb dX6_bitsBy_14 (by decide) ?_
  refine lv_lconst (v := 0) hx hb dX6_bitsBy_15 (by decide) ?_
  refine lv_ldc2 hx hb hown (hg _ k1510) dX6_bitsBy_16 ?_
  refine cSi (n := 3) (As := [.long 2, .long 0, .long 2]) (rest := [.ref h0]) (wr := [(h0, .inr (6, [v0, .ref h1, .ref h2, v1, v2, .ref h4, .ref h3, .int 2, .int 2, v3, v4, v5, v6, v7, v8, v9, v10, v11, v12, v13, v14, v15, v16, v17, v18, v19, v20])), (h1, .inl (a0, 609, .inr (.inl f0))), (h2, .inl (a1, 609, .inr (.inl f1))), (h3, .inl (a2, 48, .inl f2)), (h4, .inl (a3, 48, .inl f3))]) (tr := [(a0, .long), (a1, .long), (a2, .int), (a3, .int)]) hx hb hml hown hg okN (cX6_in_149 l D) (mwS k1317 k1318 k92 k1319) ⟨rfl, by decide, by decide, by decide +kernel⟩ ⟨rfl, rfl, (Nat.le_of_ble_eq_true rfl), (Nat.le_of_ble_eq_true rfl)⟩ hP hD hK hS xn [] [] [0, 1, 2, 3, 4] [] [0, 1, 2, 3] rfl (by decide) rfl rfl (by decide) (by decide) rfl rfl (aNil hA hS) (aNil hA hS) rfl hl.1 rfl (Nat.le_of_ble_eq_true rfl) dX6_bitsBy_19 ⟨(Nat.le_of_ble_eq_true rfl), (Nat.le_of_ble_eq_true rfl)⟩ (fun u H locs hφ hP hD hK hS hk => ?_)
  have hP : va_P D vwCl [(h0, .inr (6, [v0, .ref h1, .ref h2, v1, v2, .ref h4, .ref h3, .int 2, .int 2, v3, v4, v5, v6, v7, v8, v9, v10, v11, v12, v13, v14, v15, v16, v17, v18, v19, v20])), (h1, .inl (a0, 609, .inr (.inl f0))), (h2, .inl (a1, 609, .inr (.inl f1))), (h3, .inl (a2, 48, .inl f2)), (h4, .inl (a3, 48, .inl f3))] H := hP
  have hD : va_D A [(h0, .inr (6, [v0, .ref h1, .ref h2, v1, v2, .ref h4, .ref h3, .int 2, .int 2, v3, v4, v5, v6, v7, v8, v9, v10, v11, v12, v13, v14, v15, v16, v17, v18, v19, v20])), (h1, .inl (a0, 609, .inr (.inl f0))), (h2, .inl (a1, 609, .inr (.inl f1))), (h3, .inl (a2, 48, .inl f2)), (h4, .inl (a3, 48, .inl f3))] := hD
  have hK : va_K D vwCl [(a0, .long), (a1, .long), (a2, .int), (a3, .int)] s := hK
  refine W.widen (k := 0) (n := 0) (Nat.le_of_ble_eq_true rfl) (Nat.le_of_ble_eq_true rfl) ?_
  refine lv_if_eq (tgt := 29) hx hb dX6_bitsBy_22 (by decide) (fun c9 => absurd c9 (by decide)) (fun _ => ?_)
  refine lv_iconst (v := 0) hx hb dX6_bitsBy_25 (by decide) ?_
  refine lv_goto (tgt := 30) hx hb dX6_bitsBy_26 (by decide) ?_
  refine va_put (D := D) (ci := 6) (v := .int 0) (ty := .int) (C := RX6) (T := TX6) (N := 27) hx hb hg inX6 tyX6 tyX6_ok nmX6 hown hK hP hD hS 0 rfl rfl 0 (by decide) (hg _ k1219) (fun _ h9 => h9) rfl (by decide +kernel) rfl rfl (Nat.le_of_ble_eq_true rfl) dX6_bitsBy_30 (fun H locs hP hD hS => ?_)
  have hP : va_P D vwCl [(h0, .inr (6, [.int 0, .ref h1, .ref h2, v1, v2, .ref h4, .ref h3, .int 2, .int 2, v3, v4, v5, v6, v7, v8, v9, v10, v11, v12, v13, v14, v15, v16, v17, v18, v19, v20])), (h1, .inl (a0, 609, .inr (.inl f0))), (h2, .inl (a1, 609, .inr (.inl f1))), (h3, .inl (a2, 48, .inl f2)), (h4, .inl (a3, 48, .inl f3))] H := hP
  have hD : va_D A [(h0, .inr (6, [.int 0, .ref h1, .ref h2, v1, v2, .ref h4, .ref h3, .int 2, .int 2, v3, v4, v5, v6, v7, v8, v9, v10, v11, v12, v13, v14, v15, v16, v17, v18, v19, v20])), (h1, .inl (a0, 609, .inr (.inl f0))), (h2, .inl (a1, 609, .inr (.inl f1))), (h3, .inl (a2, 48, .inl f2)), (h4, .inl (a3, 48, .inl f3))] := hD
  refine lv_aload_n hx hb dX6_bitsBy_33 rfl (lv_at hl 0 rfl) ?_
  refine va_get (D := D) (ci := 6) (v := .int 0) (C := RX6) (T := TX6) (N := 27) hx hb hg inX6 hown hK hP 0 rfl rfl 0 (by decide) (hg _ k1219) (fun _ h9 => h9) rfl dX6_bitsBy_34 ?_
  refine lv_if_le (tgt := 44) hx hb dX6_bitsBy_37 (by decide) (fun _ => ?_) (fun c9 => absurd (by decide) c9)
  refine lv_aload_n hx hb dX6_bitsBy_44 rfl (lv_at hl 0 rfl) ?_
  refine lv_iload_n hx hb dX6_bitsBy_45 rfl (lv_at hl 1 rfl) ?_
  refine lv_iload_n hx hb dX6_bitsBy_46 rfl (lv_at hl 2 rfl) ?_
  refine cVi (n := 2) (As := [.int 1, .int 2]) (rest := []) (wr := []) (tr := []) hx hb hml hown hg okN (cX6_bitsOf_275 l D h0 h1 h2 h3 h4 (.int 0) v1 v2 v3 v4 v5 v6 v7 v8 v9 v10 v11 v12 v13 v14 v15 v16 v17 v18 v19 v20 f0 f1 f2 f3 a0 a1 a2 a3 ef2_0 ef2_1 ef3_0 ef3_1) (mwV k1674 k1676 k82 k92 k1677) ⟨rfl, by decide, by decide, by decide +kernel⟩ ⟨rfl, rfl, (Nat.le_of_ble_eq_true rfl), (Nat.le_of_ble_eq_true rfl)⟩ hP hD hK hS xn [0, 1, 2, 3, 4] [0, 1, 2, 3, 4] [] [0, 1, 2, 3] [] rfl (by decide) rfl rfl (by decide) (by decide) rfl rfl (va_free hD hS hA [0, 1, 2, 3, 4] rfl) (va_free hD hS hA [0, 1, 2, 3, 4] rfl) 0 rfl rfl rfl hl.1 rfl (Nat.le_of_ble_eq_true rfl) dX6_bitsBy_47 ⟨(Nat.le_of_ble_eq_true rfl), (Nat.le_of_ble_eq_true rfl)⟩ (fun u H locs hφ hP hD hK hS hk => ?_)
  obtain ⟨y0_1, y0_2⟩ := u
  have hP : va_P D vwCl [(h0, .inr (6, [.int 0, .ref h1, .ref h2, v1, v2, .ref h4, .ref h3, .int 2, .int 2, v3, v4, v5, v6, v7, v8, v9, v10, v11, v12, v13, v14, v15, v16, v17, v18, v19, v20])), (h1, .inl (a0, 609, .inr (.inl y0_1))), (h2, .inl (a1, 609, .inr (.inl y0_2))), (h3, .inl (a2, 48, .inl f2)), (h4, .inl (a3, 48, .inl f3))] H := hP
  have hD : va_D A [(h0, .inr (6, [.int 0, .ref h1, .ref h2, v1, v2, .ref h4, .ref h3, .int 2, .int 2, v3, v4, v5, v6, v7, v8, v9, v10, v11, v12, v13, v14, v15, v16, v17, v18, v19, v20])), (h1, .inl (a0, 609, .inr (.inl y0_1))), (h2, .inl (a1, 609, .inr (.inl y0_2))), (h3, .inl (a2, 48, .inl f2)), (h4, .inl (a3, 48, .inl f3))] := hD
  have hK : va_K D vwCl [(a0, .long), (a1, .long), (a2, .int), (a3, .int)] s := hK
  refine W.widen (k := 0) (n := 0) (Nat.le_of_ble_eq_true rfl) (Nat.le_of_ble_eq_true rfl) ?_
  exact fi hx hb hr hlocks hP hD hK hS ((y0_1, y0_2)) trivial rfl [0, 1, 2, 3, 4] [0, 1, 2, 3] rfl (by decide) rfl (Nat.le_of_ble_eq_true rfl) (Nat.le_of_ble_eq_true rfl) dX6_bitsBy_50
set_option maxHeartbeats 4000000 in
set_option maxRecDepth 100000 in
theorem cX6_bitsBy_276 (l : Launch) (D : va_G) (h0 : Nat) (x0 : Int32) (v0 : Value) (v1 : Value) (v2 : Value) (v3 : Value) (v4 : Value) (v5 : Value) (v6 : Value) (v7 : Value) (v8 : Value) (v9 : Value) (v10 : Value) (v11 : Value) (v12 : Value) (v13 : Value) (v14 : Value) (v15 : Value) (v16 : Value) (v17 : Value) (v18 : Value) (v19 : Value) (v20 : Value) (v21 : Value) (v22 : Value) (v23 : Value) (v24 : Value) (v25 : Value) (v26 : Value)  (d0 : ¬ ((lg_cmp x0.toInt64 0) < 0)) (d1 : 0 < (lg_cmp x0.toInt64 2)) : CT l yX6_bitsBy cX6_bitsBy 3 (some .int) { frames := 1, cells := 0, slots := 0, locals := 25 } [.ref h0, .int 1, .int x0] D [(h0, .inr (6, [v0, v1, v2, v3, v4, v5, v6, v7, v8, v9, v10, v11, v12, v13, v14, v15, v16, v17, v18, v19, v20, v21, v22, v23, v24, v25, v26]))] [] XN [(h0, .inr (6, [v0, v1, v2, v3, v4, v5, v6, v7, v8, v9, v10, v11, v12, v13, v14, v15, v16, v17, v18, v19, v20, v21, v22, v23, v24, v25, v26]))] (ei (fun _ : Unit => True) (fun u => 0) (fun _ => [(h0, .inr (6, [.int 1, v1, v2, v3, v4, v5, v6, v7, v8, v9, v10, v11, v12, v13, v14, v15, v16, v17, v18, v19, v20, v21, v22, v23, v24, v25, v26]))]) (fun u => []) D) 0 0 := by
  refine CT.ofW (by decide +kernel) (Nat.le_of_ble_eq_true rfl) ?_
  intro p e s m below meth c A ls hcs hP hK hD hX hA hS hl
  obtain ⟨hx, hb, hr, hml, hown, hg, hlocks, hin⟩ := hcs
  have hown : s.vm.findClass RX6 = some m.cls := hown
  have hl : lv_has ls 3 [(0, .ref h0), (1, .int 1), (2, .int x0)] := hl
  refine lv_aload_n hx hb dX6_bitsBy_0 rfl (lv_at hl 0 rfl) ?_
  refine lv_iload_n hx hb dX6_bitsBy_1 rfl (lv_at hl 1 rfl) ?_
  refine lv_i2l (v := 1) hx hb dX6_bitsBy_2 (by decide) ?_
  refine lv_lconst (v := 0) hx hb dX6_bitsBy_3 (by decide) ?_
  refine lv_ldc2 hx hb hown (hg _ k1510) dX6_bitsBy_4 ?_
  refine cSi (n := 3) (As := [.long 1, .long 0, .long 2]) (rest := [.ref h0]) (wr := [(h0, .inr (6, [v0, v1, v2, v3, v4, v5, v6, v7, v8, v9, v10, v11, v12, v13, v14, v15, v16, v17, v18, v19, v20, v21, v22, v23, v24, v25, v26]))]) (tr := []) hx hb hml hown hg okN (cX6_in_146 l D) (mwS k1317 k1318 k92 k1319) ⟨rfl, by decide, by decide, by decide +kernel⟩ ⟨rfl, rfl, (Nat.le_of_ble_eq_true rfl), (Nat.le_of_ble_eq_true rfl)⟩ hP hD hK hS xn [] [] [0] [] [] rfl (by decide) rfl rfl (by decide) (by decide) rfl rfl (aNil hA hS) (aNil hA hS) rfl hl.1 rfl (Nat.le_of_ble_eq_true rfl) dX6_bitsBy_7 ⟨(Nat.le_of_ble_eq_true rfl), (Nat.le_of_ble_eq_true rfl)⟩ (fun u H locs hφ hP hD hK hS hk => ?_)
  have hP : va_P D vwCl [(h0, .inr (6, [v0, v1, v2, v3, v4, v5, v6, v7, v8, v9, v10, v11, v12, v13, v14, v15, v16, v17, v18, v19, v20, v21, v22, v23, v24, v25, v26]))] H := hP
  have hD : va_D A [(h0, .inr (6, [v0, v1, v2, v3, v4, v5, v6, v7, v8, v9, v10, v11, v12, v13, v14, v15, v16, v17, v18, v19, v20, v21, v22, v23, v24, v25, v26]))] := hD
  have hK : va_K D vwCl [] s := hK
  refine W.widen (k := 0) (n := 0) (Nat.le_of_ble_eq_true rfl) (Nat.le_of_ble_eq_true rfl) ?_
  refine lv_if_eq (tgt := 29) hx hb dX6_bitsBy_10 (by decide) (fun c9 => absurd c9 (by decide)) (fun _ => ?_)
  refine lv_iload_n hx hb dX6_bitsBy_13 rfl (lv_at hl 2 rfl) ?_
  refine lv_i2l (v := x0.toInt64) hx hb dX6_bitsBy_14 rfl ?_
  refine lv_lconst (v := 0) hx hb dX6_bitsBy_15 (by decide) ?_
  refine lv_ldc2 hx hb hown (hg _ k1510) dX6_bitsBy_16 ?_
  refine cSi (n := 3) (As := [.long x0.toInt64, .long 0, .long 2]) (rest := [.ref h0]) (wr := [(h0, .inr (6, [v0, v1, v2, v3, v4, v5, v6, v7, v8, v9, v10, v11, v12, v13, v14, v15, v16, v17, v18, v19, v20, v21, v22, v23, v24, v25, v26]))]) (tr := []) hx hb hml hown hg okN (cX6_in_152 l D x0 d0 d1) (mwS k1317 k1318 k92 k1319) ⟨rfl, by decide, by decide, by decide +kernel⟩ ⟨rfl, rfl, (Nat.le_of_ble_eq_true rfl), (Nat.le_of_ble_eq_true rfl)⟩ hP hD hK hS xn [] [] [0] [] [] rfl (by decide) rfl rfl (by decide) (by decide) rfl rfl (aNil hA hS) (aNil hA hS) rfl hl.1 rfl (Nat.le_of_ble_eq_true rfl) dX6_bitsBy_19 ⟨(Nat.le_of_ble_eq_true rfl), (Nat.le_of_ble_eq_true rfl)⟩ (fun u H locs hφ hP hD hK hS hk => ?_)
  have hP : va_P D vwCl [(h0, .inr (6, [v0, v1, v2, v3, v4, v5, v6, v7, v8, v9, v10, v11, v12, v13, v14, v15, v16, v17, v18, v19, v20, v21, v22, v23, v24, v25, v26]))] H := hP
  have hD : va_D A [(h0, .inr (6, [v0, v1, v2, v3, v4, v5, v6, v7, v8, v9, v10, v11, v12, v13, v14, v15, v16, v17, v18, v19, v20, v21, v22, v23, v24, v25, v26]))] := hD
  have hK : va_K D vwCl [] s := hK
  refine W.widen (k := 0) (n := 0) (Nat.le_of_ble_eq_true rfl) (Nat.le_of_ble_eq_true rfl) ?_
  refine lv_if_eq (tgt := 29) hx hb dX6_bitsBy_22 (by decide) (fun _ => ?_) (fun c9 => absurd (by decide) c9)
  refine lv_iconst (v := 1) hx hb dX6_bitsBy_29 (by decide) ?_
  refine va_put (D := D) (ci := 6) (v := .int 1) (ty := .int) (C := RX6) (T := TX6) (N := 27) hx hb hg inX6 tyX6 tyX6_ok nmX6 hown hK hP hD hS 0 rfl rfl 0 (by decide) (hg _ k1219) (fun _ h9 => h9) rfl (by decide +kernel) rfl rfl (Nat.le_of_ble_eq_true rfl) dX6_bitsBy_30 (fun H locs hP hD hS => ?_)
  have hP : va_P D vwCl [(h0, .inr (6, [.int 1, v1, v2, v3, v4, v5, v6, v7, v8, v9, v10, v11, v12, v13, v14, v15, v16, v17, v18, v19, v20, v21, v22, v23, v24, v25, v26]))] H := hP
  have hD : va_D A [(h0, .inr (6, [.int 1, v1, v2, v3, v4, v5, v6, v7, v8, v9, v10, v11, v12, v13, v14, v15, v16, v17, v18, v19, v20, v21, v22, v23, v24, v25, v26]))] := hD
  refine lv_aload_n hx hb dX6_bitsBy_33 rfl (lv_at hl 0 rfl) ?_
  refine va_get (D := D) (ci := 6) (v := .int 1) (C := RX6) (T := TX6) (N := 27) hx hb hg inX6 hown hK hP 0 rfl rfl 0 (by decide) (hg _ k1219) (fun _ h9 => h9) rfl dX6_bitsBy_34 ?_
  refine lv_if_le (tgt := 44) hx hb dX6_bitsBy_37 (by decide) (fun c9 => absurd c9 (by decide)) (fun _ => ?_)
  refine lv_iconst (v := 0) hx hb dX6_bitsBy_40 (by decide) ?_
  refine lv_goto (tgt := 50) hx hb dX6_bitsBy_41 (by decide) ?_
  exact fi hx hb hr hlocks hP hD hK hS (()) trivial rfl [0] [] rfl (by decide) rfl (Nat.le_of_ble_eq_true rfl) (Nat.le_of_ble_eq_true rfl) dX6_bitsBy_50
set_option maxHeartbeats 4000000 in
set_option maxRecDepth 100000 in
theorem cX6_bitsBy_277 (l : Launch) (D : va_G) (h0 : Nat) (x0 : Int32) (v0 : Value) (v1 : Value) (v2 : Value) (v3 : Value) (v4 : Value) (v5 : Value) (v6 : Value) (v7 : Value) (v8 : Value) (v9 : Value) (v10 : Value) (v11 : Value) (v12 : Value) (v13 : Value) (v14 : Value) (v15 : Value) (v16 : Value) (v17 : Value) (v18 : Value) (v19 : Value) (v20 : Value) (v21 : Value) (v22 : Value) (v23 : Value) (v24 : Value) (v25 : Value) (v26 : Value)  (d0 : (lg_cmp x0.toInt64 0) < 0) : CT l yX6_bitsBy cX6_bitsBy 3 (some .int) { frames := 1, cells := 0, slots := 0, locals := 25 } [.ref h0, .int 2, .int x0] D [(h0, .inr (6, [v0, v1, v2, v3, v4, v5, v6, v7, v8, v9, v10, v11, v12, v13, v14, v15, v16, v17, v18, v19, v20, v21, v22, v23, v24, v25, v26]))] [] XN [(h0, .inr (6, [v0, v1, v2, v3, v4, v5, v6, v7, v8, v9, v10, v11, v12, v13, v14, v15, v16, v17, v18, v19, v20, v21, v22, v23, v24, v25, v26]))] (ei (fun _ : Unit => True) (fun u => 0) (fun _ => [(h0, .inr (6, [.int 1, v1, v2, v3, v4, v5, v6, v7, v8, v9, v10, v11, v12, v13, v14, v15, v16, v17, v18, v19, v20, v21, v22, v23, v24, v25, v26]))]) (fun u => []) D) 0 0 := by
  refine CT.ofW (by decide +kernel) (Nat.le_of_ble_eq_true rfl) ?_
  intro p e s m below meth c A ls hcs hP hK hD hX hA hS hl
  obtain ⟨hx, hb, hr, hml, hown, hg, hlocks, hin⟩ := hcs
  have hown : s.vm.findClass RX6 = some m.cls := hown
  have hl : lv_has ls 3 [(0, .ref h0), (1, .int 2), (2, .int x0)] := hl
  refine lv_aload_n hx hb dX6_bitsBy_0 rfl (lv_at hl 0 rfl) ?_
  refine lv_iload_n hx hb dX6_bitsBy_1 rfl (lv_at hl 1 rfl) ?_
  refine lv_i2l (v := 2) hx hb dX6_bitsBy_2 (by decide) ?_
  refine lv_lconst (v := 0) hx hb dX6_bitsBy_3 (by decide) ?_
  refine lv_ldc2 hx hb hown (hg _ k1510) dX6_bitsBy_4 ?_
  refine cSi (n := 3) (As := [.long 2, .long 0, .long 2]) (rest := [.ref h0]) (wr := [(h0, .inr (6, [v0, v1, v2, v3, v4, v5, v6, v7, v8, v9, v10, v11, v12, v13, v14, v15, v16, v17, v18, v19, v20, v21, v22, v23, v24, v25, v26]))]) (tr := []) hx hb hml hown hg okN (cX6_in_149 l D) (mwS k1317 k1318 k92 k1319) ⟨rfl, by decide, by decide, by decide +kernel⟩ ⟨rfl, rfl, (Nat.le_of_ble_eq_true rfl), (Nat.le_of_ble_eq_true rfl)⟩ hP hD hK hS xn [] [] [0] [] [] rfl (by decide) rfl rfl (by decide) (by decide) rfl rfl (aNil hA hS) (aNil hA hS) rfl hl.1 rfl (Nat.le_of_ble_eq_true rfl) dX6_bitsBy_7 ⟨(Nat.le_of_ble_eq_true rfl), (Nat.le_of_ble_eq_true rfl)⟩ (fun u H locs hφ hP hD hK hS hk => ?_)
  have hP : va_P D vwCl [(h0, .inr (6, [v0, v1, v2, v3, v4, v5, v6, v7, v8, v9, v10, v11, v12, v13, v14, v15, v16, v17, v18, v19, v20, v21, v22, v23, v24, v25, v26]))] H := hP
  have hD : va_D A [(h0, .inr (6, [v0, v1, v2, v3, v4, v5, v6, v7, v8, v9, v10, v11, v12, v13, v14, v15, v16, v17, v18, v19, v20, v21, v22, v23, v24, v25, v26]))] := hD
  have hK : va_K D vwCl [] s := hK
  refine W.widen (k := 0) (n := 0) (Nat.le_of_ble_eq_true rfl) (Nat.le_of_ble_eq_true rfl) ?_
  refine lv_if_eq (tgt := 29) hx hb dX6_bitsBy_10 (by decide) (fun c9 => absurd c9 (by decide)) (fun _ => ?_)
  refine lv_iload_n hx hb dX6_bitsBy_13 rfl (lv_at hl 2 rfl) ?_
  refine lv_i2l (v := x0.toInt64) hx hb dX6_bitsBy_14 rfl ?_
  refine lv_lconst (v := 0) hx hb dX6_bitsBy_15 (by decide) ?_
  refine lv_ldc2 hx hb hown (hg _ k1510) dX6_bitsBy_16 ?_
  refine cSi (n := 3) (As := [.long x0.toInt64, .long 0, .long 2]) (rest := [.ref h0]) (wr := [(h0, .inr (6, [v0, v1, v2, v3, v4, v5, v6, v7, v8, v9, v10, v11, v12, v13, v14, v15, v16, v17, v18, v19, v20, v21, v22, v23, v24, v25, v26]))]) (tr := []) hx hb hml hown hg okN (cX6_in_140 l D x0 d0) (mwS k1317 k1318 k92 k1319) ⟨rfl, by decide, by decide, by decide +kernel⟩ ⟨rfl, rfl, (Nat.le_of_ble_eq_true rfl), (Nat.le_of_ble_eq_true rfl)⟩ hP hD hK hS xn [] [] [0] [] [] rfl (by decide) rfl rfl (by decide) (by decide) rfl rfl (aNil hA hS) (aNil hA hS) rfl hl.1 rfl (Nat.le_of_ble_eq_true rfl) dX6_bitsBy_19 ⟨(Nat.le_of_ble_eq_true rfl), (Nat.le_of_ble_eq_true rfl)⟩ (fun u H locs hφ hP hD hK hS hk => ?_)
  have hP : va_P D vwCl [(h0, .inr (6, [v0, v1, v2, v3, v4, v5, v6, v7, v8, v9, v10, v11, v12, v13, v14, v15, v16, v17, v18, v19, v20, v21, v22, v23, v24, v25, v26]))] H := hP
  have hD : va_D A [(h0, .inr (6, [v0, v1, v2, v3, v4, v5, v6, v7, v8, v9, v10, v11, v12, v13, v14, v15, v16, v17, v18, v19, v20, v21, v22, v23, v24, v25, v26]))] := hD
  have hK : va_K D vwCl [] s := hK
  refine W.widen (k := 0) (n := 0) (Nat.le_of_ble_eq_true rfl) (Nat.le_of_ble_eq_true rfl) ?_
  refine lv_if_eq (tgt := 29) hx hb dX6_bitsBy_22 (by decide) (fun _ => ?_) (fun c9 => absurd (by decide) c9)
  refine lv_iconst (v := 1) hx hb dX6_bitsBy_29 (by decide) ?_
  refine va_put (D := D) (ci := 6) (v := .int 1) (ty := .int) (C := RX6) (T := TX6) (N := 27) hx hb hg inX6 tyX6 tyX6_ok nmX6 hown hK hP hD hS 0 rfl rfl 0 (by decide) (hg _ k1219) (fun _ h9 => h9) rfl (by decide +kernel) rfl rfl (Nat.le_of_ble_eq_true rfl) dX6_bitsBy_30 (fun H locs hP hD hS => ?_)
  have hP : va_P D vwCl [(h0, .inr (6, [.int 1, v1, v2, v3, v4, v5, v6, v7, v8, v9, v10, v11, v12, v13, v14, v15, v16, v17, v18, v19, v20, v21, v22, v23, v24, v25, v26]))] H := hP
  have hD : va_D A [(h0, .inr (6, [.int 1, v1, v2, v3, v4, v5, v6, v7, v8, v9, v10, v11, v12, v13, v14, v15, v16, v17, v18, v19, v20, v21, v22, v23, v24, v25, v26]))] := hD
  refine lv_aload_n hx hb dX6_bitsBy_33 rfl (lv_at hl 0 rfl) ?_
  refine va_get (D := D) (ci := 6) (v := .int 1) (C := RX6) (T := TX6) (N := 27) hx hb hg inX6 hown hK hP 0 rfl rfl 0 (by decide) (hg _ k1219) (fun _ h9 => h9) rfl dX6_bitsBy_34 ?_
  refine lv_if_le (tgt := 44) hx hb dX6_bitsBy_37 (by decide) (fun c9 => absurd c9 (by decide)) (fun _ => ?_)
  refine lv_iconst (v := 0) hx hb dX6_bitsBy_40 (by decide) ?_
  refine lv_goto (tgt := 50) hx hb dX6_bitsBy_41 (by decide) ?_
  exact fi hx hb hr hlocks hP hD hK hS (()) trivial rfl [0] [] rfl (by decide) rfl (Nat.le_of_ble_eq_true rfl) (Nat.le_of_ble_eq_true rfl) dX6_bitsBy_50
set_option maxHeartbeats 4000000 in
set_option maxRecDepth 100000 in
theorem cX6_bitsOf_279 (l : Launch) (D : va_G) (h0 : Nat) (h1 : Nat) (h2 : Nat) (h3 : Nat) (h4 : Nat) (v0 : Value) (v1 : Value) (v2 : Value) (v3 : Value) (v4 : Value) (v5 : Value) (v6 : Value) (v7 : Value) (v8 : Value) (v9 : Value) (v10 : Value) (v11 : Value) (v12 : Value) (v13 : Value) (v14 : Value) (v15 : Value) (v16 : Value) (v17 : Value) (v18 : Value) (v19 : Value) (v20 : Value) (f0 : Nat → Int64) (f1 : Nat → Int64) (f2 : Nat → Int32) (f3 : Nat → Int32) (a0 : ClassId) (a1 : ClassId) (a2 : ClassId) (a3 : ClassId) (ef2_0 : f2 0 = 0) (ef2_1 : f2 1 = 0) (ef3_0 : f3 0 = 0) (ef3_1 : f3 1 = 1)  : CT l yX6_bitsOf cX6_bitsOf 4 (some .int) { frames := 4, cells := 0, slots := 0, locals := 85 } [.ref h0, .int 2, .int 0] D [(h0, .inr (6, [v0, .ref h1, .ref h2, v1, v2, .ref h4, .ref h3, .int 2, .int 2, v3, v4, v5, v6, v7, v8, v9, v10, v11, v12, v13, v14, v15, v16, v17, v18, v19, v20])), (h1, .inl (a0, 609, .inr (.inl f0))), (h2, .inl (a1, 609, .inr (.inl f1))), (h3, .inl (a2, 48, .inl f2)), (h4, .inl (a3, 48, .inl f3))] [(a0, .long), (a1, .long), (a2, .int), (a3, .int)] XN [(h0, .inr (6, [v0, .ref h1, .ref h2, v1, v2, .ref h4, .ref h3, .int 2, .int 2, v3, v4, v5, v6, v7, v8, v9, v10, v11, v12, v13, v14, v15, v16, v17, v18, v19, v20])), (h1, .inl (a0, 609, .inr (.inl f0))), (h2, .inl (a1, 609, .inr (.inl f1))), (h3, .inl (a2, 48, .inl f2)), (h4, .inl (a3, 48, .inl f3))] (ei (fun _ : (Nat → Int64) × (Nat → Int64) => True) (fun u => 0) (fun u => [(h0, .inr (6, [v0, .ref h1, .ref h2, v1, v2, .ref h4, .ref h3, .int 2, .int 2, v3, v4, v5, v6, v7, v8, v9, v10, v11, v12, v13, v14, v15, v16, v17, v18, v19, v20])), (h1, .inl (a0, 609, .inr (.inl u.1))), (h2, .inl (a1, 609, .inr (.inl u.2))), (h3, .inl (a2, 48, .inl f2)), (h4, .inl (a3, 48, .inl f3))]) (fun u => [(a0, .long), (a1, .long), (a2, .int), (a3, .int)]) D) 0 0 := by
  refine CT.ofW (by decide +kernel) (Nat.le_of_ble_eq_true rfl) ?_
  intro p e s m below meth c A ls hcs hP hK hD hX hA hS hl
  obtain ⟨hx, hb, hr, hml, hown, hg, hlocks, hin⟩ := hcs
  have hown : s.vm.findClass RX6 = some m.cls := hown
  have hl : lv_has ls 4 [(0, .ref h0), (1, .int 2), (2, .int 0)] := hl
  refine lv_aload_n hx hb dX6_bitsOf_0 rfl (lv_at hl 0 rfl) ?_
  refine cVv (n := 0) (As := []) (rest := []) (wr := [(h3, .inl (a2, 48, .inl f2)), (h4, .inl (a3, 48, .inl f3))]) (tr := [(a2, .int), (a3, .int)]) hx hb hml hown hg okN (cX6_puts_234 l D h0 h1 h2 v0 v1 v2 (.ref h4) (.ref h3) (.int 2) (.int 2) v3 v4 v5 v6 v7 v8 v9 v10 v11 v12 v13 v14 v15 v16 v17 v18 v19 v20 f0 f1 a0 a1) (mwV k1646 k1648 k78 k92 k1649) ⟨rfl, by decide, by decide, by decide +kernel⟩ ⟨rfl, rfl, (Nat.le_of_ble_eq_true rfl), (Nat.le_of_ble_eq_true rfl)⟩ hP hD hK hS xn [0, 1, 2] [0, 1, 2] [3, 4] [0, 1] [2, 3] rfl (by decide) rfl rfl (by decide) (by decide) rfl rfl (va_free hD hS hA [0, 1, 2] rfl) (va_free hD hS hA [0, 1, 2] rfl) 0 rfl rfl rfl hl.1 rfl (Nat.le_of_ble_eq_true rfl) dX6_bitsOf_1 ⟨(Nat.le_of_ble_eq_true rfl), (Nat.le_of_ble_eq_true rfl)⟩ (fun u H locs hφ hP hD hK hS hk => ?_)
  obtain ⟨y1_1, rfl⟩ : ∃ z, z = u := ⟨_, rfl⟩
  have hP : va_P D vwCl [(h3, .inl (a2, 48, .inl f2)), (h4, .inl (a3, 48, .inl f3)), (h0, .inr (6, [v0, .ref h1, .ref h2, v1, v2, .ref h4, .ref h3, .int 2, .int 2, v3, v4, v5, v6, v7, v8, v9, v10, v11, v12, v13, v14, v15, v16, v17, v18, v19, v20])), (h1, .inl (a0, 609, .inr (.inl f0))), (h2, .inl (a1, 609, .inr (.inl y1_1)))] H := hP
  have hD : va_D A [(h3, .inl (a2, 48, .inl f2)), (h4, .inl (a3, 48, .inl f3)), (h0, .inr (6, [v0, .ref h1, .ref h2, v1, v2, .ref h4, .ref h3, .int 2, .int 2, v3, v4, v5, v6, v7, v8, v9, v10, v11, v12, v13, v14, v15, v16, v17, v18, v19, v20])), (h1, .inl (a0, 609, .inr (.inl f0))), (h2, .inl (a1, 609, .inr (.inl y1_1)))] := hD
  have hK : va_K D vwCl [(a2, .int), (a3, .int), (a0, .long), (a1, .long)] s := hK
  refine W.widen (k := 0) (n := 0) (Nat.le_of_ble_eq_true rfl) (Nat.le_of_ble_eq_true rfl) ?_
  refine lv_aload_n hx hb dX6_bitsOf_4 rfl (lv_at hl 0 rfl) ?_
  refine va_get (D := D) (ci := 6) (v := .ref h1) (C := RX6) (T := TX6) (N := 27) hx hb hg inX6 hown hK hP 2 rfl rfl 1 (by decide) (hg _ k1220) (fun _ h9 => h9) rfl dX6_bitsOf_5 ?_
  refine lv_iconst (v := 0) hx hb dX6_bitsOf_8 (by decide) ?_
  refine lv_iload_n hx hb dX6_bitsOf_9 rfl (lv_at hl 1 rfl) ?_
  refine lv_i2l (v := 2) hx hb dX6_bitsOf_10 (by decide) ?_
  refine astL hx hb hK hP hD hS 3 2 rfl rfl 0 (by decide) (vin (by decide)) dX6_bitsOf_11 (fun H locs hP hD hS => ?_)
  have hP : va_P D vwCl [(h3, .inl (a2, 48, .inl f2)), (h4, .inl (a3, 48, .inl f3)), (h0, .inr (6, [v0, .ref h1, .ref h2, v1, v2, .ref h4, .ref h3, .int 2, .int 2, v3, v4, v5, v6, v7, v8, v9, v10, v11, v12, v13, v14, v15, v16, v17, v18, v19, v20])), (h1, .inl (a0, 609, .inr (.inl (vp_updL f0 0 2)))), (h2, .inl (a1, 609, .inr (.inl y1_1)))] H := hP
  have hD : va_D A [(h3, .inl (a2, 48, .inl f2)), (h4, .inl (a3, 48, .inl f3)), (h0, .inr (6, [v0, .ref h1, .ref h2, v1, v2, .ref h4, .ref h3, .int 2, .int 2, v3, v4, v5, v6, v7, v8, v9, v10, v11, v12, v13, v14, v15, v16, v17, v18, v19, v20])), (h1, .inl (a0, 609, .inr (.inl (vp_updL f0 0 2)))), (h2, .inl (a1, 609, .inr (.inl y1_1)))] := hD
  refine lv_aload_n hx hb dX6_bitsOf_12 rfl (lv_at hl 0 rfl) ?_
  refine va_get (D := D) (ci := 6) (v := .ref h1) (C := RX6) (T := TX6) (N := 27) hx hb hg inX6 hown hK hP 2 rfl rfl 1 (by decide) (hg _ k1220) (fun _ h9 => h9) rfl dX6_bitsOf_13 ?_
  refine lv_iconst (v := 1) hx hb dX6_bitsOf_16 (by decide) ?_
  refine lv_iload_n hx hb dX6_bitsOf_17 rfl (lv_at hl 2 rfl) ?_
  refine lv_i2l (v := 0) hx hb dX6_bitsOf_18 (by decide) ?_
  refine astL hx hb hK hP hD hS 3 2 rfl rfl 1 (by decide) (vin (by decide)) dX6_bitsOf_19 (fun H locs hP hD hS => ?_)
  have hP : va_P D vwCl [(h3, .inl (a2, 48, .inl f2)), (h4, .inl (a3, 48, .inl f3)), (h0, .inr (6, [v0, .ref h1, .ref h2, v1, v2, .ref h4, .ref h3, .int 2, .int 2, v3, v4, v5, v6, v7, v8, v9, v10, v11, v12, v13, v14, v15, v16, v17, v18, v19, v20])), (h1, .inl (a0, 609, .inr (.inl (vp_updL (vp_updL f0 0 2) 1 0)))), (h2, .inl (a1, 609, .inr (.inl y1_1)))] H := hP
  have hD : va_D A [(h3, .inl (a2, 48, .inl f2)), (h4, .inl (a3, 48, .inl f3)), (h0, .inr (6, [v0, .ref h1, .ref h2, v1, v2, .ref h4, .ref h3, .int 2, .int 2, v3, v4, v5, v6, v7, v8, v9, v10, v11, v12, v13, v14, v15, v16, v17, v18, v19, v20])), (h1, .inl (a0, 609, .inr (.inl (vp_updL (vp_updL f0 0 2) 1 0)))), (h2, .inl (a1, 609, .inr (.inl y1_1)))] := hD
  refine lv_aload_n hx hb dX6_bitsOf_20 rfl (lv_at hl 0 rfl) ?_
  refine cVv (n := 0) (As := []) (rest := []) (wr := [(h2, .inl (a1, 609, .inr (.inl y1_1)))]) (tr := [(a1, .long)]) hx hb hml hown hg okN (cX6_anew_186 l D h0 h1 h3 h4 v0 (.ref h2) v1 v2 (.int 2) v3 v4 v5 v6 v7 v8 v9 v10 v11 v12 v13 v14 v15 v16 v17 v18 v19 v20 (vp_updL (vp_updL f0 0 2) 1 0) f2 f3 a0 a2 a3 ef2_0 ef2_1 ef3_0 ef3_1) (mwV k1214 k1216 k35 k92 k1217) ⟨rfl, by decide, by decide, by decide +kernel⟩ ⟨rfl, rfl, (Nat.le_of_ble_eq_true rfl), (Nat.le_of_ble_eq_true rfl)⟩ hP hD hK hS xn [2, 3, 0, 1] [2, 3, 0, 1] [4] [2, 0, 1] [3] rfl (by decide) rfl rfl (by decide) (by decide) rfl rfl (va_free hD hS hA [2, 3, 0, 1] rfl) (va_free hD hS hA [2, 3, 0, 1] rfl) 2 rfl rfl rfl hl.1 rfl (Nat.le_of_ble_eq_true rfl) dX6_bitsOf_21 ⟨(Nat.le_of_ble_eq_true rfl), (Nat.le_of_ble_eq_true rfl)⟩ (fun u H locs hφ hP hD hK hS hk => ?_)
  have hP : va_P D vwCl [(h2, .inl (a1, 609, .inr (.inl y1_1))), (h0, .inr (6, [v0, .ref h1, .ref h2, v1, v2, .ref h4, .ref h3, .int 2, .int 2, v3, v4, v5, v6, v7, v8, v9, v10, v11, v12, v13, v14, v15, v16, v17, v18, v19, v20])), (h1, .inl (a0, 609, .inr (.inl (vp_updL (vp_updL (vp_updL (vp_updL (vp_updL (vp_updL (vp_updL (vp_updL (vp_updL (vp_updL f0 0 2) 1 0) 3 0) 4 0) 5 0) 53 1) 101 (-1)) 6 0) 54 1) 102 (-1))))), (h3, .inl (a2, 48, .inl f2)), (h4, .inl (a3, 48, .inl f3))] H := hP
  have hD : va_D A [(h2, .inl (a1, 609, .inr (.inl y1_1))), (h0, .inr (6, [v0, .ref h1, .ref h2, v1, v2, .ref h4, .ref h3, .int 2, .int 2, v3, v4, v5, v6, v7, v8, v9, v10, v11, v12, v13, v14, v15, v16, v17, v18, v19, v20])), (h1, .inl (a0, 609, .inr (.inl (vp_updL (vp_updL (vp_updL (vp_updL (vp_updL (vp_updL (vp_updL (vp_updL (vp_updL (vp_updL f0 0 2) 1 0) 3 0) 4 0) 5 0) 53 1) 101 (-1)) 6 0) 54 1) 102 (-1))))), (h3, .inl (a2, 48, .inl f2)), (h4, .inl (a3, 48, .inl f3))] := hD
  have hK : va_K D vwCl [(a1, .long), (a0, .long), (a2, .int), (a3, .int)] s := hK
  refine W.widen (k := 0) (n := 0) (Nat.le_of_ble_eq_true rfl) (Nat.le_of_ble_eq_true rfl) ?_
  refine lv_aload_n hx hb dX6_bitsOf_24 rfl (lv_at hl 0 rfl) ?_
  refine lv_bipush (v := 46) hx hb dX6_bitsOf_25 (by decide) ?_
  refine cVi (n := 1) (As := [.int 46]) (rest := []) (wr := [(h2, .inl (a1, 609, .inr (.inl y1_1))), (h0, .inr (6, [v0, .ref h1, .ref h2, v1, v2, .ref h4, .ref h3, .int 2, .int 2, v3, v4, v5, v6, v7, v8, v9, v10, v11, v12, v13, v14, v15, v16, v17, v18, v19, v20])), (h1, .inl (a0, 609, .inr (.inl (vp_updL (vp_updL (vp_updL (vp_updL (vp_updL (vp_updL (vp_updL (vp_updL (vp_updL (vp_updL f0 0 2) 1 0) 3 0) 4 0) 5 0) 53 1) 101 (-1)) 6 0) 54 1) 102 (-1))))), (h3, .inl (a2, 48, .inl f2)), (h4, .inl (a3, 48, .inl f3))]) (tr := [(a1, .long), (a0, .long), (a2, .int), (a3, .int)]) hx hb hml hown hg okN (cX6_goesOn_263 l D h0 h1 v0 (.ref h2) v1 v2 (.ref h4) (.ref h3) v3 v4 v5 v6 v7 v8 v9 v10 v11 v12 v13 v14 v15 v16 v17 v18 v19 v20 (vp_updL (vp_updL (vp_updL (vp_updL (vp_updL (vp_updL (vp_updL (vp_updL (vp_updL (vp_updL f0 0 2) 1 0) 3 0) 4 0) 5 0) 53 1) 101 (-1)) 6 0) 54 1) 102 (-1)) a0 rfl) (mwV k1588 k1590 k71 k92 k1591) ⟨rfl, by decide, by decide, by decide +kernel⟩ ⟨rfl, rfl, (Nat.le_of_ble_eq_true rfl), (Nat.le_of_ble_eq_true rfl)⟩ hP hD hK hS xn [1, 2] [] [0, 1, 2, 3, 4] [1] [0, 1, 2, 3] rfl (by decide) rfl rfl (by decide) (by decide) rfl rfl (aNil hA hS) (aNil hA hS) 1 rfl rfl rfl hl.1 rfl (Nat.le_of_ble_eq_true rfl) dX6_bitsOf_27 ⟨(Nat.le_of_ble_eq_true rfl), (Nat.le_of_ble_eq_true rfl)⟩ (fun u H locs hφ hP hD hK hS hk => ?_)
  have hP : va_P D vwCl [(h2, .inl (a1, 609, .inr (.inl y1_1))), (h0, .inr (6, [v0, .ref h1, .ref h2, v1, v2, .ref h4, .ref h3, .int 2, .int 2, v3, v4, v5, v6, v7, v8, v9, v10, v11, v12, v13, v14, v15, v16, v17, v18, v19, v20])), (h1, .inl (a0, 609, .inr (.inl (vp_updL (vp_updL (vp_updL (vp_updL (vp_updL (vp_updL (vp_updL (vp_updL (vp_updL (vp_updL f0 0 2) 1 0) 3 0) 4 0) 5 0) 53 1) 101 (-1)) 6 0) 54 1) 102 (-1))))), (h3, .inl (a2, 48, .inl f2)), (h4, .inl (a3, 48, .inl f3))] H := hP
  have hD : va_D A [(h2, .inl (a1, 609, .inr (.inl y1_1))), (h0, .inr (6, [v0, .ref h1, .ref h2, v1, v2, .ref h4, .ref h3, .int 2, .int 2, v3, v4, v5, v6, v7, v8, v9, v10, v11, v12, v13, v14, v15, v16, v17, v18, v19, v20])), (h1, .inl (a0, 609, .inr (.inl (vp_updL (vp_updL (vp_updL (vp_updL (vp_updL (vp_updL (vp_updL (vp_updL (vp_updL (vp_updL f0 0 2) 1 0) 3 0) 4 0) 5 0) 53 1) 101 (-1)) 6 0) 54 1) 102 (-1))))), (h3, .inl (a2, 48, .inl f2)), (h4, .inl (a3, 48, .inl f3))] := hD
  have hK : va_K D vwCl [(a1, .long), (a0, .long), (a2, .int), (a3, .int)] s := hK
  refine W.widen (k := 0) (n := 0) (Nat.le_of_ble_eq_true rfl) (Nat.le_of_ble_eq_true rfl) ?_
  refine lv_istore_n (lv' := [(3, .int 0), (0, .ref h0), (1, .int 2), (2, .int 0)]) hx hb dX6_bitsOf_30 rfl hl (by decide) rfl (fun ls hl => ?_)
  refine lv_aload_n hx hb dX6_bitsOf_31 rfl (lv_at hl 1 rfl) ?_
  refine cVi (n := 0) (As := []) (rest := []) (wr := [(h2, .inl (a1, 609, .inr (.inl y1_1))), (h0, .inr (6, [v0, .ref h1, .ref h2, v1, v2, .ref h4, .ref h3, .int 2, .int 2, v3, v4, v5, v6, v7, v8, v9, v10, v11, v12, v13, v14, v15, v16, v17, v18, v19, v20])), (h1, .inl (a0, 609, .inr (.inl (vp_updL (vp_updL (vp_updL (vp_updL (vp_updL (vp_updL (vp_updL (vp_updL (vp_updL (vp_updL f0 0 2) 1 0) 3 0) 4 0) 5 0) 53 1) 101 (-1)) 6 0) 54 1) 102 (-1))))), (h3, .inl (a2, 48, .inl f2)), (h4, .inl (a3, 48, .inl f3))]) (tr := [(a1, .long), (a0, .long), (a2, .int), (a3, .int)]) hx hb hml hown hg okN (cX6_bitsNow_133 l D h0 h1 v0 (.ref h2) v1 v2 (.ref h4) (.ref h3) (.int 2) (.int 2) v3 v4 v5 v6 v7 v8 v9 v10 v11 v12 v13 v14 v15 v16 v17 v18 v19 v20 (vp_updL (vp_updL (vp_updL (vp_updL (vp_updL (vp_updL (vp_updL (vp_updL (vp_updL (vp_updL f0 0 2) 1 0) 3 0) 4 0) 5 0) 53 1) 101 (-1)) 6 0) 54 1) 102 (-1)) a0 rfl) (mwV k1506 k1508 k61 k92 k1509) ⟨rfl, by decide, by decide, by decide +kernel⟩ ⟨rfl, rfl, (Nat.le_of_ble_eq_true rfl), (Nat.le_of_ble_eq_true rfl)⟩ hP hD hK hS xn [1, 2] [] [0, 1, 2, 3, 4] [1] [0, 1, 2, 3] rfl (by decide) rfl rfl (by decide) (by decide) rfl rfl (aNil hA hS) (aNil hA hS) 1 rfl rfl rfl hl.1 rfl (Nat.le_of_ble_eq_true rfl) dX6_bitsOf_32 ⟨(Nat.le_of_ble_eq_true rfl), (Nat.le_of_ble_eq_true rfl)⟩ (fun u H locs hφ hP hD hK hS hk => ?_)
  have hP : va_P D vwCl [(h2, .inl (a1, 609, .inr (.inl y1_1))), (h0, .inr (6, [v0, .ref h1, .ref h2, v1, v2, .ref h4, .ref h3, .int 2, .int 2, v3, v4, v5, v6, v7, v8, v9, v10, v11, v12, v13, v14, v15, v16, v17, v18, v19, v20])), (h1, .inl (a0, 609, .inr (.inl (vp_updL (vp_updL (vp_updL (vp_updL (vp_updL (vp_updL (vp_updL (vp_updL (vp_updL (vp_updL f0 0 2) 1 0) 3 0) 4 0) 5 0) 53 1) 101 (-1)) 6 0) 54 1) 102 (-1))))), (h3, .inl (a2, 48, .inl f2)), (h4, .inl (a3, 48, .inl f3))] H := hP
  have hD : va_D A [(h2, .inl (a1, 609, .inr (.inl y1_1))), (h0, .inr (6, [v0, .ref h1, .ref h2, v1, v2, .ref h4, .ref h3, .int 2, .int 2, v3, v4, v5, v6, v7, v8, v9, v10, v11, v12, v13, v14, v15, v16, v17, v18, v19, v20])), (h1, .inl (a0, 609, .inr (.inl (vp_updL (vp_updL (vp_updL (vp_updL (vp_updL (vp_updL (vp_updL (vp_updL (vp_updL (vp_updL f0 0 2) 1 0) 3 0) 4 0) 5 0) 53 1) 101 (-1)) 6 0) 54 1) 102 (-1))))), (h3, .inl (a2, 48, .inl f2)), (h4, .inl (a3, 48, .inl f3))] := hD
  have hK : va_K D vwCl [(a1, .long), (a0, .long), (a2, .int), (a3, .int)] s := hK
  refine W.widen (k := 0) (n := 0) (Nat.le_of_ble_eq_true rfl) (Nat.le_of_ble_eq_true rfl) ?_
  refine lv_istore_n (lv' := [(3, .int 0), (0, .ref h0), (1, .int 2), (2, .int 0)]) hx hb dX6_bitsOf_35 rfl hl (by decide) rfl (fun ls hl => ?_)
  refine lv_aload_n hx hb dX6_bitsOf_36 rfl (lv_at hl 1 rfl) ?_
  refine cVv (n := 0) (As := []) (rest := []) (wr := [(h3, .inl (a2, 48, .inl f2)), (h4, .inl (a3, 48, .inl f3))]) (tr := [(a2, .int), (a3, .int)]) hx hb hml hown hg okN (cX6_takesBack_236 l D h0 h2 h1 v0 v1 v2 (.ref h4) (.ref h3) (.int 2) (.int 2) v3 v4 v5 v6 v7 v8 v9 v10 v11 v12 v13 v14 v15 v16 v17 v18 v19 v20 y1_1 (vp_updL (vp_updL (vp_updL (vp_updL (vp_updL (vp_updL (vp_updL (vp_updL (vp_updL (vp_updL f0 0 2) 1 0) 3 0) 4 0) 5 0) 53 1) 101 (-1)) 6 0) 54 1) 102 (-1)) a1 a0) (mwV k1654 k1656 k80 k92 k1657) ⟨rfl, by decide, by decide, by decide +kernel⟩ ⟨rfl, rfl, (Nat.le_of_ble_eq_true rfl), (Nat.le_of_ble_eq_true rfl)⟩ hP hD hK hS xn [1, 0, 2] [1, 0, 2] [3, 4] [0, 1] [2, 3] rfl (by decide) rfl rfl (by decide) (by decide) rfl rfl (va_free hD hS hA [1, 0, 2] rfl) (va_free hD hS hA [1, 0, 2] rfl) 1 rfl rfl rfl hl.1 rfl (Nat.le_of_ble_eq_true rfl) dX6_bitsOf_37 ⟨(Nat.le_of_ble_eq_true rfl), (Nat.le_of_ble_eq_true rfl)⟩ (fun u H locs hφ hP hD hK hS hk => ?_)
  obtain ⟨y1_2, rfl⟩ : ∃ z, z = u := ⟨_, rfl⟩
  have hP : va_P D vwCl [(h3, .inl (a2, 48, .inl f2)), (h4, .inl (a3, 48, .inl f3)), (h0, .inr (6, [v0, .ref h1, .ref h2, v1, v2, .ref h4, .ref h3, .int 2, .int 2, v3, v4, v5, v6, v7, v8, v9, v10, v11, v12, v13, v14, v15, v16, v17, v18, v19, v20])), (h2, .inl (a1, 609, .inr (.inl y1_1))), (h1, .inl (a0, 609, .inr (.inl y1_2)))] H := hP
  have hD : va_D A [(h3, .inl (a2, 48, .inl f2)), (h4, .inl (a3, 48, .inl f3)), (h0, .inr (6, [v0, .ref h1, .ref h2, v1, v2, .ref h4, .ref h3, .int 2, .int 2, v3, v4, v5, v6, v7, v8, v9, v10, v11, v12, v13, v14, v15, v16, v17, v18, v19, v20])), (h2, .inl (a1, 609, .inr (.inl y1_1))), (h1, .inl (a0, 609, .inr (.inl y1_2)))] := hD
  have hK : va_K D vwCl [(a2, .int), (a3, .int), (a1, .long), (a0, .long)] s := hK
  refine W.widen (k := 0) (n := 0) (Nat.le_of_ble_eq_true rfl) (Nat.le_of_ble_eq_true rfl) ?_
  refine lv_iload_n hx hb dX6_bitsOf_40 rfl (lv_at hl 0 rfl) ?_
  exact fi hx hb hr hlocks hP hD hK hS ((y1_2, y1_1)) trivial rfl [2, 4, 3, 0, 1] [3, 2, 0, 1] rfl (by decide) rfl (Nat.le_of_ble_eq_true rfl) (Nat.le_of_ble_eq_true rfl) dX6_bitsOf_41
set_option maxHeartbeats 4000000 in
set_option maxRecDepth 100000 in
theorem cX6_bitsBy_278 (l : Launch) (D : va_G) (h0 : Nat) (h1 : Nat) (h2 : Nat) (h3 : Nat) (h4 : Nat) (v0 : Value) (v1 : Value) (v2 : Value) (v3 : Value) (v4 : Value) (v5 : Value) (v6 : Value) (v7 : Value) (v8 : Value) (v9 : Value) (v10 : Value) (v11 : Value) (v12 : Value) (v13 : Value) (v14 : Value) (v15 : Value) (v16 : Value) (v17 : Value) (v18 : Value) (v19 : Value) (v20 : Value) (f0 : Nat → Int64) (f1 : Nat → Int64) (f2 : Nat → Int32) (f3 : Nat → Int32) (a0 : ClassId) (a1 : ClassId) (a2 : ClassId) (a3 : ClassId) (ef2_0 : f2 0 = 0) (ef2_1 : f2 1 = 0) (ef3_0 : f3 0 = 0) (ef3_1 : f3 1 = 1)  : CT l yX6_bitsBy cX6_bitsBy 3 (some .int) { frames := 5, cells := 0, slots := 0, locals := 108 } [.ref h0, .int 2, .int 0] D [(h0, .inr (6, [v0, .ref h1, .ref h2, v1, v2, .ref h4, .ref h3, .int 2, .int 2, v3, v4, v5, v6, v7, v8, v9, v10, v11, v12, v13, v14, v15, v16, v17, v18, v19, v20])), (h1, .inl (a0, 609, .inr (.inl f0))), (h2, .inl (a1, 609, .inr (.inl f1))), (h3, .inl (a2, 48, .inl f2)), (h4, .inl (a3, 48, .inl f3))] [(a0, .long), (a1, .long), (a2, .int), (a3, .int)] XN [(h0, .inr (6, [v0, .ref h1, .ref h2, v1, v2, .ref h4, .ref h3, .int 2, .int 2, v3, v4, v5, v6, v7, v8, v9, v10, v11, v12, v13, v14, v15, v16, v17, v18, v19, v20])), (h1, .inl (a0, 609, .inr (.inl f0))), (h2, .inl (a1, 609, .inr (.inl f1))), (h3, .inl (a2, 48, .inl f2)), (h4, .inl (a3, 48, .inl f3))] (ei (fun _ : (Nat → Int64) × (Nat → Int64) => True) (fun u => 0) (fun u => [(h0, .inr (6, [.int 0, .ref h1, .ref h2, v1, v2, .ref h4, .ref h3, .int 2, .int 2, v3, v4, v5, v6, v7, v8, v9, v10, v11, v12, v13, v14, v15, v16, v17, v18, v19, v20])), (h1, .inl (a0, 609, .inr (.inl u.1))), (h2, .inl (a1, 609, .inr (.inl u.2))), (h3, .inl (a2, 48, .inl f2)), (h4, .inl (a3, 48, .inl f3))]) (fun u => [(a0, .long), (a1, .long), (a2, .int), (a3, .int)]) D) 0 0 := by
  refine CT.ofW (by decide +kernel) (Nat.le_of_ble_eq_true rfl) ?_
  intro p e s m below meth c A ls hcs hP hK hD hX hA hS hl
  obtain ⟨hx, hb, hr, hml, hown, hg, hlocks, hin⟩ := hcs
  have hown : s.vm.findClass RX6 = some m.cls := hown
  have hl : lv_has ls 3 [(0, .ref h0), (1, .int 2), (2, .int 0)] := hl
  refine lv_aload_n hx hb dX6_bitsBy_0 rfl (lv_at hl 0 rfl) ?_
  refine lv_iload_n hx hb dX6_bitsBy_1 rfl (lv_at hl 1 rfl) ?_
  refine lv_i2l (v := 2) hx hb dX6_bitsBy_2 (by decide) ?_
  refine lv_lconst (v := 0) hx hb dX6_bitsBy_3 (by decide) ?_
  refine lv_ldc2 hx hb hown (hg _ k1510) dX6_bitsBy_4 ?_
  refine cSi (n := 3) (As := [.long 2, .long 0, .long 2]) (rest := [.ref h0]) (wr := [(h0, .inr (6, [v0, .ref h1, .ref h2, v1, v2, .ref h4, .ref h3, .int 2, .int 2, v3, v4, v5, v6, v7, v8, v9, v10, v11, v12, v13, v14, v15, v16, v17, v18, v19, v20])), (h1, .inl (a0, 609, .inr (.inl f0))), (h2, .inl (a1, 609, .inr (.inl f1))), (h3, .inl (a2, 48, .inl f2)), (h4, .inl (a3, 48, .inl f3))]) (tr := [(a0, .long), (a1, .long), (a2, .int), (a3, .int)]) hx hb hml hown hg okN (cX6_in_149 l D) (mwS k1317 k1318 k92 k1319) ⟨rfl, by decide, by decide, by decide +kernel⟩ ⟨rfl, rfl, (Nat.le_of_ble_eq_true rfl), (Nat.le_of_ble_eq_true rfl)⟩ hP hD hK hS xn [] [] [0, 1, 2, 3, 4] [] [0, 1, 2, 3] rfl (by decide) rfl rfl (by decide) (by decide) rfl rfl (aNil hA hS) (aNil hA hS) rfl hl.1 rfl (Nat.le_of_ble_eq_true rfl) dX6_bitsBy_7 ⟨(Nat.le_of_ble_eq_true rfl), (Nat.le_of_ble_eq_true rfl)⟩ (fun u H locs hφ hP hD hK hS hk => ?_)
  have hP : va_P D vwCl [(h0, .inr (6, [v0, .ref h1, .ref h2, v1, v2, .ref h4, .ref h3, .int 2, .int 2, v3, v4, v5, v6, v7, v8, v9, v10, v11, v12, v13, v14, v15, v16, v17, v18, v19, v20])), (h1, .inl (a0, 609, .inr (.inl f0))), (h2, .inl (a1, 609, .inr (.inl f1))), (h3, .inl (a2, 48, .inl f2)), (h4, .inl (a3, 48, .inl f3))] H := hP
  have hD : va_D A [(h0, .inr (6, [v0, .ref h1, .ref h2, v1, v2, .ref h4, .ref h3, .int 2, .int 2, v3, v4, v5, v6, v7, v8, v9, v10, v11, v12, v13, v14, v15, v16, v17, v18, v19, v20])), (h1, .inl (a0, 609, .inr (.inl f0))), (h2, .inl (a1, 609, .inr (.inl f1))), (h3, .inl (a2, 48, .inl f2)), (h4, .inl (a3, 48, .inl f3))] := hD
  have hK : va_K D vwCl [(a0, .long), (a1, .long), (a2, .int), (a3, .int)] s := hK
  refine W.widen (k := 0) (n := 0) (Nat.le_of_ble_eq_true rfl) (Nat.le_of_ble_eq_true rfl) ?_
  refine lv_if_eq (tgt := 29) hx hb dX6_bitsBy_10 (by decide) (fun c9 => absurd c9 (by decide)) (fun _ => ?_)
  refine lv_iload_n hx hb dX6_bitsBy_13 rfl (lv_at hl 2 rfl) ?_
  refine lv_i2l (v := 0) hx hb dX6_bitsBy_14 (by decide) ?_
  refine lv_lconst (v := 0) hx hb dX6_bitsBy_15 (by decide) ?_
  refine lv_ldc2 hx hb hown (hg _ k1510) dX6_bitsBy_16 ?_
  refine cSi (n := 3) (As := [.long 0, .long 0, .long 2]) (rest := [.ref h0]) (wr := [(h0, .inr (6, [v0, .ref h1, .ref h2, v1, v2, .ref h4, .ref h3, .int 2, .int 2, v3, v4, v5, v6, v7, v8, v9, v10, v11, v12, v13, v14, v15, v16, v17, v18, v19, v20])), (h1, .inl (a0, 609, .inr (.inl f0))), (h2, .inl (a1, 609, .inr (.inl f1))), (h3, .inl (a2, 48, .inl f2)), (h4, .inl (a3, 48, .inl f3))]) (tr := [(a0, .long), (a1, .long), (a2, .int), (a3, .int)]) hx hb hml hown hg okN (cX6_in_143 l D) (mwS k1317 k1318 k92 k1319) ⟨rfl, by decide, by decide, by decide +kernel⟩ ⟨rfl, rfl, (Nat.le_of_ble_eq_true rfl), (Nat.le_of_ble_eq_true rfl)⟩ hP hD hK hS xn [] [] [0, 1, 2, 3, 4] [] [0, 1, 2, 3] rfl (by decide) rfl rfl (by decide) (by decide) rfl rfl (aNil hA hS) (aNil hA hS) rfl hl.1 rfl (Nat.le_of_ble_eq_true rfl) dX6_bitsBy_19 ⟨(Nat.le_of_ble_eq_true rfl), (Nat.le_of_ble_eq_true rfl)⟩ (fun u H locs hφ hP hD hK hS hk => ?_)
  have hP : va_P D vwCl [(h0, .inr (6, [v0, .ref h1, .ref h2, v1, v2, .ref h4, .ref h3, .int 2, .int 2, v3, v4, v5, v6, v7, v8, v9, v10, v11, v12, v13, v14, v15, v16, v17, v18, v19, v20])), (h1, .inl (a0, 609, .inr (.inl f0))), (h2, .inl (a1, 609, .inr (.inl f1))), (h3, .inl (a2, 48, .inl f2)), (h4, .inl (a3, 48, .inl f3))] H := hP
  have hD : va_D A [(h0, .inr (6, [v0, .ref h1, .ref h2, v1, v2, .ref h4, .ref h3, .int 2, .int 2, v3, v4, v5, v6, v7, v8, v9, v10, v11, v12, v13, v14, v15, v16, v17, v18, v19, v20])), (h1, .inl (a0, 609, .inr (.inl f0))), (h2, .inl (a1, 609, .inr (.inl f1))), (h3, .inl (a2, 48, .inl f2)), (h4, .inl (a3, 48, .inl f3))] := hD
  have hK : va_K D vwCl [(a0, .long), (a1, .long), (a2, .int), (a3, .int)] s := hK
  refine W.widen (k := 0) (n := 0) (Nat.le_of_ble_eq_true rfl) (Nat.le_of_ble_eq_true rfl) ?_
  refine lv_if_eq (tgt := 29) hx hb dX6_bitsBy_22 (by decide) (fun c9 => absurd c9 (by decide)) (fun _ => ?_)
  refine lv_iconst (v := 0) hx hb dX6_bitsBy_25 (by decide) ?_
  refine lv_goto (tgt := 30) hx hb dX6_bitsBy_26 (by decide) ?_
  refine va_put (D := D) (ci := 6) (v := .int 0) (ty := .int) (C := RX6) (T := TX6) (N := 27) hx hb hg inX6 tyX6 tyX6_ok nmX6 hown hK hP hD hS 0 rfl rfl 0 (by decide) (hg _ k1219) (fun _ h9 => h9) rfl (by decide +kernel) rfl rfl (Nat.le_of_ble_eq_true rfl) dX6_bitsBy_30 (fun H locs hP hD hS => ?_)
  have hP : va_P D vwCl [(h0, .inr (6, [.int 0, .ref h1, .ref h2, v1, v2, .ref h4, .ref h3, .int 2, .int 2, v3, v4, v5, v6, v7, v8, v9, v10, v11, v12, v13, v14, v15, v16, v17, v18, v19, v20])), (h1, .inl (a0, 609, .inr (.inl f0))), (h2, .inl (a1, 609, .inr (.inl f1))), (h3, .inl (a2, 48, .inl f2)), (h4, .inl (a3, 48, .inl f3))] H := hP
  have hD : va_D A [(h0, .inr (6, [.int 0, .ref h1, .ref h2, v1, v2, .ref h4, .ref h3, .int 2, .int 2, v3, v4, v5, v6, v7, v8, v9, v10, v11, v12, v13, v14, v15, v16, v17, v18, v19, v20])), (h1, .inl (a0, 609, .inr (.inl f0))), (h2, .inl (a1, 609, .inr (.inl f1))), (h3, .inl (a2, 48, .inl f2)), (h4, .inl (a3, 48, .inl f3))] := hD
  refine lv_aload_n hx hb dX6_bitsBy_33 rfl (lv_at hl 0 rfl) ?_
  refine va_get (D := D) (ci := 6) (v := .int 0) (C := RX6) (T := TX6) (N := 27) hx hb hg inX6 hown hK hP 0 rfl rfl 0 (by decide) (hg _ k1219) (fun _ h9 => h9) rfl dX6_bitsBy_34 ?_
  refine lv_if_le (tgt := 44) hx hb dX6_bitsBy_37 (by decide) (fun _ => ?_) (fun c9 => absurd (by decide) c9)
  refine lv_aload_n hx hb dX6_bitsBy_44 rfl (lv_at hl 0 rfl) ?_
  refine lv_iload_n hx hb dX6_bitsBy_45 rfl (lv_at hl 1 rfl) ?_
  refine lv_iload_n hx hb dX6_bitsBy_46 rfl (lv_at hl 2 rfl) ?_
  refine cVi (n := 2) (As := [.int 2, .int 0]) (rest := []) (wr := []) (tr := []) hx hb hml hown hg okN (cX6_bitsOf_279 l D h0 h1 h2 h3 h4 (.int 0) v1 v2 v3 v4 v5 v6 v7 v8 v9 v10 v11 v12 v13 v14 v15 v16 v17 v18 v19 v20 f0 f1 f2 f3 a0 a1 a2 a3 ef2_0 ef2_1 ef3_0 ef3_1) (mwV k1674 k1676 k82 k92 k1677) ⟨rfl, by decide, by decide, by decide +kernel⟩ ⟨rfl, rfl, (Nat.le_of_ble_eq_true rfl), (Nat.le_of_ble_eq_true rfl)⟩ hP hD hK hS xn [0, 1, 2, 3, 4] [0, 1, 2, 3, 4] [] [0, 1, 2, 3] [] rfl (by decide) rfl rfl (by decide) (by decide) rfl rfl (va_free hD hS hA [0, 1, 2, 3, 4] rfl) (va_free hD hS hA [0, 1, 2, 3, 4] rfl) 0 rfl rfl rfl hl.1 rfl (Nat.le_of_ble_eq_true rfl) dX6_bitsBy_47 ⟨(Nat.le_of_ble_eq_true rfl), (Nat.le_of_ble_eq_true rfl)⟩ (fun u H locs hφ hP hD hK hS hk => ?_)
  obtain ⟨y0_1, y0_2⟩ := u
  have hP : va_P D vwCl [(h0, .inr (6, [.int 0, .ref h1, .ref h2, v1, v2, .ref h4, .ref h3, .int 2, .int 2, v3, v4, v5, v6, v7, v8, v9, v10, v11, v12, v13, v14, v15, v16, v17, v18, v19, v20])), (h1, .inl (a0, 609, .inr (.inl y0_1))), (h2, .inl (a1, 609, .inr (.inl y0_2))), (h3, .inl (a2, 48, .inl f2)), (h4, .inl (a3, 48, .inl f3))] H := hP
  have hD : va_D A [(h0, .inr (6, [.int 0, .ref h1, .ref h2, v1, v2, .ref h4, .ref h3, .int 2, .int 2, v3, v4, v5, v6, v7, v8, v9, v10, v11, v12, v13, v14, v15, v16, v17, v18, v19, v20])), (h1, .inl (a0, 609, .inr (.inl y0_1))), (h2, .inl (a1, 609, .inr (.inl y0_2))), (h3, .inl (a2, 48, .inl f2)), (h4, .inl (a3, 48, .inl f3))] := hD
  have hK : va_K D vwCl [(a0, .long), (a1, .long), (a2, .int), (a3, .int)] s := hK
  refine W.widen (k := 0) (n := 0) (Nat.le_of_ble_eq_true rfl) (Nat.le_of_ble_eq_true rfl) ?_
  exact fi hx hb hr hlocks hP hD hK hS ((y0_1, y0_2)) trivial rfl [0, 1, 2, 3, 4] [0, 1, 2, 3] rfl (by decide) rfl (Nat.le_of_ble_eq_true rfl) (Nat.le_of_ble_eq_true rfl) dX6_bitsBy_50
set_option maxHeartbeats 4000000 in
set_option maxRecDepth 100000 in
theorem cX6_bitsOf_281 (l : Launch) (D : va_G) (h0 : Nat) (h1 : Nat) (h2 : Nat) (h3 : Nat) (h4 : Nat) (v0 : Value) (v1 : Value) (v2 : Value) (v3 : Value) (v4 : Value) (v5 : Value) (v6 : Value) (v7 : Value) (v8 : Value) (v9 : Value) (v10 : Value) (v11 : Value) (v12 : Value) (v13 : Value) (v14 : Value) (v15 : Value) (v16 : Value) (v17 : Value) (v18 : Value) (v19 : Value) (v20 : Value) (f0 : Nat → Int64) (f1 : Nat → Int64) (f2 : Nat → Int32) (f3 : Nat → Int32) (a0 : ClassId) (a1 : ClassId) (a2 : ClassId) (a3 : ClassId) (ef2_0 : f2 0 = 0) (ef2_1 : f2 1 = 0) (ef3_0 : f3 0 = 0) (ef3_1 : f3 1 = 1)  : CT l yX6_bitsOf cX6_bitsOf 4 (some .int) { frames := 4, cells := 0, slots := 0, locals := 85 } [.ref h0, .int 2, .int 1] D [(h0, .inr (6, [v0, .ref h1, .ref h2, v1, v2, .ref h4, .ref h3, .int 2, .int 2, v3, v4, v5, v6, v7, v8, v9, v10, v11, v12, v13, v14, v15, v16, v17, v18, v19, v20])), (h1, .inl (a0, 609, .inr (.inl f0))), (h2, .inl (a1, 609, .inr (.inl f1))), (h3, .inl (a2, 48, .inl f2)), (h4, .inl (a3, 48, .inl f3))] [(a0, .long), (a1, .long), (a2, .int), (a3, .int)] XN [(h0, .inr (6, [v0, .ref h1, .ref h2, v1, v2, .ref h4, .ref h3, .int 2, .int 2, v3, v4, v5, v6, v7, v8, v9, v10, v11, v12, v13, v14, v15, v16, v17, v18, v19, v20])), (h1, .inl (a0, 609, .inr (.inl f0))), (h2, .inl (a1, 609, .inr (.inl f1))), (h3, .inl (a2, 48, .inl f2)), (h4, .inl (a3, 48, .inl f3))] (ei (fun _ : (Nat → Int64) × (Nat → Int64) => True) (fun u => 0) (fun u => [(h0, .inr (6, [v0, .ref h1, .ref h2, v1, v2, .ref h4, .ref h3, .int 2, .int 2, v3, v4, v5, v6, v7, v8, v9, v10, v11, v12, v13, v14, v15, v16, v17, v18, v19, v20])), (h1, .inl (a0, 609, .inr (.inl u.1))), (h2, .inl (a1, 609, .inr (.inl u.2))), (h3, .inl (a2, 48, .inl f2)), (h4, .inl (a3, 48, .inl f3))]) (fun u => [(a0, .long), (a1, .long), (a2, .int), (a3, .int)]) D) 0 0 := by
  refine CT.ofW (by decide +kernel) (Nat.le_of_ble_eq_true rfl) ?_
  intro p e s m below meth c A ls hcs hP hK hD hX hA hS hl
  obtain ⟨hx, hb, hr, hml, hown, hg, hlocks, hin⟩ := hcs
  have hown : s.vm.findClass RX6 = some m.cls := hown
  have hl : lv_has ls 4 [(0, .ref h0), (1, .int 2), (2, .int 1)] := hl
  refine lv_aload_n hx hb dX6_bitsOf_0 rfl (lv_at hl 0 rfl) ?_
  refine cVv (n := 0) (As := []) (rest := []) (wr := [(h3, .inl (a2, 48, .inl f2)), (h4, .inl (a3, 48, .inl f3))]) (tr := [(a2, .int), (a3, .int)]) hx hb hml hown hg okN (cX6_puts_234 l D h0 h1 h2 v0 v1 v2 (.ref h4) (.ref h3) (.int 2) (.int 2) v3 v4 v5 v6 v7 v8 v9 v10 v11 v12 v13 v14 v15 v16 v17 v18 v19 v20 f0 f1 a0 a1) (mwV k1646 k1648 k78 k92 k1649) ⟨rfl, by decide, by decide, by decide +kernel⟩ ⟨rfl, rfl, (Nat.le_of_ble_eq_true rfl), (Nat.le_of_ble_eq_true rfl)⟩ hP hD hK hS xn [0, 1, 2] [0, 1, 2] [3, 4] [0, 1] [2, 3] rfl (by decide) rfl rfl (by decide) (by decide) rfl rfl (va_free hD hS hA [0, 1, 2] rfl) (va_free hD hS hA [0, 1, 2] rfl) 0 rfl rfl rfl hl.1 rfl (Nat.le_of_ble_eq_true rfl) dX6_bitsOf_1 ⟨(Nat.le_of_ble_eq_true rfl), (Nat.le_of_ble_eq_true rfl)⟩ (fun u H locs hφ hP hD hK hS hk => ?_)
  obtain ⟨y1_1, rfl⟩ : ∃ z, z = u := ⟨_, rfl⟩
  have hP : va_P D vwCl [(h3, .inl (a2, 48, .inl f2)), (h4, .inl (a3, 48, .inl f3)), (h0, .inr (6, [v0, .ref h1, .ref h2, v1, v2, .ref h4, .ref h3, .int 2, .int 2, v3, v4, v5, v6, v7, v8, v9, v10, v11, v12, v13, v14, v15, v16, v17, v18, v19, v20])), (h1, .inl (a0, 609, .inr (.inl f0))), (h2, .inl (a1, 609, .inr (.inl y1_1)))] H := hP
  have hD : va_D A [(h3, .inl (a2, 48, .inl f2)), (h4, .inl (a3, 48, .inl f3)), (h0, .inr (6, [v0, .ref h1, .ref h2, v1, v2, .ref h4, .ref h3, .int 2, .int 2, v3, v4, v5, v6, v7, v8, v9, v10, v11, v12, v13, v14, v15, v16, v17, v18, v19, v20])), (h1, .inl (a0, 609, .inr (.inl f0))), (h2, .inl (a1, 609, .inr (.inl y1_1)))] := hD
  have hK : va_K D vwCl [(a2, .int), (a3, .int), (a0, .long), (a1, .long)] s := hK
  refine W.widen (k := 0) (n := 0) (Nat.le_of_ble_eq_true rfl) (Nat.le_of_ble_eq_true rfl) ?_
  refine lv_aload_n hx hb dX6_bitsOf_4 rfl (lv_at hl 0 rfl) ?_
  refine va_get (D := D) (ci := 6) (v := .ref h1) (C := RX6) (T := TX6) (N := 27) hx hb hg inX6 hown hK hP 2 rfl rfl 1 (by decide) (hg _ k1220) (fun _ h9 => h9) rfl dX6_bitsOf_5 ?_
  refine lv_iconst (v := 0) hx hb dX6_bitsOf_8 (by decide) ?_
  refine lv_iload_n hx hb dX6_bitsOf_9 rfl (lv_at hl 1 rfl) ?_
  refine lv_i2l (v := 2) hx hb dX6_bitsOf_10 (by decide) ?_
  refine astL hx hb hK hP hD hS 3 2 rfl rfl 0 (by decide) (vin (by decide)) dX6_bitsOf_11 (fun H locs hP hD hS => ?_)
  have hP : va_P D vwCl [(h3, .inl (a2, 48, .inl f2)), (h4, .inl (a3, 48, .inl f3)), (h0, .inr (6, [v0, .ref h1, .ref h2, v1, v2, .ref h4, .ref h3, .int 2, .int 2, v3, v4, v5, v6, v7, v8, v9, v10, v11, v12, v13, v14, v15, v16, v17, v18, v19, v20])), (h1, .inl (a0, 609, .inr (.inl (vp_updL f0 0 2)))), (h2, .inl (a1, 609, .inr (.inl y1_1)))] H := hP
  have hD : va_D A [(h3, .inl (a2, 48, .inl f2)), (h4, .inl (a3, 48, .inl f3)), (h0, .inr (6, [v0, .ref h1, .ref h2, v1, v2, .ref h4, .ref h3, .int 2, .int 2, v3, v4, v5, v6, v7, v8, v9, v10, v11, v12, v13, v14, v15, v16, v17, v18, v19, v20])), (h1, .inl (a0, 609, .inr (.inl (vp_updL f0 0 2)))), (h2, .inl (a1, 609, .inr (.inl y1_1)))] := hD
  refine lv_aload_n hx hb dX6_bitsOf_12 rfl (lv_at hl 0 rfl) ?_
  refine va_get (D := D) (ci := 6) (v := .ref h1) (C := RX6) (T := TX6) (N := 27) hx hb hg inX6 hown hK hP 2 rfl rfl 1 (by decide) (hg _ k1220) (fun _ h9 => h9) rfl dX6_bitsOf_13 ?_
  refine lv_iconst (v := 1) hx hb dX6_bitsOf_16 (by decide) ?_
  refine lv_iload_n hx hb dX6_bitsOf_17 rfl (lv_at hl 2 rfl) ?_
  refine lv_i2l (v := 1) hx hb dX6_bitsOf_18 (by decide) ?_
  refine astL hx hb hK hP hD hS 3 2 rfl rfl 1 (by decide) (vin (by decide)) dX6_bitsOf_19 (fun H locs hP hD hS => ?_)
  have hP : va_P D vwCl [(h3, .inl (a2, 48, .inl f2)), (h4, .inl (a3, 48, .inl f3)), (h0, .inr (6, [v0, .ref h1, .ref h2, v1, v2, .ref h4, .ref h3, .int 2, .int 2, v3, v4, v5, v6, v7, v8, v9, v10, v11, v12, v13, v14, v15, v16, v17, v18, v19, v20])), (h1, .inl (a0, 609, .inr (.inl (vp_updL (vp_updL f0 0 2) 1 1)))), (h2, .inl (a1, 609, .inr (.inl y1_1)))] H := hP
  have hD : va_D A [(h3, .inl (a2, 48, .inl f2)), (h4, .inl (a3, 48, .inl f3)), (h0, .inr (6, [v0, .ref h1, .ref h2, v1, v2, .ref h4, .ref h3, .int 2, .int 2, v3, v4, v5, v6, v7, v8, v9, v10, v11, v12, v13, v14, v15, v16, v17, v18, v19, v20])), (h1, .inl (a0, 609, .inr (.inl (vp_updL (vp_updL f0 0 2) 1 1)))), (h2, .inl (a1, 609, .inr (.inl y1_1)))] := hD
  refine lv_aload_n hx hb dX6_bitsOf_20 rfl (lv_at hl 0 rfl) ?_
  refine cVv (n := 0) (As := []) (rest := []) (wr := [(h2, .inl (a1, 609, .inr (.inl y1_1)))]) (tr := [(a1, .long)]) hx hb hml hown hg okN (cX6_anew_186 l D h0 h1 h3 h4 v0 (.ref h2) v1 v2 (.int 2) v3 v4 v5 v6 v7 v8 v9 v10 v11 v12 v13 v14 v15 v16 v17 v18 v19 v20 (vp_updL (vp_updL f0 0 2) 1 1) f2 f3 a0 a2 a3 ef2_0 ef2_1 ef3_0 ef3_1) (mwV k1214 k1216 k35 k92 k1217) ⟨rfl, by decide, by decide, by decide +kernel⟩ ⟨rfl, rfl, (Nat.le_of_ble_eq_true rfl), (Nat.le_of_ble_eq_true rfl)⟩ hP hD hK hS xn [2, 3, 0, 1] [2, 3, 0, 1] [4] [2, 0, 1] [3] rfl (by decide) rfl rfl (by decide) (by decide) rfl rfl (va_free hD hS hA [2, 3, 0, 1] rfl) (va_free hD hS hA [2, 3, 0, 1] rfl) 2 rfl rfl rfl hl.1 rfl (Nat.le_of_ble_eq_true rfl) dX6_bitsOf_21 ⟨(Nat.le_of_ble_eq_true rfl), (Nat.le_of_ble_eq_true rfl)⟩ (fun u H locs hφ hP hD hK hS hk => ?_)
  have hP : va_P D vwCl [(h2, .inl (a1, 609, .inr (.inl y1_1))), (h0, .inr (6, [v0, .ref h1, .ref h2, v1, v2, .ref h4, .ref h3, .int 2, .int 2, v3, v4, v5, v6, v7, v8, v9, v10, v11, v12, v13, v14, v15, v16, v17, v18, v19, v20])), (h1, .inl (a0, 609, .inr (.inl (vp_updL (vp_updL (vp_updL (vp_updL (vp_updL (vp_updL (vp_updL (vp_updL (vp_updL (vp_updL f0 0 2) 1 1) 3 0) 4 0) 5 0) 53 1) 101 (-1)) 6 0) 54 1) 102 (-1))))), (h3, .inl (a2, 48, .inl f2)), (h4, .inl (a3, 48, .inl f3))] H := hP
  have hD : va_D A [(h2, .inl (a1, 609, .inr (.inl y1_1))), (h0, .inr (6, [v0, .ref h1, .ref h2, v1, v2, .ref h4, .ref h3, .int 2, .int 2, v3, v4, v5, v6, v7, v8, v9, v10, v11, v12, v13, v14, v15, v16, v17, v18, v19, v20])), (h1, .inl (a0, 609, .inr (.inl (vp_updL (vp_updL (vp_updL (vp_updL (vp_updL (vp_updL (vp_updL (vp_updL (vp_updL (vp_updL f0 0 2) 1 1) 3 0) 4 0) 5 0) 53 1) 101 (-1)) 6 0) 54 1) 102 (-1))))), (h3, .inl (a2, 48, .inl f2)), (h4, .inl (a3, 48, .inl f3))] := hD
  have hK : va_K D vwCl [(a1, .long), (a0, .long), (a2, .int), (a3, .int)] s := hK
  refine W.widen (k := 0) (n := 0) (Nat.le_of_ble_eq_true rfl) (Nat.le_of_ble_eq_true rfl) ?_
  refine lv_aload_n hx hb dX6_bitsOf_24 rfl (lv_at hl 0 rfl) ?_
  refine lv_bipush (v := 46) hx hb dX6_bitsOf_25 (by decide) ?_
  refine cVi (n := 1) (As := [.int 46]) (rest := []) (wr := [(h2, .inl (a1, 609, .inr (.inl y1_1))), (h0, .inr (6, [v0, .ref h1, .ref h2, v1, v2, .ref h4, .ref h3, .int 2, .int 2, v3, v4, v5, v6, v7, v8, v9, v10, v11, v12, v13, v14, v15, v16, v17, v18, v19, v20])), (h1, .inl (a0, 609, .inr (.inl (vp_updL (vp_updL (vp_updL (vp_updL (vp_updL (vp_updL (vp_updL (vp_updL (vp_updL (vp_updL f0 0 2) 1 1) 3 0) 4 0) 5 0) 53 1) 101 (-1)) 6 0) 54 1) 102 (-1))))), (h3, .inl (a2, 48, .inl f2)), (h4, .inl (a3, 48, .inl f3))]) (tr := [(a1, .long), (a0, .long), (a2, .int), (a3, .int)]) hx hb hml hown hg okN (cX6_goesOn_263 l D h0 h1 v0 (.ref h2) v1 v2 (.ref h4) (.ref h3) v3 v4 v5 v6 v7 v8 v9 v10 v11 v12 v13 v14 v15 v16 v17 v18 v19 v20 (vp_updL (vp_updL (vp_updL (vp_updL (vp_updL (vp_updL (vp_updL (vp_updL (vp_updL (vp_updL f0 0 2) 1 1) 3 0) 4 0) 5 0) 53 1) 101 (-1)) 6 0) 54 1) 102 (-1)) a0 rfl) (mwV k1588 k1590 k71 k92 k1591) ⟨rfl, by decide, by decide, by decide +kernel⟩ ⟨rfl, rfl, (Nat.le_of_ble_eq_true rfl), (Nat.le_of_ble_eq_true rfl)⟩ hP hD hK hS xn [1, 2] [] [0, 1, 2, 3, 4] [1] [0, 1, 2, 3] rfl (by decide) rfl rfl (by decide) (by decide) rfl rfl (aNil hA hS) (aNil hA hS) 1 rfl rfl rfl hl.1 rfl (Nat.le_of_ble_eq_true rfl) dX6_bitsOf_27 ⟨(Nat.le_of_ble_eq_true rfl), (Nat.le_of_ble_eq_true rfl)⟩ (fun u H locs hφ hP hD hK hS hk => ?_)
  have hP : va_P D vwCl [(h2, .inl (a1, 609, .inr (.inl y1_1))), (h0, .inr (6, [v0, .ref h1, .ref h2, v1, v2, .ref h4, .ref h3, .int 2, .int 2, v3, v4, v5, v6, v7, v8, v9, v10, v11, v12, v13, v14, v15, v16, v17, v18, v19, v20])), (h1, .inl (a0, 609, .inr (.inl (vp_updL (vp_updL (vp_updL (vp_updL (vp_updL (vp_updL (vp_updL (vp_updL (vp_updL (vp_updL f0 0 2) 1 1) 3 0) 4 0) 5 0) 53 1) 101 (-1)) 6 0) 54 1) 102 (-1))))), (h3, .inl (a2, 48, .inl f2)), (h4, .inl (a3, 48, .inl f3))] H := hP
  have hD : va_D A [(h2, .inl (a1, 609, .inr (.inl y1_1))), (h0, .inr (6, [v0, .ref h1, .ref h2, v1, v2, .ref h4, .ref h3, .int 2, .int 2, v3, v4, v5, v6, v7, v8, v9, v10, v11, v12, v13, v14, v15, v16, v17, v18, v19, v20])), (h1, .inl (a0, 609, .inr (.inl (vp_updL (vp_updL (vp_updL (vp_updL (vp_updL (vp_updL (vp_updL (vp_updL (vp_updL (vp_updL f0 0 2) 1 1) 3 0) 4 0) 5 0) 53 1) 101 (-1)) 6 0) 54 1) 102 (-1))))), (h3, .inl (a2, 48, .inl f2)), (h4, .inl (a3, 48, .inl f3))] := hD
  have hK : va_K D vwCl [(a1, .long), (a0, .long), (a2, .int), (a3, .int)] s := hK
  refine W.widen (k := 0) (n := 0) (Nat.le_of_ble_eq_true rfl) (Nat.le_of_ble_eq_true rfl) ?_
  refine lv_istore_n (lv' := [(3, .int 0), (0, .ref h0), (1, .int 2), (2, .int 1)]) hx hb dX6_bitsOf_30 rfl hl (by decide) rfl (fun ls hl => ?_)
  refine lv_aload_n hx hb dX6_bitsOf_31 rfl (lv_at hl 1 rfl) ?_
  refine cVi (n := 0) (As := []) (rest := []) (wr := [(h2, .inl (a1, 609, .inr (.inl y1_1))), (h0, .inr (6, [v0, .ref h1, .ref h2, v1, v2, .ref h4, .ref h3, .int 2, .int 2, v3, v4, v5, v6, v7, v8, v9, v10, v11, v12, v13, v14, v15, v16, v17, v18, v19, v20])), (h1, .inl (a0, 609, .inr (.inl (vp_updL (vp_updL (vp_updL (vp_updL (vp_updL (vp_updL (vp_updL (vp_updL (vp_updL (vp_updL f0 0 2) 1 1) 3 0) 4 0) 5 0) 53 1) 101 (-1)) 6 0) 54 1) 102 (-1))))), (h3, .inl (a2, 48, .inl f2)), (h4, .inl (a3, 48, .inl f3))]) (tr := [(a1, .long), (a0, .long), (a2, .int), (a3, .int)]) hx hb hml hown hg okN (cX6_bitsNow_133 l D h0 h1 v0 (.ref h2) v1 v2 (.ref h4) (.ref h3) (.int 2) (.int 2) v3 v4 v5 v6 v7 v8 v9 v10 v11 v12 v13 v14 v15 v16 v17 v18 v19 v20 (vp_updL (vp_updL (vp_updL (vp_updL (vp_updL (vp_updL (vp_updL (vp_updL (vp_updL (vp_updL f0 0 2) 1 1) 3 0) 4 0) 5 0) 53 1) 101 (-1)) 6 0) 54 1) 102 (-1)) a0 rfl) (mwV k1506 k1508 k61 k92 k1509) ⟨rfl, by decide, by decide, by decide +kernel⟩ ⟨rfl, rfl, (Nat.le_of_ble_eq_true rfl), (Nat.le_of_ble_eq_true rfl)⟩ hP hD hK hS xn [1, 2] [] [0, 1, 2, 3, 4] [1] [0, 1, 2, 3] rfl (by decide) rfl rfl (by decide) (by decide) rfl rfl (aNil hA hS) (aNil hA hS) 1 rfl rfl rfl hl.1 rfl (Nat.le_of_ble_eq_true rfl) dX6_bitsOf_32 ⟨(Nat.le_of_ble_eq_true rfl), (Nat.le_of_ble_eq_true rfl)⟩ (fun u H locs hφ hP hD hK hS hk => ?_)
  have hP : va_P D vwCl [(h2, .inl (a1, 609, .inr (.inl y1_1))), (h0, .inr (6, [v0, .ref h1, .ref h2, v1, v2, .ref h4, .ref h3, .int 2, .int 2, v3, v4, v5, v6, v7, v8, v9, v10, v11, v12, v13, v14, v15, v16, v17, v18, v19, v20])), (h1, .inl (a0, 609, .inr (.inl (vp_updL (vp_updL (vp_updL (vp_updL (vp_updL (vp_updL (vp_updL (vp_updL (vp_updL (vp_updL f0 0 2) 1 1) 3 0) 4 0) 5 0) 53 1) 101 (-1)) 6 0) 54 1) 102 (-1))))), (h3, .inl (a2, 48, .inl f2)), (h4, .inl (a3, 48, .inl f3))] H := hP
  have hD : va_D A [(h2, .inl (a1, 609, .inr (.inl y1_1))), (h0, .inr (6, [v0, .ref h1, .ref h2, v1, v2, .ref h4, .ref h3, .int 2, .int 2, v3, v4, v5, v6, v7, v8, v9, v10, v11, v12, v13, v14, v15, v16, v17, v18, v19, v20])), (h1, .inl (a0, 609, .inr (.inl (vp_updL (vp_updL (vp_updL (vp_updL (vp_updL (vp_updL (vp_updL (vp_updL (vp_updL (vp_updL f0 0 2) 1 1) 3 0) 4 0) 5 0) 53 1) 101 (-1)) 6 0) 54 1) 102 (-1))))), (h3, .inl (a2, 48, .inl f2)), (h4, .inl (a3, 48, .inl f3))] := hD
  have hK : va_K D vwCl [(a1, .long), (a0, .long), (a2, .int), (a3, .int)] s := hK
  refine W.widen (k := 0) (n := 0) (Nat.le_of_ble_eq_true rfl) (Nat.le_of_ble_eq_true rfl) ?_
  refine lv_istore_n (lv' := [(3, .int 0), (0, .ref h0), (1, .int 2), (2, .int 1)]) hx hb dX6_bitsOf_35 rfl hl (by decide) rfl (fun ls hl => ?_)
  refine lv_aload_n hx hb dX6_bitsOf_36 rfl (lv_at hl 1 rfl) ?_
  refine cVv (n := 0) (As := []) (rest := []) (wr := [(h3, .inl (a2, 48, .inl f2)), (h4, .inl (a3, 48, .inl f3))]) (tr := [(a2, .int), (a3, .int)]) hx hb hml hown hg okN (cX6_takesBack_236 l D h0 h2 h1 v0 v1 v2 (.ref h4) (.ref h3) (.int 2) (.int 2) v3 v4 v5 v6 v7 v8 v9 v10 v11 v12 v13 v14 v15 v16 v17 v18 v19 v20 y1_1 (vp_updL (vp_updL (vp_updL (vp_updL (vp_updL (vp_updL (vp_updL (vp_updL (vp_updL (vp_updL f0 0 2) 1 1) 3 0) 4 0) 5 0) 53 1) 101 (-1)) 6 0) 54 1) 102 (-1)) a1 a0) (mwV k1654 k1656 k80 k92 k1657) ⟨rfl, by decide, by decide, by decide +kernel⟩ ⟨rfl, rfl, (Nat.le_of_ble_eq_true rfl), (Nat.le_of_ble_eq_true rfl)⟩ hP hD hK hS xn [1, 0, 2] [1, 0, 2] [3, 4] [0, 1] [2, 3] rfl (by decide) rfl rfl (by decide) (by decide) rfl rfl (va_free hD hS hA [1, 0, 2] rfl) (va_free hD hS hA [1, 0, 2] rfl) 1 rfl rfl rfl hl.1 rfl (Nat.le_of_ble_eq_true rfl) dX6_bitsOf_37 ⟨(Nat.le_of_ble_eq_true rfl), (Nat.le_of_ble_eq_true rfl)⟩ (fun u H locs hφ hP hD hK hS hk => ?_)
  obtain ⟨y1_2, rfl⟩ : ∃ z, z = u := ⟨_, rfl⟩
  have hP : va_P D vwCl [(h3, .inl (a2, 48, .inl f2)), (h4, .inl (a3, 48, .inl f3)), (h0, .inr (6, [v0, .ref h1, .ref h2, v1, v2, .ref h4, .ref h3, .int 2, .int 2, v3, v4, v5, v6, v7, v8, v9, v10, v11, v12, v13, v14, v15, v16, v17, v18, v19, v20])), (h2, .inl (a1, 609, .inr (.inl y1_1))), (h1, .inl (a0, 609, .inr (.inl y1_2)))] H := hP
  have hD : va_D A [(h3, .inl (a2, 48, .inl f2)), (h4, .inl (a3, 48, .inl f3)), (h0, .inr (6, [v0, .ref h1, .ref h2, v1, v2, .ref h4, .ref h3, .int 2, .int 2, v3, v4, v5, v6, v7, v8, v9, v10, v11, v12, v13, v14, v15, v16, v17, v18, v19, v20])), (h2, .inl (a1, 609, .inr (.inl y1_1))), (h1, .inl (a0, 609, .inr (.inl y1_2)))] := hD
  have hK : va_K D vwCl [(a2, .int), (a3, .int), (a1, .long), (a0, .long)] s := hK
  refine W.widen (k := 0) (n := 0) (Nat.le_of_ble_eq_true rfl) (Nat.le_of_ble_eq_true rfl) ?_
  refine lv_iload_n hx hb dX6_bitsOf_40 rfl (lv_at hl 0 rfl) ?_
  exact fi hx hb hr hlocks hP hD hK hS ((y1_2, y1_1)) trivial rfl [2, 4, 3, 0, 1] [3, 2, 0, 1] rfl (by decide) rfl (Nat.le_of_ble_eq_true rfl) (Nat.le_of_ble_eq_true rfl) dX6_bitsOf_41
set_option maxHeartbeats 4000000 in
set_option maxRecDepth 100000 in
theorem cX6_bitsBy_280 (l : Launch) (D : va_G) (h0 : Nat) (h1 : Nat) (h2 : Nat) (h3 : Nat) (h4 : Nat) (v0 : Value) (v1 : Value) (v2 : Value) (v3 : Value) (v4 : Value) (v5 : Value) (v6 : Value) (v7 : Value) (v8 : Value) (v9 : Value) (v10 : Value) (v11 : Value) (v12 : Value) (v13 : Value) (v14 : Value) (v15 : Value) (v16 : Value) (v17 : Value) (v18 : Value) (v19 : Value) (v20 : Value) (f0 : Nat → Int64) (f1 : Nat → Int64) (f2 : Nat → Int32) (f3 : Nat → Int32) (a0 : ClassId) (a1 : ClassId) (a2 : ClassId) (a3 : ClassId) (ef2_0 : f2 0 = 0) (ef2_1 : f2 1 = 0) (ef3_0 : f3 0 = 0) (ef3_1 : f3 1 = 1)  : CT l yX6_bitsBy cX6_bitsBy 3 (some .int) { frames := 5, cells := 0, slots := 0, locals := 108 } [.ref h0, .int 2, .int 1] D [(h0, .inr (6, [v0, .ref h1, .ref h2, v1, v2, .ref h4, .ref h3, .int 2, .int 2, v3, v4, v5, v6, v7, v8, v9, v10, v11, v12, v13, v14, v15, v16, v17, v18, v19, v20])), (h1, .inl (a0, 609, .inr (.inl f0))), (h2, .inl (a1, 609, .inr (.inl f1))), (h3, .inl (a2, 48, .inl f2)), (h4, .inl (a3, 48, .inl f3))] [(a0, .long), (a1, .long), (a2, .int), (a3, .int)] XN [(h0, .inr (6, [v0, .ref h1, .ref h2, v1, v2, .ref h4, .ref h3, .int 2, .int 2, v3, v4, v5, v6, v7, v8, v9, v10, v11, v12, v13, v14, v15, v16, v17, v18, v19, v20])), (h1, .inl (a0, 609, .inr (.inl f0))), (h2, .inl (a1, 609, .inr (.inl f1))), (h3, .inl (a2, 48, .inl f2)), (h4, .inl (a3, 48, .inl f3))] (ei (fun _ : (Nat → Int64) × (Nat → Int64) => True) (fun u => 0) (fun u => [(h0, .inr (6, [.int 0, .ref h1, .ref h2, v1, v2, .ref h4, .ref h3, .int 2, .int 2, v3, v4, v5, v6, v7, v8, v9, v10, v11, v12, v13, v14, v15, v16, v17, v18, v19, v20])), (h1, .inl (a0, 609, .inr (.inl u.1))), (h2, .inl (a1, 609, .inr (.inl u.2))), (h3, .inl (a2, 48, .inl f2)), (h4, .inl (a3, 48, .inl f3))]) (fun u => [(a0, .long), (a1, .long), (a2, .int), (a3, .int)]) D) 0 0 := by
  refine CT.ofW (by decide +kernel) (Nat.le_of_ble_eq_true rfl) ?_
  intro p e s m below meth c A ls hcs hP hK hD hX hA hS hl
  obtain ⟨hx, hb, hr, hml, hown, hg, hlocks, hin⟩ := hcs
  have hown : s.vm.findClass RX6 = some m.cls := hown
  have hl : lv_has ls 3 [(0, .ref h0), (1, .int 2), (2, .int 1)] := hl
  refine lv_aload_n hx hb dX6_bitsBy_0 rfl (lv_at hl 0 rfl) ?_
  refine lv_iload_n hx hb dX6_bitsBy_1 rfl (lv_at hl 1 rfl) ?_
  refine lv_i2l (v := 2) hx hb dX6_bitsBy_2 (by decide) ?_
  refine lv_lconst (v := 0) hx hb dX6_bitsBy_3 (by decide) ?_
  refine lv_ldc2 hx hb hown (hg _ k1510) dX6_bitsBy_4 ?_
  refine cSi (n := 3) (As := [.long 2, .long 0, .long 2]) (rest := [.ref h0]) (wr := [(h0, .inr (6, [v0, .ref h1, .ref h2, v1, v2, .ref h4, .ref h3, .int 2, .int 2, v3, v4, v5, v6, v7, v8, v9, v10, v11, v12, v13, v14, v15, v16, v17, v18, v19, v20])), (h1, .inl (a0, 609, .inr (.inl f0))), (h2, .inl (a1, 609, .inr (.inl f1))), (h3, .inl (a2, 48, .inl f2)), (h4, .inl (a3, 48, .inl f3))]) (tr := [(a0, .long), (a1, .long), (a2, .int), (a3, .int)]) hx hb hml hown hg okN (cX6_in_149 l D) (mwS k1317 k1318 k92 k1319) ⟨rfl, by decide, by decide, by decide +kernel⟩ ⟨rfl, rfl, (Nat.le_of_ble_eq_true rfl), (Nat.le_of_ble_eq_true rfl)⟩ hP hD hK hS xn [] [] [0, 1, 2, 3, 4] [] [0, 1, 2, 3] rfl (by decide) rfl rfl (by decide) (by decide) rfl rfl (aNil hA hS) (aNil hA hS) rfl hl.1 rfl (Nat.le_of_ble_eq_true rfl) dX6_bitsBy_7 ⟨(Nat.le_of_ble_eq_true rfl), (Nat.le_of_ble_eq_true rfl)⟩ (fun u H locs hφ hP hD hK hS hk => ?_)
  have hP : va_P D vwCl [(h0, .inr (6, [v0, .ref h1, .ref h2, v1, v2, .ref h4, .ref h3, .int 2, .int 2, v3, v4, v5, v6, v7, v8, v9, v10, v11, v12, v13, v14, v15, v16, v17, v18, v19, v20])), (h1, .inl (a0, 609, .inr (.inl f0))), (h2, .inl (a1, 609, .inr (.inl f1))), (h3, .inl (a2, 48, .inl f2)), (h4, .inl (a3, 48, .inl f3))] H := hP
  have hD : va_D A [(h0, .inr (6, [v0, .ref h1, .ref h2, v1, v2, .ref h4, .ref h3, .int 2, .int 2, v3, v4, v5, v6, v7, v8, v9, v10, v11, v12, v13, v14, v15, v16, v17, v18, v19, v20])), (h1, .inl (a0, 609, .inr (.inl f0))), (h2, .inl (a1, 609, .inr (.inl f1))), (h3, .inl (a2, 48, .inl f2)), (h4, .inl (a3, 48, .inl f3))] := hD
  have hK : va_K D vwCl [(a0, .long), (a1, .long), (a2, .int), (a3, .int)] s := hK
  refine W.widen (k := 0) (n := 0) (Nat.le_of_ble_eq_true rfl) (Nat.le_of_ble_eq_true rfl) ?_
  refine lv_if_eq (tgt := 29) hx hb dX6_bitsBy_10 (by decide) (fun c9 => absurd c9 (by decide)) (fun _ => ?_)
  refine lv_iload_n hx hb dX6_bitsBy_13 rfl (lv_at hl 2 rfl) ?_
  refine lv_i2l (v := 1) hx hb dX6_bitsBy_14 (by decide) ?_
  refine lv_lconst (v := 0) hx hb dX6_bitsBy_15 (by decide) ?_
  refine lv_ldc2 hx hb hown (hg _ k1510) dX6_bitsBy_16 ?_
  refine cSi (n := 3) (As := [.long 1, .long 0, .long 2]) (rest := [.ref h0]) (wr := [(h0, .inr (6, [v0, .ref h1, .ref h2, v1, v2, .ref h4, .ref h3, .int 2, .int 2, v3, v4, v5, v6, v7, v8, v9, v10, v11, v12, v13, v14, v15, v16, v17, v18, v19, v20])), (h1, .inl (a0, 609, .inr (.inl f0))), (h2, .inl (a1, 609, .inr (.inl f1))), (h3, .inl (a2, 48, .inl f2)), (h4, .inl (a3, 48, .inl f3))]) (tr := [(a0, .long), (a1, .long), (a2, .int), (a3, .int)]) hx hb hml hown hg okN (cX6_in_146 l D) (mwS k1317 k1318 k92 k1319) ⟨rfl, by decide, by decide, by decide +kernel⟩ ⟨rfl, rfl, (Nat.le_of_ble_eq_true rfl), (Nat.le_of_ble_eq_true rfl)⟩ hP hD hK hS xn [] [] [0, 1, 2, 3, 4] [] [0, 1, 2, 3] rfl (by decide) rfl rfl (by decide) (by decide) rfl rfl (aNil hA hS) (aNil hA hS) rfl hl.1 rfl (Nat.le_of_ble_eq_true rfl) dX6_bitsBy_19 ⟨(Nat.le_of_ble_eq_true rfl), (Nat.le_of_ble_eq_true rfl)⟩ (fun u H locs hφ hP hD hK hS hk => ?_)
  have hP : va_P D vwCl [(h0, .inr (6, [v0, .ref h1, .ref h2, v1, v2, .ref h4, .ref h3, .int 2, .int 2, v3, v4, v5, v6, v7, v8, v9, v10, v11, v12, v13, v14, v15, v16, v17, v18, v19, v20])), (h1, .inl (a0, 609, .inr (.inl f0))), (h2, .inl (a1, 609, .inr (.inl f1))), (h3, .inl (a2, 48, .inl f2)), (h4, .inl (a3, 48, .inl f3))] H := hP
  have hD : va_D A [(h0, .inr (6, [v0, .ref h1, .ref h2, v1, v2, .ref h4, .ref h3, .int 2, .int 2, v3, v4, v5, v6, v7, v8, v9, v10, v11, v12, v13, v14, v15, v16, v17, v18, v19, v20])), (h1, .inl (a0, 609, .inr (.inl f0))), (h2, .inl (a1, 609, .inr (.inl f1))), (h3, .inl (a2, 48, .inl f2)), (h4, .inl (a3, 48, .inl f3))] := hD
  have hK : va_K D vwCl [(a0, .long), (a1, .long), (a2, .int), (a3, .int)] s := hK
  refine W.widen (k := 0) (n := 0) (Nat.le_of_ble_eq_true rfl) (Nat.le_of_ble_eq_true rfl) ?_
  refine lv_if_eq (tgt := 29) hx hb dX6_bitsBy_22 (by decide) (fun c9 => absurd c9 (by decide)) (fun _ => ?_)
  refine lv_iconst (v := 0) hx hb dX6_bitsBy_25 (by decide) ?_
  refine lv_goto (tgt := 30) hx hb dX6_bitsBy_26 (by decide) ?_
  refine va_put (D := D) (ci := 6) (v := .int 0) (ty := .int) (C := RX6) (T := TX6) (N := 27) hx hb hg inX6 tyX6 tyX6_ok nmX6 hown hK hP hD hS 0 rfl rfl 0 (by decide) (hg _ k1219) (fun _ h9 => h9) rfl (by decide +kernel) rfl rfl (Nat.le_of_ble_eq_true rfl) dX6_bitsBy_30 (fun H locs hP hD hS => ?_)
  have hP : va_P D vwCl [(h0, .inr (6, [.int 0, .ref h1, .ref h2, v1, v2, .ref h4, .ref h3, .int 2, .int 2, v3, v4, v5, v6, v7, v8, v9, v10, v11, v12, v13, v14, v15, v16, v17, v18, v19, v20])), (h1, .inl (a0, 609, .inr (.inl f0))), (h2, .inl (a1, 609, .inr (.inl f1))), (h3, .inl (a2, 48, .inl f2)), (h4, .inl (a3, 48, .inl f3))] H := hP
  have hD : va_D A [(h0, .inr (6, [.int 0, .ref h1, .ref h2, v1, v2, .ref h4, .ref h3, .int 2, .int 2, v3, v4, v5, v6, v7, v8, v9, v10, v11, v12, v13, v14, v15, v16, v17, v18, v19, v20])), (h1, .inl (a0, 609, .inr (.inl f0))), (h2, .inl (a1, 609, .inr (.inl f1))), (h3, .inl (a2, 48, .inl f2)), (h4, .inl (a3, 48, .inl f3))] := hD
  refine lv_aload_n hx hb dX6_bitsBy_33 rfl (lv_at hl 0 rfl) ?_
  refine va_get (D := D) (ci := 6) (v := .int 0) (C := RX6) (T := TX6) (N := 27) hx hb hg inX6 hown hK hP 0 rfl rfl 0 (by decide) (hg _ k1219) (fun _ h9 => h9) rfl dX6_bitsBy_34 ?_
  refine lv_if_le (tgt := 44) hx hb dX6_bitsBy_37 (by decide) (fun _ => ?_) (fun c9 => absurd (by decide) c9)
  refine lv_aload_n hx hb dX6_bitsBy_44 rfl (lv_at hl 0 rfl) ?_
  refine lv_iload_n hx hb dX6_bitsBy_45 rfl (lv_at hl 1 rfl) ?_
  refine lv_iload_n hx hb dX6_bitsBy_46 rfl (lv_at hl 2 rfl) ?_
  refine cVi (n := 2) (As := [.int 2, .int 1]) (rest := []) (wr := []) (tr := []) hx hb hml hown hg okN (cX6_bitsOf_281 l D h0 h1 h2 h3 h4 (.int 0) v1 v2 v3 v4 v5 v6 v7 v8 v9 v10 v11 v12 v13 v14 v15 v16 v17 v18 v19 v20 f0 f1 f2 f3 a0 a1 a2 a3 ef2_0 ef2_1 ef3_0 ef3_1) (mwV k1674 k1676 k82 k92 k1677) ⟨rfl, by decide, by decide, by decide +kernel⟩ ⟨rfl, rfl, (Nat.le_of_ble_eq_true rfl), (Nat.le_of_ble_eq_true rfl)⟩ hP hD hK hS xn [0, 1, 2, 3, 4] [0, 1, 2, 3, 4] [] [0, 1, 2, 3] [] rfl (by decide) rfl rfl (by decide) (by decide) rfl rfl (va_free hD hS hA [0, 1, 2, 3, 4] rfl) (va_free hD hS hA [0, 1, 2, 3, 4] rfl) 0 rfl rfl rfl hl.1 rfl (Nat.le_of_ble_eq_true rfl) dX6_bitsBy_47 ⟨(Nat.le_of_ble_eq_true rfl), (Nat.le_of_ble_eq_true rfl)⟩ (fun u H locs hφ hP hD hK hS hk => ?_)
  obtain ⟨y0_1, y0_2⟩ := u
  have hP : va_P D vwCl [(h0, .inr (6, [.int 0, .ref h1, .ref h2, v1, v2, .ref h4, .ref h3, .int 2, .int 2, v3, v4, v5, v6, v7, v8, v9, v10, v11, v12, v13, v14, v15, v16, v17, v18, v19, v20])), (h1, .inl (a0, 609, .inr (.inl y0_1))), (h2, .inl (a1, 609, .inr (.inl y0_2))), (h3, .inl (a2, 48, .inl f2)), (h4, .inl (a3, 48, .inl f3))] H := hP
  have hD : va_D A [(h0, .inr (6, [.int 0, .ref h1, .ref h2, v1, v2, .ref h4, .ref h3, .int 2, .int 2, v3, v4, v5, v6, v7, v8, v9, v10, v11, v12, v13, v14, v15, v16, v17, v18, v19, v20])), (h1, .inl (a0, 609, .inr (.inl y0_1))), (h2, .inl (a1, 609, .inr (.inl y0_2))), (h3, .inl (a2, 48, .inl f2)), (h4, .inl (a3, 48, .inl f3))] := hD
  have hK : va_K D vwCl [(a0, .long), (a1, .long), (a2, .int), (a3, .int)] s := hK
  refine W.widen (k := 0) (n := 0) (Nat.le_of_ble_eq_true rfl) (Nat.le_of_ble_eq_true rfl) ?_
  exact fi hx hb hr hlocks hP hD hK hS ((y0_1, y0_2)) trivial rfl [0, 1, 2, 3, 4] [0, 1, 2, 3] rfl (by decide) rfl (Nat.le_of_ble_eq_true rfl) (Nat.le_of_ble_eq_true rfl) dX6_bitsBy_50
set_option maxHeartbeats 4000000 in
set_option maxRecDepth 100000 in
theorem cX6_bitsOf_283 (l : Launch) (D : va_G) (h0 : Nat) (h1 : Nat) (h2 : Nat) (h3 : Nat) (h4 : Nat) (v0 : Value) (v1 : Value) (v2 : Value) (v3 : Value) (v4 : Value) (v5 : Value) (v6 : Value) (v7 : Value) (v8 : Value) (v9 : Value) (v10 : Value) (v11 : Value) (v12 : Value) (v13 : Value) (v14 : Value) (v15 : Value) (v16 : Value) (v17 : Value) (v18 : Value) (v19 : Value) (v20 : Value) (f0 : Nat → Int64) (f1 : Nat → Int64) (f2 : Nat → Int32) (f3 : Nat → Int32) (a0 : ClassId) (a1 : ClassId) (a2 : ClassId) (a3 : ClassId) (ef2_0 : f2 0 = 0) (ef2_1 : f2 1 = 0) (ef3_0 : f3 0 = 0) (ef3_1 : f3 1 = 1)  : CT l yX6_bitsOf cX6_bitsOf 4 (some .int) { frames := 4, cells := 0, slots := 0, locals := 85 } [.ref h0, .int 2, .int 2] D [(h0, .inr (6, [v0, .ref h1, .ref h2, v1, v2, .ref h4, .ref h3, .int 2, .int 2, v3, v4, v5, v6, v7, v8, v9, v10, v11, v12, v13, v14, v15, v16, v17, v18, v19, v20])), (h1, .inl (a0, 609, .inr (.inl f0))), (h2, .inl (a1, 609, .inr (.inl f1))), (h3, .inl (a2, 48, .inl f2)), (h4, .inl (a3, 48, .inl f3))] [(a0, .long), (a1, .long), (a2, .int), (a3, .int)] XN [(h0, .inr (6, [v0, .ref h1, .ref h2, v1, v2, .ref h4, .ref h3, .int 2, .int 2, v3, v4, v5, v6, v7, v8, v9, v10, v11, v12, v13, v14, v15, v16, v17, v18, v19, v20])), (h1, .inl (a0, 609, .inr (.inl f0))), (h2, .inl (a1, 609, .inr (.inl f1))), (h3, .inl (a2, 48, .inl f2)), (h4, .inl (a3, 48, .inl f3))] (ei (fun _ : (Nat → Int64) × (Nat → Int64) => True) (fun u => 0) (fun u => [(h0, .inr (6, [v0, .ref h1, .ref h2, v1, v2, .ref h4, .ref h3, .int 2, .int 2, v3, v4, v5, v6, v7, v8, v9, v10, v11, v12, v13, v14, v15, v16, v17, v18, v19, v20])), (h1, .inl (a0, 609, .inr (.inl u.1))), (h2, .inl (a1, 609, .inr (.inl u.2))), (h3, .inl (a2, 48, .inl f2)), (h4, .inl (a3, 48, .inl f3))]) (fun u => [(a0, .long), (a1, .long), (a2, .int), (a3, .int)]) D) 0 0 := by
  refine CT.ofW (by decide +kernel) (Nat.le_of_ble_eq_true rfl) ?_
  intro p e s m below meth c A ls hcs hP hK hD hX hA hS hl
  obtain ⟨hx, hb, hr, hml, hown, hg, hlocks, hin⟩ := hcs
  have hown : s.vm.findClass RX6 = some m.cls := hown
  have hl : lv_has ls 4 [(0, .ref h0), (1, .int 2), (2, .int 2)] := hl
  refine lv_aload_n hx hb dX6_bitsOf_0 rfl (lv_at hl 0 rfl) ?_
  refine cVv (n := 0) (As := []) (rest := []) (wr := [(h3, .inl (a2, 48, .inl f2)), (h4, .inl (a3, 48, .inl f3))]) (tr := [(a2, .int), (a3, .int)]) hx hb hml hown hg okN (cX6_puts_234 l D h0 h1 h2 v0 v1 v2 (.ref h4) (.ref h3) (.int 2) (.int 2) v3 v4 v5 v6 v7 v8 v9 v10 v11 v12 v13 v14 v15 v16 v17 v18 v19 v20 f0 f1 a0 a1) (mwV k1646 k1648 k78 k92 k1649) ⟨rfl, by decide, by decide, by decide +kernel⟩ ⟨rfl, rfl, (Nat.le_of_ble_eq_true rfl), (Nat.le_of_ble_eq_true rfl)⟩ hP hD hK hS xn [0, 1, 2] [0, 1, 2] [3, 4] [0, 1] [2, 3] rfl (by decide) rfl rfl (by decide) (by decide) rfl rfl (va_free hD hS hA [0, 1, 2] rfl) (va_free hD hS hA [0, 1, 2] rfl) 0 rfl rfl rfl hl.1 rfl (Nat.le_of_ble_eq_true rfl) dX6_bitsOf_1 ⟨(Nat.le_of_ble_eq_true rfl), (Nat.le_of_ble_eq_true rfl)⟩ (fun u H locs hφ hP hD hK hS hk => ?_)
  obtain ⟨y1_1, rfl⟩ : ∃ z, z = u := ⟨_, rfl⟩
  have hP : va_P D vwCl [(h3, .inl (a2, 48, .inl f2)), (h4, .inl (a3, 48, .inl f3)), (h0, .inr (6, [v0, .ref h1, .ref h2, v1, v2, .ref h4, .ref h3, .int 2, .int 2, v3, v4, v5, v6, v7, v8, v9, v10, v11, v12, v13, v14, v15, v16, v17, v18, v19, v20])), (h1, .inl (a0, 609, .inr (.inl f0))), (h2, .inl (a1, 609, .inr (.inl y1_1)))] H := hP
  have hD : va_D A [(h3, .inl (a2, 48, .inl f2)), (h4, .inl (a3, 48, .inl f3)), (h0, .inr (6, [v0, .ref h1, .ref h2, v1, v2, .ref h4, .ref h3, .int 2, .int 2, v3, v4, v5, v6, v7, v8, v9, v10, v11, v12, v13, v14, v15, v16, v17, v18, v19, v20])), (h1, .inl (a0, 609, .inr (.inl f0))), (h2, .inl (a1, 609, .inr (.inl y1_1)))] := hD
  have hK : va_K D vwCl [(a2, .int), (a3, .int), (a0, .long), (a1, .long)] s := hK
  refine W.widen (k := 0) (n := 0) (Nat.le_of_ble_eq_true rfl) (Nat.le_of_ble_eq_true rfl) ?_
  refine lv_aload_n hx hb dX6_bitsOf_4 rfl (lv_at hl 0 rfl) ?_
  refine va_get (D := D) (ci := 6) (v := .ref h1) (C := RX6) (T := TX6) (N := 27) hx hb hg inX6 hown hK hP 2 rfl rfl 1 (by decide) (hg _ k1220) (fun _ h9 => h9) rfl dX6_bitsOf_5 ?_
  refine lv_iconst (v := 0) hx hb dX6_bitsOf_8 (by decide) ?_
  refine lv_iload_n hx hb dX6_bitsOf_9 rfl (lv_at hl 1 rfl) ?_
  refine lv_i2l (v := 2) hx hb dX6_bitsOf_10 (by decide) ?_
  refine astL hx hb hK hP hD hS 3 2 rfl rfl 0 (by decide) (vin (by decide)) dX6_bitsOf_11 (fun H locs hP hD hS => ?_)
  have hP : va_P D vwCl [(h3, .inl (a2, 48, .inl f2)), (h4, .inl (a3, 48, .inl f3)), (h0, .inr (6, [v0, .ref h1, .ref h2, v1, v2, .ref h4, .ref h3, .int 2, .int 2, v3, v4, v5, v6, v7, v8, v9, v10, v11, v12, v13, v14, v15, v16, v17, v18, v19, v20])), (h1, .inl (a0, 609, .inr (.inl (vp_updL f0 0 2)))), (h2, .inl (a1, 609, .inr (.inl y1_1)))] H := hP
  have hD : va_D A [(h3, .inl (a2, 48, .inl f2)), (h4, .inl (a3, 48, .inl f3)), (h0, .inr (6, [v0, .ref h1, .ref h2, v1, v2, .ref h4, .ref h3, .int 2, .int 2, v3, v4, v5, v6, v7, v8, v9, v10, v11, v12, v13, v14, v15, v16, v17, v18, v19, v20])), (h1, .inl (a0, 609, .inr (.inl (vp_updL f0 0 2)))), (h2, .inl (a1, 609, .inr (.inl y1_1)))] := hD
  refine lv_aload_n hx hb dX6_bitsOf_12 rfl (lv_at hl 0 rfl) ?_
  refine va_get (D := D) (ci := 6) (v := .ref h1) (C := RX6) (T := TX6) (N := 27) hx hb hg inX6 hown hK hP 2 rfl rfl 1 (by decide) (hg _ k1220) (fun _ h9 => h9) rfl dX6_bitsOf_13 ?_
  refine lv_iconst (v := 1) hx hb dX6_bitsOf_16 (by decide) ?_
  refine lv_iload_n hx hb dX6_bitsOf_17 rfl (lv_at hl 2 rfl) ?_
  refine lv_i2l (v := 2) hx hb dX6_bitsOf_18 (by decide) ?_
  refine astL hx hb hK hP hD hS 3 2 rfl rfl 1 (by decide) (vin (by decide)) dX6_bitsOf_19 (fun H locs hP hD hS => ?_)
  have hP : va_P D vwCl [(h3, .inl (a2, 48, .inl f2)), (h4, .inl (a3, 48, .inl f3)), (h0, .inr (6, [v0, .ref h1, .ref h2, v1, v2, .ref h4, .ref h3, .int 2, .int 2, v3, v4, v5, v6, v7, v8, v9, v10, v11, v12, v13, v14, v15, v16, v17, v18, v19, v20])), (h1, .inl (a0, 609, .inr (.inl (vp_updL (vp_updL f0 0 2) 1 2)))), (h2, .inl (a1, 609, .inr (.inl y1_1)))] H := hP
  have hD : va_D A [(h3, .inl (a2, 48, .inl f2)), (h4, .inl (a3, 48, .inl f3)), (h0, .inr (6, [v0, .ref h1, .ref h2, v1, v2, .ref h4, .ref h3, .int 2, .int 2, v3, v4, v5, v6, v7, v8, v9, v10, v11, v12, v13, v14, v15, v16, v17, v18, v19, v20])), (h1, .inl (a0, 609, .inr (.inl (vp_updL (vp_updL f0 0 2) 1 2)))), (h2, .inl (a1, 609, .inr (.inl y1_1)))] := hD
  refine lv_aload_n hx hb dX6_bitsOf_20 rfl (lv_at hl 0 rfl) ?_
  refine cVv (n := 0) (As := []) (rest := []) (wr := [(h2, .inl (a1, 609, .inr (.inl y1_1)))]) (tr := [(a1, .long)]) hx hb hml hown hg okN (cX6_anew_186 l D h0 h1 h3 h4 v0 (.ref h2) v1 v2 (.int 2) v3 v4 v5 v6 v7 v8 v9 v10 v11 v12 v13 v14 v15 v16 v17 v18 v19 v20 (vp_updL (vp_updL f0 0 2) 1 2) f2 f3 a0 a2 a3 ef2_0 ef2_1 ef3_0 ef3_1) (mwV k1214 k1216 k35 k92 k1217) ⟨rfl, by decide, by decide, by decide +kernel⟩ ⟨rfl, rfl, (Nat.le_of_ble_eq_true rfl), (Nat.le_of_ble_eq_true rfl)⟩ hP hD hK hS xn [2, 3, 0, 1] [2, 3, 0, 1] [4] [2, 0, 1] [3] rfl (by decide) rfl rfl (by decide) (by decide) rfl rfl (va_free hD hS hA [2, 3, 0, 1] rfl) (va_free hD hS hA [2, 3, 0, 1] rfl) 2 rfl rfl rfl hl.1 rfl (Nat.le_of_ble_eq_true rfl) dX6_bitsOf_21 ⟨(Nat.le_of_ble_eq_true rfl), (Nat.le_of_ble_eq_true rfl)⟩ (fun u H locs hφ hP hD hK hS hk => ?_)
  have hP : va_P D vwCl [(h2, .inl (a1, 609, .inr (.inl y1_1))), (h0, .inr (6, [v0, .ref h1, .ref h2, v1, v2, .ref h4, .ref h3, .int 2, .int 2, v3, v4, v5, v6, v7, v8, v9, v10, v11, v12, v13, v14, v15, v16, v17, v18, v19, v20])), (h1, .inl (a0, 609, .inr (.inl (vp_updL (vp_updL (vp_updL (vp_updL (vp_updL (vp_updL (vp_updL (vp_updL (vp_updL (vp_updL f0 0 2) 1 2) 3 0) 4 0) 5 0) 53 1) 101 (-1)) 6 0) 54 1) 102 (-1))))), (h3, .inl (a2, 48, .inl f2)), (h4, .inl (a3, 48, .inl f3))] H := hP
  have hD : va_D A [(h2, .inl (a1, 609, .inr (.inl y1_1))), (h0, .inr (6, [v0, .ref h1, .ref h2, v1, v2, .ref h4, .ref h3, .int 2, .int 2, v3, v4, v5, v6, v7, v8, v9, v10, v11, v12, v13, v14, v15, v16, v17, v18, v19, v20])), (h1, .inl (a0, 609, .inr (.inl (vp_updL (vp_updL (vp_updL (vp_updL (vp_updL (vp_updL (vp_updL (vp_updL (vp_updL (vp_updL f0 0 2) 1 2) 3 0) 4 0) 5 0) 53 1) 101 (-1)) 6 0) 54 1) 102 (-1))))), (h3, .inl (a2, 48, .inl f2)), (h4, .inl (a3, 48, .inl f3))] := hD
  have hK : va_K D vwCl [(a1, .long), (a0, .long), (a2, .int), (a3, .int)] s := hK
  refine W.widen (k := 0) (n := 0) (Nat.le_of_ble_eq_true rfl) (Nat.le_of_ble_eq_true rfl) ?_
  refine lv_aload_n hx hb dX6_bitsOf_24 rfl (lv_at hl 0 rfl) ?_
  refine lv_bipush (v := 46) hx hb dX6_bitsOf_25 (by decide) ?_
  refine cVi (n := 1) (As := [.int 46]) (rest := []) (wr := [(h2, .inl (a1, 609, .inr (.inl y1_1))), (h0, .inr (6, [v0, .ref h1, .ref h2, v1, v2, .ref h4, .ref h3, .int 2, .int 2, v3, v4, v5, v6, v7, v8, v9, v10, v11, v12, v13, v14, v15, v16, v17, v18, v19, v20])), (h1, .inl (a0, 609, .inr (.inl (vp_updL (vp_updL (vp_updL (vp_updL (vp_updL (vp_updL (vp_updL (vp_updL (vp_updL (vp_updL f0 0 2) 1 2) 3 0) 4 0) 5 0) 53 1) 101 (-1)) 6 0) 54 1) 102 (-1))))), (h3, .inl (a2, 48, .inl f2)), (h4, .inl (a3, 48, .inl f3))]) (tr := [(a1, .long), (a0, .long), (a2, .int), (a3, .int)]) hx hb hml hown hg okN (cX6_goesOn_263 l D h0 h1 v0 (.ref h2) v1 v2 (.ref h4) (.ref h3) v3 v4 v5 v6 v7 v8 v9 v10 v11 v12 v13 v14 v15 v16 v17 v18 v19 v20 (vp_updL (vp_updL (vp_updL (vp_updL (vp_updL (vp_updL (vp_updL (vp_updL (vp_updL (vp_updL f0 0 2) 1 2) 3 0) 4 0) 5 0) 53 1) 101 (-1)) 6 0) 54 1) 102 (-1)) a0 rfl) (mwV k1588 k1590 k71 k92 k1591) ⟨rfl, by decide, by decide, by decide +kernel⟩ ⟨rfl, rfl, (Nat.le_of_ble_eq_true rfl), (Nat.le_of_ble_eq_true rfl)⟩ hP hD hK hS xn [1, 2] [] [0, 1, 2, 3, 4] [1] [0, 1, 2, 3] rfl (by decide) rfl rfl (by decide) (by decide) rfl rfl (aNil hA hS) (aNil hA hS) 1 rfl rfl rfl hl.1 rfl (Nat.le_of_ble_eq_true rfl) dX6_bitsOf_27 ⟨(Nat.le_of_ble_eq_true rfl), (Nat.le_of_ble_eq_true rfl)⟩ (fun u H locs hφ hP hD hK hS hk => ?_)
  have hP : va_P D vwCl [(h2, .inl (a1, 609, .inr (.inl y1_1))), (h0, .inr (6, [v0, .ref h1, .ref h2, v1, v2, .ref h4, .ref h3, .int 2, .int 2, v3, v4, v5, v6, v7, v8, v9, v10, v11, v12, v13, v14, v15, v16, v17, v18, v19, v20])), (h1, .inl (a0, 609, .inr (.inl (vp_updL (vp_updL (vp_updL (vp_updL (vp_updL (vp_updL (vp_updL (vp_updL (vp_updL (vp_updL f0 0 2) 1 2) 3 0) 4 0) 5 0) 53 1) 101 (-1)) 6 0) 54 1) 102 (-1))))), (h3, .inl (a2, 48, .inl f2)), (h4, .inl (a3, 48, .inl f3))] H := hP
  have hD : va_D A [(h2, .inl (a1, 609, .inr (.inl y1_1))), (h0, .inr (6, [v0, .ref h1, .ref h2, v1, v2, .ref h4, .ref h3, .int 2, .int 2, v3, v4, v5, v6, v7, v8, v9, v10, v11, v12, v13, v14, v15, v16, v17, v18, v19, v20])), (h1, .inl (a0, 609, .inr (.inl (vp_updL (vp_updL (vp_updL (vp_updL (vp_updL (vp_updL (vp_updL (vp_updL (vp_updL (vp_updL f0 0 2) 1 2) 3 0) 4 0) 5 0) 53 1) 101 (-1)) 6 0) 54 1) 102 (-1))))), (h3, .inl (a2, 48, .inl f2)), (h4, .inl (a3, 48, .inl f3))] := hD
  have hK : va_K D vwCl [(a1, .long), (a0, .long), (a2, .int), (a3, .int)] s := hK
  refine W.widen (k := 0) (n := 0) (Nat.le_of_ble_eq_true rfl) (Nat.le_of_ble_eq_true rfl) ?_
  refine lv_istore_n (lv' := [(3, .int 0), (0, .ref h0), (1, .int 2), (2, .int 2)]) hx hb dX6_bitsOf_30 rfl hl (by decide) rfl (fun ls hl => ?_)
  refine lv_aload_n hx hb dX6_bitsOf_31 rfl (lv_at hl 1 rfl) ?_
  refine cVi (n := 0) (As := []) (rest := []) (wr := [(h2, .inl (a1, 609, .inr (.inl y1_1))), (h0, .inr (6, [v0, .ref h1, .ref h2, v1, v2, .ref h4, .ref h3, .int 2, .int 2, v3, v4, v5, v6, v7, v8, v9, v10, v11, v12, v13, v14, v15, v16, v17, v18, v19, v20])), (h1, .inl (a0, 609, .inr (.inl (vp_updL (vp_updL (vp_updL (vp_updL (vp_updL (vp_updL (vp_updL (vp_updL (vp_updL (vp_updL f0 0 2) 1 2) 3 0) 4 0) 5 0) 53 1) 101 (-1)) 6 0) 54 1) 102 (-1))))), (h3, .inl (a2, 48, .inl f2)), (h4, .inl (a3, 48, .inl f3))]) (tr := [(a1, .long), (a0, .long), (a2, .int), (a3, .int)]) hx hb hml hown hg okN (cX6_bitsNow_133 l D h0 h1 v0 (.ref h2) v1 v2 (.ref h4) (.ref h3) (.int 2) (.int 2) v3 v4 v5 v6 v7 v8 v9 v10 v11 v12 v13 v14 v15 v16 v17 v18 v19 v20 (vp_updL (vp_updL (vp_updL (vp_updL (vp_updL (vp_updL (vp_updL (vp_updL (vp_updL (vp_updL f0 0 2) 1 2) 3 0) 4 0) 5 0) 53 1) 101 (-1)) 6 0) 54 1) 102 (-1)) a0 rfl) (mwV k1506 k1508 k61 k92 k1509) ⟨rfl, by decide, by decide, by decide +kernel⟩ ⟨rfl, rfl, (Nat.le_of_ble_eq_true rfl), (Nat.le_of_ble_eq_true rfl)⟩ hP hD hK hS xn [1, 2] [] [0, 1, 2, 3, 4] [1] [0, 1, 2, 3] rfl (by decide) rfl rfl (by decide) (by decide) rfl rfl (aNil hA hS) (aNil hA hS) 1 rfl rfl rfl hl.1 rfl (Nat.le_of_ble_eq_true rfl) dX6_bitsOf_32 ⟨(Nat.le_of_ble_eq_true rfl), (Nat.le_of_ble_eq_true rfl)⟩ (fun u H locs hφ hP hD hK hS hk => ?_)
  have hP : va_P D vwCl [(h2, .inl (a1, 609, .inr (.inl y1_1))), (h0, .inr (6, [v0, .ref h1, .ref h2, v1, v2, .ref h4, .ref h3, .int 2, .int 2, v3, v4, v5, v6, v7, v8, v9, v10, v11, v12, v13, v14, v15, v16, v17, v18, v19, v20])), (h1, .inl (a0, 609, .inr (.inl (vp_updL (vp_updL (vp_updL (vp_updL (vp_updL (vp_updL (vp_updL (vp_updL (vp_updL (vp_updL f0 0 2) 1 2) 3 0) 4 0) 5 0) 53 1) 101 (-1)) 6 0) 54 1) 102 (-1))))), (h3, .inl (a2, 48, .inl f2)), (h4, .inl (a3, 48, .inl f3))] H := hP
  have hD : va_D A [(h2, .inl (a1, 609, .inr (.inl y1_1))), (h0, .inr (6, [v0, .ref h1, .ref h2, v1, v2, .ref h4, .ref h3, .int 2, .int 2, v3, v4, v5, v6, v7, v8, v9, v10, v11, v12, v13, v14, v15, v16, v17, v18, v19, v20])), (h1, .inl (a0, 609, .inr (.inl (vp_updL (vp_updL (vp_updL (vp_updL (vp_updL (vp_updL (vp_updL (vp_updL (vp_updL (vp_updL f0 0 2) 1 2) 3 0) 4 0) 5 0) 53 1) 101 (-1)) 6 0) 54 1) 102 (-1))))), (h3, .inl (a2, 48, .inl f2)), (h4, .inl (a3, 48, .inl f3))] := hD
  have hK : va_K D vwCl [(a1, .long), (a0, .long), (a2, .int), (a3, .int)] s := hK
  refine W.widen (k := 0) (n := 0) (Nat.le_of_ble_eq_true rfl) (Nat.le_of_ble_eq_true rfl) ?_
  refine lv_istore_n (lv' := [(3, .int 0), (0, .ref h0), (1, .int 2), (2, .int 2)]) hx hb dX6_bitsOf_35 rfl hl (by decide) rfl (fun ls hl => ?_)
  refine lv_aload_n hx hb dX6_bitsOf_36 rfl (lv_at hl 1 rfl) ?_
  refine cVv (n := 0) (As := []) (rest := []) (wr := [(h3, .inl (a2, 48, .inl f2)), (h4, .inl (a3, 48, .inl f3))]) (tr := [(a2, .int), (a3, .int)]) hx hb hml hown hg okN (cX6_takesBack_236 l D h0 h2 h1 v0 v1 v2 (.ref h4) (.ref h3) (.int 2) (.int 2) v3 v4 v5 v6 v7 v8 v9 v10 v11 v12 v13 v14 v15 v16 v17 v18 v19 v20 y1_1 (vp_updL (vp_updL (vp_updL (vp_updL (vp_updL (vp_updL (vp_updL (vp_updL (vp_updL (vp_updL f0 0 2) 1 2) 3 0) 4 0) 5 0) 53 1) 101 (-1)) 6 0) 54 1) 102 (-1)) a1 a0) (mwV k1654 k1656 k80 k92 k1657) ⟨rfl, by decide, by decide, by decide +kernel⟩ ⟨rfl, rfl, (Nat.le_of_ble_eq_true rfl), (Nat.le_of_ble_eq_true rfl)⟩ hP hD hK hS xn [1, 0, 2] [1, 0, 2] [3, 4] [0, 1] [2, 3] rfl (by decide) rfl rfl (by decide) (by decide) rfl rfl (va_free hD hS hA [1, 0, 2] rfl) (va_free hD hS hA [1, 0, 2] rfl) 1 rfl rfl rfl hl.1 rfl (Nat.le_of_ble_eq_true rfl) dX6_bitsOf_37 ⟨(Nat.le_of_ble_eq_true rfl), (Nat.le_of_ble_eq_true rfl)⟩ (fun u H locs hφ hP hD hK hS hk => ?_)
  obtain ⟨y1_2, rfl⟩ : ∃ z, z = u := ⟨_, rfl⟩
  have hP : va_P D vwCl [(h3, .inl (a2, 48, .inl f2)), (h4, .inl (a3, 48, .inl f3)), (h0, .inr (6, [v0, .ref h1, .ref h2, v1, v2, .ref h4, .ref h3, .int 2, .int 2, v3, v4, v5, v6, v7, v8, v9, v10, v11, v12, v13, v14, v15, v16, v17, v18, v19, v20])), (h2, .inl (a1, 609, .inr (.inl y1_1))), (h1, .inl (a0, 609, .inr (.inl y1_2)))] H := hP
  have hD : va_D A [(h3, .inl (a2, 48, .inl f2)), (h4, .inl (a3, 48, .inl f3)), (h0, .inr (6, [v0, .ref h1, .ref h2, v1, v2, .ref h4, .ref h3, .int 2, .int 2, v3, v4, v5, v6, v7, v8, v9, v10, v11, v12, v13, v14, v15, v16, v17, v18, v19, v20])), (h2, .inl (a1, 609, .inr (.inl y1_1))), (h1, .inl (a0, 609, .inr (.inl y1_2)))] := hD
  have hK : va_K D vwCl [(a2, .int), (a3, .int), (a1, .long), (a0, .long)] s := hK
  refine W.widen (k := 0) (n := 0) (Nat.le_of_ble_eq_true rfl) (Nat.le_of_ble_eq_true rfl) ?_
  refine lv_iload_n hx hb dX6_bitsOf_40 rfl (lv_at hl 0 rfl) ?_
  exact fi hx hb hr hlocks hP hD hK hS ((y1_2, y1_1)) trivial rfl [2, 4, 3, 0, 1] [3, 2, 0, 1] rfl (by decide) rfl (Nat.le_of_ble_eq_true rfl) (Nat.le_of_ble_eq_true rfl) dX6_bitsOf_41
set_option maxHeartbeats 4000000 in
set_option maxRecDepth 100000 in
theorem cX6_bitsBy_282 (l : Launch) (D : va_G) (h0 : Nat) (h1 : Nat) (h2 : Nat) (h3 : Nat) (h4 : Nat) (v0 : Value) (v1 : Value) (v2 : Value) (v3 : Value) (v4 : Value) (v5 : Value) (v6 : Value) (v7 : Value) (v8 : Value) (v9 : Value) (v10 : Value) (v11 : Value) (v12 : Value) (v13 : Value) (v14 : Value) (v15 : Value) (v16 : Value) (v17 : Value) (v18 : Value) (v19 : Value) (v20 : Value) (f0 : Nat → Int64) (f1 : Nat → Int64) (f2 : Nat → Int32) (f3 : Nat → Int32) (a0 : ClassId) (a1 : ClassId) (a2 : ClassId) (a3 : ClassId) (ef2_0 : f2 0 = 0) (ef2_1 : f2 1 = 0) (ef3_0 : f3 0 = 0) (ef3_1 : f3 1 = 1)  : CT l yX6_bitsBy cX6_bitsBy 3 (some .int) { frames := 5, cells := 0, slots := 0, locals := 108 } [.ref h0, .int 2, .int 2] D [(h0, .inr (6, [v0, .ref h1, .ref h2, v1, v2, .ref h4, .ref h3, .int 2, .int 2, v3, v4, v5, v6, v7, v8, v9, v10, v11, v12, v13, v14, v15, v16, v17, v18, v19, v20])), (h1, .inl (a0, 609, .inr (.inl f0))), (h2, .inl (a1, 609, .inr (.inl f1))), (h3, .inl (a2, 48, .inl f2)), (h4, .inl (a3, 48, .inl f3))] [(a0, .long), (a1, .long), (a2, .int), (a3, .int)] XN [(h0, .inr (6, [v0, .ref h1, .ref h2, v1, v2, .ref h4, .ref h3, .int 2, .int 2, v3, v4, v5, v6, v7, v8, v9, v10, v11, v12, v13, v14, v15, v16, v17, v18, v19, v20])), (h1, .inl (a0, 609, .inr (.inl f0))), (h2, .inl (a1, 609, .inr (.inl f1))), (h3, .inl (a2, 48, .inl f2)), (h4, .inl (a3, 48, .inl f3))] (ei (fun _ : (Nat → Int64) × (Nat → Int64) => True) (fun u => 0) (fun u => [(h0, .inr (6, [.int 0, .ref h1, .ref h2, v1, v2, .ref h4, .ref h3, .int 2, .int 2, v3, v4, v5, v6, v7, v8, v9, v10, v11, v12, v13, v14, v15, v16, v17, v18, v19, v20])), (h1, .inl (a0, 609, .inr (.inl u.1))), (h2, .inl (a1, 609, .inr (.inl u.2))), (h3, .inl (a2, 48, .inl f2)), (h4, .inl (a3, 48, .inl f3))]) (fun u => [(a0, .long), (a1, .long), (a2, .int), (a3, .int)]) D) 0 0 := by
  refine CT.ofW (by decide +kernel) (Nat.le_of_ble_eq_true rfl) ?_
  intro p e s m below meth c A ls hcs hP hK hD hX hA hS hl
  obtain ⟨hx, hb, hr, hml, hown, hg, hlocks, hin⟩ := hcs
  have hown : s.vm.findClass RX6 = some m.cls := hown
  have hl : lv_has ls 3 [(0, .ref h0), (1, .int 2), (2, .int 2)] := hl
  refine lv_aload_n hx hb dX6_bitsBy_0 rfl (lv_at hl 0 rfl) ?_
  refine lv_iload_n hx hb dX6_bitsBy_1 rfl (lv_at hl 1 rfl) ?_
  refine lv_i2l (v := 2) hx hb dX6_bitsBy_2 (by decide) ?_
  refine lv_lconst (v := 0) hx hb dX6_bitsBy_3 (by decide) ?_
  refine lv_ldc2 hx hb hown (hg _ k1510) dX6_bitsBy_4 ?_
  refine cSi (n := 3) (As := [.long 2, .long 0, .long 2]) (rest := [.ref h0]) (wr := [(h0, .inr (6, [v0, .ref h1, .ref h2, v1, v2, .ref h4, .ref h3, .int 2, .int 2, v3, v4, v5, v6, v7, v8, v9, v10, v11, v12, v13, v14, v15, v16, v17, v18, v19, v20])), (h1, .inl (a0, 609, .inr (.inl f0))), (h2, .inl (a1, 609, .inr (.inl f1))), (h3, .inl (a2, 48, .inl f2)), (h4, .inl (a3, 48, .inl f3))]) (tr := [(a0, .long), (a1, .long), (a2, .int), (a3, .int)]) hx hb hml hown hg okN (cX6_in_149 l D) (mwS k1317 k1318 k92 k1319) ⟨rfl, by decide, by decide, by decide +kernel⟩ ⟨rfl, rfl, (Nat.le_of_ble_eq_true rfl), (Nat.le_of_ble_eq_true rfl)⟩ hP hD hK hS xn [] [] [0, 1, 2, 3, 4] [] [0, 1, 2, 3] rfl (by decide) rfl rfl (by decide) (by decide) rfl rfl (aNil hA hS) (aNil hA hS) rfl hl.1 rfl (Nat.le_of_ble_eq_true rfl) dX6_bitsBy_7 ⟨(Nat.le_of_ble_eq_true rfl), (Nat.le_of_ble_eq_true rfl)⟩ (fun u H locs hφ hP hD hK hS hk => ?_)
  have hP : va_P D vwCl [(h0, .inr (6, [v0, .ref h1, .ref h2, v1, v2, .ref h4, .ref h3, .int 2, .int 2, v3, v4, v5, v6, v7, v8, v9, v10, v11, v12, v13, v14, v15, v16, v17, v18, v19, v20])), (h1, .inl (a0, 609, .inr (.inl f0))), (h2, .inl (a1, 609, .inr (.inl f1))), (h3, .inl (a2, 48, .inl f2)), (h4, .inl (a3, 48, .inl f3))] H := hP
  have hD : va_D A [(h0, .inr (6, [v0, .ref h1, .ref h2, v1, v2, .ref h4, .ref h3, .int 2, .int 2, v3, v4, v5, v6, v7, v8, v9, v10, v11, v12, v13, v14, v15, v16, v17, v18, v19, v20])), (h1, .inl (a0, 609, .inr (.inl f0))), (h2, .inl (a1, 609, .inr (.inl f1))), (h3, .inl (a2, 48, .inl f2)), (h4, .inl (a3, 48, .inl f3))] := hD
  have hK : va_K D vwCl [(a0, .long), (a1, .long), (a2, .int), (a3, .int)] s := hK
  refine W.widen (k := 0) (n := 0) (Nat.le_of_ble_eq_true rfl) (Nat.le_of_ble_eq_true rfl) ?_
  refine lv_if_eq (tgt := 29) hx hb dX6_bitsBy_10 (by decide) (fun c9 => absurd c9 (by decide)) (fun _ => ?_)
  refine lv_iload_n hx hb dX6_bitsBy_13 rfl (lv_at hl 2 rfl) ?_
  refine lv_i2l (v := 2) hx hb dX6_bitsBy_14 (by decide) ?_
  refine lv_lconst (v := 0) hx hb dX6_bitsBy_15 (by decide) ?_
  refine lv_ldc2 hx hb hown (hg _ k1510) dX6_bitsBy_16 ?_
  refine cSi (n := 3) (As := [.long 2, .long 0, .long 2]) (rest := [.ref h0]) (wr := [(h0, .inr (6, [v0, .ref h1, .ref h2, v1, v2, .ref h4, .ref h3, .int 2, .int 2, v3, v4, v5, v6, v7, v8, v9, v10, v11, v12, v13, v14, v15, v16, v17, v18, v19, v20])), (h1, .inl (a0, 609, .inr (.inl f0))), (h2, .inl (a1, 609, .inr (.inl f1))), (h3, .inl (a2, 48, .inl f2)), (h4, .inl (a3, 48, .inl f3))]) (tr := [(a0, .long), (a1, .long), (a2, .int), (a3, .int)]) hx hb hml hown hg okN (cX6_in_149 l D) (mwS k1317 k1318 k92 k1319) ⟨rfl, by decide, by decide, by decide +kernel⟩ ⟨rfl, rfl, (Nat.le_of_ble_eq_true rfl), (Nat.le_of_ble_eq_true rfl)⟩ hP hD hK hS xn [] [] [0, 1, 2, 3, 4] [] [0, 1, 2, 3] rfl (by decide) rfl rfl (by decide) (by decide) rfl rfl (aNil hA hS) (aNil hA hS) rfl hl.1 rfl (Nat.le_of_ble_eq_true rfl) dX6_bitsBy_19 ⟨(Nat.le_of_ble_eq_true rfl), (Nat.le_of_ble_eq_true rfl)⟩ (fun u H locs hφ hP hD hK hS hk => ?_)
  have hP : va_P D vwCl [(h0, .inr (6, [v0, .ref h1, .ref h2, v1, v2, .ref h4, .ref h3, .int 2, .int 2, v3, v4, v5, v6, v7, v8, v9, v10, v11, v12, v13, v14, v15, v16, v17, v18, v19, v20])), (h1, .inl (a0, 609, .inr (.inl f0))), (h2, .inl (a1, 609, .inr (.inl f1))), (h3, .inl (a2, 48, .inl f2)), (h4, .inl (a3, 48, .inl f3))] H := hP
  have hD : va_D A [(h0, .inr (6, [v0, .ref h1, .ref h2, v1, v2, .ref h4, .ref h3, .int 2, .int 2, v3, v4, v5, v6, v7, v8, v9, v10, v11, v12, v13, v14, v15, v16, v17, v18, v19, v20])), (h1, .inl (a0, 609, .inr (.inl f0))), (h2, .inl (a1, 609, .inr (.inl f1))), (h3, .inl (a2, 48, .inl f2)), (h4, .inl (a3, 48, .inl f3))] := hD
  have hK : va_K D vwCl [(a0, .long), (a1, .long), (a2, .int), (a3, .int)] s := hK
  refine W.widen (k := 0) (n := 0) (Nat.le_of_ble_eq_true rfl) (Nat.le_of_ble_eq_true rfl) ?_
  refine lv_if_eq (tgt := 29) hx hb dX6_bitsBy_22 (by decide) (fun c9 => absurd c9 (by decide)) (fun _ => ?_)
  refine lv_iconst (v := 0) hx hb dX6_bitsBy_25 (by decide) ?_
  refine lv_goto (tgt := 30) hx hb dX6_bitsBy_26 (by decide) ?_
  refine va_put (D := D) (ci := 6) (v := .int 0) (ty := .int) (C := RX6) (T := TX6) (N := 27) hx hb hg inX6 tyX6 tyX6_ok nmX6 hown hK hP hD hS 0 rfl rfl 0 (by decide) (hg _ k1219) (fun _ h9 => h9) rfl (by decide +kernel) rfl rfl (Nat.le_of_ble_eq_true rfl) dX6_bitsBy_30 (fun H locs hP hD hS => ?_)
  have hP : va_P D vwCl [(h0, .inr (6, [.int 0, .ref h1, .ref h2, v1, v2, .ref h4, .ref h3, .int 2, .int 2, v3, v4, v5, v6, v7, v8, v9, v10, v11, v12, v13, v14, v15, v16, v17, v18, v19, v20])), (h1, .inl (a0, 609, .inr (.inl f0))), (h2, .inl (a1, 609, .inr (.inl f1))), (h3, .inl (a2, 48, .inl f2)), (h4, .inl (a3, 48, .inl f3))] H := hP
  have hD : va_D A [(h0, .inr (6, [.int 0, .ref h1, .ref h2, v1, v2, .ref h4, .ref h3, .int 2, .int 2, v3, v4, v5, v6, v7, v8, v9, v10, v11, v12, v13, v14, v15, v16, v17, v18, v19, v20])), (h1, .inl (a0, 609, .inr (.inl f0))), (h2, .inl (a1, 609, .inr (.inl f1))), (h3, .inl (a2, 48, .inl f2)), (h4, .inl (a3, 48, .inl f3))] := hD
  refine lv_aload_n hx hb dX6_bitsBy_33 rfl (lv_at hl 0 rfl) ?_
  refine va_get (D := D) (ci := 6) (v := .int 0) (C := RX6) (T := TX6) (N := 27) hx hb hg inX6 hown hK hP 0 rfl rfl 0 (by decide) (hg _ k1219) (fun _ h9 => h9) rfl dX6_bitsBy_34 ?_
  refine lv_if_le (tgt := 44) hx hb dX6_bitsBy_37 (by decide) (fun _ => ?_) (fun c9 => absurd (by decide) c9)
  refine lv_aload_n hx hb dX6_bitsBy_44 rfl (lv_at hl 0 rfl) ?_
  refine lv_iload_n hx hb dX6_bitsBy_45 rfl (lv_at hl 1 rfl) ?_
  refine lv_iload_n hx hb dX6_bitsBy_46 rfl (lv_at hl 2 rfl) ?_
  refine cVi (n := 2) (As := [.int 2, .int 2]) (rest := []) (wr := []) (tr := []) hx hb hml hown hg okN (cX6_bitsOf_283 l D h0 h1 h2 h3 h4 (.int 0) v1 v2 v3 v4 v5 v6 v7 v8 v9 v10 v11 v12 v13 v14 v15 v16 v17 v18 v19 v20 f0 f1 f2 f3 a0 a1 a2 a3 ef2_0 ef2_1 ef3_0 ef3_1) (mwV k1674 k1676 k82 k92 k1677) ⟨rfl, by decide, by decide, by decide +kernel⟩ ⟨rfl, rfl, (Nat.le_of_ble_eq_true rfl), (Nat.le_of_ble_eq_true rfl)⟩ hP hD hK hS xn [0, 1, 2, 3, 4] [0, 1, 2, 3, 4] [] [0, 1, 2, 3] [] rfl (by decide) rfl rfl (by decide) (by decide) rfl rfl (va_free hD hS hA [0, 1, 2, 3, 4] rfl) (va_free hD hS hA [0, 1, 2, 3, 4] rfl) 0 rfl rfl rfl hl.1 rfl (Nat.le_of_ble_eq_true rfl) dX6_bitsBy_47 ⟨(Nat.le_of_ble_eq_true rfl), (Nat.le_of_ble_eq_true rfl)⟩ (fun u H locs hφ hP hD hK hS hk => ?_)
  obtain ⟨y0_1, y0_2⟩ := u
  have hP : va_P D vwCl [(h0, .inr (6, [.int 0, .ref h1, .ref h2, v1, v2, .ref h4, .ref h3, .int 2, .int 2, v3, v4, v5, v6, v7, v8, v9, v10, v11, v12, v13, v14, v15, v16, v17, v18, v19, v20])), (h1, .inl (a0, 609, .inr (.inl y0_1))), (h2, .inl (a1, 609, .inr (.inl y0_2))), (h3, .inl (a2, 48, .inl f2)), (h4, .inl (a3, 48, .inl f3))] H := hP
  have hD : va_D A [(h0, .inr (6, [.int 0, .ref h1, .ref h2, v1, v2, .ref h4, .ref h3, .int 2, .int 2, v3, v4, v5, v6, v7, v8, v9, v10, v11, v12, v13, v14, v15, v16, v17, v18, v19, v20])), (h1, .inl (a0, 609, .inr (.inl y0_1))), (h2, .inl (a1, 609, .inr (.inl y0_2))), (h3, .inl (a2, 48, .inl f2)), (h4, .inl (a3, 48, .inl f3))] := hD
  have hK : va_K D vwCl [(a0, .long), (a1, .long), (a2, .int), (a3, .int)] s := hK
  refine W.widen (k := 0) (n := 0) (Nat.le_of_ble_eq_true rfl) (Nat.le_of_ble_eq_true rfl) ?_
  exact fi hx hb hr hlocks hP hD hK hS ((y0_1, y0_2)) trivial rfl [0, 1, 2, 3, 4] [0, 1, 2, 3] rfl (by decide) rfl (Nat.le_of_ble_eq_true rfl) (Nat.le_of_ble_eq_true rfl) dX6_bitsBy_50
set_option maxHeartbeats 4000000 in
set_option maxRecDepth 100000 in
theorem cX6_bitsBy_284 (l : Launch) (D : va_G) (h0 : Nat) (x0 : Int32) (v0 : Value) (v1 : Value) (v2 : Value) (v3 : Value) (v4 : Value) (v5 : Value) (v6 : Value) (v7 : Value) (v8 : Value) (v9 : Value) (v10 : Value) (v11 : Value) (v12 : Value) (v13 : Value) (v14 : Value) (v15 : Value) (v16 : Value) (v17 : Value) (v18 : Value) (v19 : Value) (v20 : Value) (v21 : Value) (v22 : Value) (v23 : Value) (v24 : Value) (v25 : Value) (v26 : Value)  (d0 : ¬ ((lg_cmp x0.toInt64 0) < 0)) (d1 : 0 < (lg_cmp x0.toInt64 2)) : CT l yX6_bitsBy cX6_bitsBy 3 (some .int) { frames := 1, cells := 0, slots := 0, locals := 25 } [.ref h0, .int 2, .int x0] D [(h0, .inr (6, [v0, v1, v2, v3, v4, v5, v6, v7, v8, v9, v10, v11, v12, v13, v14, v15, v16, v17, v18, v19, v20, v21, v22, v23, v24, v25, v26]))] [] XN [(h0, .inr (6, [v0, v1, v2, v3, v4, v5, v6, v7, v8, v9, v10, v11, v12, v13, v14, v15, v16, v17, v18, v19, v20, v21, v22, v23, v24, v25, v26]))] (ei (fun _ : Unit => True) (fun u => 0) (fun _ => [(h0, .inr (6, [.int 1, v1, v2, v3, v4, v5, v6, v7, v8, v9, v10, v11, v12, v13, v14, v15, v16, v17, v18, v19, v20, v21, v22, v23, v24, v25, v26]))]) (fun u => []) D) 0 0 := by
  refine CT.ofW (by decide +kernel) (Nat.le_of_ble_eq_true rfl) ?_
  intro p e s m below meth c A ls hcs hP hK hD hX hA hS hl
  obtain ⟨hx, hb, hr, hml, hown, hg, hlocks, hin⟩ := hcs
  have hown : s.vm.findClass RX6 = some m.cls := hown
  have hl : lv_has ls 3 [(0, .ref h0), (1, .int 2), (2, .int x0)] := hl
  refine lv_aload_n hx hb dX6_bitsBy_0 rfl (lv_at hl 0 rfl) ?_
  refine lv_iload_n hx hb dX6_bitsBy_1 rfl (lv_at hl 1 rfl) ?_
  refine lv_i2l (v := 2) hx hb dX6_bitsBy_2 (by decide) ?_
  refine lv_lconst (v := 0) hx hb dX6_bitsBy_3 (by decide) ?_
  refine lv_ldc2 hx hb hown (hg _ k1510) dX6_bitsBy_4 ?_
  refine cSi (n := 3) (As := [.long 2, .long 0, .long 2]) (rest := [.ref h0]) (wr := [(h0, .inr (6, [v0, v1, v2, v3, v4, v5, v6, v7, v8, v9, v10, v11, v12, v13, v14, v15, v16, v17, v18, v19, v20, v21, v22, v23, v24, v25, v26]))]) (tr := []) hx hb hml hown hg okN (cX6_in_149 l D) (mwS k1317 k1318 k92 k1319) ⟨rfl, by decide, by decide, by decide +kernel⟩ ⟨rfl, rfl, (Nat.le_of_ble_eq_true rfl), (Nat.le_of_ble_eq_true rfl)⟩ hP hD hK hS xn [] [] [0] [] [] rfl (by decide) rfl rfl (by decide) (by decide) rfl rfl (aNil hA hS) (aNil hA hS) rfl hl.1 rfl (Nat.le_of_ble_eq_true rfl) dX6_bitsBy_7 ⟨(Nat.le_of_ble_eq_true rfl), (Nat.le_of_ble_eq_true rfl)⟩ (fun u H locs hφ hP hD hK hS hk => ?_)
  have hP : va_P D vwCl [(h0, .inr (6, [v0, v1, v2, v3, v4, v5, v6, v7, v8, v9, v10, v11, v12, v13, v14, v15, v16, v17, v18, v19, v20, v21, v22, v23, v24, v25, v26]))] H := hP
  have hD : va_D A [(h0, .inr (6, [v0, v1, v2, v3, v4, v5, v6, v7, v8, v9, v10, v11, v12, v13, v14, v15, v16, v17, v18, v19, v20, v21, v22, v23, v24, v25, v26]))] := hD
  have hK : va_K D vwCl [] s := hK
  refine W.widen (k := 0) (n := 0) (Nat.le_of_ble_eq_true rfl) (Nat.le_of_ble_eq_true rfl) ?_
  refine lv_if_eq (tgt := 29) hx hb dX6_bitsBy_10 (by decide) (fun c9 => absurd c9 (by decide)) (fun _ => ?_)
  refine lv_iload_n hx hb dX6_bitsBy_13 rfl (lv_at hl 2 rfl) ?_
  refine lv_i2l (v := x0.toInt64) hx hb dX6_bitsBy_14 rfl ?_
  refine lv_lconst (v := 0) hx hb dX6_bitsBy_15 (by decide) ?_
  refine lv_ldc2 hx hb hown (hg _ k1510) dX6_bitsBy_16 ?_
  refine cSi (n := 3) (As := [.long x0.toInt64, .long 0, .long 2]) (rest := [.ref h0]) (wr := [(h0, .inr (6, [v0, v1, v2, v3, v4, v5, v6, v7, v8, v9, v10, v11, v12, v13, v14, v15, v16, v17, v18, v19, v20, v21, v22, v23, v24, v25, v26]))]) (tr := []) hx hb hml hown hg okN (cX6_in_152 l D x0 d0 d1) (mwS k1317 k1318 k92 k1319) ⟨rfl, by decide, by decide, by decide +kernel⟩ ⟨rfl, rfl, (Nat.le_of_ble_eq_true rfl), (Nat.le_of_ble_eq_true rfl)⟩ hP hD hK hS xn [] [] [0] [] [] rfl (by decide) rfl rfl (by decide) (by decide) rfl rfl (aNil hA hS) (aNil hA hS) rfl hl.1 rfl (Nat.le_of_ble_eq_true rfl) dX6_bitsBy_19 ⟨(Nat.le_of_ble_eq_true rfl), (Nat.le_of_ble_eq_true rfl)⟩ (fun u H locs hφ hP hD hK hS hk => ?_)
  have hP : va_P D vwCl [(h0, .inr (6, [v0, v1, v2, v3, v4, v5, v6, v7, v8, v9, v10, v11, v12, v13, v14, v15, v16, v17, v18, v19, v20, v21, v22, v23, v24, v25, v26]))] H := hP
  have hD : va_D A [(h0, .inr (6, [v0, v1, v2, v3, v4, v5, v6, v7, v8, v9, v10, v11, v12, v13, v14, v15, v16, v17, v18, v19, v20, v21, v22, v23, v24, v25, v26]))] := hD
  have hK : va_K D vwCl [] s := hK
  refine W.widen (k := 0) (n := 0) (Nat.le_of_ble_eq_true rfl) (Nat.le_of_ble_eq_true rfl) ?_
  refine lv_if_eq (tgt := 29) hx hb dX6_bitsBy_22 (by decide) (fun _ => ?_) (fun c9 => absurd (by decide) c9)
  refine lv_iconst (v := 1) hx hb dX6_bitsBy_29 (by decide) ?_
  refine va_put (D := D) (ci := 6) (v := .int 1) (ty := .int) (C := RX6) (T := TX6) (N := 27) hx hb hg inX6 tyX6 tyX6_ok nmX6 hown hK hP hD hS 0 rfl rfl 0 (by decide) (hg _ k1219) (fun _ h9 => h9) rfl (by decide +kernel) rfl rfl (Nat.le_of_ble_eq_true rfl) dX6_bitsBy_30 (fun H locs hP hD hS => ?_)
  have hP : va_P D vwCl [(h0, .inr (6, [.int 1, v1, v2, v3, v4, v5, v6, v7, v8, v9, v10, v11, v12, v13, v14, v15, v16, v17, v18, v19, v20, v21, v22, v23, v24, v25, v26]))] H := hP
  have hD : va_D A [(h0, .inr (6, [.int 1, v1, v2, v3, v4, v5, v6, v7, v8, v9, v10, v11, v12, v13, v14, v15, v16, v17, v18, v19, v20, v21, v22, v23, v24, v25, v26]))] := hD
  refine lv_aload_n hx hb dX6_bitsBy_33 rfl (lv_at hl 0 rfl) ?_
  refine va_get (D := D) (ci := 6) (v := .int 1) (C := RX6) (T := TX6) (N := 27) hx hb hg inX6 hown hK hP 0 rfl rfl 0 (by decide) (hg _ k1219) (fun _ h9 => h9) rfl dX6_bitsBy_34 ?_
  refine lv_if_le (tgt := 44) hx hb dX6_bitsBy_37 (by decide) (fun c9 => absurd c9 (by decide)) (fun _ => ?_)
  refine lv_iconst (v := 0) hx hb dX6_bitsBy_40 (by decide) ?_
  refine lv_goto (tgt := 50) hx hb dX6_bitsBy_41 (by decide) ?_
  exact fi hx hb hr hlocks hP hD hK hS (()) trivial rfl [0] [] rfl (by decide) rfl (Nat.le_of_ble_eq_true rfl) (Nat.le_of_ble_eq_true rfl) dX6_bitsBy_50
set_option maxHeartbeats 4000000 in
set_option maxRecDepth 100000 in
theorem cX6_bestScheme_285 (l : Launch) (D : va_G) (h0 : Nat) (h1 : Nat) (h2 : Nat) (h3 : Nat) (h4 : Nat) (v0 : Value) (v1 : Value) (v2 : Value) (v3 : Value) (v4 : Value) (v5 : Value) (v6 : Value) (v7 : Value) (v8 : Value) (v9 : Value) (v10 : Value) (v11 : Value) (v12 : Value) (v13 : Value) (v14 : Value) (v15 : Value) (v16 : Value) (v17 : Value) (v18 : Value) (v19 : Value) (v20 : Value) (f0 : Nat → Int64) (f1 : Nat → Int64) (f2 : Nat → Int32) (f3 : Nat → Int32) (a0 : ClassId) (a1 : ClassId) (a2 : ClassId) (a3 : ClassId) (ef2_0 : f2 0 = 0) (ef2_1 : f2 1 = 0) (ef3_0 : f3 0 = 0) (ef3_1 : f3 1 = 1)  : CT l yX6_bestScheme cX6_bestScheme 5 (some .int) { frames := 5, cells := 0, slots := 0, locals := 108 } [.ref h0] D [(h0, .inr (6, [v0, .ref h1, .ref h2, v1, v2, .ref h4, .ref h3, .int 2, .int 2, v3, v4, v5, v6, v7, v8, v9, v10, v11, v12, v13, v14, v15, v16, v17, v18, v19, v20])), (h1, .inl (a0, 609, .inr (.inl f0))), (h2, .inl (a1, 609, .inr (.inl f1))), (h3, .inl (a2, 48, .inl f2)), (h4, .inl (a3, 48, .inl f3))] [(a0, .long), (a1, .long), (a2, .int), (a3, .int)] XN [(h0, .inr (6, [v0, .ref h1, .ref h2, v1, v2, .ref h4, .ref h3, .int 2, .int 2, v3, v4, v5, v6, v7, v8, v9, v10, v11, v12, v13, v14, v15, v16, v17, v18, v19, v20])), (h1, .inl (a0, 609, .inr (.inl f0))), (h2, .inl (a1, 609, .inr (.inl f1))), (h3, .inl (a2, 48, .inl f2)), (h4, .inl (a3, 48, .inl f3))] (ei (fun _ : (Nat → Int64) × (Nat → Int64) => True) (fun u => 0) (fun u => [(h0, .inr (6, [.int 0, .ref h1, .ref h2, v1, v2, .ref h4, .ref h3, .int 2, .int 2, v3, v4, v5, v6, v7, v8, v9, v10, v11, v12, v13, v14, v15, v16, v17, v18, v19, v20])), (h1, .inl (a0, 609, .inr (.inl u.1))), (h2, .inl (a1, 609, .inr (.inl u.2))), (h3, .inl (a2, 48, .inl f2)), (h4, .inl (a3, 48, .inl f3))]) (fun u => [(a0, .long), (a1, .long), (a2, .int), (a3, .int)]) D) 0 0 := by
  refine CT.ofW (by decide +kernel) (Nat.le_of_ble_eq_true rfl) ?_
  intro p e s m below meth c A ls hcs hP hK hD hX hA hS hl
  obtain ⟨hx, hb, hr, hml, hown, hg, hlocks, hin⟩ := hcs
  have hown : s.vm.findClass RX6 = some m.cls := hown
  have hl : lv_has ls 5 [(0, .ref h0)] := hl
  refine lv_aload_n hx hb dX6_bestScheme_0 rfl (lv_at hl 0 rfl) ?_
  refine lv_iconst (v := 0) hx hb dX6_bestScheme_1 (by decide) ?_
  refine va_put (D := D) (ci := 6) (v := .int 0) (ty := .int) (C := RX6) (T := TX6) (N := 27) hx hb hg inX6 tyX6 tyX6_ok nmX6 hown hK hP hD hS 0 rfl rfl 0 (by decide) (hg _ k1219) (fun _ h9 => h9) rfl (by decide +kernel) rfl rfl (Nat.le_of_ble_eq_true rfl) dX6_bestScheme_2 (fun H locs hP hD hS => ?_)
  have hP : va_P D vwCl [(h0, .inr (6, [.int 0, .ref h1, .ref h2, v1, v2, .ref h4, .ref h3, .int 2, .int 2, v3, v4, v5, v6, v7, v8, v9, v10, v11, v12, v13, v14, v15, v16, v17, v18, v19, v20])), (h1, .inl (a0, 609, .inr (.inl f0))), (h2, .inl (a1, 609, .inr (.inl f1))), (h3, .inl (a2, 48, .inl f2)), (h4, .inl (a3, 48, .inl f3))] H := hP
  have hD : va_D A [(h0, .inr (6, [.int 0, .ref h1, .ref h2, v1, v2, .ref h4, .ref h3, .int 2, .int 2, v3, v4, v5, v6, v7, v8, v9, v10, v11, v12, v13, v14, v15, v16, v17, v18, v19, v20])), (h1, .inl (a0, 609, .inr (.inl f0))), (h2, .inl (a1, 609, .inr (.inl f1))), (h3, .inl (a2, 48, .inl f2)), (h4, .inl (a3, 48, .inl f3))] := hD
  refine lv_iconst (v := 0) hx hb dX6_bestScheme_5 (by decide) ?_
  refine lv_istore_n (lv' := [(1, .int 0), (0, .ref h0)]) hx hb dX6_bestScheme_6 rfl hl (by decide) rfl (fun ls hl => ?_)
  refine lv_aload_n hx hb dX6_bestScheme_7 rfl (lv_at hl 1 rfl) ?_
  refine lv_iconst (v := 0) hx hb dX6_bestScheme_8 (by decide) ?_
  refine lv_iconst (v := 0) hx hb dX6_bestScheme_9 (by decide) ?_
  refine cVi (n := 2) (As := [.int 0, .int 0]) (rest := []) (wr := []) (tr := []) hx hb hml hown hg okN (cX6_bitsOf_262 l D h0 h1 h2 h3 h4 (.int 0) v1 v2 v3 v4 v5 v6 v7 v8 v9 v10 v11 v12 v13 v14 v15 v16 v17 v18 v19 v20 f0 f1 f2 f3 a0 a1 a2 a3 ef2_0 ef2_1 ef3_0 ef3_1) (mwV k1674 k1676 k82 k92 k1677) ⟨rfl, by decide, by decide, by decide +kernel⟩ ⟨rfl, rfl, (Nat.le_of_ble_eq_true rfl), (Nat.le_of_ble_eq_true rfl)⟩ hP hD hK hS xn [0, 1, 2, 3, 4] [0, 1, 2, 3, 4] [] [0, 1, 2, 3] [] rfl (by decide) rfl rfl (by decide) (by decide) rfl rfl (va_free hD hS hA [0, 1, 2, 3, 4] rfl) (va_free hD hS hA [0, 1, 2, 3, 4] rfl) 0 rfl rfl rfl hl.1 rfl (Nat.le_of_ble_eq_true rfl) dX6_bestScheme_10 ⟨(Nat.le_of_ble_eq_true rfl), (Nat.le_of_ble_eq_true rfl)⟩ (fun u H locs hφ hP hD hK hS hk => ?_)
  obtain ⟨y0_1, y0_2⟩ := u
  have hP : va_P D vwCl [(h0, .inr (6, [.int 0, .ref h1, .ref h2, v1, v2, .ref h4, .ref h3, .int 2, .int 2, v3, v4, v5, v6, v7, v8, v9, v10, v11, v12, v13, v14, v15, v16, v17, v18, v19, v20])), (h1, .inl (a0, 609, .inr (.inl y0_1))), (h2, .inl (a1, 609, .inr (.inl y0_2))), (h3, .inl (a2, 48, .inl f2)), (h4, .inl (a3, 48, .inl f3))] H := hP
  have hD : va_D A [(h0, .inr (6, [.int 0, .ref h1, .ref h2, v1, v2, .ref h4, .ref h3, .int 2, .int 2, v3, v4, v5, v6, v7, v8, v9, v10, v11, v12, v13, v14, v15, v16, v17, v18, v19, v20])), (h1, .inl (a0, 609, .inr (.inl y0_1))), (h2, .inl (a1, 609, .inr (.inl y0_2))), (h3, .inl (a2, 48, .inl f2)), (h4, .inl (a3, 48, .inl f3))] := hD
  have hK : va_K D vwCl [(a0, .long), (a1, .long), (a2, .int), (a3, .int)] s := hK
  refine W.widen (k := 0) (n := 0) (Nat.le_of_ble_eq_true rfl) (Nat.le_of_ble_eq_true rfl) ?_
  refine lv_istore_n (lv' := [(2, .int 0), (1, .int 0), (0, .ref h0)]) hx hb dX6_bestScheme_13 rfl hl (by decide) rfl (fun ls hl => ?_)
  refine lv_iconst (v := 1) hx hb dX6_bestScheme_14 (by decide) ?_
  refine lv_istore_n (lv' := [(3, .int 1), (2, .int 0), (1, .int 0), (0, .ref h0)]) hx hb dX6_bestScheme_15 rfl hl (by decide) rfl (fun ls hl => ?_)
  refine lv_iload_n hx hb dX6_bestScheme_16 rfl (lv_at hl 0 rfl) ?_
  refine lv_bipush (v := 9) hx hb dX6_bestScheme_17 (by decide) ?_
  refine lv_icmp_ge (tgt := 51) hx hb dX6_bestScheme_19 (by decide) (fun c9 => absurd c9 (by decide)) (fun _ => ?_)
  refine lv_aload_n hx hb dX6_bestScheme_22 rfl (lv_at hl 3 rfl) ?_
  refine lv_iload_n hx hb dX6_bestScheme_23 rfl (lv_at hl 0 rfl) ?_
  refine lv_iconst (v := 3) hx hb dX6_bestScheme_24 (by decide) ?_
  refine lv_idiv hx hb dX6_bestScheme_25 (by decide) ?_
  refine ti (0) (by decide) ?_
  refine lv_iload_n hx hb dX6_bestScheme_26 rfl (lv_at hl 0 rfl) ?_
  refine lv_iconst (v := 3) hx hb dX6_bestScheme_27 (by decide) ?_
  refine lv_irem hx hb dX6_bestScheme_28 (by decide) ?_
  refine ti (1) (by decide) ?_
  refine cVi (n := 2) (As := [.int 0, .int 1]) (rest := []) (wr := []) (tr := []) hx hb hml hown hg okN (cX6_bitsOf_265 l D h0 h1 h2 h3 h4 (.int 0) v1 v2 v3 v4 v5 v6 v7 v8 v9 v10 v11 v12 v13 v14 v15 v16 v17 v18 v19 v20 y0_1 y0_2 f2 f3 a0 a1 a2 a3 ef2_0 ef2_1 ef3_0 ef3_1) (mwV k1674 k1676 k82 k92 k1677) ⟨rfl, by decide, by decide, by decide +kernel⟩ ⟨rfl, rfl, (Nat.le_of_ble_eq_true rfl), (Nat.le_of_ble_eq_true rfl)⟩ hP hD hK hS xn [0, 1, 2, 3, 4] [0, 1, 2, 3, 4] [] [0, 1, 2, 3] [] rfl (by decide) rfl rfl (by decide) (by decide) rfl rfl (va_free hD hS hA [0, 1, 2, 3, 4] rfl) (va_free hD hS hA [0, 1, 2, 3, 4] rfl) 0 rfl rfl rfl hl.1 rfl (Nat.le_of_ble_eq_true rfl) dX6_bestScheme_29 ⟨(Nat.le_of_ble_eq_true rfl), (Nat.le_of_ble_eq_true rfl)⟩ (fun u H locs hφ hP hD hK hS hk => ?_)
  obtain ⟨y0_3, y0_4⟩ := u
  have hP : va_P D vwCl [(h0, .inr (6, [.int 0, .ref h1, .ref h2, v1, v2, .ref h4, .ref h3, .int 2, .int 2, v3, v4, v5, v6, v7, v8, v9, v10, v11, v12, v13, v14, v15, v16, v17, v18, v19, v20])), (h1, .inl (a0, 609, .inr (.inl y0_3))), (h2, .inl (a1, 609, .inr (.inl y0_4))), (h3, .inl (a2, 48, .inl f2)), (h4, .inl (a3, 48, .inl f3))] H := hP
  have hD : va_D A [(h0, .inr (6, [.int 0, .ref h1, .ref h2, v1, v2, .ref h4, .ref h3, .int 2, .int 2, v3, v4, v5, v6, v7, v8, v9, v10, v11, v12, v13, v14, v15, v16, v17, v18, v19, v20])), (h1, .inl (a0, 609, .inr (.inl y0_3))), (h2, .inl (a1, 609, .inr (.inl y0_4))), (h3, .inl (a2, 48, .inl f2)), (h4, .inl (a3, 48, .inl f3))] := hD
  have hK : va_K D vwCl [(a0, .long), (a1, .long), (a2, .int), (a3, .int)] s := hK
  refine W.widen (k := 0) (n := 0) (Nat.le_of_ble_eq_true rfl) (Nat.le_of_ble_eq_true rfl) ?_
  refine lv_istore (lv' := [(4, .int 0), (3, .int 1), (2, .int 0), (1, .int 0), (0, .ref h0)]) hx hb dX6_bestScheme_32 hl (by decide) rfl (fun ls hl => ?_)
  refine lv_iload hx hb dX6_bestScheme_34 (lv_at hl 0 rfl) ?_
  refine lv_iload_n hx hb dX6_bestScheme_36 rfl (lv_at hl 2 rfl) ?_
  refine lv_icmp_ge (tgt := 45) hx hb dX6_bestScheme_37 (by decide) (fun _ => ?_) (fun c9 => absurd (by decide) c9)
  refine lv_iinc (v := 2) (lv' := [(3, .int 2), (4, .int 0), (2, .int 0), (1, .int 0), (0, .ref h0)]) hx hb dX6_bestScheme_45 hl (k := 1) rfl (by decide) (by decide) rfl (fun ls hl => ?_)
  refine lv_goto (tgt := 16) hx hb dX6_bestScheme_48 (by decide) ?_
  refine lv_iload_n hx hb dX6_bestScheme_16 rfl (lv_at hl 0 rfl) ?_
  refine lv_bipush (v := 9) hx hb dX6_bestScheme_17 (by decide) ?_
  refine lv_icmp_ge (tgt := 51) hx hb dX6_bestScheme_19 (by decide) (fun c9 => absurd c9 (by decide)) (fun _ => ?_)
  refine lv_aload_n hx hb dX6_bestScheme_22 rfl (lv_at hl 4 rfl) ?_
  refine lv_iload_n hx hb dX6_bestScheme_23 rfl (lv_at hl 0 rfl) ?_
  refine lv_iconst (v := 3) hx hb dX6_bestScheme_24 (by decide) ?_
  refine lv_idiv hx hb dX6_bestScheme_25 (by decide) ?_
  refine ti (0) (by decide) ?_
  refine lv_iload_n hx hb dX6_bestScheme_26 rfl (lv_at hl 0 rfl) ?_
  refine lv_iconst (v := 3) hx hb dX6_bestScheme_27 (by decide) ?_
  refine lv_irem hx hb dX6_bestScheme_28 (by decide) ?_
  refine ti (2) (by decide) ?_
  refine cVi (n := 2) (As := [.int 0, .int 2]) (rest := []) (wr := []) (tr := []) hx hb hml hown hg okN (cX6_bitsOf_267 l D h0 h1 h2 h3 h4 (.int 0) v1 v2 v3 v4 v5 v6 v7 v8 v9 v10 v11 v12 v13 v14 v15 v16 v17 v18 v19 v20 y0_3 y0_4 f2 f3 a0 a1 a2 a3 ef2_0 ef2_1 ef3_0 ef3_1) (mwV k1674 k1676 k82 k92 k1677) ⟨rfl, by decide, by decide, by decide +kernel⟩ ⟨rfl, rfl, (Nat.le_of_ble_eq_true rfl), (Nat.le_of_ble_eq_true rfl)⟩ hP hD hK hS xn [0, 1, 2, 3, 4] [0, 1, 2, 3, 4] [] [0, 1, 2, 3] [] rfl (by decide) rfl rfl (by decide) (by decide) rfl rfl (va_free hD hS hA [0, 1, 2, 3, 4] rfl) (va_free hD hS hA [0, 1, 2, 3, 4] rfl) 0 rfl rfl rfl hl.1 rfl (Nat.le_of_ble_eq_true rfl) dX6_bestScheme_29 ⟨(Nat.le_of_ble_eq_true rfl), (Nat.le_of_ble_eq_true rfl)⟩ (fun u H locs hφ hP hD hK hS hk => ?_)
  obtain ⟨y0_5, y0_6⟩ := u
  have hP : va_P D vwCl [(h0, .inr (6, [.int 0, .ref h1, .ref h2, v1, v2, .ref h4, .ref h3, .int 2, .int 2, v3, v4, v5, v6, v7, v8, v9, v10, v11, v12, v13, v14, v15, v16, v17, v18, v19, v20])), (h1, .inl (a0, 609, .inr (.inl y0_5))), (h2, .inl (a1, 609, .inr (.inl y0_6))), (h3, .inl (a2, 48, .inl f2)), (h4, .inl (a3, 48, .inl f3))] H := hP
  have hD : va_D A [(h0, .inr (6, [.int 0, .ref h1, .ref h2, v1, v2, .ref h4, .ref h3, .int 2, .int 2, v3, v4, v5, v6, v7, v8, v9, v10, v11, v12, v13, v14, v15, v16, v17, v18, v19, v20])), (h1, .inl (a0, 609, .inr (.inl y0_5))), (h2, .inl (a1, 609, .inr (.inl y0_6))), (h3, .inl (a2, 48, .inl f2)), (h4, .inl (a3, 48, .inl f3))] := hD
  have hK : va_K D vwCl [(a0, .long), (a1, .long), (a2, .int), (a3, .int)] s := hK
  refine W.widen (k := 0) (n := 0) (Nat.le_of_ble_eq_true rfl) (Nat.le_of_ble_eq_true rfl) ?_
  refine lv_istore (lv' := [(4, .int 0), (3, .int 2), (2, .int 0), (1, .int 0), (0, .ref h0)]) hx hb dX6_bestScheme_32 hl (by decide) rfl (fun ls hl => ?_)
  refine lv_iload hx hb dX6_bestScheme_34 (lv_at hl 0 rfl) ?_
  refine lv_iload_n hx hb dX6_bestScheme_36 rfl (lv_at hl 2 rfl) ?_
  refine lv_icmp_ge (tgt := 45) hx hb dX6_bestScheme_37 (by decide) (fun _ => ?_) (fun c9 => absurd (by decide) c9)
  refine lv_iinc (v := 3) (lv' := [(3, .int 3), (4, .int 0), (2, .int 0), (1, .int 0), (0, .ref h0)]) hx hb dX6_bestScheme_45 hl (k := 1) rfl (by decide) (by decide) rfl (fun ls hl => ?_)
  refine lv_goto (tgt := 16) hx hb dX6_bestScheme_48 (by decide) ?_
  refine lv_iload_n hx hb dX6_bestScheme_16 rfl (lv_at hl 0 rfl) ?_
  refine lv_bipush (v := 9) hx hb dX6_bestScheme_17 (by decide) ?_
  refine lv_icmp_ge (tgt := 51) hx hb dX6_bestScheme_19 (by decide) (fun c9 => absurd c9 (by decide)) (fun _ => ?_)
  refine lv_aload_n hx hb dX6_bestScheme_22 rfl (lv_at hl 4 rfl) ?_
  refine lv_iload_n hx hb dX6_bestScheme_23 rfl (lv_at hl 0 rfl) ?_
  refine lv_iconst (v := 3) hx hb dX6_bestScheme_24 (by decide) ?_
  refine lv_idiv hx hb dX6_bestScheme_25 (by decide) ?_
  refine ti (1) (by decide) ?_
  refine lv_iload_n hx hb dX6_bestScheme_26 rfl (lv_at hl 0 rfl) ?_
  refine lv_iconst (v := 3) hx hb dX6_bestScheme_27 (by decide) ?_
  refine lv_irem hx hb dX6_bestScheme_28 (by decide) ?_
  refine ti (0) (by decide) ?_
  refine cVi (n := 2) (As := [.int 1, .int 0]) (rest := []) (wr := []) (tr := []) hx hb hml hown hg okN (cX6_bitsOf_271 l D h0 h1 h2 h3 h4 (.int 0) v1 v2 v3 v4 v5 v6 v7 v8 v9 v10 v11 v12 v13 v14 v15 v16 v17 v18 v19 v20 y0_5 y0_6 f2 f3 a0 a1 a2 a3 ef2_0 ef2_1 ef3_0 ef3_1) (mwV k1674 k1676 k82 k92 k1677) ⟨rfl, by decide, by decide, by decide +kernel⟩ ⟨rfl, rfl, (Nat.le_of_ble_eq_true rfl), (Nat.le_of_ble_eq_true rfl)⟩ hP hD hK hS xn [0, 1, 2, 3, 4] [0, 1, 2, 3, 4] [] [0, 1, 2, 3] [] rfl (by decide) rfl rfl (by decide) (by decide) rfl rfl (va_free hD hS hA [0, 1, 2, 3, 4] rfl) (va_free hD hS hA [0, 1, 2, 3, 4] rfl) 0 rfl rfl rfl hl.1 rfl (Nat.le_of_ble_eq_true rfl) dX6_bestScheme_29 ⟨(Nat.le_of_ble_eq_true rfl), (Nat.le_of_ble_eq_true rfl)⟩ (fun u H locs hφ hP hD hK hS hk => ?_)
  obtain ⟨y0_7, y0_8⟩ := u
  have hP : va_P D vwCl [(h0, .inr (6, [.int 0, .ref h1, .ref h2, v1, v2, .ref h4, .ref h3, .int 2, .int 2, v3, v4, v5, v6, v7, v8, v9, v10, v11, v12, v13, v14, v15, v16, v17, v18, v19, v20])), (h1, .inl (a0, 609, .inr (.inl y0_7))), (h2, .inl (a1, 609, .inr (.inl y0_8))), (h3, .inl (a2, 48, .inl f2)), (h4, .inl (a3, 48, .inl f3))] H := hP
  have hD : va_D A [(h0, .inr (6, [.int 0, .ref h1, .ref h2, v1, v2, .ref h4, .ref h3, .int 2, .int 2, v3, v4, v5, v6, v7, v8, v9, v10, v11, v12, v13, v14, v15, v16, v17, v18, v19, v20])), (h1, .inl (a0, 609, .inr (.inl y0_7))), (h2, .inl (a1, 609, .inr (.inl y0_8))), (h3, .inl (a2, 48, .inl f2)), (h4, .inl (a3, 48, .inl f3))] := hD
  have hK : va_K D vwCl [(a0, .long), (a1, .long), (a2, .int), (a3, .int)] s := hK
  refine W.widen (k := 0) (n := 0) (Nat.le_of_ble_eq_true rfl) (Nat.le_of_ble_eq_true rfl) ?_
  refine lv_istore (lv' := [(4, .int 0), (3, .int 3), (2, .int 0), (1, .int 0), (0, .ref h0)]) hx hb dX6_bestScheme_32 hl (by decide) rfl (fun ls hl => ?_)
  refine lv_iload hx hb dX6_bestScheme_34 (lv_at hl 0 rfl) ?_
  refine lv_iload_n hx hb dX6_bestScheme_36 rfl (lv_at hl 2 rfl) ?_
  refine lv_icmp_ge (tgt := 45) hx hb dX6_bestScheme_37 (by decide) (fun _ => ?_) (fun c9 => absurd (by decide) c9)
  refine lv_iinc (v := 4) (lv' := [(3, .int 4), (4, .int 0), (2, .int 0), (1, .int 0), (0, .ref h0)]) hx hb dX6_bestScheme_45 hl (k := 1) rfl (by decide) (by decide) rfl (fun ls hl => ?_)
  refine lv_goto (tgt := 16) hx hb dX6_bestScheme_48 (by decide) ?_
  refine lv_iload_n hx hb dX6_bestScheme_16 rfl (lv_at hl 0 rfl) ?_
  refine lv_bipush (v := 9) hx hb dX6_bestScheme_17 (by decide) ?_
  refine lv_icmp_ge (tgt := 51) hx hb dX6_bestScheme_19 (by decide) (fun c9 => absurd c9 (by decide)) (fun _ => ?_)
  refine lv_aload_n hx hb dX6_bestScheme_22 rfl (lv_at hl 4 rfl) ?_
  refine lv_iload_n hx hb dX6_bestScheme_23 rfl (lv_at hl 0 rfl) ?_
  refine lv_iconst (v := 3) hx hb dX6_bestScheme_24 (by decide) ?_
  refine lv_idiv hx hb dX6_bestScheme_25 (by decide) ?_
  refine ti (1) (by decide) ?_
  refine lv_iload_n hx hb dX6_bestScheme_26 rfl (lv_at hl 0 rfl) ?_
  refine lv_iconst (v := 3) hx hb dX6_bestScheme_27 (by decide) ?_
  refine lv_irem hx hb dX6_bestScheme_28 (by decide) ?_
  refine ti (1) (by decide) ?_
  refine cVi (n := 2) (As := [.int 1, .int 1]) (rest := []) (wr := []) (tr := []) hx hb hml hown hg okN (cX6_bitsOf_273 l D h0 h1 h2 h3 h4 (.int 0) v1 v2 v3 v4 v5 v6 v7 v8 v9 v10 v11 v12 v13 v14 v15 v16 v17 v18 v19 v20 y0_7 y0_8 f2 f3 a0 a1 a2 a3 ef2_0 ef2_1 ef3_0 ef3_1) (mwV k1674 k1676 k82 k92 k1677) ⟨rfl, by decide, by decide, by decide +kernel⟩ ⟨rfl, rfl, (Nat.le_of_ble_eq_true rfl), (Nat.le_of_ble_eq_true rfl)⟩ hP hD hK hS xn [0, 1, 2, 3, 4] [0, 1, 2, 3, 4] [] [0, 1, 2, 3] [] rfl (by decide) rfl rfl (by decide) (by decide) rfl rfl (va_free hD hS hA [0, 1, 2, 3, 4] rfl) (va_free hD hS hA [0, 1, 2, 3, 4] rfl) 0 rfl rfl rfl hl.1 rfl (Nat.le_of_ble_eq_true rfl) dX6_bestScheme_29 ⟨(Nat.le_of_ble_eq_true rfl), (Nat.le_of_ble_eq_true rfl)⟩ (fun u H locs hφ hP hD hK hS hk => ?_)
  obtain ⟨y0_9, y0_10⟩ := u
  have hP : va_P D vwCl [(h0, .inr (6, [.int 0, .ref h1, .ref h2, v1, v2, .ref h4, .ref h3, .int 2, .int 2, v3, v4, v5, v6, v7, v8, v9, v10, v11, v12, v13, v14, v15, v16, v17, v18, v19, v20])), (h1, .inl (a0, 609, .inr (.inl y0_9))), (h2, .inl (a1, 609, .inr (.inl y0_10))), (h3, .inl (a2, 48, .inl f2)), (h4, .inl (a3, 48, .inl f3))] H := hP
  have hD : va_D A [(h0, .inr (6, [.int 0, .ref h1, .ref h2, v1, v2, .ref h4, .ref h3, .int 2, .int 2, v3, v4, v5, v6, v7, v8, v9, v10, v11, v12, v13, v14, v15, v16, v17, v18, v19, v20])), (h1, .inl (a0, 609, .inr (.inl y0_9))), (h2, .inl (a1, 609, .inr (.inl y0_10))), (h3, .inl (a2, 48, .inl f2)), (h4, .inl (a3, 48, .inl f3))] := hD
  have hK : va_K D vwCl [(a0, .long), (a1, .long), (a2, .int), (a3, .int)] s := hK
  refine W.widen (k := 0) (n := 0) (Nat.le_of_ble_eq_true rfl) (Nat.le_of_ble_eq_true rfl) ?_
  refine lv_istore (lv' := [(4, .int 0), (3, .int 4), (2, .int 0), (1, .int 0), (0, .ref h0)]) hx hb dX6_bestScheme_32 hl (by decide) rfl (fun ls hl => ?_)
  refine lv_iload hx hb dX6_bestScheme_34 (lv_at hl 0 rfl) ?_
  refine lv_iload_n hx hb dX6_bestScheme_36 rfl (lv_at hl 2 rfl) ?_
  refine lv_icmp_ge (tgt := 45) hx hb dX6_bestScheme_37 (by decide) (fun _ => ?_) (fun c9 => absurd (by decide) c9)
  refine lv_iinc (v := 5) (lv' := [(3, .int 5), (4, .int 0), (2, .int 0), (1, .int 0), (0, .ref h0)]) hx hb dX6_bestScheme_45 hl (k := 1) rfl (by decide) (by decide) rfl (fun ls hl => ?_)
  refine lv_goto (tgt := 16) hx hb dX6_bestScheme_48 (by decide) ?_
  refine lv_iload_n hx hb dX6_bestScheme_16 rfl (lv_at hl 0 rfl) ?_
  refine lv_bipush (v := 9) hx hb dX6_bestScheme_17 (by decide) ?_
  refine lv_icmp_ge (tgt := 51) hx hb dX6_bestScheme_19 (by decide) (fun c9 => absurd c9 (by decide)) (fun _ => ?_)
  refine lv_aload_n hx hb dX6_bestScheme_22 rfl (lv_at hl 4 rfl) ?_
  refine lv_iload_n hx hb dX6_bestScheme_23 rfl (lv_at hl 0 rfl) ?_
  refine lv_iconst (v := 3) hx hb dX6_bestScheme_24 (by decide) ?_
  refine lv_idiv hx hb dX6_bestScheme_25 (by decide) ?_
  refine ti (1) (by decide) ?_
  refine lv_iload_n hx hb dX6_bestScheme_26 rfl (lv_at hl 0 rfl) ?_
  refine lv_iconst (v := 3) hx hb dX6_bestScheme_27 (by decide) ?_
  refine lv_irem hx hb dX6_bestScheme_28 (by decide) ?_
  refine ti (2) (by decide) ?_
  refine cVi (n := 2) (As := [.int 1, .int 2]) (rest := []) (wr := []) (tr := []) hx hb hml hown hg okN (cX6_bitsOf_275 l D h0 h1 h2 h3 h4 (.int 0) v1 v2 v3 v4 v5 v6 v7 v8 v9 v10 v11 v12 v13 v14 v15 v16 v17 v18 v19 v20 y0_9 y0_10 f2 f3 a0 a1 a2 a3 ef2_0 ef2_1 ef3_0 ef3_1) (mwV k1674 k1676 k82 k92 k1677) ⟨rfl, by decide, by decide, by decide +kernel⟩ ⟨rfl, rfl, (Nat.le_of_ble_eq_true rfl), (Nat.le_of_ble_eq_true rfl)⟩ hP hD hK hS xn [0, 1, 2, 3, 4] [0, 1, 2, 3, 4] [] [0, 1, 2, 3] [] rfl (by decide) rfl rfl (by decide) (by decide) rfl rfl (va_free hD hS hA [0, 1, 2, 3, 4] rfl) (va_free hD hS hA [0, 1, 2, 3, 4] rfl) 0 rfl rfl rfl hl.1 rfl (Nat.le_of_ble_eq_true rfl) dX6_bestScheme_29 ⟨(Nat.le_of_ble_eq_true rfl), (Nat.le_of_ble_eq_true rfl)⟩ (fun u H locs hφ hP hD hK hS hk => ?_)
  obtain ⟨y0_11, y0_12⟩ := u
  have hP : va_P D vwCl [(h0, .inr (6, [.int 0, .ref h1, .ref h2, v1, v2, .ref h4, .ref h3, .int 2, .int 2, v3, v4, v5, v6, v7, v8, v9, v10, v11, v12, v13, v14, v15, v16, v17, v18, v19, v20])), (h1, .inl (a0, 609, .inr (.inl y0_11))), (h2, .inl (a1, 609, .inr (.inl y0_12))), (h3, .inl (a2, 48, .inl f2)), (h4, .inl (a3, 48, .inl f3))] H := hP
  have hD : va_D A [(h0, .inr (6, [.int 0, .ref h1, .ref h2, v1, v2, .ref h4, .ref h3, .int 2, .int 2, v3, v4, v5, v6, v7, v8, v9, v10, v11, v12, v13, v14, v15, v16, v17, v18, v19, v20])), (h1, .inl (a0, 609, .inr (.inl y0_11))), (h2, .inl (a1, 609, .inr (.inl y0_12))), (h3, .inl (a2, 48, .inl f2)), (h4, .inl (a3, 48, .inl f3))] := hD
  have hK : va_K D vwCl [(a0, .long), (a1, .long), (a2, .int), (a3, .int)] s := hK
  refine W.widen (k := 0) (n := 0) (Nat.le_of_ble_eq_true rfl) (Nat.le_of_ble_eq_true rfl) ?_
  refine lv_istore (lv' := [(4, .int 0), (3, .int 5), (2, .int 0), (1, .int 0), (0, .ref h0)]) hx hb dX6_bestScheme_32 hl (by decide) rfl (fun ls hl => ?_)
  refine lv_iload hx hb dX6_bestScheme_34 (lv_at hl 0 rfl) ?_
  refine lv_iload_n hx hb dX6_bestScheme_36 rfl (lv_at hl 2 rfl) ?_
  refine lv_icmp_ge (tgt := 45) hx hb dX6_bestScheme_37 (by decide) (fun _ => ?_) (fun c9 => absurd (by decide) c9)
  refine lv_iinc (v := 6) (lv' := [(3, .int 6), (4, .int 0), (2, .int 0), (1, .int 0), (0, .ref h0)]) hx hb dX6_bestScheme_45 hl (k := 1) rfl (by decide) (by decide) rfl (fun ls hl => ?_)
  refine lv_goto (tgt := 16) hx hb dX6_bestScheme_48 (by decide) ?_
  refine lv_iload_n hx hb dX6_bestScheme_16 rfl (lv_at hl 0 rfl) ?_
  refine lv_bipush (v := 9) hx hb dX6_bestScheme_17 (by decide) ?_
  refine lv_icmp_ge (tgt := 51) hx hb dX6_bestScheme_19 (by decide) (fun c9 => absurd c9 (by decide)) (fun _ => ?_)
  refine lv_aload_n hx hb dX6_bestScheme_22 rfl (lv_at hl 4 rfl) ?_
  refine lv_iload_n hx hb dX6_bestScheme_23 rfl (lv_at hl 0 rfl) ?_
  refine lv_iconst (v := 3) hx hb dX6_bestScheme_24 (by decide) ?_
  refine lv_idiv hx hb dX6_bestScheme_25 (by decide) ?_
  refine ti (2) (by decide) ?_
  refine lv_iload_n hx hb dX6_bestScheme_26 rfl (lv_at hl 0 rfl) ?_
  refine lv_iconst (v := 3) hx hb dX6_bestScheme_27 (by decide) ?_
  refine lv_irem hx hb dX6_bestScheme_28 (by decide) ?_
  refine ti (0) (by decide) ?_
  refine cVi (n := 2) (As := [.int 2, .int 0]) (rest := []) (wr := []) (tr := []) hx hb hml hown hg okN (cX6_bitsOf_279 l D h0 h1 h2 h3 h4 (.int 0) v1 v2 v3 v4 v5 v6 v7 v8 v9 v10 v11 v12 v13 v14 v15 v16 v17 v18 v19 v20 y0_11 y0_12 f2 f3 a0 a1 a2 a3 ef2_0 ef2_1 ef3_0 ef3_1) (mwV k1674 k1676 k82 k92 k1677) ⟨rfl, by decide, by decide, by decide +kernel⟩ ⟨rfl, rfl, (Nat.le_of_ble_eq_true rfl), (Nat.le_of_ble_eq_true rfl)⟩ hP hD hK hS xn [0, 1, 2, 3, 4] [0, 1, 2, 3, 4] [] [0, 1, 2, 3] [] rfl (by decide) rfl rfl (by decide) (by decide) rfl rfl (va_free hD hS hA [0, 1, 2, 3, 4] rfl) (va_free hD hS hA [0, 1, 2, 3, 4] rfl) 0 rfl rfl rfl hl.1 rfl (Nat.le_of_ble_eq_true rfl) dX6_bestScheme_29 ⟨(Nat.le_of_ble_eq_true rfl), (Nat.le_of_ble_eq_true rfl)⟩ (fun u H locs hφ hP hD hK hS hk => ?_)
  obtain ⟨y0_13, y0_14⟩ := u
  have hP : va_P D vwCl [(h0, .inr (6, [.int 0, .ref h1, .ref h2, v1, v2, .ref h4, .ref h3, .int 2, .int 2, v3, v4, v5, v6, v7, v8, v9, v10, v11, v12, v13, v14, v15, v16, v17, v18, v19, v20])), (h1, .inl (a0, 609, .inr (.inl y0_13))), (h2, .inl (a1, 609, .inr (.inl y0_14))), (h3, .inl (a2, 48, .inl f2)), (h4, .inl (a3, 48, .inl f3))] H := hP
  have hD : va_D A [(h0, .inr (6, [.int 0, .ref h1, .ref h2, v1, v2, .ref h4, .ref h3, .int 2, .int 2, v3, v4, v5, v6, v7, v8, v9, v10, v11, v12, v13, v14, v15, v16, v17, v18, v19, v20])), (h1, .inl (a0, 609, .inr (.inl y0_13))), (h2, .inl (a1, 609, .inr (.inl y0_14))), (h3, .inl (a2, 48, .inl f2)), (h4, .inl (a3, 48, .inl f3))] := hD
  have hK : va_K D vwCl [(a0, .long), (a1, .long), (a2, .int), (a3, .int)] s := hK
  refine W.widen (k := 0) (n := 0) (Nat.le_of_ble_eq_true rfl) (Nat.le_of_ble_eq_true rfl) ?_
  refine lv_istore (lv' := [(4, .int 0), (3, .int 6), (2, .int 0), (1, .int 0), (0, .ref h0)]) hx hb dX6_bestScheme_32 hl (by decide) rfl (fun ls hl => ?_)
  refine lv_iload hx hb dX6_bestScheme_34 (lv_at hl 0 rfl) ?_
  refine lv_iload_n hx hb dX6_bestScheme_36 rfl (lv_at hl 2 rfl) ?_
  refine lv_icmp_ge (tgt := 45) hx hb dX6_bestScheme_37 (by decide) (fun _ => ?_) (fun c9 => absurd (by decide) c9)
  refine lv_iinc (v := 7) (lv' := [(3, .int 7), (4, .int 0), (2, .int 0), (1, .int 0), (0, .ref h0)]) hx hb dX6_bestScheme_45 hl (k := 1) rfl (by decide) (by decide) rfl (fun ls hl => ?_)
  refine lv_goto (tgt := 16) hx hb dX6_bestScheme_48 (by decide) ?_
  refine lv_iload_n hx hb dX6_bestScheme_16 rfl (lv_at hl 0 rfl) ?_
  refine lv_bipush (v := 9) hx hb dX6_bestScheme_17 (by decide) ?_
  refine lv_icmp_ge (tgt := 51) hx hb dX6_bestScheme_19 (by decide) (fun c9 => absurd c9 (by decide)) (fun _ => ?_)
  refine lv_aload_n hx hb dX6_bestScheme_22 rfl (lv_at hl 4 rfl) ?_
  refine lv_iload_n hx hb dX6_bestScheme_23 rfl (lv_at hl 0 rfl) ?_
  refine lv_iconst (v := 3) hx hb dX6_bestScheme_24 (by decide) ?_
  refine lv_idiv hx hb dX6_bestScheme_25 (by decide) ?_
  refine ti (2) (by decide) ?_
  refine lv_iload_n hx hb dX6_bestScheme_26 rfl (lv_at hl 0 rfl) ?_
  refine lv_iconst (v := 3) hx hb dX6_bestScheme_27 (by decide) ?_
  refine lv_irem hx hb dX6_bestScheme_28 (by decide) ?_
  refine ti (1) (by decide) ?_
  refine cVi (n := 2) (As := [.int 2, .int 1]) (rest := []) (wr := []) (tr := []) hx hb hml hown hg okN (cX6_bitsOf_281 l D h0 h1 h2 h3 h4 (.int 0) v1 v2 v3 v4 v5 v6 v7 v8 v9 v10 v11 v12 v13 v14 v15 v16 v17 v18 v19 v20 y0_13 y0_14 f2 f3 a0 a1 a2 a3 ef2_0 ef2_1 ef3_0 ef3_1) (mwV k1674 k1676 k82 k92 k1677) ⟨rfl, by decide, by decide, by decide +kernel⟩ ⟨rfl, rfl, (Nat.le_of_ble_eq_true rfl), (Nat.le_of_ble_eq_true rfl)⟩ hP hD hK hS xn [0, 1, 2, 3, 4] [0, 1, 2, 3, 4] [] [0, 1, 2, 3] [] rfl (by decide) rfl rfl (by decide) (by decide) rfl rfl (va_free hD hS hA [0, 1, 2, 3, 4] rfl) (va_free hD hS hA [0, 1, 2, 3, 4] rfl) 0 rfl rfl rfl hl.1 rfl (Nat.le_of_ble_eq_true rfl) dX6_bestScheme_29 ⟨(Nat.le_of_ble_eq_true rfl), (Nat.le_of_ble_eq_true rfl)⟩ (fun u H locs hφ hP hD hK hS hk => ?_)
  obtain ⟨y0_15, y0_16⟩ := u
  have hP : va_P D vwCl [(h0, .inr (6, [.int 0, .ref h1, .ref h2, v1, v2, .ref h4, .ref h3, .int 2, .int 2, v3, v4, v5, v6, v7, v8, v9, v10, v11, v12, v13, v14, v15, v16, v17, v18, v19, v20])), (h1, .inl (a0, 609, .inr (.inl y0_15))), (h2, .inl (a1, 609, .inr (.inl y0_16))), (h3, .inl (a2, 48, .inl f2)), (h4, .inl (a3, 48, .inl f3))] H := hP
  have hD : va_D A [(h0, .inr (6, [.int 0, .ref h1, .ref h2, v1, v2, .ref h4, .ref h3, .int 2, .int 2, v3, v4, v5, v6, v7, v8, v9, v10, v11, v12, v13, v14, v15, v16, v17, v18, v19, v20])), (h1, .inl (a0, 609, .inr (.inl y0_15))), (h2, .inl (a1, 609, .inr (.inl y0_16))), (h3, .inl (a2, 48, .inl f2)), (h4, .inl (a3, 48, .inl f3))] := hD
  have hK : va_K D vwCl [(a0, .long), (a1, .long), (a2, .int), (a3, .int)] s := hK
  refine W.widen (k := 0) (n := 0) (Nat.le_of_ble_eq_true rfl) (Nat.le_of_ble_eq_true rfl) ?_
  refine lv_istore (lv' := [(4, .int 0), (3, .int 7), (2, .int 0), (1, .int 0), (0, .ref h0)]) hx hb dX6_bestScheme_32 hl (by decide) rfl (fun ls hl => ?_)
  refine lv_iload hx hb dX6_bestScheme_34 (lv_at hl 0 rfl) ?_
  refine lv_iload_n hx hb dX6_bestScheme_36 rfl (lv_at hl 2 rfl) ?_
  refine lv_icmp_ge (tgt := 45) hx hb dX6_bestScheme_37 (by decide) (fun _ => ?_) (fun c9 => absurd (by decide) c9)
  refine lv_iinc (v := 8) (lv' := [(3, .int 8), (4, .int 0), (2, .int 0), (1, .int 0), (0, .ref h0)]) hx hb dX6_bestScheme_45 hl (k := 1) rfl (by decide) (by decide) rfl (fun ls hl => ?_)
  refine lv_goto (tgt := 16) hx hb dX6_bestScheme_48 (by decide) ?_
  refine lv_iload_n hx hb dX6_bestScheme_16 rfl (lv_at hl 0 rfl) ?_
  refine lv_bipush (v := 9) hx hb dX6_bestScheme_17 (by decide) ?_
  refine lv_icmp_ge (tgt := 51) hx hb dX6_bestScheme_19 (by decide) (fun c9 => absurd c9 (by decide)) (fun _ => ?_)
  refine lv_aload_n hx hb dX6_bestScheme_22 rfl (lv_at hl 4 rfl) ?_
  refine lv_iload_n hx hb dX6_bestScheme_23 rfl (lv_at hl 0 rfl) ?_
  refine lv_iconst (v := 3) hx hb dX6_bestScheme_24 (by decide) ?_
  refine lv_idiv hx hb dX6_bestScheme_25 (by decide) ?_
  refine ti (2) (by decide) ?_
  refine lv_iload_n hx hb dX6_bestScheme_26 rfl (lv_at hl 0 rfl) ?_
  refine lv_iconst (v := 3) hx hb dX6_bestScheme_27 (by decide) ?_
  refine lv_irem hx hb dX6_bestScheme_28 (by decide) ?_
  refine ti (2) (by decide) ?_
  refine cVi (n := 2) (As := [.int 2, .int 2]) (rest := []) (wr := []) (tr := []) hx hb hml hown hg okN (cX6_bitsOf_283 l D h0 h1 h2 h3 h4 (.int 0) v1 v2 v3 v4 v5 v6 v7 v8 v9 v10 v11 v12 v13 v14 v15 v16 v17 v18 v19 v20 y0_15 y0_16 f2 f3 a0 a1 a2 a3 ef2_0 ef2_1 ef3_0 ef3_1) (mwV k1674 k1676 k82 k92 k1677) ⟨rfl, by decide, by decide, by decide +kernel⟩ ⟨rfl, rfl, (Nat.le_of_ble_eq_true rfl), (Nat.le_of_ble_eq_true rfl)⟩ hP hD hK hS xn [0, 1, 2, 3, 4] [0, 1, 2, 3, 4] [] [0, 1, 2, 3] [] rfl (by decide) rfl rfl (by decide) (by decide) rfl rfl (va_free hD hS hA [0, 1, 2, 3, 4] rfl) (va_free hD hS hA [0, 1, 2, 3, 4] rfl) 0 rfl rfl rfl hl.1 rfl (Nat.le_of_ble_eq_true rfl) dX6_bestScheme_29 ⟨(Nat.le_of_ble_eq_true rfl), (Nat.le_of_ble_eq_true rfl)⟩ (fun u H locs hφ hP hD hK hS hk => ?_)
  obtain ⟨y0_17, y0_18⟩ := u
  have hP : va_P D vwCl [(h0, .inr (6, [.int 0, .ref h1, .ref h2, v1, v2, .ref h4, .ref h3, .int 2, .int 2, v3, v4, v5, v6, v7, v8, v9, v10, v11, v12, v13, v14, v15, v16, v17, v18, v19, v20])), (h1, .inl (a0, 609, .inr (.inl y0_17))), (h2, .inl (a1, 609, .inr (.inl y0_18))), (h3, .inl (a2, 48, .inl f2)), (h4, .inl (a3, 48, .inl f3))] H := hP
  have hD : va_D A [(h0, .inr (6, [.int 0, .ref h1, .ref h2, v1, v2, .ref h4, .ref h3, .int 2, .int 2, v3, v4, v5, v6, v7, v8, v9, v10, v11, v12, v13, v14, v15, v16, v17, v18, v19, v20])), (h1, .inl (a0, 609, .inr (.inl y0_17))), (h2, .inl (a1, 609, .inr (.inl y0_18))), (h3, .inl (a2, 48, .inl f2)), (h4, .inl (a3, 48, .inl f3))] := hD
  have hK : va_K D vwCl [(a0, .long), (a1, .long), (a2, .int), (a3, .int)] s := hK
  refine W.widen (k := 0) (n := 0) (Nat.le_of_ble_eq_true rfl) (Nat.le_of_ble_eq_true rfl) ?_
  refine lv_istore (lv' := [(4, .int 0), (3, .int 8), (2, .int 0), (1, .int 0), (0, .ref h0)]) hx hb dX6_bestScheme_32 hl (by decide) rfl (fun ls hl => ?_)
  refine lv_iload hx hb dX6_bestScheme_34 (lv_at hl 0 rfl) ?_
  refine lv_iload_n hx hb dX6_bestScheme_36 rfl (lv_at hl 2 rfl) ?_
  refine lv_icmp_ge (tgt := 45) hx hb dX6_bestScheme_37 (by decide) (fun _ => ?_) (fun c9 => absurd (by decide) c9)
  refine lv_iinc (v := 9) (lv' := [(3, .int 9), (4, .int 0), (2, .int 0), (1, .int 0), (0, .ref h0)]) hx hb dX6_bestScheme_45 hl (k := 1) rfl (by decide) (by decide) rfl (fun ls hl => ?_)
  refine lv_goto (tgt := 16) hx hb dX6_bestScheme_48 (by decide) ?_
  refine lv_iload_n hx hb dX6_bestScheme_16 rfl (lv_at hl 0 rfl) ?_
  refine lv_bipush (v := 9) hx hb dX6_bestScheme_17 (by decide) ?_
  refine lv_icmp_ge (tgt := 51) hx hb dX6_bestScheme_19 (by decide) (fun _ => ?_) (fun c9 => absurd (by decide) c9)
  refine lv_iload_n hx hb dX6_bestScheme_51 rfl (lv_at hl 3 rfl) ?_
  exact fi hx hb hr hlocks hP hD hK hS ((y0_17, y0_18)) trivial rfl [0, 1, 2, 3, 4] [0, 1, 2, 3] rfl (by decide) rfl (Nat.le_of_ble_eq_true rfl) (Nat.le_of_ble_eq_true rfl) dX6_bestScheme_52
set_option maxHeartbeats 4000000 in
set_option maxRecDepth 100000 in
theorem cX6_reason_286 (l : Launch) (D : va_G) (h0 : Nat) (x0 : Int32) (v0 : Value) (v1 : Value) (v2 : Value) (v3 : Value) (v4 : Value) (v5 : Value) (v6 : Value) (v7 : Value) (v8 : Value) (v9 : Value) (v10 : Value) (v11 : Value) (v12 : Value) (v13 : Value) (v14 : Value) (v15 : Value) (v16 : Value) (v17 : Value) (v18 : Value) (v19 : Value) (v20 : Value) (v21 : Value) (v22 : Value) (v23 : Value) (v24 : Value) (v25 : Value) (v26 : Value)  (d0 : (lg_cmp x0.toInt64 0) < 0) : CT l yX6_reason cX6_reason 2 (some .int) { frames := 1, cells := 0, slots := 0, locals := 25 } [.ref h0, .int x0] D [(h0, .inr (6, [v0, v1, v2, v3, v4, v5, v6, v7, v8, v9, v10, v11, v12, v13, v14, v15, v16, v17, v18, v19, v20, v21, v22, v23, v24, v25, v26]))] [] XN [(h0, .inr (6, [v0, v1, v2, v3, v4, v5, v6, v7, v8, v9, v10, v11, v12, v13, v14, v15, v16, v17, v18, v19, v20, v21, v22, v23, v24, v25, v26]))] (ei (fun _ : Unit => True) (fun u => 0) (fun _ => [(h0, .inr (6, [.int 1, v1, v2, v3, v4, v5, v6, v7, v8, v9, v10, v11, v12, v13, v14, v15, v16, v17, v18, v19, v20, v21, v22, v23, v24, v25, v26]))]) (fun u => []) D) 0 0 := by
  refine CT.ofW (by decide +kernel) (Nat.le_of_ble_eq_true rfl) ?_
  intro p e s m below meth c A ls hcs hP hK hD hX hA hS hl
  obtain ⟨hx, hb, hr, hml, hown, hg, hlocks, hin⟩ := hcs
  have hown : s.vm.findClass RX6 = some m.cls := hown
  have hl : lv_has ls 2 [(0, .ref h0), (1, .int x0)] := hl
  refine lv_aload_n hx hb dX6_reason_0 rfl (lv_at hl 0 rfl) ?_
  refine lv_iload_n hx hb dX6_reason_1 rfl (lv_at hl 1 rfl) ?_
  refine lv_i2l (v := x0.toInt64) hx hb dX6_reason_2 rfl ?_
  refine lv_lconst (v := 0) hx hb dX6_reason_3 (by decide) ?_
  refine lv_lconst (v := 1) hx hb dX6_reason_4 (by decide) ?_
  refine cSi (n := 3) (As := [.long x0.toInt64, .long 0, .long 1]) (rest := [.ref h0]) (wr := [(h0, .inr (6, [v0, v1, v2, v3, v4, v5, v6, v7, v8, v9, v10, v11, v12, v13, v14, v15, v16, v17, v18, v19, v20, v21, v22, v23, v24, v25, v26]))]) (tr := []) hx hb hml hown hg okN (cX6_in_58 l D x0 d0) (mwS k1317 k1318 k92 k1319) ⟨rfl, by decide, by decide, by decide +kernel⟩ ⟨rfl, rfl, (Nat.le_of_ble_eq_true rfl), (Nat.le_of_ble_eq_true rfl)⟩ hP hD hK hS xn [] [] [0] [] [] rfl (by decide) rfl rfl (by decide) (by decide) rfl rfl (aNil hA hS) (aNil hA hS) rfl hl.1 rfl (Nat.le_of_ble_eq_true rfl) dX6_reason_5 ⟨(Nat.le_of_ble_eq_true rfl), (Nat.le_of_ble_eq_true rfl)⟩ (fun u H locs hφ hP hD hK hS hk => ?_)
  have hP : va_P D vwCl [(h0, .inr (6, [v0, v1, v2, v3, v4, v5, v6, v7, v8, v9, v10, v11, v12, v13, v14, v15, v16, v17, v18, v19, v20, v21, v22, v23, v24, v25, v26]))] H := hP
  have hD : va_D A [(h0, .inr (6, [v0, v1, v2, v3, v4, v5, v6, v7, v8, v9, v10, v11, v12, v13, v14, v15, v16, v17, v18, v19, v20, v21, v22, v23, v24, v25, v26]))] := hD
  have hK : va_K D vwCl [] s := hK
  refine W.widen (k := 0) (n := 0) (Nat.le_of_ble_eq_true rfl) (Nat.le_of_ble_eq_true rfl) ?_
  refine lv_if_eq (tgt := 15) hx hb dX6_reason_8 (by decide) (fun _ => ?_) (fun c9 => absurd (by decide) c9)
  refine lv_iconst (v := 1) hx hb dX6_reason_15 (by decide) ?_
  refine va_put (D := D) (ci := 6) (v := .int 1) (ty := .int) (C := RX6) (T := TX6) (N := 27) hx hb hg inX6 tyX6 tyX6_ok nmX6 hown hK hP hD hS 0 rfl rfl 0 (by decide) (hg _ k1219) (fun _ h9 => h9) rfl (by decide +kernel) rfl rfl (Nat.le_of_ble_eq_true rfl) dX6_reason_16 (fun H locs hP hD hS => ?_)
  have hP : va_P D vwCl [(h0, .inr (6, [.int 1, v1, v2, v3, v4, v5, v6, v7, v8, v9, v10, v11, v12, v13, v14, v15, v16, v17, v18, v19, v20, v21, v22, v23, v24, v25, v26]))] H := hP
  have hD : va_D A [(h0, .inr (6, [.int 1, v1, v2, v3, v4, v5, v6, v7, v8, v9, v10, v11, v12, v13, v14, v15, v16, v17, v18, v19, v20, v21, v22, v23, v24, v25, v26]))] := hD
  refine lv_aload_n hx hb dX6_reason_19 rfl (lv_at hl 0 rfl) ?_
  refine va_get (D := D) (ci := 6) (v := .int 1) (C := RX6) (T := TX6) (N := 27) hx hb hg inX6 hown hK hP 0 rfl rfl 0 (by decide) (hg _ k1219) (fun _ h9 => h9) rfl dX6_reason_20 ?_
  refine lv_if_le (tgt := 30) hx hb dX6_reason_23 (by decide) (fun c9 => absurd c9 (by decide)) (fun _ => ?_)
  refine lv_iconst (v := 0) hx hb dX6_reason_26 (by decide) ?_
  refine lv_goto (tgt := 45) hx hb dX6_reason_27 (by decide) ?_
  exact fi hx hb hr hlocks hP hD hK hS (()) trivial rfl [0] [] rfl (by decide) rfl (Nat.le_of_ble_eq_true rfl) (Nat.le_of_ble_eq_true rfl) dX6_reason_45
set_option maxHeartbeats 4000000 in
set_option maxRecDepth 100000 in
theorem cX6_reason_287 (l : Launch) (D : va_G) (h0 : Nat) (v0 : Value) (v1 : Value) (v2 : Value) (v3 : Value) (v4 : Value) (v5 : Value) (v6 : Value) (v7 : Value) (v8 : Value) (v9 : Value) (v10 : Value) (v11 : Value) (v12 : Value) (v13 : Value) (v14 : Value) (v15 : Value) (v16 : Value) (v17 : Value) (v18 : Value) (v19 : Value) (v20 : Value) (v21 : Value) (v22 : Value) (v23 : Value) (v24 : Value) (v25 : Value)   : CT l yX6_reason cX6_reason 2 (some .int) { frames := 1, cells := 0, slots := 0, locals := 25 } [.ref h0, .int 0] D [(h0, .inr (6, [v0, v1, v2, v3, v4, v5, v6, v7, v8, .int 0, v9, v10, v11, v12, v13, v14, v15, v16, v17, v18, v19, v20, v21, v22, v23, v24, v25]))] [] XN [(h0, .inr (6, [v0, v1, v2, v3, v4, v5, v6, v7, v8, .int 0, v9, v10, v11, v12, v13, v14, v15, v16, v17, v18, v19, v20, v21, v22, v23, v24, v25]))] (ei (fun _ : Unit => True) (fun u => 0) (fun _ => [(h0, .inr (6, [.int 0, v1, v2, v3, v4, v5, v6, v7, v8, .int 0, v9, v10, v11, v12, v13, v14, v15, v16, v17, v18, v19, v20, v21, v22, v23, v24, v25]))]) (fun u => []) D) 0 0 := by
  refine CT.ofW (by decide +kernel) (Nat.le_of_ble_eq_true rfl) ?_
  intro p e s m below meth c A ls hcs hP hK hD hX hA hS hl
  obtain ⟨hx, hb, hr, hml, hown, hg, hlocks, hin⟩ := hcs
  have hown : s.vm.findClass RX6 = some m.cls := hown
  have hl : lv_has ls 2 [(0, .ref h0), (1, .int 0)] := hl
  refine lv_aload_n hx hb dX6_reason_0 rfl (lv_at hl 0 rfl) ?_
  refine lv_iload_n hx hb dX6_reason_1 rfl (lv_at hl 1 rfl) ?_
  refine lv_i2l (v := 0) hx hb dX6_reason_2 (by decide) ?_
  refine lv_lconst (v := 0) hx hb dX6_reason_3 (by decide) ?_
  refine lv_lconst (v := 1) hx hb dX6_reason_4 (by decide) ?_
  refine cSi (n := 3) (As := [.long 0, .long 0, .long 1]) (rest := [.ref h0]) (wr := [(h0, .inr (6, [v0, v1, v2, v3, v4, v5, v6, v7, v8, .int 0, v9, v10, v11, v12, v13, v14, v15, v16, v17, v18, v19, v20, v21, v22, v23, v24, v25]))]) (tr := []) hx hb hml hown hg okN (cX6_in_64 l D) (mwS k1317 k1318 k92 k1319) ⟨rfl, by decide, by decide, by decide +kernel⟩ ⟨rfl, rfl, (Nat.le_of_ble_eq_true rfl), (Nat.le_of_ble_eq_true rfl)⟩ hP hD hK hS xn [] [] [0] [] [] rfl (by decide) rfl rfl (by decide) (by decide) rfl rfl (aNil hA hS) (aNil hA hS) rfl hl.1 rfl (Nat.le_of_ble_eq_true rfl) dX6_reason_5 ⟨(Nat.le_of_ble_eq_true rfl), (Nat.le_of_ble_eq_true rfl)⟩ (fun u H locs hφ hP hD hK hS hk => ?_)
  have hP : va_P D vwCl [(h0, .inr (6, [v0, v1, v2, v3, v4, v5, v6, v7, v8, .int 0, v9, v10, v11, v12, v13, v14, v15, v16, v17, v18, v19, v20, v21, v22, v23, v24, v25]))] H := hP
  have hD : va_D A [(h0, .inr (6, [v0, v1, v2, v3, v4, v5, v6, v7, v8, .int 0, v9, v10, v11, v12, v13, v14, v15, v16, v17, v18, v19, v20, v21, v22, v23, v24, v25]))] := hD
  have hK : va_K D vwCl [] s := hK
  refine W.widen (k := 0) (n := 0) (Nat.le_of_ble_eq_true rfl) (Nat.le_of_ble_eq_true rfl) ?_
  refine lv_if_eq (tgt := 15) hx hb dX6_reason_8 (by decide) (fun c9 => absurd c9 (by decide)) (fun _ => ?_)
  refine lv_iconst (v := 0) hx hb dX6_reason_11 (by decide) ?_
  refine lv_goto (tgt := 16) hx hb dX6_reason_12 (by decide) ?_
  refine va_put (D := D) (ci := 6) (v := .int 0) (ty := .int) (C := RX6) (T := TX6) (N := 27) hx hb hg inX6 tyX6 tyX6_ok nmX6 hown hK hP hD hS 0 rfl rfl 0 (by decide) (hg _ k1219) (fun _ h9 => h9) rfl (by decide +kernel) rfl rfl (Nat.le_of_ble_eq_true rfl) dX6_reason_16 (fun H locs hP hD hS => ?_)
  have hP : va_P D vwCl [(h0, .inr (6, [.int 0, v1, v2, v3, v4, v5, v6, v7, v8, .int 0, v9, v10, v11, v12, v13, v14, v15, v16, v17, v18, v19, v20, v21, v22, v23, v24, v25]))] H := hP
  have hD : va_D A [(h0, .inr (6, [.int 0, v1, v2, v3, v4, v5, v6, v7, v8, .int 0, v9, v10, v11, v12, v13, v14, v15, v16, v17, v18, v19, v20, v21, v22, v23, v24, v25]))] := hD
  refine lv_aload_n hx hb dX6_reason_19 rfl (lv_at hl 0 rfl) ?_
  refine va_get (D := D) (ci := 6) (v := .int 0) (C := RX6) (T := TX6) (N := 27) hx hb hg inX6 hown hK hP 0 rfl rfl 0 (by decide) (hg _ k1219) (fun _ h9 => h9) rfl dX6_reason_20 ?_
  refine lv_if_le (tgt := 30) hx hb dX6_reason_23 (by decide) (fun _ => ?_) (fun c9 => absurd (by decide) c9)
  refine lv_iload_n hx hb dX6_reason_30 rfl (lv_at hl 1 rfl) ?_
  refine lv_if_ne (tgt := 41) hx hb dX6_reason_31 (by decide) (fun c9 => absurd (by decide) c9) (fun _ => ?_)
  refine lv_aload_n hx hb dX6_reason_34 rfl (lv_at hl 0 rfl) ?_
  refine va_get (D := D) (ci := 6) (v := .int 0) (C := RX6) (T := TX6) (N := 27) hx hb hg inX6 hown hK hP 0 rfl rfl 9 (by decide) (hg _ k1228) (fun _ h9 => h9) rfl dX6_reason_35 ?_
  refine lv_goto (tgt := 45) hx hb dX6_reason_38 (by decide) ?_
  exact fi hx hb hr hlocks hP hD hK hS (()) trivial rfl [0] [] rfl (by decide) rfl (Nat.le_of_ble_eq_true rfl) (Nat.le_of_ble_eq_true rfl) dX6_reason_45
set_option maxHeartbeats 4000000 in
set_option maxRecDepth 100000 in
theorem cX6_reason_288 (l : Launch) (D : va_G) (h0 : Nat) (v0 : Value) (v1 : Value) (v2 : Value) (v3 : Value) (v4 : Value) (v5 : Value) (v6 : Value) (v7 : Value) (v8 : Value) (v9 : Value) (v10 : Value) (v11 : Value) (v12 : Value) (v13 : Value) (v14 : Value) (v15 : Value) (v16 : Value) (v17 : Value) (v18 : Value) (v19 : Value) (v20 : Value) (v21 : Value) (v22 : Value) (v23 : Value) (v24 : Value) (v25 : Value)   : CT l yX6_reason cX6_reason 2 (some .int) { frames := 1, cells := 0, slots := 0, locals := 25 } [.ref h0, .int 1] D [(h0, .inr (6, [v0, v1, v2, v3, v4, v5, v6, v7, v8, v9, .int 0, v10, v11, v12, v13, v14, v15, v16, v17, v18, v19, v20, v21, v22, v23, v24, v25]))] [] XN [(h0, .inr (6, [v0, v1, v2, v3, v4, v5, v6, v7, v8, v9, .int 0, v10, v11, v12, v13, v14, v15, v16, v17, v18, v19, v20, v21, v22, v23, v24, v25]))] (ei (fun _ : Unit => True) (fun u => 0) (fun _ => [(h0, .inr (6, [.int 0, v1, v2, v3, v4, v5, v6, v7, v8, v9, .int 0, v10, v11, v12, v13, v14, v15, v16, v17, v18, v19, v20, v21, v22, v23, v24, v25]))]) (fun u => []) D) 0 0 := by
  refine CT.ofW (by decide +kernel) (Nat.le_of_ble_eq_true rfl) ?_
  intro p e s m below meth c A ls hcs hP hK hD hX hA hS hl
  obtain ⟨hx, hb, hr, hml, hown, hg, hlocks, hin⟩ := hcs
  have hown : s.vm.findClass RX6 = some m.cls := hown
  have hl : lv_has ls 2 [(0, .ref h0), (1, .int 1)] := hl
  refine lv_aload_n hx hb dX6_reason_0 rfl (lv_at hl 0 rfl) ?_
  refine lv_iload_n hx hb dX6_reason_1 rfl (lv_at hl 1 rfl) ?_
  refine lv_i2l (v := 1) hx hb dX6_reason_2 (by decide) ?_
  refine lv_lconst (v := 0) hx hb dX6_reason_3 (by decide) ?_
  refine lv_lconst (v := 1) hx hb dX6_reason_4 (by decide) ?_
  refine cSi (n := 3) (As := [.long 1, .long 0, .long 1]) (rest := [.ref h0]) (wr := [(h0, .inr (6, [v0, v1, v2, v3, v4, v5, v6, v7, v8, v9, .int 0, v10, v11, v12, v13, v14, v15, v16, v17, v18, v19, v20, v21, v22, v23, v24, v25]))]) (tr := []) hx hb hml hown hg okN (cX6_in_82 l D) (mwS k1317 k1318 k92 k1319) ⟨rfl, by decide, by decide, by decide +kernel⟩ ⟨rfl, rfl, (Nat.le_of_ble_eq_true rfl), (Nat.le_of_ble_eq_true rfl)⟩ hP hD hK hS xn [] [] [0] [] [] rfl (by decide) rfl rfl (by decide) (by decide) rfl rfl (aNil hA hS) (aNil hA hS) rfl hl.1 rfl (Nat.le_of_ble_eq_true rfl) dX6_reason_5 ⟨(Nat.le_of_ble_eq_true rfl), (Nat.le_of_ble_eq_true rfl)⟩ (fun u H locs hφ hP hD hK hS hk => ?_)
  have hP : va_P D vwCl [(h0, .inr (6, [v0, v1, v2, v3, v4, v5, v6, v7, v8, v9, .int 0, v10, v11, v12, v13, v14, v15, v16, v17, v18, v19, v20, v21, v22, v23, v24, v25]))] H := hP
  have hD : va_D A [(h0, .inr (6, [v0, v1, v2, v3, v4, v5, v6, v7, v8, v9, .int 0, v10, v11, v12, v13, v14, v15, v16, v17, v18, v19, v20, v21, v22, v23, v24, v25]))] := hD
  have hK : va_K D vwCl [] s := hK
  refine W.widen (k := 0) (n := 0) (Nat.le_of_ble_eq_true rfl) (Nat.le_of_ble_eq_true rfl) ?_
  refine lv_if_eq (tgt := 15) hx hb dX6_reason_8 (by decide) (fun c9 => absurd c9 (by decide)) (fun _ => ?_)
  refine lv_iconst (v := 0) hx hb dX6_reason_11 (by decide) ?_
  refine lv_goto (tgt := 16) hx hb dX6_reason_12 (by decide) ?_
  refine va_put (D := D) (ci := 6) (v := .int 0) (ty := .int) (C := RX6) (T := TX6) (N := 27) hx hb hg inX6 tyX6 tyX6_ok nmX6 hown hK hP hD hS 0 rfl rfl 0 (by decide) (hg _ k1219) (fun _ h9 => h9) rfl (by decide +kernel) rfl rfl (Nat.le_of_ble_eq_true rfl) dX6_reason_16 (fun H locs hP hD hS => ?_)
  have hP : va_P D vwCl [(h0, .inr (6, [.int 0, v1, v2, v3, v4, v5, v6, v7, v8, v9, .int 0, v10, v11, v12, v13, v14, v15, v16, v17, v18, v19, v20, v21, v22, v23, v24, v25]))] H := hP
  have hD : va_D A [(h0, .inr (6, [.int 0, v1, v2, v3, v4, v5, v6, v7, v8, v9, .int 0, v10, v11, v12, v13, v14, v15, v16, v17, v18, v19, v20, v21, v22, v23, v24, v25]))] := hD
  refine lv_aload_n hx hb dX6_reason_19 rfl (lv_at hl 0 rfl) ?_
  refine va_get (D := D) (ci := 6) (v := .int 0) (C := RX6) (T := TX6) (N := 27) hx hb hg inX6 hown hK hP 0 rfl rfl 0 (by decide) (hg _ k1219) (fun _ h9 => h9) rfl dX6_reason_20 ?_
  refine lv_if_le (tgt := 30) hx hb dX6_reason_23 (by decide) (fun _ => ?_) (fun c9 => absurd (by decide) c9)
  refine lv_iload_n hx hb dX6_reason_30 rfl (lv_at hl 1 rfl) ?_
  refine lv_if_ne (tgt := 41) hx hb dX6_reason_31 (by decide) (fun _ => ?_) (fun c9 => absurd c9 (by decide))
  refine lv_aload_n hx hb dX6_reason_41 rfl (lv_at hl 0 rfl) ?_
  refine va_get (D := D) (ci := 6) (v := .int 0) (C := RX6) (T := TX6) (N := 27) hx hb hg inX6 hown hK hP 0 rfl rfl 10 (by decide) (hg _ k1229) (fun _ h9 => h9) rfl dX6_reason_42 ?_
  exact fi hx hb hr hlocks hP hD hK hS (()) trivial rfl [0] [] rfl (by decide) rfl (Nat.le_of_ble_eq_true rfl) (Nat.le_of_ble_eq_true rfl) dX6_reason_45
set_option maxHeartbeats 4000000 in
set_option maxRecDepth 100000 in
theorem cX6_reason_289 (l : Launch) (D : va_G) (h0 : Nat) (x0 : Int32) (v0 : Value) (v1 : Value) (v2 : Value) (v3 : Value) (v4 : Value) (v5 : Value) (v6 : Value) (v7 : Value) (v8 : Value) (v9 : Value) (v10 : Value) (v11 : Value) (v12 : Value) (v13 : Value) (v14 : Value) (v15 : Value) (v16 : Value) (v17 : Value) (v18 : Value) (v19 : Value) (v20 : Value) (v21 : Value) (v22 : Value) (v23 : Value) (v24 : Value) (v25 : Value) (v26 : Value)  (d0 : ¬ ((lg_cmp x0.toInt64 0) < 0)) (d1 : 0 < (lg_cmp x0.toInt64 1)) : CT l yX6_reason cX6_reason 2 (some .int) { frames := 1, cells := 0, slots := 0, locals := 25 } [.ref h0, .int x0] D [(h0, .inr (6, [v0, v1, v2, v3, v4, v5, v6, v7, v8, v9, v10, v11, v12, v13, v14, v15, v16, v17, v18, v19, v20, v21, v22, v23, v24, v25, v26]))] [] XN [(h0, .inr (6, [v0, v1, v2, v3, v4, v5, v6, v7, v8, v9, v10, v11, v12, v13, v14, v15, v16, v17, v18, v19, v20, v21, v22, v23, v24, v25, v26]))] (ei (fun _ : Unit => True) (fun u => 0) (fun _ => [(h0, .inr (6, [.int 1, v1, v2, v3, v4, v5, v6, v7, v8, v9, v10, v11, v12, v13, v14, v15, v16, v17, v18, v19, v20, v21, v22, v23, v24, v25, v26]))]) (fun u => []) D) 0 0 := by
  refine CT.ofW (by decide +kernel) (Nat.le_of_ble_eq_true rfl) ?_
  intro p e s m below meth c A ls hcs hP hK hD hX hA hS hl
  obtain ⟨hx, hb, hr, hml, hown, hg, hlocks, hin⟩ := hcs
  have hown : s.vm.findClass RX6 = some m.cls := hown
  have hl : lv_has ls 2 [(0, .ref h0), (1, .int x0)] := hl
  refine lv_aload_n hx hb dX6_reason_0 rfl (lv_at hl 0 rfl) ?_
  refine lv_iload_n hx hb dX6_reason_1 rfl (lv_at hl 1 rfl) ?_
  refine lv_i2l (v := x0.toInt64) hx hb dX6_reason_2 rfl ?_
  refine lv_lconst (v := 0) hx hb dX6_reason_3 (by decide) ?_
  refine lv_lconst (v := 1) hx hb dX6_reason_4 (by decide) ?_
  refine cSi (n := 3) (As := [.long x0.toInt64, .long 0, .long 1]) (rest := [.ref h0]) (wr := [(h0, .inr (6, [v0, v1, v2, v3, v4, v5, v6, v7, v8, v9, v10, v11, v12, v13, v14, v15, v16, v17, v18, v19, v20, v21, v22, v23, v24, v25, v26]))]) (tr := []) hx hb hml hown hg okN (cX6_in_61 l D x0 d0 d1) (mwS k1317 k1318 k92 k1319) ⟨rfl, by decide, by decide, by decide +kernel⟩ ⟨rfl, rfl, (Nat.le_of_ble_eq_true rfl), (Nat.le_of_ble_eq_true rfl)⟩ hP hD hK hS xn [] [] [0] [] [] rfl (by decide) rfl rfl (by decide) (by decide) rfl rfl (aNil hA hS) (aNil hA hS) rfl hl.1 rfl (Nat.le_of_ble_eq_true rfl) dX6_reason_5 ⟨(Nat.le_of_ble_eq_true rfl), (Nat.le_of_ble_eq_true rfl)⟩ (fun u H locs hφ hP hD hK hS hk => ?_)
  have hP : va_P D vwCl [(h0, .inr (6, [v0, v1, v2, v3, v4, v5, v6, v7, v8, v9, v10, v11, v12, v13, v14, v15, v16, v17, v18, v19, v20, v21, v22, v23, v24, v25, v26]))] H := hP
  have hD : va_D A [(h0, .inr (6, [v0, v1, v2, v3, v4, v5, v6, v7, v8, v9, v10, v11, v12, v13, v14, v15, v16, v17, v18, v19, v20, v21, v22, v23, v24, v25, v26]))] := hD
  have hK : va_K D vwCl [] s := hK
  refine W.widen (k := 0) (n := 0) (Nat.le_of_ble_eq_true rfl) (Nat.le_of_ble_eq_true rfl) ?_
  refine lv_if_eq (tgt := 15) hx hb dX6_reason_8 (by decide) (fun _ => ?_) (fun c9 => absurd (by decide) c9)
  refine lv_iconst (v := 1) hx hb dX6_reason_15 (by decide) ?_
  refine va_put (D := D) (ci := 6) (v := .int 1) (ty := .int) (C := RX6) (T := TX6) (N := 27) hx hb hg inX6 tyX6 tyX6_ok nmX6 hown hK hP hD hS 0 rfl rfl 0 (by decide) (hg _ k1219) (fun _ h9 => h9) rfl (by decide +kernel) rfl rfl (Nat.le_of_ble_eq_true rfl) dX6_reason_16 (fun H locs hP hD hS => ?_)
  have hP : va_P D vwCl [(h0, .inr (6, [.int 1, v1, v2, v3, v4, v5, v6, v7, v8, v9, v10, v11, v12, v13, v14, v15, v16, v17, v18, v19, v20, v21, v22, v23, v24, v25, v26]))] H := hP
  have hD : va_D A [(h0, .inr (6, [.int 1, v1, v2, v3, v4, v5, v6, v7, v8, v9, v10, v11, v12, v13, v14, v15, v16, v17, v18, v19, v20, v21, v22, v23, v24, v25, v26]))] := hD
  refine lv_aload_n hx hb dX6_reason_19 rfl (lv_at hl 0 rfl) ?_
  refine va_get (D := D) (ci := 6) (v := .int 1) (C := RX6) (T := TX6) (N := 27) hx hb hg inX6 hown hK hP 0 rfl rfl 0 (by decide) (hg _ k1219) (fun _ h9 => h9) rfl dX6_reason_20 ?_
  refine lv_if_le (tgt := 30) hx hb dX6_reason_23 (by decide) (fun c9 => absurd c9 (by decide)) (fun _ => ?_)
  refine lv_iconst (v := 0) hx hb dX6_reason_26 (by decide) ?_
  refine lv_goto (tgt := 45) hx hb dX6_reason_27 (by decide) ?_
  exact fi hx hb hr hlocks hP hD hK hS (()) trivial rfl [0] [] rfl (by decide) rfl (Nat.le_of_ble_eq_true rfl) (Nat.le_of_ble_eq_true rfl) dX6_reason_45
set_option maxHeartbeats 4000000 in
set_option maxRecDepth 100000 in
theorem cX6_reasonSample_290 (l : Launch) (D : va_G) (h0 : Nat) (v0 : Value) (v1 : Value) (v2 : Value) (v3 : Value) (v4 : Value) (v5 : Value) (v6 : Value) (v7 : Value) (v8 : Value) (v9 : Value) (v10 : Value) (v11 : Value) (v12 : Value) (v13 : Value) (v14 : Value) (v15 : Value) (v16 : Value) (v17 : Value) (v18 : Value) (v19 : Value) (v20 : Value) (v21 : Value) (v22 : Value) (v23 : Value) (v24 : Value) (v25 : Value)   : CT l yX6_reasonSample cX6_reasonSample 1 (some .int) { frames := 0, cells := 0, slots := 0, locals := 0 } [.ref h0] D [(h0, .inr (6, [v0, v1, v2, v3, v4, v5, v6, v7, v8, v9, v10, .int (-1), v11, v12, v13, v14, v15, v16, v17, v18, v19, v20, v21, v22, v23, v24, v25]))] [] XN [(h0, .inr (6, [v0, v1, v2, v3, v4, v5, v6, v7, v8, v9, v10, .int (-1), v11, v12, v13, v14, v15, v16, v17, v18, v19, v20, v21, v22, v23, v24, v25]))] (ei (fun _ : Unit => True) (fun u => (-1)) (fun _ => [(h0, .inr (6, [.int 0, v1, v2, v3, v4, v5, v6, v7, v8, v9, v10, .int (-1), v11, v12, v13, v14, v15, v16, v17, v18, v19, v20, v21, v22, v23, v24, v25]))]) (fun u => []) D) 0 0 := by
  refine CT.ofW (by decide +kernel) (Nat.le_of_ble_eq_true rfl) ?_
  intro p e s m below meth c A ls hcs hP hK hD hX hA hS hl
  obtain ⟨hx, hb, hr, hml, hown, hg, hlocks, hin⟩ := hcs
  have hown : s.vm.findClass RX6 = some m.cls := hown
  have hl : lv_has ls 1 [(0, .ref h0)] := hl
  refine lv_aload_n hx hb dX6_reasonSample_0 rfl (lv_at hl 0 rfl) ?_
  refine lv_iconst (v := 0) hx hb dX6_reasonSample_1 (by decide) ?_
  refine va_put (D := D) (ci := 6) (v := .int 0) (ty := .int) (C := RX6) (T := TX6) (N := 27) hx hb hg inX6 tyX6 tyX6_ok nmX6 hown hK hP hD hS 0 rfl rfl 0 (by decide) (hg _ k1219) (fun _ h9 => h9) rfl (by decide +kernel) rfl rfl (Nat.le_of_ble_eq_true rfl) dX6_reasonSample_2 (fun H locs hP hD hS => ?_)
  have hP : va_P D vwCl [(h0, .inr (6, [.int 0, v1, v2, v3, v4, v5, v6, v7, v8, v9, v10, .int (-1), v11, v12, v13, v14, v15, v16, v17, v18, v19, v20, v21, v22, v23, v24, v25]))] H := hP
  have hD : va_D A [(h0, .inr (6, [.int 0, v1, v2, v3, v4, v5, v6, v7, v8, v9, v10, .int (-1), v11, v12, v13, v14, v15, v16, v17, v18, v19, v20, v21, v22, v23, v24, v25]))] := hD
  refine lv_aload_n hx hb dX6_reasonSample_5 rfl (lv_at hl 0 rfl) ?_
  refine va_get (D := D) (ci := 6) (v := .int (-1)) (C := RX6) (T := TX6) (N := 27) hx hb hg inX6 hown hK hP 0 rfl rfl 11 (by decide) (hg _ k1230) (fun _ h9 => h9) rfl dX6_reasonSample_6 ?_
  exact fi hx hb hr hlocks hP hD hK hS (()) trivial rfl [0] [] rfl (by decide) rfl (Nat.le_of_ble_eq_true rfl) (Nat.le_of_ble_eq_true rfl) dX6_reasonSample_9
set_option maxHeartbeats 4000000 in
set_option maxRecDepth 100000 in
theorem cX6_save_291 (l : Launch) (D : va_G) (h0 : Nat) (x0 : Int32) (v0 : Value) (v1 : Value) (v2 : Value) (v3 : Value) (v4 : Value) (v5 : Value) (v6 : Value) (v7 : Value) (v8 : Value) (v9 : Value) (v10 : Value) (v11 : Value) (v12 : Value) (v13 : Value) (v14 : Value) (v15 : Value) (v16 : Value) (v17 : Value) (v18 : Value) (v19 : Value) (v20 : Value) (v21 : Value) (v22 : Value) (v23 : Value) (v24 : Value) (v25 : Value) (v26 : Value)  (d0 : (lg_cmp x0.toInt64 0) < 0) : CT l yX6_save cX6_save 3 none { frames := 1, cells := 0, slots := 0, locals := 25 } [.ref h0, .int x0] D [(h0, .inr (6, [v0, v1, v2, v3, v4, v5, v6, v7, v8, v9, v10, v11, v12, v13, v14, v15, v16, v17, v18, v19, v20, v21, v22, v23, v24, v25, v26]))] [] XN [(h0, .inr (6, [v0, v1, v2, v3, v4, v5, v6, v7, v8, v9, v10, v11, v12, v13, v14, v15, v16, v17, v18, v19, v20, v21, v22, v23, v24, v25, v26]))] (ev (fun _ : Unit => True) (fun _ => [(h0, .inr (6, [.int 1, v1, v2, v3, v4, v5, v6, v7, v8, v9, v10, v11, v12, v13, v14, v15, v16, v17, v18, v19, v20, v21, v22, v23, v24, v25, v26]))]) (fun u => []) D) 0 0 := by
  refine CT.ofW (by decide +kernel) (Nat.le_of_ble_eq_true rfl) ?_
  intro p e s m below meth c A ls hcs hP hK hD hX hA hS hl
  obtain ⟨hx, hb, hr, hml, hown, hg, hlocks, hin⟩ := hcs
  have hown : s.vm.findClass RX6 = some m.cls := hown
  have hl : lv_has ls 3 [(0, .ref h0), (1, .int x0)] := hl
  refine lv_aload_n hx hb dX6_save_0 rfl (lv_at hl 0 rfl) ?_
  refine lv_iload_n hx hb dX6_save_1 rfl (lv_at hl 1 rfl) ?_
  refine lv_i2l (v := x0.toInt64) hx hb dX6_save_2 rfl ?_
  refine lv_lconst (v := 0) hx hb dX6_save_3 (by decide) ?_
  refine lv_lconst (v := 1) hx hb dX6_save_4 (by decide) ?_
  refine cSi (n := 3) (As := [.long x0.toInt64, .long 0, .long 1]) (rest := [.ref h0]) (wr := [(h0, .inr (6, [v0, v1, v2, v3, v4, v5, v6, v7, v8, v9, v10, v11, v12, v13, v14, v15, v16, v17, v18, v19, v20, v21, v22, v23, v24, v25, v26]))]) (tr := []) hx hb hml hown hg okN (cX6_in_58 l D x0 d0) (mwS k1317 k1318 k92 k1319) ⟨rfl, by decide, by decide, by decide +kernel⟩ ⟨rfl, rfl, (Nat.le_of_ble_eq_true rfl), (Nat.le_of_ble_eq_true rfl)⟩ hP hD hK hS xn [] [] [0] [] [] rfl (by decide) rfl rfl (by decide) (by decide) rfl rfl (aNil hA hS) (aNil hA hS) rfl hl.1 rfl (Nat.le_of_ble_eq_true rfl) dX6_save_5 ⟨(Nat.le_of_ble_eq_true rfl), (Nat.le_of_ble_eq_true rfl)⟩ (fun u H locs hφ hP hD hK hS hk => ?_)
  have hP : va_P D vwCl [(h0, .inr (6, [v0, v1, v2, v3, v4, v5, v6, v7, v8, v9, v10, v11, v12, v13, v14, v15, v16, v17, v18, v19, v20, v21, v22, v23, v24, v25, v26]))] H := hP
  have hD : va_D A [(h0, .inr (6, [v0, v1, v2, v3, v4, v5, v6, v7, v8, v9, v10, v11, v12, v13, v14, v15, v16, v17, v18, v19, v20, v21, v22, v23, v24, v25, v26]))] := hD
  have hK : va_K D vwCl [] s := hK
  refine W.widen (k := 0) (n := 0) (Nat.le_of_ble_eq_true rfl) (Nat.le_of_ble_eq_true rfl) ?_
  refine lv_if_eq (tgt := 15) hx hb dX6_save_8 (by decide) (fun _ => ?_) (fun c9 => absurd (by decide) c9)
  refine lv_iconst (v := 1) hx hb dX6_save_15 (by decide) ?_
  refine va_put (D := D) (ci := 6) (v := .int 1) (ty := .int) (C := RX6) (T := TX6) (N := 27) hx hb hg inX6 tyX6 tyX6_ok nmX6 hown hK hP hD hS 0 rfl rfl 0 (by decide) (hg _ k1219) (fun _ h9 => h9) rfl (by decide +kernel) rfl rfl (Nat.le_of_ble_eq_true rfl) dX6_save_16 (fun H locs hP hD hS => ?_)
  have hP : va_P D vwCl [(h0, .inr (6, [.int 1, v1, v2, v3, v4, v5, v6, v7, v8, v9, v10, v11, v12, v13, v14, v15, v16, v17, v18, v19, v20, v21, v22, v23, v24, v25, v26]))] H := hP
  have hD : va_D A [(h0, .inr (6, [.int 1, v1, v2, v3, v4, v5, v6, v7, v8, v9, v10, v11, v12, v13, v14, v15, v16, v17, v18, v19, v20, v21, v22, v23, v24, v25, v26]))] := hD
  refine lv_iconst (v := 0) hx hb dX6_save_19 (by decide) ?_
  refine lv_istore_n (lv' := [(2, .int 0), (0, .ref h0), (1, .int x0)]) hx hb dX6_save_20 rfl hl (by decide) rfl (fun ls hl => ?_)
  refine lv_aload_n hx hb dX6_save_21 rfl (lv_at hl 1 rfl) ?_
  refine va_get (D := D) (ci := 6) (v := .int 1) (C := RX6) (T := TX6) (N := 27) hx hb hg inX6 hown hK hP 0 rfl rfl 0 (by decide) (hg _ k1219) (fun _ h9 => h9) rfl dX6_save_22 ?_
  refine lv_if_ne (tgt := 59) hx hb dX6_save_25 (by decide) (fun _ => ?_) (fun c9 => absurd c9 (by decide))
  refine lv_aload_n hx hb dX6_save_59 rfl (lv_at hl 1 rfl) ?_
  refine va_get (D := D) (ci := 6) (v := .int 1) (C := RX6) (T := TX6) (N := 27) hx hb hg inX6 hown hK hP 0 rfl rfl 0 (by decide) (hg _ k1219) (fun _ h9 => h9) rfl dX6_save_60 ?_
  refine lv_if_ne (tgt := 73) hx hb dX6_save_63 (by decide) (fun _ => ?_) (fun c9 => absurd c9 (by decide))
  exact fv hx hb hr hlocks hP hD hK hS (()) trivial [0] [] rfl (by decide) rfl (Nat.le_of_ble_eq_true rfl) (Nat.le_of_ble_eq_true rfl) dX6_save_73
set_option maxHeartbeats 4000000 in
set_option maxRecDepth 100000 in
theorem cX6_save_292 (l : Launch) (D : va_G) (h0 : Nat) (h1 : Nat) (h2 : Nat) (h3 : Nat) (v0 : Value) (v1 : Value) (v2 : Value) (v3 : Value) (v4 : Value) (v5 : Value) (v6 : Value) (v7 : Value) (v8 : Value) (v9 : Value) (v10 : Value) (v11 : Value) (v12 : Value) (v13 : Value) (v14 : Value) (v15 : Value) (v16 : Value) (v17 : Value) (v18 : Value) (v19 : Value) (v20 : Value) (v21 : Value) (v22 : Value) (v23 : Value) (f0 : Nat → Int64) (f1 : Nat → Int64) (f2 : Nat → Int32) (a0 : ClassId) (a1 : ClassId) (a2 : ClassId)   : CT l yX6_save cX6_save 3 none { frames := 1, cells := 0, slots := 0, locals := 25 } [.ref h0, .int 0] D [(h0, .inr (6, [v0, .ref h1, v1, .ref h2, .ref h3, v2, v3, v4, v5, v6, v7, v8, v9, v10, v11, v12, v13, v14, v15, v16, v17, v18, v19, v20, v21, v22, v23])), (h1, .inl (a0, 609, .inr (.inl f0))), (h2, .inl (a1, 1218, .inr (.inl f1))), (h3, .inl (a2, 2, .inl f2))] [(a0, .long), (a1, .long), (a2, .boolean)] XN [(h0, .inr (6, [v0, .ref h1, v1, .ref h2, .ref h3, v2, v3, v4, v5, v6, v7, v8, v9, v10, v11, v12, v13, v14, v15, v16, v17, v18, v19, v20, v21, v22, v23])), (h1, .inl (a0, 609, .inr (.inl f0))), (h2, .inl (a1, 1218, .inr (.inl f1))), (h3, .inl (a2, 2, .inl f2))] (ev (fun _ : (Nat → Int64) => True) (fun u => [(h0, .inr (6, [.int 0, .ref h1, v1, .ref h2, .ref h3, v2, v3, v4, v5, v6, v7, v8, v9, v10, v11, v12, v13, v14, v15, v16, v17, v18, v19, v20, v21, v22, v23])), (h1, .inl (a0, 609, .inr (.inl f0))), (h2, .inl (a1, 1218, .inr (.inl u))), (h3, .inl (a2, 2, .inl (upd f2 0 1)))]) (fun u => [(a0, .long), (a1, .long), (a2, .boolean)]) D) 0 0 := by
  refine CT.ofW (by decide +kernel) (Nat.le_of_ble_eq_true rfl) ?_
  intro p e s m below meth c A ls hcs hP hK hD hX hA hS hl
  obtain ⟨hx, hb, hr, hml, hown, hg, hlocks, hin⟩ := hcs
  have hown : s.vm.findClass RX6 = some m.cls := hown
  have hl : lv_has ls 3 [(0, .ref h0), (1, .int 0)] := hl
  refine lv_aload_n hx hb dX6_save_0 rfl (lv_at hl 0 rfl) ?_
  refine lv_iload_n hx hb dX6_save_1 rfl (lv_at hl 1 rfl) ?_
  refine lv_i2l (v := 0) hx hb dX6_save_2 (by decide) ?_
  refine lv_lconst (v := 0) hx hb dX6_save_3 (by decide) ?_
  refine lv_lconst (v := 1) hx hb dX6_save_4 (by decide) ?_
  refine cSi (n := 3) (As := [.long 0, .long 0, .long 1]) (rest := [.ref h0]) (wr := [(h0, .inr (6, [v0, .ref h1, v1, .ref h2, .ref h3, v2, v3, v4, v5, v6, v7, v8, v9, v10, v11, v12, v13, v14, v15, v16, v17, v18, v19, v20, v21, v22, v23])), (h1, .inl (a0, 609, .inr (.inl f0))), (h2, .inl (a1, 1218, .inr (.inl f1))), (h3, .inl (a2, 2, .inl f2))]) (tr := [(a0, .long), (a1, .long), (a2, .boolean)]) hx hb hml hown hg okN (cX6_in_64 l D) (mwS k1317 k1318 k92 k1319) ⟨rfl, by decide, by decide, by decide +kernel⟩ ⟨rfl, rfl, (Nat.le_of_ble_eq_true rfl), (Nat.le_of_ble_eq_true rfl)⟩ hP hD hK hS xn [] [] [0, 1, 2, 3] [] [0, 1, 2] rfl (by decide) rfl rfl (by decide) (by decide) rfl rfl (aNil hA hS) (aNil hA hS) rfl hl.1 rfl (Nat.le_of_ble_eq_true rfl) dX6_save_5 ⟨(Nat.le_of_ble_eq_true rfl), (Nat.le_of_ble_eq_true rfl)⟩ (fun u H locs hφ hP hD hK hS hk => ?_)
  have hP : va_P D vwCl [(h0, .inr (6, [v0, .ref h1, v1, .ref h2, .ref h3, v2, v3, v4, v5, v6, v7, v8, v9, v10, v11, v12, v13, v14, v15, v16, v17, v18, v19, v20, v21, v22, v23])), (h1, .inl (a0, 609, .inr (.inl f0))), (h2, .inl (a1, 1218, .inr (.inl f1))), (h3, .inl (a2, 2, .inl f2))] H := hP
  have hD : va_D A [(h0, .inr (6, [v0, .ref h1, v1, .ref h2, .ref h3, v2, v3, v4, v5, v6, v7, v8, v9, v10, v11, v12, v13, v14, v15, v16, v17, v18, v19, v20, v21, v22, v23])), (h1, .inl (a0, 609, .inr (.inl f0))), (h2, .inl (a1, 1218, .inr (.inl f1))), (h3, .inl (a2, 2, .inl f2))] := hD
  have hK : va_K D vwCl [(a0, .long), (a1, .long), (a2, .boolean)] s := hK
  refine W.widen (k := 0) (n := 0) (Nat.le_of_ble_eq_true rfl) (Nat.le_of_ble_eq_true rfl) ?_
  refine lv_if_eq (tgt := 15) hx hb dX6_save_8 (by decide) (fun c9 => absurd c9 (by decide)) (fun _ => ?_)
  refine lv_iconst (v := 0) hx hb dX6_save_11 (by decide) ?_
  refine lv_goto (tgt := 16) hx hb dX6_save_12 (by decide) ?_
  refine va_put (D := D) (ci := 6) (v := .int 0) (ty := .int) (C := RX6) (T := TX6) (N := 27) hx hb hg inX6 tyX6 tyX6_ok nmX6 hown hK hP hD hS 0 rfl rfl 0 (by decide) (hg _ k1219) (fun _ h9 => h9) rfl (by decide +kernel) rfl rfl (Nat.le_of_ble_eq_true rfl) dX6_save_16 (fun H locs hP hD hS => ?_)
  have hP : va_P D vwCl [(h0, .inr (6, [.int 0, .ref h1, v1, .ref h2, .ref h3, v2, v3, v4, v5, v6, v7, v8, v9, v10, v11, v12, v13, v14, v15, v16, v17, v18, v19, v20, v21, v22, v23])), (h1, .inl (a0, 609, .inr (.inl f0))), (h2, .inl (a1, 1218, .inr (.inl f1))), (h3, .inl (a2, 2, .inl f2))] H := hP
  have hD : va_D A [(h0, .inr (6, [.int 0, .ref h1, v1, .ref h2, .ref h3, v2, v3, v4, v5, v6, v7, v8, v9, v10, v11, v12, v13, v14, v15, v16, v17, v18, v19, v20, v21, v22, v23])), (h1, .inl (a0, 609, .inr (.inl f0))), (h2, .inl (a1, 1218, .inr (.inl f1))), (h3, .inl (a2, 2, .inl f2))] := hD
  refine lv_iconst (v := 0) hx hb dX6_save_19 (by decide) ?_
  refine lv_istore_n (lv' := [(2, .int 0), (0, .ref h0), (1, .int 0)]) hx hb dX6_save_20 rfl hl (by decide) rfl (fun ls hl => ?_)
  refine lv_aload_n hx hb dX6_save_21 rfl (lv_at hl 1 rfl) ?_
  refine va_get (D := D) (ci := 6) (v := .int 0) (C := RX6) (T := TX6) (N := 27) hx hb hg inX6 hown hK hP 0 rfl rfl 0 (by decide) (hg _ k1219) (fun _ h9 => h9) rfl dX6_save_22 ?_
  refine lv_if_ne (tgt := 59) hx hb dX6_save_25 (by decide) (fun c9 => absurd (by decide) c9) (fun _ => ?_)
  have lq1 : ∀ (Q9 : State → Prop), (∀ (gg1 : Nat → Int64) (H : Heap) (locs : List Loc) (ls : Array Slot), True → va_P D vwCl [(h0, .inr (6, [.int 0, .ref h1, v1, .ref h2, .ref h3, v2, v3, v4, v5, v6, v7, v8, v9, v10, v11, v12, v13, v14, v15, v16, v17, v18, v19, v20, v21, v22, v23])), (h1, .inl (a0, 609, .inr (.inl f0))), (h2, .inl (a1, 1218, .inr (.inl gg1))), (h3, .inl (a2, 2, .inl f2))] H → va_D A [(h0, .inr (6, [.int 0, .ref h1, v1, .ref h2, .ref h3, v2, v3, v4, v5, v6, v7, v8, v9, v10, v11, v12, v13, v14, v15, v16, v17, v18, v19, v20, v21, v22, v23])), (h1, .inl (a0, 609, .inr (.inl f0))), (h2, .inl (a1, 1218, .inr (.inl gg1))), (h3, .inl (a2, 2, .inl f2))] → va_K D vwCl [(a0, .long), (a1, .long), (a2, .boolean)] s → va_S A s.heap H locs → lv_has ls 3 [(2, .int 609), (0, .ref h0), (1, .int 0)] → W p l e { frames := 1, cells := 0, slots := 0, locals := 25 } s m [.ref h0, .int 0].toArray below meth c H locs (0) (0) Q9 (F0 m 59 ls [])) → ∀ (n9 i : Nat), 0 ≤ i → i + n9 = 609 → ∀ (gg1 : Nat → Int64) (H : Heap) (locs : List Loc) (ls : Array Slot), True → va_P D vwCl [(h0, .inr (6, [.int 0, .ref h1, v1, .ref h2, .ref h3, v2, v3, v4, v5, v6, v7, v8, v9, v10, v11, v12, v13, v14, v15, v16, v17, v18, v19, v20, v21, v22, v23])), (h1, .inl (a0, 609, .inr (.inl f0))), (h2, .inl (a1, 1218, .inr (.inl gg1))), (h3, .inl (a2, 2, .inl f2))] H → va_D A [(h0, .inr (6, [.int 0, .ref h1, v1, .ref h2, .ref h3, v2, v3, v4, v5, v6, v7, v8, v9, v10, v11, v12, v13, v14, v15, v16, v17, v18, v19, v20, v21, v22, v23])), (h1, .inl (a0, 609, .inr (.inl f0))), (h2, .inl (a1, 1218, .inr (.inl gg1))), (h3, .inl (a2, 2, .inl f2))] → va_K D vwCl [(a0, .long), (a1, .long), (a2, .boolean)] s → va_S A s.heap H locs → lv_has ls 3 [(2, .int (nI i)), (0, .ref h0), (1, .int 0)] → W p l e { frames := 1, cells := 0, slots := 0, locals := 25 } s m [.ref h0, .int 0].toArray below meth c H locs (0 + 0 * (i - 0)) (0 + 0 * (i - 0)) Q9 (F0 m 28 ls []) := by
    intro Q9 kx n9
    induction n9 with
    | zero =>
      intro i hi0 hin9 gg1 H locs ls _ hP hD hK hS hl
      have hi9 : i = 609 := by omega
      subst hi9
      refine lv_iload_n hx hb dX6_save_28 rfl (lv_at hl 0 rfl) ?_
      refine lv_sipush (v := 609) hx hb dX6_save_29 (by decide) ?_
      refine lv_icmp_ge (tgt := 59) hx hb dX6_save_32 (by decide) (fun _ => ?_) (fun c9 => absurd (by decide) c9)
      exact kx gg1 H locs ls trivial hP hD hK hS hl
    | succ n9 ih =>
      intro i hi0 hin9 gg1 H locs ls _ hP hD hK hS hl
      have hi : i < 609 := by omega
      refine lv_iload_n hx hb dX6_save_28 rfl (lv_at hl 0 rfl) ?_
      refine lv_sipush (v := 609) hx hb dX6_save_29 (by decide) ?_
      refine lv_icmp_ge (tgt := 59) hx hb dX6_save_32 (by decide) (fun c9 => absurd c9 (nI_ge hi (by decide))) (fun _ => ?_)
      refine lv_aload_n hx hb dX6_save_35 rfl (lv_at hl 1 rfl) ?_
      refine va_get (D := D) (ci := 6) (v := .ref h2) (C := RX6) (T := TX6) (N := 27) hx hb hg inX6 hown hK hP 0 rfl rfl 3 (by decide) (hg _ k1222) (fun _ h9 => h9) rfl dX6_save_36 ?_
      refine lv_sipush (v := 609) hx hb dX6_save_39 (by decide) ?_
      refine lv_iload_n hx hb dX6_save_42 rfl (lv_at hl 2 rfl) ?_
      refine lv_imul hx hb dX6_save_43 ?_
      refine ti (0) (by decide) ?_
      refine lv_iload_n hx hb dX6_save_44 rfl (lv_at hl 0 rfl) ?_
      refine lv_iadd hx hb dX6_save_45 ?_
      refine ti (nI (0 + i)) (nI_add 0 i) ?_
      refine lv_aload_n hx hb dX6_save_46 rfl (lv_at hl 1 rfl) ?_
      refine va_get (D := D) (ci := 6) (v := .ref h1) (C := RX6) (T := TX6) (N := 27) hx hb hg inX6 hown hK hP 0 rfl rfl 1 (by decide) (hg _ k1220) (fun _ h9 => h9) rfl dX6_save_47 ?_
      refine lv_iload_n hx hb dX6_save_50 rfl (lv_at hl 0 rfl) ?_
      refine aldL hx hb hK hP 1 0 rfl rfl i (nI_clamp (by omega)) (vp_in_nI (by omega) (by decide)) (v := f0 i) rfl dX6_save_51 ?_
      refine astL hx hb hK hP hD hS 2 1 rfl rfl (0 + i) (nI_clamp (by omega)) (vp_in_nI (by omega) (by decide)) dX6_save_52 (fun H locs hP hD hS => ?_)
      have hP : va_P D vwCl [(h0, .inr (6, [.int 0, .ref h1, v1, .ref h2, .ref h3, v2, v3, v4, v5, v6, v7, v8, v9, v10, v11, v12, v13, v14, v15, v16, v17, v18, v19, v20, v21, v22, v23])), (h1, .inl (a0, 609, .inr (.inl f0))), (h2, .inl (a1, 1218, .inr (.inl (vp_updL gg1 (0 + i) (f0 i))))), (h3, .inl (a2, 2, .inl f2))] H := hP
      have hD : va_D A [(h0, .inr (6, [.int 0, .ref h1, v1, .ref h2, .ref h3, v2, v3, v4, v5, v6, v7, v8, v9, v10, v11, v12, v13, v14, v15, v16, v17, v18, v19, v20, v21, v22, v23])), (h1, .inl (a0, 609, .inr (.inl f0))), (h2, .inl (a1, 1218, .inr (.inl (vp_updL gg1 (0 + i) (f0 i))))), (h3, .inl (a2, 2, .inl f2))] := hD
      refine lv_iinc (v := (nI (i + 1))) (lv' := [(2, .int (nI (i + 1))), (0, .ref h0), (1, .int 0)]) hx hb dX6_save_53 hl (k := 0) rfl (nI_1 i) (by decide) rfl (fun ls hl => ?_)
      refine lv_goto (tgt := 21) hx hb dX6_save_56 (by decide) ?_
      refine lv_aload_n hx hb dX6_save_21 rfl (lv_at hl 1 rfl) ?_
      refine va_get (D := D) (ci := 6) (v := .int 0) (C := RX6) (T := TX6) (N := 27) hx hb hg inX6 hown hK hP 0 rfl rfl 0 (by decide) (hg _ k1219) (fun _ h9 => h9) rfl dX6_save_22 ?_
      refine lv_if_ne (tgt := 59) hx hb dX6_save_25 (by decide) (fun c9 => absurd (by decide) c9) (fun _ => ?_)
      exact ih (i + 1) (by omega) (by omega) (vp_updL gg1 (0 + i) (f0 i)) _ _ _ trivial (hP.sub [0, 1, 2, 3] rfl) (hD.sub [0, 1, 2, 3] (by decide) rfl) (hK.sub [0, 1, 2] rfl) hS (lv_sub hl [0, 1, 2] rfl)
  refine lq1 _ (fun gg1x H locs ls _ hP hD hK hS hl => ?_) 609 0 (Nat.le_refl _) rfl f1 _ _ _ trivial hP hD hK hS hl
  refine lv_aload_n hx hb dX6_save_59 rfl (lv_at hl 1 rfl) ?_
  refine va_get (D := D) (ci := 6) (v := .int 0) (C := RX6) (T := TX6) (N := 27) hx hb hg inX6 hown hK hP 0 rfl rfl 0 (by decide) (hg _ k1219) (fun _ h9 => h9) rfl dX6_save_60 ?_
  refine lv_if_ne (tgt := 73) hx hb dX6_save_63 (by decide) (fun c9 => absurd (by decide) c9) (fun _ => ?_)
  refine lv_aload_n hx hb dX6_save_66 rfl (lv_at hl 1 rfl) ?_
  refine va_get (D := D) (ci := 6) (v := .ref h3) (C := RX6) (T := TX6) (N := 27) hx hb hg inX6 hown hK hP 0 rfl rfl 4 (by decide) (hg _ k1223) (fun _ h9 => h9) rfl dX6_save_67 ?_
  refine lv_iload_n hx hb dX6_save_70 rfl (lv_at hl 2 rfl) ?_
  refine lv_iconst (v := 1) hx hb dX6_save_71 (by decide) ?_
  refine astZ hx hb hK hP hD hS 3 2 rfl rfl 0 (by decide) (vin (by decide)) (v := 1) (by decide) dX6_save_72 (fun H locs hP hD hS => ?_)
  have hP : va_P D vwCl [(h0, .inr (6, [.int 0, .ref h1, v1, .ref h2, .ref h3, v2, v3, v4, v5, v6, v7, v8, v9, v10, v11, v12, v13, v14, v15, v16, v17, v18, v19, v20, v21, v22, v23])), (h1, .inl (a0, 609, .inr (.inl f0))), (h2, .inl (a1, 1218, .inr (.inl gg1x))), (h3, .inl (a2, 2, .inl (upd f2 0 1)))] H := hP
  have hD : va_D A [(h0, .inr (6, [.int 0, .ref h1, v1, .ref h2, .ref h3, v2, v3, v4, v5, v6, v7, v8, v9, v10, v11, v12, v13, v14, v15, v16, v17, v18, v19, v20, v21, v22, v23])), (h1, .inl (a0, 609, .inr (.inl f0))), (h2, .inl (a1, 1218, .inr (.inl gg1x))), (h3, .inl (a2, 2, .inl (upd f2 0 1)))] := hD
  exact fv hx hb hr hlocks hP hD hK hS (gg1x) trivial [0, 1, 2, 3] [0, 1, 2] rfl (by decide) rfl (Nat.le_of_ble_eq_true rfl) (Nat.le_of_ble_eq_true rfl) dX6_save_73
set_option maxHeartbeats 4000000 in
set_option maxRecDepth 100000 in
theorem cX6_save_293 (l : Launch) (D : va_G) (h0 : Nat) (h1 : Nat) (h2 : Nat) (h3 : Nat) (v0 : Value) (v1 : Value) (v2 : Value) (v3 : Value) (v4 : Value) (v5 : Value) (v6 : Value) (v7 : Value) (v8 : Value) (v9 : Value) (v10 : Value) (v11 : Value) (v12 : Value) (v13 : Value) (v14 : Value) (v15 : Value) (v16 : Value) (v17 : Value) (v18 : Value) (v19 : Value) (v20 : Value) (v21 : Value) (v22 : Value) (v23 : Value) (f0 : Nat → Int64) (f1 : Nat → Int64) (f2 : Nat → Int32) (a0 : ClassId) (a1 : ClassId) (a2 : ClassId)   : CT l yX6_save cX6_save 3 none { frames := 1, cells := 0, slots := 0, locals := 25 } [.ref h0, .int 1] D [(h0, .inr (6, [v0, .ref h1, v1, .ref h2, .ref h3, v2, v3, v4, v5, v6, v7, v8, v9, v10, v11, v12, v13, v14, v15, v16, v17, v18, v19, v20, v21, v22, v23])), (h1, .inl (a0, 609, .inr (.inl f0))), (h2, .inl (a1, 1218, .inr (.inl f1))), (h3, .inl (a2, 2, .inl f2))] [(a0, .long), (a1, .long), (a2, .boolean)] XN [(h0, .inr (6, [v0, .ref h1, v1, .ref h2, .ref h3, v2, v3, v4, v5, v6, v7, v8, v9, v10, v11, v12, v13, v14, v15, v16, v17, v18, v19, v20, v21, v22, v23])), (h1, .inl (a0, 609, .inr (.inl f0))), (h2, .inl (a1, 1218, .inr (.inl f1))), (h3, .inl (a2, 2, .inl f2))] (ev (fun _ : (Nat → Int64) => True) (fun u => [(h0, .inr (6, [.int 0, .ref h1, v1, .ref h2, .ref h3, v2, v3, v4, v5, v6, v7, v8, v9, v10, v11, v12, v13, v14, v15, v16, v17, v18, v19, v20, v21, v22, v23])), (h1, .inl (a0, 609, .inr (.inl f0))), (h2, .inl (a1, 1218, .inr (.inl u))), (h3, .inl (a2, 2, .inl (upd f2 1 1)))]) (fun u => [(a0, .long), (a1, .long), (a2, .boolean)]) D) 0 0 := by
  refine CT.ofW (by decide +kernel) (Nat.le_of_ble_eq_true rfl) ?_
  intro p e s m below meth c A ls hcs hP hK hD hX hA hS hl
  obtain ⟨hx, hb, hr, hml, hown, hg, hlocks, hin⟩ := hcs
  have hown : s.vm.findClass RX6 = some m.cls := hown
  have hl : lv_has ls 3 [(0, .ref h0), (1, .int 1)] := hl
  refine lv_aload_n hx hb dX6_save_0 rfl (lv_at hl 0 rfl) ?_
  refine lv_iload_n hx hb dX6_save_1 rfl (lv_at hl 1 rfl) ?_
  refine lv_i2l (v := 1) hx hb dX6_save_2 (by decide) ?_
  refine lv_lconst (v := 0) hx hb dX6_save_3 (by decide) ?_
  refine lv_lconst (v := 1) hx hb dX6_save_4 (by decide) ?_
  refine cSi (n := 3) (As := [.long 1, .long 0, .long 1]) (rest := [.ref h0]) (wr := [(h0, .inr (6, [v0, .ref h1, v1, .ref h2, .ref h3, v2, v3, v4, v5, v6, v7, v8, v9, v10, v11, v12, v13, v14, v15, v16, v17, v18, v19, v20, v21, v22, v23])), (h1, .inl (a0, 609, .inr (.inl f0))), (h2, .inl (a1, 1218, .inr (.inl f1))), (h3, .inl (a2, 2, .inl f2))]) (tr := [(a0, .long), (a1, .long), (a2, .boolean)]) hx hb hml hown hg okN (cX6_in_82 l D) (mwS k1317 k1318 k92 k1319) ⟨rfl, by decide, by decide, by decide +kernel⟩ ⟨rfl, rfl, (Nat.le_of_ble_eq_true rfl), (Nat.le_of_ble_eq_true rfl)⟩ hP hD hK hS xn [] [] [0, 1, 2, 3] [] [0, 1, 2] rfl (by decide) rfl rfl (by decide) (by decide) rfl rfl (aNil hA hS) (aNil hA hS) rfl hl.1 rfl (Nat.le_of_ble_eq_true rfl) dX6_save_5 ⟨(Nat.le_of_ble_eq_true rfl), (Nat.le_of_ble_eq_true rfl)⟩ (fun u H locs hφ hP hD hK hS hk => ?_)
  have hP : va_P D vwCl [(h0, .inr (6, [v0, .ref h1, v1, .ref h2, .ref h3, v2, v3, v4, v5, v6, v7, v8, v9, v10, v11, v12, v13, v14, v15, v16, v17, v18, v19, v20, v21, v22, v23])), (h1, .inl (a0, 609, .inr (.inl f0))), (h2, .inl (a1, 1218, .inr (.inl f1))), (h3, .inl (a2, 2, .inl f2))] H := hP
  have hD : va_D A [(h0, .inr (6, [v0, .ref h1, v1, .ref h2, .ref h3, v2, v3, v4, v5, v6, v7, v8, v9, v10, v11, v12, v13, v14, v15, v16, v17, v18, v19, v20, v21, v22, v23])), (h1, .inl (a0, 609, .inr (.inl f0))), (h2, .inl (a1, 1218, .inr (.inl f1))), (h3, .inl (a2, 2, .inl f2))] := hD
  have hK : va_K D vwCl [(a0, .long), (a1, .long), (a2, .boolean)] s := hK
  refine W.widen (k := 0) (n := 0) (Nat.le_of_ble_eq_true rfl) (Nat.le_of_ble_eq_true rfl) ?_
  refine lv_if_eq (tgt := 15) hx hb dX6_save_8 (by decide) (fun c9 => absurd c9 (by decide)) (fun _ => ?_)
  refine lv_iconst (v := 0) hx hb dX6_save_11 (by decide) ?_
  refine lv_goto (tgt := 16) hx hb dX6_save_12 (by decide) ?_
  refine va_put (D := D) (ci := 6) (v := .int 0) (ty := .int) (C := RX6) (T := TX6) (N := 27) hx hb hg inX6 tyX6 tyX6_ok nmX6 hown hK hP hD hS 0 rfl rfl 0 (by decide) (hg _ k1219) (fun _ h9 => h9) rfl (by decide +kernel) rfl rfl (Nat.le_of_ble_eq_true rfl) dX6_save_16 (fun H locs hP hD hS => ?_)
  have hP : va_P D vwCl [(h0, .inr (6, [.int 0, .ref h1, v1, .ref h2, .ref h3, v2, v3, v4, v5, v6, v7, v8, v9, v10, v11, v12, v13, v14, v15, v16, v17, v18, v19, v20, v21, v22, v23])), (h1, .inl (a0, 609, .inr (.inl f0))), (h2, .inl (a1, 1218, .inr (.inl f1))), (h3, .inl (a2, 2, .inl f2))] H := hP
  have hD : va_D A [(h0, .inr (6, [.int 0, .ref h1, v1, .ref h2, .ref h3, v2, v3, v4, v5, v6, v7, v8, v9, v10, v11, v12, v13, v14, v15, v16, v17, v18, v19, v20, v21, v22, v23])), (h1, .inl (a0, 609, .inr (.inl f0))), (h2, .inl (a1, 1218, .inr (.inl f1))), (h3, .inl (a2, 2, .inl f2))] := hD
  refine lv_iconst (v := 0) hx hb dX6_save_19 (by decide) ?_
  refine lv_istore_n (lv' := [(2, .int 0), (0, .ref h0), (1, .int 1)]) hx hb dX6_save_20 rfl hl (by decide) rfl (fun ls hl => ?_)
  refine lv_aload_n hx hb dX6_save_21 rfl (lv_at hl 1 rfl) ?_
  refine va_get (D := D) (ci := 6) (v := .int 0) (C := RX6) (T := TX6) (N := 27) hx hb hg inX6 hown hK hP 0 rfl rfl 0 (by decide) (hg _ k1219) (fun _ h9 => h9) rfl dX6_save_22 ?_
  refine lv_if_ne (tgt := 59) hx hb dX6_save_25 (by decide) (fun c9 => absurd (by decide) c9) (fun _ => ?_)
  have lq1 : ∀ (Q9 : State → Prop), (∀ (gg1 : Nat → Int64) (H : Heap) (locs : List Loc) (ls : Array Slot), True → va_P D vwCl [(h0, .inr (6, [.int 0, .ref h1, v1, .ref h2, .ref h3, v2, v3, v4, v5, v6, v7, v8, v9, v10, v11, v12, v13, v14, v15, v16, v17, v18, v19, v20, v21, v22, v23])), (h1, .inl (a0, 609, .inr (.inl f0))), (h2, .inl (a1, 1218, .inr (.inl gg1))), (h3, .inl (a2, 2, .inl f2))] H → va_D A [(h0, .inr (6, [.int 0, .ref h1, v1, .ref h2, .ref h3, v2, v3, v4, v5, v6, v7, v8, v9, v10, v11, v12, v13, v14, v15, v16, v17, v18, v19, v20, v21, v22, v23])), (h1, .inl (a0, 609, .inr (.inl f0))), (h2, .inl (a1, 1218, .inr (.inl gg1))), (h3, .inl (a2, 2, .inl f2))] → va_K D vwCl [(a0, .long), (a1, .long), (a2, .boolean)] s → va_S A s.heap H locs → lv_has ls 3 [(2, .int 609), (0, .ref h0), (1, .int 1)] → W p l e { frames := 1, cells := 0, slots := 0, locals := 25 } s m [.ref h0, .int 1].toArray below meth c H locs (0) (0) Q9 (F0 m 59 ls [])) → ∀ (n9 i : Nat), 0 ≤ i → i + n9 = 609 → ∀ (gg1 : Nat → Int64) (H : Heap) (locs : List Loc) (ls : Array Slot), True → va_P D vwCl [(h0, .inr (6, [.int 0, .ref h1, v1, .ref h2, .ref h3, v2, v3, v4, v5, v6, v7, v8, v9, v10, v11, v12, v13, v14, v15, v16, v17, v18, v19, v20, v21, v22, v23])), (h1, .inl (a0, 609, .inr (.inl f0))), (h2, .inl (a1, 1218, .inr (.inl gg1))), (h3, .inl (a2, 2, .inl f2))] H → va_D A [(h0, .inr (6, [.int 0, .ref h1, v1, .ref h2, .ref h3, v2, v3, v4, v5, v6, v7, v8, v9, v10, v11, v12, v13, v14, v15, v16, v17, v18, v19, v20, v21, v22, v23])), (h1, .inl (a0, 609, .inr (.inl f0))), (h2, .inl (a1, 1218, .inr (.inl gg1))), (h3, .inl (a2, 2, .inl f2))] → va_K D vwCl [(a0, .long), (a1, .long), (a2, .boolean)] s → va_S A s.heap H locs → lv_has ls 3 [(2, .int (nI i)), (0, .ref h0), (1, .int 1)] → W p l e { frames := 1, cells := 0, slots := 0, locals := 25 } s m [.ref h0, .int 1].toArray below meth c H locs (0 + 0 * (i - 0)) (0 + 0 * (i - 0)) Q9 (F0 m 28 ls []) := by
    intro Q9 kx n9
    induction n9 with
    | zero =>
      intro i hi0 hin9 gg1 H locs ls _ hP hD hK hS hl
      have hi9 : i = 609 := by omega
      subst hi9
      refine lv_iload_n hx hb dX6_save_28 rfl (lv_at hl 0 rfl) ?_
      refine lv_sipush (v := 609) hx hb dX6_save_29 (by decide) ?_
      refine lv_icmp_ge (tgt := 59) hx hb dX6_save_32 (by decide) (fun _ => ?_) (fun c9 => absurd (by decide) c9)
      exact kx gg1 H locs ls trivial hP hD hK hS hl
    | succ n9 ih =>
      intro i hi0 hin9 gg1 H locs ls _ hP hD hK hS hl
      have hi : i < 609 := by omega
      refine lv_iload_n hx hb dX6_save_28 rfl (lv_at hl 0 rfl) ?_
      refine lv_sipush (v := 609) hx hb dX6_save_29 (by decide) ?_
      refine lv_icmp_ge (tgt := 59) hx hb dX6_save_32 (by decide) (fun c9 => absurd c9 (nI_ge hi (by decide))) (fun _ => ?_)
      refine lv_aload_n hx hb dX6_save_35 rfl (lv_at hl 1 rfl) ?_
      refine va_get (D := D) (ci := 6) (v := .ref h2) (C := RX6) (T := TX6) (N := 27) hx hb hg inX6 hown hK hP 0 rfl rfl 3 (by decide) (hg _ k1222) (fun _ h9 => h9) rfl dX6_save_36 ?_
      refine lv_sipush (v := 609) hx hb dX6_save_39 (by decide) ?_
      refine lv_iload_n hx hb dX6_save_42 rfl (lv_at hl 2 rfl) ?_
      refine lv_imul hx hb dX6_save_43 ?_
      refine ti (609) (by decide) ?_
      refine lv_iload_n hx hb dX6_save_44 rfl (lv_at hl 0 rfl) ?_
      refine lv_iadd hx hb dX6_save_45 ?_
      refine ti (nI (609 + i)) (nI_add 609 i) ?_
      refine lv_aload_n hx hb dX6_save_46 rfl (lv_at hl 1 rfl) ?_
      refine va_get (D := D) (ci := 6) (v := .ref h1) (C := RX6) (T := TX6) (N := 27) hx hb hg inX6 hown hK hP 0 rfl rfl 1 (by decide) (hg _ k1220) (fun _ h9 => h9) rfl dX6_save_47 ?_
      refine lv_iload_n hx hb dX6_save_50 rfl (lv_at hl 0 rfl) ?_
      refine aldL hx hb hK hP 1 0 rfl rfl i (nI_clamp (by omega)) (vp_in_nI (by omega) (by decide)) (v := f0 i) rfl dX6_save_51 ?_
      refine astL hx hb hK hP hD hS 2 1 rfl rfl (609 + i) (nI_clamp (by omega)) (vp_in_nI (by omega) (by decide)) dX6_save_52 (fun H locs hP hD hS => ?_)
      have hP : va_P D vwCl [(h0, .inr (6, [.int 0, .ref h1, v1, .ref h2, .ref h3, v2, v3, v4, v5, v6, v7, v8, v9, v10, v11, v12, v13, v14, v15, v16, v17, v18, v19, v20, v21, v22, v23])), (h1, .inl (a0, 609, .inr (.inl f0))), (h2, .inl (a1, 1218, .inr (.inl (vp_updL gg1 (609 + i) (f0 i))))), (h3, .inl (a2, 2, .inl f2))] H := hP
      have hD : va_D A [(h0, .inr (6, [.int 0, .ref h1, v1, .ref h2, .ref h3, v2, v3, v4, v5, v6, v7, v8, v9, v10, v11, v12, v13, v14, v15, v16, v17, v18, v19, v20, v21, v22, v23])), (h1, .inl (a0, 609, .inr (.inl f0))), (h2, .inl (a1, 1218, .inr (.inl (vp_updL gg1 (609 + i) (f0 i))))), (h3, .inl (a2, 2, .inl f2))] := hD
      refine lv_iinc (v := (nI (i + 1))) (lv' := [(2, .int (nI (i + 1))), (0, .ref h0), (1, .int 1)]) hx hb dX6_save_53 hl (k := 0) rfl (nI_1 i) (by decide) rfl (fun ls hl => ?_)
      refine lv_goto (tgt := 21) hx hb dX6_save_56 (by decide) ?_
      refine lv_aload_n hx hb dX6_save_21 rfl (lv_at hl 1 rfl) ?_
      refine va_get (D := D) (ci := 6) (v := .int 0) (C := RX6) (T := TX6) (N := 27) hx hb hg inX6 hown hK hP 0 rfl rfl 0 (by decide) (hg _ k1219) (fun _ h9 => h9) rfl dX6_save_22 ?_
      refine lv_if_ne (tgt := 59) hx hb dX6_save_25 (by decide) (fun c9 => absurd (by decide) c9) (fun _ => ?_)
      exact ih (i + 1) (by omega) (by omega) (vp_updL gg1 (609 + i) (f0 i)) _ _ _ trivial (hP.sub [0, 1, 2, 3] rfl) (hD.sub [0, 1, 2, 3] (by decide) rfl) (hK.sub [0, 1, 2] rfl) hS (lv_sub hl [0, 1, 2] rfl)
  refine lq1 _ (fun gg1x H locs ls _ hP hD hK hS hl => ?_) 609 0 (Nat.le_refl _) rfl f1 _ _ _ trivial hP hD hK hS hl
  refine lv_aload_n hx hb dX6_save_59 rfl (lv_at hl 1 rfl) ?_
  refine va_get (D := D) (ci := 6) (v := .int 0) (C := RX6) (T := TX6) (N := 27) hx hb hg inX6 hown hK hP 0 rfl rfl 0 (by decide) (hg _ k1219) (fun _ h9 => h9) rfl dX6_save_60 ?_
  refine lv_if_ne (tgt := 73) hx hb dX6_save_63 (by decide) (fun c9 => absurd (by decide) c9) (fun _ => ?_)
  refine lv_aload_n hx hb dX6_save_66 rfl (lv_at hl 1 rfl) ?_
  refine va_get (D := D) (ci := 6) (v := .ref h3) (C := RX6) (T := TX6) (N := 27) hx hb hg inX6 hown hK hP 0 rfl rfl 4 (by decide) (hg _ k1223) (fun _ h9 => h9) rfl dX6_save_67 ?_
  refine lv_iload_n hx hb dX6_save_70 rfl (lv_at hl 2 rfl) ?_
  refine lv_iconst (v := 1) hx hb dX6_save_71 (by decide) ?_
  refine astZ hx hb hK hP hD hS 3 2 rfl rfl 1 (by decide) (vin (by decide)) (v := 1) (by decide) dX6_save_72 (fun H locs hP hD hS => ?_)
  have hP : va_P D vwCl [(h0, .inr (6, [.int 0, .ref h1, v1, .ref h2, .ref h3, v2, v3, v4, v5, v6, v7, v8, v9, v10, v11, v12, v13, v14, v15, v16, v17, v18, v19, v20, v21, v22, v23])), (h1, .inl (a0, 609, .inr (.inl f0))), (h2, .inl (a1, 1218, .inr (.inl gg1x))), (h3, .inl (a2, 2, .inl (upd f2 1 1)))] H := hP
  have hD : va_D A [(h0, .inr (6, [.int 0, .ref h1, v1, .ref h2, .ref h3, v2, v3, v4, v5, v6, v7, v8, v9, v10, v11, v12, v13, v14, v15, v16, v17, v18, v19, v20, v21, v22, v23])), (h1, .inl (a0, 609, .inr (.inl f0))), (h2, .inl (a1, 1218, .inr (.inl gg1x))), (h3, .inl (a2, 2, .inl (upd f2 1 1)))] := hD
  exact fv hx hb hr hlocks hP hD hK hS (gg1x) trivial [0, 1, 2, 3] [0, 1, 2] rfl (by decide) rfl (Nat.le_of_ble_eq_true rfl) (Nat.le_of_ble_eq_true rfl) dX6_save_73
set_option maxHeartbeats 4000000 in
set_option maxRecDepth 100000 in
theorem cX6_save_294 (l : Launch) (D : va_G) (h0 : Nat) (x0 : Int32) (v0 : Value) (v1 : Value) (v2 : Value) (v3 : Value) (v4 : Value) (v5 : Value) (v6 : Value) (v7 : Value) (v8 : Value) (v9 : Value) (v10 : Value) (v11 : Value) (v12 : Value) (v13 : Value) (v14 : Value) (v15 : Value) (v16 : Value) (v17 : Value) (v18 : Value) (v19 : Value) (v20 : Value) (v21 : Value) (v22 : Value) (v23 : Value) (v24 : Value) (v25 : Value) (v26 : Value)  (d0 : ¬ ((lg_cmp x0.toInt64 0) < 0)) (d1 : 0 < (lg_cmp x0.toInt64 1)) : CT l yX6_save cX6_save 3 none { frames := 1, cells := 0, slots := 0, locals := 25 } [.ref h0, .int x0] D [(h0, .inr (6, [v0, v1, v2, v3, v4, v5, v6, v7, v8, v9, v10, v11, v12, v13, v14, v15, v16, v17, v18, v19, v20, v21, v22, v23, v24, v25, v26]))] [] XN [(h0, .inr (6, [v0, v1, v2, v3, v4, v5, v6, v7, v8, v9, v10, v11, v12, v13, v14, v15, v16, v17, v18, v19, v20, v21, v22, v23, v24, v25, v26]))] (ev (fun _ : Unit => True) (fun _ => [(h0, .inr (6, [.int 1, v1, v2, v3, v4, v5, v6, v7, v8, v9, v10, v11, v12, v13, v14, v15, v16, v17, v18, v19, v20, v21, v22, v23, v24, v25, v26]))]) (fun u => []) D) 0 0 := by
  refine CT.ofW (by decide +kernel) (Nat.le_of_ble_eq_true rfl) ?_
  intro p e s m below meth c A ls hcs hP hK hD hX hA hS hl
  obtain ⟨hx, hb, hr, hml, hown, hg, hlocks, hin⟩ := hcs
  have hown : s.vm.findClass RX6 = some m.cls := hown
  have hl : lv_has ls 3 [(0, .ref h0), (1, .int x0)] := hl
  refine lv_aload_n hx hb dX6_save_0 rfl (lv_at hl 0 rfl) ?_
  refine lv_iload_n hx hb dX6_save_1 rfl (lv_at hl 1 rfl) ?_
  refine lv_i2l (v := x0.toInt64) hx hb dX6_save_2 rfl ?_
  refine lv_lconst (v := 0) hx hb dX6_save_3 (by decide) ?_
  refine lv_lconst (v := 1) hx hb dX6_save_4 (by decide) ?_
  refine cSi (n := 3) (As := [.long x0.toInt64, .long 0, .long 1]) (rest := [.ref h0]) (wr := [(h0, .inr (6, [v0, v1, v2, v3, v4, v5, v6, v7, v8, v9, v10, v11, v12, v13, v14, v15, v16, v17, v18, v19, v20, v21, v22, v23, v24, v25, v26]))]) (tr := []) hx hb hml hown hg okN (cX6_in_61 l D x0 d0 d1) (mwS k1317 k1318 k92 k1319) ⟨rfl, by decide, by decide, by decide +kernel⟩ ⟨rfl, rfl, (Nat.le_of_ble_eq_true rfl), (Nat.le_of_ble_eq_true rfl)⟩ hP hD hK hS xn [] [] [0] [] [] rfl (by decide) rfl rfl (by decide) (by decide) rfl rfl (aNil hA hS) (aNil hA hS) rfl hl.1 rfl (Nat.le_of_ble_eq_true rfl) dX6_save_5 ⟨(Nat.le_of_ble_eq_true rfl), (Nat.le_of_ble_eq_true rfl)⟩ (fun u H locs hφ hP hD hK hS hk => ?_)
  have hP : va_P D vwCl [(h0, .inr (6, [v0, v1, v2, v3, v4, v5, v6, v7, v8, v9, v10, v11, v12, v13, v14, v15, v16, v17, v18, v19, v20, v21, v22, v23, v24, v25, v26]))] H := hP
  have hD : va_D A [(h0, .inr (6, [v0, v1, v2, v3, v4, v5, v6, v7, v8, v9, v10, v11, v12, v13, v14, v15, v16, v17, v18, v19, v20, v21, v22, v23, v24, v25, v26]))] := hD
  have hK : va_K D vwCl [] s := hK
  refine W.widen (k := 0) (n := 0) (Nat.le_of_ble_eq_true rfl) (Nat.le_of_ble_eq_true rfl) ?_
  refine lv_if_eq (tgt := 15) hx hb dX6_save_8 (by decide) (fun _ => ?_) (fun c9 => absurd (by decide) c9)
  refine lv_iconst (v := 1) hx hb dX6_save_15 (by decide) ?_
  refine va_put (D := D) (ci := 6) (v := .int 1) (ty := .int) (C := RX6) (T := TX6) (N := 27) hx hb hg inX6 tyX6 tyX6_ok nmX6 hown hK hP hD hS 0 rfl rfl 0 (by decide) (hg _ k1219) (fun _ h9 => h9) rfl (by decide +kernel) rfl rfl (Nat.le_of_ble_eq_true rfl) dX6_save_16 (fun H locs hP hD hS => ?_)
  have hP : va_P D vwCl [(h0, .inr (6, [.int 1, v1, v2, v3, v4, v5, v6, v7, v8, v9, v10, v11, v12, v13, v14, v15, v16, v17, v18, v19, v20, v21, v22, v23, v24, v25, v26]))] H := hP
  have hD : va_D A [(h0, .inr (6, [.int 1, v1, v2, v3, v4, v5, v6, v7, v8, v9, v10, v11, v12, v13, v14, v15, v16, v17, v18, v19, v20, v21, v22, v23, v24, v25, v26]))] := hD
  refine lv_iconst (v := 0) hx hb dX6_save_19 (by decide) ?_
  refine lv_istore_n (lv' := [(2, .int 0), (0, .ref h0), (1, .int x0)]) hx hb dX6_save_20 rfl hl (by decide) rfl (fun ls hl => ?_)
  refine lv_aload_n hx hb dX6_save_21 rfl (lv_at hl 1 rfl) ?_
  refine va_get (D := D) (ci := 6) (v := .int 1) (C := RX6) (T := TX6) (N := 27) hx hb hg inX6 hown hK hP 0 rfl rfl 0 (by decide) (hg _ k1219) (fun _ h9 => h9) rfl dX6_save_22 ?_
  refine lv_if_ne (tgt := 59) hx hb dX6_save_25 (by decide) (fun _ => ?_) (fun c9 => absurd c9 (by decide))
  refine lv_aload_n hx hb dX6_save_59 rfl (lv_at hl 1 rfl) ?_
  refine va_get (D := D) (ci := 6) (v := .int 1) (C := RX6) (T := TX6) (N := 27) hx hb hg inX6 hown hK hP 0 rfl rfl 0 (by decide) (hg _ k1219) (fun _ h9 => h9) rfl dX6_save_60 ?_
  refine lv_if_ne (tgt := 73) hx hb dX6_save_63 (by decide) (fun _ => ?_) (fun c9 => absurd c9 (by decide))
  exact fv hx hb hr hlocks hP hD hK hS (()) trivial [0] [] rfl (by decide) rfl (Nat.le_of_ble_eq_true rfl) (Nat.le_of_ble_eq_true rfl) dX6_save_73
set_option maxHeartbeats 4000000 in
set_option maxRecDepth 100000 in
theorem cX6_restore_295 (l : Launch) (D : va_G) (h0 : Nat) (x0 : Int32) (v0 : Value) (v1 : Value) (v2 : Value) (v3 : Value) (v4 : Value) (v5 : Value) (v6 : Value) (v7 : Value) (v8 : Value) (v9 : Value) (v10 : Value) (v11 : Value) (v12 : Value) (v13 : Value) (v14 : Value) (v15 : Value) (v16 : Value) (v17 : Value) (v18 : Value) (v19 : Value) (v20 : Value) (v21 : Value) (v22 : Value) (v23 : Value) (v24 : Value) (v25 : Value) (v26 : Value)  (d0 : (lg_cmp x0.toInt64 0) < 0) : CT l yX6_restore cX6_restore 3 none { frames := 1, cells := 0, slots := 0, locals := 25 } [.ref h0, .int x0] D [(h0, .inr (6, [v0, v1, v2, v3, v4, v5, v6, v7, v8, v9, v10, v11, v12, v13, v14, v15, v16, v17, v18, v19, v20, v21, v22, v23, v24, v25, v26]))] [] XN [(h0, .inr (6, [v0, v1, v2, v3, v4, v5, v6, v7, v8, v9, v10, v11, v12, v13, v14, v15, v16, v17, v18, v19, v20, v21, v22, v23, v24, v25, v26]))] (ev (fun _ : Unit => True) (fun _ => [(h0, .inr (6, [.int 1, v1, v2, v3, v4, v5, v6, v7, v8, v9, v10, v11, v12, v13, v14, v15, v16, v17, v18, v19, v20, v21, v22, v23, v24, v25, v26]))]) (fun u => []) D) 0 0 := by
  refine CT.ofW (by decide +kernel) (Nat.le_of_ble_eq_true rfl) ?_
  intro p e s m below meth c A ls hcs hP hK hD hX hA hS hl
  obtain ⟨hx, hb, hr, hml, hown, hg, hlocks, hin⟩ := hcs
  have hown : s.vm.findClass RX6 = some m.cls := hown
  have hl : lv_has ls 3 [(0, .ref h0), (1, .int x0)] := hl
  refine lv_aload_n hx hb dX6_restore_0 rfl (lv_at hl 0 rfl) ?_
  refine lv_iload_n hx hb dX6_restore_1 rfl (lv_at hl 1 rfl) ?_
  refine lv_i2l (v := x0.toInt64) hx hb dX6_restore_2 rfl ?_
  refine lv_lconst (v := 0) hx hb dX6_restore_3 (by decide) ?_
  refine lv_lconst (v := 1) hx hb dX6_restore_4 (by decide) ?_
  refine cSi (n := 3) (As := [.long x0.toInt64, .long 0, .long 1]) (rest := [.ref h0]) (wr := [(h0, .inr (6, [v0, v1, v2, v3, v4, v5, v6, v7, v8, v9, v10, v11, v12, v13, v14, v15, v16, v17, v18, v19, v20, v21, v22, v23, v24, v25, v26]))]) (tr := []) hx hb hml hown hg okN (cX6_in_58 l D x0 d0) (mwS k1317 k1318 k92 k1319) ⟨rfl, by decide, by decide, by decide +kernel⟩ ⟨rfl, rfl, (Nat.le_of_ble_eq_true rfl), (Nat.le_of_ble_eq_true rfl)⟩ hP hD hK hS xn [] [] [0] [] [] rfl (by decide) rfl rfl (by decide) (by decide) rfl rfl (aNil hA hS) (aNil hA hS) rfl hl.1 rfl (Nat.le_of_ble_eq_true rfl) dX6_restore_5 ⟨(Nat.le_of_ble_eq_true rfl), (Nat.le_of_ble_eq_true rfl)⟩ (fun u H locs hφ hP hD hK hS hk => ?_)
  have hP : va_P D vwCl [(h0, .inr (6, [v0, v1, v2, v3, v4, v5, v6, v7, v8, v9, v10, v11, v12, v13, v14, v15, v16, v17, v18, v19, v20, v21, v22, v23, v24, v25, v26]))] H := hP
  have hD : va_D A [(h0, .inr (6, [v0, v1, v2, v3, v4, v5, v6, v7, v8, v9, v10, v11, v12, v13, v14, v15, v16, v17, v18, v19, v20, v21, v22, v23, v24, v25, v26]))] := hD
  have hK : va_K D vwCl [] s := hK
  refine W.widen (k := 0) (n := 0) (Nat.le_of_ble_eq_true rfl) (Nat.le_of_ble_eq_true rfl) ?_
  refine lv_if_ne (tgt := 15) hx hb dX6_restore_8 (by decide) (fun c9 => absurd (by decide) c9) (fun _ => ?_)
  refine lv_iconst (v := 1) hx hb dX6_restore_11 (by decide) ?_
  refine lv_goto (tgt := 29) hx hb dX6_restore_12 (by decide) ?_
  refine va_put (D := D) (ci := 6) (v := .int 1) (ty := .int) (C := RX6) (T := TX6) (N := 27) hx hb hg inX6 tyX6 tyX6_ok nmX6 hown hK hP hD hS 0 rfl rfl 0 (by decide) (hg _ k1219) (fun _ h9 => h9) rfl (by decide +kernel) rfl rfl (Nat.le_of_ble_eq_true rfl) dX6_restore_29 (fun H locs hP hD hS => ?_)
  have hP : va_P D vwCl [(h0, .inr (6, [.int 1, v1, v2, v3, v4, v5, v6, v7, v8, v9, v10, v11, v12, v13, v14, v15, v16, v17, v18, v19, v20, v21, v22, v23, v24, v25, v26]))] H := hP
  have hD : va_D A [(h0, .inr (6, [.int 1, v1, v2, v3, v4, v5, v6, v7, v8, v9, v10, v11, v12, v13, v14, v15, v16, v17, v18, v19, v20, v21, v22, v23, v24, v25, v26]))] := hD
  refine lv_iconst (v := 0) hx hb dX6_restore_32 (by decide) ?_
  refine lv_istore_n (lv' := [(2, .int 0), (0, .ref h0), (1, .int x0)]) hx hb dX6_restore_33 rfl hl (by decide) rfl (fun ls hl => ?_)
  refine lv_aload_n hx hb dX6_restore_34 rfl (lv_at hl 1 rfl) ?_
  refine va_get (D := D) (ci := 6) (v := .int 1) (C := RX6) (T := TX6) (N := 27) hx hb hg inX6 hown hK hP 0 rfl rfl 0 (by decide) (hg _ k1219) (fun _ h9 => h9) rfl dX6_restore_35 ?_
  refine lv_if_ne (tgt := 72) hx hb dX6_restore_38 (by decide) (fun _ => ?_) (fun c9 => absurd c9 (by decide))
  exact fv hx hb hr hlocks hP hD hK hS (()) trivial [0] [] rfl (by decide) rfl (Nat.le_of_ble_eq_true rfl) (Nat.le_of_ble_eq_true rfl) dX6_restore_72
set_option maxHeartbeats 4000000 in
set_option maxRecDepth 100000 in
theorem cX6_restore_296 (l : Launch) (D : va_G) (h0 : Nat) (h1 : Nat) (v0 : Value) (v1 : Value) (v2 : Value) (v3 : Value) (v4 : Value) (v5 : Value) (v6 : Value) (v7 : Value) (v8 : Value) (v9 : Value) (v10 : Value) (v11 : Value) (v12 : Value) (v13 : Value) (v14 : Value) (v15 : Value) (v16 : Value) (v17 : Value) (v18 : Value) (v19 : Value) (v20 : Value) (v21 : Value) (v22 : Value) (v23 : Value) (v24 : Value) (v25 : Value) (f0 : Nat → Int32) (a0 : ClassId) (ef0_0 : f0 0 = 0)  : CT l yX6_restore cX6_restore 3 none { frames := 1, cells := 0, slots := 0, locals := 25 } [.ref h0, .int 0] D [(h0, .inr (6, [v0, v1, v2, v3, .ref h1, v4, v5, v6, v7, v8, v9, v10, v11, v12, v13, v14, v15, v16, v17, v18, v19, v20, v21, v22, v23, v24, v25])), (h1, .inl (a0, 2, .inl f0))] [(a0, .boolean)] XN [(h0, .inr (6, [v0, v1, v2, v3, .ref h1, v4, v5, v6, v7, v8, v9, v10, v11, v12, v13, v14, v15, v16, v17, v18, v19, v20, v21, v22, v23, v24, v25])), (h1, .inl (a0, 2, .inl f0))] (ev (fun _ : Unit => True) (fun _ => [(h0, .inr (6, [.int 2, v1, v2, v3, .ref h1, v4, v5, v6, v7, v8, v9, v10, v11, v12, v13, v14, v15, v16, v17, v18, v19, v20, v21, v22, v23, v24, v25])), (h1, .inl (a0, 2, .inl f0))]) (fun u => [(a0, .boolean)]) D) 0 0 := by
  refine CT.ofW (by decide +kernel) (Nat.le_of_ble_eq_true rfl) ?_
  intro p e s m below meth c A ls hcs hP hK hD hX hA hS hl
  obtain ⟨hx, hb, hr, hml, hown, hg, hlocks, hin⟩ := hcs
  have hown : s.vm.findClass RX6 = some m.cls := hown
  have hl : lv_has ls 3 [(0, .ref h0), (1, .int 0)] := hl
  refine lv_aload_n hx hb dX6_restore_0 rfl (lv_at hl 0 rfl) ?_
  refine lv_iload_n hx hb dX6_restore_1 rfl (lv_at hl 1 rfl) ?_
  refine lv_i2l (v := 0) hx hb dX6_restore_2 (by decide) ?_
  refine lv_lconst (v := 0) hx hb dX6_restore_3 (by decide) ?_
  refine lv_lconst (v := 1) hx hb dX6_restore_4 (by decide) ?_
  refine cSi (n := 3) (As := [.long 0, .long 0, .long 1]) (rest := [.ref h0]) (wr := [(h0, .inr (6, [v0, v1, v2, v3, .ref h1, v4, v5, v6, v7, v8, v9, v10, v11, v12, v13, v14, v15, v16, v17, v18, v19, v20, v21, v22, v23, v24, v25])), (h1, .inl (a0, 2, .inl f0))]) (tr := [(a0, .boolean)]) hx hb hml hown hg okN (cX6_in_64 l D) (mwS k1317 k1318 k92 k1319) ⟨rfl, by decide, by decide, by decide +kernel⟩ ⟨rfl, rfl, (Nat.le_of_ble_eq_true rfl), (Nat.le_of_ble_eq_true rfl)⟩ hP hD hK hS xn [] [] [0, 1] [] [0] rfl (by decide) rfl rfl (by decide) (by decide) rfl rfl (aNil hA hS) (aNil hA hS) rfl hl.1 rfl (Nat.le_of_ble_eq_true rfl) dX6_restore_5 ⟨(Nat.le_of_ble_eq_true rfl), (Nat.le_of_ble_eq_true rfl)⟩ (fun u H locs hφ hP hD hK hS hk => ?_)
  have hP : va_P D vwCl [(h0, .inr (6, [v0, v1, v2, v3, .ref h1, v4, v5, v6, v7, v8, v9, v10, v11, v12, v13, v14, v15, v16, v17, v18, v19, v20, v21, v22, v23, v24, v25])), (h1, .inl (a0, 2, .inl f0))] H := hP
  have hD : va_D A [(h0, .inr (6, [v0, v1, v2, v3, .ref h1, v4, v5, v6, v7, v8, v9, v10, v11, v12, v13, v14, v15, v16, v17, v18, v19, v20, v21, v22, v23, v24, v25])), (h1, .inl (a0, 2, .inl f0))] := hD
  have hK : va_K D vwCl [(a0, .boolean)] s := hK
  refine W.widen (k := 0) (n := 0) (Nat.le_of_ble_eq_true rfl) (Nat.le_of_ble_eq_true rfl) ?_
  refine lv_if_ne (tgt := 15) hx hb dX6_restore_8 (by decide) (fun _ => ?_) (fun c9 => absurd c9 (by decide))
  refine lv_aload_n hx hb dX6_restore_15 rfl (lv_at hl 0 rfl) ?_
  refine va_get (D := D) (ci := 6) (v := .ref h1) (C := RX6) (T := TX6) (N := 27) hx hb hg inX6 hown hK hP 0 rfl rfl 4 (by decide) (hg _ k1223) (fun _ h9 => h9) rfl dX6_restore_16 ?_
  refine lv_iload_n hx hb dX6_restore_19 rfl (lv_at hl 1 rfl) ?_
  refine aldZ hx hb hK hP 1 0 rfl rfl 0 (by decide) (vin (by decide)) (v := 0) ef0_0 dX6_restore_20 ?_
  refine lv_if_eq (tgt := 28) hx hb dX6_restore_21 (by decide) (fun _ => ?_) (fun c9 => absurd (by decide) c9)
  refine lv_iconst (v := 2) hx hb dX6_restore_28 (by decide) ?_
  refine va_put (D := D) (ci := 6) (v := .int 2) (ty := .int) (C := RX6) (T := TX6) (N := 27) hx hb hg inX6 tyX6 tyX6_ok nmX6 hown hK hP hD hS 0 rfl rfl 0 (by decide) (hg _ k1219) (fun _ h9 => h9) rfl (by decide +kernel) rfl rfl (Nat.le_of_ble_eq_true rfl) dX6_restore_29 (fun H locs hP hD hS => ?_)
  have hP : va_P D vwCl [(h0, .inr (6, [.int 2, v1, v2, v3, .ref h1, v4, v5, v6, v7, v8, v9, v10, v11, v12, v13, v14, v15, v16, v17, v18, v19, v20, v21, v22, v23, v24, v25])), (h1, .inl (a0, 2, .inl f0))] H := hP
  have hD : va_D A [(h0, .inr (6, [.int 2, v1, v2, v3, .ref h1, v4, v5, v6, v7, v8, v9, v10, v11, v12, v13, v14, v15, v16, v17, v18, v19, v20, v21, v22, v23, v24, v25])), (h1, .inl (a0, 2, .inl f0))] := hD
  refine lv_iconst (v := 0) hx hb dX6_restore_32 (by decide) ?_
  refine lv_istore_n (lv' := [(2, .int 0), (0, .ref h0), (1, .int 0)]) hx hb dX6_restore_33 rfl hl (by decide) rfl (fun ls hl => ?_)
  refine lv_aload_n hx hb dX6_restore_34 rfl (lv_at hl 1 rfl) ?_
  refine va_get (D := D) (ci := 6) (v := .int 2) (C := RX6) (T := TX6) (N := 27) hx hb hg inX6 hown hK hP 0 rfl rfl 0 (by decide) (hg _ k1219) (fun _ h9 => h9) rfl dX6_restore_35 ?_
  refine lv_if_ne (tgt := 72) hx hb dX6_restore_38 (by decide) (fun _ => ?_) (fun c9 => absurd c9 (by decide))
  exact fv hx hb hr hlocks hP hD hK hS (()) trivial [0, 1] [0] rfl (by decide) rfl (Nat.le_of_ble_eq_true rfl) (Nat.le_of_ble_eq_true rfl) dX6_restore_72
set_option maxHeartbeats 4000000 in
set_option maxRecDepth 100000 in
theorem cX6_restore_297 (l : Launch) (D : va_G) (h0 : Nat) (h1 : Nat) (v0 : Value) (v1 : Value) (v2 : Value) (v3 : Value) (v4 : Value) (v5 : Value) (v6 : Value) (v7 : Value) (v8 : Value) (v9 : Value) (v10 : Value) (v11 : Value) (v12 : Value) (v13 : Value) (v14 : Value) (v15 : Value) (v16 : Value) (v17 : Value) (v18 : Value) (v19 : Value) (v20 : Value) (v21 : Value) (v22 : Value) (v23 : Value) (v24 : Value) (v25 : Value) (f0 : Nat → Int32) (a0 : ClassId) (ef0_1 : f0 1 = 0)  : CT l yX6_restore cX6_restore 3 none { frames := 1, cells := 0, slots := 0, locals := 25 } [.ref h0, .int 1] D [(h0, .inr (6, [v0, v1, v2, v3, .ref h1, v4, v5, v6, v7, v8, v9, v10, v11, v12, v13, v14, v15, v16, v17, v18, v19, v20, v21, v22, v23, v24, v25])), (h1, .inl (a0, 2, .inl f0))] [(a0, .boolean)] XN [(h0, .inr (6, [v0, v1, v2, v3, .ref h1, v4, v5, v6, v7, v8, v9, v10, v11, v12, v13, v14, v15, v16, v17, v18, v19, v20, v21, v22, v23, v24, v25])), (h1, .inl (a0, 2, .inl f0))] (ev (fun _ : Unit => True) (fun _ => [(h0, .inr (6, [.int 2, v1, v2, v3, .ref h1, v4, v5, v6, v7, v8, v9, v10, v11, v12, v13, v14, v15, v16, v17, v18, v19, v20, v21, v22, v23, v24, v25])), (h1, .inl (a0, 2, .inl f0))]) (fun u => [(a0, .boolean)]) D) 0 0 := by
  refine CT.ofW (by decide +kernel) (Nat.le_of_ble_eq_true rfl) ?_
  intro p e s m below meth c A ls hcs hP hK hD hX hA hS hl
  obtain ⟨hx, hb, hr, hml, hown, hg, hlocks, hin⟩ := hcs
  have hown : s.vm.findClass RX6 = some m.cls := hown
  have hl : lv_has ls 3 [(0, .ref h0), (1, .int 1)] := hl
  refine lv_aload_n hx hb dX6_restore_0 rfl (lv_at hl 0 rfl) ?_
  refine lv_iload_n hx hb dX6_restore_1 rfl (lv_at hl 1 rfl) ?_
  refine lv_i2l (v := 1) hx hb dX6_restore_2 (by decide) ?_
  refine lv_lconst (v := 0) hx hb dX6_restore_3 (by decide) ?_
  refine lv_lconst (v := 1) hx hb dX6_restore_4 (by decide) ?_
  refine cSi (n := 3) (As := [.long 1, .long 0, .long 1]) (rest := [.ref h0]) (wr := [(h0, .inr (6, [v0, v1, v2, v3, .ref h1, v4, v5, v6, v7, v8, v9, v10, v11, v12, v13, v14, v15, v16, v17, v18, v19, v20, v21, v22, v23, v24, v25])), (h1, .inl (a0, 2, .inl f0))]) (tr := [(a0, .boolean)]) hx hb hml hown hg okN (cX6_in_82 l D) (mwS k1317 k1318 k92 k1319) ⟨rfl, by decide, by decide, by decide +kernel⟩ ⟨rfl, rfl, (Nat.le_of_ble_eq_true rfl), (Nat.le_of_ble_eq_true rfl)⟩ hP hD hK hS xn [] [] [0, 1] [] [0] rfl (by decide) rfl rfl (by decide) (by decide) rfl rfl (aNil hA hS) (aNil hA hS) rfl hl.1 rfl (Nat.le_of_ble_eq_true rfl) dX6_restore_5 ⟨(Nat.le_of_ble_eq_true rfl), (Nat.le_of_ble_eq_true rfl)⟩ (fun u H locs hφ hP hD hK hS hk => ?_)
  have hP : va_P D vwCl [(h0, .inr (6, [v0, v1, v2, v3, .ref h1, v4, v5, v6, v7, v8, v9, v10, v11, v12, v13, v14, v15, v16, v17, v18, v19, v20, v21, v22, v23, v24, v25])), (h1, .inl (a0, 2, .inl f0))] H := hP
  have hD : va_D A [(h0, .inr (6, [v0, v1, v2, v3, .ref h1, v4, v5, v6, v7, v8, v9, v10, v11, v12, v13, v14, v15, v16, v17, v18, v19, v20, v21, v22, v23, v24, v25])), (h1, .inl (a0, 2, .inl f0))] := hD
  have hK : va_K D vwCl [(a0, .boolean)] s := hK
  refine W.widen (k := 0) (n := 0) (Nat.le_of_ble_eq_true rfl) (Nat.le_of_ble_eq_true rfl) ?_
  refine lv_if_ne (tgt := 15) hx hb dX6_restore_8 (by decide) (fun _ => ?_) (fun c9 => absurd c9 (by decide))
  refine lv_aload_n hx hb dX6_restore_15 rfl (lv_at hl 0 rfl) ?_
  refine va_get (D := D) (ci := 6) (v := .ref h1) (C := RX6) (T := TX6) (N := 27) hx hb hg inX6 hown hK hP 0 rfl rfl 4 (by decide) (hg _ k1223) (fun _ h9 => h9) rfl dX6_restore_16 ?_
  refine lv_iload_n hx hb dX6_restore_19 rfl (lv_at hl 1 rfl) ?_
  refine aldZ hx hb hK hP 1 0 rfl rfl 1 (by decide) (vin (by decide)) (v := 0) ef0_1 dX6_restore_20 ?_
  refine lv_if_eq (tgt := 28) hx hb dX6_restore_21 (by decide) (fun _ => ?_) (fun c9 => absurd (by decide) c9)
  refine lv_iconst (v := 2) hx hb dX6_restore_28 (by decide) ?_
  refine va_put (D := D) (ci := 6) (v := .int 2) (ty := .int) (C := RX6) (T := TX6) (N := 27) hx hb hg inX6 tyX6 tyX6_ok nmX6 hown hK hP hD hS 0 rfl rfl 0 (by decide) (hg _ k1219) (fun _ h9 => h9) rfl (by decide +kernel) rfl rfl (Nat.le_of_ble_eq_true rfl) dX6_restore_29 (fun H locs hP hD hS => ?_)
  have hP : va_P D vwCl [(h0, .inr (6, [.int 2, v1, v2, v3, .ref h1, v4, v5, v6, v7, v8, v9, v10, v11, v12, v13, v14, v15, v16, v17, v18, v19, v20, v21, v22, v23, v24, v25])), (h1, .inl (a0, 2, .inl f0))] H := hP
  have hD : va_D A [(h0, .inr (6, [.int 2, v1, v2, v3, .ref h1, v4, v5, v6, v7, v8, v9, v10, v11, v12, v13, v14, v15, v16, v17, v18, v19, v20, v21, v22, v23, v24, v25])), (h1, .inl (a0, 2, .inl f0))] := hD
  refine lv_iconst (v := 0) hx hb dX6_restore_32 (by decide) ?_
  refine lv_istore_n (lv' := [(2, .int 0), (0, .ref h0), (1, .int 1)]) hx hb dX6_restore_33 rfl hl (by decide) rfl (fun ls hl => ?_)
  refine lv_aload_n hx hb dX6_restore_34 rfl (lv_at hl 1 rfl) ?_
  refine va_get (D := D) (ci := 6) (v := .int 2) (C := RX6) (T := TX6) (N := 27) hx hb hg inX6 hown hK hP 0 rfl rfl 0 (by decide) (hg _ k1219) (fun _ h9 => h9) rfl dX6_restore_35 ?_
  refine lv_if_ne (tgt := 72) hx hb dX6_restore_38 (by decide) (fun _ => ?_) (fun c9 => absurd c9 (by decide))
  exact fv hx hb hr hlocks hP hD hK hS (()) trivial [0, 1] [0] rfl (by decide) rfl (Nat.le_of_ble_eq_true rfl) (Nat.le_of_ble_eq_true rfl) dX6_restore_72
set_option maxHeartbeats 4000000 in
set_option maxRecDepth 100000 in
theorem cX6_restore_298 (l : Launch) (D : va_G) (h0 : Nat) (x0 : Int32) (v0 : Value) (v1 : Value) (v2 : Value) (v3 : Value) (v4 : Value) (v5 : Value) (v6 : Value) (v7 : Value) (v8 : Value) (v9 : Value) (v10 : Value) (v11 : Value) (v12 : Value) (v13 : Value) (v14 : Value) (v15 : Value) (v16 : Value) (v17 : Value) (v18 : Value) (v19 : Value) (v20 : Value) (v21 : Value) (v22 : Value) (v23 : Value) (v24 : Value) (v25 : Value) (v26 : Value)  (d0 : ¬ ((lg_cmp x0.toInt64 0) < 0)) (d1 : 0 < (lg_cmp x0.toInt64 1)) : CT l yX6_restore cX6_restore 3 none { frames := 1, cells := 0, slots := 0, locals := 25 } [.ref h0, .int x0] D [(h0, .inr (6, [v0, v1, v2, v3, v4, v5, v6, v7, v8, v9, v10, v11, v12, v13, v14, v15, v16, v17, v18, v19, v20, v21, v22, v23, v24, v25, v26]))] [] XN [(h0, .inr (6, [v0, v1, v2, v3, v4, v5, v6, v7, v8, v9, v10, v11, v12, v13, v14, v15, v16, v17, v18, v19, v20, v21, v22, v23, v24, v25, v26]))] (ev (fun _ : Unit => True) (fun _ => [(h0, .inr (6, [.int 1, v1, v2, v3, v4, v5, v6, v7, v8, v9, v10, v11, v12, v13, v14, v15, v16, v17, v18, v19, v20, v21, v22, v23, v24, v25, v26]))]) (fun u => []) D) 0 0 := by
  refine CT.ofW (by decide +kernel) (Nat.le_of_ble_eq_true rfl) ?_
  intro p e s m below meth c A ls hcs hP hK hD hX hA hS hl
  obtain ⟨hx, hb, hr, hml, hown, hg, hlocks, hin⟩ := hcs
  have hown : s.vm.findClass RX6 = some m.cls := hown
  have hl : lv_has ls 3 [(0, .ref h0), (1, .int x0)] := hl
  refine lv_aload_n hx hb dX6_restore_0 rfl (lv_at hl 0 rfl) ?_
  refine lv_iload_n hx hb dX6_restore_1 rfl (lv_at hl 1 rfl) ?_
  refine lv_i2l (v := x0.toInt64) hx hb dX6_restore_2 rfl ?_
  refine lv_lconst (v := 0) hx hb dX6_restore_3 (by decide) ?_
  refine lv_lconst (v := 1) hx hb dX6_restore_4 (by decide) ?_
  refine cSi (n := 3) (As := [.long x0.toInt64, .long 0, .long 1]) (rest := [.ref h0]) (wr := [(h0, .inr (6, [v0, v1, v2, v3, v4, v5, v6, v7, v8, v9, v10, v11, v12, v13, v14, v15, v16, v17, v18, v19, v20, v21, v22, v23, v24, v25, v26]))]) (tr := []) hx hb hml hown hg okN (cX6_in_61 l D x0 d0 d1) (mwS k1317 k1318 k92 k1319) ⟨rfl, by decide, by decide, by decide +kernel⟩ ⟨rfl, rfl, (Nat.le_of_ble_eq_true rfl), (Nat.le_of_ble_eq_true rfl)⟩ hP hD hK hS xn [] [] [0] [] [] rfl (by decide) rfl rfl (by decide) (by decide) rfl rfl (aNil hA hS) (aNil hA hS) rfl hl.1 rfl (Nat.le_of_ble_eq_true rfl) dX6_restore_5 ⟨(Nat.le_of_ble_eq_true rfl), (Nat.le_of_ble_eq_true rfl)⟩ (fun u H locs hφ hP hD hK hS hk => ?_)
  have hP : va_P D vwCl [(h0, .inr (6, [v0, v1, v2, v3, v4, v5, v6, v7, v8, v9, v10, v11, v12, v13, v14, v15, v16, v17, v18, v19, v20, v21, v22, v23, v24, v25, v26]))] H := hP
  have hD : va_D A [(h0, .inr (6, [v0, v1, v2, v3, v4, v5, v6, v7, v8, v9, v10, v11, v12, v13, v14, v15, v16, v17, v18, v19, v20, v21, v22, v23, v24, v25, v26]))] := hD
  have hK : va_K D vwCl [] s := hK
  refine W.widen (k := 0) (n := 0) (Nat.le_of_ble_eq_true rfl) (Nat.le_of_ble_eq_true rfl) ?_
  refine lv_if_ne (tgt := 15) hx hb dX6_restore_8 (by decide) (fun c9 => absurd (by decide) c9) (fun _ => ?_)
  refine lv_iconst (v := 1) hx hb dX6_restore_11 (by decide) ?_
  refine lv_goto (tgt := 29) hx hb dX6_restore_12 (by decide) ?_
  refine va_put (D := D) (ci := 6) (v := .int 1) (ty := .int) (C := RX6) (T := TX6) (N := 27) hx hb hg inX6 tyX6 tyX6_ok nmX6 hown hK hP hD hS 0 rfl rfl 0 (by decide) (hg _ k1219) (fun _ h9 => h9) rfl (by decide +kernel) rfl rfl (Nat.le_of_ble_eq_true rfl) dX6_restore_29 (fun H locs hP hD hS => ?_)
  have hP : va_P D vwCl [(h0, .inr (6, [.int 1, v1, v2, v3, v4, v5, v6, v7, v8, v9, v10, v11, v12, v13, v14, v15, v16, v17, v18, v19, v20, v21, v22, v23, v24, v25, v26]))] H := hP
  have hD : va_D A [(h0, .inr (6, [.int 1, v1, v2, v3, v4, v5, v6, v7, v8, v9, v10, v11, v12, v13, v14, v15, v16, v17, v18, v19, v20, v21, v22, v23, v24, v25, v26]))] := hD
  refine lv_iconst (v := 0) hx hb dX6_restore_32 (by decide) ?_
  refine lv_istore_n (lv' := [(2, .int 0), (0, .ref h0), (1, .int x0)]) hx hb dX6_restore_33 rfl hl (by decide) rfl (fun ls hl => ?_)
  refine lv_aload_n hx hb dX6_restore_34 rfl (lv_at hl 1 rfl) ?_
  refine va_get (D := D) (ci := 6) (v := .int 1) (C := RX6) (T := TX6) (N := 27) hx hb hg inX6 hown hK hP 0 rfl rfl 0 (by decide) (hg _ k1219) (fun _ h9 => h9) rfl dX6_restore_35 ?_
  refine lv_if_ne (tgt := 72) hx hb dX6_restore_38 (by decide) (fun _ => ?_) (fun c9 => absurd c9 (by decide))
  exact fv hx hb hr hlocks hP hD hK hS (()) trivial [0] [] rfl (by decide) rfl (Nat.le_of_ble_eq_true rfl) (Nat.le_of_ble_eq_true rfl) dX6_restore_72
