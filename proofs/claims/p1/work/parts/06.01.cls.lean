set_option maxHeartbeats 4000000 in
set_option maxRecDepth 100000 in
theorem cJ9_floorDiv_f86c9_393 (l : Launch) (D : va_G)    : CT l yJ9_floorDiv_f86c9 cJ9_floorDiv_f86c9 6 (some .long) { frames := 0, cells := 0, slots := 0, locals := 0 } [.long 0, .long 1] D [] [] XN [] (el (fun _ : Unit => True) (fun _ => 0) (fun _ => []) (fun _ => []) D) 0 0 := by
  refine CT.ofF (by decide +kernel) (Nat.le_of_ble_eq_true rfl) ?_
  intro p e s m below meth c A ls hcs hP hK hD hX hA hS hl
  obtain ⟨hx, hb, hr, hml, hown, hg, hlocks, hin⟩ := hcs
  have hown : s.vm.findClass RJ9 = some m.cls := hown
  have hl : lv_has ls 6 [(0, .long 0), (2, .long 1)] := hl
  refine lv_lload_n hx hb dJ9_floorDiv_f86c9_0 rfl (lv_at hl 0 rfl) ?_
  refine lv_lload_n hx hb dJ9_floorDiv_f86c9_1 rfl (lv_at hl 1 rfl) ?_
  refine lv_ldiv hx hb dJ9_floorDiv_f86c9_2 (by decide) ?_
  refine tl (0) (by decide) ?_
  refine lv_lstore (lv' := [(4, .long 0), (0, .long 0), (2, .long 1)]) hx hb dJ9_floorDiv_f86c9_3 hl (by decide) rfl (fun ls hl => ?_)
  refine lv_lload_n hx hb dJ9_floorDiv_f86c9_5 rfl (lv_at hl 1 rfl) ?_
  refine lv_lload_n hx hb dJ9_floorDiv_f86c9_6 rfl (lv_at hl 2 rfl) ?_
  refine lv_lxor hx hb dJ9_floorDiv_f86c9_7 ?_
  refine tl (1) (by decide) ?_
  refine lv_lconst (v := 0) hx hb dJ9_floorDiv_f86c9_8 (by decide) ?_
  refine W.lcmp hx hb dJ9_floorDiv_f86c9_9 ?_
  refine ti (1) (by decide) ?_
  refine lv_if_ge (tgt := 27) hx hb dJ9_floorDiv_f86c9_10 (by decide) (fun _ => ?_) (fun c9 => absurd (by decide) c9)
  refine lv_lload hx hb dJ9_floorDiv_f86c9_27 (lv_at hl 0 rfl) ?_
  exact fl0 hx hb hr hlocks hK hS (Nat.le_of_ble_eq_true rfl) (Nat.le_of_ble_eq_true rfl) dJ9_floorDiv_f86c9_29
set_option maxHeartbeats 4000000 in
set_option maxRecDepth 100000 in
theorem cX4_scale_392 (l : Launch) (D : va_G) (h0 : Nat) (h1 : Nat) (f0 : Nat → Int32) (a0 : ClassId) (ef0_0 : f0 0 = 0)  : CT l yX4_scale cX4_scale 6 none { frames := 1, cells := 0, slots := 0, locals := 25 } [.ref h0, .long 0, .long 1] D [(h0, .inr (4, [.ref h1, .int 0, .int 0])), (h1, .inl (a0, 2, .inl f0))] [(a0, .int)] XN [(h0, .inr (4, [.ref h1, .int 0, .int 0])), (h1, .inl (a0, 2, .inl f0))] (ev (fun _ : Unit => True) (fun _ => [(h0, .inr (4, [.ref h1, .int 0, .int 0])), (h1, .inl (a0, 2, .inl (upd (upd f0 0 0) 1 0)))]) (fun u => [(a0, .int)]) D) 0 0 := by
  refine CT.ofW (by decide +kernel) (Nat.le_of_ble_eq_true rfl) ?_
  intro p e s m below meth c A ls hcs hP hK hD hX hA hS hl
  obtain ⟨hx, hb, hr, hml, hown, hg, hlocks, hin⟩ := hcs
  have hown : s.vm.findClass RX4 = some m.cls := hown
  have hl : lv_has ls 6 [(0, .ref h0), (1, .long 0), (3, .long 1)] := hl
  refine lv_lload_n hx hb dX4_scale_0 rfl (lv_at hl 2 rfl) ?_
  refine lv_lconst (v := 0) hx hb dX4_scale_1 (by decide) ?_
  refine W.lcmp hx hb dX4_scale_2 ?_
  refine ti (1) (by decide) ?_
  refine lv_if_gt (tgt := 7) hx hb dX4_scale_3 (by decide) (fun _ => ?_) (fun c9 => absurd (by decide) c9)
  refine lv_aload_n hx hb dX4_scale_7 rfl (lv_at hl 0 rfl) ?_
  refine va_get (D := D) (ci := 4) (v := .int 0) (C := RX4) (T := TX4) (N := 3) hx hb hg inX4 hown hK hP 0 rfl rfl 1 (by decide) (hg _ k210) (fun _ h9 => h9) rfl dX4_scale_8 ?_
  refine lv_iconst (v := 1) hx hb dX4_scale_11 (by decide) ?_
  refine lv_icmp_gt (tgt := 30) hx hb dX4_scale_12 (by decide) (fun c9 => absurd c9 (by decide)) (fun _ => ?_)
  refine lv_aload_n hx hb dX4_scale_15 rfl (lv_at hl 0 rfl) ?_
  refine lv_aload_n hx hb dX4_scale_16 rfl (lv_at hl 0 rfl) ?_
  refine cVl (n := 0) (As := []) (rest := [.ref h0]) (wr := [(h0, .inr (4, [.ref h1, .int 0, .int 0])), (h1, .inl (a0, 2, .inl f0))]) (tr := [(a0, .int)]) hx hb hml hown hg okN (cX4_lowest_390 l D h0 h1 (.int 0) f0 a0 ef0_0) (mwV k344 k346 k0 k88 k347) ⟨rfl, by decide, by decide, by decide +kernel⟩ ⟨rfl, rfl, (Nat.le_of_ble_eq_true rfl), (Nat.le_of_ble_eq_true rfl)⟩ hP hD hK hS xn [0, 1] [] [0, 1] [0] [0] rfl (by decide) rfl rfl (by decide) (by decide) rfl rfl (aNil hA hS) (aNil hA hS) 0 rfl rfl rfl hl.1 rfl (Nat.le_of_ble_eq_true rfl) dX4_scale_17 ⟨(Nat.le_of_ble_eq_true rfl), (Nat.le_of_ble_eq_true rfl)⟩ (fun u H locs hφ hP hD hK hS hk => ?_)
  have hP : va_P D vwCl [(h0, .inr (4, [.ref h1, .int 0, .int 0])), (h1, .inl (a0, 2, .inl f0))] H := hP
  have hD : va_D A [(h0, .inr (4, [.ref h1, .int 0, .int 0])), (h1, .inl (a0, 2, .inl f0))] := hD
  have hK : va_K D vwCl [(a0, .int)] s := hK
  refine W.widen (k := 0) (n := 0) (Nat.le_of_ble_eq_true rfl) (Nat.le_of_ble_eq_true rfl) ?_
  refine lv_lload_n hx hb dX4_scale_20 rfl (lv_at hl 1 rfl) ?_
  refine lv_lmul hx hb dX4_scale_21 ?_
  refine tl (0) (by decide) ?_
  refine lv_lload_n hx hb dX4_scale_22 rfl (lv_at hl 2 rfl) ?_
  refine cTl (n := 2) (As := [.long 0, .long 1]) (rest := [.ref h0]) (wr := [(h0, .inr (4, [.ref h1, .int 0, .int 0])), (h1, .inl (a0, 2, .inl f0))]) (tr := [(a0, .int)]) hx hb hml hown hg okN (cJ9_floorDiv_f86c9_393 l D) (mwI k557) ⟨by decide, by decide, by decide +kernel⟩ k90 k555 k556 ⟨rfl, rfl, (Nat.le_of_ble_eq_true rfl), (Nat.le_of_ble_eq_true rfl)⟩ hP hD hK hS xn [] [] [0, 1] [] [0] rfl (by decide) rfl rfl (by decide) (by decide) rfl rfl (aNil hA hS) (aNil hA hS) rfl hl.1 rfl (Nat.le_of_ble_eq_true rfl) dX4_scale_23 ⟨(Nat.le_of_ble_eq_true rfl), (Nat.le_of_ble_eq_true rfl)⟩ (fun u H locs hφ hP hD hK hS hk => ?_)
  have hP : va_P D vwCl [(h0, .inr (4, [.ref h1, .int 0, .int 0])), (h1, .inl (a0, 2, .inl f0))] H := hP
  have hD : va_D A [(h0, .inr (4, [.ref h1, .int 0, .int 0])), (h1, .inl (a0, 2, .inl f0))] := hD
  have hK : va_K D vwCl [(a0, .int)] s := hK
  refine W.widen (k := 0) (n := 0) (Nat.le_of_ble_eq_true rfl) (Nat.le_of_ble_eq_true rfl) ?_
  refine cVv (n := 1) (As := [.long 0]) (rest := []) (wr := []) (tr := []) hx hb hml hown hg okN (cX4_become_391 l D h0 h1 (.int 0) (.int 0) f0 a0) (mwV k349 k275 k276 k88 k277) ⟨rfl, by decide, by decide, by decide +kernel⟩ ⟨rfl, rfl, (Nat.le_of_ble_eq_true rfl), (Nat.le_of_ble_eq_true rfl)⟩ hP hD hK hS xn [0, 1] [0, 1] [] [0] [] rfl (by decide) rfl rfl (by decide) (by decide) rfl rfl (va_free hD hS hA [0, 1] rfl) (va_free hD hS hA [0, 1] rfl) 0 rfl rfl rfl hl.1 rfl (Nat.le_of_ble_eq_true rfl) dX4_scale_26 ⟨(Nat.le_of_ble_eq_true rfl), (Nat.le_of_ble_eq_true rfl)⟩ (fun u H locs hφ hP hD hK hS hk => ?_)
  have hP : va_P D vwCl [(h0, .inr (4, [.ref h1, .int 0, .int 0])), (h1, .inl (a0, 2, .inl (upd (upd f0 0 0) 1 0)))] H := hP
  have hD : va_D A [(h0, .inr (4, [.ref h1, .int 0, .int 0])), (h1, .inl (a0, 2, .inl (upd (upd f0 0 0) 1 0)))] := hD
  have hK : va_K D vwCl [(a0, .int)] s := hK
  refine W.widen (k := 0) (n := 0) (Nat.le_of_ble_eq_true rfl) (Nat.le_of_ble_eq_true rfl) ?_
  exact fv hx hb hr hlocks hP hD hK hS (()) trivial [0, 1] [0] rfl (by decide) rfl (Nat.le_of_ble_eq_true rfl) (Nat.le_of_ble_eq_true rfl) dX4_scale_29
set_option maxHeartbeats 4000000 in
set_option maxRecDepth 100000 in
theorem cX4_add_394 (l : Launch) (D : va_G) (h0 : Nat) (h1 : Nat) (h2 : Nat) (h3 : Nat) (f0 : Nat → Int32) (f1 : Nat → Int32) (a0 : ClassId) (a1 : ClassId) (ef0_0 : f0 0 = 0) (ef1_0 : f1 0 = 0)  : CT l yX4_add cX4_add 7 none { frames := 1, cells := 0, slots := 0, locals := 24 } [.ref h0, .ref h1, .long 1] D [(h0, .inr (4, [.ref h2, .int 0, .int 0])), (h1, .inr (4, [.ref h3, .int 0, .int 0])), (h2, .inl (a0, 2, .inl f0)), (h3, .inl (a1, 2, .inl f1))] [(a0, .int), (a1, .int)] XN [(h0, .inr (4, [.ref h2, .int 0, .int 0])), (h1, .inr (4, [.ref h3, .int 0, .int 0])), (h2, .inl (a0, 2, .inl f0)), (h3, .inl (a1, 2, .inl f1))] (ev (fun _ : Unit => True) (fun _ => [(h0, .inr (4, [.ref h2, .int 0, .int 0])), (h1, .inr (4, [.ref h3, .int 0, .int 0])), (h2, .inl (a0, 2, .inl (upd (upd f0 0 0) 1 0))), (h3, .inl (a1, 2, .inl f1))]) (fun u => [(a0, .int), (a1, .int)]) D) 0 0 := by
  refine CT.ofW (by decide +kernel) (Nat.le_of_ble_eq_true rfl) ?_
  intro p e s m below meth c A ls hcs hP hK hD hX hA hS hl
  obtain ⟨hx, hb, hr, hml, hown, hg, hlocks, hin⟩ := hcs
  have hown : s.vm.findClass RX4 = some m.cls := hown
  have hl : lv_has ls 7 [(0, .ref h0), (1, .ref h1), (2, .long 1)] := hl
  refine lv_aload_n hx hb dX4_add_0 rfl (lv_at hl 0 rfl) ?_
  refine va_get (D := D) (ci := 4) (v := .int 0) (C := RX4) (T := TX4) (N := 3) hx hb hg inX4 hown hK hP 0 rfl rfl 1 (by decide) (hg _ k210) (fun _ h9 => h9) rfl dX4_add_1 ?_
  refine lv_iconst (v := 1) hx hb dX4_add_4 (by decide) ?_
  refine lv_icmp_gt (tgt := 32) hx hb dX4_add_5 (by decide) (fun c9 => absurd c9 (by decide)) (fun _ => ?_)
  refine lv_aload_n hx hb dX4_add_8 rfl (lv_at hl 1 rfl) ?_
  refine va_get (D := D) (ci := 4) (v := .int 0) (C := RX4) (T := TX4) (N := 3) hx hb hg inX4 hown hK hP 1 rfl rfl 1 (by decide) (hg _ k210) (fun _ h9 => h9) rfl dX4_add_9 ?_
  refine lv_iconst (v := 1) hx hb dX4_add_12 (by decide) ?_
  refine lv_icmp_gt (tgt := 32) hx hb dX4_add_13 (by decide) (fun c9 => absurd c9 (by decide)) (fun _ => ?_)
  refine lv_aload_n hx hb dX4_add_16 rfl (lv_at hl 0 rfl) ?_
  refine lv_aload_n hx hb dX4_add_17 rfl (lv_at hl 0 rfl) ?_
  refine cVl (n := 0) (As := []) (rest := [.ref h0]) (wr := [(h0, .inr (4, [.ref h2, .int 0, .int 0])), (h1, .inr (4, [.ref h3, .int 0, .int 0])), (h2, .inl (a0, 2, .inl f0)), (h3, .inl (a1, 2, .inl f1))]) (tr := [(a0, .int), (a1, .int)]) hx hb hml hown hg okN (cX4_lowest_390 l D h0 h2 (.int 0) f0 a0 ef0_0) (mwV k344 k346 k0 k88 k347) ⟨rfl, by decide, by decide, by decide +kernel⟩ ⟨rfl, rfl, (Nat.le_of_ble_eq_true rfl), (Nat.le_of_ble_eq_true rfl)⟩ hP hD hK hS xn [0, 2] [] [0, 1, 2, 3] [0] [0, 1] rfl (by decide) rfl rfl (by decide) (by decide) rfl rfl (aNil hA hS) (aNil hA hS) 0 rfl rfl rfl hl.1 rfl (Nat.le_of_ble_eq_true rfl) dX4_add_18 ⟨(Nat.le_of_ble_eq_true rfl), (Nat.le_of_ble_eq_true rfl)⟩ (fun u H locs hφ hP hD hK hS hk => ?_)
  have hP : va_P D vwCl [(h0, .inr (4, [.ref h2, .int 0, .int 0])), (h1, .inr (4, [.ref h3, .int 0, .int 0])), (h2, .inl (a0, 2, .inl f0)), (h3, .inl (a1, 2, .inl f1))] H := hP
  have hD : va_D A [(h0, .inr (4, [.ref h2, .int 0, .int 0])), (h1, .inr (4, [.ref h3, .int 0, .int 0])), (h2, .inl (a0, 2, .inl f0)), (h3, .inl (a1, 2, .inl f1))] := hD
  have hK : va_K D vwCl [(a0, .int), (a1, .int)] s := hK
  refine W.widen (k := 0) (n := 0) (Nat.le_of_ble_eq_true rfl) (Nat.le_of_ble_eq_true rfl) ?_
  refine lv_aload_n hx hb dX4_add_21 rfl (lv_at hl 1 rfl) ?_
  refine cVl (n := 0) (As := []) (rest := [.long 0, .ref h0]) (wr := [(h0, .inr (4, [.ref h2, .int 0, .int 0])), (h1, .inr (4, [.ref h3, .int 0, .int 0])), (h2, .inl (a0, 2, .inl f0)), (h3, .inl (a1, 2, .inl f1))]) (tr := [(a0, .int), (a1, .int)]) hx hb hml hown hg okN (cX4_lowest_390 l D h1 h3 (.int 0) f1 a1 ef1_0) (mwV k344 k346 k0 k88 k347) ⟨rfl, by decide, by decide, by decide +kernel⟩ ⟨rfl, rfl, (Nat.le_of_ble_eq_true rfl), (Nat.le_of_ble_eq_true rfl)⟩ hP hD hK hS xn [1, 3] [] [0, 1, 2, 3] [1] [0, 1] rfl (by decide) rfl rfl (by decide) (by decide) rfl rfl (aNil hA hS) (aNil hA hS) 1 rfl rfl rfl hl.1 rfl (Nat.le_of_ble_eq_true rfl) dX4_add_22 ⟨(Nat.le_of_ble_eq_true rfl), (Nat.le_of_ble_eq_true rfl)⟩ (fun u H locs hφ hP hD hK hS hk => ?_)
  have hP : va_P D vwCl [(h0, .inr (4, [.ref h2, .int 0, .int 0])), (h1, .inr (4, [.ref h3, .int 0, .int 0])), (h2, .inl (a0, 2, .inl f0)), (h3, .inl (a1, 2, .inl f1))] H := hP
  have hD : va_D A [(h0, .inr (4, [.ref h2, .int 0, .int 0])), (h1, .inr (4, [.ref h3, .int 0, .int 0])), (h2, .inl (a0, 2, .inl f0)), (h3, .inl (a1, 2, .inl f1))] := hD
  have hK : va_K D vwCl [(a0, .int), (a1, .int)] s := hK
  refine W.widen (k := 0) (n := 0) (Nat.le_of_ble_eq_true rfl) (Nat.le_of_ble_eq_true rfl) ?_
  refine lv_lload_n hx hb dX4_add_25 rfl (lv_at hl 2 rfl) ?_
  refine lv_lmul hx hb dX4_add_26 ?_
  refine tl (0) (by decide) ?_
  refine lv_ladd hx hb dX4_add_27 ?_
  refine tl (0) (by decide) ?_
  refine cVv (n := 1) (As := [.long 0]) (rest := []) (wr := [(h1, .inr (4, [.ref h3, .int 0, .int 0])), (h3, .inl (a1, 2, .inl f1))]) (tr := [(a1, .int)]) hx hb hml hown hg okN (cX4_become_391 l D h0 h2 (.int 0) (.int 0) f0 a0) (mwV k349 k275 k276 k88 k277) ⟨rfl, by decide, by decide, by decide +kernel⟩ ⟨rfl, rfl, (Nat.le_of_ble_eq_true rfl), (Nat.le_of_ble_eq_true rfl)⟩ hP hD hK hS xn [0, 2] [0, 2] [1, 3] [0] [1] rfl (by decide) rfl rfl (by decide) (by decide) rfl rfl (va_free hD hS hA [0, 2] rfl) (va_free hD hS hA [0, 2] rfl) 0 rfl rfl rfl hl.1 rfl (Nat.le_of_ble_eq_true rfl) dX4_add_28 ⟨(Nat.le_of_ble_eq_true rfl), (Nat.le_of_ble_eq_true rfl)⟩ (fun u H locs hφ hP hD hK hS hk => ?_)
  have hP : va_P D vwCl [(h1, .inr (4, [.ref h3, .int 0, .int 0])), (h3, .inl (a1, 2, .inl f1)), (h0, .inr (4, [.ref h2, .int 0, .int 0])), (h2, .inl (a0, 2, .inl (upd (upd f0 0 0) 1 0)))] H := hP
  have hD : va_D A [(h1, .inr (4, [.ref h3, .int 0, .int 0])), (h3, .inl (a1, 2, .inl f1)), (h0, .inr (4, [.ref h2, .int 0, .int 0])), (h2, .inl (a0, 2, .inl (upd (upd f0 0 0) 1 0)))] := hD
  have hK : va_K D vwCl [(a1, .int), (a0, .int)] s := hK
  refine W.widen (k := 0) (n := 0) (Nat.le_of_ble_eq_true rfl) (Nat.le_of_ble_eq_true rfl) ?_
  exact fv hx hb hr hlocks hP hD hK hS (()) trivial [2, 0, 3, 1] [1, 0] rfl (by decide) rfl (Nat.le_of_ble_eq_true rfl) (Nat.le_of_ble_eq_true rfl) dX4_add_31
set_option maxHeartbeats 4000000 in
set_option maxRecDepth 100000 in
theorem cX1_predictInto_387 (l : Launch) (D : va_G) (h0 : Nat) (h1 : Nat) (h2 : Nat) (h3 : Nat) (h4 : Nat) (h5 : Nat) (h6 : Nat) (h7 : Nat) (h8 : Nat) (h9 : Nat) (v0 : Value) (v1 : Value) (v2 : Value) (v3 : Value) (v4 : Value) (v5 : Value) (v6 : Value) (v7 : Value) (v8 : Value) (v9 : Value) (v10 : Value) (v11 : Value) (v12 : Value) (f0 : Nat → Option Nat) (f1 : Nat → Int32) (f2 : Nat → Int32) (f3 : Nat → Int32) (v13 : Value) (v14 : Value) (v15 : Value) (v16 : Value) (v17 : Value) (v18 : Value) (f4 : Nat → Int32) (a0 : ClassId) (a1 : ClassId) (a2 : ClassId) (a3 : ClassId) (a4 : ClassId) (ef0_0 : f0 0 = some h6) (ef0_1 : f0 1 = some h3) (ef1_0 : f1 0 = 0) (ef3_0 : f3 0 = 0) (ef4_0 : f4 0 = 0) (ef4_1 : f4 1 = 1)  : CT l yX1_predictInto cX1_predictInto 6 none { frames := 2, cells := 0, slots := 0, locals := 50 } [.ref h0, .ref h1, .int 2, .int 0, .int 0, .int 1] D [(h0, .inr (1, [.ref h8, .ref h2, v0, v1, v2, v3, v4, v5, v6, v7, v8, v9, v10])), (h1, .inr (4, [.ref h5, v11, v12])), (h2, .inl (a0, 48, .inr (.inr (.inr (.inr f0))))), (h3, .inr (4, [.ref h4, .int 0, .int 0])), (h4, .inl (a1, 2, .inl f1)), (h5, .inl (a2, 2, .inl f2)), (h6, .inr (4, [.ref h7, .int 0, .int 0])), (h7, .inl (a3, 2, .inl f3)), (h8, .inr (0, [.ref h9, v13, v14, v15, v16, v17, v18])), (h9, .inl (a4, 48, .inl f4))] [(a0, .object "LiftingSignal$Whole"), (a1, .int), (a2, .int), (a3, .int), (a4, .int)] XN [(h0, .inr (1, [.ref h8, .ref h2, v0, v1, v2, v3, v4, v5, v6, v7, v8, v9, v10])), (h1, .inr (4, [.ref h5, v11, v12])), (h2, .inl (a0, 48, .inr (.inr (.inr (.inr f0))))), (h3, .inr (4, [.ref h4, .int 0, .int 0])), (h4, .inl (a1, 2, .inl f1)), (h5, .inl (a2, 2, .inl f2)), (h6, .inr (4, [.ref h7, .int 0, .int 0])), (h7, .inl (a3, 2, .inl f3)), (h8, .inr (0, [.ref h9, v13, v14, v15, v16, v17, v18])), (h9, .inl (a4, 48, .inl f4))] (ev (fun _ : Unit => True) (fun _ => [(h0, .inr (1, [.ref h8, .ref h2, v0, v1, v2, v3, v4, v5, v6, v7, v8, v9, v10])), (h1, .inr (4, [.ref h5, .int 0, .int 0])), (h2, .inl (a0, 48, .inr (.inr (.inr (.inr f0))))), (h3, .inr (4, [.ref h4, .int 0, .int 0])), (h4, .inl (a1, 2, .inl f1)), (h5, .inl (a2, 2, .inl (upd (upd (upd (upd (upd (upd (upd f2 0 0) 0 0) 1 0) 0 0) 1 0) 0 0) 1 0))), (h6, .inr (4, [.ref h7, .int 0, .int 0])), (h7, .inl (a3, 2, .inl f3)), (h8, .inr (0, [.ref h9, v13, v14, v15, v16, v17, v18])), (h9, .inl (a4, 48, .inl f4))]) (fun u => [(a0, .object "LiftingSignal$Whole"), (a1, .int), (a2, .int), (a3, .int), (a4, .int)]) D) 0 0 := by
  refine CT.ofW (by decide +kernel) (Nat.le_of_ble_eq_true rfl) ?_
  intro p e s m below meth c A ls hcs hP hK hD hX hA hS hl
  obtain ⟨hx, hb, hr, hml, hown, hg, hlocks, hin⟩ := hcs
  have hown : s.vm.findClass RX1 = some m.cls := hown
  have hl : lv_has ls 6 [(0, .ref h0), (1, .ref h1), (2, .int 2), (3, .int 0), (4, .int 0), (5, .int 1)] := hl
  refine lv_iload_n hx hb dX1_predictInto_0 rfl (lv_at hl 2 rfl) ?_
  refine lv_if_eq (tgt := 21) hx hb dX1_predictInto_1 (by decide) (fun c9 => absurd c9 (by decide)) (fun _ => ?_)
  refine lv_iload_n hx hb dX1_predictInto_4 rfl (lv_at hl 2 rfl) ?_
  refine lv_iconst (v := 1) hx hb dX1_predictInto_5 (by decide) ?_
  refine lv_icmp_ne (tgt := 32) hx hb dX1_predictInto_6 (by decide) (fun _ => ?_) (fun c9 => absurd c9 (by decide))
  refine lv_aload_n hx hb dX1_predictInto_32 rfl (lv_at hl 1 rfl) ?_
  refine lv_aload_n hx hb dX1_predictInto_33 rfl (lv_at hl 0 rfl) ?_
  refine va_get (D := D) (ci := 1) (v := .ref h2) (C := RX1) (T := TX1) (N := 13) hx hb hg inX1 hown hK hP 0 rfl rfl 1 (by decide) (hg _ k279) (fun _ h9 => h9) rfl dX1_predictInto_34 ?_
  refine lv_iload hx hb dX1_predictInto_37 (lv_at hl 5 rfl) ?_
  refine aldQ hx hb hK hP 2 0 rfl rfl 1 (by decide) (vin (by decide)) (v := h3) ef0_1 dX1_predictInto_39 ?_
  refine cVv (n := 1) (As := [.ref h3]) (rest := []) (wr := [(h0, .inr (1, [.ref h8, .ref h2, v0, v1, v2, v3, v4, v5, v6, v7, v8, v9, v10])), (h2, .inl (a0, 48, .inr (.inr (.inr (.inr f0))))), (h6, .inr (4, [.ref h7, .int 0, .int 0])), (h7, .inl (a3, 2, .inl f3)), (h8, .inr (0, [.ref h9, v13, v14, v15, v16, v17, v18])), (h9, .inl (a4, 48, .inl f4))]) (tr := [(a0, .object "LiftingSignal$Whole"), (a3, .int), (a4, .int)]) hx hb hml hown hg okN (cX4_copyFrom_388 l D h1 h3 h4 h5 v11 v12 f1 f2 a1 a2 ef1_0) (mwV k455 k456 k457 k88 k458) ⟨rfl, by decide, by decide, by decide +kernel⟩ ⟨rfl, rfl, (Nat.le_of_ble_eq_true rfl), (Nat.le_of_ble_eq_true rfl)⟩ hP hD hK hS xn [1, 3, 4, 5] [1, 3, 4, 5] [0, 2, 6, 7, 8, 9] [1, 2] [0, 3, 4] rfl (by decide) rfl rfl (by decide) (by decide) rfl rfl (va_free hD hS hA [1, 3, 4, 5] rfl) (va_free hD hS hA [1, 3, 4, 5] rfl) 1 rfl rfl rfl hl.1 rfl (Nat.le_of_ble_eq_true rfl) dX1_predictInto_40 ⟨(Nat.le_of_ble_eq_true rfl), (Nat.le_of_ble_eq_true rfl)⟩ (fun u H locs hφ hP hD hK hS hk => ?_)
  have hP : va_P D vwCl [(h0, .inr (1, [.ref h8, .ref h2, v0, v1, v2, v3, v4, v5, v6, v7, v8, v9, v10])), (h2, .inl (a0, 48, .inr (.inr (.inr (.inr f0))))), (h6, .inr (4, [.ref h7, .int 0, .int 0])), (h7, .inl (a3, 2, .inl f3)), (h8, .inr (0, [.ref h9, v13, v14, v15, v16, v17, v18])), (h9, .inl (a4, 48, .inl f4)), (h1, .inr (4, [.ref h5, .int 0, .int 0])), (h3, .inr (4, [.ref h4, .int 0, .int 0])), (h4, .inl (a1, 2, .inl f1)), (h5, .inl (a2, 2, .inl (upd f2 0 0)))] H := hP
  have hD : va_D A [(h0, .inr (1, [.ref h8, .ref h2, v0, v1, v2, v3, v4, v5, v6, v7, v8, v9, v10])), (h2, .inl (a0, 48, .inr (.inr (.inr (.inr f0))))), (h6, .inr (4, [.ref h7, .int 0, .int 0])), (h7, .inl (a3, 2, .inl f3)), (h8, .inr (0, [.ref h9, v13, v14, v15, v16, v17, v18])), (h9, .inl (a4, 48, .inl f4)), (h1, .inr (4, [.ref h5, .int 0, .int 0])), (h3, .inr (4, [.ref h4, .int 0, .int 0])), (h4, .inl (a1, 2, .inl f1)), (h5, .inl (a2, 2, .inl (upd f2 0 0)))] := hD
  have hK : va_K D vwCl [(a0, .object "LiftingSignal$Whole"), (a3, .int), (a4, .int), (a1, .int), (a2, .int)] s := hK
  refine W.widen (k := 0) (n := 0) (Nat.le_of_ble_eq_true rfl) (Nat.le_of_ble_eq_true rfl) ?_
  refine lv_iload_n hx hb dX1_predictInto_43 rfl (lv_at hl 2 rfl) ?_
  refine lv_iconst (v := 2) hx hb dX1_predictInto_44 (by decide) ?_
  refine lv_icmp_ne (tgt := 110) hx hb dX1_predictInto_45 (by decide) (fun c9 => absurd (by decide) c9) (fun _ => ?_)
  refine lv_aload_n hx hb dX1_predictInto_48 rfl (lv_at hl 1 rfl) ?_
  refine lv_aload_n hx hb dX1_predictInto_49 rfl (lv_at hl 0 rfl) ?_
  refine va_get (D := D) (ci := 1) (v := .ref h2) (C := RX1) (T := TX1) (N := 13) hx hb hg inX1 hown hK hP 0 rfl rfl 1 (by decide) (hg _ k279) (fun _ h9 => h9) rfl dX1_predictInto_50 ?_
  refine lv_iload_n hx hb dX1_predictInto_53 rfl (lv_at hl 3 rfl) ?_
  refine aldQ hx hb hK hP 1 0 rfl rfl 0 (by decide) (vin (by decide)) (v := h6) ef0_0 dX1_predictInto_54 ?_
  refine lv_ldc2 hx hb hown (hg _ k550) dX1_predictInto_55 ?_
  refine cVv (n := 2) (As := [.ref h6, .long (-1)]) (rest := []) (wr := [(h0, .inr (1, [.ref h8, .ref h2, v0, v1, v2, v3, v4, v5, v6, v7, v8, v9, v10])), (h2, .inl (a0, 48, .inr (.inr (.inr (.inr f0))))), (h8, .inr (0, [.ref h9, v13, v14, v15, v16, v17, v18])), (h9, .inl (a4, 48, .inl f4)), (h3, .inr (4, [.ref h4, .int 0, .int 0])), (h4, .inl (a1, 2, .inl f1))]) (tr := [(a0, .object "LiftingSignal$Whole"), (a4, .int), (a1, .int)]) hx hb hml hown hg okN (cX4_add_389 l D h1 h6 h5 h7 (upd f2 0 0) f3 a2 a3 rfl ef3_0) (mwV k340 k341 k342 k88 k343) ⟨rfl, by decide, by decide, by decide +kernel⟩ ⟨rfl, rfl, (Nat.le_of_ble_eq_true rfl), (Nat.le_of_ble_eq_true rfl)⟩ hP hD hK hS xn [6, 2, 9, 3] [6, 2, 9, 3] [0, 1, 4, 5, 7, 8] [4, 1] [0, 2, 3] rfl (by decide) rfl rfl (by decide) (by decide) rfl rfl (va_free hD hS hA [6, 2, 9, 3] rfl) (va_free hD hS hA [6, 2, 9, 3] rfl) 6 rfl rfl rfl hl.1 rfl (Nat.le_of_ble_eq_true rfl) dX1_predictInto_58 ⟨(Nat.le_of_ble_eq_true rfl), (Nat.le_of_ble_eq_true rfl)⟩ (fun u H locs hφ hP hD hK hS hk => ?_)
  have hP : va_P D vwCl [(h0, .inr (1, [.ref h8, .ref h2, v0, v1, v2, v3, v4, v5, v6, v7, v8, v9, v10])), (h2, .inl (a0, 48, .inr (.inr (.inr (.inr f0))))), (h8, .inr (0, [.ref h9, v13, v14, v15, v16, v17, v18])), (h9, .inl (a4, 48, .inl f4)), (h3, .inr (4, [.ref h4, .int 0, .int 0])), (h4, .inl (a1, 2, .inl f1)), (h1, .inr (4, [.ref h5, .int 0, .int 0])), (h6, .inr (4, [.ref h7, .int 0, .int 0])), (h5, .inl (a2, 2, .inl (upd (upd (upd f2 0 0) 0 0) 1 0))), (h7, .inl (a3, 2, .inl f3))] H := hP
  have hD : va_D A [(h0, .inr (1, [.ref h8, .ref h2, v0, v1, v2, v3, v4, v5, v6, v7, v8, v9, v10])), (h2, .inl (a0, 48, .inr (.inr (.inr (.inr f0))))), (h8, .inr (0, [.ref h9, v13, v14, v15, v16, v17, v18])), (h9, .inl (a4, 48, .inl f4)), (h3, .inr (4, [.ref h4, .int 0, .int 0])), (h4, .inl (a1, 2, .inl f1)), (h1, .inr (4, [.ref h5, .int 0, .int 0])), (h6, .inr (4, [.ref h7, .int 0, .int 0])), (h5, .inl (a2, 2, .inl (upd (upd (upd f2 0 0) 0 0) 1 0))), (h7, .inl (a3, 2, .inl f3))] := hD
  have hK : va_K D vwCl [(a0, .object "LiftingSignal$Whole"), (a4, .int), (a1, .int), (a2, .int), (a3, .int)] s := hK
  refine W.widen (k := 0) (n := 0) (Nat.le_of_ble_eq_true rfl) (Nat.le_of_ble_eq_true rfl) ?_
  refine lv_aload_n hx hb dX1_predictInto_61 rfl (lv_at hl 1 rfl) ?_
  refine lv_iload hx hb dX1_predictInto_62 (lv_at hl 4 rfl) ?_
  refine lv_aload_n hx hb dX1_predictInto_64 rfl (lv_at hl 0 rfl) ?_
  refine va_get (D := D) (ci := 1) (v := .ref h8) (C := RX1) (T := TX1) (N := 13) hx hb hg inX1 hown hK hP 0 rfl rfl 0 (by decide) (hg _ k278) (fun _ h9 => h9) rfl dX1_predictInto_65 ?_
  refine va_get (D := D) (ci := 0) (v := .ref h9) (C := RX0) (T := TX0) (N := 7) hx hb hg inX0 hown hK hP 2 rfl rfl 0 (by decide) (hg _ k157) (fun _ h9 => h9) rfl dX1_predictInto_68 ?_
  refine lv_iload_n hx hb dX1_predictInto_71 rfl (lv_at hl 3 rfl) ?_
  refine aldI hx hb hK hP 3 1 rfl rfl 0 (by decide) (vin (by decide)) (v := 0) ef4_0 dX1_predictInto_72 ?_
  refine lv_isub hx hb dX1_predictInto_73 ?_
  refine ti (0) (by decide) ?_
  refine lv_i2l (v := 0) hx hb dX1_predictInto_74 (by decide) ?_
  refine lv_aload_n hx hb dX1_predictInto_75 rfl (lv_at hl 0 rfl) ?_
  refine va_get (D := D) (ci := 1) (v := .ref h8) (C := RX1) (T := TX1) (N := 13) hx hb hg inX1 hown hK hP 0 rfl rfl 0 (by decide) (hg _ k278) (fun _ h9 => h9) rfl dX1_predictInto_76 ?_
  refine va_get (D := D) (ci := 0) (v := .ref h9) (C := RX0) (T := TX0) (N := 7) hx hb hg inX0 hown hK hP 2 rfl rfl 0 (by decide) (hg _ k157) (fun _ h9 => h9) rfl dX1_predictInto_79 ?_
  refine lv_iload hx hb dX1_predictInto_82 (lv_at hl 5 rfl) ?_
  refine aldI hx hb hK hP 3 1 rfl rfl 1 (by decide) (vin (by decide)) (v := 1) ef4_1 dX1_predictInto_84 ?_
  refine lv_aload_n hx hb dX1_predictInto_85 rfl (lv_at hl 0 rfl) ?_
  refine va_get (D := D) (ci := 1) (v := .ref h8) (C := RX1) (T := TX1) (N := 13) hx hb hg inX1 hown hK hP 0 rfl rfl 0 (by decide) (hg _ k278) (fun _ h9 => h9) rfl dX1_predictInto_86 ?_
  refine va_get (D := D) (ci := 0) (v := .ref h9) (C := RX0) (T := TX0) (N := 7) hx hb hg inX0 hown hK hP 2 rfl rfl 0 (by decide) (hg _ k157) (fun _ h9 => h9) rfl dX1_predictInto_89 ?_
  refine lv_iload_n hx hb dX1_predictInto_92 rfl (lv_at hl 3 rfl) ?_
  refine aldI hx hb hK hP 3 1 rfl rfl 0 (by decide) (vin (by decide)) (v := 0) ef4_0 dX1_predictInto_93 ?_
  refine lv_isub hx hb dX1_predictInto_94 ?_
  refine ti (1) (by decide) ?_
  refine lv_i2l (v := 1) hx hb dX1_predictInto_95 (by decide) ?_
  refine cVv (n := 2) (As := [.long 0, .long 1]) (rest := []) (wr := [(h0, .inr (1, [.ref h8, .ref h2, v0, v1, v2, v3, v4, v5, v6, v7, v8, v9, v10])), (h2, .inl (a0, 48, .inr (.inr (.inr (.inr f0))))), (h8, .inr (0, [.ref h9, v13, v14, v15, v16, v17, v18])), (h9, .inl (a4, 48, .inl f4)), (h3, .inr (4, [.ref h4, .int 0, .int 0])), (h4, .inl (a1, 2, .inl f1)), (h6, .inr (4, [.ref h7, .int 0, .int 0])), (h7, .inl (a3, 2, .inl f3))]) (tr := [(a0, .object "LiftingSignal$Whole"), (a4, .int), (a1, .int), (a3, .int)]) hx hb hml hown hg okN (cX4_scale_392 l D h1 h5 (upd (upd (upd f2 0 0) 0 0) 1 0) a2 rfl) (mwV k551 k552 k553 k88 k554) ⟨rfl, by decide, by decide, by decide +kernel⟩ ⟨rfl, rfl, (Nat.le_of_ble_eq_true rfl), (Nat.le_of_ble_eq_true rfl)⟩ hP hD hK hS xn [6, 8] [6, 8] [0, 1, 2, 3, 4, 5, 7, 9] [3] [0, 1, 2, 4] rfl (by decide) rfl rfl (by decide) (by decide) rfl rfl (va_free hD hS hA [6, 8] rfl) (va_free hD hS hA [6, 8] rfl) 6 rfl rfl rfl hl.1 rfl (Nat.le_of_ble_eq_true rfl) dX1_predictInto_96 ⟨(Nat.le_of_ble_eq_true rfl), (Nat.le_of_ble_eq_true rfl)⟩ (fun u H locs hφ hP hD hK hS hk => ?_)
  have hP : va_P D vwCl [(h0, .inr (1, [.ref h8, .ref h2, v0, v1, v2, v3, v4, v5, v6, v7, v8, v9, v10])), (h2, .inl (a0, 48, .inr (.inr (.inr (.inr f0))))), (h8, .inr (0, [.ref h9, v13, v14, v15, v16, v17, v18])), (h9, .inl (a4, 48, .inl f4)), (h3, .inr (4, [.ref h4, .int 0, .int 0])), (h4, .inl (a1, 2, .inl f1)), (h6, .inr (4, [.ref h7, .int 0, .int 0])), (h7, .inl (a3, 2, .inl f3)), (h1, .inr (4, [.ref h5, .int 0, .int 0])), (h5, .inl (a2, 2, .inl (upd (upd (upd (upd (upd f2 0 0) 0 0) 1 0) 0 0) 1 0)))] H := hP
  have hD : va_D A [(h0, .inr (1, [.ref h8, .ref h2, v0, v1, v2, v3, v4, v5, v6, v7, v8, v9, v10])), (h2, .inl (a0, 48, .inr (.inr (.inr (.inr f0))))), (h8, .inr (0, [.ref h9, v13, v14, v15, v16, v17, v18])), (h9, .inl (a4, 48, .inl f4)), (h3, .inr (4, [.ref h4, .int 0, .int 0])), (h4, .inl (a1, 2, .inl f1)), (h6, .inr (4, [.ref h7, .int 0, .int 0])), (h7, .inl (a3, 2, .inl f3)), (h1, .inr (4, [.ref h5, .int 0, .int 0])), (h5, .inl (a2, 2, .inl (upd (upd (upd (upd (upd f2 0 0) 0 0) 1 0) 0 0) 1 0)))] := hD
  have hK : va_K D vwCl [(a0, .object "LiftingSignal$Whole"), (a4, .int), (a1, .int), (a3, .int), (a2, .int)] s := hK
  refine W.widen (k := 0) (n := 0) (Nat.le_of_ble_eq_true rfl) (Nat.le_of_ble_eq_true rfl) ?_
  refine lv_aload_n hx hb dX1_predictInto_99 rfl (lv_at hl 1 rfl) ?_
  refine lv_aload_n hx hb dX1_predictInto_100 rfl (lv_at hl 0 rfl) ?_
  refine va_get (D := D) (ci := 1) (v := .ref h2) (C := RX1) (T := TX1) (N := 13) hx hb hg inX1 hown hK hP 0 rfl rfl 1 (by decide) (hg _ k279) (fun _ h9 => h9) rfl dX1_predictInto_101 ?_
  refine lv_iload_n hx hb dX1_predictInto_104 rfl (lv_at hl 3 rfl) ?_
  refine aldQ hx hb hK hP 1 0 rfl rfl 0 (by decide) (vin (by decide)) (v := h6) ef0_0 dX1_predictInto_105 ?_
  refine lv_lconst (v := 1) hx hb dX1_predictInto_106 (by decide) ?_
  refine cVv (n := 2) (As := [.ref h6, .long 1]) (rest := []) (wr := [(h0, .inr (1, [.ref h8, .ref h2, v0, v1, v2, v3, v4, v5, v6, v7, v8, v9, v10])), (h2, .inl (a0, 48, .inr (.inr (.inr (.inr f0))))), (h8, .inr (0, [.ref h9, v13, v14, v15, v16, v17, v18])), (h9, .inl (a4, 48, .inl f4)), (h3, .inr (4, [.ref h4, .int 0, .int 0])), (h4, .inl (a1, 2, .inl f1))]) (tr := [(a0, .object "LiftingSignal$Whole"), (a4, .int), (a1, .int)]) hx hb hml hown hg okN (cX4_add_394 l D h1 h6 h5 h7 (upd (upd (upd (upd (upd f2 0 0) 0 0) 1 0) 0 0) 1 0) f3 a2 a3 rfl ef3_0) (mwV k340 k341 k342 k88 k343) ⟨rfl, by decide, by decide, by decide +kernel⟩ ⟨rfl, rfl, (Nat.le_of_ble_eq_true rfl), (Nat.le_of_ble_eq_true rfl)⟩ hP hD hK hS xn [8, 6, 9, 7] [8, 6, 9, 7] [0, 1, 2, 3, 4, 5] [4, 3] [0, 1, 2] rfl (by decide) rfl rfl (by decide) (by decide) rfl rfl (va_free hD hS hA [8, 6, 9, 7] rfl) (va_free hD hS hA [8, 6, 9, 7] rfl) 8 rfl rfl rfl hl.1 rfl (Nat.le_of_ble_eq_true rfl) dX1_predictInto_107 ⟨(Nat.le_of_ble_eq_true rfl), (Nat.le_of_ble_eq_true rfl)⟩ (fun u H locs hφ hP hD hK hS hk => ?_)
  have hP : va_P D vwCl [(h0, .inr (1, [.ref h8, .ref h2, v0, v1, v2, v3, v4, v5, v6, v7, v8, v9, v10])), (h2, .inl (a0, 48, .inr (.inr (.inr (.inr f0))))), (h8, .inr (0, [.ref h9, v13, v14, v15, v16, v17, v18])), (h9, .inl (a4, 48, .inl f4)), (h3, .inr (4, [.ref h4, .int 0, .int 0])), (h4, .inl (a1, 2, .inl f1)), (h1, .inr (4, [.ref h5, .int 0, .int 0])), (h6, .inr (4, [.ref h7, .int 0, .int 0])), (h5, .inl (a2, 2, .inl (upd (upd (upd (upd (upd (upd (upd f2 0 0) 0 0) 1 0) 0 0) 1 0) 0 0) 1 0))), (h7, .inl (a3, 2, .inl f3))] H := hP
  have hD : va_D A [(h0, .inr (1, [.ref h8, .ref h2, v0, v1, v2, v3, v4, v5, v6, v7, v8, v9, v10])), (h2, .inl (a0, 48, .inr (.inr (.inr (.inr f0))))), (h8, .inr (0, [.ref h9, v13, v14, v15, v16, v17, v18])), (h9, .inl (a4, 48, .inl f4)), (h3, .inr (4, [.ref h4, .int 0, .int 0])), (h4, .inl (a1, 2, .inl f1)), (h1, .inr (4, [.ref h5, .int 0, .int 0])), (h6, .inr (4, [.ref h7, .int 0, .int 0])), (h5, .inl (a2, 2, .inl (upd (upd (upd (upd (upd (upd (upd f2 0 0) 0 0) 1 0) 0 0) 1 0) 0 0) 1 0))), (h7, .inl (a3, 2, .inl f3))] := hD
  have hK : va_K D vwCl [(a0, .object "LiftingSignal$Whole"), (a4, .int), (a1, .int), (a2, .int), (a3, .int)] s := hK
  refine W.widen (k := 0) (n := 0) (Nat.le_of_ble_eq_true rfl) (Nat.le_of_ble_eq_true rfl) ?_
  exact fv hx hb hr hlocks hP hD hK hS (()) trivial [0, 6, 1, 4, 5, 8, 7, 9, 2, 3] [0, 2, 3, 4, 1] rfl (by decide) rfl (Nat.le_of_ble_eq_true rfl) (Nat.le_of_ble_eq_true rfl) dX1_predictInto_110
set_option maxHeartbeats 4000000 in
set_option maxRecDepth 100000 in
theorem cX1_lineAt_386 (l : Launch) (D : va_G) (h0 : Nat) (h1 : Nat) (h2 : Nat) (h3 : Nat) (h4 : Nat) (h5 : Nat) (h6 : Nat) (h7 : Nat) (h8 : Nat) (h9 : Nat) (h10 : Nat) (v0 : Value) (v1 : Value) (v2 : Value) (v3 : Value) (v4 : Value) (v5 : Value) (v6 : Value) (v7 : Value) (v8 : Value) (v9 : Value) (v10 : Value) (v11 : Value) (v12 : Value) (v13 : Value) (f0 : Nat → Int32) (f1 : Nat → Int32) (f2 : Nat → Option Nat) (v14 : Value) (v15 : Value) (f3 : Nat → Int32) (f4 : Nat → Int32) (f5 : Nat → Int32) (a0 : ClassId) (a1 : ClassId) (a2 : ClassId) (a3 : ClassId) (a4 : ClassId) (a5 : ClassId) (ef0_1 : f0 1 = (-1)) (ef1_0 : f1 0 = 0) (ef1_1 : f1 1 = 1) (ef2_0 : f2 0 = some h9) (ef2_1 : f2 1 = some h6) (ef3_0 : f3 0 = 0) (ef5_0 : f5 0 = 0)  : CT l yX1_lineAt cX1_lineAt 4 (some (.object "LiftingSignal$Whole")) { frames := 3, cells := 0, slots := 0, locals := 75 } [.ref h0, .int 0] D [(h0, .inr (1, [.ref h1, .ref h4, v0, .ref h2, v1, v2, v3, v4, v5, v6, v7, v8, .ref h5])), (h1, .inr (0, [.ref h3, v9, .int 2, v10, v11, v12, v13])), (h2, .inl (a0, 48, .inl f0)), (h3, .inl (a1, 48, .inl f1)), (h4, .inl (a2, 48, .inr (.inr (.inr (.inr f2))))), (h5, .inr (4, [.ref h8, v14, v15])), (h6, .inr (4, [.ref h7, .int 0, .int 0])), (h7, .inl (a3, 2, .inl f3)), (h8, .inl (a4, 2, .inl f4)), (h9, .inr (4, [.ref h10, .int 0, .int 0])), (h10, .inl (a5, 2, .inl f5))] [(a0, .int), (a1, .int), (a2, .object "LiftingSignal$Whole"), (a3, .int), (a4, .int), (a5, .int)] XN [(h0, .inr (1, [.ref h1, .ref h4, v0, .ref h2, v1, v2, v3, v4, v5, v6, v7, v8, .ref h5])), (h1, .inr (0, [.ref h3, v9, .int 2, v10, v11, v12, v13])), (h2, .inl (a0, 48, .inl f0)), (h3, .inl (a1, 48, .inl f1)), (h4, .inl (a2, 48, .inr (.inr (.inr (.inr f2))))), (h5, .inr (4, [.ref h8, v14, v15])), (h6, .inr (4, [.ref h7, .int 0, .int 0])), (h7, .inl (a3, 2, .inl f3)), (h8, .inl (a4, 2, .inl f4)), (h9, .inr (4, [.ref h10, .int 0, .int 0])), (h10, .inl (a5, 2, .inl f5))] (er (fun _ : Unit => True) (fun u => h5) (fun _ => [(h0, .inr (1, [.ref h1, .ref h4, v0, .ref h2, v1, v2, v3, v4, v5, v6, v7, v8, .ref h5])), (h1, .inr (0, [.ref h3, v9, .int 2, v10, v11, v12, v13])), (h2, .inl (a0, 48, .inl f0)), (h3, .inl (a1, 48, .inl f1)), (h4, .inl (a2, 48, .inr (.inr (.inr (.inr f2))))), (h5, .inr (4, [.ref h8, .int 0, .int 0])), (h6, .inr (4, [.ref h7, .int 0, .int 0])), (h7, .inl (a3, 2, .inl f3)), (h8, .inl (a4, 2, .inl (upd (upd (upd (upd (upd (upd (upd f4 0 0) 0 0) 1 0) 0 0) 1 0) 0 0) 1 0))), (h9, .inr (4, [.ref h10, .int 0, .int 0])), (h10, .inl (a5, 2, .inl f5))]) (fun u => [(a0, .int), (a1, .int), (a2, .object "LiftingSignal$Whole"), (a3, .int), (a4, .int), (a5, .int)]) D) 0 0 := by
  refine CT.ofW (by decide +kernel) (Nat.le_of_ble_eq_true rfl) ?_
  intro p e s m below meth c A ls hcs hP hK hD hX hA hS hl
  obtain ⟨hx, hb, hr, hml, hown, hg, hlocks, hin⟩ := hcs
  have hown : s.vm.findClass RX1 = some m.cls := hown
  have hl : lv_has ls 4 [(0, .ref h0), (1, .int 0)] := hl
  refine lv_iconst (v := 0) hx hb dX1_lineAt_0 (by decide) ?_
  refine lv_istore_n (lv' := [(2, .int 0), (0, .ref h0), (1, .int 0)]) hx hb dX1_lineAt_1 rfl hl (by decide) rfl (fun ls hl => ?_)
  refine lv_iconst (v := 1) hx hb dX1_lineAt_2 (by decide) ?_
  refine lv_istore_n (lv' := [(3, .int 1), (2, .int 0), (0, .ref h0), (1, .int 0)]) hx hb dX1_lineAt_3 rfl hl (by decide) rfl (fun ls hl => ?_)
  refine lv_iload_n hx hb dX1_lineAt_4 rfl (lv_at hl 0 rfl) ?_
  refine lv_aload_n hx hb dX1_lineAt_5 rfl (lv_at hl 2 rfl) ?_
  refine va_get (D := D) (ci := 1) (v := .ref h1) (C := RX1) (T := TX1) (N := 13) hx hb hg inX1 hown hK hP 0 rfl rfl 0 (by decide) (hg _ k278) (fun _ h9 => h9) rfl dX1_lineAt_6 ?_
  refine va_get (D := D) (ci := 0) (v := .int 2) (C := RX0) (T := TX0) (N := 7) hx hb hg inX0 hown hK hP 1 rfl rfl 2 (by decide) (hg _ k162) (fun _ h9 => h9) rfl dX1_lineAt_9 ?_
  refine lv_icmp_ge (tgt := 61) hx hb dX1_lineAt_12 (by decide) (fun c9 => absurd c9 (by decide)) (fun _ => ?_)
  refine lv_aload_n hx hb dX1_lineAt_15 rfl (lv_at hl 2 rfl) ?_
  refine lv_iload_n hx hb dX1_lineAt_16 rfl (lv_at hl 0 rfl) ?_
  refine cVi (n := 1) (As := [.int 1]) (rest := []) (wr := [(h0, .inr (1, [.ref h1, .ref h4, v0, .ref h2, v1, v2, v3, v4, v5, v6, v7, v8, .ref h5])), (h1, .inr (0, [.ref h3, v9, .int 2, v10, v11, v12, v13])), (h2, .inl (a0, 48, .inl f0)), (h3, .inl (a1, 48, .inl f1)), (h4, .inl (a2, 48, .inr (.inr (.inr (.inr f2))))), (h5, .inr (4, [.ref h8, v14, v15])), (h6, .inr (4, [.ref h7, .int 0, .int 0])), (h7, .inl (a3, 2, .inl f3)), (h8, .inl (a4, 2, .inl f4)), (h9, .inr (4, [.ref h10, .int 0, .int 0])), (h10, .inl (a5, 2, .inl f5))]) (tr := [(a0, .int), (a1, .int), (a2, .object "LiftingSignal$Whole"), (a3, .int), (a4, .int), (a5, .int)]) hx hb hml hown hg okN (cX1_isPresent_337 l D h0 h2 (.ref h1) (.ref h4) v0 v1 v2 v3 v4 v5 v6 v7 v8 (.ref h5) f0 a0 ef0_1) (mwV k459 k460 k461 k87 k462) ⟨rfl, by decide, by decide, by decide +kernel⟩ ⟨rfl, rfl, (Nat.le_of_ble_eq_true rfl), (Nat.le_of_ble_eq_true rfl)⟩ hP hD hK hS xn [0, 2] [] [0, 1, 2, 3, 4, 5, 6, 7, 8, 9, 10] [0] [0, 1, 2, 3, 4, 5] rfl (by decide) rfl rfl (by decide) (by decide) rfl rfl (aNil hA hS) (aNil hA hS) 0 rfl rfl rfl hl.1 rfl (Nat.le_of_ble_eq_true rfl) dX1_lineAt_17 ⟨(Nat.le_of_ble_eq_true rfl), (Nat.le_of_ble_eq_true rfl)⟩ (fun u H locs hφ hP hD hK hS hk => ?_)
  have hP : va_P D vwCl [(h0, .inr (1, [.ref h1, .ref h4, v0, .ref h2, v1, v2, v3, v4, v5, v6, v7, v8, .ref h5])), (h1, .inr (0, [.ref h3, v9, .int 2, v10, v11, v12, v13])), (h2, .inl (a0, 48, .inl f0)), (h3, .inl (a1, 48, .inl f1)), (h4, .inl (a2, 48, .inr (.inr (.inr (.inr f2))))), (h5, .inr (4, [.ref h8, v14, v15])), (h6, .inr (4, [.ref h7, .int 0, .int 0])), (h7, .inl (a3, 2, .inl f3)), (h8, .inl (a4, 2, .inl f4)), (h9, .inr (4, [.ref h10, .int 0, .int 0])), (h10, .inl (a5, 2, .inl f5))] H := hP
  have hD : va_D A [(h0, .inr (1, [.ref h1, .ref h4, v0, .ref h2, v1, v2, v3, v4, v5, v6, v7, v8, .ref h5])), (h1, .inr (0, [.ref h3, v9, .int 2, v10, v11, v12, v13])), (h2, .inl (a0, 48, .inl f0)), (h3, .inl (a1, 48, .inl f1)), (h4, .inl (a2, 48, .inr (.inr (.inr (.inr f2))))), (h5, .inr (4, [.ref h8, v14, v15])), (h6, .inr (4, [.ref h7, .int 0, .int 0])), (h7, .inl (a3, 2, .inl f3)), (h8, .inl (a4, 2, .inl f4)), (h9, .inr (4, [.ref h10, .int 0, .int 0])), (h10, .inl (a5, 2, .inl f5))] := hD
  have hK : va_K D vwCl [(a0, .int), (a1, .int), (a2, .object "LiftingSignal$Whole"), (a3, .int), (a4, .int), (a5, .int)] s := hK
  refine W.widen (k := 0) (n := 0) (Nat.le_of_ble_eq_true rfl) (Nat.le_of_ble_eq_true rfl) ?_
  refine lv_if_eq (tgt := 55) hx hb dX1_lineAt_20 (by decide) (fun c9 => absurd c9 (by decide)) (fun _ => ?_)
  refine lv_iload_n hx hb dX1_lineAt_23 rfl (lv_at hl 3 rfl) ?_
  refine lv_aload_n hx hb dX1_lineAt_24 rfl (lv_at hl 2 rfl) ?_
  refine va_get (D := D) (ci := 1) (v := .ref h1) (C := RX1) (T := TX1) (N := 13) hx hb hg inX1 hown hK hP 0 rfl rfl 0 (by decide) (hg _ k278) (fun _ h9 => h9) rfl dX1_lineAt_25 ?_
  refine va_get (D := D) (ci := 0) (v := .ref h3) (C := RX0) (T := TX0) (N := 7) hx hb hg inX0 hown hK hP 1 rfl rfl 0 (by decide) (hg _ k157) (fun _ h9 => h9) rfl dX1_lineAt_28 ?_
  refine lv_iload_n hx hb dX1_lineAt_31 rfl (lv_at hl 0 rfl) ?_
  refine aldI hx hb hK hP 3 1 rfl rfl 1 (by decide) (vin (by decide)) (v := 1) ef1_1 dX1_lineAt_32 ?_
  refine lv_icmp_gt (tgt := 53) hx hb dX1_lineAt_33 (by decide) (fun c9 => absurd c9 (by decide)) (fun _ => ?_)
  refine lv_aload_n hx hb dX1_lineAt_36 rfl (lv_at hl 2 rfl) ?_
  refine lv_aload_n hx hb dX1_lineAt_37 rfl (lv_at hl 2 rfl) ?_
  refine va_get (D := D) (ci := 1) (v := .ref h5) (C := RX1) (T := TX1) (N := 13) hx hb hg inX1 hown hK hP 0 rfl rfl 12 (by decide) (hg _ k299) (fun _ h9 => h9) rfl dX1_lineAt_38 ?_
  refine lv_iconst (v := 2) hx hb dX1_lineAt_41 (by decide) ?_
  refine lv_iload_n hx hb dX1_lineAt_42 rfl (lv_at hl 1 rfl) ?_
  refine lv_iload_n hx hb dX1_lineAt_43 rfl (lv_at hl 3 rfl) ?_
  refine lv_iload_n hx hb dX1_lineAt_44 rfl (lv_at hl 0 rfl) ?_
  refine cVv (n := 5) (As := [.ref h5, .int 2, .int 0, .int 0, .int 1]) (rest := []) (wr := [(h2, .inl (a0, 48, .inl f0))]) (tr := [(a0, .int)]) hx hb hml hown hg okN (cX1_predictInto_387 l D h0 h5 h4 h6 h7 h8 h9 h10 h1 h3 v0 (.ref h2) v1 v2 v3 v4 v5 v6 v7 v8 (.ref h5) v14 v15 f2 f3 f4 f5 v9 (.int 2) v10 v11 v12 v13 f1 a2 a3 a4 a5 a1 ef2_0 ef2_1 ef3_0 ef5_0 ef1_0 ef1_1) (mwV k542 k544 k10 k87 k545) ⟨rfl, by decide, by decide, by decide +kernel⟩ ⟨rfl, rfl, (Nat.le_of_ble_eq_true rfl), (Nat.le_of_ble_eq_true rfl)⟩ hP hD hK hS xn [0, 5, 4, 6, 7, 8, 9, 10, 1, 3] [0, 5, 4, 6, 7, 8, 9, 10, 1, 3] [2] [2, 3, 4, 5, 1] [0] rfl (by decide) rfl rfl (by decide) (by decide) rfl rfl (va_free hD hS hA [0, 5, 4, 6, 7, 8, 9, 10, 1, 3] rfl) (va_free hD hS hA [0, 5, 4, 6, 7, 8, 9, 10, 1, 3] rfl) 0 rfl rfl rfl hl.1 rfl (Nat.le_of_ble_eq_true rfl) dX1_lineAt_45 ⟨(Nat.le_of_ble_eq_true rfl), (Nat.le_of_ble_eq_true rfl)⟩ (fun u H locs hφ hP hD hK hS hk => ?_)
  have hP : va_P D vwCl [(h2, .inl (a0, 48, .inl f0)), (h0, .inr (1, [.ref h1, .ref h4, v0, .ref h2, v1, v2, v3, v4, v5, v6, v7, v8, .ref h5])), (h5, .inr (4, [.ref h8, .int 0, .int 0])), (h4, .inl (a2, 48, .inr (.inr (.inr (.inr f2))))), (h6, .inr (4, [.ref h7, .int 0, .int 0])), (h7, .inl (a3, 2, .inl f3)), (h8, .inl (a4, 2, .inl (upd (upd (upd (upd (upd (upd (upd f4 0 0) 0 0) 1 0) 0 0) 1 0) 0 0) 1 0))), (h9, .inr (4, [.ref h10, .int 0, .int 0])), (h10, .inl (a5, 2, .inl f5)), (h1, .inr (0, [.ref h3, v9, .int 2, v10, v11, v12, v13])), (h3, .inl (a1, 48, .inl f1))] H := hP
  have hD : va_D A [(h2, .inl (a0, 48, .inl f0)), (h0, .inr (1, [.ref h1, .ref h4, v0, .ref h2, v1, v2, v3, v4, v5, v6, v7, v8, .ref h5])), (h5, .inr (4, [.ref h8, .int 0, .int 0])), (h4, .inl (a2, 48, .inr (.inr (.inr (.inr f2))))), (h6, .inr (4, [.ref h7, .int 0, .int 0])), (h7, .inl (a3, 2, .inl f3)), (h8, .inl (a4, 2, .inl (upd (upd (upd (upd (upd (upd (upd f4 0 0) 0 0) 1 0) 0 0) 1 0) 0 0) 1 0))), (h9, .inr (4, [.ref h10, .int 0, .int 0])), (h10, .inl (a5, 2, .inl f5)), (h1, .inr (0, [.ref h3, v9, .int 2, v10, v11, v12, v13])), (h3, .inl (a1, 48, .inl f1))] := hD
  have hK : va_K D vwCl [(a0, .int), (a2, .object "LiftingSignal$Whole"), (a3, .int), (a4, .int), (a5, .int), (a1, .int)] s := hK
  refine W.widen (k := 0) (n := 0) (Nat.le_of_ble_eq_true rfl) (Nat.le_of_ble_eq_true rfl) ?_
  refine lv_aload_n hx hb dX1_lineAt_48 rfl (lv_at hl 2 rfl) ?_
  refine va_get (D := D) (ci := 1) (v := .ref h5) (C := RX1) (T := TX1) (N := 13) hx hb hg inX1 hown hK hP 1 rfl rfl 12 (by decide) (hg _ k299) (fun _ h9 => h9) rfl dX1_lineAt_49 ?_
  exact fr rfl hx hb hr hlocks hP hD hK hS (()) trivial rfl [1, 9, 0, 10, 3, 2, 4, 5, 6, 7, 8] [0, 5, 1, 2, 3, 4] rfl (by decide) rfl (Nat.le_of_ble_eq_true rfl) (Nat.le_of_ble_eq_true rfl) dX1_lineAt_52
set_option maxHeartbeats 4000000 in
set_option maxRecDepth 100000 in
theorem cX5_valueAt_385 (l : Launch) (D : va_G) (h0 : Nat) (h1 : Nat) (h2 : Nat) (h3 : Nat) (h4 : Nat) (h5 : Nat) (h6 : Nat) (h7 : Nat) (h8 : Nat) (h9 : Nat) (h10 : Nat) (h11 : Nat) (v0 : Value) (v1 : Value) (v2 : Value) (v3 : Value) (v4 : Value) (v5 : Value) (v6 : Value) (v7 : Value) (v8 : Value) (v9 : Value) (v10 : Value) (v11 : Value) (v12 : Value) (f0 : Nat → Int32) (v13 : Value) (v14 : Value) (v15 : Value) (v16 : Value) (v17 : Value) (v18 : Value) (v19 : Value) (v20 : Value) (v21 : Value) (f1 : Nat → Int32) (f2 : Nat → Option Nat) (v22 : Value) (v23 : Value) (f3 : Nat → Int32) (f4 : Nat → Int32) (f5 : Nat → Int32) (a0 : ClassId) (a1 : ClassId) (a2 : ClassId) (a3 : ClassId) (a4 : ClassId) (a5 : ClassId) (ef0_0 : f0 0 = 0) (ef0_1 : f0 1 = 1) (ef1_1 : f1 1 = (-1)) (ef2_0 : f2 0 = some h10) (ef2_1 : f2 1 = some h7) (ef3_0 : f3 0 = 0) (ef5_0 : f5 0 = 0)  : CT l yX5_valueAt cX5_valueAt 2 (some .long) { frames := 4, cells := 0, slots := 0, locals := 98 } [.ref h0, .int 0] D [(h0, .inr (5, [v0, .ref h1, v1, .ref h3, v2, v3, v4, v5, v6, v7])), (h1, .inr (0, [.ref h2, v8, .int 2, v9, v10, v11, v12])), (h2, .inl (a0, 48, .inl f0)), (h3, .inr (1, [.ref h1, .ref h5, v13, .ref h4, v14, v15, v16, v17, v18, v19, v20, v21, .ref h6])), (h4, .inl (a1, 48, .inl f1)), (h5, .inl (a2, 48, .inr (.inr (.inr (.inr f2))))), (h6, .inr (4, [.ref h9, v22, v23])), (h7, .inr (4, [.ref h8, .int 0, .int 0])), (h8, .inl (a3, 2, .inl f3)), (h9, .inl (a4, 2, .inl f4)), (h10, .inr (4, [.ref h11, .int 0, .int 0])), (h11, .inl (a5, 2, .inl f5))] [(a0, .int), (a1, .int), (a2, .object "LiftingSignal$Whole"), (a3, .int), (a4, .int), (a5, .int)] XN [(h0, .inr (5, [v0, .ref h1, v1, .ref h3, v2, v3, v4, v5, v6, v7])), (h1, .inr (0, [.ref h2, v8, .int 2, v9, v10, v11, v12])), (h2, .inl (a0, 48, .inl f0)), (h3, .inr (1, [.ref h1, .ref h5, v13, .ref h4, v14, v15, v16, v17, v18, v19, v20, v21, .ref h6])), (h4, .inl (a1, 48, .inl f1)), (h5, .inl (a2, 48, .inr (.inr (.inr (.inr f2))))), (h6, .inr (4, [.ref h9, v22, v23])), (h7, .inr (4, [.ref h8, .int 0, .int 0])), (h8, .inl (a3, 2, .inl f3)), (h9, .inl (a4, 2, .inl f4)), (h10, .inr (4, [.ref h11, .int 0, .int 0])), (h11, .inl (a5, 2, .inl f5))] (el (fun _ : Unit => True) (fun u => 0) (fun _ => [(h0, .inr (5, [v0, .ref h1, v1, .ref h3, v2, v3, v4, v5, v6, v7])), (h1, .inr (0, [.ref h2, v8, .int 2, v9, v10, v11, v12])), (h2, .inl (a0, 48, .inl f0)), (h3, .inr (1, [.ref h1, .ref h5, v13, .ref h4, v14, v15, v16, v17, v18, v19, v20, v21, .ref h6])), (h4, .inl (a1, 48, .inl f1)), (h5, .inl (a2, 48, .inr (.inr (.inr (.inr f2))))), (h6, .inr (4, [.ref h9, .int 0, .int 0])), (h7, .inr (4, [.ref h8, .int 0, .int 0])), (h8, .inl (a3, 2, .inl f3)), (h9, .inl (a4, 2, .inl (upd (upd (upd (upd (upd (upd (upd f4 0 0) 0 0) 1 0) 0 0) 1 0) 0 0) 1 0))), (h10, .inr (4, [.ref h11, .int 0, .int 0])), (h11, .inl (a5, 2, .inl f5))]) (fun u => [(a0, .int), (a1, .int), (a2, .object "LiftingSignal$Whole"), (a3, .int), (a4, .int), (a5, .int)]) D) 0 0 := by
  refine CT.ofW (by decide +kernel) (Nat.le_of_ble_eq_true rfl) ?_
  intro p e s m below meth c A ls hcs hP hK hD hX hA hS hl
  obtain ⟨hx, hb, hr, hml, hown, hg, hlocks, hin⟩ := hcs
  have hown : s.vm.findClass RX5 = some m.cls := hown
  have hl : lv_has ls 2 [(0, .ref h0), (1, .int 0)] := hl
  refine lv_iload_n hx hb dX5_valueAt_0 rfl (lv_at hl 1 rfl) ?_
  refine lv_aload_n hx hb dX5_valueAt_1 rfl (lv_at hl 0 rfl) ?_
  refine va_get (D := D) (ci := 5) (v := .ref h1) (C := RX5) (T := TX5) (N := 10) hx hb hg inX5 hown hK hP 0 rfl rfl 1 (by decide) (hg _ k380) (fun _ h9 => h9) rfl dX5_valueAt_2 ?_
  refine va_get (D := D) (ci := 0) (v := .ref h2) (C := RX0) (T := TX0) (N := 7) hx hb hg inX0 hown hK hP 1 rfl rfl 0 (by decide) (hg _ k155) (fun _ h9 => h9) rfl dX5_valueAt_5 ?_
  refine lv_iconst (v := 0) hx hb dX5_valueAt_8 (by decide) ?_
  refine aldI hx hb hK hP 2 0 rfl rfl 0 (by decide) (vin (by decide)) (v := 0) ef0_0 dX5_valueAt_9 ?_
  refine lv_icmp_lt (tgt := 34) hx hb dX5_valueAt_10 (by decide) (fun c9 => absurd c9 (by decide)) (fun _ => ?_)
  refine lv_iload_n hx hb dX5_valueAt_13 rfl (lv_at hl 1 rfl) ?_
  refine lv_aload_n hx hb dX5_valueAt_14 rfl (lv_at hl 0 rfl) ?_
  refine va_get (D := D) (ci := 5) (v := .ref h1) (C := RX5) (T := TX5) (N := 10) hx hb hg inX5 hown hK hP 0 rfl rfl 1 (by decide) (hg _ k380) (fun _ h9 => h9) rfl dX5_valueAt_15 ?_
  refine va_get (D := D) (ci := 0) (v := .ref h2) (C := RX0) (T := TX0) (N := 7) hx hb hg inX0 hown hK hP 1 rfl rfl 0 (by decide) (hg _ k155) (fun _ h9 => h9) rfl dX5_valueAt_18 ?_
  refine lv_aload_n hx hb dX5_valueAt_21 rfl (lv_at hl 0 rfl) ?_
  refine va_get (D := D) (ci := 5) (v := .ref h1) (C := RX5) (T := TX5) (N := 10) hx hb hg inX5 hown hK hP 0 rfl rfl 1 (by decide) (hg _ k380) (fun _ h9 => h9) rfl dX5_valueAt_22 ?_
  refine va_get (D := D) (ci := 0) (v := .int 2) (C := RX0) (T := TX0) (N := 7) hx hb hg inX0 hown hK hP 1 rfl rfl 2 (by decide) (hg _ k163) (fun _ h9 => h9) rfl dX5_valueAt_25 ?_
  refine lv_iconst (v := 1) hx hb dX5_valueAt_28 (by decide) ?_
  refine lv_isub hx hb dX5_valueAt_29 ?_
  refine ti (1) (by decide) ?_
  refine aldI hx hb hK hP 2 0 rfl rfl 1 (by decide) (vin (by decide)) (v := 1) ef0_1 dX5_valueAt_30 ?_
  refine lv_icmp_le (tgt := 44) hx hb dX5_valueAt_31 (by decide) (fun _ => ?_) (fun c9 => absurd (by decide) c9)
  refine lv_aload_n hx hb dX5_valueAt_44 rfl (lv_at hl 0 rfl) ?_
  refine va_get (D := D) (ci := 5) (v := .ref h3) (C := RX5) (T := TX5) (N := 10) hx hb hg inX5 hown hK hP 0 rfl rfl 3 (by decide) (hg _ k382) (fun _ h9 => h9) rfl dX5_valueAt_45 ?_
  refine lv_iload_n hx hb dX5_valueAt_48 rfl (lv_at hl 1 rfl) ?_
  refine cVr (n := 1) (As := [.int 0]) (rest := []) (wr := [(h0, .inr (5, [v0, .ref h1, v1, .ref h3, v2, v3, v4, v5, v6, v7]))]) (tr := []) hx hb hml hown hg okN (cX1_lineAt_386 l D h3 h1 h4 h2 h5 h6 h7 h8 h9 h10 h11 v13 v14 v15 v16 v17 v18 v19 v20 v21 v8 v9 v10 v11 v12 f1 f0 f2 v22 v23 f3 f4 f5 a1 a0 a2 a3 a4 a5 ef1_1 ef0_0 ef0_1 ef2_0 ef2_1 ef3_0 ef5_0) (mwV k898 k899 k900 k87 k901) ⟨rfl, by decide, by decide, by decide +kernel⟩ ⟨rfl, rfl, (Nat.le_of_ble_eq_true rfl), (Nat.le_of_ble_eq_true rfl)⟩ hP hD hK hS xn [3, 1, 4, 2, 5, 6, 7, 8, 9, 10, 11] [3, 1, 4, 2, 5, 6, 7, 8, 9, 10, 11] [0] [1, 0, 2, 3, 4, 5] [] rfl (by decide) rfl rfl (by decide) (by decide) rfl rfl (va_free hD hS hA [3, 1, 4, 2, 5, 6, 7, 8, 9, 10, 11] rfl) (va_free hD hS hA [3, 1, 4, 2, 5, 6, 7, 8, 9, 10, 11] rfl) 3 rfl rfl rfl hl.1 rfl (Nat.le_of_ble_eq_true rfl) dX5_valueAt_49 ⟨(Nat.le_of_ble_eq_true rfl), (Nat.le_of_ble_eq_true rfl)⟩ (fun u H locs hφ hP hD hK hS hk => ?_)
  have hP : va_P D vwCl [(h0, .inr (5, [v0, .ref h1, v1, .ref h3, v2, v3, v4, v5, v6, v7])), (h3, .inr (1, [.ref h1, .ref h5, v13, .ref h4, v14, v15, v16, v17, v18, v19, v20, v21, .ref h6])), (h1, .inr (0, [.ref h2, v8, .int 2, v9, v10, v11, v12])), (h4, .inl (a1, 48, .inl f1)), (h2, .inl (a0, 48, .inl f0)), (h5, .inl (a2, 48, .inr (.inr (.inr (.inr f2))))), (h6, .inr (4, [.ref h9, .int 0, .int 0])), (h7, .inr (4, [.ref h8, .int 0, .int 0])), (h8, .inl (a3, 2, .inl f3)), (h9, .inl (a4, 2, .inl (upd (upd (upd (upd (upd (upd (upd f4 0 0) 0 0) 1 0) 0 0) 1 0) 0 0) 1 0))), (h10, .inr (4, [.ref h11, .int 0, .int 0])), (h11, .inl (a5, 2, .inl f5))] H := hP
  have hD : va_D A [(h0, .inr (5, [v0, .ref h1, v1, .ref h3, v2, v3, v4, v5, v6, v7])), (h3, .inr (1, [.ref h1, .ref h5, v13, .ref h4, v14, v15, v16, v17, v18, v19, v20, v21, .ref h6])), (h1, .inr (0, [.ref h2, v8, .int 2, v9, v10, v11, v12])), (h4, .inl (a1, 48, .inl f1)), (h2, .inl (a0, 48, .inl f0)), (h5, .inl (a2, 48, .inr (.inr (.inr (.inr f2))))), (h6, .inr (4, [.ref h9, .int 0, .int 0])), (h7, .inr (4, [.ref h8, .int 0, .int 0])), (h8, .inl (a3, 2, .inl f3)), (h9, .inl (a4, 2, .inl (upd (upd (upd (upd (upd (upd (upd f4 0 0) 0 0) 1 0) 0 0) 1 0) 0 0) 1 0))), (h10, .inr (4, [.ref h11, .int 0, .int 0])), (h11, .inl (a5, 2, .inl f5))] := hD
  have hK : va_K D vwCl [(a1, .int), (a0, .int), (a2, .object "LiftingSignal$Whole"), (a3, .int), (a4, .int), (a5, .int)] s := hK
  refine W.widen (k := 0) (n := 0) (Nat.le_of_ble_eq_true rfl) (Nat.le_of_ble_eq_true rfl) ?_
  refine cVl (n := 0) (As := []) (rest := []) (wr := [(h0, .inr (5, [v0, .ref h1, v1, .ref h3, v2, v3, v4, v5, v6, v7])), (h3, .inr (1, [.ref h1, .ref h5, v13, .ref h4, v14, v15, v16, v17, v18, v19, v20, v21, .ref h6])), (h1, .inr (0, [.ref h2, v8, .int 2, v9, v10, v11, v12])), (h4, .inl (a1, 48, .inl f1)), (h2, .inl (a0, 48, .inl f0)), (h5, .inl (a2, 48, .inr (.inr (.inr (.inr f2))))), (h6, .inr (4, [.ref h9, .int 0, .int 0])), (h7, .inr (4, [.ref h8, .int 0, .int 0])), (h8, .inl (a3, 2, .inl f3)), (h9, .inl (a4, 2, .inl (upd (upd (upd (upd (upd (upd (upd f4 0 0) 0 0) 1 0) 0 0) 1 0) 0 0) 1 0))), (h10, .inr (4, [.ref h11, .int 0, .int 0])), (h11, .inl (a5, 2, .inl f5))]) (tr := [(a1, .int), (a0, .int), (a2, .object "LiftingSignal$Whole"), (a3, .int), (a4, .int), (a5, .int)]) hx hb hml hown hg okN (cX4_toLong_348 l D h6 (.ref h9)) (mwV k435 k436 k437 k88 k438) ⟨rfl, by decide, by decide, by decide +kernel⟩ ⟨rfl, rfl, (Nat.le_of_ble_eq_true rfl), (Nat.le_of_ble_eq_true rfl)⟩ hP hD hK hS xn [6] [] [0, 1, 2, 3, 4, 5, 6, 7, 8, 9, 10, 11] [] [0, 1, 2, 3, 4, 5] rfl (by decide) rfl rfl (by decide) (by decide) rfl rfl (aNil hA hS) (aNil hA hS) 6 rfl rfl rfl hl.1 rfl (Nat.le_of_ble_eq_true rfl) dX5_valueAt_52 ⟨(Nat.le_of_ble_eq_true rfl), (Nat.le_of_ble_eq_true rfl)⟩ (fun u H locs hφ hP hD hK hS hk => ?_)
  have hP : va_P D vwCl [(h0, .inr (5, [v0, .ref h1, v1, .ref h3, v2, v3, v4, v5, v6, v7])), (h3, .inr (1, [.ref h1, .ref h5, v13, .ref h4, v14, v15, v16, v17, v18, v19, v20, v21, .ref h6])), (h1, .inr (0, [.ref h2, v8, .int 2, v9, v10, v11, v12])), (h4, .inl (a1, 48, .inl f1)), (h2, .inl (a0, 48, .inl f0)), (h5, .inl (a2, 48, .inr (.inr (.inr (.inr f2))))), (h6, .inr (4, [.ref h9, .int 0, .int 0])), (h7, .inr (4, [.ref h8, .int 0, .int 0])), (h8, .inl (a3, 2, .inl f3)), (h9, .inl (a4, 2, .inl (upd (upd (upd (upd (upd (upd (upd f4 0 0) 0 0) 1 0) 0 0) 1 0) 0 0) 1 0))), (h10, .inr (4, [.ref h11, .int 0, .int 0])), (h11, .inl (a5, 2, .inl f5))] H := hP
  have hD : va_D A [(h0, .inr (5, [v0, .ref h1, v1, .ref h3, v2, v3, v4, v5, v6, v7])), (h3, .inr (1, [.ref h1, .ref h5, v13, .ref h4, v14, v15, v16, v17, v18, v19, v20, v21, .ref h6])), (h1, .inr (0, [.ref h2, v8, .int 2, v9, v10, v11, v12])), (h4, .inl (a1, 48, .inl f1)), (h2, .inl (a0, 48, .inl f0)), (h5, .inl (a2, 48, .inr (.inr (.inr (.inr f2))))), (h6, .inr (4, [.ref h9, .int 0, .int 0])), (h7, .inr (4, [.ref h8, .int 0, .int 0])), (h8, .inl (a3, 2, .inl f3)), (h9, .inl (a4, 2, .inl (upd (upd (upd (upd (upd (upd (upd f4 0 0) 0 0) 1 0) 0 0) 1 0) 0 0) 1 0))), (h10, .inr (4, [.ref h11, .int 0, .int 0])), (h11, .inl (a5, 2, .inl f5))] := hD
  have hK : va_K D vwCl [(a1, .int), (a0, .int), (a2, .object "LiftingSignal$Whole"), (a3, .int), (a4, .int), (a5, .int)] s := hK
  refine W.widen (k := 0) (n := 0) (Nat.le_of_ble_eq_true rfl) (Nat.le_of_ble_eq_true rfl) ?_
  exact fl hx hb hr hlocks hP hD hK hS (()) trivial rfl [0, 2, 4, 1, 3, 5, 6, 7, 8, 9, 10, 11] [1, 0, 2, 3, 4, 5] rfl (by decide) rfl (Nat.le_of_ble_eq_true rfl) (Nat.le_of_ble_eq_true rfl) dX5_valueAt_55
set_option maxHeartbeats 4000000 in
set_option maxRecDepth 100000 in
theorem cX4_scale_398 (l : Launch) (D : va_G) (h0 : Nat) (h1 : Nat) (f0 : Nat → Int32) (a0 : ClassId) (ef0_0 : f0 0 = 0)  : CT l yX4_scale cX4_scale 6 none { frames := 1, cells := 0, slots := 0, locals := 25 } [.ref h0, .long 1, .long 1] D [(h0, .inr (4, [.ref h1, .int 0, .int 0])), (h1, .inl (a0, 2, .inl f0))] [(a0, .int)] XN [(h0, .inr (4, [.ref h1, .int 0, .int 0])), (h1, .inl (a0, 2, .inl f0))] (ev (fun _ : Unit => True) (fun _ => [(h0, .inr (4, [.ref h1, .int 0, .int 0])), (h1, .inl (a0, 2, .inl (upd (upd f0 0 0) 1 0)))]) (fun u => [(a0, .int)]) D) 0 0 := by
  refine CT.ofW (by decide +kernel) (Nat.le_of_ble_eq_true rfl) ?_
  intro p e s m below meth c A ls hcs hP hK hD hX hA hS hl
  obtain ⟨hx, hb, hr, hml, hown, hg, hlocks, hin⟩ := hcs
  have hown : s.vm.findClass RX4 = some m.cls := hown
  have hl : lv_has ls 6 [(0, .ref h0), (1, .long 1), (3, .long 1)] := hl
  refine lv_lload_n hx hb dX4_scale_0 rfl (lv_at hl 2 rfl) ?_
  refine lv_lconst (v := 0) hx hb dX4_scale_1 (by decide) ?_
  refine W.lcmp hx hb dX4_scale_2 ?_
  refine ti (1) (by decide) ?_
  refine lv_if_gt (tgt := 7) hx hb dX4_scale_3 (by decide) (fun _ => ?_) (fun c9 => absurd (by decide) c9)
  refine lv_aload_n hx hb dX4_scale_7 rfl (lv_at hl 0 rfl) ?_
  refine va_get (D := D) (ci := 4) (v := .int 0) (C := RX4) (T := TX4) (N := 3) hx hb hg inX4 hown hK hP 0 rfl rfl 1 (by decide) (hg _ k210) (fun _ h9 => h9) rfl dX4_scale_8 ?_
  refine lv_iconst (v := 1) hx hb dX4_scale_11 (by decide) ?_
  refine lv_icmp_gt (tgt := 30) hx hb dX4_scale_12 (by decide) (fun c9 => absurd c9 (by decide)) (fun _ => ?_)
  refine lv_aload_n hx hb dX4_scale_15 rfl (lv_at hl 0 rfl) ?_
  refine lv_aload_n hx hb dX4_scale_16 rfl (lv_at hl 0 rfl) ?_
  refine cVl (n := 0) (As := []) (rest := [.ref h0]) (wr := [(h0, .inr (4, [.ref h1, .int 0, .int 0])), (h1, .inl (a0, 2, .inl f0))]) (tr := [(a0, .int)]) hx hb hml hown hg okN (cX4_lowest_390 l D h0 h1 (.int 0) f0 a0 ef0_0) (mwV k344 k346 k0 k88 k347) ⟨rfl, by decide, by decide, by decide +kernel⟩ ⟨rfl, rfl, (Nat.le_of_ble_eq_true rfl), (Nat.le_of_ble_eq_true rfl)⟩ hP hD hK hS xn [0, 1] [] [0, 1] [0] [0] rfl (by decide) rfl rfl (by decide) (by decide) rfl rfl (aNil hA hS) (aNil hA hS) 0 rfl rfl rfl hl.1 rfl (Nat.le_of_ble_eq_true rfl) dX4_scale_17 ⟨(Nat.le_of_ble_eq_true rfl), (Nat.le_of_ble_eq_true rfl)⟩ (fun u H locs hφ hP hD hK hS hk => ?_)
  have hP : va_P D vwCl [(h0, .inr (4, [.ref h1, .int 0, .int 0])), (h1, .inl (a0, 2, .inl f0))] H := hP
  have hD : va_D A [(h0, .inr (4, [.ref h1, .int 0, .int 0])), (h1, .inl (a0, 2, .inl f0))] := hD
  have hK : va_K D vwCl [(a0, .int)] s := hK
  refine W.widen (k := 0) (n := 0) (Nat.le_of_ble_eq_true rfl) (Nat.le_of_ble_eq_true rfl) ?_
  refine lv_lload_n hx hb dX4_scale_20 rfl (lv_at hl 1 rfl) ?_
  refine lv_lmul hx hb dX4_scale_21 ?_
  refine tl (0) (by decide) ?_
  refine lv_lload_n hx hb dX4_scale_22 rfl (lv_at hl 2 rfl) ?_
  refine cTl (n := 2) (As := [.long 0, .long 1]) (rest := [.ref h0]) (wr := [(h0, .inr (4, [.ref h1, .int 0, .int 0])), (h1, .inl (a0, 2, .inl f0))]) (tr := [(a0, .int)]) hx hb hml hown hg okN (cJ9_floorDiv_f86c9_393 l D) (mwI k557) ⟨by decide, by decide, by decide +kernel⟩ k90 k555 k556 ⟨rfl, rfl, (Nat.le_of_ble_eq_true rfl), (Nat.le_of_ble_eq_true rfl)⟩ hP hD hK hS xn [] [] [0, 1] [] [0] rfl (by decide) rfl rfl (by decide) (by decide) rfl rfl (aNil hA hS) (aNil hA hS) rfl hl.1 rfl (Nat.le_of_ble_eq_true rfl) dX4_scale_23 ⟨(Nat.le_of_ble_eq_true rfl), (Nat.le_of_ble_eq_true rfl)⟩ (fun u H locs hφ hP hD hK hS hk => ?_)
  have hP : va_P D vwCl [(h0, .inr (4, [.ref h1, .int 0, .int 0])), (h1, .inl (a0, 2, .inl f0))] H := hP
  have hD : va_D A [(h0, .inr (4, [.ref h1, .int 0, .int 0])), (h1, .inl (a0, 2, .inl f0))] := hD
  have hK : va_K D vwCl [(a0, .int)] s := hK
  refine W.widen (k := 0) (n := 0) (Nat.le_of_ble_eq_true rfl) (Nat.le_of_ble_eq_true rfl) ?_
  refine cVv (n := 1) (As := [.long 0]) (rest := []) (wr := []) (tr := []) hx hb hml hown hg okN (cX4_become_391 l D h0 h1 (.int 0) (.int 0) f0 a0) (mwV k349 k275 k276 k88 k277) ⟨rfl, by decide, by decide, by decide +kernel⟩ ⟨rfl, rfl, (Nat.le_of_ble_eq_true rfl), (Nat.le_of_ble_eq_true rfl)⟩ hP hD hK hS xn [0, 1] [0, 1] [] [0] [] rfl (by decide) rfl rfl (by decide) (by decide) rfl rfl (va_free hD hS hA [0, 1] rfl) (va_free hD hS hA [0, 1] rfl) 0 rfl rfl rfl hl.1 rfl (Nat.le_of_ble_eq_true rfl) dX4_scale_26 ⟨(Nat.le_of_ble_eq_true rfl), (Nat.le_of_ble_eq_true rfl)⟩ (fun u H locs hφ hP hD hK hS hk => ?_)
  have hP : va_P D vwCl [(h0, .inr (4, [.ref h1, .int 0, .int 0])), (h1, .inl (a0, 2, .inl (upd (upd f0 0 0) 1 0)))] H := hP
  have hD : va_D A [(h0, .inr (4, [.ref h1, .int 0, .int 0])), (h1, .inl (a0, 2, .inl (upd (upd f0 0 0) 1 0)))] := hD
  have hK : va_K D vwCl [(a0, .int)] s := hK
  refine W.widen (k := 0) (n := 0) (Nat.le_of_ble_eq_true rfl) (Nat.le_of_ble_eq_true rfl) ?_
  exact fv hx hb hr hlocks hP hD hK hS (()) trivial [0, 1] [0] rfl (by decide) rfl (Nat.le_of_ble_eq_true rfl) (Nat.le_of_ble_eq_true rfl) dX4_scale_29
set_option maxHeartbeats 4000000 in
set_option maxRecDepth 100000 in
theorem cX1_predictInto_397 (l : Launch) (D : va_G) (h0 : Nat) (h1 : Nat) (h2 : Nat) (h3 : Nat) (h4 : Nat) (h5 : Nat) (h6 : Nat) (h7 : Nat) (h8 : Nat) (h9 : Nat) (v0 : Value) (v1 : Value) (v2 : Value) (v3 : Value) (v4 : Value) (v5 : Value) (v6 : Value) (v7 : Value) (v8 : Value) (v9 : Value) (v10 : Value) (v11 : Value) (v12 : Value) (f0 : Nat → Option Nat) (f1 : Nat → Int32) (f2 : Nat → Int32) (f3 : Nat → Int32) (v13 : Value) (v14 : Value) (v15 : Value) (v16 : Value) (v17 : Value) (v18 : Value) (f4 : Nat → Int32) (a0 : ClassId) (a1 : ClassId) (a2 : ClassId) (a3 : ClassId) (a4 : ClassId) (ef0_0 : f0 0 = some h6) (ef0_1 : f0 1 = some h3) (ef1_0 : f1 0 = 0) (ef3_0 : f3 0 = 0) (ef4_0 : f4 0 = 0) (ef4_1 : f4 1 = 1)  : CT l yX1_predictInto cX1_predictInto 6 none { frames := 2, cells := 0, slots := 0, locals := 50 } [.ref h0, .ref h1, .int 2, .int 0, .int 1, .int 1] D [(h0, .inr (1, [.ref h8, .ref h2, v0, v1, v2, v3, v4, v5, v6, v7, v8, v9, v10])), (h1, .inr (4, [.ref h5, v11, v12])), (h2, .inl (a0, 48, .inr (.inr (.inr (.inr f0))))), (h3, .inr (4, [.ref h4, .int 0, .int 0])), (h4, .inl (a1, 2, .inl f1)), (h5, .inl (a2, 2, .inl f2)), (h6, .inr (4, [.ref h7, .int 0, .int 0])), (h7, .inl (a3, 2, .inl f3)), (h8, .inr (0, [.ref h9, v13, v14, v15, v16, v17, v18])), (h9, .inl (a4, 48, .inl f4))] [(a0, .object "LiftingSignal$Whole"), (a1, .int), (a2, .int), (a3, .int), (a4, .int)] XN [(h0, .inr (1, [.ref h8, .ref h2, v0, v1, v2, v3, v4, v5, v6, v7, v8, v9, v10])), (h1, .inr (4, [.ref h5, v11, v12])), (h2, .inl (a0, 48, .inr (.inr (.inr (.inr f0))))), (h3, .inr (4, [.ref h4, .int 0, .int 0])), (h4, .inl (a1, 2, .inl f1)), (h5, .inl (a2, 2, .inl f2)), (h6, .inr (4, [.ref h7, .int 0, .int 0])), (h7, .inl (a3, 2, .inl f3)), (h8, .inr (0, [.ref h9, v13, v14, v15, v16, v17, v18])), (h9, .inl (a4, 48, .inl f4))] (ev (fun _ : Unit => True) (fun _ => [(h0, .inr (1, [.ref h8, .ref h2, v0, v1, v2, v3, v4, v5, v6, v7, v8, v9, v10])), (h1, .inr (4, [.ref h5, .int 0, .int 0])), (h2, .inl (a0, 48, .inr (.inr (.inr (.inr f0))))), (h3, .inr (4, [.ref h4, .int 0, .int 0])), (h4, .inl (a1, 2, .inl f1)), (h5, .inl (a2, 2, .inl (upd (upd (upd (upd (upd (upd (upd f2 0 0) 0 0) 1 0) 0 0) 1 0) 0 0) 1 0))), (h6, .inr (4, [.ref h7, .int 0, .int 0])), (h7, .inl (a3, 2, .inl f3)), (h8, .inr (0, [.ref h9, v13, v14, v15, v16, v17, v18])), (h9, .inl (a4, 48, .inl f4))]) (fun u => [(a0, .object "LiftingSignal$Whole"), (a1, .int), (a2, .int), (a3, .int), (a4, .int)]) D) 0 0 := by
  refine CT.ofW (by decide +kernel) (Nat.le_of_ble_eq_true rfl) ?_
  intro p e s m below meth c A ls hcs hP hK hD hX hA hS hl
  obtain ⟨hx, hb, hr, hml, hown, hg, hlocks, hin⟩ := hcs
  have hown : s.vm.findClass RX1 = some m.cls := hown
  have hl : lv_has ls 6 [(0, .ref h0), (1, .ref h1), (2, .int 2), (3, .int 0), (4, .int 1), (5, .int 1)] := hl
  refine lv_iload_n hx hb dX1_predictInto_0 rfl (lv_at hl 2 rfl) ?_
  refine lv_if_eq (tgt := 21) hx hb dX1_predictInto_1 (by decide) (fun c9 => absurd c9 (by decide)) (fun _ => ?_)
  refine lv_iload_n hx hb dX1_predictInto_4 rfl (lv_at hl 2 rfl) ?_
  refine lv_iconst (v := 1) hx hb dX1_predictInto_5 (by decide) ?_
  refine lv_icmp_ne (tgt := 32) hx hb dX1_predictInto_6 (by decide) (fun _ => ?_) (fun c9 => absurd c9 (by decide))
  refine lv_aload_n hx hb dX1_predictInto_32 rfl (lv_at hl 1 rfl) ?_
  refine lv_aload_n hx hb dX1_predictInto_33 rfl (lv_at hl 0 rfl) ?_
  refine va_get (D := D) (ci := 1) (v := .ref h2) (C := RX1) (T := TX1) (N := 13) hx hb hg inX1 hown hK hP 0 rfl rfl 1 (by decide) (hg _ k279) (fun _ h9 => h9) rfl dX1_predictInto_34 ?_
  refine lv_iload hx hb dX1_predictInto_37 (lv_at hl 5 rfl) ?_
  refine aldQ hx hb hK hP 2 0 rfl rfl 1 (by decide) (vin (by decide)) (v := h3) ef0_1 dX1_predictInto_39 ?_
  refine cVv (n := 1) (As := [.ref h3]) (rest := []) (wr := [(h0, .inr (1, [.ref h8, .ref h2, v0, v1, v2, v3, v4, v5, v6, v7, v8, v9, v10])), (h2, .inl (a0, 48, .inr (.inr (.inr (.inr f0))))), (h6, .inr (4, [.ref h7, .int 0, .int 0])), (h7, .inl (a3, 2, .inl f3)), (h8, .inr (0, [.ref h9, v13, v14, v15, v16, v17, v18])), (h9, .inl (a4, 48, .inl f4))]) (tr := [(a0, .object "LiftingSignal$Whole"), (a3, .int), (a4, .int)]) hx hb hml hown hg okN (cX4_copyFrom_388 l D h1 h3 h4 h5 v11 v12 f1 f2 a1 a2 ef1_0) (mwV k455 k456 k457 k88 k458) ⟨rfl, by decide, by decide, by decide +kernel⟩ ⟨rfl, rfl, (Nat.le_of_ble_eq_true rfl), (Nat.le_of_ble_eq_true rfl)⟩ hP hD hK hS xn [1, 3, 4, 5] [1, 3, 4, 5] [0, 2, 6, 7, 8, 9] [1, 2] [0, 3, 4] rfl (by decide) rfl rfl (by decide) (by decide) rfl rfl (va_free hD hS hA [1, 3, 4, 5] rfl) (va_free hD hS hA [1, 3, 4, 5] rfl) 1 rfl rfl rfl hl.1 rfl (Nat.le_of_ble_eq_true rfl) dX1_predictInto_40 ⟨(Nat.le_of_ble_eq_true rfl), (Nat.le_of_ble_eq_true rfl)⟩ (fun u H locs hφ hP hD hK hS hk => ?_)
  have hP : va_P D vwCl [(h0, .inr (1, [.ref h8, .ref h2, v0, v1, v2, v3, v4, v5, v6, v7, v8, v9, v10])), (h2, .inl (a0, 48, .inr (.inr (.inr (.inr f0))))), (h6, .inr (4, [.ref h7, .int 0, .int 0])), (h7, .inl (a3, 2, .inl f3)), (h8, .inr (0, [.ref h9, v13, v14, v15, v16, v17, v18])), (h9, .inl (a4, 48, .inl f4)), (h1, .inr (4, [.ref h5, .int 0, .int 0])), (h3, .inr (4, [.ref h4, .int 0, .int 0])), (h4, .inl (a1, 2, .inl f1)), (h5, .inl (a2, 2, .inl (upd f2 0 0)))] H := hP
  have hD : va_D A [(h0, .inr (1, [.ref h8, .ref h2, v0, v1, v2, v3, v4, v5, v6, v7, v8, v9, v10])), (h2, .inl (a0, 48, .inr (.inr (.inr (.inr f0))))), (h6, .inr (4, [.ref h7, .int 0, .int 0])), (h7, .inl (a3, 2, .inl f3)), (h8, .inr (0, [.ref h9, v13, v14, v15, v16, v17, v18])), (h9, .inl (a4, 48, .inl f4)), (h1, .inr (4, [.ref h5, .int 0, .int 0])), (h3, .inr (4, [.ref h4, .int 0, .int 0])), (h4, .inl (a1, 2, .inl f1)), (h5, .inl (a2, 2, .inl (upd f2 0 0)))] := hD
  have hK : va_K D vwCl [(a0, .object "LiftingSignal$Whole"), (a3, .int), (a4, .int), (a1, .int), (a2, .int)] s := hK
  refine W.widen (k := 0) (n := 0) (Nat.le_of_ble_eq_true rfl) (Nat.le_of_ble_eq_true rfl) ?_
  refine lv_iload_n hx hb dX1_predictInto_43 rfl (lv_at hl 2 rfl) ?_
  refine lv_iconst (v := 2) hx hb dX1_predictInto_44 (by decide) ?_
  refine lv_icmp_ne (tgt := 110) hx hb dX1_predictInto_45 (by decide) (fun c9 => absurd (by decide) c9) (fun _ => ?_)
  refine lv_aload_n hx hb dX1_predictInto_48 rfl (lv_at hl 1 rfl) ?_
  refine lv_aload_n hx hb dX1_predictInto_49 rfl (lv_at hl 0 rfl) ?_
  refine va_get (D := D) (ci := 1) (v := .ref h2) (C := RX1) (T := TX1) (N := 13) hx hb hg inX1 hown hK hP 0 rfl rfl 1 (by decide) (hg _ k279) (fun _ h9 => h9) rfl dX1_predictInto_50 ?_
  refine lv_iload_n hx hb dX1_predictInto_53 rfl (lv_at hl 3 rfl) ?_
  refine aldQ hx hb hK hP 1 0 rfl rfl 0 (by decide) (vin (by decide)) (v := h6) ef0_0 dX1_predictInto_54 ?_
  refine lv_ldc2 hx hb hown (hg _ k550) dX1_predictInto_55 ?_
  refine cVv (n := 2) (As := [.ref h6, .long (-1)]) (rest := []) (wr := [(h0, .inr (1, [.ref h8, .ref h2, v0, v1, v2, v3, v4, v5, v6, v7, v8, v9, v10])), (h2, .inl (a0, 48, .inr (.inr (.inr (.inr f0))))), (h8, .inr (0, [.ref h9, v13, v14, v15, v16, v17, v18])), (h9, .inl (a4, 48, .inl f4)), (h3, .inr (4, [.ref h4, .int 0, .int 0])), (h4, .inl (a1, 2, .inl f1))]) (tr := [(a0, .object "LiftingSignal$Whole"), (a4, .int), (a1, .int)]) hx hb hml hown hg okN (cX4_add_389 l D h1 h6 h5 h7 (upd f2 0 0) f3 a2 a3 rfl ef3_0) (mwV k340 k341 k342 k88 k343) ⟨rfl, by decide, by decide, by decide +kernel⟩ ⟨rfl, rfl, (Nat.le_of_ble_eq_true rfl), (Nat.le_of_ble_eq_true rfl)⟩ hP hD hK hS xn [6, 2, 9, 3] [6, 2, 9, 3] [0, 1, 4, 5, 7, 8] [4, 1] [0, 2, 3] rfl (by decide) rfl rfl (by decide) (by decide) rfl rfl (va_free hD hS hA [6, 2, 9, 3] rfl) (va_free hD hS hA [6, 2, 9, 3] rfl) 6 rfl rfl rfl hl.1 rfl (Nat.le_of_ble_eq_true rfl) dX1_predictInto_58 ⟨(Nat.le_of_ble_eq_true rfl), (Nat.le_of_ble_eq_true rfl)⟩ (fun u H locs hφ hP hD hK hS hk => ?_)
  have hP : va_P D vwCl [(h0, .inr (1, [.ref h8, .ref h2, v0, v1, v2, v3, v4, v5, v6, v7, v8, v9, v10])), (h2, .inl (a0, 48, .inr (.inr (.inr (.inr f0))))), (h8, .inr (0, [.ref h9, v13, v14, v15, v16, v17, v18])), (h9, .inl (a4, 48, .inl f4)), (h3, .inr (4, [.ref h4, .int 0, .int 0])), (h4, .inl (a1, 2, .inl f1)), (h1, .inr (4, [.ref h5, .int 0, .int 0])), (h6, .inr (4, [.ref h7, .int 0, .int 0])), (h5, .inl (a2, 2, .inl (upd (upd (upd f2 0 0) 0 0) 1 0))), (h7, .inl (a3, 2, .inl f3))] H := hP
  have hD : va_D A [(h0, .inr (1, [.ref h8, .ref h2, v0, v1, v2, v3, v4, v5, v6, v7, v8, v9, v10])), (h2, .inl (a0, 48, .inr (.inr (.inr (.inr f0))))), (h8, .inr (0, [.ref h9, v13, v14, v15, v16, v17, v18])), (h9, .inl (a4, 48, .inl f4)), (h3, .inr (4, [.ref h4, .int 0, .int 0])), (h4, .inl (a1, 2, .inl f1)), (h1, .inr (4, [.ref h5, .int 0, .int 0])), (h6, .inr (4, [.ref h7, .int 0, .int 0])), (h5, .inl (a2, 2, .inl (upd (upd (upd f2 0 0) 0 0) 1 0))), (h7, .inl (a3, 2, .inl f3))] := hD
  have hK : va_K D vwCl [(a0, .object "LiftingSignal$Whole"), (a4, .int), (a1, .int), (a2, .int), (a3, .int)] s := hK
  refine W.widen (k := 0) (n := 0) (Nat.le_of_ble_eq_true rfl) (Nat.le_of_ble_eq_true rfl) ?_
  refine lv_aload_n hx hb dX1_predictInto_61 rfl (lv_at hl 1 rfl) ?_
  refine lv_iload hx hb dX1_predictInto_62 (lv_at hl 4 rfl) ?_
  refine lv_aload_n hx hb dX1_predictInto_64 rfl (lv_at hl 0 rfl) ?_
  refine va_get (D := D) (ci := 1) (v := .ref h8) (C := RX1) (T := TX1) (N := 13) hx hb hg inX1 hown hK hP 0 rfl rfl 0 (by decide) (hg _ k278) (fun _ h9 => h9) rfl dX1_predictInto_65 ?_
  refine va_get (D := D) (ci := 0) (v := .ref h9) (C := RX0) (T := TX0) (N := 7) hx hb hg inX0 hown hK hP 2 rfl rfl 0 (by decide) (hg _ k157) (fun _ h9 => h9) rfl dX1_predictInto_68 ?_
  refine lv_iload_n hx hb dX1_predictInto_71 rfl (lv_at hl 3 rfl) ?_
  refine aldI hx hb hK hP 3 1 rfl rfl 0 (by decide) (vin (by decide)) (v := 0) ef4_0 dX1_predictInto_72 ?_
  refine lv_isub hx hb dX1_predictInto_73 ?_
  refine ti (1) (by decide) ?_
  refine lv_i2l (v := 1) hx hb dX1_predictInto_74 (by decide) ?_
  refine lv_aload_n hx hb dX1_predictInto_75 rfl (lv_at hl 0 rfl) ?_
  refine va_get (D := D) (ci := 1) (v := .ref h8) (C := RX1) (T := TX1) (N := 13) hx hb hg inX1 hown hK hP 0 rfl rfl 0 (by decide) (hg _ k278) (fun _ h9 => h9) rfl dX1_predictInto_76 ?_
  refine va_get (D := D) (ci := 0) (v := .ref h9) (C := RX0) (T := TX0) (N := 7) hx hb hg inX0 hown hK hP 2 rfl rfl 0 (by decide) (hg _ k157) (fun _ h9 => h9) rfl dX1_predictInto_79 ?_
  refine lv_iload hx hb dX1_predictInto_82 (lv_at hl 5 rfl) ?_
  refine aldI hx hb hK hP 3 1 rfl rfl 1 (by decide) (vin (by decide)) (v := 1) ef4_1 dX1_predictInto_84 ?_
  refine lv_aload_n hx hb dX1_predictInto_85 rfl (lv_at hl 0 rfl) ?_
  refine va_get (D := D) (ci := 1) (v := .ref h8) (C := RX1) (T := TX1) (N := 13) hx hb hg inX1 hown hK hP 0 rfl rfl 0 (by decide) (hg _ k278) (fun _ h9 => h9) rfl dX1_predictInto_86 ?_
  refine va_get (D := D) (ci := 0) (v := .ref h9) (C := RX0) (T := TX0) (N := 7) hx hb hg inX0 hown hK hP 2 rfl rfl 0 (by decide) (hg _ k157) (fun _ h9 => h9) rfl dX1_predictInto_89 ?_
  refine lv_iload_n hx hb dX1_predictInto_92 rfl (lv_at hl 3 rfl) ?_
  refine aldI hx hb hK hP 3 1 rfl rfl 0 (by decide) (vin (by decide)) (v := 0) ef4_0 dX1_predictInto_93 ?_
  refine lv_isub hx hb dX1_predictInto_94 ?_
  refine ti (1) (by decide) ?_
  refine lv_i2l (v := 1) hx hb dX1_predictInto_95 (by decide) ?_
  refine cVv (n := 2) (As := [.long 1, .long 1]) (rest := []) (wr := [(h0, .inr (1, [.ref h8, .ref h2, v0, v1, v2, v3, v4, v5, v6, v7, v8, v9, v10])), (h2, .inl (a0, 48, .inr (.inr (.inr (.inr f0))))), (h8, .inr (0, [.ref h9, v13, v14, v15, v16, v17, v18])), (h9, .inl (a4, 48, .inl f4)), (h3, .inr (4, [.ref h4, .int 0, .int 0])), (h4, .inl (a1, 2, .inl f1)), (h6, .inr (4, [.ref h7, .int 0, .int 0])), (h7, .inl (a3, 2, .inl f3))]) (tr := [(a0, .object "LiftingSignal$Whole"), (a4, .int), (a1, .int), (a3, .int)]) hx hb hml hown hg okN (cX4_scale_398 l D h1 h5 (upd (upd (upd f2 0 0) 0 0) 1 0) a2 rfl) (mwV k551 k552 k553 k88 k554) ⟨rfl, by decide, by decide, by decide +kernel⟩ ⟨rfl, rfl, (Nat.le_of_ble_eq_true rfl), (Nat.le_of_ble_eq_true rfl)⟩ hP hD hK hS xn [6, 8] [6, 8] [0, 1, 2, 3, 4, 5, 7, 9] [3] [0, 1, 2, 4] rfl (by decide) rfl rfl (by decide) (by decide) rfl rfl (va_free hD hS hA [6, 8] rfl) (va_free hD hS hA [6, 8] rfl) 6 rfl rfl rfl hl.1 rfl (Nat.le_of_ble_eq_true rfl) dX1_predictInto_96 ⟨(Nat.le_of_ble_eq_true rfl), (Nat.le_of_ble_eq_true rfl)⟩ (fun u H locs hφ hP hD hK hS hk => ?_)
  have hP : va_P D vwCl [(h0, .inr (1, [.ref h8, .ref h2, v0, v1, v2, v3, v4, v5, v6, v7, v8, v9, v10])), (h2, .inl (a0, 48, .inr (.inr (.inr (.inr f0))))), (h8, .inr (0, [.ref h9, v13, v14, v15, v16, v17, v18])), (h9, .inl (a4, 48, .inl f4)), (h3, .inr (4, [.ref h4, .int 0, .int 0])), (h4, .inl (a1, 2, .inl f1)), (h6, .inr (4, [.ref h7, .int 0, .int 0])), (h7, .inl (a3, 2, .inl f3)), (h1, .inr (4, [.ref h5, .int 0, .int 0])), (h5, .inl (a2, 2, .inl (upd (upd (upd (upd (upd f2 0 0) 0 0) 1 0) 0 0) 1 0)))] H := hP
  have hD : va_D A [(h0, .inr (1, [.ref h8, .ref h2, v0, v1, v2, v3, v4, v5, v6, v7, v8, v9, v10])), (h2, .inl (a0, 48, .inr (.inr (.inr (.inr f0))))), (h8, .inr (0, [.ref h9, v13, v14, v15, v16, v17, v18])), (h9, .inl (a4, 48, .inl f4)), (h3, .inr (4, [.ref h4, .int 0, .int 0])), (h4, .inl (a1, 2, .inl f1)), (h6, .inr (4, [.ref h7, .int 0, .int 0])), (h7, .inl (a3, 2, .inl f3)), (h1, .inr (4, [.ref h5, .int 0, .int 0])), (h5, .inl (a2, 2, .inl (upd (upd (upd (upd (upd f2 0 0) 0 0) 1 0) 0 0) 1 0)))] := hD
  have hK : va_K D vwCl [(a0, .object "LiftingSignal$Whole"), (a4, .int), (a1, .int), (a3, .int), (a2, .int)] s := hK
  refine W.widen (k := 0) (n := 0) (Nat.le_of_ble_eq_true rfl) (Nat.le_of_ble_eq_true rfl) ?_
  refine lv_aload_n hx hb dX1_predictInto_99 rfl (lv_at hl 1 rfl) ?_
  refine lv_aload_n hx hb dX1_predictInto_100 rfl (lv_at hl 0 rfl) ?_
  refine va_get (D := D) (ci := 1) (v := .ref h2) (C := RX1) (T := TX1) (N := 13) hx hb hg inX1 hown hK hP 0 rfl rfl 1 (by decide) (hg _ k279) (fun _ h9 => h9) rfl dX1_predictInto_101 ?_
  refine lv_iload_n hx hb dX1_predictInto_104 rfl (lv_at hl 3 rfl) ?_
  refine aldQ hx hb hK hP 1 0 rfl rfl 0 (by decide) (vin (by decide)) (v := h6) ef0_0 dX1_predictInto_105 ?_
  refine lv_lconst (v := 1) hx hb dX1_predictInto_106 (by decide) ?_
  refine cVv (n := 2) (As := [.ref h6, .long 1]) (rest := []) (wr := [(h0, .inr (1, [.ref h8, .ref h2, v0, v1, v2, v3, v4, v5, v6, v7, v8, v9, v10])), (h2, .inl (a0, 48, .inr (.inr (.inr (.inr f0))))), (h8, .inr (0, [.ref h9, v13, v14, v15, v16, v17, v18])), (h9, .inl (a4, 48, .inl f4)), (h3, .inr (4, [.ref h4, .int 0, .int 0])), (h4, .inl (a1, 2, .inl f1))]) (tr := [(a0, .object "LiftingSignal$Whole"), (a4, .int), (a1, .int)]) hx hb hml hown hg okN (cX4_add_394 l D h1 h6 h5 h7 (upd (upd (upd (upd (upd f2 0 0) 0 0) 1 0) 0 0) 1 0) f3 a2 a3 rfl ef3_0) (mwV k340 k341 k342 k88 k343) ⟨rfl, by decide, by decide, by decide +kernel⟩ ⟨rfl, rfl, (Nat.le_of_ble_eq_true rfl), (Nat.le_of_ble_eq_true rfl)⟩ hP hD hK hS xn [8, 6, 9, 7] [8, 6, 9, 7] [0, 1, 2, 3, 4, 5] [4, 3] [0, 1, 2] rfl (by decide) rfl rfl (by decide) (by decide) rfl rfl (va_free hD hS hA [8, 6, 9, 7] rfl) (va_free hD hS hA [8, 6, 9, 7] rfl) 8 rfl rfl rfl hl.1 rfl (Nat.le_of_ble_eq_true rfl) dX1_predictInto_107 ⟨(Nat.le_of_ble_eq_true rfl), (Nat.le_of_ble_eq_true rfl)⟩ (fun u H locs hφ hP hD hK hS hk => ?_)
  have hP : va_P D vwCl [(h0, .inr (1, [.ref h8, .ref h2, v0, v1, v2, v3, v4, v5, v6, v7, v8, v9, v10])), (h2, .inl (a0, 48, .inr (.inr (.inr (.inr f0))))), (h8, .inr (0, [.ref h9, v13, v14, v15, v16, v17, v18])), (h9, .inl (a4, 48, .inl f4)), (h3, .inr (4, [.ref h4, .int 0, .int 0])), (h4, .inl (a1, 2, .inl f1)), (h1, .inr (4, [.ref h5, .int 0, .int 0])), (h6, .inr (4, [.ref h7, .int 0, .int 0])), (h5, .inl (a2, 2, .inl (upd (upd (upd (upd (upd (upd (upd f2 0 0) 0 0) 1 0) 0 0) 1 0) 0 0) 1 0))), (h7, .inl (a3, 2, .inl f3))] H := hP
  have hD : va_D A [(h0, .inr (1, [.ref h8, .ref h2, v0, v1, v2, v3, v4, v5, v6, v7, v8, v9, v10])), (h2, .inl (a0, 48, .inr (.inr (.inr (.inr f0))))), (h8, .inr (0, [.ref h9, v13, v14, v15, v16, v17, v18])), (h9, .inl (a4, 48, .inl f4)), (h3, .inr (4, [.ref h4, .int 0, .int 0])), (h4, .inl (a1, 2, .inl f1)), (h1, .inr (4, [.ref h5, .int 0, .int 0])), (h6, .inr (4, [.ref h7, .int 0, .int 0])), (h5, .inl (a2, 2, .inl (upd (upd (upd (upd (upd (upd (upd f2 0 0) 0 0) 1 0) 0 0) 1 0) 0 0) 1 0))), (h7, .inl (a3, 2, .inl f3))] := hD
  have hK : va_K D vwCl [(a0, .object "LiftingSignal$Whole"), (a4, .int), (a1, .int), (a2, .int), (a3, .int)] s := hK
  refine W.widen (k := 0) (n := 0) (Nat.le_of_ble_eq_true rfl) (Nat.le_of_ble_eq_true rfl) ?_
  exact fv hx hb hr hlocks hP hD hK hS (()) trivial [0, 6, 1, 4, 5, 8, 7, 9, 2, 3] [0, 2, 3, 4, 1] rfl (by decide) rfl (Nat.le_of_ble_eq_true rfl) (Nat.le_of_ble_eq_true rfl) dX1_predictInto_110
set_option maxHeartbeats 4000000 in
set_option maxRecDepth 100000 in
theorem cX1_lineAt_396 (l : Launch) (D : va_G) (h0 : Nat) (h1 : Nat) (h2 : Nat) (h3 : Nat) (h4 : Nat) (h5 : Nat) (h6 : Nat) (h7 : Nat) (h8 : Nat) (h9 : Nat) (h10 : Nat) (v0 : Value) (v1 : Value) (v2 : Value) (v3 : Value) (v4 : Value) (v5 : Value) (v6 : Value) (v7 : Value) (v8 : Value) (v9 : Value) (v10 : Value) (v11 : Value) (v12 : Value) (v13 : Value) (f0 : Nat → Int32) (f1 : Nat → Int32) (f2 : Nat → Option Nat) (v14 : Value) (v15 : Value) (f3 : Nat → Int32) (f4 : Nat → Int32) (f5 : Nat → Int32) (a0 : ClassId) (a1 : ClassId) (a2 : ClassId) (a3 : ClassId) (a4 : ClassId) (a5 : ClassId) (ef0_1 : f0 1 = (-1)) (ef1_0 : f1 0 = 0) (ef1_1 : f1 1 = 1) (ef2_0 : f2 0 = some h9) (ef2_1 : f2 1 = some h6) (ef3_0 : f3 0 = 0) (ef5_0 : f5 0 = 0)  : CT l yX1_lineAt cX1_lineAt 4 (some (.object "LiftingSignal$Whole")) { frames := 3, cells := 0, slots := 0, locals := 75 } [.ref h0, .int 1] D [(h0, .inr (1, [.ref h1, .ref h4, v0, .ref h2, v1, v2, v3, v4, v5, v6, v7, v8, .ref h5])), (h1, .inr (0, [.ref h3, v9, .int 2, v10, v11, v12, v13])), (h2, .inl (a0, 48, .inl f0)), (h3, .inl (a1, 48, .inl f1)), (h4, .inl (a2, 48, .inr (.inr (.inr (.inr f2))))), (h5, .inr (4, [.ref h8, v14, v15])), (h6, .inr (4, [.ref h7, .int 0, .int 0])), (h7, .inl (a3, 2, .inl f3)), (h8, .inl (a4, 2, .inl f4)), (h9, .inr (4, [.ref h10, .int 0, .int 0])), (h10, .inl (a5, 2, .inl f5))] [(a0, .int), (a1, .int), (a2, .object "LiftingSignal$Whole"), (a3, .int), (a4, .int), (a5, .int)] XN [(h0, .inr (1, [.ref h1, .ref h4, v0, .ref h2, v1, v2, v3, v4, v5, v6, v7, v8, .ref h5])), (h1, .inr (0, [.ref h3, v9, .int 2, v10, v11, v12, v13])), (h2, .inl (a0, 48, .inl f0)), (h3, .inl (a1, 48, .inl f1)), (h4, .inl (a2, 48, .inr (.inr (.inr (.inr f2))))), (h5, .inr (4, [.ref h8, v14, v15])), (h6, .inr (4, [.ref h7, .int 0, .int 0])), (h7, .inl (a3, 2, .inl f3)), (h8, .inl (a4, 2, .inl f4)), (h9, .inr (4, [.ref h10, .int 0, .int 0])), (h10, .inl (a5, 2, .inl f5))] (er (fun _ : Unit => True) (fun u => h5) (fun _ => [(h0, .inr (1, [.ref h1, .ref h4, v0, .ref h2, v1, v2, v3, v4, v5, v6, v7, v8, .ref h5])), (h1, .inr (0, [.ref h3, v9, .int 2, v10, v11, v12, v13])), (h2, .inl (a0, 48, .inl f0)), (h3, .inl (a1, 48, .inl f1)), (h4, .inl (a2, 48, .inr (.inr (.inr (.inr f2))))), (h5, .inr (4, [.ref h8, .int 0, .int 0])), (h6, .inr (4, [.ref h7, .int 0, .int 0])), (h7, .inl (a3, 2, .inl f3)), (h8, .inl (a4, 2, .inl (upd (upd (upd (upd (upd (upd (upd f4 0 0) 0 0) 1 0) 0 0) 1 0) 0 0) 1 0))), (h9, .inr (4, [.ref h10, .int 0, .int 0])), (h10, .inl (a5, 2, .inl f5))]) (fun u => [(a0, .int), (a1, .int), (a2, .object "LiftingSignal$Whole"), (a3, .int), (a4, .int), (a5, .int)]) D) 0 0 := by
  refine CT.ofW (by decide +kernel) (Nat.le_of_ble_eq_true rfl) ?_
  intro p e s m below meth c A ls hcs hP hK hD hX hA hS hl
  obtain ⟨hx, hb, hr, hml, hown, hg, hlocks, hin⟩ := hcs
  have hown : s.vm.findClass RX1 = some m.cls := hown
  have hl : lv_has ls 4 [(0, .ref h0), (1, .int 1)] := hl
  refine lv_iconst (v := 0) hx hb dX1_lineAt_0 (by decide) ?_
  refine lv_istore_n (lv' := [(2, .int 0), (0, .ref h0), (1, .int 1)]) hx hb dX1_lineAt_1 rfl hl (by decide) rfl (fun ls hl => ?_)
  refine lv_iconst (v := 1) hx hb dX1_lineAt_2 (by decide) ?_
  refine lv_istore_n (lv' := [(3, .int 1), (2, .int 0), (0, .ref h0), (1, .int 1)]) hx hb dX1_lineAt_3 rfl hl (by decide) rfl (fun ls hl => ?_)
  refine lv_iload_n hx hb dX1_lineAt_4 rfl (lv_at hl 0 rfl) ?_
  refine lv_aload_n hx hb dX1_lineAt_5 rfl (lv_at hl 2 rfl) ?_
  refine va_get (D := D) (ci := 1) (v := .ref h1) (C := RX1) (T := TX1) (N := 13) hx hb hg inX1 hown hK hP 0 rfl rfl 0 (by decide) (hg _ k278) (fun _ h9 => h9) rfl dX1_lineAt_6 ?_
  refine va_get (D := D) (ci := 0) (v := .int 2) (C := RX0) (T := TX0) (N := 7) hx hb hg inX0 hown hK hP 1 rfl rfl 2 (by decide) (hg _ k162) (fun _ h9 => h9) rfl dX1_lineAt_9 ?_
  refine lv_icmp_ge (tgt := 61) hx hb dX1_lineAt_12 (by decide) (fun c9 => absurd c9 (by decide)) (fun _ => ?_)
  refine lv_aload_n hx hb dX1_lineAt_15 rfl (lv_at hl 2 rfl) ?_
  refine lv_iload_n hx hb dX1_lineAt_16 rfl (lv_at hl 0 rfl) ?_
  refine cVi (n := 1) (As := [.int 1]) (rest := []) (wr := [(h0, .inr (1, [.ref h1, .ref h4, v0, .ref h2, v1, v2, v3, v4, v5, v6, v7, v8, .ref h5])), (h1, .inr (0, [.ref h3, v9, .int 2, v10, v11, v12, v13])), (h2, .inl (a0, 48, .inl f0)), (h3, .inl (a1, 48, .inl f1)), (h4, .inl (a2, 48, .inr (.inr (.inr (.inr f2))))), (h5, .inr (4, [.ref h8, v14, v15])), (h6, .inr (4, [.ref h7, .int 0, .int 0])), (h7, .inl (a3, 2, .inl f3)), (h8, .inl (a4, 2, .inl f4)), (h9, .inr (4, [.ref h10, .int 0, .int 0])), (h10, .inl (a5, 2, .inl f5))]) (tr := [(a0, .int), (a1, .int), (a2, .object "LiftingSignal$Whole"), (a3, .int), (a4, .int), (a5, .int)]) hx hb hml hown hg okN (cX1_isPresent_337 l D h0 h2 (.ref h1) (.ref h4) v0 v1 v2 v3 v4 v5 v6 v7 v8 (.ref h5) f0 a0 ef0_1) (mwV k459 k460 k461 k87 k462) ⟨rfl, by decide, by decide, by decide +kernel⟩ ⟨rfl, rfl, (Nat.le_of_ble_eq_true rfl), (Nat.le_of_ble_eq_true rfl)⟩ hP hD hK hS xn [0, 2] [] [0, 1, 2, 3, 4, 5, 6, 7, 8, 9, 10] [0] [0, 1, 2, 3, 4, 5] rfl (by decide) rfl rfl (by decide) (by decide) rfl rfl (aNil hA hS) (aNil hA hS) 0 rfl rfl rfl hl.1 rfl (Nat.le_of_ble_eq_true rfl) dX1_lineAt_17 ⟨(Nat.le_of_ble_eq_true rfl), (Nat.le_of_ble_eq_true rfl)⟩ (fun u H locs hφ hP hD hK hS hk => ?_)
  have hP : va_P D vwCl [(h0, .inr (1, [.ref h1, .ref h4, v0, .ref h2, v1, v2, v3, v4, v5, v6, v7, v8, .ref h5])), (h1, .inr (0, [.ref h3, v9, .int 2, v10, v11, v12, v13])), (h2, .inl (a0, 48, .inl f0)), (h3, .inl (a1, 48, .inl f1)), (h4, .inl (a2, 48, .inr (.inr (.inr (.inr f2))))), (h5, .inr (4, [.ref h8, v14, v15])), (h6, .inr (4, [.ref h7, .int 0, .int 0])), (h7, .inl (a3, 2, .inl f3)), (h8, .inl (a4, 2, .inl f4)), (h9, .inr (4, [.ref h10, .int 0, .int 0])), (h10, .inl (a5, 2, .inl f5))] H := hP
  have hD : va_D A [(h0, .inr (1, [.ref h1, .ref h4, v0, .ref h2, v1, v2, v3, v4, v5, v6, v7, v8, .ref h5])), (h1, .inr (0, [.ref h3, v9, .int 2, v10, v11, v12, v13])), (h2, .inl (a0, 48, .inl f0)), (h3, .inl (a1, 48, .inl f1)), (h4, .inl (a2, 48, .inr (.inr (.inr (.inr f2))))), (h5, .inr (4, [.ref h8, v14, v15])), (h6, .inr (4, [.ref h7, .int 0, .int 0])), (h7, .inl (a3, 2, .inl f3)), (h8, .inl (a4, 2, .inl f4)), (h9, .inr (4, [.ref h10, .int 0, .int 0])), (h10, .inl (a5, 2, .inl f5))] := hD
  have hK : va_K D vwCl [(a0, .int), (a1, .int), (a2, .object "LiftingSignal$Whole"), (a3, .int), (a4, .int), (a5, .int)] s := hK
  refine W.widen (k := 0) (n := 0) (Nat.le_of_ble_eq_true rfl) (Nat.le_of_ble_eq_true rfl) ?_
  refine lv_if_eq (tgt := 55) hx hb dX1_lineAt_20 (by decide) (fun c9 => absurd c9 (by decide)) (fun _ => ?_)
  refine lv_iload_n hx hb dX1_lineAt_23 rfl (lv_at hl 3 rfl) ?_
  refine lv_aload_n hx hb dX1_lineAt_24 rfl (lv_at hl 2 rfl) ?_
  refine va_get (D := D) (ci := 1) (v := .ref h1) (C := RX1) (T := TX1) (N := 13) hx hb hg inX1 hown hK hP 0 rfl rfl 0 (by decide) (hg _ k278) (fun _ h9 => h9) rfl dX1_lineAt_25 ?_
  refine va_get (D := D) (ci := 0) (v := .ref h3) (C := RX0) (T := TX0) (N := 7) hx hb hg inX0 hown hK hP 1 rfl rfl 0 (by decide) (hg _ k157) (fun _ h9 => h9) rfl dX1_lineAt_28 ?_
  refine lv_iload_n hx hb dX1_lineAt_31 rfl (lv_at hl 0 rfl) ?_
  refine aldI hx hb hK hP 3 1 rfl rfl 1 (by decide) (vin (by decide)) (v := 1) ef1_1 dX1_lineAt_32 ?_
  refine lv_icmp_gt (tgt := 53) hx hb dX1_lineAt_33 (by decide) (fun c9 => absurd c9 (by decide)) (fun _ => ?_)
  refine lv_aload_n hx hb dX1_lineAt_36 rfl (lv_at hl 2 rfl) ?_
  refine lv_aload_n hx hb dX1_lineAt_37 rfl (lv_at hl 2 rfl) ?_
  refine va_get (D := D) (ci := 1) (v := .ref h5) (C := RX1) (T := TX1) (N := 13) hx hb hg inX1 hown hK hP 0 rfl rfl 12 (by decide) (hg _ k299) (fun _ h9 => h9) rfl dX1_lineAt_38 ?_
  refine lv_iconst (v := 2) hx hb dX1_lineAt_41 (by decide) ?_
  refine lv_iload_n hx hb dX1_lineAt_42 rfl (lv_at hl 1 rfl) ?_
  refine lv_iload_n hx hb dX1_lineAt_43 rfl (lv_at hl 3 rfl) ?_
  refine lv_iload_n hx hb dX1_lineAt_44 rfl (lv_at hl 0 rfl) ?_
  refine cVv (n := 5) (As := [.ref h5, .int 2, .int 0, .int 1, .int 1]) (rest := []) (wr := [(h2, .inl (a0, 48, .inl f0))]) (tr := [(a0, .int)]) hx hb hml hown hg okN (cX1_predictInto_397 l D h0 h5 h4 h6 h7 h8 h9 h10 h1 h3 v0 (.ref h2) v1 v2 v3 v4 v5 v6 v7 v8 (.ref h5) v14 v15 f2 f3 f4 f5 v9 (.int 2) v10 v11 v12 v13 f1 a2 a3 a4 a5 a1 ef2_0 ef2_1 ef3_0 ef5_0 ef1_0 ef1_1) (mwV k542 k544 k10 k87 k545) ⟨rfl, by decide, by decide, by decide +kernel⟩ ⟨rfl, rfl, (Nat.le_of_ble_eq_true rfl), (Nat.le_of_ble_eq_true rfl)⟩ hP hD hK hS xn [0, 5, 4, 6, 7, 8, 9, 10, 1, 3] [0, 5, 4, 6, 7, 8, 9, 10, 1, 3] [2] [2, 3, 4, 5, 1] [0] rfl (by decide) rfl rfl (by decide) (by decide) rfl rfl (va_free hD hS hA [0, 5, 4, 6, 7, 8, 9, 10, 1, 3] rfl) (va_free hD hS hA [0, 5, 4, 6, 7, 8, 9, 10, 1, 3] rfl) 0 rfl rfl rfl hl.1 rfl (Nat.le_of_ble_eq_true rfl) dX1_lineAt_45 ⟨(Nat.le_of_ble_eq_true rfl), (Nat.le_of_ble_eq_true rfl)⟩ (fun u H locs hφ hP hD hK hS hk => ?_)
  have hP : va_P D vwCl [(h2, .inl (a0, 48, .inl f0)), (h0, .inr (1, [.ref h1, .ref h4, v0, .ref h2, v1, v2, v3, v4, v5, v6, v7, v8, .ref h5])), (h5, .inr (4, [.ref h8, .int 0, .int 0])), (h4, .inl (a2, 48, .inr (.inr (.inr (.inr f2))))), (h6, .inr (4, [.ref h7, .int 0, .int 0])), (h7, .inl (a3, 2, .inl f3)), (h8, .inl (a4, 2, .inl (upd (upd (upd (upd (upd (upd (upd f4 0 0) 0 0) 1 0) 0 0) 1 0) 0 0) 1 0))), (h9, .inr (4, [.ref h10, .int 0, .int 0])), (h10, .inl (a5, 2, .inl f5)), (h1, .inr (0, [.ref h3, v9, .int 2, v10, v11, v12, v13])), (h3, .inl (a1, 48, .inl f1))] H := hP
  have hD : va_D A [(h2, .inl (a0, 48, .inl f0)), (h0, .inr (1, [.ref h1, .ref h4, v0, .ref h2, v1, v2, v3, v4, v5, v6, v7, v8, .ref h5])), (h5, .inr (4, [.ref h8, .int 0, .int 0])), (h4, .inl (a2, 48, .inr (.inr (.inr (.inr f2))))), (h6, .inr (4, [.ref h7, .int 0, .int 0])), (h7, .inl (a3, 2, .inl f3)), (h8, .inl (a4, 2, .inl (upd (upd (upd (upd (upd (upd (upd f4 0 0) 0 0) 1 0) 0 0) 1 0) 0 0) 1 0))), (h9, .inr (4, [.ref h10, .int 0, .int 0])), (h10, .inl (a5, 2, .inl f5)), (h1, .inr (0, [.ref h3, v9, .int 2, v10, v11, v12, v13])), (h3, .inl (a1, 48, .inl f1))] := hD
  have hK : va_K D vwCl [(a0, .int), (a2, .object "LiftingSignal$Whole"), (a3, .int), (a4, .int), (a5, .int), (a1, .int)] s := hK
  refine W.widen (k := 0) (n := 0) (Nat.le_of_ble_eq_true rfl) (Nat.le_of_ble_eq_true rfl) ?_
  refine lv_aload_n hx hb dX1_lineAt_48 rfl (lv_at hl 2 rfl) ?_
  refine va_get (D := D) (ci := 1) (v := .ref h5) (C := RX1) (T := TX1) (N := 13) hx hb hg inX1 hown hK hP 1 rfl rfl 12 (by decide) (hg _ k299) (fun _ h9 => h9) rfl dX1_lineAt_49 ?_
  exact fr rfl hx hb hr hlocks hP hD hK hS (()) trivial rfl [1, 9, 0, 10, 3, 2, 4, 5, 6, 7, 8] [0, 5, 1, 2, 3, 4] rfl (by decide) rfl (Nat.le_of_ble_eq_true rfl) (Nat.le_of_ble_eq_true rfl) dX1_lineAt_52
set_option maxHeartbeats 4000000 in
set_option maxRecDepth 100000 in
theorem cX5_valueAt_395 (l : Launch) (D : va_G) (h0 : Nat) (h1 : Nat) (h2 : Nat) (h3 : Nat) (h4 : Nat) (h5 : Nat) (h6 : Nat) (h7 : Nat) (h8 : Nat) (h9 : Nat) (h10 : Nat) (h11 : Nat) (v0 : Value) (v1 : Value) (v2 : Value) (v3 : Value) (v4 : Value) (v5 : Value) (v6 : Value) (v7 : Value) (v8 : Value) (v9 : Value) (v10 : Value) (v11 : Value) (v12 : Value) (f0 : Nat → Int32) (v13 : Value) (v14 : Value) (v15 : Value) (v16 : Value) (v17 : Value) (v18 : Value) (v19 : Value) (v20 : Value) (v21 : Value) (f1 : Nat → Int32) (f2 : Nat → Option Nat) (v22 : Value) (v23 : Value) (f3 : Nat → Int32) (f4 : Nat → Int32) (f5 : Nat → Int32) (a0 : ClassId) (a1 : ClassId) (a2 : ClassId) (a3 : ClassId) (a4 : ClassId) (a5 : ClassId) (ef0_0 : f0 0 = 0) (ef0_1 : f0 1 = 1) (ef1_1 : f1 1 = (-1)) (ef2_0 : f2 0 = some h10) (ef2_1 : f2 1 = some h7) (ef3_0 : f3 0 = 0) (ef5_0 : f5 0 = 0)  : CT l yX5_valueAt cX5_valueAt 2 (some .long) { frames := 4, cells := 0, slots := 0, locals := 98 } [.ref h0, .int 1] D [(h0, .inr (5, [v0, .ref h1, v1, .ref h3, v2, v3, v4, v5, v6, v7])), (h1, .inr (0, [.ref h2, v8, .int 2, v9, v10, v11, v12])), (h2, .inl (a0, 48, .inl f0)), (h3, .inr (1, [.ref h1, .ref h5, v13, .ref h4, v14, v15, v16, v17, v18, v19, v20, v21, .ref h6])), (h4, .inl (a1, 48, .inl f1)), (h5, .inl (a2, 48, .inr (.inr (.inr (.inr f2))))), (h6, .inr (4, [.ref h9, v22, v23])), (h7, .inr (4, [.ref h8, .int 0, .int 0])), (h8, .inl (a3, 2, .inl f3)), (h9, .inl (a4, 2, .inl f4)), (h10, .inr (4, [.ref h11, .int 0, .int 0])), (h11, .inl (a5, 2, .inl f5))] [(a0, .int), (a1, .int), (a2, .object "LiftingSignal$Whole"), (a3, .int), (a4, .int), (a5, .int)] XN [(h0, .inr (5, [v0, .ref h1, v1, .ref h3, v2, v3, v4, v5, v6, v7])), (h1, .inr (0, [.ref h2, v8, .int 2, v9, v10, v11, v12])), (h2, .inl (a0, 48, .inl f0)), (h3, .inr (1, [.ref h1, .ref h5, v13, .ref h4, v14, v15, v16, v17, v18, v19, v20, v21, .ref h6])), (h4, .inl (a1, 48, .inl f1)), (h5, .inl (a2, 48, .inr (.inr (.inr (.inr f2))))), (h6, .inr (4, [.ref h9, v22, v23])), (h7, .inr (4, [.ref h8, .int 0, .int 0])), (h8, .inl (a3, 2, .inl f3)), (h9, .inl (a4, 2, .inl f4)), (h10, .inr (4, [.ref h11, .int 0, .int 0])), (h11, .inl (a5, 2, .inl f5))] (el (fun _ : Unit => True) (fun u => 0) (fun _ => [(h0, .inr (5, [v0, .ref h1, v1, .ref h3, v2, v3, v4, v5, v6, v7])), (h1, .inr (0, [.ref h2, v8, .int 2, v9, v10, v11, v12])), (h2, .inl (a0, 48, .inl f0)), (h3, .inr (1, [.ref h1, .ref h5, v13, .ref h4, v14, v15, v16, v17, v18, v19, v20, v21, .ref h6])), (h4, .inl (a1, 48, .inl f1)), (h5, .inl (a2, 48, .inr (.inr (.inr (.inr f2))))), (h6, .inr (4, [.ref h9, .int 0, .int 0])), (h7, .inr (4, [.ref h8, .int 0, .int 0])), (h8, .inl (a3, 2, .inl f3)), (h9, .inl (a4, 2, .inl (upd (upd (upd (upd (upd (upd (upd f4 0 0) 0 0) 1 0) 0 0) 1 0) 0 0) 1 0))), (h10, .inr (4, [.ref h11, .int 0, .int 0])), (h11, .inl (a5, 2, .inl f5))]) (fun u => [(a0, .int), (a1, .int), (a2, .object "LiftingSignal$Whole"), (a3, .int), (a4, .int), (a5, .int)]) D) 0 0 := by
  refine CT.ofW (by decide +kernel) (Nat.le_of_ble_eq_true rfl) ?_
  intro p e s m below meth c A ls hcs hP hK hD hX hA hS hl
  obtain ⟨hx, hb, hr, hml, hown, hg, hlocks, hin⟩ := hcs
  have hown : s.vm.findClass RX5 = some m.cls := hown
  have hl : lv_has ls 2 [(0, .ref h0), (1, .int 1)] := hl
  refine lv_iload_n hx hb dX5_valueAt_0 rfl (lv_at hl 1 rfl) ?_
  refine lv_aload_n hx hb dX5_valueAt_1 rfl (lv_at hl 0 rfl) ?_
  refine va_get (D := D) (ci := 5) (v := .ref h1) (C := RX5) (T := TX5) (N := 10) hx hb hg inX5 hown hK hP 0 rfl rfl 1 (by decide) (hg _ k380) (fun _ h9 => h9) rfl dX5_valueAt_2 ?_
  refine va_get (D := D) (ci := 0) (v := .ref h2) (C := RX0) (T := TX0) (N := 7) hx hb hg inX0 hown hK hP 1 rfl rfl 0 (by decide) (hg _ k155) (fun _ h9 => h9) rfl dX5_valueAt_5 ?_
  refine lv_iconst (v := 0) hx hb dX5_valueAt_8 (by decide) ?_
  refine aldI hx hb hK hP 2 0 rfl rfl 0 (by decide) (vin (by decide)) (v := 0) ef0_0 dX5_valueAt_9 ?_
  refine lv_icmp_lt (tgt := 34) hx hb dX5_valueAt_10 (by decide) (fun c9 => absurd c9 (by decide)) (fun _ => ?_)
  refine lv_iload_n hx hb dX5_valueAt_13 rfl (lv_at hl 1 rfl) ?_
  refine lv_aload_n hx hb dX5_valueAt_14 rfl (lv_at hl 0 rfl) ?_
  refine va_get (D := D) (ci := 5) (v := .ref h1) (C := RX5) (T := TX5) (N := 10) hx hb hg inX5 hown hK hP 0 rfl rfl 1 (by decide) (hg _ k380) (fun _ h9 => h9) rfl dX5_valueAt_15 ?_
  refine va_get (D := D) (ci := 0) (v := .ref h2) (C := RX0) (T := TX0) (N := 7) hx hb hg inX0 hown hK hP 1 rfl rfl 0 (by decide) (hg _ k155) (fun _ h9 => h9) rfl dX5_valueAt_18 ?_
  refine lv_aload_n hx hb dX5_valueAt_21 rfl (lv_at hl 0 rfl) ?_
  refine va_get (D := D) (ci := 5) (v := .ref h1) (C := RX5) (T := TX5) (N := 10) hx hb hg inX5 hown hK hP 0 rfl rfl 1 (by decide) (hg _ k380) (fun _ h9 => h9) rfl dX5_valueAt_22 ?_
  refine va_get (D := D) (ci := 0) (v := .int 2) (C := RX0) (T := TX0) (N := 7) hx hb hg inX0 hown hK hP 1 rfl rfl 2 (by decide) (hg _ k163) (fun _ h9 => h9) rfl dX5_valueAt_25 ?_
  refine lv_iconst (v := 1) hx hb dX5_valueAt_28 (by decide) ?_
  refine lv_isub hx hb dX5_valueAt_29 ?_
  refine ti (1) (by decide) ?_
  refine aldI hx hb hK hP 2 0 rfl rfl 1 (by decide) (vin (by decide)) (v := 1) ef0_1 dX5_valueAt_30 ?_
  refine lv_icmp_le (tgt := 44) hx hb dX5_valueAt_31 (by decide) (fun _ => ?_) (fun c9 => absurd (by decide) c9)
  refine lv_aload_n hx hb dX5_valueAt_44 rfl (lv_at hl 0 rfl) ?_
  refine va_get (D := D) (ci := 5) (v := .ref h3) (C := RX5) (T := TX5) (N := 10) hx hb hg inX5 hown hK hP 0 rfl rfl 3 (by decide) (hg _ k382) (fun _ h9 => h9) rfl dX5_valueAt_45 ?_
  refine lv_iload_n hx hb dX5_valueAt_48 rfl (lv_at hl 1 rfl) ?_
  refine cVr (n := 1) (As := [.int 1]) (rest := []) (wr := [(h0, .inr (5, [v0, .ref h1, v1, .ref h3, v2, v3, v4, v5, v6, v7]))]) (tr := []) hx hb hml hown hg okN (cX1_lineAt_396 l D h3 h1 h4 h2 h5 h6 h7 h8 h9 h10 h11 v13 v14 v15 v16 v17 v18 v19 v20 v21 v8 v9 v10 v11 v12 f1 f0 f2 v22 v23 f3 f4 f5 a1 a0 a2 a3 a4 a5 ef1_1 ef0_0 ef0_1 ef2_0 ef2_1 ef3_0 ef5_0) (mwV k898 k899 k900 k87 k901) ⟨rfl, by decide, by decide, by decide +kernel⟩ ⟨rfl, rfl, (Nat.le_of_ble_eq_true rfl), (Nat.le_of_ble_eq_true rfl)⟩ hP hD hK hS xn [3, 1, 4, 2, 5, 6, 7, 8, 9, 10, 11] [3, 1, 4, 2, 5, 6, 7, 8, 9, 10, 11] [0] [1, 0, 2, 3, 4, 5] [] rfl (by decide) rfl rfl (by decide) (by decide) rfl rfl (va_free hD hS hA [3, 1, 4, 2, 5, 6, 7, 8, 9, 10, 11] rfl) (va_free hD hS hA [3, 1, 4, 2, 5, 6, 7, 8, 9, 10, 11] rfl) 3 rfl rfl rfl hl.1 rfl (Nat.le_of_ble_eq_true rfl) dX5_valueAt_49 ⟨(Nat.le_of_ble_eq_true rfl), (Nat.le_of_ble_eq_true rfl)⟩ (fun u H locs hφ hP hD hK hS hk => ?_)
  have hP : va_P D vwCl [(h0, .inr (5, [v0, .ref h1, v1, .ref h3, v2, v3, v4, v5, v6, v7])), (h3, .inr (1, [.ref h1, .ref h5, v13, .ref h4, v14, v15, v16, v17, v18, v19, v20, v21, .ref h6])), (h1, .inr (0, [.ref h2, v8, .int 2, v9, v10, v11, v12])), (h4, .inl (a1, 48, .inl f1)), (h2, .inl (a0, 48, .inl f0)), (h5, .inl (a2, 48, .inr (.inr (.inr (.inr f2))))), (h6, .inr (4, [.ref h9, .int 0, .int 0])), (h7, .inr (4, [.ref h8, .int 0, .int 0])), (h8, .inl (a3, 2, .inl f3)), (h9, .inl (a4, 2, .inl (upd (upd (upd (upd (upd (upd (upd f4 0 0) 0 0) 1 0) 0 0) 1 0) 0 0) 1 0))), (h10, .inr (4, [.ref h11, .int 0, .int 0])), (h11, .inl (a5, 2, .inl f5))] H := hP
  have hD : va_D A [(h0, .inr (5, [v0, .ref h1, v1, .ref h3, v2, v3, v4, v5, v6, v7])), (h3, .inr (1, [.ref h1, .ref h5, v13, .ref h4, v14, v15, v16, v17, v18, v19, v20, v21, .ref h6])), (h1, .inr (0, [.ref h2, v8, .int 2, v9, v10, v11, v12])), (h4, .inl (a1, 48, .inl f1)), (h2, .inl (a0, 48, .inl f0)), (h5, .inl (a2, 48, .inr (.inr (.inr (.inr f2))))), (h6, .inr (4, [.ref h9, .int 0, .int 0])), (h7, .inr (4, [.ref h8, .int 0, .int 0])), (h8, .inl (a3, 2, .inl f3)), (h9, .inl (a4, 2, .inl (upd (upd (upd (upd (upd (upd (upd f4 0 0) 0 0) 1 0) 0 0) 1 0) 0 0) 1 0))), (h10, .inr (4, [.ref h11, .int 0, .int 0])), (h11, .inl (a5, 2, .inl f5))] := hD
  have hK : va_K D vwCl [(a1, .int), (a0, .int), (a2, .object "LiftingSignal$Whole"), (a3, .int), (a4, .int), (a5, .int)] s := hK
  refine W.widen (k := 0) (n := 0) (Nat.le_of_ble_eq_true rfl) (Nat.le_of_ble_eq_true rfl) ?_
  refine cVl (n := 0) (As := []) (rest := []) (wr := [(h0, .inr (5, [v0, .ref h1, v1, .ref h3, v2, v3, v4, v5, v6, v7])), (h3, .inr (1, [.ref h1, .ref h5, v13, .ref h4, v14, v15, v16, v17, v18, v19, v20, v21, .ref h6])), (h1, .inr (0, [.ref h2, v8, .int 2, v9, v10, v11, v12])), (h4, .inl (a1, 48, .inl f1)), (h2, .inl (a0, 48, .inl f0)), (h5, .inl (a2, 48, .inr (.inr (.inr (.inr f2))))), (h6, .inr (4, [.ref h9, .int 0, .int 0])), (h7, .inr (4, [.ref h8, .int 0, .int 0])), (h8, .inl (a3, 2, .inl f3)), (h9, .inl (a4, 2, .inl (upd (upd (upd (upd (upd (upd (upd f4 0 0) 0 0) 1 0) 0 0) 1 0) 0 0) 1 0))), (h10, .inr (4, [.ref h11, .int 0, .int 0])), (h11, .inl (a5, 2, .inl f5))]) (tr := [(a1, .int), (a0, .int), (a2, .object "LiftingSignal$Whole"), (a3, .int), (a4, .int), (a5, .int)]) hx hb hml hown hg okN (cX4_toLong_348 l D h6 (.ref h9)) (mwV k435 k436 k437 k88 k438) ⟨rfl, by decide, by decide, by decide +kernel⟩ ⟨rfl, rfl, (Nat.le_of_ble_eq_true rfl), (Nat.le_of_ble_eq_true rfl)⟩ hP hD hK hS xn [6] [] [0, 1, 2, 3, 4, 5, 6, 7, 8, 9, 10, 11] [] [0, 1, 2, 3, 4, 5] rfl (by decide) rfl rfl (by decide) (by decide) rfl rfl (aNil hA hS) (aNil hA hS) 6 rfl rfl rfl hl.1 rfl (Nat.le_of_ble_eq_true rfl) dX5_valueAt_52 ⟨(Nat.le_of_ble_eq_true rfl), (Nat.le_of_ble_eq_true rfl)⟩ (fun u H locs hφ hP hD hK hS hk => ?_)
  have hP : va_P D vwCl [(h0, .inr (5, [v0, .ref h1, v1, .ref h3, v2, v3, v4, v5, v6, v7])), (h3, .inr (1, [.ref h1, .ref h5, v13, .ref h4, v14, v15, v16, v17, v18, v19, v20, v21, .ref h6])), (h1, .inr (0, [.ref h2, v8, .int 2, v9, v10, v11, v12])), (h4, .inl (a1, 48, .inl f1)), (h2, .inl (a0, 48, .inl f0)), (h5, .inl (a2, 48, .inr (.inr (.inr (.inr f2))))), (h6, .inr (4, [.ref h9, .int 0, .int 0])), (h7, .inr (4, [.ref h8, .int 0, .int 0])), (h8, .inl (a3, 2, .inl f3)), (h9, .inl (a4, 2, .inl (upd (upd (upd (upd (upd (upd (upd f4 0 0) 0 0) 1 0) 0 0) 1 0) 0 0) 1 0))), (h10, .inr (4, [.ref h11, .int 0, .int 0])), (h11, .inl (a5, 2, .inl f5))] H := hP
  have hD : va_D A [(h0, .inr (5, [v0, .ref h1, v1, .ref h3, v2, v3, v4, v5, v6, v7])), (h3, .inr (1, [.ref h1, .ref h5, v13, .ref h4, v14, v15, v16, v17, v18, v19, v20, v21, .ref h6])), (h1, .inr (0, [.ref h2, v8, .int 2, v9, v10, v11, v12])), (h4, .inl (a1, 48, .inl f1)), (h2, .inl (a0, 48, .inl f0)), (h5, .inl (a2, 48, .inr (.inr (.inr (.inr f2))))), (h6, .inr (4, [.ref h9, .int 0, .int 0])), (h7, .inr (4, [.ref h8, .int 0, .int 0])), (h8, .inl (a3, 2, .inl f3)), (h9, .inl (a4, 2, .inl (upd (upd (upd (upd (upd (upd (upd f4 0 0) 0 0) 1 0) 0 0) 1 0) 0 0) 1 0))), (h10, .inr (4, [.ref h11, .int 0, .int 0])), (h11, .inl (a5, 2, .inl f5))] := hD
  have hK : va_K D vwCl [(a1, .int), (a0, .int), (a2, .object "LiftingSignal$Whole"), (a3, .int), (a4, .int), (a5, .int)] s := hK
  refine W.widen (k := 0) (n := 0) (Nat.le_of_ble_eq_true rfl) (Nat.le_of_ble_eq_true rfl) ?_
  exact fl hx hb hr hlocks hP hD hK hS (()) trivial rfl [0, 2, 4, 1, 3, 5, 6, 7, 8, 9, 10, 11] [1, 0, 2, 3, 4, 5] rfl (by decide) rfl (Nat.le_of_ble_eq_true rfl) (Nat.le_of_ble_eq_true rfl) dX5_valueAt_55
set_option maxHeartbeats 4000000 in
set_option maxRecDepth 100000 in
theorem cX5_valueAt_399 (l : Launch) (D : va_G) (hlt : l.stackTraces = false) (h0 : Nat) (x0 : Int32) (h1 : Nat) (h2 : Nat) (v0 : Value) (v1 : Value) (v2 : Value) (v3 : Value) (v4 : Value) (v5 : Value) (v6 : Value) (v7 : Value) (v8 : Value) (v9 : Value) (v10 : Value) (v11 : Value) (v12 : Value) (v13 : Value) (f0 : Nat → Int32) (a0 : ClassId) (ef0_0 : f0 0 = 0) (ef0_1 : f0 1 = 1) (d0 : ¬ (x0 < 0)) (d1 : ¬ (x0 ≤ 1)) : CX l yX5_valueAt cX5_valueAt 2 (some .long) { frames := 6, cells := 1, slots := 6, locals := 90 } [.ref h0, .int x0] D [(h0, .inr (5, [v0, .ref h1, v1, v2, v3, v4, v5, v6, v7, v8])), (h1, .inr (0, [.ref h2, v9, .int 2, v10, v11, v12, v13])), (h2, .inl (a0, 48, .inl f0))] [(a0, .int)] XX [] xl "java/lang/IndexOutOfBoundsException" 1 6 := by
  refine CX.ofR (by decide +kernel) (Nat.le_of_ble_eq_true rfl) ?_
  intro p e s m below meth c A ls hcs hout hP hK hD hX hA hS hl
  obtain ⟨hx, hb, hr, hml, hown, hg, hlocks, hin⟩ := hcs
  have hown : s.vm.findClass RX5 = some m.cls := hown
  have hl : lv_has ls 2 [(0, .ref h0), (1, .int x0)] := hl
  refine lv_iload_n hx hb dX5_valueAt_0 rfl (lv_at hl 1 rfl) ?_
  refine lv_aload_n hx hb dX5_valueAt_1 rfl (lv_at hl 0 rfl) ?_
  refine va_get (D := D) (ci := 5) (v := .ref h1) (C := RX5) (T := TX5) (N := 10) hx hb hg inX5 hown hK hP 0 rfl rfl 1 (by decide) (hg _ k380) (fun _ h9 => h9) rfl dX5_valueAt_2 ?_
  refine va_get (D := D) (ci := 0) (v := .ref h2) (C := RX0) (T := TX0) (N := 7) hx hb hg inX0 hown hK hP 1 rfl rfl 0 (by decide) (hg _ k155) (fun _ h9 => h9) rfl dX5_valueAt_5 ?_
  refine lv_iconst (v := 0) hx hb dX5_valueAt_8 (by decide) ?_
  refine aldI hx hb hK hP 2 0 rfl rfl 0 (by decide) (vin (by decide)) (v := 0) ef0_0 dX5_valueAt_9 ?_
  refine lv_icmp_lt (tgt := 34) hx hb dX5_valueAt_10 (by decide) (fun c9 => absurd c9 d0) (fun _ => ?_)
  refine lv_iload_n hx hb dX5_valueAt_13 rfl (lv_at hl 1 rfl) ?_
  refine lv_aload_n hx hb dX5_valueAt_14 rfl (lv_at hl 0 rfl) ?_
  refine va_get (D := D) (ci := 5) (v := .ref h1) (C := RX5) (T := TX5) (N := 10) hx hb hg inX5 hown hK hP 0 rfl rfl 1 (by decide) (hg _ k380) (fun _ h9 => h9) rfl dX5_valueAt_15 ?_
  refine va_get (D := D) (ci := 0) (v := .ref h2) (C := RX0) (T := TX0) (N := 7) hx hb hg inX0 hown hK hP 1 rfl rfl 0 (by decide) (hg _ k155) (fun _ h9 => h9) rfl dX5_valueAt_18 ?_
  refine lv_aload_n hx hb dX5_valueAt_21 rfl (lv_at hl 0 rfl) ?_
  refine va_get (D := D) (ci := 5) (v := .ref h1) (C := RX5) (T := TX5) (N := 10) hx hb hg inX5 hown hK hP 0 rfl rfl 1 (by decide) (hg _ k380) (fun _ h9 => h9) rfl dX5_valueAt_22 ?_
  refine va_get (D := D) (ci := 0) (v := .int 2) (C := RX0) (T := TX0) (N := 7) hx hb hg inX0 hown hK hP 1 rfl rfl 2 (by decide) (hg _ k163) (fun _ h9 => h9) rfl dX5_valueAt_25 ?_
  refine lv_iconst (v := 1) hx hb dX5_valueAt_28 (by decide) ?_
  refine lv_isub hx hb dX5_valueAt_29 ?_
  refine ti (1) (by decide) ?_
  refine aldI hx hb hK hP 2 0 rfl rfl 1 (by decide) (vin (by decide)) (v := 1) ef0_1 dX5_valueAt_30 ?_
  refine lv_icmp_le (tgt := 44) hx hb dX5_valueAt_31 (by decide) (fun c9 => absurd c9 d1) (fun _ => ?_)
  obtain ⟨sa, hsa⟩ := XX_sRX5_198 hX
  exact thS_IOOBE hx hb hlt hown (hg _ k613) (hg _ k96) hsa hg hX hS (hl.1.trans hml.symm) dX5_valueAt_34 dX5_valueAt_37 dX5_valueAt_38 dX5_valueAt_40 dX5_valueAt_43 hout (Nat.le_of_ble_eq_true rfl) (Nat.le_of_ble_eq_true rfl) (Nat.le_of_ble_eq_true rfl) (Nat.le_of_ble_eq_true rfl) hlocks (Nat.le_of_ble_eq_true rfl) (Nat.le_of_ble_eq_true rfl)
set_option maxHeartbeats 4000000 in
set_option maxRecDepth 100000 in
theorem cX5_integral_400 (l : Launch) (D : va_G) (h0 : Nat) (h1 : Nat) (h2 : Nat) (v0 : Value) (v1 : Value) (v2 : Value) (v3 : Value) (v4 : Value) (v5 : Value) (v6 : Value) (v7 : Value) (v8 : Value) (v9 : Value) (v10 : Value) (v11 : Value) (v12 : Value) (v13 : Value) (v14 : Value) (v15 : Value) (v16 : Value) (v17 : Value) (v18 : Value) (v19 : Value) (v20 : Value) (v21 : Value)   : CT l yX5_integral cX5_integral 1 (some .long) { frames := 3, cells := 0, slots := 0, locals := 66 } [.ref h0] D [(h0, .inr (5, [v0, v1, v2, .ref h1, v3, v4, v5, v6, v7, v8])), (h1, .inr (1, [v9, v10, v11, v12, v13, v14, .ref h2, v15, v16, v17, v18, v19, v20])), (h2, .inr (4, [v21, .int 0, .int 0]))] [] XN [] (el (fun _ : Unit => True) (fun _ => 0) (fun _ => []) (fun _ => []) D) 0 0 := by
  refine CT.ofR (by decide +kernel) (Nat.le_of_ble_eq_true rfl) ?_
  intro p e s m below meth c A ls hcs hP hK hD hX hA hS hl
  obtain ⟨hx, hb, hr, hml, hown, hg, hlocks, hin⟩ := hcs
  have hown : s.vm.findClass RX5 = some m.cls := hown
  have hl : lv_has ls 1 [(0, .ref h0)] := hl
  refine lv_aload_n hx hb dX5_integral_0 rfl (lv_at hl 0 rfl) ?_
  refine va_get (D := D) (ci := 5) (v := .ref h1) (C := RX5) (T := TX5) (N := 10) hx hb hg inX5 hown hK hP 0 rfl rfl 3 (by decide) (hg _ k382) (fun _ h9 => h9) rfl dX5_integral_1 ?_
  refine va_get (D := D) (ci := 1) (v := .ref h2) (C := RX1) (T := TX1) (N := 13) hx hb hg inX1 hown hK hP 1 rfl rfl 6 (by decide) (hg _ k290) (fun _ h9 => h9) rfl dX5_integral_4 ?_
  refine cVl (n := 0) (As := []) (rest := []) (wr := [(h0, .inr (5, [v0, v1, v2, .ref h1, v3, v4, v5, v6, v7, v8])), (h1, .inr (1, [v9, v10, v11, v12, v13, v14, .ref h2, v15, v16, v17, v18, v19, v20])), (h2, .inr (4, [v21, .int 0, .int 0]))]) (tr := []) hx hb hml hown hg okN (cX4_toLong_348 l D h2 v21) (mwV k435 k436 k437 k88 k438) ⟨rfl, by decide, by decide, by decide +kernel⟩ ⟨rfl, rfl, (Nat.le_of_ble_eq_true rfl), (Nat.le_of_ble_eq_true rfl)⟩ hP hD hK hS xn [2] [] [0, 1, 2] [] [] rfl (by decide) rfl rfl (by decide) (by decide) rfl rfl (aNil hA hS) (fun _ _ => trivial) 2 rfl rfl rfl hl.1 rfl (Nat.le_of_ble_eq_true rfl) dX5_integral_7 ⟨(Nat.le_of_ble_eq_true rfl), (Nat.le_of_ble_eq_true rfl)⟩ (fun u H locs hφ hP hD hK hS hk => ?_)
  have hP : va_P D vwCl [(h0, .inr (5, [v0, v1, v2, .ref h1, v3, v4, v5, v6, v7, v8])), (h1, .inr (1, [v9, v10, v11, v12, v13, v14, .ref h2, v15, v16, v17, v18, v19, v20])), (h2, .inr (4, [v21, .int 0, .int 0]))] H := hP
  have hD : va_D (fun _ => True) [(h0, .inr (5, [v0, v1, v2, .ref h1, v3, v4, v5, v6, v7, v8])), (h1, .inr (1, [v9, v10, v11, v12, v13, v14, .ref h2, v15, v16, v17, v18, v19, v20])), (h2, .inr (4, [v21, .int 0, .int 0]))] := hD
  have hK : va_K D vwCl [] s := hK
  refine W.widen (k := 0) (n := 0) (Nat.le_of_ble_eq_true rfl) (Nat.le_of_ble_eq_true rfl) ?_
  exact fl0 hx hb hr hlocks hK hS (Nat.le_of_ble_eq_true rfl) (Nat.le_of_ble_eq_true rfl) dX5_integral_10
set_option maxHeartbeats 4000000 in
set_option maxRecDepth 100000 in
theorem cX1_driftNow_402 (l : Launch) (D : va_G) (h0 : Nat) (h1 : Nat) (h2 : Nat) (h3 : Nat) (h4 : Nat) (h5 : Nat) (h6 : Nat) (h7 : Nat) (h8 : Nat) (h9 : Nat) (h10 : Nat) (h11 : Nat) (h12 : Nat) (v0 : Value) (v1 : Value) (v2 : Value) (v3 : Value) (v4 : Value) (v5 : Value) (v6 : Value) (v7 : Value) (v8 : Value) (f0 : Nat → Int32) (f1 : Nat → Int32) (v9 : Value) (v10 : Value) (v11 : Value) (v12 : Value) (v13 : Value) (v14 : Value) (f2 : Nat → Int32) (f3 : Nat → Option Nat) (f4 : Nat → Int64) (f5 : Nat → Int32) (f6 : Nat → Int32) (a0 : ClassId) (a1 : ClassId) (a2 : ClassId) (a3 : ClassId) (a4 : ClassId) (a5 : ClassId) (a6 : ClassId) (ef0_0 : f0 0 = 0) (ef2_0 : f2 0 = (-1)) (ef2_1 : f2 1 = (-1)) (ef3_0 : f3 0 = some h9) (ef3_1 : f3 1 = some h11) (ef4_0 : f4 0 = 1) (ef4_1 : f4 1 = 1) (ef5_0 : f5 0 = 0) (ef6_0 : f6 0 = 0)  : CT l yX1_driftNow cX1_driftNow 2 (some (.object "LiftingSignal$Whole")) { frames := 2, cells := 0, slots := 0, locals := 50 } [.ref h0] D [(h0, .inr (1, [.ref h5, .ref h7, .ref h8, .ref h6, v0, v1, .ref h2, v2, v3, v4, v5, v6, .ref h1])), (h1, .inr (4, [.ref h4, v7, v8])), (h2, .inr (4, [.ref h3, .int 0, .int 0])), (h3, .inl (a0, 2, .inl f0)), (h4, .inl (a1, 2, .inl f1)), (h5, .inr (0, [v9, v10, .int 2, v11, v12, v13, v14])), (h6, .inl (a2, 48, .inl f2)), (h7, .inl (a3, 48, .inr (.inr (.inr (.inr f3))))), (h8, .inl (a4, 48, .inr (.inl f4))), (h9, .inr (4, [.ref h10, .int 0, .int 0])), (h10, .inl (a5, 2, .inl f5)), (h11, .inr (4, [.ref h12, .int 0, .int 0])), (h12, .inl (a6, 2, .inl f6))] [(a0, .int), (a1, .int), (a2, .int), (a3, .object "LiftingSignal$Whole"), (a4, .long), (a5, .int), (a6, .int)] XN [(h0, .inr (1, [.ref h5, .ref h7, .ref h8, .ref h6, v0, v1, .ref h2, v2, v3, v4, v5, v6, .ref h1])), (h1, .inr (4, [.ref h4, v7, v8])), (h2, .inr (4, [.ref h3, .int 0, .int 0])), (h3, .inl (a0, 2, .inl f0)), (h4, .inl (a1, 2, .inl f1)), (h5, .inr (0, [v9, v10, .int 2, v11, v12, v13, v14])), (h6, .inl (a2, 48, .inl f2)), (h7, .inl (a3, 48, .inr (.inr (.inr (.inr f3))))), (h8, .inl (a4, 48, .inr (.inl f4))), (h9, .inr (4, [.ref h10, .int 0, .int 0])), (h10, .inl (a5, 2, .inl f5)), (h11, .inr (4, [.ref h12, .int 0, .int 0])), (h12, .inl (a6, 2, .inl f6))] (er (fun _ : Unit => True) (fun u => h1) (fun _ => [(h0, .inr (1, [.ref h5, .ref h7, .ref h8, .ref h6, v0, v1, .ref h2, v2, v3, v4, v5, v6, .ref h1])), (h1, .inr (4, [.ref h4, .int 0, .int 0])), (h2, .inr (4, [.ref h3, .int 0, .int 0])), (h3, .inl (a0, 2, .inl f0)), (h4, .inl (a1, 2, .inl (upd (upd (upd (upd (upd f1 0 0) 0 0) 1 0) 0 0) 1 0))), (h5, .inr (0, [v9, v10, .int 2, v11, v12, v13, v14])), (h6, .inl (a2, 48, .inl f2)), (h7, .inl (a3, 48, .inr (.inr (.inr (.inr f3))))), (h8, .inl (a4, 48, .inr (.inl f4))), (h9, .inr (4, [.ref h10, .int 0, .int 0])), (h10, .inl (a5, 2, .inl f5)), (h11, .inr (4, [.ref h12, .int 0, .int 0])), (h12, .inl (a6, 2, .inl f6))]) (fun u => [(a0, .int), (a1, .int), (a2, .int), (a3, .object "LiftingSignal$Whole"), (a4, .long), (a5, .int), (a6, .int)]) D) 0 0 := by
  refine CT.ofW (by decide +kernel) (Nat.le_of_ble_eq_true rfl) ?_
  intro p e s m below meth c A ls hcs hP hK hD hX hA hS hl
  obtain ⟨hx, hb, hr, hml, hown, hg, hlocks, hin⟩ := hcs
  have hown : s.vm.findClass RX1 = some m.cls := hown
  have hl : lv_has ls 2 [(0, .ref h0)] := hl
  refine lv_aload_n hx hb dX1_driftNow_0 rfl (lv_at hl 0 rfl) ?_
  refine va_get (D := D) (ci := 1) (v := .ref h1) (C := RX1) (T := TX1) (N := 13) hx hb hg inX1 hown hK hP 0 rfl rfl 12 (by decide) (hg _ k299) (fun _ h9 => h9) rfl dX1_driftNow_1 ?_
  refine lv_aload_n hx hb dX1_driftNow_4 rfl (lv_at hl 0 rfl) ?_
  refine va_get (D := D) (ci := 1) (v := .ref h2) (C := RX1) (T := TX1) (N := 13) hx hb hg inX1 hown hK hP 0 rfl rfl 6 (by decide) (hg _ k289) (fun _ h9 => h9) rfl dX1_driftNow_5 ?_
  refine cVv (n := 1) (As := [.ref h2]) (rest := []) (wr := [(h0, .inr (1, [.ref h5, .ref h7, .ref h8, .ref h6, v0, v1, .ref h2, v2, v3, v4, v5, v6, .ref h1])), (h5, .inr (0, [v9, v10, .int 2, v11, v12, v13, v14])), (h6, .inl (a2, 48, .inl f2)), (h7, .inl (a3, 48, .inr (.inr (.inr (.inr f3))))), (h8, .inl (a4, 48, .inr (.inl f4))), (h9, .inr (4, [.ref h10, .int 0, .int 0])), (h10, .inl (a5, 2, .inl f5)), (h11, .inr (4, [.ref h12, .int 0, .int 0])), (h12, .inl (a6, 2, .inl f6))]) (tr := [(a2, .int), (a3, .object "LiftingSignal$Whole"), (a4, .long), (a5, .int), (a6, .int)]) hx hb hml hown hg okN (cX4_copyFrom_388 l D h1 h2 h3 h4 v7 v8 f0 f1 a0 a1 ef0_0) (mwV k455 k456 k457 k88 k458) ⟨rfl, by decide, by decide, by decide +kernel⟩ ⟨rfl, rfl, (Nat.le_of_ble_eq_true rfl), (Nat.le_of_ble_eq_true rfl)⟩ hP hD hK hS xn [1, 2, 3, 4] [1, 2, 3, 4] [0, 5, 6, 7, 8, 9, 10, 11, 12] [0, 1] [2, 3, 4, 5, 6] rfl (by decide) rfl rfl (by decide) (by decide) rfl rfl (va_free hD hS hA [1, 2, 3, 4] rfl) (va_free hD hS hA [1, 2, 3, 4] rfl) 1 rfl rfl rfl hl.1 rfl (Nat.le_of_ble_eq_true rfl) dX1_driftNow_8 ⟨(Nat.le_of_ble_eq_true rfl), (Nat.le_of_ble_eq_true rfl)⟩ (fun u H locs hφ hP hD hK hS hk => ?_)
  have hP : va_P D vwCl [(h0, .inr (1, [.ref h5, .ref h7, .ref h8, .ref h6, v0, v1, .ref h2, v2, v3, v4, v5, v6, .ref h1])), (h5, .inr (0, [v9, v10, .int 2, v11, v12, v13, v14])), (h6, .inl (a2, 48, .inl f2)), (h7, .inl (a3, 48, .inr (.inr (.inr (.inr f3))))), (h8, .inl (a4, 48, .inr (.inl f4))), (h9, .inr (4, [.ref h10, .int 0, .int 0])), (h10, .inl (a5, 2, .inl f5)), (h11, .inr (4, [.ref h12, .int 0, .int 0])), (h12, .inl (a6, 2, .inl f6)), (h1, .inr (4, [.ref h4, .int 0, .int 0])), (h2, .inr (4, [.ref h3, .int 0, .int 0])), (h3, .inl (a0, 2, .inl f0)), (h4, .inl (a1, 2, .inl (upd f1 0 0)))] H := hP
  have hD : va_D A [(h0, .inr (1, [.ref h5, .ref h7, .ref h8, .ref h6, v0, v1, .ref h2, v2, v3, v4, v5, v6, .ref h1])), (h5, .inr (0, [v9, v10, .int 2, v11, v12, v13, v14])), (h6, .inl (a2, 48, .inl f2)), (h7, .inl (a3, 48, .inr (.inr (.inr (.inr f3))))), (h8, .inl (a4, 48, .inr (.inl f4))), (h9, .inr (4, [.ref h10, .int 0, .int 0])), (h10, .inl (a5, 2, .inl f5)), (h11, .inr (4, [.ref h12, .int 0, .int 0])), (h12, .inl (a6, 2, .inl f6)), (h1, .inr (4, [.ref h4, .int 0, .int 0])), (h2, .inr (4, [.ref h3, .int 0, .int 0])), (h3, .inl (a0, 2, .inl f0)), (h4, .inl (a1, 2, .inl (upd f1 0 0)))] := hD
  have hK : va_K D vwCl [(a2, .int), (a3, .object "LiftingSignal$Whole"), (a4, .long), (a5, .int), (a6, .int), (a0, .int), (a1, .int)] s := hK
  refine W.widen (k := 0) (n := 0) (Nat.le_of_ble_eq_true rfl) (Nat.le_of_ble_eq_true rfl) ?_
  refine lv_iconst (v := 0) hx hb dX1_driftNow_11 (by decide) ?_
  refine lv_istore_n (lv' := [(1, .int 0), (0, .ref h0)]) hx hb dX1_driftNow_12 rfl hl (by decide) rfl (fun ls hl => ?_)
  refine lv_iload_n hx hb dX1_driftNow_13 rfl (lv_at hl 0 rfl) ?_
  refine lv_aload_n hx hb dX1_driftNow_14 rfl (lv_at hl 1 rfl) ?_
  refine va_get (D := D) (ci := 1) (v := .ref h5) (C := RX1) (T := TX1) (N := 13) hx hb hg inX1 hown hK hP 0 rfl rfl 0 (by decide) (hg _ k278) (fun _ h9 => h9) rfl dX1_driftNow_15 ?_
  refine va_get (D := D) (ci := 0) (v := .int 2) (C := RX0) (T := TX0) (N := 7) hx hb hg inX0 hown hK hP 1 rfl rfl 2 (by decide) (hg _ k162) (fun _ h9 => h9) rfl dX1_driftNow_18 ?_
  refine lv_icmp_ge (tgt := 58) hx hb dX1_driftNow_21 (by decide) (fun c9 => absurd c9 (by decide)) (fun _ => ?_)
  refine lv_aload_n hx hb dX1_driftNow_24 rfl (lv_at hl 1 rfl) ?_
  refine lv_iload_n hx hb dX1_driftNow_25 rfl (lv_at hl 0 rfl) ?_
  refine cVi (n := 1) (As := [.int 0]) (rest := []) (wr := [(h0, .inr (1, [.ref h5, .ref h7, .ref h8, .ref h6, v0, v1, .ref h2, v2, v3, v4, v5, v6, .ref h1])), (h5, .inr (0, [v9, v10, .int 2, v11, v12, v13, v14])), (h6, .inl (a2, 48, .inl f2)), (h7, .inl (a3, 48, .inr (.inr (.inr (.inr f3))))), (h8, .inl (a4, 48, .inr (.inl f4))), (h9, .inr (4, [.ref h10, .int 0, .int 0])), (h10, .inl (a5, 2, .inl f5)), (h11, .inr (4, [.ref h12, .int 0, .int 0])), (h12, .inl (a6, 2, .inl f6)), (h1, .inr (4, [.ref h4, .int 0, .int 0])), (h2, .inr (4, [.ref h3, .int 0, .int 0])), (h3, .inl (a0, 2, .inl f0)), (h4, .inl (a1, 2, .inl (upd f1 0 0)))]) (tr := [(a2, .int), (a3, .object "LiftingSignal$Whole"), (a4, .long), (a5, .int), (a6, .int), (a0, .int), (a1, .int)]) hx hb hml hown hg okN (cX1_isPresent_336 l D h0 h6 (.ref h5) (.ref h7) (.ref h8) v0 v1 (.ref h2) v2 v3 v4 v5 v6 (.ref h1) f2 a2 ef2_0) (mwV k459 k460 k461 k87 k462) ⟨rfl, by decide, by decide, by decide +kernel⟩ ⟨rfl, rfl, (Nat.le_of_ble_eq_true rfl), (Nat.le_of_ble_eq_true rfl)⟩ hP hD hK hS xn [0, 2] [] [0, 1, 2, 3, 4, 5, 6, 7, 8, 9, 10, 11, 12] [0] [0, 1, 2, 3, 4, 5, 6] rfl (by decide) rfl rfl (by decide) (by decide) rfl rfl (aNil hA hS) (aNil hA hS) 0 rfl rfl rfl hl.1 rfl (Nat.le_of_ble_eq_true rfl) dX1_driftNow_26 ⟨(Nat.le_of_ble_eq_true rfl), (Nat.le_of_ble_eq_true rfl)⟩ (fun u H locs hφ hP hD hK hS hk => ?_)
  have hP : va_P D vwCl [(h0, .inr (1, [.ref h5, .ref h7, .ref h8, .ref h6, v0, v1, .ref h2, v2, v3, v4, v5, v6, .ref h1])), (h5, .inr (0, [v9, v10, .int 2, v11, v12, v13, v14])), (h6, .inl (a2, 48, .inl f2)), (h7, .inl (a3, 48, .inr (.inr (.inr (.inr f3))))), (h8, .inl (a4, 48, .inr (.inl f4))), (h9, .inr (4, [.ref h10, .int 0, .int 0])), (h10, .inl (a5, 2, .inl f5)), (h11, .inr (4, [.ref h12, .int 0, .int 0])), (h12, .inl (a6, 2, .inl f6)), (h1, .inr (4, [.ref h4, .int 0, .int 0])), (h2, .inr (4, [.ref h3, .int 0, .int 0])), (h3, .inl (a0, 2, .inl f0)), (h4, .inl (a1, 2, .inl (upd f1 0 0)))] H := hP
  have hD : va_D A [(h0, .inr (1, [.ref h5, .ref h7, .ref h8, .ref h6, v0, v1, .ref h2, v2, v3, v4, v5, v6, .ref h1])), (h5, .inr (0, [v9, v10, .int 2, v11, v12, v13, v14])), (h6, .inl (a2, 48, .inl f2)), (h7, .inl (a3, 48, .inr (.inr (.inr (.inr f3))))), (h8, .inl (a4, 48, .inr (.inl f4))), (h9, .inr (4, [.ref h10, .int 0, .int 0])), (h10, .inl (a5, 2, .inl f5)), (h11, .inr (4, [.ref h12, .int 0, .int 0])), (h12, .inl (a6, 2, .inl f6)), (h1, .inr (4, [.ref h4, .int 0, .int 0])), (h2, .inr (4, [.ref h3, .int 0, .int 0])), (h3, .inl (a0, 2, .inl f0)), (h4, .inl (a1, 2, .inl (upd f1 0 0)))] := hD
  have hK : va_K D vwCl [(a2, .int), (a3, .object "LiftingSignal$Whole"), (a4, .long), (a5, .int), (a6, .int), (a0, .int), (a1, .int)] s := hK
  refine W.widen (k := 0) (n := 0) (Nat.le_of_ble_eq_true rfl) (Nat.le_of_ble_eq_true rfl) ?_
  refine lv_if_eq (tgt := 52) hx hb dX1_driftNow_29 (by decide) (fun c9 => absurd c9 (by decide)) (fun _ => ?_)
  refine lv_aload_n hx hb dX1_driftNow_32 rfl (lv_at hl 1 rfl) ?_
  refine va_get (D := D) (ci := 1) (v := .ref h1) (C := RX1) (T := TX1) (N := 13) hx hb hg inX1 hown hK hP 0 rfl rfl 12 (by decide) (hg _ k299) (fun _ h9 => h9) rfl dX1_driftNow_33 ?_
  refine lv_aload_n hx hb dX1_driftNow_36 rfl (lv_at hl 1 rfl) ?_
  refine va_get (D := D) (ci := 1) (v := .ref h7) (C := RX1) (T := TX1) (N := 13) hx hb hg inX1 hown hK hP 0 rfl rfl 1 (by decide) (hg _ k279) (fun _ h9 => h9) rfl dX1_driftNow_37 ?_
  refine lv_iload_n hx hb dX1_driftNow_40 rfl (lv_at hl 0 rfl) ?_
  refine aldQ hx hb hK hP 3 1 rfl rfl 0 (by decide) (vin (by decide)) (v := h9) ef3_0 dX1_driftNow_41 ?_
  refine lv_aload_n hx hb dX1_driftNow_42 rfl (lv_at hl 1 rfl) ?_
  refine va_get (D := D) (ci := 1) (v := .ref h8) (C := RX1) (T := TX1) (N := 13) hx hb hg inX1 hown hK hP 0 rfl rfl 2 (by decide) (hg _ k281) (fun _ h9 => h9) rfl dX1_driftNow_43 ?_
  refine lv_iload_n hx hb dX1_driftNow_46 rfl (lv_at hl 0 rfl) ?_
  refine aldL hx hb hK hP 4 2 rfl rfl 0 (by decide) (vin (by decide)) (v := 1) ef4_0 dX1_driftNow_47 ?_
  refine lv_lneg hx hb dX1_driftNow_48 ?_
  refine tl ((-1)) (by decide) ?_
  refine cVv (n := 2) (As := [.ref h9, .long (-1)]) (rest := []) (wr := [(h0, .inr (1, [.ref h5, .ref h7, .ref h8, .ref h6, v0, v1, .ref h2, v2, v3, v4, v5, v6, .ref h1])), (h5, .inr (0, [v9, v10, .int 2, v11, v12, v13, v14])), (h6, .inl (a2, 48, .inl f2)), (h7, .inl (a3, 48, .inr (.inr (.inr (.inr f3))))), (h8, .inl (a4, 48, .inr (.inl f4))), (h11, .inr (4, [.ref h12, .int 0, .int 0])), (h12, .inl (a6, 2, .inl f6)), (h2, .inr (4, [.ref h3, .int 0, .int 0])), (h3, .inl (a0, 2, .inl f0))]) (tr := [(a2, .int), (a3, .object "LiftingSignal$Whole"), (a4, .long), (a6, .int), (a0, .int)]) hx hb hml hown hg okN (cX4_add_389 l D h1 h9 h4 h10 (upd f1 0 0) f5 a1 a5 rfl ef5_0) (mwV k340 k341 k342 k88 k343) ⟨rfl, by decide, by decide, by decide +kernel⟩ ⟨rfl, rfl, (Nat.le_of_ble_eq_true rfl), (Nat.le_of_ble_eq_true rfl)⟩ hP hD hK hS xn [9, 5, 12, 6] [9, 5, 12, 6] [0, 1, 2, 3, 4, 7, 8, 10, 11] [6, 3] [0, 1, 2, 4, 5] rfl (by decide) rfl rfl (by decide) (by decide) rfl rfl (va_free hD hS hA [9, 5, 12, 6] rfl) (va_free hD hS hA [9, 5, 12, 6] rfl) 9 rfl rfl rfl hl.1 rfl (Nat.le_of_ble_eq_true rfl) dX1_driftNow_49 ⟨(Nat.le_of_ble_eq_true rfl), (Nat.le_of_ble_eq_true rfl)⟩ (fun u H locs hφ hP hD hK hS hk => ?_)
  have hP : va_P D vwCl [(h0, .inr (1, [.ref h5, .ref h7, .ref h8, .ref h6, v0, v1, .ref h2, v2, v3, v4, v5, v6, .ref h1])), (h5, .inr (0, [v9, v10, .int 2, v11, v12, v13, v14])), (h6, .inl (a2, 48, .inl f2)), (h7, .inl (a3, 48, .inr (.inr (.inr (.inr f3))))), (h8, .inl (a4, 48, .inr (.inl f4))), (h11, .inr (4, [.ref h12, .int 0, .int 0])), (h12, .inl (a6, 2, .inl f6)), (h2, .inr (4, [.ref h3, .int 0, .int 0])), (h3, .inl (a0, 2, .inl f0)), (h1, .inr (4, [.ref h4, .int 0, .int 0])), (h9, .inr (4, [.ref h10, .int 0, .int 0])), (h4, .inl (a1, 2, .inl (upd (upd (upd f1 0 0) 0 0) 1 0))), (h10, .inl (a5, 2, .inl f5))] H := hP
  have hD : va_D A [(h0, .inr (1, [.ref h5, .ref h7, .ref h8, .ref h6, v0, v1, .ref h2, v2, v3, v4, v5, v6, .ref h1])), (h5, .inr (0, [v9, v10, .int 2, v11, v12, v13, v14])), (h6, .inl (a2, 48, .inl f2)), (h7, .inl (a3, 48, .inr (.inr (.inr (.inr f3))))), (h8, .inl (a4, 48, .inr (.inl f4))), (h11, .inr (4, [.ref h12, .int 0, .int 0])), (h12, .inl (a6, 2, .inl f6)), (h2, .inr (4, [.ref h3, .int 0, .int 0])), (h3, .inl (a0, 2, .inl f0)), (h1, .inr (4, [.ref h4, .int 0, .int 0])), (h9, .inr (4, [.ref h10, .int 0, .int 0])), (h4, .inl (a1, 2, .inl (upd (upd (upd f1 0 0) 0 0) 1 0))), (h10, .inl (a5, 2, .inl f5))] := hD
  have hK : va_K D vwCl [(a2, .int), (a3, .object "LiftingSignal$Whole"), (a4, .long), (a6, .int), (a0, .int), (a1, .int), (a5, .int)] s := hK
  refine W.widen (k := 0) (n := 0) (Nat.le_of_ble_eq_true rfl) (Nat.le_of_ble_eq_true rfl) ?_
  refine lv_iinc (v := 1) (lv' := [(1, .int 1), (0, .ref h0)]) hx hb dX1_driftNow_52 hl (k := 0) rfl (by decide) (by decide) rfl (fun ls hl => ?_)
  refine lv_goto (tgt := 13) hx hb dX1_driftNow_55 (by decide) ?_
  refine lv_iload_n hx hb dX1_driftNow_13 rfl (lv_at hl 0 rfl) ?_
  refine lv_aload_n hx hb dX1_driftNow_14 rfl (lv_at hl 1 rfl) ?_
  refine va_get (D := D) (ci := 1) (v := .ref h5) (C := RX1) (T := TX1) (N := 13) hx hb hg inX1 hown hK hP 0 rfl rfl 0 (by decide) (hg _ k278) (fun _ h9 => h9) rfl dX1_driftNow_15 ?_
  refine va_get (D := D) (ci := 0) (v := .int 2) (C := RX0) (T := TX0) (N := 7) hx hb hg inX0 hown hK hP 1 rfl rfl 2 (by decide) (hg _ k162) (fun _ h9 => h9) rfl dX1_driftNow_18 ?_
  refine lv_icmp_ge (tgt := 58) hx hb dX1_driftNow_21 (by decide) (fun c9 => absurd c9 (by decide)) (fun _ => ?_)
  refine lv_aload_n hx hb dX1_driftNow_24 rfl (lv_at hl 1 rfl) ?_
  refine lv_iload_n hx hb dX1_driftNow_25 rfl (lv_at hl 0 rfl) ?_
  refine cVi (n := 1) (As := [.int 1]) (rest := []) (wr := [(h0, .inr (1, [.ref h5, .ref h7, .ref h8, .ref h6, v0, v1, .ref h2, v2, v3, v4, v5, v6, .ref h1])), (h5, .inr (0, [v9, v10, .int 2, v11, v12, v13, v14])), (h6, .inl (a2, 48, .inl f2)), (h7, .inl (a3, 48, .inr (.inr (.inr (.inr f3))))), (h8, .inl (a4, 48, .inr (.inl f4))), (h11, .inr (4, [.ref h12, .int 0, .int 0])), (h12, .inl (a6, 2, .inl f6)), (h2, .inr (4, [.ref h3, .int 0, .int 0])), (h3, .inl (a0, 2, .inl f0)), (h1, .inr (4, [.ref h4, .int 0, .int 0])), (h9, .inr (4, [.ref h10, .int 0, .int 0])), (h4, .inl (a1, 2, .inl (upd (upd (upd f1 0 0) 0 0) 1 0))), (h10, .inl (a5, 2, .inl f5))]) (tr := [(a2, .int), (a3, .object "LiftingSignal$Whole"), (a4, .long), (a6, .int), (a0, .int), (a1, .int), (a5, .int)]) hx hb hml hown hg okN (cX1_isPresent_337 l D h0 h6 (.ref h5) (.ref h7) (.ref h8) v0 v1 (.ref h2) v2 v3 v4 v5 v6 (.ref h1) f2 a2 ef2_1) (mwV k459 k460 k461 k87 k462) ⟨rfl, by decide, by decide, by decide +kernel⟩ ⟨rfl, rfl, (Nat.le_of_ble_eq_true rfl), (Nat.le_of_ble_eq_true rfl)⟩ hP hD hK hS xn [0, 2] [] [0, 1, 2, 3, 4, 5, 6, 7, 8, 9, 10, 11, 12] [0] [0, 1, 2, 3, 4, 5, 6] rfl (by decide) rfl rfl (by decide) (by decide) rfl rfl (aNil hA hS) (aNil hA hS) 0 rfl rfl rfl hl.1 rfl (Nat.le_of_ble_eq_true rfl) dX1_driftNow_26 ⟨(Nat.le_of_ble_eq_true rfl), (Nat.le_of_ble_eq_true rfl)⟩ (fun u H locs hφ hP hD hK hS hk => ?_)
  have hP : va_P D vwCl [(h0, .inr (1, [.ref h5, .ref h7, .ref h8, .ref h6, v0, v1, .ref h2, v2, v3, v4, v5, v6, .ref h1])), (h5, .inr (0, [v9, v10, .int 2, v11, v12, v13, v14])), (h6, .inl (a2, 48, .inl f2)), (h7, .inl (a3, 48, .inr (.inr (.inr (.inr f3))))), (h8, .inl (a4, 48, .inr (.inl f4))), (h11, .inr (4, [.ref h12, .int 0, .int 0])), (h12, .inl (a6, 2, .inl f6)), (h2, .inr (4, [.ref h3, .int 0, .int 0])), (h3, .inl (a0, 2, .inl f0)), (h1, .inr (4, [.ref h4, .int 0, .int 0])), (h9, .inr (4, [.ref h10, .int 0, .int 0])), (h4, .inl (a1, 2, .inl (upd (upd (upd f1 0 0) 0 0) 1 0))), (h10, .inl (a5, 2, .inl f5))] H := hP
  have hD : va_D A [(h0, .inr (1, [.ref h5, .ref h7, .ref h8, .ref h6, v0, v1, .ref h2, v2, v3, v4, v5, v6, .ref h1])), (h5, .inr (0, [v9, v10, .int 2, v11, v12, v13, v14])), (h6, .inl (a2, 48, .inl f2)), (h7, .inl (a3, 48, .inr (.inr (.inr (.inr f3))))), (h8, .inl (a4, 48, .inr (.inl f4))), (h11, .inr (4, [.ref h12, .int 0, .int 0])), (h12, .inl (a6, 2, .inl f6)), (h2, .inr (4, [.ref h3, .int 0, .int 0])), (h3, .inl (a0, 2, .inl f0)), (h1, .inr (4, [.ref h4, .int 0, .int 0])), (h9, .inr (4, [.ref h10, .int 0, .int 0])), (h4, .inl (a1, 2, .inl (upd (upd (upd f1 0 0) 0 0) 1 0))), (h10, .inl (a5, 2, .inl f5))] := hD
  have hK : va_K D vwCl [(a2, .int), (a3, .object "LiftingSignal$Whole"), (a4, .long), (a6, .int), (a0, .int), (a1, .int), (a5, .int)] s := hK
  refine W.widen (k := 0) (n := 0) (Nat.le_of_ble_eq_true rfl) (Nat.le_of_ble_eq_true rfl) ?_
  refine lv_if_eq (tgt := 52) hx hb dX1_driftNow_29 (by decide) (fun c9 => absurd c9 (by decide)) (fun _ => ?_)
  refine lv_aload_n hx hb dX1_driftNow_32 rfl (lv_at hl 1 rfl) ?_
  refine va_get (D := D) (ci := 1) (v := .ref h1) (C := RX1) (T := TX1) (N := 13) hx hb hg inX1 hown hK hP 0 rfl rfl 12 (by decide) (hg _ k299) (fun _ h9 => h9) rfl dX1_driftNow_33 ?_
  refine lv_aload_n hx hb dX1_driftNow_36 rfl (lv_at hl 1 rfl) ?_
  refine va_get (D := D) (ci := 1) (v := .ref h7) (C := RX1) (T := TX1) (N := 13) hx hb hg inX1 hown hK hP 0 rfl rfl 1 (by decide) (hg _ k279) (fun _ h9 => h9) rfl dX1_driftNow_37 ?_
  refine lv_iload_n hx hb dX1_driftNow_40 rfl (lv_at hl 0 rfl) ?_
  refine aldQ hx hb hK hP 3 1 rfl rfl 1 (by decide) (vin (by decide)) (v := h11) ef3_1 dX1_driftNow_41 ?_
  refine lv_aload_n hx hb dX1_driftNow_42 rfl (lv_at hl 1 rfl) ?_
  refine va_get (D := D) (ci := 1) (v := .ref h8) (C := RX1) (T := TX1) (N := 13) hx hb hg inX1 hown hK hP 0 rfl rfl 2 (by decide) (hg _ k281) (fun _ h9 => h9) rfl dX1_driftNow_43 ?_
  refine lv_iload_n hx hb dX1_driftNow_46 rfl (lv_at hl 0 rfl) ?_
  refine aldL hx hb hK hP 4 2 rfl rfl 1 (by decide) (vin (by decide)) (v := 1) ef4_1 dX1_driftNow_47 ?_
  refine lv_lneg hx hb dX1_driftNow_48 ?_
  refine tl ((-1)) (by decide) ?_
  refine cVv (n := 2) (As := [.ref h11, .long (-1)]) (rest := []) (wr := [(h0, .inr (1, [.ref h5, .ref h7, .ref h8, .ref h6, v0, v1, .ref h2, v2, v3, v4, v5, v6, .ref h1])), (h5, .inr (0, [v9, v10, .int 2, v11, v12, v13, v14])), (h6, .inl (a2, 48, .inl f2)), (h7, .inl (a3, 48, .inr (.inr (.inr (.inr f3))))), (h8, .inl (a4, 48, .inr (.inl f4))), (h2, .inr (4, [.ref h3, .int 0, .int 0])), (h3, .inl (a0, 2, .inl f0)), (h9, .inr (4, [.ref h10, .int 0, .int 0])), (h10, .inl (a5, 2, .inl f5))]) (tr := [(a2, .int), (a3, .object "LiftingSignal$Whole"), (a4, .long), (a0, .int), (a5, .int)]) hx hb hml hown hg okN (cX4_add_389 l D h1 h11 h4 h12 (upd (upd (upd f1 0 0) 0 0) 1 0) f6 a1 a6 rfl ef6_0) (mwV k340 k341 k342 k88 k343) ⟨rfl, by decide, by decide, by decide +kernel⟩ ⟨rfl, rfl, (Nat.le_of_ble_eq_true rfl), (Nat.le_of_ble_eq_true rfl)⟩ hP hD hK hS xn [9, 5, 11, 6] [9, 5, 11, 6] [0, 1, 2, 3, 4, 7, 8, 10, 12] [5, 3] [0, 1, 2, 4, 6] rfl (by decide) rfl rfl (by decide) (by decide) rfl rfl (va_free hD hS hA [9, 5, 11, 6] rfl) (va_free hD hS hA [9, 5, 11, 6] rfl) 9 rfl rfl rfl hl.1 rfl (Nat.le_of_ble_eq_true rfl) dX1_driftNow_49 ⟨(Nat.le_of_ble_eq_true rfl), (Nat.le_of_ble_eq_true rfl)⟩ (fun u H locs hφ hP hD hK hS hk => ?_)
  have hP : va_P D vwCl [(h0, .inr (1, [.ref h5, .ref h7, .ref h8, .ref h6, v0, v1, .ref h2, v2, v3, v4, v5, v6, .ref h1])), (h5, .inr (0, [v9, v10, .int 2, v11, v12, v13, v14])), (h6, .inl (a2, 48, .inl f2)), (h7, .inl (a3, 48, .inr (.inr (.inr (.inr f3))))), (h8, .inl (a4, 48, .inr (.inl f4))), (h2, .inr (4, [.ref h3, .int 0, .int 0])), (h3, .inl (a0, 2, .inl f0)), (h9, .inr (4, [.ref h10, .int 0, .int 0])), (h10, .inl (a5, 2, .inl f5)), (h1, .inr (4, [.ref h4, .int 0, .int 0])), (h11, .inr (4, [.ref h12, .int 0, .int 0])), (h4, .inl (a1, 2, .inl (upd (upd (upd (upd (upd f1 0 0) 0 0) 1 0) 0 0) 1 0))), (h12, .inl (a6, 2, .inl f6))] H := hP
  have hD : va_D A [(h0, .inr (1, [.ref h5, .ref h7, .ref h8, .ref h6, v0, v1, .ref h2, v2, v3, v4, v5, v6, .ref h1])), (h5, .inr (0, [v9, v10, .int 2, v11, v12, v13, v14])), (h6, .inl (a2, 48, .inl f2)), (h7, .inl (a3, 48, .inr (.inr (.inr (.inr f3))))), (h8, .inl (a4, 48, .inr (.inl f4))), (h2, .inr (4, [.ref h3, .int 0, .int 0])), (h3, .inl (a0, 2, .inl f0)), (h9, .inr (4, [.ref h10, .int 0, .int 0])), (h10, .inl (a5, 2, .inl f5)), (h1, .inr (4, [.ref h4, .int 0, .int 0])), (h11, .inr (4, [.ref h12, .int 0, .int 0])), (h4, .inl (a1, 2, .inl (upd (upd (upd (upd (upd f1 0 0) 0 0) 1 0) 0 0) 1 0))), (h12, .inl (a6, 2, .inl f6))] := hD
  have hK : va_K D vwCl [(a2, .int), (a3, .object "LiftingSignal$Whole"), (a4, .long), (a0, .int), (a5, .int), (a1, .int), (a6, .int)] s := hK
  refine W.widen (k := 0) (n := 0) (Nat.le_of_ble_eq_true rfl) (Nat.le_of_ble_eq_true rfl) ?_
  refine lv_iinc (v := 2) (lv' := [(1, .int 2), (0, .ref h0)]) hx hb dX1_driftNow_52 hl (k := 0) rfl (by decide) (by decide) rfl (fun ls hl => ?_)
  refine lv_goto (tgt := 13) hx hb dX1_driftNow_55 (by decide) ?_
  refine lv_iload_n hx hb dX1_driftNow_13 rfl (lv_at hl 0 rfl) ?_
  refine lv_aload_n hx hb dX1_driftNow_14 rfl (lv_at hl 1 rfl) ?_
  refine va_get (D := D) (ci := 1) (v := .ref h5) (C := RX1) (T := TX1) (N := 13) hx hb hg inX1 hown hK hP 0 rfl rfl 0 (by decide) (hg _ k278) (fun _ h9 => h9) rfl dX1_driftNow_15 ?_
  refine va_get (D := D) (ci := 0) (v := .int 2) (C := RX0) (T := TX0) (N := 7) hx hb hg inX0 hown hK hP 1 rfl rfl 2 (by decide) (hg _ k162) (fun _ h9 => h9) rfl dX1_driftNow_18 ?_
  refine lv_icmp_ge (tgt := 58) hx hb dX1_driftNow_21 (by decide) (fun _ => ?_) (fun c9 => absurd (by decide) c9)
  refine lv_aload_n hx hb dX1_driftNow_58 rfl (lv_at hl 1 rfl) ?_
  refine va_get (D := D) (ci := 1) (v := .ref h1) (C := RX1) (T := TX1) (N := 13) hx hb hg inX1 hown hK hP 0 rfl rfl 12 (by decide) (hg _ k299) (fun _ h9 => h9) rfl dX1_driftNow_59 ?_
  exact fr rfl hx hb hr hlocks hP hD hK hS (()) trivial rfl [0, 9, 5, 6, 11, 1, 2, 3, 4, 7, 8, 10, 12] [3, 5, 0, 1, 2, 4, 6] rfl (by decide) rfl (Nat.le_of_ble_eq_true rfl) (Nat.le_of_ble_eq_true rfl) dX1_driftNow_62
set_option maxHeartbeats 4000000 in
set_option maxRecDepth 100000 in
theorem cX5_drift_401 (l : Launch) (D : va_G) (h0 : Nat) (h1 : Nat) (h2 : Nat) (h3 : Nat) (h4 : Nat) (h5 : Nat) (h6 : Nat) (h7 : Nat) (h8 : Nat) (h9 : Nat) (h10 : Nat) (h11 : Nat) (h12 : Nat) (h13 : Nat) (v0 : Value) (v1 : Value) (v2 : Value) (v3 : Value) (v4 : Value) (v5 : Value) (v6 : Value) (v7 : Value) (v8 : Value) (v9 : Value) (v10 : Value) (v11 : Value) (v12 : Value) (v13 : Value) (v14 : Value) (v15 : Value) (v16 : Value) (v17 : Value) (f0 : Nat → Int32) (f1 : Nat → Int32) (v18 : Value) (v19 : Value) (v20 : Value) (v21 : Value) (v22 : Value) (v23 : Value) (f2 : Nat → Int32) (f3 : Nat → Option Nat) (f4 : Nat → Int64) (f5 : Nat → Int32) (f6 : Nat → Int32) (a0 : ClassId) (a1 : ClassId) (a2 : ClassId) (a3 : ClassId) (a4 : ClassId) (a5 : ClassId) (a6 : ClassId) (ef0_0 : f0 0 = 0) (ef2_0 : f2 0 = (-1)) (ef2_1 : f2 1 = (-1)) (ef3_0 : f3 0 = some h10) (ef3_1 : f3 1 = some h12) (ef4_0 : f4 0 = 1) (ef4_1 : f4 1 = 1) (ef5_0 : f5 0 = 0) (ef6_0 : f6 0 = 0)  : CT l yX5_drift cX5_drift 1 (some .long) { frames := 3, cells := 0, slots := 0, locals := 71 } [.ref h0] D [(h0, .inr (5, [v0, v1, v2, .ref h1, v3, v4, v5, v6, v7, v8])), (h1, .inr (1, [.ref h6, .ref h8, .ref h9, .ref h7, v9, v10, .ref h3, v11, v12, v13, v14, v15, .ref h2])), (h2, .inr (4, [.ref h5, v16, v17])), (h3, .inr (4, [.ref h4, .int 0, .int 0])), (h4, .inl (a0, 2, .inl f0)), (h5, .inl (a1, 2, .inl f1)), (h6, .inr (0, [v18, v19, .int 2, v20, v21, v22, v23])), (h7, .inl (a2, 48, .inl f2)), (h8, .inl (a3, 48, .inr (.inr (.inr (.inr f3))))), (h9, .inl (a4, 48, .inr (.inl f4))), (h10, .inr (4, [.ref h11, .int 0, .int 0])), (h11, .inl (a5, 2, .inl f5)), (h12, .inr (4, [.ref h13, .int 0, .int 0])), (h13, .inl (a6, 2, .inl f6))] [(a0, .int), (a1, .int), (a2, .int), (a3, .object "LiftingSignal$Whole"), (a4, .long), (a5, .int), (a6, .int)] XN [(h0, .inr (5, [v0, v1, v2, .ref h1, v3, v4, v5, v6, v7, v8])), (h1, .inr (1, [.ref h6, .ref h8, .ref h9, .ref h7, v9, v10, .ref h3, v11, v12, v13, v14, v15, .ref h2])), (h2, .inr (4, [.ref h5, v16, v17])), (h3, .inr (4, [.ref h4, .int 0, .int 0])), (h4, .inl (a0, 2, .inl f0)), (h5, .inl (a1, 2, .inl f1)), (h6, .inr (0, [v18, v19, .int 2, v20, v21, v22, v23])), (h7, .inl (a2, 48, .inl f2)), (h8, .inl (a3, 48, .inr (.inr (.inr (.inr f3))))), (h9, .inl (a4, 48, .inr (.inl f4))), (h10, .inr (4, [.ref h11, .int 0, .int 0])), (h11, .inl (a5, 2, .inl f5)), (h12, .inr (4, [.ref h13, .int 0, .int 0])), (h13, .inl (a6, 2, .inl f6))] (el (fun _ : Unit => True) (fun u => 0) (fun _ => [(h0, .inr (5, [v0, v1, v2, .ref h1, v3, v4, v5, v6, v7, v8])), (h1, .inr (1, [.ref h6, .ref h8, .ref h9, .ref h7, v9, v10, .ref h3, v11, v12, v13, v14, v15, .ref h2])), (h2, .inr (4, [.ref h5, .int 0, .int 0])), (h3, .inr (4, [.ref h4, .int 0, .int 0])), (h4, .inl (a0, 2, .inl f0)), (h5, .inl (a1, 2, .inl (upd (upd (upd (upd (upd f1 0 0) 0 0) 1 0) 0 0) 1 0))), (h6, .inr (0, [v18, v19, .int 2, v20, v21, v22, v23])), (h7, .inl (a2, 48, .inl f2)), (h8, .inl (a3, 48, .inr (.inr (.inr (.inr f3))))), (h9, .inl (a4, 48, .inr (.inl f4))), (h10, .inr (4, [.ref h11, .int 0, .int 0])), (h11, .inl (a5, 2, .inl f5)), (h12, .inr (4, [.ref h13, .int 0, .int 0])), (h13, .inl (a6, 2, .inl f6))]) (fun u => [(a0, .int), (a1, .int), (a2, .int), (a3, .object "LiftingSignal$Whole"), (a4, .long), (a5, .int), (a6, .int)]) D) 0 0 := by
  refine CT.ofW (by decide +kernel) (Nat.le_of_ble_eq_true rfl) ?_
  intro p e s m below meth c A ls hcs hP hK hD hX hA hS hl
  obtain ⟨hx, hb, hr, hml, hown, hg, hlocks, hin⟩ := hcs
  have hown : s.vm.findClass RX5 = some m.cls := hown
  have hl : lv_has ls 1 [(0, .ref h0)] := hl
  refine lv_aload_n hx hb dX5_drift_0 rfl (lv_at hl 0 rfl) ?_
  refine va_get (D := D) (ci := 5) (v := .ref h1) (C := RX5) (T := TX5) (N := 10) hx hb hg inX5 hown hK hP 0 rfl rfl 3 (by decide) (hg _ k382) (fun _ h9 => h9) rfl dX5_drift_1 ?_
  refine cVr (n := 0) (As := []) (rest := []) (wr := [(h0, .inr (5, [v0, v1, v2, .ref h1, v3, v4, v5, v6, v7, v8]))]) (tr := []) hx hb hml hown hg okN (cX1_driftNow_402 l D h1 h2 h3 h4 h5 h6 h7 h8 h9 h10 h11 h12 h13 v9 v10 v11 v12 v13 v14 v15 v16 v17 f0 f1 v18 v19 v20 v21 v22 v23 f2 f3 f4 f5 f6 a0 a1 a2 a3 a4 a5 a6 ef0_0 ef2_0 ef2_1 ef3_0 ef3_1 ef4_0 ef4_1 ef5_0 ef6_0) (mwV k451 k452 k453 k87 k454) ⟨rfl, by decide, by decide, by decide +kernel⟩ ⟨rfl, rfl, (Nat.le_of_ble_eq_true rfl), (Nat.le_of_ble_eq_true rfl)⟩ hP hD hK hS xn [1, 2, 3, 4, 5, 6, 7, 8, 9, 10, 11, 12, 13] [1, 2, 3, 4, 5, 6, 7, 8, 9, 10, 11, 12, 13] [0] [0, 1, 2, 3, 4, 5, 6] [] rfl (by decide) rfl rfl (by decide) (by decide) rfl rfl (va_free hD hS hA [1, 2, 3, 4, 5, 6, 7, 8, 9, 10, 11, 12, 13] rfl) (va_free hD hS hA [1, 2, 3, 4, 5, 6, 7, 8, 9, 10, 11, 12, 13] rfl) 1 rfl rfl rfl hl.1 rfl (Nat.le_of_ble_eq_true rfl) dX5_drift_4 ⟨(Nat.le_of_ble_eq_true rfl), (Nat.le_of_ble_eq_true rfl)⟩ (fun u H locs hφ hP hD hK hS hk => ?_)
  have hP : va_P D vwCl [(h0, .inr (5, [v0, v1, v2, .ref h1, v3, v4, v5, v6, v7, v8])), (h1, .inr (1, [.ref h6, .ref h8, .ref h9, .ref h7, v9, v10, .ref h3, v11, v12, v13, v14, v15, .ref h2])), (h2, .inr (4, [.ref h5, .int 0, .int 0])), (h3, .inr (4, [.ref h4, .int 0, .int 0])), (h4, .inl (a0, 2, .inl f0)), (h5, .inl (a1, 2, .inl (upd (upd (upd (upd (upd f1 0 0) 0 0) 1 0) 0 0) 1 0))), (h6, .inr (0, [v18, v19, .int 2, v20, v21, v22, v23])), (h7, .inl (a2, 48, .inl f2)), (h8, .inl (a3, 48, .inr (.inr (.inr (.inr f3))))), (h9, .inl (a4, 48, .inr (.inl f4))), (h10, .inr (4, [.ref h11, .int 0, .int 0])), (h11, .inl (a5, 2, .inl f5)), (h12, .inr (4, [.ref h13, .int 0, .int 0])), (h13, .inl (a6, 2, .inl f6))] H := hP
  have hD : va_D A [(h0, .inr (5, [v0, v1, v2, .ref h1, v3, v4, v5, v6, v7, v8])), (h1, .inr (1, [.ref h6, .ref h8, .ref h9, .ref h7, v9, v10, .ref h3, v11, v12, v13, v14, v15, .ref h2])), (h2, .inr (4, [.ref h5, .int 0, .int 0])), (h3, .inr (4, [.ref h4, .int 0, .int 0])), (h4, .inl (a0, 2, .inl f0)), (h5, .inl (a1, 2, .inl (upd (upd (upd (upd (upd f1 0 0) 0 0) 1 0) 0 0) 1 0))), (h6, .inr (0, [v18, v19, .int 2, v20, v21, v22, v23])), (h7, .inl (a2, 48, .inl f2)), (h8, .inl (a3, 48, .inr (.inr (.inr (.inr f3))))), (h9, .inl (a4, 48, .inr (.inl f4))), (h10, .inr (4, [.ref h11, .int 0, .int 0])), (h11, .inl (a5, 2, .inl f5)), (h12, .inr (4, [.ref h13, .int 0, .int 0])), (h13, .inl (a6, 2, .inl f6))] := hD
  have hK : va_K D vwCl [(a0, .int), (a1, .int), (a2, .int), (a3, .object "LiftingSignal$Whole"), (a4, .long), (a5, .int), (a6, .int)] s := hK
  refine W.widen (k := 0) (n := 0) (Nat.le_of_ble_eq_true rfl) (Nat.le_of_ble_eq_true rfl) ?_
  refine cVl (n := 0) (As := []) (rest := []) (wr := [(h0, .inr (5, [v0, v1, v2, .ref h1, v3, v4, v5, v6, v7, v8])), (h1, .inr (1, [.ref h6, .ref h8, .ref h9, .ref h7, v9, v10, .ref h3, v11, v12, v13, v14, v15, .ref h2])), (h2, .inr (4, [.ref h5, .int 0, .int 0])), (h3, .inr (4, [.ref h4, .int 0, .int 0])), (h4, .inl (a0, 2, .inl f0)), (h5, .inl (a1, 2, .inl (upd (upd (upd (upd (upd f1 0 0) 0 0) 1 0) 0 0) 1 0))), (h6, .inr (0, [v18, v19, .int 2, v20, v21, v22, v23])), (h7, .inl (a2, 48, .inl f2)), (h8, .inl (a3, 48, .inr (.inr (.inr (.inr f3))))), (h9, .inl (a4, 48, .inr (.inl f4))), (h10, .inr (4, [.ref h11, .int 0, .int 0])), (h11, .inl (a5, 2, .inl f5)), (h12, .inr (4, [.ref h13, .int 0, .int 0])), (h13, .inl (a6, 2, .inl f6))]) (tr := [(a0, .int), (a1, .int), (a2, .int), (a3, .object "LiftingSignal$Whole"), (a4, .long), (a5, .int), (a6, .int)]) hx hb hml hown hg okN (cX4_toLong_348 l D h2 (.ref h5)) (mwV k435 k436 k437 k88 k438) ⟨rfl, by decide, by decide, by decide +kernel⟩ ⟨rfl, rfl, (Nat.le_of_ble_eq_true rfl), (Nat.le_of_ble_eq_true rfl)⟩ hP hD hK hS xn [2] [] [0, 1, 2, 3, 4, 5, 6, 7, 8, 9, 10, 11, 12, 13] [] [0, 1, 2, 3, 4, 5, 6] rfl (by decide) rfl rfl (by decide) (by decide) rfl rfl (aNil hA hS) (aNil hA hS) 2 rfl rfl rfl hl.1 rfl (Nat.le_of_ble_eq_true rfl) dX5_drift_7 ⟨(Nat.le_of_ble_eq_true rfl), (Nat.le_of_ble_eq_true rfl)⟩ (fun u H locs hφ hP hD hK hS hk => ?_)
  have hP : va_P D vwCl [(h0, .inr (5, [v0, v1, v2, .ref h1, v3, v4, v5, v6, v7, v8])), (h1, .inr (1, [.ref h6, .ref h8, .ref h9, .ref h7, v9, v10, .ref h3, v11, v12, v13, v14, v15, .ref h2])), (h2, .inr (4, [.ref h5, .int 0, .int 0])), (h3, .inr (4, [.ref h4, .int 0, .int 0])), (h4, .inl (a0, 2, .inl f0)), (h5, .inl (a1, 2, .inl (upd (upd (upd (upd (upd f1 0 0) 0 0) 1 0) 0 0) 1 0))), (h6, .inr (0, [v18, v19, .int 2, v20, v21, v22, v23])), (h7, .inl (a2, 48, .inl f2)), (h8, .inl (a3, 48, .inr (.inr (.inr (.inr f3))))), (h9, .inl (a4, 48, .inr (.inl f4))), (h10, .inr (4, [.ref h11, .int 0, .int 0])), (h11, .inl (a5, 2, .inl f5)), (h12, .inr (4, [.ref h13, .int 0, .int 0])), (h13, .inl (a6, 2, .inl f6))] H := hP
  have hD : va_D A [(h0, .inr (5, [v0, v1, v2, .ref h1, v3, v4, v5, v6, v7, v8])), (h1, .inr (1, [.ref h6, .ref h8, .ref h9, .ref h7, v9, v10, .ref h3, v11, v12, v13, v14, v15, .ref h2])), (h2, .inr (4, [.ref h5, .int 0, .int 0])), (h3, .inr (4, [.ref h4, .int 0, .int 0])), (h4, .inl (a0, 2, .inl f0)), (h5, .inl (a1, 2, .inl (upd (upd (upd (upd (upd f1 0 0) 0 0) 1 0) 0 0) 1 0))), (h6, .inr (0, [v18, v19, .int 2, v20, v21, v22, v23])), (h7, .inl (a2, 48, .inl f2)), (h8, .inl (a3, 48, .inr (.inr (.inr (.inr f3))))), (h9, .inl (a4, 48, .inr (.inl f4))), (h10, .inr (4, [.ref h11, .int 0, .int 0])), (h11, .inl (a5, 2, .inl f5)), (h12, .inr (4, [.ref h13, .int 0, .int 0])), (h13, .inl (a6, 2, .inl f6))] := hD
  have hK : va_K D vwCl [(a0, .int), (a1, .int), (a2, .int), (a3, .object "LiftingSignal$Whole"), (a4, .long), (a5, .int), (a6, .int)] s := hK
  refine W.widen (k := 0) (n := 0) (Nat.le_of_ble_eq_true rfl) (Nat.le_of_ble_eq_true rfl) ?_
  exact fl hx hb hr hlocks hP hD hK hS (()) trivial rfl [0, 1, 2, 3, 4, 5, 6, 7, 8, 9, 10, 11, 12, 13] [0, 1, 2, 3, 4, 5, 6] rfl (by decide) rfl (Nat.le_of_ble_eq_true rfl) (Nat.le_of_ble_eq_true rfl) dX5_drift_10
set_option maxHeartbeats 4000000 in
set_option maxRecDepth 100000 in
theorem cX5_needRange_404 (l : Launch) (D : va_G) (hlt : l.stackTraces = false) (x0 : Int32)  (d0 : x0 < 0) : CX l yX5_needRange cX5_needRange 3 none { frames := 6, cells := 1, slots := 6, locals := 90 } [.int x0, .int 0, .int 1] D [] [] XX [] xv "java/lang/IllegalArgumentException" 1 6 := by
  refine CX.ofR (by decide +kernel) (Nat.le_of_ble_eq_true rfl) ?_
  intro p e s m below meth c A ls hcs hout hP hK hD hX hA hS hl
  obtain ⟨hx, hb, hr, hml, hown, hg, hlocks, hin⟩ := hcs
  have hown : s.vm.findClass RX5 = some m.cls := hown
  have hl : lv_has ls 3 [(0, .int x0), (1, .int 0), (2, .int 1)] := hl
  refine lv_iload_n hx hb dX5_needRange_0 rfl (lv_at hl 0 rfl) ?_
  refine lv_iload_n hx hb dX5_needRange_1 rfl (lv_at hl 1 rfl) ?_
  refine lv_icmp_lt (tgt := 10) hx hb dX5_needRange_2 (by decide) (fun _ => ?_) (fun c9 => absurd d0 c9)
  obtain ⟨sa, hsa⟩ := XX_sRX5_321 hX
  exact thSW_IAE hx hb hlt hown (hg _ k813) (hg _ k101) hsa hg hX hS (hl.1.trans hml.symm) dX5_needRange_10 dX5_needRange_13 dX5_needRange_14 dX5_needRange_17 dX5_needRange_20 hout (Nat.le_of_ble_eq_true rfl) (Nat.le_of_ble_eq_true rfl) (Nat.le_of_ble_eq_true rfl) (Nat.le_of_ble_eq_true rfl) hlocks (Nat.le_of_ble_eq_true rfl) (Nat.le_of_ble_eq_true rfl)
set_option maxHeartbeats 4000000 in
set_option maxRecDepth 100000 in
theorem cX5_mean_403 (l : Launch) (D : va_G) (hlt : l.stackTraces = false) (h0 : Nat) (x0 : Int32)  (d0 : x0 < 0) : CX l yX5_mean cX5_mean 6 (some .long) { frames := 7, cells := 1, slots := 6, locals := 112 } [.ref h0, .int x0] D [] [] XX [] xl "java/lang/IllegalArgumentException" 1 6 := by
  refine CX.ofR (by decide +kernel) (Nat.le_of_ble_eq_true rfl) ?_
  intro p e s m below meth c A ls hcs hout hP hK hD hX hA hS hl
  obtain ⟨hx, hb, hr, hml, hown, hg, hlocks, hin⟩ := hcs
  have hown : s.vm.findClass RX5 = some m.cls := hown
  have hl : lv_has ls 6 [(0, .ref h0), (1, .int x0)] := hl
  refine lv_iload_n hx hb dX5_mean_0 rfl (lv_at hl 1 rfl) ?_
  refine lv_iconst (v := 0) hx hb dX5_mean_1 (by decide) ?_
  refine lv_iconst (v := 1) hx hb dX5_mean_2 (by decide) ?_
  exact xSv (n := 3) (As := [.int x0, .int 0, .int 1]) (rest := []) hx hb hml hown hg okXX (cX5_needRange_404 l D hlt x0 d0) (mwS k909 k910 k84 k911) ⟨rfl, by decide, by decide, by decide +kernel⟩ ⟨rfl, rfl, (Nat.le_of_ble_eq_true rfl), (Nat.le_of_ble_eq_true rfl)⟩ hP hD hK hS (okXX.2.2 _ _ _ _ hS.2.1 hX) [] [] rfl (by decide) rfl (aNil hA hS) rfl hl.1 rfl (Nat.le_of_ble_eq_true rfl) dX5_mean_3 ⟨(Nat.le_of_ble_eq_true rfl), (Nat.le_of_ble_eq_true rfl)⟩ hout hlocks (Nat.le_of_ble_eq_true rfl) (Nat.le_of_ble_eq_true rfl)
set_option maxHeartbeats 4000000 in
set_option maxRecDepth 100000 in
theorem cX5_needRange_406 (l : Launch) (D : va_G)    : CT l yX5_needRange cX5_needRange 3 none { frames := 0, cells := 0, slots := 0, locals := 0 } [.int 0, .int 0, .int 1] D [] [] XN [] (ev (fun _ : Unit => True) (fun _ => []) (fun _ => []) D) 0 0 := by
  refine CT.ofR (by decide +kernel) (Nat.le_of_ble_eq_true rfl) ?_
  intro p e s m below meth c A ls hcs hP hK hD hX hA hS hl
  obtain ⟨hx, hb, hr, hml, hown, hg, hlocks, hin⟩ := hcs
  have hown : s.vm.findClass RX5 = some m.cls := hown
  have hl : lv_has ls 3 [(0, .int 0), (1, .int 0), (2, .int 1)] := hl
  refine lv_iload_n hx hb dX5_needRange_0 rfl (lv_at hl 0 rfl) ?_
  refine lv_iload_n hx hb dX5_needRange_1 rfl (lv_at hl 1 rfl) ?_
  refine lv_icmp_lt (tgt := 10) hx hb dX5_needRange_2 (by decide) (fun c9 => absurd c9 (by decide)) (fun _ => ?_)
  refine lv_iload_n hx hb dX5_needRange_5 rfl (lv_at hl 0 rfl) ?_
  refine lv_iload_n hx hb dX5_needRange_6 rfl (lv_at hl 2 rfl) ?_
  refine lv_icmp_le (tgt := 21) hx hb dX5_needRange_7 (by decide) (fun _ => ?_) (fun c9 => absurd (by decide) c9)
  exact fv0 hx hb hr hlocks hK hS (Nat.le_of_ble_eq_true rfl) (Nat.le_of_ble_eq_true rfl) dX5_needRange_21
set_option maxHeartbeats 4000000 in
set_option maxRecDepth 100000 in
theorem cX4_restOfAmount_407 (l : Launch) (D : va_G) (h0 : Nat) (v0 : Value) (v1 : Value)   : CT l yX4_restOfAmount cX4_restOfAmount 6 (some .long) { frames := 0, cells := 0, slots := 0, locals := 0 } [.ref h0, .long 2] D [(h0, .inr (4, [v0, .int 0, v1]))] [] XN [] (el (fun _ : Unit => True) (fun _ => 0) (fun _ => []) (fun _ => []) D) 0 0 := by
  refine CT.ofR (by decide +kernel) (Nat.le_of_ble_eq_true rfl) ?_
  intro p e s m below meth c A ls hcs hP hK hD hX hA hS hl
  obtain ⟨hx, hb, hr, hml, hown, hg, hlocks, hin⟩ := hcs
  have hown : s.vm.findClass RX4 = some m.cls := hown
  have hl : lv_has ls 6 [(0, .ref h0), (1, .long 2)] := hl
  refine lv_lconst (v := 0) hx hb dX4_restOfAmount_0 (by decide) ?_
  refine lv_lstore_n (lv' := [(3, .long 0), (0, .ref h0), (1, .long 2)]) hx hb dX4_restOfAmount_1 rfl hl (by decide) rfl (fun ls hl => ?_)
  refine lv_aload_n hx hb dX4_restOfAmount_2 rfl (lv_at hl 1 rfl) ?_
  refine va_get (D := D) (ci := 4) (v := .int 0) (C := RX4) (T := TX4) (N := 3) hx hb hg inX4 hown hK hP 0 rfl rfl 1 (by decide) (hg _ k210) (fun _ h9 => h9) rfl dX4_restOfAmount_3 ?_
  refine lv_iconst (v := 1) hx hb dX4_restOfAmount_6 (by decide) ?_
  refine lv_isub hx hb dX4_restOfAmount_7 ?_
  refine ti ((-1)) (by decide) ?_
  refine lv_istore (lv' := [(5, .int (-1)), (3, .long 0), (0, .ref h0), (1, .long 2)]) hx hb dX4_restOfAmount_8 hl (by decide) rfl (fun ls hl => ?_)
  refine lv_iload hx hb dX4_restOfAmount_10 (lv_at hl 0 rfl) ?_
  refine lv_if_lt (tgt := 47) hx hb dX4_restOfAmount_12 (by decide) (fun _ => ?_) (fun c9 => absurd (by decide) c9)
  refine lv_lload_n hx hb dX4_restOfAmount_47 rfl (lv_at hl 1 rfl) ?_
  exact fl0 hx hb hr hlocks hK hS (Nat.le_of_ble_eq_true rfl) (Nat.le_of_ble_eq_true rfl) dX4_restOfAmount_48
set_option maxHeartbeats 4000000 in
set_option maxRecDepth 100000 in
theorem cX5_commonDivisor_408 (l : Launch) (D : va_G)    : CT l yX5_commonDivisor cX5_commonDivisor 11 (some .long) { frames := 1, cells := 0, slots := 0, locals := 15 } [.long 2, .long 0] D [] [] XN [] (el (fun _ : Unit => True) (fun _ => 2) (fun _ => []) (fun _ => []) D) 0 0 := by
  refine CT.ofR (by decide +kernel) (Nat.le_of_ble_eq_true rfl) ?_
  intro p e s m below meth c A ls hcs hP hK hD hX hA hS hl
  obtain ⟨hx, hb, hr, hml, hown, hg, hlocks, hin⟩ := hcs
  have hown : s.vm.findClass RX5 = some m.cls := hown
  have hl : lv_has ls 11 [(0, .long 2), (2, .long 0)] := hl
  refine lv_lload_n hx hb dX5_commonDivisor_0 rfl (lv_at hl 0 rfl) ?_
  refine lv_lconst (v := 1) hx hb dX5_commonDivisor_1 (by decide) ?_
  refine va_mmax_long hx hb (hml.trans hl.1.symm) hown (hg _ k920) (hg _ k921) (hg _ k90) (hg _ k922) (Nat.le_of_ble_eq_true rfl) (Nat.le_of_ble_eq_true rfl) (Nat.le_of_ble_eq_true rfl) (Nat.le_of_ble_eq_true rfl) dX5_commonDivisor_2 ?_
  refine tl (2) (by decide) ?_
  refine lv_lstore (lv' := [(4, .long 2), (0, .long 2), (2, .long 0)]) hx hb dX5_commonDivisor_5 hl (by decide) rfl (fun ls hl => ?_)
  refine lv_lload_n hx hb dX5_commonDivisor_7 rfl (lv_at hl 2 rfl) ?_
  refine lv_lstore (lv' := [(6, .long 0), (4, .long 2), (0, .long 2), (2, .long 0)]) hx hb dX5_commonDivisor_8 hl (by decide) rfl (fun ls hl => ?_)
  refine lv_iconst (v := 0) hx hb dX5_commonDivisor_10 (by decide) ?_
  refine lv_istore (lv' := [(8, .int 0), (6, .long 0), (4, .long 2), (0, .long 2), (2, .long 0)]) hx hb dX5_commonDivisor_11 hl (by decide) rfl (fun ls hl => ?_)
  refine lv_iload hx hb dX5_commonDivisor_13 (lv_at hl 0 rfl) ?_
  refine lv_sipush (v := 1000) hx hb dX5_commonDivisor_15 (by decide) ?_
  refine lv_icmp_ge (tgt := 49) hx hb dX5_commonDivisor_18 (by decide) (fun c9 => absurd c9 (by decide)) (fun _ => ?_)
  refine lv_lload hx hb dX5_commonDivisor_21 (lv_at hl 1 rfl) ?_
  refine lv_lconst (v := 0) hx hb dX5_commonDivisor_23 (by decide) ?_
  refine W.lcmp hx hb dX5_commonDivisor_24 ?_
  refine ti (0) (by decide) ?_
  refine lv_if_le (tgt := 49) hx hb dX5_commonDivisor_25 (by decide) (fun _ => ?_) (fun c9 => absurd (by decide) c9)
  refine lv_lload hx hb dX5_commonDivisor_49 (lv_at hl 2 rfl) ?_
  exact fl0 hx hb hr hlocks hK hS (Nat.le_of_ble_eq_true rfl) (Nat.le_of_ble_eq_true rfl) dX5_commonDivisor_51
set_option maxHeartbeats 4000000 in
set_option maxRecDepth 100000 in
theorem cJ9_floorDiv_f86c9_411 (l : Launch) (D : va_G)    : CT l yJ9_floorDiv_f86c9 cJ9_floorDiv_f86c9 6 (some .long) { frames := 0, cells := 0, slots := 0, locals := 0 } [.long 0, .long 2] D [] [] XN [] (el (fun _ : Unit => True) (fun _ => 0) (fun _ => []) (fun _ => []) D) 0 0 := by
  refine CT.ofF (by decide +kernel) (Nat.le_of_ble_eq_true rfl) ?_
  intro p e s m below meth c A ls hcs hP hK hD hX hA hS hl
  obtain ⟨hx, hb, hr, hml, hown, hg, hlocks, hin⟩ := hcs
  have hown : s.vm.findClass RJ9 = some m.cls := hown
  have hl : lv_has ls 6 [(0, .long 0), (2, .long 2)] := hl
  refine lv_lload_n hx hb dJ9_floorDiv_f86c9_0 rfl (lv_at hl 0 rfl) ?_
  refine lv_lload_n hx hb dJ9_floorDiv_f86c9_1 rfl (lv_at hl 1 rfl) ?_
  refine lv_ldiv hx hb dJ9_floorDiv_f86c9_2 (by decide) ?_
  refine tl (0) (by decide) ?_
  refine lv_lstore (lv' := [(4, .long 0), (0, .long 0), (2, .long 2)]) hx hb dJ9_floorDiv_f86c9_3 hl (by decide) rfl (fun ls hl => ?_)
  refine lv_lload_n hx hb dJ9_floorDiv_f86c9_5 rfl (lv_at hl 1 rfl) ?_
  refine lv_lload_n hx hb dJ9_floorDiv_f86c9_6 rfl (lv_at hl 2 rfl) ?_
  refine lv_lxor hx hb dJ9_floorDiv_f86c9_7 ?_
  refine tl (2) (by decide) ?_
  refine lv_lconst (v := 0) hx hb dJ9_floorDiv_f86c9_8 (by decide) ?_
  refine W.lcmp hx hb dJ9_floorDiv_f86c9_9 ?_
  refine ti (1) (by decide) ?_
  refine lv_if_ge (tgt := 27) hx hb dJ9_floorDiv_f86c9_10 (by decide) (fun _ => ?_) (fun c9 => absurd (by decide) c9)
  refine lv_lload hx hb dJ9_floorDiv_f86c9_27 (lv_at hl 0 rfl) ?_
  exact fl0 hx hb hr hlocks hK hS (Nat.le_of_ble_eq_true rfl) (Nat.le_of_ble_eq_true rfl) dJ9_floorDiv_f86c9_29
set_option maxHeartbeats 4000000 in
set_option maxRecDepth 100000 in
theorem cX4_scale_410 (l : Launch) (D : va_G) (h0 : Nat) (h1 : Nat) (f0 : Nat → Int32) (a0 : ClassId) (ef0_0 : f0 0 = 0)  : CT l yX4_scale cX4_scale 6 none { frames := 1, cells := 0, slots := 0, locals := 25 } [.ref h0, .long 1, .long 2] D [(h0, .inr (4, [.ref h1, .int 0, .int 0])), (h1, .inl (a0, 2, .inl f0))] [(a0, .int)] XN [(h0, .inr (4, [.ref h1, .int 0, .int 0])), (h1, .inl (a0, 2, .inl f0))] (ev (fun _ : Unit => True) (fun _ => [(h0, .inr (4, [.ref h1, .int 0, .int 0])), (h1, .inl (a0, 2, .inl (upd (upd f0 0 0) 1 0)))]) (fun u => [(a0, .int)]) D) 0 0 := by
  refine CT.ofW (by decide +kernel) (Nat.le_of_ble_eq_true rfl) ?_
  intro p e s m below meth c A ls hcs hP hK hD hX hA hS hl
  obtain ⟨hx, hb, hr, hml, hown, hg, hlocks, hin⟩ := hcs
  have hown : s.vm.findClass RX4 = some m.cls := hown
  have hl : lv_has ls 6 [(0, .ref h0), (1, .long 1), (3, .long 2)] := hl
  refine lv_lload_n hx hb dX4_scale_0 rfl (lv_at hl 2 rfl) ?_
  refine lv_lconst (v := 0) hx hb dX4_scale_1 (by decide) ?_
  refine W.lcmp hx hb dX4_scale_2 ?_
  refine ti (1) (by decide) ?_
  refine lv_if_gt (tgt := 7) hx hb dX4_scale_3 (by decide) (fun _ => ?_) (fun c9 => absurd (by decide) c9)
  refine lv_aload_n hx hb dX4_scale_7 rfl (lv_at hl 0 rfl) ?_
  refine va_get (D := D) (ci := 4) (v := .int 0) (C := RX4) (T := TX4) (N := 3) hx hb hg inX4 hown hK hP 0 rfl rfl 1 (by decide) (hg _ k210) (fun _ h9 => h9) rfl dX4_scale_8 ?_
  refine lv_iconst (v := 1) hx hb dX4_scale_11 (by decide) ?_
  refine lv_icmp_gt (tgt := 30) hx hb dX4_scale_12 (by decide) (fun c9 => absurd c9 (by decide)) (fun _ => ?_)
  refine lv_aload_n hx hb dX4_scale_15 rfl (lv_at hl 0 rfl) ?_
  refine lv_aload_n hx hb dX4_scale_16 rfl (lv_at hl 0 rfl) ?_
  refine cVl (n := 0) (As := []) (rest := [.ref h0]) (wr := [(h0, .inr (4, [.ref h1, .int 0, .int 0])), (h1, .inl (a0, 2, .inl f0))]) (tr := [(a0, .int)]) hx hb hml hown hg okN (cX4_lowest_390 l D h0 h1 (.int 0) f0 a0 ef0_0) (mwV k344 k346 k0 k88 k347) ⟨rfl, by decide, by decide, by decide +kernel⟩ ⟨rfl, rfl, (Nat.le_of_ble_eq_true rfl), (Nat.le_of_ble_eq_true rfl)⟩ hP hD hK hS xn [0, 1] [] [0, 1] [0] [0] rfl (by decide) rfl rfl (by decide) (by decide) rfl rfl (aNil hA hS) (aNil hA hS) 0 rfl rfl rfl hl.1 rfl (Nat.le_of_ble_eq_true rfl) dX4_scale_17 ⟨(Nat.le_of_ble_eq_true rfl), (Nat.le_of_ble_eq_true rfl)⟩ (fun u H locs hφ hP hD hK hS hk => ?_)
  have hP : va_P D vwCl [(h0, .inr (4, [.ref h1, .int 0, .int 0])), (h1, .inl (a0, 2, .inl f0))] H := hP
  have hD : va_D A [(h0, .inr (4, [.ref h1, .int 0, .int 0])), (h1, .inl (a0, 2, .inl f0))] := hD
  have hK : va_K D vwCl [(a0, .int)] s := hK
  refine W.widen (k := 0) (n := 0) (Nat.le_of_ble_eq_true rfl) (Nat.le_of_ble_eq_true rfl) ?_
  refine lv_lload_n hx hb dX4_scale_20 rfl (lv_at hl 1 rfl) ?_
  refine lv_lmul hx hb dX4_scale_21 ?_
  refine tl (0) (by decide) ?_
  refine lv_lload_n hx hb dX4_scale_22 rfl (lv_at hl 2 rfl) ?_
  refine cTl (n := 2) (As := [.long 0, .long 2]) (rest := [.ref h0]) (wr := [(h0, .inr (4, [.ref h1, .int 0, .int 0])), (h1, .inl (a0, 2, .inl f0))]) (tr := [(a0, .int)]) hx hb hml hown hg okN (cJ9_floorDiv_f86c9_411 l D) (mwI k557) ⟨by decide, by decide, by decide +kernel⟩ k90 k555 k556 ⟨rfl, rfl, (Nat.le_of_ble_eq_true rfl), (Nat.le_of_ble_eq_true rfl)⟩ hP hD hK hS xn [] [] [0, 1] [] [0] rfl (by decide) rfl rfl (by decide) (by decide) rfl rfl (aNil hA hS) (aNil hA hS) rfl hl.1 rfl (Nat.le_of_ble_eq_true rfl) dX4_scale_23 ⟨(Nat.le_of_ble_eq_true rfl), (Nat.le_of_ble_eq_true rfl)⟩ (fun u H locs hφ hP hD hK hS hk => ?_)
  have hP : va_P D vwCl [(h0, .inr (4, [.ref h1, .int 0, .int 0])), (h1, .inl (a0, 2, .inl f0))] H := hP
  have hD : va_D A [(h0, .inr (4, [.ref h1, .int 0, .int 0])), (h1, .inl (a0, 2, .inl f0))] := hD
  have hK : va_K D vwCl [(a0, .int)] s := hK
  refine W.widen (k := 0) (n := 0) (Nat.le_of_ble_eq_true rfl) (Nat.le_of_ble_eq_true rfl) ?_
  refine cVv (n := 1) (As := [.long 0]) (rest := []) (wr := []) (tr := []) hx hb hml hown hg okN (cX4_become_391 l D h0 h1 (.int 0) (.int 0) f0 a0) (mwV k349 k275 k276 k88 k277) ⟨rfl, by decide, by decide, by decide +kernel⟩ ⟨rfl, rfl, (Nat.le_of_ble_eq_true rfl), (Nat.le_of_ble_eq_true rfl)⟩ hP hD hK hS xn [0, 1] [0, 1] [] [0] [] rfl (by decide) rfl rfl (by decide) (by decide) rfl rfl (va_free hD hS hA [0, 1] rfl) (va_free hD hS hA [0, 1] rfl) 0 rfl rfl rfl hl.1 rfl (Nat.le_of_ble_eq_true rfl) dX4_scale_26 ⟨(Nat.le_of_ble_eq_true rfl), (Nat.le_of_ble_eq_true rfl)⟩ (fun u H locs hφ hP hD hK hS hk => ?_)
  have hP : va_P D vwCl [(h0, .inr (4, [.ref h1, .int 0, .int 0])), (h1, .inl (a0, 2, .inl (upd (upd f0 0 0) 1 0)))] H := hP
  have hD : va_D A [(h0, .inr (4, [.ref h1, .int 0, .int 0])), (h1, .inl (a0, 2, .inl (upd (upd f0 0 0) 1 0)))] := hD
  have hK : va_K D vwCl [(a0, .int)] s := hK
  refine W.widen (k := 0) (n := 0) (Nat.le_of_ble_eq_true rfl) (Nat.le_of_ble_eq_true rfl) ?_
  exact fv hx hb hr hlocks hP hD hK hS (()) trivial [0, 1] [0] rfl (by decide) rfl (Nat.le_of_ble_eq_true rfl) (Nat.le_of_ble_eq_true rfl) dX4_scale_29
set_option maxHeartbeats 4000000 in
set_option maxRecDepth 100000 in
theorem cX1_integralBy_409 (l : Launch) (D : va_G) (h0 : Nat) (h1 : Nat) (h2 : Nat) (h3 : Nat) (h4 : Nat) (v0 : Value) (v1 : Value) (v2 : Value) (v3 : Value) (v4 : Value) (v5 : Value) (v6 : Value) (v7 : Value) (v8 : Value) (v9 : Value) (v10 : Value) (v11 : Value) (v12 : Value) (f0 : Nat → Int32) (f1 : Nat → Int32) (a0 : ClassId) (a1 : ClassId) (ef0_0 : f0 0 = 0)  : CT l yX1_integralBy cX1_integralBy 3 (some (.object "LiftingSignal$Whole")) { frames := 2, cells := 0, slots := 0, locals := 50 } [.ref h0, .long 2] D [(h0, .inr (1, [v0, v1, v2, v3, v4, v5, .ref h2, v6, v7, v8, v9, v10, .ref h1])), (h1, .inr (4, [.ref h4, v11, v12])), (h2, .inr (4, [.ref h3, .int 0, .int 0])), (h3, .inl (a0, 2, .inl f0)), (h4, .inl (a1, 2, .inl f1))] [(a0, .int), (a1, .int)] XN [(h0, .inr (1, [v0, v1, v2, v3, v4, v5, .ref h2, v6, v7, v8, v9, v10, .ref h1])), (h1, .inr (4, [.ref h4, v11, v12])), (h2, .inr (4, [.ref h3, .int 0, .int 0])), (h3, .inl (a0, 2, .inl f0)), (h4, .inl (a1, 2, .inl f1))] (er (fun _ : Unit => True) (fun u => h1) (fun _ => [(h0, .inr (1, [v0, v1, v2, v3, v4, v5, .ref h2, v6, v7, v8, v9, v10, .ref h1])), (h1, .inr (4, [.ref h4, .int 0, .int 0])), (h2, .inr (4, [.ref h3, .int 0, .int 0])), (h3, .inl (a0, 2, .inl f0)), (h4, .inl (a1, 2, .inl (upd (upd (upd f1 0 0) 0 0) 1 0)))]) (fun u => [(a0, .int), (a1, .int)]) D) 0 0 := by
  refine CT.ofW (by decide +kernel) (Nat.le_of_ble_eq_true rfl) ?_
  intro p e s m below meth c A ls hcs hP hK hD hX hA hS hl
  obtain ⟨hx, hb, hr, hml, hown, hg, hlocks, hin⟩ := hcs
  have hown : s.vm.findClass RX1 = some m.cls := hown
  have hl : lv_has ls 3 [(0, .ref h0), (1, .long 2)] := hl
  refine lv_aload_n hx hb dX1_integralBy_0 rfl (lv_at hl 0 rfl) ?_
  refine va_get (D := D) (ci := 1) (v := .ref h1) (C := RX1) (T := TX1) (N := 13) hx hb hg inX1 hown hK hP 0 rfl rfl 12 (by decide) (hg _ k299) (fun _ h9 => h9) rfl dX1_integralBy_1 ?_
  refine lv_aload_n hx hb dX1_integralBy_4 rfl (lv_at hl 0 rfl) ?_
  refine va_get (D := D) (ci := 1) (v := .ref h2) (C := RX1) (T := TX1) (N := 13) hx hb hg inX1 hown hK hP 0 rfl rfl 6 (by decide) (hg _ k289) (fun _ h9 => h9) rfl dX1_integralBy_5 ?_
  refine cVv (n := 1) (As := [.ref h2]) (rest := []) (wr := [(h0, .inr (1, [v0, v1, v2, v3, v4, v5, .ref h2, v6, v7, v8, v9, v10, .ref h1]))]) (tr := []) hx hb hml hown hg okN (cX4_copyFrom_388 l D h1 h2 h3 h4 v11 v12 f0 f1 a0 a1 ef0_0) (mwV k455 k456 k457 k88 k458) ⟨rfl, by decide, by decide, by decide +kernel⟩ ⟨rfl, rfl, (Nat.le_of_ble_eq_true rfl), (Nat.le_of_ble_eq_true rfl)⟩ hP hD hK hS xn [1, 2, 3, 4] [1, 2, 3, 4] [0] [0, 1] [] rfl (by decide) rfl rfl (by decide) (by decide) rfl rfl (va_free hD hS hA [1, 2, 3, 4] rfl) (va_free hD hS hA [1, 2, 3, 4] rfl) 1 rfl rfl rfl hl.1 rfl (Nat.le_of_ble_eq_true rfl) dX1_integralBy_8 ⟨(Nat.le_of_ble_eq_true rfl), (Nat.le_of_ble_eq_true rfl)⟩ (fun u H locs hφ hP hD hK hS hk => ?_)
  have hP : va_P D vwCl [(h0, .inr (1, [v0, v1, v2, v3, v4, v5, .ref h2, v6, v7, v8, v9, v10, .ref h1])), (h1, .inr (4, [.ref h4, .int 0, .int 0])), (h2, .inr (4, [.ref h3, .int 0, .int 0])), (h3, .inl (a0, 2, .inl f0)), (h4, .inl (a1, 2, .inl (upd f1 0 0)))] H := hP
  have hD : va_D A [(h0, .inr (1, [v0, v1, v2, v3, v4, v5, .ref h2, v6, v7, v8, v9, v10, .ref h1])), (h1, .inr (4, [.ref h4, .int 0, .int 0])), (h2, .inr (4, [.ref h3, .int 0, .int 0])), (h3, .inl (a0, 2, .inl f0)), (h4, .inl (a1, 2, .inl (upd f1 0 0)))] := hD
  have hK : va_K D vwCl [(a0, .int), (a1, .int)] s := hK
  refine W.widen (k := 0) (n := 0) (Nat.le_of_ble_eq_true rfl) (Nat.le_of_ble_eq_true rfl) ?_
  refine lv_aload_n hx hb dX1_integralBy_11 rfl (lv_at hl 0 rfl) ?_
  refine va_get (D := D) (ci := 1) (v := .ref h1) (C := RX1) (T := TX1) (N := 13) hx hb hg inX1 hown hK hP 0 rfl rfl 12 (by decide) (hg _ k299) (fun _ h9 => h9) rfl dX1_integralBy_12 ?_
  refine lv_lconst (v := 1) hx hb dX1_integralBy_15 (by decide) ?_
  refine lv_lload_n hx hb dX1_integralBy_16 rfl (lv_at hl 1 rfl) ?_
  refine cVv (n := 2) (As := [.long 1, .long 2]) (rest := []) (wr := [(h0, .inr (1, [v0, v1, v2, v3, v4, v5, .ref h2, v6, v7, v8, v9, v10, .ref h1])), (h2, .inr (4, [.ref h3, .int 0, .int 0])), (h3, .inl (a0, 2, .inl f0))]) (tr := [(a0, .int)]) hx hb hml hown hg okN (cX4_scale_410 l D h1 h4 (upd f1 0 0) a1 rfl) (mwV k551 k552 k553 k88 k554) ⟨rfl, by decide, by decide, by decide +kernel⟩ ⟨rfl, rfl, (Nat.le_of_ble_eq_true rfl), (Nat.le_of_ble_eq_true rfl)⟩ hP hD hK hS xn [1, 4] [1, 4] [0, 2, 3] [1] [0] rfl (by decide) rfl rfl (by decide) (by decide) rfl rfl (va_free hD hS hA [1, 4] rfl) (va_free hD hS hA [1, 4] rfl) 1 rfl rfl rfl hl.1 rfl (Nat.le_of_ble_eq_true rfl) dX1_integralBy_17 ⟨(Nat.le_of_ble_eq_true rfl), (Nat.le_of_ble_eq_true rfl)⟩ (fun u H locs hφ hP hD hK hS hk => ?_)
  have hP : va_P D vwCl [(h0, .inr (1, [v0, v1, v2, v3, v4, v5, .ref h2, v6, v7, v8, v9, v10, .ref h1])), (h2, .inr (4, [.ref h3, .int 0, .int 0])), (h3, .inl (a0, 2, .inl f0)), (h1, .inr (4, [.ref h4, .int 0, .int 0])), (h4, .inl (a1, 2, .inl (upd (upd (upd f1 0 0) 0 0) 1 0)))] H := hP
  have hD : va_D A [(h0, .inr (1, [v0, v1, v2, v3, v4, v5, .ref h2, v6, v7, v8, v9, v10, .ref h1])), (h2, .inr (4, [.ref h3, .int 0, .int 0])), (h3, .inl (a0, 2, .inl f0)), (h1, .inr (4, [.ref h4, .int 0, .int 0])), (h4, .inl (a1, 2, .inl (upd (upd (upd f1 0 0) 0 0) 1 0)))] := hD
  have hK : va_K D vwCl [(a0, .int), (a1, .int)] s := hK
  refine W.widen (k := 0) (n := 0) (Nat.le_of_ble_eq_true rfl) (Nat.le_of_ble_eq_true rfl) ?_
  refine lv_aload_n hx hb dX1_integralBy_20 rfl (lv_at hl 0 rfl) ?_
  refine va_get (D := D) (ci := 1) (v := .ref h1) (C := RX1) (T := TX1) (N := 13) hx hb hg inX1 hown hK hP 0 rfl rfl 12 (by decide) (hg _ k299) (fun _ h9 => h9) rfl dX1_integralBy_21 ?_
  exact fr rfl hx hb hr hlocks hP hD hK hS (()) trivial rfl [0, 3, 1, 2, 4] [0, 1] rfl (by decide) rfl (Nat.le_of_ble_eq_true rfl) (Nat.le_of_ble_eq_true rfl) dX1_integralBy_24
set_option maxHeartbeats 4000000 in
set_option maxRecDepth 100000 in
theorem cX5_mean_405 (l : Launch) (D : va_G) (h0 : Nat) (h1 : Nat) (h2 : Nat) (h3 : Nat) (h4 : Nat) (h5 : Nat) (h6 : Nat) (h7 : Nat) (h8 : Nat) (v0 : Value) (v1 : Value) (v2 : Value) (v3 : Value) (v4 : Value) (v5 : Value) (v6 : Value) (v7 : Value) (v8 : Value) (v9 : Value) (v10 : Value) (v11 : Value) (v12 : Value) (v13 : Value) (v14 : Value) (v15 : Value) (v16 : Value) (v17 : Value) (v18 : Value) (v19 : Value) (v20 : Value) (v21 : Value) (v22 : Value) (f0 : Nat → Int32) (f1 : Nat → Int64) (v23 : Value) (v24 : Value) (f2 : Nat → Int32) (f3 : Nat → Int32) (a0 : ClassId) (a1 : ClassId) (a2 : ClassId) (a3 : ClassId) (ef0_0 : f0 0 = (-1)) (ef0_1 : f0 1 = (-1)) (ef1_0 : f1 0 = 1) (ef1_1 : f1 1 = 1) (ef2_0 : f2 0 = 0)  : CT l yX5_mean cX5_mean 6 (some .long) { frames := 3, cells := 0, slots := 0, locals := 72 } [.ref h0, .int 0] D [(h0, .inr (5, [v0, v1, v2, .ref h1, v3, v4, v5, v6, v7, v8])), (h1, .inr (1, [.ref h2, v9, .ref h4, .ref h3, v10, v11, .ref h5, v12, v13, v14, v15, v16, .ref h6])), (h2, .inr (0, [v17, v18, .int 2, v19, v20, v21, v22])), (h3, .inl (a0, 48, .inl f0)), (h4, .inl (a1, 48, .inr (.inl f1))), (h5, .inr (4, [.ref h7, .int 0, .int 0])), (h6, .inr (4, [.ref h8, v23, v24])), (h7, .inl (a2, 2, .inl f2)), (h8, .inl (a3, 2, .inl f3))] [(a0, .int), (a1, .long), (a2, .int), (a3, .int)] XN [(h0, .inr (5, [v0, v1, v2, .ref h1, v3, v4, v5, v6, v7, v8])), (h1, .inr (1, [.ref h2, v9, .ref h4, .ref h3, v10, v11, .ref h5, v12, v13, v14, v15, v16, .ref h6])), (h2, .inr (0, [v17, v18, .int 2, v19, v20, v21, v22])), (h3, .inl (a0, 48, .inl f0)), (h4, .inl (a1, 48, .inr (.inl f1))), (h5, .inr (4, [.ref h7, .int 0, .int 0])), (h6, .inr (4, [.ref h8, v23, v24])), (h7, .inl (a2, 2, .inl f2)), (h8, .inl (a3, 2, .inl f3))] (el (fun _ : Unit => True) (fun u => 0) (fun _ => [(h0, .inr (5, [v0, v1, v2, .ref h1, v3, v4, v5, v6, v7, v8])), (h1, .inr (1, [.ref h2, v9, .ref h4, .ref h3, v10, v11, .ref h5, v12, v13, v14, v15, v16, .ref h6])), (h2, .inr (0, [v17, v18, .int 2, v19, v20, v21, v22])), (h3, .inl (a0, 48, .inl f0)), (h4, .inl (a1, 48, .inr (.inl f1))), (h5, .inr (4, [.ref h7, .int 0, .int 0])), (h6, .inr (4, [.ref h8, .int 0, .int 0])), (h7, .inl (a2, 2, .inl f2)), (h8, .inl (a3, 2, .inl (upd (upd (upd f3 0 0) 0 0) 1 0)))]) (fun u => [(a0, .int), (a1, .long), (a2, .int), (a3, .int)]) D) 0 0 := by
  refine CT.ofW (by decide +kernel) (Nat.le_of_ble_eq_true rfl) ?_
  intro p e s m below meth c A ls hcs hP hK hD hX hA hS hl
  obtain ⟨hx, hb, hr, hml, hown, hg, hlocks, hin⟩ := hcs
  have hown : s.vm.findClass RX5 = some m.cls := hown
  have hl : lv_has ls 6 [(0, .ref h0), (1, .int 0)] := hl
  refine lv_iload_n hx hb dX5_mean_0 rfl (lv_at hl 1 rfl) ?_
  refine lv_iconst (v := 0) hx hb dX5_mean_1 (by decide) ?_
  refine lv_iconst (v := 1) hx hb dX5_mean_2 (by decide) ?_
  refine cSv (n := 3) (As := [.int 0, .int 0, .int 1]) (rest := []) (wr := [(h0, .inr (5, [v0, v1, v2, .ref h1, v3, v4, v5, v6, v7, v8])), (h1, .inr (1, [.ref h2, v9, .ref h4, .ref h3, v10, v11, .ref h5, v12, v13, v14, v15, v16, .ref h6])), (h2, .inr (0, [v17, v18, .int 2, v19, v20, v21, v22])), (h3, .inl (a0, 48, .inl f0)), (h4, .inl (a1, 48, .inr (.inl f1))), (h5, .inr (4, [.ref h7, .int 0, .int 0])), (h6, .inr (4, [.ref h8, v23, v24])), (h7, .inl (a2, 2, .inl f2)), (h8, .inl (a3, 2, .inl f3))]) (tr := [(a0, .int), (a1, .long), (a2, .int), (a3, .int)]) hx hb hml hown hg okN (cX5_needRange_406 l D) (mwS k909 k910 k84 k911) ⟨rfl, by decide, by decide, by decide +kernel⟩ ⟨rfl, rfl, (Nat.le_of_ble_eq_true rfl), (Nat.le_of_ble_eq_true rfl)⟩ hP hD hK hS xn [] [] [0, 1, 2, 3, 4, 5, 6, 7, 8] [] [0, 1, 2, 3] rfl (by decide) rfl rfl (by decide) (by decide) rfl rfl (aNil hA hS) (aNil hA hS) rfl hl.1 rfl (Nat.le_of_ble_eq_true rfl) dX5_mean_3 ⟨(Nat.le_of_ble_eq_true rfl), (Nat.le_of_ble_eq_true rfl)⟩ (fun u H locs hφ hP hD hK hS hk => ?_)
  have hP : va_P D vwCl [(h0, .inr (5, [v0, v1, v2, .ref h1, v3, v4, v5, v6, v7, v8])), (h1, .inr (1, [.ref h2, v9, .ref h4, .ref h3, v10, v11, .ref h5, v12, v13, v14, v15, v16, .ref h6])), (h2, .inr (0, [v17, v18, .int 2, v19, v20, v21, v22])), (h3, .inl (a0, 48, .inl f0)), (h4, .inl (a1, 48, .inr (.inl f1))), (h5, .inr (4, [.ref h7, .int 0, .int 0])), (h6, .inr (4, [.ref h8, v23, v24])), (h7, .inl (a2, 2, .inl f2)), (h8, .inl (a3, 2, .inl f3))] H := hP
  have hD : va_D A [(h0, .inr (5, [v0, v1, v2, .ref h1, v3, v4, v5, v6, v7, v8])), (h1, .inr (1, [.ref h2, v9, .ref h4, .ref h3, v10, v11, .ref h5, v12, v13, v14, v15, v16, .ref h6])), (h2, .inr (0, [v17, v18, .int 2, v19, v20, v21, v22])), (h3, .inl (a0, 48, .inl f0)), (h4, .inl (a1, 48, .inr (.inl f1))), (h5, .inr (4, [.ref h7, .int 0, .int 0])), (h6, .inr (4, [.ref h8, v23, v24])), (h7, .inl (a2, 2, .inl f2)), (h8, .inl (a3, 2, .inl f3))] := hD
  have hK : va_K D vwCl [(a0, .int), (a1, .long), (a2, .int), (a3, .int)] s := hK
  refine W.widen (k := 0) (n := 0) (Nat.le_of_ble_eq_true rfl) (Nat.le_of_ble_eq_true rfl) ?_
  refine lv_aload_n hx hb dX5_mean_6 rfl (lv_at hl 0 rfl) ?_
  refine va_get (D := D) (ci := 5) (v := .ref h1) (C := RX5) (T := TX5) (N := 10) hx hb hg inX5 hown hK hP 0 rfl rfl 3 (by decide) (hg _ k382) (fun _ h9 => h9) rfl dX5_mean_7 ?_
  refine cVl (n := 0) (As := []) (rest := []) (wr := [(h0, .inr (5, [v0, v1, v2, .ref h1, v3, v4, v5, v6, v7, v8])), (h1, .inr (1, [.ref h2, v9, .ref h4, .ref h3, v10, v11, .ref h5, v12, v13, v14, v15, v16, .ref h6])), (h2, .inr (0, [v17, v18, .int 2, v19, v20, v21, v22])), (h3, .inl (a0, 48, .inl f0)), (h4, .inl (a1, 48, .inr (.inl f1))), (h5, .inr (4, [.ref h7, .int 0, .int 0])), (h6, .inr (4, [.ref h8, v23, v24])), (h7, .inl (a2, 2, .inl f2)), (h8, .inl (a3, 2, .inl f3))]) (tr := [(a0, .int), (a1, .long), (a2, .int), (a3, .int)]) hx hb hml hown hg okN (cX1_weightSum_335 l D h1 h2 h3 h4 v9 v10 v11 (.ref h5) v12 v13 v14 v15 v16 (.ref h6) v17 v18 v19 v20 v21 v22 f0 f1 a0 a1 ef0_0 ef0_1 ef1_0 ef1_1) (mwV k849 k850 k851 k87 k852) ⟨rfl, by decide, by decide, by decide +kernel⟩ ⟨rfl, rfl, (Nat.le_of_ble_eq_true rfl), (Nat.le_of_ble_eq_true rfl)⟩ hP hD hK hS xn [1, 2, 3, 4] [] [0, 1, 2, 3, 4, 5, 6, 7, 8] [0, 1] [0, 1, 2, 3] rfl (by decide) rfl rfl (by decide) (by decide) rfl rfl (aNil hA hS) (aNil hA hS) 1 rfl rfl rfl hl.1 rfl (Nat.le_of_ble_eq_true rfl) dX5_mean_10 ⟨(Nat.le_of_ble_eq_true rfl), (Nat.le_of_ble_eq_true rfl)⟩ (fun u H locs hφ hP hD hK hS hk => ?_)
  have hP : va_P D vwCl [(h0, .inr (5, [v0, v1, v2, .ref h1, v3, v4, v5, v6, v7, v8])), (h1, .inr (1, [.ref h2, v9, .ref h4, .ref h3, v10, v11, .ref h5, v12, v13, v14, v15, v16, .ref h6])), (h2, .inr (0, [v17, v18, .int 2, v19, v20, v21, v22])), (h3, .inl (a0, 48, .inl f0)), (h4, .inl (a1, 48, .inr (.inl f1))), (h5, .inr (4, [.ref h7, .int 0, .int 0])), (h6, .inr (4, [.ref h8, v23, v24])), (h7, .inl (a2, 2, .inl f2)), (h8, .inl (a3, 2, .inl f3))] H := hP
  have hD : va_D A [(h0, .inr (5, [v0, v1, v2, .ref h1, v3, v4, v5, v6, v7, v8])), (h1, .inr (1, [.ref h2, v9, .ref h4, .ref h3, v10, v11, .ref h5, v12, v13, v14, v15, v16, .ref h6])), (h2, .inr (0, [v17, v18, .int 2, v19, v20, v21, v22])), (h3, .inl (a0, 48, .inl f0)), (h4, .inl (a1, 48, .inr (.inl f1))), (h5, .inr (4, [.ref h7, .int 0, .int 0])), (h6, .inr (4, [.ref h8, v23, v24])), (h7, .inl (a2, 2, .inl f2)), (h8, .inl (a3, 2, .inl f3))] := hD
  have hK : va_K D vwCl [(a0, .int), (a1, .long), (a2, .int), (a3, .int)] s := hK
  refine W.widen (k := 0) (n := 0) (Nat.le_of_ble_eq_true rfl) (Nat.le_of_ble_eq_true rfl) ?_
  refine lv_lstore_n (lv' := [(2, .long 2), (0, .ref h0), (1, .int 0)]) hx hb dX5_mean_13 rfl hl (by decide) rfl (fun ls hl => ?_)
  refine lv_lload_n hx hb dX5_mean_14 rfl (lv_at hl 0 rfl) ?_
  refine lv_aload_n hx hb dX5_mean_15 rfl (lv_at hl 1 rfl) ?_
  refine va_get (D := D) (ci := 5) (v := .ref h1) (C := RX5) (T := TX5) (N := 10) hx hb hg inX5 hown hK hP 0 rfl rfl 3 (by decide) (hg _ k382) (fun _ h9 => h9) rfl dX5_mean_16 ?_
  refine va_get (D := D) (ci := 1) (v := .ref h5) (C := RX1) (T := TX1) (N := 13) hx hb hg inX1 hown hK hP 1 rfl rfl 6 (by decide) (hg _ k290) (fun _ h9 => h9) rfl dX5_mean_19 ?_
  refine lv_lload_n hx hb dX5_mean_22 rfl (lv_at hl 0 rfl) ?_
  refine cVl (n := 1) (As := [.long 2]) (rest := [.long 2]) (wr := [(h0, .inr (5, [v0, v1, v2, .ref h1, v3, v4, v5, v6, v7, v8])), (h1, .inr (1, [.ref h2, v9, .ref h4, .ref h3, v10, v11, .ref h5, v12, v13, v14, v15, v16, .ref h6])), (h2, .inr (0, [v17, v18, .int 2, v19, v20, v21, v22])), (h3, .inl (a0, 48, .inl f0)), (h4, .inl (a1, 48, .inr (.inl f1))), (h5, .inr (4, [.ref h7, .int 0, .int 0])), (h6, .inr (4, [.ref h8, v23, v24])), (h7, .inl (a2, 2, .inl f2)), (h8, .inl (a3, 2, .inl f3))]) (tr := [(a0, .int), (a1, .long), (a2, .int), (a3, .int)]) hx hb hml hown hg okN (cX4_restOfAmount_407 l D h5 (.ref h7) (.int 0)) (mwV k913 k914 k915 k88 k916) ⟨rfl, by decide, by decide, by decide +kernel⟩ ⟨rfl, rfl, (Nat.le_of_ble_eq_true rfl), (Nat.le_of_ble_eq_true rfl)⟩ hP hD hK hS xn [5] [] [0, 1, 2, 3, 4, 5, 6, 7, 8] [] [0, 1, 2, 3] rfl (by decide) rfl rfl (by decide) (by decide) rfl rfl (aNil hA hS) (aNil hA hS) 5 rfl rfl rfl hl.1 rfl (Nat.le_of_ble_eq_true rfl) dX5_mean_23 ⟨(Nat.le_of_ble_eq_true rfl), (Nat.le_of_ble_eq_true rfl)⟩ (fun u H locs hφ hP hD hK hS hk => ?_)
  have hP : va_P D vwCl [(h0, .inr (5, [v0, v1, v2, .ref h1, v3, v4, v5, v6, v7, v8])), (h1, .inr (1, [.ref h2, v9, .ref h4, .ref h3, v10, v11, .ref h5, v12, v13, v14, v15, v16, .ref h6])), (h2, .inr (0, [v17, v18, .int 2, v19, v20, v21, v22])), (h3, .inl (a0, 48, .inl f0)), (h4, .inl (a1, 48, .inr (.inl f1))), (h5, .inr (4, [.ref h7, .int 0, .int 0])), (h6, .inr (4, [.ref h8, v23, v24])), (h7, .inl (a2, 2, .inl f2)), (h8, .inl (a3, 2, .inl f3))] H := hP
  have hD : va_D A [(h0, .inr (5, [v0, v1, v2, .ref h1, v3, v4, v5, v6, v7, v8])), (h1, .inr (1, [.ref h2, v9, .ref h4, .ref h3, v10, v11, .ref h5, v12, v13, v14, v15, v16, .ref h6])), (h2, .inr (0, [v17, v18, .int 2, v19, v20, v21, v22])), (h3, .inl (a0, 48, .inl f0)), (h4, .inl (a1, 48, .inr (.inl f1))), (h5, .inr (4, [.ref h7, .int 0, .int 0])), (h6, .inr (4, [.ref h8, v23, v24])), (h7, .inl (a2, 2, .inl f2)), (h8, .inl (a3, 2, .inl f3))] := hD
  have hK : va_K D vwCl [(a0, .int), (a1, .long), (a2, .int), (a3, .int)] s := hK
  refine W.widen (k := 0) (n := 0) (Nat.le_of_ble_eq_true rfl) (Nat.le_of_ble_eq_true rfl) ?_
  refine cSl (n := 2) (As := [.long 2, .long 0]) (rest := []) (wr := [(h0, .inr (5, [v0, v1, v2, .ref h1, v3, v4, v5, v6, v7, v8])), (h1, .inr (1, [.ref h2, v9, .ref h4, .ref h3, v10, v11, .ref h5, v12, v13, v14, v15, v16, .ref h6])), (h2, .inr (0, [v17, v18, .int 2, v19, v20, v21, v22])), (h3, .inl (a0, 48, .inl f0)), (h4, .inl (a1, 48, .inr (.inl f1))), (h5, .inr (4, [.ref h7, .int 0, .int 0])), (h6, .inr (4, [.ref h8, v23, v24])), (h7, .inl (a2, 2, .inl f2)), (h8, .inl (a3, 2, .inl f3))]) (tr := [(a0, .int), (a1, .long), (a2, .int), (a3, .int)]) hx hb hml hown hg okN (cX5_commonDivisor_408 l D) (mwS k917 k918 k84 k919) ⟨rfl, by decide, by decide, by decide +kernel⟩ ⟨rfl, rfl, (Nat.le_of_ble_eq_true rfl), (Nat.le_of_ble_eq_true rfl)⟩ hP hD hK hS xn [] [] [0, 1, 2, 3, 4, 5, 6, 7, 8] [] [0, 1, 2, 3] rfl (by decide) rfl rfl (by decide) (by decide) rfl rfl (aNil hA hS) (aNil hA hS) rfl hl.1 rfl (Nat.le_of_ble_eq_true rfl) dX5_mean_26 ⟨(Nat.le_of_ble_eq_true rfl), (Nat.le_of_ble_eq_true rfl)⟩ (fun u H locs hφ hP hD hK hS hk => ?_)
  have hP : va_P D vwCl [(h0, .inr (5, [v0, v1, v2, .ref h1, v3, v4, v5, v6, v7, v8])), (h1, .inr (1, [.ref h2, v9, .ref h4, .ref h3, v10, v11, .ref h5, v12, v13, v14, v15, v16, .ref h6])), (h2, .inr (0, [v17, v18, .int 2, v19, v20, v21, v22])), (h3, .inl (a0, 48, .inl f0)), (h4, .inl (a1, 48, .inr (.inl f1))), (h5, .inr (4, [.ref h7, .int 0, .int 0])), (h6, .inr (4, [.ref h8, v23, v24])), (h7, .inl (a2, 2, .inl f2)), (h8, .inl (a3, 2, .inl f3))] H := hP
  have hD : va_D A [(h0, .inr (5, [v0, v1, v2, .ref h1, v3, v4, v5, v6, v7, v8])), (h1, .inr (1, [.ref h2, v9, .ref h4, .ref h3, v10, v11, .ref h5, v12, v13, v14, v15, v16, .ref h6])), (h2, .inr (0, [v17, v18, .int 2, v19, v20, v21, v22])), (h3, .inl (a0, 48, .inl f0)), (h4, .inl (a1, 48, .inr (.inl f1))), (h5, .inr (4, [.ref h7, .int 0, .int 0])), (h6, .inr (4, [.ref h8, v23, v24])), (h7, .inl (a2, 2, .inl f2)), (h8, .inl (a3, 2, .inl f3))] := hD
  have hK : va_K D vwCl [(a0, .int), (a1, .long), (a2, .int), (a3, .int)] s := hK
  refine W.widen (k := 0) (n := 0) (Nat.le_of_ble_eq_true rfl) (Nat.le_of_ble_eq_true rfl) ?_
  refine lv_lstore (lv' := [(4, .long 2), (2, .long 2), (0, .ref h0), (1, .int 0)]) hx hb dX5_mean_29 hl (by decide) rfl (fun ls hl => ?_)
  refine lv_iload_n hx hb dX5_mean_31 rfl (lv_at hl 3 rfl) ?_
  refine lv_if_ne (tgt := 50) hx hb dX5_mean_32 (by decide) (fun c9 => absurd (by decide) c9) (fun _ => ?_)
  refine lv_aload_n hx hb dX5_mean_35 rfl (lv_at hl 2 rfl) ?_
  refine va_get (D := D) (ci := 5) (v := .ref h1) (C := RX5) (T := TX5) (N := 10) hx hb hg inX5 hown hK hP 0 rfl rfl 3 (by decide) (hg _ k382) (fun _ h9 => h9) rfl dX5_mean_36 ?_
  refine lv_lload hx hb dX5_mean_39 (lv_at hl 0 rfl) ?_
  refine cVr (n := 1) (As := [.long 2]) (rest := []) (wr := [(h0, .inr (5, [v0, v1, v2, .ref h1, v3, v4, v5, v6, v7, v8])), (h2, .inr (0, [v17, v18, .int 2, v19, v20, v21, v22])), (h3, .inl (a0, 48, .inl f0)), (h4, .inl (a1, 48, .inr (.inl f1)))]) (tr := [(a0, .int), (a1, .long)]) hx hb hml hown hg okN (cX1_integralBy_409 l D h1 h6 h5 h7 h8 (.ref h2) v9 (.ref h4) (.ref h3) v10 v11 v12 v13 v14 v15 v16 v23 v24 f2 f3 a2 a3 ef2_0) (mwV k923 k924 k925 k87 k926) ⟨rfl, by decide, by decide, by decide +kernel⟩ ⟨rfl, rfl, (Nat.le_of_ble_eq_true rfl), (Nat.le_of_ble_eq_true rfl)⟩ hP hD hK hS xn [1, 6, 5, 7, 8] [1, 6, 5, 7, 8] [0, 2, 3, 4] [2, 3] [0, 1] rfl (by decide) rfl rfl (by decide) (by decide) rfl rfl (va_free hD hS hA [1, 6, 5, 7, 8] rfl) (va_free hD hS hA [1, 6, 5, 7, 8] rfl) 1 rfl rfl rfl hl.1 rfl (Nat.le_of_ble_eq_true rfl) dX5_mean_41 ⟨(Nat.le_of_ble_eq_true rfl), (Nat.le_of_ble_eq_true rfl)⟩ (fun u H locs hφ hP hD hK hS hk => ?_)
  have hP : va_P D vwCl [(h0, .inr (5, [v0, v1, v2, .ref h1, v3, v4, v5, v6, v7, v8])), (h2, .inr (0, [v17, v18, .int 2, v19, v20, v21, v22])), (h3, .inl (a0, 48, .inl f0)), (h4, .inl (a1, 48, .inr (.inl f1))), (h1, .inr (1, [.ref h2, v9, .ref h4, .ref h3, v10, v11, .ref h5, v12, v13, v14, v15, v16, .ref h6])), (h6, .inr (4, [.ref h8, .int 0, .int 0])), (h5, .inr (4, [.ref h7, .int 0, .int 0])), (h7, .inl (a2, 2, .inl f2)), (h8, .inl (a3, 2, .inl (upd (upd (upd f3 0 0) 0 0) 1 0)))] H := hP
  have hD : va_D A [(h0, .inr (5, [v0, v1, v2, .ref h1, v3, v4, v5, v6, v7, v8])), (h2, .inr (0, [v17, v18, .int 2, v19, v20, v21, v22])), (h3, .inl (a0, 48, .inl f0)), (h4, .inl (a1, 48, .inr (.inl f1))), (h1, .inr (1, [.ref h2, v9, .ref h4, .ref h3, v10, v11, .ref h5, v12, v13, v14, v15, v16, .ref h6])), (h6, .inr (4, [.ref h8, .int 0, .int 0])), (h5, .inr (4, [.ref h7, .int 0, .int 0])), (h7, .inl (a2, 2, .inl f2)), (h8, .inl (a3, 2, .inl (upd (upd (upd f3 0 0) 0 0) 1 0)))] := hD
  have hK : va_K D vwCl [(a0, .int), (a1, .long), (a2, .int), (a3, .int)] s := hK
  refine W.widen (k := 0) (n := 0) (Nat.le_of_ble_eq_true rfl) (Nat.le_of_ble_eq_true rfl) ?_
  refine cVl (n := 0) (As := []) (rest := []) (wr := [(h0, .inr (5, [v0, v1, v2, .ref h1, v3, v4, v5, v6, v7, v8])), (h2, .inr (0, [v17, v18, .int 2, v19, v20, v21, v22])), (h3, .inl (a0, 48, .inl f0)), (h4, .inl (a1, 48, .inr (.inl f1))), (h1, .inr (1, [.ref h2, v9, .ref h4, .ref h3, v10, v11, .ref h5, v12, v13, v14, v15, v16, .ref h6])), (h6, .inr (4, [.ref h8, .int 0, .int 0])), (h5, .inr (4, [.ref h7, .int 0, .int 0])), (h7, .inl (a2, 2, .inl f2)), (h8, .inl (a3, 2, .inl (upd (upd (upd f3 0 0) 0 0) 1 0)))]) (tr := [(a0, .int), (a1, .long), (a2, .int), (a3, .int)]) hx hb hml hown hg okN (cX4_toLong_348 l D h6 (.ref h8)) (mwV k435 k436 k437 k88 k438) ⟨rfl, by decide, by decide, by decide +kernel⟩ ⟨rfl, rfl, (Nat.le_of_ble_eq_true rfl), (Nat.le_of_ble_eq_true rfl)⟩ hP hD hK hS xn [5] [] [0, 1, 2, 3, 4, 5, 6, 7, 8] [] [0, 1, 2, 3] rfl (by decide) rfl rfl (by decide) (by decide) rfl rfl (aNil hA hS) (aNil hA hS) 5 rfl rfl rfl hl.1 rfl (Nat.le_of_ble_eq_true rfl) dX5_mean_44 ⟨(Nat.le_of_ble_eq_true rfl), (Nat.le_of_ble_eq_true rfl)⟩ (fun u H locs hφ hP hD hK hS hk => ?_)
  have hP : va_P D vwCl [(h0, .inr (5, [v0, v1, v2, .ref h1, v3, v4, v5, v6, v7, v8])), (h2, .inr (0, [v17, v18, .int 2, v19, v20, v21, v22])), (h3, .inl (a0, 48, .inl f0)), (h4, .inl (a1, 48, .inr (.inl f1))), (h1, .inr (1, [.ref h2, v9, .ref h4, .ref h3, v10, v11, .ref h5, v12, v13, v14, v15, v16, .ref h6])), (h6, .inr (4, [.ref h8, .int 0, .int 0])), (h5, .inr (4, [.ref h7, .int 0, .int 0])), (h7, .inl (a2, 2, .inl f2)), (h8, .inl (a3, 2, .inl (upd (upd (upd f3 0 0) 0 0) 1 0)))] H := hP
  have hD : va_D A [(h0, .inr (5, [v0, v1, v2, .ref h1, v3, v4, v5, v6, v7, v8])), (h2, .inr (0, [v17, v18, .int 2, v19, v20, v21, v22])), (h3, .inl (a0, 48, .inl f0)), (h4, .inl (a1, 48, .inr (.inl f1))), (h1, .inr (1, [.ref h2, v9, .ref h4, .ref h3, v10, v11, .ref h5, v12, v13, v14, v15, v16, .ref h6])), (h6, .inr (4, [.ref h8, .int 0, .int 0])), (h5, .inr (4, [.ref h7, .int 0, .int 0])), (h7, .inl (a2, 2, .inl f2)), (h8, .inl (a3, 2, .inl (upd (upd (upd f3 0 0) 0 0) 1 0)))] := hD
  have hK : va_K D vwCl [(a0, .int), (a1, .long), (a2, .int), (a3, .int)] s := hK
  refine W.widen (k := 0) (n := 0) (Nat.le_of_ble_eq_true rfl) (Nat.le_of_ble_eq_true rfl) ?_
  refine lv_goto (tgt := 54) hx hb dX5_mean_47 (by decide) ?_
  exact fl hx hb hr hlocks hP hD hK hS (()) trivial rfl [0, 4, 1, 2, 3, 6, 5, 7, 8] [0, 1, 2, 3] rfl (by decide) rfl (Nat.le_of_ble_eq_true rfl) (Nat.le_of_ble_eq_true rfl) dX5_mean_54
set_option maxHeartbeats 4000000 in
set_option maxRecDepth 100000 in
theorem cX5_needRange_413 (l : Launch) (D : va_G)    : CT l yX5_needRange cX5_needRange 3 none { frames := 0, cells := 0, slots := 0, locals := 0 } [.int 1, .int 0, .int 1] D [] [] XN [] (ev (fun _ : Unit => True) (fun _ => []) (fun _ => []) D) 0 0 := by
  refine CT.ofR (by decide +kernel) (Nat.le_of_ble_eq_true rfl) ?_
  intro p e s m below meth c A ls hcs hP hK hD hX hA hS hl
  obtain ⟨hx, hb, hr, hml, hown, hg, hlocks, hin⟩ := hcs
  have hown : s.vm.findClass RX5 = some m.cls := hown
  have hl : lv_has ls 3 [(0, .int 1), (1, .int 0), (2, .int 1)] := hl
  refine lv_iload_n hx hb dX5_needRange_0 rfl (lv_at hl 0 rfl) ?_
  refine lv_iload_n hx hb dX5_needRange_1 rfl (lv_at hl 1 rfl) ?_
  refine lv_icmp_lt (tgt := 10) hx hb dX5_needRange_2 (by decide) (fun c9 => absurd c9 (by decide)) (fun _ => ?_)
  refine lv_iload_n hx hb dX5_needRange_5 rfl (lv_at hl 0 rfl) ?_
  refine lv_iload_n hx hb dX5_needRange_6 rfl (lv_at hl 2 rfl) ?_
  refine lv_icmp_le (tgt := 21) hx hb dX5_needRange_7 (by decide) (fun _ => ?_) (fun c9 => absurd (by decide) c9)
  exact fv0 hx hb hr hlocks hK hS (Nat.le_of_ble_eq_true rfl) (Nat.le_of_ble_eq_true rfl) dX5_needRange_21
set_option maxHeartbeats 4000000 in
set_option maxRecDepth 100000 in
theorem cX5_mean_412 (l : Launch) (D : va_G) (h0 : Nat) (h1 : Nat) (h2 : Nat) (h3 : Nat) (h4 : Nat) (h5 : Nat) (v0 : Value) (v1 : Value) (v2 : Value) (v3 : Value) (v4 : Value) (v5 : Value) (v6 : Value) (v7 : Value) (v8 : Value) (v9 : Value) (v10 : Value) (v11 : Value) (v12 : Value) (v13 : Value) (v14 : Value) (v15 : Value) (v16 : Value) (v17 : Value) (v18 : Value) (v19 : Value) (v20 : Value) (v21 : Value) (v22 : Value) (v23 : Value) (f0 : Nat → Int32) (f1 : Nat → Int64) (v24 : Value) (v25 : Value) (a0 : ClassId) (a1 : ClassId) (ef0_0 : f0 0 = (-1)) (ef0_1 : f0 1 = (-1)) (ef1_0 : f1 0 = 1) (ef1_1 : f1 1 = 1)  : CT l yX5_mean cX5_mean 6 (some .long) { frames := 2, cells := 0, slots := 0, locals := 45 } [.ref h0, .int 1] D [(h0, .inr (5, [v0, v1, v2, .ref h1, v3, v4, v5, v6, v7, v8])), (h1, .inr (1, [.ref h2, v9, .ref h4, .ref h3, v10, v11, .ref h5, v12, v13, v14, v15, v16, v17])), (h2, .inr (0, [v18, v19, .int 2, v20, v21, v22, v23])), (h3, .inl (a0, 48, .inl f0)), (h4, .inl (a1, 48, .inr (.inl f1))), (h5, .inr (4, [v24, .int 0, v25]))] [(a0, .int), (a1, .long)] XN [] (el (fun _ : Unit => True) (fun _ => 1) (fun _ => []) (fun _ => []) D) 0 0 := by
  refine CT.ofR (by decide +kernel) (Nat.le_of_ble_eq_true rfl) ?_
  intro p e s m below meth c A ls hcs hP hK hD hX hA hS hl
  obtain ⟨hx, hb, hr, hml, hown, hg, hlocks, hin⟩ := hcs
  have hown : s.vm.findClass RX5 = some m.cls := hown
  have hl : lv_has ls 6 [(0, .ref h0), (1, .int 1)] := hl
  refine lv_iload_n hx hb dX5_mean_0 rfl (lv_at hl 1 rfl) ?_
  refine lv_iconst (v := 0) hx hb dX5_mean_1 (by decide) ?_
  refine lv_iconst (v := 1) hx hb dX5_mean_2 (by decide) ?_
  refine cSv (n := 3) (As := [.int 1, .int 0, .int 1]) (rest := []) (wr := [(h0, .inr (5, [v0, v1, v2, .ref h1, v3, v4, v5, v6, v7, v8])), (h1, .inr (1, [.ref h2, v9, .ref h4, .ref h3, v10, v11, .ref h5, v12, v13, v14, v15, v16, v17])), (h2, .inr (0, [v18, v19, .int 2, v20, v21, v22, v23])), (h3, .inl (a0, 48, .inl f0)), (h4, .inl (a1, 48, .inr (.inl f1))), (h5, .inr (4, [v24, .int 0, v25]))]) (tr := [(a0, .int), (a1, .long)]) hx hb hml hown hg okN (cX5_needRange_413 l D) (mwS k909 k910 k84 k911) ⟨rfl, by decide, by decide, by decide +kernel⟩ ⟨rfl, rfl, (Nat.le_of_ble_eq_true rfl), (Nat.le_of_ble_eq_true rfl)⟩ hP hD hK hS xn [] [] [0, 1, 2, 3, 4, 5] [] [0, 1] rfl (by decide) rfl rfl (by decide) (by decide) rfl rfl (aNil hA hS) (fun _ _ => trivial) rfl hl.1 rfl (Nat.le_of_ble_eq_true rfl) dX5_mean_3 ⟨(Nat.le_of_ble_eq_true rfl), (Nat.le_of_ble_eq_true rfl)⟩ (fun u H locs hφ hP hD hK hS hk => ?_)
  have hP : va_P D vwCl [(h0, .inr (5, [v0, v1, v2, .ref h1, v3, v4, v5, v6, v7, v8])), (h1, .inr (1, [.ref h2, v9, .ref h4, .ref h3, v10, v11, .ref h5, v12, v13, v14, v15, v16, v17])), (h2, .inr (0, [v18, v19, .int 2, v20, v21, v22, v23])), (h3, .inl (a0, 48, .inl f0)), (h4, .inl (a1, 48, .inr (.inl f1))), (h5, .inr (4, [v24, .int 0, v25]))] H := hP
  have hD : va_D (fun _ => True) [(h0, .inr (5, [v0, v1, v2, .ref h1, v3, v4, v5, v6, v7, v8])), (h1, .inr (1, [.ref h2, v9, .ref h4, .ref h3, v10, v11, .ref h5, v12, v13, v14, v15, v16, v17])), (h2, .inr (0, [v18, v19, .int 2, v20, v21, v22, v23])), (h3, .inl (a0, 48, .inl f0)), (h4, .inl (a1, 48, .inr (.inl f1))), (h5, .inr (4, [v24, .int 0, v25]))] := hD
  have hK : va_K D vwCl [(a0, .int), (a1, .long)] s := hK
  refine W.widen (k := 0) (n := 0) (Nat.le_of_ble_eq_true rfl) (Nat.le_of_ble_eq_true rfl) ?_
  refine lv_aload_n hx hb dX5_mean_6 rfl (lv_at hl 0 rfl) ?_
  refine va_get (D := D) (ci := 5) (v := .ref h1) (C := RX5) (T := TX5) (N := 10) hx hb hg inX5 hown hK hP 0 rfl rfl 3 (by decide) (hg _ k382) (fun _ h9 => h9) rfl dX5_mean_7 ?_
  refine cVl (n := 0) (As := []) (rest := []) (wr := [(h0, .inr (5, [v0, v1, v2, .ref h1, v3, v4, v5, v6, v7, v8])), (h1, .inr (1, [.ref h2, v9, .ref h4, .ref h3, v10, v11, .ref h5, v12, v13, v14, v15, v16, v17])), (h2, .inr (0, [v18, v19, .int 2, v20, v21, v22, v23])), (h3, .inl (a0, 48, .inl f0)), (h4, .inl (a1, 48, .inr (.inl f1))), (h5, .inr (4, [v24, .int 0, v25]))]) (tr := [(a0, .int), (a1, .long)]) hx hb hml hown hg okN (cX1_weightSum_335 l D h1 h2 h3 h4 v9 v10 v11 (.ref h5) v12 v13 v14 v15 v16 v17 v18 v19 v20 v21 v22 v23 f0 f1 a0 a1 ef0_0 ef0_1 ef1_0 ef1_1) (mwV k849 k850 k851 k87 k852) ⟨rfl, by decide, by decide, by decide +kernel⟩ ⟨rfl, rfl, (Nat.le_of_ble_eq_true rfl), (Nat.le_of_ble_eq_true rfl)⟩ hP hD hK hS xn [1, 2, 3, 4] [] [0, 1, 2, 3, 4, 5] [0, 1] [0, 1] rfl (by decide) rfl rfl (by decide) (by decide) rfl rfl (aNil hA hS) (fun _ _ => trivial) 1 rfl rfl rfl hl.1 rfl (Nat.le_of_ble_eq_true rfl) dX5_mean_10 ⟨(Nat.le_of_ble_eq_true rfl), (Nat.le_of_ble_eq_true rfl)⟩ (fun u H locs hφ hP hD hK hS hk => ?_)
  have hP : va_P D vwCl [(h0, .inr (5, [v0, v1, v2, .ref h1, v3, v4, v5, v6, v7, v8])), (h1, .inr (1, [.ref h2, v9, .ref h4, .ref h3, v10, v11, .ref h5, v12, v13, v14, v15, v16, v17])), (h2, .inr (0, [v18, v19, .int 2, v20, v21, v22, v23])), (h3, .inl (a0, 48, .inl f0)), (h4, .inl (a1, 48, .inr (.inl f1))), (h5, .inr (4, [v24, .int 0, v25]))] H := hP
  have hD : va_D (fun _ => True) [(h0, .inr (5, [v0, v1, v2, .ref h1, v3, v4, v5, v6, v7, v8])), (h1, .inr (1, [.ref h2, v9, .ref h4, .ref h3, v10, v11, .ref h5, v12, v13, v14, v15, v16, v17])), (h2, .inr (0, [v18, v19, .int 2, v20, v21, v22, v23])), (h3, .inl (a0, 48, .inl f0)), (h4, .inl (a1, 48, .inr (.inl f1))), (h5, .inr (4, [v24, .int 0, v25]))] := hD
  have hK : va_K D vwCl [(a0, .int), (a1, .long)] s := hK
  refine W.widen (k := 0) (n := 0) (Nat.le_of_ble_eq_true rfl) (Nat.le_of_ble_eq_true rfl) ?_
  refine lv_lstore_n (lv' := [(2, .long 2), (0, .ref h0), (1, .int 1)]) hx hb dX5_mean_13 rfl hl (by decide) rfl (fun ls hl => ?_)
  refine lv_lload_n hx hb dX5_mean_14 rfl (lv_at hl 0 rfl) ?_
  refine lv_aload_n hx hb dX5_mean_15 rfl (lv_at hl 1 rfl) ?_
  refine va_get (D := D) (ci := 5) (v := .ref h1) (C := RX5) (T := TX5) (N := 10) hx hb hg inX5 hown hK hP 0 rfl rfl 3 (by decide) (hg _ k382) (fun _ h9 => h9) rfl dX5_mean_16 ?_
  refine va_get (D := D) (ci := 1) (v := .ref h5) (C := RX1) (T := TX1) (N := 13) hx hb hg inX1 hown hK hP 1 rfl rfl 6 (by decide) (hg _ k290) (fun _ h9 => h9) rfl dX5_mean_19 ?_
  refine lv_lload_n hx hb dX5_mean_22 rfl (lv_at hl 0 rfl) ?_
  refine cVl (n := 1) (As := [.long 2]) (rest := [.long 2]) (wr := [(h0, .inr (5, [v0, v1, v2, .ref h1, v3, v4, v5, v6, v7, v8])), (h1, .inr (1, [.ref h2, v9, .ref h4, .ref h3, v10, v11, .ref h5, v12, v13, v14, v15, v16, v17])), (h2, .inr (0, [v18, v19, .int 2, v20, v21, v22, v23])), (h3, .inl (a0, 48, .inl f0)), (h4, .inl (a1, 48, .inr (.inl f1))), (h5, .inr (4, [v24, .int 0, v25]))]) (tr := [(a0, .int), (a1, .long)]) hx hb hml hown hg okN (cX4_restOfAmount_407 l D h5 v24 v25) (mwV k913 k914 k915 k88 k916) ⟨rfl, by decide, by decide, by decide +kernel⟩ ⟨rfl, rfl, (Nat.le_of_ble_eq_true rfl), (Nat.le_of_ble_eq_true rfl)⟩ hP hD hK hS xn [5] [] [0, 1, 2, 3, 4, 5] [] [0, 1] rfl (by decide) rfl rfl (by decide) (by decide) rfl rfl (aNil hA hS) (fun _ _ => trivial) 5 rfl rfl rfl hl.1 rfl (Nat.le_of_ble_eq_true rfl) dX5_mean_23 ⟨(Nat.le_of_ble_eq_true rfl), (Nat.le_of_ble_eq_true rfl)⟩ (fun u H locs hφ hP hD hK hS hk => ?_)
  have hP : va_P D vwCl [(h0, .inr (5, [v0, v1, v2, .ref h1, v3, v4, v5, v6, v7, v8])), (h1, .inr (1, [.ref h2, v9, .ref h4, .ref h3, v10, v11, .ref h5, v12, v13, v14, v15, v16, v17])), (h2, .inr (0, [v18, v19, .int 2, v20, v21, v22, v23])), (h3, .inl (a0, 48, .inl f0)), (h4, .inl (a1, 48, .inr (.inl f1))), (h5, .inr (4, [v24, .int 0, v25]))] H := hP
  have hD : va_D (fun _ => True) [(h0, .inr (5, [v0, v1, v2, .ref h1, v3, v4, v5, v6, v7, v8])), (h1, .inr (1, [.ref h2, v9, .ref h4, .ref h3, v10, v11, .ref h5, v12, v13, v14, v15, v16, v17])), (h2, .inr (0, [v18, v19, .int 2, v20, v21, v22, v23])), (h3, .inl (a0, 48, .inl f0)), (h4, .inl (a1, 48, .inr (.inl f1))), (h5, .inr (4, [v24, .int 0, v25]))] := hD
  have hK : va_K D vwCl [(a0, .int), (a1, .long)] s := hK
  refine W.widen (k := 0) (n := 0) (Nat.le_of_ble_eq_true rfl) (Nat.le_of_ble_eq_true rfl) ?_
  refine cSl (n := 2) (As := [.long 2, .long 0]) (rest := []) (wr := [(h0, .inr (5, [v0, v1, v2, .ref h1, v3, v4, v5, v6, v7, v8])), (h1, .inr (1, [.ref h2, v9, .ref h4, .ref h3, v10, v11, .ref h5, v12, v13, v14, v15, v16, v17])), (h2, .inr (0, [v18, v19, .int 2, v20, v21, v22, v23])), (h3, .inl (a0, 48, .inl f0)), (h4, .inl (a1, 48, .inr (.inl f1))), (h5, .inr (4, [v24, .int 0, v25]))]) (tr := [(a0, .int), (a1, .long)]) hx hb hml hown hg okN (cX5_commonDivisor_408 l D) (mwS k917 k918 k84 k919) ⟨rfl, by decide, by decide, by decide +kernel⟩ ⟨rfl, rfl, (Nat.le_of_ble_eq_true rfl), (Nat.le_of_ble_eq_true rfl)⟩ hP hD hK hS xn [] [] [0, 1, 2, 3, 4, 5] [] [0, 1] rfl (by decide) rfl rfl (by decide) (by decide) rfl rfl (aNil hA hS) (fun _ _ => trivial) rfl hl.1 rfl (Nat.le_of_ble_eq_true rfl) dX5_mean_26 ⟨(Nat.le_of_ble_eq_true rfl), (Nat.le_of_ble_eq_true rfl)⟩ (fun u H locs hφ hP hD hK hS hk => ?_)
  have hP : va_P D vwCl [(h0, .inr (5, [v0, v1, v2, .ref h1, v3, v4, v5, v6, v7, v8])), (h1, .inr (1, [.ref h2, v9, .ref h4, .ref h3, v10, v11, .ref h5, v12, v13, v14, v15, v16, v17])), (h2, .inr (0, [v18, v19, .int 2, v20, v21, v22, v23])), (h3, .inl (a0, 48, .inl f0)), (h4, .inl (a1, 48, .inr (.inl f1))), (h5, .inr (4, [v24, .int 0, v25]))] H := hP
  have hD : va_D (fun _ => True) [(h0, .inr (5, [v0, v1, v2, .ref h1, v3, v4, v5, v6, v7, v8])), (h1, .inr (1, [.ref h2, v9, .ref h4, .ref h3, v10, v11, .ref h5, v12, v13, v14, v15, v16, v17])), (h2, .inr (0, [v18, v19, .int 2, v20, v21, v22, v23])), (h3, .inl (a0, 48, .inl f0)), (h4, .inl (a1, 48, .inr (.inl f1))), (h5, .inr (4, [v24, .int 0, v25]))] := hD
  have hK : va_K D vwCl [(a0, .int), (a1, .long)] s := hK
  refine W.widen (k := 0) (n := 0) (Nat.le_of_ble_eq_true rfl) (Nat.le_of_ble_eq_true rfl) ?_
  refine lv_lstore (lv' := [(4, .long 2), (2, .long 2), (0, .ref h0), (1, .int 1)]) hx hb dX5_mean_29 hl (by decide) rfl (fun ls hl => ?_)
  refine lv_iload_n hx hb dX5_mean_31 rfl (lv_at hl 3 rfl) ?_
  refine lv_if_ne (tgt := 50) hx hb dX5_mean_32 (by decide) (fun _ => ?_) (fun c9 => absurd c9 (by decide))
  refine lv_lload_n hx hb dX5_mean_50 rfl (lv_at hl 1 rfl) ?_
  refine lv_lload hx hb dX5_mean_51 (lv_at hl 0 rfl) ?_
  refine lv_ldiv hx hb dX5_mean_53 (by decide) ?_
  refine tl (1) (by decide) ?_
  exact fl0 hx hb hr hlocks hK hS (Nat.le_of_ble_eq_true rfl) (Nat.le_of_ble_eq_true rfl) dX5_mean_54
set_option maxHeartbeats 4000000 in
set_option maxRecDepth 100000 in
theorem cX5_needRange_415 (l : Launch) (D : va_G) (hlt : l.stackTraces = false) (x0 : Int32)  (d0 : ¬ (x0 < 0)) (d1 : ¬ (x0 ≤ 1)) : CX l yX5_needRange cX5_needRange 3 none { frames := 6, cells := 1, slots := 6, locals := 90 } [.int x0, .int 0, .int 1] D [] [] XX [] xv "java/lang/IllegalArgumentException" 1 6 := by
  refine CX.ofR (by decide +kernel) (Nat.le_of_ble_eq_true rfl) ?_
  intro p e s m below meth c A ls hcs hout hP hK hD hX hA hS hl
  obtain ⟨hx, hb, hr, hml, hown, hg, hlocks, hin⟩ := hcs
  have hown : s.vm.findClass RX5 = some m.cls := hown
  have hl : lv_has ls 3 [(0, .int x0), (1, .int 0), (2, .int 1)] := hl
  refine lv_iload_n hx hb dX5_needRange_0 rfl (lv_at hl 0 rfl) ?_
  refine lv_iload_n hx hb dX5_needRange_1 rfl (lv_at hl 1 rfl) ?_
  refine lv_icmp_lt (tgt := 10) hx hb dX5_needRange_2 (by decide) (fun c9 => absurd c9 d0) (fun _ => ?_)
  refine lv_iload_n hx hb dX5_needRange_5 rfl (lv_at hl 0 rfl) ?_
  refine lv_iload_n hx hb dX5_needRange_6 rfl (lv_at hl 2 rfl) ?_
  refine lv_icmp_le (tgt := 21) hx hb dX5_needRange_7 (by decide) (fun c9 => absurd c9 d1) (fun _ => ?_)
  obtain ⟨sa, hsa⟩ := XX_sRX5_321 hX
  exact thSW_IAE hx hb hlt hown (hg _ k813) (hg _ k101) hsa hg hX hS (hl.1.trans hml.symm) dX5_needRange_10 dX5_needRange_13 dX5_needRange_14 dX5_needRange_17 dX5_needRange_20 hout (Nat.le_of_ble_eq_true rfl) (Nat.le_of_ble_eq_true rfl) (Nat.le_of_ble_eq_true rfl) (Nat.le_of_ble_eq_true rfl) hlocks (Nat.le_of_ble_eq_true rfl) (Nat.le_of_ble_eq_true rfl)
set_option maxHeartbeats 4000000 in
set_option maxRecDepth 100000 in
theorem cX5_mean_414 (l : Launch) (D : va_G) (hlt : l.stackTraces = false) (h0 : Nat) (x0 : Int32)  (d0 : ¬ (x0 < 0)) (d1 : ¬ (x0 ≤ 1)) : CX l yX5_mean cX5_mean 6 (some .long) { frames := 7, cells := 1, slots := 6, locals := 112 } [.ref h0, .int x0] D [] [] XX [] xl "java/lang/IllegalArgumentException" 1 6 := by
  refine CX.ofR (by decide +kernel) (Nat.le_of_ble_eq_true rfl) ?_
  intro p e s m below meth c A ls hcs hout hP hK hD hX hA hS hl
  obtain ⟨hx, hb, hr, hml, hown, hg, hlocks, hin⟩ := hcs
  have hown : s.vm.findClass RX5 = some m.cls := hown
  have hl : lv_has ls 6 [(0, .ref h0), (1, .int x0)] := hl
  refine lv_iload_n hx hb dX5_mean_0 rfl (lv_at hl 1 rfl) ?_
  refine lv_iconst (v := 0) hx hb dX5_mean_1 (by decide) ?_
  refine lv_iconst (v := 1) hx hb dX5_mean_2 (by decide) ?_
  exact xSv (n := 3) (As := [.int x0, .int 0, .int 1]) (rest := []) hx hb hml hown hg okXX (cX5_needRange_415 l D hlt x0 d0 d1) (mwS k909 k910 k84 k911) ⟨rfl, by decide, by decide, by decide +kernel⟩ ⟨rfl, rfl, (Nat.le_of_ble_eq_true rfl), (Nat.le_of_ble_eq_true rfl)⟩ hP hD hK hS (okXX.2.2 _ _ _ _ hS.2.1 hX) [] [] rfl (by decide) rfl (aNil hA hS) rfl hl.1 rfl (Nat.le_of_ble_eq_true rfl) dX5_mean_3 ⟨(Nat.le_of_ble_eq_true rfl), (Nat.le_of_ble_eq_true rfl)⟩ hout hlocks (Nat.le_of_ble_eq_true rfl) (Nat.le_of_ble_eq_true rfl)
set_option maxHeartbeats 4000000 in
set_option maxRecDepth 100000 in
theorem cX1_valueSum_417 (l : Launch) (D : va_G) (h0 : Nat) (h1 : Nat) (h2 : Nat) (h3 : Nat) (h4 : Nat) (h5 : Nat) (h6 : Nat) (h7 : Nat) (h8 : Nat) (h9 : Nat) (v0 : Value) (v1 : Value) (v2 : Value) (v3 : Value) (v4 : Value) (v5 : Value) (v6 : Value) (v7 : Value) (v8 : Value) (v9 : Value) (v10 : Value) (f0 : Nat → Int32) (v11 : Value) (v12 : Value) (v13 : Value) (v14 : Value) (v15 : Value) (v16 : Value) (f1 : Nat → Int32) (f2 : Nat → Option Nat) (f3 : Nat → Int32) (f4 : Nat → Int32) (a0 : ClassId) (a1 : ClassId) (a2 : ClassId) (a3 : ClassId) (a4 : ClassId) (ef1_0 : f1 0 = (-1)) (ef1_1 : f1 1 = (-1)) (ef2_0 : f2 0 = some h6) (ef2_1 : f2 1 = some h8) (ef3_0 : f3 0 = 0) (ef4_0 : f4 0 = 0)  : CT l yX1_valueSum cX1_valueSum 2 (some (.object "LiftingSignal$Whole")) { frames := 2, cells := 0, slots := 0, locals := 50 } [.ref h0] D [(h0, .inr (1, [.ref h3, .ref h5, v0, .ref h4, v1, v2, v3, v4, v5, v6, v7, v8, .ref h1])), (h1, .inr (4, [.ref h2, v9, v10])), (h2, .inl (a0, 2, .inl f0)), (h3, .inr (0, [v11, v12, .int 2, v13, v14, v15, v16])), (h4, .inl (a1, 48, .inl f1)), (h5, .inl (a2, 48, .inr (.inr (.inr (.inr f2))))), (h6, .inr (4, [.ref h7, .int 0, .int 0])), (h7, .inl (a3, 2, .inl f3)), (h8, .inr (4, [.ref h9, .int 0, .int 0])), (h9, .inl (a4, 2, .inl f4))] [(a0, .int), (a1, .int), (a2, .object "LiftingSignal$Whole"), (a3, .int), (a4, .int)] XN [(h0, .inr (1, [.ref h3, .ref h5, v0, .ref h4, v1, v2, v3, v4, v5, v6, v7, v8, .ref h1])), (h1, .inr (4, [.ref h2, v9, v10])), (h2, .inl (a0, 2, .inl f0)), (h3, .inr (0, [v11, v12, .int 2, v13, v14, v15, v16])), (h4, .inl (a1, 48, .inl f1)), (h5, .inl (a2, 48, .inr (.inr (.inr (.inr f2))))), (h6, .inr (4, [.ref h7, .int 0, .int 0])), (h7, .inl (a3, 2, .inl f3)), (h8, .inr (4, [.ref h9, .int 0, .int 0])), (h9, .inl (a4, 2, .inl f4))] (er (fun _ : Unit => True) (fun u => h1) (fun _ => [(h0, .inr (1, [.ref h3, .ref h5, v0, .ref h4, v1, v2, v3, v4, v5, v6, v7, v8, .ref h1])), (h1, .inr (4, [.ref h2, .int 0, .int 0])), (h2, .inl (a0, 2, .inl (upd (upd (upd (upd (upd (upd f0 0 0) 1 0) 0 0) 1 0) 0 0) 1 0))), (h3, .inr (0, [v11, v12, .int 2, v13, v14, v15, v16])), (h4, .inl (a1, 48, .inl f1)), (h5, .inl (a2, 48, .inr (.inr (.inr (.inr f2))))), (h6, .inr (4, [.ref h7, .int 0, .int 0])), (h7, .inl (a3, 2, .inl f3)), (h8, .inr (4, [.ref h9, .int 0, .int 0])), (h9, .inl (a4, 2, .inl f4))]) (fun u => [(a0, .int), (a1, .int), (a2, .object "LiftingSignal$Whole"), (a3, .int), (a4, .int)]) D) 0 0 := by
  refine CT.ofW (by decide +kernel) (Nat.le_of_ble_eq_true rfl) ?_
  intro p e s m below meth c A ls hcs hP hK hD hX hA hS hl
  obtain ⟨hx, hb, hr, hml, hown, hg, hlocks, hin⟩ := hcs
  have hown : s.vm.findClass RX1 = some m.cls := hown
  have hl : lv_has ls 2 [(0, .ref h0)] := hl
  refine lv_aload_n hx hb dX1_valueSum_0 rfl (lv_at hl 0 rfl) ?_
  refine va_get (D := D) (ci := 1) (v := .ref h1) (C := RX1) (T := TX1) (N := 13) hx hb hg inX1 hown hK hP 0 rfl rfl 12 (by decide) (hg _ k299) (fun _ h9 => h9) rfl dX1_valueSum_1 ?_
  refine lv_lconst (v := 0) hx hb dX1_valueSum_4 (by decide) ?_
  refine cVv (n := 1) (As := [.long 0]) (rest := []) (wr := [(h0, .inr (1, [.ref h3, .ref h5, v0, .ref h4, v1, v2, v3, v4, v5, v6, v7, v8, .ref h1])), (h3, .inr (0, [v11, v12, .int 2, v13, v14, v15, v16])), (h4, .inl (a1, 48, .inl f1)), (h5, .inl (a2, 48, .inr (.inr (.inr (.inr f2))))), (h6, .inr (4, [.ref h7, .int 0, .int 0])), (h7, .inl (a3, 2, .inl f3)), (h8, .inr (4, [.ref h9, .int 0, .int 0])), (h9, .inl (a4, 2, .inl f4))]) (tr := [(a1, .int), (a2, .object "LiftingSignal$Whole"), (a3, .int), (a4, .int)]) hx hb hml hown hg okN (cX4_become_391 l D h1 h2 v9 v10 f0 a0) (mwV k274 k275 k276 k88 k277) ⟨rfl, by decide, by decide, by decide +kernel⟩ ⟨rfl, rfl, (Nat.le_of_ble_eq_true rfl), (Nat.le_of_ble_eq_true rfl)⟩ hP hD hK hS xn [1, 2] [1, 2] [0, 3, 4, 5, 6, 7, 8, 9] [0] [1, 2, 3, 4] rfl (by decide) rfl rfl (by decide) (by decide) rfl rfl (va_free hD hS hA [1, 2] rfl) (va_free hD hS hA [1, 2] rfl) 1 rfl rfl rfl hl.1 rfl (Nat.le_of_ble_eq_true rfl) dX1_valueSum_5 ⟨(Nat.le_of_ble_eq_true rfl), (Nat.le_of_ble_eq_true rfl)⟩ (fun u H locs hφ hP hD hK hS hk => ?_)
  have hP : va_P D vwCl [(h0, .inr (1, [.ref h3, .ref h5, v0, .ref h4, v1, v2, v3, v4, v5, v6, v7, v8, .ref h1])), (h3, .inr (0, [v11, v12, .int 2, v13, v14, v15, v16])), (h4, .inl (a1, 48, .inl f1)), (h5, .inl (a2, 48, .inr (.inr (.inr (.inr f2))))), (h6, .inr (4, [.ref h7, .int 0, .int 0])), (h7, .inl (a3, 2, .inl f3)), (h8, .inr (4, [.ref h9, .int 0, .int 0])), (h9, .inl (a4, 2, .inl f4)), (h1, .inr (4, [.ref h2, .int 0, .int 0])), (h2, .inl (a0, 2, .inl (upd (upd f0 0 0) 1 0)))] H := hP
  have hD : va_D A [(h0, .inr (1, [.ref h3, .ref h5, v0, .ref h4, v1, v2, v3, v4, v5, v6, v7, v8, .ref h1])), (h3, .inr (0, [v11, v12, .int 2, v13, v14, v15, v16])), (h4, .inl (a1, 48, .inl f1)), (h5, .inl (a2, 48, .inr (.inr (.inr (.inr f2))))), (h6, .inr (4, [.ref h7, .int 0, .int 0])), (h7, .inl (a3, 2, .inl f3)), (h8, .inr (4, [.ref h9, .int 0, .int 0])), (h9, .inl (a4, 2, .inl f4)), (h1, .inr (4, [.ref h2, .int 0, .int 0])), (h2, .inl (a0, 2, .inl (upd (upd f0 0 0) 1 0)))] := hD
  have hK : va_K D vwCl [(a1, .int), (a2, .object "LiftingSignal$Whole"), (a3, .int), (a4, .int), (a0, .int)] s := hK
  refine W.widen (k := 0) (n := 0) (Nat.le_of_ble_eq_true rfl) (Nat.le_of_ble_eq_true rfl) ?_
  refine lv_iconst (v := 0) hx hb dX1_valueSum_8 (by decide) ?_
  refine lv_istore_n (lv' := [(1, .int 0), (0, .ref h0)]) hx hb dX1_valueSum_9 rfl hl (by decide) rfl (fun ls hl => ?_)
  refine lv_iload_n hx hb dX1_valueSum_10 rfl (lv_at hl 0 rfl) ?_
  refine lv_aload_n hx hb dX1_valueSum_11 rfl (lv_at hl 1 rfl) ?_
  refine va_get (D := D) (ci := 1) (v := .ref h3) (C := RX1) (T := TX1) (N := 13) hx hb hg inX1 hown hK hP 0 rfl rfl 0 (by decide) (hg _ k278) (fun _ h9 => h9) rfl dX1_valueSum_12 ?_
  refine va_get (D := D) (ci := 0) (v := .int 2) (C := RX0) (T := TX0) (N := 7) hx hb hg inX0 hown hK hP 1 rfl rfl 2 (by decide) (hg _ k162) (fun _ h9 => h9) rfl dX1_valueSum_15 ?_
  refine lv_icmp_ge (tgt := 49) hx hb dX1_valueSum_18 (by decide) (fun c9 => absurd c9 (by decide)) (fun _ => ?_)
  refine lv_aload_n hx hb dX1_valueSum_21 rfl (lv_at hl 1 rfl) ?_
  refine lv_iload_n hx hb dX1_valueSum_22 rfl (lv_at hl 0 rfl) ?_
  refine cVi (n := 1) (As := [.int 0]) (rest := []) (wr := [(h0, .inr (1, [.ref h3, .ref h5, v0, .ref h4, v1, v2, v3, v4, v5, v6, v7, v8, .ref h1])), (h3, .inr (0, [v11, v12, .int 2, v13, v14, v15, v16])), (h4, .inl (a1, 48, .inl f1)), (h5, .inl (a2, 48, .inr (.inr (.inr (.inr f2))))), (h6, .inr (4, [.ref h7, .int 0, .int 0])), (h7, .inl (a3, 2, .inl f3)), (h8, .inr (4, [.ref h9, .int 0, .int 0])), (h9, .inl (a4, 2, .inl f4)), (h1, .inr (4, [.ref h2, .int 0, .int 0])), (h2, .inl (a0, 2, .inl (upd (upd f0 0 0) 1 0)))]) (tr := [(a1, .int), (a2, .object "LiftingSignal$Whole"), (a3, .int), (a4, .int), (a0, .int)]) hx hb hml hown hg okN (cX1_isPresent_336 l D h0 h4 (.ref h3) (.ref h5) v0 v1 v2 v3 v4 v5 v6 v7 v8 (.ref h1) f1 a1 ef1_0) (mwV k459 k460 k461 k87 k462) ⟨rfl, by decide, by decide, by decide +kernel⟩ ⟨rfl, rfl, (Nat.le_of_ble_eq_true rfl), (Nat.le_of_ble_eq_true rfl)⟩ hP hD hK hS xn [0, 2] [] [0, 1, 2, 3, 4, 5, 6, 7, 8, 9] [0] [0, 1, 2, 3, 4] rfl (by decide) rfl rfl (by decide) (by decide) rfl rfl (aNil hA hS) (aNil hA hS) 0 rfl rfl rfl hl.1 rfl (Nat.le_of_ble_eq_true rfl) dX1_valueSum_23 ⟨(Nat.le_of_ble_eq_true rfl), (Nat.le_of_ble_eq_true rfl)⟩ (fun u H locs hφ hP hD hK hS hk => ?_)
  have hP : va_P D vwCl [(h0, .inr (1, [.ref h3, .ref h5, v0, .ref h4, v1, v2, v3, v4, v5, v6, v7, v8, .ref h1])), (h3, .inr (0, [v11, v12, .int 2, v13, v14, v15, v16])), (h4, .inl (a1, 48, .inl f1)), (h5, .inl (a2, 48, .inr (.inr (.inr (.inr f2))))), (h6, .inr (4, [.ref h7, .int 0, .int 0])), (h7, .inl (a3, 2, .inl f3)), (h8, .inr (4, [.ref h9, .int 0, .int 0])), (h9, .inl (a4, 2, .inl f4)), (h1, .inr (4, [.ref h2, .int 0, .int 0])), (h2, .inl (a0, 2, .inl (upd (upd f0 0 0) 1 0)))] H := hP
  have hD : va_D A [(h0, .inr (1, [.ref h3, .ref h5, v0, .ref h4, v1, v2, v3, v4, v5, v6, v7, v8, .ref h1])), (h3, .inr (0, [v11, v12, .int 2, v13, v14, v15, v16])), (h4, .inl (a1, 48, .inl f1)), (h5, .inl (a2, 48, .inr (.inr (.inr (.inr f2))))), (h6, .inr (4, [.ref h7, .int 0, .int 0])), (h7, .inl (a3, 2, .inl f3)), (h8, .inr (4, [.ref h9, .int 0, .int 0])), (h9, .inl (a4, 2, .inl f4)), (h1, .inr (4, [.ref h2, .int 0, .int 0])), (h2, .inl (a0, 2, .inl (upd (upd f0 0 0) 1 0)))] := hD
  have hK : va_K D vwCl [(a1, .int), (a2, .object "LiftingSignal$Whole"), (a3, .int), (a4, .int), (a0, .int)] s := hK
  refine W.widen (k := 0) (n := 0) (Nat.le_of_ble_eq_true rfl) (Nat.le_of_ble_eq_true rfl) ?_
  refine lv_if_eq (tgt := 43) hx hb dX1_valueSum_26 (by decide) (fun c9 => absurd c9 (by decide)) (fun _ => ?_)
  refine lv_aload_n hx hb dX1_valueSum_29 rfl (lv_at hl 1 rfl) ?_
  refine va_get (D := D) (ci := 1) (v := .ref h1) (C := RX1) (T := TX1) (N := 13) hx hb hg inX1 hown hK hP 0 rfl rfl 12 (by decide) (hg _ k299) (fun _ h9 => h9) rfl dX1_valueSum_30 ?_
  refine lv_aload_n hx hb dX1_valueSum_33 rfl (lv_at hl 1 rfl) ?_
  refine va_get (D := D) (ci := 1) (v := .ref h5) (C := RX1) (T := TX1) (N := 13) hx hb hg inX1 hown hK hP 0 rfl rfl 1 (by decide) (hg _ k279) (fun _ h9 => h9) rfl dX1_valueSum_34 ?_
  refine lv_iload_n hx hb dX1_valueSum_37 rfl (lv_at hl 0 rfl) ?_
  refine aldQ hx hb hK hP 3 1 rfl rfl 0 (by decide) (vin (by decide)) (v := h6) ef2_0 dX1_valueSum_38 ?_
  refine lv_lconst (v := 1) hx hb dX1_valueSum_39 (by decide) ?_
  refine cVv (n := 2) (As := [.ref h6, .long 1]) (rest := []) (wr := [(h0, .inr (1, [.ref h3, .ref h5, v0, .ref h4, v1, v2, v3, v4, v5, v6, v7, v8, .ref h1])), (h3, .inr (0, [v11, v12, .int 2, v13, v14, v15, v16])), (h4, .inl (a1, 48, .inl f1)), (h5, .inl (a2, 48, .inr (.inr (.inr (.inr f2))))), (h8, .inr (4, [.ref h9, .int 0, .int 0])), (h9, .inl (a4, 2, .inl f4))]) (tr := [(a1, .int), (a2, .object "LiftingSignal$Whole"), (a4, .int)]) hx hb hml hown hg okN (cX4_add_394 l D h1 h6 h2 h7 (upd (upd f0 0 0) 1 0) f3 a0 a3 rfl ef3_0) (mwV k340 k341 k342 k88 k343) ⟨rfl, by decide, by decide, by decide +kernel⟩ ⟨rfl, rfl, (Nat.le_of_ble_eq_true rfl), (Nat.le_of_ble_eq_true rfl)⟩ hP hD hK hS xn [8, 4, 9, 5] [8, 4, 9, 5] [0, 1, 2, 3, 6, 7] [4, 2] [0, 1, 3] rfl (by decide) rfl rfl (by decide) (by decide) rfl rfl (va_free hD hS hA [8, 4, 9, 5] rfl) (va_free hD hS hA [8, 4, 9, 5] rfl) 8 rfl rfl rfl hl.1 rfl (Nat.le_of_ble_eq_true rfl) dX1_valueSum_40 ⟨(Nat.le_of_ble_eq_true rfl), (Nat.le_of_ble_eq_true rfl)⟩ (fun u H locs hφ hP hD hK hS hk => ?_)
  have hP : va_P D vwCl [(h0, .inr (1, [.ref h3, .ref h5, v0, .ref h4, v1, v2, v3, v4, v5, v6, v7, v8, .ref h1])), (h3, .inr (0, [v11, v12, .int 2, v13, v14, v15, v16])), (h4, .inl (a1, 48, .inl f1)), (h5, .inl (a2, 48, .inr (.inr (.inr (.inr f2))))), (h8, .inr (4, [.ref h9, .int 0, .int 0])), (h9, .inl (a4, 2, .inl f4)), (h1, .inr (4, [.ref h2, .int 0, .int 0])), (h6, .inr (4, [.ref h7, .int 0, .int 0])), (h2, .inl (a0, 2, .inl (upd (upd (upd (upd f0 0 0) 1 0) 0 0) 1 0))), (h7, .inl (a3, 2, .inl f3))] H := hP
  have hD : va_D A [(h0, .inr (1, [.ref h3, .ref h5, v0, .ref h4, v1, v2, v3, v4, v5, v6, v7, v8, .ref h1])), (h3, .inr (0, [v11, v12, .int 2, v13, v14, v15, v16])), (h4, .inl (a1, 48, .inl f1)), (h5, .inl (a2, 48, .inr (.inr (.inr (.inr f2))))), (h8, .inr (4, [.ref h9, .int 0, .int 0])), (h9, .inl (a4, 2, .inl f4)), (h1, .inr (4, [.ref h2, .int 0, .int 0])), (h6, .inr (4, [.ref h7, .int 0, .int 0])), (h2, .inl (a0, 2, .inl (upd (upd (upd (upd f0 0 0) 1 0) 0 0) 1 0))), (h7, .inl (a3, 2, .inl f3))] := hD
  have hK : va_K D vwCl [(a1, .int), (a2, .object "LiftingSignal$Whole"), (a4, .int), (a0, .int), (a3, .int)] s := hK
  refine W.widen (k := 0) (n := 0) (Nat.le_of_ble_eq_true rfl) (Nat.le_of_ble_eq_true rfl) ?_
  refine lv_iinc (v := 1) (lv' := [(1, .int 1), (0, .ref h0)]) hx hb dX1_valueSum_43 hl (k := 0) rfl (by decide) (by decide) rfl (fun ls hl => ?_)
  refine lv_goto (tgt := 10) hx hb dX1_valueSum_46 (by decide) ?_
  refine lv_iload_n hx hb dX1_valueSum_10 rfl (lv_at hl 0 rfl) ?_
  refine lv_aload_n hx hb dX1_valueSum_11 rfl (lv_at hl 1 rfl) ?_
  refine va_get (D := D) (ci := 1) (v := .ref h3) (C := RX1) (T := TX1) (N := 13) hx hb hg inX1 hown hK hP 0 rfl rfl 0 (by decide) (hg _ k278) (fun _ h9 => h9) rfl dX1_valueSum_12 ?_
  refine va_get (D := D) (ci := 0) (v := .int 2) (C := RX0) (T := TX0) (N := 7) hx hb hg inX0 hown hK hP 1 rfl rfl 2 (by decide) (hg _ k162) (fun _ h9 => h9) rfl dX1_valueSum_15 ?_
  refine lv_icmp_ge (tgt := 49) hx hb dX1_valueSum_18 (by decide) (fun c9 => absurd c9 (by decide)) (fun _ => ?_)
  refine lv_aload_n hx hb dX1_valueSum_21 rfl (lv_at hl 1 rfl) ?_
  refine lv_iload_n hx hb dX1_valueSum_22 rfl (lv_at hl 0 rfl) ?_
  refine cVi (n := 1) (As := [.int 1]) (rest := []) (wr := [(h0, .inr (1, [.ref h3, .ref h5, v0, .ref h4, v1, v2, v3, v4, v5, v6, v7, v8, .ref h1])), (h3, .inr (0, [v11, v12, .int 2, v13, v14, v15, v16])), (h4, .inl (a1, 48, .inl f1)), (h5, .inl (a2, 48, .inr (.inr (.inr (.inr f2))))), (h8, .inr (4, [.ref h9, .int 0, .int 0])), (h9, .inl (a4, 2, .inl f4)), (h1, .inr (4, [.ref h2, .int 0, .int 0])), (h6, .inr (4, [.ref h7, .int 0, .int 0])), (h2, .inl (a0, 2, .inl (upd (upd (upd (upd f0 0 0) 1 0) 0 0) 1 0))), (h7, .inl (a3, 2, .inl f3))]) (tr := [(a1, .int), (a2, .object "LiftingSignal$Whole"), (a4, .int), (a0, .int), (a3, .int)]) hx hb hml hown hg okN (cX1_isPresent_337 l D h0 h4 (.ref h3) (.ref h5) v0 v1 v2 v3 v4 v5 v6 v7 v8 (.ref h1) f1 a1 ef1_1) (mwV k459 k460 k461 k87 k462) ⟨rfl, by decide, by decide, by decide +kernel⟩ ⟨rfl, rfl, (Nat.le_of_ble_eq_true rfl), (Nat.le_of_ble_eq_true rfl)⟩ hP hD hK hS xn [0, 2] [] [0, 1, 2, 3, 4, 5, 6, 7, 8, 9] [0] [0, 1, 2, 3, 4] rfl (by decide) rfl rfl (by decide) (by decide) rfl rfl (aNil hA hS) (aNil hA hS) 0 rfl rfl rfl hl.1 rfl (Nat.le_of_ble_eq_true rfl) dX1_valueSum_23 ⟨(Nat.le_of_ble_eq_true rfl), (Nat.le_of_ble_eq_true rfl)⟩ (fun u H locs hφ hP hD hK hS hk => ?_)
  have hP : va_P D vwCl [(h0, .inr (1, [.ref h3, .ref h5, v0, .ref h4, v1, v2, v3, v4, v5, v6, v7, v8, .ref h1])), (h3, .inr (0, [v11, v12, .int 2, v13, v14, v15, v16])), (h4, .inl (a1, 48, .inl f1)), (h5, .inl (a2, 48, .inr (.inr (.inr (.inr f2))))), (h8, .inr (4, [.ref h9, .int 0, .int 0])), (h9, .inl (a4, 2, .inl f4)), (h1, .inr (4, [.ref h2, .int 0, .int 0])), (h6, .inr (4, [.ref h7, .int 0, .int 0])), (h2, .inl (a0, 2, .inl (upd (upd (upd (upd f0 0 0) 1 0) 0 0) 1 0))), (h7, .inl (a3, 2, .inl f3))] H := hP
  have hD : va_D A [(h0, .inr (1, [.ref h3, .ref h5, v0, .ref h4, v1, v2, v3, v4, v5, v6, v7, v8, .ref h1])), (h3, .inr (0, [v11, v12, .int 2, v13, v14, v15, v16])), (h4, .inl (a1, 48, .inl f1)), (h5, .inl (a2, 48, .inr (.inr (.inr (.inr f2))))), (h8, .inr (4, [.ref h9, .int 0, .int 0])), (h9, .inl (a4, 2, .inl f4)), (h1, .inr (4, [.ref h2, .int 0, .int 0])), (h6, .inr (4, [.ref h7, .int 0, .int 0])), (h2, .inl (a0, 2, .inl (upd (upd (upd (upd f0 0 0) 1 0) 0 0) 1 0))), (h7, .inl (a3, 2, .inl f3))] := hD
  have hK : va_K D vwCl [(a1, .int), (a2, .object "LiftingSignal$Whole"), (a4, .int), (a0, .int), (a3, .int)] s := hK
  refine W.widen (k := 0) (n := 0) (Nat.le_of_ble_eq_true rfl) (Nat.le_of_ble_eq_true rfl) ?_
  refine lv_if_eq (tgt := 43) hx hb dX1_valueSum_26 (by decide) (fun c9 => absurd c9 (by decide)) (fun _ => ?_)
  refine lv_aload_n hx hb dX1_valueSum_29 rfl (lv_at hl 1 rfl) ?_
  refine va_get (D := D) (ci := 1) (v := .ref h1) (C := RX1) (T := TX1) (N := 13) hx hb hg inX1 hown hK hP 0 rfl rfl 12 (by decide) (hg _ k299) (fun _ h9 => h9) rfl dX1_valueSum_30 ?_
  refine lv_aload_n hx hb dX1_valueSum_33 rfl (lv_at hl 1 rfl) ?_
  refine va_get (D := D) (ci := 1) (v := .ref h5) (C := RX1) (T := TX1) (N := 13) hx hb hg inX1 hown hK hP 0 rfl rfl 1 (by decide) (hg _ k279) (fun _ h9 => h9) rfl dX1_valueSum_34 ?_
  refine lv_iload_n hx hb dX1_valueSum_37 rfl (lv_at hl 0 rfl) ?_
  refine aldQ hx hb hK hP 3 1 rfl rfl 1 (by decide) (vin (by decide)) (v := h8) ef2_1 dX1_valueSum_38 ?_
  refine lv_lconst (v := 1) hx hb dX1_valueSum_39 (by decide) ?_
  refine cVv (n := 2) (As := [.ref h8, .long 1]) (rest := []) (wr := [(h0, .inr (1, [.ref h3, .ref h5, v0, .ref h4, v1, v2, v3, v4, v5, v6, v7, v8, .ref h1])), (h3, .inr (0, [v11, v12, .int 2, v13, v14, v15, v16])), (h4, .inl (a1, 48, .inl f1)), (h5, .inl (a2, 48, .inr (.inr (.inr (.inr f2))))), (h6, .inr (4, [.ref h7, .int 0, .int 0])), (h7, .inl (a3, 2, .inl f3))]) (tr := [(a1, .int), (a2, .object "LiftingSignal$Whole"), (a3, .int)]) hx hb hml hown hg okN (cX4_add_394 l D h1 h8 h2 h9 (upd (upd (upd (upd f0 0 0) 1 0) 0 0) 1 0) f4 a0 a4 rfl ef4_0) (mwV k340 k341 k342 k88 k343) ⟨rfl, by decide, by decide, by decide +kernel⟩ ⟨rfl, rfl, (Nat.le_of_ble_eq_true rfl), (Nat.le_of_ble_eq_true rfl)⟩ hP hD hK hS xn [6, 4, 8, 5] [6, 4, 8, 5] [0, 1, 2, 3, 7, 9] [3, 2] [0, 1, 4] rfl (by decide) rfl rfl (by decide) (by decide) rfl rfl (va_free hD hS hA [6, 4, 8, 5] rfl) (va_free hD hS hA [6, 4, 8, 5] rfl) 6 rfl rfl rfl hl.1 rfl (Nat.le_of_ble_eq_true rfl) dX1_valueSum_40 ⟨(Nat.le_of_ble_eq_true rfl), (Nat.le_of_ble_eq_true rfl)⟩ (fun u H locs hφ hP hD hK hS hk => ?_)
  have hP : va_P D vwCl [(h0, .inr (1, [.ref h3, .ref h5, v0, .ref h4, v1, v2, v3, v4, v5, v6, v7, v8, .ref h1])), (h3, .inr (0, [v11, v12, .int 2, v13, v14, v15, v16])), (h4, .inl (a1, 48, .inl f1)), (h5, .inl (a2, 48, .inr (.inr (.inr (.inr f2))))), (h6, .inr (4, [.ref h7, .int 0, .int 0])), (h7, .inl (a3, 2, .inl f3)), (h1, .inr (4, [.ref h2, .int 0, .int 0])), (h8, .inr (4, [.ref h9, .int 0, .int 0])), (h2, .inl (a0, 2, .inl (upd (upd (upd (upd (upd (upd f0 0 0) 1 0) 0 0) 1 0) 0 0) 1 0))), (h9, .inl (a4, 2, .inl f4))] H := hP
  have hD : va_D A [(h0, .inr (1, [.ref h3, .ref h5, v0, .ref h4, v1, v2, v3, v4, v5, v6, v7, v8, .ref h1])), (h3, .inr (0, [v11, v12, .int 2, v13, v14, v15, v16])), (h4, .inl (a1, 48, .inl f1)), (h5, .inl (a2, 48, .inr (.inr (.inr (.inr f2))))), (h6, .inr (4, [.ref h7, .int 0, .int 0])), (h7, .inl (a3, 2, .inl f3)), (h1, .inr (4, [.ref h2, .int 0, .int 0])), (h8, .inr (4, [.ref h9, .int 0, .int 0])), (h2, .inl (a0, 2, .inl (upd (upd (upd (upd (upd (upd f0 0 0) 1 0) 0 0) 1 0) 0 0) 1 0))), (h9, .inl (a4, 2, .inl f4))] := hD
  have hK : va_K D vwCl [(a1, .int), (a2, .object "LiftingSignal$Whole"), (a3, .int), (a0, .int), (a4, .int)] s := hK
  refine W.widen (k := 0) (n := 0) (Nat.le_of_ble_eq_true rfl) (Nat.le_of_ble_eq_true rfl) ?_
  refine lv_iinc (v := 2) (lv' := [(1, .int 2), (0, .ref h0)]) hx hb dX1_valueSum_43 hl (k := 0) rfl (by decide) (by decide) rfl (fun ls hl => ?_)
  refine lv_goto (tgt := 10) hx hb dX1_valueSum_46 (by decide) ?_
  refine lv_iload_n hx hb dX1_valueSum_10 rfl (lv_at hl 0 rfl) ?_
  refine lv_aload_n hx hb dX1_valueSum_11 rfl (lv_at hl 1 rfl) ?_
  refine va_get (D := D) (ci := 1) (v := .ref h3) (C := RX1) (T := TX1) (N := 13) hx hb hg inX1 hown hK hP 0 rfl rfl 0 (by decide) (hg _ k278) (fun _ h9 => h9) rfl dX1_valueSum_12 ?_
  refine va_get (D := D) (ci := 0) (v := .int 2) (C := RX0) (T := TX0) (N := 7) hx hb hg inX0 hown hK hP 1 rfl rfl 2 (by decide) (hg _ k162) (fun _ h9 => h9) rfl dX1_valueSum_15 ?_
  refine lv_icmp_ge (tgt := 49) hx hb dX1_valueSum_18 (by decide) (fun _ => ?_) (fun c9 => absurd (by decide) c9)
  refine lv_aload_n hx hb dX1_valueSum_49 rfl (lv_at hl 1 rfl) ?_
  refine va_get (D := D) (ci := 1) (v := .ref h1) (C := RX1) (T := TX1) (N := 13) hx hb hg inX1 hown hK hP 0 rfl rfl 12 (by decide) (hg _ k299) (fun _ h9 => h9) rfl dX1_valueSum_50 ?_
  exact fr rfl hx hb hr hlocks hP hD hK hS (()) trivial rfl [0, 6, 8, 1, 2, 3, 4, 5, 7, 9] [3, 0, 1, 2, 4] rfl (by decide) rfl (Nat.le_of_ble_eq_true rfl) (Nat.le_of_ble_eq_true rfl) dX1_valueSum_53
set_option maxHeartbeats 4000000 in
set_option maxRecDepth 100000 in
theorem cX4_bitsOfAmount_419 (l : Launch) (D : va_G) (h0 : Nat) (v0 : Value) (v1 : Value)   : CT l yX4_bitsOfAmount cX4_bitsOfAmount 1 (some .int) { frames := 0, cells := 0, slots := 0, locals := 0 } [.ref h0] D [(h0, .inr (4, [v0, .int 0, v1]))] [] XN [] (ei (fun _ : Unit => True) (fun _ => 0) (fun _ => []) (fun _ => []) D) 0 0 := by
  refine CT.ofR (by decide +kernel) (Nat.le_of_ble_eq_true rfl) ?_
  intro p e s m below meth c A ls hcs hP hK hD hX hA hS hl
  obtain ⟨hx, hb, hr, hml, hown, hg, hlocks, hin⟩ := hcs
  have hown : s.vm.findClass RX4 = some m.cls := hown
  have hl : lv_has ls 1 [(0, .ref h0)] := hl
  refine lv_aload_n hx hb dX4_bitsOfAmount_0 rfl (lv_at hl 0 rfl) ?_
  refine va_get (D := D) (ci := 4) (v := .int 0) (C := RX4) (T := TX4) (N := 3) hx hb hg inX4 hown hK hP 0 rfl rfl 1 (by decide) (hg _ k210) (fun _ h9 => h9) rfl dX4_bitsOfAmount_1 ?_
  refine lv_if_ne (tgt := 11) hx hb dX4_bitsOfAmount_4 (by decide) (fun c9 => absurd (by decide) c9) (fun _ => ?_)
  refine lv_iconst (v := 0) hx hb dX4_bitsOfAmount_7 (by decide) ?_
  refine lv_goto (tgt := 33) hx hb dX4_bitsOfAmount_8 (by decide) ?_
  exact fi0 hx hb hr hlocks hK hS (Nat.le_of_ble_eq_true rfl) (Nat.le_of_ble_eq_true rfl) dX4_bitsOfAmount_33
set_option maxHeartbeats 4000000 in
set_option maxRecDepth 100000 in
theorem cX4_isAnyBitBelow_420 (l : Launch) (D : va_G) (h0 : Nat) (v0 : Value) (v1 : Value)   : CT l yX4_isAnyBitBelow cX4_isAnyBitBelow 4 (some .boolean) { frames := 1, cells := 0, slots := 0, locals := 21 } [.ref h0, .int 0] D [(h0, .inr (4, [v0, .int 0, v1]))] [] XN [] (ei (fun _ : Unit => True) (fun _ => 0) (fun _ => []) (fun _ => []) D) 0 0 := by
  refine CT.ofR (by decide +kernel) (Nat.le_of_ble_eq_true rfl) ?_
  intro p e s m below meth c A ls hcs hP hK hD hX hA hS hl
  obtain ⟨hx, hb, hr, hml, hown, hg, hlocks, hin⟩ := hcs
  have hown : s.vm.findClass RX4 = some m.cls := hown
  have hl : lv_has ls 4 [(0, .ref h0), (1, .int 0)] := hl
  refine lv_iload_n hx hb dX4_isAnyBitBelow_0 rfl (lv_at hl 1 rfl) ?_
  refine lv_bipush (v := 32) hx hb dX4_isAnyBitBelow_1 (by decide) ?_
  refine lv_idiv hx hb dX4_isAnyBitBelow_3 (by decide) ?_
  refine ti (0) (by decide) ?_
  refine lv_istore_n (lv' := [(2, .int 0), (0, .ref h0), (1, .int 0)]) hx hb dX4_isAnyBitBelow_4 rfl hl (by decide) rfl (fun ls hl => ?_)
  refine lv_iconst (v := 0) hx hb dX4_isAnyBitBelow_5 (by decide) ?_
  refine lv_istore_n (lv' := [(3, .int 0), (2, .int 0), (0, .ref h0), (1, .int 0)]) hx hb dX4_isAnyBitBelow_6 rfl hl (by decide) rfl (fun ls hl => ?_)
  refine lv_iload_n hx hb dX4_isAnyBitBelow_7 rfl (lv_at hl 0 rfl) ?_
  refine lv_iload_n hx hb dX4_isAnyBitBelow_8 rfl (lv_at hl 1 rfl) ?_
  refine lv_icmp_ge (tgt := 30) hx hb dX4_isAnyBitBelow_9 (by decide) (fun _ => ?_) (fun c9 => absurd (by decide) c9)
  refine lv_aload_n hx hb dX4_isAnyBitBelow_30 rfl (lv_at hl 2 rfl) ?_
  refine lv_iload_n hx hb dX4_isAnyBitBelow_31 rfl (lv_at hl 1 rfl) ?_
  refine cVl (n := 1) (As := [.int 0]) (rest := []) (wr := [(h0, .inr (4, [v0, .int 0, v1]))]) (tr := []) hx hb hml hown hg okN (cX4_limbAt_351 l D h0 v0 v1) (mwV k443 k445 k6 k88 k446) ⟨rfl, by decide, by decide, by decide +kernel⟩ ⟨rfl, rfl, (Nat.le_of_ble_eq_true rfl), (Nat.le_of_ble_eq_true rfl)⟩ hP hD hK hS xn [0] [] [0] [] [] rfl (by decide) rfl rfl (by decide) (by decide) rfl rfl (aNil hA hS) (fun _ _ => trivial) 0 rfl rfl rfl hl.1 rfl (Nat.le_of_ble_eq_true rfl) dX4_isAnyBitBelow_32 ⟨(Nat.le_of_ble_eq_true rfl), (Nat.le_of_ble_eq_true rfl)⟩ (fun u H locs hφ hP hD hK hS hk => ?_)
  have hP : va_P D vwCl [(h0, .inr (4, [v0, .int 0, v1]))] H := hP
  have hD : va_D (fun _ => True) [(h0, .inr (4, [v0, .int 0, v1]))] := hD
  have hK : va_K D vwCl [] s := hK
  refine W.widen (k := 0) (n := 0) (Nat.le_of_ble_eq_true rfl) (Nat.le_of_ble_eq_true rfl) ?_
  refine lv_lconst (v := 1) hx hb dX4_isAnyBitBelow_35 (by decide) ?_
  refine lv_iload_n hx hb dX4_isAnyBitBelow_36 rfl (lv_at hl 3 rfl) ?_
  refine lv_bipush (v := 32) hx hb dX4_isAnyBitBelow_37 (by decide) ?_
  refine lv_irem hx hb dX4_isAnyBitBelow_39 (by decide) ?_
  refine ti (0) (by decide) ?_
  refine lv_lshl (v := 1) hx hb dX4_isAnyBitBelow_40 (by decide) ?_
  refine lv_lconst (v := 1) hx hb dX4_isAnyBitBelow_41 (by decide) ?_
  refine lv_lsub hx hb dX4_isAnyBitBelow_42 ?_
  refine tl (0) (by decide) ?_
  refine lv_land hx hb dX4_isAnyBitBelow_43 ?_
  refine tl (0) (by decide) ?_
  refine lv_lconst (v := 0) hx hb dX4_isAnyBitBelow_44 (by decide) ?_
  refine W.lcmp hx hb dX4_isAnyBitBelow_45 ?_
  refine ti (0) (by decide) ?_
  refine lv_if_eq (tgt := 53) hx hb dX4_isAnyBitBelow_46 (by decide) (fun _ => ?_) (fun c9 => absurd (by decide) c9)
  refine lv_iconst (v := 0) hx hb dX4_isAnyBitBelow_53 (by decide) ?_
  exact fz0 hx hb hr rfl hlocks hK hS (Nat.le_of_ble_eq_true rfl) (Nat.le_of_ble_eq_true rfl) dX4_isAnyBitBelow_54
set_option maxHeartbeats 4000000 in
set_option maxRecDepth 100000 in
theorem cX4_toDouble_418 (l : Launch) (D : va_G) (h0 : Nat) (v0 : Value)   : CT l yX4_toDouble cX4_toDouble 7 (some .double) { frames := 2, cells := 0, slots := 0, locals := 46 } [.ref h0] D [(h0, .inr (4, [v0, .int 0, .int 0]))] [] XN [] (ed (fun _ : Unit => True) (fun _ => FP.l2d 0) (fun _ => []) (fun _ => []) D) 0 0 := by
  refine CT.ofR (by decide +kernel) (Nat.le_of_ble_eq_true rfl) ?_
  intro p e s m below meth c A ls hcs hP hK hD hX hA hS hl
  obtain ⟨hx, hb, hr, hml, hown, hg, hlocks, hin⟩ := hcs
  have hown : s.vm.findClass RX4 = some m.cls := hown
  have hl : lv_has ls 7 [(0, .ref h0)] := hl
  refine lv_iconst (v := 0) hx hb dX4_toDouble_0 (by decide) ?_
  refine lv_aload_n hx hb dX4_toDouble_1 rfl (lv_at hl 0 rfl) ?_
  refine cVi (n := 0) (As := []) (rest := [.int 0]) (wr := [(h0, .inr (4, [v0, .int 0, .int 0]))]) (tr := []) hx hb hml hown hg okN (cX4_bitsOfAmount_419 l D h0 v0 (.int 0)) (mwV k475 k476 k477 k88 k478) ⟨rfl, by decide, by decide, by decide +kernel⟩ ⟨rfl, rfl, (Nat.le_of_ble_eq_true rfl), (Nat.le_of_ble_eq_true rfl)⟩ hP hD hK hS xn [0] [] [0] [] [] rfl (by decide) rfl rfl (by decide) (by decide) rfl rfl (aNil hA hS) (fun _ _ => trivial) 0 rfl rfl rfl hl.1 rfl (Nat.le_of_ble_eq_true rfl) dX4_toDouble_2 ⟨(Nat.le_of_ble_eq_true rfl), (Nat.le_of_ble_eq_true rfl)⟩ (fun u H locs hφ hP hD hK hS hk => ?_)
  have hP : va_P D vwCl [(h0, .inr (4, [v0, .int 0, .int 0]))] H := hP
  have hD : va_D (fun _ => True) [(h0, .inr (4, [v0, .int 0, .int 0]))] := hD
  have hK : va_K D vwCl [] s := hK
  refine W.widen (k := 0) (n := 0) (Nat.le_of_ble_eq_true rfl) (Nat.le_of_ble_eq_true rfl) ?_
  refine lv_bipush (v := 62) hx hb dX4_toDouble_5 (by decide) ?_
  refine lv_isub hx hb dX4_toDouble_7 ?_
  refine ti ((-62)) (by decide) ?_
  refine va_mmax hx hb (hml.trans hl.1.symm) hown (hg _ k350) (hg _ k351) (hg _ k90) (hg _ k352) (Nat.le_of_ble_eq_true rfl) (Nat.le_of_ble_eq_true rfl) (Nat.le_of_ble_eq_true rfl) (Nat.le_of_ble_eq_true rfl) dX4_toDouble_8 ?_
  refine ti (0) (by decide) ?_
  refine lv_istore_n (lv' := [(1, .int 0), (0, .ref h0)]) hx hb dX4_toDouble_11 rfl hl (by decide) rfl (fun ls hl => ?_)
  refine lv_aload_n hx hb dX4_toDouble_12 rfl (lv_at hl 1 rfl) ?_
  refine lv_iload_n hx hb dX4_toDouble_13 rfl (lv_at hl 0 rfl) ?_
  refine cVi (n := 1) (As := [.int 0]) (rest := []) (wr := [(h0, .inr (4, [v0, .int 0, .int 0]))]) (tr := []) hx hb hml hown hg okN (cX4_isAnyBitBelow_420 l D h0 v0 (.int 0)) (mwV k483 k485 k7 k88 k486) ⟨rfl, by decide, by decide, by decide +kernel⟩ ⟨rfl, rfl, (Nat.le_of_ble_eq_true rfl), (Nat.le_of_ble_eq_true rfl)⟩ hP hD hK hS xn [0] [] [0] [] [] rfl (by decide) rfl rfl (by decide) (by decide) rfl rfl (aNil hA hS) (fun _ _ => trivial) 0 rfl rfl rfl hl.1 rfl (Nat.le_of_ble_eq_true rfl) dX4_toDouble_14 ⟨(Nat.le_of_ble_eq_true rfl), (Nat.le_of_ble_eq_true rfl)⟩ (fun u H locs hφ hP hD hK hS hk => ?_)
  have hP : va_P D vwCl [(h0, .inr (4, [v0, .int 0, .int 0]))] H := hP
  have hD : va_D (fun _ => True) [(h0, .inr (4, [v0, .int 0, .int 0]))] := hD
  have hK : va_K D vwCl [] s := hK
  refine W.widen (k := 0) (n := 0) (Nat.le_of_ble_eq_true rfl) (Nat.le_of_ble_eq_true rfl) ?_
  refine lv_if_eq (tgt := 30) hx hb dX4_toDouble_17 (by decide) (fun _ => ?_) (fun c9 => absurd (by decide) c9)
  refine lv_aload_n hx hb dX4_toDouble_30 rfl (lv_at hl 1 rfl) ?_
  refine lv_iload_n hx hb dX4_toDouble_31 rfl (lv_at hl 0 rfl) ?_
  refine cVl (n := 1) (As := [.int 0]) (rest := []) (wr := [(h0, .inr (4, [v0, .int 0, .int 0]))]) (tr := []) hx hb hml hown hg okN (cX4_amountFrom_349 l D h0 v0 (.int 0)) (mwV k439 k441 k5 k88 k442) ⟨rfl, by decide, by decide, by decide +kernel⟩ ⟨rfl, rfl, (Nat.le_of_ble_eq_true rfl), (Nat.le_of_ble_eq_true rfl)⟩ hP hD hK hS xn [0] [] [0] [] [] rfl (by decide) rfl rfl (by decide) (by decide) rfl rfl (aNil hA hS) (fun _ _ => trivial) 0 rfl rfl rfl hl.1 rfl (Nat.le_of_ble_eq_true rfl) dX4_toDouble_32 ⟨(Nat.le_of_ble_eq_true rfl), (Nat.le_of_ble_eq_true rfl)⟩ (fun u H locs hφ hP hD hK hS hk => ?_)
  have hP : va_P D vwCl [(h0, .inr (4, [v0, .int 0, .int 0]))] H := hP
  have hD : va_D (fun _ => True) [(h0, .inr (4, [v0, .int 0, .int 0]))] := hD
  have hK : va_K D vwCl [] s := hK
  refine W.widen (k := 0) (n := 0) (Nat.le_of_ble_eq_true rfl) (Nat.le_of_ble_eq_true rfl) ?_
  refine lv_lstore_n (lv' := [(2, .long 0), (1, .int 0), (0, .ref h0)]) hx hb dX4_toDouble_35 rfl hl (by decide) rfl (fun ls hl => ?_)
  refine lv_aload_n hx hb dX4_toDouble_36 rfl (lv_at hl 2 rfl) ?_
  refine va_get (D := D) (ci := 4) (v := .int 0) (C := RX4) (T := TX4) (N := 3) hx hb hg inX4 hown hK hP 0 rfl rfl 2 (by decide) (hg _ k211) (fun _ h9 => h9) rfl dX4_toDouble_37 ?_
  refine lv_if_eq (tgt := 48) hx hb dX4_toDouble_40 (by decide) (fun _ => ?_) (fun c9 => absurd (by decide) c9)
  refine lv_lload_n hx hb dX4_toDouble_48 rfl (lv_at hl 0 rfl) ?_
  refine lv_l2d hx hb dX4_toDouble_49 ?_
  refine lv_dstore (lv' := [(4, .double (FP.l2d 0)), (2, .long 0), (1, .int 0), (0, .ref h0)]) hx hb dX4_toDouble_50 hl (by decide) rfl (fun ls hl => ?_)
  refine lv_iconst (v := 0) hx hb dX4_toDouble_52 (by decide) ?_
  refine lv_istore (lv' := [(6, .int 0), (4, .double (FP.l2d 0)), (2, .long 0), (1, .int 0), (0, .ref h0)]) hx hb dX4_toDouble_53 hl (by decide) rfl (fun ls hl => ?_)
  refine lv_iload hx hb dX4_toDouble_55 (lv_at hl 0 rfl) ?_
  refine lv_iload_n hx hb dX4_toDouble_57 rfl (lv_at hl 3 rfl) ?_
  refine lv_icmp_ge (tgt := 75) hx hb dX4_toDouble_58 (by decide) (fun _ => ?_) (fun c9 => absurd (by decide) c9)
  refine lv_dload hx hb dX4_toDouble_75 (lv_at hl 1 rfl) ?_
  exact fd0 hx hb hr hlocks hK hS (Nat.le_of_ble_eq_true rfl) (Nat.le_of_ble_eq_true rfl) dX4_toDouble_77
set_option maxHeartbeats 4000000 in
set_option maxRecDepth 100000 in
theorem cX5_plainMean_416 (l : Launch) (D : va_G) (h0 : Nat) (h1 : Nat) (h2 : Nat) (h3 : Nat) (h4 : Nat) (h5 : Nat) (h6 : Nat) (h7 : Nat) (h8 : Nat) (h9 : Nat) (h10 : Nat) (v0 : Value) (v1 : Value) (v2 : Value) (v3 : Value) (v4 : Value) (v5 : Value) (v6 : Value) (v7 : Value) (v8 : Value) (v9 : Value) (v10 : Value) (v11 : Value) (v12 : Value) (v13 : Value) (v14 : Value) (v15 : Value) (v16 : Value) (v17 : Value) (v18 : Value) (f0 : Nat → Int32) (v19 : Value) (v20 : Value) (v21 : Value) (v22 : Value) (v23 : Value) (v24 : Value) (f1 : Nat → Int32) (f2 : Nat → Option Nat) (f3 : Nat → Int32) (f4 : Nat → Int32) (a0 : ClassId) (a1 : ClassId) (a2 : ClassId) (a3 : ClassId) (a4 : ClassId) (ef1_0 : f1 0 = (-1)) (ef1_1 : f1 1 = (-1)) (ef2_0 : f2 0 = some h7) (ef2_1 : f2 1 = some h9) (ef3_0 : f3 0 = 0) (ef4_0 : f4 0 = 0)  : CT l yX5_plainMean cX5_plainMean 1 (some .double) { frames := 3, cells := 0, slots := 0, locals := 72 } [.ref h0] D [(h0, .inr (5, [v0, v1, v2, .ref h1, v3, v4, v5, v6, v7, v8])), (h1, .inr (1, [.ref h4, .ref h6, v9, .ref h5, v10, .int 0, v11, v12, v13, v14, v15, v16, .ref h2])), (h2, .inr (4, [.ref h3, v17, v18])), (h3, .inl (a0, 2, .inl f0)), (h4, .inr (0, [v19, v20, .int 2, v21, v22, v23, v24])), (h5, .inl (a1, 48, .inl f1)), (h6, .inl (a2, 48, .inr (.inr (.inr (.inr f2))))), (h7, .inr (4, [.ref h8, .int 0, .int 0])), (h8, .inl (a3, 2, .inl f3)), (h9, .inr (4, [.ref h10, .int 0, .int 0])), (h10, .inl (a4, 2, .inl f4))] [(a0, .int), (a1, .int), (a2, .object "LiftingSignal$Whole"), (a3, .int), (a4, .int)] XN [(h0, .inr (5, [v0, v1, v2, .ref h1, v3, v4, v5, v6, v7, v8])), (h1, .inr (1, [.ref h4, .ref h6, v9, .ref h5, v10, .int 0, v11, v12, v13, v14, v15, v16, .ref h2])), (h2, .inr (4, [.ref h3, v17, v18])), (h3, .inl (a0, 2, .inl f0)), (h4, .inr (0, [v19, v20, .int 2, v21, v22, v23, v24])), (h5, .inl (a1, 48, .inl f1)), (h6, .inl (a2, 48, .inr (.inr (.inr (.inr f2))))), (h7, .inr (4, [.ref h8, .int 0, .int 0])), (h8, .inl (a3, 2, .inl f3)), (h9, .inr (4, [.ref h10, .int 0, .int 0])), (h10, .inl (a4, 2, .inl f4))] (ed (fun _ : UInt64 => True) (fun u => u) (fun _ => [(h0, .inr (5, [v0, v1, v2, .ref h1, v3, v4, v5, v6, v7, v8])), (h1, .inr (1, [.ref h4, .ref h6, v9, .ref h5, v10, .int 0, v11, v12, v13, v14, v15, v16, .ref h2])), (h2, .inr (4, [.ref h3, .int 0, .int 0])), (h3, .inl (a0, 2, .inl (upd (upd (upd (upd (upd (upd f0 0 0) 1 0) 0 0) 1 0) 0 0) 1 0))), (h4, .inr (0, [v19, v20, .int 2, v21, v22, v23, v24])), (h5, .inl (a1, 48, .inl f1)), (h6, .inl (a2, 48, .inr (.inr (.inr (.inr f2))))), (h7, .inr (4, [.ref h8, .int 0, .int 0])), (h8, .inl (a3, 2, .inl f3)), (h9, .inr (4, [.ref h10, .int 0, .int 0])), (h10, .inl (a4, 2, .inl f4))]) (fun u => [(a0, .int), (a1, .int), (a2, .object "LiftingSignal$Whole"), (a3, .int), (a4, .int)]) D) 0 0 := by
  refine CT.ofW (by decide +kernel) (Nat.le_of_ble_eq_true rfl) ?_
  intro p e s m below meth c A ls hcs hP hK hD hX hA hS hl
  obtain ⟨hx, hb, hr, hml, hown, hg, hlocks, hin⟩ := hcs
  have hown : s.vm.findClass RX5 = some m.cls := hown
  have hl : lv_has ls 1 [(0, .ref h0)] := hl
  refine lv_aload_n hx hb dX5_plainMean_0 rfl (lv_at hl 0 rfl) ?_
  refine va_get (D := D) (ci := 5) (v := .ref h1) (C := RX5) (T := TX5) (N := 10) hx hb hg inX5 hown hK hP 0 rfl rfl 3 (by decide) (hg _ k382) (fun _ h9 => h9) rfl dX5_plainMean_1 ?_
  refine cVr (n := 0) (As := []) (rest := []) (wr := [(h0, .inr (5, [v0, v1, v2, .ref h1, v3, v4, v5, v6, v7, v8]))]) (tr := []) hx hb hml hown hg okN (cX1_valueSum_417 l D h1 h2 h3 h4 h5 h6 h7 h8 h9 h10 v9 v10 (.int 0) v11 v12 v13 v14 v15 v16 v17 v18 f0 v19 v20 v21 v22 v23 v24 f1 f2 f3 f4 a0 a1 a2 a3 a4 ef1_0 ef1_1 ef2_0 ef2_1 ef3_0 ef4_0) (mwV k467 k468 k469 k87 k470) ⟨rfl, by decide, by decide, by decide +kernel⟩ ⟨rfl, rfl, (Nat.le_of_ble_eq_true rfl), (Nat.le_of_ble_eq_true rfl)⟩ hP hD hK hS xn [1, 2, 3, 4, 5, 6, 7, 8, 9, 10] [1, 2, 3, 4, 5, 6, 7, 8, 9, 10] [0] [0, 1, 2, 3, 4] [] rfl (by decide) rfl rfl (by decide) (by decide) rfl rfl (va_free hD hS hA [1, 2, 3, 4, 5, 6, 7, 8, 9, 10] rfl) (va_free hD hS hA [1, 2, 3, 4, 5, 6, 7, 8, 9, 10] rfl) 1 rfl rfl rfl hl.1 rfl (Nat.le_of_ble_eq_true rfl) dX5_plainMean_4 ⟨(Nat.le_of_ble_eq_true rfl), (Nat.le_of_ble_eq_true rfl)⟩ (fun u H locs hφ hP hD hK hS hk => ?_)
  have hP : va_P D vwCl [(h0, .inr (5, [v0, v1, v2, .ref h1, v3, v4, v5, v6, v7, v8])), (h1, .inr (1, [.ref h4, .ref h6, v9, .ref h5, v10, .int 0, v11, v12, v13, v14, v15, v16, .ref h2])), (h2, .inr (4, [.ref h3, .int 0, .int 0])), (h3, .inl (a0, 2, .inl (upd (upd (upd (upd (upd (upd f0 0 0) 1 0) 0 0) 1 0) 0 0) 1 0))), (h4, .inr (0, [v19, v20, .int 2, v21, v22, v23, v24])), (h5, .inl (a1, 48, .inl f1)), (h6, .inl (a2, 48, .inr (.inr (.inr (.inr f2))))), (h7, .inr (4, [.ref h8, .int 0, .int 0])), (h8, .inl (a3, 2, .inl f3)), (h9, .inr (4, [.ref h10, .int 0, .int 0])), (h10, .inl (a4, 2, .inl f4))] H := hP
  have hD : va_D A [(h0, .inr (5, [v0, v1, v2, .ref h1, v3, v4, v5, v6, v7, v8])), (h1, .inr (1, [.ref h4, .ref h6, v9, .ref h5, v10, .int 0, v11, v12, v13, v14, v15, v16, .ref h2])), (h2, .inr (4, [.ref h3, .int 0, .int 0])), (h3, .inl (a0, 2, .inl (upd (upd (upd (upd (upd (upd f0 0 0) 1 0) 0 0) 1 0) 0 0) 1 0))), (h4, .inr (0, [v19, v20, .int 2, v21, v22, v23, v24])), (h5, .inl (a1, 48, .inl f1)), (h6, .inl (a2, 48, .inr (.inr (.inr (.inr f2))))), (h7, .inr (4, [.ref h8, .int 0, .int 0])), (h8, .inl (a3, 2, .inl f3)), (h9, .inr (4, [.ref h10, .int 0, .int 0])), (h10, .inl (a4, 2, .inl f4))] := hD
  have hK : va_K D vwCl [(a0, .int), (a1, .int), (a2, .object "LiftingSignal$Whole"), (a3, .int), (a4, .int)] s := hK
  refine W.widen (k := 0) (n := 0) (Nat.le_of_ble_eq_true rfl) (Nat.le_of_ble_eq_true rfl) ?_
  refine cVd (n := 0) (As := []) (rest := []) (wr := [(h0, .inr (5, [v0, v1, v2, .ref h1, v3, v4, v5, v6, v7, v8])), (h1, .inr (1, [.ref h4, .ref h6, v9, .ref h5, v10, .int 0, v11, v12, v13, v14, v15, v16, .ref h2])), (h2, .inr (4, [.ref h3, .int 0, .int 0])), (h3, .inl (a0, 2, .inl (upd (upd (upd (upd (upd (upd f0 0 0) 1 0) 0 0) 1 0) 0 0) 1 0))), (h4, .inr (0, [v19, v20, .int 2, v21, v22, v23, v24])), (h5, .inl (a1, 48, .inl f1)), (h6, .inl (a2, 48, .inr (.inr (.inr (.inr f2))))), (h7, .inr (4, [.ref h8, .int 0, .int 0])), (h8, .inl (a3, 2, .inl f3)), (h9, .inr (4, [.ref h10, .int 0, .int 0])), (h10, .inl (a4, 2, .inl f4))]) (tr := [(a0, .int), (a1, .int), (a2, .object "LiftingSignal$Whole"), (a3, .int), (a4, .int)]) hx hb hml hown hg okN (cX4_toDouble_418 l D h2 (.ref h3)) (mwV k471 k472 k473 k88 k474) ⟨rfl, by decide, by decide, by decide +kernel⟩ ⟨rfl, rfl, (Nat.le_of_ble_eq_true rfl), (Nat.le_of_ble_eq_true rfl)⟩ hP hD hK hS xn [2] [] [0, 1, 2, 3, 4, 5, 6, 7, 8, 9, 10] [] [0, 1, 2, 3, 4] rfl (by decide) rfl rfl (by decide) (by decide) rfl rfl (aNil hA hS) (aNil hA hS) 2 rfl rfl rfl hl.1 rfl (Nat.le_of_ble_eq_true rfl) dX5_plainMean_7 ⟨(Nat.le_of_ble_eq_true rfl), (Nat.le_of_ble_eq_true rfl)⟩ (fun u H locs hφ hP hD hK hS hk => ?_)
  have hP : va_P D vwCl [(h0, .inr (5, [v0, v1, v2, .ref h1, v3, v4, v5, v6, v7, v8])), (h1, .inr (1, [.ref h4, .ref h6, v9, .ref h5, v10, .int 0, v11, v12, v13, v14, v15, v16, .ref h2])), (h2, .inr (4, [.ref h3, .int 0, .int 0])), (h3, .inl (a0, 2, .inl (upd (upd (upd (upd (upd (upd f0 0 0) 1 0) 0 0) 1 0) 0 0) 1 0))), (h4, .inr (0, [v19, v20, .int 2, v21, v22, v23, v24])), (h5, .inl (a1, 48, .inl f1)), (h6, .inl (a2, 48, .inr (.inr (.inr (.inr f2))))), (h7, .inr (4, [.ref h8, .int 0, .int 0])), (h8, .inl (a3, 2, .inl f3)), (h9, .inr (4, [.ref h10, .int 0, .int 0])), (h10, .inl (a4, 2, .inl f4))] H := hP
  have hD : va_D A [(h0, .inr (5, [v0, v1, v2, .ref h1, v3, v4, v5, v6, v7, v8])), (h1, .inr (1, [.ref h4, .ref h6, v9, .ref h5, v10, .int 0, v11, v12, v13, v14, v15, v16, .ref h2])), (h2, .inr (4, [.ref h3, .int 0, .int 0])), (h3, .inl (a0, 2, .inl (upd (upd (upd (upd (upd (upd f0 0 0) 1 0) 0 0) 1 0) 0 0) 1 0))), (h4, .inr (0, [v19, v20, .int 2, v21, v22, v23, v24])), (h5, .inl (a1, 48, .inl f1)), (h6, .inl (a2, 48, .inr (.inr (.inr (.inr f2))))), (h7, .inr (4, [.ref h8, .int 0, .int 0])), (h8, .inl (a3, 2, .inl f3)), (h9, .inr (4, [.ref h10, .int 0, .int 0])), (h10, .inl (a4, 2, .inl f4))] := hD
  have hK : va_K D vwCl [(a0, .int), (a1, .int), (a2, .object "LiftingSignal$Whole"), (a3, .int), (a4, .int)] s := hK
  refine W.widen (k := 0) (n := 0) (Nat.le_of_ble_eq_true rfl) (Nat.le_of_ble_eq_true rfl) ?_
  refine lv_aload_n hx hb dX5_plainMean_10 rfl (lv_at hl 0 rfl) ?_
  refine va_get (D := D) (ci := 5) (v := .ref h1) (C := RX5) (T := TX5) (N := 10) hx hb hg inX5 hown hK hP 0 rfl rfl 3 (by decide) (hg _ k382) (fun _ h9 => h9) rfl dX5_plainMean_11 ?_
  refine cVi (n := 0) (As := []) (rest := [.double (FP.l2d 0)]) (wr := [(h0, .inr (5, [v0, v1, v2, .ref h1, v3, v4, v5, v6, v7, v8])), (h1, .inr (1, [.ref h4, .ref h6, v9, .ref h5, v10, .int 0, v11, v12, v13, v14, v15, v16, .ref h2])), (h2, .inr (4, [.ref h3, .int 0, .int 0])), (h3, .inl (a0, 2, .inl (upd (upd (upd (upd (upd (upd f0 0 0) 1 0) 0 0) 1 0) 0 0) 1 0))), (h4, .inr (0, [v19, v20, .int 2, v21, v22, v23, v24])), (h5, .inl (a1, 48, .inl f1)), (h6, .inl (a2, 48, .inr (.inr (.inr (.inr f2))))), (h7, .inr (4, [.ref h8, .int 0, .int 0])), (h8, .inl (a3, 2, .inl f3)), (h9, .inr (4, [.ref h10, .int 0, .int 0])), (h10, .inl (a4, 2, .inl f4))]) (tr := [(a0, .int), (a1, .int), (a2, .object "LiftingSignal$Whole"), (a3, .int), (a4, .int)]) hx hb hml hown hg okN (cX1_presentCount_326 l D h1 h4 (.ref h6) v9 (.ref h5) v10 v11 v12 v13 v14 v15 v16 (.ref h2) v19 v20 v21 v22 v23 v24) (mwV k488 k489 k490 k87 k491) ⟨rfl, by decide, by decide, by decide +kernel⟩ ⟨rfl, rfl, (Nat.le_of_ble_eq_true rfl), (Nat.le_of_ble_eq_true rfl)⟩ hP hD hK hS xn [1, 4] [] [0, 1, 2, 3, 4, 5, 6, 7, 8, 9, 10] [] [0, 1, 2, 3, 4] rfl (by decide) rfl rfl (by decide) (by decide) rfl rfl (aNil hA hS) (aNil hA hS) 1 rfl rfl rfl hl.1 rfl (Nat.le_of_ble_eq_true rfl) dX5_plainMean_14 ⟨(Nat.le_of_ble_eq_true rfl), (Nat.le_of_ble_eq_true rfl)⟩ (fun u H locs hφ hP hD hK hS hk => ?_)
  have hP : va_P D vwCl [(h0, .inr (5, [v0, v1, v2, .ref h1, v3, v4, v5, v6, v7, v8])), (h1, .inr (1, [.ref h4, .ref h6, v9, .ref h5, v10, .int 0, v11, v12, v13, v14, v15, v16, .ref h2])), (h2, .inr (4, [.ref h3, .int 0, .int 0])), (h3, .inl (a0, 2, .inl (upd (upd (upd (upd (upd (upd f0 0 0) 1 0) 0 0) 1 0) 0 0) 1 0))), (h4, .inr (0, [v19, v20, .int 2, v21, v22, v23, v24])), (h5, .inl (a1, 48, .inl f1)), (h6, .inl (a2, 48, .inr (.inr (.inr (.inr f2))))), (h7, .inr (4, [.ref h8, .int 0, .int 0])), (h8, .inl (a3, 2, .inl f3)), (h9, .inr (4, [.ref h10, .int 0, .int 0])), (h10, .inl (a4, 2, .inl f4))] H := hP
  have hD : va_D A [(h0, .inr (5, [v0, v1, v2, .ref h1, v3, v4, v5, v6, v7, v8])), (h1, .inr (1, [.ref h4, .ref h6, v9, .ref h5, v10, .int 0, v11, v12, v13, v14, v15, v16, .ref h2])), (h2, .inr (4, [.ref h3, .int 0, .int 0])), (h3, .inl (a0, 2, .inl (upd (upd (upd (upd (upd (upd f0 0 0) 1 0) 0 0) 1 0) 0 0) 1 0))), (h4, .inr (0, [v19, v20, .int 2, v21, v22, v23, v24])), (h5, .inl (a1, 48, .inl f1)), (h6, .inl (a2, 48, .inr (.inr (.inr (.inr f2))))), (h7, .inr (4, [.ref h8, .int 0, .int 0])), (h8, .inl (a3, 2, .inl f3)), (h9, .inr (4, [.ref h10, .int 0, .int 0])), (h10, .inl (a4, 2, .inl f4))] := hD
  have hK : va_K D vwCl [(a0, .int), (a1, .int), (a2, .object "LiftingSignal$Whole"), (a3, .int), (a4, .int)] s := hK
  refine W.widen (k := 0) (n := 0) (Nat.le_of_ble_eq_true rfl) (Nat.le_of_ble_eq_true rfl) ?_
  refine lv_i2d hx hb dX5_plainMean_17 ?_
  refine lv_ddiv hx hb dX5_plainMean_18 (by unfold vf_n64; decide +kernel) ?_
  exact fd hx hb hr hlocks hP hD hK hS (FP.ddiv (FP.l2d 0) (FP.i2d 2)) trivial rfl [0, 1, 2, 3, 4, 5, 6, 7, 8, 9, 10] [0, 1, 2, 3, 4] rfl (by decide) rfl (Nat.le_of_ble_eq_true rfl) (Nat.le_of_ble_eq_true rfl) dX5_plainMean_19
set_option maxHeartbeats 4000000 in
set_option maxRecDepth 100000 in
theorem cX1_energyOfDetails_422 (l : Launch) (D : va_G) (h0 : Nat) (v0 : Value) (v1 : Value) (v2 : Value) (v3 : Value) (v4 : Value) (v5 : Value) (v6 : Value) (v7 : Value) (v8 : Value) (v9 : Value) (v10 : Value) (v11 : Value)   : CT l yX1_energyOfDetails cX1_energyOfDetails 6 (some .long) { frames := 0, cells := 0, slots := 0, locals := 0 } [.ref h0] D [(h0, .inr (1, [v0, v1, v2, v3, v4, .int 0, v5, v6, v7, v8, v9, v10, v11]))] [] XN [] (el (fun _ : Unit => True) (fun _ => 0) (fun _ => []) (fun _ => []) D) 0 0 := by
  refine CT.ofR (by decide +kernel) (Nat.le_of_ble_eq_true rfl) ?_
  intro p e s m below meth c A ls hcs hP hK hD hX hA hS hl
  obtain ⟨hx, hb, hr, hml, hown, hg, hlocks, hin⟩ := hcs
  have hown : s.vm.findClass RX1 = some m.cls := hown
  have hl : lv_has ls 6 [(0, .ref h0)] := hl
  refine lv_lconst (v := 0) hx hb dX1_energyOfDetails_0 (by decide) ?_
  refine lv_lstore_n (lv' := [(1, .long 0), (0, .ref h0)]) hx hb dX1_energyOfDetails_1 rfl hl (by decide) rfl (fun ls hl => ?_)
  refine lv_iconst (v := 0) hx hb dX1_energyOfDetails_2 (by decide) ?_
  refine lv_istore_n (lv' := [(3, .int 0), (1, .long 0), (0, .ref h0)]) hx hb dX1_energyOfDetails_3 rfl hl (by decide) rfl (fun ls hl => ?_)
  refine lv_iload_n hx hb dX1_energyOfDetails_4 rfl (lv_at hl 0 rfl) ?_
  refine lv_aload_n hx hb dX1_energyOfDetails_5 rfl (lv_at hl 2 rfl) ?_
  refine va_get (D := D) (ci := 1) (v := .int 0) (C := RX1) (T := TX1) (N := 13) hx hb hg inX1 hown hK hP 0 rfl rfl 5 (by decide) (hg _ k287) (fun _ h9 => h9) rfl dX1_energyOfDetails_6 ?_
  refine lv_icmp_ge (tgt := 50) hx hb dX1_energyOfDetails_9 (by decide) (fun _ => ?_) (fun c9 => absurd (by decide) c9)
  refine lv_lload_n hx hb dX1_energyOfDetails_50 rfl (lv_at hl 1 rfl) ?_
  exact fl0 hx hb hr hlocks hK hS (Nat.le_of_ble_eq_true rfl) (Nat.le_of_ble_eq_true rfl) dX1_energyOfDetails_51
set_option maxHeartbeats 4000000 in
set_option maxRecDepth 100000 in
theorem cX5_energy_421 (l : Launch) (D : va_G) (h0 : Nat) (h1 : Nat) (v0 : Value) (v1 : Value) (v2 : Value) (v3 : Value) (v4 : Value) (v5 : Value) (v6 : Value) (v7 : Value) (v8 : Value) (v9 : Value) (v10 : Value) (v11 : Value) (v12 : Value) (v13 : Value) (v14 : Value) (v15 : Value) (v16 : Value) (v17 : Value) (v18 : Value) (v19 : Value) (v20 : Value)   : CT l yX5_energy cX5_energy 1 (some .long) { frames := 1, cells := 0, slots := 0, locals := 25 } [.ref h0] D [(h0, .inr (5, [v0, v1, v2, .ref h1, v3, v4, v5, v6, v7, v8])), (h1, .inr (1, [v9, v10, v11, v12, v13, .int 0, v14, v15, v16, v17, v18, v19, v20]))] [] XN [] (el (fun _ : Unit => True) (fun _ => 0) (fun _ => []) (fun _ => []) D) 0 0 := by
  refine CT.ofR (by decide +kernel) (Nat.le_of_ble_eq_true rfl) ?_
  intro p e s m below meth c A ls hcs hP hK hD hX hA hS hl
  obtain ⟨hx, hb, hr, hml, hown, hg, hlocks, hin⟩ := hcs
  have hown : s.vm.findClass RX5 = some m.cls := hown
  have hl : lv_has ls 1 [(0, .ref h0)] := hl
  refine lv_aload_n hx hb dX5_energy_0 rfl (lv_at hl 0 rfl) ?_
  refine va_get (D := D) (ci := 5) (v := .ref h1) (C := RX5) (T := TX5) (N := 10) hx hb hg inX5 hown hK hP 0 rfl rfl 3 (by decide) (hg _ k382) (fun _ h9 => h9) rfl dX5_energy_1 ?_
  refine cVl (n := 0) (As := []) (rest := []) (wr := [(h0, .inr (5, [v0, v1, v2, .ref h1, v3, v4, v5, v6, v7, v8])), (h1, .inr (1, [v9, v10, v11, v12, v13, .int 0, v14, v15, v16, v17, v18, v19, v20]))]) (tr := []) hx hb hml hown hg okN (cX1_energyOfDetails_422 l D h1 v9 v10 v11 v12 v13 v14 v15 v16 v17 v18 v19 v20) (mwV k496 k497 k498 k87 k499) ⟨rfl, by decide, by decide, by decide +kernel⟩ ⟨rfl, rfl, (Nat.le_of_ble_eq_true rfl), (Nat.le_of_ble_eq_true rfl)⟩ hP hD hK hS xn [1] [] [0, 1] [] [] rfl (by decide) rfl rfl (by decide) (by decide) rfl rfl (aNil hA hS) (fun _ _ => trivial) 1 rfl rfl rfl hl.1 rfl (Nat.le_of_ble_eq_true rfl) dX5_energy_4 ⟨(Nat.le_of_ble_eq_true rfl), (Nat.le_of_ble_eq_true rfl)⟩ (fun u H locs hφ hP hD hK hS hk => ?_)
  have hP : va_P D vwCl [(h0, .inr (5, [v0, v1, v2, .ref h1, v3, v4, v5, v6, v7, v8])), (h1, .inr (1, [v9, v10, v11, v12, v13, .int 0, v14, v15, v16, v17, v18, v19, v20]))] H := hP
  have hD : va_D (fun _ => True) [(h0, .inr (5, [v0, v1, v2, .ref h1, v3, v4, v5, v6, v7, v8])), (h1, .inr (1, [v9, v10, v11, v12, v13, .int 0, v14, v15, v16, v17, v18, v19, v20]))] := hD
  have hK : va_K D vwCl [] s := hK
  refine W.widen (k := 0) (n := 0) (Nat.le_of_ble_eq_true rfl) (Nat.le_of_ble_eq_true rfl) ?_
  exact fl0 hx hb hr hlocks hK hS (Nat.le_of_ble_eq_true rfl) (Nat.le_of_ble_eq_true rfl) dX5_energy_7
set_option maxHeartbeats 4000000 in
set_option maxRecDepth 100000 in
theorem cX1_bitsOfDetails_424 (l : Launch) (D : va_G) (h0 : Nat) (v0 : Value) (v1 : Value) (v2 : Value) (v3 : Value) (v4 : Value) (v5 : Value) (v6 : Value) (v7 : Value) (v8 : Value) (v9 : Value) (v10 : Value) (v11 : Value)   : CT l yX1_bitsOfDetails cX1_bitsOfDetails 3 (some .int) { frames := 0, cells := 0, slots := 0, locals := 0 } [.ref h0] D [(h0, .inr (1, [v0, v1, v2, v3, v4, .int 0, v5, v6, v7, v8, v9, v10, v11]))] [] XN [] (ei (fun _ : Unit => True) (fun _ => 0) (fun _ => []) (fun _ => []) D) 0 0 := by
  refine CT.ofR (by decide +kernel) (Nat.le_of_ble_eq_true rfl) ?_
  intro p e s m below meth c A ls hcs hP hK hD hX hA hS hl
  obtain ⟨hx, hb, hr, hml, hown, hg, hlocks, hin⟩ := hcs
  have hown : s.vm.findClass RX1 = some m.cls := hown
  have hl : lv_has ls 3 [(0, .ref h0)] := hl
  refine lv_iconst (v := 0) hx hb dX1_bitsOfDetails_0 (by decide) ?_
  refine lv_istore_n (lv' := [(1, .int 0), (0, .ref h0)]) hx hb dX1_bitsOfDetails_1 rfl hl (by decide) rfl (fun ls hl => ?_)
  refine lv_iconst (v := 0) hx hb dX1_bitsOfDetails_2 (by decide) ?_
  refine lv_istore_n (lv' := [(2, .int 0), (1, .int 0), (0, .ref h0)]) hx hb dX1_bitsOfDetails_3 rfl hl (by decide) rfl (fun ls hl => ?_)
  refine lv_iload_n hx hb dX1_bitsOfDetails_4 rfl (lv_at hl 0 rfl) ?_
  refine lv_aload_n hx hb dX1_bitsOfDetails_5 rfl (lv_at hl 2 rfl) ?_
  refine va_get (D := D) (ci := 1) (v := .int 0) (C := RX1) (T := TX1) (N := 13) hx hb hg inX1 hown hK hP 0 rfl rfl 5 (by decide) (hg _ k287) (fun _ h9 => h9) rfl dX1_bitsOfDetails_6 ?_
  refine lv_icmp_ge (tgt := 35) hx hb dX1_bitsOfDetails_9 (by decide) (fun _ => ?_) (fun c9 => absurd (by decide) c9)
  refine lv_iload_n hx hb dX1_bitsOfDetails_35 rfl (lv_at hl 1 rfl) ?_
  exact fi0 hx hb hr hlocks hK hS (Nat.le_of_ble_eq_true rfl) (Nat.le_of_ble_eq_true rfl) dX1_bitsOfDetails_36
set_option maxHeartbeats 4000000 in
set_option maxRecDepth 100000 in
theorem cX5_bits_423 (l : Launch) (D : va_G) (h0 : Nat) (h1 : Nat) (v0 : Value) (v1 : Value) (v2 : Value) (v3 : Value) (v4 : Value) (v5 : Value) (v6 : Value) (v7 : Value) (v8 : Value) (v9 : Value) (v10 : Value) (v11 : Value) (v12 : Value) (v13 : Value) (v14 : Value) (v15 : Value) (v16 : Value) (v17 : Value) (v18 : Value) (v19 : Value) (v20 : Value)   : CT l yX5_bits cX5_bits 1 (some .int) { frames := 1, cells := 0, slots := 0, locals := 22 } [.ref h0] D [(h0, .inr (5, [v0, v1, v2, .ref h1, v3, v4, v5, v6, v7, v8])), (h1, .inr (1, [v9, v10, v11, v12, v13, .int 0, v14, v15, v16, v17, v18, v19, v20]))] [] XN [] (ei (fun _ : Unit => True) (fun _ => 0) (fun _ => []) (fun _ => []) D) 0 0 := by
  refine CT.ofR (by decide +kernel) (Nat.le_of_ble_eq_true rfl) ?_
  intro p e s m below meth c A ls hcs hP hK hD hX hA hS hl
  obtain ⟨hx, hb, hr, hml, hown, hg, hlocks, hin⟩ := hcs
  have hown : s.vm.findClass RX5 = some m.cls := hown
  have hl : lv_has ls 1 [(0, .ref h0)] := hl
  refine lv_aload_n hx hb dX5_bits_0 rfl (lv_at hl 0 rfl) ?_
  refine va_get (D := D) (ci := 5) (v := .ref h1) (C := RX5) (T := TX5) (N := 10) hx hb hg inX5 hown hK hP 0 rfl rfl 3 (by decide) (hg _ k382) (fun _ h9 => h9) rfl dX5_bits_1 ?_
  refine cVi (n := 0) (As := []) (rest := []) (wr := [(h0, .inr (5, [v0, v1, v2, .ref h1, v3, v4, v5, v6, v7, v8])), (h1, .inr (1, [v9, v10, v11, v12, v13, .int 0, v14, v15, v16, v17, v18, v19, v20]))]) (tr := []) hx hb hml hown hg okN (cX1_bitsOfDetails_424 l D h1 v9 v10 v11 v12 v13 v14 v15 v16 v17 v18 v19 v20) (mwV k505 k506 k507 k87 k508) ⟨rfl, by decide, by decide, by decide +kernel⟩ ⟨rfl, rfl, (Nat.le_of_ble_eq_true rfl), (Nat.le_of_ble_eq_true rfl)⟩ hP hD hK hS xn [1] [] [0, 1] [] [] rfl (by decide) rfl rfl (by decide) (by decide) rfl rfl (aNil hA hS) (fun _ _ => trivial) 1 rfl rfl rfl hl.1 rfl (Nat.le_of_ble_eq_true rfl) dX5_bits_4 ⟨(Nat.le_of_ble_eq_true rfl), (Nat.le_of_ble_eq_true rfl)⟩ (fun u H locs hφ hP hD hK hS hk => ?_)
  have hP : va_P D vwCl [(h0, .inr (5, [v0, v1, v2, .ref h1, v3, v4, v5, v6, v7, v8])), (h1, .inr (1, [v9, v10, v11, v12, v13, .int 0, v14, v15, v16, v17, v18, v19, v20]))] H := hP
  have hD : va_D (fun _ => True) [(h0, .inr (5, [v0, v1, v2, .ref h1, v3, v4, v5, v6, v7, v8])), (h1, .inr (1, [v9, v10, v11, v12, v13, .int 0, v14, v15, v16, v17, v18, v19, v20]))] := hD
  have hK : va_K D vwCl [] s := hK
  refine W.widen (k := 0) (n := 0) (Nat.le_of_ble_eq_true rfl) (Nat.le_of_ble_eq_true rfl) ?_
  exact fi0 hx hb hr hlocks hK hS (Nat.le_of_ble_eq_true rfl) (Nat.le_of_ble_eq_true rfl) dX5_bits_7
set_option maxHeartbeats 4000000 in
set_option maxRecDepth 100000 in
theorem cX5_largest_425 (l : Launch) (D : va_G) (hlt : l.stackTraces = false) (h0 : Nat) (x0 : Int32) (h1 : Nat) (v0 : Value) (v1 : Value) (v2 : Value) (v3 : Value) (v4 : Value) (v5 : Value) (v6 : Value) (v7 : Value) (v8 : Value) (v9 : Value) (v10 : Value) (v11 : Value) (v12 : Value) (v13 : Value) (v14 : Value) (v15 : Value) (v16 : Value) (v17 : Value) (v18 : Value) (v19 : Value) (v20 : Value)  (d0 : x0 < 0) : CX l yX5_largest cX5_largest 2 (some .int) { frames := 7, cells := 1, slots := 6, locals := 111 } [.ref h0, .int x0] D [(h0, .inr (5, [v0, v1, v2, .ref h1, v3, v4, v5, v6, v7, v8])), (h1, .inr (1, [v9, v10, v11, v12, v13, .int 0, v14, v15, v16, v17, v18, v19, v20]))] [] XX [] xi "java/lang/IndexOutOfBoundsException" 1 6 := by
  refine CX.ofR (by decide +kernel) (Nat.le_of_ble_eq_true rfl) ?_
  intro p e s m below meth c A ls hcs hout hP hK hD hX hA hS hl
  obtain ⟨hx, hb, hr, hml, hown, hg, hlocks, hin⟩ := hcs
  have hown : s.vm.findClass RX5 = some m.cls := hown
  have hl : lv_has ls 2 [(0, .ref h0), (1, .int x0)] := hl
  refine lv_iload_n hx hb dX5_largest_0 rfl (lv_at hl 1 rfl) ?_
  refine lv_aload_n hx hb dX5_largest_1 rfl (lv_at hl 0 rfl) ?_
  refine va_get (D := D) (ci := 5) (v := .ref h1) (C := RX5) (T := TX5) (N := 10) hx hb hg inX5 hown hK hP 0 rfl rfl 3 (by decide) (hg _ k382) (fun _ h9 => h9) rfl dX5_largest_2 ?_
  refine va_get (D := D) (ci := 1) (v := .int 0) (C := RX1) (T := TX1) (N := 13) hx hb hg inX1 hown hK hP 1 rfl rfl 5 (by decide) (hg _ k288) (fun _ h9 => h9) rfl dX5_largest_5 ?_
  exact xSv (n := 2) (As := [.int x0, .int 0]) (rest := []) hx hb hml hown hg okXX (cX5_needIndex_381 l D hlt x0 d0) (mwS k610 k611 k84 k612) ⟨rfl, by decide, by decide, by decide +kernel⟩ ⟨rfl, rfl, (Nat.le_of_ble_eq_true rfl), (Nat.le_of_ble_eq_true rfl)⟩ hP hD hK hS (okXX.2.2 _ _ _ _ hS.2.1 hX) [] [] rfl (by decide) rfl (aNil hA hS) rfl hl.1 rfl (Nat.le_of_ble_eq_true rfl) dX5_largest_8 ⟨(Nat.le_of_ble_eq_true rfl), (Nat.le_of_ble_eq_true rfl)⟩ hout hlocks (Nat.le_of_ble_eq_true rfl) (Nat.le_of_ble_eq_true rfl)
set_option maxHeartbeats 4000000 in
set_option maxRecDepth 100000 in
theorem cX5_largest_426 (l : Launch) (D : va_G) (hlt : l.stackTraces = false) (h0 : Nat) (x0 : Int32) (h1 : Nat) (v0 : Value) (v1 : Value) (v2 : Value) (v3 : Value) (v4 : Value) (v5 : Value) (v6 : Value) (v7 : Value) (v8 : Value) (v9 : Value) (v10 : Value) (v11 : Value) (v12 : Value) (v13 : Value) (v14 : Value) (v15 : Value) (v16 : Value) (v17 : Value) (v18 : Value) (v19 : Value) (v20 : Value)  (d0 : ¬ (x0 < 0)) : CX l yX5_largest cX5_largest 2 (some .int) { frames := 7, cells := 1, slots := 6, locals := 111 } [.ref h0, .int x0] D [(h0, .inr (5, [v0, v1, v2, .ref h1, v3, v4, v5, v6, v7, v8])), (h1, .inr (1, [v9, v10, v11, v12, v13, .int 0, v14, v15, v16, v17, v18, v19, v20]))] [] XX [] xi "java/lang/IndexOutOfBoundsException" 1 6 := by
  refine CX.ofR (by decide +kernel) (Nat.le_of_ble_eq_true rfl) ?_
  intro p e s m below meth c A ls hcs hout hP hK hD hX hA hS hl
  obtain ⟨hx, hb, hr, hml, hown, hg, hlocks, hin⟩ := hcs
  have hown : s.vm.findClass RX5 = some m.cls := hown
  have hl : lv_has ls 2 [(0, .ref h0), (1, .int x0)] := hl
  refine lv_iload_n hx hb dX5_largest_0 rfl (lv_at hl 1 rfl) ?_
  refine lv_aload_n hx hb dX5_largest_1 rfl (lv_at hl 0 rfl) ?_
  refine va_get (D := D) (ci := 5) (v := .ref h1) (C := RX5) (T := TX5) (N := 10) hx hb hg inX5 hown hK hP 0 rfl rfl 3 (by decide) (hg _ k382) (fun _ h9 => h9) rfl dX5_largest_2 ?_
  refine va_get (D := D) (ci := 1) (v := .int 0) (C := RX1) (T := TX1) (N := 13) hx hb hg inX1 hown hK hP 1 rfl rfl 5 (by decide) (hg _ k288) (fun _ h9 => h9) rfl dX5_largest_5 ?_
  exact xSv (n := 2) (As := [.int x0, .int 0]) (rest := []) hx hb hml hown hg okXX (cX5_needIndex_383 l D hlt x0 d0) (mwS k610 k611 k84 k612) ⟨rfl, by decide, by decide, by decide +kernel⟩ ⟨rfl, rfl, (Nat.le_of_ble_eq_true rfl), (Nat.le_of_ble_eq_true rfl)⟩ hP hD hK hS (okXX.2.2 _ _ _ _ hS.2.1 hX) [] [] rfl (by decide) rfl (aNil hA hS) rfl hl.1 rfl (Nat.le_of_ble_eq_true rfl) dX5_largest_8 ⟨(Nat.le_of_ble_eq_true rfl), (Nat.le_of_ble_eq_true rfl)⟩ hout hlocks (Nat.le_of_ble_eq_true rfl) (Nat.le_of_ble_eq_true rfl)
set_option maxHeartbeats 4000000 in
set_option maxRecDepth 100000 in
theorem cX1_chosenSample_428 (l : Launch) (D : va_G) (h0 : Nat) (h1 : Nat) (v0 : Value) (v1 : Value) (v2 : Value) (v3 : Value) (v4 : Value) (v5 : Value) (v6 : Value) (v7 : Value) (v8 : Value) (v9 : Value) (v10 : Value) (v11 : Value) (v12 : Value) (v13 : Value) (v14 : Value) (v15 : Value)   : CT l yX1_chosenSample cX1_chosenSample 7 (some .int) { frames := 1, cells := 0, slots := 0, locals := 20 } [.ref h0] D [(h0, .inr (1, [.ref h1, v0, v1, v2, v3, .int 0, v4, v5, v6, v7, v8, v9, v10])), (h1, .inr (0, [v11, v12, .int 2, v13, v14, v15, .int 2]))] [] XN [] (ei (fun _ : Unit => True) (fun _ => (-1)) (fun _ => []) (fun _ => []) D) 0 0 := by
  refine CT.ofR (by decide +kernel) (Nat.le_of_ble_eq_true rfl) ?_
  intro p e s m below meth c A ls hcs hP hK hD hX hA hS hl
  obtain ⟨hx, hb, hr, hml, hown, hg, hlocks, hin⟩ := hcs
  have hown : s.vm.findClass RX1 = some m.cls := hown
  have hl : lv_has ls 7 [(0, .ref h0)] := hl
  refine lv_aload_n hx hb dX1_chosenSample_0 rfl (lv_at hl 0 rfl) ?_
  refine cVi (n := 0) (As := []) (rest := []) (wr := [(h0, .inr (1, [.ref h1, v0, v1, v2, v3, .int 0, v4, v5, v6, v7, v8, v9, v10])), (h1, .inr (0, [v11, v12, .int 2, v13, v14, v15, .int 2]))]) (tr := []) hx hb hml hown hg okN (cX1_presentCount_326 l D h0 h1 v0 v1 v2 v3 v4 v5 v6 v7 v8 v9 v10 v11 v12 v13 v14 v15 (.int 2)) (mwV k534 k489 k490 k87 k491) ⟨rfl, by decide, by decide, by decide +kernel⟩ ⟨rfl, rfl, (Nat.le_of_ble_eq_true rfl), (Nat.le_of_ble_eq_true rfl)⟩ hP hD hK hS xn [0, 1] [] [0, 1] [] [] rfl (by decide) rfl rfl (by decide) (by decide) rfl rfl (aNil hA hS) (fun _ _ => trivial) 0 rfl rfl rfl hl.1 rfl (Nat.le_of_ble_eq_true rfl) dX1_chosenSample_1 ⟨(Nat.le_of_ble_eq_true rfl), (Nat.le_of_ble_eq_true rfl)⟩ (fun u H locs hφ hP hD hK hS hk => ?_)
  have hP : va_P D vwCl [(h0, .inr (1, [.ref h1, v0, v1, v2, v3, .int 0, v4, v5, v6, v7, v8, v9, v10])), (h1, .inr (0, [v11, v12, .int 2, v13, v14, v15, .int 2]))] H := hP
  have hD : va_D (fun _ => True) [(h0, .inr (1, [.ref h1, v0, v1, v2, v3, .int 0, v4, v5, v6, v7, v8, v9, v10])), (h1, .inr (0, [v11, v12, .int 2, v13, v14, v15, .int 2]))] := hD
  have hK : va_K D vwCl [] s := hK
  refine W.widen (k := 0) (n := 0) (Nat.le_of_ble_eq_true rfl) (Nat.le_of_ble_eq_true rfl) ?_
  refine lv_aload_n hx hb dX1_chosenSample_4 rfl (lv_at hl 0 rfl) ?_
  refine va_get (D := D) (ci := 1) (v := .ref h1) (C := RX1) (T := TX1) (N := 13) hx hb hg inX1 hown hK hP 0 rfl rfl 0 (by decide) (hg _ k278) (fun _ h9 => h9) rfl dX1_chosenSample_5 ?_
  refine va_get (D := D) (ci := 0) (v := .int 2) (C := RX0) (T := TX0) (N := 7) hx hb hg inX0 hown hK hP 1 rfl rfl 6 (by decide) (hg _ k177) (fun _ h9 => h9) rfl dX1_chosenSample_8 ?_
  refine lv_icmp_gt (tgt := 16) hx hb dX1_chosenSample_11 (by decide) (fun c9 => absurd c9 (by decide)) (fun _ => ?_)
  refine lv_iconst (v := (-1)) hx hb dX1_chosenSample_14 (by decide) ?_
  exact fi0 hx hb hr hlocks hK hS (Nat.le_of_ble_eq_true rfl) (Nat.le_of_ble_eq_true rfl) dX1_chosenSample_15
set_option maxHeartbeats 4000000 in
set_option maxRecDepth 100000 in
theorem cX5_next_427 (l : Launch) (D : va_G) (hlt : l.stackTraces = false) (h0 : Nat) (h1 : Nat) (h2 : Nat) (v0 : Value) (v1 : Value) (v2 : Value) (v3 : Value) (v4 : Value) (v5 : Value) (v6 : Value) (v7 : Value) (v8 : Value) (v9 : Value) (v10 : Value) (v11 : Value) (v12 : Value) (v13 : Value) (v14 : Value) (v15 : Value) (v16 : Value) (v17 : Value) (v18 : Value) (v19 : Value) (v20 : Value) (v21 : Value) (v22 : Value) (v23 : Value) (v24 : Value)   : CX l yX5_next cX5_next 2 (some .int) { frames := 6, cells := 1, slots := 6, locals := 90 } [.ref h0] D [(h0, .inr (5, [v0, v1, v2, .ref h1, v3, v4, v5, v6, v7, v8])), (h1, .inr (1, [.ref h2, v9, v10, v11, v12, .int 0, v13, v14, v15, v16, v17, v18, v19])), (h2, .inr (0, [v20, v21, .int 2, v22, v23, v24, .int 2]))] [] XX [] xi "java/util/NoSuchElementException" 1 6 := by
  refine CX.ofR (by decide +kernel) (Nat.le_of_ble_eq_true rfl) ?_
  intro p e s m below meth c A ls hcs hout hP hK hD hX hA hS hl
  obtain ⟨hx, hb, hr, hml, hown, hg, hlocks, hin⟩ := hcs
  have hown : s.vm.findClass RX5 = some m.cls := hown
  have hl : lv_has ls 2 [(0, .ref h0)] := hl
  refine lv_aload_n hx hb dX5_next_0 rfl (lv_at hl 0 rfl) ?_
  refine va_get (D := D) (ci := 5) (v := .ref h1) (C := RX5) (T := TX5) (N := 10) hx hb hg inX5 hown hK hP 0 rfl rfl 3 (by decide) (hg _ k382) (fun _ h9 => h9) rfl dX5_next_1 ?_
  refine cVi (n := 0) (As := []) (rest := []) (wr := [(h0, .inr (5, [v0, v1, v2, .ref h1, v3, v4, v5, v6, v7, v8])), (h1, .inr (1, [.ref h2, v9, v10, v11, v12, .int 0, v13, v14, v15, v16, v17, v18, v19])), (h2, .inr (0, [v20, v21, .int 2, v22, v23, v24, .int 2]))]) (tr := []) hx hb hml hown hg okN (cX1_chosenSample_428 l D h1 h2 v9 v10 v11 v12 v13 v14 v15 v16 v17 v18 v19 v20 v21 v22 v23 v24) (mwV k950 k531 k532 k87 k533) ⟨rfl, by decide, by decide, by decide +kernel⟩ ⟨rfl, rfl, (Nat.le_of_ble_eq_true rfl), (Nat.le_of_ble_eq_true rfl)⟩ hP hD hK hS xn [1, 2] [] [0, 1, 2] [] [] rfl (by decide) rfl rfl (by decide) (by decide) rfl rfl (aNil hA hS) (fun _ _ => trivial) 1 rfl rfl rfl hl.1 rfl (Nat.le_of_ble_eq_true rfl) dX5_next_4 ⟨(Nat.le_of_ble_eq_true rfl), (Nat.le_of_ble_eq_true rfl)⟩ (fun u H locs hφ hP hD hK hS hk => ?_)
  have hP : va_P D vwCl [(h0, .inr (5, [v0, v1, v2, .ref h1, v3, v4, v5, v6, v7, v8])), (h1, .inr (1, [.ref h2, v9, v10, v11, v12, .int 0, v13, v14, v15, v16, v17, v18, v19])), (h2, .inr (0, [v20, v21, .int 2, v22, v23, v24, .int 2]))] H := hP
  have hD : va_D (fun _ => True) [(h0, .inr (5, [v0, v1, v2, .ref h1, v3, v4, v5, v6, v7, v8])), (h1, .inr (1, [.ref h2, v9, v10, v11, v12, .int 0, v13, v14, v15, v16, v17, v18, v19])), (h2, .inr (0, [v20, v21, .int 2, v22, v23, v24, .int 2]))] := hD
  have hK : va_K D vwCl [] s := hK
  refine W.widen (k := 0) (n := 0) (Nat.le_of_ble_eq_true rfl) (Nat.le_of_ble_eq_true rfl) ?_
  refine lv_istore_n (lv' := [(1, .int (-1)), (0, .ref h0)]) hx hb dX5_next_7 rfl hl (by decide) rfl (fun ls hl => ?_)
  refine lv_iload_n hx hb dX5_next_8 rfl (lv_at hl 0 rfl) ?_
  refine lv_iconst (v := (-1)) hx hb dX5_next_9 (by decide) ?_
  refine lv_icmp_ne (tgt := 23) hx hb dX5_next_10 (by decide) (fun c9 => absurd (by decide) c9) (fun _ => ?_)
  obtain ⟨sa, hsa⟩ := XX_sRX5_249 hX
  exact thS_NSEE hx hb hlt hown (hg _ k951) (hg _ k103) hsa hg hX hS (hl.1.trans hml.symm) dX5_next_13 dX5_next_16 dX5_next_17 dX5_next_19 dX5_next_22 hout (Nat.le_of_ble_eq_true rfl) (Nat.le_of_ble_eq_true rfl) (Nat.le_of_ble_eq_true rfl) (Nat.le_of_ble_eq_true rfl) hlocks (Nat.le_of_ble_eq_true rfl) (Nat.le_of_ble_eq_true rfl)
set_option maxHeartbeats 4000000 in
set_option maxRecDepth 100000 in
theorem cX5_needRange_430 (l : Launch) (D : va_G) (hlt : l.stackTraces = false) (x0 : Int32)  (d0 : x0 < 0) : CX l yX5_needRange cX5_needRange 3 none { frames := 6, cells := 1, slots := 6, locals := 90 } [.int x0, .int 0, .int 2] D [] [] XX [] xv "java/lang/IllegalArgumentException" 1 6 := by
  refine CX.ofR (by decide +kernel) (Nat.le_of_ble_eq_true rfl) ?_
  intro p e s m below meth c A ls hcs hout hP hK hD hX hA hS hl
  obtain ⟨hx, hb, hr, hml, hown, hg, hlocks, hin⟩ := hcs
  have hown : s.vm.findClass RX5 = some m.cls := hown
  have hl : lv_has ls 3 [(0, .int x0), (1, .int 0), (2, .int 2)] := hl
  refine lv_iload_n hx hb dX5_needRange_0 rfl (lv_at hl 0 rfl) ?_
  refine lv_iload_n hx hb dX5_needRange_1 rfl (lv_at hl 1 rfl) ?_
  refine lv_icmp_lt (tgt := 10) hx hb dX5_needRange_2 (by decide) (fun _ => ?_) (fun c9 => absurd d0 c9)
  obtain ⟨sa, hsa⟩ := XX_sRX5_321 hX
  exact thSW_IAE hx hb hlt hown (hg _ k813) (hg _ k101) hsa hg hX hS (hl.1.trans hml.symm) dX5_needRange_10 dX5_needRange_13 dX5_needRange_14 dX5_needRange_17 dX5_needRange_20 hout (Nat.le_of_ble_eq_true rfl) (Nat.le_of_ble_eq_true rfl) (Nat.le_of_ble_eq_true rfl) (Nat.le_of_ble_eq_true rfl) hlocks (Nat.le_of_ble_eq_true rfl) (Nat.le_of_ble_eq_true rfl)
set_option maxHeartbeats 4000000 in
set_option maxRecDepth 100000 in
theorem cX5_setSplit_429 (l : Launch) (D : va_G) (hlt : l.stackTraces = false) (h0 : Nat) (x0 : Int32)  (d0 : x0 < 0) : CX l yX5_setSplit cX5_setSplit 3 (some .int) { frames := 7, cells := 1, slots := 6, locals := 112 } [.ref h0, .int x0] D [] [] XX [] xi "java/lang/IllegalArgumentException" 1 6 := by
  refine CX.ofR (by decide +kernel) (Nat.le_of_ble_eq_true rfl) ?_
  intro p e s m below meth c A ls hcs hout hP hK hD hX hA hS hl
  obtain ⟨hx, hb, hr, hml, hown, hg, hlocks, hin⟩ := hcs
  have hown : s.vm.findClass RX5 = some m.cls := hown
  have hl : lv_has ls 3 [(0, .ref h0), (1, .int x0)] := hl
  refine lv_iload_n hx hb dX5_setSplit_0 rfl (lv_at hl 1 rfl) ?_
  refine lv_iconst (v := 0) hx hb dX5_setSplit_1 (by decide) ?_
  refine lv_iconst (v := 2) hx hb dX5_setSplit_2 (by decide) ?_
  exact xSv (n := 3) (As := [.int x0, .int 0, .int 2]) (rest := []) hx hb hml hown hg okXX (cX5_needRange_430 l D hlt x0 d0) (mwS k909 k910 k84 k911) ⟨rfl, by decide, by decide, by decide +kernel⟩ ⟨rfl, rfl, (Nat.le_of_ble_eq_true rfl), (Nat.le_of_ble_eq_true rfl)⟩ hP hD hK hS (okXX.2.2 _ _ _ _ hS.2.1 hX) [] [] rfl (by decide) rfl (aNil hA hS) rfl hl.1 rfl (Nat.le_of_ble_eq_true rfl) dX5_setSplit_3 ⟨(Nat.le_of_ble_eq_true rfl), (Nat.le_of_ble_eq_true rfl)⟩ hout hlocks (Nat.le_of_ble_eq_true rfl) (Nat.le_of_ble_eq_true rfl)
set_option maxHeartbeats 4000000 in
set_option maxRecDepth 100000 in
theorem cX5_needRange_432 (l : Launch) (D : va_G)    : CT l yX5_needRange cX5_needRange 3 none { frames := 0, cells := 0, slots := 0, locals := 0 } [.int 0, .int 0, .int 2] D [] [] XN [] (ev (fun _ : Unit => True) (fun _ => []) (fun _ => []) D) 0 0 := by
  refine CT.ofR (by decide +kernel) (Nat.le_of_ble_eq_true rfl) ?_
  intro p e s m below meth c A ls hcs hP hK hD hX hA hS hl
  obtain ⟨hx, hb, hr, hml, hown, hg, hlocks, hin⟩ := hcs
  have hown : s.vm.findClass RX5 = some m.cls := hown
  have hl : lv_has ls 3 [(0, .int 0), (1, .int 0), (2, .int 2)] := hl
  refine lv_iload_n hx hb dX5_needRange_0 rfl (lv_at hl 0 rfl) ?_
  refine lv_iload_n hx hb dX5_needRange_1 rfl (lv_at hl 1 rfl) ?_
  refine lv_icmp_lt (tgt := 10) hx hb dX5_needRange_2 (by decide) (fun c9 => absurd c9 (by decide)) (fun _ => ?_)
  refine lv_iload_n hx hb dX5_needRange_5 rfl (lv_at hl 0 rfl) ?_
  refine lv_iload_n hx hb dX5_needRange_6 rfl (lv_at hl 2 rfl) ?_
  refine lv_icmp_le (tgt := 21) hx hb dX5_needRange_7 (by decide) (fun _ => ?_) (fun c9 => absurd (by decide) c9)
  exact fv0 hx hb hr hlocks hK hS (Nat.le_of_ble_eq_true rfl) (Nat.le_of_ble_eq_true rfl) dX5_needRange_21
set_option maxHeartbeats 4000000 in
set_option maxRecDepth 100000 in
theorem cX5_setSplit_431 (l : Launch) (D : va_G) (h0 : Nat) (h1 : Nat) (v0 : Value) (v1 : Value) (v2 : Value) (v3 : Value) (v4 : Value) (v5 : Value) (v6 : Value) (v7 : Value) (v8 : Value) (v9 : Value) (v10 : Value) (v11 : Value) (v12 : Value) (v13 : Value) (v14 : Value) (v15 : Value) (v16 : Value) (v17 : Value) (v18 : Value) (v19 : Value) (v20 : Value)   : CT l yX5_setSplit cX5_setSplit 3 (some .int) { frames := 1, cells := 0, slots := 0, locals := 22 } [.ref h0, .int 0] D [(h0, .inr (5, [v0, v1, v2, .ref h1, v3, v4, v5, v6, v7, v8])), (h1, .inr (1, [v9, v10, v11, v12, v13, v14, v15, .int 0, v16, v17, v18, v19, v20]))] [] XN [(h0, .inr (5, [v0, v1, v2, .ref h1, v3, v4, v5, v6, v7, v8])), (h1, .inr (1, [v9, v10, v11, v12, v13, v14, v15, .int 0, v16, v17, v18, v19, v20]))] (ei (fun _ : Unit => True) (fun u => 0) (fun _ => [(h0, .inr (5, [v0, v1, v2, .ref h1, v3, v4, v5, v6, v7, v8])), (h1, .inr (1, [v9, v10, v11, v12, v13, v14, v15, .int 0, v16, v17, v18, v19, v20]))]) (fun u => []) D) 0 0 := by
  refine CT.ofW (by decide +kernel) (Nat.le_of_ble_eq_true rfl) ?_
  intro p e s m below meth c A ls hcs hP hK hD hX hA hS hl
  obtain ⟨hx, hb, hr, hml, hown, hg, hlocks, hin⟩ := hcs
  have hown : s.vm.findClass RX5 = some m.cls := hown
  have hl : lv_has ls 3 [(0, .ref h0), (1, .int 0)] := hl
  refine lv_iload_n hx hb dX5_setSplit_0 rfl (lv_at hl 1 rfl) ?_
  refine lv_iconst (v := 0) hx hb dX5_setSplit_1 (by decide) ?_
  refine lv_iconst (v := 2) hx hb dX5_setSplit_2 (by decide) ?_
  refine cSv (n := 3) (As := [.int 0, .int 0, .int 2]) (rest := []) (wr := [(h0, .inr (5, [v0, v1, v2, .ref h1, v3, v4, v5, v6, v7, v8])), (h1, .inr (1, [v9, v10, v11, v12, v13, v14, v15, .int 0, v16, v17, v18, v19, v20]))]) (tr := []) hx hb hml hown hg okN (cX5_needRange_432 l D) (mwS k909 k910 k84 k911) ⟨rfl, by decide, by decide, by decide +kernel⟩ ⟨rfl, rfl, (Nat.le_of_ble_eq_true rfl), (Nat.le_of_ble_eq_true rfl)⟩ hP hD hK hS xn [] [] [0, 1] [] [] rfl (by decide) rfl rfl (by decide) (by decide) rfl rfl (aNil hA hS) (aNil hA hS) rfl hl.1 rfl (Nat.le_of_ble_eq_true rfl) dX5_setSplit_3 ⟨(Nat.le_of_ble_eq_true rfl), (Nat.le_of_ble_eq_true rfl)⟩ (fun u H locs hφ hP hD hK hS hk => ?_)
  have hP : va_P D vwCl [(h0, .inr (5, [v0, v1, v2, .ref h1, v3, v4, v5, v6, v7, v8])), (h1, .inr (1, [v9, v10, v11, v12, v13, v14, v15, .int 0, v16, v17, v18, v19, v20]))] H := hP
  have hD : va_D A [(h0, .inr (5, [v0, v1, v2, .ref h1, v3, v4, v5, v6, v7, v8])), (h1, .inr (1, [v9, v10, v11, v12, v13, v14, v15, .int 0, v16, v17, v18, v19, v20]))] := hD
  have hK : va_K D vwCl [] s := hK
  refine W.widen (k := 0) (n := 0) (Nat.le_of_ble_eq_true rfl) (Nat.le_of_ble_eq_true rfl) ?_
  refine lv_aload_n hx hb dX5_setSplit_6 rfl (lv_at hl 0 rfl) ?_
  refine va_get (D := D) (ci := 5) (v := .ref h1) (C := RX5) (T := TX5) (N := 10) hx hb hg inX5 hown hK hP 0 rfl rfl 3 (by decide) (hg _ k382) (fun _ h9 => h9) rfl dX5_setSplit_7 ?_
  refine va_get (D := D) (ci := 1) (v := .int 0) (C := RX1) (T := TX1) (N := 13) hx hb hg inX1 hown hK hP 1 rfl rfl 7 (by decide) (hg _ k292) (fun _ h9 => h9) rfl dX5_setSplit_10 ?_
  refine lv_istore_n (lv' := [(2, .int 0), (0, .ref h0), (1, .int 0)]) hx hb dX5_setSplit_13 rfl hl (by decide) rfl (fun ls hl => ?_)
  refine lv_aload_n hx hb dX5_setSplit_14 rfl (lv_at hl 1 rfl) ?_
  refine va_get (D := D) (ci := 5) (v := .ref h1) (C := RX5) (T := TX5) (N := 10) hx hb hg inX5 hown hK hP 0 rfl rfl 3 (by decide) (hg _ k382) (fun _ h9 => h9) rfl dX5_setSplit_15 ?_
  refine lv_iload_n hx hb dX5_setSplit_18 rfl (lv_at hl 2 rfl) ?_
  refine va_put (D := D) (ci := 1) (v := .int 0) (ty := .int) (C := RX1) (T := TX1) (N := 13) hx hb hg inX1 tyX1 tyX1_ok nmX1 hown hK hP hD hS 1 rfl rfl 7 (by decide) (hg _ k292) (fun _ h9 => h9) rfl (by decide +kernel) rfl rfl (Nat.le_of_ble_eq_true rfl) dX5_setSplit_19 (fun H locs hP hD hS => ?_)
  have hP : va_P D vwCl [(h0, .inr (5, [v0, v1, v2, .ref h1, v3, v4, v5, v6, v7, v8])), (h1, .inr (1, [v9, v10, v11, v12, v13, v14, v15, .int 0, v16, v17, v18, v19, v20]))] H := hP
  have hD : va_D A [(h0, .inr (5, [v0, v1, v2, .ref h1, v3, v4, v5, v6, v7, v8])), (h1, .inr (1, [v9, v10, v11, v12, v13, v14, v15, .int 0, v16, v17, v18, v19, v20]))] := hD
  refine lv_iload_n hx hb dX5_setSplit_22 rfl (lv_at hl 0 rfl) ?_
  exact fi hx hb hr hlocks hP hD hK hS (()) trivial rfl [0, 1] [] rfl (by decide) rfl (Nat.le_of_ble_eq_true rfl) (Nat.le_of_ble_eq_true rfl) dX5_setSplit_23
set_option maxHeartbeats 4000000 in
set_option maxRecDepth 100000 in
theorem cX5_needRange_434 (l : Launch) (D : va_G)    : CT l yX5_needRange cX5_needRange 3 none { frames := 0, cells := 0, slots := 0, locals := 0 } [.int 1, .int 0, .int 2] D [] [] XN [] (ev (fun _ : Unit => True) (fun _ => []) (fun _ => []) D) 0 0 := by
  refine CT.ofR (by decide +kernel) (Nat.le_of_ble_eq_true rfl) ?_
  intro p e s m below meth c A ls hcs hP hK hD hX hA hS hl
  obtain ⟨hx, hb, hr, hml, hown, hg, hlocks, hin⟩ := hcs
  have hown : s.vm.findClass RX5 = some m.cls := hown
  have hl : lv_has ls 3 [(0, .int 1), (1, .int 0), (2, .int 2)] := hl
  refine lv_iload_n hx hb dX5_needRange_0 rfl (lv_at hl 0 rfl) ?_
  refine lv_iload_n hx hb dX5_needRange_1 rfl (lv_at hl 1 rfl) ?_
  refine lv_icmp_lt (tgt := 10) hx hb dX5_needRange_2 (by decide) (fun c9 => absurd c9 (by decide)) (fun _ => ?_)
  refine lv_iload_n hx hb dX5_needRange_5 rfl (lv_at hl 0 rfl) ?_
  refine lv_iload_n hx hb dX5_needRange_6 rfl (lv_at hl 2 rfl) ?_
  refine lv_icmp_le (tgt := 21) hx hb dX5_needRange_7 (by decide) (fun _ => ?_) (fun c9 => absurd (by decide) c9)
  exact fv0 hx hb hr hlocks hK hS (Nat.le_of_ble_eq_true rfl) (Nat.le_of_ble_eq_true rfl) dX5_needRange_21
set_option maxHeartbeats 4000000 in
set_option maxRecDepth 100000 in
theorem cX5_setSplit_433 (l : Launch) (D : va_G) (h0 : Nat) (h1 : Nat) (v0 : Value) (v1 : Value) (v2 : Value) (v3 : Value) (v4 : Value) (v5 : Value) (v6 : Value) (v7 : Value) (v8 : Value) (v9 : Value) (v10 : Value) (v11 : Value) (v12 : Value) (v13 : Value) (v14 : Value) (v15 : Value) (v16 : Value) (v17 : Value) (v18 : Value) (v19 : Value) (v20 : Value)   : CT l yX5_setSplit cX5_setSplit 3 (some .int) { frames := 1, cells := 0, slots := 0, locals := 22 } [.ref h0, .int 1] D [(h0, .inr (5, [v0, v1, v2, .ref h1, v3, v4, v5, v6, v7, v8])), (h1, .inr (1, [v9, v10, v11, v12, v13, v14, v15, .int 0, v16, v17, v18, v19, v20]))] [] XN [(h0, .inr (5, [v0, v1, v2, .ref h1, v3, v4, v5, v6, v7, v8])), (h1, .inr (1, [v9, v10, v11, v12, v13, v14, v15, .int 0, v16, v17, v18, v19, v20]))] (ei (fun _ : Unit => True) (fun u => 0) (fun _ => [(h0, .inr (5, [v0, v1, v2, .ref h1, v3, v4, v5, v6, v7, v8])), (h1, .inr (1, [v9, v10, v11, v12, v13, v14, v15, .int 1, v16, v17, v18, v19, v20]))]) (fun u => []) D) 0 0 := by
  refine CT.ofW (by decide +kernel) (Nat.le_of_ble_eq_true rfl) ?_
  intro p e s m below meth c A ls hcs hP hK hD hX hA hS hl
  obtain ⟨hx, hb, hr, hml, hown, hg, hlocks, hin⟩ := hcs
  have hown : s.vm.findClass RX5 = some m.cls := hown
  have hl : lv_has ls 3 [(0, .ref h0), (1, .int 1)] := hl
  refine lv_iload_n hx hb dX5_setSplit_0 rfl (lv_at hl 1 rfl) ?_
  refine lv_iconst (v := 0) hx hb dX5_setSplit_1 (by decide) ?_
  refine lv_iconst (v := 2) hx hb dX5_setSplit_2 (by decide) ?_
  refine cSv (n := 3) (As := [.int 1, .int 0, .int 2]) (rest := []) (wr := [(h0, .inr (5, [v0, v1, v2, .ref h1, v3, v4, v5, v6, v7, v8])), (h1, .inr (1, [v9, v10, v11, v12, v13, v14, v15, .int 0, v16, v17, v18, v19, v20]))]) (tr := []) hx hb hml hown hg okN (cX5_needRange_434 l D) (mwS k909 k910 k84 k911) ⟨rfl, by decide, by decide, by decide +kernel⟩ ⟨rfl, rfl, (Nat.le_of_ble_eq_true rfl), (Nat.le_of_ble_eq_true rfl)⟩ hP hD hK hS xn [] [] [0, 1] [] [] rfl (by decide) rfl rfl (by decide) (by decide) rfl rfl (aNil hA hS) (aNil hA hS) rfl hl.1 rfl (Nat.le_of_ble_eq_true rfl) dX5_setSplit_3 ⟨(Nat.le_of_ble_eq_true rfl), (Nat.le_of_ble_eq_true rfl)⟩ (fun u H locs hφ hP hD hK hS hk => ?_)
  have hP : va_P D vwCl [(h0, .inr (5, [v0, v1, v2, .ref h1, v3, v4, v5, v6, v7, v8])), (h1, .inr (1, [v9, v10, v11, v12, v13, v14, v15, .int 0, v16, v17, v18, v19, v20]))] H := hP
  have hD : va_D A [(h0, .inr (5, [v0, v1, v2, .ref h1, v3, v4, v5, v6, v7, v8])), (h1, .inr (1, [v9, v10, v11, v12, v13, v14, v15, .int 0, v16, v17, v18, v19, v20]))] := hD
  have hK : va_K D vwCl [] s := hK
  refine W.widen (k := 0) (n := 0) (Nat.le_of_ble_eq_true rfl) (Nat.le_of_ble_eq_true rfl) ?_
  refine lv_aload_n hx hb dX5_setSplit_6 rfl (lv_at hl 0 rfl) ?_
  refine va_get (D := D) (ci := 5) (v := .ref h1) (C := RX5) (T := TX5) (N := 10) hx hb hg inX5 hown hK hP 0 rfl rfl 3 (by decide) (hg _ k382) (fun _ h9 => h9) rfl dX5_setSplit_7 ?_
  refine va_get (D := D) (ci := 1) (v := .int 0) (C := RX1) (T := TX1) (N := 13) hx hb hg inX1 hown hK hP 1 rfl rfl 7 (by decide) (hg _ k292) (fun _ h9 => h9) rfl dX5_setSplit_10 ?_
  refine lv_istore_n (lv' := [(2, .int 0), (0, .ref h0), (1, .int 1)]) hx hb dX5_setSplit_13 rfl hl (by decide) rfl (fun ls hl => ?_)
  refine lv_aload_n hx hb dX5_setSplit_14 rfl (lv_at hl 1 rfl) ?_
  refine va_get (D := D) (ci := 5) (v := .ref h1) (C := RX5) (T := TX5) (N := 10) hx hb hg inX5 hown hK hP 0 rfl rfl 3 (by decide) (hg _ k382) (fun _ h9 => h9) rfl dX5_setSplit_15 ?_
  refine lv_iload_n hx hb dX5_setSplit_18 rfl (lv_at hl 2 rfl) ?_
  refine va_put (D := D) (ci := 1) (v := .int 1) (ty := .int) (C := RX1) (T := TX1) (N := 13) hx hb hg inX1 tyX1 tyX1_ok nmX1 hown hK hP hD hS 1 rfl rfl 7 (by decide) (hg _ k292) (fun _ h9 => h9) rfl (by decide +kernel) rfl rfl (Nat.le_of_ble_eq_true rfl) dX5_setSplit_19 (fun H locs hP hD hS => ?_)
  have hP : va_P D vwCl [(h0, .inr (5, [v0, v1, v2, .ref h1, v3, v4, v5, v6, v7, v8])), (h1, .inr (1, [v9, v10, v11, v12, v13, v14, v15, .int 1, v16, v17, v18, v19, v20]))] H := hP
  have hD : va_D A [(h0, .inr (5, [v0, v1, v2, .ref h1, v3, v4, v5, v6, v7, v8])), (h1, .inr (1, [v9, v10, v11, v12, v13, v14, v15, .int 1, v16, v17, v18, v19, v20]))] := hD
  refine lv_iload_n hx hb dX5_setSplit_22 rfl (lv_at hl 0 rfl) ?_
  exact fi hx hb hr hlocks hP hD hK hS (()) trivial rfl [0, 1] [] rfl (by decide) rfl (Nat.le_of_ble_eq_true rfl) (Nat.le_of_ble_eq_true rfl) dX5_setSplit_23
set_option maxHeartbeats 4000000 in
set_option maxRecDepth 100000 in
theorem cX5_needRange_436 (l : Launch) (D : va_G)    : CT l yX5_needRange cX5_needRange 3 none { frames := 0, cells := 0, slots := 0, locals := 0 } [.int 2, .int 0, .int 2] D [] [] XN [] (ev (fun _ : Unit => True) (fun _ => []) (fun _ => []) D) 0 0 := by
  refine CT.ofR (by decide +kernel) (Nat.le_of_ble_eq_true rfl) ?_
  intro p e s m below meth c A ls hcs hP hK hD hX hA hS hl
  obtain ⟨hx, hb, hr, hml, hown, hg, hlocks, hin⟩ := hcs
  have hown : s.vm.findClass RX5 = some m.cls := hown
  have hl : lv_has ls 3 [(0, .int 2), (1, .int 0), (2, .int 2)] := hl
  refine lv_iload_n hx hb dX5_needRange_0 rfl (lv_at hl 0 rfl) ?_
  refine lv_iload_n hx hb dX5_needRange_1 rfl (lv_at hl 1 rfl) ?_
  refine lv_icmp_lt (tgt := 10) hx hb dX5_needRange_2 (by decide) (fun c9 => absurd c9 (by decide)) (fun _ => ?_)
  refine lv_iload_n hx hb dX5_needRange_5 rfl (lv_at hl 0 rfl) ?_
  refine lv_iload_n hx hb dX5_needRange_6 rfl (lv_at hl 2 rfl) ?_
  refine lv_icmp_le (tgt := 21) hx hb dX5_needRange_7 (by decide) (fun _ => ?_) (fun c9 => absurd (by decide) c9)
  exact fv0 hx hb hr hlocks hK hS (Nat.le_of_ble_eq_true rfl) (Nat.le_of_ble_eq_true rfl) dX5_needRange_21
set_option maxHeartbeats 4000000 in
set_option maxRecDepth 100000 in
theorem cX5_setSplit_435 (l : Launch) (D : va_G) (h0 : Nat) (h1 : Nat) (v0 : Value) (v1 : Value) (v2 : Value) (v3 : Value) (v4 : Value) (v5 : Value) (v6 : Value) (v7 : Value) (v8 : Value) (v9 : Value) (v10 : Value) (v11 : Value) (v12 : Value) (v13 : Value) (v14 : Value) (v15 : Value) (v16 : Value) (v17 : Value) (v18 : Value) (v19 : Value) (v20 : Value)   : CT l yX5_setSplit cX5_setSplit 3 (some .int) { frames := 1, cells := 0, slots := 0, locals := 22 } [.ref h0, .int 2] D [(h0, .inr (5, [v0, v1, v2, .ref h1, v3, v4, v5, v6, v7, v8])), (h1, .inr (1, [v9, v10, v11, v12, v13, v14, v15, .int 0, v16, v17, v18, v19, v20]))] [] XN [(h0, .inr (5, [v0, v1, v2, .ref h1, v3, v4, v5, v6, v7, v8])), (h1, .inr (1, [v9, v10, v11, v12, v13, v14, v15, .int 0, v16, v17, v18, v19, v20]))] (ei (fun _ : Unit => True) (fun u => 0) (fun _ => [(h0, .inr (5, [v0, v1, v2, .ref h1, v3, v4, v5, v6, v7, v8])), (h1, .inr (1, [v9, v10, v11, v12, v13, v14, v15, .int 2, v16, v17, v18, v19, v20]))]) (fun u => []) D) 0 0 := by
  refine CT.ofW (by decide +kernel) (Nat.le_of_ble_eq_true rfl) ?_
  intro p e s m below meth c A ls hcs hP hK hD hX hA hS hl
  obtain ⟨hx, hb, hr, hml, hown, hg, hlocks, hin⟩ := hcs
  have hown : s.vm.findClass RX5 = some m.cls := hown
  have hl : lv_has ls 3 [(0, .ref h0), (1, .int 2)] := hl
  refine lv_iload_n hx hb dX5_setSplit_0 rfl (lv_at hl 1 rfl) ?_
  refine lv_iconst (v := 0) hx hb dX5_setSplit_1 (by decide) ?_
  refine lv_iconst (v := 2) hx hb dX5_setSplit_2 (by decide) ?_
  refine cSv (n := 3) (As := [.int 2, .int 0, .int 2]) (rest := []) (wr := [(h0, .inr (5, [v0, v1, v2, .ref h1, v3, v4, v5, v6, v7, v8])), (h1, .inr (1, [v9, v10, v11, v12, v13, v14, v15, .int 0, v16, v17, v18, v19, v20]))]) (tr := []) hx hb hml hown hg okN (cX5_needRange_436 l D) (mwS k909 k910 k84 k911) ⟨rfl, by decide, by decide, by decide +kernel⟩ ⟨rfl, rfl, (Nat.le_of_ble_eq_true rfl), (Nat.le_of_ble_eq_true rfl)⟩ hP hD hK hS xn [] [] [0, 1] [] [] rfl (by decide) rfl rfl (by decide) (by decide) rfl rfl (aNil hA hS) (aNil hA hS) rfl hl.1 rfl (Nat.le_of_ble_eq_true rfl) dX5_setSplit_3 ⟨(Nat.le_of_ble_eq_true rfl), (Nat.le_of_ble_eq_true rfl)⟩ (fun u H locs hφ hP hD hK hS hk => ?_)
  have hP : va_P D vwCl [(h0, .inr (5, [v0, v1, v2, .ref h1, v3, v4, v5, v6, v7, v8])), (h1, .inr (1, [v9, v10, v11, v12, v13, v14, v15, .int 0, v16, v17, v18, v19, v20]))] H := hP
  have hD : va_D A [(h0, .inr (5, [v0, v1, v2, .ref h1, v3, v4, v5, v6, v7, v8])), (h1, .inr (1, [v9, v10, v11, v12, v13, v14, v15, .int 0, v16, v17, v18, v19, v20]))] := hD
  have hK : va_K D vwCl [] s := hK
  refine W.widen (k := 0) (n := 0) (Nat.le_of_ble_eq_true rfl) (Nat.le_of_ble_eq_true rfl) ?_
  refine lv_aload_n hx hb dX5_setSplit_6 rfl (lv_at hl 0 rfl) ?_
  refine va_get (D := D) (ci := 5) (v := .ref h1) (C := RX5) (T := TX5) (N := 10) hx hb hg inX5 hown hK hP 0 rfl rfl 3 (by decide) (hg _ k382) (fun _ h9 => h9) rfl dX5_setSplit_7 ?_
  refine va_get (D := D) (ci := 1) (v := .int 0) (C := RX1) (T := TX1) (N := 13) hx hb hg inX1 hown hK hP 1 rfl rfl 7 (by decide) (hg _ k292) (fun _ h9 => h9) rfl dX5_setSplit_10 ?_
  refine lv_istore_n (lv' := [(2, .int 0), (0, .ref h0), (1, .int 2)]) hx hb dX5_setSplit_13 rfl hl (by decide) rfl (fun ls hl => ?_)
  refine lv_aload_n hx hb dX5_setSplit_14 rfl (lv_at hl 1 rfl) ?_
  refine va_get (D := D) (ci := 5) (v := .ref h1) (C := RX5) (T := TX5) (N := 10) hx hb hg inX5 hown hK hP 0 rfl rfl 3 (by decide) (hg _ k382) (fun _ h9 => h9) rfl dX5_setSplit_15 ?_
  refine lv_iload_n hx hb dX5_setSplit_18 rfl (lv_at hl 2 rfl) ?_
  refine va_put (D := D) (ci := 1) (v := .int 2) (ty := .int) (C := RX1) (T := TX1) (N := 13) hx hb hg inX1 tyX1 tyX1_ok nmX1 hown hK hP hD hS 1 rfl rfl 7 (by decide) (hg _ k292) (fun _ h9 => h9) rfl (by decide +kernel) rfl rfl (Nat.le_of_ble_eq_true rfl) dX5_setSplit_19 (fun H locs hP hD hS => ?_)
  have hP : va_P D vwCl [(h0, .inr (5, [v0, v1, v2, .ref h1, v3, v4, v5, v6, v7, v8])), (h1, .inr (1, [v9, v10, v11, v12, v13, v14, v15, .int 2, v16, v17, v18, v19, v20]))] H := hP
  have hD : va_D A [(h0, .inr (5, [v0, v1, v2, .ref h1, v3, v4, v5, v6, v7, v8])), (h1, .inr (1, [v9, v10, v11, v12, v13, v14, v15, .int 2, v16, v17, v18, v19, v20]))] := hD
  refine lv_iload_n hx hb dX5_setSplit_22 rfl (lv_at hl 0 rfl) ?_
  exact fi hx hb hr hlocks hP hD hK hS (()) trivial rfl [0, 1] [] rfl (by decide) rfl (Nat.le_of_ble_eq_true rfl) (Nat.le_of_ble_eq_true rfl) dX5_setSplit_23
set_option maxHeartbeats 4000000 in
set_option maxRecDepth 100000 in
theorem cX5_needRange_438 (l : Launch) (D : va_G) (hlt : l.stackTraces = false) (x0 : Int32)  (d0 : ¬ (x0 < 0)) (d1 : ¬ (x0 ≤ 2)) : CX l yX5_needRange cX5_needRange 3 none { frames := 6, cells := 1, slots := 6, locals := 90 } [.int x0, .int 0, .int 2] D [] [] XX [] xv "java/lang/IllegalArgumentException" 1 6 := by
  refine CX.ofR (by decide +kernel) (Nat.le_of_ble_eq_true rfl) ?_
  intro p e s m below meth c A ls hcs hout hP hK hD hX hA hS hl
  obtain ⟨hx, hb, hr, hml, hown, hg, hlocks, hin⟩ := hcs
  have hown : s.vm.findClass RX5 = some m.cls := hown
  have hl : lv_has ls 3 [(0, .int x0), (1, .int 0), (2, .int 2)] := hl
  refine lv_iload_n hx hb dX5_needRange_0 rfl (lv_at hl 0 rfl) ?_
  refine lv_iload_n hx hb dX5_needRange_1 rfl (lv_at hl 1 rfl) ?_
  refine lv_icmp_lt (tgt := 10) hx hb dX5_needRange_2 (by decide) (fun c9 => absurd c9 d0) (fun _ => ?_)
  refine lv_iload_n hx hb dX5_needRange_5 rfl (lv_at hl 0 rfl) ?_
  refine lv_iload_n hx hb dX5_needRange_6 rfl (lv_at hl 2 rfl) ?_
  refine lv_icmp_le (tgt := 21) hx hb dX5_needRange_7 (by decide) (fun c9 => absurd c9 d1) (fun _ => ?_)
  obtain ⟨sa, hsa⟩ := XX_sRX5_321 hX
  exact thSW_IAE hx hb hlt hown (hg _ k813) (hg _ k101) hsa hg hX hS (hl.1.trans hml.symm) dX5_needRange_10 dX5_needRange_13 dX5_needRange_14 dX5_needRange_17 dX5_needRange_20 hout (Nat.le_of_ble_eq_true rfl) (Nat.le_of_ble_eq_true rfl) (Nat.le_of_ble_eq_true rfl) (Nat.le_of_ble_eq_true rfl) hlocks (Nat.le_of_ble_eq_true rfl) (Nat.le_of_ble_eq_true rfl)
set_option maxHeartbeats 4000000 in
set_option maxRecDepth 100000 in
theorem cX5_setSplit_437 (l : Launch) (D : va_G) (hlt : l.stackTraces = false) (h0 : Nat) (x0 : Int32)  (d0 : ¬ (x0 < 0)) (d1 : ¬ (x0 ≤ 2)) : CX l yX5_setSplit cX5_setSplit 3 (some .int) { frames := 7, cells := 1, slots := 6, locals := 112 } [.ref h0, .int x0] D [] [] XX [] xi "java/lang/IllegalArgumentException" 1 6 := by
  refine CX.ofR (by decide +kernel) (Nat.le_of_ble_eq_true rfl) ?_
  intro p e s m below meth c A ls hcs hout hP hK hD hX hA hS hl
  obtain ⟨hx, hb, hr, hml, hown, hg, hlocks, hin⟩ := hcs
  have hown : s.vm.findClass RX5 = some m.cls := hown
  have hl : lv_has ls 3 [(0, .ref h0), (1, .int x0)] := hl
  refine lv_iload_n hx hb dX5_setSplit_0 rfl (lv_at hl 1 rfl) ?_
  refine lv_iconst (v := 0) hx hb dX5_setSplit_1 (by decide) ?_
  refine lv_iconst (v := 2) hx hb dX5_setSplit_2 (by decide) ?_
  exact xSv (n := 3) (As := [.int x0, .int 0, .int 2]) (rest := []) hx hb hml hown hg okXX (cX5_needRange_438 l D hlt x0 d0 d1) (mwS k909 k910 k84 k911) ⟨rfl, by decide, by decide, by decide +kernel⟩ ⟨rfl, rfl, (Nat.le_of_ble_eq_true rfl), (Nat.le_of_ble_eq_true rfl)⟩ hP hD hK hS (okXX.2.2 _ _ _ _ hS.2.1 hX) [] [] rfl (by decide) rfl (aNil hA hS) rfl hl.1 rfl (Nat.le_of_ble_eq_true rfl) dX5_setSplit_3 ⟨(Nat.le_of_ble_eq_true rfl), (Nat.le_of_ble_eq_true rfl)⟩ hout hlocks (Nat.le_of_ble_eq_true rfl) (Nat.le_of_ble_eq_true rfl)
set_option maxHeartbeats 4000000 in
set_option maxRecDepth 100000 in
theorem cX5_setPredict_439 (l : Launch) (D : va_G) (hlt : l.stackTraces = false) (h0 : Nat) (x0 : Int32)  (d0 : x0 < 0) : CX l yX5_setPredict cX5_setPredict 3 (some .int) { frames := 7, cells := 1, slots := 6, locals := 112 } [.ref h0, .int x0] D [] [] XX [] xi "java/lang/IllegalArgumentException" 1 6 := by
  refine CX.ofR (by decide +kernel) (Nat.le_of_ble_eq_true rfl) ?_
  intro p e s m below meth c A ls hcs hout hP hK hD hX hA hS hl
  obtain ⟨hx, hb, hr, hml, hown, hg, hlocks, hin⟩ := hcs
  have hown : s.vm.findClass RX5 = some m.cls := hown
  have hl : lv_has ls 3 [(0, .ref h0), (1, .int x0)] := hl
  refine lv_iload_n hx hb dX5_setPredict_0 rfl (lv_at hl 1 rfl) ?_
  refine lv_iconst (v := 0) hx hb dX5_setPredict_1 (by decide) ?_
  refine lv_iconst (v := 2) hx hb dX5_setPredict_2 (by decide) ?_
  exact xSv (n := 3) (As := [.int x0, .int 0, .int 2]) (rest := []) hx hb hml hown hg okXX (cX5_needRange_430 l D hlt x0 d0) (mwS k909 k910 k84 k911) ⟨rfl, by decide, by decide, by decide +kernel⟩ ⟨rfl, rfl, (Nat.le_of_ble_eq_true rfl), (Nat.le_of_ble_eq_true rfl)⟩ hP hD hK hS (okXX.2.2 _ _ _ _ hS.2.1 hX) [] [] rfl (by decide) rfl (aNil hA hS) rfl hl.1 rfl (Nat.le_of_ble_eq_true rfl) dX5_setPredict_3 ⟨(Nat.le_of_ble_eq_true rfl), (Nat.le_of_ble_eq_true rfl)⟩ hout hlocks (Nat.le_of_ble_eq_true rfl) (Nat.le_of_ble_eq_true rfl)
set_option maxHeartbeats 4000000 in
set_option maxRecDepth 100000 in
theorem cX5_setPredict_440 (l : Launch) (D : va_G) (h0 : Nat) (h1 : Nat) (v0 : Value) (v1 : Value) (v2 : Value) (v3 : Value) (v4 : Value) (v5 : Value) (v6 : Value) (v7 : Value) (v8 : Value) (v9 : Value) (v10 : Value) (v11 : Value) (v12 : Value) (v13 : Value) (v14 : Value) (v15 : Value) (v16 : Value) (v17 : Value) (v18 : Value) (v19 : Value) (v20 : Value)   : CT l yX5_setPredict cX5_setPredict 3 (some .int) { frames := 1, cells := 0, slots := 0, locals := 22 } [.ref h0, .int 0] D [(h0, .inr (5, [v0, v1, v2, .ref h1, v3, v4, v5, v6, v7, v8])), (h1, .inr (1, [v9, v10, v11, v12, v13, v14, v15, v16, .int 2, v17, v18, v19, v20]))] [] XN [(h0, .inr (5, [v0, v1, v2, .ref h1, v3, v4, v5, v6, v7, v8])), (h1, .inr (1, [v9, v10, v11, v12, v13, v14, v15, v16, .int 2, v17, v18, v19, v20]))] (ei (fun _ : Unit => True) (fun u => 2) (fun _ => [(h0, .inr (5, [v0, v1, v2, .ref h1, v3, v4, v5, v6, v7, v8])), (h1, .inr (1, [v9, v10, v11, v12, v13, v14, v15, v16, .int 0, v17, v18, v19, v20]))]) (fun u => []) D) 0 0 := by
  refine CT.ofW (by decide +kernel) (Nat.le_of_ble_eq_true rfl) ?_
  intro p e s m below meth c A ls hcs hP hK hD hX hA hS hl
  obtain ⟨hx, hb, hr, hml, hown, hg, hlocks, hin⟩ := hcs
  have hown : s.vm.findClass RX5 = some m.cls := hown
  have hl : lv_has ls 3 [(0, .ref h0), (1, .int 0)] := hl
  refine lv_iload_n hx hb dX5_setPredict_0 rfl (lv_at hl 1 rfl) ?_
  refine lv_iconst (v := 0) hx hb dX5_setPredict_1 (by decide) ?_
  refine lv_iconst (v := 2) hx hb dX5_setPredict_2 (by decide) ?_
  refine cSv (n := 3) (As := [.int 0, .int 0, .int 2]) (rest := []) (wr := [(h0, .inr (5, [v0, v1, v2, .ref h1, v3, v4, v5, v6, v7, v8])), (h1, .inr (1, [v9, v10, v11, v12, v13, v14, v15, v16, .int 2, v17, v18, v19, v20]))]) (tr := []) hx hb hml hown hg okN (cX5_needRange_432 l D) (mwS k909 k910 k84 k911) ⟨rfl, by decide, by decide, by decide +kernel⟩ ⟨rfl, rfl, (Nat.le_of_ble_eq_true rfl), (Nat.le_of_ble_eq_true rfl)⟩ hP hD hK hS xn [] [] [0, 1] [] [] rfl (by decide) rfl rfl (by decide) (by decide) rfl rfl (aNil hA hS) (aNil hA hS) rfl hl.1 rfl (Nat.le_of_ble_eq_true rfl) dX5_setPredict_3 ⟨(Nat.le_of_ble_eq_true rfl), (Nat.le_of_ble_eq_true rfl)⟩ (fun u H locs hφ hP hD hK hS hk => ?_)
  have hP : va_P D vwCl [(h0, .inr (5, [v0, v1, v2, .ref h1, v3, v4, v5, v6, v7, v8])), (h1, .inr (1, [v9, v10, v11, v12, v13, v14, v15, v16, .int 2, v17, v18, v19, v20]))] H := hP
  have hD : va_D A [(h0, .inr (5, [v0, v1, v2, .ref h1, v3, v4, v5, v6, v7, v8])), (h1, .inr (1, [v9, v10, v11, v12, v13, v14, v15, v16, .int 2, v17, v18, v19, v20]))] := hD
  have hK : va_K D vwCl [] s := hK
  refine W.widen (k := 0) (n := 0) (Nat.le_of_ble_eq_true rfl) (Nat.le_of_ble_eq_true rfl) ?_
  refine lv_aload_n hx hb dX5_setPredict_6 rfl (lv_at hl 0 rfl) ?_
  refine va_get (D := D) (ci := 5) (v := .ref h1) (C := RX5) (T := TX5) (N := 10) hx hb hg inX5 hown hK hP 0 rfl rfl 3 (by decide) (hg _ k382) (fun _ h9 => h9) rfl dX5_setPredict_7 ?_
  refine va_get (D := D) (ci := 1) (v := .int 2) (C := RX1) (T := TX1) (N := 13) hx hb hg inX1 hown hK hP 1 rfl rfl 8 (by decide) (hg _ k294) (fun _ h9 => h9) rfl dX5_setPredict_10 ?_
  refine lv_istore_n (lv' := [(2, .int 2), (0, .ref h0), (1, .int 0)]) hx hb dX5_setPredict_13 rfl hl (by decide) rfl (fun ls hl => ?_)
  refine lv_aload_n hx hb dX5_setPredict_14 rfl (lv_at hl 1 rfl) ?_
  refine va_get (D := D) (ci := 5) (v := .ref h1) (C := RX5) (T := TX5) (N := 10) hx hb hg inX5 hown hK hP 0 rfl rfl 3 (by decide) (hg _ k382) (fun _ h9 => h9) rfl dX5_setPredict_15 ?_
  refine lv_iload_n hx hb dX5_setPredict_18 rfl (lv_at hl 2 rfl) ?_
  refine va_put (D := D) (ci := 1) (v := .int 0) (ty := .int) (C := RX1) (T := TX1) (N := 13) hx hb hg inX1 tyX1 tyX1_ok nmX1 hown hK hP hD hS 1 rfl rfl 8 (by decide) (hg _ k294) (fun _ h9 => h9) rfl (by decide +kernel) rfl rfl (Nat.le_of_ble_eq_true rfl) dX5_setPredict_19 (fun H locs hP hD hS => ?_)
  have hP : va_P D vwCl [(h0, .inr (5, [v0, v1, v2, .ref h1, v3, v4, v5, v6, v7, v8])), (h1, .inr (1, [v9, v10, v11, v12, v13, v14, v15, v16, .int 0, v17, v18, v19, v20]))] H := hP
  have hD : va_D A [(h0, .inr (5, [v0, v1, v2, .ref h1, v3, v4, v5, v6, v7, v8])), (h1, .inr (1, [v9, v10, v11, v12, v13, v14, v15, v16, .int 0, v17, v18, v19, v20]))] := hD
  refine lv_iload_n hx hb dX5_setPredict_22 rfl (lv_at hl 0 rfl) ?_
  exact fi hx hb hr hlocks hP hD hK hS (()) trivial rfl [0, 1] [] rfl (by decide) rfl (Nat.le_of_ble_eq_true rfl) (Nat.le_of_ble_eq_true rfl) dX5_setPredict_23
set_option maxHeartbeats 4000000 in
set_option maxRecDepth 100000 in
theorem cX5_setPredict_441 (l : Launch) (D : va_G) (h0 : Nat) (h1 : Nat) (v0 : Value) (v1 : Value) (v2 : Value) (v3 : Value) (v4 : Value) (v5 : Value) (v6 : Value) (v7 : Value) (v8 : Value) (v9 : Value) (v10 : Value) (v11 : Value) (v12 : Value) (v13 : Value) (v14 : Value) (v15 : Value) (v16 : Value) (v17 : Value) (v18 : Value) (v19 : Value) (v20 : Value)   : CT l yX5_setPredict cX5_setPredict 3 (some .int) { frames := 1, cells := 0, slots := 0, locals := 22 } [.ref h0, .int 1] D [(h0, .inr (5, [v0, v1, v2, .ref h1, v3, v4, v5, v6, v7, v8])), (h1, .inr (1, [v9, v10, v11, v12, v13, v14, v15, v16, .int 2, v17, v18, v19, v20]))] [] XN [(h0, .inr (5, [v0, v1, v2, .ref h1, v3, v4, v5, v6, v7, v8])), (h1, .inr (1, [v9, v10, v11, v12, v13, v14, v15, v16, .int 2, v17, v18, v19, v20]))] (ei (fun _ : Unit => True) (fun u => 2) (fun _ => [(h0, .inr (5, [v0, v1, v2, .ref h1, v3, v4, v5, v6, v7, v8])), (h1, .inr (1, [v9, v10, v11, v12, v13, v14, v15, v16, .int 1, v17, v18, v19, v20]))]) (fun u => []) D) 0 0 := by
  refine CT.ofW (by decide +kernel) (Nat.le_of_ble_eq_true rfl) ?_
  intro p e s m below meth c A ls hcs hP hK hD hX hA hS hl
  obtain ⟨hx, hb, hr, hml, hown, hg, hlocks, hin⟩ := hcs
  have hown : s.vm.findClass RX5 = some m.cls := hown
  have hl : lv_has ls 3 [(0, .ref h0), (1, .int 1)] := hl
  refine lv_iload_n hx hb dX5_setPredict_0 rfl (lv_at hl 1 rfl) ?_
  refine lv_iconst (v := 0) hx hb dX5_setPredict_1 (by decide) ?_
  refine lv_iconst (v := 2) hx hb dX5_setPredict_2 (by decide) ?_
  refine cSv (n := 3) (As := [.int 1, .int 0, .int 2]) (rest := []) (wr := [(h0, .inr (5, [v0, v1, v2, .ref h1, v3, v4, v5, v6, v7, v8])), (h1, .inr (1, [v9, v10, v11, v12, v13, v14, v15, v16, .int 2, v17, v18, v19, v20]))]) (tr := []) hx hb hml hown hg okN (cX5_needRange_434 l D) (mwS k909 k910 k84 k911) ⟨rfl, by decide, by decide, by decide +kernel⟩ ⟨rfl, rfl, (Nat.le_of_ble_eq_true rfl), (Nat.le_of_ble_eq_true rfl)⟩ hP hD hK hS xn [] [] [0, 1] [] [] rfl (by decide) rfl rfl (by decide) (by decide) rfl rfl (aNil hA hS) (aNil hA hS) rfl hl.1 rfl (Nat.le_of_ble_eq_true rfl) dX5_setPredict_3 ⟨(Nat.le_of_ble_eq_true rfl), (Nat.le_of_ble_eq_true rfl)⟩ (fun u H locs hφ hP hD hK hS hk => ?_)
  have hP : va_P D vwCl [(h0, .inr (5, [v0, v1, v2, .ref h1, v3, v4, v5, v6, v7, v8])), (h1, .inr (1, [v9, v10, v11, v12, v13, v14, v15, v16, .int 2, v17, v18, v19, v20]))] H := hP
  have hD : va_D A [(h0, .inr (5, [v0, v1, v2, .ref h1, v3, v4, v5, v6, v7, v8])), (h1, .inr (1, [v9, v10, v11, v12, v13, v14, v15, v16, .int 2, v17, v18, v19, v20]))] := hD
  have hK : va_K D vwCl [] s := hK
  refine W.widen (k := 0) (n := 0) (Nat.le_of_ble_eq_true rfl) (Nat.le_of_ble_eq_true rfl) ?_
  refine lv_aload_n hx hb dX5_setPredict_6 rfl (lv_at hl 0 rfl) ?_
  refine va_get (D := D) (ci := 5) (v := .ref h1) (C := RX5) (T := TX5) (N := 10) hx hb hg inX5 hown hK hP 0 rfl rfl 3 (by decide) (hg _ k382) (fun _ h9 => h9) rfl dX5_setPredict_7 ?_
  refine va_get (D := D) (ci := 1) (v := .int 2) (C := RX1) (T := TX1) (N := 13) hx hb hg inX1 hown hK hP 1 rfl rfl 8 (by decide) (hg _ k294) (fun _ h9 => h9) rfl dX5_setPredict_10 ?_
  refine lv_istore_n (lv' := [(2, .int 2), (0, .ref h0), (1, .int 1)]) hx hb dX5_setPredict_13 rfl hl (by decide) rfl (fun ls hl => ?_)
  refine lv_aload_n hx hb dX5_setPredict_14 rfl (lv_at hl 1 rfl) ?_
  refine va_get (D := D) (ci := 5) (v := .ref h1) (C := RX5) (T := TX5) (N := 10) hx hb hg inX5 hown hK hP 0 rfl rfl 3 (by decide) (hg _ k382) (fun _ h9 => h9) rfl dX5_setPredict_15 ?_
  refine lv_iload_n hx hb dX5_setPredict_18 rfl (lv_at hl 2 rfl) ?_
  refine va_put (D := D) (ci := 1) (v := .int 1) (ty := .int) (C := RX1) (T := TX1) (N := 13) hx hb hg inX1 tyX1 tyX1_ok nmX1 hown hK hP hD hS 1 rfl rfl 8 (by decide) (hg _ k294) (fun _ h9 => h9) rfl (by decide +kernel) rfl rfl (Nat.le_of_ble_eq_true rfl) dX5_setPredict_19 (fun H locs hP hD hS => ?_)
  have hP : va_P D vwCl [(h0, .inr (5, [v0, v1, v2, .ref h1, v3, v4, v5, v6, v7, v8])), (h1, .inr (1, [v9, v10, v11, v12, v13, v14, v15, v16, .int 1, v17, v18, v19, v20]))] H := hP
  have hD : va_D A [(h0, .inr (5, [v0, v1, v2, .ref h1, v3, v4, v5, v6, v7, v8])), (h1, .inr (1, [v9, v10, v11, v12, v13, v14, v15, v16, .int 1, v17, v18, v19, v20]))] := hD
  refine lv_iload_n hx hb dX5_setPredict_22 rfl (lv_at hl 0 rfl) ?_
  exact fi hx hb hr hlocks hP hD hK hS (()) trivial rfl [0, 1] [] rfl (by decide) rfl (Nat.le_of_ble_eq_true rfl) (Nat.le_of_ble_eq_true rfl) dX5_setPredict_23
set_option maxHeartbeats 4000000 in
set_option maxRecDepth 100000 in
theorem cX5_setPredict_442 (l : Launch) (D : va_G) (h0 : Nat) (h1 : Nat) (v0 : Value) (v1 : Value) (v2 : Value) (v3 : Value) (v4 : Value) (v5 : Value) (v6 : Value) (v7 : Value) (v8 : Value) (v9 : Value) (v10 : Value) (v11 : Value) (v12 : Value) (v13 : Value) (v14 : Value) (v15 : Value) (v16 : Value) (v17 : Value) (v18 : Value) (v19 : Value) (v20 : Value)   : CT l yX5_setPredict cX5_setPredict 3 (some .int) { frames := 1, cells := 0, slots := 0, locals := 22 } [.ref h0, .int 2] D [(h0, .inr (5, [v0, v1, v2, .ref h1, v3, v4, v5, v6, v7, v8])), (h1, .inr (1, [v9, v10, v11, v12, v13, v14, v15, v16, .int 2, v17, v18, v19, v20]))] [] XN [(h0, .inr (5, [v0, v1, v2, .ref h1, v3, v4, v5, v6, v7, v8])), (h1, .inr (1, [v9, v10, v11, v12, v13, v14, v15, v16, .int 2, v17, v18, v19, v20]))] (ei (fun _ : Unit => True) (fun u => 2) (fun _ => [(h0, .inr (5, [v0, v1, v2, .ref h1, v3, v4, v5, v6, v7, v8])), (h1, .inr (1, [v9, v10, v11, v12, v13, v14, v15, v16, .int 2, v17, v18, v19, v20]))]) (fun u => []) D) 0 0 := by
  refine CT.ofW (by decide +kernel) (Nat.le_of_ble_eq_true rfl) ?_
  intro p e s m below meth c A ls hcs hP hK hD hX hA hS hl
  obtain ⟨hx, hb, hr, hml, hown, hg, hlocks, hin⟩ := hcs
  have hown : s.vm.findClass RX5 = some m.cls := hown
  have hl : lv_has ls 3 [(0, .ref h0), (1, .int 2)] := hl
  refine lv_iload_n hx hb dX5_setPredict_0 rfl (lv_at hl 1 rfl) ?_
  refine lv_iconst (v := 0) hx hb dX5_setPredict_1 (by decide) ?_
  refine lv_iconst (v := 2) hx hb dX5_setPredict_2 (by decide) ?_
  refine cSv (n := 3) (As := [.int 2, .int 0, .int 2]) (rest := []) (wr := [(h0, .inr (5, [v0, v1, v2, .ref h1, v3, v4, v5, v6, v7, v8])), (h1, .inr (1, [v9, v10, v11, v12, v13, v14, v15, v16, .int 2, v17, v18, v19, v20]))]) (tr := []) hx hb hml hown hg okN (cX5_needRange_436 l D) (mwS k909 k910 k84 k911) ⟨rfl, by decide, by decide, by decide +kernel⟩ ⟨rfl, rfl, (Nat.le_of_ble_eq_true rfl), (Nat.le_of_ble_eq_true rfl)⟩ hP hD hK hS xn [] [] [0, 1] [] [] rfl (by decide) rfl rfl (by decide) (by decide) rfl rfl (aNil hA hS) (aNil hA hS) rfl hl.1 rfl (Nat.le_of_ble_eq_true rfl) dX5_setPredict_3 ⟨(Nat.le_of_ble_eq_true rfl), (Nat.le_of_ble_eq_true rfl)⟩ (fun u H locs hφ hP hD hK hS hk => ?_)
  have hP : va_P D vwCl [(h0, .inr (5, [v0, v1, v2, .ref h1, v3, v4, v5, v6, v7, v8])), (h1, .inr (1, [v9, v10, v11, v12, v13, v14, v15, v16, .int 2, v17, v18, v19, v20]))] H := hP
  have hD : va_D A [(h0, .inr (5, [v0, v1, v2, .ref h1, v3, v4, v5, v6, v7, v8])), (h1, .inr (1, [v9, v10, v11, v12, v13, v14, v15, v16, .int 2, v17, v18, v19, v20]))] := hD
  have hK : va_K D vwCl [] s := hK
  refine W.widen (k := 0) (n := 0) (Nat.le_of_ble_eq_true rfl) (Nat.le_of_ble_eq_true rfl) ?_
  refine lv_aload_n hx hb dX5_setPredict_6 rfl (lv_at hl 0 rfl) ?_
  refine va_get (D := D) (ci := 5) (v := .ref h1) (C := RX5) (T := TX5) (N := 10) hx hb hg inX5 hown hK hP 0 rfl rfl 3 (by decide) (hg _ k382) (fun _ h9 => h9) rfl dX5_setPredict_7 ?_
  refine va_get (D := D) (ci := 1) (v := .int 2) (C := RX1) (T := TX1) (N := 13) hx hb hg inX1 hown hK hP 1 rfl rfl 8 (by decide) (hg _ k294) (fun _ h9 => h9) rfl dX5_setPredict_10 ?_
  refine lv_istore_n (lv' := [(2, .int 2), (0, .ref h0), (1, .int 2)]) hx hb dX5_setPredict_13 rfl hl (by decide) rfl (fun ls hl => ?_)
  refine lv_aload_n hx hb dX5_setPredict_14 rfl (lv_at hl 1 rfl) ?_
  refine va_get (D := D) (ci := 5) (v := .ref h1) (C := RX5) (T := TX5) (N := 10) hx hb hg inX5 hown hK hP 0 rfl rfl 3 (by decide) (hg _ k382) (fun _ h9 => h9) rfl dX5_setPredict_15 ?_
  refine lv_iload_n hx hb dX5_setPredict_18 rfl (lv_at hl 2 rfl) ?_
  refine va_put (D := D) (ci := 1) (v := .int 2) (ty := .int) (C := RX1) (T := TX1) (N := 13) hx hb hg inX1 tyX1 tyX1_ok nmX1 hown hK hP hD hS 1 rfl rfl 8 (by decide) (hg _ k294) (fun _ h9 => h9) rfl (by decide +kernel) rfl rfl (Nat.le_of_ble_eq_true rfl) dX5_setPredict_19 (fun H locs hP hD hS => ?_)
  have hP : va_P D vwCl [(h0, .inr (5, [v0, v1, v2, .ref h1, v3, v4, v5, v6, v7, v8])), (h1, .inr (1, [v9, v10, v11, v12, v13, v14, v15, v16, .int 2, v17, v18, v19, v20]))] H := hP
  have hD : va_D A [(h0, .inr (5, [v0, v1, v2, .ref h1, v3, v4, v5, v6, v7, v8])), (h1, .inr (1, [v9, v10, v11, v12, v13, v14, v15, v16, .int 2, v17, v18, v19, v20]))] := hD
  refine lv_iload_n hx hb dX5_setPredict_22 rfl (lv_at hl 0 rfl) ?_
  exact fi hx hb hr hlocks hP hD hK hS (()) trivial rfl [0, 1] [] rfl (by decide) rfl (Nat.le_of_ble_eq_true rfl) (Nat.le_of_ble_eq_true rfl) dX5_setPredict_23
set_option maxHeartbeats 4000000 in
set_option maxRecDepth 100000 in
theorem cX5_setPredict_443 (l : Launch) (D : va_G) (hlt : l.stackTraces = false) (h0 : Nat) (x0 : Int32)  (d0 : ¬ (x0 < 0)) (d1 : ¬ (x0 ≤ 2)) : CX l yX5_setPredict cX5_setPredict 3 (some .int) { frames := 7, cells := 1, slots := 6, locals := 112 } [.ref h0, .int x0] D [] [] XX [] xi "java/lang/IllegalArgumentException" 1 6 := by
  refine CX.ofR (by decide +kernel) (Nat.le_of_ble_eq_true rfl) ?_
  intro p e s m below meth c A ls hcs hout hP hK hD hX hA hS hl
  obtain ⟨hx, hb, hr, hml, hown, hg, hlocks, hin⟩ := hcs
  have hown : s.vm.findClass RX5 = some m.cls := hown
  have hl : lv_has ls 3 [(0, .ref h0), (1, .int x0)] := hl
  refine lv_iload_n hx hb dX5_setPredict_0 rfl (lv_at hl 1 rfl) ?_
  refine lv_iconst (v := 0) hx hb dX5_setPredict_1 (by decide) ?_
  refine lv_iconst (v := 2) hx hb dX5_setPredict_2 (by decide) ?_
  exact xSv (n := 3) (As := [.int x0, .int 0, .int 2]) (rest := []) hx hb hml hown hg okXX (cX5_needRange_438 l D hlt x0 d0 d1) (mwS k909 k910 k84 k911) ⟨rfl, by decide, by decide, by decide +kernel⟩ ⟨rfl, rfl, (Nat.le_of_ble_eq_true rfl), (Nat.le_of_ble_eq_true rfl)⟩ hP hD hK hS (okXX.2.2 _ _ _ _ hS.2.1 hX) [] [] rfl (by decide) rfl (aNil hA hS) rfl hl.1 rfl (Nat.le_of_ble_eq_true rfl) dX5_setPredict_3 ⟨(Nat.le_of_ble_eq_true rfl), (Nat.le_of_ble_eq_true rfl)⟩ hout hlocks (Nat.le_of_ble_eq_true rfl) (Nat.le_of_ble_eq_true rfl)
set_option maxHeartbeats 4000000 in
set_option maxRecDepth 100000 in
theorem cX5_setUpdate_444 (l : Launch) (D : va_G) (h0 : Nat) (h1 : Nat) (v0 : Value) (v1 : Value) (v2 : Value) (v3 : Value) (v4 : Value) (v5 : Value) (v6 : Value) (v7 : Value) (v8 : Value) (v9 : Value) (v10 : Value) (v11 : Value) (v12 : Value) (v13 : Value) (v14 : Value) (v15 : Value) (v16 : Value) (v17 : Value) (v18 : Value) (v19 : Value) (v20 : Value)   : CT l yX5_setUpdate cX5_setUpdate 3 (some .boolean) { frames := 0, cells := 0, slots := 0, locals := 0 } [.ref h0, .int 0] D [(h0, .inr (5, [v0, v1, v2, .ref h1, v3, v4, v5, v6, v7, v8])), (h1, .inr (1, [v9, v10, v11, v12, v13, v14, v15, v16, v17, .int 1, v18, v19, v20]))] [] XN [(h0, .inr (5, [v0, v1, v2, .ref h1, v3, v4, v5, v6, v7, v8])), (h1, .inr (1, [v9, v10, v11, v12, v13, v14, v15, v16, v17, .int 1, v18, v19, v20]))] (ei (fun _ : Unit => True) (fun u => 1) (fun _ => [(h0, .inr (5, [v0, v1, v2, .ref h1, v3, v4, v5, v6, v7, v8])), (h1, .inr (1, [v9, v10, v11, v12, v13, v14, v15, v16, v17, .int 0, v18, v19, v20]))]) (fun u => []) D) 0 0 := by
  refine CT.ofW (by decide +kernel) (Nat.le_of_ble_eq_true rfl) ?_
  intro p e s m below meth c A ls hcs hP hK hD hX hA hS hl
  obtain ⟨hx, hb, hr, hml, hown, hg, hlocks, hin⟩ := hcs
  have hown : s.vm.findClass RX5 = some m.cls := hown
  have hl : lv_has ls 3 [(0, .ref h0), (1, .int 0)] := hl
  refine lv_aload_n hx hb dX5_setUpdate_0 rfl (lv_at hl 0 rfl) ?_
  refine va_get (D := D) (ci := 5) (v := .ref h1) (C := RX5) (T := TX5) (N := 10) hx hb hg inX5 hown hK hP 0 rfl rfl 3 (by decide) (hg _ k382) (fun _ h9 => h9) rfl dX5_setUpdate_1 ?_
  refine va_get (D := D) (ci := 1) (v := .int 1) (C := RX1) (T := TX1) (N := 13) hx hb hg inX1 hown hK hP 1 rfl rfl 9 (by decide) (hg _ k296) (fun _ h9 => h9) rfl dX5_setUpdate_4 ?_
  refine lv_istore_n (lv' := [(2, .int 1), (0, .ref h0), (1, .int 0)]) hx hb dX5_setUpdate_7 rfl hl (by decide) rfl (fun ls hl => ?_)
  refine lv_aload_n hx hb dX5_setUpdate_8 rfl (lv_at hl 1 rfl) ?_
  refine va_get (D := D) (ci := 5) (v := .ref h1) (C := RX5) (T := TX5) (N := 10) hx hb hg inX5 hown hK hP 0 rfl rfl 3 (by decide) (hg _ k382) (fun _ h9 => h9) rfl dX5_setUpdate_9 ?_
  refine lv_iload_n hx hb dX5_setUpdate_12 rfl (lv_at hl 2 rfl) ?_
  refine va_put (D := D) (ci := 1) (v := .int 0) (ty := .boolean) (C := RX1) (T := TX1) (N := 13) hx hb hg inX1 tyX1 tyX1_ok nmX1 hown hK hP hD hS 1 rfl rfl 9 (by decide) (hg _ k296) (fun _ h9 => h9) rfl (by decide +kernel) rfl rfl (Nat.le_of_ble_eq_true rfl) dX5_setUpdate_13 (fun H locs hP hD hS => ?_)
  have hP : va_P D vwCl [(h0, .inr (5, [v0, v1, v2, .ref h1, v3, v4, v5, v6, v7, v8])), (h1, .inr (1, [v9, v10, v11, v12, v13, v14, v15, v16, v17, .int 0, v18, v19, v20]))] H := hP
  have hD : va_D A [(h0, .inr (5, [v0, v1, v2, .ref h1, v3, v4, v5, v6, v7, v8])), (h1, .inr (1, [v9, v10, v11, v12, v13, v14, v15, v16, v17, .int 0, v18, v19, v20]))] := hD
  refine lv_iload_n hx hb dX5_setUpdate_16 rfl (lv_at hl 0 rfl) ?_
  exact fz hx hb hr rfl hlocks hP hD hK hS (()) trivial rfl [0, 1] [] rfl (by decide) rfl (Nat.le_of_ble_eq_true rfl) (Nat.le_of_ble_eq_true rfl) dX5_setUpdate_17
set_option maxHeartbeats 4000000 in
set_option maxRecDepth 100000 in
theorem cX5_setUpdate_445 (l : Launch) (D : va_G) (h0 : Nat) (h1 : Nat) (v0 : Value) (v1 : Value) (v2 : Value) (v3 : Value) (v4 : Value) (v5 : Value) (v6 : Value) (v7 : Value) (v8 : Value) (v9 : Value) (v10 : Value) (v11 : Value) (v12 : Value) (v13 : Value) (v14 : Value) (v15 : Value) (v16 : Value) (v17 : Value) (v18 : Value) (v19 : Value) (v20 : Value)   : CT l yX5_setUpdate cX5_setUpdate 3 (some .boolean) { frames := 0, cells := 0, slots := 0, locals := 0 } [.ref h0, .int 1] D [(h0, .inr (5, [v0, v1, v2, .ref h1, v3, v4, v5, v6, v7, v8])), (h1, .inr (1, [v9, v10, v11, v12, v13, v14, v15, v16, v17, .int 1, v18, v19, v20]))] [] XN [(h0, .inr (5, [v0, v1, v2, .ref h1, v3, v4, v5, v6, v7, v8])), (h1, .inr (1, [v9, v10, v11, v12, v13, v14, v15, v16, v17, .int 1, v18, v19, v20]))] (ei (fun _ : Unit => True) (fun u => 1) (fun _ => [(h0, .inr (5, [v0, v1, v2, .ref h1, v3, v4, v5, v6, v7, v8])), (h1, .inr (1, [v9, v10, v11, v12, v13, v14, v15, v16, v17, .int 1, v18, v19, v20]))]) (fun u => []) D) 0 0 := by
  refine CT.ofW (by decide +kernel) (Nat.le_of_ble_eq_true rfl) ?_
  intro p e s m below meth c A ls hcs hP hK hD hX hA hS hl
  obtain ⟨hx, hb, hr, hml, hown, hg, hlocks, hin⟩ := hcs
  have hown : s.vm.findClass RX5 = some m.cls := hown
  have hl : lv_has ls 3 [(0, .ref h0), (1, .int 1)] := hl
  refine lv_aload_n hx hb dX5_setUpdate_0 rfl (lv_at hl 0 rfl) ?_
  refine va_get (D := D) (ci := 5) (v := .ref h1) (C := RX5) (T := TX5) (N := 10) hx hb hg inX5 hown hK hP 0 rfl rfl 3 (by decide) (hg _ k382) (fun _ h9 => h9) rfl dX5_setUpdate_1 ?_
  refine va_get (D := D) (ci := 1) (v := .int 1) (C := RX1) (T := TX1) (N := 13) hx hb hg inX1 hown hK hP 1 rfl rfl 9 (by decide) (hg _ k296) (fun _ h9 => h9) rfl dX5_setUpdate_4 ?_
  refine lv_istore_n (lv' := [(2, .int 1), (0, .ref h0), (1, .int 1)]) hx hb dX5_setUpdate_7 rfl hl (by decide) rfl (fun ls hl => ?_)
  refine lv_aload_n hx hb dX5_setUpdate_8 rfl (lv_at hl 1 rfl) ?_
  refine va_get (D := D) (ci := 5) (v := .ref h1) (C := RX5) (T := TX5) (N := 10) hx hb hg inX5 hown hK hP 0 rfl rfl 3 (by decide) (hg _ k382) (fun _ h9 => h9) rfl dX5_setUpdate_9 ?_
  refine lv_iload_n hx hb dX5_setUpdate_12 rfl (lv_at hl 2 rfl) ?_
  refine va_put (D := D) (ci := 1) (v := .int 1) (ty := .boolean) (C := RX1) (T := TX1) (N := 13) hx hb hg inX1 tyX1 tyX1_ok nmX1 hown hK hP hD hS 1 rfl rfl 9 (by decide) (hg _ k296) (fun _ h9 => h9) rfl (by decide +kernel) rfl rfl (Nat.le_of_ble_eq_true rfl) dX5_setUpdate_13 (fun H locs hP hD hS => ?_)
  have hP : va_P D vwCl [(h0, .inr (5, [v0, v1, v2, .ref h1, v3, v4, v5, v6, v7, v8])), (h1, .inr (1, [v9, v10, v11, v12, v13, v14, v15, v16, v17, .int 1, v18, v19, v20]))] H := hP
  have hD : va_D A [(h0, .inr (5, [v0, v1, v2, .ref h1, v3, v4, v5, v6, v7, v8])), (h1, .inr (1, [v9, v10, v11, v12, v13, v14, v15, v16, v17, .int 1, v18, v19, v20]))] := hD
  refine lv_iload_n hx hb dX5_setUpdate_16 rfl (lv_at hl 0 rfl) ?_
  exact fz hx hb hr rfl hlocks hP hD hK hS (()) trivial rfl [0, 1] [] rfl (by decide) rfl (Nat.le_of_ble_eq_true rfl) (Nat.le_of_ble_eq_true rfl) dX5_setUpdate_17
set_option maxHeartbeats 4000000 in
set_option maxRecDepth 100000 in
theorem cX5_set_446 (l : Launch) (D : va_G) (hlt : l.stackTraces = false) (h0 : Nat) (x0 : Int32) (x1 : Int32) (h1 : Nat) (v0 : Value) (v1 : Value) (v2 : Value) (v3 : Value) (v4 : Value) (v5 : Value) (v6 : Value) (v7 : Value) (v8 : Value) (v9 : Value) (v10 : Value) (v11 : Value) (v12 : Value) (v13 : Value) (v14 : Value)  (d0 : x0 < 0) : CX l yX5_set cX5_set 5 (some .long) { frames := 7, cells := 1, slots := 6, locals := 111 } [.ref h0, .int x0, .int x1] D [(h0, .inr (5, [v0, .ref h1, v1, v2, v3, v4, v5, v6, v7, v8])), (h1, .inr (0, [v9, v10, .int 2, v11, v12, v13, v14]))] [] XX [] xl "java/lang/IndexOutOfBoundsException" 1 6 := by
  refine CX.ofR (by decide +kernel) (Nat.le_of_ble_eq_true rfl) ?_
  intro p e s m below meth c A ls hcs hout hP hK hD hX hA hS hl
  obtain ⟨hx, hb, hr, hml, hown, hg, hlocks, hin⟩ := hcs
  have hown : s.vm.findClass RX5 = some m.cls := hown
  have hl : lv_has ls 5 [(0, .ref h0), (1, .int x0), (2, .int x1)] := hl
  refine lv_iload_n hx hb dX5_set_0 rfl (lv_at hl 1 rfl) ?_
  refine lv_aload_n hx hb dX5_set_1 rfl (lv_at hl 0 rfl) ?_
  refine va_get (D := D) (ci := 5) (v := .ref h1) (C := RX5) (T := TX5) (N := 10) hx hb hg inX5 hown hK hP 0 rfl rfl 1 (by decide) (hg _ k380) (fun _ h9 => h9) rfl dX5_set_2 ?_
  refine va_get (D := D) (ci := 0) (v := .int 2) (C := RX0) (T := TX0) (N := 7) hx hb hg inX0 hown hK hP 1 rfl rfl 2 (by decide) (hg _ k163) (fun _ h9 => h9) rfl dX5_set_5 ?_
  exact xSv (n := 2) (As := [.int x0, .int 2]) (rest := []) hx hb hml hown hg okXX (cX5_needIndex_339 l D hlt x0 d0) (mwS k610 k611 k84 k612) ⟨rfl, by decide, by decide, by decide +kernel⟩ ⟨rfl, rfl, (Nat.le_of_ble_eq_true rfl), (Nat.le_of_ble_eq_true rfl)⟩ hP hD hK hS (okXX.2.2 _ _ _ _ hS.2.1 hX) [] [] rfl (by decide) rfl (aNil hA hS) rfl hl.1 rfl (Nat.le_of_ble_eq_true rfl) dX5_set_8 ⟨(Nat.le_of_ble_eq_true rfl), (Nat.le_of_ble_eq_true rfl)⟩ hout hlocks (Nat.le_of_ble_eq_true rfl) (Nat.le_of_ble_eq_true rfl)
set_option maxHeartbeats 4000000 in
set_option maxRecDepth 100000 in
theorem cX5_set_447 (l : Launch) (D : va_G) (hlt : l.stackTraces = false) (h0 : Nat) (x0 : Int32) (x1 : Int32) (h1 : Nat) (v0 : Value) (v1 : Value) (v2 : Value) (v3 : Value) (v4 : Value) (v5 : Value) (v6 : Value) (v7 : Value) (v8 : Value) (v9 : Value) (v10 : Value) (v11 : Value) (v12 : Value) (v13 : Value) (v14 : Value)  (d0 : ¬ (x0 < 0)) (d1 : ¬ (x0 < 2)) : CX l yX5_set cX5_set 5 (some .long) { frames := 7, cells := 1, slots := 6, locals := 111 } [.ref h0, .int x0, .int x1] D [(h0, .inr (5, [v0, .ref h1, v1, v2, v3, v4, v5, v6, v7, v8])), (h1, .inr (0, [v9, v10, .int 2, v11, v12, v13, v14]))] [] XX [] xl "java/lang/IndexOutOfBoundsException" 1 6 := by
  refine CX.ofR (by decide +kernel) (Nat.le_of_ble_eq_true rfl) ?_
  intro p e s m below meth c A ls hcs hout hP hK hD hX hA hS hl
  obtain ⟨hx, hb, hr, hml, hown, hg, hlocks, hin⟩ := hcs
  have hown : s.vm.findClass RX5 = some m.cls := hown
  have hl : lv_has ls 5 [(0, .ref h0), (1, .int x0), (2, .int x1)] := hl
  refine lv_iload_n hx hb dX5_set_0 rfl (lv_at hl 1 rfl) ?_
  refine lv_aload_n hx hb dX5_set_1 rfl (lv_at hl 0 rfl) ?_
  refine va_get (D := D) (ci := 5) (v := .ref h1) (C := RX5) (T := TX5) (N := 10) hx hb hg inX5 hown hK hP 0 rfl rfl 1 (by decide) (hg _ k380) (fun _ h9 => h9) rfl dX5_set_2 ?_
  refine va_get (D := D) (ci := 0) (v := .int 2) (C := RX0) (T := TX0) (N := 7) hx hb hg inX0 hown hK hP 1 rfl rfl 2 (by decide) (hg _ k163) (fun _ h9 => h9) rfl dX5_set_5 ?_
  exact xSv (n := 2) (As := [.int x0, .int 2]) (rest := []) hx hb hml hown hg okXX (cX5_needIndex_341 l D hlt x0 d0 d1) (mwS k610 k611 k84 k612) ⟨rfl, by decide, by decide, by decide +kernel⟩ ⟨rfl, rfl, (Nat.le_of_ble_eq_true rfl), (Nat.le_of_ble_eq_true rfl)⟩ hP hD hK hS (okXX.2.2 _ _ _ _ hS.2.1 hX) [] [] rfl (by decide) rfl (aNil hA hS) rfl hl.1 rfl (Nat.le_of_ble_eq_true rfl) dX5_set_8 ⟨(Nat.le_of_ble_eq_true rfl), (Nat.le_of_ble_eq_true rfl)⟩ hout hlocks (Nat.le_of_ble_eq_true rfl) (Nat.le_of_ble_eq_true rfl)
set_option maxHeartbeats 4000000 in
set_option maxRecDepth 100000 in
theorem cX5_needRange_449 (l : Launch) (D : va_G) (hlt : l.stackTraces = false) (x0 : Int32)  (d0 : x0 < (-9999)) : CX l yX5_needRange cX5_needRange 3 none { frames := 6, cells := 1, slots := 6, locals := 90 } [.int x0, .int (-9999), .int 9999] D [] [] XX [] xv "java/lang/IllegalArgumentException" 1 6 := by
  refine CX.ofR (by decide +kernel) (Nat.le_of_ble_eq_true rfl) ?_
  intro p e s m below meth c A ls hcs hout hP hK hD hX hA hS hl
  obtain ⟨hx, hb, hr, hml, hown, hg, hlocks, hin⟩ := hcs
  have hown : s.vm.findClass RX5 = some m.cls := hown
  have hl : lv_has ls 3 [(0, .int x0), (1, .int (-9999)), (2, .int 9999)] := hl
  refine lv_iload_n hx hb dX5_needRange_0 rfl (lv_at hl 0 rfl) ?_
  refine lv_iload_n hx hb dX5_needRange_1 rfl (lv_at hl 1 rfl) ?_
  refine lv_icmp_lt (tgt := 10) hx hb dX5_needRange_2 (by decide) (fun _ => ?_) (fun c9 => absurd d0 c9)
  obtain ⟨sa, hsa⟩ := XX_sRX5_321 hX
  exact thSW_IAE hx hb hlt hown (hg _ k813) (hg _ k101) hsa hg hX hS (hl.1.trans hml.symm) dX5_needRange_10 dX5_needRange_13 dX5_needRange_14 dX5_needRange_17 dX5_needRange_20 hout (Nat.le_of_ble_eq_true rfl) (Nat.le_of_ble_eq_true rfl) (Nat.le_of_ble_eq_true rfl) (Nat.le_of_ble_eq_true rfl) hlocks (Nat.le_of_ble_eq_true rfl) (Nat.le_of_ble_eq_true rfl)
set_option maxHeartbeats 4000000 in
set_option maxRecDepth 100000 in
theorem cX5_set_448 (l : Launch) (D : va_G) (hlt : l.stackTraces = false) (h0 : Nat) (x0 : Int32) (h1 : Nat) (v0 : Value) (v1 : Value) (v2 : Value) (v3 : Value) (v4 : Value) (v5 : Value) (v6 : Value) (v7 : Value) (v8 : Value) (v9 : Value) (v10 : Value) (v11 : Value) (v12 : Value) (v13 : Value) (v14 : Value)  (d0 : x0 < (-9999)) : CX l yX5_set cX5_set 5 (some .long) { frames := 7, cells := 1, slots := 6, locals := 112 } [.ref h0, .int 0, .int x0] D [(h0, .inr (5, [v0, .ref h1, v1, v2, v3, v4, v5, v6, v7, v8])), (h1, .inr (0, [v9, v10, .int 2, v11, v12, v13, v14]))] [] XX [] xl "java/lang/IllegalArgumentException" 1 6 := by
  refine CX.ofR (by decide +kernel) (Nat.le_of_ble_eq_true rfl) ?_
  intro p e s m below meth c A ls hcs hout hP hK hD hX hA hS hl
  obtain ⟨hx, hb, hr, hml, hown, hg, hlocks, hin⟩ := hcs
  have hown : s.vm.findClass RX5 = some m.cls := hown
  have hl : lv_has ls 5 [(0, .ref h0), (1, .int 0), (2, .int x0)] := hl
  refine lv_iload_n hx hb dX5_set_0 rfl (lv_at hl 1 rfl) ?_
  refine lv_aload_n hx hb dX5_set_1 rfl (lv_at hl 0 rfl) ?_
  refine va_get (D := D) (ci := 5) (v := .ref h1) (C := RX5) (T := TX5) (N := 10) hx hb hg inX5 hown hK hP 0 rfl rfl 1 (by decide) (hg _ k380) (fun _ h9 => h9) rfl dX5_set_2 ?_
  refine va_get (D := D) (ci := 0) (v := .int 2) (C := RX0) (T := TX0) (N := 7) hx hb hg inX0 hown hK hP 1 rfl rfl 2 (by decide) (hg _ k163) (fun _ h9 => h9) rfl dX5_set_5 ?_
  refine cSv (n := 2) (As := [.int 0, .int 2]) (rest := []) (wr := [(h0, .inr (5, [v0, .ref h1, v1, v2, v3, v4, v5, v6, v7, v8])), (h1, .inr (0, [v9, v10, .int 2, v11, v12, v13, v14]))]) (tr := []) hx hb hml hown hg okN (cX5_needIndex_343 l D) (mwS k610 k611 k84 k612) ⟨rfl, by decide, by decide, by decide +kernel⟩ ⟨rfl, rfl, (Nat.le_of_ble_eq_true rfl), (Nat.le_of_ble_eq_true rfl)⟩ hP hD hK hS xn [] [] [0, 1] [] [] rfl (by decide) rfl rfl (by decide) (by decide) rfl rfl (aNil hA hS) (fun _ _ => trivial) rfl hl.1 rfl (Nat.le_of_ble_eq_true rfl) dX5_set_8 ⟨(Nat.le_of_ble_eq_true rfl), (Nat.le_of_ble_eq_true rfl)⟩ (fun u H locs hφ hP hD hK hS hk => ?_)
  have hP : va_P D vwCl [(h0, .inr (5, [v0, .ref h1, v1, v2, v3, v4, v5, v6, v7, v8])), (h1, .inr (0, [v9, v10, .int 2, v11, v12, v13, v14]))] H := hP
  have hD : va_D (fun _ => True) [(h0, .inr (5, [v0, .ref h1, v1, v2, v3, v4, v5, v6, v7, v8])), (h1, .inr (0, [v9, v10, .int 2, v11, v12, v13, v14]))] := hD
  have hK : va_K D vwCl [] s := hK
  refine W.widen (k := 0) (n := 0) (Nat.le_of_ble_eq_true rfl) (Nat.le_of_ble_eq_true rfl) ?_
  refine lv_iload_n hx hb dX5_set_11 rfl (lv_at hl 2 rfl) ?_
  refine lv_sipush (v := (-9999)) hx hb dX5_set_12 (by decide) ?_
  refine lv_sipush (v := 9999) hx hb dX5_set_15 (by decide) ?_
  exact xSv (n := 3) (As := [.int x0, .int (-9999), .int 9999]) (rest := []) hx hb hml hown hg okXX (cX5_needRange_449 l D hlt x0 d0) (mwS k909 k910 k84 k911) ⟨rfl, by decide, by decide, by decide +kernel⟩ ⟨rfl, rfl, (Nat.le_of_ble_eq_true rfl), (Nat.le_of_ble_eq_true rfl)⟩ hP hD hK hS (okXX.2.2 _ _ _ _ hS.2.1 hX) [] [] rfl (by decide) rfl (aNil hA hS) rfl hl.1 rfl (Nat.le_of_ble_eq_true rfl) dX5_set_18 ⟨(Nat.le_of_ble_eq_true rfl), (Nat.le_of_ble_eq_true rfl)⟩ hout hlocks (Nat.le_of_ble_eq_true rfl) (Nat.le_of_ble_eq_true rfl)
set_option maxHeartbeats 4000000 in
set_option maxRecDepth 100000 in
theorem cX5_needRange_451 (l : Launch) (D : va_G)    : CT l yX5_needRange cX5_needRange 3 none { frames := 0, cells := 0, slots := 0, locals := 0 } [.int 0, .int (-9999), .int 9999] D [] [] XN [] (ev (fun _ : Unit => True) (fun _ => []) (fun _ => []) D) 0 0 := by
  refine CT.ofR (by decide +kernel) (Nat.le_of_ble_eq_true rfl) ?_
  intro p e s m below meth c A ls hcs hP hK hD hX hA hS hl
  obtain ⟨hx, hb, hr, hml, hown, hg, hlocks, hin⟩ := hcs
  have hown : s.vm.findClass RX5 = some m.cls := hown
  have hl : lv_has ls 3 [(0, .int 0), (1, .int (-9999)), (2, .int 9999)] := hl
  refine lv_iload_n hx hb dX5_needRange_0 rfl (lv_at hl 0 rfl) ?_
  refine lv_iload_n hx hb dX5_needRange_1 rfl (lv_at hl 1 rfl) ?_
  refine lv_icmp_lt (tgt := 10) hx hb dX5_needRange_2 (by decide) (fun c9 => absurd c9 (by decide)) (fun _ => ?_)
  refine lv_iload_n hx hb dX5_needRange_5 rfl (lv_at hl 0 rfl) ?_
  refine lv_iload_n hx hb dX5_needRange_6 rfl (lv_at hl 2 rfl) ?_
  refine lv_icmp_le (tgt := 21) hx hb dX5_needRange_7 (by decide) (fun _ => ?_) (fun c9 => absurd (by decide) c9)
  exact fv0 hx hb hr hlocks hK hS (Nat.le_of_ble_eq_true rfl) (Nat.le_of_ble_eq_true rfl) dX5_needRange_21
set_option maxHeartbeats 4000000 in
set_option maxRecDepth 100000 in
theorem cX1_changeValue_452 (l : Launch) (D : va_G) (h0 : Nat) (h1 : Nat) (h2 : Nat) (h3 : Nat) (h4 : Nat) (h5 : Nat) (h6 : Nat) (v0 : Value) (v1 : Value) (v2 : Value) (v3 : Value) (v4 : Value) (v5 : Value) (v6 : Value) (v7 : Value) (v8 : Value) (v9 : Value) (f0 : Nat → Option Nat) (f1 : Nat → Int64) (f2 : Nat → Int32) (f3 : Nat → Int32) (a0 : ClassId) (a1 : ClassId) (a2 : ClassId) (a3 : ClassId) (ef0_0 : f0 0 = some h4) (ef1_0 : f1 0 = 1) (ef2_0 : f2 0 = 0) (ef3_0 : f3 0 = 0)  : CT l yX1_changeValue cX1_changeValue 3 none { frames := 2, cells := 0, slots := 0, locals := 50 } [.ref h0, .int 0, .int 0] D [(h0, .inr (1, [v0, .ref h1, .ref h2, v1, v2, v3, .ref h3, v4, v5, v6, v7, v8, v9])), (h1, .inl (a0, 48, .inr (.inr (.inr (.inr f0))))), (h2, .inl (a1, 48, .inr (.inl f1))), (h3, .inr (4, [.ref h5, .int 0, .int 0])), (h4, .inr (4, [.ref h6, .int 0, .int 0])), (h5, .inl (a2, 2, .inl f2)), (h6, .inl (a3, 2, .inl f3))] [(a0, .object "LiftingSignal$Whole"), (a1, .long), (a2, .int), (a3, .int)] XN [(h0, .inr (1, [v0, .ref h1, .ref h2, v1, v2, v3, .ref h3, v4, v5, v6, v7, v8, v9])), (h1, .inl (a0, 48, .inr (.inr (.inr (.inr f0))))), (h2, .inl (a1, 48, .inr (.inl f1))), (h3, .inr (4, [.ref h5, .int 0, .int 0])), (h4, .inr (4, [.ref h6, .int 0, .int 0])), (h5, .inl (a2, 2, .inl f2)), (h6, .inl (a3, 2, .inl f3))] (ev (fun _ : Unit => True) (fun _ => [(h0, .inr (1, [v0, .ref h1, .ref h2, v1, v2, v3, .ref h3, v4, v5, v6, v7, v8, v9])), (h1, .inl (a0, 48, .inr (.inr (.inr (.inr f0))))), (h2, .inl (a1, 48, .inr (.inl f1))), (h3, .inr (4, [.ref h5, .int 0, .int 0])), (h4, .inr (4, [.ref h6, .int 0, .int 0])), (h5, .inl (a2, 2, .inl (upd (upd (upd (upd f2 0 0) 1 0) 0 0) 1 0))), (h6, .inl (a3, 2, .inl (upd (upd f3 0 0) 1 0)))]) (fun u => [(a0, .object "LiftingSignal$Whole"), (a1, .long), (a2, .int), (a3, .int)]) D) 0 0 := by
  refine CT.ofW (by decide +kernel) (Nat.le_of_ble_eq_true rfl) ?_
  intro p e s m below meth c A ls hcs hP hK hD hX hA hS hl
  obtain ⟨hx, hb, hr, hml, hown, hg, hlocks, hin⟩ := hcs
  have hown : s.vm.findClass RX1 = some m.cls := hown
  have hl : lv_has ls 3 [(0, .ref h0), (1, .int 0), (2, .int 0)] := hl
  refine lv_aload_n hx hb dX1_changeValue_0 rfl (lv_at hl 0 rfl) ?_
  refine va_get (D := D) (ci := 1) (v := .ref h3) (C := RX1) (T := TX1) (N := 13) hx hb hg inX1 hown hK hP 0 rfl rfl 6 (by decide) (hg _ k289) (fun _ h9 => h9) rfl dX1_changeValue_1 ?_
  refine lv_aload_n hx hb dX1_changeValue_4 rfl (lv_at hl 0 rfl) ?_
  refine va_get (D := D) (ci := 1) (v := .ref h1) (C := RX1) (T := TX1) (N := 13) hx hb hg inX1 hown hK hP 0 rfl rfl 1 (by decide) (hg _ k279) (fun _ h9 => h9) rfl dX1_changeValue_5 ?_
  refine lv_iload_n hx hb dX1_changeValue_8 rfl (lv_at hl 1 rfl) ?_
  refine aldQ hx hb hK hP 1 0 rfl rfl 0 (by decide) (vin (by decide)) (v := h4) ef0_0 dX1_changeValue_9 ?_
  refine lv_aload_n hx hb dX1_changeValue_10 rfl (lv_at hl 0 rfl) ?_
  refine va_get (D := D) (ci := 1) (v := .ref h2) (C := RX1) (T := TX1) (N := 13) hx hb hg inX1 hown hK hP 0 rfl rfl 2 (by decide) (hg _ k281) (fun _ h9 => h9) rfl dX1_changeValue_11 ?_
  refine lv_iload_n hx hb dX1_changeValue_14 rfl (lv_at hl 1 rfl) ?_
  refine aldL hx hb hK hP 2 1 rfl rfl 0 (by decide) (vin (by decide)) (v := 1) ef1_0 dX1_changeValue_15 ?_
  refine lv_lneg hx hb dX1_changeValue_16 ?_
  refine tl ((-1)) (by decide) ?_
  refine cVv (n := 2) (As := [.ref h4, .long (-1)]) (rest := []) (wr := [(h0, .inr (1, [v0, .ref h1, .ref h2, v1, v2, v3, .ref h3, v4, v5, v6, v7, v8, v9])), (h1, .inl (a0, 48, .inr (.inr (.inr (.inr f0))))), (h2, .inl (a1, 48, .inr (.inl f1)))]) (tr := [(a0, .object "LiftingSignal$Whole"), (a1, .long)]) hx hb hml hown hg okN (cX4_add_389 l D h3 h4 h5 h6 f2 f3 a2 a3 ef2_0 ef3_0) (mwV k340 k341 k342 k88 k343) ⟨rfl, by decide, by decide, by decide +kernel⟩ ⟨rfl, rfl, (Nat.le_of_ble_eq_true rfl), (Nat.le_of_ble_eq_true rfl)⟩ hP hD hK hS xn [3, 4, 5, 6] [3, 4, 5, 6] [0, 1, 2] [2, 3] [0, 1] rfl (by decide) rfl rfl (by decide) (by decide) rfl rfl (va_free hD hS hA [3, 4, 5, 6] rfl) (va_free hD hS hA [3, 4, 5, 6] rfl) 3 rfl rfl rfl hl.1 rfl (Nat.le_of_ble_eq_true rfl) dX1_changeValue_17 ⟨(Nat.le_of_ble_eq_true rfl), (Nat.le_of_ble_eq_true rfl)⟩ (fun u H locs hφ hP hD hK hS hk => ?_)
  have hP : va_P D vwCl [(h0, .inr (1, [v0, .ref h1, .ref h2, v1, v2, v3, .ref h3, v4, v5, v6, v7, v8, v9])), (h1, .inl (a0, 48, .inr (.inr (.inr (.inr f0))))), (h2, .inl (a1, 48, .inr (.inl f1))), (h3, .inr (4, [.ref h5, .int 0, .int 0])), (h4, .inr (4, [.ref h6, .int 0, .int 0])), (h5, .inl (a2, 2, .inl (upd (upd f2 0 0) 1 0))), (h6, .inl (a3, 2, .inl f3))] H := hP
  have hD : va_D A [(h0, .inr (1, [v0, .ref h1, .ref h2, v1, v2, v3, .ref h3, v4, v5, v6, v7, v8, v9])), (h1, .inl (a0, 48, .inr (.inr (.inr (.inr f0))))), (h2, .inl (a1, 48, .inr (.inl f1))), (h3, .inr (4, [.ref h5, .int 0, .int 0])), (h4, .inr (4, [.ref h6, .int 0, .int 0])), (h5, .inl (a2, 2, .inl (upd (upd f2 0 0) 1 0))), (h6, .inl (a3, 2, .inl f3))] := hD
  have hK : va_K D vwCl [(a0, .object "LiftingSignal$Whole"), (a1, .long), (a2, .int), (a3, .int)] s := hK
  refine W.widen (k := 0) (n := 0) (Nat.le_of_ble_eq_true rfl) (Nat.le_of_ble_eq_true rfl) ?_
  refine lv_aload_n hx hb dX1_changeValue_20 rfl (lv_at hl 0 rfl) ?_
  refine va_get (D := D) (ci := 1) (v := .ref h1) (C := RX1) (T := TX1) (N := 13) hx hb hg inX1 hown hK hP 0 rfl rfl 1 (by decide) (hg _ k279) (fun _ h9 => h9) rfl dX1_changeValue_21 ?_
  refine lv_iload_n hx hb dX1_changeValue_24 rfl (lv_at hl 1 rfl) ?_
  refine aldQ hx hb hK hP 1 0 rfl rfl 0 (by decide) (vin (by decide)) (v := h4) ef0_0 dX1_changeValue_25 ?_
  refine lv_iload_n hx hb dX1_changeValue_26 rfl (lv_at hl 2 rfl) ?_
  refine lv_i2l (v := 0) hx hb dX1_changeValue_27 (by decide) ?_
  refine cVv (n := 1) (As := [.long 0]) (rest := []) (wr := [(h0, .inr (1, [v0, .ref h1, .ref h2, v1, v2, v3, .ref h3, v4, v5, v6, v7, v8, v9])), (h1, .inl (a0, 48, .inr (.inr (.inr (.inr f0))))), (h2, .inl (a1, 48, .inr (.inl f1))), (h3, .inr (4, [.ref h5, .int 0, .int 0])), (h5, .inl (a2, 2, .inl (upd (upd f2 0 0) 1 0)))]) (tr := [(a0, .object "LiftingSignal$Whole"), (a1, .long), (a2, .int)]) hx hb hml hown hg okN (cX4_become_391 l D h4 h6 (.int 0) (.int 0) f3 a3) (mwV k274 k275 k276 k88 k277) ⟨rfl, by decide, by decide, by decide +kernel⟩ ⟨rfl, rfl, (Nat.le_of_ble_eq_true rfl), (Nat.le_of_ble_eq_true rfl)⟩ hP hD hK hS xn [4, 6] [4, 6] [0, 1, 2, 3, 5] [3] [0, 1, 2] rfl (by decide) rfl rfl (by decide) (by decide) rfl rfl (va_free hD hS hA [4, 6] rfl) (va_free hD hS hA [4, 6] rfl) 4 rfl rfl rfl hl.1 rfl (Nat.le_of_ble_eq_true rfl) dX1_changeValue_28 ⟨(Nat.le_of_ble_eq_true rfl), (Nat.le_of_ble_eq_true rfl)⟩ (fun u H locs hφ hP hD hK hS hk => ?_)
  have hP : va_P D vwCl [(h0, .inr (1, [v0, .ref h1, .ref h2, v1, v2, v3, .ref h3, v4, v5, v6, v7, v8, v9])), (h1, .inl (a0, 48, .inr (.inr (.inr (.inr f0))))), (h2, .inl (a1, 48, .inr (.inl f1))), (h3, .inr (4, [.ref h5, .int 0, .int 0])), (h5, .inl (a2, 2, .inl (upd (upd f2 0 0) 1 0))), (h4, .inr (4, [.ref h6, .int 0, .int 0])), (h6, .inl (a3, 2, .inl (upd (upd f3 0 0) 1 0)))] H := hP
  have hD : va_D A [(h0, .inr (1, [v0, .ref h1, .ref h2, v1, v2, v3, .ref h3, v4, v5, v6, v7, v8, v9])), (h1, .inl (a0, 48, .inr (.inr (.inr (.inr f0))))), (h2, .inl (a1, 48, .inr (.inl f1))), (h3, .inr (4, [.ref h5, .int 0, .int 0])), (h5, .inl (a2, 2, .inl (upd (upd f2 0 0) 1 0))), (h4, .inr (4, [.ref h6, .int 0, .int 0])), (h6, .inl (a3, 2, .inl (upd (upd f3 0 0) 1 0)))] := hD
  have hK : va_K D vwCl [(a0, .object "LiftingSignal$Whole"), (a1, .long), (a2, .int), (a3, .int)] s := hK
  refine W.widen (k := 0) (n := 0) (Nat.le_of_ble_eq_true rfl) (Nat.le_of_ble_eq_true rfl) ?_
  refine lv_aload_n hx hb dX1_changeValue_31 rfl (lv_at hl 0 rfl) ?_
  refine va_get (D := D) (ci := 1) (v := .ref h3) (C := RX1) (T := TX1) (N := 13) hx hb hg inX1 hown hK hP 0 rfl rfl 6 (by decide) (hg _ k289) (fun _ h9 => h9) rfl dX1_changeValue_32 ?_
  refine lv_aload_n hx hb dX1_changeValue_35 rfl (lv_at hl 0 rfl) ?_
  refine va_get (D := D) (ci := 1) (v := .ref h1) (C := RX1) (T := TX1) (N := 13) hx hb hg inX1 hown hK hP 0 rfl rfl 1 (by decide) (hg _ k279) (fun _ h9 => h9) rfl dX1_changeValue_36 ?_
  refine lv_iload_n hx hb dX1_changeValue_39 rfl (lv_at hl 1 rfl) ?_
  refine aldQ hx hb hK hP 1 0 rfl rfl 0 (by decide) (vin (by decide)) (v := h4) ef0_0 dX1_changeValue_40 ?_
  refine lv_aload_n hx hb dX1_changeValue_41 rfl (lv_at hl 0 rfl) ?_
  refine va_get (D := D) (ci := 1) (v := .ref h2) (C := RX1) (T := TX1) (N := 13) hx hb hg inX1 hown hK hP 0 rfl rfl 2 (by decide) (hg _ k281) (fun _ h9 => h9) rfl dX1_changeValue_42 ?_
  refine lv_iload_n hx hb dX1_changeValue_45 rfl (lv_at hl 1 rfl) ?_
  refine aldL hx hb hK hP 2 1 rfl rfl 0 (by decide) (vin (by decide)) (v := 1) ef1_0 dX1_changeValue_46 ?_
  refine cVv (n := 2) (As := [.ref h4, .long 1]) (rest := []) (wr := [(h0, .inr (1, [v0, .ref h1, .ref h2, v1, v2, v3, .ref h3, v4, v5, v6, v7, v8, v9])), (h1, .inl (a0, 48, .inr (.inr (.inr (.inr f0))))), (h2, .inl (a1, 48, .inr (.inl f1)))]) (tr := [(a0, .object "LiftingSignal$Whole"), (a1, .long)]) hx hb hml hown hg okN (cX4_add_394 l D h3 h4 h5 h6 (upd (upd f2 0 0) 1 0) (upd (upd f3 0 0) 1 0) a2 a3 rfl rfl) (mwV k340 k341 k342 k88 k343) ⟨rfl, by decide, by decide, by decide +kernel⟩ ⟨rfl, rfl, (Nat.le_of_ble_eq_true rfl), (Nat.le_of_ble_eq_true rfl)⟩ hP hD hK hS xn [3, 5, 4, 6] [3, 5, 4, 6] [0, 1, 2] [2, 3] [0, 1] rfl (by decide) rfl rfl (by decide) (by decide) rfl rfl (va_free hD hS hA [3, 5, 4, 6] rfl) (va_free hD hS hA [3, 5, 4, 6] rfl) 3 rfl rfl rfl hl.1 rfl (Nat.le_of_ble_eq_true rfl) dX1_changeValue_47 ⟨(Nat.le_of_ble_eq_true rfl), (Nat.le_of_ble_eq_true rfl)⟩ (fun u H locs hφ hP hD hK hS hk => ?_)
  have hP : va_P D vwCl [(h0, .inr (1, [v0, .ref h1, .ref h2, v1, v2, v3, .ref h3, v4, v5, v6, v7, v8, v9])), (h1, .inl (a0, 48, .inr (.inr (.inr (.inr f0))))), (h2, .inl (a1, 48, .inr (.inl f1))), (h3, .inr (4, [.ref h5, .int 0, .int 0])), (h4, .inr (4, [.ref h6, .int 0, .int 0])), (h5, .inl (a2, 2, .inl (upd (upd (upd (upd f2 0 0) 1 0) 0 0) 1 0))), (h6, .inl (a3, 2, .inl (upd (upd f3 0 0) 1 0)))] H := hP
  have hD : va_D A [(h0, .inr (1, [v0, .ref h1, .ref h2, v1, v2, v3, .ref h3, v4, v5, v6, v7, v8, v9])), (h1, .inl (a0, 48, .inr (.inr (.inr (.inr f0))))), (h2, .inl (a1, 48, .inr (.inl f1))), (h3, .inr (4, [.ref h5, .int 0, .int 0])), (h4, .inr (4, [.ref h6, .int 0, .int 0])), (h5, .inl (a2, 2, .inl (upd (upd (upd (upd f2 0 0) 1 0) 0 0) 1 0))), (h6, .inl (a3, 2, .inl (upd (upd f3 0 0) 1 0)))] := hD
  have hK : va_K D vwCl [(a0, .object "LiftingSignal$Whole"), (a1, .long), (a2, .int), (a3, .int)] s := hK
  refine W.widen (k := 0) (n := 0) (Nat.le_of_ble_eq_true rfl) (Nat.le_of_ble_eq_true rfl) ?_
  exact fv hx hb hr hlocks hP hD hK hS (()) trivial [0, 1, 2, 3, 4, 5, 6] [0, 1, 2, 3] rfl (by decide) rfl (Nat.le_of_ble_eq_true rfl) (Nat.le_of_ble_eq_true rfl) dX1_changeValue_50
set_option maxHeartbeats 4000000 in
set_option maxRecDepth 100000 in
theorem cX5_set_450 (l : Launch) (D : va_G) (h0 : Nat) (h1 : Nat) (h2 : Nat) (h3 : Nat) (h4 : Nat) (h5 : Nat) (h6 : Nat) (h7 : Nat) (h8 : Nat) (h9 : Nat) (v0 : Value) (v1 : Value) (v2 : Value) (v3 : Value) (v4 : Value) (v5 : Value) (v6 : Value) (v7 : Value) (v8 : Value) (v9 : Value) (v10 : Value) (v11 : Value) (v12 : Value) (v13 : Value) (v14 : Value) (v15 : Value) (v16 : Value) (v17 : Value) (v18 : Value) (v19 : Value) (v20 : Value) (v21 : Value) (v22 : Value) (f0 : Nat → Int32) (f1 : Nat → Option Nat) (f2 : Nat → Int64) (f3 : Nat → Int32) (f4 : Nat → Int32) (a0 : ClassId) (a1 : ClassId) (a2 : ClassId) (a3 : ClassId) (a4 : ClassId) (ef0_0 : f0 0 = (-1)) (ef1_0 : f1 0 = some h5) (ef2_0 : f2 0 = 1) (ef3_0 : f3 0 = 0) (ef4_0 : f4 0 = 0)  : CT l yX5_set cX5_set 5 (some .long) { frames := 3, cells := 0, slots := 0, locals := 72 } [.ref h0, .int 0, .int 0] D [(h0, .inr (5, [v0, .ref h1, v1, .ref h2, v2, v3, v4, v5, v6, v7])), (h1, .inr (0, [v8, v9, .int 2, v10, v11, v12, v13])), (h2, .inr (1, [v14, .ref h4, .ref h6, .ref h3, v15, v16, .ref h7, v17, v18, v19, v20, v21, v22])), (h3, .inl (a0, 48, .inl f0)), (h4, .inl (a1, 48, .inr (.inr (.inr (.inr f1))))), (h5, .inr (4, [.ref h9, .int 0, .int 0])), (h6, .inl (a2, 48, .inr (.inl f2))), (h7, .inr (4, [.ref h8, .int 0, .int 0])), (h8, .inl (a3, 2, .inl f3)), (h9, .inl (a4, 2, .inl f4))] [(a0, .int), (a1, .object "LiftingSignal$Whole"), (a2, .long), (a3, .int), (a4, .int)] XN [(h0, .inr (5, [v0, .ref h1, v1, .ref h2, v2, v3, v4, v5, v6, v7])), (h1, .inr (0, [v8, v9, .int 2, v10, v11, v12, v13])), (h2, .inr (1, [v14, .ref h4, .ref h6, .ref h3, v15, v16, .ref h7, v17, v18, v19, v20, v21, v22])), (h3, .inl (a0, 48, .inl f0)), (h4, .inl (a1, 48, .inr (.inr (.inr (.inr f1))))), (h5, .inr (4, [.ref h9, .int 0, .int 0])), (h6, .inl (a2, 48, .inr (.inl f2))), (h7, .inr (4, [.ref h8, .int 0, .int 0])), (h8, .inl (a3, 2, .inl f3)), (h9, .inl (a4, 2, .inl f4))] (el (fun _ : Unit => True) (fun u => 0) (fun _ => [(h0, .inr (5, [v0, .ref h1, v1, .ref h2, v2, v3, v4, v5, v6, v7])), (h1, .inr (0, [v8, v9, .int 2, v10, v11, v12, v13])), (h2, .inr (1, [v14, .ref h4, .ref h6, .ref h3, v15, v16, .ref h7, v17, v18, v19, v20, v21, v22])), (h3, .inl (a0, 48, .inl f0)), (h4, .inl (a1, 48, .inr (.inr (.inr (.inr f1))))), (h5, .inr (4, [.ref h9, .int 0, .int 0])), (h6, .inl (a2, 48, .inr (.inl f2))), (h7, .inr (4, [.ref h8, .int 0, .int 0])), (h8, .inl (a3, 2, .inl (upd (upd (upd (upd f3 0 0) 1 0) 0 0) 1 0))), (h9, .inl (a4, 2, .inl (upd (upd f4 0 0) 1 0)))]) (fun u => [(a0, .int), (a1, .object "LiftingSignal$Whole"), (a2, .long), (a3, .int), (a4, .int)]) D) 0 0 := by
  refine CT.ofW (by decide +kernel) (Nat.le_of_ble_eq_true rfl) ?_
  intro p e s m below meth c A ls hcs hP hK hD hX hA hS hl
  obtain ⟨hx, hb, hr, hml, hown, hg, hlocks, hin⟩ := hcs
  have hown : s.vm.findClass RX5 = some m.cls := hown
  have hl : lv_has ls 5 [(0, .ref h0), (1, .int 0), (2, .int 0)] := hl
  refine lv_iload_n hx hb dX5_set_0 rfl (lv_at hl 1 rfl) ?_
  refine lv_aload_n hx hb dX5_set_1 rfl (lv_at hl 0 rfl) ?_
  refine va_get (D := D) (ci := 5) (v := .ref h1) (C := RX5) (T := TX5) (N := 10) hx hb hg inX5 hown hK hP 0 rfl rfl 1 (by decide) (hg _ k380) (fun _ h9 => h9) rfl dX5_set_2 ?_
  refine va_get (D := D) (ci := 0) (v := .int 2) (C := RX0) (T := TX0) (N := 7) hx hb hg inX0 hown hK hP 1 rfl rfl 2 (by decide) (hg _ k163) (fun _ h9 => h9) rfl dX5_set_5 ?_
  refine cSv (n := 2) (As := [.int 0, .int 2]) (rest := []) (wr := [(h0, .inr (5, [v0, .ref h1, v1, .ref h2, v2, v3, v4, v5, v6, v7])), (h1, .inr (0, [v8, v9, .int 2, v10, v11, v12, v13])), (h2, .inr (1, [v14, .ref h4, .ref h6, .ref h3, v15, v16, .ref h7, v17, v18, v19, v20, v21, v22])), (h3, .inl (a0, 48, .inl f0)), (h4, .inl (a1, 48, .inr (.inr (.inr (.inr f1))))), (h5, .inr (4, [.ref h9, .int 0, .int 0])), (h6, .inl (a2, 48, .inr (.inl f2))), (h7, .inr (4, [.ref h8, .int 0, .int 0])), (h8, .inl (a3, 2, .inl f3)), (h9, .inl (a4, 2, .inl f4))]) (tr := [(a0, .int), (a1, .object "LiftingSignal$Whole"), (a2, .long), (a3, .int), (a4, .int)]) hx hb hml hown hg okN (cX5_needIndex_343 l D) (mwS k610 k611 k84 k612) ⟨rfl, by decide, by decide, by decide +kernel⟩ ⟨rfl, rfl, (Nat.le_of_ble_eq_true rfl), (Nat.le_of_ble_eq_true rfl)⟩ hP hD hK hS xn [] [] [0, 1, 2, 3, 4, 5, 6, 7, 8, 9] [] [0, 1, 2, 3, 4] rfl (by decide) rfl rfl (by decide) (by decide) rfl rfl (aNil hA hS) (aNil hA hS) rfl hl.1 rfl (Nat.le_of_ble_eq_true rfl) dX5_set_8 ⟨(Nat.le_of_ble_eq_true rfl), (Nat.le_of_ble_eq_true rfl)⟩ (fun u H locs hφ hP hD hK hS hk => ?_)
  have hP : va_P D vwCl [(h0, .inr (5, [v0, .ref h1, v1, .ref h2, v2, v3, v4, v5, v6, v7])), (h1, .inr (0, [v8, v9, .int 2, v10, v11, v12, v13])), (h2, .inr (1, [v14, .ref h4, .ref h6, .ref h3, v15, v16, .ref h7, v17, v18, v19, v20, v21, v22])), (h3, .inl (a0, 48, .inl f0)), (h4, .inl (a1, 48, .inr (.inr (.inr (.inr f1))))), (h5, .inr (4, [.ref h9, .int 0, .int 0])), (h6, .inl (a2, 48, .inr (.inl f2))), (h7, .inr (4, [.ref h8, .int 0, .int 0])), (h8, .inl (a3, 2, .inl f3)), (h9, .inl (a4, 2, .inl f4))] H := hP
  have hD : va_D A [(h0, .inr (5, [v0, .ref h1, v1, .ref h2, v2, v3, v4, v5, v6, v7])), (h1, .inr (0, [v8, v9, .int 2, v10, v11, v12, v13])), (h2, .inr (1, [v14, .ref h4, .ref h6, .ref h3, v15, v16, .ref h7, v17, v18, v19, v20, v21, v22])), (h3, .inl (a0, 48, .inl f0)), (h4, .inl (a1, 48, .inr (.inr (.inr (.inr f1))))), (h5, .inr (4, [.ref h9, .int 0, .int 0])), (h6, .inl (a2, 48, .inr (.inl f2))), (h7, .inr (4, [.ref h8, .int 0, .int 0])), (h8, .inl (a3, 2, .inl f3)), (h9, .inl (a4, 2, .inl f4))] := hD
  have hK : va_K D vwCl [(a0, .int), (a1, .object "LiftingSignal$Whole"), (a2, .long), (a3, .int), (a4, .int)] s := hK
  refine W.widen (k := 0) (n := 0) (Nat.le_of_ble_eq_true rfl) (Nat.le_of_ble_eq_true rfl) ?_
  refine lv_iload_n hx hb dX5_set_11 rfl (lv_at hl 2 rfl) ?_
  refine lv_sipush (v := (-9999)) hx hb dX5_set_12 (by decide) ?_
  refine lv_sipush (v := 9999) hx hb dX5_set_15 (by decide) ?_
  refine cSv (n := 3) (As := [.int 0, .int (-9999), .int 9999]) (rest := []) (wr := [(h0, .inr (5, [v0, .ref h1, v1, .ref h2, v2, v3, v4, v5, v6, v7])), (h1, .inr (0, [v8, v9, .int 2, v10, v11, v12, v13])), (h2, .inr (1, [v14, .ref h4, .ref h6, .ref h3, v15, v16, .ref h7, v17, v18, v19, v20, v21, v22])), (h3, .inl (a0, 48, .inl f0)), (h4, .inl (a1, 48, .inr (.inr (.inr (.inr f1))))), (h5, .inr (4, [.ref h9, .int 0, .int 0])), (h6, .inl (a2, 48, .inr (.inl f2))), (h7, .inr (4, [.ref h8, .int 0, .int 0])), (h8, .inl (a3, 2, .inl f3)), (h9, .inl (a4, 2, .inl f4))]) (tr := [(a0, .int), (a1, .object "LiftingSignal$Whole"), (a2, .long), (a3, .int), (a4, .int)]) hx hb hml hown hg okN (cX5_needRange_451 l D) (mwS k909 k910 k84 k911) ⟨rfl, by decide, by decide, by decide +kernel⟩ ⟨rfl, rfl, (Nat.le_of_ble_eq_true rfl), (Nat.le_of_ble_eq_true rfl)⟩ hP hD hK hS xn [] [] [0, 1, 2, 3, 4, 5, 6, 7, 8, 9] [] [0, 1, 2, 3, 4] rfl (by decide) rfl rfl (by decide) (by decide) rfl rfl (aNil hA hS) (aNil hA hS) rfl hl.1 rfl (Nat.le_of_ble_eq_true rfl) dX5_set_18 ⟨(Nat.le_of_ble_eq_true rfl), (Nat.le_of_ble_eq_true rfl)⟩ (fun u H locs hφ hP hD hK hS hk => ?_)
  have hP : va_P D vwCl [(h0, .inr (5, [v0, .ref h1, v1, .ref h2, v2, v3, v4, v5, v6, v7])), (h1, .inr (0, [v8, v9, .int 2, v10, v11, v12, v13])), (h2, .inr (1, [v14, .ref h4, .ref h6, .ref h3, v15, v16, .ref h7, v17, v18, v19, v20, v21, v22])), (h3, .inl (a0, 48, .inl f0)), (h4, .inl (a1, 48, .inr (.inr (.inr (.inr f1))))), (h5, .inr (4, [.ref h9, .int 0, .int 0])), (h6, .inl (a2, 48, .inr (.inl f2))), (h7, .inr (4, [.ref h8, .int 0, .int 0])), (h8, .inl (a3, 2, .inl f3)), (h9, .inl (a4, 2, .inl f4))] H := hP
  have hD : va_D A [(h0, .inr (5, [v0, .ref h1, v1, .ref h2, v2, v3, v4, v5, v6, v7])), (h1, .inr (0, [v8, v9, .int 2, v10, v11, v12, v13])), (h2, .inr (1, [v14, .ref h4, .ref h6, .ref h3, v15, v16, .ref h7, v17, v18, v19, v20, v21, v22])), (h3, .inl (a0, 48, .inl f0)), (h4, .inl (a1, 48, .inr (.inr (.inr (.inr f1))))), (h5, .inr (4, [.ref h9, .int 0, .int 0])), (h6, .inl (a2, 48, .inr (.inl f2))), (h7, .inr (4, [.ref h8, .int 0, .int 0])), (h8, .inl (a3, 2, .inl f3)), (h9, .inl (a4, 2, .inl f4))] := hD
  have hK : va_K D vwCl [(a0, .int), (a1, .object "LiftingSignal$Whole"), (a2, .long), (a3, .int), (a4, .int)] s := hK
  refine W.widen (k := 0) (n := 0) (Nat.le_of_ble_eq_true rfl) (Nat.le_of_ble_eq_true rfl) ?_
  refine lv_aload_n hx hb dX5_set_21 rfl (lv_at hl 0 rfl) ?_
  refine va_get (D := D) (ci := 5) (v := .ref h2) (C := RX5) (T := TX5) (N := 10) hx hb hg inX5 hown hK hP 0 rfl rfl 3 (by decide) (hg _ k382) (fun _ h9 => h9) rfl dX5_set_22 ?_
  refine lv_iload_n hx hb dX5_set_25 rfl (lv_at hl 1 rfl) ?_
  refine cVi (n := 1) (As := [.int 0]) (rest := []) (wr := [(h0, .inr (5, [v0, .ref h1, v1, .ref h2, v2, v3, v4, v5, v6, v7])), (h1, .inr (0, [v8, v9, .int 2, v10, v11, v12, v13])), (h2, .inr (1, [v14, .ref h4, .ref h6, .ref h3, v15, v16, .ref h7, v17, v18, v19, v20, v21, v22])), (h3, .inl (a0, 48, .inl f0)), (h4, .inl (a1, 48, .inr (.inr (.inr (.inr f1))))), (h5, .inr (4, [.ref h9, .int 0, .int 0])), (h6, .inl (a2, 48, .inr (.inl f2))), (h7, .inr (4, [.ref h8, .int 0, .int 0])), (h8, .inl (a3, 2, .inl f3)), (h9, .inl (a4, 2, .inl f4))]) (tr := [(a0, .int), (a1, .object "LiftingSignal$Whole"), (a2, .long), (a3, .int), (a4, .int)]) hx hb hml hown hg okN (cX1_isPresent_336 l D h2 h3 v14 (.ref h4) (.ref h6) v15 v16 (.ref h7) v17 v18 v19 v20 v21 v22 f0 a0 ef0_0) (mwV k861 k460 k461 k87 k462) ⟨rfl, by decide, by decide, by decide +kernel⟩ ⟨rfl, rfl, (Nat.le_of_ble_eq_true rfl), (Nat.le_of_ble_eq_true rfl)⟩ hP hD hK hS xn [2, 3] [] [0, 1, 2, 3, 4, 5, 6, 7, 8, 9] [0] [0, 1, 2, 3, 4] rfl (by decide) rfl rfl (by decide) (by decide) rfl rfl (aNil hA hS) (aNil hA hS) 2 rfl rfl rfl hl.1 rfl (Nat.le_of_ble_eq_true rfl) dX5_set_26 ⟨(Nat.le_of_ble_eq_true rfl), (Nat.le_of_ble_eq_true rfl)⟩ (fun u H locs hφ hP hD hK hS hk => ?_)
  have hP : va_P D vwCl [(h0, .inr (5, [v0, .ref h1, v1, .ref h2, v2, v3, v4, v5, v6, v7])), (h1, .inr (0, [v8, v9, .int 2, v10, v11, v12, v13])), (h2, .inr (1, [v14, .ref h4, .ref h6, .ref h3, v15, v16, .ref h7, v17, v18, v19, v20, v21, v22])), (h3, .inl (a0, 48, .inl f0)), (h4, .inl (a1, 48, .inr (.inr (.inr (.inr f1))))), (h5, .inr (4, [.ref h9, .int 0, .int 0])), (h6, .inl (a2, 48, .inr (.inl f2))), (h7, .inr (4, [.ref h8, .int 0, .int 0])), (h8, .inl (a3, 2, .inl f3)), (h9, .inl (a4, 2, .inl f4))] H := hP
  have hD : va_D A [(h0, .inr (5, [v0, .ref h1, v1, .ref h2, v2, v3, v4, v5, v6, v7])), (h1, .inr (0, [v8, v9, .int 2, v10, v11, v12, v13])), (h2, .inr (1, [v14, .ref h4, .ref h6, .ref h3, v15, v16, .ref h7, v17, v18, v19, v20, v21, v22])), (h3, .inl (a0, 48, .inl f0)), (h4, .inl (a1, 48, .inr (.inr (.inr (.inr f1))))), (h5, .inr (4, [.ref h9, .int 0, .int 0])), (h6, .inl (a2, 48, .inr (.inl f2))), (h7, .inr (4, [.ref h8, .int 0, .int 0])), (h8, .inl (a3, 2, .inl f3)), (h9, .inl (a4, 2, .inl f4))] := hD
  have hK : va_K D vwCl [(a0, .int), (a1, .object "LiftingSignal$Whole"), (a2, .long), (a3, .int), (a4, .int)] s := hK
  refine W.widen (k := 0) (n := 0) (Nat.le_of_ble_eq_true rfl) (Nat.le_of_ble_eq_true rfl) ?_
  refine lv_if_ne (tgt := 40) hx hb dX5_set_29 (by decide) (fun _ => ?_) (fun c9 => absurd c9 (by decide))
  refine lv_aload_n hx hb dX5_set_40 rfl (lv_at hl 0 rfl) ?_
  refine va_get (D := D) (ci := 5) (v := .ref h2) (C := RX5) (T := TX5) (N := 10) hx hb hg inX5 hown hK hP 0 rfl rfl 3 (by decide) (hg _ k382) (fun _ h9 => h9) rfl dX5_set_41 ?_
  refine va_get (D := D) (ci := 1) (v := .ref h4) (C := RX1) (T := TX1) (N := 13) hx hb hg inX1 hown hK hP 2 rfl rfl 1 (by decide) (hg _ k280) (fun _ h9 => h9) rfl dX5_set_44 ?_
  refine lv_iload_n hx hb dX5_set_47 rfl (lv_at hl 1 rfl) ?_
  refine aldQ hx hb hK hP 4 1 rfl rfl 0 (by decide) (vin (by decide)) (v := h5) ef1_0 dX5_set_48 ?_
  refine cVl (n := 0) (As := []) (rest := []) (wr := [(h0, .inr (5, [v0, .ref h1, v1, .ref h2, v2, v3, v4, v5, v6, v7])), (h1, .inr (0, [v8, v9, .int 2, v10, v11, v12, v13])), (h2, .inr (1, [v14, .ref h4, .ref h6, .ref h3, v15, v16, .ref h7, v17, v18, v19, v20, v21, v22])), (h3, .inl (a0, 48, .inl f0)), (h4, .inl (a1, 48, .inr (.inr (.inr (.inr f1))))), (h5, .inr (4, [.ref h9, .int 0, .int 0])), (h6, .inl (a2, 48, .inr (.inl f2))), (h7, .inr (4, [.ref h8, .int 0, .int 0])), (h8, .inl (a3, 2, .inl f3)), (h9, .inl (a4, 2, .inl f4))]) (tr := [(a0, .int), (a1, .object "LiftingSignal$Whole"), (a2, .long), (a3, .int), (a4, .int)]) hx hb hml hown hg okN (cX4_toLong_348 l D h5 (.ref h9)) (mwV k435 k436 k437 k88 k438) ⟨rfl, by decide, by decide, by decide +kernel⟩ ⟨rfl, rfl, (Nat.le_of_ble_eq_true rfl), (Nat.le_of_ble_eq_true rfl)⟩ hP hD hK hS xn [5] [] [0, 1, 2, 3, 4, 5, 6, 7, 8, 9] [] [0, 1, 2, 3, 4] rfl (by decide) rfl rfl (by decide) (by decide) rfl rfl (aNil hA hS) (aNil hA hS) 5 rfl rfl rfl hl.1 rfl (Nat.le_of_ble_eq_true rfl) dX5_set_49 ⟨(Nat.le_of_ble_eq_true rfl), (Nat.le_of_ble_eq_true rfl)⟩ (fun u H locs hφ hP hD hK hS hk => ?_)
  have hP : va_P D vwCl [(h0, .inr (5, [v0, .ref h1, v1, .ref h2, v2, v3, v4, v5, v6, v7])), (h1, .inr (0, [v8, v9, .int 2, v10, v11, v12, v13])), (h2, .inr (1, [v14, .ref h4, .ref h6, .ref h3, v15, v16, .ref h7, v17, v18, v19, v20, v21, v22])), (h3, .inl (a0, 48, .inl f0)), (h4, .inl (a1, 48, .inr (.inr (.inr (.inr f1))))), (h5, .inr (4, [.ref h9, .int 0, .int 0])), (h6, .inl (a2, 48, .inr (.inl f2))), (h7, .inr (4, [.ref h8, .int 0, .int 0])), (h8, .inl (a3, 2, .inl f3)), (h9, .inl (a4, 2, .inl f4))] H := hP
  have hD : va_D A [(h0, .inr (5, [v0, .ref h1, v1, .ref h2, v2, v3, v4, v5, v6, v7])), (h1, .inr (0, [v8, v9, .int 2, v10, v11, v12, v13])), (h2, .inr (1, [v14, .ref h4, .ref h6, .ref h3, v15, v16, .ref h7, v17, v18, v19, v20, v21, v22])), (h3, .inl (a0, 48, .inl f0)), (h4, .inl (a1, 48, .inr (.inr (.inr (.inr f1))))), (h5, .inr (4, [.ref h9, .int 0, .int 0])), (h6, .inl (a2, 48, .inr (.inl f2))), (h7, .inr (4, [.ref h8, .int 0, .int 0])), (h8, .inl (a3, 2, .inl f3)), (h9, .inl (a4, 2, .inl f4))] := hD
  have hK : va_K D vwCl [(a0, .int), (a1, .object "LiftingSignal$Whole"), (a2, .long), (a3, .int), (a4, .int)] s := hK
  refine W.widen (k := 0) (n := 0) (Nat.le_of_ble_eq_true rfl) (Nat.le_of_ble_eq_true rfl) ?_
  refine lv_lstore_n (lv' := [(3, .long 0), (0, .ref h0), (1, .int 0), (2, .int 0)]) hx hb dX5_set_52 rfl hl (by decide) rfl (fun ls hl => ?_)
  refine lv_aload_n hx hb dX5_set_53 rfl (lv_at hl 1 rfl) ?_
  refine va_get (D := D) (ci := 5) (v := .ref h2) (C := RX5) (T := TX5) (N := 10) hx hb hg inX5 hown hK hP 0 rfl rfl 3 (by decide) (hg _ k382) (fun _ h9 => h9) rfl dX5_set_54 ?_
  refine lv_iload_n hx hb dX5_set_57 rfl (lv_at hl 2 rfl) ?_
  refine lv_iload_n hx hb dX5_set_58 rfl (lv_at hl 3 rfl) ?_
  refine cVv (n := 2) (As := [.int 0, .int 0]) (rest := []) (wr := [(h0, .inr (5, [v0, .ref h1, v1, .ref h2, v2, v3, v4, v5, v6, v7])), (h1, .inr (0, [v8, v9, .int 2, v10, v11, v12, v13])), (h3, .inl (a0, 48, .inl f0))]) (tr := [(a0, .int)]) hx hb hml hown hg okN (cX1_changeValue_452 l D h2 h4 h6 h7 h5 h8 h9 v14 (.ref h3) v15 v16 v17 v18 v19 v20 v21 v22 f1 f2 f3 f4 a1 a2 a3 a4 ef1_0 ef2_0 ef3_0 ef4_0) (mwV k1009 k1010 k1011 k87 k1012) ⟨rfl, by decide, by decide, by decide +kernel⟩ ⟨rfl, rfl, (Nat.le_of_ble_eq_true rfl), (Nat.le_of_ble_eq_true rfl)⟩ hP hD hK hS xn [2, 4, 6, 7, 5, 8, 9] [2, 4, 6, 7, 5, 8, 9] [0, 1, 3] [1, 2, 3, 4] [0] rfl (by decide) rfl rfl (by decide) (by decide) rfl rfl (va_free hD hS hA [2, 4, 6, 7, 5, 8, 9] rfl) (va_free hD hS hA [2, 4, 6, 7, 5, 8, 9] rfl) 2 rfl rfl rfl hl.1 rfl (Nat.le_of_ble_eq_true rfl) dX5_set_59 ⟨(Nat.le_of_ble_eq_true rfl), (Nat.le_of_ble_eq_true rfl)⟩ (fun u H locs hφ hP hD hK hS hk => ?_)
  have hP : va_P D vwCl [(h0, .inr (5, [v0, .ref h1, v1, .ref h2, v2, v3, v4, v5, v6, v7])), (h1, .inr (0, [v8, v9, .int 2, v10, v11, v12, v13])), (h3, .inl (a0, 48, .inl f0)), (h2, .inr (1, [v14, .ref h4, .ref h6, .ref h3, v15, v16, .ref h7, v17, v18, v19, v20, v21, v22])), (h4, .inl (a1, 48, .inr (.inr (.inr (.inr f1))))), (h6, .inl (a2, 48, .inr (.inl f2))), (h7, .inr (4, [.ref h8, .int 0, .int 0])), (h5, .inr (4, [.ref h9, .int 0, .int 0])), (h8, .inl (a3, 2, .inl (upd (upd (upd (upd f3 0 0) 1 0) 0 0) 1 0))), (h9, .inl (a4, 2, .inl (upd (upd f4 0 0) 1 0)))] H := hP
  have hD : va_D A [(h0, .inr (5, [v0, .ref h1, v1, .ref h2, v2, v3, v4, v5, v6, v7])), (h1, .inr (0, [v8, v9, .int 2, v10, v11, v12, v13])), (h3, .inl (a0, 48, .inl f0)), (h2, .inr (1, [v14, .ref h4, .ref h6, .ref h3, v15, v16, .ref h7, v17, v18, v19, v20, v21, v22])), (h4, .inl (a1, 48, .inr (.inr (.inr (.inr f1))))), (h6, .inl (a2, 48, .inr (.inl f2))), (h7, .inr (4, [.ref h8, .int 0, .int 0])), (h5, .inr (4, [.ref h9, .int 0, .int 0])), (h8, .inl (a3, 2, .inl (upd (upd (upd (upd f3 0 0) 1 0) 0 0) 1 0))), (h9, .inl (a4, 2, .inl (upd (upd f4 0 0) 1 0)))] := hD
  have hK : va_K D vwCl [(a0, .int), (a1, .object "LiftingSignal$Whole"), (a2, .long), (a3, .int), (a4, .int)] s := hK
  refine W.widen (k := 0) (n := 0) (Nat.le_of_ble_eq_true rfl) (Nat.le_of_ble_eq_true rfl) ?_
  refine lv_lload_n hx hb dX5_set_62 rfl (lv_at hl 0 rfl) ?_
  exact fl hx hb hr hlocks hP hD hK hS (()) trivial rfl [0, 1, 3, 2, 4, 7, 5, 6, 8, 9] [0, 1, 2, 3, 4] rfl (by decide) rfl (Nat.le_of_ble_eq_true rfl) (Nat.le_of_ble_eq_true rfl) dX5_set_63
set_option maxHeartbeats 4000000 in
set_option maxRecDepth 100000 in
theorem cX5_needRange_454 (l : Launch) (D : va_G) (hlt : l.stackTraces = false) (x0 : Int32)  (d0 : ¬ (x0 < (-9999))) (d1 : ¬ (x0 ≤ 9999)) : CX l yX5_needRange cX5_needRange 3 none { frames := 6, cells := 1, slots := 6, locals := 90 } [.int x0, .int (-9999), .int 9999] D [] [] XX [] xv "java/lang/IllegalArgumentException" 1 6 := by
  refine CX.ofR (by decide +kernel) (Nat.le_of_ble_eq_true rfl) ?_
  intro p e s m below meth c A ls hcs hout hP hK hD hX hA hS hl
  obtain ⟨hx, hb, hr, hml, hown, hg, hlocks, hin⟩ := hcs
  have hown : s.vm.findClass RX5 = some m.cls := hown
  have hl : lv_has ls 3 [(0, .int x0), (1, .int (-9999)), (2, .int 9999)] := hl
  refine lv_iload_n hx hb dX5_needRange_0 rfl (lv_at hl 0 rfl) ?_
  refine lv_iload_n hx hb dX5_needRange_1 rfl (lv_at hl 1 rfl) ?_
  refine lv_icmp_lt (tgt := 10) hx hb dX5_needRange_2 (by decide) (fun c9 => absurd c9 d0) (fun _ => ?_)
  refine lv_iload_n hx hb dX5_needRange_5 rfl (lv_at hl 0 rfl) ?_
  refine lv_iload_n hx hb dX5_needRange_6 rfl (lv_at hl 2 rfl) ?_
  refine lv_icmp_le (tgt := 21) hx hb dX5_needRange_7 (by decide) (fun c9 => absurd c9 d1) (fun _ => ?_)
  obtain ⟨sa, hsa⟩ := XX_sRX5_321 hX
  exact thSW_IAE hx hb hlt hown (hg _ k813) (hg _ k101) hsa hg hX hS (hl.1.trans hml.symm) dX5_needRange_10 dX5_needRange_13 dX5_needRange_14 dX5_needRange_17 dX5_needRange_20 hout (Nat.le_of_ble_eq_true rfl) (Nat.le_of_ble_eq_true rfl) (Nat.le_of_ble_eq_true rfl) (Nat.le_of_ble_eq_true rfl) hlocks (Nat.le_of_ble_eq_true rfl) (Nat.le_of_ble_eq_true rfl)
set_option maxHeartbeats 4000000 in
set_option maxRecDepth 100000 in
theorem cX5_set_453 (l : Launch) (D : va_G) (hlt : l.stackTraces = false) (h0 : Nat) (x0 : Int32) (h1 : Nat) (v0 : Value) (v1 : Value) (v2 : Value) (v3 : Value) (v4 : Value) (v5 : Value) (v6 : Value) (v7 : Value) (v8 : Value) (v9 : Value) (v10 : Value) (v11 : Value) (v12 : Value) (v13 : Value) (v14 : Value)  (d0 : ¬ (x0 < (-9999))) (d1 : ¬ (x0 ≤ 9999)) : CX l yX5_set cX5_set 5 (some .long) { frames := 7, cells := 1, slots := 6, locals := 112 } [.ref h0, .int 0, .int x0] D [(h0, .inr (5, [v0, .ref h1, v1, v2, v3, v4, v5, v6, v7, v8])), (h1, .inr (0, [v9, v10, .int 2, v11, v12, v13, v14]))] [] XX [] xl "java/lang/IllegalArgumentException" 1 6 := by
  refine CX.ofR (by decide +kernel) (Nat.le_of_ble_eq_true rfl) ?_
  intro p e s m below meth c A ls hcs hout hP hK hD hX hA hS hl
  obtain ⟨hx, hb, hr, hml, hown, hg, hlocks, hin⟩ := hcs
  have hown : s.vm.findClass RX5 = some m.cls := hown
  have hl : lv_has ls 5 [(0, .ref h0), (1, .int 0), (2, .int x0)] := hl
  refine lv_iload_n hx hb dX5_set_0 rfl (lv_at hl 1 rfl) ?_
  refine lv_aload_n hx hb dX5_set_1 rfl (lv_at hl 0 rfl) ?_
  refine va_get (D := D) (ci := 5) (v := .ref h1) (C := RX5) (T := TX5) (N := 10) hx hb hg inX5 hown hK hP 0 rfl rfl 1 (by decide) (hg _ k380) (fun _ h9 => h9) rfl dX5_set_2 ?_
  refine va_get (D := D) (ci := 0) (v := .int 2) (C := RX0) (T := TX0) (N := 7) hx hb hg inX0 hown hK hP 1 rfl rfl 2 (by decide) (hg _ k163) (fun _ h9 => h9) rfl dX5_set_5 ?_
  refine cSv (n := 2) (As := [.int 0, .int 2]) (rest := []) (wr := [(h0, .inr (5, [v0, .ref h1, v1, v2, v3, v4, v5, v6, v7, v8])), (h1, .inr (0, [v9, v10, .int 2, v11, v12, v13, v14]))]) (tr := []) hx hb hml hown hg okN (cX5_needIndex_343 l D) (mwS k610 k611 k84 k612) ⟨rfl, by decide, by decide, by decide +kernel⟩ ⟨rfl, rfl, (Nat.le_of_ble_eq_true rfl), (Nat.le_of_ble_eq_true rfl)⟩ hP hD hK hS xn [] [] [0, 1] [] [] rfl (by decide) rfl rfl (by decide) (by decide) rfl rfl (aNil hA hS) (fun _ _ => trivial) rfl hl.1 rfl (Nat.le_of_ble_eq_true rfl) dX5_set_8 ⟨(Nat.le_of_ble_eq_true rfl), (Nat.le_of_ble_eq_true rfl)⟩ (fun u H locs hφ hP hD hK hS hk => ?_)
  have hP : va_P D vwCl [(h0, .inr (5, [v0, .ref h1, v1, v2, v3, v4, v5, v6, v7, v8])), (h1, .inr (0, [v9, v10, .int 2, v11, v12, v13, v14]))] H := hP
  have hD : va_D (fun _ => True) [(h0, .inr (5, [v0, .ref h1, v1, v2, v3, v4, v5, v6, v7, v8])), (h1, .inr (0, [v9, v10, .int 2, v11, v12, v13, v14]))] := hD
  have hK : va_K D vwCl [] s := hK
  refine W.widen (k := 0) (n := 0) (Nat.le_of_ble_eq_true rfl) (Nat.le_of_ble_eq_true rfl) ?_
  refine lv_iload_n hx hb dX5_set_11 rfl (lv_at hl 2 rfl) ?_
  refine lv_sipush (v := (-9999)) hx hb dX5_set_12 (by decide) ?_
  refine lv_sipush (v := 9999) hx hb dX5_set_15 (by decide) ?_
  exact xSv (n := 3) (As := [.int x0, .int (-9999), .int 9999]) (rest := []) hx hb hml hown hg okXX (cX5_needRange_454 l D hlt x0 d0 d1) (mwS k909 k910 k84 k911) ⟨rfl, by decide, by decide, by decide +kernel⟩ ⟨rfl, rfl, (Nat.le_of_ble_eq_true rfl), (Nat.le_of_ble_eq_true rfl)⟩ hP hD hK hS (okXX.2.2 _ _ _ _ hS.2.1 hX) [] [] rfl (by decide) rfl (aNil hA hS) rfl hl.1 rfl (Nat.le_of_ble_eq_true rfl) dX5_set_18 ⟨(Nat.le_of_ble_eq_true rfl), (Nat.le_of_ble_eq_true rfl)⟩ hout hlocks (Nat.le_of_ble_eq_true rfl) (Nat.le_of_ble_eq_true rfl)
set_option maxHeartbeats 4000000 in
set_option maxRecDepth 100000 in
theorem cX5_set_455 (l : Launch) (D : va_G) (hlt : l.stackTraces = false) (h0 : Nat) (x0 : Int32) (h1 : Nat) (v0 : Value) (v1 : Value) (v2 : Value) (v3 : Value) (v4 : Value) (v5 : Value) (v6 : Value) (v7 : Value) (v8 : Value) (v9 : Value) (v10 : Value) (v11 : Value) (v12 : Value) (v13 : Value) (v14 : Value)  (d0 : x0 < (-9999)) : CX l yX5_set cX5_set 5 (some .long) { frames := 7, cells := 1, slots := 6, locals := 112 } [.ref h0, .int 1, .int x0] D [(h0, .inr (5, [v0, .ref h1, v1, v2, v3, v4, v5, v6, v7, v8])), (h1, .inr (0, [v9, v10, .int 2, v11, v12, v13, v14]))] [] XX [] xl "java/lang/IllegalArgumentException" 1 6 := by
  refine CX.ofR (by decide +kernel) (Nat.le_of_ble_eq_true rfl) ?_
  intro p e s m below meth c A ls hcs hout hP hK hD hX hA hS hl
  obtain ⟨hx, hb, hr, hml, hown, hg, hlocks, hin⟩ := hcs
  have hown : s.vm.findClass RX5 = some m.cls := hown
  have hl : lv_has ls 5 [(0, .ref h0), (1, .int 1), (2, .int x0)] := hl
  refine lv_iload_n hx hb dX5_set_0 rfl (lv_at hl 1 rfl) ?_
  refine lv_aload_n hx hb dX5_set_1 rfl (lv_at hl 0 rfl) ?_
  refine va_get (D := D) (ci := 5) (v := .ref h1) (C := RX5) (T := TX5) (N := 10) hx hb hg inX5 hown hK hP 0 rfl rfl 1 (by decide) (hg _ k380) (fun _ h9 => h9) rfl dX5_set_2 ?_
  refine va_get (D := D) (ci := 0) (v := .int 2) (C := RX0) (T := TX0) (N := 7) hx hb hg inX0 hown hK hP 1 rfl rfl 2 (by decide) (hg _ k163) (fun _ h9 => h9) rfl dX5_set_5 ?_
  refine cSv (n := 2) (As := [.int 1, .int 2]) (rest := []) (wr := [(h0, .inr (5, [v0, .ref h1, v1, v2, v3, v4, v5, v6, v7, v8])), (h1, .inr (0, [v9, v10, .int 2, v11, v12, v13, v14]))]) (tr := []) hx hb hml hown hg okN (cX5_needIndex_355 l D) (mwS k610 k611 k84 k612) ⟨rfl, by decide, by decide, by decide +kernel⟩ ⟨rfl, rfl, (Nat.le_of_ble_eq_true rfl), (Nat.le_of_ble_eq_true rfl)⟩ hP hD hK hS xn [] [] [0, 1] [] [] rfl (by decide) rfl rfl (by decide) (by decide) rfl rfl (aNil hA hS) (fun _ _ => trivial) rfl hl.1 rfl (Nat.le_of_ble_eq_true rfl) dX5_set_8 ⟨(Nat.le_of_ble_eq_true rfl), (Nat.le_of_ble_eq_true rfl)⟩ (fun u H locs hφ hP hD hK hS hk => ?_)
  have hP : va_P D vwCl [(h0, .inr (5, [v0, .ref h1, v1, v2, v3, v4, v5, v6, v7, v8])), (h1, .inr (0, [v9, v10, .int 2, v11, v12, v13, v14]))] H := hP
  have hD : va_D (fun _ => True) [(h0, .inr (5, [v0, .ref h1, v1, v2, v3, v4, v5, v6, v7, v8])), (h1, .inr (0, [v9, v10, .int 2, v11, v12, v13, v14]))] := hD
  have hK : va_K D vwCl [] s := hK
  refine W.widen (k := 0) (n := 0) (Nat.le_of_ble_eq_true rfl) (Nat.le_of_ble_eq_true rfl) ?_
  refine lv_iload_n hx hb dX5_set_11 rfl (lv_at hl 2 rfl) ?_
  refine lv_sipush (v := (-9999)) hx hb dX5_set_12 (by decide) ?_
  refine lv_sipush (v := 9999) hx hb dX5_set_15 (by decide) ?_
  exact xSv (n := 3) (As := [.int x0, .int (-9999), .int 9999]) (rest := []) hx hb hml hown hg okXX (cX5_needRange_449 l D hlt x0 d0) (mwS k909 k910 k84 k911) ⟨rfl, by decide, by decide, by decide +kernel⟩ ⟨rfl, rfl, (Nat.le_of_ble_eq_true rfl), (Nat.le_of_ble_eq_true rfl)⟩ hP hD hK hS (okXX.2.2 _ _ _ _ hS.2.1 hX) [] [] rfl (by decide) rfl (aNil hA hS) rfl hl.1 rfl (Nat.le_of_ble_eq_true rfl) dX5_set_18 ⟨(Nat.le_of_ble_eq_true rfl), (Nat.le_of_ble_eq_true rfl)⟩ hout hlocks (Nat.le_of_ble_eq_true rfl) (Nat.le_of_ble_eq_true rfl)
set_option maxHeartbeats 4000000 in
set_option maxRecDepth 100000 in
theorem cX1_changeValue_457 (l : Launch) (D : va_G) (h0 : Nat) (h1 : Nat) (h2 : Nat) (h3 : Nat) (h4 : Nat) (h5 : Nat) (h6 : Nat) (v0 : Value) (v1 : Value) (v2 : Value) (v3 : Value) (v4 : Value) (v5 : Value) (v6 : Value) (v7 : Value) (v8 : Value) (v9 : Value) (f0 : Nat → Option Nat) (f1 : Nat → Int64) (f2 : Nat → Int32) (f3 : Nat → Int32) (a0 : ClassId) (a1 : ClassId) (a2 : ClassId) (a3 : ClassId) (ef0_1 : f0 1 = some h4) (ef1_1 : f1 1 = 1) (ef2_0 : f2 0 = 0) (ef3_0 : f3 0 = 0)  : CT l yX1_changeValue cX1_changeValue 3 none { frames := 2, cells := 0, slots := 0, locals := 50 } [.ref h0, .int 1, .int 0] D [(h0, .inr (1, [v0, .ref h1, .ref h2, v1, v2, v3, .ref h3, v4, v5, v6, v7, v8, v9])), (h1, .inl (a0, 48, .inr (.inr (.inr (.inr f0))))), (h2, .inl (a1, 48, .inr (.inl f1))), (h3, .inr (4, [.ref h5, .int 0, .int 0])), (h4, .inr (4, [.ref h6, .int 0, .int 0])), (h5, .inl (a2, 2, .inl f2)), (h6, .inl (a3, 2, .inl f3))] [(a0, .object "LiftingSignal$Whole"), (a1, .long), (a2, .int), (a3, .int)] XN [(h0, .inr (1, [v0, .ref h1, .ref h2, v1, v2, v3, .ref h3, v4, v5, v6, v7, v8, v9])), (h1, .inl (a0, 48, .inr (.inr (.inr (.inr f0))))), (h2, .inl (a1, 48, .inr (.inl f1))), (h3, .inr (4, [.ref h5, .int 0, .int 0])), (h4, .inr (4, [.ref h6, .int 0, .int 0])), (h5, .inl (a2, 2, .inl f2)), (h6, .inl (a3, 2, .inl f3))] (ev (fun _ : Unit => True) (fun _ => [(h0, .inr (1, [v0, .ref h1, .ref h2, v1, v2, v3, .ref h3, v4, v5, v6, v7, v8, v9])), (h1, .inl (a0, 48, .inr (.inr (.inr (.inr f0))))), (h2, .inl (a1, 48, .inr (.inl f1))), (h3, .inr (4, [.ref h5, .int 0, .int 0])), (h4, .inr (4, [.ref h6, .int 0, .int 0])), (h5, .inl (a2, 2, .inl (upd (upd (upd (upd f2 0 0) 1 0) 0 0) 1 0))), (h6, .inl (a3, 2, .inl (upd (upd f3 0 0) 1 0)))]) (fun u => [(a0, .object "LiftingSignal$Whole"), (a1, .long), (a2, .int), (a3, .int)]) D) 0 0 := by
  refine CT.ofW (by decide +kernel) (Nat.le_of_ble_eq_true rfl) ?_
  intro p e s m below meth c A ls hcs hP hK hD hX hA hS hl
  obtain ⟨hx, hb, hr, hml, hown, hg, hlocks, hin⟩ := hcs
  have hown : s.vm.findClass RX1 = some m.cls := hown
  have hl : lv_has ls 3 [(0, .ref h0), (1, .int 1), (2, .int 0)] := hl
  refine lv_aload_n hx hb dX1_changeValue_0 rfl (lv_at hl 0 rfl) ?_
  refine va_get (D := D) (ci := 1) (v := .ref h3) (C := RX1) (T := TX1) (N := 13) hx hb hg inX1 hown hK hP 0 rfl rfl 6 (by decide) (hg _ k289) (fun _ h9 => h9) rfl dX1_changeValue_1 ?_
  refine lv_aload_n hx hb dX1_changeValue_4 rfl (lv_at hl 0 rfl) ?_
  refine va_get (D := D) (ci := 1) (v := .ref h1) (C := RX1) (T := TX1) (N := 13) hx hb hg inX1 hown hK hP 0 rfl rfl 1 (by decide) (hg _ k279) (fun _ h9 => h9) rfl dX1_changeValue_5 ?_
  refine lv_iload_n hx hb dX1_changeValue_8 rfl (lv_at hl 1 rfl) ?_
  refine aldQ hx hb hK hP 1 0 rfl rfl 1 (by decide) (vin (by decide)) (v := h4) ef0_1 dX1_changeValue_9 ?_
  refine lv_aload_n hx hb dX1_changeValue_10 rfl (lv_at hl 0 rfl) ?_
  refine va_get (D := D) (ci := 1) (v := .ref h2) (C := RX1) (T := TX1) (N := 13) hx hb hg inX1 hown hK hP 0 rfl rfl 2 (by decide) (hg _ k281) (fun _ h9 => h9) rfl dX1_changeValue_11 ?_
  refine lv_iload_n hx hb dX1_changeValue_14 rfl (lv_at hl 1 rfl) ?_
  refine aldL hx hb hK hP 2 1 rfl rfl 1 (by decide) (vin (by decide)) (v := 1) ef1_1 dX1_changeValue_15 ?_
  refine lv_lneg hx hb dX1_changeValue_16 ?_
  refine tl ((-1)) (by decide) ?_
  refine cVv (n := 2) (As := [.ref h4, .long (-1)]) (rest := []) (wr := [(h0, .inr (1, [v0, .ref h1, .ref h2, v1, v2, v3, .ref h3, v4, v5, v6, v7, v8, v9])), (h1, .inl (a0, 48, .inr (.inr (.inr (.inr f0))))), (h2, .inl (a1, 48, .inr (.inl f1)))]) (tr := [(a0, .object "LiftingSignal$Whole"), (a1, .long)]) hx hb hml hown hg okN (cX4_add_389 l D h3 h4 h5 h6 f2 f3 a2 a3 ef2_0 ef3_0) (mwV k340 k341 k342 k88 k343) ⟨rfl, by decide, by decide, by decide +kernel⟩ ⟨rfl, rfl, (Nat.le_of_ble_eq_true rfl), (Nat.le_of_ble_eq_true rfl)⟩ hP hD hK hS xn [3, 4, 5, 6] [3, 4, 5, 6] [0, 1, 2] [2, 3] [0, 1] rfl (by decide) rfl rfl (by decide) (by decide) rfl rfl (va_free hD hS hA [3, 4, 5, 6] rfl) (va_free hD hS hA [3, 4, 5, 6] rfl) 3 rfl rfl rfl hl.1 rfl (Nat.le_of_ble_eq_true rfl) dX1_changeValue_17 ⟨(Nat.le_of_ble_eq_true rfl), (Nat.le_of_ble_eq_true rfl)⟩ (fun u H locs hφ hP hD hK hS hk => ?_)
  have hP : va_P D vwCl [(h0, .inr (1, [v0, .ref h1, .ref h2, v1, v2, v3, .ref h3, v4, v5, v6, v7, v8, v9])), (h1, .inl (a0, 48, .inr (.inr (.inr (.inr f0))))), (h2, .inl (a1, 48, .inr (.inl f1))), (h3, .inr (4, [.ref h5, .int 0, .int 0])), (h4, .inr (4, [.ref h6, .int 0, .int 0])), (h5, .inl (a2, 2, .inl (upd (upd f2 0 0) 1 0))), (h6, .inl (a3, 2, .inl f3))] H := hP
  have hD : va_D A [(h0, .inr (1, [v0, .ref h1, .ref h2, v1, v2, v3, .ref h3, v4, v5, v6, v7, v8, v9])), (h1, .inl (a0, 48, .inr (.inr (.inr (.inr f0))))), (h2, .inl (a1, 48, .inr (.inl f1))), (h3, .inr (4, [.ref h5, .int 0, .int 0])), (h4, .inr (4, [.ref h6, .int 0, .int 0])), (h5, .inl (a2, 2, .inl (upd (upd f2 0 0) 1 0))), (h6, .inl (a3, 2, .inl f3))] := hD
  have hK : va_K D vwCl [(a0, .object "LiftingSignal$Whole"), (a1, .long), (a2, .int), (a3, .int)] s := hK
  refine W.widen (k := 0) (n := 0) (Nat.le_of_ble_eq_true rfl) (Nat.le_of_ble_eq_true rfl) ?_
  refine lv_aload_n hx hb dX1_changeValue_20 rfl (lv_at hl 0 rfl) ?_
  refine va_get (D := D) (ci := 1) (v := .ref h1) (C := RX1) (T := TX1) (N := 13) hx hb hg inX1 hown hK hP 0 rfl rfl 1 (by decide) (hg _ k279) (fun _ h9 => h9) rfl dX1_changeValue_21 ?_
  refine lv_iload_n hx hb dX1_changeValue_24 rfl (lv_at hl 1 rfl) ?_
  refine aldQ hx hb hK hP 1 0 rfl rfl 1 (by decide) (vin (by decide)) (v := h4) ef0_1 dX1_changeValue_25 ?_
  refine lv_iload_n hx hb dX1_changeValue_26 rfl (lv_at hl 2 rfl) ?_
  refine lv_i2l (v := 0) hx hb dX1_changeValue_27 (by decide) ?_
  refine cVv (n := 1) (As := [.long 0]) (rest := []) (wr := [(h0, .inr (1, [v0, .ref h1, .ref h2, v1, v2, v3, .ref h3, v4, v5, v6, v7, v8, v9])), (h1, .inl (a0, 48, .inr (.inr (.inr (.inr f0))))), (h2, .inl (a1, 48, .inr (.inl f1))), (h3, .inr (4, [.ref h5, .int 0, .int 0])), (h5, .inl (a2, 2, .inl (upd (upd f2 0 0) 1 0)))]) (tr := [(a0, .object "LiftingSignal$Whole"), (a1, .long), (a2, .int)]) hx hb hml hown hg okN (cX4_become_391 l D h4 h6 (.int 0) (.int 0) f3 a3) (mwV k274 k275 k276 k88 k277) ⟨rfl, by decide, by decide, by decide +kernel⟩ ⟨rfl, rfl, (Nat.le_of_ble_eq_true rfl), (Nat.le_of_ble_eq_true rfl)⟩ hP hD hK hS xn [4, 6] [4, 6] [0, 1, 2, 3, 5] [3] [0, 1, 2] rfl (by decide) rfl rfl (by decide) (by decide) rfl rfl (va_free hD hS hA [4, 6] rfl) (va_free hD hS hA [4, 6] rfl) 4 rfl rfl rfl hl.1 rfl (Nat.le_of_ble_eq_true rfl) dX1_changeValue_28 ⟨(Nat.le_of_ble_eq_true rfl), (Nat.le_of_ble_eq_true rfl)⟩ (fun u H locs hφ hP hD hK hS hk => ?_)
  have hP : va_P D vwCl [(h0, .inr (1, [v0, .ref h1, .ref h2, v1, v2, v3, .ref h3, v4, v5, v6, v7, v8, v9])), (h1, .inl (a0, 48, .inr (.inr (.inr (.inr f0))))), (h2, .inl (a1, 48, .inr (.inl f1))), (h3, .inr (4, [.ref h5, .int 0, .int 0])), (h5, .inl (a2, 2, .inl (upd (upd f2 0 0) 1 0))), (h4, .inr (4, [.ref h6, .int 0, .int 0])), (h6, .inl (a3, 2, .inl (upd (upd f3 0 0) 1 0)))] H := hP
  have hD : va_D A [(h0, .inr (1, [v0, .ref h1, .ref h2, v1, v2, v3, .ref h3, v4, v5, v6, v7, v8, v9])), (h1, .inl (a0, 48, .inr (.inr (.inr (.inr f0))))), (h2, .inl (a1, 48, .inr (.inl f1))), (h3, .inr (4, [.ref h5, .int 0, .int 0])), (h5, .inl (a2, 2, .inl (upd (upd f2 0 0) 1 0))), (h4, .inr (4, [.ref h6, .int 0, .int 0])), (h6, .inl (a3, 2, .inl (upd (upd f3 0 0) 1 0)))] := hD
  have hK : va_K D vwCl [(a0, .object "LiftingSignal$Whole"), (a1, .long), (a2, .int), (a3, .int)] s := hK
  refine W.widen (k := 0) (n := 0) (Nat.le_of_ble_eq_true rfl) (Nat.le_of_ble_eq_true rfl) ?_
  refine lv_aload_n hx hb dX1_changeValue_31 rfl (lv_at hl 0 rfl) ?_
  refine va_get (D := D) (ci := 1) (v := .ref h3) (C := RX1) (T := TX1) (N := 13) hx hb hg inX1 hown hK hP 0 rfl rfl 6 (by decide) (hg _ k289) (fun _ h9 => h9) rfl dX1_changeValue_32 ?_
  refine lv_aload_n hx hb dX1_changeValue_35 rfl (lv_at hl 0 rfl) ?_
  refine va_get (D := D) (ci := 1) (v := .ref h1) (C := RX1) (T := TX1) (N := 13) hx hb hg inX1 hown hK hP 0 rfl rfl 1 (by decide) (hg _ k279) (fun _ h9 => h9) rfl dX1_changeValue_36 ?_
  refine lv_iload_n hx hb dX1_changeValue_39 rfl (lv_at hl 1 rfl) ?_
  refine aldQ hx hb hK hP 1 0 rfl rfl 1 (by decide) (vin (by decide)) (v := h4) ef0_1 dX1_changeValue_40 ?_
  refine lv_aload_n hx hb dX1_changeValue_41 rfl (lv_at hl 0 rfl) ?_
  refine va_get (D := D) (ci := 1) (v := .ref h2) (C := RX1) (T := TX1) (N := 13) hx hb hg inX1 hown hK hP 0 rfl rfl 2 (by decide) (hg _ k281) (fun _ h9 => h9) rfl dX1_changeValue_42 ?_
  refine lv_iload_n hx hb dX1_changeValue_45 rfl (lv_at hl 1 rfl) ?_
  refine aldL hx hb hK hP 2 1 rfl rfl 1 (by decide) (vin (by decide)) (v := 1) ef1_1 dX1_changeValue_46 ?_
  refine cVv (n := 2) (As := [.ref h4, .long 1]) (rest := []) (wr := [(h0, .inr (1, [v0, .ref h1, .ref h2, v1, v2, v3, .ref h3, v4, v5, v6, v7, v8, v9])), (h1, .inl (a0, 48, .inr (.inr (.inr (.inr f0))))), (h2, .inl (a1, 48, .inr (.inl f1)))]) (tr := [(a0, .object "LiftingSignal$Whole"), (a1, .long)]) hx hb hml hown hg okN (cX4_add_394 l D h3 h4 h5 h6 (upd (upd f2 0 0) 1 0) (upd (upd f3 0 0) 1 0) a2 a3 rfl rfl) (mwV k340 k341 k342 k88 k343) ⟨rfl, by decide, by decide, by decide +kernel⟩ ⟨rfl, rfl, (Nat.le_of_ble_eq_true rfl), (Nat.le_of_ble_eq_true rfl)⟩ hP hD hK hS xn [3, 5, 4, 6] [3, 5, 4, 6] [0, 1, 2] [2, 3] [0, 1] rfl (by decide) rfl rfl (by decide) (by decide) rfl rfl (va_free hD hS hA [3, 5, 4, 6] rfl) (va_free hD hS hA [3, 5, 4, 6] rfl) 3 rfl rfl rfl hl.1 rfl (Nat.le_of_ble_eq_true rfl) dX1_changeValue_47 ⟨(Nat.le_of_ble_eq_true rfl), (Nat.le_of_ble_eq_true rfl)⟩ (fun u H locs hφ hP hD hK hS hk => ?_)
  have hP : va_P D vwCl [(h0, .inr (1, [v0, .ref h1, .ref h2, v1, v2, v3, .ref h3, v4, v5, v6, v7, v8, v9])), (h1, .inl (a0, 48, .inr (.inr (.inr (.inr f0))))), (h2, .inl (a1, 48, .inr (.inl f1))), (h3, .inr (4, [.ref h5, .int 0, .int 0])), (h4, .inr (4, [.ref h6, .int 0, .int 0])), (h5, .inl (a2, 2, .inl (upd (upd (upd (upd f2 0 0) 1 0) 0 0) 1 0))), (h6, .inl (a3, 2, .inl (upd (upd f3 0 0) 1 0)))] H := hP
  have hD : va_D A [(h0, .inr (1, [v0, .ref h1, .ref h2, v1, v2, v3, .ref h3, v4, v5, v6, v7, v8, v9])), (h1, .inl (a0, 48, .inr (.inr (.inr (.inr f0))))), (h2, .inl (a1, 48, .inr (.inl f1))), (h3, .inr (4, [.ref h5, .int 0, .int 0])), (h4, .inr (4, [.ref h6, .int 0, .int 0])), (h5, .inl (a2, 2, .inl (upd (upd (upd (upd f2 0 0) 1 0) 0 0) 1 0))), (h6, .inl (a3, 2, .inl (upd (upd f3 0 0) 1 0)))] := hD
  have hK : va_K D vwCl [(a0, .object "LiftingSignal$Whole"), (a1, .long), (a2, .int), (a3, .int)] s := hK
  refine W.widen (k := 0) (n := 0) (Nat.le_of_ble_eq_true rfl) (Nat.le_of_ble_eq_true rfl) ?_
  exact fv hx hb hr hlocks hP hD hK hS (()) trivial [0, 1, 2, 3, 4, 5, 6] [0, 1, 2, 3] rfl (by decide) rfl (Nat.le_of_ble_eq_true rfl) (Nat.le_of_ble_eq_true rfl) dX1_changeValue_50
set_option maxHeartbeats 4000000 in
set_option maxRecDepth 100000 in
theorem cX5_set_456 (l : Launch) (D : va_G) (h0 : Nat) (h1 : Nat) (h2 : Nat) (h3 : Nat) (h4 : Nat) (h5 : Nat) (h6 : Nat) (h7 : Nat) (h8 : Nat) (h9 : Nat) (v0 : Value) (v1 : Value) (v2 : Value) (v3 : Value) (v4 : Value) (v5 : Value) (v6 : Value) (v7 : Value) (v8 : Value) (v9 : Value) (v10 : Value) (v11 : Value) (v12 : Value) (v13 : Value) (v14 : Value) (v15 : Value) (v16 : Value) (v17 : Value) (v18 : Value) (v19 : Value) (v20 : Value) (v21 : Value) (v22 : Value) (f0 : Nat → Int32) (f1 : Nat → Option Nat) (f2 : Nat → Int64) (f3 : Nat → Int32) (f4 : Nat → Int32) (a0 : ClassId) (a1 : ClassId) (a2 : ClassId) (a3 : ClassId) (a4 : ClassId) (ef0_1 : f0 1 = (-1)) (ef1_1 : f1 1 = some h5) (ef2_1 : f2 1 = 1) (ef3_0 : f3 0 = 0) (ef4_0 : f4 0 = 0)  : CT l yX5_set cX5_set 5 (some .long) { frames := 3, cells := 0, slots := 0, locals := 72 } [.ref h0, .int 1, .int 0] D [(h0, .inr (5, [v0, .ref h1, v1, .ref h2, v2, v3, v4, v5, v6, v7])), (h1, .inr (0, [v8, v9, .int 2, v10, v11, v12, v13])), (h2, .inr (1, [v14, .ref h4, .ref h6, .ref h3, v15, v16, .ref h7, v17, v18, v19, v20, v21, v22])), (h3, .inl (a0, 48, .inl f0)), (h4, .inl (a1, 48, .inr (.inr (.inr (.inr f1))))), (h5, .inr (4, [.ref h9, .int 0, .int 0])), (h6, .inl (a2, 48, .inr (.inl f2))), (h7, .inr (4, [.ref h8, .int 0, .int 0])), (h8, .inl (a3, 2, .inl f3)), (h9, .inl (a4, 2, .inl f4))] [(a0, .int), (a1, .object "LiftingSignal$Whole"), (a2, .long), (a3, .int), (a4, .int)] XN [(h0, .inr (5, [v0, .ref h1, v1, .ref h2, v2, v3, v4, v5, v6, v7])), (h1, .inr (0, [v8, v9, .int 2, v10, v11, v12, v13])), (h2, .inr (1, [v14, .ref h4, .ref h6, .ref h3, v15, v16, .ref h7, v17, v18, v19, v20, v21, v22])), (h3, .inl (a0, 48, .inl f0)), (h4, .inl (a1, 48, .inr (.inr (.inr (.inr f1))))), (h5, .inr (4, [.ref h9, .int 0, .int 0])), (h6, .inl (a2, 48, .inr (.inl f2))), (h7, .inr (4, [.ref h8, .int 0, .int 0])), (h8, .inl (a3, 2, .inl f3)), (h9, .inl (a4, 2, .inl f4))] (el (fun _ : Unit => True) (fun u => 0) (fun _ => [(h0, .inr (5, [v0, .ref h1, v1, .ref h2, v2, v3, v4, v5, v6, v7])), (h1, .inr (0, [v8, v9, .int 2, v10, v11, v12, v13])), (h2, .inr (1, [v14, .ref h4, .ref h6, .ref h3, v15, v16, .ref h7, v17, v18, v19, v20, v21, v22])), (h3, .inl (a0, 48, .inl f0)), (h4, .inl (a1, 48, .inr (.inr (.inr (.inr f1))))), (h5, .inr (4, [.ref h9, .int 0, .int 0])), (h6, .inl (a2, 48, .inr (.inl f2))), (h7, .inr (4, [.ref h8, .int 0, .int 0])), (h8, .inl (a3, 2, .inl (upd (upd (upd (upd f3 0 0) 1 0) 0 0) 1 0))), (h9, .inl (a4, 2, .inl (upd (upd f4 0 0) 1 0)))]) (fun u => [(a0, .int), (a1, .object "LiftingSignal$Whole"), (a2, .long), (a3, .int), (a4, .int)]) D) 0 0 := by
  refine CT.ofW (by decide +kernel) (Nat.le_of_ble_eq_true rfl) ?_
  intro p e s m below meth c A ls hcs hP hK hD hX hA hS hl
  obtain ⟨hx, hb, hr, hml, hown, hg, hlocks, hin⟩ := hcs
  have hown : s.vm.findClass RX5 = some m.cls := hown
  have hl : lv_has ls 5 [(0, .ref h0), (1, .int 1), (2, .int 0)] := hl
  refine lv_iload_n hx hb dX5_set_0 rfl (lv_at hl 1 rfl) ?_
  refine lv_aload_n hx hb dX5_set_1 rfl (lv_at hl 0 rfl) ?_
  refine va_get (D := D) (ci := 5) (v := .ref h1) (C := RX5) (T := TX5) (N := 10) hx hb hg inX5 hown hK hP 0 rfl rfl 1 (by decide) (hg _ k380) (fun _ h9 => h9) rfl dX5_set_2 ?_
  refine va_get (D := D) (ci := 0) (v := .int 2) (C := RX0) (T := TX0) (N := 7) hx hb hg inX0 hown hK hP 1 rfl rfl 2 (by decide) (hg _ k163) (fun _ h9 => h9) rfl dX5_set_5 ?_
  refine cSv (n := 2) (As := [.int 1, .int 2]) (rest := []) (wr := [(h0, .inr (5, [v0, .ref h1, v1, .ref h2, v2, v3, v4, v5, v6, v7])), (h1, .inr (0, [v8, v9, .int 2, v10, v11, v12, v13])), (h2, .inr (1, [v14, .ref h4, .ref h6, .ref h3, v15, v16, .ref h7, v17, v18, v19, v20, v21, v22])), (h3, .inl (a0, 48, .inl f0)), (h4, .inl (a1, 48, .inr (.inr (.inr (.inr f1))))), (h5, .inr (4, [.ref h9, .int 0, .int 0])), (h6, .inl (a2, 48, .inr (.inl f2))), (h7, .inr (4, [.ref h8, .int 0, .int 0])), (h8, .inl (a3, 2, .inl f3)), (h9, .inl (a4, 2, .inl f4))]) (tr := [(a0, .int), (a1, .object "LiftingSignal$Whole"), (a2, .long), (a3, .int), (a4, .int)]) hx hb hml hown hg okN (cX5_needIndex_355 l D) (mwS k610 k611 k84 k612) ⟨rfl, by decide, by decide, by decide +kernel⟩ ⟨rfl, rfl, (Nat.le_of_ble_eq_true rfl), (Nat.le_of_ble_eq_true rfl)⟩ hP hD hK hS xn [] [] [0, 1, 2, 3, 4, 5, 6, 7, 8, 9] [] [0, 1, 2, 3, 4] rfl (by decide) rfl rfl (by decide) (by decide) rfl rfl (aNil hA hS) (aNil hA hS) rfl hl.1 rfl (Nat.le_of_ble_eq_true rfl) dX5_set_8 ⟨(Nat.le_of_ble_eq_true rfl), (Nat.le_of_ble_eq_true rfl)⟩ (fun u H locs hφ hP hD hK hS hk => ?_)
  have hP : va_P D vwCl [(h0, .inr (5, [v0, .ref h1, v1, .ref h2, v2, v3, v4, v5, v6, v7])), (h1, .inr (0, [v8, v9, .int 2, v10, v11, v12, v13])), (h2, .inr (1, [v14, .ref h4, .ref h6, .ref h3, v15, v16, .ref h7, v17, v18, v19, v20, v21, v22])), (h3, .inl (a0, 48, .inl f0)), (h4, .inl (a1, 48, .inr (.inr (.inr (.inr f1))))), (h5, .inr (4, [.ref h9, .int 0, .int 0])), (h6, .inl (a2, 48, .inr (.inl f2))), (h7, .inr (4, [.ref h8, .int 0, .int 0])), (h8, .inl (a3, 2, .inl f3)), (h9, .inl (a4, 2, .inl f4))] H := hP
  have hD : va_D A [(h0, .inr (5, [v0, .ref h1, v1, .ref h2, v2, v3, v4, v5, v6, v7])), (h1, .inr (0, [v8, v9, .int 2, v10, v11, v12, v13])), (h2, .inr (1, [v14, .ref h4, .ref h6, .ref h3, v15, v16, .ref h7, v17, v18, v19, v20, v21, v22])), (h3, .inl (a0, 48, .inl f0)), (h4, .inl (a1, 48, .inr (.inr (.inr (.inr f1))))), (h5, .inr (4, [.ref h9, .int 0, .int 0])), (h6, .inl (a2, 48, .inr (.inl f2))), (h7, .inr (4, [.ref h8, .int 0, .int 0])), (h8, .inl (a3, 2, .inl f3)), (h9, .inl (a4, 2, .inl f4))] := hD
  have hK : va_K D vwCl [(a0, .int), (a1, .object "LiftingSignal$Whole"), (a2, .long), (a3, .int), (a4, .int)] s := hK
  refine W.widen (k := 0) (n := 0) (Nat.le_of_ble_eq_true rfl) (Nat.le_of_ble_eq_true rfl) ?_
  refine lv_iload_n hx hb dX5_set_11 rfl (lv_at hl 2 rfl) ?_
  refine lv_sipush (v := (-9999)) hx hb dX5_set_12 (by decide) ?_
  refine lv_sipush (v := 9999) hx hb dX5_set_15 (by decide) ?_
  refine cSv (n := 3) (As := [.int 0, .int (-9999), .int 9999]) (rest := []) (wr := [(h0, .inr (5, [v0, .ref h1, v1, .ref h2, v2, v3, v4, v5, v6, v7])), (h1, .inr (0, [v8, v9, .int 2, v10, v11, v12, v13])), (h2, .inr (1, [v14, .ref h4, .ref h6, .ref h3, v15, v16, .ref h7, v17, v18, v19, v20, v21, v22])), (h3, .inl (a0, 48, .inl f0)), (h4, .inl (a1, 48, .inr (.inr (.inr (.inr f1))))), (h5, .inr (4, [.ref h9, .int 0, .int 0])), (h6, .inl (a2, 48, .inr (.inl f2))), (h7, .inr (4, [.ref h8, .int 0, .int 0])), (h8, .inl (a3, 2, .inl f3)), (h9, .inl (a4, 2, .inl f4))]) (tr := [(a0, .int), (a1, .object "LiftingSignal$Whole"), (a2, .long), (a3, .int), (a4, .int)]) hx hb hml hown hg okN (cX5_needRange_451 l D) (mwS k909 k910 k84 k911) ⟨rfl, by decide, by decide, by decide +kernel⟩ ⟨rfl, rfl, (Nat.le_of_ble_eq_true rfl), (Nat.le_of_ble_eq_true rfl)⟩ hP hD hK hS xn [] [] [0, 1, 2, 3, 4, 5, 6, 7, 8, 9] [] [0, 1, 2, 3, 4] rfl (by decide) rfl rfl (by decide) (by decide) rfl rfl (aNil hA hS) (aNil hA hS) rfl hl.1 rfl (Nat.le_of_ble_eq_true rfl) dX5_set_18 ⟨(Nat.le_of_ble_eq_true rfl), (Nat.le_of_ble_eq_true rfl)⟩ (fun u H locs hφ hP hD hK hS hk => ?_)
  have hP : va_P D vwCl [(h0, .inr (5, [v0, .ref h1, v1, .ref h2, v2, v3, v4, v5, v6, v7])), (h1, .inr (0, [v8, v9, .int 2, v10, v11, v12, v13])), (h2, .inr (1, [v14, .ref h4, .ref h6, .ref h3, v15, v16, .ref h7, v17, v18, v19, v20, v21, v22])), (h3, .inl (a0, 48, .inl f0)), (h4, .inl (a1, 48, .inr (.inr (.inr (.inr f1))))), (h5, .inr (4, [.ref h9, .int 0, .int 0])), (h6, .inl (a2, 48, .inr (.inl f2))), (h7, .inr (4, [.ref h8, .int 0, .int 0])), (h8, .inl (a3, 2, .inl f3)), (h9, .inl (a4, 2, .inl f4))] H := hP
  have hD : va_D A [(h0, .inr (5, [v0, .ref h1, v1, .ref h2, v2, v3, v4, v5, v6, v7])), (h1, .inr (0, [v8, v9, .int 2, v10, v11, v12, v13])), (h2, .inr (1, [v14, .ref h4, .ref h6, .ref h3, v15, v16, .ref h7, v17, v18, v19, v20, v21, v22])), (h3, .inl (a0, 48, .inl f0)), (h4, .inl (a1, 48, .inr (.inr (.inr (.inr f1))))), (h5, .inr (4, [.ref h9, .int 0, .int 0])), (h6, .inl (a2, 48, .inr (.inl f2))), (h7, .inr (4, [.ref h8, .int 0, .int 0])), (h8, .inl (a3, 2, .inl f3)), (h9, .inl (a4, 2, .inl f4))] := hD
  have hK : va_K D vwCl [(a0, .int), (a1, .object "LiftingSignal$Whole"), (a2, .long), (a3, .int), (a4, .int)] s := hK
  refine W.widen (k := 0) (n := 0) (Nat.le_of_ble_eq_true rfl) (Nat.le_of_ble_eq_true rfl) ?_
  refine lv_aload_n hx hb dX5_set_21 rfl (lv_at hl 0 rfl) ?_
  refine va_get (D := D) (ci := 5) (v := .ref h2) (C := RX5) (T := TX5) (N := 10) hx hb hg inX5 hown hK hP 0 rfl rfl 3 (by decide) (hg _ k382) (fun _ h9 => h9) rfl dX5_set_22 ?_
  refine lv_iload_n hx hb dX5_set_25 rfl (lv_at hl 1 rfl) ?_
  refine cVi (n := 1) (As := [.int 1]) (rest := []) (wr := [(h0, .inr (5, [v0, .ref h1, v1, .ref h2, v2, v3, v4, v5, v6, v7])), (h1, .inr (0, [v8, v9, .int 2, v10, v11, v12, v13])), (h2, .inr (1, [v14, .ref h4, .ref h6, .ref h3, v15, v16, .ref h7, v17, v18, v19, v20, v21, v22])), (h3, .inl (a0, 48, .inl f0)), (h4, .inl (a1, 48, .inr (.inr (.inr (.inr f1))))), (h5, .inr (4, [.ref h9, .int 0, .int 0])), (h6, .inl (a2, 48, .inr (.inl f2))), (h7, .inr (4, [.ref h8, .int 0, .int 0])), (h8, .inl (a3, 2, .inl f3)), (h9, .inl (a4, 2, .inl f4))]) (tr := [(a0, .int), (a1, .object "LiftingSignal$Whole"), (a2, .long), (a3, .int), (a4, .int)]) hx hb hml hown hg okN (cX1_isPresent_337 l D h2 h3 v14 (.ref h4) (.ref h6) v15 v16 (.ref h7) v17 v18 v19 v20 v21 v22 f0 a0 ef0_1) (mwV k861 k460 k461 k87 k462) ⟨rfl, by decide, by decide, by decide +kernel⟩ ⟨rfl, rfl, (Nat.le_of_ble_eq_true rfl), (Nat.le_of_ble_eq_true rfl)⟩ hP hD hK hS xn [2, 3] [] [0, 1, 2, 3, 4, 5, 6, 7, 8, 9] [0] [0, 1, 2, 3, 4] rfl (by decide) rfl rfl (by decide) (by decide) rfl rfl (aNil hA hS) (aNil hA hS) 2 rfl rfl rfl hl.1 rfl (Nat.le_of_ble_eq_true rfl) dX5_set_26 ⟨(Nat.le_of_ble_eq_true rfl), (Nat.le_of_ble_eq_true rfl)⟩ (fun u H locs hφ hP hD hK hS hk => ?_)
  have hP : va_P D vwCl [(h0, .inr (5, [v0, .ref h1, v1, .ref h2, v2, v3, v4, v5, v6, v7])), (h1, .inr (0, [v8, v9, .int 2, v10, v11, v12, v13])), (h2, .inr (1, [v14, .ref h4, .ref h6, .ref h3, v15, v16, .ref h7, v17, v18, v19, v20, v21, v22])), (h3, .inl (a0, 48, .inl f0)), (h4, .inl (a1, 48, .inr (.inr (.inr (.inr f1))))), (h5, .inr (4, [.ref h9, .int 0, .int 0])), (h6, .inl (a2, 48, .inr (.inl f2))), (h7, .inr (4, [.ref h8, .int 0, .int 0])), (h8, .inl (a3, 2, .inl f3)), (h9, .inl (a4, 2, .inl f4))] H := hP
  have hD : va_D A [(h0, .inr (5, [v0, .ref h1, v1, .ref h2, v2, v3, v4, v5, v6, v7])), (h1, .inr (0, [v8, v9, .int 2, v10, v11, v12, v13])), (h2, .inr (1, [v14, .ref h4, .ref h6, .ref h3, v15, v16, .ref h7, v17, v18, v19, v20, v21, v22])), (h3, .inl (a0, 48, .inl f0)), (h4, .inl (a1, 48, .inr (.inr (.inr (.inr f1))))), (h5, .inr (4, [.ref h9, .int 0, .int 0])), (h6, .inl (a2, 48, .inr (.inl f2))), (h7, .inr (4, [.ref h8, .int 0, .int 0])), (h8, .inl (a3, 2, .inl f3)), (h9, .inl (a4, 2, .inl f4))] := hD
  have hK : va_K D vwCl [(a0, .int), (a1, .object "LiftingSignal$Whole"), (a2, .long), (a3, .int), (a4, .int)] s := hK
  refine W.widen (k := 0) (n := 0) (Nat.le_of_ble_eq_true rfl) (Nat.le_of_ble_eq_true rfl) ?_
  refine lv_if_ne (tgt := 40) hx hb dX5_set_29 (by decide) (fun _ => ?_) (fun c9 => absurd c9 (by decide))
  refine lv_aload_n hx hb dX5_set_40 rfl (lv_at hl 0 rfl) ?_
  refine va_get (D := D) (ci := 5) (v := .ref h2) (C := RX5) (T := TX5) (N := 10) hx hb hg inX5 hown hK hP 0 rfl rfl 3 (by decide) (hg _ k382) (fun _ h9 => h9) rfl dX5_set_41 ?_
  refine va_get (D := D) (ci := 1) (v := .ref h4) (C := RX1) (T := TX1) (N := 13) hx hb hg inX1 hown hK hP 2 rfl rfl 1 (by decide) (hg _ k280) (fun _ h9 => h9) rfl dX5_set_44 ?_
  refine lv_iload_n hx hb dX5_set_47 rfl (lv_at hl 1 rfl) ?_
  refine aldQ hx hb hK hP 4 1 rfl rfl 1 (by decide) (vin (by decide)) (v := h5) ef1_1 dX5_set_48 ?_
  refine cVl (n := 0) (As := []) (rest := []) (wr := [(h0, .inr (5, [v0, .ref h1, v1, .ref h2, v2, v3, v4, v5, v6, v7])), (h1, .inr (0, [v8, v9, .int 2, v10, v11, v12, v13])), (h2, .inr (1, [v14, .ref h4, .ref h6, .ref h3, v15, v16, .ref h7, v17, v18, v19, v20, v21, v22])), (h3, .inl (a0, 48, .inl f0)), (h4, .inl (a1, 48, .inr (.inr (.inr (.inr f1))))), (h5, .inr (4, [.ref h9, .int 0, .int 0])), (h6, .inl (a2, 48, .inr (.inl f2))), (h7, .inr (4, [.ref h8, .int 0, .int 0])), (h8, .inl (a3, 2, .inl f3)), (h9, .inl (a4, 2, .inl f4))]) (tr := [(a0, .int), (a1, .object "LiftingSignal$Whole"), (a2, .long), (a3, .int), (a4, .int)]) hx hb hml hown hg okN (cX4_toLong_348 l D h5 (.ref h9)) (mwV k435 k436 k437 k88 k438) ⟨rfl, by decide, by decide, by decide +kernel⟩ ⟨rfl, rfl, (Nat.le_of_ble_eq_true rfl), (Nat.le_of_ble_eq_true rfl)⟩ hP hD hK hS xn [5] [] [0, 1, 2, 3, 4, 5, 6, 7, 8, 9] [] [0, 1, 2, 3, 4] rfl (by decide) rfl rfl (by decide) (by decide) rfl rfl (aNil hA hS) (aNil hA hS) 5 rfl rfl rfl hl.1 rfl (Nat.le_of_ble_eq_true rfl) dX5_set_49 ⟨(Nat.le_of_ble_eq_true rfl), (Nat.le_of_ble_eq_true rfl)⟩ (fun u H locs hφ hP hD hK hS hk => ?_)
  have hP : va_P D vwCl [(h0, .inr (5, [v0, .ref h1, v1, .ref h2, v2, v3, v4, v5, v6, v7])), (h1, .inr (0, [v8, v9, .int 2, v10, v11, v12, v13])), (h2, .inr (1, [v14, .ref h4, .ref h6, .ref h3, v15, v16, .ref h7, v17, v18, v19, v20, v21, v22])), (h3, .inl (a0, 48, .inl f0)), (h4, .inl (a1, 48, .inr (.inr (.inr (.inr f1))))), (h5, .inr (4, [.ref h9, .int 0, .int 0])), (h6, .inl (a2, 48, .inr (.inl f2))), (h7, .inr (4, [.ref h8, .int 0, .int 0])), (h8, .inl (a3, 2, .inl f3)), (h9, .inl (a4, 2, .inl f4))] H := hP
  have hD : va_D A [(h0, .inr (5, [v0, .ref h1, v1, .ref h2, v2, v3, v4, v5, v6, v7])), (h1, .inr (0, [v8, v9, .int 2, v10, v11, v12, v13])), (h2, .inr (1, [v14, .ref h4, .ref h6, .ref h3, v15, v16, .ref h7, v17, v18, v19, v20, v21, v22])), (h3, .inl (a0, 48, .inl f0)), (h4, .inl (a1, 48, .inr (.inr (.inr (.inr f1))))), (h5, .inr (4, [.ref h9, .int 0, .int 0])), (h6, .inl (a2, 48, .inr (.inl f2))), (h7, .inr (4, [.ref h8, .int 0, .int 0])), (h8, .inl (a3, 2, .inl f3)), (h9, .inl (a4, 2, .inl f4))] := hD
  have hK : va_K D vwCl [(a0, .int), (a1, .object "LiftingSignal$Whole"), (a2, .long), (a3, .int), (a4, .int)] s := hK
  refine W.widen (k := 0) (n := 0) (Nat.le_of_ble_eq_true rfl) (Nat.le_of_ble_eq_true rfl) ?_
  refine lv_lstore_n (lv' := [(3, .long 0), (0, .ref h0), (1, .int 1), (2, .int 0)]) hx hb dX5_set_52 rfl hl (by decide) rfl (fun ls hl => ?_)
  refine lv_aload_n hx hb dX5_set_53 rfl (lv_at hl 1 rfl) ?_
  refine va_get (D := D) (ci := 5) (v := .ref h2) (C := RX5) (T := TX5) (N := 10) hx hb hg inX5 hown hK hP 0 rfl rfl 3 (by decide) (hg _ k382) (fun _ h9 => h9) rfl dX5_set_54 ?_
  refine lv_iload_n hx hb dX5_set_57 rfl (lv_at hl 2 rfl) ?_
  refine lv_iload_n hx hb dX5_set_58 rfl (lv_at hl 3 rfl) ?_
  refine cVv (n := 2) (As := [.int 1, .int 0]) (rest := []) (wr := [(h0, .inr (5, [v0, .ref h1, v1, .ref h2, v2, v3, v4, v5, v6, v7])), (h1, .inr (0, [v8, v9, .int 2, v10, v11, v12, v13])), (h3, .inl (a0, 48, .inl f0))]) (tr := [(a0, .int)]) hx hb hml hown hg okN (cX1_changeValue_457 l D h2 h4 h6 h7 h5 h8 h9 v14 (.ref h3) v15 v16 v17 v18 v19 v20 v21 v22 f1 f2 f3 f4 a1 a2 a3 a4 ef1_1 ef2_1 ef3_0 ef4_0) (mwV k1009 k1010 k1011 k87 k1012) ⟨rfl, by decide, by decide, by decide +kernel⟩ ⟨rfl, rfl, (Nat.le_of_ble_eq_true rfl), (Nat.le_of_ble_eq_true rfl)⟩ hP hD hK hS xn [2, 4, 6, 7, 5, 8, 9] [2, 4, 6, 7, 5, 8, 9] [0, 1, 3] [1, 2, 3, 4] [0] rfl (by decide) rfl rfl (by decide) (by decide) rfl rfl (va_free hD hS hA [2, 4, 6, 7, 5, 8, 9] rfl) (va_free hD hS hA [2, 4, 6, 7, 5, 8, 9] rfl) 2 rfl rfl rfl hl.1 rfl (Nat.le_of_ble_eq_true rfl) dX5_set_59 ⟨(Nat.le_of_ble_eq_true rfl), (Nat.le_of_ble_eq_true rfl)⟩ (fun u H locs hφ hP hD hK hS hk => ?_)
  have hP : va_P D vwCl [(h0, .inr (5, [v0, .ref h1, v1, .ref h2, v2, v3, v4, v5, v6, v7])), (h1, .inr (0, [v8, v9, .int 2, v10, v11, v12, v13])), (h3, .inl (a0, 48, .inl f0)), (h2, .inr (1, [v14, .ref h4, .ref h6, .ref h3, v15, v16, .ref h7, v17, v18, v19, v20, v21, v22])), (h4, .inl (a1, 48, .inr (.inr (.inr (.inr f1))))), (h6, .inl (a2, 48, .inr (.inl f2))), (h7, .inr (4, [.ref h8, .int 0, .int 0])), (h5, .inr (4, [.ref h9, .int 0, .int 0])), (h8, .inl (a3, 2, .inl (upd (upd (upd (upd f3 0 0) 1 0) 0 0) 1 0))), (h9, .inl (a4, 2, .inl (upd (upd f4 0 0) 1 0)))] H := hP
  have hD : va_D A [(h0, .inr (5, [v0, .ref h1, v1, .ref h2, v2, v3, v4, v5, v6, v7])), (h1, .inr (0, [v8, v9, .int 2, v10, v11, v12, v13])), (h3, .inl (a0, 48, .inl f0)), (h2, .inr (1, [v14, .ref h4, .ref h6, .ref h3, v15, v16, .ref h7, v17, v18, v19, v20, v21, v22])), (h4, .inl (a1, 48, .inr (.inr (.inr (.inr f1))))), (h6, .inl (a2, 48, .inr (.inl f2))), (h7, .inr (4, [.ref h8, .int 0, .int 0])), (h5, .inr (4, [.ref h9, .int 0, .int 0])), (h8, .inl (a3, 2, .inl (upd (upd (upd (upd f3 0 0) 1 0) 0 0) 1 0))), (h9, .inl (a4, 2, .inl (upd (upd f4 0 0) 1 0)))] := hD
  have hK : va_K D vwCl [(a0, .int), (a1, .object "LiftingSignal$Whole"), (a2, .long), (a3, .int), (a4, .int)] s := hK
  refine W.widen (k := 0) (n := 0) (Nat.le_of_ble_eq_true rfl) (Nat.le_of_ble_eq_true rfl) ?_
  refine lv_lload_n hx hb dX5_set_62 rfl (lv_at hl 0 rfl) ?_
  exact fl hx hb hr hlocks hP hD hK hS (()) trivial rfl [0, 1, 3, 2, 4, 7, 5, 6, 8, 9] [0, 1, 2, 3, 4] rfl (by decide) rfl (Nat.le_of_ble_eq_true rfl) (Nat.le_of_ble_eq_true rfl) dX5_set_63
set_option maxHeartbeats 4000000 in
set_option maxRecDepth 100000 in
theorem cX5_set_458 (l : Launch) (D : va_G) (hlt : l.stackTraces = false) (h0 : Nat) (x0 : Int32) (h1 : Nat) (v0 : Value) (v1 : Value) (v2 : Value) (v3 : Value) (v4 : Value) (v5 : Value) (v6 : Value) (v7 : Value) (v8 : Value) (v9 : Value) (v10 : Value) (v11 : Value) (v12 : Value) (v13 : Value) (v14 : Value)  (d0 : ¬ (x0 < (-9999))) (d1 : ¬ (x0 ≤ 9999)) : CX l yX5_set cX5_set 5 (some .long) { frames := 7, cells := 1, slots := 6, locals := 112 } [.ref h0, .int 1, .int x0] D [(h0, .inr (5, [v0, .ref h1, v1, v2, v3, v4, v5, v6, v7, v8])), (h1, .inr (0, [v9, v10, .int 2, v11, v12, v13, v14]))] [] XX [] xl "java/lang/IllegalArgumentException" 1 6 := by
  refine CX.ofR (by decide +kernel) (Nat.le_of_ble_eq_true rfl) ?_
  intro p e s m below meth c A ls hcs hout hP hK hD hX hA hS hl
  obtain ⟨hx, hb, hr, hml, hown, hg, hlocks, hin⟩ := hcs
  have hown : s.vm.findClass RX5 = some m.cls := hown
  have hl : lv_has ls 5 [(0, .ref h0), (1, .int 1), (2, .int x0)] := hl
  refine lv_iload_n hx hb dX5_set_0 rfl (lv_at hl 1 rfl) ?_
  refine lv_aload_n hx hb dX5_set_1 rfl (lv_at hl 0 rfl) ?_
  refine va_get (D := D) (ci := 5) (v := .ref h1) (C := RX5) (T := TX5) (N := 10) hx hb hg inX5 hown hK hP 0 rfl rfl 1 (by decide) (hg _ k380) (fun _ h9 => h9) rfl dX5_set_2 ?_
  refine va_get (D := D) (ci := 0) (v := .int 2) (C := RX0) (T := TX0) (N := 7) hx hb hg inX0 hown hK hP 1 rfl rfl 2 (by decide) (hg _ k163) (fun _ h9 => h9) rfl dX5_set_5 ?_
  refine cSv (n := 2) (As := [.int 1, .int 2]) (rest := []) (wr := [(h0, .inr (5, [v0, .ref h1, v1, v2, v3, v4, v5, v6, v7, v8])), (h1, .inr (0, [v9, v10, .int 2, v11, v12, v13, v14]))]) (tr := []) hx hb hml hown hg okN (cX5_needIndex_355 l D) (mwS k610 k611 k84 k612) ⟨rfl, by decide, by decide, by decide +kernel⟩ ⟨rfl, rfl, (Nat.le_of_ble_eq_true rfl), (Nat.le_of_ble_eq_true rfl)⟩ hP hD hK hS xn [] [] [0, 1] [] [] rfl (by decide) rfl rfl (by decide) (by decide) rfl rfl (aNil hA hS) (fun _ _ => trivial) rfl hl.1 rfl (Nat.le_of_ble_eq_true rfl) dX5_set_8 ⟨(Nat.le_of_ble_eq_true rfl), (Nat.le_of_ble_eq_true rfl)⟩ (fun u H locs hφ hP hD hK hS hk => ?_)
  have hP : va_P D vwCl [(h0, .inr (5, [v0, .ref h1, v1, v2, v3, v4, v5, v6, v7, v8])), (h1, .inr (0, [v9, v10, .int 2, v11, v12, v13, v14]))] H := hP
  have hD : va_D (fun _ => True) [(h0, .inr (5, [v0, .ref h1, v1, v2, v3, v4, v5, v6, v7, v8])), (h1, .inr (0, [v9, v10, .int 2, v11, v12, v13, v14]))] := hD
  have hK : va_K D vwCl [] s := hK
  refine W.widen (k := 0) (n := 0) (Nat.le_of_ble_eq_true rfl) (Nat.le_of_ble_eq_true rfl) ?_
  refine lv_iload_n hx hb dX5_set_11 rfl (lv_at hl 2 rfl) ?_
  refine lv_sipush (v := (-9999)) hx hb dX5_set_12 (by decide) ?_
  refine lv_sipush (v := 9999) hx hb dX5_set_15 (by decide) ?_
  exact xSv (n := 3) (As := [.int x0, .int (-9999), .int 9999]) (rest := []) hx hb hml hown hg okXX (cX5_needRange_454 l D hlt x0 d0 d1) (mwS k909 k910 k84 k911) ⟨rfl, by decide, by decide, by decide +kernel⟩ ⟨rfl, rfl, (Nat.le_of_ble_eq_true rfl), (Nat.le_of_ble_eq_true rfl)⟩ hP hD hK hS (okXX.2.2 _ _ _ _ hS.2.1 hX) [] [] rfl (by decide) rfl (aNil hA hS) rfl hl.1 rfl (Nat.le_of_ble_eq_true rfl) dX5_set_18 ⟨(Nat.le_of_ble_eq_true rfl), (Nat.le_of_ble_eq_true rfl)⟩ hout hlocks (Nat.le_of_ble_eq_true rfl) (Nat.le_of_ble_eq_true rfl)
set_option maxHeartbeats 4000000 in
set_option maxRecDepth 100000 in
theorem cX5_needRange_460 (l : Launch) (D : va_G) (hlt : l.stackTraces = false) (x0 : Int32)  (d0 : x0 < 0) : CX l yX5_needRange cX5_needRange 3 none { frames := 6, cells := 1, slots := 6, locals := 90 } [.int x0, .int 0, .int 999] D [] [] XX [] xv "java/lang/IllegalArgumentException" 1 6 := by
  refine CX.ofR (by decide +kernel) (Nat.le_of_ble_eq_true rfl) ?_
  intro p e s m below meth c A ls hcs hout hP hK hD hX hA hS hl
  obtain ⟨hx, hb, hr, hml, hown, hg, hlocks, hin⟩ := hcs
  have hown : s.vm.findClass RX5 = some m.cls := hown
  have hl : lv_has ls 3 [(0, .int x0), (1, .int 0), (2, .int 999)] := hl
  refine lv_iload_n hx hb dX5_needRange_0 rfl (lv_at hl 0 rfl) ?_
  refine lv_iload_n hx hb dX5_needRange_1 rfl (lv_at hl 1 rfl) ?_
  refine lv_icmp_lt (tgt := 10) hx hb dX5_needRange_2 (by decide) (fun _ => ?_) (fun c9 => absurd d0 c9)
  obtain ⟨sa, hsa⟩ := XX_sRX5_321 hX
  exact thSW_IAE hx hb hlt hown (hg _ k813) (hg _ k101) hsa hg hX hS (hl.1.trans hml.symm) dX5_needRange_10 dX5_needRange_13 dX5_needRange_14 dX5_needRange_17 dX5_needRange_20 hout (Nat.le_of_ble_eq_true rfl) (Nat.le_of_ble_eq_true rfl) (Nat.le_of_ble_eq_true rfl) (Nat.le_of_ble_eq_true rfl) hlocks (Nat.le_of_ble_eq_true rfl) (Nat.le_of_ble_eq_true rfl)
set_option maxHeartbeats 4000000 in
set_option maxRecDepth 100000 in
theorem cX5_noise_459 (l : Launch) (D : va_G) (hlt : l.stackTraces = false) (h0 : Nat) (x0 : Int32) (x1 : Int32)  (d0 : x1 < 0) : CX l yX5_noise cX5_noise 3 (some .long) { frames := 7, cells := 1, slots := 6, locals := 112 } [.ref h0, .int x0, .int x1] D [] [] XX [] xl "java/lang/IllegalArgumentException" 1 6 := by
  refine CX.ofR (by decide +kernel) (Nat.le_of_ble_eq_true rfl) ?_
  intro p e s m below meth c A ls hcs hout hP hK hD hX hA hS hl
  obtain ⟨hx, hb, hr, hml, hown, hg, hlocks, hin⟩ := hcs
  have hown : s.vm.findClass RX5 = some m.cls := hown
  have hl : lv_has ls 3 [(0, .ref h0), (1, .int x0), (2, .int x1)] := hl
  refine lv_iload_n hx hb dX5_noise_0 rfl (lv_at hl 2 rfl) ?_
  refine lv_iconst (v := 0) hx hb dX5_noise_1 (by decide) ?_
  refine lv_sipush (v := 999) hx hb dX5_noise_2 (by decide) ?_
  exact xSv (n := 3) (As := [.int x1, .int 0, .int 999]) (rest := []) hx hb hml hown hg okXX (cX5_needRange_460 l D hlt x1 d0) (mwS k909 k910 k84 k911) ⟨rfl, by decide, by decide, by decide +kernel⟩ ⟨rfl, rfl, (Nat.le_of_ble_eq_true rfl), (Nat.le_of_ble_eq_true rfl)⟩ hP hD hK hS (okXX.2.2 _ _ _ _ hS.2.1 hX) [] [] rfl (by decide) rfl (aNil hA hS) rfl hl.1 rfl (Nat.le_of_ble_eq_true rfl) dX5_noise_5 ⟨(Nat.le_of_ble_eq_true rfl), (Nat.le_of_ble_eq_true rfl)⟩ hout hlocks (Nat.le_of_ble_eq_true rfl) (Nat.le_of_ble_eq_true rfl)
set_option maxHeartbeats 4000000 in
set_option maxRecDepth 100000 in
theorem cX5_needRange_462 (l : Launch) (D : va_G) (hlt : l.stackTraces = false) (x0 : Int32)  (d0 : ¬ (x0 < 0)) (d1 : ¬ (x0 ≤ 999)) : CX l yX5_needRange cX5_needRange 3 none { frames := 6, cells := 1, slots := 6, locals := 90 } [.int x0, .int 0, .int 999] D [] [] XX [] xv "java/lang/IllegalArgumentException" 1 6 := by
  refine CX.ofR (by decide +kernel) (Nat.le_of_ble_eq_true rfl) ?_
  intro p e s m below meth c A ls hcs hout hP hK hD hX hA hS hl
  obtain ⟨hx, hb, hr, hml, hown, hg, hlocks, hin⟩ := hcs
  have hown : s.vm.findClass RX5 = some m.cls := hown
  have hl : lv_has ls 3 [(0, .int x0), (1, .int 0), (2, .int 999)] := hl
  refine lv_iload_n hx hb dX5_needRange_0 rfl (lv_at hl 0 rfl) ?_
  refine lv_iload_n hx hb dX5_needRange_1 rfl (lv_at hl 1 rfl) ?_
  refine lv_icmp_lt (tgt := 10) hx hb dX5_needRange_2 (by decide) (fun c9 => absurd c9 d0) (fun _ => ?_)
  refine lv_iload_n hx hb dX5_needRange_5 rfl (lv_at hl 0 rfl) ?_
  refine lv_iload_n hx hb dX5_needRange_6 rfl (lv_at hl 2 rfl) ?_
  refine lv_icmp_le (tgt := 21) hx hb dX5_needRange_7 (by decide) (fun c9 => absurd c9 d1) (fun _ => ?_)
  obtain ⟨sa, hsa⟩ := XX_sRX5_321 hX
  exact thSW_IAE hx hb hlt hown (hg _ k813) (hg _ k101) hsa hg hX hS (hl.1.trans hml.symm) dX5_needRange_10 dX5_needRange_13 dX5_needRange_14 dX5_needRange_17 dX5_needRange_20 hout (Nat.le_of_ble_eq_true rfl) (Nat.le_of_ble_eq_true rfl) (Nat.le_of_ble_eq_true rfl) (Nat.le_of_ble_eq_true rfl) hlocks (Nat.le_of_ble_eq_true rfl) (Nat.le_of_ble_eq_true rfl)
set_option maxHeartbeats 4000000 in
set_option maxRecDepth 100000 in
theorem cX5_noise_461 (l : Launch) (D : va_G) (hlt : l.stackTraces = false) (h0 : Nat) (x0 : Int32) (x1 : Int32)  (d0 : ¬ (x1 < 0)) (d1 : ¬ (x1 ≤ 999)) : CX l yX5_noise cX5_noise 3 (some .long) { frames := 7, cells := 1, slots := 6, locals := 112 } [.ref h0, .int x0, .int x1] D [] [] XX [] xl "java/lang/IllegalArgumentException" 1 6 := by
  refine CX.ofR (by decide +kernel) (Nat.le_of_ble_eq_true rfl) ?_
  intro p e s m below meth c A ls hcs hout hP hK hD hX hA hS hl
  obtain ⟨hx, hb, hr, hml, hown, hg, hlocks, hin⟩ := hcs
  have hown : s.vm.findClass RX5 = some m.cls := hown
  have hl : lv_has ls 3 [(0, .ref h0), (1, .int x0), (2, .int x1)] := hl
  refine lv_iload_n hx hb dX5_noise_0 rfl (lv_at hl 2 rfl) ?_
  refine lv_iconst (v := 0) hx hb dX5_noise_1 (by decide) ?_
  refine lv_sipush (v := 999) hx hb dX5_noise_2 (by decide) ?_
  exact xSv (n := 3) (As := [.int x1, .int 0, .int 999]) (rest := []) hx hb hml hown hg okXX (cX5_needRange_462 l D hlt x1 d0 d1) (mwS k909 k910 k84 k911) ⟨rfl, by decide, by decide, by decide +kernel⟩ ⟨rfl, rfl, (Nat.le_of_ble_eq_true rfl), (Nat.le_of_ble_eq_true rfl)⟩ hP hD hK hS (okXX.2.2 _ _ _ _ hS.2.1 hX) [] [] rfl (by decide) rfl (aNil hA hS) rfl hl.1 rfl (Nat.le_of_ble_eq_true rfl) dX5_noise_5 ⟨(Nat.le_of_ble_eq_true rfl), (Nat.le_of_ble_eq_true rfl)⟩ hout hlocks (Nat.le_of_ble_eq_true rfl) (Nat.le_of_ble_eq_true rfl)
set_option maxHeartbeats 4000000 in
set_option maxRecDepth 100000 in
theorem cX0_firstWeight_465 (l : Launch) (D : va_G) (h0 : Nat) (h1 : Nat) (v0 : Value) (v1 : Value) (v2 : Value) (v3 : Value) (v4 : Value) (f0 : Nat → Int32) (a0 : ClassId) (ef0_0 : f0 0 = 0) (ef0_1 : f0 1 = 1)  : CT l yX0_firstWeight cX0_firstWeight 4 (some .int) { frames := 0, cells := 0, slots := 0, locals := 0 } [.ref h0, .int 0] D [(h0, .inr (0, [.ref h1, v0, .int 2, v1, v2, v3, v4])), (h1, .inl (a0, 48, .inl f0))] [(a0, .int)] XN [] (ei (fun _ : Unit => True) (fun _ => 1) (fun _ => []) (fun _ => []) D) 0 0 := by
  refine CT.ofR (by decide +kernel) (Nat.le_of_ble_eq_true rfl) ?_
  intro p e s m below meth c A ls hcs hP hK hD hX hA hS hl
  obtain ⟨hx, hb, hr, hml, hown, hg, hlocks, hin⟩ := hcs
  have hown : s.vm.findClass RX0 = some m.cls := hown
  have hl : lv_has ls 4 [(0, .ref h0), (1, .int 0)] := hl
  refine lv_iload_n hx hb dX0_firstWeight_0 rfl (lv_at hl 1 rfl) ?_
  refine lv_if_le (tgt := 10) hx hb dX0_firstWeight_1 (by decide) (fun _ => ?_) (fun c9 => absurd (by decide) c9)
  refine lv_iconst (v := 0) hx hb dX0_firstWeight_10 (by decide) ?_
  refine lv_istore_n (lv' := [(2, .int 0), (0, .ref h0), (1, .int 0)]) hx hb dX0_firstWeight_11 rfl hl (by decide) rfl (fun ls hl => ?_)
  refine lv_iload_n hx hb dX0_firstWeight_12 rfl (lv_at hl 2 rfl) ?_
  refine lv_aload_n hx hb dX0_firstWeight_13 rfl (lv_at hl 1 rfl) ?_
  refine va_get (D := D) (ci := 0) (v := .int 2) (C := RX0) (T := TX0) (N := 7) hx hb hg inX0 hown hK hP 0 rfl rfl 2 (by decide) (hg _ k161) (fun _ h9 => h9) rfl dX0_firstWeight_14 ?_
  refine lv_iconst (v := 1) hx hb dX0_firstWeight_17 (by decide) ?_
  refine lv_isub hx hb dX0_firstWeight_18 ?_
  refine ti (1) (by decide) ?_
  refine lv_icmp_ge (tgt := 28) hx hb dX0_firstWeight_19 (by decide) (fun c9 => absurd c9 (by decide)) (fun _ => ?_)
  refine lv_iload_n hx hb dX0_firstWeight_22 rfl (lv_at hl 2 rfl) ?_
  refine lv_iconst (v := 1) hx hb dX0_firstWeight_23 (by decide) ?_
  refine lv_iadd hx hb dX0_firstWeight_24 ?_
  refine ti (1) (by decide) ?_
  refine lv_goto (tgt := 34) hx hb dX0_firstWeight_25 (by decide) ?_
  refine lv_istore_n (lv' := [(3, .int 1), (2, .int 0), (0, .ref h0), (1, .int 0)]) hx hb dX0_firstWeight_34 rfl hl (by decide) rfl (fun ls hl => ?_)
  refine lv_aload_n hx hb dX0_firstWeight_35 rfl (lv_at hl 2 rfl) ?_
  refine va_get (D := D) (ci := 0) (v := .ref h1) (C := RX0) (T := TX0) (N := 7) hx hb hg inX0 hown hK hP 0 rfl rfl 0 (by decide) (hg _ k154) (fun _ h9 => h9) rfl dX0_firstWeight_36 ?_
  refine lv_iload_n hx hb dX0_firstWeight_39 rfl (lv_at hl 0 rfl) ?_
  refine aldI hx hb hK hP 1 0 rfl rfl 1 (by decide) (vin (by decide)) (v := 1) ef0_1 dX0_firstWeight_40 ?_
  refine lv_aload_n hx hb dX0_firstWeight_41 rfl (lv_at hl 2 rfl) ?_
  refine va_get (D := D) (ci := 0) (v := .ref h1) (C := RX0) (T := TX0) (N := 7) hx hb hg inX0 hown hK hP 0 rfl rfl 0 (by decide) (hg _ k154) (fun _ h9 => h9) rfl dX0_firstWeight_42 ?_
  refine lv_iload_n hx hb dX0_firstWeight_45 rfl (lv_at hl 1 rfl) ?_
  refine aldI hx hb hK hP 1 0 rfl rfl 0 (by decide) (vin (by decide)) (v := 0) ef0_0 dX0_firstWeight_46 ?_
  refine lv_isub hx hb dX0_firstWeight_47 ?_
  refine ti (1) (by decide) ?_
  exact fi0 hx hb hr hlocks hK hS (Nat.le_of_ble_eq_true rfl) (Nat.le_of_ble_eq_true rfl) dX0_firstWeight_48
set_option maxHeartbeats 4000000 in
set_option maxRecDepth 100000 in
theorem cX0_firstWeight_466 (l : Launch) (D : va_G) (h0 : Nat) (h1 : Nat) (v0 : Value) (v1 : Value) (v2 : Value) (v3 : Value) (v4 : Value) (f0 : Nat → Int32) (a0 : ClassId) (ef0_0 : f0 0 = 0) (ef0_1 : f0 1 = 1)  : CT l yX0_firstWeight cX0_firstWeight 4 (some .int) { frames := 0, cells := 0, slots := 0, locals := 0 } [.ref h0, .int 1] D [(h0, .inr (0, [.ref h1, v0, .int 2, v1, v2, v3, v4])), (h1, .inl (a0, 48, .inl f0))] [(a0, .int)] XN [] (ei (fun _ : Unit => True) (fun _ => 1) (fun _ => []) (fun _ => []) D) 0 0 := by
  refine CT.ofR (by decide +kernel) (Nat.le_of_ble_eq_true rfl) ?_
  intro p e s m below meth c A ls hcs hP hK hD hX hA hS hl
  obtain ⟨hx, hb, hr, hml, hown, hg, hlocks, hin⟩ := hcs
  have hown : s.vm.findClass RX0 = some m.cls := hown
  have hl : lv_has ls 4 [(0, .ref h0), (1, .int 1)] := hl
  refine lv_iload_n hx hb dX0_firstWeight_0 rfl (lv_at hl 1 rfl) ?_
  refine lv_if_le (tgt := 10) hx hb dX0_firstWeight_1 (by decide) (fun c9 => absurd c9 (by decide)) (fun _ => ?_)
  refine lv_iload_n hx hb dX0_firstWeight_4 rfl (lv_at hl 1 rfl) ?_
  refine lv_iconst (v := 1) hx hb dX0_firstWeight_5 (by decide) ?_
  refine lv_isub hx hb dX0_firstWeight_6 ?_
  refine ti (0) (by decide) ?_
  refine lv_goto (tgt := 11) hx hb dX0_firstWeight_7 (by decide) ?_
  refine lv_istore_n (lv' := [(2, .int 0), (0, .ref h0), (1, .int 1)]) hx hb dX0_firstWeight_11 rfl hl (by decide) rfl (fun ls hl => ?_)
  refine lv_iload_n hx hb dX0_firstWeight_12 rfl (lv_at hl 2 rfl) ?_
  refine lv_aload_n hx hb dX0_firstWeight_13 rfl (lv_at hl 1 rfl) ?_
  refine va_get (D := D) (ci := 0) (v := .int 2) (C := RX0) (T := TX0) (N := 7) hx hb hg inX0 hown hK hP 0 rfl rfl 2 (by decide) (hg _ k161) (fun _ h9 => h9) rfl dX0_firstWeight_14 ?_
  refine lv_iconst (v := 1) hx hb dX0_firstWeight_17 (by decide) ?_
  refine lv_isub hx hb dX0_firstWeight_18 ?_
  refine ti (1) (by decide) ?_
  refine lv_icmp_ge (tgt := 28) hx hb dX0_firstWeight_19 (by decide) (fun _ => ?_) (fun c9 => absurd (by decide) c9)
  refine lv_aload_n hx hb dX0_firstWeight_28 rfl (lv_at hl 1 rfl) ?_
  refine va_get (D := D) (ci := 0) (v := .int 2) (C := RX0) (T := TX0) (N := 7) hx hb hg inX0 hown hK hP 0 rfl rfl 2 (by decide) (hg _ k161) (fun _ h9 => h9) rfl dX0_firstWeight_29 ?_
  refine lv_iconst (v := 1) hx hb dX0_firstWeight_32 (by decide) ?_
  refine lv_isub hx hb dX0_firstWeight_33 ?_
  refine ti (1) (by decide) ?_
  refine lv_istore_n (lv' := [(3, .int 1), (2, .int 0), (0, .ref h0), (1, .int 1)]) hx hb dX0_firstWeight_34 rfl hl (by decide) rfl (fun ls hl => ?_)
  refine lv_aload_n hx hb dX0_firstWeight_35 rfl (lv_at hl 2 rfl) ?_
  refine va_get (D := D) (ci := 0) (v := .ref h1) (C := RX0) (T := TX0) (N := 7) hx hb hg inX0 hown hK hP 0 rfl rfl 0 (by decide) (hg _ k154) (fun _ h9 => h9) rfl dX0_firstWeight_36 ?_
  refine lv_iload_n hx hb dX0_firstWeight_39 rfl (lv_at hl 0 rfl) ?_
  refine aldI hx hb hK hP 1 0 rfl rfl 1 (by decide) (vin (by decide)) (v := 1) ef0_1 dX0_firstWeight_40 ?_
  refine lv_aload_n hx hb dX0_firstWeight_41 rfl (lv_at hl 2 rfl) ?_
  refine va_get (D := D) (ci := 0) (v := .ref h1) (C := RX0) (T := TX0) (N := 7) hx hb hg inX0 hown hK hP 0 rfl rfl 0 (by decide) (hg _ k154) (fun _ h9 => h9) rfl dX0_firstWeight_42 ?_
  refine lv_iload_n hx hb dX0_firstWeight_45 rfl (lv_at hl 1 rfl) ?_
  refine aldI hx hb hK hP 1 0 rfl rfl 0 (by decide) (vin (by decide)) (v := 0) ef0_0 dX0_firstWeight_46 ?_
  refine lv_isub hx hb dX0_firstWeight_47 ?_
  refine ti (1) (by decide) ?_
  exact fi0 hx hb hr hlocks hK hS (Nat.le_of_ble_eq_true rfl) (Nat.le_of_ble_eq_true rfl) dX0_firstWeight_48
set_option maxHeartbeats 4000000 in
set_option maxRecDepth 100000 in
theorem cX1_begin_464 (l : Launch) (D : va_G) (h0 : Nat) (h1 : Nat) (h2 : Nat) (h3 : Nat) (h4 : Nat) (h5 : Nat) (h6 : Nat) (h7 : Nat) (h8 : Nat) (h9 : Nat) (h10 : Nat) (h11 : Nat) (h12 : Nat) (v0 : Value) (v1 : Value) (v2 : Value) (v3 : Value) (v4 : Value) (v5 : Value) (v6 : Value) (v7 : Value) (v8 : Value) (v9 : Value) (f0 : Nat → Int32) (v10 : Value) (v11 : Value) (v12 : Value) (v13 : Value) (f1 : Nat → Option Nat) (f2 : Nat → Int32) (v14 : Value) (v15 : Value) (f3 : Nat → Int32) (f4 : Nat → Int32) (f5 : Nat → Int64) (f6 : Nat → Int32) (v16 : Value) (v17 : Value) (f7 : Nat → Int32) (a0 : ClassId) (a1 : ClassId) (a2 : ClassId) (a3 : ClassId) (a4 : ClassId) (a5 : ClassId) (a6 : ClassId) (a7 : ClassId) (ef1_0 : f1 0 = some h6) (ef1_1 : f1 1 = some h11) (ef2_0 : f2 0 = 0) (ef2_1 : f2 1 = 0) (ef4_0 : f4 0 = 0) (ef4_1 : f4 1 = 1)  : CT l yX1_begin cX1_begin 2 none { frames := 2, cells := 0, slots := 0, locals := 50 } [.ref h0] D [(h0, .inr (1, [.ref h3, .ref h4, .ref h9, .ref h10, v0, v1, .ref h1, v2, v3, v4, v5, v6, v7])), (h1, .inr (4, [.ref h2, v8, v9])), (h2, .inl (a0, 2, .inl f0)), (h3, .inr (0, [.ref h8, .ref h5, .int 2, v10, v11, v12, v13])), (h4, .inl (a1, 48, .inr (.inr (.inr (.inr f1))))), (h5, .inl (a2, 48, .inl f2)), (h6, .inr (4, [.ref h7, v14, v15])), (h7, .inl (a3, 2, .inl f3)), (h8, .inl (a4, 48, .inl f4)), (h9, .inl (a5, 48, .inr (.inl f5))), (h10, .inl (a6, 48, .inl f6)), (h11, .inr (4, [.ref h12, v16, v17])), (h12, .inl (a7, 2, .inl f7))] [(a0, .int), (a1, .object "LiftingSignal$Whole"), (a2, .int), (a3, .int), (a4, .int), (a5, .long), (a6, .int), (a7, .int)] XN [(h0, .inr (1, [.ref h3, .ref h4, .ref h9, .ref h10, v0, v1, .ref h1, v2, v3, v4, v5, v6, v7])), (h1, .inr (4, [.ref h2, v8, v9])), (h2, .inl (a0, 2, .inl f0)), (h3, .inr (0, [.ref h8, .ref h5, .int 2, v10, v11, v12, v13])), (h4, .inl (a1, 48, .inr (.inr (.inr (.inr f1))))), (h5, .inl (a2, 48, .inl f2)), (h6, .inr (4, [.ref h7, v14, v15])), (h7, .inl (a3, 2, .inl f3)), (h8, .inl (a4, 48, .inl f4)), (h9, .inl (a5, 48, .inr (.inl f5))), (h10, .inl (a6, 48, .inl f6)), (h11, .inr (4, [.ref h12, v16, v17])), (h12, .inl (a7, 2, .inl f7))] (ev (fun _ : Unit => True) (fun _ => [(h0, .inr (1, [.ref h3, .ref h4, .ref h9, .ref h10, v0, .int 0, .ref h1, v2, v3, v4, v5, v6, v7])), (h1, .inr (4, [.ref h2, .int 0, .int 0])), (h2, .inl (a0, 2, .inl (upd (upd (upd (upd (upd (upd f0 0 0) 1 0) 0 0) 1 0) 0 0) 1 0))), (h3, .inr (0, [.ref h8, .ref h5, .int 2, v10, v11, v12, v13])), (h4, .inl (a1, 48, .inr (.inr (.inr (.inr f1))))), (h5, .inl (a2, 48, .inl f2)), (h6, .inr (4, [.ref h7, .int 0, .int 0])), (h7, .inl (a3, 2, .inl (upd (upd f3 0 0) 1 0))), (h8, .inl (a4, 48, .inl f4)), (h9, .inl (a5, 48, .inr (.inl (vp_updL (vp_updL f5 0 1) 1 1)))), (h10, .inl (a6, 48, .inl (upd (upd f6 0 (-1)) 1 (-1)))), (h11, .inr (4, [.ref h12, .int 0, .int 0])), (h12, .inl (a7, 2, .inl (upd (upd f7 0 0) 1 0)))]) (fun u => [(a0, .int), (a1, .object "LiftingSignal$Whole"), (a2, .int), (a3, .int), (a4, .int), (a5, .long), (a6, .int), (a7, .int)]) D) 0 0 := by
  refine CT.ofW (by decide +kernel) (Nat.le_of_ble_eq_true rfl) ?_
  intro p e s m below meth c A ls hcs hP hK hD hX hA hS hl
  obtain ⟨hx, hb, hr, hml, hown, hg, hlocks, hin⟩ := hcs
  have hown : s.vm.findClass RX1 = some m.cls := hown
  have hl : lv_has ls 2 [(0, .ref h0)] := hl
  refine lv_aload_n hx hb dX1_begin_0 rfl (lv_at hl 0 rfl) ?_
  refine va_get (D := D) (ci := 1) (v := .ref h1) (C := RX1) (T := TX1) (N := 13) hx hb hg inX1 hown hK hP 0 rfl rfl 6 (by decide) (hg _ k289) (fun _ h9 => h9) rfl dX1_begin_1 ?_
  refine lv_lconst (v := 0) hx hb dX1_begin_4 (by decide) ?_
  refine cVv (n := 1) (As := [.long 0]) (rest := []) (wr := [(h0, .inr (1, [.ref h3, .ref h4, .ref h9, .ref h10, v0, v1, .ref h1, v2, v3, v4, v5, v6, v7])), (h3, .inr (0, [.ref h8, .ref h5, .int 2, v10, v11, v12, v13])), (h4, .inl (a1, 48, .inr (.inr (.inr (.inr f1))))), (h5, .inl (a2, 48, .inl f2)), (h6, .inr (4, [.ref h7, v14, v15])), (h7, .inl (a3, 2, .inl f3)), (h8, .inl (a4, 48, .inl f4)), (h9, .inl (a5, 48, .inr (.inl f5))), (h10, .inl (a6, 48, .inl f6)), (h11, .inr (4, [.ref h12, v16, v17])), (h12, .inl (a7, 2, .inl f7))]) (tr := [(a1, .object "LiftingSignal$Whole"), (a2, .int), (a3, .int), (a4, .int), (a5, .long), (a6, .int), (a7, .int)]) hx hb hml hown hg okN (cX4_become_391 l D h1 h2 v8 v9 f0 a0) (mwV k274 k275 k276 k88 k277) ⟨rfl, by decide, by decide, by decide +kernel⟩ ⟨rfl, rfl, (Nat.le_of_ble_eq_true rfl), (Nat.le_of_ble_eq_true rfl)⟩ hP hD hK hS xn [1, 2] [1, 2] [0, 3, 4, 5, 6, 7, 8, 9, 10, 11, 12] [0] [1, 2, 3, 4, 5, 6, 7] rfl (by decide) rfl rfl (by decide) (by decide) rfl rfl (va_free hD hS hA [1, 2] rfl) (va_free hD hS hA [1, 2] rfl) 1 rfl rfl rfl hl.1 rfl (Nat.le_of_ble_eq_true rfl) dX1_begin_5 ⟨(Nat.le_of_ble_eq_true rfl), (Nat.le_of_ble_eq_true rfl)⟩ (fun u H locs hφ hP hD hK hS hk => ?_)
  have hP : va_P D vwCl [(h0, .inr (1, [.ref h3, .ref h4, .ref h9, .ref h10, v0, v1, .ref h1, v2, v3, v4, v5, v6, v7])), (h3, .inr (0, [.ref h8, .ref h5, .int 2, v10, v11, v12, v13])), (h4, .inl (a1, 48, .inr (.inr (.inr (.inr f1))))), (h5, .inl (a2, 48, .inl f2)), (h6, .inr (4, [.ref h7, v14, v15])), (h7, .inl (a3, 2, .inl f3)), (h8, .inl (a4, 48, .inl f4)), (h9, .inl (a5, 48, .inr (.inl f5))), (h10, .inl (a6, 48, .inl f6)), (h11, .inr (4, [.ref h12, v16, v17])), (h12, .inl (a7, 2, .inl f7)), (h1, .inr (4, [.ref h2, .int 0, .int 0])), (h2, .inl (a0, 2, .inl (upd (upd f0 0 0) 1 0)))] H := hP
  have hD : va_D A [(h0, .inr (1, [.ref h3, .ref h4, .ref h9, .ref h10, v0, v1, .ref h1, v2, v3, v4, v5, v6, v7])), (h3, .inr (0, [.ref h8, .ref h5, .int 2, v10, v11, v12, v13])), (h4, .inl (a1, 48, .inr (.inr (.inr (.inr f1))))), (h5, .inl (a2, 48, .inl f2)), (h6, .inr (4, [.ref h7, v14, v15])), (h7, .inl (a3, 2, .inl f3)), (h8, .inl (a4, 48, .inl f4)), (h9, .inl (a5, 48, .inr (.inl f5))), (h10, .inl (a6, 48, .inl f6)), (h11, .inr (4, [.ref h12, v16, v17])), (h12, .inl (a7, 2, .inl f7)), (h1, .inr (4, [.ref h2, .int 0, .int 0])), (h2, .inl (a0, 2, .inl (upd (upd f0 0 0) 1 0)))] := hD
  have hK : va_K D vwCl [(a1, .object "LiftingSignal$Whole"), (a2, .int), (a3, .int), (a4, .int), (a5, .long), (a6, .int), (a7, .int), (a0, .int)] s := hK
  refine W.widen (k := 0) (n := 0) (Nat.le_of_ble_eq_true rfl) (Nat.le_of_ble_eq_true rfl) ?_
  refine lv_iconst (v := 0) hx hb dX1_begin_8 (by decide) ?_
  refine lv_istore_n (lv' := [(1, .int 0), (0, .ref h0)]) hx hb dX1_begin_9 rfl hl (by decide) rfl (fun ls hl => ?_)
  refine lv_iload_n hx hb dX1_begin_10 rfl (lv_at hl 0 rfl) ?_
  refine lv_aload_n hx hb dX1_begin_11 rfl (lv_at hl 1 rfl) ?_
  refine va_get (D := D) (ci := 1) (v := .ref h3) (C := RX1) (T := TX1) (N := 13) hx hb hg inX1 hown hK hP 0 rfl rfl 0 (by decide) (hg _ k278) (fun _ h9 => h9) rfl dX1_begin_12 ?_
  refine va_get (D := D) (ci := 0) (v := .int 2) (C := RX0) (T := TX0) (N := 7) hx hb hg inX0 hown hK hP 1 rfl rfl 2 (by decide) (hg _ k162) (fun _ h9 => h9) rfl dX1_begin_15 ?_
  refine lv_icmp_ge (tgt := 87) hx hb dX1_begin_18 (by decide) (fun c9 => absurd c9 (by decide)) (fun _ => ?_)
  refine lv_aload_n hx hb dX1_begin_21 rfl (lv_at hl 1 rfl) ?_
  refine va_get (D := D) (ci := 1) (v := .ref h4) (C := RX1) (T := TX1) (N := 13) hx hb hg inX1 hown hK hP 0 rfl rfl 1 (by decide) (hg _ k279) (fun _ h9 => h9) rfl dX1_begin_22 ?_
  refine lv_iload_n hx hb dX1_begin_25 rfl (lv_at hl 0 rfl) ?_
  refine aldQ hx hb hK hP 2 0 rfl rfl 0 (by decide) (vin (by decide)) (v := h6) ef1_0 dX1_begin_26 ?_
  refine lv_aload_n hx hb dX1_begin_27 rfl (lv_at hl 1 rfl) ?_
  refine va_get (D := D) (ci := 1) (v := .ref h3) (C := RX1) (T := TX1) (N := 13) hx hb hg inX1 hown hK hP 0 rfl rfl 0 (by decide) (hg _ k278) (fun _ h9 => h9) rfl dX1_begin_28 ?_
  refine va_get (D := D) (ci := 0) (v := .ref h5) (C := RX0) (T := TX0) (N := 7) hx hb hg inX0 hown hK hP 1 rfl rfl 1 (by decide) (hg _ k159) (fun _ h9 => h9) rfl dX1_begin_31 ?_
  refine lv_iload_n hx hb dX1_begin_34 rfl (lv_at hl 0 rfl) ?_
  refine aldI hx hb hK hP 3 1 rfl rfl 0 (by decide) (vin (by decide)) (v := 0) ef2_0 dX1_begin_35 ?_
  refine lv_i2l (v := 0) hx hb dX1_begin_36 (by decide) ?_
  refine cVv (n := 1) (As := [.long 0]) (rest := []) (wr := [(h0, .inr (1, [.ref h3, .ref h4, .ref h9, .ref h10, v0, v1, .ref h1, v2, v3, v4, v5, v6, v7])), (h3, .inr (0, [.ref h8, .ref h5, .int 2, v10, v11, v12, v13])), (h4, .inl (a1, 48, .inr (.inr (.inr (.inr f1))))), (h5, .inl (a2, 48, .inl f2)), (h8, .inl (a4, 48, .inl f4)), (h9, .inl (a5, 48, .inr (.inl f5))), (h10, .inl (a6, 48, .inl f6)), (h11, .inr (4, [.ref h12, v16, v17])), (h12, .inl (a7, 2, .inl f7)), (h1, .inr (4, [.ref h2, .int 0, .int 0])), (h2, .inl (a0, 2, .inl (upd (upd f0 0 0) 1 0)))]) (tr := [(a1, .object "LiftingSignal$Whole"), (a2, .int), (a4, .int), (a5, .long), (a6, .int), (a7, .int), (a0, .int)]) hx hb hml hown hg okN (cX4_become_391 l D h6 h7 v14 v15 f3 a3) (mwV k274 k275 k276 k88 k277) ⟨rfl, by decide, by decide, by decide +kernel⟩ ⟨rfl, rfl, (Nat.le_of_ble_eq_true rfl), (Nat.le_of_ble_eq_true rfl)⟩ hP hD hK hS xn [4, 5] [4, 5] [0, 1, 2, 3, 6, 7, 8, 9, 10, 11, 12] [2] [0, 1, 3, 4, 5, 6, 7] rfl (by decide) rfl rfl (by decide) (by decide) rfl rfl (va_free hD hS hA [4, 5] rfl) (va_free hD hS hA [4, 5] rfl) 4 rfl rfl rfl hl.1 rfl (Nat.le_of_ble_eq_true rfl) dX1_begin_37 ⟨(Nat.le_of_ble_eq_true rfl), (Nat.le_of_ble_eq_true rfl)⟩ (fun u H locs hφ hP hD hK hS hk => ?_)
  have hP : va_P D vwCl [(h0, .inr (1, [.ref h3, .ref h4, .ref h9, .ref h10, v0, v1, .ref h1, v2, v3, v4, v5, v6, v7])), (h3, .inr (0, [.ref h8, .ref h5, .int 2, v10, v11, v12, v13])), (h4, .inl (a1, 48, .inr (.inr (.inr (.inr f1))))), (h5, .inl (a2, 48, .inl f2)), (h8, .inl (a4, 48, .inl f4)), (h9, .inl (a5, 48, .inr (.inl f5))), (h10, .inl (a6, 48, .inl f6)), (h11, .inr (4, [.ref h12, v16, v17])), (h12, .inl (a7, 2, .inl f7)), (h1, .inr (4, [.ref h2, .int 0, .int 0])), (h2, .inl (a0, 2, .inl (upd (upd f0 0 0) 1 0))), (h6, .inr (4, [.ref h7, .int 0, .int 0])), (h7, .inl (a3, 2, .inl (upd (upd f3 0 0) 1 0)))] H := hP
  have hD : va_D A [(h0, .inr (1, [.ref h3, .ref h4, .ref h9, .ref h10, v0, v1, .ref h1, v2, v3, v4, v5, v6, v7])), (h3, .inr (0, [.ref h8, .ref h5, .int 2, v10, v11, v12, v13])), (h4, .inl (a1, 48, .inr (.inr (.inr (.inr f1))))), (h5, .inl (a2, 48, .inl f2)), (h8, .inl (a4, 48, .inl f4)), (h9, .inl (a5, 48, .inr (.inl f5))), (h10, .inl (a6, 48, .inl f6)), (h11, .inr (4, [.ref h12, v16, v17])), (h12, .inl (a7, 2, .inl f7)), (h1, .inr (4, [.ref h2, .int 0, .int 0])), (h2, .inl (a0, 2, .inl (upd (upd f0 0 0) 1 0))), (h6, .inr (4, [.ref h7, .int 0, .int 0])), (h7, .inl (a3, 2, .inl (upd (upd f3 0 0) 1 0)))] := hD
  have hK : va_K D vwCl [(a1, .object "LiftingSignal$Whole"), (a2, .int), (a4, .int), (a5, .long), (a6, .int), (a7, .int), (a0, .int), (a3, .int)] s := hK
  refine W.widen (k := 0) (n := 0) (Nat.le_of_ble_eq_true rfl) (Nat.le_of_ble_eq_true rfl) ?_
  refine lv_aload_n hx hb dX1_begin_40 rfl (lv_at hl 1 rfl) ?_
  refine va_get (D := D) (ci := 1) (v := .ref h9) (C := RX1) (T := TX1) (N := 13) hx hb hg inX1 hown hK hP 0 rfl rfl 2 (by decide) (hg _ k281) (fun _ h9 => h9) rfl dX1_begin_41 ?_
  refine lv_iload_n hx hb dX1_begin_44 rfl (lv_at hl 0 rfl) ?_
  refine lv_aload_n hx hb dX1_begin_45 rfl (lv_at hl 1 rfl) ?_
  refine va_get (D := D) (ci := 1) (v := .ref h3) (C := RX1) (T := TX1) (N := 13) hx hb hg inX1 hown hK hP 0 rfl rfl 0 (by decide) (hg _ k278) (fun _ h9 => h9) rfl dX1_begin_46 ?_
  refine lv_iload_n hx hb dX1_begin_49 rfl (lv_at hl 0 rfl) ?_
  refine cVi (n := 1) (As := [.int 0]) (rest := [.int 0, .ref h9]) (wr := [(h0, .inr (1, [.ref h3, .ref h4, .ref h9, .ref h10, v0, v1, .ref h1, v2, v3, v4, v5, v6, v7])), (h3, .inr (0, [.ref h8, .ref h5, .int 2, v10, v11, v12, v13])), (h4, .inl (a1, 48, .inr (.inr (.inr (.inr f1))))), (h5, .inl (a2, 48, .inl f2)), (h8, .inl (a4, 48, .inl f4)), (h9, .inl (a5, 48, .inr (.inl f5))), (h10, .inl (a6, 48, .inl f6)), (h11, .inr (4, [.ref h12, v16, v17])), (h12, .inl (a7, 2, .inl f7)), (h1, .inr (4, [.ref h2, .int 0, .int 0])), (h2, .inl (a0, 2, .inl (upd (upd f0 0 0) 1 0))), (h6, .inr (4, [.ref h7, .int 0, .int 0])), (h7, .inl (a3, 2, .inl (upd (upd f3 0 0) 1 0)))]) (tr := [(a1, .object "LiftingSignal$Whole"), (a2, .int), (a4, .int), (a5, .long), (a6, .int), (a7, .int), (a0, .int), (a3, .int)]) hx hb hml hown hg okN (cX0_firstWeight_465 l D h3 h8 (.ref h5) v10 v11 v12 v13 f4 a4 ef4_0 ef4_1) (mwV k336 k337 k338 k86 k339) ⟨rfl, by decide, by decide, by decide +kernel⟩ ⟨rfl, rfl, (Nat.le_of_ble_eq_true rfl), (Nat.le_of_ble_eq_true rfl)⟩ hP hD hK hS xn [1, 4] [] [0, 1, 2, 3, 4, 5, 6, 7, 8, 9, 10, 11, 12] [2] [0, 1, 2, 3, 4, 5, 6, 7] rfl (by decide) rfl rfl (by decide) (by decide) rfl rfl (aNil hA hS) (aNil hA hS) 1 rfl rfl rfl hl.1 rfl (Nat.le_of_ble_eq_true rfl) dX1_begin_50 ⟨(Nat.le_of_ble_eq_true rfl), (Nat.le_of_ble_eq_true rfl)⟩ (fun u H locs hφ hP hD hK hS hk => ?_)
  have hP : va_P D vwCl [(h0, .inr (1, [.ref h3, .ref h4, .ref h9, .ref h10, v0, v1, .ref h1, v2, v3, v4, v5, v6, v7])), (h3, .inr (0, [.ref h8, .ref h5, .int 2, v10, v11, v12, v13])), (h4, .inl (a1, 48, .inr (.inr (.inr (.inr f1))))), (h5, .inl (a2, 48, .inl f2)), (h8, .inl (a4, 48, .inl f4)), (h9, .inl (a5, 48, .inr (.inl f5))), (h10, .inl (a6, 48, .inl f6)), (h11, .inr (4, [.ref h12, v16, v17])), (h12, .inl (a7, 2, .inl f7)), (h1, .inr (4, [.ref h2, .int 0, .int 0])), (h2, .inl (a0, 2, .inl (upd (upd f0 0 0) 1 0))), (h6, .inr (4, [.ref h7, .int 0, .int 0])), (h7, .inl (a3, 2, .inl (upd (upd f3 0 0) 1 0)))] H := hP
  have hD : va_D A [(h0, .inr (1, [.ref h3, .ref h4, .ref h9, .ref h10, v0, v1, .ref h1, v2, v3, v4, v5, v6, v7])), (h3, .inr (0, [.ref h8, .ref h5, .int 2, v10, v11, v12, v13])), (h4, .inl (a1, 48, .inr (.inr (.inr (.inr f1))))), (h5, .inl (a2, 48, .inl f2)), (h8, .inl (a4, 48, .inl f4)), (h9, .inl (a5, 48, .inr (.inl f5))), (h10, .inl (a6, 48, .inl f6)), (h11, .inr (4, [.ref h12, v16, v17])), (h12, .inl (a7, 2, .inl f7)), (h1, .inr (4, [.ref h2, .int 0, .int 0])), (h2, .inl (a0, 2, .inl (upd (upd f0 0 0) 1 0))), (h6, .inr (4, [.ref h7, .int 0, .int 0])), (h7, .inl (a3, 2, .inl (upd (upd f3 0 0) 1 0)))] := hD
  have hK : va_K D vwCl [(a1, .object "LiftingSignal$Whole"), (a2, .int), (a4, .int), (a5, .long), (a6, .int), (a7, .int), (a0, .int), (a3, .int)] s := hK
  refine W.widen (k := 0) (n := 0) (Nat.le_of_ble_eq_true rfl) (Nat.le_of_ble_eq_true rfl) ?_
  refine lv_i2l (v := 1) hx hb dX1_begin_53 (by decide) ?_
  refine astL hx hb hK hP hD hS 5 3 rfl rfl 0 (by decide) (vin (by decide)) dX1_begin_54 (fun H locs hP hD hS => ?_)
  have hP : va_P D vwCl [(h0, .inr (1, [.ref h3, .ref h4, .ref h9, .ref h10, v0, v1, .ref h1, v2, v3, v4, v5, v6, v7])), (h3, .inr (0, [.ref h8, .ref h5, .int 2, v10, v11, v12, v13])), (h4, .inl (a1, 48, .inr (.inr (.inr (.inr f1))))), (h5, .inl (a2, 48, .inl f2)), (h8, .inl (a4, 48, .inl f4)), (h9, .inl (a5, 48, .inr (.inl (vp_updL f5 0 1)))), (h10, .inl (a6, 48, .inl f6)), (h11, .inr (4, [.ref h12, v16, v17])), (h12, .inl (a7, 2, .inl f7)), (h1, .inr (4, [.ref h2, .int 0, .int 0])), (h2, .inl (a0, 2, .inl (upd (upd f0 0 0) 1 0))), (h6, .inr (4, [.ref h7, .int 0, .int 0])), (h7, .inl (a3, 2, .inl (upd (upd f3 0 0) 1 0)))] H := hP
  have hD : va_D A [(h0, .inr (1, [.ref h3, .ref h4, .ref h9, .ref h10, v0, v1, .ref h1, v2, v3, v4, v5, v6, v7])), (h3, .inr (0, [.ref h8, .ref h5, .int 2, v10, v11, v12, v13])), (h4, .inl (a1, 48, .inr (.inr (.inr (.inr f1))))), (h5, .inl (a2, 48, .inl f2)), (h8, .inl (a4, 48, .inl f4)), (h9, .inl (a5, 48, .inr (.inl (vp_updL f5 0 1)))), (h10, .inl (a6, 48, .inl f6)), (h11, .inr (4, [.ref h12, v16, v17])), (h12, .inl (a7, 2, .inl f7)), (h1, .inr (4, [.ref h2, .int 0, .int 0])), (h2, .inl (a0, 2, .inl (upd (upd f0 0 0) 1 0))), (h6, .inr (4, [.ref h7, .int 0, .int 0])), (h7, .inl (a3, 2, .inl (upd (upd f3 0 0) 1 0)))] := hD
  refine lv_aload_n hx hb dX1_begin_55 rfl (lv_at hl 1 rfl) ?_
  refine va_get (D := D) (ci := 1) (v := .ref h10) (C := RX1) (T := TX1) (N := 13) hx hb hg inX1 hown hK hP 0 rfl rfl 3 (by decide) (hg _ k283) (fun _ h9 => h9) rfl dX1_begin_56 ?_
  refine lv_iload_n hx hb dX1_begin_59 rfl (lv_at hl 0 rfl) ?_
  refine lv_iconst (v := (-1)) hx hb dX1_begin_60 (by decide) ?_
  refine astI hx hb hK hP hD hS 6 4 rfl rfl 0 (by decide) (vin (by decide)) dX1_begin_61 (fun H locs hP hD hS => ?_)
  have hP : va_P D vwCl [(h0, .inr (1, [.ref h3, .ref h4, .ref h9, .ref h10, v0, v1, .ref h1, v2, v3, v4, v5, v6, v7])), (h3, .inr (0, [.ref h8, .ref h5, .int 2, v10, v11, v12, v13])), (h4, .inl (a1, 48, .inr (.inr (.inr (.inr f1))))), (h5, .inl (a2, 48, .inl f2)), (h8, .inl (a4, 48, .inl f4)), (h9, .inl (a5, 48, .inr (.inl (vp_updL f5 0 1)))), (h10, .inl (a6, 48, .inl (upd f6 0 (-1)))), (h11, .inr (4, [.ref h12, v16, v17])), (h12, .inl (a7, 2, .inl f7)), (h1, .inr (4, [.ref h2, .int 0, .int 0])), (h2, .inl (a0, 2, .inl (upd (upd f0 0 0) 1 0))), (h6, .inr (4, [.ref h7, .int 0, .int 0])), (h7, .inl (a3, 2, .inl (upd (upd f3 0 0) 1 0)))] H := hP
  have hD : va_D A [(h0, .inr (1, [.ref h3, .ref h4, .ref h9, .ref h10, v0, v1, .ref h1, v2, v3, v4, v5, v6, v7])), (h3, .inr (0, [.ref h8, .ref h5, .int 2, v10, v11, v12, v13])), (h4, .inl (a1, 48, .inr (.inr (.inr (.inr f1))))), (h5, .inl (a2, 48, .inl f2)), (h8, .inl (a4, 48, .inl f4)), (h9, .inl (a5, 48, .inr (.inl (vp_updL f5 0 1)))), (h10, .inl (a6, 48, .inl (upd f6 0 (-1)))), (h11, .inr (4, [.ref h12, v16, v17])), (h12, .inl (a7, 2, .inl f7)), (h1, .inr (4, [.ref h2, .int 0, .int 0])), (h2, .inl (a0, 2, .inl (upd (upd f0 0 0) 1 0))), (h6, .inr (4, [.ref h7, .int 0, .int 0])), (h7, .inl (a3, 2, .inl (upd (upd f3 0 0) 1 0)))] := hD
  refine lv_aload_n hx hb dX1_begin_62 rfl (lv_at hl 1 rfl) ?_
  refine va_get (D := D) (ci := 1) (v := .ref h1) (C := RX1) (T := TX1) (N := 13) hx hb hg inX1 hown hK hP 0 rfl rfl 6 (by decide) (hg _ k289) (fun _ h9 => h9) rfl dX1_begin_63 ?_
  refine lv_aload_n hx hb dX1_begin_66 rfl (lv_at hl 1 rfl) ?_
  refine va_get (D := D) (ci := 1) (v := .ref h4) (C := RX1) (T := TX1) (N := 13) hx hb hg inX1 hown hK hP 0 rfl rfl 1 (by decide) (hg _ k279) (fun _ h9 => h9) rfl dX1_begin_67 ?_
  refine lv_iload_n hx hb dX1_begin_70 rfl (lv_at hl 0 rfl) ?_
  refine aldQ hx hb hK hP 2 0 rfl rfl 0 (by decide) (vin (by decide)) (v := h6) ef1_0 dX1_begin_71 ?_
  refine lv_aload_n hx hb dX1_begin_72 rfl (lv_at hl 1 rfl) ?_
  refine va_get (D := D) (ci := 1) (v := .ref h9) (C := RX1) (T := TX1) (N := 13) hx hb hg inX1 hown hK hP 0 rfl rfl 2 (by decide) (hg _ k281) (fun _ h9 => h9) rfl dX1_begin_73 ?_
  refine lv_iload_n hx hb dX1_begin_76 rfl (lv_at hl 0 rfl) ?_
  refine aldL hx hb hK hP 5 3 rfl rfl 0 (by decide) (vin (by decide)) (v := 1) rfl dX1_begin_77 ?_
  refine cVv (n := 2) (As := [.ref h6, .long 1]) (rest := []) (wr := [(h0, .inr (1, [.ref h3, .ref h4, .ref h9, .ref h10, v0, v1, .ref h1, v2, v3, v4, v5, v6, v7])), (h3, .inr (0, [.ref h8, .ref h5, .int 2, v10, v11, v12, v13])), (h4, .inl (a1, 48, .inr (.inr (.inr (.inr f1))))), (h5, .inl (a2, 48, .inl f2)), (h8, .inl (a4, 48, .inl f4)), (h9, .inl (a5, 48, .inr (.inl (vp_updL f5 0 1)))), (h10, .inl (a6, 48, .inl (upd f6 0 (-1)))), (h11, .inr (4, [.ref h12, v16, v17])), (h12, .inl (a7, 2, .inl f7))]) (tr := [(a1, .object "LiftingSignal$Whole"), (a2, .int), (a4, .int), (a5, .long), (a6, .int), (a7, .int)]) hx hb hml hown hg okN (cX4_add_394 l D h1 h6 h2 h7 (upd (upd f0 0 0) 1 0) (upd (upd f3 0 0) 1 0) a0 a3 rfl rfl) (mwV k340 k341 k342 k88 k343) ⟨rfl, by decide, by decide, by decide +kernel⟩ ⟨rfl, rfl, (Nat.le_of_ble_eq_true rfl), (Nat.le_of_ble_eq_true rfl)⟩ hP hD hK hS xn [9, 11, 10, 12] [9, 11, 10, 12] [0, 1, 2, 3, 4, 5, 6, 7, 8] [6, 7] [0, 1, 2, 3, 4, 5] rfl (by decide) rfl rfl (by decide) (by decide) rfl rfl (va_free hD hS hA [9, 11, 10, 12] rfl) (va_free hD hS hA [9, 11, 10, 12] rfl) 9 rfl rfl rfl hl.1 rfl (Nat.le_of_ble_eq_true rfl) dX1_begin_78 ⟨(Nat.le_of_ble_eq_true rfl), (Nat.le_of_ble_eq_true rfl)⟩ (fun u H locs hφ hP hD hK hS hk => ?_)
  have hP : va_P D vwCl [(h0, .inr (1, [.ref h3, .ref h4, .ref h9, .ref h10, v0, v1, .ref h1, v2, v3, v4, v5, v6, v7])), (h3, .inr (0, [.ref h8, .ref h5, .int 2, v10, v11, v12, v13])), (h4, .inl (a1, 48, .inr (.inr (.inr (.inr f1))))), (h5, .inl (a2, 48, .inl f2)), (h8, .inl (a4, 48, .inl f4)), (h9, .inl (a5, 48, .inr (.inl (vp_updL f5 0 1)))), (h10, .inl (a6, 48, .inl (upd f6 0 (-1)))), (h11, .inr (4, [.ref h12, v16, v17])), (h12, .inl (a7, 2, .inl f7)), (h1, .inr (4, [.ref h2, .int 0, .int 0])), (h6, .inr (4, [.ref h7, .int 0, .int 0])), (h2, .inl (a0, 2, .inl (upd (upd (upd (upd f0 0 0) 1 0) 0 0) 1 0))), (h7, .inl (a3, 2, .inl (upd (upd f3 0 0) 1 0)))] H := hP
  have hD : va_D A [(h0, .inr (1, [.ref h3, .ref h4, .ref h9, .ref h10, v0, v1, .ref h1, v2, v3, v4, v5, v6, v7])), (h3, .inr (0, [.ref h8, .ref h5, .int 2, v10, v11, v12, v13])), (h4, .inl (a1, 48, .inr (.inr (.inr (.inr f1))))), (h5, .inl (a2, 48, .inl f2)), (h8, .inl (a4, 48, .inl f4)), (h9, .inl (a5, 48, .inr (.inl (vp_updL f5 0 1)))), (h10, .inl (a6, 48, .inl (upd f6 0 (-1)))), (h11, .inr (4, [.ref h12, v16, v17])), (h12, .inl (a7, 2, .inl f7)), (h1, .inr (4, [.ref h2, .int 0, .int 0])), (h6, .inr (4, [.ref h7, .int 0, .int 0])), (h2, .inl (a0, 2, .inl (upd (upd (upd (upd f0 0 0) 1 0) 0 0) 1 0))), (h7, .inl (a3, 2, .inl (upd (upd f3 0 0) 1 0)))] := hD
  have hK : va_K D vwCl [(a1, .object "LiftingSignal$Whole"), (a2, .int), (a4, .int), (a5, .long), (a6, .int), (a7, .int), (a0, .int), (a3, .int)] s := hK
  refine W.widen (k := 0) (n := 0) (Nat.le_of_ble_eq_true rfl) (Nat.le_of_ble_eq_true rfl) ?_
  refine lv_iinc (v := 1) (lv' := [(1, .int 1), (0, .ref h0)]) hx hb dX1_begin_81 hl (k := 0) rfl (by decide) (by decide) rfl (fun ls hl => ?_)
  refine lv_goto (tgt := 10) hx hb dX1_begin_84 (by decide) ?_
  refine lv_iload_n hx hb dX1_begin_10 rfl (lv_at hl 0 rfl) ?_
  refine lv_aload_n hx hb dX1_begin_11 rfl (lv_at hl 1 rfl) ?_
  refine va_get (D := D) (ci := 1) (v := .ref h3) (C := RX1) (T := TX1) (N := 13) hx hb hg inX1 hown hK hP 0 rfl rfl 0 (by decide) (hg _ k278) (fun _ h9 => h9) rfl dX1_begin_12 ?_
  refine va_get (D := D) (ci := 0) (v := .int 2) (C := RX0) (T := TX0) (N := 7) hx hb hg inX0 hown hK hP 1 rfl rfl 2 (by decide) (hg _ k162) (fun _ h9 => h9) rfl dX1_begin_15 ?_
  refine lv_icmp_ge (tgt := 87) hx hb dX1_begin_18 (by decide) (fun c9 => absurd c9 (by decide)) (fun _ => ?_)
  refine lv_aload_n hx hb dX1_begin_21 rfl (lv_at hl 1 rfl) ?_
  refine va_get (D := D) (ci := 1) (v := .ref h4) (C := RX1) (T := TX1) (N := 13) hx hb hg inX1 hown hK hP 0 rfl rfl 1 (by decide) (hg _ k279) (fun _ h9 => h9) rfl dX1_begin_22 ?_
  refine lv_iload_n hx hb dX1_begin_25 rfl (lv_at hl 0 rfl) ?_
  refine aldQ hx hb hK hP 2 0 rfl rfl 1 (by decide) (vin (by decide)) (v := h11) ef1_1 dX1_begin_26 ?_
  refine lv_aload_n hx hb dX1_begin_27 rfl (lv_at hl 1 rfl) ?_
  refine va_get (D := D) (ci := 1) (v := .ref h3) (C := RX1) (T := TX1) (N := 13) hx hb hg inX1 hown hK hP 0 rfl rfl 0 (by decide) (hg _ k278) (fun _ h9 => h9) rfl dX1_begin_28 ?_
  refine va_get (D := D) (ci := 0) (v := .ref h5) (C := RX0) (T := TX0) (N := 7) hx hb hg inX0 hown hK hP 1 rfl rfl 1 (by decide) (hg _ k159) (fun _ h9 => h9) rfl dX1_begin_31 ?_
  refine lv_iload_n hx hb dX1_begin_34 rfl (lv_at hl 0 rfl) ?_
  refine aldI hx hb hK hP 3 1 rfl rfl 1 (by decide) (vin (by decide)) (v := 0) ef2_1 dX1_begin_35 ?_
  refine lv_i2l (v := 0) hx hb dX1_begin_36 (by decide) ?_
  refine cVv (n := 1) (As := [.long 0]) (rest := []) (wr := [(h0, .inr (1, [.ref h3, .ref h4, .ref h9, .ref h10, v0, v1, .ref h1, v2, v3, v4, v5, v6, v7])), (h3, .inr (0, [.ref h8, .ref h5, .int 2, v10, v11, v12, v13])), (h4, .inl (a1, 48, .inr (.inr (.inr (.inr f1))))), (h5, .inl (a2, 48, .inl f2)), (h8, .inl (a4, 48, .inl f4)), (h9, .inl (a5, 48, .inr (.inl (vp_updL f5 0 1)))), (h10, .inl (a6, 48, .inl (upd f6 0 (-1)))), (h1, .inr (4, [.ref h2, .int 0, .int 0])), (h6, .inr (4, [.ref h7, .int 0, .int 0])), (h2, .inl (a0, 2, .inl (upd (upd (upd (upd f0 0 0) 1 0) 0 0) 1 0))), (h7, .inl (a3, 2, .inl (upd (upd f3 0 0) 1 0)))]) (tr := [(a1, .object "LiftingSignal$Whole"), (a2, .int), (a4, .int), (a5, .long), (a6, .int), (a0, .int), (a3, .int)]) hx hb hml hown hg okN (cX4_become_391 l D h11 h12 v16 v17 f7 a7) (mwV k274 k275 k276 k88 k277) ⟨rfl, by decide, by decide, by decide +kernel⟩ ⟨rfl, rfl, (Nat.le_of_ble_eq_true rfl), (Nat.le_of_ble_eq_true rfl)⟩ hP hD hK hS xn [7, 8] [7, 8] [0, 1, 2, 3, 4, 5, 6, 9, 10, 11, 12] [5] [0, 1, 2, 3, 4, 6, 7] rfl (by decide) rfl rfl (by decide) (by decide) rfl rfl (va_free hD hS hA [7, 8] rfl) (va_free hD hS hA [7, 8] rfl) 7 rfl rfl rfl hl.1 rfl (Nat.le_of_ble_eq_true rfl) dX1_begin_37 ⟨(Nat.le_of_ble_eq_true rfl), (Nat.le_of_ble_eq_true rfl)⟩ (fun u H locs hφ hP hD hK hS hk => ?_)
  have hP : va_P D vwCl [(h0, .inr (1, [.ref h3, .ref h4, .ref h9, .ref h10, v0, v1, .ref h1, v2, v3, v4, v5, v6, v7])), (h3, .inr (0, [.ref h8, .ref h5, .int 2, v10, v11, v12, v13])), (h4, .inl (a1, 48, .inr (.inr (.inr (.inr f1))))), (h5, .inl (a2, 48, .inl f2)), (h8, .inl (a4, 48, .inl f4)), (h9, .inl (a5, 48, .inr (.inl (vp_updL f5 0 1)))), (h10, .inl (a6, 48, .inl (upd f6 0 (-1)))), (h1, .inr (4, [.ref h2, .int 0, .int 0])), (h6, .inr (4, [.ref h7, .int 0, .int 0])), (h2, .inl (a0, 2, .inl (upd (upd (upd (upd f0 0 0) 1 0) 0 0) 1 0))), (h7, .inl (a3, 2, .inl (upd (upd f3 0 0) 1 0))), (h11, .inr (4, [.ref h12, .int 0, .int 0])), (h12, .inl (a7, 2, .inl (upd (upd f7 0 0) 1 0)))] H := hP
  have hD : va_D A [(h0, .inr (1, [.ref h3, .ref h4, .ref h9, .ref h10, v0, v1, .ref h1, v2, v3, v4, v5, v6, v7])), (h3, .inr (0, [.ref h8, .ref h5, .int 2, v10, v11, v12, v13])), (h4, .inl (a1, 48, .inr (.inr (.inr (.inr f1))))), (h5, .inl (a2, 48, .inl f2)), (h8, .inl (a4, 48, .inl f4)), (h9, .inl (a5, 48, .inr (.inl (vp_updL f5 0 1)))), (h10, .inl (a6, 48, .inl (upd f6 0 (-1)))), (h1, .inr (4, [.ref h2, .int 0, .int 0])), (h6, .inr (4, [.ref h7, .int 0, .int 0])), (h2, .inl (a0, 2, .inl (upd (upd (upd (upd f0 0 0) 1 0) 0 0) 1 0))), (h7, .inl (a3, 2, .inl (upd (upd f3 0 0) 1 0))), (h11, .inr (4, [.ref h12, .int 0, .int 0])), (h12, .inl (a7, 2, .inl (upd (upd f7 0 0) 1 0)))] := hD
  have hK : va_K D vwCl [(a1, .object "LiftingSignal$Whole"), (a2, .int), (a4, .int), (a5, .long), (a6, .int), (a0, .int), (a3, .int), (a7, .int)] s := hK
  refine W.widen (k := 0) (n := 0) (Nat.le_of_ble_eq_true rfl) (Nat.le_of_ble_eq_true rfl) ?_
  refine lv_aload_n hx hb dX1_begin_40 rfl (lv_at hl 1 rfl) ?_
  refine va_get (D := D) (ci := 1) (v := .ref h9) (C := RX1) (T := TX1) (N := 13) hx hb hg inX1 hown hK hP 0 rfl rfl 2 (by decide) (hg _ k281) (fun _ h9 => h9) rfl dX1_begin_41 ?_
  refine lv_iload_n hx hb dX1_begin_44 rfl (lv_at hl 0 rfl) ?_
  refine lv_aload_n hx hb dX1_begin_45 rfl (lv_at hl 1 rfl) ?_
  refine va_get (D := D) (ci := 1) (v := .ref h3) (C := RX1) (T := TX1) (N := 13) hx hb hg inX1 hown hK hP 0 rfl rfl 0 (by decide) (hg _ k278) (fun _ h9 => h9) rfl dX1_begin_46 ?_
  refine lv_iload_n hx hb dX1_begin_49 rfl (lv_at hl 0 rfl) ?_
  refine cVi (n := 1) (As := [.int 1]) (rest := [.int 1, .ref h9]) (wr := [(h0, .inr (1, [.ref h3, .ref h4, .ref h9, .ref h10, v0, v1, .ref h1, v2, v3, v4, v5, v6, v7])), (h3, .inr (0, [.ref h8, .ref h5, .int 2, v10, v11, v12, v13])), (h4, .inl (a1, 48, .inr (.inr (.inr (.inr f1))))), (h5, .inl (a2, 48, .inl f2)), (h8, .inl (a4, 48, .inl f4)), (h9, .inl (a5, 48, .inr (.inl (vp_updL f5 0 1)))), (h10, .inl (a6, 48, .inl (upd f6 0 (-1)))), (h1, .inr (4, [.ref h2, .int 0, .int 0])), (h6, .inr (4, [.ref h7, .int 0, .int 0])), (h2, .inl (a0, 2, .inl (upd (upd (upd (upd f0 0 0) 1 0) 0 0) 1 0))), (h7, .inl (a3, 2, .inl (upd (upd f3 0 0) 1 0))), (h11, .inr (4, [.ref h12, .int 0, .int 0])), (h12, .inl (a7, 2, .inl (upd (upd f7 0 0) 1 0)))]) (tr := [(a1, .object "LiftingSignal$Whole"), (a2, .int), (a4, .int), (a5, .long), (a6, .int), (a0, .int), (a3, .int), (a7, .int)]) hx hb hml hown hg okN (cX0_firstWeight_466 l D h3 h8 (.ref h5) v10 v11 v12 v13 f4 a4 ef4_0 ef4_1) (mwV k336 k337 k338 k86 k339) ⟨rfl, by decide, by decide, by decide +kernel⟩ ⟨rfl, rfl, (Nat.le_of_ble_eq_true rfl), (Nat.le_of_ble_eq_true rfl)⟩ hP hD hK hS xn [1, 4] [] [0, 1, 2, 3, 4, 5, 6, 7, 8, 9, 10, 11, 12] [2] [0, 1, 2, 3, 4, 5, 6, 7] rfl (by decide) rfl rfl (by decide) (by decide) rfl rfl (aNil hA hS) (aNil hA hS) 1 rfl rfl rfl hl.1 rfl (Nat.le_of_ble_eq_true rfl) dX1_begin_50 ⟨(Nat.le_of_ble_eq_true rfl), (Nat.le_of_ble_eq_true rfl)⟩ (fun u H locs hφ hP hD hK hS hk => ?_)
  have hP : va_P D vwCl [(h0, .inr (1, [.ref h3, .ref h4, .ref h9, .ref h10, v0, v1, .ref h1, v2, v3, v4, v5, v6, v7])), (h3, .inr (0, [.ref h8, .ref h5, .int 2, v10, v11, v12, v13])), (h4, .inl (a1, 48, .inr (.inr (.inr (.inr f1))))), (h5, .inl (a2, 48, .inl f2)), (h8, .inl (a4, 48, .inl f4)), (h9, .inl (a5, 48, .inr (.inl (vp_updL f5 0 1)))), (h10, .inl (a6, 48, .inl (upd f6 0 (-1)))), (h1, .inr (4, [.ref h2, .int 0, .int 0])), (h6, .inr (4, [.ref h7, .int 0, .int 0])), (h2, .inl (a0, 2, .inl (upd (upd (upd (upd f0 0 0) 1 0) 0 0) 1 0))), (h7, .inl (a3, 2, .inl (upd (upd f3 0 0) 1 0))), (h11, .inr (4, [.ref h12, .int 0, .int 0])), (h12, .inl (a7, 2, .inl (upd (upd f7 0 0) 1 0)))] H := hP
  have hD : va_D A [(h0, .inr (1, [.ref h3, .ref h4, .ref h9, .ref h10, v0, v1, .ref h1, v2, v3, v4, v5, v6, v7])), (h3, .inr (0, [.ref h8, .ref h5, .int 2, v10, v11, v12, v13])), (h4, .inl (a1, 48, .inr (.inr (.inr (.inr f1))))), (h5, .inl (a2, 48, .inl f2)), (h8, .inl (a4, 48, .inl f4)), (h9, .inl (a5, 48, .inr (.inl (vp_updL f5 0 1)))), (h10, .inl (a6, 48, .inl (upd f6 0 (-1)))), (h1, .inr (4, [.ref h2, .int 0, .int 0])), (h6, .inr (4, [.ref h7, .int 0, .int 0])), (h2, .inl (a0, 2, .inl (upd (upd (upd (upd f0 0 0) 1 0) 0 0) 1 0))), (h7, .inl (a3, 2, .inl (upd (upd f3 0 0) 1 0))), (h11, .inr (4, [.ref h12, .int 0, .int 0])), (h12, .inl (a7, 2, .inl (upd (upd f7 0 0) 1 0)))] := hD
  have hK : va_K D vwCl [(a1, .object "LiftingSignal$Whole"), (a2, .int), (a4, .int), (a5, .long), (a6, .int), (a0, .int), (a3, .int), (a7, .int)] s := hK
  refine W.widen (k := 0) (n := 0) (Nat.le_of_ble_eq_true rfl) (Nat.le_of_ble_eq_true rfl) ?_
  refine lv_i2l (v := 1) hx hb dX1_begin_53 (by decide) ?_
  refine astL hx hb hK hP hD hS 5 3 rfl rfl 1 (by decide) (vin (by decide)) dX1_begin_54 (fun H locs hP hD hS => ?_)
  have hP : va_P D vwCl [(h0, .inr (1, [.ref h3, .ref h4, .ref h9, .ref h10, v0, v1, .ref h1, v2, v3, v4, v5, v6, v7])), (h3, .inr (0, [.ref h8, .ref h5, .int 2, v10, v11, v12, v13])), (h4, .inl (a1, 48, .inr (.inr (.inr (.inr f1))))), (h5, .inl (a2, 48, .inl f2)), (h8, .inl (a4, 48, .inl f4)), (h9, .inl (a5, 48, .inr (.inl (vp_updL (vp_updL f5 0 1) 1 1)))), (h10, .inl (a6, 48, .inl (upd f6 0 (-1)))), (h1, .inr (4, [.ref h2, .int 0, .int 0])), (h6, .inr (4, [.ref h7, .int 0, .int 0])), (h2, .inl (a0, 2, .inl (upd (upd (upd (upd f0 0 0) 1 0) 0 0) 1 0))), (h7, .inl (a3, 2, .inl (upd (upd f3 0 0) 1 0))), (h11, .inr (4, [.ref h12, .int 0, .int 0])), (h12, .inl (a7, 2, .inl (upd (upd f7 0 0) 1 0)))] H := hP
  have hD : va_D A [(h0, .inr (1, [.ref h3, .ref h4, .ref h9, .ref h10, v0, v1, .ref h1, v2, v3, v4, v5, v6, v7])), (h3, .inr (0, [.ref h8, .ref h5, .int 2, v10, v11, v12, v13])), (h4, .inl (a1, 48, .inr (.inr (.inr (.inr f1))))), (h5, .inl (a2, 48, .inl f2)), (h8, .inl (a4, 48, .inl f4)), (h9, .inl (a5, 48, .inr (.inl (vp_updL (vp_updL f5 0 1) 1 1)))), (h10, .inl (a6, 48, .inl (upd f6 0 (-1)))), (h1, .inr (4, [.ref h2, .int 0, .int 0])), (h6, .inr (4, [.ref h7, .int 0, .int 0])), (h2, .inl (a0, 2, .inl (upd (upd (upd (upd f0 0 0) 1 0) 0 0) 1 0))), (h7, .inl (a3, 2, .inl (upd (upd f3 0 0) 1 0))), (h11, .inr (4, [.ref h12, .int 0, .int 0])), (h12, .inl (a7, 2, .inl (upd (upd f7 0 0) 1 0)))] := hD
  refine lv_aload_n hx hb dX1_begin_55 rfl (lv_at hl 1 rfl) ?_
  refine va_get (D := D) (ci := 1) (v := .ref h10) (C := RX1) (T := TX1) (N := 13) hx hb hg inX1 hown hK hP 0 rfl rfl 3 (by decide) (hg _ k283) (fun _ h9 => h9) rfl dX1_begin_56 ?_
  refine lv_iload_n hx hb dX1_begin_59 rfl (lv_at hl 0 rfl) ?_
  refine lv_iconst (v := (-1)) hx hb dX1_begin_60 (by decide) ?_
  refine astI hx hb hK hP hD hS 6 4 rfl rfl 1 (by decide) (vin (by decide)) dX1_begin_61 (fun H locs hP hD hS => ?_)
  have hP : va_P D vwCl [(h0, .inr (1, [.ref h3, .ref h4, .ref h9, .ref h10, v0, v1, .ref h1, v2, v3, v4, v5, v6, v7])), (h3, .inr (0, [.ref h8, .ref h5, .int 2, v10, v11, v12, v13])), (h4, .inl (a1, 48, .inr (.inr (.inr (.inr f1))))), (h5, .inl (a2, 48, .inl f2)), (h8, .inl (a4, 48, .inl f4)), (h9, .inl (a5, 48, .inr (.inl (vp_updL (vp_updL f5 0 1) 1 1)))), (h10, .inl (a6, 48, .inl (upd (upd f6 0 (-1)) 1 (-1)))), (h1, .inr (4, [.ref h2, .int 0, .int 0])), (h6, .inr (4, [.ref h7, .int 0, .int 0])), (h2, .inl (a0, 2, .inl (upd (upd (upd (upd f0 0 0) 1 0) 0 0) 1 0))), (h7, .inl (a3, 2, .inl (upd (upd f3 0 0) 1 0))), (h11, .inr (4, [.ref h12, .int 0, .int 0])), (h12, .inl (a7, 2, .inl (upd (upd f7 0 0) 1 0)))] H := hP
  have hD : va_D A [(h0, .inr (1, [.ref h3, .ref h4, .ref h9, .ref h10, v0, v1, .ref h1, v2, v3, v4, v5, v6, v7])), (h3, .inr (0, [.ref h8, .ref h5, .int 2, v10, v11, v12, v13])), (h4, .inl (a1, 48, .inr (.inr (.inr (.inr f1))))), (h5, .inl (a2, 48, .inl f2)), (h8, .inl (a4, 48, .inl f4)), (h9, .inl (a5, 48, .inr (.inl (vp_updL (vp_updL f5 0 1) 1 1)))), (h10, .inl (a6, 48, .inl (upd (upd f6 0 (-1)) 1 (-1)))), (h1, .inr (4, [.ref h2, .int 0, .int 0])), (h6, .inr (4, [.ref h7, .int 0, .int 0])), (h2, .inl (a0, 2, .inl (upd (upd (upd (upd f0 0 0) 1 0) 0 0) 1 0))), (h7, .inl (a3, 2, .inl (upd (upd f3 0 0) 1 0))), (h11, .inr (4, [.ref h12, .int 0, .int 0])), (h12, .inl (a7, 2, .inl (upd (upd f7 0 0) 1 0)))] := hD
  refine lv_aload_n hx hb dX1_begin_62 rfl (lv_at hl 1 rfl) ?_
  refine va_get (D := D) (ci := 1) (v := .ref h1) (C := RX1) (T := TX1) (N := 13) hx hb hg inX1 hown hK hP 0 rfl rfl 6 (by decide) (hg _ k289) (fun _ h9 => h9) rfl dX1_begin_63 ?_
  refine lv_aload_n hx hb dX1_begin_66 rfl (lv_at hl 1 rfl) ?_
  refine va_get (D := D) (ci := 1) (v := .ref h4) (C := RX1) (T := TX1) (N := 13) hx hb hg inX1 hown hK hP 0 rfl rfl 1 (by decide) (hg _ k279) (fun _ h9 => h9) rfl dX1_begin_67 ?_
  refine lv_iload_n hx hb dX1_begin_70 rfl (lv_at hl 0 rfl) ?_
  refine aldQ hx hb hK hP 2 0 rfl rfl 1 (by decide) (vin (by decide)) (v := h11) ef1_1 dX1_begin_71 ?_
  refine lv_aload_n hx hb dX1_begin_72 rfl (lv_at hl 1 rfl) ?_
  refine va_get (D := D) (ci := 1) (v := .ref h9) (C := RX1) (T := TX1) (N := 13) hx hb hg inX1 hown hK hP 0 rfl rfl 2 (by decide) (hg _ k281) (fun _ h9 => h9) rfl dX1_begin_73 ?_
  refine lv_iload_n hx hb dX1_begin_76 rfl (lv_at hl 0 rfl) ?_
  refine aldL hx hb hK hP 5 3 rfl rfl 1 (by decide) (vin (by decide)) (v := 1) rfl dX1_begin_77 ?_
  refine cVv (n := 2) (As := [.ref h11, .long 1]) (rest := []) (wr := [(h0, .inr (1, [.ref h3, .ref h4, .ref h9, .ref h10, v0, v1, .ref h1, v2, v3, v4, v5, v6, v7])), (h3, .inr (0, [.ref h8, .ref h5, .int 2, v10, v11, v12, v13])), (h4, .inl (a1, 48, .inr (.inr (.inr (.inr f1))))), (h5, .inl (a2, 48, .inl f2)), (h8, .inl (a4, 48, .inl f4)), (h9, .inl (a5, 48, .inr (.inl (vp_updL (vp_updL f5 0 1) 1 1)))), (h10, .inl (a6, 48, .inl (upd (upd f6 0 (-1)) 1 (-1)))), (h6, .inr (4, [.ref h7, .int 0, .int 0])), (h7, .inl (a3, 2, .inl (upd (upd f3 0 0) 1 0)))]) (tr := [(a1, .object "LiftingSignal$Whole"), (a2, .int), (a4, .int), (a5, .long), (a6, .int), (a3, .int)]) hx hb hml hown hg okN (cX4_add_394 l D h1 h11 h2 h12 (upd (upd (upd (upd f0 0 0) 1 0) 0 0) 1 0) (upd (upd f7 0 0) 1 0) a0 a7 rfl rfl) (mwV k340 k341 k342 k88 k343) ⟨rfl, by decide, by decide, by decide +kernel⟩ ⟨rfl, rfl, (Nat.le_of_ble_eq_true rfl), (Nat.le_of_ble_eq_true rfl)⟩ hP hD hK hS xn [7, 11, 9, 12] [7, 11, 9, 12] [0, 1, 2, 3, 4, 5, 6, 8, 10] [5, 7] [0, 1, 2, 3, 4, 6] rfl (by decide) rfl rfl (by decide) (by decide) rfl rfl (va_free hD hS hA [7, 11, 9, 12] rfl) (va_free hD hS hA [7, 11, 9, 12] rfl) 7 rfl rfl rfl hl.1 rfl (Nat.le_of_ble_eq_true rfl) dX1_begin_78 ⟨(Nat.le_of_ble_eq_true rfl), (Nat.le_of_ble_eq_true rfl)⟩ (fun u H locs hφ hP hD hK hS hk => ?_)
  have hP : va_P D vwCl [(h0, .inr (1, [.ref h3, .ref h4, .ref h9, .ref h10, v0, v1, .ref h1, v2, v3, v4, v5, v6, v7])), (h3, .inr (0, [.ref h8, .ref h5, .int 2, v10, v11, v12, v13])), (h4, .inl (a1, 48, .inr (.inr (.inr (.inr f1))))), (h5, .inl (a2, 48, .inl f2)), (h8, .inl (a4, 48, .inl f4)), (h9, .inl (a5, 48, .inr (.inl (vp_updL (vp_updL f5 0 1) 1 1)))), (h10, .inl (a6, 48, .inl (upd (upd f6 0 (-1)) 1 (-1)))), (h6, .inr (4, [.ref h7, .int 0, .int 0])), (h7, .inl (a3, 2, .inl (upd (upd f3 0 0) 1 0))), (h1, .inr (4, [.ref h2, .int 0, .int 0])), (h11, .inr (4, [.ref h12, .int 0, .int 0])), (h2, .inl (a0, 2, .inl (upd (upd (upd (upd (upd (upd f0 0 0) 1 0) 0 0) 1 0) 0 0) 1 0))), (h12, .inl (a7, 2, .inl (upd (upd f7 0 0) 1 0)))] H := hP
  have hD : va_D A [(h0, .inr (1, [.ref h3, .ref h4, .ref h9, .ref h10, v0, v1, .ref h1, v2, v3, v4, v5, v6, v7])), (h3, .inr (0, [.ref h8, .ref h5, .int 2, v10, v11, v12, v13])), (h4, .inl (a1, 48, .inr (.inr (.inr (.inr f1))))), (h5, .inl (a2, 48, .inl f2)), (h8, .inl (a4, 48, .inl f4)), (h9, .inl (a5, 48, .inr (.inl (vp_updL (vp_updL f5 0 1) 1 1)))), (h10, .inl (a6, 48, .inl (upd (upd f6 0 (-1)) 1 (-1)))), (h6, .inr (4, [.ref h7, .int 0, .int 0])), (h7, .inl (a3, 2, .inl (upd (upd f3 0 0) 1 0))), (h1, .inr (4, [.ref h2, .int 0, .int 0])), (h11, .inr (4, [.ref h12, .int 0, .int 0])), (h2, .inl (a0, 2, .inl (upd (upd (upd (upd (upd (upd f0 0 0) 1 0) 0 0) 1 0) 0 0) 1 0))), (h12, .inl (a7, 2, .inl (upd (upd f7 0 0) 1 0)))] := hD
  have hK : va_K D vwCl [(a1, .object "LiftingSignal$Whole"), (a2, .int), (a4, .int), (a5, .long), (a6, .int), (a3, .int), (a0, .int), (a7, .int)] s := hK
  refine W.widen (k := 0) (n := 0) (Nat.le_of_ble_eq_true rfl) (Nat.le_of_ble_eq_true rfl) ?_
  refine lv_iinc (v := 2) (lv' := [(1, .int 2), (0, .ref h0)]) hx hb dX1_begin_81 hl (k := 0) rfl (by decide) (by decide) rfl (fun ls hl => ?_)
  refine lv_goto (tgt := 10) hx hb dX1_begin_84 (by decide) ?_
  refine lv_iload_n hx hb dX1_begin_10 rfl (lv_at hl 0 rfl) ?_
  refine lv_aload_n hx hb dX1_begin_11 rfl (lv_at hl 1 rfl) ?_
  refine va_get (D := D) (ci := 1) (v := .ref h3) (C := RX1) (T := TX1) (N := 13) hx hb hg inX1 hown hK hP 0 rfl rfl 0 (by decide) (hg _ k278) (fun _ h9 => h9) rfl dX1_begin_12 ?_
  refine va_get (D := D) (ci := 0) (v := .int 2) (C := RX0) (T := TX0) (N := 7) hx hb hg inX0 hown hK hP 1 rfl rfl 2 (by decide) (hg _ k162) (fun _ h9 => h9) rfl dX1_begin_15 ?_
  refine lv_icmp_ge (tgt := 87) hx hb dX1_begin_18 (by decide) (fun _ => ?_) (fun c9 => absurd (by decide) c9)
  refine lv_aload_n hx hb dX1_begin_87 rfl (lv_at hl 1 rfl) ?_
  refine lv_iconst (v := 0) hx hb dX1_begin_88 (by decide) ?_
  refine va_put (D := D) (ci := 1) (v := .int 0) (ty := .int) (C := RX1) (T := TX1) (N := 13) hx hb hg inX1 tyX1 tyX1_ok nmX1 hown hK hP hD hS 0 rfl rfl 5 (by decide) (hg _ k287) (fun _ h9 => h9) rfl (by decide +kernel) rfl rfl (Nat.le_of_ble_eq_true rfl) dX1_begin_89 (fun H locs hP hD hS => ?_)
  have hP : va_P D vwCl [(h0, .inr (1, [.ref h3, .ref h4, .ref h9, .ref h10, v0, .int 0, .ref h1, v2, v3, v4, v5, v6, v7])), (h3, .inr (0, [.ref h8, .ref h5, .int 2, v10, v11, v12, v13])), (h4, .inl (a1, 48, .inr (.inr (.inr (.inr f1))))), (h5, .inl (a2, 48, .inl f2)), (h8, .inl (a4, 48, .inl f4)), (h9, .inl (a5, 48, .inr (.inl (vp_updL (vp_updL f5 0 1) 1 1)))), (h10, .inl (a6, 48, .inl (upd (upd f6 0 (-1)) 1 (-1)))), (h6, .inr (4, [.ref h7, .int 0, .int 0])), (h7, .inl (a3, 2, .inl (upd (upd f3 0 0) 1 0))), (h1, .inr (4, [.ref h2, .int 0, .int 0])), (h11, .inr (4, [.ref h12, .int 0, .int 0])), (h2, .inl (a0, 2, .inl (upd (upd (upd (upd (upd (upd f0 0 0) 1 0) 0 0) 1 0) 0 0) 1 0))), (h12, .inl (a7, 2, .inl (upd (upd f7 0 0) 1 0)))] H := hP
  have hD : va_D A [(h0, .inr (1, [.ref h3, .ref h4, .ref h9, .ref h10, v0, .int 0, .ref h1, v2, v3, v4, v5, v6, v7])), (h3, .inr (0, [.ref h8, .ref h5, .int 2, v10, v11, v12, v13])), (h4, .inl (a1, 48, .inr (.inr (.inr (.inr f1))))), (h5, .inl (a2, 48, .inl f2)), (h8, .inl (a4, 48, .inl f4)), (h9, .inl (a5, 48, .inr (.inl (vp_updL (vp_updL f5 0 1) 1 1)))), (h10, .inl (a6, 48, .inl (upd (upd f6 0 (-1)) 1 (-1)))), (h6, .inr (4, [.ref h7, .int 0, .int 0])), (h7, .inl (a3, 2, .inl (upd (upd f3 0 0) 1 0))), (h1, .inr (4, [.ref h2, .int 0, .int 0])), (h11, .inr (4, [.ref h12, .int 0, .int 0])), (h2, .inl (a0, 2, .inl (upd (upd (upd (upd (upd (upd f0 0 0) 1 0) 0 0) 1 0) 0 0) 1 0))), (h12, .inl (a7, 2, .inl (upd (upd f7 0 0) 1 0)))] := hD
  exact fv hx hb hr hlocks hP hD hK hS (()) trivial [0, 9, 11, 1, 2, 3, 7, 8, 4, 5, 6, 10, 12] [6, 0, 1, 5, 2, 3, 4, 7] rfl (by decide) rfl (Nat.le_of_ble_eq_true rfl) (Nat.le_of_ble_eq_true rfl) dX1_begin_92
set_option maxHeartbeats 4000000 in
set_option maxRecDepth 100000 in
theorem cX5_reset_463 (l : Launch) (D : va_G) (h0 : Nat) (h1 : Nat) (h2 : Nat) (h3 : Nat) (h4 : Nat) (h5 : Nat) (h6 : Nat) (h7 : Nat) (h8 : Nat) (h9 : Nat) (h10 : Nat) (h11 : Nat) (h12 : Nat) (h13 : Nat) (v0 : Value) (v1 : Value) (v2 : Value) (v3 : Value) (v4 : Value) (v5 : Value) (v6 : Value) (v7 : Value) (v8 : Value) (v9 : Value) (v10 : Value) (v11 : Value) (v12 : Value) (v13 : Value) (v14 : Value) (v15 : Value) (v16 : Value) (v17 : Value) (f0 : Nat → Int32) (v18 : Value) (v19 : Value) (v20 : Value) (v21 : Value) (f1 : Nat → Option Nat) (f2 : Nat → Int32) (v22 : Value) (v23 : Value) (f3 : Nat → Int32) (f4 : Nat → Int32) (f5 : Nat → Int64) (f6 : Nat → Int32) (v24 : Value) (v25 : Value) (f7 : Nat → Int32) (a0 : ClassId) (a1 : ClassId) (a2 : ClassId) (a3 : ClassId) (a4 : ClassId) (a5 : ClassId) (a6 : ClassId) (a7 : ClassId) (ef1_0 : f1 0 = some h7) (ef1_1 : f1 1 = some h12) (ef2_0 : f2 0 = 0) (ef2_1 : f2 1 = 0) (ef4_0 : f4 0 = 0) (ef4_1 : f4 1 = 1)  : CT l yX5_reset cX5_reset 2 (some .int) { frames := 3, cells := 0, slots := 0, locals := 71 } [.ref h0] D [(h0, .inr (5, [v0, v1, v2, .ref h1, v3, v4, v5, v6, v7, v8])), (h1, .inr (1, [.ref h4, .ref h5, .ref h10, .ref h11, v9, .int 0, .ref h2, v10, v11, v12, v13, v14, v15])), (h2, .inr (4, [.ref h3, v16, v17])), (h3, .inl (a0, 2, .inl f0)), (h4, .inr (0, [.ref h9, .ref h6, .int 2, v18, v19, v20, v21])), (h5, .inl (a1, 48, .inr (.inr (.inr (.inr f1))))), (h6, .inl (a2, 48, .inl f2)), (h7, .inr (4, [.ref h8, v22, v23])), (h8, .inl (a3, 2, .inl f3)), (h9, .inl (a4, 48, .inl f4)), (h10, .inl (a5, 48, .inr (.inl f5))), (h11, .inl (a6, 48, .inl f6)), (h12, .inr (4, [.ref h13, v24, v25])), (h13, .inl (a7, 2, .inl f7))] [(a0, .int), (a1, .object "LiftingSignal$Whole"), (a2, .int), (a3, .int), (a4, .int), (a5, .long), (a6, .int), (a7, .int)] XN [(h0, .inr (5, [v0, v1, v2, .ref h1, v3, v4, v5, v6, v7, v8])), (h1, .inr (1, [.ref h4, .ref h5, .ref h10, .ref h11, v9, .int 0, .ref h2, v10, v11, v12, v13, v14, v15])), (h2, .inr (4, [.ref h3, v16, v17])), (h3, .inl (a0, 2, .inl f0)), (h4, .inr (0, [.ref h9, .ref h6, .int 2, v18, v19, v20, v21])), (h5, .inl (a1, 48, .inr (.inr (.inr (.inr f1))))), (h6, .inl (a2, 48, .inl f2)), (h7, .inr (4, [.ref h8, v22, v23])), (h8, .inl (a3, 2, .inl f3)), (h9, .inl (a4, 48, .inl f4)), (h10, .inl (a5, 48, .inr (.inl f5))), (h11, .inl (a6, 48, .inl f6)), (h12, .inr (4, [.ref h13, v24, v25])), (h13, .inl (a7, 2, .inl f7))] (ei (fun _ : Unit => True) (fun u => 0) (fun _ => [(h0, .inr (5, [v0, v1, v2, .ref h1, v3, v4, v5, v6, v7, v8])), (h1, .inr (1, [.ref h4, .ref h5, .ref h10, .ref h11, v9, .int 0, .ref h2, v10, v11, v12, v13, v14, v15])), (h2, .inr (4, [.ref h3, .int 0, .int 0])), (h3, .inl (a0, 2, .inl (upd (upd (upd (upd (upd (upd f0 0 0) 1 0) 0 0) 1 0) 0 0) 1 0))), (h4, .inr (0, [.ref h9, .ref h6, .int 2, v18, v19, v20, v21])), (h5, .inl (a1, 48, .inr (.inr (.inr (.inr f1))))), (h6, .inl (a2, 48, .inl f2)), (h7, .inr (4, [.ref h8, .int 0, .int 0])), (h8, .inl (a3, 2, .inl (upd (upd f3 0 0) 1 0))), (h9, .inl (a4, 48, .inl f4)), (h10, .inl (a5, 48, .inr (.inl (vp_updL (vp_updL f5 0 1) 1 1)))), (h11, .inl (a6, 48, .inl (upd (upd f6 0 (-1)) 1 (-1)))), (h12, .inr (4, [.ref h13, .int 0, .int 0])), (h13, .inl (a7, 2, .inl (upd (upd f7 0 0) 1 0)))]) (fun u => [(a0, .int), (a1, .object "LiftingSignal$Whole"), (a2, .int), (a3, .int), (a4, .int), (a5, .long), (a6, .int), (a7, .int)]) D) 0 0 := by
  refine CT.ofW (by decide +kernel) (Nat.le_of_ble_eq_true rfl) ?_
  intro p e s m below meth c A ls hcs hP hK hD hX hA hS hl
  obtain ⟨hx, hb, hr, hml, hown, hg, hlocks, hin⟩ := hcs
  have hown : s.vm.findClass RX5 = some m.cls := hown
  have hl : lv_has ls 2 [(0, .ref h0)] := hl
  refine lv_aload_n hx hb dX5_reset_0 rfl (lv_at hl 0 rfl) ?_
  refine va_get (D := D) (ci := 5) (v := .ref h1) (C := RX5) (T := TX5) (N := 10) hx hb hg inX5 hown hK hP 0 rfl rfl 3 (by decide) (hg _ k382) (fun _ h9 => h9) rfl dX5_reset_1 ?_
  refine va_get (D := D) (ci := 1) (v := .int 0) (C := RX1) (T := TX1) (N := 13) hx hb hg inX1 hown hK hP 1 rfl rfl 5 (by decide) (hg _ k288) (fun _ h9 => h9) rfl dX5_reset_4 ?_
  refine lv_istore_n (lv' := [(1, .int 0), (0, .ref h0)]) hx hb dX5_reset_7 rfl hl (by decide) rfl (fun ls hl => ?_)
  refine lv_aload_n hx hb dX5_reset_8 rfl (lv_at hl 1 rfl) ?_
  refine va_get (D := D) (ci := 5) (v := .ref h1) (C := RX5) (T := TX5) (N := 10) hx hb hg inX5 hown hK hP 0 rfl rfl 3 (by decide) (hg _ k382) (fun _ h9 => h9) rfl dX5_reset_9 ?_
  refine cVv (n := 0) (As := []) (rest := []) (wr := [(h0, .inr (5, [v0, v1, v2, .ref h1, v3, v4, v5, v6, v7, v8]))]) (tr := []) hx hb hml hown hg okN (cX1_begin_464 l D h1 h2 h3 h4 h5 h6 h7 h8 h9 h10 h11 h12 h13 v9 (.int 0) v10 v11 v12 v13 v14 v15 v16 v17 f0 v18 v19 v20 v21 f1 f2 v22 v23 f3 f4 f5 f6 v24 v25 f7 a0 a1 a2 a3 a4 a5 a6 a7 ef1_0 ef1_1 ef2_0 ef2_1 ef4_0 ef4_1) (mwV k332 k333 k334 k87 k335) ⟨rfl, by decide, by decide, by decide +kernel⟩ ⟨rfl, rfl, (Nat.le_of_ble_eq_true rfl), (Nat.le_of_ble_eq_true rfl)⟩ hP hD hK hS xn [1, 2, 3, 4, 5, 6, 7, 8, 9, 10, 11, 12, 13] [1, 2, 3, 4, 5, 6, 7, 8, 9, 10, 11, 12, 13] [0] [0, 1, 2, 3, 4, 5, 6, 7] [] rfl (by decide) rfl rfl (by decide) (by decide) rfl rfl (va_free hD hS hA [1, 2, 3, 4, 5, 6, 7, 8, 9, 10, 11, 12, 13] rfl) (va_free hD hS hA [1, 2, 3, 4, 5, 6, 7, 8, 9, 10, 11, 12, 13] rfl) 1 rfl rfl rfl hl.1 rfl (Nat.le_of_ble_eq_true rfl) dX5_reset_12 ⟨(Nat.le_of_ble_eq_true rfl), (Nat.le_of_ble_eq_true rfl)⟩ (fun u H locs hφ hP hD hK hS hk => ?_)
  have hP : va_P D vwCl [(h0, .inr (5, [v0, v1, v2, .ref h1, v3, v4, v5, v6, v7, v8])), (h1, .inr (1, [.ref h4, .ref h5, .ref h10, .ref h11, v9, .int 0, .ref h2, v10, v11, v12, v13, v14, v15])), (h2, .inr (4, [.ref h3, .int 0, .int 0])), (h3, .inl (a0, 2, .inl (upd (upd (upd (upd (upd (upd f0 0 0) 1 0) 0 0) 1 0) 0 0) 1 0))), (h4, .inr (0, [.ref h9, .ref h6, .int 2, v18, v19, v20, v21])), (h5, .inl (a1, 48, .inr (.inr (.inr (.inr f1))))), (h6, .inl (a2, 48, .inl f2)), (h7, .inr (4, [.ref h8, .int 0, .int 0])), (h8, .inl (a3, 2, .inl (upd (upd f3 0 0) 1 0))), (h9, .inl (a4, 48, .inl f4)), (h10, .inl (a5, 48, .inr (.inl (vp_updL (vp_updL f5 0 1) 1 1)))), (h11, .inl (a6, 48, .inl (upd (upd f6 0 (-1)) 1 (-1)))), (h12, .inr (4, [.ref h13, .int 0, .int 0])), (h13, .inl (a7, 2, .inl (upd (upd f7 0 0) 1 0)))] H := hP
  have hD : va_D A [(h0, .inr (5, [v0, v1, v2, .ref h1, v3, v4, v5, v6, v7, v8])), (h1, .inr (1, [.ref h4, .ref h5, .ref h10, .ref h11, v9, .int 0, .ref h2, v10, v11, v12, v13, v14, v15])), (h2, .inr (4, [.ref h3, .int 0, .int 0])), (h3, .inl (a0, 2, .inl (upd (upd (upd (upd (upd (upd f0 0 0) 1 0) 0 0) 1 0) 0 0) 1 0))), (h4, .inr (0, [.ref h9, .ref h6, .int 2, v18, v19, v20, v21])), (h5, .inl (a1, 48, .inr (.inr (.inr (.inr f1))))), (h6, .inl (a2, 48, .inl f2)), (h7, .inr (4, [.ref h8, .int 0, .int 0])), (h8, .inl (a3, 2, .inl (upd (upd f3 0 0) 1 0))), (h9, .inl (a4, 48, .inl f4)), (h10, .inl (a5, 48, .inr (.inl (vp_updL (vp_updL f5 0 1) 1 1)))), (h11, .inl (a6, 48, .inl (upd (upd f6 0 (-1)) 1 (-1)))), (h12, .inr (4, [.ref h13, .int 0, .int 0])), (h13, .inl (a7, 2, .inl (upd (upd f7 0 0) 1 0)))] := hD
  have hK : va_K D vwCl [(a0, .int), (a1, .object "LiftingSignal$Whole"), (a2, .int), (a3, .int), (a4, .int), (a5, .long), (a6, .int), (a7, .int)] s := hK
  refine W.widen (k := 0) (n := 0) (Nat.le_of_ble_eq_true rfl) (Nat.le_of_ble_eq_true rfl) ?_
  refine lv_iload_n hx hb dX5_reset_15 rfl (lv_at hl 0 rfl) ?_
  exact fi hx hb hr hlocks hP hD hK hS (()) trivial rfl [0, 1, 2, 3, 4, 5, 6, 7, 8, 9, 10, 11, 12, 13] [0, 1, 2, 3, 4, 5, 6, 7] rfl (by decide) rfl (Nat.le_of_ble_eq_true rfl) (Nat.le_of_ble_eq_true rfl) dX5_reset_16
set_option maxHeartbeats 4000000 in
set_option maxRecDepth 100000 in
theorem cX5_needRange_468 (l : Launch) (D : va_G) (hlt : l.stackTraces = false) (x0 : Int32)  (d0 : x0 < 1) : CX l yX5_needRange cX5_needRange 3 none { frames := 6, cells := 1, slots := 6, locals := 90 } [.int x0, .int 1, .int 46] D [] [] XX [] xv "java/lang/IllegalArgumentException" 1 6 := by
  refine CX.ofR (by decide +kernel) (Nat.le_of_ble_eq_true rfl) ?_
  intro p e s m below meth c A ls hcs hout hP hK hD hX hA hS hl
  obtain ⟨hx, hb, hr, hml, hown, hg, hlocks, hin⟩ := hcs
  have hown : s.vm.findClass RX5 = some m.cls := hown
  have hl : lv_has ls 3 [(0, .int x0), (1, .int 1), (2, .int 46)] := hl
  refine lv_iload_n hx hb dX5_needRange_0 rfl (lv_at hl 0 rfl) ?_
  refine lv_iload_n hx hb dX5_needRange_1 rfl (lv_at hl 1 rfl) ?_
  refine lv_icmp_lt (tgt := 10) hx hb dX5_needRange_2 (by decide) (fun _ => ?_) (fun c9 => absurd d0 c9)
  obtain ⟨sa, hsa⟩ := XX_sRX5_321 hX
  exact thSW_IAE hx hb hlt hown (hg _ k813) (hg _ k101) hsa hg hX hS (hl.1.trans hml.symm) dX5_needRange_10 dX5_needRange_13 dX5_needRange_14 dX5_needRange_17 dX5_needRange_20 hout (Nat.le_of_ble_eq_true rfl) (Nat.le_of_ble_eq_true rfl) (Nat.le_of_ble_eq_true rfl) (Nat.le_of_ble_eq_true rfl) hlocks (Nat.le_of_ble_eq_true rfl) (Nat.le_of_ble_eq_true rfl)
set_option maxHeartbeats 4000000 in
set_option maxRecDepth 100000 in
theorem cX5_forward_467 (l : Launch) (D : va_G) (hlt : l.stackTraces = false) (h0 : Nat) (x0 : Int32)  (d0 : x0 < 1) : CX l yX5_forward cX5_forward 3 (some .int) { frames := 7, cells := 1, slots := 6, locals := 112 } [.ref h0, .int x0] D [] [] XX [] xi "java/lang/IllegalArgumentException" 1 6 := by
  refine CX.ofR (by decide +kernel) (Nat.le_of_ble_eq_true rfl) ?_
  intro p e s m below meth c A ls hcs hout hP hK hD hX hA hS hl
  obtain ⟨hx, hb, hr, hml, hown, hg, hlocks, hin⟩ := hcs
  have hown : s.vm.findClass RX5 = some m.cls := hown
  have hl : lv_has ls 3 [(0, .ref h0), (1, .int x0)] := hl
  refine lv_iload_n hx hb dX5_forward_0 rfl (lv_at hl 1 rfl) ?_
  refine lv_iconst (v := 1) hx hb dX5_forward_1 (by decide) ?_
  refine lv_bipush (v := 46) hx hb dX5_forward_2 (by decide) ?_
  exact xSv (n := 3) (As := [.int x0, .int 1, .int 46]) (rest := []) hx hb hml hown hg okXX (cX5_needRange_468 l D hlt x0 d0) (mwS k909 k910 k84 k911) ⟨rfl, by decide, by decide, by decide +kernel⟩ ⟨rfl, rfl, (Nat.le_of_ble_eq_true rfl), (Nat.le_of_ble_eq_true rfl)⟩ hP hD hK hS (okXX.2.2 _ _ _ _ hS.2.1 hX) [] [] rfl (by decide) rfl (aNil hA hS) rfl hl.1 rfl (Nat.le_of_ble_eq_true rfl) dX5_forward_4 ⟨(Nat.le_of_ble_eq_true rfl), (Nat.le_of_ble_eq_true rfl)⟩ hout hlocks (Nat.le_of_ble_eq_true rfl) (Nat.le_of_ble_eq_true rfl)
set_option maxHeartbeats 4000000 in
set_option maxRecDepth 100000 in
theorem cX5_needRange_470 (l : Launch) (D : va_G) (x0 : Int32)  (d0 : ¬ (x0 < 1)) (d1 : x0 ≤ 46) : CT l yX5_needRange cX5_needRange 3 none { frames := 0, cells := 0, slots := 0, locals := 0 } [.int x0, .int 1, .int 46] D [] [] XN [] (ev (fun _ : Unit => True) (fun _ => []) (fun _ => []) D) 0 0 := by
  refine CT.ofR (by decide +kernel) (Nat.le_of_ble_eq_true rfl) ?_
  intro p e s m below meth c A ls hcs hP hK hD hX hA hS hl
  obtain ⟨hx, hb, hr, hml, hown, hg, hlocks, hin⟩ := hcs
  have hown : s.vm.findClass RX5 = some m.cls := hown
  have hl : lv_has ls 3 [(0, .int x0), (1, .int 1), (2, .int 46)] := hl
  refine lv_iload_n hx hb dX5_needRange_0 rfl (lv_at hl 0 rfl) ?_
  refine lv_iload_n hx hb dX5_needRange_1 rfl (lv_at hl 1 rfl) ?_
  refine lv_icmp_lt (tgt := 10) hx hb dX5_needRange_2 (by decide) (fun c9 => absurd c9 d0) (fun _ => ?_)
  refine lv_iload_n hx hb dX5_needRange_5 rfl (lv_at hl 0 rfl) ?_
  refine lv_iload_n hx hb dX5_needRange_6 rfl (lv_at hl 2 rfl) ?_
  refine lv_icmp_le (tgt := 21) hx hb dX5_needRange_7 (by decide) (fun _ => ?_) (fun c9 => absurd d1 c9)
  exact fv0 hx hb hr hlocks hK hS (Nat.le_of_ble_eq_true rfl) (Nat.le_of_ble_eq_true rfl) dX5_needRange_21
set_option maxHeartbeats 4000000 in
set_option maxRecDepth 100000 in
theorem cX1_liftChosen_471 (l : Launch) (D : va_G) (h0 : Nat) (x0 : Int32) (h1 : Nat) (v0 : Value) (v1 : Value) (v2 : Value) (v3 : Value) (v4 : Value) (v5 : Value) (v6 : Value) (v7 : Value) (v8 : Value) (v9 : Value) (v10 : Value) (v11 : Value) (v12 : Value) (v13 : Value) (v14 : Value) (v15 : Value)  (d0 : ¬ (x0 ≤ 0)) : CT l yX1_liftChosen cX1_liftChosen 4 (some .int) { frames := 2, cells := 0, slots := 0, locals := 46 } [.ref h0, .int x0] D [(h0, .inr (1, [.ref h1, v0, v1, v2, v3, .int 0, v4, v5, v6, v7, v8, v9, v10])), (h1, .inr (0, [v11, v12, .int 2, v13, v14, v15, .int 2]))] [] XN [] (ei (fun _ : Unit => True) (fun _ => 0) (fun _ => []) (fun _ => []) D) 0 0 := by
  refine CT.ofR (by decide +kernel) (Nat.le_of_ble_eq_true rfl) ?_
  intro p e s m below meth c A ls hcs hP hK hD hX hA hS hl
  obtain ⟨hx, hb, hr, hml, hown, hg, hlocks, hin⟩ := hcs
  have hown : s.vm.findClass RX1 = some m.cls := hown
  have hl : lv_has ls 4 [(0, .ref h0), (1, .int x0)] := hl
  refine lv_iconst (v := 0) hx hb dX1_liftChosen_0 (by decide) ?_
  refine lv_istore_n (lv' := [(2, .int 0), (0, .ref h0), (1, .int x0)]) hx hb dX1_liftChosen_1 rfl hl (by decide) rfl (fun ls hl => ?_)
  refine lv_iload_n hx hb dX1_liftChosen_2 rfl (lv_at hl 0 rfl) ?_
  refine lv_iload_n hx hb dX1_liftChosen_3 rfl (lv_at hl 2 rfl) ?_
  refine lv_icmp_ge (tgt := 32) hx hb dX1_liftChosen_4 (by decide) (fun c9 => absurd c9 d0) (fun _ => ?_)
  refine lv_aload_n hx hb dX1_liftChosen_7 rfl (lv_at hl 1 rfl) ?_
  refine cVi (n := 0) (As := []) (rest := []) (wr := [(h0, .inr (1, [.ref h1, v0, v1, v2, v3, .int 0, v4, v5, v6, v7, v8, v9, v10])), (h1, .inr (0, [v11, v12, .int 2, v13, v14, v15, .int 2]))]) (tr := []) hx hb hml hown hg okN (cX1_chosenSample_428 l D h0 h1 v0 v1 v2 v3 v4 v5 v6 v7 v8 v9 v10 v11 v12 v13 v14 v15) (mwV k530 k531 k532 k87 k533) ⟨rfl, by decide, by decide, by decide +kernel⟩ ⟨rfl, rfl, (Nat.le_of_ble_eq_true rfl), (Nat.le_of_ble_eq_true rfl)⟩ hP hD hK hS xn [0, 1] [] [0, 1] [] [] rfl (by decide) rfl rfl (by decide) (by decide) rfl rfl (aNil hA hS) (fun _ _ => trivial) 0 rfl rfl rfl hl.1 rfl (Nat.le_of_ble_eq_true rfl) dX1_liftChosen_8 ⟨(Nat.le_of_ble_eq_true rfl), (Nat.le_of_ble_eq_true rfl)⟩ (fun u H locs hφ hP hD hK hS hk => ?_)
  have hP : va_P D vwCl [(h0, .inr (1, [.ref h1, v0, v1, v2, v3, .int 0, v4, v5, v6, v7, v8, v9, v10])), (h1, .inr (0, [v11, v12, .int 2, v13, v14, v15, .int 2]))] H := hP
  have hD : va_D (fun _ => True) [(h0, .inr (1, [.ref h1, v0, v1, v2, v3, .int 0, v4, v5, v6, v7, v8, v9, v10])), (h1, .inr (0, [v11, v12, .int 2, v13, v14, v15, .int 2]))] := hD
  have hK : va_K D vwCl [] s := hK
  refine W.widen (k := 0) (n := 0) (Nat.le_of_ble_eq_true rfl) (Nat.le_of_ble_eq_true rfl) ?_
  refine lv_istore_n (lv' := [(3, .int (-1)), (2, .int 0), (0, .ref h0), (1, .int x0)]) hx hb dX1_liftChosen_11 rfl hl (by decide) rfl (fun ls hl => ?_)
  refine lv_iload_n hx hb dX1_liftChosen_12 rfl (lv_at hl 0 rfl) ?_
  refine lv_iconst (v := (-1)) hx hb dX1_liftChosen_13 (by decide) ?_
  refine lv_icmp_ne (tgt := 20) hx hb dX1_liftChosen_14 (by decide) (fun c9 => absurd (by decide) c9) (fun _ => ?_)
  refine lv_goto (tgt := 32) hx hb dX1_liftChosen_17 (by decide) ?_
  refine lv_iload_n hx hb dX1_liftChosen_32 rfl (lv_at hl 1 rfl) ?_
  exact fi0 hx hb hr hlocks hK hS (Nat.le_of_ble_eq_true rfl) (Nat.le_of_ble_eq_true rfl) dX1_liftChosen_33
set_option maxHeartbeats 4000000 in
set_option maxRecDepth 100000 in
theorem cX5_refuse_472 (l : Launch) (D : va_G) (hlt : l.stackTraces = false) (h0 : Nat) (v0 : Value) (v1 : Value) (v2 : Value) (v3 : Value) (v4 : Value) (v5 : Value) (v6 : Value) (v7 : Value) (v8 : Value) (v9 : Value)   : CX l yX5_refuse cX5_refuse 4 none { frames := 6, cells := 1, slots := 6, locals := 90 } [.ref h0, .int 1, .int 0, .int (-1)] D [(h0, .inr (5, [v0, v1, v2, v3, v4, v5, v6, v7, v8, v9]))] [] XX [(h0, .inr (5, [v0, v1, v2, v3, v4, v5, v6, v7, v8, v9]))] xv "java/lang/IllegalStateException" 1 6 := by
  refine CX.ofW (by decide +kernel) (Nat.le_of_ble_eq_true rfl) ?_
  intro p e s m below meth c A ls hcs hout hP hK hD hX hA hS hl
  obtain ⟨hx, hb, hr, hml, hown, hg, hlocks, hin⟩ := hcs
  have hown : s.vm.findClass RX5 = some m.cls := hown
  have hl : lv_has ls 4 [(0, .ref h0), (1, .int 1), (2, .int 0), (3, .int (-1))] := hl
  refine lv_aload_n hx hb dX5_refuse_0 rfl (lv_at hl 0 rfl) ?_
  refine lv_iload_n hx hb dX5_refuse_1 rfl (lv_at hl 1 rfl) ?_
  refine va_put (D := D) (ci := 5) (v := .int 1) (ty := .int) (C := RX5) (T := TX5) (N := 10) hx hb hg inX5 tyX5 tyX5_ok nmX5 hown hK hP hD hS 0 rfl rfl 7 (by decide) (hg _ k386) (fun _ h9 => h9) rfl (by decide +kernel) rfl rfl (Nat.le_of_ble_eq_true rfl) dX5_refuse_2 (fun H locs hP hD hS => ?_)
  have hP : va_P D vwCl [(h0, .inr (5, [v0, v1, v2, v3, v4, v5, v6, .int 1, v8, v9]))] H := hP
  have hD : va_D A [(h0, .inr (5, [v0, v1, v2, v3, v4, v5, v6, .int 1, v8, v9]))] := hD
  refine lv_aload_n hx hb dX5_refuse_5 rfl (lv_at hl 0 rfl) ?_
  refine lv_iload_n hx hb dX5_refuse_6 rfl (lv_at hl 2 rfl) ?_
  refine va_put (D := D) (ci := 5) (v := .int 0) (ty := .int) (C := RX5) (T := TX5) (N := 10) hx hb hg inX5 tyX5 tyX5_ok nmX5 hown hK hP hD hS 0 rfl rfl 8 (by decide) (hg _ k387) (fun _ h9 => h9) rfl (by decide +kernel) rfl rfl (Nat.le_of_ble_eq_true rfl) dX5_refuse_7 (fun H locs hP hD hS => ?_)
  have hP : va_P D vwCl [(h0, .inr (5, [v0, v1, v2, v3, v4, v5, v6, .int 1, .int 0, v9]))] H := hP
  have hD : va_D A [(h0, .inr (5, [v0, v1, v2, v3, v4, v5, v6, .int 1, .int 0, v9]))] := hD
  refine lv_aload_n hx hb dX5_refuse_10 rfl (lv_at hl 0 rfl) ?_
  refine lv_iload_n hx hb dX5_refuse_11 rfl (lv_at hl 3 rfl) ?_
  refine va_put (D := D) (ci := 5) (v := .int (-1)) (ty := .int) (C := RX5) (T := TX5) (N := 10) hx hb hg inX5 tyX5 tyX5_ok nmX5 hown hK hP hD hS 0 rfl rfl 9 (by decide) (hg _ k388) (fun _ h9 => h9) rfl (by decide +kernel) rfl rfl (Nat.le_of_ble_eq_true rfl) dX5_refuse_12 (fun H locs hP hD hS => ?_)
  have hP : va_P D vwCl [(h0, .inr (5, [v0, v1, v2, v3, v4, v5, v6, .int 1, .int 0, .int (-1)]))] H := hP
  have hD : va_D A [(h0, .inr (5, [v0, v1, v2, v3, v4, v5, v6, .int 1, .int 0, .int (-1)]))] := hD
  obtain ⟨sa, hsa⟩ := XX_sRX5_325 hX
  exact thSW_ISE hx hb hlt hown (hg _ k993) (hg _ k104) hsa hg hX hS (hl.1.trans hml.symm) dX5_refuse_15 dX5_refuse_18 dX5_refuse_19 dX5_refuse_22 dX5_refuse_25 hout (Nat.le_of_ble_eq_true rfl) (Nat.le_of_ble_eq_true rfl) (Nat.le_of_ble_eq_true rfl) (Nat.le_of_ble_eq_true rfl) hlocks (Nat.le_of_ble_eq_true rfl) (Nat.le_of_ble_eq_true rfl)
set_option maxHeartbeats 4000000 in
set_option maxRecDepth 100000 in
theorem cX5_forward_469 (l : Launch) (D : va_G) (hlt : l.stackTraces = false) (h0 : Nat) (x0 : Int32) (h1 : Nat) (h2 : Nat) (v0 : Value) (v1 : Value) (v2 : Value) (v3 : Value) (v4 : Value) (v5 : Value) (v6 : Value) (v7 : Value) (v8 : Value) (v9 : Value) (v10 : Value) (v11 : Value) (v12 : Value) (v13 : Value) (v14 : Value) (v15 : Value) (v16 : Value) (v17 : Value) (v18 : Value) (v19 : Value) (v20 : Value) (v21 : Value) (v22 : Value) (v23 : Value) (v24 : Value)  (d0 : ¬ (x0 < 1)) (d1 : x0 ≤ 46) (d2 : ¬ (x0 ≤ 0)) : CX l yX5_forward cX5_forward 3 (some .int) { frames := 7, cells := 1, slots := 6, locals := 113 } [.ref h0, .int x0] D [(h0, .inr (5, [v0, v1, v2, .ref h1, v3, v4, v5, v6, v7, v8])), (h1, .inr (1, [.ref h2, v9, v10, v11, v12, .int 0, v13, v14, v15, v16, v17, v18, v19])), (h2, .inr (0, [v20, v21, .int 2, v22, v23, v24, .int 2]))] [] XX [(h0, .inr (5, [v0, v1, v2, .ref h1, v3, v4, v5, v6, v7, v8])), (h1, .inr (1, [.ref h2, v9, v10, v11, v12, .int 0, v13, v14, v15, v16, v17, v18, v19])), (h2, .inr (0, [v20, v21, .int 2, v22, v23, v24, .int 2]))] xi "java/lang/IllegalStateException" 1 6 := by
  refine CX.ofW (by decide +kernel) (Nat.le_of_ble_eq_true rfl) ?_
  intro p e s m below meth c A ls hcs hout hP hK hD hX hA hS hl
  obtain ⟨hx, hb, hr, hml, hown, hg, hlocks, hin⟩ := hcs
  have hown : s.vm.findClass RX5 = some m.cls := hown
  have hl : lv_has ls 3 [(0, .ref h0), (1, .int x0)] := hl
  refine lv_iload_n hx hb dX5_forward_0 rfl (lv_at hl 1 rfl) ?_
  refine lv_iconst (v := 1) hx hb dX5_forward_1 (by decide) ?_
  refine lv_bipush (v := 46) hx hb dX5_forward_2 (by decide) ?_
  refine cSv (n := 3) (As := [.int x0, .int 1, .int 46]) (rest := []) (wr := [(h0, .inr (5, [v0, v1, v2, .ref h1, v3, v4, v5, v6, v7, v8])), (h1, .inr (1, [.ref h2, v9, v10, v11, v12, .int 0, v13, v14, v15, v16, v17, v18, v19])), (h2, .inr (0, [v20, v21, .int 2, v22, v23, v24, .int 2]))]) (tr := []) hx hb hml hown hg okN (cX5_needRange_470 l D x0 d0 d1) (mwS k909 k910 k84 k911) ⟨rfl, by decide, by decide, by decide +kernel⟩ ⟨rfl, rfl, (Nat.le_of_ble_eq_true rfl), (Nat.le_of_ble_eq_true rfl)⟩ hP hD hK hS xn [] [] [0, 1, 2] [] [] rfl (by decide) rfl rfl (by decide) (by decide) rfl rfl (aNil hA hS) (aNil hA hS) rfl hl.1 rfl (Nat.le_of_ble_eq_true rfl) dX5_forward_4 ⟨(Nat.le_of_ble_eq_true rfl), (Nat.le_of_ble_eq_true rfl)⟩ (fun u H locs hφ hP hD hK hS hk => ?_)
  have hP : va_P D vwCl [(h0, .inr (5, [v0, v1, v2, .ref h1, v3, v4, v5, v6, v7, v8])), (h1, .inr (1, [.ref h2, v9, v10, v11, v12, .int 0, v13, v14, v15, v16, v17, v18, v19])), (h2, .inr (0, [v20, v21, .int 2, v22, v23, v24, .int 2]))] H := hP
  have hD : va_D A [(h0, .inr (5, [v0, v1, v2, .ref h1, v3, v4, v5, v6, v7, v8])), (h1, .inr (1, [.ref h2, v9, v10, v11, v12, .int 0, v13, v14, v15, v16, v17, v18, v19])), (h2, .inr (0, [v20, v21, .int 2, v22, v23, v24, .int 2]))] := hD
  have hK : va_K D vwCl [] s := hK
  refine W.widen (k := 0) (n := 0) (Nat.le_of_ble_eq_true rfl) (Nat.le_of_ble_eq_true rfl) ?_
  refine lv_aload_n hx hb dX5_forward_7 rfl (lv_at hl 0 rfl) ?_
  refine va_get (D := D) (ci := 5) (v := .ref h1) (C := RX5) (T := TX5) (N := 10) hx hb hg inX5 hown hK hP 0 rfl rfl 3 (by decide) (hg _ k382) (fun _ h9 => h9) rfl dX5_forward_8 ?_
  refine lv_iload_n hx hb dX5_forward_11 rfl (lv_at hl 1 rfl) ?_
  refine cVi (n := 1) (As := [.int x0]) (rest := []) (wr := [(h0, .inr (5, [v0, v1, v2, .ref h1, v3, v4, v5, v6, v7, v8])), (h1, .inr (1, [.ref h2, v9, v10, v11, v12, .int 0, v13, v14, v15, v16, v17, v18, v19])), (h2, .inr (0, [v20, v21, .int 2, v22, v23, v24, .int 2]))]) (tr := []) hx hb hml hown hg okN (cX1_liftChosen_471 l D h1 x0 h2 v9 v10 v11 v12 v13 v14 v15 v16 v17 v18 v19 v20 v21 v22 v23 v24 d2) (mwV k526 k527 k528 k87 k529) ⟨rfl, by decide, by decide, by decide +kernel⟩ ⟨rfl, rfl, (Nat.le_of_ble_eq_true rfl), (Nat.le_of_ble_eq_true rfl)⟩ hP hD hK hS xn [1, 2] [] [0, 1, 2] [] [] rfl (by decide) rfl rfl (by decide) (by decide) rfl rfl (aNil hA hS) (aNil hA hS) 1 rfl rfl rfl hl.1 rfl (Nat.le_of_ble_eq_true rfl) dX5_forward_12 ⟨(Nat.le_of_ble_eq_true rfl), (Nat.le_of_ble_eq_true rfl)⟩ (fun u H locs hφ hP hD hK hS hk => ?_)
  have hP : va_P D vwCl [(h0, .inr (5, [v0, v1, v2, .ref h1, v3, v4, v5, v6, v7, v8])), (h1, .inr (1, [.ref h2, v9, v10, v11, v12, .int 0, v13, v14, v15, v16, v17, v18, v19])), (h2, .inr (0, [v20, v21, .int 2, v22, v23, v24, .int 2]))] H := hP
  have hD : va_D A [(h0, .inr (5, [v0, v1, v2, .ref h1, v3, v4, v5, v6, v7, v8])), (h1, .inr (1, [.ref h2, v9, v10, v11, v12, .int 0, v13, v14, v15, v16, v17, v18, v19])), (h2, .inr (0, [v20, v21, .int 2, v22, v23, v24, .int 2]))] := hD
  have hK : va_K D vwCl [] s := hK
  refine W.widen (k := 0) (n := 0) (Nat.le_of_ble_eq_true rfl) (Nat.le_of_ble_eq_true rfl) ?_
  refine lv_istore_n (lv' := [(2, .int 0), (0, .ref h0), (1, .int x0)]) hx hb dX5_forward_15 rfl hl (by decide) rfl (fun ls hl => ?_)
  refine lv_iload_n hx hb dX5_forward_16 rfl (lv_at hl 0 rfl) ?_
  refine lv_if_ne (tgt := 27) hx hb dX5_forward_17 (by decide) (fun c9 => absurd (by decide) c9) (fun _ => ?_)
  refine lv_aload_n hx hb dX5_forward_20 rfl (lv_at hl 1 rfl) ?_
  refine lv_iconst (v := 1) hx hb dX5_forward_21 (by decide) ?_
  refine lv_iconst (v := 0) hx hb dX5_forward_22 (by decide) ?_
  refine lv_iconst (v := (-1)) hx hb dX5_forward_23 (by decide) ?_
  exact xVv (n := 3) (As := [.int 1, .int 0, .int (-1)]) (rest := []) hx hb hml hown hg okXX (cX5_refuse_472 l D hlt h0 v0 v1 v2 (.ref h1) v3 v4 v5 v6 v7 v8) (mwV k989 k991 k30 k84 k992) ⟨rfl, by decide, by decide, by decide +kernel⟩ ⟨rfl, rfl, (Nat.le_of_ble_eq_true rfl), (Nat.le_of_ble_eq_true rfl)⟩ hP hD hK hS (okXX.2.2 _ _ _ _ hS.2.1 hX) [0] [] rfl (by decide) rfl (va_free hD hS hA [0] rfl) 0 rfl rfl rfl hl.1 rfl (Nat.le_of_ble_eq_true rfl) dX5_forward_24 ⟨(Nat.le_of_ble_eq_true rfl), (Nat.le_of_ble_eq_true rfl)⟩ hout hlocks (Nat.le_of_ble_eq_true rfl) (Nat.le_of_ble_eq_true rfl)
set_option maxHeartbeats 4000000 in
set_option maxRecDepth 100000 in
theorem cX5_needRange_474 (l : Launch) (D : va_G) (hlt : l.stackTraces = false) (x0 : Int32)  (d0 : ¬ (x0 < 1)) (d1 : ¬ (x0 ≤ 46)) : CX l yX5_needRange cX5_needRange 3 none { frames := 6, cells := 1, slots := 6, locals := 90 } [.int x0, .int 1, .int 46] D [] [] XX [] xv "java/lang/IllegalArgumentException" 1 6 := by
  refine CX.ofR (by decide +kernel) (Nat.le_of_ble_eq_true rfl) ?_
  intro p e s m below meth c A ls hcs hout hP hK hD hX hA hS hl
  obtain ⟨hx, hb, hr, hml, hown, hg, hlocks, hin⟩ := hcs
  have hown : s.vm.findClass RX5 = some m.cls := hown
  have hl : lv_has ls 3 [(0, .int x0), (1, .int 1), (2, .int 46)] := hl
  refine lv_iload_n hx hb dX5_needRange_0 rfl (lv_at hl 0 rfl) ?_
  refine lv_iload_n hx hb dX5_needRange_1 rfl (lv_at hl 1 rfl) ?_
  refine lv_icmp_lt (tgt := 10) hx hb dX5_needRange_2 (by decide) (fun c9 => absurd c9 d0) (fun _ => ?_)
  refine lv_iload_n hx hb dX5_needRange_5 rfl (lv_at hl 0 rfl) ?_
  refine lv_iload_n hx hb dX5_needRange_6 rfl (lv_at hl 2 rfl) ?_
  refine lv_icmp_le (tgt := 21) hx hb dX5_needRange_7 (by decide) (fun c9 => absurd c9 d1) (fun _ => ?_)
  obtain ⟨sa, hsa⟩ := XX_sRX5_321 hX
  exact thSW_IAE hx hb hlt hown (hg _ k813) (hg _ k101) hsa hg hX hS (hl.1.trans hml.symm) dX5_needRange_10 dX5_needRange_13 dX5_needRange_14 dX5_needRange_17 dX5_needRange_20 hout (Nat.le_of_ble_eq_true rfl) (Nat.le_of_ble_eq_true rfl) (Nat.le_of_ble_eq_true rfl) (Nat.le_of_ble_eq_true rfl) hlocks (Nat.le_of_ble_eq_true rfl) (Nat.le_of_ble_eq_true rfl)
set_option maxHeartbeats 4000000 in
set_option maxRecDepth 100000 in
theorem cX5_forward_473 (l : Launch) (D : va_G) (hlt : l.stackTraces = false) (h0 : Nat) (x0 : Int32)  (d0 : ¬ (x0 < 1)) (d1 : ¬ (x0 ≤ 46)) : CX l yX5_forward cX5_forward 3 (some .int) { frames := 7, cells := 1, slots := 6, locals := 112 } [.ref h0, .int x0] D [] [] XX [] xi "java/lang/IllegalArgumentException" 1 6 := by
  refine CX.ofR (by decide +kernel) (Nat.le_of_ble_eq_true rfl) ?_
  intro p e s m below meth c A ls hcs hout hP hK hD hX hA hS hl
  obtain ⟨hx, hb, hr, hml, hown, hg, hlocks, hin⟩ := hcs
  have hown : s.vm.findClass RX5 = some m.cls := hown
  have hl : lv_has ls 3 [(0, .ref h0), (1, .int x0)] := hl
  refine lv_iload_n hx hb dX5_forward_0 rfl (lv_at hl 1 rfl) ?_
  refine lv_iconst (v := 1) hx hb dX5_forward_1 (by decide) ?_
  refine lv_bipush (v := 46) hx hb dX5_forward_2 (by decide) ?_
  exact xSv (n := 3) (As := [.int x0, .int 1, .int 46]) (rest := []) hx hb hml hown hg okXX (cX5_needRange_474 l D hlt x0 d0 d1) (mwS k909 k910 k84 k911) ⟨rfl, by decide, by decide, by decide +kernel⟩ ⟨rfl, rfl, (Nat.le_of_ble_eq_true rfl), (Nat.le_of_ble_eq_true rfl)⟩ hP hD hK hS (okXX.2.2 _ _ _ _ hS.2.1 hX) [] [] rfl (by decide) rfl (aNil hA hS) rfl hl.1 rfl (Nat.le_of_ble_eq_true rfl) dX5_forward_4 ⟨(Nat.le_of_ble_eq_true rfl), (Nat.le_of_ble_eq_true rfl)⟩ hout hlocks (Nat.le_of_ble_eq_true rfl) (Nat.le_of_ble_eq_true rfl)
set_option maxHeartbeats 4000000 in
set_option maxRecDepth 100000 in
theorem cX5_lift_475 (l : Launch) (D : va_G) (hlt : l.stackTraces = false) (h0 : Nat) (x0 : Int32) (h1 : Nat) (v0 : Value) (v1 : Value) (v2 : Value) (v3 : Value) (v4 : Value) (v5 : Value) (v6 : Value) (v7 : Value) (v8 : Value) (v9 : Value) (v10 : Value) (v11 : Value) (v12 : Value) (v13 : Value) (v14 : Value)  (d0 : x0 < 0) : CX l yX5_lift cX5_lift 2 (some .long) { frames := 7, cells := 1, slots := 6, locals := 111 } [.ref h0, .int x0] D [(h0, .inr (5, [v0, .ref h1, v1, v2, v3, v4, v5, v6, v7, v8])), (h1, .inr (0, [v9, v10, .int 2, v11, v12, v13, v14]))] [] XX [] xl "java/lang/IndexOutOfBoundsException" 1 6 := by
  refine CX.ofR (by decide +kernel) (Nat.le_of_ble_eq_true rfl) ?_
  intro p e s m below meth c A ls hcs hout hP hK hD hX hA hS hl
  obtain ⟨hx, hb, hr, hml, hown, hg, hlocks, hin⟩ := hcs
  have hown : s.vm.findClass RX5 = some m.cls := hown
  have hl : lv_has ls 2 [(0, .ref h0), (1, .int x0)] := hl
  refine lv_iload_n hx hb dX5_lift_0 rfl (lv_at hl 1 rfl) ?_
  refine lv_aload_n hx hb dX5_lift_1 rfl (lv_at hl 0 rfl) ?_
  refine va_get (D := D) (ci := 5) (v := .ref h1) (C := RX5) (T := TX5) (N := 10) hx hb hg inX5 hown hK hP 0 rfl rfl 1 (by decide) (hg _ k380) (fun _ h9 => h9) rfl dX5_lift_2 ?_
  refine va_get (D := D) (ci := 0) (v := .int 2) (C := RX0) (T := TX0) (N := 7) hx hb hg inX0 hown hK hP 1 rfl rfl 2 (by decide) (hg _ k163) (fun _ h9 => h9) rfl dX5_lift_5 ?_
  exact xSv (n := 2) (As := [.int x0, .int 2]) (rest := []) hx hb hml hown hg okXX (cX5_needIndex_339 l D hlt x0 d0) (mwS k610 k611 k84 k612) ⟨rfl, by decide, by decide, by decide +kernel⟩ ⟨rfl, rfl, (Nat.le_of_ble_eq_true rfl), (Nat.le_of_ble_eq_true rfl)⟩ hP hD hK hS (okXX.2.2 _ _ _ _ hS.2.1 hX) [] [] rfl (by decide) rfl (aNil hA hS) rfl hl.1 rfl (Nat.le_of_ble_eq_true rfl) dX5_lift_8 ⟨(Nat.le_of_ble_eq_true rfl), (Nat.le_of_ble_eq_true rfl)⟩ hout hlocks (Nat.le_of_ble_eq_true rfl) (Nat.le_of_ble_eq_true rfl)
set_option maxHeartbeats 4000000 in
set_option maxRecDepth 100000 in
theorem cX5_refuse_477 (l : Launch) (D : va_G) (hlt : l.stackTraces = false) (h0 : Nat) (v0 : Value) (v1 : Value) (v2 : Value) (v3 : Value) (v4 : Value) (v5 : Value) (v6 : Value) (v7 : Value) (v8 : Value) (v9 : Value)   : CX l yX5_refuse cX5_refuse 4 none { frames := 6, cells := 1, slots := 6, locals := 90 } [.ref h0, .int 3, .int 5, .int 0] D [(h0, .inr (5, [v0, v1, v2, v3, v4, v5, v6, v7, v8, v9]))] [] XX [(h0, .inr (5, [v0, v1, v2, v3, v4, v5, v6, v7, v8, v9]))] xv "java/lang/IllegalStateException" 1 6 := by
  refine CX.ofW (by decide +kernel) (Nat.le_of_ble_eq_true rfl) ?_
  intro p e s m below meth c A ls hcs hout hP hK hD hX hA hS hl
  obtain ⟨hx, hb, hr, hml, hown, hg, hlocks, hin⟩ := hcs
  have hown : s.vm.findClass RX5 = some m.cls := hown
  have hl : lv_has ls 4 [(0, .ref h0), (1, .int 3), (2, .int 5), (3, .int 0)] := hl
  refine lv_aload_n hx hb dX5_refuse_0 rfl (lv_at hl 0 rfl) ?_
  refine lv_iload_n hx hb dX5_refuse_1 rfl (lv_at hl 1 rfl) ?_
  refine va_put (D := D) (ci := 5) (v := .int 3) (ty := .int) (C := RX5) (T := TX5) (N := 10) hx hb hg inX5 tyX5 tyX5_ok nmX5 hown hK hP hD hS 0 rfl rfl 7 (by decide) (hg _ k386) (fun _ h9 => h9) rfl (by decide +kernel) rfl rfl (Nat.le_of_ble_eq_true rfl) dX5_refuse_2 (fun H locs hP hD hS => ?_)
  have hP : va_P D vwCl [(h0, .inr (5, [v0, v1, v2, v3, v4, v5, v6, .int 3, v8, v9]))] H := hP
  have hD : va_D A [(h0, .inr (5, [v0, v1, v2, v3, v4, v5, v6, .int 3, v8, v9]))] := hD
  refine lv_aload_n hx hb dX5_refuse_5 rfl (lv_at hl 0 rfl) ?_
  refine lv_iload_n hx hb dX5_refuse_6 rfl (lv_at hl 2 rfl) ?_
  refine va_put (D := D) (ci := 5) (v := .int 5) (ty := .int) (C := RX5) (T := TX5) (N := 10) hx hb hg inX5 tyX5 tyX5_ok nmX5 hown hK hP hD hS 0 rfl rfl 8 (by decide) (hg _ k387) (fun _ h9 => h9) rfl (by decide +kernel) rfl rfl (Nat.le_of_ble_eq_true rfl) dX5_refuse_7 (fun H locs hP hD hS => ?_)
  have hP : va_P D vwCl [(h0, .inr (5, [v0, v1, v2, v3, v4, v5, v6, .int 3, .int 5, v9]))] H := hP
  have hD : va_D A [(h0, .inr (5, [v0, v1, v2, v3, v4, v5, v6, .int 3, .int 5, v9]))] := hD
  refine lv_aload_n hx hb dX5_refuse_10 rfl (lv_at hl 0 rfl) ?_
  refine lv_iload_n hx hb dX5_refuse_11 rfl (lv_at hl 3 rfl) ?_
  refine va_put (D := D) (ci := 5) (v := .int 0) (ty := .int) (C := RX5) (T := TX5) (N := 10) hx hb hg inX5 tyX5 tyX5_ok nmX5 hown hK hP hD hS 0 rfl rfl 9 (by decide) (hg _ k388) (fun _ h9 => h9) rfl (by decide +kernel) rfl rfl (Nat.le_of_ble_eq_true rfl) dX5_refuse_12 (fun H locs hP hD hS => ?_)
  have hP : va_P D vwCl [(h0, .inr (5, [v0, v1, v2, v3, v4, v5, v6, .int 3, .int 5, .int 0]))] H := hP
  have hD : va_D A [(h0, .inr (5, [v0, v1, v2, v3, v4, v5, v6, .int 3, .int 5, .int 0]))] := hD
  obtain ⟨sa, hsa⟩ := XX_sRX5_325 hX
  exact thSW_ISE hx hb hlt hown (hg _ k993) (hg _ k104) hsa hg hX hS (hl.1.trans hml.symm) dX5_refuse_15 dX5_refuse_18 dX5_refuse_19 dX5_refuse_22 dX5_refuse_25 hout (Nat.le_of_ble_eq_true rfl) (Nat.le_of_ble_eq_true rfl) (Nat.le_of_ble_eq_true rfl) (Nat.le_of_ble_eq_true rfl) hlocks (Nat.le_of_ble_eq_true rfl) (Nat.le_of_ble_eq_true rfl)
set_option maxHeartbeats 4000000 in
set_option maxRecDepth 100000 in
theorem cX5_lift_476 (l : Launch) (D : va_G) (hlt : l.stackTraces = false) (h0 : Nat) (h1 : Nat) (h2 : Nat) (h3 : Nat) (v0 : Value) (v1 : Value) (v2 : Value) (v3 : Value) (v4 : Value) (v5 : Value) (v6 : Value) (v7 : Value) (v8 : Value) (v9 : Value) (v10 : Value) (v11 : Value) (v12 : Value) (v13 : Value) (v14 : Value) (v15 : Value) (v16 : Value) (v17 : Value) (v18 : Value) (v19 : Value) (v20 : Value) (v21 : Value) (v22 : Value) (v23 : Value) (v24 : Value) (v25 : Value) (f0 : Nat → Int32) (a0 : ClassId) (ef0_0 : f0 0 = (-1))  : CX l yX5_lift cX5_lift 2 (some .long) { frames := 7, cells := 1, slots := 6, locals := 113 } [.ref h0, .int 0] D [(h0, .inr (5, [v0, .ref h1, v1, .ref h2, v2, v3, v4, v5, v6, v7])), (h1, .inr (0, [v8, v9, .int 2, v10, v11, v12, v13])), (h2, .inr (1, [v14, v15, v16, .ref h3, v17, v18, v19, v20, v21, v22, v23, v24, v25])), (h3, .inl (a0, 48, .inl f0))] [(a0, .int)] XX [(h0, .inr (5, [v0, .ref h1, v1, .ref h2, v2, v3, v4, v5, v6, v7])), (h1, .inr (0, [v8, v9, .int 2, v10, v11, v12, v13])), (h2, .inr (1, [v14, v15, v16, .ref h3, v17, v18, v19, v20, v21, v22, v23, v24, v25])), (h3, .inl (a0, 48, .inl f0))] xl "java/lang/IllegalStateException" 1 6 := by
  refine CX.ofW (by decide +kernel) (Nat.le_of_ble_eq_true rfl) ?_
  intro p e s m below meth c A ls hcs hout hP hK hD hX hA hS hl
  obtain ⟨hx, hb, hr, hml, hown, hg, hlocks, hin⟩ := hcs
  have hown : s.vm.findClass RX5 = some m.cls := hown
  have hl : lv_has ls 2 [(0, .ref h0), (1, .int 0)] := hl
  refine lv_iload_n hx hb dX5_lift_0 rfl (lv_at hl 1 rfl) ?_
  refine lv_aload_n hx hb dX5_lift_1 rfl (lv_at hl 0 rfl) ?_
  refine va_get (D := D) (ci := 5) (v := .ref h1) (C := RX5) (T := TX5) (N := 10) hx hb hg inX5 hown hK hP 0 rfl rfl 1 (by decide) (hg _ k380) (fun _ h9 => h9) rfl dX5_lift_2 ?_
  refine va_get (D := D) (ci := 0) (v := .int 2) (C := RX0) (T := TX0) (N := 7) hx hb hg inX0 hown hK hP 1 rfl rfl 2 (by decide) (hg _ k163) (fun _ h9 => h9) rfl dX5_lift_5 ?_
  refine cSv (n := 2) (As := [.int 0, .int 2]) (rest := []) (wr := [(h0, .inr (5, [v0, .ref h1, v1, .ref h2, v2, v3, v4, v5, v6, v7])), (h1, .inr (0, [v8, v9, .int 2, v10, v11, v12, v13])), (h2, .inr (1, [v14, v15, v16, .ref h3, v17, v18, v19, v20, v21, v22, v23, v24, v25])), (h3, .inl (a0, 48, .inl f0))]) (tr := [(a0, .int)]) hx hb hml hown hg okN (cX5_needIndex_343 l D) (mwS k610 k611 k84 k612) ⟨rfl, by decide, by decide, by decide +kernel⟩ ⟨rfl, rfl, (Nat.le_of_ble_eq_true rfl), (Nat.le_of_ble_eq_true rfl)⟩ hP hD hK hS xn [] [] [0, 1, 2, 3] [] [0] rfl (by decide) rfl rfl (by decide) (by decide) rfl rfl (aNil hA hS) (aNil hA hS) rfl hl.1 rfl (Nat.le_of_ble_eq_true rfl) dX5_lift_8 ⟨(Nat.le_of_ble_eq_true rfl), (Nat.le_of_ble_eq_true rfl)⟩ (fun u H locs hφ hP hD hK hS hk => ?_)
  have hP : va_P D vwCl [(h0, .inr (5, [v0, .ref h1, v1, .ref h2, v2, v3, v4, v5, v6, v7])), (h1, .inr (0, [v8, v9, .int 2, v10, v11, v12, v13])), (h2, .inr (1, [v14, v15, v16, .ref h3, v17, v18, v19, v20, v21, v22, v23, v24, v25])), (h3, .inl (a0, 48, .inl f0))] H := hP
  have hD : va_D A [(h0, .inr (5, [v0, .ref h1, v1, .ref h2, v2, v3, v4, v5, v6, v7])), (h1, .inr (0, [v8, v9, .int 2, v10, v11, v12, v13])), (h2, .inr (1, [v14, v15, v16, .ref h3, v17, v18, v19, v20, v21, v22, v23, v24, v25])), (h3, .inl (a0, 48, .inl f0))] := hD
  have hK : va_K D vwCl [(a0, .int)] s := hK
  refine W.widen (k := 0) (n := 0) (Nat.le_of_ble_eq_true rfl) (Nat.le_of_ble_eq_true rfl) ?_
  refine lv_aload_n hx hb dX5_lift_11 rfl (lv_at hl 0 rfl) ?_
  refine va_get (D := D) (ci := 5) (v := .ref h2) (C := RX5) (T := TX5) (N := 10) hx hb hg inX5 hown hK hP 0 rfl rfl 3 (by decide) (hg _ k382) (fun _ h9 => h9) rfl dX5_lift_12 ?_
  refine lv_iload_n hx hb dX5_lift_15 rfl (lv_at hl 1 rfl) ?_
  refine cVi (n := 1) (As := [.int 0]) (rest := []) (wr := [(h0, .inr (5, [v0, .ref h1, v1, .ref h2, v2, v3, v4, v5, v6, v7])), (h1, .inr (0, [v8, v9, .int 2, v10, v11, v12, v13])), (h2, .inr (1, [v14, v15, v16, .ref h3, v17, v18, v19, v20, v21, v22, v23, v24, v25])), (h3, .inl (a0, 48, .inl f0))]) (tr := [(a0, .int)]) hx hb hml hown hg okN (cX1_isPresent_336 l D h2 h3 v14 v15 v16 v17 v18 v19 v20 v21 v22 v23 v24 v25 f0 a0 ef0_0) (mwV k861 k460 k461 k87 k462) ⟨rfl, by decide, by decide, by decide +kernel⟩ ⟨rfl, rfl, (Nat.le_of_ble_eq_true rfl), (Nat.le_of_ble_eq_true rfl)⟩ hP hD hK hS xn [2, 3] [] [0, 1, 2, 3] [0] [0] rfl (by decide) rfl rfl (by decide) (by decide) rfl rfl (aNil hA hS) (aNil hA hS) 2 rfl rfl rfl hl.1 rfl (Nat.le_of_ble_eq_true rfl) dX5_lift_16 ⟨(Nat.le_of_ble_eq_true rfl), (Nat.le_of_ble_eq_true rfl)⟩ (fun u H locs hφ hP hD hK hS hk => ?_)
  have hP : va_P D vwCl [(h0, .inr (5, [v0, .ref h1, v1, .ref h2, v2, v3, v4, v5, v6, v7])), (h1, .inr (0, [v8, v9, .int 2, v10, v11, v12, v13])), (h2, .inr (1, [v14, v15, v16, .ref h3, v17, v18, v19, v20, v21, v22, v23, v24, v25])), (h3, .inl (a0, 48, .inl f0))] H := hP
  have hD : va_D A [(h0, .inr (5, [v0, .ref h1, v1, .ref h2, v2, v3, v4, v5, v6, v7])), (h1, .inr (0, [v8, v9, .int 2, v10, v11, v12, v13])), (h2, .inr (1, [v14, v15, v16, .ref h3, v17, v18, v19, v20, v21, v22, v23, v24, v25])), (h3, .inl (a0, 48, .inl f0))] := hD
  have hK : va_K D vwCl [(a0, .int)] s := hK
  refine W.widen (k := 0) (n := 0) (Nat.le_of_ble_eq_true rfl) (Nat.le_of_ble_eq_true rfl) ?_
  refine lv_if_ne (tgt := 29) hx hb dX5_lift_19 (by decide) (fun _ => ?_) (fun c9 => absurd c9 (by decide))
  refine lv_iload_n hx hb dX5_lift_29 rfl (lv_at hl 1 rfl) ?_
  refine lv_if_eq (tgt := 46) hx hb dX5_lift_30 (by decide) (fun _ => ?_) (fun c9 => absurd (by decide) c9)
  refine lv_aload_n hx hb dX5_lift_46 rfl (lv_at hl 0 rfl) ?_
  refine lv_iconst (v := 3) hx hb dX5_lift_47 (by decide) ?_
  refine lv_iconst (v := 5) hx hb dX5_lift_48 (by decide) ?_
  refine lv_iload_n hx hb dX5_lift_49 rfl (lv_at hl 1 rfl) ?_
  exact xVv (n := 3) (As := [.int 3, .int 5, .int 0]) (rest := []) hx hb hml hown hg okXX (cX5_refuse_477 l D hlt h0 v0 (.ref h1) v1 (.ref h2) v2 v3 v4 v5 v6 v7) (mwV k989 k991 k30 k84 k992) ⟨rfl, by decide, by decide, by decide +kernel⟩ ⟨rfl, rfl, (Nat.le_of_ble_eq_true rfl), (Nat.le_of_ble_eq_true rfl)⟩ hP hD hK hS (okXX.2.2 _ _ _ _ hS.2.1 hX) [0] [] rfl (by decide) rfl (va_free hD hS hA [0] rfl) 0 rfl rfl rfl hl.1 rfl (Nat.le_of_ble_eq_true rfl) dX5_lift_50 ⟨(Nat.le_of_ble_eq_true rfl), (Nat.le_of_ble_eq_true rfl)⟩ hout hlocks (Nat.le_of_ble_eq_true rfl) (Nat.le_of_ble_eq_true rfl)
set_option maxHeartbeats 4000000 in
set_option maxRecDepth 100000 in
theorem cX5_refuse_479 (l : Launch) (D : va_G) (hlt : l.stackTraces = false) (h0 : Nat) (v0 : Value) (v1 : Value) (v2 : Value) (v3 : Value) (v4 : Value) (v5 : Value) (v6 : Value) (v7 : Value) (v8 : Value) (v9 : Value)   : CX l yX5_refuse cX5_refuse 4 none { frames := 6, cells := 1, slots := 6, locals := 90 } [.ref h0, .int 3, .int 5, .int 1] D [(h0, .inr (5, [v0, v1, v2, v3, v4, v5, v6, v7, v8, v9]))] [] XX [(h0, .inr (5, [v0, v1, v2, v3, v4, v5, v6, v7, v8, v9]))] xv "java/lang/IllegalStateException" 1 6 := by
  refine CX.ofW (by decide +kernel) (Nat.le_of_ble_eq_true rfl) ?_
  intro p e s m below meth c A ls hcs hout hP hK hD hX hA hS hl
  obtain ⟨hx, hb, hr, hml, hown, hg, hlocks, hin⟩ := hcs
  have hown : s.vm.findClass RX5 = some m.cls := hown
  have hl : lv_has ls 4 [(0, .ref h0), (1, .int 3), (2, .int 5), (3, .int 1)] := hl
  refine lv_aload_n hx hb dX5_refuse_0 rfl (lv_at hl 0 rfl) ?_
  refine lv_iload_n hx hb dX5_refuse_1 rfl (lv_at hl 1 rfl) ?_
  refine va_put (D := D) (ci := 5) (v := .int 3) (ty := .int) (C := RX5) (T := TX5) (N := 10) hx hb hg inX5 tyX5 tyX5_ok nmX5 hown hK hP hD hS 0 rfl rfl 7 (by decide) (hg _ k386) (fun _ h9 => h9) rfl (by decide +kernel) rfl rfl (Nat.le_of_ble_eq_true rfl) dX5_refuse_2 (fun H locs hP hD hS => ?_)
  have hP : va_P D vwCl [(h0, .inr (5, [v0, v1, v2, v3, v4, v5, v6, .int 3, v8, v9]))] H := hP
  have hD : va_D A [(h0, .inr (5, [v0, v1, v2, v3, v4, v5, v6, .int 3, v8, v9]))] := hD
  refine lv_aload_n hx hb dX5_refuse_5 rfl (lv_at hl 0 rfl) ?_
  refine lv_iload_n hx hb dX5_refuse_6 rfl (lv_at hl 2 rfl) ?_
  refine va_put (D := D) (ci := 5) (v := .int 5) (ty := .int) (C := RX5) (T := TX5) (N := 10) hx hb hg inX5 tyX5 tyX5_ok nmX5 hown hK hP hD hS 0 rfl rfl 8 (by decide) (hg _ k387) (fun _ h9 => h9) rfl (by decide +kernel) rfl rfl (Nat.le_of_ble_eq_true rfl) dX5_refuse_7 (fun H locs hP hD hS => ?_)
  have hP : va_P D vwCl [(h0, .inr (5, [v0, v1, v2, v3, v4, v5, v6, .int 3, .int 5, v9]))] H := hP
  have hD : va_D A [(h0, .inr (5, [v0, v1, v2, v3, v4, v5, v6, .int 3, .int 5, v9]))] := hD
  refine lv_aload_n hx hb dX5_refuse_10 rfl (lv_at hl 0 rfl) ?_
  refine lv_iload_n hx hb dX5_refuse_11 rfl (lv_at hl 3 rfl) ?_
  refine va_put (D := D) (ci := 5) (v := .int 1) (ty := .int) (C := RX5) (T := TX5) (N := 10) hx hb hg inX5 tyX5 tyX5_ok nmX5 hown hK hP hD hS 0 rfl rfl 9 (by decide) (hg _ k388) (fun _ h9 => h9) rfl (by decide +kernel) rfl rfl (Nat.le_of_ble_eq_true rfl) dX5_refuse_12 (fun H locs hP hD hS => ?_)
  have hP : va_P D vwCl [(h0, .inr (5, [v0, v1, v2, v3, v4, v5, v6, .int 3, .int 5, .int 1]))] H := hP
  have hD : va_D A [(h0, .inr (5, [v0, v1, v2, v3, v4, v5, v6, .int 3, .int 5, .int 1]))] := hD
  obtain ⟨sa, hsa⟩ := XX_sRX5_325 hX
  exact thSW_ISE hx hb hlt hown (hg _ k993) (hg _ k104) hsa hg hX hS (hl.1.trans hml.symm) dX5_refuse_15 dX5_refuse_18 dX5_refuse_19 dX5_refuse_22 dX5_refuse_25 hout (Nat.le_of_ble_eq_true rfl) (Nat.le_of_ble_eq_true rfl) (Nat.le_of_ble_eq_true rfl) (Nat.le_of_ble_eq_true rfl) hlocks (Nat.le_of_ble_eq_true rfl) (Nat.le_of_ble_eq_true rfl)
set_option maxHeartbeats 4000000 in
set_option maxRecDepth 100000 in
theorem cX5_lift_478 (l : Launch) (D : va_G) (hlt : l.stackTraces = false) (h0 : Nat) (h1 : Nat) (h2 : Nat) (h3 : Nat) (v0 : Value) (v1 : Value) (v2 : Value) (v3 : Value) (v4 : Value) (v5 : Value) (v6 : Value) (v7 : Value) (v8 : Value) (v9 : Value) (v10 : Value) (v11 : Value) (v12 : Value) (v13 : Value) (v14 : Value) (v15 : Value) (v16 : Value) (v17 : Value) (v18 : Value) (v19 : Value) (v20 : Value) (v21 : Value) (v22 : Value) (v23 : Value) (v24 : Value) (v25 : Value) (f0 : Nat → Int32) (a0 : ClassId) (ef0_1 : f0 1 = (-1))  : CX l yX5_lift cX5_lift 2 (some .long) { frames := 7, cells := 1, slots := 6, locals := 113 } [.ref h0, .int 1] D [(h0, .inr (5, [v0, .ref h1, v1, .ref h2, v2, v3, v4, v5, v6, v7])), (h1, .inr (0, [v8, v9, .int 2, v10, v11, v12, v13])), (h2, .inr (1, [v14, v15, v16, .ref h3, v17, v18, v19, v20, v21, v22, v23, v24, v25])), (h3, .inl (a0, 48, .inl f0))] [(a0, .int)] XX [(h0, .inr (5, [v0, .ref h1, v1, .ref h2, v2, v3, v4, v5, v6, v7])), (h1, .inr (0, [v8, v9, .int 2, v10, v11, v12, v13])), (h2, .inr (1, [v14, v15, v16, .ref h3, v17, v18, v19, v20, v21, v22, v23, v24, v25])), (h3, .inl (a0, 48, .inl f0))] xl "java/lang/IllegalStateException" 1 6 := by
  refine CX.ofW (by decide +kernel) (Nat.le_of_ble_eq_true rfl) ?_
  intro p e s m below meth c A ls hcs hout hP hK hD hX hA hS hl
  obtain ⟨hx, hb, hr, hml, hown, hg, hlocks, hin⟩ := hcs
  have hown : s.vm.findClass RX5 = some m.cls := hown
  have hl : lv_has ls 2 [(0, .ref h0), (1, .int 1)] := hl
  refine lv_iload_n hx hb dX5_lift_0 rfl (lv_at hl 1 rfl) ?_
  refine lv_aload_n hx hb dX5_lift_1 rfl (lv_at hl 0 rfl) ?_
  refine va_get (D := D) (ci := 5) (v := .ref h1) (C := RX5) (T := TX5) (N := 10) hx hb hg inX5 hown hK hP 0 rfl rfl 1 (by decide) (hg _ k380) (fun _ h9 => h9) rfl dX5_lift_2 ?_
  refine va_get (D := D) (ci := 0) (v := .int 2) (C := RX0) (T := TX0) (N := 7) hx hb hg inX0 hown hK hP 1 rfl rfl 2 (by decide) (hg _ k163) (fun _ h9 => h9) rfl dX5_lift_5 ?_
  refine cSv (n := 2) (As := [.int 1, .int 2]) (rest := []) (wr := [(h0, .inr (5, [v0, .ref h1, v1, .ref h2, v2, v3, v4, v5, v6, v7])), (h1, .inr (0, [v8, v9, .int 2, v10, v11, v12, v13])), (h2, .inr (1, [v14, v15, v16, .ref h3, v17, v18, v19, v20, v21, v22, v23, v24, v25])), (h3, .inl (a0, 48, .inl f0))]) (tr := [(a0, .int)]) hx hb hml hown hg okN (cX5_needIndex_355 l D) (mwS k610 k611 k84 k612) ⟨rfl, by decide, by decide, by decide +kernel⟩ ⟨rfl, rfl, (Nat.le_of_ble_eq_true rfl), (Nat.le_of_ble_eq_true rfl)⟩ hP hD hK hS xn [] [] [0, 1, 2, 3] [] [0] rfl (by decide) rfl rfl (by decide) (by decide) rfl rfl (aNil hA hS) (aNil hA hS) rfl hl.1 rfl (Nat.le_of_ble_eq_true rfl) dX5_lift_8 ⟨(Nat.le_of_ble_eq_true rfl), (Nat.le_of_ble_eq_true rfl)⟩ (fun u H locs hφ hP hD hK hS hk => ?_)
  have hP : va_P D vwCl [(h0, .inr (5, [v0, .ref h1, v1, .ref h2, v2, v3, v4, v5, v6, v7])), (h1, .inr (0, [v8, v9, .int 2, v10, v11, v12, v13])), (h2, .inr (1, [v14, v15, v16, .ref h3, v17, v18, v19, v20, v21, v22, v23, v24, v25])), (h3, .inl (a0, 48, .inl f0))] H := hP
  have hD : va_D A [(h0, .inr (5, [v0, .ref h1, v1, .ref h2, v2, v3, v4, v5, v6, v7])), (h1, .inr (0, [v8, v9, .int 2, v10, v11, v12, v13])), (h2, .inr (1, [v14, v15, v16, .ref h3, v17, v18, v19, v20, v21, v22, v23, v24, v25])), (h3, .inl (a0, 48, .inl f0))] := hD
  have hK : va_K D vwCl [(a0, .int)] s := hK
  refine W.widen (k := 0) (n := 0) (Nat.le_of_ble_eq_true rfl) (Nat.le_of_ble_eq_true rfl) ?_
  refine lv_aload_n hx hb dX5_lift_11 rfl (lv_at hl 0 rfl) ?_
  refine va_get (D := D) (ci := 5) (v := .ref h2) (C := RX5) (T := TX5) (N := 10) hx hb hg inX5 hown hK hP 0 rfl rfl 3 (by decide) (hg _ k382) (fun _ h9 => h9) rfl dX5_lift_12 ?_
  refine lv_iload_n hx hb dX5_lift_15 rfl (lv_at hl 1 rfl) ?_
  refine cVi (n := 1) (As := [.int 1]) (rest := []) (wr := [(h0, .inr (5, [v0, .ref h1, v1, .ref h2, v2, v3, v4, v5, v6, v7])), (h1, .inr (0, [v8, v9, .int 2, v10, v11, v12, v13])), (h2, .inr (1, [v14, v15, v16, .ref h3, v17, v18, v19, v20, v21, v22, v23, v24, v25])), (h3, .inl (a0, 48, .inl f0))]) (tr := [(a0, .int)]) hx hb hml hown hg okN (cX1_isPresent_337 l D h2 h3 v14 v15 v16 v17 v18 v19 v20 v21 v22 v23 v24 v25 f0 a0 ef0_1) (mwV k861 k460 k461 k87 k462) ⟨rfl, by decide, by decide, by decide +kernel⟩ ⟨rfl, rfl, (Nat.le_of_ble_eq_true rfl), (Nat.le_of_ble_eq_true rfl)⟩ hP hD hK hS xn [2, 3] [] [0, 1, 2, 3] [0] [0] rfl (by decide) rfl rfl (by decide) (by decide) rfl rfl (aNil hA hS) (aNil hA hS) 2 rfl rfl rfl hl.1 rfl (Nat.le_of_ble_eq_true rfl) dX5_lift_16 ⟨(Nat.le_of_ble_eq_true rfl), (Nat.le_of_ble_eq_true rfl)⟩ (fun u H locs hφ hP hD hK hS hk => ?_)
  have hP : va_P D vwCl [(h0, .inr (5, [v0, .ref h1, v1, .ref h2, v2, v3, v4, v5, v6, v7])), (h1, .inr (0, [v8, v9, .int 2, v10, v11, v12, v13])), (h2, .inr (1, [v14, v15, v16, .ref h3, v17, v18, v19, v20, v21, v22, v23, v24, v25])), (h3, .inl (a0, 48, .inl f0))] H := hP
  have hD : va_D A [(h0, .inr (5, [v0, .ref h1, v1, .ref h2, v2, v3, v4, v5, v6, v7])), (h1, .inr (0, [v8, v9, .int 2, v10, v11, v12, v13])), (h2, .inr (1, [v14, v15, v16, .ref h3, v17, v18, v19, v20, v21, v22, v23, v24, v25])), (h3, .inl (a0, 48, .inl f0))] := hD
  have hK : va_K D vwCl [(a0, .int)] s := hK
  refine W.widen (k := 0) (n := 0) (Nat.le_of_ble_eq_true rfl) (Nat.le_of_ble_eq_true rfl) ?_
  refine lv_if_ne (tgt := 29) hx hb dX5_lift_19 (by decide) (fun _ => ?_) (fun c9 => absurd c9 (by decide))
  refine lv_iload_n hx hb dX5_lift_29 rfl (lv_at hl 1 rfl) ?_
  refine lv_if_eq (tgt := 46) hx hb dX5_lift_30 (by decide) (fun c9 => absurd c9 (by decide)) (fun _ => ?_)
  refine lv_iload_n hx hb dX5_lift_33 rfl (lv_at hl 1 rfl) ?_
  refine lv_aload_n hx hb dX5_lift_34 rfl (lv_at hl 0 rfl) ?_
  refine va_get (D := D) (ci := 5) (v := .ref h1) (C := RX5) (T := TX5) (N := 10) hx hb hg inX5 hown hK hP 0 rfl rfl 1 (by decide) (hg _ k380) (fun _ h9 => h9) rfl dX5_lift_35 ?_
  refine va_get (D := D) (ci := 0) (v := .int 2) (C := RX0) (T := TX0) (N := 7) hx hb hg inX0 hown hK hP 1 rfl rfl 2 (by decide) (hg _ k163) (fun _ h9 => h9) rfl dX5_lift_38 ?_
  refine lv_iconst (v := 1) hx hb dX5_lift_41 (by decide) ?_
  refine lv_isub hx hb dX5_lift_42 ?_
  refine ti (1) (by decide) ?_
  refine lv_icmp_ne (tgt := 53) hx hb dX5_lift_43 (by decide) (fun c9 => absurd (by decide) c9) (fun _ => ?_)
  refine lv_aload_n hx hb dX5_lift_46 rfl (lv_at hl 0 rfl) ?_
  refine lv_iconst (v := 3) hx hb dX5_lift_47 (by decide) ?_
  refine lv_iconst (v := 5) hx hb dX5_lift_48 (by decide) ?_
  refine lv_iload_n hx hb dX5_lift_49 rfl (lv_at hl 1 rfl) ?_
  exact xVv (n := 3) (As := [.int 3, .int 5, .int 1]) (rest := []) hx hb hml hown hg okXX (cX5_refuse_479 l D hlt h0 v0 (.ref h1) v1 (.ref h2) v2 v3 v4 v5 v6 v7) (mwV k989 k991 k30 k84 k992) ⟨rfl, by decide, by decide, by decide +kernel⟩ ⟨rfl, rfl, (Nat.le_of_ble_eq_true rfl), (Nat.le_of_ble_eq_true rfl)⟩ hP hD hK hS (okXX.2.2 _ _ _ _ hS.2.1 hX) [0] [] rfl (by decide) rfl (va_free hD hS hA [0] rfl) 0 rfl rfl rfl hl.1 rfl (Nat.le_of_ble_eq_true rfl) dX5_lift_50 ⟨(Nat.le_of_ble_eq_true rfl), (Nat.le_of_ble_eq_true rfl)⟩ hout hlocks (Nat.le_of_ble_eq_true rfl) (Nat.le_of_ble_eq_true rfl)
set_option maxHeartbeats 4000000 in
set_option maxRecDepth 100000 in
theorem cX5_lift_480 (l : Launch) (D : va_G) (hlt : l.stackTraces = false) (h0 : Nat) (x0 : Int32) (h1 : Nat) (v0 : Value) (v1 : Value) (v2 : Value) (v3 : Value) (v4 : Value) (v5 : Value) (v6 : Value) (v7 : Value) (v8 : Value) (v9 : Value) (v10 : Value) (v11 : Value) (v12 : Value) (v13 : Value) (v14 : Value)  (d0 : ¬ (x0 < 0)) (d1 : ¬ (x0 < 2)) : CX l yX5_lift cX5_lift 2 (some .long) { frames := 7, cells := 1, slots := 6, locals := 111 } [.ref h0, .int x0] D [(h0, .inr (5, [v0, .ref h1, v1, v2, v3, v4, v5, v6, v7, v8])), (h1, .inr (0, [v9, v10, .int 2, v11, v12, v13, v14]))] [] XX [] xl "java/lang/IndexOutOfBoundsException" 1 6 := by
  refine CX.ofR (by decide +kernel) (Nat.le_of_ble_eq_true rfl) ?_
  intro p e s m below meth c A ls hcs hout hP hK hD hX hA hS hl
  obtain ⟨hx, hb, hr, hml, hown, hg, hlocks, hin⟩ := hcs
  have hown : s.vm.findClass RX5 = some m.cls := hown
  have hl : lv_has ls 2 [(0, .ref h0), (1, .int x0)] := hl
  refine lv_iload_n hx hb dX5_lift_0 rfl (lv_at hl 1 rfl) ?_
  refine lv_aload_n hx hb dX5_lift_1 rfl (lv_at hl 0 rfl) ?_
  refine va_get (D := D) (ci := 5) (v := .ref h1) (C := RX5) (T := TX5) (N := 10) hx hb hg inX5 hown hK hP 0 rfl rfl 1 (by decide) (hg _ k380) (fun _ h9 => h9) rfl dX5_lift_2 ?_
  refine va_get (D := D) (ci := 0) (v := .int 2) (C := RX0) (T := TX0) (N := 7) hx hb hg inX0 hown hK hP 1 rfl rfl 2 (by decide) (hg _ k163) (fun _ h9 => h9) rfl dX5_lift_5 ?_
  exact xSv (n := 2) (As := [.int x0, .int 2]) (rest := []) hx hb hml hown hg okXX (cX5_needIndex_341 l D hlt x0 d0 d1) (mwS k610 k611 k84 k612) ⟨rfl, by decide, by decide, by decide +kernel⟩ ⟨rfl, rfl, (Nat.le_of_ble_eq_true rfl), (Nat.le_of_ble_eq_true rfl)⟩ hP hD hK hS (okXX.2.2 _ _ _ _ hS.2.1 hX) [] [] rfl (by decide) rfl (aNil hA hS) rfl hl.1 rfl (Nat.le_of_ble_eq_true rfl) dX5_lift_8 ⟨(Nat.le_of_ble_eq_true rfl), (Nat.le_of_ble_eq_true rfl)⟩ hout hlocks (Nat.le_of_ble_eq_true rfl) (Nat.le_of_ble_eq_true rfl)
set_option maxHeartbeats 4000000 in
set_option maxRecDepth 100000 in
theorem cX5_inverse_481 (l : Launch) (D : va_G) (hlt : l.stackTraces = false) (h0 : Nat) (x0 : Int32)  (d0 : x0 < 1) : CX l yX5_inverse cX5_inverse 2 (some .int) { frames := 7, cells := 1, slots := 6, locals := 112 } [.ref h0, .int x0] D [] [] XX [] xi "java/lang/IllegalArgumentException" 1 6 := by
  refine CX.ofR (by decide +kernel) (Nat.le_of_ble_eq_true rfl) ?_
  intro p e s m below meth c A ls hcs hout hP hK hD hX hA hS hl
  obtain ⟨hx, hb, hr, hml, hown, hg, hlocks, hin⟩ := hcs
  have hown : s.vm.findClass RX5 = some m.cls := hown
  have hl : lv_has ls 2 [(0, .ref h0), (1, .int x0)] := hl
  refine lv_iload_n hx hb dX5_inverse_0 rfl (lv_at hl 1 rfl) ?_
  refine lv_iconst (v := 1) hx hb dX5_inverse_1 (by decide) ?_
  refine lv_bipush (v := 46) hx hb dX5_inverse_2 (by decide) ?_
  exact xSv (n := 3) (As := [.int x0, .int 1, .int 46]) (rest := []) hx hb hml hown hg okXX (cX5_needRange_468 l D hlt x0 d0) (mwS k909 k910 k84 k911) ⟨rfl, by decide, by decide, by decide +kernel⟩ ⟨rfl, rfl, (Nat.le_of_ble_eq_true rfl), (Nat.le_of_ble_eq_true rfl)⟩ hP hD hK hS (okXX.2.2 _ _ _ _ hS.2.1 hX) [] [] rfl (by decide) rfl (aNil hA hS) rfl hl.1 rfl (Nat.le_of_ble_eq_true rfl) dX5_inverse_4 ⟨(Nat.le_of_ble_eq_true rfl), (Nat.le_of_ble_eq_true rfl)⟩ hout hlocks (Nat.le_of_ble_eq_true rfl) (Nat.le_of_ble_eq_true rfl)
set_option maxHeartbeats 4000000 in
set_option maxRecDepth 100000 in
theorem cX5_refuse_483 (l : Launch) (D : va_G) (hlt : l.stackTraces = false) (h0 : Nat) (v0 : Value) (v1 : Value) (v2 : Value) (v3 : Value) (v4 : Value) (v5 : Value) (v6 : Value) (v7 : Value) (v8 : Value) (v9 : Value)   : CX l yX5_refuse cX5_refuse 4 none { frames := 6, cells := 1, slots := 6, locals := 90 } [.ref h0, .int 2, .int 0, .int (-1)] D [(h0, .inr (5, [v0, v1, v2, v3, v4, v5, v6, v7, v8, v9]))] [] XX [(h0, .inr (5, [v0, v1, v2, v3, v4, v5, v6, v7, v8, v9]))] xv "java/lang/IllegalStateException" 1 6 := by
  refine CX.ofW (by decide +kernel) (Nat.le_of_ble_eq_true rfl) ?_
  intro p e s m below meth c A ls hcs hout hP hK hD hX hA hS hl
  obtain ⟨hx, hb, hr, hml, hown, hg, hlocks, hin⟩ := hcs
  have hown : s.vm.findClass RX5 = some m.cls := hown
  have hl : lv_has ls 4 [(0, .ref h0), (1, .int 2), (2, .int 0), (3, .int (-1))] := hl
  refine lv_aload_n hx hb dX5_refuse_0 rfl (lv_at hl 0 rfl) ?_
  refine lv_iload_n hx hb dX5_refuse_1 rfl (lv_at hl 1 rfl) ?_
  refine va_put (D := D) (ci := 5) (v := .int 2) (ty := .int) (C := RX5) (T := TX5) (N := 10) hx hb hg inX5 tyX5 tyX5_ok nmX5 hown hK hP hD hS 0 rfl rfl 7 (by decide) (hg _ k386) (fun _ h9 => h9) rfl (by decide +kernel) rfl rfl (Nat.le_of_ble_eq_true rfl) dX5_refuse_2 (fun H locs hP hD hS => ?_)
  have hP : va_P D vwCl [(h0, .inr (5, [v0, v1, v2, v3, v4, v5, v6, .int 2, v8, v9]))] H := hP
  have hD : va_D A [(h0, .inr (5, [v0, v1, v2, v3, v4, v5, v6, .int 2, v8, v9]))] := hD
  refine lv_aload_n hx hb dX5_refuse_5 rfl (lv_at hl 0 rfl) ?_
  refine lv_iload_n hx hb dX5_refuse_6 rfl (lv_at hl 2 rfl) ?_
  refine va_put (D := D) (ci := 5) (v := .int 0) (ty := .int) (C := RX5) (T := TX5) (N := 10) hx hb hg inX5 tyX5 tyX5_ok nmX5 hown hK hP hD hS 0 rfl rfl 8 (by decide) (hg _ k387) (fun _ h9 => h9) rfl (by decide +kernel) rfl rfl (Nat.le_of_ble_eq_true rfl) dX5_refuse_7 (fun H locs hP hD hS => ?_)
  have hP : va_P D vwCl [(h0, .inr (5, [v0, v1, v2, v3, v4, v5, v6, .int 2, .int 0, v9]))] H := hP
  have hD : va_D A [(h0, .inr (5, [v0, v1, v2, v3, v4, v5, v6, .int 2, .int 0, v9]))] := hD
  refine lv_aload_n hx hb dX5_refuse_10 rfl (lv_at hl 0 rfl) ?_
  refine lv_iload_n hx hb dX5_refuse_11 rfl (lv_at hl 3 rfl) ?_
  refine va_put (D := D) (ci := 5) (v := .int (-1)) (ty := .int) (C := RX5) (T := TX5) (N := 10) hx hb hg inX5 tyX5 tyX5_ok nmX5 hown hK hP hD hS 0 rfl rfl 9 (by decide) (hg _ k388) (fun _ h9 => h9) rfl (by decide +kernel) rfl rfl (Nat.le_of_ble_eq_true rfl) dX5_refuse_12 (fun H locs hP hD hS => ?_)
  have hP : va_P D vwCl [(h0, .inr (5, [v0, v1, v2, v3, v4, v5, v6, .int 2, .int 0, .int (-1)]))] H := hP
  have hD : va_D A [(h0, .inr (5, [v0, v1, v2, v3, v4, v5, v6, .int 2, .int 0, .int (-1)]))] := hD
  obtain ⟨sa, hsa⟩ := XX_sRX5_325 hX
  exact thSW_ISE hx hb hlt hown (hg _ k993) (hg _ k104) hsa hg hX hS (hl.1.trans hml.symm) dX5_refuse_15 dX5_refuse_18 dX5_refuse_19 dX5_refuse_22 dX5_refuse_25 hout (Nat.le_of_ble_eq_true rfl) (Nat.le_of_ble_eq_true rfl) (Nat.le_of_ble_eq_true rfl) (Nat.le_of_ble_eq_true rfl) hlocks (Nat.le_of_ble_eq_true rfl) (Nat.le_of_ble_eq_true rfl)
set_option maxHeartbeats 4000000 in
set_option maxRecDepth 100000 in
theorem cX5_inverse_482 (l : Launch) (D : va_G) (hlt : l.stackTraces = false) (h0 : Nat) (x0 : Int32) (h1 : Nat) (v0 : Value) (v1 : Value) (v2 : Value) (v3 : Value) (v4 : Value) (v5 : Value) (v6 : Value) (v7 : Value) (v8 : Value) (v9 : Value) (v10 : Value) (v11 : Value) (v12 : Value) (v13 : Value) (v14 : Value) (v15 : Value) (v16 : Value) (v17 : Value) (v18 : Value) (v19 : Value) (v20 : Value)  (d0 : ¬ (x0 < 1)) (d1 : x0 ≤ 46) : CX l yX5_inverse cX5_inverse 2 (some .int) { frames := 7, cells := 1, slots := 6, locals := 113 } [.ref h0, .int x0] D [(h0, .inr (5, [v0, v1, v2, .ref h1, v3, v4, v5, v6, v7, v8])), (h1, .inr (1, [v9, v10, v11, v12, v13, .int 0, v14, v15, v16, v17, v18, v19, v20]))] [] XX [(h0, .inr (5, [v0, v1, v2, .ref h1, v3, v4, v5, v6, v7, v8])), (h1, .inr (1, [v9, v10, v11, v12, v13, .int 0, v14, v15, v16, v17, v18, v19, v20]))] xi "java/lang/IllegalStateException" 1 6 := by
  refine CX.ofW (by decide +kernel) (Nat.le_of_ble_eq_true rfl) ?_
  intro p e s m below meth c A ls hcs hout hP hK hD hX hA hS hl
  obtain ⟨hx, hb, hr, hml, hown, hg, hlocks, hin⟩ := hcs
  have hown : s.vm.findClass RX5 = some m.cls := hown
  have hl : lv_has ls 2 [(0, .ref h0), (1, .int x0)] := hl
  refine lv_iload_n hx hb dX5_inverse_0 rfl (lv_at hl 1 rfl) ?_
  refine lv_iconst (v := 1) hx hb dX5_inverse_1 (by decide) ?_
  refine lv_bipush (v := 46) hx hb dX5_inverse_2 (by decide) ?_
  refine cSv (n := 3) (As := [.int x0, .int 1, .int 46]) (rest := []) (wr := [(h0, .inr (5, [v0, v1, v2, .ref h1, v3, v4, v5, v6, v7, v8])), (h1, .inr (1, [v9, v10, v11, v12, v13, .int 0, v14, v15, v16, v17, v18, v19, v20]))]) (tr := []) hx hb hml hown hg okN (cX5_needRange_470 l D x0 d0 d1) (mwS k909 k910 k84 k911) ⟨rfl, by decide, by decide, by decide +kernel⟩ ⟨rfl, rfl, (Nat.le_of_ble_eq_true rfl), (Nat.le_of_ble_eq_true rfl)⟩ hP hD hK hS xn [] [] [0, 1] [] [] rfl (by decide) rfl rfl (by decide) (by decide) rfl rfl (aNil hA hS) (aNil hA hS) rfl hl.1 rfl (Nat.le_of_ble_eq_true rfl) dX5_inverse_4 ⟨(Nat.le_of_ble_eq_true rfl), (Nat.le_of_ble_eq_true rfl)⟩ (fun u H locs hφ hP hD hK hS hk => ?_)
  have hP : va_P D vwCl [(h0, .inr (5, [v0, v1, v2, .ref h1, v3, v4, v5, v6, v7, v8])), (h1, .inr (1, [v9, v10, v11, v12, v13, .int 0, v14, v15, v16, v17, v18, v19, v20]))] H := hP
  have hD : va_D A [(h0, .inr (5, [v0, v1, v2, .ref h1, v3, v4, v5, v6, v7, v8])), (h1, .inr (1, [v9, v10, v11, v12, v13, .int 0, v14, v15, v16, v17, v18, v19, v20]))] := hD
  have hK : va_K D vwCl [] s := hK
  refine W.widen (k := 0) (n := 0) (Nat.le_of_ble_eq_true rfl) (Nat.le_of_ble_eq_true rfl) ?_
  refine lv_aload_n hx hb dX5_inverse_7 rfl (lv_at hl 0 rfl) ?_
  refine va_get (D := D) (ci := 5) (v := .ref h1) (C := RX5) (T := TX5) (N := 10) hx hb hg inX5 hown hK hP 0 rfl rfl 3 (by decide) (hg _ k382) (fun _ h9 => h9) rfl dX5_inverse_8 ?_
  refine va_get (D := D) (ci := 1) (v := .int 0) (C := RX1) (T := TX1) (N := 13) hx hb hg inX1 hown hK hP 1 rfl rfl 5 (by decide) (hg _ k288) (fun _ h9 => h9) rfl dX5_inverse_11 ?_
  refine lv_if_ne (tgt := 24) hx hb dX5_inverse_14 (by decide) (fun c9 => absurd (by decide) c9) (fun _ => ?_)
  refine lv_aload_n hx hb dX5_inverse_17 rfl (lv_at hl 0 rfl) ?_
  refine lv_iconst (v := 2) hx hb dX5_inverse_18 (by decide) ?_
  refine lv_iconst (v := 0) hx hb dX5_inverse_19 (by decide) ?_
  refine lv_iconst (v := (-1)) hx hb dX5_inverse_20 (by decide) ?_
  exact xVv (n := 3) (As := [.int 2, .int 0, .int (-1)]) (rest := []) hx hb hml hown hg okXX (cX5_refuse_483 l D hlt h0 v0 v1 v2 (.ref h1) v3 v4 v5 v6 v7 v8) (mwV k989 k991 k30 k84 k992) ⟨rfl, by decide, by decide, by decide +kernel⟩ ⟨rfl, rfl, (Nat.le_of_ble_eq_true rfl), (Nat.le_of_ble_eq_true rfl)⟩ hP hD hK hS (okXX.2.2 _ _ _ _ hS.2.1 hX) [0] [] rfl (by decide) rfl (va_free hD hS hA [0] rfl) 0 rfl rfl rfl hl.1 rfl (Nat.le_of_ble_eq_true rfl) dX5_inverse_21 ⟨(Nat.le_of_ble_eq_true rfl), (Nat.le_of_ble_eq_true rfl)⟩ hout hlocks (Nat.le_of_ble_eq_true rfl) (Nat.le_of_ble_eq_true rfl)
set_option maxHeartbeats 4000000 in
set_option maxRecDepth 100000 in
theorem cX5_inverse_484 (l : Launch) (D : va_G) (hlt : l.stackTraces = false) (h0 : Nat) (x0 : Int32)  (d0 : ¬ (x0 < 1)) (d1 : ¬ (x0 ≤ 46)) : CX l yX5_inverse cX5_inverse 2 (some .int) { frames := 7, cells := 1, slots := 6, locals := 112 } [.ref h0, .int x0] D [] [] XX [] xi "java/lang/IllegalArgumentException" 1 6 := by
  refine CX.ofR (by decide +kernel) (Nat.le_of_ble_eq_true rfl) ?_
  intro p e s m below meth c A ls hcs hout hP hK hD hX hA hS hl
  obtain ⟨hx, hb, hr, hml, hown, hg, hlocks, hin⟩ := hcs
  have hown : s.vm.findClass RX5 = some m.cls := hown
  have hl : lv_has ls 2 [(0, .ref h0), (1, .int x0)] := hl
  refine lv_iload_n hx hb dX5_inverse_0 rfl (lv_at hl 1 rfl) ?_
  refine lv_iconst (v := 1) hx hb dX5_inverse_1 (by decide) ?_
  refine lv_bipush (v := 46) hx hb dX5_inverse_2 (by decide) ?_
  exact xSv (n := 3) (As := [.int x0, .int 1, .int 46]) (rest := []) hx hb hml hown hg okXX (cX5_needRange_474 l D hlt x0 d0 d1) (mwS k909 k910 k84 k911) ⟨rfl, by decide, by decide, by decide +kernel⟩ ⟨rfl, rfl, (Nat.le_of_ble_eq_true rfl), (Nat.le_of_ble_eq_true rfl)⟩ hP hD hK hS (okXX.2.2 _ _ _ _ hS.2.1 hX) [] [] rfl (by decide) rfl (aNil hA hS) rfl hl.1 rfl (Nat.le_of_ble_eq_true rfl) dX5_inverse_4 ⟨(Nat.le_of_ble_eq_true rfl), (Nat.le_of_ble_eq_true rfl)⟩ hout hlocks (Nat.le_of_ble_eq_true rfl) (Nat.le_of_ble_eq_true rfl)
set_option maxHeartbeats 4000000 in
set_option maxRecDepth 100000 in
theorem cX5_setDetail_485 (l : Launch) (D : va_G) (hlt : l.stackTraces = false) (h0 : Nat) (x0 : Int32) (x1 : Int32) (h1 : Nat) (v0 : Value) (v1 : Value) (v2 : Value) (v3 : Value) (v4 : Value) (v5 : Value) (v6 : Value) (v7 : Value) (v8 : Value) (v9 : Value) (v10 : Value) (v11 : Value) (v12 : Value) (v13 : Value) (v14 : Value) (v15 : Value) (v16 : Value) (v17 : Value) (v18 : Value) (v19 : Value) (v20 : Value)  (d0 : x0 < 0) : CX l yX5_setDetail cX5_setDetail 5 (some .long) { frames := 7, cells := 1, slots := 6, locals := 111 } [.ref h0, .int x0, .int x1] D [(h0, .inr (5, [v0, v1, v2, .ref h1, v3, v4, v5, v6, v7, v8])), (h1, .inr (1, [v9, v10, v11, v12, v13, .int 0, v14, v15, v16, v17, v18, v19, v20]))] [] XX [] xl "java/lang/IndexOutOfBoundsException" 1 6 := by
  refine CX.ofR (by decide +kernel) (Nat.le_of_ble_eq_true rfl) ?_
  intro p e s m below meth c A ls hcs hout hP hK hD hX hA hS hl
  obtain ⟨hx, hb, hr, hml, hown, hg, hlocks, hin⟩ := hcs
  have hown : s.vm.findClass RX5 = some m.cls := hown
  have hl : lv_has ls 5 [(0, .ref h0), (1, .int x0), (2, .int x1)] := hl
  refine lv_iload_n hx hb dX5_setDetail_0 rfl (lv_at hl 1 rfl) ?_
  refine lv_aload_n hx hb dX5_setDetail_1 rfl (lv_at hl 0 rfl) ?_
  refine va_get (D := D) (ci := 5) (v := .ref h1) (C := RX5) (T := TX5) (N := 10) hx hb hg inX5 hown hK hP 0 rfl rfl 3 (by decide) (hg _ k382) (fun _ h9 => h9) rfl dX5_setDetail_2 ?_
  refine va_get (D := D) (ci := 1) (v := .int 0) (C := RX1) (T := TX1) (N := 13) hx hb hg inX1 hown hK hP 1 rfl rfl 5 (by decide) (hg _ k288) (fun _ h9 => h9) rfl dX5_setDetail_5 ?_
  exact xSv (n := 2) (As := [.int x0, .int 0]) (rest := []) hx hb hml hown hg okXX (cX5_needIndex_381 l D hlt x0 d0) (mwS k610 k611 k84 k612) ⟨rfl, by decide, by decide, by decide +kernel⟩ ⟨rfl, rfl, (Nat.le_of_ble_eq_true rfl), (Nat.le_of_ble_eq_true rfl)⟩ hP hD hK hS (okXX.2.2 _ _ _ _ hS.2.1 hX) [] [] rfl (by decide) rfl (aNil hA hS) rfl hl.1 rfl (Nat.le_of_ble_eq_true rfl) dX5_setDetail_8 ⟨(Nat.le_of_ble_eq_true rfl), (Nat.le_of_ble_eq_true rfl)⟩ hout hlocks (Nat.le_of_ble_eq_true rfl) (Nat.le_of_ble_eq_true rfl)
set_option maxHeartbeats 4000000 in
set_option maxRecDepth 100000 in
theorem cX5_setDetail_486 (l : Launch) (D : va_G) (hlt : l.stackTraces = false) (h0 : Nat) (x0 : Int32) (x1 : Int32) (h1 : Nat) (v0 : Value) (v1 : Value) (v2 : Value) (v3 : Value) (v4 : Value) (v5 : Value) (v6 : Value) (v7 : Value) (v8 : Value) (v9 : Value) (v10 : Value) (v11 : Value) (v12 : Value) (v13 : Value) (v14 : Value) (v15 : Value) (v16 : Value) (v17 : Value) (v18 : Value) (v19 : Value) (v20 : Value)  (d0 : ¬ (x0 < 0)) : CX l yX5_setDetail cX5_setDetail 5 (some .long) { frames := 7, cells := 1, slots := 6, locals := 111 } [.ref h0, .int x0, .int x1] D [(h0, .inr (5, [v0, v1, v2, .ref h1, v3, v4, v5, v6, v7, v8])), (h1, .inr (1, [v9, v10, v11, v12, v13, .int 0, v14, v15, v16, v17, v18, v19, v20]))] [] XX [] xl "java/lang/IndexOutOfBoundsException" 1 6 := by
  refine CX.ofR (by decide +kernel) (Nat.le_of_ble_eq_true rfl) ?_
  intro p e s m below meth c A ls hcs hout hP hK hD hX hA hS hl
  obtain ⟨hx, hb, hr, hml, hown, hg, hlocks, hin⟩ := hcs
  have hown : s.vm.findClass RX5 = some m.cls := hown
  have hl : lv_has ls 5 [(0, .ref h0), (1, .int x0), (2, .int x1)] := hl
  refine lv_iload_n hx hb dX5_setDetail_0 rfl (lv_at hl 1 rfl) ?_
  refine lv_aload_n hx hb dX5_setDetail_1 rfl (lv_at hl 0 rfl) ?_
  refine va_get (D := D) (ci := 5) (v := .ref h1) (C := RX5) (T := TX5) (N := 10) hx hb hg inX5 hown hK hP 0 rfl rfl 3 (by decide) (hg _ k382) (fun _ h9 => h9) rfl dX5_setDetail_2 ?_
  refine va_get (D := D) (ci := 1) (v := .int 0) (C := RX1) (T := TX1) (N := 13) hx hb hg inX1 hown hK hP 1 rfl rfl 5 (by decide) (hg _ k288) (fun _ h9 => h9) rfl dX5_setDetail_5 ?_
  exact xSv (n := 2) (As := [.int x0, .int 0]) (rest := []) hx hb hml hown hg okXX (cX5_needIndex_383 l D hlt x0 d0) (mwS k610 k611 k84 k612) ⟨rfl, by decide, by decide, by decide +kernel⟩ ⟨rfl, rfl, (Nat.le_of_ble_eq_true rfl), (Nat.le_of_ble_eq_true rfl)⟩ hP hD hK hS (okXX.2.2 _ _ _ _ hS.2.1 hX) [] [] rfl (by decide) rfl (aNil hA hS) rfl hl.1 rfl (Nat.le_of_ble_eq_true rfl) dX5_setDetail_8 ⟨(Nat.le_of_ble_eq_true rfl), (Nat.le_of_ble_eq_true rfl)⟩ hout hlocks (Nat.le_of_ble_eq_true rfl) (Nat.le_of_ble_eq_true rfl)
