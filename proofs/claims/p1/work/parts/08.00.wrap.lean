set_option maxHeartbeats 4000000 in
set_option maxRecDepth 100000 in
theorem cL_truncate_600 (l : Launch) (D : va_G) (hlt : l.stackTraces = false) (h0 : Nat) (x0 : Int32) (h1 : Nat) (h2 : Nat) (v0 : Value) (v1 : Value) (v2 : Value) (v3 : Value) (v4 : Value) (v5 : Value) (v6 : Value) (v7 : Value) (v8 : Value) (v9 : Value) (v10 : Value) (v11 : Value) (v12 : Value) (v13 : Value) (v14 : Value) (v15 : Value)  (d0 : x0 < 0) : CH l yL_truncate cL_truncate 4 (some .int) [(0, 9, 12, 13)] { frames := 8, cells := 1, slots := 6, locals := 132 } [.ref h0, .int x0, .ref h1] D [(h0, .inr (5, [.ref h2, v0, v1, v2, v3, v4, v5, v6, v7, v8])), (h2, .inr (3, [v9, .int 0, v10, v11, v12, v13, v14, v15]))] [] XX [] (ei (fun _ : Unit => True) (fun _ => 1) (fun _ => []) (fun _ => []) D) 1 6 := by
  refine CH.ofR (by decide +kernel) (Nat.le_of_ble_eq_true rfl) ?_
  intro p e s m below meth c A ls hcs htab hP hK hD hX hA hS hl
  obtain ⟨hx, hb, hr, hml, hown, hg, hlocks, hin⟩ := hcs
  have hown : s.vm.findClass RL = some m.cls := hown
  have hl : lv_has ls 4 [(0, .ref h0), (1, .int x0), (2, .ref h1)] := hl
  refine lv_aload_n hx hb dL_truncate_0 rfl (lv_at hl 2 rfl) ?_
  refine lv_iconst (v := 0) hx hb dL_truncate_1 (by decide) ?_
  refine lv_aload_n hx hb dL_truncate_2 rfl (lv_at hl 0 rfl) ?_
  refine lv_iload_n hx hb dL_truncate_3 rfl (lv_at hl 1 rfl) ?_
  refine hVi (n := 1) (As := [.int x0]) (rest := [.int 0, .ref h1]) hx hb hml hown hg okXX (cX5_truncate_306 l D hlt h0 x0 h2 v0 v1 v2 v3 v4 v5 v6 v7 v8 v9 v10 v11 v12 v13 v14 v15 d0) (mwV k606 k607 k608 k84 k609) ⟨rfl, by decide, by decide, by decide +kernel⟩ ⟨rfl, rfl, (Nat.le_of_ble_eq_true rfl), (Nat.le_of_ble_eq_true rfl)⟩ hP hD hK hS (okXX.2.2 _ _ _ _ hS.2.1 hX) [0, 1] [] rfl (by decide) rfl (aNil hA hS) 0 rfl rfl rfl hl.1 rfl (Nat.le_of_ble_eq_true rfl) dL_truncate_4 ⟨(Nat.le_of_ble_eq_true rfl), (Nat.le_of_ble_eq_true rfl)⟩ [] { startPc := 0, endPc := 9, handlerPc := 12, catchType := 13 } [] (htab.trans rfl) (fun z hz => nomatch hz) (by decide) (by decide) (hg _ k605) (XX_cIOOBE hX) (fun q9 H locs hS hk => ?_)
  have hP : va_P D vwCl [] H := pNil
  have hD : va_D (fun _ => True) [] := dNil
  have hK : va_K D vwCl [] s := hK.sub [] rfl
  refine W.widen (k := 1) (n := 6) (Nat.le_of_ble_eq_true rfl) (Nat.le_of_ble_eq_true rfl) ?_
  refine lv_astore_n (lv' := [(3, .ref q9), (0, .ref h0), (1, .int x0), (2, .ref h1)]) hx hb dL_truncate_12 rfl hl (by decide) rfl (fun ls hl => ?_)
  refine lv_iconst (v := 1) hx hb dL_truncate_13 (by decide) ?_
  exact fi0 hx hb hr hlocks hK hS (Nat.le_of_ble_eq_true rfl) (Nat.le_of_ble_eq_true rfl) dL_truncate_14
set_option maxHeartbeats 4000000 in
set_option maxRecDepth 100000 in
theorem cX6_thrown_601 (l : Launch) (D : va_G) (h0 : Nat) (v0 : Value) (v1 : Value) (v2 : Value) (v3 : Value) (v4 : Value) (v5 : Value) (v6 : Value) (v7 : Value) (v8 : Value) (v9 : Value) (v10 : Value) (v11 : Value) (v12 : Value) (v13 : Value) (v14 : Value) (v15 : Value) (v16 : Value) (v17 : Value) (v18 : Value) (v19 : Value) (v20 : Value) (v21 : Value) (v22 : Value) (v23 : Value) (v24 : Value) (v25 : Value)   : CT l yX6_thrown cX6_thrown 1 (some .int) { frames := 0, cells := 0, slots := 0, locals := 0 } [.ref h0] D [(h0, .inr (6, [.int 1, v0, v1, v2, v3, v4, v5, v6, v7, v8, v9, v10, v11, v12, v13, v14, v15, v16, v17, v18, v19, v20, v21, v22, v23, v24, v25]))] [] XN [] (ei (fun _ : Unit => True) (fun _ => 1) (fun _ => []) (fun _ => []) D) 0 0 := by
  refine CT.ofR (by decide +kernel) (Nat.le_of_ble_eq_true rfl) ?_
  intro p e s m below meth c A ls hcs hP hK hD hX hA hS hl
  obtain ⟨hx, hb, hr, hml, hown, hg, hlocks, hin⟩ := hcs
  have hown : s.vm.findClass RX6 = some m.cls := hown
  have hl : lv_has ls 1 [(0, .ref h0)] := hl
  refine lv_aload_n hx hb dX6_thrown_0 rfl (lv_at hl 0 rfl) ?_
  refine va_get (D := D) (ci := 6) (v := .int 1) (C := RX6) (T := TX6) (N := 27) hx hb hg inX6 hown hK hP 0 rfl rfl 0 (by decide) (hg _ k1219) (fun _ h9 => h9) rfl dX6_thrown_1 ?_
  exact fi0 hx hb hr hlocks hK hS (Nat.le_of_ble_eq_true rfl) (Nat.le_of_ble_eq_true rfl) dX6_thrown_4
set_option maxHeartbeats 4000000 in
set_option maxRecDepth 100000 in
theorem cL_truncate_602 (l : Launch) (D : va_G) (h0 : Nat) (h1 : Nat) (h2 : Nat) (v0 : Value) (v1 : Value) (v2 : Value) (v3 : Value) (v4 : Value) (v5 : Value) (v6 : Value) (v7 : Value) (v8 : Value) (f0 : Nat → Int64) (v9 : Value) (v10 : Value) (v11 : Value) (v12 : Value) (v13 : Value) (v14 : Value) (v15 : Value) (a0 : ClassId)   : CH l yL_truncate cL_truncate 4 (some .int) [(0, 9, 12, 13)] { frames := 2, cells := 0, slots := 0, locals := 42 } [.ref h0, .int 0, .ref h1] D [(h0, .inr (5, [.ref h2, v0, v1, v2, v3, v4, v5, v6, v7, v8])), (h1, .inl (a0, 1, .inr (.inl f0))), (h2, .inr (3, [v9, .int 0, v10, v11, v12, v13, v14, v15]))] [(a0, .long)] XN [(h0, .inr (5, [.ref h2, v0, v1, v2, v3, v4, v5, v6, v7, v8])), (h1, .inl (a0, 1, .inr (.inl f0))), (h2, .inr (3, [v9, .int 0, v10, v11, v12, v13, v14, v15]))] (ei (fun _ : Unit => True) (fun u => 0) (fun _ => [(h0, .inr (5, [.ref h2, v0, v1, v2, v3, v4, v5, v6, v7, v8])), (h1, .inl (a0, 1, .inr (.inl (vp_updL f0 0 0)))), (h2, .inr (3, [v9, .int 0, v10, v11, v12, v13, v14, v15]))]) (fun u => [(a0, .long)]) D) 0 0 := by
  refine CH.ofW (by decide +kernel) (Nat.le_of_ble_eq_true rfl) ?_
  intro p e s m below meth c A ls hcs htab hP hK hD hX hA hS hl
  obtain ⟨hx, hb, hr, hml, hown, hg, hlocks, hin⟩ := hcs
  have hown : s.vm.findClass RL = some m.cls := hown
  have hl : lv_has ls 4 [(0, .ref h0), (1, .int 0), (2, .ref h1)] := hl
  refine lv_aload_n hx hb dL_truncate_0 rfl (lv_at hl 2 rfl) ?_
  refine lv_iconst (v := 0) hx hb dL_truncate_1 (by decide) ?_
  refine lv_aload_n hx hb dL_truncate_2 rfl (lv_at hl 0 rfl) ?_
  refine lv_iload_n hx hb dL_truncate_3 rfl (lv_at hl 1 rfl) ?_
  refine cVi (n := 1) (As := [.int 0]) (rest := [.int 0, .ref h1]) (wr := [(h1, .inl (a0, 1, .inr (.inl f0)))]) (tr := [(a0, .long)]) hx hb hml hown hg okN (cX5_truncate_308 l D h0 h2 v0 v1 v2 v3 v4 v5 v6 v7 v8 v9 v10 v11 v12 v13 v14 v15) (mwV k606 k607 k608 k84 k609) ⟨rfl, by decide, by decide, by decide +kernel⟩ ⟨rfl, rfl, (Nat.le_of_ble_eq_true rfl), (Nat.le_of_ble_eq_true rfl)⟩ hP hD hK hS xn [0, 2] [0, 2] [1] [] [0] rfl (by decide) rfl rfl (by decide) (by decide) rfl rfl (va_free hD hS hA [0, 2] rfl) (va_free hD hS hA [0, 2] rfl) 0 rfl rfl rfl hl.1 rfl (Nat.le_of_ble_eq_true rfl) dL_truncate_4 ⟨(Nat.le_of_ble_eq_true rfl), (Nat.le_of_ble_eq_true rfl)⟩ (fun u H locs hφ hP hD hK hS hk => ?_)
  have hP : va_P D vwCl [(h1, .inl (a0, 1, .inr (.inl f0))), (h0, .inr (5, [.ref h2, v0, v1, v2, v3, v4, v5, v6, v7, v8])), (h2, .inr (3, [v9, .int 0, v10, v11, v12, v13, v14, v15]))] H := hP
  have hD : va_D A [(h1, .inl (a0, 1, .inr (.inl f0))), (h0, .inr (5, [.ref h2, v0, v1, v2, v3, v4, v5, v6, v7, v8])), (h2, .inr (3, [v9, .int 0, v10, v11, v12, v13, v14, v15]))] := hD
  have hK : va_K D vwCl [(a0, .long)] s := hK
  refine W.widen (k := 0) (n := 0) (Nat.le_of_ble_eq_true rfl) (Nat.le_of_ble_eq_true rfl) ?_
  refine lv_i2l (v := 0) hx hb dL_truncate_7 (by decide) ?_
  refine astL hx hb hK hP hD hS 0 0 rfl rfl 0 (by decide) (vin (by decide)) dL_truncate_8 (fun H locs hP hD hS => ?_)
  have hP : va_P D vwCl [(h1, .inl (a0, 1, .inr (.inl (vp_updL f0 0 0)))), (h0, .inr (5, [.ref h2, v0, v1, v2, v3, v4, v5, v6, v7, v8])), (h2, .inr (3, [v9, .int 0, v10, v11, v12, v13, v14, v15]))] H := hP
  have hD : va_D A [(h1, .inl (a0, 1, .inr (.inl (vp_updL f0 0 0)))), (h0, .inr (5, [.ref h2, v0, v1, v2, v3, v4, v5, v6, v7, v8])), (h2, .inr (3, [v9, .int 0, v10, v11, v12, v13, v14, v15]))] := hD
  refine lv_goto (tgt := 15) hx hb dL_truncate_9 (by decide) ?_
  refine lv_iconst (v := 0) hx hb dL_truncate_15 (by decide) ?_
  exact fi hx hb hr hlocks hP hD hK hS (()) trivial rfl [1, 0, 2] [0] rfl (by decide) rfl (Nat.le_of_ble_eq_true rfl) (Nat.le_of_ble_eq_true rfl) dL_truncate_16
set_option maxHeartbeats 4000000 in
set_option maxRecDepth 100000 in
theorem cL_truncate_603 (l : Launch) (D : va_G) (hlt : l.stackTraces = false) (h0 : Nat) (x0 : Int32) (h1 : Nat) (h2 : Nat) (v0 : Value) (v1 : Value) (v2 : Value) (v3 : Value) (v4 : Value) (v5 : Value) (v6 : Value) (v7 : Value) (v8 : Value) (v9 : Value) (v10 : Value) (v11 : Value) (v12 : Value) (v13 : Value) (v14 : Value) (v15 : Value)  (d0 : ¬ (x0 < 0)) (d1 : ¬ (x0 < 1)) : CH l yL_truncate cL_truncate 4 (some .int) [(0, 9, 12, 13)] { frames := 8, cells := 1, slots := 6, locals := 132 } [.ref h0, .int x0, .ref h1] D [(h0, .inr (5, [.ref h2, v0, v1, v2, v3, v4, v5, v6, v7, v8])), (h2, .inr (3, [v9, .int 0, v10, v11, v12, v13, v14, v15]))] [] XX [] (ei (fun _ : Unit => True) (fun _ => 1) (fun _ => []) (fun _ => []) D) 1 6 := by
  refine CH.ofR (by decide +kernel) (Nat.le_of_ble_eq_true rfl) ?_
  intro p e s m below meth c A ls hcs htab hP hK hD hX hA hS hl
  obtain ⟨hx, hb, hr, hml, hown, hg, hlocks, hin⟩ := hcs
  have hown : s.vm.findClass RL = some m.cls := hown
  have hl : lv_has ls 4 [(0, .ref h0), (1, .int x0), (2, .ref h1)] := hl
  refine lv_aload_n hx hb dL_truncate_0 rfl (lv_at hl 2 rfl) ?_
  refine lv_iconst (v := 0) hx hb dL_truncate_1 (by decide) ?_
  refine lv_aload_n hx hb dL_truncate_2 rfl (lv_at hl 0 rfl) ?_
  refine lv_iload_n hx hb dL_truncate_3 rfl (lv_at hl 1 rfl) ?_
  refine hVi (n := 1) (As := [.int x0]) (rest := [.int 0, .ref h1]) hx hb hml hown hg okXX (cX5_truncate_310 l D hlt h0 x0 h2 v0 v1 v2 v3 v4 v5 v6 v7 v8 v9 v10 v11 v12 v13 v14 v15 d0 d1) (mwV k606 k607 k608 k84 k609) ⟨rfl, by decide, by decide, by decide +kernel⟩ ⟨rfl, rfl, (Nat.le_of_ble_eq_true rfl), (Nat.le_of_ble_eq_true rfl)⟩ hP hD hK hS (okXX.2.2 _ _ _ _ hS.2.1 hX) [0, 1] [] rfl (by decide) rfl (aNil hA hS) 0 rfl rfl rfl hl.1 rfl (Nat.le_of_ble_eq_true rfl) dL_truncate_4 ⟨(Nat.le_of_ble_eq_true rfl), (Nat.le_of_ble_eq_true rfl)⟩ [] { startPc := 0, endPc := 9, handlerPc := 12, catchType := 13 } [] (htab.trans rfl) (fun z hz => nomatch hz) (by decide) (by decide) (hg _ k605) (XX_cIOOBE hX) (fun q9 H locs hS hk => ?_)
  have hP : va_P D vwCl [] H := pNil
  have hD : va_D (fun _ => True) [] := dNil
  have hK : va_K D vwCl [] s := hK.sub [] rfl
  refine W.widen (k := 1) (n := 6) (Nat.le_of_ble_eq_true rfl) (Nat.le_of_ble_eq_true rfl) ?_
  refine lv_astore_n (lv' := [(3, .ref q9), (0, .ref h0), (1, .int x0), (2, .ref h1)]) hx hb dL_truncate_12 rfl hl (by decide) rfl (fun ls hl => ?_)
  refine lv_iconst (v := 1) hx hb dL_truncate_13 (by decide) ?_
  exact fi0 hx hb hr hlocks hK hS (Nat.le_of_ble_eq_true rfl) (Nat.le_of_ble_eq_true rfl) dL_truncate_14
set_option maxHeartbeats 4000000 in
set_option maxRecDepth 100000 in
theorem cL_load_604 (l : Launch) (D : va_G) (hlt : l.stackTraces = false) (h0 : Nat) (h1 : Nat) (h2 : Nat) (h3 : Nat) (v0 : Value) (v1 : Value) (v2 : Value) (v3 : Value) (v4 : Value) (v5 : Value) (v6 : Value) (v7 : Value) (v8 : Value) (v9 : Value) (v10 : Value) (v11 : Value) (v12 : Value) (v13 : Value) (v14 : Value) (v15 : Value) (v16 : Value) (v17 : Value) (v18 : Value) (v19 : Value) (v20 : Value) (v21 : Value)   : CH l yL_load cL_load 3 (some .int) [(0, 8, 11, 19)] { frames := 7, cells := 1, slots := 6, locals := 112 } [.ref h0, .ref h1] D [(h0, .inr (5, [.ref h2, v0, .ref h3, v1, v2, v3, v4, v5, v6, v7])), (h2, .inr (3, [v8, .int 0, v9, v10, v11, v12, v13, v14])), (h3, .inr (0, [v15, v16, v17, v18, v19, v20, v21]))] [] XX [(h0, .inr (5, [.ref h2, v0, .ref h3, v1, v2, v3, v4, v5, v6, v7])), (h2, .inr (3, [v8, .int 0, v9, v10, v11, v12, v13, v14])), (h3, .inr (0, [v15, v16, v17, v18, v19, v20, v21]))] (ei (fun _ : Unit => True) (fun u => 1) (fun _ => []) (fun u => []) D) 1 6 := by
  refine CH.ofW (by decide +kernel) (Nat.le_of_ble_eq_true rfl) ?_
  intro p e s m below meth c A ls hcs htab hP hK hD hX hA hS hl
  obtain ⟨hx, hb, hr, hml, hown, hg, hlocks, hin⟩ := hcs
  have hown : s.vm.findClass RL = some m.cls := hown
  have hl : lv_has ls 3 [(0, .ref h0), (1, .ref h1)] := hl
  refine lv_aload_n hx hb dL_load_0 rfl (lv_at hl 1 rfl) ?_
  refine lv_iconst (v := 0) hx hb dL_load_1 (by decide) ?_
  refine lv_aload_n hx hb dL_load_2 rfl (lv_at hl 0 rfl) ?_
  refine hVi (n := 0) (As := []) (rest := [.int 0, .ref h1]) hx hb hml hown hg okXX (cX5_load_312 l D hlt h0 h2 h3 v0 v1 v2 v3 v4 v5 v6 v7 v8 v9 v10 v11 v12 v13 v14 v15 v16 v17 v18 v19 v20 v21) (mwV k685 k686 k687 k84 k688) ⟨rfl, by decide, by decide, by decide +kernel⟩ ⟨rfl, rfl, (Nat.le_of_ble_eq_true rfl), (Nat.le_of_ble_eq_true rfl)⟩ hP hD hK hS (okXX.2.2 _ _ _ _ hS.2.1 hX) [0, 1, 2] [] rfl (by decide) rfl (va_free hD hS hA [0, 1, 2] rfl) 0 rfl rfl rfl hl.1 rfl (Nat.le_of_ble_eq_true rfl) dL_load_3 ⟨(Nat.le_of_ble_eq_true rfl), (Nat.le_of_ble_eq_true rfl)⟩ [] { startPc := 0, endPc := 8, handlerPc := 11, catchType := 19 } [] (htab.trans rfl) (fun z hz => nomatch hz) (by decide) (by decide) (hg _ k684) (XX_cIAE hX) (fun q9 H locs hS hk => ?_)
  have hP : va_P D vwCl [] H := pNil
  have hD : va_D A [] := dNil
  have hK : va_K D vwCl [] s := hK.sub [] rfl
  refine W.widen (k := 1) (n := 6) (Nat.le_of_ble_eq_true rfl) (Nat.le_of_ble_eq_true rfl) ?_
  refine lv_astore_n (lv' := [(2, .ref q9), (0, .ref h0), (1, .ref h1)]) hx hb dL_load_11 rfl hl (by decide) rfl (fun ls hl => ?_)
  refine lv_iconst (v := 1) hx hb dL_load_12 (by decide) ?_
  exact fi hx hb hr hlocks hP hD hK hS (()) trivial rfl [] [] rfl (by decide) rfl (Nat.le_of_ble_eq_true rfl) (Nat.le_of_ble_eq_true rfl) dL_load_13
set_option maxHeartbeats 4000000 in
set_option maxRecDepth 100000 in
theorem cL_count_605 (l : Launch) (D : va_G) (hlt : l.stackTraces = false) (h0 : Nat) (x0 : Int32) (h1 : Nat) (v0 : Value) (v1 : Value) (v2 : Value) (v3 : Value) (v4 : Value) (v5 : Value) (v6 : Value) (v7 : Value) (v8 : Value) (v9 : Value)  (d0 : x0.toInt < 0 ∨ 8 < x0.toInt) : CH l yL_count cL_count 4 (some .int) [(0, 9, 12, 19)] { frames := 7, cells := 1, slots := 6, locals := 111 } [.ref h0, .int x0, .ref h1] D [(h0, .inr (5, [v0, v1, v2, v3, v4, v5, v6, v7, v8, v9]))] [] XX [] (ei (fun _ : Unit => True) (fun _ => 1) (fun _ => []) (fun _ => []) D) 1 6 := by
  refine CH.ofR (by decide +kernel) (Nat.le_of_ble_eq_true rfl) ?_
  intro p e s m below meth c A ls hcs htab hP hK hD hX hA hS hl
  obtain ⟨hx, hb, hr, hml, hown, hg, hlocks, hin⟩ := hcs
  have hown : s.vm.findClass RL = some m.cls := hown
  have hl : lv_has ls 4 [(0, .ref h0), (1, .int x0), (2, .ref h1)] := hl
  refine lv_aload_n hx hb dL_count_0 rfl (lv_at hl 2 rfl) ?_
  refine lv_iconst (v := 0) hx hb dL_count_1 (by decide) ?_
  refine lv_aload_n hx hb dL_count_2 rfl (lv_at hl 0 rfl) ?_
  refine lv_iload_n hx hb dL_count_3 rfl (lv_at hl 1 rfl) ?_
  refine hVi (n := 1) (As := [.int x0]) (rest := [.int 0, .ref h1]) hx hb hml hown hg okXX (cX5_count_323 l D hlt h0 x0 d0) (mwV k837 k838 k839 k84 k840) ⟨rfl, by decide, by decide, by decide +kernel⟩ ⟨rfl, rfl, (Nat.le_of_ble_eq_true rfl), (Nat.le_of_ble_eq_true rfl)⟩ hP hD hK hS (okXX.2.2 _ _ _ _ hS.2.1 hX) [] [] rfl (by decide) rfl (aNil hA hS) 0 rfl rfl rfl hl.1 rfl (Nat.le_of_ble_eq_true rfl) dL_count_4 ⟨(Nat.le_of_ble_eq_true rfl), (Nat.le_of_ble_eq_true rfl)⟩ [] { startPc := 0, endPc := 9, handlerPc := 12, catchType := 19 } [] (htab.trans rfl) (fun z hz => nomatch hz) (by decide) (by decide) (hg _ k684) (XX_cIAE hX) (fun q9 H locs hS hk => ?_)
  have hP : va_P D vwCl [] H := pNil
  have hD : va_D (fun _ => True) [] := dNil
  have hK : va_K D vwCl [] s := hK.sub [] rfl
  refine W.widen (k := 1) (n := 6) (Nat.le_of_ble_eq_true rfl) (Nat.le_of_ble_eq_true rfl) ?_
  refine lv_astore_n (lv' := [(3, .ref q9), (0, .ref h0), (1, .int x0), (2, .ref h1)]) hx hb dL_count_12 rfl hl (by decide) rfl (fun ls hl => ?_)
  refine lv_iconst (v := 1) hx hb dL_count_13 (by decide) ?_
  exact fi0 hx hb hr hlocks hK hS (Nat.le_of_ble_eq_true rfl) (Nat.le_of_ble_eq_true rfl) dL_count_14
set_option maxHeartbeats 4000000 in
set_option maxRecDepth 100000 in
theorem cL_count_606 (l : Launch) (D : va_G) (h0 : Nat) (h1 : Nat) (h2 : Nat) (v0 : Value) (v1 : Value) (v2 : Value) (v3 : Value) (v4 : Value) (v5 : Value) (v6 : Value) (v7 : Value) (v8 : Value) (f0 : Nat → Int64) (v9 : Value) (v10 : Value) (v11 : Value) (v12 : Value) (v13 : Value) (v14 : Value) (a0 : ClassId)   : CH l yL_count cL_count 4 (some .int) [(0, 9, 12, 19)] { frames := 1, cells := 0, slots := 0, locals := 21 } [.ref h0, .int 0, .ref h1] D [(h0, .inr (5, [v0, .ref h2, v1, v2, v3, v4, v5, v6, v7, v8])), (h1, .inl (a0, 1, .inr (.inl f0))), (h2, .inr (0, [v9, v10, .int 2, v11, v12, v13, v14]))] [(a0, .long)] XN [(h0, .inr (5, [v0, .ref h2, v1, v2, v3, v4, v5, v6, v7, v8])), (h1, .inl (a0, 1, .inr (.inl f0))), (h2, .inr (0, [v9, v10, .int 2, v11, v12, v13, v14]))] (ei (fun _ : Unit => True) (fun u => 0) (fun _ => [(h0, .inr (5, [v0, .ref h2, v1, v2, v3, v4, v5, v6, v7, v8])), (h1, .inl (a0, 1, .inr (.inl (vp_updL f0 0 2)))), (h2, .inr (0, [v9, v10, .int 2, v11, v12, v13, v14]))]) (fun u => [(a0, .long)]) D) 0 0 := by
  refine CH.ofW (by decide +kernel) (Nat.le_of_ble_eq_true rfl) ?_
  intro p e s m below meth c A ls hcs htab hP hK hD hX hA hS hl
  obtain ⟨hx, hb, hr, hml, hown, hg, hlocks, hin⟩ := hcs
  have hown : s.vm.findClass RL = some m.cls := hown
  have hl : lv_has ls 4 [(0, .ref h0), (1, .int 0), (2, .ref h1)] := hl
  refine lv_aload_n hx hb dL_count_0 rfl (lv_at hl 2 rfl) ?_
  refine lv_iconst (v := 0) hx hb dL_count_1 (by decide) ?_
  refine lv_aload_n hx hb dL_count_2 rfl (lv_at hl 0 rfl) ?_
  refine lv_iload_n hx hb dL_count_3 rfl (lv_at hl 1 rfl) ?_
  refine cVi (n := 1) (As := [.int 0]) (rest := [.int 0, .ref h1]) (wr := [(h0, .inr (5, [v0, .ref h2, v1, v2, v3, v4, v5, v6, v7, v8])), (h1, .inl (a0, 1, .inr (.inl f0))), (h2, .inr (0, [v9, v10, .int 2, v11, v12, v13, v14]))]) (tr := [(a0, .long)]) hx hb hml hown hg okN (cX5_count_324 l D h0 h2 v0 v1 v2 v3 v4 v5 v6 v7 v8 v9 v10 v11 v12 v13 v14) (mwV k837 k838 k839 k84 k840) ⟨rfl, by decide, by decide, by decide +kernel⟩ ⟨rfl, rfl, (Nat.le_of_ble_eq_true rfl), (Nat.le_of_ble_eq_true rfl)⟩ hP hD hK hS xn [0, 2] [] [0, 1, 2] [] [0] rfl (by decide) rfl rfl (by decide) (by decide) rfl rfl (aNil hA hS) (aNil hA hS) 0 rfl rfl rfl hl.1 rfl (Nat.le_of_ble_eq_true rfl) dL_count_4 ⟨(Nat.le_of_ble_eq_true rfl), (Nat.le_of_ble_eq_true rfl)⟩ (fun u H locs hφ hP hD hK hS hk => ?_)
  have hP : va_P D vwCl [(h0, .inr (5, [v0, .ref h2, v1, v2, v3, v4, v5, v6, v7, v8])), (h1, .inl (a0, 1, .inr (.inl f0))), (h2, .inr (0, [v9, v10, .int 2, v11, v12, v13, v14]))] H := hP
  have hD : va_D A [(h0, .inr (5, [v0, .ref h2, v1, v2, v3, v4, v5, v6, v7, v8])), (h1, .inl (a0, 1, .inr (.inl f0))), (h2, .inr (0, [v9, v10, .int 2, v11, v12, v13, v14]))] := hD
  have hK : va_K D vwCl [(a0, .long)] s := hK
  refine W.widen (k := 0) (n := 0) (Nat.le_of_ble_eq_true rfl) (Nat.le_of_ble_eq_true rfl) ?_
  refine lv_i2l (v := 2) hx hb dL_count_7 (by decide) ?_
  refine astL hx hb hK hP hD hS 1 0 rfl rfl 0 (by decide) (vin (by decide)) dL_count_8 (fun H locs hP hD hS => ?_)
  have hP : va_P D vwCl [(h0, .inr (5, [v0, .ref h2, v1, v2, v3, v4, v5, v6, v7, v8])), (h1, .inl (a0, 1, .inr (.inl (vp_updL f0 0 2)))), (h2, .inr (0, [v9, v10, .int 2, v11, v12, v13, v14]))] H := hP
  have hD : va_D A [(h0, .inr (5, [v0, .ref h2, v1, v2, v3, v4, v5, v6, v7, v8])), (h1, .inl (a0, 1, .inr (.inl (vp_updL f0 0 2)))), (h2, .inr (0, [v9, v10, .int 2, v11, v12, v13, v14]))] := hD
  refine lv_goto (tgt := 15) hx hb dL_count_9 (by decide) ?_
  refine lv_iconst (v := 0) hx hb dL_count_15 (by decide) ?_
  exact fi hx hb hr hlocks hP hD hK hS (()) trivial rfl [0, 1, 2] [0] rfl (by decide) rfl (Nat.le_of_ble_eq_true rfl) (Nat.le_of_ble_eq_true rfl) dL_count_16
set_option maxHeartbeats 4000000 in
set_option maxRecDepth 100000 in
theorem cL_count_607 (l : Launch) (D : va_G) (h0 : Nat) (h1 : Nat) (h2 : Nat) (h3 : Nat) (v0 : Value) (v1 : Value) (v2 : Value) (v3 : Value) (v4 : Value) (v5 : Value) (v6 : Value) (v7 : Value) (v8 : Value) (f0 : Nat → Int64) (v9 : Value) (v10 : Value) (v11 : Value) (v12 : Value) (v13 : Value) (v14 : Value) (v15 : Value) (v16 : Value) (v17 : Value) (v18 : Value) (v19 : Value) (v20 : Value) (v21 : Value) (v22 : Value) (v23 : Value) (v24 : Value) (v25 : Value) (a0 : ClassId)   : CH l yL_count cL_count 4 (some .int) [(0, 9, 12, 19)] { frames := 2, cells := 0, slots := 0, locals := 41 } [.ref h0, .int 1, .ref h1] D [(h0, .inr (5, [v0, v1, v2, .ref h2, v3, v4, v5, v6, v7, v8])), (h1, .inl (a0, 1, .inr (.inl f0))), (h2, .inr (1, [.ref h3, v9, v10, v11, v12, .int 0, v13, v14, v15, v16, v17, v18, v19])), (h3, .inr (0, [v20, v21, .int 2, v22, v23, v24, v25]))] [(a0, .long)] XN [(h0, .inr (5, [v0, v1, v2, .ref h2, v3, v4, v5, v6, v7, v8])), (h1, .inl (a0, 1, .inr (.inl f0))), (h2, .inr (1, [.ref h3, v9, v10, v11, v12, .int 0, v13, v14, v15, v16, v17, v18, v19])), (h3, .inr (0, [v20, v21, .int 2, v22, v23, v24, v25]))] (ei (fun _ : Unit => True) (fun u => 0) (fun _ => [(h0, .inr (5, [v0, v1, v2, .ref h2, v3, v4, v5, v6, v7, v8])), (h1, .inl (a0, 1, .inr (.inl (vp_updL f0 0 2)))), (h2, .inr (1, [.ref h3, v9, v10, v11, v12, .int 0, v13, v14, v15, v16, v17, v18, v19])), (h3, .inr (0, [v20, v21, .int 2, v22, v23, v24, v25]))]) (fun u => [(a0, .long)]) D) 0 0 := by
  refine CH.ofW (by decide +kernel) (Nat.le_of_ble_eq_true rfl) ?_
  intro p e s m below meth c A ls hcs htab hP hK hD hX hA hS hl
  obtain ⟨hx, hb, hr, hml, hown, hg, hlocks, hin⟩ := hcs
  have hown : s.vm.findClass RL = some m.cls := hown
  have hl : lv_has ls 4 [(0, .ref h0), (1, .int 1), (2, .ref h1)] := hl
  refine lv_aload_n hx hb dL_count_0 rfl (lv_at hl 2 rfl) ?_
  refine lv_iconst (v := 0) hx hb dL_count_1 (by decide) ?_
  refine lv_aload_n hx hb dL_count_2 rfl (lv_at hl 0 rfl) ?_
  refine lv_iload_n hx hb dL_count_3 rfl (lv_at hl 1 rfl) ?_
  refine cVi (n := 1) (As := [.int 1]) (rest := [.int 0, .ref h1]) (wr := [(h0, .inr (5, [v0, v1, v2, .ref h2, v3, v4, v5, v6, v7, v8])), (h1, .inl (a0, 1, .inr (.inl f0))), (h2, .inr (1, [.ref h3, v9, v10, v11, v12, .int 0, v13, v14, v15, v16, v17, v18, v19])), (h3, .inr (0, [v20, v21, .int 2, v22, v23, v24, v25]))]) (tr := [(a0, .long)]) hx hb hml hown hg okN (cX5_count_325 l D h0 h2 h3 v0 v1 v2 v3 v4 v5 v6 v7 v8 v9 v10 v11 v12 v13 v14 v15 v16 v17 v18 v19 v20 v21 v22 v23 v24 v25) (mwV k837 k838 k839 k84 k840) ⟨rfl, by decide, by decide, by decide +kernel⟩ ⟨rfl, rfl, (Nat.le_of_ble_eq_true rfl), (Nat.le_of_ble_eq_true rfl)⟩ hP hD hK hS xn [0, 2, 3] [] [0, 1, 2, 3] [] [0] rfl (by decide) rfl rfl (by decide) (by decide) rfl rfl (aNil hA hS) (aNil hA hS) 0 rfl rfl rfl hl.1 rfl (Nat.le_of_ble_eq_true rfl) dL_count_4 ⟨(Nat.le_of_ble_eq_true rfl), (Nat.le_of_ble_eq_true rfl)⟩ (fun u H locs hφ hP hD hK hS hk => ?_)
  have hP : va_P D vwCl [(h0, .inr (5, [v0, v1, v2, .ref h2, v3, v4, v5, v6, v7, v8])), (h1, .inl (a0, 1, .inr (.inl f0))), (h2, .inr (1, [.ref h3, v9, v10, v11, v12, .int 0, v13, v14, v15, v16, v17, v18, v19])), (h3, .inr (0, [v20, v21, .int 2, v22, v23, v24, v25]))] H := hP
  have hD : va_D A [(h0, .inr (5, [v0, v1, v2, .ref h2, v3, v4, v5, v6, v7, v8])), (h1, .inl (a0, 1, .inr (.inl f0))), (h2, .inr (1, [.ref h3, v9, v10, v11, v12, .int 0, v13, v14, v15, v16, v17, v18, v19])), (h3, .inr (0, [v20, v21, .int 2, v22, v23, v24, v25]))] := hD
  have hK : va_K D vwCl [(a0, .long)] s := hK
  refine W.widen (k := 0) (n := 0) (Nat.le_of_ble_eq_true rfl) (Nat.le_of_ble_eq_true rfl) ?_
  refine lv_i2l (v := 2) hx hb dL_count_7 (by decide) ?_
  refine astL hx hb hK hP hD hS 1 0 rfl rfl 0 (by decide) (vin (by decide)) dL_count_8 (fun H locs hP hD hS => ?_)
  have hP : va_P D vwCl [(h0, .inr (5, [v0, v1, v2, .ref h2, v3, v4, v5, v6, v7, v8])), (h1, .inl (a0, 1, .inr (.inl (vp_updL f0 0 2)))), (h2, .inr (1, [.ref h3, v9, v10, v11, v12, .int 0, v13, v14, v15, v16, v17, v18, v19])), (h3, .inr (0, [v20, v21, .int 2, v22, v23, v24, v25]))] H := hP
  have hD : va_D A [(h0, .inr (5, [v0, v1, v2, .ref h2, v3, v4, v5, v6, v7, v8])), (h1, .inl (a0, 1, .inr (.inl (vp_updL f0 0 2)))), (h2, .inr (1, [.ref h3, v9, v10, v11, v12, .int 0, v13, v14, v15, v16, v17, v18, v19])), (h3, .inr (0, [v20, v21, .int 2, v22, v23, v24, v25]))] := hD
  refine lv_goto (tgt := 15) hx hb dL_count_9 (by decide) ?_
  refine lv_iconst (v := 0) hx hb dL_count_15 (by decide) ?_
  exact fi hx hb hr hlocks hP hD hK hS (()) trivial rfl [0, 1, 2, 3] [0] rfl (by decide) rfl (Nat.le_of_ble_eq_true rfl) (Nat.le_of_ble_eq_true rfl) dL_count_16
set_option maxHeartbeats 4000000 in
set_option maxRecDepth 100000 in
theorem cL_count_608 (l : Launch) (D : va_G) (h0 : Nat) (h1 : Nat) (h2 : Nat) (v0 : Value) (v1 : Value) (v2 : Value) (v3 : Value) (v4 : Value) (v5 : Value) (v6 : Value) (v7 : Value) (v8 : Value) (f0 : Nat → Int64) (v9 : Value) (v10 : Value) (v11 : Value) (v12 : Value) (v13 : Value) (v14 : Value) (v15 : Value) (v16 : Value) (v17 : Value) (v18 : Value) (v19 : Value) (v20 : Value) (a0 : ClassId)   : CH l yL_count cL_count 4 (some .int) [(0, 9, 12, 19)] { frames := 1, cells := 0, slots := 0, locals := 21 } [.ref h0, .int 2, .ref h1] D [(h0, .inr (5, [v0, v1, v2, .ref h2, v3, v4, v5, v6, v7, v8])), (h1, .inl (a0, 1, .inr (.inl f0))), (h2, .inr (1, [v9, v10, v11, v12, v13, .int 0, v14, v15, v16, v17, v18, v19, v20]))] [(a0, .long)] XN [(h0, .inr (5, [v0, v1, v2, .ref h2, v3, v4, v5, v6, v7, v8])), (h1, .inl (a0, 1, .inr (.inl f0))), (h2, .inr (1, [v9, v10, v11, v12, v13, .int 0, v14, v15, v16, v17, v18, v19, v20]))] (ei (fun _ : Unit => True) (fun u => 0) (fun _ => [(h0, .inr (5, [v0, v1, v2, .ref h2, v3, v4, v5, v6, v7, v8])), (h1, .inl (a0, 1, .inr (.inl (vp_updL f0 0 0)))), (h2, .inr (1, [v9, v10, v11, v12, v13, .int 0, v14, v15, v16, v17, v18, v19, v20]))]) (fun u => [(a0, .long)]) D) 0 0 := by
  refine CH.ofW (by decide +kernel) (Nat.le_of_ble_eq_true rfl) ?_
  intro p e s m below meth c A ls hcs htab hP hK hD hX hA hS hl
  obtain ⟨hx, hb, hr, hml, hown, hg, hlocks, hin⟩ := hcs
  have hown : s.vm.findClass RL = some m.cls := hown
  have hl : lv_has ls 4 [(0, .ref h0), (1, .int 2), (2, .ref h1)] := hl
  refine lv_aload_n hx hb dL_count_0 rfl (lv_at hl 2 rfl) ?_
  refine lv_iconst (v := 0) hx hb dL_count_1 (by decide) ?_
  refine lv_aload_n hx hb dL_count_2 rfl (lv_at hl 0 rfl) ?_
  refine lv_iload_n hx hb dL_count_3 rfl (lv_at hl 1 rfl) ?_
  refine cVi (n := 1) (As := [.int 2]) (rest := [.int 0, .ref h1]) (wr := [(h0, .inr (5, [v0, v1, v2, .ref h2, v3, v4, v5, v6, v7, v8])), (h1, .inl (a0, 1, .inr (.inl f0))), (h2, .inr (1, [v9, v10, v11, v12, v13, .int 0, v14, v15, v16, v17, v18, v19, v20]))]) (tr := [(a0, .long)]) hx hb hml hown hg okN (cX5_count_327 l D h0 h2 v0 v1 v2 v3 v4 v5 v6 v7 v8 v9 v10 v11 v12 v13 v14 v15 v16 v17 v18 v19 v20) (mwV k837 k838 k839 k84 k840) ⟨rfl, by decide, by decide, by decide +kernel⟩ ⟨rfl, rfl, (Nat.le_of_ble_eq_true rfl), (Nat.le_of_ble_eq_true rfl)⟩ hP hD hK hS xn [0, 2] [] [0, 1, 2] [] [0] rfl (by decide) rfl rfl (by decide) (by decide) rfl rfl (aNil hA hS) (aNil hA hS) 0 rfl rfl rfl hl.1 rfl (Nat.le_of_ble_eq_true rfl) dL_count_4 ⟨(Nat.le_of_ble_eq_true rfl), (Nat.le_of_ble_eq_true rfl)⟩ (fun u H locs hφ hP hD hK hS hk => ?_)
  have hP : va_P D vwCl [(h0, .inr (5, [v0, v1, v2, .ref h2, v3, v4, v5, v6, v7, v8])), (h1, .inl (a0, 1, .inr (.inl f0))), (h2, .inr (1, [v9, v10, v11, v12, v13, .int 0, v14, v15, v16, v17, v18, v19, v20]))] H := hP
  have hD : va_D A [(h0, .inr (5, [v0, v1, v2, .ref h2, v3, v4, v5, v6, v7, v8])), (h1, .inl (a0, 1, .inr (.inl f0))), (h2, .inr (1, [v9, v10, v11, v12, v13, .int 0, v14, v15, v16, v17, v18, v19, v20]))] := hD
  have hK : va_K D vwCl [(a0, .long)] s := hK
  refine W.widen (k := 0) (n := 0) (Nat.le_of_ble_eq_true rfl) (Nat.le_of_ble_eq_true rfl) ?_
  refine lv_i2l (v := 0) hx hb dL_count_7 (by decide) ?_
  refine astL hx hb hK hP hD hS 1 0 rfl rfl 0 (by decide) (vin (by decide)) dL_count_8 (fun H locs hP hD hS => ?_)
  have hP : va_P D vwCl [(h0, .inr (5, [v0, v1, v2, .ref h2, v3, v4, v5, v6, v7, v8])), (h1, .inl (a0, 1, .inr (.inl (vp_updL f0 0 0)))), (h2, .inr (1, [v9, v10, v11, v12, v13, .int 0, v14, v15, v16, v17, v18, v19, v20]))] H := hP
  have hD : va_D A [(h0, .inr (5, [v0, v1, v2, .ref h2, v3, v4, v5, v6, v7, v8])), (h1, .inl (a0, 1, .inr (.inl (vp_updL f0 0 0)))), (h2, .inr (1, [v9, v10, v11, v12, v13, .int 0, v14, v15, v16, v17, v18, v19, v20]))] := hD
  refine lv_goto (tgt := 15) hx hb dL_count_9 (by decide) ?_
  refine lv_iconst (v := 0) hx hb dL_count_15 (by decide) ?_
  exact fi hx hb hr hlocks hP hD hK hS (()) trivial rfl [0, 1, 2] [0] rfl (by decide) rfl (Nat.le_of_ble_eq_true rfl) (Nat.le_of_ble_eq_true rfl) dL_count_16
set_option maxHeartbeats 4000000 in
set_option maxRecDepth 100000 in
theorem cL_count_609 (l : Launch) (D : va_G) (h0 : Nat) (h1 : Nat) (h2 : Nat) (v0 : Value) (v1 : Value) (v2 : Value) (v3 : Value) (v4 : Value) (v5 : Value) (v6 : Value) (v7 : Value) (v8 : Value) (f0 : Nat → Int64) (v9 : Value) (v10 : Value) (v11 : Value) (v12 : Value) (v13 : Value) (v14 : Value) (v15 : Value) (v16 : Value) (v17 : Value) (v18 : Value) (v19 : Value) (v20 : Value) (a0 : ClassId)   : CH l yL_count cL_count 4 (some .int) [(0, 9, 12, 19)] { frames := 2, cells := 0, slots := 0, locals := 43 } [.ref h0, .int 3, .ref h1] D [(h0, .inr (5, [v0, v1, v2, .ref h2, v3, v4, v5, v6, v7, v8])), (h1, .inl (a0, 1, .inr (.inl f0))), (h2, .inr (1, [v9, v10, v11, v12, v13, .int 0, v14, v15, v16, v17, v18, v19, v20]))] [(a0, .long)] XN [(h0, .inr (5, [v0, v1, v2, .ref h2, v3, v4, v5, v6, v7, v8])), (h1, .inl (a0, 1, .inr (.inl f0))), (h2, .inr (1, [v9, v10, v11, v12, v13, .int 0, v14, v15, v16, v17, v18, v19, v20]))] (ei (fun _ : Unit => True) (fun u => 0) (fun _ => [(h0, .inr (5, [v0, v1, v2, .ref h2, v3, v4, v5, v6, v7, v8])), (h1, .inl (a0, 1, .inr (.inl (vp_updL f0 0 0)))), (h2, .inr (1, [v9, v10, v11, v12, v13, .int 0, v14, v15, v16, v17, v18, v19, v20]))]) (fun u => [(a0, .long)]) D) 0 0 := by
  refine CH.ofW (by decide +kernel) (Nat.le_of_ble_eq_true rfl) ?_
  intro p e s m below meth c A ls hcs htab hP hK hD hX hA hS hl
  obtain ⟨hx, hb, hr, hml, hown, hg, hlocks, hin⟩ := hcs
  have hown : s.vm.findClass RL = some m.cls := hown
  have hl : lv_has ls 4 [(0, .ref h0), (1, .int 3), (2, .ref h1)] := hl
  refine lv_aload_n hx hb dL_count_0 rfl (lv_at hl 2 rfl) ?_
  refine lv_iconst (v := 0) hx hb dL_count_1 (by decide) ?_
  refine lv_aload_n hx hb dL_count_2 rfl (lv_at hl 0 rfl) ?_
  refine lv_iload_n hx hb dL_count_3 rfl (lv_at hl 1 rfl) ?_
  refine cVi (n := 1) (As := [.int 3]) (rest := [.int 0, .ref h1]) (wr := [(h0, .inr (5, [v0, v1, v2, .ref h2, v3, v4, v5, v6, v7, v8])), (h1, .inl (a0, 1, .inr (.inl f0))), (h2, .inr (1, [v9, v10, v11, v12, v13, .int 0, v14, v15, v16, v17, v18, v19, v20]))]) (tr := [(a0, .long)]) hx hb hml hown hg okN (cX5_count_328 l D h0 h2 v0 v1 v2 v3 v4 v5 v6 v7 v8 v9 v10 v11 v12 v13 v14 v15 v16 v17 v18 v19 v20) (mwV k837 k838 k839 k84 k840) ⟨rfl, by decide, by decide, by decide +kernel⟩ ⟨rfl, rfl, (Nat.le_of_ble_eq_true rfl), (Nat.le_of_ble_eq_true rfl)⟩ hP hD hK hS xn [0, 2] [] [0, 1, 2] [] [0] rfl (by decide) rfl rfl (by decide) (by decide) rfl rfl (aNil hA hS) (aNil hA hS) 0 rfl rfl rfl hl.1 rfl (Nat.le_of_ble_eq_true rfl) dL_count_4 ⟨(Nat.le_of_ble_eq_true rfl), (Nat.le_of_ble_eq_true rfl)⟩ (fun u H locs hφ hP hD hK hS hk => ?_)
  have hP : va_P D vwCl [(h0, .inr (5, [v0, v1, v2, .ref h2, v3, v4, v5, v6, v7, v8])), (h1, .inl (a0, 1, .inr (.inl f0))), (h2, .inr (1, [v9, v10, v11, v12, v13, .int 0, v14, v15, v16, v17, v18, v19, v20]))] H := hP
  have hD : va_D A [(h0, .inr (5, [v0, v1, v2, .ref h2, v3, v4, v5, v6, v7, v8])), (h1, .inl (a0, 1, .inr (.inl f0))), (h2, .inr (1, [v9, v10, v11, v12, v13, .int 0, v14, v15, v16, v17, v18, v19, v20]))] := hD
  have hK : va_K D vwCl [(a0, .long)] s := hK
  refine W.widen (k := 0) (n := 0) (Nat.le_of_ble_eq_true rfl) (Nat.le_of_ble_eq_true rfl) ?_
  refine lv_i2l (v := 0) hx hb dL_count_7 (by decide) ?_
  refine astL hx hb hK hP hD hS 1 0 rfl rfl 0 (by decide) (vin (by decide)) dL_count_8 (fun H locs hP hD hS => ?_)
  have hP : va_P D vwCl [(h0, .inr (5, [v0, v1, v2, .ref h2, v3, v4, v5, v6, v7, v8])), (h1, .inl (a0, 1, .inr (.inl (vp_updL f0 0 0)))), (h2, .inr (1, [v9, v10, v11, v12, v13, .int 0, v14, v15, v16, v17, v18, v19, v20]))] H := hP
  have hD : va_D A [(h0, .inr (5, [v0, v1, v2, .ref h2, v3, v4, v5, v6, v7, v8])), (h1, .inl (a0, 1, .inr (.inl (vp_updL f0 0 0)))), (h2, .inr (1, [v9, v10, v11, v12, v13, .int 0, v14, v15, v16, v17, v18, v19, v20]))] := hD
  refine lv_goto (tgt := 15) hx hb dL_count_9 (by decide) ?_
  refine lv_iconst (v := 0) hx hb dL_count_15 (by decide) ?_
  exact fi hx hb hr hlocks hP hD hK hS (()) trivial rfl [0, 1, 2] [0] rfl (by decide) rfl (Nat.le_of_ble_eq_true rfl) (Nat.le_of_ble_eq_true rfl) dL_count_16
set_option maxHeartbeats 4000000 in
set_option maxRecDepth 100000 in
theorem cL_count_610 (l : Launch) (D : va_G) (h0 : Nat) (h1 : Nat) (h2 : Nat) (v0 : Value) (v1 : Value) (v2 : Value) (v3 : Value) (v4 : Value) (v5 : Value) (v6 : Value) (v7 : Value) (v8 : Value) (f0 : Nat → Int64) (v9 : Value) (v10 : Value) (v11 : Value) (v12 : Value) (v13 : Value) (v14 : Value) (v15 : Value) (v16 : Value) (v17 : Value) (v18 : Value) (v19 : Value) (v20 : Value) (a0 : ClassId)   : CH l yL_count cL_count 4 (some .int) [(0, 9, 12, 19)] { frames := 1, cells := 0, slots := 0, locals := 21 } [.ref h0, .int 4, .ref h1] D [(h0, .inr (5, [v0, v1, v2, .ref h2, v3, v4, v5, v6, v7, v8])), (h1, .inl (a0, 1, .inr (.inl f0))), (h2, .inr (1, [v9, v10, v11, v12, v13, v14, v15, .int 0, v16, v17, v18, v19, v20]))] [(a0, .long)] XN [(h0, .inr (5, [v0, v1, v2, .ref h2, v3, v4, v5, v6, v7, v8])), (h1, .inl (a0, 1, .inr (.inl f0))), (h2, .inr (1, [v9, v10, v11, v12, v13, v14, v15, .int 0, v16, v17, v18, v19, v20]))] (ei (fun _ : Unit => True) (fun u => 0) (fun _ => [(h0, .inr (5, [v0, v1, v2, .ref h2, v3, v4, v5, v6, v7, v8])), (h1, .inl (a0, 1, .inr (.inl (vp_updL f0 0 0)))), (h2, .inr (1, [v9, v10, v11, v12, v13, v14, v15, .int 0, v16, v17, v18, v19, v20]))]) (fun u => [(a0, .long)]) D) 0 0 := by
  refine CH.ofW (by decide +kernel) (Nat.le_of_ble_eq_true rfl) ?_
  intro p e s m below meth c A ls hcs htab hP hK hD hX hA hS hl
  obtain ⟨hx, hb, hr, hml, hown, hg, hlocks, hin⟩ := hcs
  have hown : s.vm.findClass RL = some m.cls := hown
  have hl : lv_has ls 4 [(0, .ref h0), (1, .int 4), (2, .ref h1)] := hl
  refine lv_aload_n hx hb dL_count_0 rfl (lv_at hl 2 rfl) ?_
  refine lv_iconst (v := 0) hx hb dL_count_1 (by decide) ?_
  refine lv_aload_n hx hb dL_count_2 rfl (lv_at hl 0 rfl) ?_
  refine lv_iload_n hx hb dL_count_3 rfl (lv_at hl 1 rfl) ?_
  refine cVi (n := 1) (As := [.int 4]) (rest := [.int 0, .ref h1]) (wr := [(h0, .inr (5, [v0, v1, v2, .ref h2, v3, v4, v5, v6, v7, v8])), (h1, .inl (a0, 1, .inr (.inl f0))), (h2, .inr (1, [v9, v10, v11, v12, v13, v14, v15, .int 0, v16, v17, v18, v19, v20]))]) (tr := [(a0, .long)]) hx hb hml hown hg okN (cX5_count_330 l D h0 h2 v0 v1 v2 v3 v4 v5 v6 v7 v8 v9 v10 v11 v12 v13 v14 v15 v16 v17 v18 v19 v20) (mwV k837 k838 k839 k84 k840) ⟨rfl, by decide, by decide, by decide +kernel⟩ ⟨rfl, rfl, (Nat.le_of_ble_eq_true rfl), (Nat.le_of_ble_eq_true rfl)⟩ hP hD hK hS xn [0, 2] [] [0, 1, 2] [] [0] rfl (by decide) rfl rfl (by decide) (by decide) rfl rfl (aNil hA hS) (aNil hA hS) 0 rfl rfl rfl hl.1 rfl (Nat.le_of_ble_eq_true rfl) dL_count_4 ⟨(Nat.le_of_ble_eq_true rfl), (Nat.le_of_ble_eq_true rfl)⟩ (fun u H locs hφ hP hD hK hS hk => ?_)
  have hP : va_P D vwCl [(h0, .inr (5, [v0, v1, v2, .ref h2, v3, v4, v5, v6, v7, v8])), (h1, .inl (a0, 1, .inr (.inl f0))), (h2, .inr (1, [v9, v10, v11, v12, v13, v14, v15, .int 0, v16, v17, v18, v19, v20]))] H := hP
  have hD : va_D A [(h0, .inr (5, [v0, v1, v2, .ref h2, v3, v4, v5, v6, v7, v8])), (h1, .inl (a0, 1, .inr (.inl f0))), (h2, .inr (1, [v9, v10, v11, v12, v13, v14, v15, .int 0, v16, v17, v18, v19, v20]))] := hD
  have hK : va_K D vwCl [(a0, .long)] s := hK
  refine W.widen (k := 0) (n := 0) (Nat.le_of_ble_eq_true rfl) (Nat.le_of_ble_eq_true rfl) ?_
  refine lv_i2l (v := 0) hx hb dL_count_7 (by decide) ?_
  refine astL hx hb hK hP hD hS 1 0 rfl rfl 0 (by decide) (vin (by decide)) dL_count_8 (fun H locs hP hD hS => ?_)
  have hP : va_P D vwCl [(h0, .inr (5, [v0, v1, v2, .ref h2, v3, v4, v5, v6, v7, v8])), (h1, .inl (a0, 1, .inr (.inl (vp_updL f0 0 0)))), (h2, .inr (1, [v9, v10, v11, v12, v13, v14, v15, .int 0, v16, v17, v18, v19, v20]))] H := hP
  have hD : va_D A [(h0, .inr (5, [v0, v1, v2, .ref h2, v3, v4, v5, v6, v7, v8])), (h1, .inl (a0, 1, .inr (.inl (vp_updL f0 0 0)))), (h2, .inr (1, [v9, v10, v11, v12, v13, v14, v15, .int 0, v16, v17, v18, v19, v20]))] := hD
  refine lv_goto (tgt := 15) hx hb dL_count_9 (by decide) ?_
  refine lv_iconst (v := 0) hx hb dL_count_15 (by decide) ?_
  exact fi hx hb hr hlocks hP hD hK hS (()) trivial rfl [0, 1, 2] [0] rfl (by decide) rfl (Nat.le_of_ble_eq_true rfl) (Nat.le_of_ble_eq_true rfl) dL_count_16
set_option maxHeartbeats 4000000 in
set_option maxRecDepth 100000 in
theorem cL_count_611 (l : Launch) (D : va_G) (h0 : Nat) (h1 : Nat) (h2 : Nat) (v0 : Value) (v1 : Value) (v2 : Value) (v3 : Value) (v4 : Value) (v5 : Value) (v6 : Value) (v7 : Value) (v8 : Value) (f0 : Nat → Int64) (v9 : Value) (v10 : Value) (v11 : Value) (v12 : Value) (v13 : Value) (v14 : Value) (v15 : Value) (v16 : Value) (v17 : Value) (v18 : Value) (v19 : Value) (v20 : Value) (a0 : ClassId)   : CH l yL_count cL_count 4 (some .int) [(0, 9, 12, 19)] { frames := 1, cells := 0, slots := 0, locals := 21 } [.ref h0, .int 5, .ref h1] D [(h0, .inr (5, [v0, v1, v2, .ref h2, v3, v4, v5, v6, v7, v8])), (h1, .inl (a0, 1, .inr (.inl f0))), (h2, .inr (1, [v9, v10, v11, v12, v13, v14, v15, v16, .int 2, v17, v18, v19, v20]))] [(a0, .long)] XN [(h0, .inr (5, [v0, v1, v2, .ref h2, v3, v4, v5, v6, v7, v8])), (h1, .inl (a0, 1, .inr (.inl f0))), (h2, .inr (1, [v9, v10, v11, v12, v13, v14, v15, v16, .int 2, v17, v18, v19, v20]))] (ei (fun _ : Unit => True) (fun u => 0) (fun _ => [(h0, .inr (5, [v0, v1, v2, .ref h2, v3, v4, v5, v6, v7, v8])), (h1, .inl (a0, 1, .inr (.inl (vp_updL f0 0 2)))), (h2, .inr (1, [v9, v10, v11, v12, v13, v14, v15, v16, .int 2, v17, v18, v19, v20]))]) (fun u => [(a0, .long)]) D) 0 0 := by
  refine CH.ofW (by decide +kernel) (Nat.le_of_ble_eq_true rfl) ?_
  intro p e s m below meth c A ls hcs htab hP hK hD hX hA hS hl
  obtain ⟨hx, hb, hr, hml, hown, hg, hlocks, hin⟩ := hcs
  have hown : s.vm.findClass RL = some m.cls := hown
  have hl : lv_has ls 4 [(0, .ref h0), (1, .int 5), (2, .ref h1)] := hl
  refine lv_aload_n hx hb dL_count_0 rfl (lv_at hl 2 rfl) ?_
  refine lv_iconst (v := 0) hx hb dL_count_1 (by decide) ?_
  refine lv_aload_n hx hb dL_count_2 rfl (lv_at hl 0 rfl) ?_
  refine lv_iload_n hx hb dL_count_3 rfl (lv_at hl 1 rfl) ?_
  refine cVi (n := 1) (As := [.int 5]) (rest := [.int 0, .ref h1]) (wr := [(h0, .inr (5, [v0, v1, v2, .ref h2, v3, v4, v5, v6, v7, v8])), (h1, .inl (a0, 1, .inr (.inl f0))), (h2, .inr (1, [v9, v10, v11, v12, v13, v14, v15, v16, .int 2, v17, v18, v19, v20]))]) (tr := [(a0, .long)]) hx hb hml hown hg okN (cX5_count_331 l D h0 h2 v0 v1 v2 v3 v4 v5 v6 v7 v8 v9 v10 v11 v12 v13 v14 v15 v16 v17 v18 v19 v20) (mwV k837 k838 k839 k84 k840) ⟨rfl, by decide, by decide, by decide +kernel⟩ ⟨rfl, rfl, (Nat.le_of_ble_eq_true rfl), (Nat.le_of_ble_eq_true rfl)⟩ hP hD hK hS xn [0, 2] [] [0, 1, 2] [] [0] rfl (by decide) rfl rfl (by decide) (by decide) rfl rfl (aNil hA hS) (aNil hA hS) 0 rfl rfl rfl hl.1 rfl (Nat.le_of_ble_eq_true rfl) dL_count_4 ⟨(Nat.le_of_ble_eq_true rfl), (Nat.le_of_ble_eq_true rfl)⟩ (fun u H locs hφ hP hD hK hS hk => ?_)
  have hP : va_P D vwCl [(h0, .inr (5, [v0, v1, v2, .ref h2, v3, v4, v5, v6, v7, v8])), (h1, .inl (a0, 1, .inr (.inl f0))), (h2, .inr (1, [v9, v10, v11, v12, v13, v14, v15, v16, .int 2, v17, v18, v19, v20]))] H := hP
  have hD : va_D A [(h0, .inr (5, [v0, v1, v2, .ref h2, v3, v4, v5, v6, v7, v8])), (h1, .inl (a0, 1, .inr (.inl f0))), (h2, .inr (1, [v9, v10, v11, v12, v13, v14, v15, v16, .int 2, v17, v18, v19, v20]))] := hD
  have hK : va_K D vwCl [(a0, .long)] s := hK
  refine W.widen (k := 0) (n := 0) (Nat.le_of_ble_eq_true rfl) (Nat.le_of_ble_eq_true rfl) ?_
  refine lv_i2l (v := 2) hx hb dL_count_7 (by decide) ?_
  refine astL hx hb hK hP hD hS 1 0 rfl rfl 0 (by decide) (vin (by decide)) dL_count_8 (fun H locs hP hD hS => ?_)
  have hP : va_P D vwCl [(h0, .inr (5, [v0, v1, v2, .ref h2, v3, v4, v5, v6, v7, v8])), (h1, .inl (a0, 1, .inr (.inl (vp_updL f0 0 2)))), (h2, .inr (1, [v9, v10, v11, v12, v13, v14, v15, v16, .int 2, v17, v18, v19, v20]))] H := hP
  have hD : va_D A [(h0, .inr (5, [v0, v1, v2, .ref h2, v3, v4, v5, v6, v7, v8])), (h1, .inl (a0, 1, .inr (.inl (vp_updL f0 0 2)))), (h2, .inr (1, [v9, v10, v11, v12, v13, v14, v15, v16, .int 2, v17, v18, v19, v20]))] := hD
  refine lv_goto (tgt := 15) hx hb dL_count_9 (by decide) ?_
  refine lv_iconst (v := 0) hx hb dL_count_15 (by decide) ?_
  exact fi hx hb hr hlocks hP hD hK hS (()) trivial rfl [0, 1, 2] [0] rfl (by decide) rfl (Nat.le_of_ble_eq_true rfl) (Nat.le_of_ble_eq_true rfl) dL_count_16
set_option maxHeartbeats 4000000 in
set_option maxRecDepth 100000 in
theorem cL_count_612 (l : Launch) (D : va_G) (h0 : Nat) (h1 : Nat) (h2 : Nat) (v0 : Value) (v1 : Value) (v2 : Value) (v3 : Value) (v4 : Value) (v5 : Value) (v6 : Value) (v7 : Value) (v8 : Value) (f0 : Nat → Int64) (v9 : Value) (v10 : Value) (v11 : Value) (v12 : Value) (v13 : Value) (v14 : Value) (v15 : Value) (v16 : Value) (v17 : Value) (v18 : Value) (v19 : Value) (v20 : Value) (a0 : ClassId)   : CH l yL_count cL_count 4 (some .int) [(0, 9, 12, 19)] { frames := 1, cells := 0, slots := 0, locals := 21 } [.ref h0, .int 6, .ref h1] D [(h0, .inr (5, [v0, v1, v2, .ref h2, v3, v4, v5, v6, v7, v8])), (h1, .inl (a0, 1, .inr (.inl f0))), (h2, .inr (1, [v9, v10, v11, v12, v13, v14, v15, v16, v17, .int 1, v18, v19, v20]))] [(a0, .long)] XN [(h0, .inr (5, [v0, v1, v2, .ref h2, v3, v4, v5, v6, v7, v8])), (h1, .inl (a0, 1, .inr (.inl f0))), (h2, .inr (1, [v9, v10, v11, v12, v13, v14, v15, v16, v17, .int 1, v18, v19, v20]))] (ei (fun _ : Unit => True) (fun u => 0) (fun _ => [(h0, .inr (5, [v0, v1, v2, .ref h2, v3, v4, v5, v6, v7, v8])), (h1, .inl (a0, 1, .inr (.inl (vp_updL f0 0 1)))), (h2, .inr (1, [v9, v10, v11, v12, v13, v14, v15, v16, v17, .int 1, v18, v19, v20]))]) (fun u => [(a0, .long)]) D) 0 0 := by
  refine CH.ofW (by decide +kernel) (Nat.le_of_ble_eq_true rfl) ?_
  intro p e s m below meth c A ls hcs htab hP hK hD hX hA hS hl
  obtain ⟨hx, hb, hr, hml, hown, hg, hlocks, hin⟩ := hcs
  have hown : s.vm.findClass RL = some m.cls := hown
  have hl : lv_has ls 4 [(0, .ref h0), (1, .int 6), (2, .ref h1)] := hl
  refine lv_aload_n hx hb dL_count_0 rfl (lv_at hl 2 rfl) ?_
  refine lv_iconst (v := 0) hx hb dL_count_1 (by decide) ?_
  refine lv_aload_n hx hb dL_count_2 rfl (lv_at hl 0 rfl) ?_
  refine lv_iload_n hx hb dL_count_3 rfl (lv_at hl 1 rfl) ?_
  refine cVi (n := 1) (As := [.int 6]) (rest := [.int 0, .ref h1]) (wr := [(h0, .inr (5, [v0, v1, v2, .ref h2, v3, v4, v5, v6, v7, v8])), (h1, .inl (a0, 1, .inr (.inl f0))), (h2, .inr (1, [v9, v10, v11, v12, v13, v14, v15, v16, v17, .int 1, v18, v19, v20]))]) (tr := [(a0, .long)]) hx hb hml hown hg okN (cX5_count_332 l D h0 h2 v0 v1 v2 v3 v4 v5 v6 v7 v8 v9 v10 v11 v12 v13 v14 v15 v16 v17 v18 v19 v20) (mwV k837 k838 k839 k84 k840) ⟨rfl, by decide, by decide, by decide +kernel⟩ ⟨rfl, rfl, (Nat.le_of_ble_eq_true rfl), (Nat.le_of_ble_eq_true rfl)⟩ hP hD hK hS xn [0, 2] [] [0, 1, 2] [] [0] rfl (by decide) rfl rfl (by decide) (by decide) rfl rfl (aNil hA hS) (aNil hA hS) 0 rfl rfl rfl hl.1 rfl (Nat.le_of_ble_eq_true rfl) dL_count_4 ⟨(Nat.le_of_ble_eq_true rfl), (Nat.le_of_ble_eq_true rfl)⟩ (fun u H locs hφ hP hD hK hS hk => ?_)
  have hP : va_P D vwCl [(h0, .inr (5, [v0, v1, v2, .ref h2, v3, v4, v5, v6, v7, v8])), (h1, .inl (a0, 1, .inr (.inl f0))), (h2, .inr (1, [v9, v10, v11, v12, v13, v14, v15, v16, v17, .int 1, v18, v19, v20]))] H := hP
  have hD : va_D A [(h0, .inr (5, [v0, v1, v2, .ref h2, v3, v4, v5, v6, v7, v8])), (h1, .inl (a0, 1, .inr (.inl f0))), (h2, .inr (1, [v9, v10, v11, v12, v13, v14, v15, v16, v17, .int 1, v18, v19, v20]))] := hD
  have hK : va_K D vwCl [(a0, .long)] s := hK
  refine W.widen (k := 0) (n := 0) (Nat.le_of_ble_eq_true rfl) (Nat.le_of_ble_eq_true rfl) ?_
  refine lv_i2l (v := 1) hx hb dL_count_7 (by decide) ?_
  refine astL hx hb hK hP hD hS 1 0 rfl rfl 0 (by decide) (vin (by decide)) dL_count_8 (fun H locs hP hD hS => ?_)
  have hP : va_P D vwCl [(h0, .inr (5, [v0, v1, v2, .ref h2, v3, v4, v5, v6, v7, v8])), (h1, .inl (a0, 1, .inr (.inl (vp_updL f0 0 1)))), (h2, .inr (1, [v9, v10, v11, v12, v13, v14, v15, v16, v17, .int 1, v18, v19, v20]))] H := hP
  have hD : va_D A [(h0, .inr (5, [v0, v1, v2, .ref h2, v3, v4, v5, v6, v7, v8])), (h1, .inl (a0, 1, .inr (.inl (vp_updL f0 0 1)))), (h2, .inr (1, [v9, v10, v11, v12, v13, v14, v15, v16, v17, .int 1, v18, v19, v20]))] := hD
  refine lv_goto (tgt := 15) hx hb dL_count_9 (by decide) ?_
  refine lv_iconst (v := 0) hx hb dL_count_15 (by decide) ?_
  exact fi hx hb hr hlocks hP hD hK hS (()) trivial rfl [0, 1, 2] [0] rfl (by decide) rfl (Nat.le_of_ble_eq_true rfl) (Nat.le_of_ble_eq_true rfl) dL_count_16
set_option maxHeartbeats 4000000 in
set_option maxRecDepth 100000 in
theorem cL_count_613 (l : Launch) (D : va_G) (h0 : Nat) (h1 : Nat) (h2 : Nat) (v0 : Value) (v1 : Value) (v2 : Value) (v3 : Value) (v4 : Value) (v5 : Value) (v6 : Value) (v7 : Value) (v8 : Value) (f0 : Nat → Int64) (v9 : Value) (v10 : Value) (v11 : Value) (v12 : Value) (v13 : Value) (v14 : Value) (a0 : ClassId)   : CH l yL_count cL_count 4 (some .int) [(0, 9, 12, 19)] { frames := 1, cells := 0, slots := 0, locals := 21 } [.ref h0, .int 7, .ref h1] D [(h0, .inr (5, [v0, .ref h2, v1, v2, v3, v4, v5, v6, v7, v8])), (h1, .inl (a0, 1, .inr (.inl f0))), (h2, .inr (0, [v9, v10, v11, v12, v13, v14, .int 2]))] [(a0, .long)] XN [(h0, .inr (5, [v0, .ref h2, v1, v2, v3, v4, v5, v6, v7, v8])), (h1, .inl (a0, 1, .inr (.inl f0))), (h2, .inr (0, [v9, v10, v11, v12, v13, v14, .int 2]))] (ei (fun _ : Unit => True) (fun u => 0) (fun _ => [(h0, .inr (5, [v0, .ref h2, v1, v2, v3, v4, v5, v6, v7, v8])), (h1, .inl (a0, 1, .inr (.inl (vp_updL f0 0 2)))), (h2, .inr (0, [v9, v10, v11, v12, v13, v14, .int 2]))]) (fun u => [(a0, .long)]) D) 0 0 := by
  refine CH.ofW (by decide +kernel) (Nat.le_of_ble_eq_true rfl) ?_
  intro p e s m below meth c A ls hcs htab hP hK hD hX hA hS hl
  obtain ⟨hx, hb, hr, hml, hown, hg, hlocks, hin⟩ := hcs
  have hown : s.vm.findClass RL = some m.cls := hown
  have hl : lv_has ls 4 [(0, .ref h0), (1, .int 7), (2, .ref h1)] := hl
  refine lv_aload_n hx hb dL_count_0 rfl (lv_at hl 2 rfl) ?_
  refine lv_iconst (v := 0) hx hb dL_count_1 (by decide) ?_
  refine lv_aload_n hx hb dL_count_2 rfl (lv_at hl 0 rfl) ?_
  refine lv_iload_n hx hb dL_count_3 rfl (lv_at hl 1 rfl) ?_
  refine cVi (n := 1) (As := [.int 7]) (rest := [.int 0, .ref h1]) (wr := [(h0, .inr (5, [v0, .ref h2, v1, v2, v3, v4, v5, v6, v7, v8])), (h1, .inl (a0, 1, .inr (.inl f0))), (h2, .inr (0, [v9, v10, v11, v12, v13, v14, .int 2]))]) (tr := [(a0, .long)]) hx hb hml hown hg okN (cX5_count_333 l D h0 h2 v0 v1 v2 v3 v4 v5 v6 v7 v8 v9 v10 v11 v12 v13 v14) (mwV k837 k838 k839 k84 k840) ⟨rfl, by decide, by decide, by decide +kernel⟩ ⟨rfl, rfl, (Nat.le_of_ble_eq_true rfl), (Nat.le_of_ble_eq_true rfl)⟩ hP hD hK hS xn [0, 2] [] [0, 1, 2] [] [0] rfl (by decide) rfl rfl (by decide) (by decide) rfl rfl (aNil hA hS) (aNil hA hS) 0 rfl rfl rfl hl.1 rfl (Nat.le_of_ble_eq_true rfl) dL_count_4 ⟨(Nat.le_of_ble_eq_true rfl), (Nat.le_of_ble_eq_true rfl)⟩ (fun u H locs hφ hP hD hK hS hk => ?_)
  have hP : va_P D vwCl [(h0, .inr (5, [v0, .ref h2, v1, v2, v3, v4, v5, v6, v7, v8])), (h1, .inl (a0, 1, .inr (.inl f0))), (h2, .inr (0, [v9, v10, v11, v12, v13, v14, .int 2]))] H := hP
  have hD : va_D A [(h0, .inr (5, [v0, .ref h2, v1, v2, v3, v4, v5, v6, v7, v8])), (h1, .inl (a0, 1, .inr (.inl f0))), (h2, .inr (0, [v9, v10, v11, v12, v13, v14, .int 2]))] := hD
  have hK : va_K D vwCl [(a0, .long)] s := hK
  refine W.widen (k := 0) (n := 0) (Nat.le_of_ble_eq_true rfl) (Nat.le_of_ble_eq_true rfl) ?_
  refine lv_i2l (v := 2) hx hb dL_count_7 (by decide) ?_
  refine astL hx hb hK hP hD hS 1 0 rfl rfl 0 (by decide) (vin (by decide)) dL_count_8 (fun H locs hP hD hS => ?_)
  have hP : va_P D vwCl [(h0, .inr (5, [v0, .ref h2, v1, v2, v3, v4, v5, v6, v7, v8])), (h1, .inl (a0, 1, .inr (.inl (vp_updL f0 0 2)))), (h2, .inr (0, [v9, v10, v11, v12, v13, v14, .int 2]))] H := hP
  have hD : va_D A [(h0, .inr (5, [v0, .ref h2, v1, v2, v3, v4, v5, v6, v7, v8])), (h1, .inl (a0, 1, .inr (.inl (vp_updL f0 0 2)))), (h2, .inr (0, [v9, v10, v11, v12, v13, v14, .int 2]))] := hD
  refine lv_goto (tgt := 15) hx hb dL_count_9 (by decide) ?_
  refine lv_iconst (v := 0) hx hb dL_count_15 (by decide) ?_
  exact fi hx hb hr hlocks hP hD hK hS (()) trivial rfl [0, 1, 2] [0] rfl (by decide) rfl (Nat.le_of_ble_eq_true rfl) (Nat.le_of_ble_eq_true rfl) dL_count_16
set_option maxHeartbeats 4000000 in
set_option maxRecDepth 100000 in
theorem cL_count_614 (l : Launch) (D : va_G) (h0 : Nat) (h1 : Nat) (h2 : Nat) (h3 : Nat) (h4 : Nat) (h5 : Nat) (v0 : Value) (v1 : Value) (v2 : Value) (v3 : Value) (v4 : Value) (v5 : Value) (v6 : Value) (v7 : Value) (v8 : Value) (f0 : Nat → Int64) (v9 : Value) (v10 : Value) (v11 : Value) (v12 : Value) (v13 : Value) (v14 : Value) (v15 : Value) (v16 : Value) (v17 : Value) (v18 : Value) (v19 : Value) (v20 : Value) (v21 : Value) (v22 : Value) (v23 : Value) (v24 : Value) (f1 : Nat → Int32) (f2 : Nat → Int64) (a0 : ClassId) (a1 : ClassId) (a2 : ClassId) (ef1_0 : f1 0 = (-1)) (ef1_1 : f1 1 = (-1)) (ef2_0 : f2 0 = 1) (ef2_1 : f2 1 = 1)  : CH l yL_count cL_count 4 (some .int) [(0, 9, 12, 19)] { frames := 3, cells := 0, slots := 0, locals := 65 } [.ref h0, .int 8, .ref h1] D [(h0, .inr (5, [v0, v1, v2, .ref h2, v3, v4, v5, v6, v7, v8])), (h1, .inl (a0, 1, .inr (.inl f0))), (h2, .inr (1, [.ref h3, v9, .ref h5, .ref h4, v10, v11, v12, v13, v14, v15, v16, v17, v18])), (h3, .inr (0, [v19, v20, .int 2, v21, v22, v23, v24])), (h4, .inl (a1, 48, .inl f1)), (h5, .inl (a2, 48, .inr (.inl f2)))] [(a0, .long), (a1, .int), (a2, .long)] XN [(h0, .inr (5, [v0, v1, v2, .ref h2, v3, v4, v5, v6, v7, v8])), (h1, .inl (a0, 1, .inr (.inl f0))), (h2, .inr (1, [.ref h3, v9, .ref h5, .ref h4, v10, v11, v12, v13, v14, v15, v16, v17, v18])), (h3, .inr (0, [v19, v20, .int 2, v21, v22, v23, v24])), (h4, .inl (a1, 48, .inl f1)), (h5, .inl (a2, 48, .inr (.inl f2)))] (ei (fun _ : Unit => True) (fun u => 0) (fun _ => [(h0, .inr (5, [v0, v1, v2, .ref h2, v3, v4, v5, v6, v7, v8])), (h1, .inl (a0, 1, .inr (.inl (vp_updL f0 0 2)))), (h2, .inr (1, [.ref h3, v9, .ref h5, .ref h4, v10, v11, v12, v13, v14, v15, v16, v17, v18])), (h3, .inr (0, [v19, v20, .int 2, v21, v22, v23, v24])), (h4, .inl (a1, 48, .inl f1)), (h5, .inl (a2, 48, .inr (.inl f2)))]) (fun u => [(a0, .long), (a1, .int), (a2, .long)]) D) 0 0 := by
  refine CH.ofW (by decide +kernel) (Nat.le_of_ble_eq_true rfl) ?_
  intro p e s m below meth c A ls hcs htab hP hK hD hX hA hS hl
  obtain ⟨hx, hb, hr, hml, hown, hg, hlocks, hin⟩ := hcs
  have hown : s.vm.findClass RL = some m.cls := hown
  have hl : lv_has ls 4 [(0, .ref h0), (1, .int 8), (2, .ref h1)] := hl
  refine lv_aload_n hx hb dL_count_0 rfl (lv_at hl 2 rfl) ?_
  refine lv_iconst (v := 0) hx hb dL_count_1 (by decide) ?_
  refine lv_aload_n hx hb dL_count_2 rfl (lv_at hl 0 rfl) ?_
  refine lv_iload_n hx hb dL_count_3 rfl (lv_at hl 1 rfl) ?_
  refine cVi (n := 1) (As := [.int 8]) (rest := [.int 0, .ref h1]) (wr := [(h0, .inr (5, [v0, v1, v2, .ref h2, v3, v4, v5, v6, v7, v8])), (h1, .inl (a0, 1, .inr (.inl f0))), (h2, .inr (1, [.ref h3, v9, .ref h5, .ref h4, v10, v11, v12, v13, v14, v15, v16, v17, v18])), (h3, .inr (0, [v19, v20, .int 2, v21, v22, v23, v24])), (h4, .inl (a1, 48, .inl f1)), (h5, .inl (a2, 48, .inr (.inl f2)))]) (tr := [(a0, .long), (a1, .int), (a2, .long)]) hx hb hml hown hg okN (cX5_count_334 l D h0 h2 h3 h4 h5 v0 v1 v2 v3 v4 v5 v6 v7 v8 v9 v10 v11 v12 v13 v14 v15 v16 v17 v18 v19 v20 v21 v22 v23 v24 f1 f2 a1 a2 ef1_0 ef1_1 ef2_0 ef2_1) (mwV k837 k838 k839 k84 k840) ⟨rfl, by decide, by decide, by decide +kernel⟩ ⟨rfl, rfl, (Nat.le_of_ble_eq_true rfl), (Nat.le_of_ble_eq_true rfl)⟩ hP hD hK hS xn [0, 2, 3, 4, 5] [] [0, 1, 2, 3, 4, 5] [1, 2] [0, 1, 2] rfl (by decide) rfl rfl (by decide) (by decide) rfl rfl (aNil hA hS) (aNil hA hS) 0 rfl rfl rfl hl.1 rfl (Nat.le_of_ble_eq_true rfl) dL_count_4 ⟨(Nat.le_of_ble_eq_true rfl), (Nat.le_of_ble_eq_true rfl)⟩ (fun u H locs hφ hP hD hK hS hk => ?_)
  have hP : va_P D vwCl [(h0, .inr (5, [v0, v1, v2, .ref h2, v3, v4, v5, v6, v7, v8])), (h1, .inl (a0, 1, .inr (.inl f0))), (h2, .inr (1, [.ref h3, v9, .ref h5, .ref h4, v10, v11, v12, v13, v14, v15, v16, v17, v18])), (h3, .inr (0, [v19, v20, .int 2, v21, v22, v23, v24])), (h4, .inl (a1, 48, .inl f1)), (h5, .inl (a2, 48, .inr (.inl f2)))] H := hP
  have hD : va_D A [(h0, .inr (5, [v0, v1, v2, .ref h2, v3, v4, v5, v6, v7, v8])), (h1, .inl (a0, 1, .inr (.inl f0))), (h2, .inr (1, [.ref h3, v9, .ref h5, .ref h4, v10, v11, v12, v13, v14, v15, v16, v17, v18])), (h3, .inr (0, [v19, v20, .int 2, v21, v22, v23, v24])), (h4, .inl (a1, 48, .inl f1)), (h5, .inl (a2, 48, .inr (.inl f2)))] := hD
  have hK : va_K D vwCl [(a0, .long), (a1, .int), (a2, .long)] s := hK
  refine W.widen (k := 0) (n := 0) (Nat.le_of_ble_eq_true rfl) (Nat.le_of_ble_eq_true rfl) ?_
  refine lv_i2l (v := 2) hx hb dL_count_7 (by decide) ?_
  refine astL hx hb hK hP hD hS 1 0 rfl rfl 0 (by decide) (vin (by decide)) dL_count_8 (fun H locs hP hD hS => ?_)
  have hP : va_P D vwCl [(h0, .inr (5, [v0, v1, v2, .ref h2, v3, v4, v5, v6, v7, v8])), (h1, .inl (a0, 1, .inr (.inl (vp_updL f0 0 2)))), (h2, .inr (1, [.ref h3, v9, .ref h5, .ref h4, v10, v11, v12, v13, v14, v15, v16, v17, v18])), (h3, .inr (0, [v19, v20, .int 2, v21, v22, v23, v24])), (h4, .inl (a1, 48, .inl f1)), (h5, .inl (a2, 48, .inr (.inl f2)))] H := hP
  have hD : va_D A [(h0, .inr (5, [v0, v1, v2, .ref h2, v3, v4, v5, v6, v7, v8])), (h1, .inl (a0, 1, .inr (.inl (vp_updL f0 0 2)))), (h2, .inr (1, [.ref h3, v9, .ref h5, .ref h4, v10, v11, v12, v13, v14, v15, v16, v17, v18])), (h3, .inr (0, [v19, v20, .int 2, v21, v22, v23, v24])), (h4, .inl (a1, 48, .inl f1)), (h5, .inl (a2, 48, .inr (.inl f2)))] := hD
  refine lv_goto (tgt := 15) hx hb dL_count_9 (by decide) ?_
  refine lv_iconst (v := 0) hx hb dL_count_15 (by decide) ?_
  exact fi hx hb hr hlocks hP hD hK hS (()) trivial rfl [0, 1, 2, 3, 4, 5] [0, 1, 2] rfl (by decide) rfl (Nat.le_of_ble_eq_true rfl) (Nat.le_of_ble_eq_true rfl) dL_count_16
set_option maxHeartbeats 4000000 in
set_option maxRecDepth 100000 in
theorem cL_sample_615 (l : Launch) (D : va_G) (hlt : l.stackTraces = false) (h0 : Nat) (x0 : Int32) (x1 : Int32) (h1 : Nat) (h2 : Nat) (v0 : Value) (v1 : Value) (v2 : Value) (v3 : Value) (v4 : Value) (v5 : Value) (v6 : Value) (v7 : Value) (v8 : Value) (v9 : Value) (v10 : Value) (v11 : Value) (v12 : Value) (v13 : Value) (v14 : Value)  (d0 : x0 < 0) : CH l yL_sample cL_sample 5 (some .int) [(0, 9, 12, 13), (0, 9, 16, 19)] { frames := 8, cells := 1, slots := 6, locals := 133 } [.ref h0, .int x0, .int x1, .ref h1] D [(h0, .inr (5, [v0, .ref h2, v1, v2, v3, v4, v5, v6, v7, v8])), (h2, .inr (0, [v9, v10, .int 2, v11, v12, v13, v14]))] [] XX [] (ei (fun _ : Unit => True) (fun _ => 1) (fun _ => []) (fun _ => []) D) 1 6 := by
  refine CH.ofR (by decide +kernel) (Nat.le_of_ble_eq_true rfl) ?_
  intro p e s m below meth c A ls hcs htab hP hK hD hX hA hS hl
  obtain ⟨hx, hb, hr, hml, hown, hg, hlocks, hin⟩ := hcs
  have hown : s.vm.findClass RL = some m.cls := hown
  have hl : lv_has ls 5 [(0, .ref h0), (1, .int x0), (2, .int x1), (3, .ref h1)] := hl
  refine lv_aload_n hx hb dL_sample_0 rfl (lv_at hl 3 rfl) ?_
  refine lv_iconst (v := 0) hx hb dL_sample_1 (by decide) ?_
  refine lv_aload_n hx hb dL_sample_2 rfl (lv_at hl 0 rfl) ?_
  refine lv_iload_n hx hb dL_sample_3 rfl (lv_at hl 1 rfl) ?_
  refine lv_iload_n hx hb dL_sample_4 rfl (lv_at hl 2 rfl) ?_
  refine hVl (n := 2) (As := [.int x0, .int x1]) (rest := [.int 0, .ref h1]) hx hb hml hown hg okXX (cX5_sample_338 l D hlt h0 x0 x1 h2 v0 v1 v2 v3 v4 v5 v6 v7 v8 v9 v10 v11 v12 v13 v14 d0) (mwV k857 k858 k859 k84 k860) ⟨rfl, by decide, by decide, by decide +kernel⟩ ⟨rfl, rfl, (Nat.le_of_ble_eq_true rfl), (Nat.le_of_ble_eq_true rfl)⟩ hP hD hK hS (okXX.2.2 _ _ _ _ hS.2.1 hX) [0, 1] [] rfl (by decide) rfl (aNil hA hS) 0 rfl rfl rfl hl.1 rfl (Nat.le_of_ble_eq_true rfl) dL_sample_5 ⟨(Nat.le_of_ble_eq_true rfl), (Nat.le_of_ble_eq_true rfl)⟩ [] { startPc := 0, endPc := 9, handlerPc := 12, catchType := 13 } [{ startPc := 0, endPc := 9, handlerPc := 16, catchType := 19 }] (htab.trans rfl) (fun z hz => nomatch hz) (by decide) (by decide) (hg _ k605) (XX_cIOOBE hX) (fun q9 H locs hS hk => ?_)
  have hP : va_P D vwCl [] H := pNil
  have hD : va_D (fun _ => True) [] := dNil
  have hK : va_K D vwCl [] s := hK.sub [] rfl
  refine W.widen (k := 1) (n := 6) (Nat.le_of_ble_eq_true rfl) (Nat.le_of_ble_eq_true rfl) ?_
  refine lv_astore (lv' := [(4, .ref q9), (0, .ref h0), (1, .int x0), (2, .int x1), (3, .ref h1)]) hx hb dL_sample_12 hl (by decide) rfl (fun ls hl => ?_)
  refine lv_iconst (v := 1) hx hb dL_sample_14 (by decide) ?_
  exact fi0 hx hb hr hlocks hK hS (Nat.le_of_ble_eq_true rfl) (Nat.le_of_ble_eq_true rfl) dL_sample_15
set_option maxHeartbeats 4000000 in
set_option maxRecDepth 100000 in
theorem cL_sample_616 (l : Launch) (D : va_G) (hlt : l.stackTraces = false) (h0 : Nat) (x0 : Int32) (x1 : Int32) (h1 : Nat) (h2 : Nat) (v0 : Value) (v1 : Value) (v2 : Value) (v3 : Value) (v4 : Value) (v5 : Value) (v6 : Value) (v7 : Value) (v8 : Value) (v9 : Value) (v10 : Value) (v11 : Value) (v12 : Value) (v13 : Value) (v14 : Value)  (d0 : ¬ (x0 < 0)) (d1 : ¬ (x0 < 2)) : CH l yL_sample cL_sample 5 (some .int) [(0, 9, 12, 13), (0, 9, 16, 19)] { frames := 8, cells := 1, slots := 6, locals := 133 } [.ref h0, .int x0, .int x1, .ref h1] D [(h0, .inr (5, [v0, .ref h2, v1, v2, v3, v4, v5, v6, v7, v8])), (h2, .inr (0, [v9, v10, .int 2, v11, v12, v13, v14]))] [] XX [] (ei (fun _ : Unit => True) (fun _ => 1) (fun _ => []) (fun _ => []) D) 1 6 := by
  refine CH.ofR (by decide +kernel) (Nat.le_of_ble_eq_true rfl) ?_
  intro p e s m below meth c A ls hcs htab hP hK hD hX hA hS hl
  obtain ⟨hx, hb, hr, hml, hown, hg, hlocks, hin⟩ := hcs
  have hown : s.vm.findClass RL = some m.cls := hown
  have hl : lv_has ls 5 [(0, .ref h0), (1, .int x0), (2, .int x1), (3, .ref h1)] := hl
  refine lv_aload_n hx hb dL_sample_0 rfl (lv_at hl 3 rfl) ?_
  refine lv_iconst (v := 0) hx hb dL_sample_1 (by decide) ?_
  refine lv_aload_n hx hb dL_sample_2 rfl (lv_at hl 0 rfl) ?_
  refine lv_iload_n hx hb dL_sample_3 rfl (lv_at hl 1 rfl) ?_
  refine lv_iload_n hx hb dL_sample_4 rfl (lv_at hl 2 rfl) ?_
  refine hVl (n := 2) (As := [.int x0, .int x1]) (rest := [.int 0, .ref h1]) hx hb hml hown hg okXX (cX5_sample_340 l D hlt h0 x0 x1 h2 v0 v1 v2 v3 v4 v5 v6 v7 v8 v9 v10 v11 v12 v13 v14 d0 d1) (mwV k857 k858 k859 k84 k860) ⟨rfl, by decide, by decide, by decide +kernel⟩ ⟨rfl, rfl, (Nat.le_of_ble_eq_true rfl), (Nat.le_of_ble_eq_true rfl)⟩ hP hD hK hS (okXX.2.2 _ _ _ _ hS.2.1 hX) [0, 1] [] rfl (by decide) rfl (aNil hA hS) 0 rfl rfl rfl hl.1 rfl (Nat.le_of_ble_eq_true rfl) dL_sample_5 ⟨(Nat.le_of_ble_eq_true rfl), (Nat.le_of_ble_eq_true rfl)⟩ [] { startPc := 0, endPc := 9, handlerPc := 12, catchType := 13 } [{ startPc := 0, endPc := 9, handlerPc := 16, catchType := 19 }] (htab.trans rfl) (fun z hz => nomatch hz) (by decide) (by decide) (hg _ k605) (XX_cIOOBE hX) (fun q9 H locs hS hk => ?_)
  have hP : va_P D vwCl [] H := pNil
  have hD : va_D (fun _ => True) [] := dNil
  have hK : va_K D vwCl [] s := hK.sub [] rfl
  refine W.widen (k := 1) (n := 6) (Nat.le_of_ble_eq_true rfl) (Nat.le_of_ble_eq_true rfl) ?_
  refine lv_astore (lv' := [(4, .ref q9), (0, .ref h0), (1, .int x0), (2, .int x1), (3, .ref h1)]) hx hb dL_sample_12 hl (by decide) rfl (fun ls hl => ?_)
  refine lv_iconst (v := 1) hx hb dL_sample_14 (by decide) ?_
  exact fi0 hx hb hr hlocks hK hS (Nat.le_of_ble_eq_true rfl) (Nat.le_of_ble_eq_true rfl) dL_sample_15
set_option maxHeartbeats 4000000 in
set_option maxRecDepth 100000 in
theorem cL_sample_617 (l : Launch) (D : va_G) (hlt : l.stackTraces = false) (h0 : Nat) (x0 : Int32) (h1 : Nat) (h2 : Nat) (v0 : Value) (v1 : Value) (v2 : Value) (v3 : Value) (v4 : Value) (v5 : Value) (v6 : Value) (v7 : Value) (v8 : Value) (v9 : Value) (v10 : Value) (v11 : Value) (v12 : Value) (v13 : Value) (v14 : Value)  (d0 : x0.toInt < 0 ∨ 5 < x0.toInt) : CH l yL_sample cL_sample 5 (some .int) [(0, 9, 12, 13), (0, 9, 16, 19)] { frames := 7, cells := 1, slots := 6, locals := 112 } [.ref h0, .int 0, .int x0, .ref h1] D [(h0, .inr (5, [v0, .ref h2, v1, v2, v3, v4, v5, v6, v7, v8])), (h2, .inr (0, [v9, v10, .int 2, v11, v12, v13, v14]))] [] XX [] (ei (fun _ : Unit => True) (fun _ => 2) (fun _ => []) (fun _ => []) D) 1 6 := by
  refine CH.ofR (by decide +kernel) (Nat.le_of_ble_eq_true rfl) ?_
  intro p e s m below meth c A ls hcs htab hP hK hD hX hA hS hl
  obtain ⟨hx, hb, hr, hml, hown, hg, hlocks, hin⟩ := hcs
  have hown : s.vm.findClass RL = some m.cls := hown
  have hl : lv_has ls 5 [(0, .ref h0), (1, .int 0), (2, .int x0), (3, .ref h1)] := hl
  refine lv_aload_n hx hb dL_sample_0 rfl (lv_at hl 3 rfl) ?_
  refine lv_iconst (v := 0) hx hb dL_sample_1 (by decide) ?_
  refine lv_aload_n hx hb dL_sample_2 rfl (lv_at hl 0 rfl) ?_
  refine lv_iload_n hx hb dL_sample_3 rfl (lv_at hl 1 rfl) ?_
  refine lv_iload_n hx hb dL_sample_4 rfl (lv_at hl 2 rfl) ?_
  refine hVl (n := 2) (As := [.int 0, .int x0]) (rest := [.int 0, .ref h1]) hx hb hml hown hg okXX (cX5_sample_342 l D hlt h0 x0 h2 v0 v1 v2 v3 v4 v5 v6 v7 v8 v9 v10 v11 v12 v13 v14 d0) (mwV k857 k858 k859 k84 k860) ⟨rfl, by decide, by decide, by decide +kernel⟩ ⟨rfl, rfl, (Nat.le_of_ble_eq_true rfl), (Nat.le_of_ble_eq_true rfl)⟩ hP hD hK hS (okXX.2.2 _ _ _ _ hS.2.1 hX) [0, 1] [] rfl (by decide) rfl (aNil hA hS) 0 rfl rfl rfl hl.1 rfl (Nat.le_of_ble_eq_true rfl) dL_sample_5 ⟨(Nat.le_of_ble_eq_true rfl), (Nat.le_of_ble_eq_true rfl)⟩ [{ startPc := 0, endPc := 9, handlerPc := 12, catchType := 13 }] { startPc := 0, endPc := 9, handlerPc := 16, catchType := 19 } [] (htab.trans rfl) (fun z hz => (List.mem_cons.mp hz).elim (fun e9 => by rw [e9]; exact Or.inr ⟨by decide, "java/lang/IndexOutOfBoundsException", hg _ k605, XX_qIAE_IOOBE hX⟩) ((fun z h9 => nomatch h9) z)) (by decide) (by decide) (hg _ k684) (XX_cIAE hX) (fun q9 H locs hS hk => ?_)
  have hP : va_P D vwCl [] H := pNil
  have hD : va_D (fun _ => True) [] := dNil
  have hK : va_K D vwCl [] s := hK.sub [] rfl
  refine W.widen (k := 1) (n := 6) (Nat.le_of_ble_eq_true rfl) (Nat.le_of_ble_eq_true rfl) ?_
  refine lv_astore (lv' := [(4, .ref q9), (0, .ref h0), (1, .int 0), (2, .int x0), (3, .ref h1)]) hx hb dL_sample_16 hl (by decide) rfl (fun ls hl => ?_)
  refine lv_iconst (v := 2) hx hb dL_sample_18 (by decide) ?_
  exact fi0 hx hb hr hlocks hK hS (Nat.le_of_ble_eq_true rfl) (Nat.le_of_ble_eq_true rfl) dL_sample_19
set_option maxHeartbeats 4000000 in
set_option maxRecDepth 100000 in
theorem cX6_thrown_618 (l : Launch) (D : va_G) (h0 : Nat) (v0 : Value) (v1 : Value) (v2 : Value) (v3 : Value) (v4 : Value) (v5 : Value) (v6 : Value) (v7 : Value) (v8 : Value) (v9 : Value) (v10 : Value) (v11 : Value) (v12 : Value) (v13 : Value) (v14 : Value) (v15 : Value) (v16 : Value) (v17 : Value) (v18 : Value) (v19 : Value) (v20 : Value) (v21 : Value) (v22 : Value) (v23 : Value) (v24 : Value) (v25 : Value)   : CT l yX6_thrown cX6_thrown 1 (some .int) { frames := 0, cells := 0, slots := 0, locals := 0 } [.ref h0] D [(h0, .inr (6, [.int 2, v0, v1, v2, v3, v4, v5, v6, v7, v8, v9, v10, v11, v12, v13, v14, v15, v16, v17, v18, v19, v20, v21, v22, v23, v24, v25]))] [] XN [] (ei (fun _ : Unit => True) (fun _ => 2) (fun _ => []) (fun _ => []) D) 0 0 := by
  refine CT.ofR (by decide +kernel) (Nat.le_of_ble_eq_true rfl) ?_
  intro p e s m below meth c A ls hcs hP hK hD hX hA hS hl
  obtain ⟨hx, hb, hr, hml, hown, hg, hlocks, hin⟩ := hcs
  have hown : s.vm.findClass RX6 = some m.cls := hown
  have hl : lv_has ls 1 [(0, .ref h0)] := hl
  refine lv_aload_n hx hb dX6_thrown_0 rfl (lv_at hl 0 rfl) ?_
  refine va_get (D := D) (ci := 6) (v := .int 2) (C := RX6) (T := TX6) (N := 27) hx hb hg inX6 hown hK hP 0 rfl rfl 0 (by decide) (hg _ k1219) (fun _ h9 => h9) rfl dX6_thrown_1 ?_
  exact fi0 hx hb hr hlocks hK hS (Nat.le_of_ble_eq_true rfl) (Nat.le_of_ble_eq_true rfl) dX6_thrown_4
set_option maxHeartbeats 4000000 in
set_option maxRecDepth 100000 in
theorem cL_sample_619 (l : Launch) (D : va_G) (h0 : Nat) (h1 : Nat) (h2 : Nat) (h3 : Nat) (v0 : Value) (v1 : Value) (v2 : Value) (v3 : Value) (v4 : Value) (v5 : Value) (v6 : Value) (v7 : Value) (v8 : Value) (f0 : Nat → Int64) (v9 : Value) (v10 : Value) (v11 : Value) (v12 : Value) (v13 : Value) (f1 : Nat → Int32) (a0 : ClassId) (a1 : ClassId) (ef1_0 : f1 0 = 0)  : CH l yL_sample cL_sample 5 (some .int) [(0, 9, 12, 13), (0, 9, 16, 19)] { frames := 2, cells := 0, slots := 0, locals := 43 } [.ref h0, .int 0, .int 0, .ref h1] D [(h0, .inr (5, [v0, .ref h2, v1, v2, v3, v4, v5, v6, v7, v8])), (h1, .inl (a0, 1, .inr (.inl f0))), (h2, .inr (0, [.ref h3, v9, .int 2, v10, v11, v12, v13])), (h3, .inl (a1, 48, .inl f1))] [(a0, .long), (a1, .int)] XN [(h0, .inr (5, [v0, .ref h2, v1, v2, v3, v4, v5, v6, v7, v8])), (h1, .inl (a0, 1, .inr (.inl f0))), (h2, .inr (0, [.ref h3, v9, .int 2, v10, v11, v12, v13])), (h3, .inl (a1, 48, .inl f1))] (ei (fun _ : Unit => True) (fun u => 0) (fun _ => [(h0, .inr (5, [v0, .ref h2, v1, v2, v3, v4, v5, v6, v7, v8])), (h1, .inl (a0, 1, .inr (.inl (vp_updL f0 0 0)))), (h2, .inr (0, [.ref h3, v9, .int 2, v10, v11, v12, v13])), (h3, .inl (a1, 48, .inl f1))]) (fun u => [(a0, .long), (a1, .int)]) D) 0 0 := by
  refine CH.ofW (by decide +kernel) (Nat.le_of_ble_eq_true rfl) ?_
  intro p e s m below meth c A ls hcs htab hP hK hD hX hA hS hl
  obtain ⟨hx, hb, hr, hml, hown, hg, hlocks, hin⟩ := hcs
  have hown : s.vm.findClass RL = some m.cls := hown
  have hl : lv_has ls 5 [(0, .ref h0), (1, .int 0), (2, .int 0), (3, .ref h1)] := hl
  refine lv_aload_n hx hb dL_sample_0 rfl (lv_at hl 3 rfl) ?_
  refine lv_iconst (v := 0) hx hb dL_sample_1 (by decide) ?_
  refine lv_aload_n hx hb dL_sample_2 rfl (lv_at hl 0 rfl) ?_
  refine lv_iload_n hx hb dL_sample_3 rfl (lv_at hl 1 rfl) ?_
  refine lv_iload_n hx hb dL_sample_4 rfl (lv_at hl 2 rfl) ?_
  refine cVl (n := 2) (As := [.int 0, .int 0]) (rest := [.int 0, .ref h1]) (wr := [(h0, .inr (5, [v0, .ref h2, v1, v2, v3, v4, v5, v6, v7, v8])), (h1, .inl (a0, 1, .inr (.inl f0))), (h2, .inr (0, [.ref h3, v9, .int 2, v10, v11, v12, v13])), (h3, .inl (a1, 48, .inl f1))]) (tr := [(a0, .long), (a1, .int)]) hx hb hml hown hg okN (cX5_sample_344 l D h0 h2 h3 v0 v1 v2 v3 v4 v5 v6 v7 v8 v9 v10 v11 v12 v13 f1 a1 ef1_0) (mwV k857 k858 k859 k84 k860) ⟨rfl, by decide, by decide, by decide +kernel⟩ ⟨rfl, rfl, (Nat.le_of_ble_eq_true rfl), (Nat.le_of_ble_eq_true rfl)⟩ hP hD hK hS xn [0, 2, 3] [] [0, 1, 2, 3] [1] [0, 1] rfl (by decide) rfl rfl (by decide) (by decide) rfl rfl (aNil hA hS) (aNil hA hS) 0 rfl rfl rfl hl.1 rfl (Nat.le_of_ble_eq_true rfl) dL_sample_5 ⟨(Nat.le_of_ble_eq_true rfl), (Nat.le_of_ble_eq_true rfl)⟩ (fun u H locs hφ hP hD hK hS hk => ?_)
  have hP : va_P D vwCl [(h0, .inr (5, [v0, .ref h2, v1, v2, v3, v4, v5, v6, v7, v8])), (h1, .inl (a0, 1, .inr (.inl f0))), (h2, .inr (0, [.ref h3, v9, .int 2, v10, v11, v12, v13])), (h3, .inl (a1, 48, .inl f1))] H := hP
  have hD : va_D A [(h0, .inr (5, [v0, .ref h2, v1, v2, v3, v4, v5, v6, v7, v8])), (h1, .inl (a0, 1, .inr (.inl f0))), (h2, .inr (0, [.ref h3, v9, .int 2, v10, v11, v12, v13])), (h3, .inl (a1, 48, .inl f1))] := hD
  have hK : va_K D vwCl [(a0, .long), (a1, .int)] s := hK
  refine W.widen (k := 0) (n := 0) (Nat.le_of_ble_eq_true rfl) (Nat.le_of_ble_eq_true rfl) ?_
  refine astL hx hb hK hP hD hS 1 0 rfl rfl 0 (by decide) (vin (by decide)) dL_sample_8 (fun H locs hP hD hS => ?_)
  have hP : va_P D vwCl [(h0, .inr (5, [v0, .ref h2, v1, v2, v3, v4, v5, v6, v7, v8])), (h1, .inl (a0, 1, .inr (.inl (vp_updL f0 0 0)))), (h2, .inr (0, [.ref h3, v9, .int 2, v10, v11, v12, v13])), (h3, .inl (a1, 48, .inl f1))] H := hP
  have hD : va_D A [(h0, .inr (5, [v0, .ref h2, v1, v2, v3, v4, v5, v6, v7, v8])), (h1, .inl (a0, 1, .inr (.inl (vp_updL f0 0 0)))), (h2, .inr (0, [.ref h3, v9, .int 2, v10, v11, v12, v13])), (h3, .inl (a1, 48, .inl f1))] := hD
  refine lv_goto (tgt := 20) hx hb dL_sample_9 (by decide) ?_
  refine lv_iconst (v := 0) hx hb dL_sample_20 (by decide) ?_
  exact fi hx hb hr hlocks hP hD hK hS (()) trivial rfl [0, 1, 2, 3] [0, 1] rfl (by decide) rfl (Nat.le_of_ble_eq_true rfl) (Nat.le_of_ble_eq_true rfl) dL_sample_21
set_option maxHeartbeats 4000000 in
set_option maxRecDepth 100000 in
theorem cL_sample_620 (l : Launch) (D : va_G) (h0 : Nat) (h1 : Nat) (h2 : Nat) (h3 : Nat) (v0 : Value) (v1 : Value) (v2 : Value) (v3 : Value) (v4 : Value) (v5 : Value) (v6 : Value) (v7 : Value) (v8 : Value) (f0 : Nat → Int64) (v9 : Value) (v10 : Value) (v11 : Value) (v12 : Value) (v13 : Value) (f1 : Nat → Int32) (a0 : ClassId) (a1 : ClassId) (ef1_0 : f1 0 = 0)  : CH l yL_sample cL_sample 5 (some .int) [(0, 9, 12, 13), (0, 9, 16, 19)] { frames := 2, cells := 0, slots := 0, locals := 43 } [.ref h0, .int 0, .int 1, .ref h1] D [(h0, .inr (5, [v0, .ref h2, v1, v2, v3, v4, v5, v6, v7, v8])), (h1, .inl (a0, 1, .inr (.inl f0))), (h2, .inr (0, [v9, .ref h3, .int 2, v10, v11, v12, v13])), (h3, .inl (a1, 48, .inl f1))] [(a0, .long), (a1, .int)] XN [(h0, .inr (5, [v0, .ref h2, v1, v2, v3, v4, v5, v6, v7, v8])), (h1, .inl (a0, 1, .inr (.inl f0))), (h2, .inr (0, [v9, .ref h3, .int 2, v10, v11, v12, v13])), (h3, .inl (a1, 48, .inl f1))] (ei (fun _ : Unit => True) (fun u => 0) (fun _ => [(h0, .inr (5, [v0, .ref h2, v1, v2, v3, v4, v5, v6, v7, v8])), (h1, .inl (a0, 1, .inr (.inl (vp_updL f0 0 0)))), (h2, .inr (0, [v9, .ref h3, .int 2, v10, v11, v12, v13])), (h3, .inl (a1, 48, .inl f1))]) (fun u => [(a0, .long), (a1, .int)]) D) 0 0 := by
  refine CH.ofW (by decide +kernel) (Nat.le_of_ble_eq_true rfl) ?_
  intro p e s m below meth c A ls hcs htab hP hK hD hX hA hS hl
  obtain ⟨hx, hb, hr, hml, hown, hg, hlocks, hin⟩ := hcs
  have hown : s.vm.findClass RL = some m.cls := hown
  have hl : lv_has ls 5 [(0, .ref h0), (1, .int 0), (2, .int 1), (3, .ref h1)] := hl
  refine lv_aload_n hx hb dL_sample_0 rfl (lv_at hl 3 rfl) ?_
  refine lv_iconst (v := 0) hx hb dL_sample_1 (by decide) ?_
  refine lv_aload_n hx hb dL_sample_2 rfl (lv_at hl 0 rfl) ?_
  refine lv_iload_n hx hb dL_sample_3 rfl (lv_at hl 1 rfl) ?_
  refine lv_iload_n hx hb dL_sample_4 rfl (lv_at hl 2 rfl) ?_
  refine cVl (n := 2) (As := [.int 0, .int 1]) (rest := [.int 0, .ref h1]) (wr := [(h0, .inr (5, [v0, .ref h2, v1, v2, v3, v4, v5, v6, v7, v8])), (h1, .inl (a0, 1, .inr (.inl f0))), (h2, .inr (0, [v9, .ref h3, .int 2, v10, v11, v12, v13])), (h3, .inl (a1, 48, .inl f1))]) (tr := [(a0, .long), (a1, .int)]) hx hb hml hown hg okN (cX5_sample_345 l D h0 h2 h3 v0 v1 v2 v3 v4 v5 v6 v7 v8 v9 v10 v11 v12 v13 f1 a1 ef1_0) (mwV k857 k858 k859 k84 k860) ⟨rfl, by decide, by decide, by decide +kernel⟩ ⟨rfl, rfl, (Nat.le_of_ble_eq_true rfl), (Nat.le_of_ble_eq_true rfl)⟩ hP hD hK hS xn [0, 2, 3] [] [0, 1, 2, 3] [1] [0, 1] rfl (by decide) rfl rfl (by decide) (by decide) rfl rfl (aNil hA hS) (aNil hA hS) 0 rfl rfl rfl hl.1 rfl (Nat.le_of_ble_eq_true rfl) dL_sample_5 ⟨(Nat.le_of_ble_eq_true rfl), (Nat.le_of_ble_eq_true rfl)⟩ (fun u H locs hφ hP hD hK hS hk => ?_)
  have hP : va_P D vwCl [(h0, .inr (5, [v0, .ref h2, v1, v2, v3, v4, v5, v6, v7, v8])), (h1, .inl (a0, 1, .inr (.inl f0))), (h2, .inr (0, [v9, .ref h3, .int 2, v10, v11, v12, v13])), (h3, .inl (a1, 48, .inl f1))] H := hP
  have hD : va_D A [(h0, .inr (5, [v0, .ref h2, v1, v2, v3, v4, v5, v6, v7, v8])), (h1, .inl (a0, 1, .inr (.inl f0))), (h2, .inr (0, [v9, .ref h3, .int 2, v10, v11, v12, v13])), (h3, .inl (a1, 48, .inl f1))] := hD
  have hK : va_K D vwCl [(a0, .long), (a1, .int)] s := hK
  refine W.widen (k := 0) (n := 0) (Nat.le_of_ble_eq_true rfl) (Nat.le_of_ble_eq_true rfl) ?_
  refine astL hx hb hK hP hD hS 1 0 rfl rfl 0 (by decide) (vin (by decide)) dL_sample_8 (fun H locs hP hD hS => ?_)
  have hP : va_P D vwCl [(h0, .inr (5, [v0, .ref h2, v1, v2, v3, v4, v5, v6, v7, v8])), (h1, .inl (a0, 1, .inr (.inl (vp_updL f0 0 0)))), (h2, .inr (0, [v9, .ref h3, .int 2, v10, v11, v12, v13])), (h3, .inl (a1, 48, .inl f1))] H := hP
  have hD : va_D A [(h0, .inr (5, [v0, .ref h2, v1, v2, v3, v4, v5, v6, v7, v8])), (h1, .inl (a0, 1, .inr (.inl (vp_updL f0 0 0)))), (h2, .inr (0, [v9, .ref h3, .int 2, v10, v11, v12, v13])), (h3, .inl (a1, 48, .inl f1))] := hD
  refine lv_goto (tgt := 20) hx hb dL_sample_9 (by decide) ?_
  refine lv_iconst (v := 0) hx hb dL_sample_20 (by decide) ?_
  exact fi hx hb hr hlocks hP hD hK hS (()) trivial rfl [0, 1, 2, 3] [0, 1] rfl (by decide) rfl (Nat.le_of_ble_eq_true rfl) (Nat.le_of_ble_eq_true rfl) dL_sample_21
set_option maxHeartbeats 4000000 in
set_option maxRecDepth 100000 in
theorem cL_sample_621 (l : Launch) (D : va_G) (h0 : Nat) (h1 : Nat) (h2 : Nat) (h3 : Nat) (h4 : Nat) (v0 : Value) (v1 : Value) (v2 : Value) (v3 : Value) (v4 : Value) (v5 : Value) (v6 : Value) (v7 : Value) (f0 : Nat → Int64) (v8 : Value) (v9 : Value) (v10 : Value) (v11 : Value) (v12 : Value) (v13 : Value) (v14 : Value) (v15 : Value) (v16 : Value) (v17 : Value) (v18 : Value) (v19 : Value) (v20 : Value) (v21 : Value) (v22 : Value) (v23 : Value) (v24 : Value) (v25 : Value) (f1 : Nat → Int32) (a0 : ClassId) (a1 : ClassId) (ef1_0 : f1 0 = (-1))  : CH l yL_sample cL_sample 5 (some .int) [(0, 9, 12, 13), (0, 9, 16, 19)] { frames := 2, cells := 0, slots := 0, locals := 43 } [.ref h0, .int 0, .int 2, .ref h1] D [(h0, .inr (5, [v0, .ref h2, v1, .ref h3, v2, v3, v4, v5, v6, v7])), (h1, .inl (a0, 1, .inr (.inl f0))), (h2, .inr (0, [v8, v9, .int 2, v10, v11, v12, v13])), (h3, .inr (1, [v14, v15, v16, .ref h4, v17, v18, v19, v20, v21, v22, v23, v24, v25])), (h4, .inl (a1, 48, .inl f1))] [(a0, .long), (a1, .int)] XN [(h0, .inr (5, [v0, .ref h2, v1, .ref h3, v2, v3, v4, v5, v6, v7])), (h1, .inl (a0, 1, .inr (.inl f0))), (h2, .inr (0, [v8, v9, .int 2, v10, v11, v12, v13])), (h3, .inr (1, [v14, v15, v16, .ref h4, v17, v18, v19, v20, v21, v22, v23, v24, v25])), (h4, .inl (a1, 48, .inl f1))] (ei (fun _ : Unit => True) (fun u => 0) (fun _ => [(h0, .inr (5, [v0, .ref h2, v1, .ref h3, v2, v3, v4, v5, v6, v7])), (h1, .inl (a0, 1, .inr (.inl (vp_updL f0 0 1)))), (h2, .inr (0, [v8, v9, .int 2, v10, v11, v12, v13])), (h3, .inr (1, [v14, v15, v16, .ref h4, v17, v18, v19, v20, v21, v22, v23, v24, v25])), (h4, .inl (a1, 48, .inl f1))]) (fun u => [(a0, .long), (a1, .int)]) D) 0 0 := by
  refine CH.ofW (by decide +kernel) (Nat.le_of_ble_eq_true rfl) ?_
  intro p e s m below meth c A ls hcs htab hP hK hD hX hA hS hl
  obtain ⟨hx, hb, hr, hml, hown, hg, hlocks, hin⟩ := hcs
  have hown : s.vm.findClass RL = some m.cls := hown
  have hl : lv_has ls 5 [(0, .ref h0), (1, .int 0), (2, .int 2), (3, .ref h1)] := hl
  refine lv_aload_n hx hb dL_sample_0 rfl (lv_at hl 3 rfl) ?_
  refine lv_iconst (v := 0) hx hb dL_sample_1 (by decide) ?_
  refine lv_aload_n hx hb dL_sample_2 rfl (lv_at hl 0 rfl) ?_
  refine lv_iload_n hx hb dL_sample_3 rfl (lv_at hl 1 rfl) ?_
  refine lv_iload_n hx hb dL_sample_4 rfl (lv_at hl 2 rfl) ?_
  refine cVl (n := 2) (As := [.int 0, .int 2]) (rest := [.int 0, .ref h1]) (wr := [(h0, .inr (5, [v0, .ref h2, v1, .ref h3, v2, v3, v4, v5, v6, v7])), (h1, .inl (a0, 1, .inr (.inl f0))), (h2, .inr (0, [v8, v9, .int 2, v10, v11, v12, v13])), (h3, .inr (1, [v14, v15, v16, .ref h4, v17, v18, v19, v20, v21, v22, v23, v24, v25])), (h4, .inl (a1, 48, .inl f1))]) (tr := [(a0, .long), (a1, .int)]) hx hb hml hown hg okN (cX5_sample_346 l D h0 h2 h3 h4 v0 v1 v2 v3 v4 v5 v6 v7 v8 v9 v10 v11 v12 v13 v14 v15 v16 v17 v18 v19 v20 v21 v22 v23 v24 v25 f1 a1 ef1_0) (mwV k857 k858 k859 k84 k860) ⟨rfl, by decide, by decide, by decide +kernel⟩ ⟨rfl, rfl, (Nat.le_of_ble_eq_true rfl), (Nat.le_of_ble_eq_true rfl)⟩ hP hD hK hS xn [0, 2, 3, 4] [] [0, 1, 2, 3, 4] [1] [0, 1] rfl (by decide) rfl rfl (by decide) (by decide) rfl rfl (aNil hA hS) (aNil hA hS) 0 rfl rfl rfl hl.1 rfl (Nat.le_of_ble_eq_true rfl) dL_sample_5 ⟨(Nat.le_of_ble_eq_true rfl), (Nat.le_of_ble_eq_true rfl)⟩ (fun u H locs hφ hP hD hK hS hk => ?_)
  have hP : va_P D vwCl [(h0, .inr (5, [v0, .ref h2, v1, .ref h3, v2, v3, v4, v5, v6, v7])), (h1, .inl (a0, 1, .inr (.inl f0))), (h2, .inr (0, [v8, v9, .int 2, v10, v11, v12, v13])), (h3, .inr (1, [v14, v15, v16, .ref h4, v17, v18, v19, v20, v21, v22, v23, v24, v25])), (h4, .inl (a1, 48, .inl f1))] H := hP
  have hD : va_D A [(h0, .inr (5, [v0, .ref h2, v1, .ref h3, v2, v3, v4, v5, v6, v7])), (h1, .inl (a0, 1, .inr (.inl f0))), (h2, .inr (0, [v8, v9, .int 2, v10, v11, v12, v13])), (h3, .inr (1, [v14, v15, v16, .ref h4, v17, v18, v19, v20, v21, v22, v23, v24, v25])), (h4, .inl (a1, 48, .inl f1))] := hD
  have hK : va_K D vwCl [(a0, .long), (a1, .int)] s := hK
  refine W.widen (k := 0) (n := 0) (Nat.le_of_ble_eq_true rfl) (Nat.le_of_ble_eq_true rfl) ?_
  refine astL hx hb hK hP hD hS 1 0 rfl rfl 0 (by decide) (vin (by decide)) dL_sample_8 (fun H locs hP hD hS => ?_)
  have hP : va_P D vwCl [(h0, .inr (5, [v0, .ref h2, v1, .ref h3, v2, v3, v4, v5, v6, v7])), (h1, .inl (a0, 1, .inr (.inl (vp_updL f0 0 1)))), (h2, .inr (0, [v8, v9, .int 2, v10, v11, v12, v13])), (h3, .inr (1, [v14, v15, v16, .ref h4, v17, v18, v19, v20, v21, v22, v23, v24, v25])), (h4, .inl (a1, 48, .inl f1))] H := hP
  have hD : va_D A [(h0, .inr (5, [v0, .ref h2, v1, .ref h3, v2, v3, v4, v5, v6, v7])), (h1, .inl (a0, 1, .inr (.inl (vp_updL f0 0 1)))), (h2, .inr (0, [v8, v9, .int 2, v10, v11, v12, v13])), (h3, .inr (1, [v14, v15, v16, .ref h4, v17, v18, v19, v20, v21, v22, v23, v24, v25])), (h4, .inl (a1, 48, .inl f1))] := hD
  refine lv_goto (tgt := 20) hx hb dL_sample_9 (by decide) ?_
  refine lv_iconst (v := 0) hx hb dL_sample_20 (by decide) ?_
  exact fi hx hb hr hlocks hP hD hK hS (()) trivial rfl [0, 1, 2, 3, 4] [0, 1] rfl (by decide) rfl (Nat.le_of_ble_eq_true rfl) (Nat.le_of_ble_eq_true rfl) dL_sample_21
set_option maxHeartbeats 4000000 in
set_option maxRecDepth 100000 in
theorem cL_sample_622 (l : Launch) (D : va_G) (h0 : Nat) (h1 : Nat) (h2 : Nat) (h3 : Nat) (h4 : Nat) (h5 : Nat) (h6 : Nat) (v0 : Value) (v1 : Value) (v2 : Value) (v3 : Value) (v4 : Value) (v5 : Value) (v6 : Value) (v7 : Value) (f0 : Nat → Int64) (v8 : Value) (v9 : Value) (v10 : Value) (v11 : Value) (v12 : Value) (v13 : Value) (v14 : Value) (v15 : Value) (v16 : Value) (v17 : Value) (v18 : Value) (v19 : Value) (v20 : Value) (v21 : Value) (v22 : Value) (v23 : Value) (v24 : Value) (f1 : Nat → Int32) (f2 : Nat → Option Nat) (v25 : Value) (a0 : ClassId) (a1 : ClassId) (a2 : ClassId) (ef1_0 : f1 0 = (-1)) (ef2_0 : f2 0 = some h6)  : CH l yL_sample cL_sample 5 (some .int) [(0, 9, 12, 13), (0, 9, 16, 19)] { frames := 4, cells := 0, slots := 0, locals := 88 } [.ref h0, .int 0, .int 3, .ref h1] D [(h0, .inr (5, [v0, .ref h2, v1, .ref h3, v2, v3, v4, v5, v6, v7])), (h1, .inl (a0, 1, .inr (.inl f0))), (h2, .inr (0, [v8, v9, .int 2, v10, v11, v12, v13])), (h3, .inr (1, [v14, .ref h5, v15, .ref h4, v16, v17, v18, v19, v20, v21, v22, v23, v24])), (h4, .inl (a1, 48, .inl f1)), (h5, .inl (a2, 48, .inr (.inr (.inr (.inr f2))))), (h6, .inr (4, [v25, .int 0, .int 0]))] [(a0, .long), (a1, .int), (a2, .object "LiftingSignal$Whole")] XN [(h0, .inr (5, [v0, .ref h2, v1, .ref h3, v2, v3, v4, v5, v6, v7])), (h1, .inl (a0, 1, .inr (.inl f0))), (h2, .inr (0, [v8, v9, .int 2, v10, v11, v12, v13])), (h3, .inr (1, [v14, .ref h5, v15, .ref h4, v16, v17, v18, v19, v20, v21, v22, v23, v24])), (h4, .inl (a1, 48, .inl f1)), (h5, .inl (a2, 48, .inr (.inr (.inr (.inr f2))))), (h6, .inr (4, [v25, .int 0, .int 0]))] (ei (fun _ : Unit => True) (fun u => 0) (fun _ => [(h0, .inr (5, [v0, .ref h2, v1, .ref h3, v2, v3, v4, v5, v6, v7])), (h1, .inl (a0, 1, .inr (.inl (vp_updL f0 0 0)))), (h2, .inr (0, [v8, v9, .int 2, v10, v11, v12, v13])), (h3, .inr (1, [v14, .ref h5, v15, .ref h4, v16, v17, v18, v19, v20, v21, v22, v23, v24])), (h4, .inl (a1, 48, .inl f1)), (h5, .inl (a2, 48, .inr (.inr (.inr (.inr f2))))), (h6, .inr (4, [v25, .int 0, .int 0]))]) (fun u => [(a0, .long), (a1, .int), (a2, .object "LiftingSignal$Whole")]) D) 0 0 := by
  refine CH.ofW (by decide +kernel) (Nat.le_of_ble_eq_true rfl) ?_
  intro p e s m below meth c A ls hcs htab hP hK hD hX hA hS hl
  obtain ⟨hx, hb, hr, hml, hown, hg, hlocks, hin⟩ := hcs
  have hown : s.vm.findClass RL = some m.cls := hown
  have hl : lv_has ls 5 [(0, .ref h0), (1, .int 0), (2, .int 3), (3, .ref h1)] := hl
  refine lv_aload_n hx hb dL_sample_0 rfl (lv_at hl 3 rfl) ?_
  refine lv_iconst (v := 0) hx hb dL_sample_1 (by decide) ?_
  refine lv_aload_n hx hb dL_sample_2 rfl (lv_at hl 0 rfl) ?_
  refine lv_iload_n hx hb dL_sample_3 rfl (lv_at hl 1 rfl) ?_
  refine lv_iload_n hx hb dL_sample_4 rfl (lv_at hl 2 rfl) ?_
  refine cVl (n := 2) (As := [.int 0, .int 3]) (rest := [.int 0, .ref h1]) (wr := [(h0, .inr (5, [v0, .ref h2, v1, .ref h3, v2, v3, v4, v5, v6, v7])), (h1, .inl (a0, 1, .inr (.inl f0))), (h2, .inr (0, [v8, v9, .int 2, v10, v11, v12, v13])), (h3, .inr (1, [v14, .ref h5, v15, .ref h4, v16, v17, v18, v19, v20, v21, v22, v23, v24])), (h4, .inl (a1, 48, .inl f1)), (h5, .inl (a2, 48, .inr (.inr (.inr (.inr f2))))), (h6, .inr (4, [v25, .int 0, .int 0]))]) (tr := [(a0, .long), (a1, .int), (a2, .object "LiftingSignal$Whole")]) hx hb hml hown hg okN (cX5_sample_347 l D h0 h2 h3 h4 h5 h6 v0 v1 v2 v3 v4 v5 v6 v7 v8 v9 v10 v11 v12 v13 v14 v15 v16 v17 v18 v19 v20 v21 v22 v23 v24 f1 f2 v25 a1 a2 ef1_0 ef2_0) (mwV k857 k858 k859 k84 k860) ⟨rfl, by decide, by decide, by decide +kernel⟩ ⟨rfl, rfl, (Nat.le_of_ble_eq_true rfl), (Nat.le_of_ble_eq_true rfl)⟩ hP hD hK hS xn [0, 2, 3, 4, 5, 6] [] [0, 1, 2, 3, 4, 5, 6] [1, 2] [0, 1, 2] rfl (by decide) rfl rfl (by decide) (by decide) rfl rfl (aNil hA hS) (aNil hA hS) 0 rfl rfl rfl hl.1 rfl (Nat.le_of_ble_eq_true rfl) dL_sample_5 ⟨(Nat.le_of_ble_eq_true rfl), (Nat.le_of_ble_eq_true rfl)⟩ (fun u H locs hφ hP hD hK hS hk => ?_)
  have hP : va_P D vwCl [(h0, .inr (5, [v0, .ref h2, v1, .ref h3, v2, v3, v4, v5, v6, v7])), (h1, .inl (a0, 1, .inr (.inl f0))), (h2, .inr (0, [v8, v9, .int 2, v10, v11, v12, v13])), (h3, .inr (1, [v14, .ref h5, v15, .ref h4, v16, v17, v18, v19, v20, v21, v22, v23, v24])), (h4, .inl (a1, 48, .inl f1)), (h5, .inl (a2, 48, .inr (.inr (.inr (.inr f2))))), (h6, .inr (4, [v25, .int 0, .int 0]))] H := hP
  have hD : va_D A [(h0, .inr (5, [v0, .ref h2, v1, .ref h3, v2, v3, v4, v5, v6, v7])), (h1, .inl (a0, 1, .inr (.inl f0))), (h2, .inr (0, [v8, v9, .int 2, v10, v11, v12, v13])), (h3, .inr (1, [v14, .ref h5, v15, .ref h4, v16, v17, v18, v19, v20, v21, v22, v23, v24])), (h4, .inl (a1, 48, .inl f1)), (h5, .inl (a2, 48, .inr (.inr (.inr (.inr f2))))), (h6, .inr (4, [v25, .int 0, .int 0]))] := hD
  have hK : va_K D vwCl [(a0, .long), (a1, .int), (a2, .object "LiftingSignal$Whole")] s := hK
  refine W.widen (k := 0) (n := 0) (Nat.le_of_ble_eq_true rfl) (Nat.le_of_ble_eq_true rfl) ?_
  refine astL hx hb hK hP hD hS 1 0 rfl rfl 0 (by decide) (vin (by decide)) dL_sample_8 (fun H locs hP hD hS => ?_)
  have hP : va_P D vwCl [(h0, .inr (5, [v0, .ref h2, v1, .ref h3, v2, v3, v4, v5, v6, v7])), (h1, .inl (a0, 1, .inr (.inl (vp_updL f0 0 0)))), (h2, .inr (0, [v8, v9, .int 2, v10, v11, v12, v13])), (h3, .inr (1, [v14, .ref h5, v15, .ref h4, v16, v17, v18, v19, v20, v21, v22, v23, v24])), (h4, .inl (a1, 48, .inl f1)), (h5, .inl (a2, 48, .inr (.inr (.inr (.inr f2))))), (h6, .inr (4, [v25, .int 0, .int 0]))] H := hP
  have hD : va_D A [(h0, .inr (5, [v0, .ref h2, v1, .ref h3, v2, v3, v4, v5, v6, v7])), (h1, .inl (a0, 1, .inr (.inl (vp_updL f0 0 0)))), (h2, .inr (0, [v8, v9, .int 2, v10, v11, v12, v13])), (h3, .inr (1, [v14, .ref h5, v15, .ref h4, v16, v17, v18, v19, v20, v21, v22, v23, v24])), (h4, .inl (a1, 48, .inl f1)), (h5, .inl (a2, 48, .inr (.inr (.inr (.inr f2))))), (h6, .inr (4, [v25, .int 0, .int 0]))] := hD
  refine lv_goto (tgt := 20) hx hb dL_sample_9 (by decide) ?_
  refine lv_iconst (v := 0) hx hb dL_sample_20 (by decide) ?_
  exact fi hx hb hr hlocks hP hD hK hS (()) trivial rfl [0, 1, 2, 3, 4, 5, 6] [0, 1, 2] rfl (by decide) rfl (Nat.le_of_ble_eq_true rfl) (Nat.le_of_ble_eq_true rfl) dL_sample_21
set_option maxHeartbeats 4000000 in
set_option maxRecDepth 100000 in
theorem cL_sample_623 (l : Launch) (D : va_G) (h0 : Nat) (h1 : Nat) (h2 : Nat) (h3 : Nat) (h4 : Nat) (v0 : Value) (v1 : Value) (v2 : Value) (v3 : Value) (v4 : Value) (v5 : Value) (v6 : Value) (v7 : Value) (f0 : Nat → Int64) (v8 : Value) (v9 : Value) (v10 : Value) (v11 : Value) (v12 : Value) (v13 : Value) (v14 : Value) (v15 : Value) (v16 : Value) (v17 : Value) (v18 : Value) (v19 : Value) (v20 : Value) (v21 : Value) (v22 : Value) (v23 : Value) (v24 : Value) (v25 : Value) (f1 : Nat → Int64) (a0 : ClassId) (a1 : ClassId) (ef1_0 : f1 0 = 1)  : CH l yL_sample cL_sample 5 (some .int) [(0, 9, 12, 13), (0, 9, 16, 19)] { frames := 2, cells := 0, slots := 0, locals := 43 } [.ref h0, .int 0, .int 4, .ref h1] D [(h0, .inr (5, [v0, .ref h2, v1, .ref h3, v2, v3, v4, v5, v6, v7])), (h1, .inl (a0, 1, .inr (.inl f0))), (h2, .inr (0, [v8, v9, .int 2, v10, v11, v12, v13])), (h3, .inr (1, [v14, v15, .ref h4, v16, v17, v18, v19, v20, v21, v22, v23, v24, v25])), (h4, .inl (a1, 48, .inr (.inl f1)))] [(a0, .long), (a1, .long)] XN [(h0, .inr (5, [v0, .ref h2, v1, .ref h3, v2, v3, v4, v5, v6, v7])), (h1, .inl (a0, 1, .inr (.inl f0))), (h2, .inr (0, [v8, v9, .int 2, v10, v11, v12, v13])), (h3, .inr (1, [v14, v15, .ref h4, v16, v17, v18, v19, v20, v21, v22, v23, v24, v25])), (h4, .inl (a1, 48, .inr (.inl f1)))] (ei (fun _ : Unit => True) (fun u => 0) (fun _ => [(h0, .inr (5, [v0, .ref h2, v1, .ref h3, v2, v3, v4, v5, v6, v7])), (h1, .inl (a0, 1, .inr (.inl (vp_updL f0 0 1)))), (h2, .inr (0, [v8, v9, .int 2, v10, v11, v12, v13])), (h3, .inr (1, [v14, v15, .ref h4, v16, v17, v18, v19, v20, v21, v22, v23, v24, v25])), (h4, .inl (a1, 48, .inr (.inl f1)))]) (fun u => [(a0, .long), (a1, .long)]) D) 0 0 := by
  refine CH.ofW (by decide +kernel) (Nat.le_of_ble_eq_true rfl) ?_
  intro p e s m below meth c A ls hcs htab hP hK hD hX hA hS hl
  obtain ⟨hx, hb, hr, hml, hown, hg, hlocks, hin⟩ := hcs
  have hown : s.vm.findClass RL = some m.cls := hown
  have hl : lv_has ls 5 [(0, .ref h0), (1, .int 0), (2, .int 4), (3, .ref h1)] := hl
  refine lv_aload_n hx hb dL_sample_0 rfl (lv_at hl 3 rfl) ?_
  refine lv_iconst (v := 0) hx hb dL_sample_1 (by decide) ?_
  refine lv_aload_n hx hb dL_sample_2 rfl (lv_at hl 0 rfl) ?_
  refine lv_iload_n hx hb dL_sample_3 rfl (lv_at hl 1 rfl) ?_
  refine lv_iload_n hx hb dL_sample_4 rfl (lv_at hl 2 rfl) ?_
  refine cVl (n := 2) (As := [.int 0, .int 4]) (rest := [.int 0, .ref h1]) (wr := [(h0, .inr (5, [v0, .ref h2, v1, .ref h3, v2, v3, v4, v5, v6, v7])), (h1, .inl (a0, 1, .inr (.inl f0))), (h2, .inr (0, [v8, v9, .int 2, v10, v11, v12, v13])), (h3, .inr (1, [v14, v15, .ref h4, v16, v17, v18, v19, v20, v21, v22, v23, v24, v25])), (h4, .inl (a1, 48, .inr (.inl f1)))]) (tr := [(a0, .long), (a1, .long)]) hx hb hml hown hg okN (cX5_sample_352 l D h0 h2 h3 h4 v0 v1 v2 v3 v4 v5 v6 v7 v8 v9 v10 v11 v12 v13 v14 v15 v16 v17 v18 v19 v20 v21 v22 v23 v24 v25 f1 a1 ef1_0) (mwV k857 k858 k859 k84 k860) ⟨rfl, by decide, by decide, by decide +kernel⟩ ⟨rfl, rfl, (Nat.le_of_ble_eq_true rfl), (Nat.le_of_ble_eq_true rfl)⟩ hP hD hK hS xn [0, 2, 3, 4] [] [0, 1, 2, 3, 4] [1] [0, 1] rfl (by decide) rfl rfl (by decide) (by decide) rfl rfl (aNil hA hS) (aNil hA hS) 0 rfl rfl rfl hl.1 rfl (Nat.le_of_ble_eq_true rfl) dL_sample_5 ⟨(Nat.le_of_ble_eq_true rfl), (Nat.le_of_ble_eq_true rfl)⟩ (fun u H locs hφ hP hD hK hS hk => ?_)
  have hP : va_P D vwCl [(h0, .inr (5, [v0, .ref h2, v1, .ref h3, v2, v3, v4, v5, v6, v7])), (h1, .inl (a0, 1, .inr (.inl f0))), (h2, .inr (0, [v8, v9, .int 2, v10, v11, v12, v13])), (h3, .inr (1, [v14, v15, .ref h4, v16, v17, v18, v19, v20, v21, v22, v23, v24, v25])), (h4, .inl (a1, 48, .inr (.inl f1)))] H := hP
  have hD : va_D A [(h0, .inr (5, [v0, .ref h2, v1, .ref h3, v2, v3, v4, v5, v6, v7])), (h1, .inl (a0, 1, .inr (.inl f0))), (h2, .inr (0, [v8, v9, .int 2, v10, v11, v12, v13])), (h3, .inr (1, [v14, v15, .ref h4, v16, v17, v18, v19, v20, v21, v22, v23, v24, v25])), (h4, .inl (a1, 48, .inr (.inl f1)))] := hD
  have hK : va_K D vwCl [(a0, .long), (a1, .long)] s := hK
  refine W.widen (k := 0) (n := 0) (Nat.le_of_ble_eq_true rfl) (Nat.le_of_ble_eq_true rfl) ?_
  refine astL hx hb hK hP hD hS 1 0 rfl rfl 0 (by decide) (vin (by decide)) dL_sample_8 (fun H locs hP hD hS => ?_)
  have hP : va_P D vwCl [(h0, .inr (5, [v0, .ref h2, v1, .ref h3, v2, v3, v4, v5, v6, v7])), (h1, .inl (a0, 1, .inr (.inl (vp_updL f0 0 1)))), (h2, .inr (0, [v8, v9, .int 2, v10, v11, v12, v13])), (h3, .inr (1, [v14, v15, .ref h4, v16, v17, v18, v19, v20, v21, v22, v23, v24, v25])), (h4, .inl (a1, 48, .inr (.inl f1)))] H := hP
  have hD : va_D A [(h0, .inr (5, [v0, .ref h2, v1, .ref h3, v2, v3, v4, v5, v6, v7])), (h1, .inl (a0, 1, .inr (.inl (vp_updL f0 0 1)))), (h2, .inr (0, [v8, v9, .int 2, v10, v11, v12, v13])), (h3, .inr (1, [v14, v15, .ref h4, v16, v17, v18, v19, v20, v21, v22, v23, v24, v25])), (h4, .inl (a1, 48, .inr (.inl f1)))] := hD
  refine lv_goto (tgt := 20) hx hb dL_sample_9 (by decide) ?_
  refine lv_iconst (v := 0) hx hb dL_sample_20 (by decide) ?_
  exact fi hx hb hr hlocks hP hD hK hS (()) trivial rfl [0, 1, 2, 3, 4] [0, 1] rfl (by decide) rfl (Nat.le_of_ble_eq_true rfl) (Nat.le_of_ble_eq_true rfl) dL_sample_21
set_option maxHeartbeats 4000000 in
set_option maxRecDepth 100000 in
theorem cL_sample_624 (l : Launch) (D : va_G) (h0 : Nat) (h1 : Nat) (h2 : Nat) (h3 : Nat) (h4 : Nat) (v0 : Value) (v1 : Value) (v2 : Value) (v3 : Value) (v4 : Value) (v5 : Value) (v6 : Value) (v7 : Value) (f0 : Nat → Int64) (v8 : Value) (v9 : Value) (v10 : Value) (v11 : Value) (v12 : Value) (v13 : Value) (v14 : Value) (v15 : Value) (v16 : Value) (v17 : Value) (v18 : Value) (v19 : Value) (v20 : Value) (v21 : Value) (v22 : Value) (v23 : Value) (v24 : Value) (v25 : Value) (f1 : Nat → Int32) (a0 : ClassId) (a1 : ClassId) (ef1_0 : f1 0 = (-1))  : CH l yL_sample cL_sample 5 (some .int) [(0, 9, 12, 13), (0, 9, 16, 19)] { frames := 2, cells := 0, slots := 0, locals := 43 } [.ref h0, .int 0, .int 5, .ref h1] D [(h0, .inr (5, [v0, .ref h2, v1, .ref h3, v2, v3, v4, v5, v6, v7])), (h1, .inl (a0, 1, .inr (.inl f0))), (h2, .inr (0, [v8, v9, .int 2, v10, v11, v12, v13])), (h3, .inr (1, [v14, v15, v16, .ref h4, v17, v18, v19, v20, v21, v22, v23, v24, v25])), (h4, .inl (a1, 48, .inl f1))] [(a0, .long), (a1, .int)] XN [(h0, .inr (5, [v0, .ref h2, v1, .ref h3, v2, v3, v4, v5, v6, v7])), (h1, .inl (a0, 1, .inr (.inl f0))), (h2, .inr (0, [v8, v9, .int 2, v10, v11, v12, v13])), (h3, .inr (1, [v14, v15, v16, .ref h4, v17, v18, v19, v20, v21, v22, v23, v24, v25])), (h4, .inl (a1, 48, .inl f1))] (ei (fun _ : Unit => True) (fun u => 0) (fun _ => [(h0, .inr (5, [v0, .ref h2, v1, .ref h3, v2, v3, v4, v5, v6, v7])), (h1, .inl (a0, 1, .inr (.inl (vp_updL f0 0 (-1))))), (h2, .inr (0, [v8, v9, .int 2, v10, v11, v12, v13])), (h3, .inr (1, [v14, v15, v16, .ref h4, v17, v18, v19, v20, v21, v22, v23, v24, v25])), (h4, .inl (a1, 48, .inl f1))]) (fun u => [(a0, .long), (a1, .int)]) D) 0 0 := by
  refine CH.ofW (by decide +kernel) (Nat.le_of_ble_eq_true rfl) ?_
  intro p e s m below meth c A ls hcs htab hP hK hD hX hA hS hl
  obtain ⟨hx, hb, hr, hml, hown, hg, hlocks, hin⟩ := hcs
  have hown : s.vm.findClass RL = some m.cls := hown
  have hl : lv_has ls 5 [(0, .ref h0), (1, .int 0), (2, .int 5), (3, .ref h1)] := hl
  refine lv_aload_n hx hb dL_sample_0 rfl (lv_at hl 3 rfl) ?_
  refine lv_iconst (v := 0) hx hb dL_sample_1 (by decide) ?_
  refine lv_aload_n hx hb dL_sample_2 rfl (lv_at hl 0 rfl) ?_
  refine lv_iload_n hx hb dL_sample_3 rfl (lv_at hl 1 rfl) ?_
  refine lv_iload_n hx hb dL_sample_4 rfl (lv_at hl 2 rfl) ?_
  refine cVl (n := 2) (As := [.int 0, .int 5]) (rest := [.int 0, .ref h1]) (wr := [(h0, .inr (5, [v0, .ref h2, v1, .ref h3, v2, v3, v4, v5, v6, v7])), (h1, .inl (a0, 1, .inr (.inl f0))), (h2, .inr (0, [v8, v9, .int 2, v10, v11, v12, v13])), (h3, .inr (1, [v14, v15, v16, .ref h4, v17, v18, v19, v20, v21, v22, v23, v24, v25])), (h4, .inl (a1, 48, .inl f1))]) (tr := [(a0, .long), (a1, .int)]) hx hb hml hown hg okN (cX5_sample_353 l D h0 h2 h3 h4 v0 v1 v2 v3 v4 v5 v6 v7 v8 v9 v10 v11 v12 v13 v14 v15 v16 v17 v18 v19 v20 v21 v22 v23 v24 v25 f1 a1 ef1_0) (mwV k857 k858 k859 k84 k860) ⟨rfl, by decide, by decide, by decide +kernel⟩ ⟨rfl, rfl, (Nat.le_of_ble_eq_true rfl), (Nat.le_of_ble_eq_true rfl)⟩ hP hD hK hS xn [0, 2, 3, 4] [] [0, 1, 2, 3, 4] [1] [0, 1] rfl (by decide) rfl rfl (by decide) (by decide) rfl rfl (aNil hA hS) (aNil hA hS) 0 rfl rfl rfl hl.1 rfl (Nat.le_of_ble_eq_true rfl) dL_sample_5 ⟨(Nat.le_of_ble_eq_true rfl), (Nat.le_of_ble_eq_true rfl)⟩ (fun u H locs hφ hP hD hK hS hk => ?_)
  have hP : va_P D vwCl [(h0, .inr (5, [v0, .ref h2, v1, .ref h3, v2, v3, v4, v5, v6, v7])), (h1, .inl (a0, 1, .inr (.inl f0))), (h2, .inr (0, [v8, v9, .int 2, v10, v11, v12, v13])), (h3, .inr (1, [v14, v15, v16, .ref h4, v17, v18, v19, v20, v21, v22, v23, v24, v25])), (h4, .inl (a1, 48, .inl f1))] H := hP
  have hD : va_D A [(h0, .inr (5, [v0, .ref h2, v1, .ref h3, v2, v3, v4, v5, v6, v7])), (h1, .inl (a0, 1, .inr (.inl f0))), (h2, .inr (0, [v8, v9, .int 2, v10, v11, v12, v13])), (h3, .inr (1, [v14, v15, v16, .ref h4, v17, v18, v19, v20, v21, v22, v23, v24, v25])), (h4, .inl (a1, 48, .inl f1))] := hD
  have hK : va_K D vwCl [(a0, .long), (a1, .int)] s := hK
  refine W.widen (k := 0) (n := 0) (Nat.le_of_ble_eq_true rfl) (Nat.le_of_ble_eq_true rfl) ?_
  refine astL hx hb hK hP hD hS 1 0 rfl rfl 0 (by decide) (vin (by decide)) dL_sample_8 (fun H locs hP hD hS => ?_)
  have hP : va_P D vwCl [(h0, .inr (5, [v0, .ref h2, v1, .ref h3, v2, v3, v4, v5, v6, v7])), (h1, .inl (a0, 1, .inr (.inl (vp_updL f0 0 (-1))))), (h2, .inr (0, [v8, v9, .int 2, v10, v11, v12, v13])), (h3, .inr (1, [v14, v15, v16, .ref h4, v17, v18, v19, v20, v21, v22, v23, v24, v25])), (h4, .inl (a1, 48, .inl f1))] H := hP
  have hD : va_D A [(h0, .inr (5, [v0, .ref h2, v1, .ref h3, v2, v3, v4, v5, v6, v7])), (h1, .inl (a0, 1, .inr (.inl (vp_updL f0 0 (-1))))), (h2, .inr (0, [v8, v9, .int 2, v10, v11, v12, v13])), (h3, .inr (1, [v14, v15, v16, .ref h4, v17, v18, v19, v20, v21, v22, v23, v24, v25])), (h4, .inl (a1, 48, .inl f1))] := hD
  refine lv_goto (tgt := 20) hx hb dL_sample_9 (by decide) ?_
  refine lv_iconst (v := 0) hx hb dL_sample_20 (by decide) ?_
  exact fi hx hb hr hlocks hP hD hK hS (()) trivial rfl [0, 1, 2, 3, 4] [0, 1] rfl (by decide) rfl (Nat.le_of_ble_eq_true rfl) (Nat.le_of_ble_eq_true rfl) dL_sample_21
set_option maxHeartbeats 4000000 in
set_option maxRecDepth 100000 in
theorem cL_sample_625 (l : Launch) (D : va_G) (hlt : l.stackTraces = false) (h0 : Nat) (x0 : Int32) (h1 : Nat) (h2 : Nat) (v0 : Value) (v1 : Value) (v2 : Value) (v3 : Value) (v4 : Value) (v5 : Value) (v6 : Value) (v7 : Value) (v8 : Value) (v9 : Value) (v10 : Value) (v11 : Value) (v12 : Value) (v13 : Value) (v14 : Value)  (d0 : x0.toInt < 0 ∨ 5 < x0.toInt) : CH l yL_sample cL_sample 5 (some .int) [(0, 9, 12, 13), (0, 9, 16, 19)] { frames := 7, cells := 1, slots := 6, locals := 112 } [.ref h0, .int 1, .int x0, .ref h1] D [(h0, .inr (5, [v0, .ref h2, v1, v2, v3, v4, v5, v6, v7, v8])), (h2, .inr (0, [v9, v10, .int 2, v11, v12, v13, v14]))] [] XX [] (ei (fun _ : Unit => True) (fun _ => 2) (fun _ => []) (fun _ => []) D) 1 6 := by
  refine CH.ofR (by decide +kernel) (Nat.le_of_ble_eq_true rfl) ?_
  intro p e s m below meth c A ls hcs htab hP hK hD hX hA hS hl
  obtain ⟨hx, hb, hr, hml, hown, hg, hlocks, hin⟩ := hcs
  have hown : s.vm.findClass RL = some m.cls := hown
  have hl : lv_has ls 5 [(0, .ref h0), (1, .int 1), (2, .int x0), (3, .ref h1)] := hl
  refine lv_aload_n hx hb dL_sample_0 rfl (lv_at hl 3 rfl) ?_
  refine lv_iconst (v := 0) hx hb dL_sample_1 (by decide) ?_
  refine lv_aload_n hx hb dL_sample_2 rfl (lv_at hl 0 rfl) ?_
  refine lv_iload_n hx hb dL_sample_3 rfl (lv_at hl 1 rfl) ?_
  refine lv_iload_n hx hb dL_sample_4 rfl (lv_at hl 2 rfl) ?_
  refine hVl (n := 2) (As := [.int 1, .int x0]) (rest := [.int 0, .ref h1]) hx hb hml hown hg okXX (cX5_sample_354 l D hlt h0 x0 h2 v0 v1 v2 v3 v4 v5 v6 v7 v8 v9 v10 v11 v12 v13 v14 d0) (mwV k857 k858 k859 k84 k860) ⟨rfl, by decide, by decide, by decide +kernel⟩ ⟨rfl, rfl, (Nat.le_of_ble_eq_true rfl), (Nat.le_of_ble_eq_true rfl)⟩ hP hD hK hS (okXX.2.2 _ _ _ _ hS.2.1 hX) [0, 1] [] rfl (by decide) rfl (aNil hA hS) 0 rfl rfl rfl hl.1 rfl (Nat.le_of_ble_eq_true rfl) dL_sample_5 ⟨(Nat.le_of_ble_eq_true rfl), (Nat.le_of_ble_eq_true rfl)⟩ [{ startPc := 0, endPc := 9, handlerPc := 12, catchType := 13 }] { startPc := 0, endPc := 9, handlerPc := 16, catchType := 19 } [] (htab.trans rfl) (fun z hz => (List.mem_cons.mp hz).elim (fun e9 => by rw [e9]; exact Or.inr ⟨by decide, "java/lang/IndexOutOfBoundsException", hg _ k605, XX_qIAE_IOOBE hX⟩) ((fun z h9 => nomatch h9) z)) (by decide) (by decide) (hg _ k684) (XX_cIAE hX) (fun q9 H locs hS hk => ?_)
  have hP : va_P D vwCl [] H := pNil
  have hD : va_D (fun _ => True) [] := dNil
  have hK : va_K D vwCl [] s := hK.sub [] rfl
  refine W.widen (k := 1) (n := 6) (Nat.le_of_ble_eq_true rfl) (Nat.le_of_ble_eq_true rfl) ?_
  refine lv_astore (lv' := [(4, .ref q9), (0, .ref h0), (1, .int 1), (2, .int x0), (3, .ref h1)]) hx hb dL_sample_16 hl (by decide) rfl (fun ls hl => ?_)
  refine lv_iconst (v := 2) hx hb dL_sample_18 (by decide) ?_
  exact fi0 hx hb hr hlocks hK hS (Nat.le_of_ble_eq_true rfl) (Nat.le_of_ble_eq_true rfl) dL_sample_19
set_option maxHeartbeats 4000000 in
set_option maxRecDepth 100000 in
theorem cL_sample_626 (l : Launch) (D : va_G) (h0 : Nat) (h1 : Nat) (h2 : Nat) (h3 : Nat) (v0 : Value) (v1 : Value) (v2 : Value) (v3 : Value) (v4 : Value) (v5 : Value) (v6 : Value) (v7 : Value) (v8 : Value) (f0 : Nat → Int64) (v9 : Value) (v10 : Value) (v11 : Value) (v12 : Value) (v13 : Value) (f1 : Nat → Int32) (a0 : ClassId) (a1 : ClassId) (ef1_1 : f1 1 = 1)  : CH l yL_sample cL_sample 5 (some .int) [(0, 9, 12, 13), (0, 9, 16, 19)] { frames := 2, cells := 0, slots := 0, locals := 43 } [.ref h0, .int 1, .int 0, .ref h1] D [(h0, .inr (5, [v0, .ref h2, v1, v2, v3, v4, v5, v6, v7, v8])), (h1, .inl (a0, 1, .inr (.inl f0))), (h2, .inr (0, [.ref h3, v9, .int 2, v10, v11, v12, v13])), (h3, .inl (a1, 48, .inl f1))] [(a0, .long), (a1, .int)] XN [(h0, .inr (5, [v0, .ref h2, v1, v2, v3, v4, v5, v6, v7, v8])), (h1, .inl (a0, 1, .inr (.inl f0))), (h2, .inr (0, [.ref h3, v9, .int 2, v10, v11, v12, v13])), (h3, .inl (a1, 48, .inl f1))] (ei (fun _ : Unit => True) (fun u => 0) (fun _ => [(h0, .inr (5, [v0, .ref h2, v1, v2, v3, v4, v5, v6, v7, v8])), (h1, .inl (a0, 1, .inr (.inl (vp_updL f0 0 1)))), (h2, .inr (0, [.ref h3, v9, .int 2, v10, v11, v12, v13])), (h3, .inl (a1, 48, .inl f1))]) (fun u => [(a0, .long), (a1, .int)]) D) 0 0 := by
  refine CH.ofW (by decide +kernel) (Nat.le_of_ble_eq_true rfl) ?_
  intro p e s m below meth c A ls hcs htab hP hK hD hX hA hS hl
  obtain ⟨hx, hb, hr, hml, hown, hg, hlocks, hin⟩ := hcs
  have hown : s.vm.findClass RL = some m.cls := hown
  have hl : lv_has ls 5 [(0, .ref h0), (1, .int 1), (2, .int 0), (3, .ref h1)] := hl
  refine lv_aload_n hx hb dL_sample_0 rfl (lv_at hl 3 rfl) ?_
  refine lv_iconst (v := 0) hx hb dL_sample_1 (by decide) ?_
  refine lv_aload_n hx hb dL_sample_2 rfl (lv_at hl 0 rfl) ?_
  refine lv_iload_n hx hb dL_sample_3 rfl (lv_at hl 1 rfl) ?_
  refine lv_iload_n hx hb dL_sample_4 rfl (lv_at hl 2 rfl) ?_
  refine cVl (n := 2) (As := [.int 1, .int 0]) (rest := [.int 0, .ref h1]) (wr := [(h0, .inr (5, [v0, .ref h2, v1, v2, v3, v4, v5, v6, v7, v8])), (h1, .inl (a0, 1, .inr (.inl f0))), (h2, .inr (0, [.ref h3, v9, .int 2, v10, v11, v12, v13])), (h3, .inl (a1, 48, .inl f1))]) (tr := [(a0, .long), (a1, .int)]) hx hb hml hown hg okN (cX5_sample_356 l D h0 h2 h3 v0 v1 v2 v3 v4 v5 v6 v7 v8 v9 v10 v11 v12 v13 f1 a1 ef1_1) (mwV k857 k858 k859 k84 k860) ⟨rfl, by decide, by decide, by decide +kernel⟩ ⟨rfl, rfl, (Nat.le_of_ble_eq_true rfl), (Nat.le_of_ble_eq_true rfl)⟩ hP hD hK hS xn [0, 2, 3] [] [0, 1, 2, 3] [1] [0, 1] rfl (by decide) rfl rfl (by decide) (by decide) rfl rfl (aNil hA hS) (aNil hA hS) 0 rfl rfl rfl hl.1 rfl (Nat.le_of_ble_eq_true rfl) dL_sample_5 ⟨(Nat.le_of_ble_eq_true rfl), (Nat.le_of_ble_eq_true rfl)⟩ (fun u H locs hφ hP hD hK hS hk => ?_)
  have hP : va_P D vwCl [(h0, .inr (5, [v0, .ref h2, v1, v2, v3, v4, v5, v6, v7, v8])), (h1, .inl (a0, 1, .inr (.inl f0))), (h2, .inr (0, [.ref h3, v9, .int 2, v10, v11, v12, v13])), (h3, .inl (a1, 48, .inl f1))] H := hP
  have hD : va_D A [(h0, .inr (5, [v0, .ref h2, v1, v2, v3, v4, v5, v6, v7, v8])), (h1, .inl (a0, 1, .inr (.inl f0))), (h2, .inr (0, [.ref h3, v9, .int 2, v10, v11, v12, v13])), (h3, .inl (a1, 48, .inl f1))] := hD
  have hK : va_K D vwCl [(a0, .long), (a1, .int)] s := hK
  refine W.widen (k := 0) (n := 0) (Nat.le_of_ble_eq_true rfl) (Nat.le_of_ble_eq_true rfl) ?_
  refine astL hx hb hK hP hD hS 1 0 rfl rfl 0 (by decide) (vin (by decide)) dL_sample_8 (fun H locs hP hD hS => ?_)
  have hP : va_P D vwCl [(h0, .inr (5, [v0, .ref h2, v1, v2, v3, v4, v5, v6, v7, v8])), (h1, .inl (a0, 1, .inr (.inl (vp_updL f0 0 1)))), (h2, .inr (0, [.ref h3, v9, .int 2, v10, v11, v12, v13])), (h3, .inl (a1, 48, .inl f1))] H := hP
  have hD : va_D A [(h0, .inr (5, [v0, .ref h2, v1, v2, v3, v4, v5, v6, v7, v8])), (h1, .inl (a0, 1, .inr (.inl (vp_updL f0 0 1)))), (h2, .inr (0, [.ref h3, v9, .int 2, v10, v11, v12, v13])), (h3, .inl (a1, 48, .inl f1))] := hD
  refine lv_goto (tgt := 20) hx hb dL_sample_9 (by decide) ?_
  refine lv_iconst (v := 0) hx hb dL_sample_20 (by decide) ?_
  exact fi hx hb hr hlocks hP hD hK hS (()) trivial rfl [0, 1, 2, 3] [0, 1] rfl (by decide) rfl (Nat.le_of_ble_eq_true rfl) (Nat.le_of_ble_eq_true rfl) dL_sample_21
set_option maxHeartbeats 4000000 in
set_option maxRecDepth 100000 in
theorem cL_sample_627 (l : Launch) (D : va_G) (h0 : Nat) (h1 : Nat) (h2 : Nat) (h3 : Nat) (v0 : Value) (v1 : Value) (v2 : Value) (v3 : Value) (v4 : Value) (v5 : Value) (v6 : Value) (v7 : Value) (v8 : Value) (f0 : Nat → Int64) (v9 : Value) (v10 : Value) (v11 : Value) (v12 : Value) (v13 : Value) (f1 : Nat → Int32) (a0 : ClassId) (a1 : ClassId) (ef1_1 : f1 1 = 0)  : CH l yL_sample cL_sample 5 (some .int) [(0, 9, 12, 13), (0, 9, 16, 19)] { frames := 2, cells := 0, slots := 0, locals := 43 } [.ref h0, .int 1, .int 1, .ref h1] D [(h0, .inr (5, [v0, .ref h2, v1, v2, v3, v4, v5, v6, v7, v8])), (h1, .inl (a0, 1, .inr (.inl f0))), (h2, .inr (0, [v9, .ref h3, .int 2, v10, v11, v12, v13])), (h3, .inl (a1, 48, .inl f1))] [(a0, .long), (a1, .int)] XN [(h0, .inr (5, [v0, .ref h2, v1, v2, v3, v4, v5, v6, v7, v8])), (h1, .inl (a0, 1, .inr (.inl f0))), (h2, .inr (0, [v9, .ref h3, .int 2, v10, v11, v12, v13])), (h3, .inl (a1, 48, .inl f1))] (ei (fun _ : Unit => True) (fun u => 0) (fun _ => [(h0, .inr (5, [v0, .ref h2, v1, v2, v3, v4, v5, v6, v7, v8])), (h1, .inl (a0, 1, .inr (.inl (vp_updL f0 0 0)))), (h2, .inr (0, [v9, .ref h3, .int 2, v10, v11, v12, v13])), (h3, .inl (a1, 48, .inl f1))]) (fun u => [(a0, .long), (a1, .int)]) D) 0 0 := by
  refine CH.ofW (by decide +kernel) (Nat.le_of_ble_eq_true rfl) ?_
  intro p e s m below meth c A ls hcs htab hP hK hD hX hA hS hl
  obtain ⟨hx, hb, hr, hml, hown, hg, hlocks, hin⟩ := hcs
  have hown : s.vm.findClass RL = some m.cls := hown
  have hl : lv_has ls 5 [(0, .ref h0), (1, .int 1), (2, .int 1), (3, .ref h1)] := hl
  refine lv_aload_n hx hb dL_sample_0 rfl (lv_at hl 3 rfl) ?_
  refine lv_iconst (v := 0) hx hb dL_sample_1 (by decide) ?_
  refine lv_aload_n hx hb dL_sample_2 rfl (lv_at hl 0 rfl) ?_
  refine lv_iload_n hx hb dL_sample_3 rfl (lv_at hl 1 rfl) ?_
  refine lv_iload_n hx hb dL_sample_4 rfl (lv_at hl 2 rfl) ?_
  refine cVl (n := 2) (As := [.int 1, .int 1]) (rest := [.int 0, .ref h1]) (wr := [(h0, .inr (5, [v0, .ref h2, v1, v2, v3, v4, v5, v6, v7, v8])), (h1, .inl (a0, 1, .inr (.inl f0))), (h2, .inr (0, [v9, .ref h3, .int 2, v10, v11, v12, v13])), (h3, .inl (a1, 48, .inl f1))]) (tr := [(a0, .long), (a1, .int)]) hx hb hml hown hg okN (cX5_sample_357 l D h0 h2 h3 v0 v1 v2 v3 v4 v5 v6 v7 v8 v9 v10 v11 v12 v13 f1 a1 ef1_1) (mwV k857 k858 k859 k84 k860) ⟨rfl, by decide, by decide, by decide +kernel⟩ ⟨rfl, rfl, (Nat.le_of_ble_eq_true rfl), (Nat.le_of_ble_eq_true rfl)⟩ hP hD hK hS xn [0, 2, 3] [] [0, 1, 2, 3] [1] [0, 1] rfl (by decide) rfl rfl (by decide) (by decide) rfl rfl (aNil hA hS) (aNil hA hS) 0 rfl rfl rfl hl.1 rfl (Nat.le_of_ble_eq_true rfl) dL_sample_5 ⟨(Nat.le_of_ble_eq_true rfl), (Nat.le_of_ble_eq_true rfl)⟩ (fun u H locs hφ hP hD hK hS hk => ?_)
  have hP : va_P D vwCl [(h0, .inr (5, [v0, .ref h2, v1, v2, v3, v4, v5, v6, v7, v8])), (h1, .inl (a0, 1, .inr (.inl f0))), (h2, .inr (0, [v9, .ref h3, .int 2, v10, v11, v12, v13])), (h3, .inl (a1, 48, .inl f1))] H := hP
  have hD : va_D A [(h0, .inr (5, [v0, .ref h2, v1, v2, v3, v4, v5, v6, v7, v8])), (h1, .inl (a0, 1, .inr (.inl f0))), (h2, .inr (0, [v9, .ref h3, .int 2, v10, v11, v12, v13])), (h3, .inl (a1, 48, .inl f1))] := hD
  have hK : va_K D vwCl [(a0, .long), (a1, .int)] s := hK
  refine W.widen (k := 0) (n := 0) (Nat.le_of_ble_eq_true rfl) (Nat.le_of_ble_eq_true rfl) ?_
  refine astL hx hb hK hP hD hS 1 0 rfl rfl 0 (by decide) (vin (by decide)) dL_sample_8 (fun H locs hP hD hS => ?_)
  have hP : va_P D vwCl [(h0, .inr (5, [v0, .ref h2, v1, v2, v3, v4, v5, v6, v7, v8])), (h1, .inl (a0, 1, .inr (.inl (vp_updL f0 0 0)))), (h2, .inr (0, [v9, .ref h3, .int 2, v10, v11, v12, v13])), (h3, .inl (a1, 48, .inl f1))] H := hP
  have hD : va_D A [(h0, .inr (5, [v0, .ref h2, v1, v2, v3, v4, v5, v6, v7, v8])), (h1, .inl (a0, 1, .inr (.inl (vp_updL f0 0 0)))), (h2, .inr (0, [v9, .ref h3, .int 2, v10, v11, v12, v13])), (h3, .inl (a1, 48, .inl f1))] := hD
  refine lv_goto (tgt := 20) hx hb dL_sample_9 (by decide) ?_
  refine lv_iconst (v := 0) hx hb dL_sample_20 (by decide) ?_
  exact fi hx hb hr hlocks hP hD hK hS (()) trivial rfl [0, 1, 2, 3] [0, 1] rfl (by decide) rfl (Nat.le_of_ble_eq_true rfl) (Nat.le_of_ble_eq_true rfl) dL_sample_21
set_option maxHeartbeats 4000000 in
set_option maxRecDepth 100000 in
theorem cL_sample_628 (l : Launch) (D : va_G) (h0 : Nat) (h1 : Nat) (h2 : Nat) (h3 : Nat) (h4 : Nat) (v0 : Value) (v1 : Value) (v2 : Value) (v3 : Value) (v4 : Value) (v5 : Value) (v6 : Value) (v7 : Value) (f0 : Nat → Int64) (v8 : Value) (v9 : Value) (v10 : Value) (v11 : Value) (v12 : Value) (v13 : Value) (v14 : Value) (v15 : Value) (v16 : Value) (v17 : Value) (v18 : Value) (v19 : Value) (v20 : Value) (v21 : Value) (v22 : Value) (v23 : Value) (v24 : Value) (v25 : Value) (f1 : Nat → Int32) (a0 : ClassId) (a1 : ClassId) (ef1_1 : f1 1 = (-1))  : CH l yL_sample cL_sample 5 (some .int) [(0, 9, 12, 13), (0, 9, 16, 19)] { frames := 2, cells := 0, slots := 0, locals := 43 } [.ref h0, .int 1, .int 2, .ref h1] D [(h0, .inr (5, [v0, .ref h2, v1, .ref h3, v2, v3, v4, v5, v6, v7])), (h1, .inl (a0, 1, .inr (.inl f0))), (h2, .inr (0, [v8, v9, .int 2, v10, v11, v12, v13])), (h3, .inr (1, [v14, v15, v16, .ref h4, v17, v18, v19, v20, v21, v22, v23, v24, v25])), (h4, .inl (a1, 48, .inl f1))] [(a0, .long), (a1, .int)] XN [(h0, .inr (5, [v0, .ref h2, v1, .ref h3, v2, v3, v4, v5, v6, v7])), (h1, .inl (a0, 1, .inr (.inl f0))), (h2, .inr (0, [v8, v9, .int 2, v10, v11, v12, v13])), (h3, .inr (1, [v14, v15, v16, .ref h4, v17, v18, v19, v20, v21, v22, v23, v24, v25])), (h4, .inl (a1, 48, .inl f1))] (ei (fun _ : Unit => True) (fun u => 0) (fun _ => [(h0, .inr (5, [v0, .ref h2, v1, .ref h3, v2, v3, v4, v5, v6, v7])), (h1, .inl (a0, 1, .inr (.inl (vp_updL f0 0 1)))), (h2, .inr (0, [v8, v9, .int 2, v10, v11, v12, v13])), (h3, .inr (1, [v14, v15, v16, .ref h4, v17, v18, v19, v20, v21, v22, v23, v24, v25])), (h4, .inl (a1, 48, .inl f1))]) (fun u => [(a0, .long), (a1, .int)]) D) 0 0 := by
  refine CH.ofW (by decide +kernel) (Nat.le_of_ble_eq_true rfl) ?_
  intro p e s m below meth c A ls hcs htab hP hK hD hX hA hS hl
  obtain ⟨hx, hb, hr, hml, hown, hg, hlocks, hin⟩ := hcs
  have hown : s.vm.findClass RL = some m.cls := hown
  have hl : lv_has ls 5 [(0, .ref h0), (1, .int 1), (2, .int 2), (3, .ref h1)] := hl
  refine lv_aload_n hx hb dL_sample_0 rfl (lv_at hl 3 rfl) ?_
  refine lv_iconst (v := 0) hx hb dL_sample_1 (by decide) ?_
  refine lv_aload_n hx hb dL_sample_2 rfl (lv_at hl 0 rfl) ?_
  refine lv_iload_n hx hb dL_sample_3 rfl (lv_at hl 1 rfl) ?_
  refine lv_iload_n hx hb dL_sample_4 rfl (lv_at hl 2 rfl) ?_
  refine cVl (n := 2) (As := [.int 1, .int 2]) (rest := [.int 0, .ref h1]) (wr := [(h0, .inr (5, [v0, .ref h2, v1, .ref h3, v2, v3, v4, v5, v6, v7])), (h1, .inl (a0, 1, .inr (.inl f0))), (h2, .inr (0, [v8, v9, .int 2, v10, v11, v12, v13])), (h3, .inr (1, [v14, v15, v16, .ref h4, v17, v18, v19, v20, v21, v22, v23, v24, v25])), (h4, .inl (a1, 48, .inl f1))]) (tr := [(a0, .long), (a1, .int)]) hx hb hml hown hg okN (cX5_sample_358 l D h0 h2 h3 h4 v0 v1 v2 v3 v4 v5 v6 v7 v8 v9 v10 v11 v12 v13 v14 v15 v16 v17 v18 v19 v20 v21 v22 v23 v24 v25 f1 a1 ef1_1) (mwV k857 k858 k859 k84 k860) ⟨rfl, by decide, by decide, by decide +kernel⟩ ⟨rfl, rfl, (Nat.le_of_ble_eq_true rfl), (Nat.le_of_ble_eq_true rfl)⟩ hP hD hK hS xn [0, 2, 3, 4] [] [0, 1, 2, 3, 4] [1] [0, 1] rfl (by decide) rfl rfl (by decide) (by decide) rfl rfl (aNil hA hS) (aNil hA hS) 0 rfl rfl rfl hl.1 rfl (Nat.le_of_ble_eq_true rfl) dL_sample_5 ⟨(Nat.le_of_ble_eq_true rfl), (Nat.le_of_ble_eq_true rfl)⟩ (fun u H locs hφ hP hD hK hS hk => ?_)
  have hP : va_P D vwCl [(h0, .inr (5, [v0, .ref h2, v1, .ref h3, v2, v3, v4, v5, v6, v7])), (h1, .inl (a0, 1, .inr (.inl f0))), (h2, .inr (0, [v8, v9, .int 2, v10, v11, v12, v13])), (h3, .inr (1, [v14, v15, v16, .ref h4, v17, v18, v19, v20, v21, v22, v23, v24, v25])), (h4, .inl (a1, 48, .inl f1))] H := hP
  have hD : va_D A [(h0, .inr (5, [v0, .ref h2, v1, .ref h3, v2, v3, v4, v5, v6, v7])), (h1, .inl (a0, 1, .inr (.inl f0))), (h2, .inr (0, [v8, v9, .int 2, v10, v11, v12, v13])), (h3, .inr (1, [v14, v15, v16, .ref h4, v17, v18, v19, v20, v21, v22, v23, v24, v25])), (h4, .inl (a1, 48, .inl f1))] := hD
  have hK : va_K D vwCl [(a0, .long), (a1, .int)] s := hK
  refine W.widen (k := 0) (n := 0) (Nat.le_of_ble_eq_true rfl) (Nat.le_of_ble_eq_true rfl) ?_
  refine astL hx hb hK hP hD hS 1 0 rfl rfl 0 (by decide) (vin (by decide)) dL_sample_8 (fun H locs hP hD hS => ?_)
  have hP : va_P D vwCl [(h0, .inr (5, [v0, .ref h2, v1, .ref h3, v2, v3, v4, v5, v6, v7])), (h1, .inl (a0, 1, .inr (.inl (vp_updL f0 0 1)))), (h2, .inr (0, [v8, v9, .int 2, v10, v11, v12, v13])), (h3, .inr (1, [v14, v15, v16, .ref h4, v17, v18, v19, v20, v21, v22, v23, v24, v25])), (h4, .inl (a1, 48, .inl f1))] H := hP
  have hD : va_D A [(h0, .inr (5, [v0, .ref h2, v1, .ref h3, v2, v3, v4, v5, v6, v7])), (h1, .inl (a0, 1, .inr (.inl (vp_updL f0 0 1)))), (h2, .inr (0, [v8, v9, .int 2, v10, v11, v12, v13])), (h3, .inr (1, [v14, v15, v16, .ref h4, v17, v18, v19, v20, v21, v22, v23, v24, v25])), (h4, .inl (a1, 48, .inl f1))] := hD
  refine lv_goto (tgt := 20) hx hb dL_sample_9 (by decide) ?_
  refine lv_iconst (v := 0) hx hb dL_sample_20 (by decide) ?_
  exact fi hx hb hr hlocks hP hD hK hS (()) trivial rfl [0, 1, 2, 3, 4] [0, 1] rfl (by decide) rfl (Nat.le_of_ble_eq_true rfl) (Nat.le_of_ble_eq_true rfl) dL_sample_21
set_option maxHeartbeats 4000000 in
set_option maxRecDepth 100000 in
theorem cL_sample_629 (l : Launch) (D : va_G) (h0 : Nat) (h1 : Nat) (h2 : Nat) (h3 : Nat) (h4 : Nat) (h5 : Nat) (h6 : Nat) (v0 : Value) (v1 : Value) (v2 : Value) (v3 : Value) (v4 : Value) (v5 : Value) (v6 : Value) (v7 : Value) (f0 : Nat → Int64) (v8 : Value) (v9 : Value) (v10 : Value) (v11 : Value) (v12 : Value) (v13 : Value) (v14 : Value) (v15 : Value) (v16 : Value) (v17 : Value) (v18 : Value) (v19 : Value) (v20 : Value) (v21 : Value) (v22 : Value) (v23 : Value) (v24 : Value) (f1 : Nat → Int32) (f2 : Nat → Option Nat) (v25 : Value) (a0 : ClassId) (a1 : ClassId) (a2 : ClassId) (ef1_1 : f1 1 = (-1)) (ef2_1 : f2 1 = some h6)  : CH l yL_sample cL_sample 5 (some .int) [(0, 9, 12, 13), (0, 9, 16, 19)] { frames := 4, cells := 0, slots := 0, locals := 88 } [.ref h0, .int 1, .int 3, .ref h1] D [(h0, .inr (5, [v0, .ref h2, v1, .ref h3, v2, v3, v4, v5, v6, v7])), (h1, .inl (a0, 1, .inr (.inl f0))), (h2, .inr (0, [v8, v9, .int 2, v10, v11, v12, v13])), (h3, .inr (1, [v14, .ref h5, v15, .ref h4, v16, v17, v18, v19, v20, v21, v22, v23, v24])), (h4, .inl (a1, 48, .inl f1)), (h5, .inl (a2, 48, .inr (.inr (.inr (.inr f2))))), (h6, .inr (4, [v25, .int 0, .int 0]))] [(a0, .long), (a1, .int), (a2, .object "LiftingSignal$Whole")] XN [(h0, .inr (5, [v0, .ref h2, v1, .ref h3, v2, v3, v4, v5, v6, v7])), (h1, .inl (a0, 1, .inr (.inl f0))), (h2, .inr (0, [v8, v9, .int 2, v10, v11, v12, v13])), (h3, .inr (1, [v14, .ref h5, v15, .ref h4, v16, v17, v18, v19, v20, v21, v22, v23, v24])), (h4, .inl (a1, 48, .inl f1)), (h5, .inl (a2, 48, .inr (.inr (.inr (.inr f2))))), (h6, .inr (4, [v25, .int 0, .int 0]))] (ei (fun _ : Unit => True) (fun u => 0) (fun _ => [(h0, .inr (5, [v0, .ref h2, v1, .ref h3, v2, v3, v4, v5, v6, v7])), (h1, .inl (a0, 1, .inr (.inl (vp_updL f0 0 0)))), (h2, .inr (0, [v8, v9, .int 2, v10, v11, v12, v13])), (h3, .inr (1, [v14, .ref h5, v15, .ref h4, v16, v17, v18, v19, v20, v21, v22, v23, v24])), (h4, .inl (a1, 48, .inl f1)), (h5, .inl (a2, 48, .inr (.inr (.inr (.inr f2))))), (h6, .inr (4, [v25, .int 0, .int 0]))]) (fun u => [(a0, .long), (a1, .int), (a2, .object "LiftingSignal$Whole")]) D) 0 0 := by
  refine CH.ofW (by decide +kernel) (Nat.le_of_ble_eq_true rfl) ?_
  intro p e s m below meth c A ls hcs htab hP hK hD hX hA hS hl
  obtain ⟨hx, hb, hr, hml, hown, hg, hlocks, hin⟩ := hcs
  have hown : s.vm.findClass RL = some m.cls := hown
  have hl : lv_has ls 5 [(0, .ref h0), (1, .int 1), (2, .int 3), (3, .ref h1)] := hl
  refine lv_aload_n hx hb dL_sample_0 rfl (lv_at hl 3 rfl) ?_
  refine lv_iconst (v := 0) hx hb dL_sample_1 (by decide) ?_
  refine lv_aload_n hx hb dL_sample_2 rfl (lv_at hl 0 rfl) ?_
  refine lv_iload_n hx hb dL_sample_3 rfl (lv_at hl 1 rfl) ?_
  refine lv_iload_n hx hb dL_sample_4 rfl (lv_at hl 2 rfl) ?_
  refine cVl (n := 2) (As := [.int 1, .int 3]) (rest := [.int 0, .ref h1]) (wr := [(h0, .inr (5, [v0, .ref h2, v1, .ref h3, v2, v3, v4, v5, v6, v7])), (h1, .inl (a0, 1, .inr (.inl f0))), (h2, .inr (0, [v8, v9, .int 2, v10, v11, v12, v13])), (h3, .inr (1, [v14, .ref h5, v15, .ref h4, v16, v17, v18, v19, v20, v21, v22, v23, v24])), (h4, .inl (a1, 48, .inl f1)), (h5, .inl (a2, 48, .inr (.inr (.inr (.inr f2))))), (h6, .inr (4, [v25, .int 0, .int 0]))]) (tr := [(a0, .long), (a1, .int), (a2, .object "LiftingSignal$Whole")]) hx hb hml hown hg okN (cX5_sample_359 l D h0 h2 h3 h4 h5 h6 v0 v1 v2 v3 v4 v5 v6 v7 v8 v9 v10 v11 v12 v13 v14 v15 v16 v17 v18 v19 v20 v21 v22 v23 v24 f1 f2 v25 a1 a2 ef1_1 ef2_1) (mwV k857 k858 k859 k84 k860) ⟨rfl, by decide, by decide, by decide +kernel⟩ ⟨rfl, rfl, (Nat.le_of_ble_eq_true rfl), (Nat.le_of_ble_eq_true rfl)⟩ hP hD hK hS xn [0, 2, 3, 4, 5, 6] [] [0, 1, 2, 3, 4, 5, 6] [1, 2] [0, 1, 2] rfl (by decide) rfl rfl (by decide) (by decide) rfl rfl (aNil hA hS) (aNil hA hS) 0 rfl rfl rfl hl.1 rfl (Nat.le_of_ble_eq_true rfl) dL_sample_5 ⟨(Nat.le_of_ble_eq_true rfl), (Nat.le_of_ble_eq_true rfl)⟩ (fun u H locs hφ hP hD hK hS hk => ?_)
  have hP : va_P D vwCl [(h0, .inr (5, [v0, .ref h2, v1, .ref h3, v2, v3, v4, v5, v6, v7])), (h1, .inl (a0, 1, .inr (.inl f0))), (h2, .inr (0, [v8, v9, .int 2, v10, v11, v12, v13])), (h3, .inr (1, [v14, .ref h5, v15, .ref h4, v16, v17, v18, v19, v20, v21, v22, v23, v24])), (h4, .inl (a1, 48, .inl f1)), (h5, .inl (a2, 48, .inr (.inr (.inr (.inr f2))))), (h6, .inr (4, [v25, .int 0, .int 0]))] H := hP
  have hD : va_D A [(h0, .inr (5, [v0, .ref h2, v1, .ref h3, v2, v3, v4, v5, v6, v7])), (h1, .inl (a0, 1, .inr (.inl f0))), (h2, .inr (0, [v8, v9, .int 2, v10, v11, v12, v13])), (h3, .inr (1, [v14, .ref h5, v15, .ref h4, v16, v17, v18, v19, v20, v21, v22, v23, v24])), (h4, .inl (a1, 48, .inl f1)), (h5, .inl (a2, 48, .inr (.inr (.inr (.inr f2))))), (h6, .inr (4, [v25, .int 0, .int 0]))] := hD
  have hK : va_K D vwCl [(a0, .long), (a1, .int), (a2, .object "LiftingSignal$Whole")] s := hK
  refine W.widen (k := 0) (n := 0) (Nat.le_of_ble_eq_true rfl) (Nat.le_of_ble_eq_true rfl) ?_
  refine astL hx hb hK hP hD hS 1 0 rfl rfl 0 (by decide) (vin (by decide)) dL_sample_8 (fun H locs hP hD hS => ?_)
  have hP : va_P D vwCl [(h0, .inr (5, [v0, .ref h2, v1, .ref h3, v2, v3, v4, v5, v6, v7])), (h1, .inl (a0, 1, .inr (.inl (vp_updL f0 0 0)))), (h2, .inr (0, [v8, v9, .int 2, v10, v11, v12, v13])), (h3, .inr (1, [v14, .ref h5, v15, .ref h4, v16, v17, v18, v19, v20, v21, v22, v23, v24])), (h4, .inl (a1, 48, .inl f1)), (h5, .inl (a2, 48, .inr (.inr (.inr (.inr f2))))), (h6, .inr (4, [v25, .int 0, .int 0]))] H := hP
  have hD : va_D A [(h0, .inr (5, [v0, .ref h2, v1, .ref h3, v2, v3, v4, v5, v6, v7])), (h1, .inl (a0, 1, .inr (.inl (vp_updL f0 0 0)))), (h2, .inr (0, [v8, v9, .int 2, v10, v11, v12, v13])), (h3, .inr (1, [v14, .ref h5, v15, .ref h4, v16, v17, v18, v19, v20, v21, v22, v23, v24])), (h4, .inl (a1, 48, .inl f1)), (h5, .inl (a2, 48, .inr (.inr (.inr (.inr f2))))), (h6, .inr (4, [v25, .int 0, .int 0]))] := hD
  refine lv_goto (tgt := 20) hx hb dL_sample_9 (by decide) ?_
  refine lv_iconst (v := 0) hx hb dL_sample_20 (by decide) ?_
  exact fi hx hb hr hlocks hP hD hK hS (()) trivial rfl [0, 1, 2, 3, 4, 5, 6] [0, 1, 2] rfl (by decide) rfl (Nat.le_of_ble_eq_true rfl) (Nat.le_of_ble_eq_true rfl) dL_sample_21
set_option maxHeartbeats 4000000 in
set_option maxRecDepth 100000 in
theorem cL_sample_630 (l : Launch) (D : va_G) (h0 : Nat) (h1 : Nat) (h2 : Nat) (h3 : Nat) (h4 : Nat) (v0 : Value) (v1 : Value) (v2 : Value) (v3 : Value) (v4 : Value) (v5 : Value) (v6 : Value) (v7 : Value) (f0 : Nat → Int64) (v8 : Value) (v9 : Value) (v10 : Value) (v11 : Value) (v12 : Value) (v13 : Value) (v14 : Value) (v15 : Value) (v16 : Value) (v17 : Value) (v18 : Value) (v19 : Value) (v20 : Value) (v21 : Value) (v22 : Value) (v23 : Value) (v24 : Value) (v25 : Value) (f1 : Nat → Int64) (a0 : ClassId) (a1 : ClassId) (ef1_1 : f1 1 = 1)  : CH l yL_sample cL_sample 5 (some .int) [(0, 9, 12, 13), (0, 9, 16, 19)] { frames := 2, cells := 0, slots := 0, locals := 43 } [.ref h0, .int 1, .int 4, .ref h1] D [(h0, .inr (5, [v0, .ref h2, v1, .ref h3, v2, v3, v4, v5, v6, v7])), (h1, .inl (a0, 1, .inr (.inl f0))), (h2, .inr (0, [v8, v9, .int 2, v10, v11, v12, v13])), (h3, .inr (1, [v14, v15, .ref h4, v16, v17, v18, v19, v20, v21, v22, v23, v24, v25])), (h4, .inl (a1, 48, .inr (.inl f1)))] [(a0, .long), (a1, .long)] XN [(h0, .inr (5, [v0, .ref h2, v1, .ref h3, v2, v3, v4, v5, v6, v7])), (h1, .inl (a0, 1, .inr (.inl f0))), (h2, .inr (0, [v8, v9, .int 2, v10, v11, v12, v13])), (h3, .inr (1, [v14, v15, .ref h4, v16, v17, v18, v19, v20, v21, v22, v23, v24, v25])), (h4, .inl (a1, 48, .inr (.inl f1)))] (ei (fun _ : Unit => True) (fun u => 0) (fun _ => [(h0, .inr (5, [v0, .ref h2, v1, .ref h3, v2, v3, v4, v5, v6, v7])), (h1, .inl (a0, 1, .inr (.inl (vp_updL f0 0 1)))), (h2, .inr (0, [v8, v9, .int 2, v10, v11, v12, v13])), (h3, .inr (1, [v14, v15, .ref h4, v16, v17, v18, v19, v20, v21, v22, v23, v24, v25])), (h4, .inl (a1, 48, .inr (.inl f1)))]) (fun u => [(a0, .long), (a1, .long)]) D) 0 0 := by
  refine CH.ofW (by decide +kernel) (Nat.le_of_ble_eq_true rfl) ?_
  intro p e s m below meth c A ls hcs htab hP hK hD hX hA hS hl
  obtain ⟨hx, hb, hr, hml, hown, hg, hlocks, hin⟩ := hcs
  have hown : s.vm.findClass RL = some m.cls := hown
  have hl : lv_has ls 5 [(0, .ref h0), (1, .int 1), (2, .int 4), (3, .ref h1)] := hl
  refine lv_aload_n hx hb dL_sample_0 rfl (lv_at hl 3 rfl) ?_
  refine lv_iconst (v := 0) hx hb dL_sample_1 (by decide) ?_
  refine lv_aload_n hx hb dL_sample_2 rfl (lv_at hl 0 rfl) ?_
  refine lv_iload_n hx hb dL_sample_3 rfl (lv_at hl 1 rfl) ?_
  refine lv_iload_n hx hb dL_sample_4 rfl (lv_at hl 2 rfl) ?_
  refine cVl (n := 2) (As := [.int 1, .int 4]) (rest := [.int 0, .ref h1]) (wr := [(h0, .inr (5, [v0, .ref h2, v1, .ref h3, v2, v3, v4, v5, v6, v7])), (h1, .inl (a0, 1, .inr (.inl f0))), (h2, .inr (0, [v8, v9, .int 2, v10, v11, v12, v13])), (h3, .inr (1, [v14, v15, .ref h4, v16, v17, v18, v19, v20, v21, v22, v23, v24, v25])), (h4, .inl (a1, 48, .inr (.inl f1)))]) (tr := [(a0, .long), (a1, .long)]) hx hb hml hown hg okN (cX5_sample_360 l D h0 h2 h3 h4 v0 v1 v2 v3 v4 v5 v6 v7 v8 v9 v10 v11 v12 v13 v14 v15 v16 v17 v18 v19 v20 v21 v22 v23 v24 v25 f1 a1 ef1_1) (mwV k857 k858 k859 k84 k860) ⟨rfl, by decide, by decide, by decide +kernel⟩ ⟨rfl, rfl, (Nat.le_of_ble_eq_true rfl), (Nat.le_of_ble_eq_true rfl)⟩ hP hD hK hS xn [0, 2, 3, 4] [] [0, 1, 2, 3, 4] [1] [0, 1] rfl (by decide) rfl rfl (by decide) (by decide) rfl rfl (aNil hA hS) (aNil hA hS) 0 rfl rfl rfl hl.1 rfl (Nat.le_of_ble_eq_true rfl) dL_sample_5 ⟨(Nat.le_of_ble_eq_true rfl), (Nat.le_of_ble_eq_true rfl)⟩ (fun u H locs hφ hP hD hK hS hk => ?_)
  have hP : va_P D vwCl [(h0, .inr (5, [v0, .ref h2, v1, .ref h3, v2, v3, v4, v5, v6, v7])), (h1, .inl (a0, 1, .inr (.inl f0))), (h2, .inr (0, [v8, v9, .int 2, v10, v11, v12, v13])), (h3, .inr (1, [v14, v15, .ref h4, v16, v17, v18, v19, v20, v21, v22, v23, v24, v25])), (h4, .inl (a1, 48, .inr (.inl f1)))] H := hP
  have hD : va_D A [(h0, .inr (5, [v0, .ref h2, v1, .ref h3, v2, v3, v4, v5, v6, v7])), (h1, .inl (a0, 1, .inr (.inl f0))), (h2, .inr (0, [v8, v9, .int 2, v10, v11, v12, v13])), (h3, .inr (1, [v14, v15, .ref h4, v16, v17, v18, v19, v20, v21, v22, v23, v24, v25])), (h4, .inl (a1, 48, .inr (.inl f1)))] := hD
  have hK : va_K D vwCl [(a0, .long), (a1, .long)] s := hK
  refine W.widen (k := 0) (n := 0) (Nat.le_of_ble_eq_true rfl) (Nat.le_of_ble_eq_true rfl) ?_
  refine astL hx hb hK hP hD hS 1 0 rfl rfl 0 (by decide) (vin (by decide)) dL_sample_8 (fun H locs hP hD hS => ?_)
  have hP : va_P D vwCl [(h0, .inr (5, [v0, .ref h2, v1, .ref h3, v2, v3, v4, v5, v6, v7])), (h1, .inl (a0, 1, .inr (.inl (vp_updL f0 0 1)))), (h2, .inr (0, [v8, v9, .int 2, v10, v11, v12, v13])), (h3, .inr (1, [v14, v15, .ref h4, v16, v17, v18, v19, v20, v21, v22, v23, v24, v25])), (h4, .inl (a1, 48, .inr (.inl f1)))] H := hP
  have hD : va_D A [(h0, .inr (5, [v0, .ref h2, v1, .ref h3, v2, v3, v4, v5, v6, v7])), (h1, .inl (a0, 1, .inr (.inl (vp_updL f0 0 1)))), (h2, .inr (0, [v8, v9, .int 2, v10, v11, v12, v13])), (h3, .inr (1, [v14, v15, .ref h4, v16, v17, v18, v19, v20, v21, v22, v23, v24, v25])), (h4, .inl (a1, 48, .inr (.inl f1)))] := hD
  refine lv_goto (tgt := 20) hx hb dL_sample_9 (by decide) ?_
  refine lv_iconst (v := 0) hx hb dL_sample_20 (by decide) ?_
  exact fi hx hb hr hlocks hP hD hK hS (()) trivial rfl [0, 1, 2, 3, 4] [0, 1] rfl (by decide) rfl (Nat.le_of_ble_eq_true rfl) (Nat.le_of_ble_eq_true rfl) dL_sample_21
set_option maxHeartbeats 4000000 in
set_option maxRecDepth 100000 in
theorem cL_sample_631 (l : Launch) (D : va_G) (h0 : Nat) (h1 : Nat) (h2 : Nat) (h3 : Nat) (h4 : Nat) (v0 : Value) (v1 : Value) (v2 : Value) (v3 : Value) (v4 : Value) (v5 : Value) (v6 : Value) (v7 : Value) (f0 : Nat → Int64) (v8 : Value) (v9 : Value) (v10 : Value) (v11 : Value) (v12 : Value) (v13 : Value) (v14 : Value) (v15 : Value) (v16 : Value) (v17 : Value) (v18 : Value) (v19 : Value) (v20 : Value) (v21 : Value) (v22 : Value) (v23 : Value) (v24 : Value) (v25 : Value) (f1 : Nat → Int32) (a0 : ClassId) (a1 : ClassId) (ef1_1 : f1 1 = (-1))  : CH l yL_sample cL_sample 5 (some .int) [(0, 9, 12, 13), (0, 9, 16, 19)] { frames := 2, cells := 0, slots := 0, locals := 43 } [.ref h0, .int 1, .int 5, .ref h1] D [(h0, .inr (5, [v0, .ref h2, v1, .ref h3, v2, v3, v4, v5, v6, v7])), (h1, .inl (a0, 1, .inr (.inl f0))), (h2, .inr (0, [v8, v9, .int 2, v10, v11, v12, v13])), (h3, .inr (1, [v14, v15, v16, .ref h4, v17, v18, v19, v20, v21, v22, v23, v24, v25])), (h4, .inl (a1, 48, .inl f1))] [(a0, .long), (a1, .int)] XN [(h0, .inr (5, [v0, .ref h2, v1, .ref h3, v2, v3, v4, v5, v6, v7])), (h1, .inl (a0, 1, .inr (.inl f0))), (h2, .inr (0, [v8, v9, .int 2, v10, v11, v12, v13])), (h3, .inr (1, [v14, v15, v16, .ref h4, v17, v18, v19, v20, v21, v22, v23, v24, v25])), (h4, .inl (a1, 48, .inl f1))] (ei (fun _ : Unit => True) (fun u => 0) (fun _ => [(h0, .inr (5, [v0, .ref h2, v1, .ref h3, v2, v3, v4, v5, v6, v7])), (h1, .inl (a0, 1, .inr (.inl (vp_updL f0 0 (-1))))), (h2, .inr (0, [v8, v9, .int 2, v10, v11, v12, v13])), (h3, .inr (1, [v14, v15, v16, .ref h4, v17, v18, v19, v20, v21, v22, v23, v24, v25])), (h4, .inl (a1, 48, .inl f1))]) (fun u => [(a0, .long), (a1, .int)]) D) 0 0 := by
  refine CH.ofW (by decide +kernel) (Nat.le_of_ble_eq_true rfl) ?_
  intro p e s m below meth c A ls hcs htab hP hK hD hX hA hS hl
  obtain ⟨hx, hb, hr, hml, hown, hg, hlocks, hin⟩ := hcs
  have hown : s.vm.findClass RL = some m.cls := hown
  have hl : lv_has ls 5 [(0, .ref h0), (1, .int 1), (2, .int 5), (3, .ref h1)] := hl
  refine lv_aload_n hx hb dL_sample_0 rfl (lv_at hl 3 rfl) ?_
  refine lv_iconst (v := 0) hx hb dL_sample_1 (by decide) ?_
  refine lv_aload_n hx hb dL_sample_2 rfl (lv_at hl 0 rfl) ?_
  refine lv_iload_n hx hb dL_sample_3 rfl (lv_at hl 1 rfl) ?_
  refine lv_iload_n hx hb dL_sample_4 rfl (lv_at hl 2 rfl) ?_
  refine cVl (n := 2) (As := [.int 1, .int 5]) (rest := [.int 0, .ref h1]) (wr := [(h0, .inr (5, [v0, .ref h2, v1, .ref h3, v2, v3, v4, v5, v6, v7])), (h1, .inl (a0, 1, .inr (.inl f0))), (h2, .inr (0, [v8, v9, .int 2, v10, v11, v12, v13])), (h3, .inr (1, [v14, v15, v16, .ref h4, v17, v18, v19, v20, v21, v22, v23, v24, v25])), (h4, .inl (a1, 48, .inl f1))]) (tr := [(a0, .long), (a1, .int)]) hx hb hml hown hg okN (cX5_sample_361 l D h0 h2 h3 h4 v0 v1 v2 v3 v4 v5 v6 v7 v8 v9 v10 v11 v12 v13 v14 v15 v16 v17 v18 v19 v20 v21 v22 v23 v24 v25 f1 a1 ef1_1) (mwV k857 k858 k859 k84 k860) ⟨rfl, by decide, by decide, by decide +kernel⟩ ⟨rfl, rfl, (Nat.le_of_ble_eq_true rfl), (Nat.le_of_ble_eq_true rfl)⟩ hP hD hK hS xn [0, 2, 3, 4] [] [0, 1, 2, 3, 4] [1] [0, 1] rfl (by decide) rfl rfl (by decide) (by decide) rfl rfl (aNil hA hS) (aNil hA hS) 0 rfl rfl rfl hl.1 rfl (Nat.le_of_ble_eq_true rfl) dL_sample_5 ⟨(Nat.le_of_ble_eq_true rfl), (Nat.le_of_ble_eq_true rfl)⟩ (fun u H locs hφ hP hD hK hS hk => ?_)
  have hP : va_P D vwCl [(h0, .inr (5, [v0, .ref h2, v1, .ref h3, v2, v3, v4, v5, v6, v7])), (h1, .inl (a0, 1, .inr (.inl f0))), (h2, .inr (0, [v8, v9, .int 2, v10, v11, v12, v13])), (h3, .inr (1, [v14, v15, v16, .ref h4, v17, v18, v19, v20, v21, v22, v23, v24, v25])), (h4, .inl (a1, 48, .inl f1))] H := hP
  have hD : va_D A [(h0, .inr (5, [v0, .ref h2, v1, .ref h3, v2, v3, v4, v5, v6, v7])), (h1, .inl (a0, 1, .inr (.inl f0))), (h2, .inr (0, [v8, v9, .int 2, v10, v11, v12, v13])), (h3, .inr (1, [v14, v15, v16, .ref h4, v17, v18, v19, v20, v21, v22, v23, v24, v25])), (h4, .inl (a1, 48, .inl f1))] := hD
  have hK : va_K D vwCl [(a0, .long), (a1, .int)] s := hK
  refine W.widen (k := 0) (n := 0) (Nat.le_of_ble_eq_true rfl) (Nat.le_of_ble_eq_true rfl) ?_
  refine astL hx hb hK hP hD hS 1 0 rfl rfl 0 (by decide) (vin (by decide)) dL_sample_8 (fun H locs hP hD hS => ?_)
  have hP : va_P D vwCl [(h0, .inr (5, [v0, .ref h2, v1, .ref h3, v2, v3, v4, v5, v6, v7])), (h1, .inl (a0, 1, .inr (.inl (vp_updL f0 0 (-1))))), (h2, .inr (0, [v8, v9, .int 2, v10, v11, v12, v13])), (h3, .inr (1, [v14, v15, v16, .ref h4, v17, v18, v19, v20, v21, v22, v23, v24, v25])), (h4, .inl (a1, 48, .inl f1))] H := hP
  have hD : va_D A [(h0, .inr (5, [v0, .ref h2, v1, .ref h3, v2, v3, v4, v5, v6, v7])), (h1, .inl (a0, 1, .inr (.inl (vp_updL f0 0 (-1))))), (h2, .inr (0, [v8, v9, .int 2, v10, v11, v12, v13])), (h3, .inr (1, [v14, v15, v16, .ref h4, v17, v18, v19, v20, v21, v22, v23, v24, v25])), (h4, .inl (a1, 48, .inl f1))] := hD
  refine lv_goto (tgt := 20) hx hb dL_sample_9 (by decide) ?_
  refine lv_iconst (v := 0) hx hb dL_sample_20 (by decide) ?_
  exact fi hx hb hr hlocks hP hD hK hS (()) trivial rfl [0, 1, 2, 3, 4] [0, 1] rfl (by decide) rfl (Nat.le_of_ble_eq_true rfl) (Nat.le_of_ble_eq_true rfl) dL_sample_21
set_option maxHeartbeats 4000000 in
set_option maxRecDepth 100000 in
theorem cL_present_632 (l : Launch) (D : va_G) (hlt : l.stackTraces = false) (h0 : Nat) (x0 : Int32) (h1 : Nat) (h2 : Nat) (h3 : Nat) (v0 : Value) (v1 : Value) (v2 : Value) (v3 : Value) (v4 : Value) (v5 : Value) (v6 : Value) (v7 : Value) (v8 : Value) (v9 : Value) (v10 : Value) (v11 : Value) (v12 : Value) (v13 : Value) (v14 : Value) (v15 : Value) (v16 : Value) (v17 : Value) (v18 : Value) (v19 : Value) (v20 : Value) (v21 : Value) (v22 : Value) (v23 : Value) (v24 : Value) (v25 : Value)  (d0 : x0 < 0) : CH l yL_present cL_present 4 (some .int) [(0, 9, 12, 13)] { frames := 8, cells := 1, slots := 6, locals := 132 } [.ref h0, .int x0, .ref h1] D [(h0, .inr (5, [v0, v1, v2, .ref h2, v3, v4, v5, v6, v7, v8])), (h2, .inr (1, [.ref h3, v9, v10, v11, v12, .int 0, v13, v14, v15, v16, v17, v18, v19])), (h3, .inr (0, [v20, v21, .int 2, v22, v23, v24, v25]))] [] XX [] (ei (fun _ : Unit => True) (fun _ => 1) (fun _ => []) (fun _ => []) D) 1 6 := by
  refine CH.ofR (by decide +kernel) (Nat.le_of_ble_eq_true rfl) ?_
  intro p e s m below meth c A ls hcs htab hP hK hD hX hA hS hl
  obtain ⟨hx, hb, hr, hml, hown, hg, hlocks, hin⟩ := hcs
  have hown : s.vm.findClass RL = some m.cls := hown
  have hl : lv_has ls 4 [(0, .ref h0), (1, .int x0), (2, .ref h1)] := hl
  refine lv_aload_n hx hb dL_present_0 rfl (lv_at hl 2 rfl) ?_
  refine lv_iconst (v := 0) hx hb dL_present_1 (by decide) ?_
  refine lv_aload_n hx hb dL_present_2 rfl (lv_at hl 0 rfl) ?_
  refine lv_iload_n hx hb dL_present_3 rfl (lv_at hl 1 rfl) ?_
  refine hVi (n := 1) (As := [.int x0]) (rest := [.int 0, .ref h1]) hx hb hml hown hg okXX (cX5_present_362 l D hlt h0 x0 h2 h3 v0 v1 v2 v3 v4 v5 v6 v7 v8 v9 v10 v11 v12 v13 v14 v15 v16 v17 v18 v19 v20 v21 v22 v23 v24 v25 d0) (mwV k866 k867 k868 k84 k869) ⟨rfl, by decide, by decide, by decide +kernel⟩ ⟨rfl, rfl, (Nat.le_of_ble_eq_true rfl), (Nat.le_of_ble_eq_true rfl)⟩ hP hD hK hS (okXX.2.2 _ _ _ _ hS.2.1 hX) [0, 1, 2] [] rfl (by decide) rfl (aNil hA hS) 0 rfl rfl rfl hl.1 rfl (Nat.le_of_ble_eq_true rfl) dL_present_4 ⟨(Nat.le_of_ble_eq_true rfl), (Nat.le_of_ble_eq_true rfl)⟩ [] { startPc := 0, endPc := 9, handlerPc := 12, catchType := 13 } [] (htab.trans rfl) (fun z hz => nomatch hz) (by decide) (by decide) (hg _ k605) (XX_cIOOBE hX) (fun q9 H locs hS hk => ?_)
  have hP : va_P D vwCl [] H := pNil
  have hD : va_D (fun _ => True) [] := dNil
  have hK : va_K D vwCl [] s := hK.sub [] rfl
  refine W.widen (k := 1) (n := 6) (Nat.le_of_ble_eq_true rfl) (Nat.le_of_ble_eq_true rfl) ?_
  refine lv_astore_n (lv' := [(3, .ref q9), (0, .ref h0), (1, .int x0), (2, .ref h1)]) hx hb dL_present_12 rfl hl (by decide) rfl (fun ls hl => ?_)
  refine lv_iconst (v := 1) hx hb dL_present_13 (by decide) ?_
  exact fi0 hx hb hr hlocks hK hS (Nat.le_of_ble_eq_true rfl) (Nat.le_of_ble_eq_true rfl) dL_present_14
set_option maxHeartbeats 4000000 in
set_option maxRecDepth 100000 in
theorem cL_present_633 (l : Launch) (D : va_G) (h0 : Nat) (h1 : Nat) (h2 : Nat) (h3 : Nat) (h4 : Nat) (v0 : Value) (v1 : Value) (v2 : Value) (v3 : Value) (v4 : Value) (v5 : Value) (v6 : Value) (v7 : Value) (v8 : Value) (f0 : Nat → Int64) (v9 : Value) (v10 : Value) (v11 : Value) (v12 : Value) (v13 : Value) (v14 : Value) (v15 : Value) (v16 : Value) (v17 : Value) (v18 : Value) (v19 : Value) (v20 : Value) (v21 : Value) (v22 : Value) (v23 : Value) (v24 : Value) (f1 : Nat → Int32) (a0 : ClassId) (a1 : ClassId) (ef1_0 : f1 0 = (-1))  : CH l yL_present cL_present 4 (some .int) [(0, 9, 12, 13)] { frames := 3, cells := 0, slots := 0, locals := 65 } [.ref h0, .int 0, .ref h1] D [(h0, .inr (5, [v0, v1, v2, .ref h2, v3, v4, v5, v6, v7, v8])), (h1, .inl (a0, 1, .inr (.inl f0))), (h2, .inr (1, [.ref h3, v9, v10, .ref h4, v11, .int 0, v12, v13, v14, v15, v16, v17, v18])), (h3, .inr (0, [v19, v20, .int 2, v21, v22, v23, v24])), (h4, .inl (a1, 48, .inl f1))] [(a0, .long), (a1, .int)] XN [(h0, .inr (5, [v0, v1, v2, .ref h2, v3, v4, v5, v6, v7, v8])), (h1, .inl (a0, 1, .inr (.inl f0))), (h2, .inr (1, [.ref h3, v9, v10, .ref h4, v11, .int 0, v12, v13, v14, v15, v16, v17, v18])), (h3, .inr (0, [v19, v20, .int 2, v21, v22, v23, v24])), (h4, .inl (a1, 48, .inl f1))] (ei (fun _ : Unit => True) (fun u => 0) (fun _ => [(h0, .inr (5, [v0, v1, v2, .ref h2, v3, v4, v5, v6, v7, v8])), (h1, .inl (a0, 1, .inr (.inl (vp_updL f0 0 0)))), (h2, .inr (1, [.ref h3, v9, v10, .ref h4, v11, .int 0, v12, v13, v14, v15, v16, v17, v18])), (h3, .inr (0, [v19, v20, .int 2, v21, v22, v23, v24])), (h4, .inl (a1, 48, .inl f1))]) (fun u => [(a0, .long), (a1, .int)]) D) 0 0 := by
  refine CH.ofW (by decide +kernel) (Nat.le_of_ble_eq_true rfl) ?_
  intro p e s m below meth c A ls hcs htab hP hK hD hX hA hS hl
  obtain ⟨hx, hb, hr, hml, hown, hg, hlocks, hin⟩ := hcs
  have hown : s.vm.findClass RL = some m.cls := hown
  have hl : lv_has ls 4 [(0, .ref h0), (1, .int 0), (2, .ref h1)] := hl
  refine lv_aload_n hx hb dL_present_0 rfl (lv_at hl 2 rfl) ?_
  refine lv_iconst (v := 0) hx hb dL_present_1 (by decide) ?_
  refine lv_aload_n hx hb dL_present_2 rfl (lv_at hl 0 rfl) ?_
  refine lv_iload_n hx hb dL_present_3 rfl (lv_at hl 1 rfl) ?_
  refine cVi (n := 1) (As := [.int 0]) (rest := [.int 0, .ref h1]) (wr := [(h0, .inr (5, [v0, v1, v2, .ref h2, v3, v4, v5, v6, v7, v8])), (h1, .inl (a0, 1, .inr (.inl f0))), (h2, .inr (1, [.ref h3, v9, v10, .ref h4, v11, .int 0, v12, v13, v14, v15, v16, v17, v18])), (h3, .inr (0, [v19, v20, .int 2, v21, v22, v23, v24])), (h4, .inl (a1, 48, .inl f1))]) (tr := [(a0, .long), (a1, .int)]) hx hb hml hown hg okN (cX5_present_363 l D h0 h2 h3 h4 v0 v1 v2 v3 v4 v5 v6 v7 v8 v9 v10 v11 v12 v13 v14 v15 v16 v17 v18 v19 v20 v21 v22 v23 v24 f1 a1 ef1_0) (mwV k866 k867 k868 k84 k869) ⟨rfl, by decide, by decide, by decide +kernel⟩ ⟨rfl, rfl, (Nat.le_of_ble_eq_true rfl), (Nat.le_of_ble_eq_true rfl)⟩ hP hD hK hS xn [0, 2, 3, 4] [] [0, 1, 2, 3, 4] [1] [0, 1] rfl (by decide) rfl rfl (by decide) (by decide) rfl rfl (aNil hA hS) (aNil hA hS) 0 rfl rfl rfl hl.1 rfl (Nat.le_of_ble_eq_true rfl) dL_present_4 ⟨(Nat.le_of_ble_eq_true rfl), (Nat.le_of_ble_eq_true rfl)⟩ (fun u H locs hφ hP hD hK hS hk => ?_)
  have hP : va_P D vwCl [(h0, .inr (5, [v0, v1, v2, .ref h2, v3, v4, v5, v6, v7, v8])), (h1, .inl (a0, 1, .inr (.inl f0))), (h2, .inr (1, [.ref h3, v9, v10, .ref h4, v11, .int 0, v12, v13, v14, v15, v16, v17, v18])), (h3, .inr (0, [v19, v20, .int 2, v21, v22, v23, v24])), (h4, .inl (a1, 48, .inl f1))] H := hP
  have hD : va_D A [(h0, .inr (5, [v0, v1, v2, .ref h2, v3, v4, v5, v6, v7, v8])), (h1, .inl (a0, 1, .inr (.inl f0))), (h2, .inr (1, [.ref h3, v9, v10, .ref h4, v11, .int 0, v12, v13, v14, v15, v16, v17, v18])), (h3, .inr (0, [v19, v20, .int 2, v21, v22, v23, v24])), (h4, .inl (a1, 48, .inl f1))] := hD
  have hK : va_K D vwCl [(a0, .long), (a1, .int)] s := hK
  refine W.widen (k := 0) (n := 0) (Nat.le_of_ble_eq_true rfl) (Nat.le_of_ble_eq_true rfl) ?_
  refine lv_i2l (v := 0) hx hb dL_present_7 (by decide) ?_
  refine astL hx hb hK hP hD hS 1 0 rfl rfl 0 (by decide) (vin (by decide)) dL_present_8 (fun H locs hP hD hS => ?_)
  have hP : va_P D vwCl [(h0, .inr (5, [v0, v1, v2, .ref h2, v3, v4, v5, v6, v7, v8])), (h1, .inl (a0, 1, .inr (.inl (vp_updL f0 0 0)))), (h2, .inr (1, [.ref h3, v9, v10, .ref h4, v11, .int 0, v12, v13, v14, v15, v16, v17, v18])), (h3, .inr (0, [v19, v20, .int 2, v21, v22, v23, v24])), (h4, .inl (a1, 48, .inl f1))] H := hP
  have hD : va_D A [(h0, .inr (5, [v0, v1, v2, .ref h2, v3, v4, v5, v6, v7, v8])), (h1, .inl (a0, 1, .inr (.inl (vp_updL f0 0 0)))), (h2, .inr (1, [.ref h3, v9, v10, .ref h4, v11, .int 0, v12, v13, v14, v15, v16, v17, v18])), (h3, .inr (0, [v19, v20, .int 2, v21, v22, v23, v24])), (h4, .inl (a1, 48, .inl f1))] := hD
  refine lv_goto (tgt := 15) hx hb dL_present_9 (by decide) ?_
  refine lv_iconst (v := 0) hx hb dL_present_15 (by decide) ?_
  exact fi hx hb hr hlocks hP hD hK hS (()) trivial rfl [0, 1, 2, 3, 4] [0, 1] rfl (by decide) rfl (Nat.le_of_ble_eq_true rfl) (Nat.le_of_ble_eq_true rfl) dL_present_16
set_option maxHeartbeats 4000000 in
set_option maxRecDepth 100000 in
theorem cL_present_634 (l : Launch) (D : va_G) (h0 : Nat) (h1 : Nat) (h2 : Nat) (h3 : Nat) (h4 : Nat) (v0 : Value) (v1 : Value) (v2 : Value) (v3 : Value) (v4 : Value) (v5 : Value) (v6 : Value) (v7 : Value) (v8 : Value) (f0 : Nat → Int64) (v9 : Value) (v10 : Value) (v11 : Value) (v12 : Value) (v13 : Value) (v14 : Value) (v15 : Value) (v16 : Value) (v17 : Value) (v18 : Value) (v19 : Value) (v20 : Value) (v21 : Value) (v22 : Value) (v23 : Value) (v24 : Value) (f1 : Nat → Int32) (a0 : ClassId) (a1 : ClassId) (ef1_0 : f1 0 = (-1)) (ef1_1 : f1 1 = (-1))  : CH l yL_present cL_present 4 (some .int) [(0, 9, 12, 13)] { frames := 3, cells := 0, slots := 0, locals := 65 } [.ref h0, .int 1, .ref h1] D [(h0, .inr (5, [v0, v1, v2, .ref h2, v3, v4, v5, v6, v7, v8])), (h1, .inl (a0, 1, .inr (.inl f0))), (h2, .inr (1, [.ref h3, v9, v10, .ref h4, v11, .int 0, v12, v13, v14, v15, v16, v17, v18])), (h3, .inr (0, [v19, v20, .int 2, v21, v22, v23, v24])), (h4, .inl (a1, 48, .inl f1))] [(a0, .long), (a1, .int)] XN [(h0, .inr (5, [v0, v1, v2, .ref h2, v3, v4, v5, v6, v7, v8])), (h1, .inl (a0, 1, .inr (.inl f0))), (h2, .inr (1, [.ref h3, v9, v10, .ref h4, v11, .int 0, v12, v13, v14, v15, v16, v17, v18])), (h3, .inr (0, [v19, v20, .int 2, v21, v22, v23, v24])), (h4, .inl (a1, 48, .inl f1))] (ei (fun _ : Unit => True) (fun u => 0) (fun _ => [(h0, .inr (5, [v0, v1, v2, .ref h2, v3, v4, v5, v6, v7, v8])), (h1, .inl (a0, 1, .inr (.inl (vp_updL f0 0 1)))), (h2, .inr (1, [.ref h3, v9, v10, .ref h4, v11, .int 0, v12, v13, v14, v15, v16, v17, v18])), (h3, .inr (0, [v19, v20, .int 2, v21, v22, v23, v24])), (h4, .inl (a1, 48, .inl f1))]) (fun u => [(a0, .long), (a1, .int)]) D) 0 0 := by
  refine CH.ofW (by decide +kernel) (Nat.le_of_ble_eq_true rfl) ?_
  intro p e s m below meth c A ls hcs htab hP hK hD hX hA hS hl
  obtain ⟨hx, hb, hr, hml, hown, hg, hlocks, hin⟩ := hcs
  have hown : s.vm.findClass RL = some m.cls := hown
  have hl : lv_has ls 4 [(0, .ref h0), (1, .int 1), (2, .ref h1)] := hl
  refine lv_aload_n hx hb dL_present_0 rfl (lv_at hl 2 rfl) ?_
  refine lv_iconst (v := 0) hx hb dL_present_1 (by decide) ?_
  refine lv_aload_n hx hb dL_present_2 rfl (lv_at hl 0 rfl) ?_
  refine lv_iload_n hx hb dL_present_3 rfl (lv_at hl 1 rfl) ?_
  refine cVi (n := 1) (As := [.int 1]) (rest := [.int 0, .ref h1]) (wr := [(h0, .inr (5, [v0, v1, v2, .ref h2, v3, v4, v5, v6, v7, v8])), (h1, .inl (a0, 1, .inr (.inl f0))), (h2, .inr (1, [.ref h3, v9, v10, .ref h4, v11, .int 0, v12, v13, v14, v15, v16, v17, v18])), (h3, .inr (0, [v19, v20, .int 2, v21, v22, v23, v24])), (h4, .inl (a1, 48, .inl f1))]) (tr := [(a0, .long), (a1, .int)]) hx hb hml hown hg okN (cX5_present_365 l D h0 h2 h3 h4 v0 v1 v2 v3 v4 v5 v6 v7 v8 v9 v10 v11 v12 v13 v14 v15 v16 v17 v18 v19 v20 v21 v22 v23 v24 f1 a1 ef1_0 ef1_1) (mwV k866 k867 k868 k84 k869) ⟨rfl, by decide, by decide, by decide +kernel⟩ ⟨rfl, rfl, (Nat.le_of_ble_eq_true rfl), (Nat.le_of_ble_eq_true rfl)⟩ hP hD hK hS xn [0, 2, 3, 4] [] [0, 1, 2, 3, 4] [1] [0, 1] rfl (by decide) rfl rfl (by decide) (by decide) rfl rfl (aNil hA hS) (aNil hA hS) 0 rfl rfl rfl hl.1 rfl (Nat.le_of_ble_eq_true rfl) dL_present_4 ⟨(Nat.le_of_ble_eq_true rfl), (Nat.le_of_ble_eq_true rfl)⟩ (fun u H locs hφ hP hD hK hS hk => ?_)
  have hP : va_P D vwCl [(h0, .inr (5, [v0, v1, v2, .ref h2, v3, v4, v5, v6, v7, v8])), (h1, .inl (a0, 1, .inr (.inl f0))), (h2, .inr (1, [.ref h3, v9, v10, .ref h4, v11, .int 0, v12, v13, v14, v15, v16, v17, v18])), (h3, .inr (0, [v19, v20, .int 2, v21, v22, v23, v24])), (h4, .inl (a1, 48, .inl f1))] H := hP
  have hD : va_D A [(h0, .inr (5, [v0, v1, v2, .ref h2, v3, v4, v5, v6, v7, v8])), (h1, .inl (a0, 1, .inr (.inl f0))), (h2, .inr (1, [.ref h3, v9, v10, .ref h4, v11, .int 0, v12, v13, v14, v15, v16, v17, v18])), (h3, .inr (0, [v19, v20, .int 2, v21, v22, v23, v24])), (h4, .inl (a1, 48, .inl f1))] := hD
  have hK : va_K D vwCl [(a0, .long), (a1, .int)] s := hK
  refine W.widen (k := 0) (n := 0) (Nat.le_of_ble_eq_true rfl) (Nat.le_of_ble_eq_true rfl) ?_
  refine lv_i2l (v := 1) hx hb dL_present_7 (by decide) ?_
  refine astL hx hb hK hP hD hS 1 0 rfl rfl 0 (by decide) (vin (by decide)) dL_present_8 (fun H locs hP hD hS => ?_)
  have hP : va_P D vwCl [(h0, .inr (5, [v0, v1, v2, .ref h2, v3, v4, v5, v6, v7, v8])), (h1, .inl (a0, 1, .inr (.inl (vp_updL f0 0 1)))), (h2, .inr (1, [.ref h3, v9, v10, .ref h4, v11, .int 0, v12, v13, v14, v15, v16, v17, v18])), (h3, .inr (0, [v19, v20, .int 2, v21, v22, v23, v24])), (h4, .inl (a1, 48, .inl f1))] H := hP
  have hD : va_D A [(h0, .inr (5, [v0, v1, v2, .ref h2, v3, v4, v5, v6, v7, v8])), (h1, .inl (a0, 1, .inr (.inl (vp_updL f0 0 1)))), (h2, .inr (1, [.ref h3, v9, v10, .ref h4, v11, .int 0, v12, v13, v14, v15, v16, v17, v18])), (h3, .inr (0, [v19, v20, .int 2, v21, v22, v23, v24])), (h4, .inl (a1, 48, .inl f1))] := hD
  refine lv_goto (tgt := 15) hx hb dL_present_9 (by decide) ?_
  refine lv_iconst (v := 0) hx hb dL_present_15 (by decide) ?_
  exact fi hx hb hr hlocks hP hD hK hS (()) trivial rfl [0, 1, 2, 3, 4] [0, 1] rfl (by decide) rfl (Nat.le_of_ble_eq_true rfl) (Nat.le_of_ble_eq_true rfl) dL_present_16
set_option maxHeartbeats 4000000 in
set_option maxRecDepth 100000 in
theorem cL_present_635 (l : Launch) (D : va_G) (hlt : l.stackTraces = false) (h0 : Nat) (x0 : Int32) (h1 : Nat) (h2 : Nat) (h3 : Nat) (v0 : Value) (v1 : Value) (v2 : Value) (v3 : Value) (v4 : Value) (v5 : Value) (v6 : Value) (v7 : Value) (v8 : Value) (v9 : Value) (v10 : Value) (v11 : Value) (v12 : Value) (v13 : Value) (v14 : Value) (v15 : Value) (v16 : Value) (v17 : Value) (v18 : Value) (v19 : Value) (v20 : Value) (v21 : Value) (v22 : Value) (v23 : Value) (v24 : Value) (v25 : Value)  (d0 : ¬ (x0 < 0)) (d1 : ¬ (x0 < 2)) : CH l yL_present cL_present 4 (some .int) [(0, 9, 12, 13)] { frames := 8, cells := 1, slots := 6, locals := 132 } [.ref h0, .int x0, .ref h1] D [(h0, .inr (5, [v0, v1, v2, .ref h2, v3, v4, v5, v6, v7, v8])), (h2, .inr (1, [.ref h3, v9, v10, v11, v12, .int 0, v13, v14, v15, v16, v17, v18, v19])), (h3, .inr (0, [v20, v21, .int 2, v22, v23, v24, v25]))] [] XX [] (ei (fun _ : Unit => True) (fun _ => 1) (fun _ => []) (fun _ => []) D) 1 6 := by
  refine CH.ofR (by decide +kernel) (Nat.le_of_ble_eq_true rfl) ?_
  intro p e s m below meth c A ls hcs htab hP hK hD hX hA hS hl
  obtain ⟨hx, hb, hr, hml, hown, hg, hlocks, hin⟩ := hcs
  have hown : s.vm.findClass RL = some m.cls := hown
  have hl : lv_has ls 4 [(0, .ref h0), (1, .int x0), (2, .ref h1)] := hl
  refine lv_aload_n hx hb dL_present_0 rfl (lv_at hl 2 rfl) ?_
  refine lv_iconst (v := 0) hx hb dL_present_1 (by decide) ?_
  refine lv_aload_n hx hb dL_present_2 rfl (lv_at hl 0 rfl) ?_
  refine lv_iload_n hx hb dL_present_3 rfl (lv_at hl 1 rfl) ?_
  refine hVi (n := 1) (As := [.int x0]) (rest := [.int 0, .ref h1]) hx hb hml hown hg okXX (cX5_present_367 l D hlt h0 x0 h2 h3 v0 v1 v2 v3 v4 v5 v6 v7 v8 v9 v10 v11 v12 v13 v14 v15 v16 v17 v18 v19 v20 v21 v22 v23 v24 v25 d0 d1) (mwV k866 k867 k868 k84 k869) ⟨rfl, by decide, by decide, by decide +kernel⟩ ⟨rfl, rfl, (Nat.le_of_ble_eq_true rfl), (Nat.le_of_ble_eq_true rfl)⟩ hP hD hK hS (okXX.2.2 _ _ _ _ hS.2.1 hX) [0, 1, 2] [] rfl (by decide) rfl (aNil hA hS) 0 rfl rfl rfl hl.1 rfl (Nat.le_of_ble_eq_true rfl) dL_present_4 ⟨(Nat.le_of_ble_eq_true rfl), (Nat.le_of_ble_eq_true rfl)⟩ [] { startPc := 0, endPc := 9, handlerPc := 12, catchType := 13 } [] (htab.trans rfl) (fun z hz => nomatch hz) (by decide) (by decide) (hg _ k605) (XX_cIOOBE hX) (fun q9 H locs hS hk => ?_)
  have hP : va_P D vwCl [] H := pNil
  have hD : va_D (fun _ => True) [] := dNil
  have hK : va_K D vwCl [] s := hK.sub [] rfl
  refine W.widen (k := 1) (n := 6) (Nat.le_of_ble_eq_true rfl) (Nat.le_of_ble_eq_true rfl) ?_
  refine lv_astore_n (lv' := [(3, .ref q9), (0, .ref h0), (1, .int x0), (2, .ref h1)]) hx hb dL_present_12 rfl hl (by decide) rfl (fun ls hl => ?_)
  refine lv_iconst (v := 1) hx hb dL_present_13 (by decide) ?_
  exact fi0 hx hb hr hlocks hK hS (Nat.le_of_ble_eq_true rfl) (Nat.le_of_ble_eq_true rfl) dL_present_14
set_option maxHeartbeats 4000000 in
set_option maxRecDepth 100000 in
theorem cL_neighbour_636 (l : Launch) (D : va_G) (hlt : l.stackTraces = false) (h0 : Nat) (x0 : Int32) (h1 : Nat) (h2 : Nat) (v0 : Value) (v1 : Value) (v2 : Value) (v3 : Value) (v4 : Value) (v5 : Value) (v6 : Value) (v7 : Value) (v8 : Value) (v9 : Value) (v10 : Value) (v11 : Value) (v12 : Value) (v13 : Value) (v14 : Value)  (d0 : x0 < 0) : CH l yL_neighbour cL_neighbour 5 (some .int) [(0, 10, 13, 13)] { frames := 8, cells := 1, slots := 6, locals := 133 } [.ref h0, .int x0, .int 0, .ref h1] D [(h0, .inr (5, [v0, .ref h2, v1, v2, v3, v4, v5, v6, v7, v8])), (h2, .inr (0, [v9, v10, .int 2, v11, v12, v13, v14]))] [] XX [] (ei (fun _ : Unit => True) (fun _ => 1) (fun _ => []) (fun _ => []) D) 1 6 := by
  refine CH.ofR (by decide +kernel) (Nat.le_of_ble_eq_true rfl) ?_
  intro p e s m below meth c A ls hcs htab hP hK hD hX hA hS hl
  obtain ⟨hx, hb, hr, hml, hown, hg, hlocks, hin⟩ := hcs
  have hown : s.vm.findClass RL = some m.cls := hown
  have hl : lv_has ls 5 [(0, .ref h0), (1, .int x0), (2, .int 0), (3, .ref h1)] := hl
  refine lv_aload_n hx hb dL_neighbour_0 rfl (lv_at hl 3 rfl) ?_
  refine lv_iconst (v := 0) hx hb dL_neighbour_1 (by decide) ?_
  refine lv_aload_n hx hb dL_neighbour_2 rfl (lv_at hl 0 rfl) ?_
  refine lv_iload_n hx hb dL_neighbour_3 rfl (lv_at hl 1 rfl) ?_
  refine lv_iload_n hx hb dL_neighbour_4 rfl (lv_at hl 2 rfl) ?_
  refine hVi (n := 2) (As := [.int x0, .int 0]) (rest := [.int 0, .ref h1]) hx hb hml hown hg okXX (cX5_neighbour_368 l D hlt h0 x0 h2 v0 v1 v2 v3 v4 v5 v6 v7 v8 v9 v10 v11 v12 v13 v14 d0) (mwV k877 k878 k879 k84 k880) ⟨rfl, by decide, by decide, by decide +kernel⟩ ⟨rfl, rfl, (Nat.le_of_ble_eq_true rfl), (Nat.le_of_ble_eq_true rfl)⟩ hP hD hK hS (okXX.2.2 _ _ _ _ hS.2.1 hX) [0, 1] [] rfl (by decide) rfl (aNil hA hS) 0 rfl rfl rfl hl.1 rfl (Nat.le_of_ble_eq_true rfl) dL_neighbour_5 ⟨(Nat.le_of_ble_eq_true rfl), (Nat.le_of_ble_eq_true rfl)⟩ [] { startPc := 0, endPc := 10, handlerPc := 13, catchType := 13 } [] (htab.trans rfl) (fun z hz => nomatch hz) (by decide) (by decide) (hg _ k605) (XX_cIOOBE hX) (fun q9 H locs hS hk => ?_)
  have hP : va_P D vwCl [] H := pNil
  have hD : va_D (fun _ => True) [] := dNil
  have hK : va_K D vwCl [] s := hK.sub [] rfl
  refine W.widen (k := 1) (n := 6) (Nat.le_of_ble_eq_true rfl) (Nat.le_of_ble_eq_true rfl) ?_
  refine lv_astore (lv' := [(4, .ref q9), (0, .ref h0), (1, .int x0), (2, .int 0), (3, .ref h1)]) hx hb dL_neighbour_13 hl (by decide) rfl (fun ls hl => ?_)
  refine lv_iconst (v := 1) hx hb dL_neighbour_15 (by decide) ?_
  exact fi0 hx hb hr hlocks hK hS (Nat.le_of_ble_eq_true rfl) (Nat.le_of_ble_eq_true rfl) dL_neighbour_16
set_option maxHeartbeats 4000000 in
set_option maxRecDepth 100000 in
theorem cL_neighbour_637 (l : Launch) (D : va_G) (hlt : l.stackTraces = false) (h0 : Nat) (x0 : Int32) (h1 : Nat) (h2 : Nat) (v0 : Value) (v1 : Value) (v2 : Value) (v3 : Value) (v4 : Value) (v5 : Value) (v6 : Value) (v7 : Value) (v8 : Value) (v9 : Value) (v10 : Value) (v11 : Value) (v12 : Value) (v13 : Value) (v14 : Value)  (d0 : x0 < 0) : CH l yL_neighbour cL_neighbour 5 (some .int) [(0, 10, 13, 13)] { frames := 8, cells := 1, slots := 6, locals := 133 } [.ref h0, .int x0, .int 1, .ref h1] D [(h0, .inr (5, [v0, .ref h2, v1, v2, v3, v4, v5, v6, v7, v8])), (h2, .inr (0, [v9, v10, .int 2, v11, v12, v13, v14]))] [] XX [] (ei (fun _ : Unit => True) (fun _ => 1) (fun _ => []) (fun _ => []) D) 1 6 := by
  refine CH.ofR (by decide +kernel) (Nat.le_of_ble_eq_true rfl) ?_
  intro p e s m below meth c A ls hcs htab hP hK hD hX hA hS hl
  obtain ⟨hx, hb, hr, hml, hown, hg, hlocks, hin⟩ := hcs
  have hown : s.vm.findClass RL = some m.cls := hown
  have hl : lv_has ls 5 [(0, .ref h0), (1, .int x0), (2, .int 1), (3, .ref h1)] := hl
  refine lv_aload_n hx hb dL_neighbour_0 rfl (lv_at hl 3 rfl) ?_
  refine lv_iconst (v := 0) hx hb dL_neighbour_1 (by decide) ?_
  refine lv_aload_n hx hb dL_neighbour_2 rfl (lv_at hl 0 rfl) ?_
  refine lv_iload_n hx hb dL_neighbour_3 rfl (lv_at hl 1 rfl) ?_
  refine lv_iload_n hx hb dL_neighbour_4 rfl (lv_at hl 2 rfl) ?_
  refine hVi (n := 2) (As := [.int x0, .int 1]) (rest := [.int 0, .ref h1]) hx hb hml hown hg okXX (cX5_neighbour_369 l D hlt h0 x0 h2 v0 v1 v2 v3 v4 v5 v6 v7 v8 v9 v10 v11 v12 v13 v14 d0) (mwV k877 k878 k879 k84 k880) ⟨rfl, by decide, by decide, by decide +kernel⟩ ⟨rfl, rfl, (Nat.le_of_ble_eq_true rfl), (Nat.le_of_ble_eq_true rfl)⟩ hP hD hK hS (okXX.2.2 _ _ _ _ hS.2.1 hX) [0, 1] [] rfl (by decide) rfl (aNil hA hS) 0 rfl rfl rfl hl.1 rfl (Nat.le_of_ble_eq_true rfl) dL_neighbour_5 ⟨(Nat.le_of_ble_eq_true rfl), (Nat.le_of_ble_eq_true rfl)⟩ [] { startPc := 0, endPc := 10, handlerPc := 13, catchType := 13 } [] (htab.trans rfl) (fun z hz => nomatch hz) (by decide) (by decide) (hg _ k605) (XX_cIOOBE hX) (fun q9 H locs hS hk => ?_)
  have hP : va_P D vwCl [] H := pNil
  have hD : va_D (fun _ => True) [] := dNil
  have hK : va_K D vwCl [] s := hK.sub [] rfl
  refine W.widen (k := 1) (n := 6) (Nat.le_of_ble_eq_true rfl) (Nat.le_of_ble_eq_true rfl) ?_
  refine lv_astore (lv' := [(4, .ref q9), (0, .ref h0), (1, .int x0), (2, .int 1), (3, .ref h1)]) hx hb dL_neighbour_13 hl (by decide) rfl (fun ls hl => ?_)
  refine lv_iconst (v := 1) hx hb dL_neighbour_15 (by decide) ?_
  exact fi0 hx hb hr hlocks hK hS (Nat.le_of_ble_eq_true rfl) (Nat.le_of_ble_eq_true rfl) dL_neighbour_16
set_option maxHeartbeats 4000000 in
set_option maxRecDepth 100000 in
theorem cL_neighbour_638 (l : Launch) (D : va_G) (h0 : Nat) (h1 : Nat) (h2 : Nat) (h3 : Nat) (v0 : Value) (v1 : Value) (v2 : Value) (v3 : Value) (v4 : Value) (v5 : Value) (v6 : Value) (v7 : Value) (f0 : Nat → Int64) (v8 : Value) (v9 : Value) (v10 : Value) (v11 : Value) (v12 : Value) (v13 : Value) (v14 : Value) (v15 : Value) (v16 : Value) (v17 : Value) (v18 : Value) (v19 : Value) (v20 : Value) (v21 : Value) (v22 : Value) (v23 : Value) (v24 : Value) (v25 : Value) (v26 : Value) (a0 : ClassId)   : CH l yL_neighbour cL_neighbour 5 (some .int) [(0, 10, 13, 13)] { frames := 2, cells := 0, slots := 0, locals := 44 } [.ref h0, .int 0, .int 0, .ref h1] D [(h0, .inr (5, [v0, .ref h2, v1, .ref h3, v2, v3, v4, v5, v6, v7])), (h1, .inl (a0, 1, .inr (.inl f0))), (h2, .inr (0, [v8, v9, .int 2, v10, v11, v12, v13])), (h3, .inr (1, [v14, v15, v16, v17, v18, v19, v20, v21, v22, v23, v24, v25, v26]))] [(a0, .long)] XN [(h0, .inr (5, [v0, .ref h2, v1, .ref h3, v2, v3, v4, v5, v6, v7])), (h1, .inl (a0, 1, .inr (.inl f0))), (h2, .inr (0, [v8, v9, .int 2, v10, v11, v12, v13])), (h3, .inr (1, [v14, v15, v16, v17, v18, v19, v20, v21, v22, v23, v24, v25, v26]))] (ei (fun _ : Unit => True) (fun u => 0) (fun _ => [(h0, .inr (5, [v0, .ref h2, v1, .ref h3, v2, v3, v4, v5, v6, v7])), (h1, .inl (a0, 1, .inr (.inl (vp_updL f0 0 (-1))))), (h2, .inr (0, [v8, v9, .int 2, v10, v11, v12, v13])), (h3, .inr (1, [v14, v15, v16, v17, v18, v19, v20, v21, v22, v23, v24, v25, v26]))]) (fun u => [(a0, .long)]) D) 0 0 := by
  refine CH.ofW (by decide +kernel) (Nat.le_of_ble_eq_true rfl) ?_
  intro p e s m below meth c A ls hcs htab hP hK hD hX hA hS hl
  obtain ⟨hx, hb, hr, hml, hown, hg, hlocks, hin⟩ := hcs
  have hown : s.vm.findClass RL = some m.cls := hown
  have hl : lv_has ls 5 [(0, .ref h0), (1, .int 0), (2, .int 0), (3, .ref h1)] := hl
  refine lv_aload_n hx hb dL_neighbour_0 rfl (lv_at hl 3 rfl) ?_
  refine lv_iconst (v := 0) hx hb dL_neighbour_1 (by decide) ?_
  refine lv_aload_n hx hb dL_neighbour_2 rfl (lv_at hl 0 rfl) ?_
  refine lv_iload_n hx hb dL_neighbour_3 rfl (lv_at hl 1 rfl) ?_
  refine lv_iload_n hx hb dL_neighbour_4 rfl (lv_at hl 2 rfl) ?_
  refine cVi (n := 2) (As := [.int 0, .int 0]) (rest := [.int 0, .ref h1]) (wr := [(h0, .inr (5, [v0, .ref h2, v1, .ref h3, v2, v3, v4, v5, v6, v7])), (h1, .inl (a0, 1, .inr (.inl f0))), (h2, .inr (0, [v8, v9, .int 2, v10, v11, v12, v13])), (h3, .inr (1, [v14, v15, v16, v17, v18, v19, v20, v21, v22, v23, v24, v25, v26]))]) (tr := [(a0, .long)]) hx hb hml hown hg okN (cX5_neighbour_370 l D h0 h2 h3 v0 v1 v2 v3 v4 v5 v6 v7 v8 v9 v10 v11 v12 v13 v14 v15 v16 v17 v18 v19 v20 v21 v22 v23 v24 v25 v26) (mwV k877 k878 k879 k84 k880) ⟨rfl, by decide, by decide, by decide +kernel⟩ ⟨rfl, rfl, (Nat.le_of_ble_eq_true rfl), (Nat.le_of_ble_eq_true rfl)⟩ hP hD hK hS xn [0, 2, 3] [] [0, 1, 2, 3] [] [0] rfl (by decide) rfl rfl (by decide) (by decide) rfl rfl (aNil hA hS) (aNil hA hS) 0 rfl rfl rfl hl.1 rfl (Nat.le_of_ble_eq_true rfl) dL_neighbour_5 ⟨(Nat.le_of_ble_eq_true rfl), (Nat.le_of_ble_eq_true rfl)⟩ (fun u H locs hφ hP hD hK hS hk => ?_)
  have hP : va_P D vwCl [(h0, .inr (5, [v0, .ref h2, v1, .ref h3, v2, v3, v4, v5, v6, v7])), (h1, .inl (a0, 1, .inr (.inl f0))), (h2, .inr (0, [v8, v9, .int 2, v10, v11, v12, v13])), (h3, .inr (1, [v14, v15, v16, v17, v18, v19, v20, v21, v22, v23, v24, v25, v26]))] H := hP
  have hD : va_D A [(h0, .inr (5, [v0, .ref h2, v1, .ref h3, v2, v3, v4, v5, v6, v7])), (h1, .inl (a0, 1, .inr (.inl f0))), (h2, .inr (0, [v8, v9, .int 2, v10, v11, v12, v13])), (h3, .inr (1, [v14, v15, v16, v17, v18, v19, v20, v21, v22, v23, v24, v25, v26]))] := hD
  have hK : va_K D vwCl [(a0, .long)] s := hK
  refine W.widen (k := 0) (n := 0) (Nat.le_of_ble_eq_true rfl) (Nat.le_of_ble_eq_true rfl) ?_
  refine lv_i2l (v := (-1)) hx hb dL_neighbour_8 (by decide) ?_
  refine astL hx hb hK hP hD hS 1 0 rfl rfl 0 (by decide) (vin (by decide)) dL_neighbour_9 (fun H locs hP hD hS => ?_)
  have hP : va_P D vwCl [(h0, .inr (5, [v0, .ref h2, v1, .ref h3, v2, v3, v4, v5, v6, v7])), (h1, .inl (a0, 1, .inr (.inl (vp_updL f0 0 (-1))))), (h2, .inr (0, [v8, v9, .int 2, v10, v11, v12, v13])), (h3, .inr (1, [v14, v15, v16, v17, v18, v19, v20, v21, v22, v23, v24, v25, v26]))] H := hP
  have hD : va_D A [(h0, .inr (5, [v0, .ref h2, v1, .ref h3, v2, v3, v4, v5, v6, v7])), (h1, .inl (a0, 1, .inr (.inl (vp_updL f0 0 (-1))))), (h2, .inr (0, [v8, v9, .int 2, v10, v11, v12, v13])), (h3, .inr (1, [v14, v15, v16, v17, v18, v19, v20, v21, v22, v23, v24, v25, v26]))] := hD
  refine lv_goto (tgt := 17) hx hb dL_neighbour_10 (by decide) ?_
  refine lv_iconst (v := 0) hx hb dL_neighbour_17 (by decide) ?_
  exact fi hx hb hr hlocks hP hD hK hS (()) trivial rfl [0, 1, 2, 3] [0] rfl (by decide) rfl (Nat.le_of_ble_eq_true rfl) (Nat.le_of_ble_eq_true rfl) dL_neighbour_18
set_option maxHeartbeats 4000000 in
set_option maxRecDepth 100000 in
theorem cL_neighbour_639 (l : Launch) (D : va_G) (h0 : Nat) (h1 : Nat) (h2 : Nat) (h3 : Nat) (h4 : Nat) (v0 : Value) (v1 : Value) (v2 : Value) (v3 : Value) (v4 : Value) (v5 : Value) (v6 : Value) (v7 : Value) (f0 : Nat → Int64) (v8 : Value) (v9 : Value) (v10 : Value) (v11 : Value) (v12 : Value) (v13 : Value) (v14 : Value) (v15 : Value) (v16 : Value) (v17 : Value) (v18 : Value) (v19 : Value) (v20 : Value) (v21 : Value) (v22 : Value) (v23 : Value) (v24 : Value) (f1 : Nat → Int32) (a0 : ClassId) (a1 : ClassId) (ef1_1 : f1 1 = (-1))  : CH l yL_neighbour cL_neighbour 5 (some .int) [(0, 10, 13, 13)] { frames := 3, cells := 0, slots := 0, locals := 65 } [.ref h0, .int 0, .int 1, .ref h1] D [(h0, .inr (5, [v0, .ref h2, v1, .ref h3, v2, v3, v4, v5, v6, v7])), (h1, .inl (a0, 1, .inr (.inl f0))), (h2, .inr (0, [v8, v9, .int 2, v10, v11, v12, v13])), (h3, .inr (1, [.ref h2, v14, v15, .ref h4, v16, v17, v18, v19, v20, v21, v22, v23, v24])), (h4, .inl (a1, 48, .inl f1))] [(a0, .long), (a1, .int)] XN [(h0, .inr (5, [v0, .ref h2, v1, .ref h3, v2, v3, v4, v5, v6, v7])), (h1, .inl (a0, 1, .inr (.inl f0))), (h2, .inr (0, [v8, v9, .int 2, v10, v11, v12, v13])), (h3, .inr (1, [.ref h2, v14, v15, .ref h4, v16, v17, v18, v19, v20, v21, v22, v23, v24])), (h4, .inl (a1, 48, .inl f1))] (ei (fun _ : Unit => True) (fun u => 0) (fun _ => [(h0, .inr (5, [v0, .ref h2, v1, .ref h3, v2, v3, v4, v5, v6, v7])), (h1, .inl (a0, 1, .inr (.inl (vp_updL f0 0 1)))), (h2, .inr (0, [v8, v9, .int 2, v10, v11, v12, v13])), (h3, .inr (1, [.ref h2, v14, v15, .ref h4, v16, v17, v18, v19, v20, v21, v22, v23, v24])), (h4, .inl (a1, 48, .inl f1))]) (fun u => [(a0, .long), (a1, .int)]) D) 0 0 := by
  refine CH.ofW (by decide +kernel) (Nat.le_of_ble_eq_true rfl) ?_
  intro p e s m below meth c A ls hcs htab hP hK hD hX hA hS hl
  obtain ⟨hx, hb, hr, hml, hown, hg, hlocks, hin⟩ := hcs
  have hown : s.vm.findClass RL = some m.cls := hown
  have hl : lv_has ls 5 [(0, .ref h0), (1, .int 0), (2, .int 1), (3, .ref h1)] := hl
  refine lv_aload_n hx hb dL_neighbour_0 rfl (lv_at hl 3 rfl) ?_
  refine lv_iconst (v := 0) hx hb dL_neighbour_1 (by decide) ?_
  refine lv_aload_n hx hb dL_neighbour_2 rfl (lv_at hl 0 rfl) ?_
  refine lv_iload_n hx hb dL_neighbour_3 rfl (lv_at hl 1 rfl) ?_
  refine lv_iload_n hx hb dL_neighbour_4 rfl (lv_at hl 2 rfl) ?_
  refine cVi (n := 2) (As := [.int 0, .int 1]) (rest := [.int 0, .ref h1]) (wr := [(h0, .inr (5, [v0, .ref h2, v1, .ref h3, v2, v3, v4, v5, v6, v7])), (h1, .inl (a0, 1, .inr (.inl f0))), (h2, .inr (0, [v8, v9, .int 2, v10, v11, v12, v13])), (h3, .inr (1, [.ref h2, v14, v15, .ref h4, v16, v17, v18, v19, v20, v21, v22, v23, v24])), (h4, .inl (a1, 48, .inl f1))]) (tr := [(a0, .long), (a1, .int)]) hx hb hml hown hg okN (cX5_neighbour_372 l D h0 h2 h3 h4 v0 v1 v2 v3 v4 v5 v6 v7 v8 v9 v10 v11 v12 v13 v14 v15 v16 v17 v18 v19 v20 v21 v22 v23 v24 f1 a1 ef1_1) (mwV k877 k878 k879 k84 k880) ⟨rfl, by decide, by decide, by decide +kernel⟩ ⟨rfl, rfl, (Nat.le_of_ble_eq_true rfl), (Nat.le_of_ble_eq_true rfl)⟩ hP hD hK hS xn [0, 2, 3, 4] [] [0, 1, 2, 3, 4] [1] [0, 1] rfl (by decide) rfl rfl (by decide) (by decide) rfl rfl (aNil hA hS) (aNil hA hS) 0 rfl rfl rfl hl.1 rfl (Nat.le_of_ble_eq_true rfl) dL_neighbour_5 ⟨(Nat.le_of_ble_eq_true rfl), (Nat.le_of_ble_eq_true rfl)⟩ (fun u H locs hφ hP hD hK hS hk => ?_)
  have hP : va_P D vwCl [(h0, .inr (5, [v0, .ref h2, v1, .ref h3, v2, v3, v4, v5, v6, v7])), (h1, .inl (a0, 1, .inr (.inl f0))), (h2, .inr (0, [v8, v9, .int 2, v10, v11, v12, v13])), (h3, .inr (1, [.ref h2, v14, v15, .ref h4, v16, v17, v18, v19, v20, v21, v22, v23, v24])), (h4, .inl (a1, 48, .inl f1))] H := hP
  have hD : va_D A [(h0, .inr (5, [v0, .ref h2, v1, .ref h3, v2, v3, v4, v5, v6, v7])), (h1, .inl (a0, 1, .inr (.inl f0))), (h2, .inr (0, [v8, v9, .int 2, v10, v11, v12, v13])), (h3, .inr (1, [.ref h2, v14, v15, .ref h4, v16, v17, v18, v19, v20, v21, v22, v23, v24])), (h4, .inl (a1, 48, .inl f1))] := hD
  have hK : va_K D vwCl [(a0, .long), (a1, .int)] s := hK
  refine W.widen (k := 0) (n := 0) (Nat.le_of_ble_eq_true rfl) (Nat.le_of_ble_eq_true rfl) ?_
  refine lv_i2l (v := 1) hx hb dL_neighbour_8 (by decide) ?_
  refine astL hx hb hK hP hD hS 1 0 rfl rfl 0 (by decide) (vin (by decide)) dL_neighbour_9 (fun H locs hP hD hS => ?_)
  have hP : va_P D vwCl [(h0, .inr (5, [v0, .ref h2, v1, .ref h3, v2, v3, v4, v5, v6, v7])), (h1, .inl (a0, 1, .inr (.inl (vp_updL f0 0 1)))), (h2, .inr (0, [v8, v9, .int 2, v10, v11, v12, v13])), (h3, .inr (1, [.ref h2, v14, v15, .ref h4, v16, v17, v18, v19, v20, v21, v22, v23, v24])), (h4, .inl (a1, 48, .inl f1))] H := hP
  have hD : va_D A [(h0, .inr (5, [v0, .ref h2, v1, .ref h3, v2, v3, v4, v5, v6, v7])), (h1, .inl (a0, 1, .inr (.inl (vp_updL f0 0 1)))), (h2, .inr (0, [v8, v9, .int 2, v10, v11, v12, v13])), (h3, .inr (1, [.ref h2, v14, v15, .ref h4, v16, v17, v18, v19, v20, v21, v22, v23, v24])), (h4, .inl (a1, 48, .inl f1))] := hD
  refine lv_goto (tgt := 17) hx hb dL_neighbour_10 (by decide) ?_
  refine lv_iconst (v := 0) hx hb dL_neighbour_17 (by decide) ?_
  exact fi hx hb hr hlocks hP hD hK hS (()) trivial rfl [0, 1, 2, 3, 4] [0, 1] rfl (by decide) rfl (Nat.le_of_ble_eq_true rfl) (Nat.le_of_ble_eq_true rfl) dL_neighbour_18
set_option maxHeartbeats 4000000 in
set_option maxRecDepth 100000 in
theorem cL_neighbour_640 (l : Launch) (D : va_G) (h0 : Nat) (h1 : Nat) (h2 : Nat) (h3 : Nat) (h4 : Nat) (v0 : Value) (v1 : Value) (v2 : Value) (v3 : Value) (v4 : Value) (v5 : Value) (v6 : Value) (v7 : Value) (f0 : Nat → Int64) (v8 : Value) (v9 : Value) (v10 : Value) (v11 : Value) (v12 : Value) (v13 : Value) (v14 : Value) (v15 : Value) (v16 : Value) (v17 : Value) (v18 : Value) (v19 : Value) (v20 : Value) (v21 : Value) (v22 : Value) (v23 : Value) (v24 : Value) (v25 : Value) (f1 : Nat → Int32) (a0 : ClassId) (a1 : ClassId) (ef1_0 : f1 0 = (-1))  : CH l yL_neighbour cL_neighbour 5 (some .int) [(0, 10, 13, 13)] { frames := 3, cells := 0, slots := 0, locals := 65 } [.ref h0, .int 1, .int 0, .ref h1] D [(h0, .inr (5, [v0, .ref h2, v1, .ref h3, v2, v3, v4, v5, v6, v7])), (h1, .inl (a0, 1, .inr (.inl f0))), (h2, .inr (0, [v8, v9, .int 2, v10, v11, v12, v13])), (h3, .inr (1, [v14, v15, v16, .ref h4, v17, v18, v19, v20, v21, v22, v23, v24, v25])), (h4, .inl (a1, 48, .inl f1))] [(a0, .long), (a1, .int)] XN [(h0, .inr (5, [v0, .ref h2, v1, .ref h3, v2, v3, v4, v5, v6, v7])), (h1, .inl (a0, 1, .inr (.inl f0))), (h2, .inr (0, [v8, v9, .int 2, v10, v11, v12, v13])), (h3, .inr (1, [v14, v15, v16, .ref h4, v17, v18, v19, v20, v21, v22, v23, v24, v25])), (h4, .inl (a1, 48, .inl f1))] (ei (fun _ : Unit => True) (fun u => 0) (fun _ => [(h0, .inr (5, [v0, .ref h2, v1, .ref h3, v2, v3, v4, v5, v6, v7])), (h1, .inl (a0, 1, .inr (.inl (vp_updL f0 0 0)))), (h2, .inr (0, [v8, v9, .int 2, v10, v11, v12, v13])), (h3, .inr (1, [v14, v15, v16, .ref h4, v17, v18, v19, v20, v21, v22, v23, v24, v25])), (h4, .inl (a1, 48, .inl f1))]) (fun u => [(a0, .long), (a1, .int)]) D) 0 0 := by
  refine CH.ofW (by decide +kernel) (Nat.le_of_ble_eq_true rfl) ?_
  intro p e s m below meth c A ls hcs htab hP hK hD hX hA hS hl
  obtain ⟨hx, hb, hr, hml, hown, hg, hlocks, hin⟩ := hcs
  have hown : s.vm.findClass RL = some m.cls := hown
  have hl : lv_has ls 5 [(0, .ref h0), (1, .int 1), (2, .int 0), (3, .ref h1)] := hl
  refine lv_aload_n hx hb dL_neighbour_0 rfl (lv_at hl 3 rfl) ?_
  refine lv_iconst (v := 0) hx hb dL_neighbour_1 (by decide) ?_
  refine lv_aload_n hx hb dL_neighbour_2 rfl (lv_at hl 0 rfl) ?_
  refine lv_iload_n hx hb dL_neighbour_3 rfl (lv_at hl 1 rfl) ?_
  refine lv_iload_n hx hb dL_neighbour_4 rfl (lv_at hl 2 rfl) ?_
  refine cVi (n := 2) (As := [.int 1, .int 0]) (rest := [.int 0, .ref h1]) (wr := [(h0, .inr (5, [v0, .ref h2, v1, .ref h3, v2, v3, v4, v5, v6, v7])), (h1, .inl (a0, 1, .inr (.inl f0))), (h2, .inr (0, [v8, v9, .int 2, v10, v11, v12, v13])), (h3, .inr (1, [v14, v15, v16, .ref h4, v17, v18, v19, v20, v21, v22, v23, v24, v25])), (h4, .inl (a1, 48, .inl f1))]) (tr := [(a0, .long), (a1, .int)]) hx hb hml hown hg okN (cX5_neighbour_374 l D h0 h2 h3 h4 v0 v1 v2 v3 v4 v5 v6 v7 v8 v9 v10 v11 v12 v13 v14 v15 v16 v17 v18 v19 v20 v21 v22 v23 v24 v25 f1 a1 ef1_0) (mwV k877 k878 k879 k84 k880) ⟨rfl, by decide, by decide, by decide +kernel⟩ ⟨rfl, rfl, (Nat.le_of_ble_eq_true rfl), (Nat.le_of_ble_eq_true rfl)⟩ hP hD hK hS xn [0, 2, 3, 4] [] [0, 1, 2, 3, 4] [1] [0, 1] rfl (by decide) rfl rfl (by decide) (by decide) rfl rfl (aNil hA hS) (aNil hA hS) 0 rfl rfl rfl hl.1 rfl (Nat.le_of_ble_eq_true rfl) dL_neighbour_5 ⟨(Nat.le_of_ble_eq_true rfl), (Nat.le_of_ble_eq_true rfl)⟩ (fun u H locs hφ hP hD hK hS hk => ?_)
  have hP : va_P D vwCl [(h0, .inr (5, [v0, .ref h2, v1, .ref h3, v2, v3, v4, v5, v6, v7])), (h1, .inl (a0, 1, .inr (.inl f0))), (h2, .inr (0, [v8, v9, .int 2, v10, v11, v12, v13])), (h3, .inr (1, [v14, v15, v16, .ref h4, v17, v18, v19, v20, v21, v22, v23, v24, v25])), (h4, .inl (a1, 48, .inl f1))] H := hP
  have hD : va_D A [(h0, .inr (5, [v0, .ref h2, v1, .ref h3, v2, v3, v4, v5, v6, v7])), (h1, .inl (a0, 1, .inr (.inl f0))), (h2, .inr (0, [v8, v9, .int 2, v10, v11, v12, v13])), (h3, .inr (1, [v14, v15, v16, .ref h4, v17, v18, v19, v20, v21, v22, v23, v24, v25])), (h4, .inl (a1, 48, .inl f1))] := hD
  have hK : va_K D vwCl [(a0, .long), (a1, .int)] s := hK
  refine W.widen (k := 0) (n := 0) (Nat.le_of_ble_eq_true rfl) (Nat.le_of_ble_eq_true rfl) ?_
  refine lv_i2l (v := 0) hx hb dL_neighbour_8 (by decide) ?_
  refine astL hx hb hK hP hD hS 1 0 rfl rfl 0 (by decide) (vin (by decide)) dL_neighbour_9 (fun H locs hP hD hS => ?_)
  have hP : va_P D vwCl [(h0, .inr (5, [v0, .ref h2, v1, .ref h3, v2, v3, v4, v5, v6, v7])), (h1, .inl (a0, 1, .inr (.inl (vp_updL f0 0 0)))), (h2, .inr (0, [v8, v9, .int 2, v10, v11, v12, v13])), (h3, .inr (1, [v14, v15, v16, .ref h4, v17, v18, v19, v20, v21, v22, v23, v24, v25])), (h4, .inl (a1, 48, .inl f1))] H := hP
  have hD : va_D A [(h0, .inr (5, [v0, .ref h2, v1, .ref h3, v2, v3, v4, v5, v6, v7])), (h1, .inl (a0, 1, .inr (.inl (vp_updL f0 0 0)))), (h2, .inr (0, [v8, v9, .int 2, v10, v11, v12, v13])), (h3, .inr (1, [v14, v15, v16, .ref h4, v17, v18, v19, v20, v21, v22, v23, v24, v25])), (h4, .inl (a1, 48, .inl f1))] := hD
  refine lv_goto (tgt := 17) hx hb dL_neighbour_10 (by decide) ?_
  refine lv_iconst (v := 0) hx hb dL_neighbour_17 (by decide) ?_
  exact fi hx hb hr hlocks hP hD hK hS (()) trivial rfl [0, 1, 2, 3, 4] [0, 1] rfl (by decide) rfl (Nat.le_of_ble_eq_true rfl) (Nat.le_of_ble_eq_true rfl) dL_neighbour_18
set_option maxHeartbeats 4000000 in
set_option maxRecDepth 100000 in
theorem cL_neighbour_641 (l : Launch) (D : va_G) (h0 : Nat) (h1 : Nat) (h2 : Nat) (h3 : Nat) (v0 : Value) (v1 : Value) (v2 : Value) (v3 : Value) (v4 : Value) (v5 : Value) (v6 : Value) (v7 : Value) (f0 : Nat → Int64) (v8 : Value) (v9 : Value) (v10 : Value) (v11 : Value) (v12 : Value) (v13 : Value) (v14 : Value) (v15 : Value) (v16 : Value) (v17 : Value) (v18 : Value) (v19 : Value) (v20 : Value) (v21 : Value) (v22 : Value) (v23 : Value) (v24 : Value) (v25 : Value) (a0 : ClassId)   : CH l yL_neighbour cL_neighbour 5 (some .int) [(0, 10, 13, 13)] { frames := 2, cells := 0, slots := 0, locals := 44 } [.ref h0, .int 1, .int 1, .ref h1] D [(h0, .inr (5, [v0, .ref h2, v1, .ref h3, v2, v3, v4, v5, v6, v7])), (h1, .inl (a0, 1, .inr (.inl f0))), (h2, .inr (0, [v8, v9, .int 2, v10, v11, v12, v13])), (h3, .inr (1, [.ref h2, v14, v15, v16, v17, v18, v19, v20, v21, v22, v23, v24, v25]))] [(a0, .long)] XN [(h0, .inr (5, [v0, .ref h2, v1, .ref h3, v2, v3, v4, v5, v6, v7])), (h1, .inl (a0, 1, .inr (.inl f0))), (h2, .inr (0, [v8, v9, .int 2, v10, v11, v12, v13])), (h3, .inr (1, [.ref h2, v14, v15, v16, v17, v18, v19, v20, v21, v22, v23, v24, v25]))] (ei (fun _ : Unit => True) (fun u => 0) (fun _ => [(h0, .inr (5, [v0, .ref h2, v1, .ref h3, v2, v3, v4, v5, v6, v7])), (h1, .inl (a0, 1, .inr (.inl (vp_updL f0 0 (-1))))), (h2, .inr (0, [v8, v9, .int 2, v10, v11, v12, v13])), (h3, .inr (1, [.ref h2, v14, v15, v16, v17, v18, v19, v20, v21, v22, v23, v24, v25]))]) (fun u => [(a0, .long)]) D) 0 0 := by
  refine CH.ofW (by decide +kernel) (Nat.le_of_ble_eq_true rfl) ?_
  intro p e s m below meth c A ls hcs htab hP hK hD hX hA hS hl
  obtain ⟨hx, hb, hr, hml, hown, hg, hlocks, hin⟩ := hcs
  have hown : s.vm.findClass RL = some m.cls := hown
  have hl : lv_has ls 5 [(0, .ref h0), (1, .int 1), (2, .int 1), (3, .ref h1)] := hl
  refine lv_aload_n hx hb dL_neighbour_0 rfl (lv_at hl 3 rfl) ?_
  refine lv_iconst (v := 0) hx hb dL_neighbour_1 (by decide) ?_
  refine lv_aload_n hx hb dL_neighbour_2 rfl (lv_at hl 0 rfl) ?_
  refine lv_iload_n hx hb dL_neighbour_3 rfl (lv_at hl 1 rfl) ?_
  refine lv_iload_n hx hb dL_neighbour_4 rfl (lv_at hl 2 rfl) ?_
  refine cVi (n := 2) (As := [.int 1, .int 1]) (rest := [.int 0, .ref h1]) (wr := [(h0, .inr (5, [v0, .ref h2, v1, .ref h3, v2, v3, v4, v5, v6, v7])), (h1, .inl (a0, 1, .inr (.inl f0))), (h2, .inr (0, [v8, v9, .int 2, v10, v11, v12, v13])), (h3, .inr (1, [.ref h2, v14, v15, v16, v17, v18, v19, v20, v21, v22, v23, v24, v25]))]) (tr := [(a0, .long)]) hx hb hml hown hg okN (cX5_neighbour_376 l D h0 h2 h3 v0 v1 v2 v3 v4 v5 v6 v7 v8 v9 v10 v11 v12 v13 v14 v15 v16 v17 v18 v19 v20 v21 v22 v23 v24 v25) (mwV k877 k878 k879 k84 k880) ⟨rfl, by decide, by decide, by decide +kernel⟩ ⟨rfl, rfl, (Nat.le_of_ble_eq_true rfl), (Nat.le_of_ble_eq_true rfl)⟩ hP hD hK hS xn [0, 2, 3] [] [0, 1, 2, 3] [] [0] rfl (by decide) rfl rfl (by decide) (by decide) rfl rfl (aNil hA hS) (aNil hA hS) 0 rfl rfl rfl hl.1 rfl (Nat.le_of_ble_eq_true rfl) dL_neighbour_5 ⟨(Nat.le_of_ble_eq_true rfl), (Nat.le_of_ble_eq_true rfl)⟩ (fun u H locs hφ hP hD hK hS hk => ?_)
  have hP : va_P D vwCl [(h0, .inr (5, [v0, .ref h2, v1, .ref h3, v2, v3, v4, v5, v6, v7])), (h1, .inl (a0, 1, .inr (.inl f0))), (h2, .inr (0, [v8, v9, .int 2, v10, v11, v12, v13])), (h3, .inr (1, [.ref h2, v14, v15, v16, v17, v18, v19, v20, v21, v22, v23, v24, v25]))] H := hP
  have hD : va_D A [(h0, .inr (5, [v0, .ref h2, v1, .ref h3, v2, v3, v4, v5, v6, v7])), (h1, .inl (a0, 1, .inr (.inl f0))), (h2, .inr (0, [v8, v9, .int 2, v10, v11, v12, v13])), (h3, .inr (1, [.ref h2, v14, v15, v16, v17, v18, v19, v20, v21, v22, v23, v24, v25]))] := hD
  have hK : va_K D vwCl [(a0, .long)] s := hK
  refine W.widen (k := 0) (n := 0) (Nat.le_of_ble_eq_true rfl) (Nat.le_of_ble_eq_true rfl) ?_
  refine lv_i2l (v := (-1)) hx hb dL_neighbour_8 (by decide) ?_
  refine astL hx hb hK hP hD hS 1 0 rfl rfl 0 (by decide) (vin (by decide)) dL_neighbour_9 (fun H locs hP hD hS => ?_)
  have hP : va_P D vwCl [(h0, .inr (5, [v0, .ref h2, v1, .ref h3, v2, v3, v4, v5, v6, v7])), (h1, .inl (a0, 1, .inr (.inl (vp_updL f0 0 (-1))))), (h2, .inr (0, [v8, v9, .int 2, v10, v11, v12, v13])), (h3, .inr (1, [.ref h2, v14, v15, v16, v17, v18, v19, v20, v21, v22, v23, v24, v25]))] H := hP
  have hD : va_D A [(h0, .inr (5, [v0, .ref h2, v1, .ref h3, v2, v3, v4, v5, v6, v7])), (h1, .inl (a0, 1, .inr (.inl (vp_updL f0 0 (-1))))), (h2, .inr (0, [v8, v9, .int 2, v10, v11, v12, v13])), (h3, .inr (1, [.ref h2, v14, v15, v16, v17, v18, v19, v20, v21, v22, v23, v24, v25]))] := hD
  refine lv_goto (tgt := 17) hx hb dL_neighbour_10 (by decide) ?_
  refine lv_iconst (v := 0) hx hb dL_neighbour_17 (by decide) ?_
  exact fi hx hb hr hlocks hP hD hK hS (()) trivial rfl [0, 1, 2, 3] [0] rfl (by decide) rfl (Nat.le_of_ble_eq_true rfl) (Nat.le_of_ble_eq_true rfl) dL_neighbour_18
set_option maxHeartbeats 4000000 in
set_option maxRecDepth 100000 in
theorem cL_neighbour_642 (l : Launch) (D : va_G) (hlt : l.stackTraces = false) (h0 : Nat) (x0 : Int32) (h1 : Nat) (h2 : Nat) (v0 : Value) (v1 : Value) (v2 : Value) (v3 : Value) (v4 : Value) (v5 : Value) (v6 : Value) (v7 : Value) (v8 : Value) (v9 : Value) (v10 : Value) (v11 : Value) (v12 : Value) (v13 : Value) (v14 : Value)  (d0 : ¬ (x0 < 0)) (d1 : ¬ (x0 < 2)) : CH l yL_neighbour cL_neighbour 5 (some .int) [(0, 10, 13, 13)] { frames := 8, cells := 1, slots := 6, locals := 133 } [.ref h0, .int x0, .int 0, .ref h1] D [(h0, .inr (5, [v0, .ref h2, v1, v2, v3, v4, v5, v6, v7, v8])), (h2, .inr (0, [v9, v10, .int 2, v11, v12, v13, v14]))] [] XX [] (ei (fun _ : Unit => True) (fun _ => 1) (fun _ => []) (fun _ => []) D) 1 6 := by
  refine CH.ofR (by decide +kernel) (Nat.le_of_ble_eq_true rfl) ?_
  intro p e s m below meth c A ls hcs htab hP hK hD hX hA hS hl
  obtain ⟨hx, hb, hr, hml, hown, hg, hlocks, hin⟩ := hcs
  have hown : s.vm.findClass RL = some m.cls := hown
  have hl : lv_has ls 5 [(0, .ref h0), (1, .int x0), (2, .int 0), (3, .ref h1)] := hl
  refine lv_aload_n hx hb dL_neighbour_0 rfl (lv_at hl 3 rfl) ?_
  refine lv_iconst (v := 0) hx hb dL_neighbour_1 (by decide) ?_
  refine lv_aload_n hx hb dL_neighbour_2 rfl (lv_at hl 0 rfl) ?_
  refine lv_iload_n hx hb dL_neighbour_3 rfl (lv_at hl 1 rfl) ?_
  refine lv_iload_n hx hb dL_neighbour_4 rfl (lv_at hl 2 rfl) ?_
  refine hVi (n := 2) (As := [.int x0, .int 0]) (rest := [.int 0, .ref h1]) hx hb hml hown hg okXX (cX5_neighbour_378 l D hlt h0 x0 h2 v0 v1 v2 v3 v4 v5 v6 v7 v8 v9 v10 v11 v12 v13 v14 d0 d1) (mwV k877 k878 k879 k84 k880) ⟨rfl, by decide, by decide, by decide +kernel⟩ ⟨rfl, rfl, (Nat.le_of_ble_eq_true rfl), (Nat.le_of_ble_eq_true rfl)⟩ hP hD hK hS (okXX.2.2 _ _ _ _ hS.2.1 hX) [0, 1] [] rfl (by decide) rfl (aNil hA hS) 0 rfl rfl rfl hl.1 rfl (Nat.le_of_ble_eq_true rfl) dL_neighbour_5 ⟨(Nat.le_of_ble_eq_true rfl), (Nat.le_of_ble_eq_true rfl)⟩ [] { startPc := 0, endPc := 10, handlerPc := 13, catchType := 13 } [] (htab.trans rfl) (fun z hz => nomatch hz) (by decide) (by decide) (hg _ k605) (XX_cIOOBE hX) (fun q9 H locs hS hk => ?_)
  have hP : va_P D vwCl [] H := pNil
  have hD : va_D (fun _ => True) [] := dNil
  have hK : va_K D vwCl [] s := hK.sub [] rfl
  refine W.widen (k := 1) (n := 6) (Nat.le_of_ble_eq_true rfl) (Nat.le_of_ble_eq_true rfl) ?_
  refine lv_astore (lv' := [(4, .ref q9), (0, .ref h0), (1, .int x0), (2, .int 0), (3, .ref h1)]) hx hb dL_neighbour_13 hl (by decide) rfl (fun ls hl => ?_)
  refine lv_iconst (v := 1) hx hb dL_neighbour_15 (by decide) ?_
  exact fi0 hx hb hr hlocks hK hS (Nat.le_of_ble_eq_true rfl) (Nat.le_of_ble_eq_true rfl) dL_neighbour_16
set_option maxHeartbeats 4000000 in
set_option maxRecDepth 100000 in
theorem cL_neighbour_643 (l : Launch) (D : va_G) (hlt : l.stackTraces = false) (h0 : Nat) (x0 : Int32) (h1 : Nat) (h2 : Nat) (v0 : Value) (v1 : Value) (v2 : Value) (v3 : Value) (v4 : Value) (v5 : Value) (v6 : Value) (v7 : Value) (v8 : Value) (v9 : Value) (v10 : Value) (v11 : Value) (v12 : Value) (v13 : Value) (v14 : Value)  (d0 : ¬ (x0 < 0)) (d1 : ¬ (x0 < 2)) : CH l yL_neighbour cL_neighbour 5 (some .int) [(0, 10, 13, 13)] { frames := 8, cells := 1, slots := 6, locals := 133 } [.ref h0, .int x0, .int 1, .ref h1] D [(h0, .inr (5, [v0, .ref h2, v1, v2, v3, v4, v5, v6, v7, v8])), (h2, .inr (0, [v9, v10, .int 2, v11, v12, v13, v14]))] [] XX [] (ei (fun _ : Unit => True) (fun _ => 1) (fun _ => []) (fun _ => []) D) 1 6 := by
  refine CH.ofR (by decide +kernel) (Nat.le_of_ble_eq_true rfl) ?_
  intro p e s m below meth c A ls hcs htab hP hK hD hX hA hS hl
  obtain ⟨hx, hb, hr, hml, hown, hg, hlocks, hin⟩ := hcs
  have hown : s.vm.findClass RL = some m.cls := hown
  have hl : lv_has ls 5 [(0, .ref h0), (1, .int x0), (2, .int 1), (3, .ref h1)] := hl
  refine lv_aload_n hx hb dL_neighbour_0 rfl (lv_at hl 3 rfl) ?_
  refine lv_iconst (v := 0) hx hb dL_neighbour_1 (by decide) ?_
  refine lv_aload_n hx hb dL_neighbour_2 rfl (lv_at hl 0 rfl) ?_
  refine lv_iload_n hx hb dL_neighbour_3 rfl (lv_at hl 1 rfl) ?_
  refine lv_iload_n hx hb dL_neighbour_4 rfl (lv_at hl 2 rfl) ?_
  refine hVi (n := 2) (As := [.int x0, .int 1]) (rest := [.int 0, .ref h1]) hx hb hml hown hg okXX (cX5_neighbour_379 l D hlt h0 x0 h2 v0 v1 v2 v3 v4 v5 v6 v7 v8 v9 v10 v11 v12 v13 v14 d0 d1) (mwV k877 k878 k879 k84 k880) ⟨rfl, by decide, by decide, by decide +kernel⟩ ⟨rfl, rfl, (Nat.le_of_ble_eq_true rfl), (Nat.le_of_ble_eq_true rfl)⟩ hP hD hK hS (okXX.2.2 _ _ _ _ hS.2.1 hX) [0, 1] [] rfl (by decide) rfl (aNil hA hS) 0 rfl rfl rfl hl.1 rfl (Nat.le_of_ble_eq_true rfl) dL_neighbour_5 ⟨(Nat.le_of_ble_eq_true rfl), (Nat.le_of_ble_eq_true rfl)⟩ [] { startPc := 0, endPc := 10, handlerPc := 13, catchType := 13 } [] (htab.trans rfl) (fun z hz => nomatch hz) (by decide) (by decide) (hg _ k605) (XX_cIOOBE hX) (fun q9 H locs hS hk => ?_)
  have hP : va_P D vwCl [] H := pNil
  have hD : va_D (fun _ => True) [] := dNil
  have hK : va_K D vwCl [] s := hK.sub [] rfl
  refine W.widen (k := 1) (n := 6) (Nat.le_of_ble_eq_true rfl) (Nat.le_of_ble_eq_true rfl) ?_
  refine lv_astore (lv' := [(4, .ref q9), (0, .ref h0), (1, .int x0), (2, .int 1), (3, .ref h1)]) hx hb dL_neighbour_13 hl (by decide) rfl (fun ls hl => ?_)
  refine lv_iconst (v := 1) hx hb dL_neighbour_15 (by decide) ?_
  exact fi0 hx hb hr hlocks hK hS (Nat.le_of_ble_eq_true rfl) (Nat.le_of_ble_eq_true rfl) dL_neighbour_16
set_option maxHeartbeats 4000000 in
set_option maxRecDepth 100000 in
theorem cL_step_644 (l : Launch) (D : va_G) (hlt : l.stackTraces = false) (h0 : Nat) (x0 : Int32) (x1 : Int32) (h1 : Nat) (h2 : Nat) (v0 : Value) (v1 : Value) (v2 : Value) (v3 : Value) (v4 : Value) (v5 : Value) (v6 : Value) (v7 : Value) (v8 : Value) (v9 : Value) (v10 : Value) (v11 : Value) (v12 : Value) (v13 : Value) (v14 : Value) (v15 : Value) (v16 : Value) (v17 : Value) (v18 : Value) (v19 : Value) (v20 : Value)  (d0 : x0 < 0) : CH l yL_step cL_step 5 (some .int) [(0, 9, 12, 13), (0, 9, 16, 19)] { frames := 8, cells := 1, slots := 6, locals := 134 } [.ref h0, .int x0, .int x1, .ref h1] D [(h0, .inr (5, [v0, v1, v2, .ref h2, v3, v4, v5, v6, v7, v8])), (h2, .inr (1, [v9, v10, v11, v12, v13, .int 0, v14, v15, v16, v17, v18, v19, v20]))] [] XX [] (ei (fun _ : Unit => True) (fun _ => 1) (fun _ => []) (fun _ => []) D) 1 6 := by
  refine CH.ofR (by decide +kernel) (Nat.le_of_ble_eq_true rfl) ?_
  intro p e s m below meth c A ls hcs htab hP hK hD hX hA hS hl
  obtain ⟨hx, hb, hr, hml, hown, hg, hlocks, hin⟩ := hcs
  have hown : s.vm.findClass RL = some m.cls := hown
  have hl : lv_has ls 5 [(0, .ref h0), (1, .int x0), (2, .int x1), (3, .ref h1)] := hl
  refine lv_aload_n hx hb dL_step_0 rfl (lv_at hl 3 rfl) ?_
  refine lv_iconst (v := 0) hx hb dL_step_1 (by decide) ?_
  refine lv_aload_n hx hb dL_step_2 rfl (lv_at hl 0 rfl) ?_
  refine lv_iload_n hx hb dL_step_3 rfl (lv_at hl 1 rfl) ?_
  refine lv_iload_n hx hb dL_step_4 rfl (lv_at hl 2 rfl) ?_
  refine hVl (n := 2) (As := [.int x0, .int x1]) (rest := [.int 0, .ref h1]) hx hb hml hown hg okXX (cX5_step_380 l D hlt h0 x0 x1 h2 v0 v1 v2 v3 v4 v5 v6 v7 v8 v9 v10 v11 v12 v13 v14 v15 v16 v17 v18 v19 v20 d0) (mwV k886 k887 k888 k84 k889) ⟨rfl, by decide, by decide, by decide +kernel⟩ ⟨rfl, rfl, (Nat.le_of_ble_eq_true rfl), (Nat.le_of_ble_eq_true rfl)⟩ hP hD hK hS (okXX.2.2 _ _ _ _ hS.2.1 hX) [0, 1] [] rfl (by decide) rfl (aNil hA hS) 0 rfl rfl rfl hl.1 rfl (Nat.le_of_ble_eq_true rfl) dL_step_5 ⟨(Nat.le_of_ble_eq_true rfl), (Nat.le_of_ble_eq_true rfl)⟩ [] { startPc := 0, endPc := 9, handlerPc := 12, catchType := 13 } [{ startPc := 0, endPc := 9, handlerPc := 16, catchType := 19 }] (htab.trans rfl) (fun z hz => nomatch hz) (by decide) (by decide) (hg _ k605) (XX_cIOOBE hX) (fun q9 H locs hS hk => ?_)
  have hP : va_P D vwCl [] H := pNil
  have hD : va_D (fun _ => True) [] := dNil
  have hK : va_K D vwCl [] s := hK.sub [] rfl
  refine W.widen (k := 1) (n := 6) (Nat.le_of_ble_eq_true rfl) (Nat.le_of_ble_eq_true rfl) ?_
  refine lv_astore (lv' := [(4, .ref q9), (0, .ref h0), (1, .int x0), (2, .int x1), (3, .ref h1)]) hx hb dL_step_12 hl (by decide) rfl (fun ls hl => ?_)
  refine lv_iconst (v := 1) hx hb dL_step_14 (by decide) ?_
  exact fi0 hx hb hr hlocks hK hS (Nat.le_of_ble_eq_true rfl) (Nat.le_of_ble_eq_true rfl) dL_step_15
set_option maxHeartbeats 4000000 in
set_option maxRecDepth 100000 in
theorem cL_step_645 (l : Launch) (D : va_G) (hlt : l.stackTraces = false) (h0 : Nat) (x0 : Int32) (x1 : Int32) (h1 : Nat) (h2 : Nat) (v0 : Value) (v1 : Value) (v2 : Value) (v3 : Value) (v4 : Value) (v5 : Value) (v6 : Value) (v7 : Value) (v8 : Value) (v9 : Value) (v10 : Value) (v11 : Value) (v12 : Value) (v13 : Value) (v14 : Value) (v15 : Value) (v16 : Value) (v17 : Value) (v18 : Value) (v19 : Value) (v20 : Value)  (d0 : ¬ (x0 < 0)) : CH l yL_step cL_step 5 (some .int) [(0, 9, 12, 13), (0, 9, 16, 19)] { frames := 8, cells := 1, slots := 6, locals := 134 } [.ref h0, .int x0, .int x1, .ref h1] D [(h0, .inr (5, [v0, v1, v2, .ref h2, v3, v4, v5, v6, v7, v8])), (h2, .inr (1, [v9, v10, v11, v12, v13, .int 0, v14, v15, v16, v17, v18, v19, v20]))] [] XX [] (ei (fun _ : Unit => True) (fun _ => 1) (fun _ => []) (fun _ => []) D) 1 6 := by
  refine CH.ofR (by decide +kernel) (Nat.le_of_ble_eq_true rfl) ?_
  intro p e s m below meth c A ls hcs htab hP hK hD hX hA hS hl
  obtain ⟨hx, hb, hr, hml, hown, hg, hlocks, hin⟩ := hcs
  have hown : s.vm.findClass RL = some m.cls := hown
  have hl : lv_has ls 5 [(0, .ref h0), (1, .int x0), (2, .int x1), (3, .ref h1)] := hl
  refine lv_aload_n hx hb dL_step_0 rfl (lv_at hl 3 rfl) ?_
  refine lv_iconst (v := 0) hx hb dL_step_1 (by decide) ?_
  refine lv_aload_n hx hb dL_step_2 rfl (lv_at hl 0 rfl) ?_
  refine lv_iload_n hx hb dL_step_3 rfl (lv_at hl 1 rfl) ?_
  refine lv_iload_n hx hb dL_step_4 rfl (lv_at hl 2 rfl) ?_
  refine hVl (n := 2) (As := [.int x0, .int x1]) (rest := [.int 0, .ref h1]) hx hb hml hown hg okXX (cX5_step_382 l D hlt h0 x0 x1 h2 v0 v1 v2 v3 v4 v5 v6 v7 v8 v9 v10 v11 v12 v13 v14 v15 v16 v17 v18 v19 v20 d0) (mwV k886 k887 k888 k84 k889) ⟨rfl, by decide, by decide, by decide +kernel⟩ ⟨rfl, rfl, (Nat.le_of_ble_eq_true rfl), (Nat.le_of_ble_eq_true rfl)⟩ hP hD hK hS (okXX.2.2 _ _ _ _ hS.2.1 hX) [0, 1] [] rfl (by decide) rfl (aNil hA hS) 0 rfl rfl rfl hl.1 rfl (Nat.le_of_ble_eq_true rfl) dL_step_5 ⟨(Nat.le_of_ble_eq_true rfl), (Nat.le_of_ble_eq_true rfl)⟩ [] { startPc := 0, endPc := 9, handlerPc := 12, catchType := 13 } [{ startPc := 0, endPc := 9, handlerPc := 16, catchType := 19 }] (htab.trans rfl) (fun z hz => nomatch hz) (by decide) (by decide) (hg _ k605) (XX_cIOOBE hX) (fun q9 H locs hS hk => ?_)
  have hP : va_P D vwCl [] H := pNil
  have hD : va_D (fun _ => True) [] := dNil
  have hK : va_K D vwCl [] s := hK.sub [] rfl
  refine W.widen (k := 1) (n := 6) (Nat.le_of_ble_eq_true rfl) (Nat.le_of_ble_eq_true rfl) ?_
  refine lv_astore (lv' := [(4, .ref q9), (0, .ref h0), (1, .int x0), (2, .int x1), (3, .ref h1)]) hx hb dL_step_12 hl (by decide) rfl (fun ls hl => ?_)
  refine lv_iconst (v := 1) hx hb dL_step_14 (by decide) ?_
  exact fi0 hx hb hr hlocks hK hS (Nat.le_of_ble_eq_true rfl) (Nat.le_of_ble_eq_true rfl) dL_step_15
set_option maxHeartbeats 4000000 in
set_option maxRecDepth 100000 in
theorem cL_valueAt_646 (l : Launch) (D : va_G) (hlt : l.stackTraces = false) (h0 : Nat) (x0 : Int32) (h1 : Nat) (h2 : Nat) (h3 : Nat) (v0 : Value) (v1 : Value) (v2 : Value) (v3 : Value) (v4 : Value) (v5 : Value) (v6 : Value) (v7 : Value) (v8 : Value) (v9 : Value) (v10 : Value) (v11 : Value) (v12 : Value) (v13 : Value) (v14 : Value) (f0 : Nat → Int32) (a0 : ClassId) (ef0_0 : f0 0 = 0) (d0 : x0 < 0) : CH l yL_valueAt cL_valueAt 4 (some .int) [(0, 8, 11, 13)] { frames := 7, cells := 1, slots := 6, locals := 111 } [.ref h0, .int x0, .ref h1] D [(h0, .inr (5, [v0, .ref h2, v1, v2, v3, v4, v5, v6, v7, v8])), (h2, .inr (0, [.ref h3, v9, v10, v11, v12, v13, v14])), (h3, .inl (a0, 48, .inl f0))] [(a0, .int)] XX [] (ei (fun _ : Unit => True) (fun _ => 1) (fun _ => []) (fun _ => []) D) 1 6 := by
  refine CH.ofR (by decide +kernel) (Nat.le_of_ble_eq_true rfl) ?_
  intro p e s m below meth c A ls hcs htab hP hK hD hX hA hS hl
  obtain ⟨hx, hb, hr, hml, hown, hg, hlocks, hin⟩ := hcs
  have hown : s.vm.findClass RL = some m.cls := hown
  have hl : lv_has ls 4 [(0, .ref h0), (1, .int x0), (2, .ref h1)] := hl
  refine lv_aload_n hx hb dL_valueAt_0 rfl (lv_at hl 2 rfl) ?_
  refine lv_iconst (v := 0) hx hb dL_valueAt_1 (by decide) ?_
  refine lv_aload_n hx hb dL_valueAt_2 rfl (lv_at hl 0 rfl) ?_
  refine lv_iload_n hx hb dL_valueAt_3 rfl (lv_at hl 1 rfl) ?_
  refine hVl (n := 1) (As := [.int x0]) (rest := [.int 0, .ref h1]) hx hb hml hown hg okXX (cX5_valueAt_384 l D hlt h0 x0 h2 h3 v0 v1 v2 v3 v4 v5 v6 v7 v8 v9 v10 v11 v12 v13 v14 f0 a0 ef0_0 d0) (mwV k893 k894 k895 k84 k896) ⟨rfl, by decide, by decide, by decide +kernel⟩ ⟨rfl, rfl, (Nat.le_of_ble_eq_true rfl), (Nat.le_of_ble_eq_true rfl)⟩ hP hD hK hS (okXX.2.2 _ _ _ _ hS.2.1 hX) [0, 1, 2] [0] rfl (by decide) rfl (aNil hA hS) 0 rfl rfl rfl hl.1 rfl (Nat.le_of_ble_eq_true rfl) dL_valueAt_4 ⟨(Nat.le_of_ble_eq_true rfl), (Nat.le_of_ble_eq_true rfl)⟩ [] { startPc := 0, endPc := 8, handlerPc := 11, catchType := 13 } [] (htab.trans rfl) (fun z hz => nomatch hz) (by decide) (by decide) (hg _ k605) (XX_cIOOBE hX) (fun q9 H locs hS hk => ?_)
  have hP : va_P D vwCl [] H := pNil
  have hD : va_D (fun _ => True) [] := dNil
  have hK : va_K D vwCl [] s := hK.sub [] rfl
  refine W.widen (k := 1) (n := 6) (Nat.le_of_ble_eq_true rfl) (Nat.le_of_ble_eq_true rfl) ?_
  refine lv_astore_n (lv' := [(3, .ref q9), (0, .ref h0), (1, .int x0), (2, .ref h1)]) hx hb dL_valueAt_11 rfl hl (by decide) rfl (fun ls hl => ?_)
  refine lv_iconst (v := 1) hx hb dL_valueAt_12 (by decide) ?_
  exact fi0 hx hb hr hlocks hK hS (Nat.le_of_ble_eq_true rfl) (Nat.le_of_ble_eq_true rfl) dL_valueAt_13
set_option maxHeartbeats 4000000 in
set_option maxRecDepth 100000 in
theorem cL_valueAt_647 (l : Launch) (D : va_G) (h0 : Nat) (h1 : Nat) (h2 : Nat) (h3 : Nat) (h4 : Nat) (h5 : Nat) (h6 : Nat) (h7 : Nat) (h8 : Nat) (h9 : Nat) (h10 : Nat) (h11 : Nat) (h12 : Nat) (v0 : Value) (v1 : Value) (v2 : Value) (v3 : Value) (v4 : Value) (v5 : Value) (v6 : Value) (v7 : Value) (f0 : Nat → Int64) (v8 : Value) (v9 : Value) (v10 : Value) (v11 : Value) (v12 : Value) (f1 : Nat → Int32) (v13 : Value) (v14 : Value) (v15 : Value) (v16 : Value) (v17 : Value) (v18 : Value) (v19 : Value) (v20 : Value) (v21 : Value) (f2 : Nat → Int32) (f3 : Nat → Option Nat) (v22 : Value) (v23 : Value) (f4 : Nat → Int32) (f5 : Nat → Int32) (f6 : Nat → Int32) (a0 : ClassId) (a1 : ClassId) (a2 : ClassId) (a3 : ClassId) (a4 : ClassId) (a5 : ClassId) (a6 : ClassId) (ef1_0 : f1 0 = 0) (ef1_1 : f1 1 = 1) (ef2_1 : f2 1 = (-1)) (ef3_0 : f3 0 = some h11) (ef3_1 : f3 1 = some h8) (ef4_0 : f4 0 = 0) (ef6_0 : f6 0 = 0)  : CH l yL_valueAt cL_valueAt 4 (some .int) [(0, 8, 11, 13)] { frames := 5, cells := 0, slots := 0, locals := 119 } [.ref h0, .int 0, .ref h1] D [(h0, .inr (5, [v0, .ref h2, v1, .ref h4, v2, v3, v4, v5, v6, v7])), (h1, .inl (a0, 1, .inr (.inl f0))), (h2, .inr (0, [.ref h3, v8, .int 2, v9, v10, v11, v12])), (h3, .inl (a1, 48, .inl f1)), (h4, .inr (1, [.ref h2, .ref h6, v13, .ref h5, v14, v15, v16, v17, v18, v19, v20, v21, .ref h7])), (h5, .inl (a2, 48, .inl f2)), (h6, .inl (a3, 48, .inr (.inr (.inr (.inr f3))))), (h7, .inr (4, [.ref h10, v22, v23])), (h8, .inr (4, [.ref h9, .int 0, .int 0])), (h9, .inl (a4, 2, .inl f4)), (h10, .inl (a5, 2, .inl f5)), (h11, .inr (4, [.ref h12, .int 0, .int 0])), (h12, .inl (a6, 2, .inl f6))] [(a0, .long), (a1, .int), (a2, .int), (a3, .object "LiftingSignal$Whole"), (a4, .int), (a5, .int), (a6, .int)] XN [(h0, .inr (5, [v0, .ref h2, v1, .ref h4, v2, v3, v4, v5, v6, v7])), (h1, .inl (a0, 1, .inr (.inl f0))), (h2, .inr (0, [.ref h3, v8, .int 2, v9, v10, v11, v12])), (h3, .inl (a1, 48, .inl f1)), (h4, .inr (1, [.ref h2, .ref h6, v13, .ref h5, v14, v15, v16, v17, v18, v19, v20, v21, .ref h7])), (h5, .inl (a2, 48, .inl f2)), (h6, .inl (a3, 48, .inr (.inr (.inr (.inr f3))))), (h7, .inr (4, [.ref h10, v22, v23])), (h8, .inr (4, [.ref h9, .int 0, .int 0])), (h9, .inl (a4, 2, .inl f4)), (h10, .inl (a5, 2, .inl f5)), (h11, .inr (4, [.ref h12, .int 0, .int 0])), (h12, .inl (a6, 2, .inl f6))] (ei (fun _ : Unit => True) (fun u => 0) (fun _ => [(h0, .inr (5, [v0, .ref h2, v1, .ref h4, v2, v3, v4, v5, v6, v7])), (h1, .inl (a0, 1, .inr (.inl (vp_updL f0 0 0)))), (h2, .inr (0, [.ref h3, v8, .int 2, v9, v10, v11, v12])), (h3, .inl (a1, 48, .inl f1)), (h4, .inr (1, [.ref h2, .ref h6, v13, .ref h5, v14, v15, v16, v17, v18, v19, v20, v21, .ref h7])), (h5, .inl (a2, 48, .inl f2)), (h6, .inl (a3, 48, .inr (.inr (.inr (.inr f3))))), (h7, .inr (4, [.ref h10, .int 0, .int 0])), (h8, .inr (4, [.ref h9, .int 0, .int 0])), (h9, .inl (a4, 2, .inl f4)), (h10, .inl (a5, 2, .inl (upd (upd (upd (upd (upd (upd (upd f5 0 0) 0 0) 1 0) 0 0) 1 0) 0 0) 1 0))), (h11, .inr (4, [.ref h12, .int 0, .int 0])), (h12, .inl (a6, 2, .inl f6))]) (fun u => [(a0, .long), (a1, .int), (a2, .int), (a3, .object "LiftingSignal$Whole"), (a4, .int), (a5, .int), (a6, .int)]) D) 0 0 := by
  refine CH.ofW (by decide +kernel) (Nat.le_of_ble_eq_true rfl) ?_
  intro p e s m below meth c A ls hcs htab hP hK hD hX hA hS hl
  obtain ⟨hx, hb, hr, hml, hown, hg, hlocks, hin⟩ := hcs
  have hown : s.vm.findClass RL = some m.cls := hown
  have hl : lv_has ls 4 [(0, .ref h0), (1, .int 0), (2, .ref h1)] := hl
  refine lv_aload_n hx hb dL_valueAt_0 rfl (lv_at hl 2 rfl) ?_
  refine lv_iconst (v := 0) hx hb dL_valueAt_1 (by decide) ?_
  refine lv_aload_n hx hb dL_valueAt_2 rfl (lv_at hl 0 rfl) ?_
  refine lv_iload_n hx hb dL_valueAt_3 rfl (lv_at hl 1 rfl) ?_
  refine cVl (n := 1) (As := [.int 0]) (rest := [.int 0, .ref h1]) (wr := [(h1, .inl (a0, 1, .inr (.inl f0)))]) (tr := [(a0, .long)]) hx hb hml hown hg okN (cX5_valueAt_385 l D h0 h2 h3 h4 h5 h6 h7 h8 h9 h10 h11 h12 v0 v1 v2 v3 v4 v5 v6 v7 v8 v9 v10 v11 v12 f1 v13 v14 v15 v16 v17 v18 v19 v20 v21 f2 f3 v22 v23 f4 f5 f6 a1 a2 a3 a4 a5 a6 ef1_0 ef1_1 ef2_1 ef3_0 ef3_1 ef4_0 ef6_0) (mwV k893 k894 k895 k84 k896) ⟨rfl, by decide, by decide, by decide +kernel⟩ ⟨rfl, rfl, (Nat.le_of_ble_eq_true rfl), (Nat.le_of_ble_eq_true rfl)⟩ hP hD hK hS xn [0, 2, 3, 4, 5, 6, 7, 8, 9, 10, 11, 12] [0, 2, 3, 4, 5, 6, 7, 8, 9, 10, 11, 12] [1] [1, 2, 3, 4, 5, 6] [0] rfl (by decide) rfl rfl (by decide) (by decide) rfl rfl (va_free hD hS hA [0, 2, 3, 4, 5, 6, 7, 8, 9, 10, 11, 12] rfl) (va_free hD hS hA [0, 2, 3, 4, 5, 6, 7, 8, 9, 10, 11, 12] rfl) 0 rfl rfl rfl hl.1 rfl (Nat.le_of_ble_eq_true rfl) dL_valueAt_4 ⟨(Nat.le_of_ble_eq_true rfl), (Nat.le_of_ble_eq_true rfl)⟩ (fun u H locs hφ hP hD hK hS hk => ?_)
  have hP : va_P D vwCl [(h1, .inl (a0, 1, .inr (.inl f0))), (h0, .inr (5, [v0, .ref h2, v1, .ref h4, v2, v3, v4, v5, v6, v7])), (h2, .inr (0, [.ref h3, v8, .int 2, v9, v10, v11, v12])), (h3, .inl (a1, 48, .inl f1)), (h4, .inr (1, [.ref h2, .ref h6, v13, .ref h5, v14, v15, v16, v17, v18, v19, v20, v21, .ref h7])), (h5, .inl (a2, 48, .inl f2)), (h6, .inl (a3, 48, .inr (.inr (.inr (.inr f3))))), (h7, .inr (4, [.ref h10, .int 0, .int 0])), (h8, .inr (4, [.ref h9, .int 0, .int 0])), (h9, .inl (a4, 2, .inl f4)), (h10, .inl (a5, 2, .inl (upd (upd (upd (upd (upd (upd (upd f5 0 0) 0 0) 1 0) 0 0) 1 0) 0 0) 1 0))), (h11, .inr (4, [.ref h12, .int 0, .int 0])), (h12, .inl (a6, 2, .inl f6))] H := hP
  have hD : va_D A [(h1, .inl (a0, 1, .inr (.inl f0))), (h0, .inr (5, [v0, .ref h2, v1, .ref h4, v2, v3, v4, v5, v6, v7])), (h2, .inr (0, [.ref h3, v8, .int 2, v9, v10, v11, v12])), (h3, .inl (a1, 48, .inl f1)), (h4, .inr (1, [.ref h2, .ref h6, v13, .ref h5, v14, v15, v16, v17, v18, v19, v20, v21, .ref h7])), (h5, .inl (a2, 48, .inl f2)), (h6, .inl (a3, 48, .inr (.inr (.inr (.inr f3))))), (h7, .inr (4, [.ref h10, .int 0, .int 0])), (h8, .inr (4, [.ref h9, .int 0, .int 0])), (h9, .inl (a4, 2, .inl f4)), (h10, .inl (a5, 2, .inl (upd (upd (upd (upd (upd (upd (upd f5 0 0) 0 0) 1 0) 0 0) 1 0) 0 0) 1 0))), (h11, .inr (4, [.ref h12, .int 0, .int 0])), (h12, .inl (a6, 2, .inl f6))] := hD
  have hK : va_K D vwCl [(a0, .long), (a1, .int), (a2, .int), (a3, .object "LiftingSignal$Whole"), (a4, .int), (a5, .int), (a6, .int)] s := hK
  refine W.widen (k := 0) (n := 0) (Nat.le_of_ble_eq_true rfl) (Nat.le_of_ble_eq_true rfl) ?_
  refine astL hx hb hK hP hD hS 0 0 rfl rfl 0 (by decide) (vin (by decide)) dL_valueAt_7 (fun H locs hP hD hS => ?_)
  have hP : va_P D vwCl [(h1, .inl (a0, 1, .inr (.inl (vp_updL f0 0 0)))), (h0, .inr (5, [v0, .ref h2, v1, .ref h4, v2, v3, v4, v5, v6, v7])), (h2, .inr (0, [.ref h3, v8, .int 2, v9, v10, v11, v12])), (h3, .inl (a1, 48, .inl f1)), (h4, .inr (1, [.ref h2, .ref h6, v13, .ref h5, v14, v15, v16, v17, v18, v19, v20, v21, .ref h7])), (h5, .inl (a2, 48, .inl f2)), (h6, .inl (a3, 48, .inr (.inr (.inr (.inr f3))))), (h7, .inr (4, [.ref h10, .int 0, .int 0])), (h8, .inr (4, [.ref h9, .int 0, .int 0])), (h9, .inl (a4, 2, .inl f4)), (h10, .inl (a5, 2, .inl (upd (upd (upd (upd (upd (upd (upd f5 0 0) 0 0) 1 0) 0 0) 1 0) 0 0) 1 0))), (h11, .inr (4, [.ref h12, .int 0, .int 0])), (h12, .inl (a6, 2, .inl f6))] H := hP
  have hD : va_D A [(h1, .inl (a0, 1, .inr (.inl (vp_updL f0 0 0)))), (h0, .inr (5, [v0, .ref h2, v1, .ref h4, v2, v3, v4, v5, v6, v7])), (h2, .inr (0, [.ref h3, v8, .int 2, v9, v10, v11, v12])), (h3, .inl (a1, 48, .inl f1)), (h4, .inr (1, [.ref h2, .ref h6, v13, .ref h5, v14, v15, v16, v17, v18, v19, v20, v21, .ref h7])), (h5, .inl (a2, 48, .inl f2)), (h6, .inl (a3, 48, .inr (.inr (.inr (.inr f3))))), (h7, .inr (4, [.ref h10, .int 0, .int 0])), (h8, .inr (4, [.ref h9, .int 0, .int 0])), (h9, .inl (a4, 2, .inl f4)), (h10, .inl (a5, 2, .inl (upd (upd (upd (upd (upd (upd (upd f5 0 0) 0 0) 1 0) 0 0) 1 0) 0 0) 1 0))), (h11, .inr (4, [.ref h12, .int 0, .int 0])), (h12, .inl (a6, 2, .inl f6))] := hD
  refine lv_goto (tgt := 14) hx hb dL_valueAt_8 (by decide) ?_
  refine lv_iconst (v := 0) hx hb dL_valueAt_14 (by decide) ?_
  exact fi hx hb hr hlocks hP hD hK hS (()) trivial rfl [1, 0, 2, 3, 4, 5, 6, 7, 8, 9, 10, 11, 12] [0, 1, 2, 3, 4, 5, 6] rfl (by decide) rfl (Nat.le_of_ble_eq_true rfl) (Nat.le_of_ble_eq_true rfl) dL_valueAt_15
set_option maxHeartbeats 4000000 in
set_option maxRecDepth 100000 in
theorem cL_valueAt_648 (l : Launch) (D : va_G) (h0 : Nat) (h1 : Nat) (h2 : Nat) (h3 : Nat) (h4 : Nat) (h5 : Nat) (h6 : Nat) (h7 : Nat) (h8 : Nat) (h9 : Nat) (h10 : Nat) (h11 : Nat) (h12 : Nat) (v0 : Value) (v1 : Value) (v2 : Value) (v3 : Value) (v4 : Value) (v5 : Value) (v6 : Value) (v7 : Value) (f0 : Nat → Int64) (v8 : Value) (v9 : Value) (v10 : Value) (v11 : Value) (v12 : Value) (f1 : Nat → Int32) (v13 : Value) (v14 : Value) (v15 : Value) (v16 : Value) (v17 : Value) (v18 : Value) (v19 : Value) (v20 : Value) (v21 : Value) (f2 : Nat → Int32) (f3 : Nat → Option Nat) (v22 : Value) (v23 : Value) (f4 : Nat → Int32) (f5 : Nat → Int32) (f6 : Nat → Int32) (a0 : ClassId) (a1 : ClassId) (a2 : ClassId) (a3 : ClassId) (a4 : ClassId) (a5 : ClassId) (a6 : ClassId) (ef1_0 : f1 0 = 0) (ef1_1 : f1 1 = 1) (ef2_1 : f2 1 = (-1)) (ef3_0 : f3 0 = some h11) (ef3_1 : f3 1 = some h8) (ef4_0 : f4 0 = 0) (ef6_0 : f6 0 = 0)  : CH l yL_valueAt cL_valueAt 4 (some .int) [(0, 8, 11, 13)] { frames := 5, cells := 0, slots := 0, locals := 119 } [.ref h0, .int 1, .ref h1] D [(h0, .inr (5, [v0, .ref h2, v1, .ref h4, v2, v3, v4, v5, v6, v7])), (h1, .inl (a0, 1, .inr (.inl f0))), (h2, .inr (0, [.ref h3, v8, .int 2, v9, v10, v11, v12])), (h3, .inl (a1, 48, .inl f1)), (h4, .inr (1, [.ref h2, .ref h6, v13, .ref h5, v14, v15, v16, v17, v18, v19, v20, v21, .ref h7])), (h5, .inl (a2, 48, .inl f2)), (h6, .inl (a3, 48, .inr (.inr (.inr (.inr f3))))), (h7, .inr (4, [.ref h10, v22, v23])), (h8, .inr (4, [.ref h9, .int 0, .int 0])), (h9, .inl (a4, 2, .inl f4)), (h10, .inl (a5, 2, .inl f5)), (h11, .inr (4, [.ref h12, .int 0, .int 0])), (h12, .inl (a6, 2, .inl f6))] [(a0, .long), (a1, .int), (a2, .int), (a3, .object "LiftingSignal$Whole"), (a4, .int), (a5, .int), (a6, .int)] XN [(h0, .inr (5, [v0, .ref h2, v1, .ref h4, v2, v3, v4, v5, v6, v7])), (h1, .inl (a0, 1, .inr (.inl f0))), (h2, .inr (0, [.ref h3, v8, .int 2, v9, v10, v11, v12])), (h3, .inl (a1, 48, .inl f1)), (h4, .inr (1, [.ref h2, .ref h6, v13, .ref h5, v14, v15, v16, v17, v18, v19, v20, v21, .ref h7])), (h5, .inl (a2, 48, .inl f2)), (h6, .inl (a3, 48, .inr (.inr (.inr (.inr f3))))), (h7, .inr (4, [.ref h10, v22, v23])), (h8, .inr (4, [.ref h9, .int 0, .int 0])), (h9, .inl (a4, 2, .inl f4)), (h10, .inl (a5, 2, .inl f5)), (h11, .inr (4, [.ref h12, .int 0, .int 0])), (h12, .inl (a6, 2, .inl f6))] (ei (fun _ : Unit => True) (fun u => 0) (fun _ => [(h0, .inr (5, [v0, .ref h2, v1, .ref h4, v2, v3, v4, v5, v6, v7])), (h1, .inl (a0, 1, .inr (.inl (vp_updL f0 0 0)))), (h2, .inr (0, [.ref h3, v8, .int 2, v9, v10, v11, v12])), (h3, .inl (a1, 48, .inl f1)), (h4, .inr (1, [.ref h2, .ref h6, v13, .ref h5, v14, v15, v16, v17, v18, v19, v20, v21, .ref h7])), (h5, .inl (a2, 48, .inl f2)), (h6, .inl (a3, 48, .inr (.inr (.inr (.inr f3))))), (h7, .inr (4, [.ref h10, .int 0, .int 0])), (h8, .inr (4, [.ref h9, .int 0, .int 0])), (h9, .inl (a4, 2, .inl f4)), (h10, .inl (a5, 2, .inl (upd (upd (upd (upd (upd (upd (upd f5 0 0) 0 0) 1 0) 0 0) 1 0) 0 0) 1 0))), (h11, .inr (4, [.ref h12, .int 0, .int 0])), (h12, .inl (a6, 2, .inl f6))]) (fun u => [(a0, .long), (a1, .int), (a2, .int), (a3, .object "LiftingSignal$Whole"), (a4, .int), (a5, .int), (a6, .int)]) D) 0 0 := by
  refine CH.ofW (by decide +kernel) (Nat.le_of_ble_eq_true rfl) ?_
  intro p e s m below meth c A ls hcs htab hP hK hD hX hA hS hl
  obtain ⟨hx, hb, hr, hml, hown, hg, hlocks, hin⟩ := hcs
  have hown : s.vm.findClass RL = some m.cls := hown
  have hl : lv_has ls 4 [(0, .ref h0), (1, .int 1), (2, .ref h1)] := hl
  refine lv_aload_n hx hb dL_valueAt_0 rfl (lv_at hl 2 rfl) ?_
  refine lv_iconst (v := 0) hx hb dL_valueAt_1 (by decide) ?_
  refine lv_aload_n hx hb dL_valueAt_2 rfl (lv_at hl 0 rfl) ?_
  refine lv_iload_n hx hb dL_valueAt_3 rfl (lv_at hl 1 rfl) ?_
  refine cVl (n := 1) (As := [.int 1]) (rest := [.int 0, .ref h1]) (wr := [(h1, .inl (a0, 1, .inr (.inl f0)))]) (tr := [(a0, .long)]) hx hb hml hown hg okN (cX5_valueAt_395 l D h0 h2 h3 h4 h5 h6 h7 h8 h9 h10 h11 h12 v0 v1 v2 v3 v4 v5 v6 v7 v8 v9 v10 v11 v12 f1 v13 v14 v15 v16 v17 v18 v19 v20 v21 f2 f3 v22 v23 f4 f5 f6 a1 a2 a3 a4 a5 a6 ef1_0 ef1_1 ef2_1 ef3_0 ef3_1 ef4_0 ef6_0) (mwV k893 k894 k895 k84 k896) ⟨rfl, by decide, by decide, by decide +kernel⟩ ⟨rfl, rfl, (Nat.le_of_ble_eq_true rfl), (Nat.le_of_ble_eq_true rfl)⟩ hP hD hK hS xn [0, 2, 3, 4, 5, 6, 7, 8, 9, 10, 11, 12] [0, 2, 3, 4, 5, 6, 7, 8, 9, 10, 11, 12] [1] [1, 2, 3, 4, 5, 6] [0] rfl (by decide) rfl rfl (by decide) (by decide) rfl rfl (va_free hD hS hA [0, 2, 3, 4, 5, 6, 7, 8, 9, 10, 11, 12] rfl) (va_free hD hS hA [0, 2, 3, 4, 5, 6, 7, 8, 9, 10, 11, 12] rfl) 0 rfl rfl rfl hl.1 rfl (Nat.le_of_ble_eq_true rfl) dL_valueAt_4 ⟨(Nat.le_of_ble_eq_true rfl), (Nat.le_of_ble_eq_true rfl)⟩ (fun u H locs hφ hP hD hK hS hk => ?_)
  have hP : va_P D vwCl [(h1, .inl (a0, 1, .inr (.inl f0))), (h0, .inr (5, [v0, .ref h2, v1, .ref h4, v2, v3, v4, v5, v6, v7])), (h2, .inr (0, [.ref h3, v8, .int 2, v9, v10, v11, v12])), (h3, .inl (a1, 48, .inl f1)), (h4, .inr (1, [.ref h2, .ref h6, v13, .ref h5, v14, v15, v16, v17, v18, v19, v20, v21, .ref h7])), (h5, .inl (a2, 48, .inl f2)), (h6, .inl (a3, 48, .inr (.inr (.inr (.inr f3))))), (h7, .inr (4, [.ref h10, .int 0, .int 0])), (h8, .inr (4, [.ref h9, .int 0, .int 0])), (h9, .inl (a4, 2, .inl f4)), (h10, .inl (a5, 2, .inl (upd (upd (upd (upd (upd (upd (upd f5 0 0) 0 0) 1 0) 0 0) 1 0) 0 0) 1 0))), (h11, .inr (4, [.ref h12, .int 0, .int 0])), (h12, .inl (a6, 2, .inl f6))] H := hP
  have hD : va_D A [(h1, .inl (a0, 1, .inr (.inl f0))), (h0, .inr (5, [v0, .ref h2, v1, .ref h4, v2, v3, v4, v5, v6, v7])), (h2, .inr (0, [.ref h3, v8, .int 2, v9, v10, v11, v12])), (h3, .inl (a1, 48, .inl f1)), (h4, .inr (1, [.ref h2, .ref h6, v13, .ref h5, v14, v15, v16, v17, v18, v19, v20, v21, .ref h7])), (h5, .inl (a2, 48, .inl f2)), (h6, .inl (a3, 48, .inr (.inr (.inr (.inr f3))))), (h7, .inr (4, [.ref h10, .int 0, .int 0])), (h8, .inr (4, [.ref h9, .int 0, .int 0])), (h9, .inl (a4, 2, .inl f4)), (h10, .inl (a5, 2, .inl (upd (upd (upd (upd (upd (upd (upd f5 0 0) 0 0) 1 0) 0 0) 1 0) 0 0) 1 0))), (h11, .inr (4, [.ref h12, .int 0, .int 0])), (h12, .inl (a6, 2, .inl f6))] := hD
  have hK : va_K D vwCl [(a0, .long), (a1, .int), (a2, .int), (a3, .object "LiftingSignal$Whole"), (a4, .int), (a5, .int), (a6, .int)] s := hK
  refine W.widen (k := 0) (n := 0) (Nat.le_of_ble_eq_true rfl) (Nat.le_of_ble_eq_true rfl) ?_
  refine astL hx hb hK hP hD hS 0 0 rfl rfl 0 (by decide) (vin (by decide)) dL_valueAt_7 (fun H locs hP hD hS => ?_)
  have hP : va_P D vwCl [(h1, .inl (a0, 1, .inr (.inl (vp_updL f0 0 0)))), (h0, .inr (5, [v0, .ref h2, v1, .ref h4, v2, v3, v4, v5, v6, v7])), (h2, .inr (0, [.ref h3, v8, .int 2, v9, v10, v11, v12])), (h3, .inl (a1, 48, .inl f1)), (h4, .inr (1, [.ref h2, .ref h6, v13, .ref h5, v14, v15, v16, v17, v18, v19, v20, v21, .ref h7])), (h5, .inl (a2, 48, .inl f2)), (h6, .inl (a3, 48, .inr (.inr (.inr (.inr f3))))), (h7, .inr (4, [.ref h10, .int 0, .int 0])), (h8, .inr (4, [.ref h9, .int 0, .int 0])), (h9, .inl (a4, 2, .inl f4)), (h10, .inl (a5, 2, .inl (upd (upd (upd (upd (upd (upd (upd f5 0 0) 0 0) 1 0) 0 0) 1 0) 0 0) 1 0))), (h11, .inr (4, [.ref h12, .int 0, .int 0])), (h12, .inl (a6, 2, .inl f6))] H := hP
  have hD : va_D A [(h1, .inl (a0, 1, .inr (.inl (vp_updL f0 0 0)))), (h0, .inr (5, [v0, .ref h2, v1, .ref h4, v2, v3, v4, v5, v6, v7])), (h2, .inr (0, [.ref h3, v8, .int 2, v9, v10, v11, v12])), (h3, .inl (a1, 48, .inl f1)), (h4, .inr (1, [.ref h2, .ref h6, v13, .ref h5, v14, v15, v16, v17, v18, v19, v20, v21, .ref h7])), (h5, .inl (a2, 48, .inl f2)), (h6, .inl (a3, 48, .inr (.inr (.inr (.inr f3))))), (h7, .inr (4, [.ref h10, .int 0, .int 0])), (h8, .inr (4, [.ref h9, .int 0, .int 0])), (h9, .inl (a4, 2, .inl f4)), (h10, .inl (a5, 2, .inl (upd (upd (upd (upd (upd (upd (upd f5 0 0) 0 0) 1 0) 0 0) 1 0) 0 0) 1 0))), (h11, .inr (4, [.ref h12, .int 0, .int 0])), (h12, .inl (a6, 2, .inl f6))] := hD
  refine lv_goto (tgt := 14) hx hb dL_valueAt_8 (by decide) ?_
  refine lv_iconst (v := 0) hx hb dL_valueAt_14 (by decide) ?_
  exact fi hx hb hr hlocks hP hD hK hS (()) trivial rfl [1, 0, 2, 3, 4, 5, 6, 7, 8, 9, 10, 11, 12] [0, 1, 2, 3, 4, 5, 6] rfl (by decide) rfl (Nat.le_of_ble_eq_true rfl) (Nat.le_of_ble_eq_true rfl) dL_valueAt_15
set_option maxHeartbeats 4000000 in
set_option maxRecDepth 100000 in
theorem cL_valueAt_649 (l : Launch) (D : va_G) (hlt : l.stackTraces = false) (h0 : Nat) (x0 : Int32) (h1 : Nat) (h2 : Nat) (h3 : Nat) (v0 : Value) (v1 : Value) (v2 : Value) (v3 : Value) (v4 : Value) (v5 : Value) (v6 : Value) (v7 : Value) (v8 : Value) (v9 : Value) (v10 : Value) (v11 : Value) (v12 : Value) (v13 : Value) (f0 : Nat → Int32) (a0 : ClassId) (ef0_0 : f0 0 = 0) (ef0_1 : f0 1 = 1) (d0 : ¬ (x0 < 0)) (d1 : ¬ (x0 ≤ 1)) : CH l yL_valueAt cL_valueAt 4 (some .int) [(0, 8, 11, 13)] { frames := 7, cells := 1, slots := 6, locals := 111 } [.ref h0, .int x0, .ref h1] D [(h0, .inr (5, [v0, .ref h2, v1, v2, v3, v4, v5, v6, v7, v8])), (h2, .inr (0, [.ref h3, v9, .int 2, v10, v11, v12, v13])), (h3, .inl (a0, 48, .inl f0))] [(a0, .int)] XX [] (ei (fun _ : Unit => True) (fun _ => 1) (fun _ => []) (fun _ => []) D) 1 6 := by
  refine CH.ofR (by decide +kernel) (Nat.le_of_ble_eq_true rfl) ?_
  intro p e s m below meth c A ls hcs htab hP hK hD hX hA hS hl
  obtain ⟨hx, hb, hr, hml, hown, hg, hlocks, hin⟩ := hcs
  have hown : s.vm.findClass RL = some m.cls := hown
  have hl : lv_has ls 4 [(0, .ref h0), (1, .int x0), (2, .ref h1)] := hl
  refine lv_aload_n hx hb dL_valueAt_0 rfl (lv_at hl 2 rfl) ?_
  refine lv_iconst (v := 0) hx hb dL_valueAt_1 (by decide) ?_
  refine lv_aload_n hx hb dL_valueAt_2 rfl (lv_at hl 0 rfl) ?_
  refine lv_iload_n hx hb dL_valueAt_3 rfl (lv_at hl 1 rfl) ?_
  refine hVl (n := 1) (As := [.int x0]) (rest := [.int 0, .ref h1]) hx hb hml hown hg okXX (cX5_valueAt_399 l D hlt h0 x0 h2 h3 v0 v1 v2 v3 v4 v5 v6 v7 v8 v9 v10 v11 v12 v13 f0 a0 ef0_0 ef0_1 d0 d1) (mwV k893 k894 k895 k84 k896) ⟨rfl, by decide, by decide, by decide +kernel⟩ ⟨rfl, rfl, (Nat.le_of_ble_eq_true rfl), (Nat.le_of_ble_eq_true rfl)⟩ hP hD hK hS (okXX.2.2 _ _ _ _ hS.2.1 hX) [0, 1, 2] [0] rfl (by decide) rfl (aNil hA hS) 0 rfl rfl rfl hl.1 rfl (Nat.le_of_ble_eq_true rfl) dL_valueAt_4 ⟨(Nat.le_of_ble_eq_true rfl), (Nat.le_of_ble_eq_true rfl)⟩ [] { startPc := 0, endPc := 8, handlerPc := 11, catchType := 13 } [] (htab.trans rfl) (fun z hz => nomatch hz) (by decide) (by decide) (hg _ k605) (XX_cIOOBE hX) (fun q9 H locs hS hk => ?_)
  have hP : va_P D vwCl [] H := pNil
  have hD : va_D (fun _ => True) [] := dNil
  have hK : va_K D vwCl [] s := hK.sub [] rfl
  refine W.widen (k := 1) (n := 6) (Nat.le_of_ble_eq_true rfl) (Nat.le_of_ble_eq_true rfl) ?_
  refine lv_astore_n (lv' := [(3, .ref q9), (0, .ref h0), (1, .int x0), (2, .ref h1)]) hx hb dL_valueAt_11 rfl hl (by decide) rfl (fun ls hl => ?_)
  refine lv_iconst (v := 1) hx hb dL_valueAt_12 (by decide) ?_
  exact fi0 hx hb hr hlocks hK hS (Nat.le_of_ble_eq_true rfl) (Nat.le_of_ble_eq_true rfl) dL_valueAt_13
set_option maxHeartbeats 4000000 in
set_option maxRecDepth 100000 in
theorem cL_mean_650 (l : Launch) (D : va_G) (hlt : l.stackTraces = false) (h0 : Nat) (x0 : Int32) (h1 : Nat) (v0 : Value) (v1 : Value) (v2 : Value) (v3 : Value) (v4 : Value) (v5 : Value) (v6 : Value) (v7 : Value) (v8 : Value) (v9 : Value)  (d0 : x0 < 0) : CH l yL_mean cL_mean 4 (some .int) [(0, 8, 11, 19)] { frames := 8, cells := 1, slots := 6, locals := 137 } [.ref h0, .int x0, .ref h1] D [(h0, .inr (5, [v0, v1, v2, v3, v4, v5, v6, v7, v8, v9]))] [] XX [] (ei (fun _ : Unit => True) (fun _ => 1) (fun _ => []) (fun _ => []) D) 1 6 := by
  refine CH.ofR (by decide +kernel) (Nat.le_of_ble_eq_true rfl) ?_
  intro p e s m below meth c A ls hcs htab hP hK hD hX hA hS hl
  obtain ⟨hx, hb, hr, hml, hown, hg, hlocks, hin⟩ := hcs
  have hown : s.vm.findClass RL = some m.cls := hown
  have hl : lv_has ls 4 [(0, .ref h0), (1, .int x0), (2, .ref h1)] := hl
  refine lv_aload_n hx hb dL_mean_0 rfl (lv_at hl 2 rfl) ?_
  refine lv_iconst (v := 0) hx hb dL_mean_1 (by decide) ?_
  refine lv_aload_n hx hb dL_mean_2 rfl (lv_at hl 0 rfl) ?_
  refine lv_iload_n hx hb dL_mean_3 rfl (lv_at hl 1 rfl) ?_
  refine hVl (n := 1) (As := [.int x0]) (rest := [.int 0, .ref h1]) hx hb hml hown hg okXX (cX5_mean_403 l D hlt h0 x0 d0) (mwV k905 k906 k907 k84 k908) ⟨rfl, by decide, by decide, by decide +kernel⟩ ⟨rfl, rfl, (Nat.le_of_ble_eq_true rfl), (Nat.le_of_ble_eq_true rfl)⟩ hP hD hK hS (okXX.2.2 _ _ _ _ hS.2.1 hX) [] [] rfl (by decide) rfl (aNil hA hS) 0 rfl rfl rfl hl.1 rfl (Nat.le_of_ble_eq_true rfl) dL_mean_4 ⟨(Nat.le_of_ble_eq_true rfl), (Nat.le_of_ble_eq_true rfl)⟩ [] { startPc := 0, endPc := 8, handlerPc := 11, catchType := 19 } [] (htab.trans rfl) (fun z hz => nomatch hz) (by decide) (by decide) (hg _ k684) (XX_cIAE hX) (fun q9 H locs hS hk => ?_)
  have hP : va_P D vwCl [] H := pNil
  have hD : va_D (fun _ => True) [] := dNil
  have hK : va_K D vwCl [] s := hK.sub [] rfl
  refine W.widen (k := 1) (n := 6) (Nat.le_of_ble_eq_true rfl) (Nat.le_of_ble_eq_true rfl) ?_
  refine lv_astore_n (lv' := [(3, .ref q9), (0, .ref h0), (1, .int x0), (2, .ref h1)]) hx hb dL_mean_11 rfl hl (by decide) rfl (fun ls hl => ?_)
  refine lv_iconst (v := 1) hx hb dL_mean_12 (by decide) ?_
  exact fi0 hx hb hr hlocks hK hS (Nat.le_of_ble_eq_true rfl) (Nat.le_of_ble_eq_true rfl) dL_mean_13
set_option maxHeartbeats 4000000 in
set_option maxRecDepth 100000 in
theorem cL_mean_651 (l : Launch) (D : va_G) (h0 : Nat) (h1 : Nat) (h2 : Nat) (h3 : Nat) (h4 : Nat) (h5 : Nat) (h6 : Nat) (h7 : Nat) (h8 : Nat) (h9 : Nat) (v0 : Value) (v1 : Value) (v2 : Value) (v3 : Value) (v4 : Value) (v5 : Value) (v6 : Value) (v7 : Value) (v8 : Value) (f0 : Nat → Int64) (v9 : Value) (v10 : Value) (v11 : Value) (v12 : Value) (v13 : Value) (v14 : Value) (v15 : Value) (v16 : Value) (v17 : Value) (v18 : Value) (v19 : Value) (v20 : Value) (v21 : Value) (v22 : Value) (f1 : Nat → Int32) (f2 : Nat → Int64) (v23 : Value) (v24 : Value) (f3 : Nat → Int32) (f4 : Nat → Int32) (a0 : ClassId) (a1 : ClassId) (a2 : ClassId) (a3 : ClassId) (a4 : ClassId) (ef1_0 : f1 0 = (-1)) (ef1_1 : f1 1 = (-1)) (ef2_0 : f2 0 = 1) (ef2_1 : f2 1 = 1) (ef3_0 : f3 0 = 0)  : CH l yL_mean cL_mean 4 (some .int) [(0, 8, 11, 19)] { frames := 4, cells := 0, slots := 0, locals := 97 } [.ref h0, .int 0, .ref h1] D [(h0, .inr (5, [v0, v1, v2, .ref h2, v3, v4, v5, v6, v7, v8])), (h1, .inl (a0, 1, .inr (.inl f0))), (h2, .inr (1, [.ref h3, v9, .ref h5, .ref h4, v10, v11, .ref h6, v12, v13, v14, v15, v16, .ref h7])), (h3, .inr (0, [v17, v18, .int 2, v19, v20, v21, v22])), (h4, .inl (a1, 48, .inl f1)), (h5, .inl (a2, 48, .inr (.inl f2))), (h6, .inr (4, [.ref h8, .int 0, .int 0])), (h7, .inr (4, [.ref h9, v23, v24])), (h8, .inl (a3, 2, .inl f3)), (h9, .inl (a4, 2, .inl f4))] [(a0, .long), (a1, .int), (a2, .long), (a3, .int), (a4, .int)] XN [(h0, .inr (5, [v0, v1, v2, .ref h2, v3, v4, v5, v6, v7, v8])), (h1, .inl (a0, 1, .inr (.inl f0))), (h2, .inr (1, [.ref h3, v9, .ref h5, .ref h4, v10, v11, .ref h6, v12, v13, v14, v15, v16, .ref h7])), (h3, .inr (0, [v17, v18, .int 2, v19, v20, v21, v22])), (h4, .inl (a1, 48, .inl f1)), (h5, .inl (a2, 48, .inr (.inl f2))), (h6, .inr (4, [.ref h8, .int 0, .int 0])), (h7, .inr (4, [.ref h9, v23, v24])), (h8, .inl (a3, 2, .inl f3)), (h9, .inl (a4, 2, .inl f4))] (ei (fun _ : Unit => True) (fun u => 0) (fun _ => [(h0, .inr (5, [v0, v1, v2, .ref h2, v3, v4, v5, v6, v7, v8])), (h1, .inl (a0, 1, .inr (.inl (vp_updL f0 0 0)))), (h2, .inr (1, [.ref h3, v9, .ref h5, .ref h4, v10, v11, .ref h6, v12, v13, v14, v15, v16, .ref h7])), (h3, .inr (0, [v17, v18, .int 2, v19, v20, v21, v22])), (h4, .inl (a1, 48, .inl f1)), (h5, .inl (a2, 48, .inr (.inl f2))), (h6, .inr (4, [.ref h8, .int 0, .int 0])), (h7, .inr (4, [.ref h9, .int 0, .int 0])), (h8, .inl (a3, 2, .inl f3)), (h9, .inl (a4, 2, .inl (upd (upd (upd f4 0 0) 0 0) 1 0)))]) (fun u => [(a0, .long), (a1, .int), (a2, .long), (a3, .int), (a4, .int)]) D) 0 0 := by
  refine CH.ofW (by decide +kernel) (Nat.le_of_ble_eq_true rfl) ?_
  intro p e s m below meth c A ls hcs htab hP hK hD hX hA hS hl
  obtain ⟨hx, hb, hr, hml, hown, hg, hlocks, hin⟩ := hcs
  have hown : s.vm.findClass RL = some m.cls := hown
  have hl : lv_has ls 4 [(0, .ref h0), (1, .int 0), (2, .ref h1)] := hl
  refine lv_aload_n hx hb dL_mean_0 rfl (lv_at hl 2 rfl) ?_
  refine lv_iconst (v := 0) hx hb dL_mean_1 (by decide) ?_
  refine lv_aload_n hx hb dL_mean_2 rfl (lv_at hl 0 rfl) ?_
  refine lv_iload_n hx hb dL_mean_3 rfl (lv_at hl 1 rfl) ?_
  refine cVl (n := 1) (As := [.int 0]) (rest := [.int 0, .ref h1]) (wr := [(h1, .inl (a0, 1, .inr (.inl f0)))]) (tr := [(a0, .long)]) hx hb hml hown hg okN (cX5_mean_405 l D h0 h2 h3 h4 h5 h6 h7 h8 h9 v0 v1 v2 v3 v4 v5 v6 v7 v8 v9 v10 v11 v12 v13 v14 v15 v16 v17 v18 v19 v20 v21 v22 f1 f2 v23 v24 f3 f4 a1 a2 a3 a4 ef1_0 ef1_1 ef2_0 ef2_1 ef3_0) (mwV k905 k906 k907 k84 k908) ⟨rfl, by decide, by decide, by decide +kernel⟩ ⟨rfl, rfl, (Nat.le_of_ble_eq_true rfl), (Nat.le_of_ble_eq_true rfl)⟩ hP hD hK hS xn [0, 2, 3, 4, 5, 6, 7, 8, 9] [0, 2, 3, 4, 5, 6, 7, 8, 9] [1] [1, 2, 3, 4] [0] rfl (by decide) rfl rfl (by decide) (by decide) rfl rfl (va_free hD hS hA [0, 2, 3, 4, 5, 6, 7, 8, 9] rfl) (va_free hD hS hA [0, 2, 3, 4, 5, 6, 7, 8, 9] rfl) 0 rfl rfl rfl hl.1 rfl (Nat.le_of_ble_eq_true rfl) dL_mean_4 ⟨(Nat.le_of_ble_eq_true rfl), (Nat.le_of_ble_eq_true rfl)⟩ (fun u H locs hφ hP hD hK hS hk => ?_)
  have hP : va_P D vwCl [(h1, .inl (a0, 1, .inr (.inl f0))), (h0, .inr (5, [v0, v1, v2, .ref h2, v3, v4, v5, v6, v7, v8])), (h2, .inr (1, [.ref h3, v9, .ref h5, .ref h4, v10, v11, .ref h6, v12, v13, v14, v15, v16, .ref h7])), (h3, .inr (0, [v17, v18, .int 2, v19, v20, v21, v22])), (h4, .inl (a1, 48, .inl f1)), (h5, .inl (a2, 48, .inr (.inl f2))), (h6, .inr (4, [.ref h8, .int 0, .int 0])), (h7, .inr (4, [.ref h9, .int 0, .int 0])), (h8, .inl (a3, 2, .inl f3)), (h9, .inl (a4, 2, .inl (upd (upd (upd f4 0 0) 0 0) 1 0)))] H := hP
  have hD : va_D A [(h1, .inl (a0, 1, .inr (.inl f0))), (h0, .inr (5, [v0, v1, v2, .ref h2, v3, v4, v5, v6, v7, v8])), (h2, .inr (1, [.ref h3, v9, .ref h5, .ref h4, v10, v11, .ref h6, v12, v13, v14, v15, v16, .ref h7])), (h3, .inr (0, [v17, v18, .int 2, v19, v20, v21, v22])), (h4, .inl (a1, 48, .inl f1)), (h5, .inl (a2, 48, .inr (.inl f2))), (h6, .inr (4, [.ref h8, .int 0, .int 0])), (h7, .inr (4, [.ref h9, .int 0, .int 0])), (h8, .inl (a3, 2, .inl f3)), (h9, .inl (a4, 2, .inl (upd (upd (upd f4 0 0) 0 0) 1 0)))] := hD
  have hK : va_K D vwCl [(a0, .long), (a1, .int), (a2, .long), (a3, .int), (a4, .int)] s := hK
  refine W.widen (k := 0) (n := 0) (Nat.le_of_ble_eq_true rfl) (Nat.le_of_ble_eq_true rfl) ?_
  refine astL hx hb hK hP hD hS 0 0 rfl rfl 0 (by decide) (vin (by decide)) dL_mean_7 (fun H locs hP hD hS => ?_)
  have hP : va_P D vwCl [(h1, .inl (a0, 1, .inr (.inl (vp_updL f0 0 0)))), (h0, .inr (5, [v0, v1, v2, .ref h2, v3, v4, v5, v6, v7, v8])), (h2, .inr (1, [.ref h3, v9, .ref h5, .ref h4, v10, v11, .ref h6, v12, v13, v14, v15, v16, .ref h7])), (h3, .inr (0, [v17, v18, .int 2, v19, v20, v21, v22])), (h4, .inl (a1, 48, .inl f1)), (h5, .inl (a2, 48, .inr (.inl f2))), (h6, .inr (4, [.ref h8, .int 0, .int 0])), (h7, .inr (4, [.ref h9, .int 0, .int 0])), (h8, .inl (a3, 2, .inl f3)), (h9, .inl (a4, 2, .inl (upd (upd (upd f4 0 0) 0 0) 1 0)))] H := hP
  have hD : va_D A [(h1, .inl (a0, 1, .inr (.inl (vp_updL f0 0 0)))), (h0, .inr (5, [v0, v1, v2, .ref h2, v3, v4, v5, v6, v7, v8])), (h2, .inr (1, [.ref h3, v9, .ref h5, .ref h4, v10, v11, .ref h6, v12, v13, v14, v15, v16, .ref h7])), (h3, .inr (0, [v17, v18, .int 2, v19, v20, v21, v22])), (h4, .inl (a1, 48, .inl f1)), (h5, .inl (a2, 48, .inr (.inl f2))), (h6, .inr (4, [.ref h8, .int 0, .int 0])), (h7, .inr (4, [.ref h9, .int 0, .int 0])), (h8, .inl (a3, 2, .inl f3)), (h9, .inl (a4, 2, .inl (upd (upd (upd f4 0 0) 0 0) 1 0)))] := hD
  refine lv_goto (tgt := 14) hx hb dL_mean_8 (by decide) ?_
  refine lv_iconst (v := 0) hx hb dL_mean_14 (by decide) ?_
  exact fi hx hb hr hlocks hP hD hK hS (()) trivial rfl [1, 0, 2, 3, 4, 5, 6, 7, 8, 9] [0, 1, 2, 3, 4] rfl (by decide) rfl (Nat.le_of_ble_eq_true rfl) (Nat.le_of_ble_eq_true rfl) dL_mean_15
set_option maxHeartbeats 4000000 in
set_option maxRecDepth 100000 in
theorem cL_mean_652 (l : Launch) (D : va_G) (h0 : Nat) (h1 : Nat) (h2 : Nat) (h3 : Nat) (h4 : Nat) (h5 : Nat) (h6 : Nat) (v0 : Value) (v1 : Value) (v2 : Value) (v3 : Value) (v4 : Value) (v5 : Value) (v6 : Value) (v7 : Value) (v8 : Value) (f0 : Nat → Int64) (v9 : Value) (v10 : Value) (v11 : Value) (v12 : Value) (v13 : Value) (v14 : Value) (v15 : Value) (v16 : Value) (v17 : Value) (v18 : Value) (v19 : Value) (v20 : Value) (v21 : Value) (v22 : Value) (v23 : Value) (f1 : Nat → Int32) (f2 : Nat → Int64) (v24 : Value) (v25 : Value) (a0 : ClassId) (a1 : ClassId) (a2 : ClassId) (ef1_0 : f1 0 = (-1)) (ef1_1 : f1 1 = (-1)) (ef2_0 : f2 0 = 1) (ef2_1 : f2 1 = 1)  : CH l yL_mean cL_mean 4 (some .int) [(0, 8, 11, 19)] { frames := 3, cells := 0, slots := 0, locals := 70 } [.ref h0, .int 1, .ref h1] D [(h0, .inr (5, [v0, v1, v2, .ref h2, v3, v4, v5, v6, v7, v8])), (h1, .inl (a0, 1, .inr (.inl f0))), (h2, .inr (1, [.ref h3, v9, .ref h5, .ref h4, v10, v11, .ref h6, v12, v13, v14, v15, v16, v17])), (h3, .inr (0, [v18, v19, .int 2, v20, v21, v22, v23])), (h4, .inl (a1, 48, .inl f1)), (h5, .inl (a2, 48, .inr (.inl f2))), (h6, .inr (4, [v24, .int 0, v25]))] [(a0, .long), (a1, .int), (a2, .long)] XN [(h0, .inr (5, [v0, v1, v2, .ref h2, v3, v4, v5, v6, v7, v8])), (h1, .inl (a0, 1, .inr (.inl f0))), (h2, .inr (1, [.ref h3, v9, .ref h5, .ref h4, v10, v11, .ref h6, v12, v13, v14, v15, v16, v17])), (h3, .inr (0, [v18, v19, .int 2, v20, v21, v22, v23])), (h4, .inl (a1, 48, .inl f1)), (h5, .inl (a2, 48, .inr (.inl f2))), (h6, .inr (4, [v24, .int 0, v25]))] (ei (fun _ : Unit => True) (fun u => 0) (fun _ => [(h0, .inr (5, [v0, v1, v2, .ref h2, v3, v4, v5, v6, v7, v8])), (h1, .inl (a0, 1, .inr (.inl (vp_updL f0 0 1)))), (h2, .inr (1, [.ref h3, v9, .ref h5, .ref h4, v10, v11, .ref h6, v12, v13, v14, v15, v16, v17])), (h3, .inr (0, [v18, v19, .int 2, v20, v21, v22, v23])), (h4, .inl (a1, 48, .inl f1)), (h5, .inl (a2, 48, .inr (.inl f2))), (h6, .inr (4, [v24, .int 0, v25]))]) (fun u => [(a0, .long), (a1, .int), (a2, .long)]) D) 0 0 := by
  refine CH.ofW (by decide +kernel) (Nat.le_of_ble_eq_true rfl) ?_
  intro p e s m below meth c A ls hcs htab hP hK hD hX hA hS hl
  obtain ⟨hx, hb, hr, hml, hown, hg, hlocks, hin⟩ := hcs
  have hown : s.vm.findClass RL = some m.cls := hown
  have hl : lv_has ls 4 [(0, .ref h0), (1, .int 1), (2, .ref h1)] := hl
  refine lv_aload_n hx hb dL_mean_0 rfl (lv_at hl 2 rfl) ?_
  refine lv_iconst (v := 0) hx hb dL_mean_1 (by decide) ?_
  refine lv_aload_n hx hb dL_mean_2 rfl (lv_at hl 0 rfl) ?_
  refine lv_iload_n hx hb dL_mean_3 rfl (lv_at hl 1 rfl) ?_
  refine cVl (n := 1) (As := [.int 1]) (rest := [.int 0, .ref h1]) (wr := [(h0, .inr (5, [v0, v1, v2, .ref h2, v3, v4, v5, v6, v7, v8])), (h1, .inl (a0, 1, .inr (.inl f0))), (h2, .inr (1, [.ref h3, v9, .ref h5, .ref h4, v10, v11, .ref h6, v12, v13, v14, v15, v16, v17])), (h3, .inr (0, [v18, v19, .int 2, v20, v21, v22, v23])), (h4, .inl (a1, 48, .inl f1)), (h5, .inl (a2, 48, .inr (.inl f2))), (h6, .inr (4, [v24, .int 0, v25]))]) (tr := [(a0, .long), (a1, .int), (a2, .long)]) hx hb hml hown hg okN (cX5_mean_412 l D h0 h2 h3 h4 h5 h6 v0 v1 v2 v3 v4 v5 v6 v7 v8 v9 v10 v11 v12 v13 v14 v15 v16 v17 v18 v19 v20 v21 v22 v23 f1 f2 v24 v25 a1 a2 ef1_0 ef1_1 ef2_0 ef2_1) (mwV k905 k906 k907 k84 k908) ⟨rfl, by decide, by decide, by decide +kernel⟩ ⟨rfl, rfl, (Nat.le_of_ble_eq_true rfl), (Nat.le_of_ble_eq_true rfl)⟩ hP hD hK hS xn [0, 2, 3, 4, 5, 6] [] [0, 1, 2, 3, 4, 5, 6] [1, 2] [0, 1, 2] rfl (by decide) rfl rfl (by decide) (by decide) rfl rfl (aNil hA hS) (aNil hA hS) 0 rfl rfl rfl hl.1 rfl (Nat.le_of_ble_eq_true rfl) dL_mean_4 ⟨(Nat.le_of_ble_eq_true rfl), (Nat.le_of_ble_eq_true rfl)⟩ (fun u H locs hφ hP hD hK hS hk => ?_)
  have hP : va_P D vwCl [(h0, .inr (5, [v0, v1, v2, .ref h2, v3, v4, v5, v6, v7, v8])), (h1, .inl (a0, 1, .inr (.inl f0))), (h2, .inr (1, [.ref h3, v9, .ref h5, .ref h4, v10, v11, .ref h6, v12, v13, v14, v15, v16, v17])), (h3, .inr (0, [v18, v19, .int 2, v20, v21, v22, v23])), (h4, .inl (a1, 48, .inl f1)), (h5, .inl (a2, 48, .inr (.inl f2))), (h6, .inr (4, [v24, .int 0, v25]))] H := hP
  have hD : va_D A [(h0, .inr (5, [v0, v1, v2, .ref h2, v3, v4, v5, v6, v7, v8])), (h1, .inl (a0, 1, .inr (.inl f0))), (h2, .inr (1, [.ref h3, v9, .ref h5, .ref h4, v10, v11, .ref h6, v12, v13, v14, v15, v16, v17])), (h3, .inr (0, [v18, v19, .int 2, v20, v21, v22, v23])), (h4, .inl (a1, 48, .inl f1)), (h5, .inl (a2, 48, .inr (.inl f2))), (h6, .inr (4, [v24, .int 0, v25]))] := hD
  have hK : va_K D vwCl [(a0, .long), (a1, .int), (a2, .long)] s := hK
  refine W.widen (k := 0) (n := 0) (Nat.le_of_ble_eq_true rfl) (Nat.le_of_ble_eq_true rfl) ?_
  refine astL hx hb hK hP hD hS 1 0 rfl rfl 0 (by decide) (vin (by decide)) dL_mean_7 (fun H locs hP hD hS => ?_)
  have hP : va_P D vwCl [(h0, .inr (5, [v0, v1, v2, .ref h2, v3, v4, v5, v6, v7, v8])), (h1, .inl (a0, 1, .inr (.inl (vp_updL f0 0 1)))), (h2, .inr (1, [.ref h3, v9, .ref h5, .ref h4, v10, v11, .ref h6, v12, v13, v14, v15, v16, v17])), (h3, .inr (0, [v18, v19, .int 2, v20, v21, v22, v23])), (h4, .inl (a1, 48, .inl f1)), (h5, .inl (a2, 48, .inr (.inl f2))), (h6, .inr (4, [v24, .int 0, v25]))] H := hP
  have hD : va_D A [(h0, .inr (5, [v0, v1, v2, .ref h2, v3, v4, v5, v6, v7, v8])), (h1, .inl (a0, 1, .inr (.inl (vp_updL f0 0 1)))), (h2, .inr (1, [.ref h3, v9, .ref h5, .ref h4, v10, v11, .ref h6, v12, v13, v14, v15, v16, v17])), (h3, .inr (0, [v18, v19, .int 2, v20, v21, v22, v23])), (h4, .inl (a1, 48, .inl f1)), (h5, .inl (a2, 48, .inr (.inl f2))), (h6, .inr (4, [v24, .int 0, v25]))] := hD
  refine lv_goto (tgt := 14) hx hb dL_mean_8 (by decide) ?_
  refine lv_iconst (v := 0) hx hb dL_mean_14 (by decide) ?_
  exact fi hx hb hr hlocks hP hD hK hS (()) trivial rfl [0, 1, 2, 3, 4, 5, 6] [0, 1, 2] rfl (by decide) rfl (Nat.le_of_ble_eq_true rfl) (Nat.le_of_ble_eq_true rfl) dL_mean_15
set_option maxHeartbeats 4000000 in
set_option maxRecDepth 100000 in
theorem cL_mean_653 (l : Launch) (D : va_G) (hlt : l.stackTraces = false) (h0 : Nat) (x0 : Int32) (h1 : Nat) (v0 : Value) (v1 : Value) (v2 : Value) (v3 : Value) (v4 : Value) (v5 : Value) (v6 : Value) (v7 : Value) (v8 : Value) (v9 : Value)  (d0 : ¬ (x0 < 0)) (d1 : ¬ (x0 ≤ 1)) : CH l yL_mean cL_mean 4 (some .int) [(0, 8, 11, 19)] { frames := 8, cells := 1, slots := 6, locals := 137 } [.ref h0, .int x0, .ref h1] D [(h0, .inr (5, [v0, v1, v2, v3, v4, v5, v6, v7, v8, v9]))] [] XX [] (ei (fun _ : Unit => True) (fun _ => 1) (fun _ => []) (fun _ => []) D) 1 6 := by
  refine CH.ofR (by decide +kernel) (Nat.le_of_ble_eq_true rfl) ?_
  intro p e s m below meth c A ls hcs htab hP hK hD hX hA hS hl
  obtain ⟨hx, hb, hr, hml, hown, hg, hlocks, hin⟩ := hcs
  have hown : s.vm.findClass RL = some m.cls := hown
  have hl : lv_has ls 4 [(0, .ref h0), (1, .int x0), (2, .ref h1)] := hl
  refine lv_aload_n hx hb dL_mean_0 rfl (lv_at hl 2 rfl) ?_
  refine lv_iconst (v := 0) hx hb dL_mean_1 (by decide) ?_
  refine lv_aload_n hx hb dL_mean_2 rfl (lv_at hl 0 rfl) ?_
  refine lv_iload_n hx hb dL_mean_3 rfl (lv_at hl 1 rfl) ?_
  refine hVl (n := 1) (As := [.int x0]) (rest := [.int 0, .ref h1]) hx hb hml hown hg okXX (cX5_mean_414 l D hlt h0 x0 d0 d1) (mwV k905 k906 k907 k84 k908) ⟨rfl, by decide, by decide, by decide +kernel⟩ ⟨rfl, rfl, (Nat.le_of_ble_eq_true rfl), (Nat.le_of_ble_eq_true rfl)⟩ hP hD hK hS (okXX.2.2 _ _ _ _ hS.2.1 hX) [] [] rfl (by decide) rfl (aNil hA hS) 0 rfl rfl rfl hl.1 rfl (Nat.le_of_ble_eq_true rfl) dL_mean_4 ⟨(Nat.le_of_ble_eq_true rfl), (Nat.le_of_ble_eq_true rfl)⟩ [] { startPc := 0, endPc := 8, handlerPc := 11, catchType := 19 } [] (htab.trans rfl) (fun z hz => nomatch hz) (by decide) (by decide) (hg _ k684) (XX_cIAE hX) (fun q9 H locs hS hk => ?_)
  have hP : va_P D vwCl [] H := pNil
  have hD : va_D (fun _ => True) [] := dNil
  have hK : va_K D vwCl [] s := hK.sub [] rfl
  refine W.widen (k := 1) (n := 6) (Nat.le_of_ble_eq_true rfl) (Nat.le_of_ble_eq_true rfl) ?_
  refine lv_astore_n (lv' := [(3, .ref q9), (0, .ref h0), (1, .int x0), (2, .ref h1)]) hx hb dL_mean_11 rfl hl (by decide) rfl (fun ls hl => ?_)
  refine lv_iconst (v := 1) hx hb dL_mean_12 (by decide) ?_
  exact fi0 hx hb hr hlocks hK hS (Nat.le_of_ble_eq_true rfl) (Nat.le_of_ble_eq_true rfl) dL_mean_13
set_option maxHeartbeats 4000000 in
set_option maxRecDepth 100000 in
theorem cL_largest_654 (l : Launch) (D : va_G) (hlt : l.stackTraces = false) (h0 : Nat) (x0 : Int32) (h1 : Nat) (h2 : Nat) (v0 : Value) (v1 : Value) (v2 : Value) (v3 : Value) (v4 : Value) (v5 : Value) (v6 : Value) (v7 : Value) (v8 : Value) (v9 : Value) (v10 : Value) (v11 : Value) (v12 : Value) (v13 : Value) (v14 : Value) (v15 : Value) (v16 : Value) (v17 : Value) (v18 : Value) (v19 : Value) (v20 : Value)  (d0 : x0 < 0) : CH l yL_largest cL_largest 4 (some .int) [(0, 9, 12, 13)] { frames := 8, cells := 1, slots := 6, locals := 132 } [.ref h0, .int x0, .ref h1] D [(h0, .inr (5, [v0, v1, v2, .ref h2, v3, v4, v5, v6, v7, v8])), (h2, .inr (1, [v9, v10, v11, v12, v13, .int 0, v14, v15, v16, v17, v18, v19, v20]))] [] XX [] (ei (fun _ : Unit => True) (fun _ => 1) (fun _ => []) (fun _ => []) D) 1 6 := by
  refine CH.ofR (by decide +kernel) (Nat.le_of_ble_eq_true rfl) ?_
  intro p e s m below meth c A ls hcs htab hP hK hD hX hA hS hl
  obtain ⟨hx, hb, hr, hml, hown, hg, hlocks, hin⟩ := hcs
  have hown : s.vm.findClass RL = some m.cls := hown
  have hl : lv_has ls 4 [(0, .ref h0), (1, .int x0), (2, .ref h1)] := hl
  refine lv_aload_n hx hb dL_largest_0 rfl (lv_at hl 2 rfl) ?_
  refine lv_iconst (v := 0) hx hb dL_largest_1 (by decide) ?_
  refine lv_aload_n hx hb dL_largest_2 rfl (lv_at hl 0 rfl) ?_
  refine lv_iload_n hx hb dL_largest_3 rfl (lv_at hl 1 rfl) ?_
  refine hVi (n := 1) (As := [.int x0]) (rest := [.int 0, .ref h1]) hx hb hml hown hg okXX (cX5_largest_425 l D hlt h0 x0 h2 v0 v1 v2 v3 v4 v5 v6 v7 v8 v9 v10 v11 v12 v13 v14 v15 v16 v17 v18 v19 v20 d0) (mwV k930 k931 k932 k84 k933) ⟨rfl, by decide, by decide, by decide +kernel⟩ ⟨rfl, rfl, (Nat.le_of_ble_eq_true rfl), (Nat.le_of_ble_eq_true rfl)⟩ hP hD hK hS (okXX.2.2 _ _ _ _ hS.2.1 hX) [0, 1] [] rfl (by decide) rfl (aNil hA hS) 0 rfl rfl rfl hl.1 rfl (Nat.le_of_ble_eq_true rfl) dL_largest_4 ⟨(Nat.le_of_ble_eq_true rfl), (Nat.le_of_ble_eq_true rfl)⟩ [] { startPc := 0, endPc := 9, handlerPc := 12, catchType := 13 } [] (htab.trans rfl) (fun z hz => nomatch hz) (by decide) (by decide) (hg _ k605) (XX_cIOOBE hX) (fun q9 H locs hS hk => ?_)
  have hP : va_P D vwCl [] H := pNil
  have hD : va_D (fun _ => True) [] := dNil
  have hK : va_K D vwCl [] s := hK.sub [] rfl
  refine W.widen (k := 1) (n := 6) (Nat.le_of_ble_eq_true rfl) (Nat.le_of_ble_eq_true rfl) ?_
  refine lv_astore_n (lv' := [(3, .ref q9), (0, .ref h0), (1, .int x0), (2, .ref h1)]) hx hb dL_largest_12 rfl hl (by decide) rfl (fun ls hl => ?_)
  refine lv_iconst (v := 1) hx hb dL_largest_13 (by decide) ?_
  exact fi0 hx hb hr hlocks hK hS (Nat.le_of_ble_eq_true rfl) (Nat.le_of_ble_eq_true rfl) dL_largest_14
set_option maxHeartbeats 4000000 in
set_option maxRecDepth 100000 in
theorem cL_largest_655 (l : Launch) (D : va_G) (hlt : l.stackTraces = false) (h0 : Nat) (x0 : Int32) (h1 : Nat) (h2 : Nat) (v0 : Value) (v1 : Value) (v2 : Value) (v3 : Value) (v4 : Value) (v5 : Value) (v6 : Value) (v7 : Value) (v8 : Value) (v9 : Value) (v10 : Value) (v11 : Value) (v12 : Value) (v13 : Value) (v14 : Value) (v15 : Value) (v16 : Value) (v17 : Value) (v18 : Value) (v19 : Value) (v20 : Value)  (d0 : ¬ (x0 < 0)) : CH l yL_largest cL_largest 4 (some .int) [(0, 9, 12, 13)] { frames := 8, cells := 1, slots := 6, locals := 132 } [.ref h0, .int x0, .ref h1] D [(h0, .inr (5, [v0, v1, v2, .ref h2, v3, v4, v5, v6, v7, v8])), (h2, .inr (1, [v9, v10, v11, v12, v13, .int 0, v14, v15, v16, v17, v18, v19, v20]))] [] XX [] (ei (fun _ : Unit => True) (fun _ => 1) (fun _ => []) (fun _ => []) D) 1 6 := by
  refine CH.ofR (by decide +kernel) (Nat.le_of_ble_eq_true rfl) ?_
  intro p e s m below meth c A ls hcs htab hP hK hD hX hA hS hl
  obtain ⟨hx, hb, hr, hml, hown, hg, hlocks, hin⟩ := hcs
  have hown : s.vm.findClass RL = some m.cls := hown
  have hl : lv_has ls 4 [(0, .ref h0), (1, .int x0), (2, .ref h1)] := hl
  refine lv_aload_n hx hb dL_largest_0 rfl (lv_at hl 2 rfl) ?_
  refine lv_iconst (v := 0) hx hb dL_largest_1 (by decide) ?_
  refine lv_aload_n hx hb dL_largest_2 rfl (lv_at hl 0 rfl) ?_
  refine lv_iload_n hx hb dL_largest_3 rfl (lv_at hl 1 rfl) ?_
  refine hVi (n := 1) (As := [.int x0]) (rest := [.int 0, .ref h1]) hx hb hml hown hg okXX (cX5_largest_426 l D hlt h0 x0 h2 v0 v1 v2 v3 v4 v5 v6 v7 v8 v9 v10 v11 v12 v13 v14 v15 v16 v17 v18 v19 v20 d0) (mwV k930 k931 k932 k84 k933) ⟨rfl, by decide, by decide, by decide +kernel⟩ ⟨rfl, rfl, (Nat.le_of_ble_eq_true rfl), (Nat.le_of_ble_eq_true rfl)⟩ hP hD hK hS (okXX.2.2 _ _ _ _ hS.2.1 hX) [0, 1] [] rfl (by decide) rfl (aNil hA hS) 0 rfl rfl rfl hl.1 rfl (Nat.le_of_ble_eq_true rfl) dL_largest_4 ⟨(Nat.le_of_ble_eq_true rfl), (Nat.le_of_ble_eq_true rfl)⟩ [] { startPc := 0, endPc := 9, handlerPc := 12, catchType := 13 } [] (htab.trans rfl) (fun z hz => nomatch hz) (by decide) (by decide) (hg _ k605) (XX_cIOOBE hX) (fun q9 H locs hS hk => ?_)
  have hP : va_P D vwCl [] H := pNil
  have hD : va_D (fun _ => True) [] := dNil
  have hK : va_K D vwCl [] s := hK.sub [] rfl
  refine W.widen (k := 1) (n := 6) (Nat.le_of_ble_eq_true rfl) (Nat.le_of_ble_eq_true rfl) ?_
  refine lv_astore_n (lv' := [(3, .ref q9), (0, .ref h0), (1, .int x0), (2, .ref h1)]) hx hb dL_largest_12 rfl hl (by decide) rfl (fun ls hl => ?_)
  refine lv_iconst (v := 1) hx hb dL_largest_13 (by decide) ?_
  exact fi0 hx hb hr hlocks hK hS (Nat.le_of_ble_eq_true rfl) (Nat.le_of_ble_eq_true rfl) dL_largest_14
set_option maxHeartbeats 4000000 in
set_option maxRecDepth 100000 in
theorem cL_next_656 (l : Launch) (D : va_G) (hlt : l.stackTraces = false) (h0 : Nat) (h1 : Nat) (h2 : Nat) (h3 : Nat) (v0 : Value) (v1 : Value) (v2 : Value) (v3 : Value) (v4 : Value) (v5 : Value) (v6 : Value) (v7 : Value) (v8 : Value) (v9 : Value) (v10 : Value) (v11 : Value) (v12 : Value) (v13 : Value) (v14 : Value) (v15 : Value) (v16 : Value) (v17 : Value) (v18 : Value) (v19 : Value) (v20 : Value) (v21 : Value) (v22 : Value) (v23 : Value) (v24 : Value)   : CH l yL_next cL_next 3 (some .int) [(0, 8, 11, 51)] { frames := 7, cells := 1, slots := 6, locals := 111 } [.ref h0, .ref h1] D [(h0, .inr (5, [v0, v1, v2, .ref h2, v3, v4, v5, v6, v7, v8])), (h2, .inr (1, [.ref h3, v9, v10, v11, v12, .int 0, v13, v14, v15, v16, v17, v18, v19])), (h3, .inr (0, [v20, v21, .int 2, v22, v23, v24, .int 2]))] [] XX [] (ei (fun _ : Unit => True) (fun _ => 1) (fun _ => []) (fun _ => []) D) 1 6 := by
  refine CH.ofR (by decide +kernel) (Nat.le_of_ble_eq_true rfl) ?_
  intro p e s m below meth c A ls hcs htab hP hK hD hX hA hS hl
  obtain ⟨hx, hb, hr, hml, hown, hg, hlocks, hin⟩ := hcs
  have hown : s.vm.findClass RL = some m.cls := hown
  have hl : lv_has ls 3 [(0, .ref h0), (1, .ref h1)] := hl
  refine lv_aload_n hx hb dL_next_0 rfl (lv_at hl 1 rfl) ?_
  refine lv_iconst (v := 0) hx hb dL_next_1 (by decide) ?_
  refine lv_aload_n hx hb dL_next_2 rfl (lv_at hl 0 rfl) ?_
  refine hVi (n := 0) (As := []) (rest := [.int 0, .ref h1]) hx hb hml hown hg okXX (cX5_next_427 l D hlt h0 h2 h3 v0 v1 v2 v3 v4 v5 v6 v7 v8 v9 v10 v11 v12 v13 v14 v15 v16 v17 v18 v19 v20 v21 v22 v23 v24) (mwV k946 k947 k948 k84 k949) ⟨rfl, by decide, by decide, by decide +kernel⟩ ⟨rfl, rfl, (Nat.le_of_ble_eq_true rfl), (Nat.le_of_ble_eq_true rfl)⟩ hP hD hK hS (okXX.2.2 _ _ _ _ hS.2.1 hX) [0, 1, 2] [] rfl (by decide) rfl (aNil hA hS) 0 rfl rfl rfl hl.1 rfl (Nat.le_of_ble_eq_true rfl) dL_next_3 ⟨(Nat.le_of_ble_eq_true rfl), (Nat.le_of_ble_eq_true rfl)⟩ [] { startPc := 0, endPc := 8, handlerPc := 11, catchType := 51 } [] (htab.trans rfl) (fun z hz => nomatch hz) (by decide) (by decide) (hg _ k945) (XX_cNSEE hX) (fun q9 H locs hS hk => ?_)
  have hP : va_P D vwCl [] H := pNil
  have hD : va_D (fun _ => True) [] := dNil
  have hK : va_K D vwCl [] s := hK.sub [] rfl
  refine W.widen (k := 1) (n := 6) (Nat.le_of_ble_eq_true rfl) (Nat.le_of_ble_eq_true rfl) ?_
  refine lv_astore_n (lv' := [(2, .ref q9), (0, .ref h0), (1, .ref h1)]) hx hb dL_next_11 rfl hl (by decide) rfl (fun ls hl => ?_)
  refine lv_iconst (v := 1) hx hb dL_next_12 (by decide) ?_
  exact fi0 hx hb hr hlocks hK hS (Nat.le_of_ble_eq_true rfl) (Nat.le_of_ble_eq_true rfl) dL_next_13
set_option maxHeartbeats 4000000 in
set_option maxRecDepth 100000 in
theorem cL_setSplit_657 (l : Launch) (D : va_G) (hlt : l.stackTraces = false) (h0 : Nat) (x0 : Int32) (h1 : Nat) (v0 : Value) (v1 : Value) (v2 : Value) (v3 : Value) (v4 : Value) (v5 : Value) (v6 : Value) (v7 : Value) (v8 : Value) (v9 : Value)  (d0 : x0 < 0) : CH l yL_setSplit cL_setSplit 4 (some .int) [(0, 9, 12, 19)] { frames := 8, cells := 1, slots := 6, locals := 134 } [.ref h0, .int x0, .ref h1] D [(h0, .inr (5, [v0, v1, v2, v3, v4, v5, v6, v7, v8, v9]))] [] XX [] (ei (fun _ : Unit => True) (fun _ => 1) (fun _ => []) (fun _ => []) D) 1 6 := by
  refine CH.ofR (by decide +kernel) (Nat.le_of_ble_eq_true rfl) ?_
  intro p e s m below meth c A ls hcs htab hP hK hD hX hA hS hl
  obtain ⟨hx, hb, hr, hml, hown, hg, hlocks, hin⟩ := hcs
  have hown : s.vm.findClass RL = some m.cls := hown
  have hl : lv_has ls 4 [(0, .ref h0), (1, .int x0), (2, .ref h1)] := hl
  refine lv_aload_n hx hb dL_setSplit_0 rfl (lv_at hl 2 rfl) ?_
  refine lv_iconst (v := 0) hx hb dL_setSplit_1 (by decide) ?_
  refine lv_aload_n hx hb dL_setSplit_2 rfl (lv_at hl 0 rfl) ?_
  refine lv_iload_n hx hb dL_setSplit_3 rfl (lv_at hl 1 rfl) ?_
  refine hVi (n := 1) (As := [.int x0]) (rest := [.int 0, .ref h1]) hx hb hml hown hg okXX (cX5_setSplit_429 l D hlt h0 x0 d0) (mwV k970 k971 k972 k84 k973) ⟨rfl, by decide, by decide, by decide +kernel⟩ ⟨rfl, rfl, (Nat.le_of_ble_eq_true rfl), (Nat.le_of_ble_eq_true rfl)⟩ hP hD hK hS (okXX.2.2 _ _ _ _ hS.2.1 hX) [] [] rfl (by decide) rfl (aNil hA hS) 0 rfl rfl rfl hl.1 rfl (Nat.le_of_ble_eq_true rfl) dL_setSplit_4 ⟨(Nat.le_of_ble_eq_true rfl), (Nat.le_of_ble_eq_true rfl)⟩ [] { startPc := 0, endPc := 9, handlerPc := 12, catchType := 19 } [] (htab.trans rfl) (fun z hz => nomatch hz) (by decide) (by decide) (hg _ k684) (XX_cIAE hX) (fun q9 H locs hS hk => ?_)
  have hP : va_P D vwCl [] H := pNil
  have hD : va_D (fun _ => True) [] := dNil
  have hK : va_K D vwCl [] s := hK.sub [] rfl
  refine W.widen (k := 1) (n := 6) (Nat.le_of_ble_eq_true rfl) (Nat.le_of_ble_eq_true rfl) ?_
  refine lv_astore_n (lv' := [(3, .ref q9), (0, .ref h0), (1, .int x0), (2, .ref h1)]) hx hb dL_setSplit_12 rfl hl (by decide) rfl (fun ls hl => ?_)
  refine lv_iconst (v := 1) hx hb dL_setSplit_13 (by decide) ?_
  exact fi0 hx hb hr hlocks hK hS (Nat.le_of_ble_eq_true rfl) (Nat.le_of_ble_eq_true rfl) dL_setSplit_14
set_option maxHeartbeats 4000000 in
set_option maxRecDepth 100000 in
theorem cL_setSplit_658 (l : Launch) (D : va_G) (h0 : Nat) (h1 : Nat) (h2 : Nat) (v0 : Value) (v1 : Value) (v2 : Value) (v3 : Value) (v4 : Value) (v5 : Value) (v6 : Value) (v7 : Value) (v8 : Value) (f0 : Nat → Int64) (v9 : Value) (v10 : Value) (v11 : Value) (v12 : Value) (v13 : Value) (v14 : Value) (v15 : Value) (v16 : Value) (v17 : Value) (v18 : Value) (v19 : Value) (v20 : Value) (a0 : ClassId)   : CH l yL_setSplit cL_setSplit 4 (some .int) [(0, 9, 12, 19)] { frames := 2, cells := 0, slots := 0, locals := 44 } [.ref h0, .int 0, .ref h1] D [(h0, .inr (5, [v0, v1, v2, .ref h2, v3, v4, v5, v6, v7, v8])), (h1, .inl (a0, 1, .inr (.inl f0))), (h2, .inr (1, [v9, v10, v11, v12, v13, v14, v15, .int 0, v16, v17, v18, v19, v20]))] [(a0, .long)] XN [(h0, .inr (5, [v0, v1, v2, .ref h2, v3, v4, v5, v6, v7, v8])), (h1, .inl (a0, 1, .inr (.inl f0))), (h2, .inr (1, [v9, v10, v11, v12, v13, v14, v15, .int 0, v16, v17, v18, v19, v20]))] (ei (fun _ : Unit => True) (fun u => 0) (fun _ => [(h0, .inr (5, [v0, v1, v2, .ref h2, v3, v4, v5, v6, v7, v8])), (h1, .inl (a0, 1, .inr (.inl (vp_updL f0 0 0)))), (h2, .inr (1, [v9, v10, v11, v12, v13, v14, v15, .int 0, v16, v17, v18, v19, v20]))]) (fun u => [(a0, .long)]) D) 0 0 := by
  refine CH.ofW (by decide +kernel) (Nat.le_of_ble_eq_true rfl) ?_
  intro p e s m below meth c A ls hcs htab hP hK hD hX hA hS hl
  obtain ⟨hx, hb, hr, hml, hown, hg, hlocks, hin⟩ := hcs
  have hown : s.vm.findClass RL = some m.cls := hown
  have hl : lv_has ls 4 [(0, .ref h0), (1, .int 0), (2, .ref h1)] := hl
  refine lv_aload_n hx hb dL_setSplit_0 rfl (lv_at hl 2 rfl) ?_
  refine lv_iconst (v := 0) hx hb dL_setSplit_1 (by decide) ?_
  refine lv_aload_n hx hb dL_setSplit_2 rfl (lv_at hl 0 rfl) ?_
  refine lv_iload_n hx hb dL_setSplit_3 rfl (lv_at hl 1 rfl) ?_
  refine cVi (n := 1) (As := [.int 0]) (rest := [.int 0, .ref h1]) (wr := [(h1, .inl (a0, 1, .inr (.inl f0)))]) (tr := [(a0, .long)]) hx hb hml hown hg okN (cX5_setSplit_431 l D h0 h2 v0 v1 v2 v3 v4 v5 v6 v7 v8 v9 v10 v11 v12 v13 v14 v15 v16 v17 v18 v19 v20) (mwV k970 k971 k972 k84 k973) ⟨rfl, by decide, by decide, by decide +kernel⟩ ⟨rfl, rfl, (Nat.le_of_ble_eq_true rfl), (Nat.le_of_ble_eq_true rfl)⟩ hP hD hK hS xn [0, 2] [0, 2] [1] [] [0] rfl (by decide) rfl rfl (by decide) (by decide) rfl rfl (va_free hD hS hA [0, 2] rfl) (va_free hD hS hA [0, 2] rfl) 0 rfl rfl rfl hl.1 rfl (Nat.le_of_ble_eq_true rfl) dL_setSplit_4 ⟨(Nat.le_of_ble_eq_true rfl), (Nat.le_of_ble_eq_true rfl)⟩ (fun u H locs hφ hP hD hK hS hk => ?_)
  have hP : va_P D vwCl [(h1, .inl (a0, 1, .inr (.inl f0))), (h0, .inr (5, [v0, v1, v2, .ref h2, v3, v4, v5, v6, v7, v8])), (h2, .inr (1, [v9, v10, v11, v12, v13, v14, v15, .int 0, v16, v17, v18, v19, v20]))] H := hP
  have hD : va_D A [(h1, .inl (a0, 1, .inr (.inl f0))), (h0, .inr (5, [v0, v1, v2, .ref h2, v3, v4, v5, v6, v7, v8])), (h2, .inr (1, [v9, v10, v11, v12, v13, v14, v15, .int 0, v16, v17, v18, v19, v20]))] := hD
  have hK : va_K D vwCl [(a0, .long)] s := hK
  refine W.widen (k := 0) (n := 0) (Nat.le_of_ble_eq_true rfl) (Nat.le_of_ble_eq_true rfl) ?_
  refine lv_i2l (v := 0) hx hb dL_setSplit_7 (by decide) ?_
  refine astL hx hb hK hP hD hS 0 0 rfl rfl 0 (by decide) (vin (by decide)) dL_setSplit_8 (fun H locs hP hD hS => ?_)
  have hP : va_P D vwCl [(h1, .inl (a0, 1, .inr (.inl (vp_updL f0 0 0)))), (h0, .inr (5, [v0, v1, v2, .ref h2, v3, v4, v5, v6, v7, v8])), (h2, .inr (1, [v9, v10, v11, v12, v13, v14, v15, .int 0, v16, v17, v18, v19, v20]))] H := hP
  have hD : va_D A [(h1, .inl (a0, 1, .inr (.inl (vp_updL f0 0 0)))), (h0, .inr (5, [v0, v1, v2, .ref h2, v3, v4, v5, v6, v7, v8])), (h2, .inr (1, [v9, v10, v11, v12, v13, v14, v15, .int 0, v16, v17, v18, v19, v20]))] := hD
  refine lv_goto (tgt := 15) hx hb dL_setSplit_9 (by decide) ?_
  refine lv_iconst (v := 0) hx hb dL_setSplit_15 (by decide) ?_
  exact fi hx hb hr hlocks hP hD hK hS (()) trivial rfl [1, 0, 2] [0] rfl (by decide) rfl (Nat.le_of_ble_eq_true rfl) (Nat.le_of_ble_eq_true rfl) dL_setSplit_16
set_option maxHeartbeats 4000000 in
set_option maxRecDepth 100000 in
theorem cL_setSplit_659 (l : Launch) (D : va_G) (h0 : Nat) (h1 : Nat) (h2 : Nat) (v0 : Value) (v1 : Value) (v2 : Value) (v3 : Value) (v4 : Value) (v5 : Value) (v6 : Value) (v7 : Value) (v8 : Value) (f0 : Nat → Int64) (v9 : Value) (v10 : Value) (v11 : Value) (v12 : Value) (v13 : Value) (v14 : Value) (v15 : Value) (v16 : Value) (v17 : Value) (v18 : Value) (v19 : Value) (v20 : Value) (a0 : ClassId)   : CH l yL_setSplit cL_setSplit 4 (some .int) [(0, 9, 12, 19)] { frames := 2, cells := 0, slots := 0, locals := 44 } [.ref h0, .int 1, .ref h1] D [(h0, .inr (5, [v0, v1, v2, .ref h2, v3, v4, v5, v6, v7, v8])), (h1, .inl (a0, 1, .inr (.inl f0))), (h2, .inr (1, [v9, v10, v11, v12, v13, v14, v15, .int 0, v16, v17, v18, v19, v20]))] [(a0, .long)] XN [(h0, .inr (5, [v0, v1, v2, .ref h2, v3, v4, v5, v6, v7, v8])), (h1, .inl (a0, 1, .inr (.inl f0))), (h2, .inr (1, [v9, v10, v11, v12, v13, v14, v15, .int 0, v16, v17, v18, v19, v20]))] (ei (fun _ : Unit => True) (fun u => 0) (fun _ => [(h0, .inr (5, [v0, v1, v2, .ref h2, v3, v4, v5, v6, v7, v8])), (h1, .inl (a0, 1, .inr (.inl (vp_updL f0 0 0)))), (h2, .inr (1, [v9, v10, v11, v12, v13, v14, v15, .int 1, v16, v17, v18, v19, v20]))]) (fun u => [(a0, .long)]) D) 0 0 := by
  refine CH.ofW (by decide +kernel) (Nat.le_of_ble_eq_true rfl) ?_
  intro p e s m below meth c A ls hcs htab hP hK hD hX hA hS hl
  obtain ⟨hx, hb, hr, hml, hown, hg, hlocks, hin⟩ := hcs
  have hown : s.vm.findClass RL = some m.cls := hown
  have hl : lv_has ls 4 [(0, .ref h0), (1, .int 1), (2, .ref h1)] := hl
  refine lv_aload_n hx hb dL_setSplit_0 rfl (lv_at hl 2 rfl) ?_
  refine lv_iconst (v := 0) hx hb dL_setSplit_1 (by decide) ?_
  refine lv_aload_n hx hb dL_setSplit_2 rfl (lv_at hl 0 rfl) ?_
  refine lv_iload_n hx hb dL_setSplit_3 rfl (lv_at hl 1 rfl) ?_
  refine cVi (n := 1) (As := [.int 1]) (rest := [.int 0, .ref h1]) (wr := [(h1, .inl (a0, 1, .inr (.inl f0)))]) (tr := [(a0, .long)]) hx hb hml hown hg okN (cX5_setSplit_433 l D h0 h2 v0 v1 v2 v3 v4 v5 v6 v7 v8 v9 v10 v11 v12 v13 v14 v15 v16 v17 v18 v19 v20) (mwV k970 k971 k972 k84 k973) ⟨rfl, by decide, by decide, by decide +kernel⟩ ⟨rfl, rfl, (Nat.le_of_ble_eq_true rfl), (Nat.le_of_ble_eq_true rfl)⟩ hP hD hK hS xn [0, 2] [0, 2] [1] [] [0] rfl (by decide) rfl rfl (by decide) (by decide) rfl rfl (va_free hD hS hA [0, 2] rfl) (va_free hD hS hA [0, 2] rfl) 0 rfl rfl rfl hl.1 rfl (Nat.le_of_ble_eq_true rfl) dL_setSplit_4 ⟨(Nat.le_of_ble_eq_true rfl), (Nat.le_of_ble_eq_true rfl)⟩ (fun u H locs hφ hP hD hK hS hk => ?_)
  have hP : va_P D vwCl [(h1, .inl (a0, 1, .inr (.inl f0))), (h0, .inr (5, [v0, v1, v2, .ref h2, v3, v4, v5, v6, v7, v8])), (h2, .inr (1, [v9, v10, v11, v12, v13, v14, v15, .int 1, v16, v17, v18, v19, v20]))] H := hP
  have hD : va_D A [(h1, .inl (a0, 1, .inr (.inl f0))), (h0, .inr (5, [v0, v1, v2, .ref h2, v3, v4, v5, v6, v7, v8])), (h2, .inr (1, [v9, v10, v11, v12, v13, v14, v15, .int 1, v16, v17, v18, v19, v20]))] := hD
  have hK : va_K D vwCl [(a0, .long)] s := hK
  refine W.widen (k := 0) (n := 0) (Nat.le_of_ble_eq_true rfl) (Nat.le_of_ble_eq_true rfl) ?_
  refine lv_i2l (v := 0) hx hb dL_setSplit_7 (by decide) ?_
  refine astL hx hb hK hP hD hS 0 0 rfl rfl 0 (by decide) (vin (by decide)) dL_setSplit_8 (fun H locs hP hD hS => ?_)
  have hP : va_P D vwCl [(h1, .inl (a0, 1, .inr (.inl (vp_updL f0 0 0)))), (h0, .inr (5, [v0, v1, v2, .ref h2, v3, v4, v5, v6, v7, v8])), (h2, .inr (1, [v9, v10, v11, v12, v13, v14, v15, .int 1, v16, v17, v18, v19, v20]))] H := hP
  have hD : va_D A [(h1, .inl (a0, 1, .inr (.inl (vp_updL f0 0 0)))), (h0, .inr (5, [v0, v1, v2, .ref h2, v3, v4, v5, v6, v7, v8])), (h2, .inr (1, [v9, v10, v11, v12, v13, v14, v15, .int 1, v16, v17, v18, v19, v20]))] := hD
  refine lv_goto (tgt := 15) hx hb dL_setSplit_9 (by decide) ?_
  refine lv_iconst (v := 0) hx hb dL_setSplit_15 (by decide) ?_
  exact fi hx hb hr hlocks hP hD hK hS (()) trivial rfl [1, 0, 2] [0] rfl (by decide) rfl (Nat.le_of_ble_eq_true rfl) (Nat.le_of_ble_eq_true rfl) dL_setSplit_16
set_option maxHeartbeats 4000000 in
set_option maxRecDepth 100000 in
theorem cL_setSplit_660 (l : Launch) (D : va_G) (h0 : Nat) (h1 : Nat) (h2 : Nat) (v0 : Value) (v1 : Value) (v2 : Value) (v3 : Value) (v4 : Value) (v5 : Value) (v6 : Value) (v7 : Value) (v8 : Value) (f0 : Nat → Int64) (v9 : Value) (v10 : Value) (v11 : Value) (v12 : Value) (v13 : Value) (v14 : Value) (v15 : Value) (v16 : Value) (v17 : Value) (v18 : Value) (v19 : Value) (v20 : Value) (a0 : ClassId)   : CH l yL_setSplit cL_setSplit 4 (some .int) [(0, 9, 12, 19)] { frames := 2, cells := 0, slots := 0, locals := 44 } [.ref h0, .int 2, .ref h1] D [(h0, .inr (5, [v0, v1, v2, .ref h2, v3, v4, v5, v6, v7, v8])), (h1, .inl (a0, 1, .inr (.inl f0))), (h2, .inr (1, [v9, v10, v11, v12, v13, v14, v15, .int 0, v16, v17, v18, v19, v20]))] [(a0, .long)] XN [(h0, .inr (5, [v0, v1, v2, .ref h2, v3, v4, v5, v6, v7, v8])), (h1, .inl (a0, 1, .inr (.inl f0))), (h2, .inr (1, [v9, v10, v11, v12, v13, v14, v15, .int 0, v16, v17, v18, v19, v20]))] (ei (fun _ : Unit => True) (fun u => 0) (fun _ => [(h0, .inr (5, [v0, v1, v2, .ref h2, v3, v4, v5, v6, v7, v8])), (h1, .inl (a0, 1, .inr (.inl (vp_updL f0 0 0)))), (h2, .inr (1, [v9, v10, v11, v12, v13, v14, v15, .int 2, v16, v17, v18, v19, v20]))]) (fun u => [(a0, .long)]) D) 0 0 := by
  refine CH.ofW (by decide +kernel) (Nat.le_of_ble_eq_true rfl) ?_
  intro p e s m below meth c A ls hcs htab hP hK hD hX hA hS hl
  obtain ⟨hx, hb, hr, hml, hown, hg, hlocks, hin⟩ := hcs
  have hown : s.vm.findClass RL = some m.cls := hown
  have hl : lv_has ls 4 [(0, .ref h0), (1, .int 2), (2, .ref h1)] := hl
  refine lv_aload_n hx hb dL_setSplit_0 rfl (lv_at hl 2 rfl) ?_
  refine lv_iconst (v := 0) hx hb dL_setSplit_1 (by decide) ?_
  refine lv_aload_n hx hb dL_setSplit_2 rfl (lv_at hl 0 rfl) ?_
  refine lv_iload_n hx hb dL_setSplit_3 rfl (lv_at hl 1 rfl) ?_
  refine cVi (n := 1) (As := [.int 2]) (rest := [.int 0, .ref h1]) (wr := [(h1, .inl (a0, 1, .inr (.inl f0)))]) (tr := [(a0, .long)]) hx hb hml hown hg okN (cX5_setSplit_435 l D h0 h2 v0 v1 v2 v3 v4 v5 v6 v7 v8 v9 v10 v11 v12 v13 v14 v15 v16 v17 v18 v19 v20) (mwV k970 k971 k972 k84 k973) ⟨rfl, by decide, by decide, by decide +kernel⟩ ⟨rfl, rfl, (Nat.le_of_ble_eq_true rfl), (Nat.le_of_ble_eq_true rfl)⟩ hP hD hK hS xn [0, 2] [0, 2] [1] [] [0] rfl (by decide) rfl rfl (by decide) (by decide) rfl rfl (va_free hD hS hA [0, 2] rfl) (va_free hD hS hA [0, 2] rfl) 0 rfl rfl rfl hl.1 rfl (Nat.le_of_ble_eq_true rfl) dL_setSplit_4 ⟨(Nat.le_of_ble_eq_true rfl), (Nat.le_of_ble_eq_true rfl)⟩ (fun u H locs hφ hP hD hK hS hk => ?_)
  have hP : va_P D vwCl [(h1, .inl (a0, 1, .inr (.inl f0))), (h0, .inr (5, [v0, v1, v2, .ref h2, v3, v4, v5, v6, v7, v8])), (h2, .inr (1, [v9, v10, v11, v12, v13, v14, v15, .int 2, v16, v17, v18, v19, v20]))] H := hP
  have hD : va_D A [(h1, .inl (a0, 1, .inr (.inl f0))), (h0, .inr (5, [v0, v1, v2, .ref h2, v3, v4, v5, v6, v7, v8])), (h2, .inr (1, [v9, v10, v11, v12, v13, v14, v15, .int 2, v16, v17, v18, v19, v20]))] := hD
  have hK : va_K D vwCl [(a0, .long)] s := hK
  refine W.widen (k := 0) (n := 0) (Nat.le_of_ble_eq_true rfl) (Nat.le_of_ble_eq_true rfl) ?_
  refine lv_i2l (v := 0) hx hb dL_setSplit_7 (by decide) ?_
  refine astL hx hb hK hP hD hS 0 0 rfl rfl 0 (by decide) (vin (by decide)) dL_setSplit_8 (fun H locs hP hD hS => ?_)
  have hP : va_P D vwCl [(h1, .inl (a0, 1, .inr (.inl (vp_updL f0 0 0)))), (h0, .inr (5, [v0, v1, v2, .ref h2, v3, v4, v5, v6, v7, v8])), (h2, .inr (1, [v9, v10, v11, v12, v13, v14, v15, .int 2, v16, v17, v18, v19, v20]))] H := hP
  have hD : va_D A [(h1, .inl (a0, 1, .inr (.inl (vp_updL f0 0 0)))), (h0, .inr (5, [v0, v1, v2, .ref h2, v3, v4, v5, v6, v7, v8])), (h2, .inr (1, [v9, v10, v11, v12, v13, v14, v15, .int 2, v16, v17, v18, v19, v20]))] := hD
  refine lv_goto (tgt := 15) hx hb dL_setSplit_9 (by decide) ?_
  refine lv_iconst (v := 0) hx hb dL_setSplit_15 (by decide) ?_
  exact fi hx hb hr hlocks hP hD hK hS (()) trivial rfl [1, 0, 2] [0] rfl (by decide) rfl (Nat.le_of_ble_eq_true rfl) (Nat.le_of_ble_eq_true rfl) dL_setSplit_16
set_option maxHeartbeats 4000000 in
set_option maxRecDepth 100000 in
theorem cL_setSplit_661 (l : Launch) (D : va_G) (hlt : l.stackTraces = false) (h0 : Nat) (x0 : Int32) (h1 : Nat) (v0 : Value) (v1 : Value) (v2 : Value) (v3 : Value) (v4 : Value) (v5 : Value) (v6 : Value) (v7 : Value) (v8 : Value) (v9 : Value)  (d0 : ¬ (x0 < 0)) (d1 : ¬ (x0 ≤ 2)) : CH l yL_setSplit cL_setSplit 4 (some .int) [(0, 9, 12, 19)] { frames := 8, cells := 1, slots := 6, locals := 134 } [.ref h0, .int x0, .ref h1] D [(h0, .inr (5, [v0, v1, v2, v3, v4, v5, v6, v7, v8, v9]))] [] XX [] (ei (fun _ : Unit => True) (fun _ => 1) (fun _ => []) (fun _ => []) D) 1 6 := by
  refine CH.ofR (by decide +kernel) (Nat.le_of_ble_eq_true rfl) ?_
  intro p e s m below meth c A ls hcs htab hP hK hD hX hA hS hl
  obtain ⟨hx, hb, hr, hml, hown, hg, hlocks, hin⟩ := hcs
  have hown : s.vm.findClass RL = some m.cls := hown
  have hl : lv_has ls 4 [(0, .ref h0), (1, .int x0), (2, .ref h1)] := hl
  refine lv_aload_n hx hb dL_setSplit_0 rfl (lv_at hl 2 rfl) ?_
  refine lv_iconst (v := 0) hx hb dL_setSplit_1 (by decide) ?_
  refine lv_aload_n hx hb dL_setSplit_2 rfl (lv_at hl 0 rfl) ?_
  refine lv_iload_n hx hb dL_setSplit_3 rfl (lv_at hl 1 rfl) ?_
  refine hVi (n := 1) (As := [.int x0]) (rest := [.int 0, .ref h1]) hx hb hml hown hg okXX (cX5_setSplit_437 l D hlt h0 x0 d0 d1) (mwV k970 k971 k972 k84 k973) ⟨rfl, by decide, by decide, by decide +kernel⟩ ⟨rfl, rfl, (Nat.le_of_ble_eq_true rfl), (Nat.le_of_ble_eq_true rfl)⟩ hP hD hK hS (okXX.2.2 _ _ _ _ hS.2.1 hX) [] [] rfl (by decide) rfl (aNil hA hS) 0 rfl rfl rfl hl.1 rfl (Nat.le_of_ble_eq_true rfl) dL_setSplit_4 ⟨(Nat.le_of_ble_eq_true rfl), (Nat.le_of_ble_eq_true rfl)⟩ [] { startPc := 0, endPc := 9, handlerPc := 12, catchType := 19 } [] (htab.trans rfl) (fun z hz => nomatch hz) (by decide) (by decide) (hg _ k684) (XX_cIAE hX) (fun q9 H locs hS hk => ?_)
  have hP : va_P D vwCl [] H := pNil
  have hD : va_D (fun _ => True) [] := dNil
  have hK : va_K D vwCl [] s := hK.sub [] rfl
  refine W.widen (k := 1) (n := 6) (Nat.le_of_ble_eq_true rfl) (Nat.le_of_ble_eq_true rfl) ?_
  refine lv_astore_n (lv' := [(3, .ref q9), (0, .ref h0), (1, .int x0), (2, .ref h1)]) hx hb dL_setSplit_12 rfl hl (by decide) rfl (fun ls hl => ?_)
  refine lv_iconst (v := 1) hx hb dL_setSplit_13 (by decide) ?_
  exact fi0 hx hb hr hlocks hK hS (Nat.le_of_ble_eq_true rfl) (Nat.le_of_ble_eq_true rfl) dL_setSplit_14
set_option maxHeartbeats 4000000 in
set_option maxRecDepth 100000 in
theorem cL_setPredict_662 (l : Launch) (D : va_G) (hlt : l.stackTraces = false) (h0 : Nat) (x0 : Int32) (h1 : Nat) (v0 : Value) (v1 : Value) (v2 : Value) (v3 : Value) (v4 : Value) (v5 : Value) (v6 : Value) (v7 : Value) (v8 : Value) (v9 : Value)  (d0 : x0 < 0) : CH l yL_setPredict cL_setPredict 4 (some .int) [(0, 9, 12, 19)] { frames := 8, cells := 1, slots := 6, locals := 134 } [.ref h0, .int x0, .ref h1] D [(h0, .inr (5, [v0, v1, v2, v3, v4, v5, v6, v7, v8, v9]))] [] XX [] (ei (fun _ : Unit => True) (fun _ => 1) (fun _ => []) (fun _ => []) D) 1 6 := by
  refine CH.ofR (by decide +kernel) (Nat.le_of_ble_eq_true rfl) ?_
  intro p e s m below meth c A ls hcs htab hP hK hD hX hA hS hl
  obtain ⟨hx, hb, hr, hml, hown, hg, hlocks, hin⟩ := hcs
  have hown : s.vm.findClass RL = some m.cls := hown
  have hl : lv_has ls 4 [(0, .ref h0), (1, .int x0), (2, .ref h1)] := hl
  refine lv_aload_n hx hb dL_setPredict_0 rfl (lv_at hl 2 rfl) ?_
  refine lv_iconst (v := 0) hx hb dL_setPredict_1 (by decide) ?_
  refine lv_aload_n hx hb dL_setPredict_2 rfl (lv_at hl 0 rfl) ?_
  refine lv_iload_n hx hb dL_setPredict_3 rfl (lv_at hl 1 rfl) ?_
  refine hVi (n := 1) (As := [.int x0]) (rest := [.int 0, .ref h1]) hx hb hml hown hg okXX (cX5_setPredict_439 l D hlt h0 x0 d0) (mwV k977 k978 k979 k84 k980) ⟨rfl, by decide, by decide, by decide +kernel⟩ ⟨rfl, rfl, (Nat.le_of_ble_eq_true rfl), (Nat.le_of_ble_eq_true rfl)⟩ hP hD hK hS (okXX.2.2 _ _ _ _ hS.2.1 hX) [] [] rfl (by decide) rfl (aNil hA hS) 0 rfl rfl rfl hl.1 rfl (Nat.le_of_ble_eq_true rfl) dL_setPredict_4 ⟨(Nat.le_of_ble_eq_true rfl), (Nat.le_of_ble_eq_true rfl)⟩ [] { startPc := 0, endPc := 9, handlerPc := 12, catchType := 19 } [] (htab.trans rfl) (fun z hz => nomatch hz) (by decide) (by decide) (hg _ k684) (XX_cIAE hX) (fun q9 H locs hS hk => ?_)
  have hP : va_P D vwCl [] H := pNil
  have hD : va_D (fun _ => True) [] := dNil
  have hK : va_K D vwCl [] s := hK.sub [] rfl
  refine W.widen (k := 1) (n := 6) (Nat.le_of_ble_eq_true rfl) (Nat.le_of_ble_eq_true rfl) ?_
  refine lv_astore_n (lv' := [(3, .ref q9), (0, .ref h0), (1, .int x0), (2, .ref h1)]) hx hb dL_setPredict_12 rfl hl (by decide) rfl (fun ls hl => ?_)
  refine lv_iconst (v := 1) hx hb dL_setPredict_13 (by decide) ?_
  exact fi0 hx hb hr hlocks hK hS (Nat.le_of_ble_eq_true rfl) (Nat.le_of_ble_eq_true rfl) dL_setPredict_14
set_option maxHeartbeats 4000000 in
set_option maxRecDepth 100000 in
theorem cL_setPredict_663 (l : Launch) (D : va_G) (h0 : Nat) (h1 : Nat) (h2 : Nat) (v0 : Value) (v1 : Value) (v2 : Value) (v3 : Value) (v4 : Value) (v5 : Value) (v6 : Value) (v7 : Value) (v8 : Value) (f0 : Nat → Int64) (v9 : Value) (v10 : Value) (v11 : Value) (v12 : Value) (v13 : Value) (v14 : Value) (v15 : Value) (v16 : Value) (v17 : Value) (v18 : Value) (v19 : Value) (v20 : Value) (a0 : ClassId)   : CH l yL_setPredict cL_setPredict 4 (some .int) [(0, 9, 12, 19)] { frames := 2, cells := 0, slots := 0, locals := 44 } [.ref h0, .int 0, .ref h1] D [(h0, .inr (5, [v0, v1, v2, .ref h2, v3, v4, v5, v6, v7, v8])), (h1, .inl (a0, 1, .inr (.inl f0))), (h2, .inr (1, [v9, v10, v11, v12, v13, v14, v15, v16, .int 2, v17, v18, v19, v20]))] [(a0, .long)] XN [(h0, .inr (5, [v0, v1, v2, .ref h2, v3, v4, v5, v6, v7, v8])), (h1, .inl (a0, 1, .inr (.inl f0))), (h2, .inr (1, [v9, v10, v11, v12, v13, v14, v15, v16, .int 2, v17, v18, v19, v20]))] (ei (fun _ : Unit => True) (fun u => 0) (fun _ => [(h0, .inr (5, [v0, v1, v2, .ref h2, v3, v4, v5, v6, v7, v8])), (h1, .inl (a0, 1, .inr (.inl (vp_updL f0 0 2)))), (h2, .inr (1, [v9, v10, v11, v12, v13, v14, v15, v16, .int 0, v17, v18, v19, v20]))]) (fun u => [(a0, .long)]) D) 0 0 := by
  refine CH.ofW (by decide +kernel) (Nat.le_of_ble_eq_true rfl) ?_
  intro p e s m below meth c A ls hcs htab hP hK hD hX hA hS hl
  obtain ⟨hx, hb, hr, hml, hown, hg, hlocks, hin⟩ := hcs
  have hown : s.vm.findClass RL = some m.cls := hown
  have hl : lv_has ls 4 [(0, .ref h0), (1, .int 0), (2, .ref h1)] := hl
  refine lv_aload_n hx hb dL_setPredict_0 rfl (lv_at hl 2 rfl) ?_
  refine lv_iconst (v := 0) hx hb dL_setPredict_1 (by decide) ?_
  refine lv_aload_n hx hb dL_setPredict_2 rfl (lv_at hl 0 rfl) ?_
  refine lv_iload_n hx hb dL_setPredict_3 rfl (lv_at hl 1 rfl) ?_
  refine cVi (n := 1) (As := [.int 0]) (rest := [.int 0, .ref h1]) (wr := [(h1, .inl (a0, 1, .inr (.inl f0)))]) (tr := [(a0, .long)]) hx hb hml hown hg okN (cX5_setPredict_440 l D h0 h2 v0 v1 v2 v3 v4 v5 v6 v7 v8 v9 v10 v11 v12 v13 v14 v15 v16 v17 v18 v19 v20) (mwV k977 k978 k979 k84 k980) ⟨rfl, by decide, by decide, by decide +kernel⟩ ⟨rfl, rfl, (Nat.le_of_ble_eq_true rfl), (Nat.le_of_ble_eq_true rfl)⟩ hP hD hK hS xn [0, 2] [0, 2] [1] [] [0] rfl (by decide) rfl rfl (by decide) (by decide) rfl rfl (va_free hD hS hA [0, 2] rfl) (va_free hD hS hA [0, 2] rfl) 0 rfl rfl rfl hl.1 rfl (Nat.le_of_ble_eq_true rfl) dL_setPredict_4 ⟨(Nat.le_of_ble_eq_true rfl), (Nat.le_of_ble_eq_true rfl)⟩ (fun u H locs hφ hP hD hK hS hk => ?_)
  have hP : va_P D vwCl [(h1, .inl (a0, 1, .inr (.inl f0))), (h0, .inr (5, [v0, v1, v2, .ref h2, v3, v4, v5, v6, v7, v8])), (h2, .inr (1, [v9, v10, v11, v12, v13, v14, v15, v16, .int 0, v17, v18, v19, v20]))] H := hP
  have hD : va_D A [(h1, .inl (a0, 1, .inr (.inl f0))), (h0, .inr (5, [v0, v1, v2, .ref h2, v3, v4, v5, v6, v7, v8])), (h2, .inr (1, [v9, v10, v11, v12, v13, v14, v15, v16, .int 0, v17, v18, v19, v20]))] := hD
  have hK : va_K D vwCl [(a0, .long)] s := hK
  refine W.widen (k := 0) (n := 0) (Nat.le_of_ble_eq_true rfl) (Nat.le_of_ble_eq_true rfl) ?_
  refine lv_i2l (v := 2) hx hb dL_setPredict_7 (by decide) ?_
  refine astL hx hb hK hP hD hS 0 0 rfl rfl 0 (by decide) (vin (by decide)) dL_setPredict_8 (fun H locs hP hD hS => ?_)
  have hP : va_P D vwCl [(h1, .inl (a0, 1, .inr (.inl (vp_updL f0 0 2)))), (h0, .inr (5, [v0, v1, v2, .ref h2, v3, v4, v5, v6, v7, v8])), (h2, .inr (1, [v9, v10, v11, v12, v13, v14, v15, v16, .int 0, v17, v18, v19, v20]))] H := hP
  have hD : va_D A [(h1, .inl (a0, 1, .inr (.inl (vp_updL f0 0 2)))), (h0, .inr (5, [v0, v1, v2, .ref h2, v3, v4, v5, v6, v7, v8])), (h2, .inr (1, [v9, v10, v11, v12, v13, v14, v15, v16, .int 0, v17, v18, v19, v20]))] := hD
  refine lv_goto (tgt := 15) hx hb dL_setPredict_9 (by decide) ?_
  refine lv_iconst (v := 0) hx hb dL_setPredict_15 (by decide) ?_
  exact fi hx hb hr hlocks hP hD hK hS (()) trivial rfl [1, 0, 2] [0] rfl (by decide) rfl (Nat.le_of_ble_eq_true rfl) (Nat.le_of_ble_eq_true rfl) dL_setPredict_16
set_option maxHeartbeats 4000000 in
set_option maxRecDepth 100000 in
theorem cL_setPredict_664 (l : Launch) (D : va_G) (h0 : Nat) (h1 : Nat) (h2 : Nat) (v0 : Value) (v1 : Value) (v2 : Value) (v3 : Value) (v4 : Value) (v5 : Value) (v6 : Value) (v7 : Value) (v8 : Value) (f0 : Nat → Int64) (v9 : Value) (v10 : Value) (v11 : Value) (v12 : Value) (v13 : Value) (v14 : Value) (v15 : Value) (v16 : Value) (v17 : Value) (v18 : Value) (v19 : Value) (v20 : Value) (a0 : ClassId)   : CH l yL_setPredict cL_setPredict 4 (some .int) [(0, 9, 12, 19)] { frames := 2, cells := 0, slots := 0, locals := 44 } [.ref h0, .int 1, .ref h1] D [(h0, .inr (5, [v0, v1, v2, .ref h2, v3, v4, v5, v6, v7, v8])), (h1, .inl (a0, 1, .inr (.inl f0))), (h2, .inr (1, [v9, v10, v11, v12, v13, v14, v15, v16, .int 2, v17, v18, v19, v20]))] [(a0, .long)] XN [(h0, .inr (5, [v0, v1, v2, .ref h2, v3, v4, v5, v6, v7, v8])), (h1, .inl (a0, 1, .inr (.inl f0))), (h2, .inr (1, [v9, v10, v11, v12, v13, v14, v15, v16, .int 2, v17, v18, v19, v20]))] (ei (fun _ : Unit => True) (fun u => 0) (fun _ => [(h0, .inr (5, [v0, v1, v2, .ref h2, v3, v4, v5, v6, v7, v8])), (h1, .inl (a0, 1, .inr (.inl (vp_updL f0 0 2)))), (h2, .inr (1, [v9, v10, v11, v12, v13, v14, v15, v16, .int 1, v17, v18, v19, v20]))]) (fun u => [(a0, .long)]) D) 0 0 := by
  refine CH.ofW (by decide +kernel) (Nat.le_of_ble_eq_true rfl) ?_
  intro p e s m below meth c A ls hcs htab hP hK hD hX hA hS hl
  obtain ⟨hx, hb, hr, hml, hown, hg, hlocks, hin⟩ := hcs
  have hown : s.vm.findClass RL = some m.cls := hown
  have hl : lv_has ls 4 [(0, .ref h0), (1, .int 1), (2, .ref h1)] := hl
  refine lv_aload_n hx hb dL_setPredict_0 rfl (lv_at hl 2 rfl) ?_
  refine lv_iconst (v := 0) hx hb dL_setPredict_1 (by decide) ?_
  refine lv_aload_n hx hb dL_setPredict_2 rfl (lv_at hl 0 rfl) ?_
  refine lv_iload_n hx hb dL_setPredict_3 rfl (lv_at hl 1 rfl) ?_
  refine cVi (n := 1) (As := [.int 1]) (rest := [.int 0, .ref h1]) (wr := [(h1, .inl (a0, 1, .inr (.inl f0)))]) (tr := [(a0, .long)]) hx hb hml hown hg okN (cX5_setPredict_441 l D h0 h2 v0 v1 v2 v3 v4 v5 v6 v7 v8 v9 v10 v11 v12 v13 v14 v15 v16 v17 v18 v19 v20) (mwV k977 k978 k979 k84 k980) ⟨rfl, by decide, by decide, by decide +kernel⟩ ⟨rfl, rfl, (Nat.le_of_ble_eq_true rfl), (Nat.le_of_ble_eq_true rfl)⟩ hP hD hK hS xn [0, 2] [0, 2] [1] [] [0] rfl (by decide) rfl rfl (by decide) (by decide) rfl rfl (va_free hD hS hA [0, 2] rfl) (va_free hD hS hA [0, 2] rfl) 0 rfl rfl rfl hl.1 rfl (Nat.le_of_ble_eq_true rfl) dL_setPredict_4 ⟨(Nat.le_of_ble_eq_true rfl), (Nat.le_of_ble_eq_true rfl)⟩ (fun u H locs hφ hP hD hK hS hk => ?_)
  have hP : va_P D vwCl [(h1, .inl (a0, 1, .inr (.inl f0))), (h0, .inr (5, [v0, v1, v2, .ref h2, v3, v4, v5, v6, v7, v8])), (h2, .inr (1, [v9, v10, v11, v12, v13, v14, v15, v16, .int 1, v17, v18, v19, v20]))] H := hP
  have hD : va_D A [(h1, .inl (a0, 1, .inr (.inl f0))), (h0, .inr (5, [v0, v1, v2, .ref h2, v3, v4, v5, v6, v7, v8])), (h2, .inr (1, [v9, v10, v11, v12, v13, v14, v15, v16, .int 1, v17, v18, v19, v20]))] := hD
  have hK : va_K D vwCl [(a0, .long)] s := hK
  refine W.widen (k := 0) (n := 0) (Nat.le_of_ble_eq_true rfl) (Nat.le_of_ble_eq_true rfl) ?_
  refine lv_i2l (v := 2) hx hb dL_setPredict_7 (by decide) ?_
  refine astL hx hb hK hP hD hS 0 0 rfl rfl 0 (by decide) (vin (by decide)) dL_setPredict_8 (fun H locs hP hD hS => ?_)
  have hP : va_P D vwCl [(h1, .inl (a0, 1, .inr (.inl (vp_updL f0 0 2)))), (h0, .inr (5, [v0, v1, v2, .ref h2, v3, v4, v5, v6, v7, v8])), (h2, .inr (1, [v9, v10, v11, v12, v13, v14, v15, v16, .int 1, v17, v18, v19, v20]))] H := hP
  have hD : va_D A [(h1, .inl (a0, 1, .inr (.inl (vp_updL f0 0 2)))), (h0, .inr (5, [v0, v1, v2, .ref h2, v3, v4, v5, v6, v7, v8])), (h2, .inr (1, [v9, v10, v11, v12, v13, v14, v15, v16, .int 1, v17, v18, v19, v20]))] := hD
  refine lv_goto (tgt := 15) hx hb dL_setPredict_9 (by decide) ?_
  refine lv_iconst (v := 0) hx hb dL_setPredict_15 (by decide) ?_
  exact fi hx hb hr hlocks hP hD hK hS (()) trivial rfl [1, 0, 2] [0] rfl (by decide) rfl (Nat.le_of_ble_eq_true rfl) (Nat.le_of_ble_eq_true rfl) dL_setPredict_16
set_option maxHeartbeats 4000000 in
set_option maxRecDepth 100000 in
theorem cL_setPredict_665 (l : Launch) (D : va_G) (h0 : Nat) (h1 : Nat) (h2 : Nat) (v0 : Value) (v1 : Value) (v2 : Value) (v3 : Value) (v4 : Value) (v5 : Value) (v6 : Value) (v7 : Value) (v8 : Value) (f0 : Nat → Int64) (v9 : Value) (v10 : Value) (v11 : Value) (v12 : Value) (v13 : Value) (v14 : Value) (v15 : Value) (v16 : Value) (v17 : Value) (v18 : Value) (v19 : Value) (v20 : Value) (a0 : ClassId)   : CH l yL_setPredict cL_setPredict 4 (some .int) [(0, 9, 12, 19)] { frames := 2, cells := 0, slots := 0, locals := 44 } [.ref h0, .int 2, .ref h1] D [(h0, .inr (5, [v0, v1, v2, .ref h2, v3, v4, v5, v6, v7, v8])), (h1, .inl (a0, 1, .inr (.inl f0))), (h2, .inr (1, [v9, v10, v11, v12, v13, v14, v15, v16, .int 2, v17, v18, v19, v20]))] [(a0, .long)] XN [(h0, .inr (5, [v0, v1, v2, .ref h2, v3, v4, v5, v6, v7, v8])), (h1, .inl (a0, 1, .inr (.inl f0))), (h2, .inr (1, [v9, v10, v11, v12, v13, v14, v15, v16, .int 2, v17, v18, v19, v20]))] (ei (fun _ : Unit => True) (fun u => 0) (fun _ => [(h0, .inr (5, [v0, v1, v2, .ref h2, v3, v4, v5, v6, v7, v8])), (h1, .inl (a0, 1, .inr (.inl (vp_updL f0 0 2)))), (h2, .inr (1, [v9, v10, v11, v12, v13, v14, v15, v16, .int 2, v17, v18, v19, v20]))]) (fun u => [(a0, .long)]) D) 0 0 := by
  refine CH.ofW (by decide +kernel) (Nat.le_of_ble_eq_true rfl) ?_
  intro p e s m below meth c A ls hcs htab hP hK hD hX hA hS hl
  obtain ⟨hx, hb, hr, hml, hown, hg, hlocks, hin⟩ := hcs
  have hown : s.vm.findClass RL = some m.cls := hown
  have hl : lv_has ls 4 [(0, .ref h0), (1, .int 2), (2, .ref h1)] := hl
  refine lv_aload_n hx hb dL_setPredict_0 rfl (lv_at hl 2 rfl) ?_
  refine lv_iconst (v := 0) hx hb dL_setPredict_1 (by decide) ?_
  refine lv_aload_n hx hb dL_setPredict_2 rfl (lv_at hl 0 rfl) ?_
  refine lv_iload_n hx hb dL_setPredict_3 rfl (lv_at hl 1 rfl) ?_
  refine cVi (n := 1) (As := [.int 2]) (rest := [.int 0, .ref h1]) (wr := [(h1, .inl (a0, 1, .inr (.inl f0)))]) (tr := [(a0, .long)]) hx hb hml hown hg okN (cX5_setPredict_442 l D h0 h2 v0 v1 v2 v3 v4 v5 v6 v7 v8 v9 v10 v11 v12 v13 v14 v15 v16 v17 v18 v19 v20) (mwV k977 k978 k979 k84 k980) ⟨rfl, by decide, by decide, by decide +kernel⟩ ⟨rfl, rfl, (Nat.le_of_ble_eq_true rfl), (Nat.le_of_ble_eq_true rfl)⟩ hP hD hK hS xn [0, 2] [0, 2] [1] [] [0] rfl (by decide) rfl rfl (by decide) (by decide) rfl rfl (va_free hD hS hA [0, 2] rfl) (va_free hD hS hA [0, 2] rfl) 0 rfl rfl rfl hl.1 rfl (Nat.le_of_ble_eq_true rfl) dL_setPredict_4 ⟨(Nat.le_of_ble_eq_true rfl), (Nat.le_of_ble_eq_true rfl)⟩ (fun u H locs hφ hP hD hK hS hk => ?_)
  have hP : va_P D vwCl [(h1, .inl (a0, 1, .inr (.inl f0))), (h0, .inr (5, [v0, v1, v2, .ref h2, v3, v4, v5, v6, v7, v8])), (h2, .inr (1, [v9, v10, v11, v12, v13, v14, v15, v16, .int 2, v17, v18, v19, v20]))] H := hP
  have hD : va_D A [(h1, .inl (a0, 1, .inr (.inl f0))), (h0, .inr (5, [v0, v1, v2, .ref h2, v3, v4, v5, v6, v7, v8])), (h2, .inr (1, [v9, v10, v11, v12, v13, v14, v15, v16, .int 2, v17, v18, v19, v20]))] := hD
  have hK : va_K D vwCl [(a0, .long)] s := hK
  refine W.widen (k := 0) (n := 0) (Nat.le_of_ble_eq_true rfl) (Nat.le_of_ble_eq_true rfl) ?_
  refine lv_i2l (v := 2) hx hb dL_setPredict_7 (by decide) ?_
  refine astL hx hb hK hP hD hS 0 0 rfl rfl 0 (by decide) (vin (by decide)) dL_setPredict_8 (fun H locs hP hD hS => ?_)
  have hP : va_P D vwCl [(h1, .inl (a0, 1, .inr (.inl (vp_updL f0 0 2)))), (h0, .inr (5, [v0, v1, v2, .ref h2, v3, v4, v5, v6, v7, v8])), (h2, .inr (1, [v9, v10, v11, v12, v13, v14, v15, v16, .int 2, v17, v18, v19, v20]))] H := hP
  have hD : va_D A [(h1, .inl (a0, 1, .inr (.inl (vp_updL f0 0 2)))), (h0, .inr (5, [v0, v1, v2, .ref h2, v3, v4, v5, v6, v7, v8])), (h2, .inr (1, [v9, v10, v11, v12, v13, v14, v15, v16, .int 2, v17, v18, v19, v20]))] := hD
  refine lv_goto (tgt := 15) hx hb dL_setPredict_9 (by decide) ?_
  refine lv_iconst (v := 0) hx hb dL_setPredict_15 (by decide) ?_
  exact fi hx hb hr hlocks hP hD hK hS (()) trivial rfl [1, 0, 2] [0] rfl (by decide) rfl (Nat.le_of_ble_eq_true rfl) (Nat.le_of_ble_eq_true rfl) dL_setPredict_16
set_option maxHeartbeats 4000000 in
set_option maxRecDepth 100000 in
theorem cL_setPredict_666 (l : Launch) (D : va_G) (hlt : l.stackTraces = false) (h0 : Nat) (x0 : Int32) (h1 : Nat) (v0 : Value) (v1 : Value) (v2 : Value) (v3 : Value) (v4 : Value) (v5 : Value) (v6 : Value) (v7 : Value) (v8 : Value) (v9 : Value)  (d0 : ¬ (x0 < 0)) (d1 : ¬ (x0 ≤ 2)) : CH l yL_setPredict cL_setPredict 4 (some .int) [(0, 9, 12, 19)] { frames := 8, cells := 1, slots := 6, locals := 134 } [.ref h0, .int x0, .ref h1] D [(h0, .inr (5, [v0, v1, v2, v3, v4, v5, v6, v7, v8, v9]))] [] XX [] (ei (fun _ : Unit => True) (fun _ => 1) (fun _ => []) (fun _ => []) D) 1 6 := by
  refine CH.ofR (by decide +kernel) (Nat.le_of_ble_eq_true rfl) ?_
  intro p e s m below meth c A ls hcs htab hP hK hD hX hA hS hl
  obtain ⟨hx, hb, hr, hml, hown, hg, hlocks, hin⟩ := hcs
  have hown : s.vm.findClass RL = some m.cls := hown
  have hl : lv_has ls 4 [(0, .ref h0), (1, .int x0), (2, .ref h1)] := hl
  refine lv_aload_n hx hb dL_setPredict_0 rfl (lv_at hl 2 rfl) ?_
  refine lv_iconst (v := 0) hx hb dL_setPredict_1 (by decide) ?_
  refine lv_aload_n hx hb dL_setPredict_2 rfl (lv_at hl 0 rfl) ?_
  refine lv_iload_n hx hb dL_setPredict_3 rfl (lv_at hl 1 rfl) ?_
  refine hVi (n := 1) (As := [.int x0]) (rest := [.int 0, .ref h1]) hx hb hml hown hg okXX (cX5_setPredict_443 l D hlt h0 x0 d0 d1) (mwV k977 k978 k979 k84 k980) ⟨rfl, by decide, by decide, by decide +kernel⟩ ⟨rfl, rfl, (Nat.le_of_ble_eq_true rfl), (Nat.le_of_ble_eq_true rfl)⟩ hP hD hK hS (okXX.2.2 _ _ _ _ hS.2.1 hX) [] [] rfl (by decide) rfl (aNil hA hS) 0 rfl rfl rfl hl.1 rfl (Nat.le_of_ble_eq_true rfl) dL_setPredict_4 ⟨(Nat.le_of_ble_eq_true rfl), (Nat.le_of_ble_eq_true rfl)⟩ [] { startPc := 0, endPc := 9, handlerPc := 12, catchType := 19 } [] (htab.trans rfl) (fun z hz => nomatch hz) (by decide) (by decide) (hg _ k684) (XX_cIAE hX) (fun q9 H locs hS hk => ?_)
  have hP : va_P D vwCl [] H := pNil
  have hD : va_D (fun _ => True) [] := dNil
  have hK : va_K D vwCl [] s := hK.sub [] rfl
  refine W.widen (k := 1) (n := 6) (Nat.le_of_ble_eq_true rfl) (Nat.le_of_ble_eq_true rfl) ?_
  refine lv_astore_n (lv' := [(3, .ref q9), (0, .ref h0), (1, .int x0), (2, .ref h1)]) hx hb dL_setPredict_12 rfl hl (by decide) rfl (fun ls hl => ?_)
  refine lv_iconst (v := 1) hx hb dL_setPredict_13 (by decide) ?_
  exact fi0 hx hb hr hlocks hK hS (Nat.le_of_ble_eq_true rfl) (Nat.le_of_ble_eq_true rfl) dL_setPredict_14
set_option maxHeartbeats 4000000 in
set_option maxRecDepth 100000 in
theorem cL_set_667 (l : Launch) (D : va_G) (hlt : l.stackTraces = false) (h0 : Nat) (x0 : Int32) (x1 : Int32) (h1 : Nat) (h2 : Nat) (v0 : Value) (v1 : Value) (v2 : Value) (v3 : Value) (v4 : Value) (v5 : Value) (v6 : Value) (v7 : Value) (v8 : Value) (v9 : Value) (v10 : Value) (v11 : Value) (v12 : Value) (v13 : Value) (v14 : Value)  (d0 : x0 < 0) : CH l yL_set cL_set 5 (some .int) [(0, 9, 12, 13), (0, 9, 16, 19), (0, 9, 20, 62)] { frames := 8, cells := 1, slots := 6, locals := 135 } [.ref h0, .int x0, .int x1, .ref h1] D [(h0, .inr (5, [v0, .ref h2, v1, v2, v3, v4, v5, v6, v7, v8])), (h2, .inr (0, [v9, v10, .int 2, v11, v12, v13, v14]))] [] XX [] (ei (fun _ : Unit => True) (fun _ => 1) (fun _ => []) (fun _ => []) D) 1 6 := by
  refine CH.ofR (by decide +kernel) (Nat.le_of_ble_eq_true rfl) ?_
  intro p e s m below meth c A ls hcs htab hP hK hD hX hA hS hl
  obtain ⟨hx, hb, hr, hml, hown, hg, hlocks, hin⟩ := hcs
  have hown : s.vm.findClass RL = some m.cls := hown
  have hl : lv_has ls 5 [(0, .ref h0), (1, .int x0), (2, .int x1), (3, .ref h1)] := hl
  refine lv_aload_n hx hb dL_set_0 rfl (lv_at hl 3 rfl) ?_
  refine lv_iconst (v := 0) hx hb dL_set_1 (by decide) ?_
  refine lv_aload_n hx hb dL_set_2 rfl (lv_at hl 0 rfl) ?_
  refine lv_iload_n hx hb dL_set_3 rfl (lv_at hl 1 rfl) ?_
  refine lv_iload_n hx hb dL_set_4 rfl (lv_at hl 2 rfl) ?_
  refine hVl (n := 2) (As := [.int x0, .int x1]) (rest := [.int 0, .ref h1]) hx hb hml hown hg okXX (cX5_set_446 l D hlt h0 x0 x1 h2 v0 v1 v2 v3 v4 v5 v6 v7 v8 v9 v10 v11 v12 v13 v14 d0) (mwV k985 k986 k987 k84 k988) ⟨rfl, by decide, by decide, by decide +kernel⟩ ⟨rfl, rfl, (Nat.le_of_ble_eq_true rfl), (Nat.le_of_ble_eq_true rfl)⟩ hP hD hK hS (okXX.2.2 _ _ _ _ hS.2.1 hX) [0, 1] [] rfl (by decide) rfl (aNil hA hS) 0 rfl rfl rfl hl.1 rfl (Nat.le_of_ble_eq_true rfl) dL_set_5 ⟨(Nat.le_of_ble_eq_true rfl), (Nat.le_of_ble_eq_true rfl)⟩ [] { startPc := 0, endPc := 9, handlerPc := 12, catchType := 13 } [{ startPc := 0, endPc := 9, handlerPc := 16, catchType := 19 }, { startPc := 0, endPc := 9, handlerPc := 20, catchType := 62 }] (htab.trans rfl) (fun z hz => nomatch hz) (by decide) (by decide) (hg _ k605) (XX_cIOOBE hX) (fun q9 H locs hS hk => ?_)
  have hP : va_P D vwCl [] H := pNil
  have hD : va_D (fun _ => True) [] := dNil
  have hK : va_K D vwCl [] s := hK.sub [] rfl
  refine W.widen (k := 1) (n := 6) (Nat.le_of_ble_eq_true rfl) (Nat.le_of_ble_eq_true rfl) ?_
  refine lv_astore (lv' := [(4, .ref q9), (0, .ref h0), (1, .int x0), (2, .int x1), (3, .ref h1)]) hx hb dL_set_12 hl (by decide) rfl (fun ls hl => ?_)
  refine lv_iconst (v := 1) hx hb dL_set_14 (by decide) ?_
  exact fi0 hx hb hr hlocks hK hS (Nat.le_of_ble_eq_true rfl) (Nat.le_of_ble_eq_true rfl) dL_set_15
set_option maxHeartbeats 4000000 in
set_option maxRecDepth 100000 in
theorem cL_set_668 (l : Launch) (D : va_G) (hlt : l.stackTraces = false) (h0 : Nat) (x0 : Int32) (x1 : Int32) (h1 : Nat) (h2 : Nat) (v0 : Value) (v1 : Value) (v2 : Value) (v3 : Value) (v4 : Value) (v5 : Value) (v6 : Value) (v7 : Value) (v8 : Value) (v9 : Value) (v10 : Value) (v11 : Value) (v12 : Value) (v13 : Value) (v14 : Value)  (d0 : ¬ (x0 < 0)) (d1 : ¬ (x0 < 2)) : CH l yL_set cL_set 5 (some .int) [(0, 9, 12, 13), (0, 9, 16, 19), (0, 9, 20, 62)] { frames := 8, cells := 1, slots := 6, locals := 135 } [.ref h0, .int x0, .int x1, .ref h1] D [(h0, .inr (5, [v0, .ref h2, v1, v2, v3, v4, v5, v6, v7, v8])), (h2, .inr (0, [v9, v10, .int 2, v11, v12, v13, v14]))] [] XX [] (ei (fun _ : Unit => True) (fun _ => 1) (fun _ => []) (fun _ => []) D) 1 6 := by
  refine CH.ofR (by decide +kernel) (Nat.le_of_ble_eq_true rfl) ?_
  intro p e s m below meth c A ls hcs htab hP hK hD hX hA hS hl
  obtain ⟨hx, hb, hr, hml, hown, hg, hlocks, hin⟩ := hcs
  have hown : s.vm.findClass RL = some m.cls := hown
  have hl : lv_has ls 5 [(0, .ref h0), (1, .int x0), (2, .int x1), (3, .ref h1)] := hl
  refine lv_aload_n hx hb dL_set_0 rfl (lv_at hl 3 rfl) ?_
  refine lv_iconst (v := 0) hx hb dL_set_1 (by decide) ?_
  refine lv_aload_n hx hb dL_set_2 rfl (lv_at hl 0 rfl) ?_
  refine lv_iload_n hx hb dL_set_3 rfl (lv_at hl 1 rfl) ?_
  refine lv_iload_n hx hb dL_set_4 rfl (lv_at hl 2 rfl) ?_
  refine hVl (n := 2) (As := [.int x0, .int x1]) (rest := [.int 0, .ref h1]) hx hb hml hown hg okXX (cX5_set_447 l D hlt h0 x0 x1 h2 v0 v1 v2 v3 v4 v5 v6 v7 v8 v9 v10 v11 v12 v13 v14 d0 d1) (mwV k985 k986 k987 k84 k988) ⟨rfl, by decide, by decide, by decide +kernel⟩ ⟨rfl, rfl, (Nat.le_of_ble_eq_true rfl), (Nat.le_of_ble_eq_true rfl)⟩ hP hD hK hS (okXX.2.2 _ _ _ _ hS.2.1 hX) [0, 1] [] rfl (by decide) rfl (aNil hA hS) 0 rfl rfl rfl hl.1 rfl (Nat.le_of_ble_eq_true rfl) dL_set_5 ⟨(Nat.le_of_ble_eq_true rfl), (Nat.le_of_ble_eq_true rfl)⟩ [] { startPc := 0, endPc := 9, handlerPc := 12, catchType := 13 } [{ startPc := 0, endPc := 9, handlerPc := 16, catchType := 19 }, { startPc := 0, endPc := 9, handlerPc := 20, catchType := 62 }] (htab.trans rfl) (fun z hz => nomatch hz) (by decide) (by decide) (hg _ k605) (XX_cIOOBE hX) (fun q9 H locs hS hk => ?_)
  have hP : va_P D vwCl [] H := pNil
  have hD : va_D (fun _ => True) [] := dNil
  have hK : va_K D vwCl [] s := hK.sub [] rfl
  refine W.widen (k := 1) (n := 6) (Nat.le_of_ble_eq_true rfl) (Nat.le_of_ble_eq_true rfl) ?_
  refine lv_astore (lv' := [(4, .ref q9), (0, .ref h0), (1, .int x0), (2, .int x1), (3, .ref h1)]) hx hb dL_set_12 hl (by decide) rfl (fun ls hl => ?_)
  refine lv_iconst (v := 1) hx hb dL_set_14 (by decide) ?_
  exact fi0 hx hb hr hlocks hK hS (Nat.le_of_ble_eq_true rfl) (Nat.le_of_ble_eq_true rfl) dL_set_15
set_option maxHeartbeats 4000000 in
set_option maxRecDepth 100000 in
theorem cL_set_669 (l : Launch) (D : va_G) (hlt : l.stackTraces = false) (h0 : Nat) (x0 : Int32) (h1 : Nat) (h2 : Nat) (v0 : Value) (v1 : Value) (v2 : Value) (v3 : Value) (v4 : Value) (v5 : Value) (v6 : Value) (v7 : Value) (v8 : Value) (v9 : Value) (v10 : Value) (v11 : Value) (v12 : Value) (v13 : Value) (v14 : Value)  (d0 : x0 < (-9999)) : CH l yL_set cL_set 5 (some .int) [(0, 9, 12, 13), (0, 9, 16, 19), (0, 9, 20, 62)] { frames := 8, cells := 1, slots := 6, locals := 136 } [.ref h0, .int 0, .int x0, .ref h1] D [(h0, .inr (5, [v0, .ref h2, v1, v2, v3, v4, v5, v6, v7, v8])), (h2, .inr (0, [v9, v10, .int 2, v11, v12, v13, v14]))] [] XX [] (ei (fun _ : Unit => True) (fun _ => 2) (fun _ => []) (fun _ => []) D) 1 6 := by
  refine CH.ofR (by decide +kernel) (Nat.le_of_ble_eq_true rfl) ?_
  intro p e s m below meth c A ls hcs htab hP hK hD hX hA hS hl
  obtain ⟨hx, hb, hr, hml, hown, hg, hlocks, hin⟩ := hcs
  have hown : s.vm.findClass RL = some m.cls := hown
  have hl : lv_has ls 5 [(0, .ref h0), (1, .int 0), (2, .int x0), (3, .ref h1)] := hl
  refine lv_aload_n hx hb dL_set_0 rfl (lv_at hl 3 rfl) ?_
  refine lv_iconst (v := 0) hx hb dL_set_1 (by decide) ?_
  refine lv_aload_n hx hb dL_set_2 rfl (lv_at hl 0 rfl) ?_
  refine lv_iload_n hx hb dL_set_3 rfl (lv_at hl 1 rfl) ?_
  refine lv_iload_n hx hb dL_set_4 rfl (lv_at hl 2 rfl) ?_
  refine hVl (n := 2) (As := [.int 0, .int x0]) (rest := [.int 0, .ref h1]) hx hb hml hown hg okXX (cX5_set_448 l D hlt h0 x0 h2 v0 v1 v2 v3 v4 v5 v6 v7 v8 v9 v10 v11 v12 v13 v14 d0) (mwV k985 k986 k987 k84 k988) ⟨rfl, by decide, by decide, by decide +kernel⟩ ⟨rfl, rfl, (Nat.le_of_ble_eq_true rfl), (Nat.le_of_ble_eq_true rfl)⟩ hP hD hK hS (okXX.2.2 _ _ _ _ hS.2.1 hX) [0, 1] [] rfl (by decide) rfl (aNil hA hS) 0 rfl rfl rfl hl.1 rfl (Nat.le_of_ble_eq_true rfl) dL_set_5 ⟨(Nat.le_of_ble_eq_true rfl), (Nat.le_of_ble_eq_true rfl)⟩ [{ startPc := 0, endPc := 9, handlerPc := 12, catchType := 13 }] { startPc := 0, endPc := 9, handlerPc := 16, catchType := 19 } [{ startPc := 0, endPc := 9, handlerPc := 20, catchType := 62 }] (htab.trans rfl) (fun z hz => (List.mem_cons.mp hz).elim (fun e9 => by rw [e9]; exact Or.inr ⟨by decide, "java/lang/IndexOutOfBoundsException", hg _ k605, XX_qIAE_IOOBE hX⟩) ((fun z h9 => nomatch h9) z)) (by decide) (by decide) (hg _ k684) (XX_cIAE hX) (fun q9 H locs hS hk => ?_)
  have hP : va_P D vwCl [] H := pNil
  have hD : va_D (fun _ => True) [] := dNil
  have hK : va_K D vwCl [] s := hK.sub [] rfl
  refine W.widen (k := 1) (n := 6) (Nat.le_of_ble_eq_true rfl) (Nat.le_of_ble_eq_true rfl) ?_
  refine lv_astore (lv' := [(4, .ref q9), (0, .ref h0), (1, .int 0), (2, .int x0), (3, .ref h1)]) hx hb dL_set_16 hl (by decide) rfl (fun ls hl => ?_)
  refine lv_iconst (v := 2) hx hb dL_set_18 (by decide) ?_
  exact fi0 hx hb hr hlocks hK hS (Nat.le_of_ble_eq_true rfl) (Nat.le_of_ble_eq_true rfl) dL_set_19
set_option maxHeartbeats 4000000 in
set_option maxRecDepth 100000 in
theorem cX5_needIndex_672 (l : Launch) (D : va_G)    : CT l yX5_needIndex cX5_needIndex 2 none { frames := 0, cells := 0, slots := 0, locals := 0 } [.int 0, .int 2] D [] [] XN [] (ev (fun _ : Unit => True) (fun _ => []) (fun _ => []) D) 0 0 := by
  refine CT.ofR (by decide +kernel) (Nat.le_of_ble_eq_true rfl) ?_
  intro p e s m below meth c A ls hcs hP hK hD hX hA hS hl
  obtain ⟨hx, hb, hr, hml, hown, hg, hlocks, hin⟩ := hcs
  have hown : s.vm.findClass RX5 = some m.cls := hown
  have hl : lv_has ls 2 [(0, .int 0), (1, .int 2)] := hl
  refine lv_iload_n hx hb dX5_needIndex_0 rfl (lv_at hl 0 rfl) ?_
  refine lv_if_lt (tgt := 9) hx hb dX5_needIndex_1 (by decide) (fun c9 => absurd c9 (by decide)) (fun _ => ?_)
  refine lv_iload_n hx hb dX5_needIndex_4 rfl (lv_at hl 0 rfl) ?_
  refine lv_iload_n hx hb dX5_needIndex_5 rfl (lv_at hl 1 rfl) ?_
  refine lv_icmp_lt (tgt := 20) hx hb dX5_needIndex_6 (by decide) (fun _ => ?_) (fun c9 => absurd (by decide) c9)
  exact fv0 hx hb hr hlocks hK hS (Nat.le_of_ble_eq_true rfl) (Nat.le_of_ble_eq_true rfl) dX5_needIndex_20
set_option maxHeartbeats 4000000 in
set_option maxRecDepth 100000 in
theorem cX5_needRange_673 (l : Launch) (D : va_G) (x0 : Int32)  (d0 : ¬ (x0 < (-9999))) (d1 : x0 ≤ 9999) : CT l yX5_needRange cX5_needRange 3 none { frames := 0, cells := 0, slots := 0, locals := 0 } [.int x0, .int (-9999), .int 9999] D [] [] XN [] (ev (fun _ : Unit => True) (fun _ => []) (fun _ => []) D) 0 0 := by
  refine CT.ofR (by decide +kernel) (Nat.le_of_ble_eq_true rfl) ?_
  intro p e s m below meth c A ls hcs hP hK hD hX hA hS hl
  obtain ⟨hx, hb, hr, hml, hown, hg, hlocks, hin⟩ := hcs
  have hown : s.vm.findClass RX5 = some m.cls := hown
  have hl : lv_has ls 3 [(0, .int x0), (1, .int (-9999)), (2, .int 9999)] := hl
  refine lv_iload_n hx hb dX5_needRange_0 rfl (lv_at hl 0 rfl) ?_
  refine lv_iload_n hx hb dX5_needRange_1 rfl (lv_at hl 1 rfl) ?_
  refine lv_icmp_lt (tgt := 10) hx hb dX5_needRange_2 (by decide) (fun c9 => absurd c9 d0) (fun _ => ?_)
  refine lv_iload_n hx hb dX5_needRange_5 rfl (lv_at hl 0 rfl) ?_
  refine lv_iload_n hx hb dX5_needRange_6 rfl (lv_at hl 2 rfl) ?_
  refine lv_icmp_le (tgt := 21) hx hb dX5_needRange_7 (by decide) (fun _ => ?_) (fun c9 => absurd d1 c9)
  exact fv0 hx hb hr hlocks hK hS (Nat.le_of_ble_eq_true rfl) (Nat.le_of_ble_eq_true rfl) dX5_needRange_21
set_option maxHeartbeats 4000000 in
set_option maxRecDepth 100000 in
theorem cX1_isPresent_674 (l : Launch) (D : va_G) (h0 : Nat) (h1 : Nat) (v0 : Value) (v1 : Value) (v2 : Value) (v3 : Value) (v4 : Value) (v5 : Value) (v6 : Value) (v7 : Value) (v8 : Value) (v9 : Value) (v10 : Value) (v11 : Value) (f0 : Nat → Int32) (a0 : ClassId) (ef0_0 : f0 0 = (-1))  : CT l yX1_isPresent cX1_isPresent 2 (some .boolean) { frames := 0, cells := 0, slots := 0, locals := 0 } [.ref h0, .int 0] D [(h0, .inr (1, [v0, v1, v2, .ref h1, v3, v4, v5, v6, v7, v8, v9, v10, v11])), (h1, .inl (a0, 48, .inl f0))] [(a0, .int)] XN [] (ei (fun _ : Unit => True) (fun _ => 1) (fun _ => []) (fun _ => []) D) 0 0 := by
  refine CT.ofR (by decide +kernel) (Nat.le_of_ble_eq_true rfl) ?_
  intro p e s m below meth c A ls hcs hP hK hD hX hA hS hl
  obtain ⟨hx, hb, hr, hml, hown, hg, hlocks, hin⟩ := hcs
  have hown : s.vm.findClass RX1 = some m.cls := hown
  have hl : lv_has ls 2 [(0, .ref h0), (1, .int 0)] := hl
  refine lv_aload_n hx hb dX1_isPresent_0 rfl (lv_at hl 0 rfl) ?_
  refine va_get (D := D) (ci := 1) (v := .ref h1) (C := RX1) (T := TX1) (N := 13) hx hb hg inX1 hown hK hP 0 rfl rfl 3 (by decide) (hg _ k283) (fun _ h9 => h9) rfl dX1_isPresent_1 ?_
  refine lv_iload_n hx hb dX1_isPresent_4 rfl (lv_at hl 1 rfl) ?_
  refine aldI hx hb hK hP 1 0 rfl rfl 0 (by decide) (vin (by decide)) (v := (-1)) ef0_0 dX1_isPresent_5 ?_
  refine lv_iconst (v := (-1)) hx hb dX1_isPresent_6 (by decide) ?_
  refine lv_icmp_ne (tgt := 14) hx hb dX1_isPresent_7 (by decide) (fun c9 => absurd (by decide) c9) (fun _ => ?_)
  refine lv_iconst (v := 1) hx hb dX1_isPresent_10 (by decide) ?_
  refine lv_goto (tgt := 15) hx hb dX1_isPresent_11 (by decide) ?_
  exact fz0 hx hb hr rfl hlocks hK hS (Nat.le_of_ble_eq_true rfl) (Nat.le_of_ble_eq_true rfl) dX1_isPresent_15
set_option maxHeartbeats 4000000 in
set_option maxRecDepth 100000 in
theorem cX4_limbAt_677 (l : Launch) (D : va_G) (h0 : Nat) (v0 : Value) (v1 : Value)   : CT l yX4_limbAt cX4_limbAt 2 (some .long) { frames := 0, cells := 0, slots := 0, locals := 0 } [.ref h0, .int 1] D [(h0, .inr (4, [v0, .int 0, v1]))] [] XN [] (el (fun _ : Unit => True) (fun _ => 0) (fun _ => []) (fun _ => []) D) 0 0 := by
  refine CT.ofR (by decide +kernel) (Nat.le_of_ble_eq_true rfl) ?_
  intro p e s m below meth c A ls hcs hP hK hD hX hA hS hl
  obtain ⟨hx, hb, hr, hml, hown, hg, hlocks, hin⟩ := hcs
  have hown : s.vm.findClass RX4 = some m.cls := hown
  have hl : lv_has ls 2 [(0, .ref h0), (1, .int 1)] := hl
  refine lv_iload_n hx hb dX4_limbAt_0 rfl (lv_at hl 1 rfl) ?_
  refine lv_aload_n hx hb dX4_limbAt_1 rfl (lv_at hl 0 rfl) ?_
  refine va_get (D := D) (ci := 4) (v := .int 0) (C := RX4) (T := TX4) (N := 3) hx hb hg inX4 hown hK hP 0 rfl rfl 1 (by decide) (hg _ k210) (fun _ h9 => h9) rfl dX4_limbAt_2 ?_
  refine lv_icmp_ge (tgt := 22) hx hb dX4_limbAt_5 (by decide) (fun _ => ?_) (fun c9 => absurd (by decide) c9)
  refine lv_lconst (v := 0) hx hb dX4_limbAt_22 (by decide) ?_
  exact fl0 hx hb hr hlocks hK hS (Nat.le_of_ble_eq_true rfl) (Nat.le_of_ble_eq_true rfl) dX4_limbAt_23
set_option maxHeartbeats 4000000 in
set_option maxRecDepth 100000 in
theorem cX4_limbAt_678 (l : Launch) (D : va_G) (h0 : Nat) (v0 : Value) (v1 : Value)   : CT l yX4_limbAt cX4_limbAt 2 (some .long) { frames := 0, cells := 0, slots := 0, locals := 0 } [.ref h0, .int 0] D [(h0, .inr (4, [v0, .int 0, v1]))] [] XN [] (el (fun _ : Unit => True) (fun _ => 0) (fun _ => []) (fun _ => []) D) 0 0 := by
  refine CT.ofR (by decide +kernel) (Nat.le_of_ble_eq_true rfl) ?_
  intro p e s m below meth c A ls hcs hP hK hD hX hA hS hl
  obtain ⟨hx, hb, hr, hml, hown, hg, hlocks, hin⟩ := hcs
  have hown : s.vm.findClass RX4 = some m.cls := hown
  have hl : lv_has ls 2 [(0, .ref h0), (1, .int 0)] := hl
  refine lv_iload_n hx hb dX4_limbAt_0 rfl (lv_at hl 1 rfl) ?_
  refine lv_aload_n hx hb dX4_limbAt_1 rfl (lv_at hl 0 rfl) ?_
  refine va_get (D := D) (ci := 4) (v := .int 0) (C := RX4) (T := TX4) (N := 3) hx hb hg inX4 hown hK hP 0 rfl rfl 1 (by decide) (hg _ k210) (fun _ h9 => h9) rfl dX4_limbAt_2 ?_
  refine lv_icmp_ge (tgt := 22) hx hb dX4_limbAt_5 (by decide) (fun _ => ?_) (fun c9 => absurd (by decide) c9)
  refine lv_lconst (v := 0) hx hb dX4_limbAt_22 (by decide) ?_
  exact fl0 hx hb hr hlocks hK hS (Nat.le_of_ble_eq_true rfl) (Nat.le_of_ble_eq_true rfl) dX4_limbAt_23
set_option maxHeartbeats 4000000 in
set_option maxRecDepth 100000 in
theorem cX4_amountFrom_676 (l : Launch) (D : va_G) (h0 : Nat) (v0 : Value) (v1 : Value)   : CT l yX4_amountFrom cX4_amountFrom 6 (some .long) { frames := 1, cells := 0, slots := 0, locals := 21 } [.ref h0, .int 0] D [(h0, .inr (4, [v0, .int 0, v1]))] [] XN [] (el (fun _ : Unit => True) (fun _ => 0) (fun _ => []) (fun _ => []) D) 0 0 := by
  refine CT.ofR (by decide +kernel) (Nat.le_of_ble_eq_true rfl) ?_
  intro p e s m below meth c A ls hcs hP hK hD hX hA hS hl
  obtain ⟨hx, hb, hr, hml, hown, hg, hlocks, hin⟩ := hcs
  have hown : s.vm.findClass RX4 = some m.cls := hown
  have hl : lv_has ls 6 [(0, .ref h0), (1, .int 0)] := hl
  refine lv_iload_n hx hb dX4_amountFrom_0 rfl (lv_at hl 1 rfl) ?_
  refine lv_bipush (v := 32) hx hb dX4_amountFrom_1 (by decide) ?_
  refine lv_idiv hx hb dX4_amountFrom_3 (by decide) ?_
  refine ti (0) (by decide) ?_
  refine lv_istore_n (lv' := [(2, .int 0), (0, .ref h0), (1, .int 0)]) hx hb dX4_amountFrom_4 rfl hl (by decide) rfl (fun ls hl => ?_)
  refine lv_iload_n hx hb dX4_amountFrom_5 rfl (lv_at hl 2 rfl) ?_
  refine lv_bipush (v := 32) hx hb dX4_amountFrom_6 (by decide) ?_
  refine lv_irem hx hb dX4_amountFrom_8 (by decide) ?_
  refine ti (0) (by decide) ?_
  refine lv_istore_n (lv' := [(3, .int 0), (2, .int 0), (0, .ref h0), (1, .int 0)]) hx hb dX4_amountFrom_9 rfl hl (by decide) rfl (fun ls hl => ?_)
  refine lv_aload_n hx hb dX4_amountFrom_10 rfl (lv_at hl 2 rfl) ?_
  refine lv_iload_n hx hb dX4_amountFrom_11 rfl (lv_at hl 1 rfl) ?_
  refine lv_iconst (v := 1) hx hb dX4_amountFrom_12 (by decide) ?_
  refine lv_iadd hx hb dX4_amountFrom_13 ?_
  refine ti (1) (by decide) ?_
  refine cVl (n := 1) (As := [.int 1]) (rest := []) (wr := [(h0, .inr (4, [v0, .int 0, v1]))]) (tr := []) hx hb hml hown hg okN (cX4_limbAt_677 l D h0 v0 v1) (mwV k443 k445 k6 k88 k446) ⟨rfl, by decide, by decide, by decide +kernel⟩ ⟨rfl, rfl, (Nat.le_of_ble_eq_true rfl), (Nat.le_of_ble_eq_true rfl)⟩ hP hD hK hS xn [0] [] [0] [] [] rfl (by decide) rfl rfl (by decide) (by decide) rfl rfl (aNil hA hS) (fun _ _ => trivial) 0 rfl rfl rfl hl.1 rfl (Nat.le_of_ble_eq_true rfl) dX4_amountFrom_14 ⟨(Nat.le_of_ble_eq_true rfl), (Nat.le_of_ble_eq_true rfl)⟩ (fun u H locs hφ hP hD hK hS hk => ?_)
  have hP : va_P D vwCl [(h0, .inr (4, [v0, .int 0, v1]))] H := hP
  have hD : va_D (fun _ => True) [(h0, .inr (4, [v0, .int 0, v1]))] := hD
  have hK : va_K D vwCl [] s := hK
  refine W.widen (k := 0) (n := 0) (Nat.le_of_ble_eq_true rfl) (Nat.le_of_ble_eq_true rfl) ?_
  refine lv_bipush (v := 32) hx hb dX4_amountFrom_17 (by decide) ?_
  refine lv_lshl (v := 0) hx hb dX4_amountFrom_19 (by decide) ?_
  refine lv_aload_n hx hb dX4_amountFrom_20 rfl (lv_at hl 2 rfl) ?_
  refine lv_iload_n hx hb dX4_amountFrom_21 rfl (lv_at hl 1 rfl) ?_
  refine cVl (n := 1) (As := [.int 0]) (rest := [.long 0]) (wr := [(h0, .inr (4, [v0, .int 0, v1]))]) (tr := []) hx hb hml hown hg okN (cX4_limbAt_678 l D h0 v0 v1) (mwV k443 k445 k6 k88 k446) ⟨rfl, by decide, by decide, by decide +kernel⟩ ⟨rfl, rfl, (Nat.le_of_ble_eq_true rfl), (Nat.le_of_ble_eq_true rfl)⟩ hP hD hK hS xn [0] [] [0] [] [] rfl (by decide) rfl rfl (by decide) (by decide) rfl rfl (aNil hA hS) (fun _ _ => trivial) 0 rfl rfl rfl hl.1 rfl (Nat.le_of_ble_eq_true rfl) dX4_amountFrom_22 ⟨(Nat.le_of_ble_eq_true rfl), (Nat.le_of_ble_eq_true rfl)⟩ (fun u H locs hφ hP hD hK hS hk => ?_)
  have hP : va_P D vwCl [(h0, .inr (4, [v0, .int 0, v1]))] H := hP
  have hD : va_D (fun _ => True) [(h0, .inr (4, [v0, .int 0, v1]))] := hD
  have hK : va_K D vwCl [] s := hK
  refine W.widen (k := 0) (n := 0) (Nat.le_of_ble_eq_true rfl) (Nat.le_of_ble_eq_true rfl) ?_
  refine lv_lor hx hb dX4_amountFrom_25 ?_
  refine tl (0) (by decide) ?_
  refine lv_lstore (lv' := [(4, .long 0), (3, .int 0), (2, .int 0), (0, .ref h0), (1, .int 0)]) hx hb dX4_amountFrom_26 hl (by decide) rfl (fun ls hl => ?_)
  refine lv_iload_n hx hb dX4_amountFrom_28 rfl (lv_at hl 1 rfl) ?_
  refine lv_if_ne (tgt := 37) hx hb dX4_amountFrom_29 (by decide) (fun c9 => absurd (by decide) c9) (fun _ => ?_)
  refine lv_lload hx hb dX4_amountFrom_32 (lv_at hl 0 rfl) ?_
  refine lv_goto (tgt := 54) hx hb dX4_amountFrom_34 (by decide) ?_
  exact fl0 hx hb hr hlocks hK hS (Nat.le_of_ble_eq_true rfl) (Nat.le_of_ble_eq_true rfl) dX4_amountFrom_54
set_option maxHeartbeats 4000000 in
set_option maxRecDepth 100000 in
theorem cX4_toLong_675 (l : Launch) (D : va_G) (h0 : Nat) (v0 : Value)   : CT l yX4_toLong cX4_toLong 1 (some .long) { frames := 2, cells := 0, slots := 0, locals := 46 } [.ref h0] D [(h0, .inr (4, [v0, .int 0, .int 0]))] [] XN [] (el (fun _ : Unit => True) (fun _ => 0) (fun _ => []) (fun _ => []) D) 0 0 := by
  refine CT.ofR (by decide +kernel) (Nat.le_of_ble_eq_true rfl) ?_
  intro p e s m below meth c A ls hcs hP hK hD hX hA hS hl
  obtain ⟨hx, hb, hr, hml, hown, hg, hlocks, hin⟩ := hcs
  have hown : s.vm.findClass RX4 = some m.cls := hown
  have hl : lv_has ls 1 [(0, .ref h0)] := hl
  refine lv_aload_n hx hb dX4_toLong_0 rfl (lv_at hl 0 rfl) ?_
  refine va_get (D := D) (ci := 4) (v := .int 0) (C := RX4) (T := TX4) (N := 3) hx hb hg inX4 hown hK hP 0 rfl rfl 2 (by decide) (hg _ k211) (fun _ h9 => h9) rfl dX4_toLong_1 ?_
  refine lv_if_eq (tgt := 16) hx hb dX4_toLong_4 (by decide) (fun _ => ?_) (fun c9 => absurd (by decide) c9)
  refine lv_aload_n hx hb dX4_toLong_16 rfl (lv_at hl 0 rfl) ?_
  refine lv_iconst (v := 0) hx hb dX4_toLong_17 (by decide) ?_
  refine cVl (n := 1) (As := [.int 0]) (rest := []) (wr := [(h0, .inr (4, [v0, .int 0, .int 0]))]) (tr := []) hx hb hml hown hg okN (cX4_amountFrom_676 l D h0 v0 (.int 0)) (mwV k439 k441 k5 k88 k442) ⟨rfl, by decide, by decide, by decide +kernel⟩ ⟨rfl, rfl, (Nat.le_of_ble_eq_true rfl), (Nat.le_of_ble_eq_true rfl)⟩ hP hD hK hS xn [0] [] [0] [] [] rfl (by decide) rfl rfl (by decide) (by decide) rfl rfl (aNil hA hS) (fun _ _ => trivial) 0 rfl rfl rfl hl.1 rfl (Nat.le_of_ble_eq_true rfl) dX4_toLong_18 ⟨(Nat.le_of_ble_eq_true rfl), (Nat.le_of_ble_eq_true rfl)⟩ (fun u H locs hφ hP hD hK hS hk => ?_)
  have hP : va_P D vwCl [(h0, .inr (4, [v0, .int 0, .int 0]))] H := hP
  have hD : va_D (fun _ => True) [(h0, .inr (4, [v0, .int 0, .int 0]))] := hD
  have hK : va_K D vwCl [] s := hK
  refine W.widen (k := 0) (n := 0) (Nat.le_of_ble_eq_true rfl) (Nat.le_of_ble_eq_true rfl) ?_
  exact fl0 hx hb hr hlocks hK hS (Nat.le_of_ble_eq_true rfl) (Nat.le_of_ble_eq_true rfl) dX4_toLong_21
set_option maxHeartbeats 4000000 in
set_option maxRecDepth 100000 in
theorem cX4_lowest_681 (l : Launch) (D : va_G) (h0 : Nat) (h1 : Nat) (v0 : Value) (f0 : Nat → Int32) (a0 : ClassId) (ef0_0 : f0 0 = 0)  : CT l yX4_lowest cX4_lowest 1 (some .long) { frames := 0, cells := 0, slots := 0, locals := 0 } [.ref h0] D [(h0, .inr (4, [.ref h1, v0, .int 0])), (h1, .inl (a0, 2, .inl f0))] [(a0, .int)] XN [] (el (fun _ : Unit => True) (fun _ => 0) (fun _ => []) (fun _ => []) D) 0 0 := by
  refine CT.ofR (by decide +kernel) (Nat.le_of_ble_eq_true rfl) ?_
  intro p e s m below meth c A ls hcs hP hK hD hX hA hS hl
  obtain ⟨hx, hb, hr, hml, hown, hg, hlocks, hin⟩ := hcs
  have hown : s.vm.findClass RX4 = some m.cls := hown
  have hl : lv_has ls 1 [(0, .ref h0)] := hl
  refine lv_aload_n hx hb dX4_lowest_0 rfl (lv_at hl 0 rfl) ?_
  refine va_get (D := D) (ci := 4) (v := .int 0) (C := RX4) (T := TX4) (N := 3) hx hb hg inX4 hown hK hP 0 rfl rfl 2 (by decide) (hg _ k211) (fun _ h9 => h9) rfl dX4_lowest_1 ?_
  refine lv_if_eq (tgt := 22) hx hb dX4_lowest_4 (by decide) (fun _ => ?_) (fun c9 => absurd (by decide) c9)
  refine lv_aload_n hx hb dX4_lowest_22 rfl (lv_at hl 0 rfl) ?_
  refine va_get (D := D) (ci := 4) (v := .ref h1) (C := RX4) (T := TX4) (N := 3) hx hb hg inX4 hown hK hP 0 rfl rfl 0 (by decide) (hg _ k209) (fun _ h9 => h9) rfl dX4_lowest_23 ?_
  refine lv_iconst (v := 0) hx hb dX4_lowest_26 (by decide) ?_
  refine aldI hx hb hK hP 1 0 rfl rfl 0 (by decide) (vin (by decide)) (v := 0) ef0_0 dX4_lowest_27 ?_
  refine lv_i2l (v := 0) hx hb dX4_lowest_28 (by decide) ?_
  refine lv_ldc2 hx hb hown (hg _ k348) dX4_lowest_29 ?_
  refine lv_land hx hb dX4_lowest_32 ?_
  refine tl (0) (by decide) ?_
  exact fl0 hx hb hr hlocks hK hS (Nat.le_of_ble_eq_true rfl) (Nat.le_of_ble_eq_true rfl) dX4_lowest_33
set_option maxHeartbeats 4000000 in
set_option maxRecDepth 100000 in
theorem cX4_become_682 (l : Launch) (D : va_G) (h0 : Nat) (h1 : Nat) (v0 : Value) (v1 : Value) (f0 : Nat → Int32) (a0 : ClassId)   : CT l yX4_become cX4_become 5 none { frames := 0, cells := 0, slots := 0, locals := 0 } [.ref h0, .long 0] D [(h0, .inr (4, [.ref h1, v0, v1])), (h1, .inl (a0, 2, .inl f0))] [(a0, .int)] XN [(h0, .inr (4, [.ref h1, v0, v1])), (h1, .inl (a0, 2, .inl f0))] (ev (fun _ : Unit => True) (fun _ => [(h0, .inr (4, [.ref h1, .int 0, .int 0])), (h1, .inl (a0, 2, .inl (upd (upd f0 0 0) 1 0)))]) (fun u => [(a0, .int)]) D) 0 0 := by
  refine CT.ofW (by decide +kernel) (Nat.le_of_ble_eq_true rfl) ?_
  intro p e s m below meth c A ls hcs hP hK hD hX hA hS hl
  obtain ⟨hx, hb, hr, hml, hown, hg, hlocks, hin⟩ := hcs
  have hown : s.vm.findClass RX4 = some m.cls := hown
  have hl : lv_has ls 5 [(0, .ref h0), (1, .long 0)] := hl
  refine lv_aload_n hx hb dX4_become_0 rfl (lv_at hl 0 rfl) ?_
  refine lv_lload_n hx hb dX4_become_1 rfl (lv_at hl 1 rfl) ?_
  refine lv_lconst (v := 0) hx hb dX4_become_2 (by decide) ?_
  refine W.lcmp hx hb dX4_become_3 ?_
  refine ti (0) (by decide) ?_
  refine lv_if_ge (tgt := 11) hx hb dX4_become_4 (by decide) (fun _ => ?_) (fun c9 => absurd (by decide) c9)
  refine lv_iconst (v := 0) hx hb dX4_become_11 (by decide) ?_
  refine va_put (D := D) (ci := 4) (v := .int 0) (ty := .boolean) (C := RX4) (T := TX4) (N := 3) hx hb hg inX4 tyX4 tyX4_ok nmX4 hown hK hP hD hS 0 rfl rfl 2 (by decide) (hg _ k211) (fun _ h9 => h9) rfl (by decide +kernel) rfl rfl (Nat.le_of_ble_eq_true rfl) dX4_become_12 (fun H locs hP hD hS => ?_)
  have hP : va_P D vwCl [(h0, .inr (4, [.ref h1, v0, .int 0])), (h1, .inl (a0, 2, .inl f0))] H := hP
  have hD : va_D A [(h0, .inr (4, [.ref h1, v0, .int 0])), (h1, .inl (a0, 2, .inl f0))] := hD
  refine lv_aload_n hx hb dX4_become_15 rfl (lv_at hl 0 rfl) ?_
  refine va_get (D := D) (ci := 4) (v := .int 0) (C := RX4) (T := TX4) (N := 3) hx hb hg inX4 hown hK hP 0 rfl rfl 2 (by decide) (hg _ k211) (fun _ h9 => h9) rfl dX4_become_16 ?_
  refine lv_if_eq (tgt := 27) hx hb dX4_become_19 (by decide) (fun _ => ?_) (fun c9 => absurd (by decide) c9)
  refine lv_lload_n hx hb dX4_become_27 rfl (lv_at hl 1 rfl) ?_
  refine lv_lstore_n (lv' := [(3, .long 0), (0, .ref h0), (1, .long 0)]) hx hb dX4_become_28 rfl hl (by decide) rfl (fun ls hl => ?_)
  refine lv_aload_n hx hb dX4_become_29 rfl (lv_at hl 1 rfl) ?_
  refine va_get (D := D) (ci := 4) (v := .ref h1) (C := RX4) (T := TX4) (N := 3) hx hb hg inX4 hown hK hP 0 rfl rfl 0 (by decide) (hg _ k209) (fun _ h9 => h9) rfl dX4_become_30 ?_
  refine lv_iconst (v := 0) hx hb dX4_become_33 (by decide) ?_
  refine lv_lload_n hx hb dX4_become_34 rfl (lv_at hl 0 rfl) ?_
  refine lv_l2i (v := 0) hx hb dX4_become_35 (by decide) ?_
  refine astI hx hb hK hP hD hS 1 0 rfl rfl 0 (by decide) (vin (by decide)) dX4_become_36 (fun H locs hP hD hS => ?_)
  have hP : va_P D vwCl [(h0, .inr (4, [.ref h1, v0, .int 0])), (h1, .inl (a0, 2, .inl (upd f0 0 0)))] H := hP
  have hD : va_D A [(h0, .inr (4, [.ref h1, v0, .int 0])), (h1, .inl (a0, 2, .inl (upd f0 0 0)))] := hD
  refine lv_aload_n hx hb dX4_become_37 rfl (lv_at hl 1 rfl) ?_
  refine va_get (D := D) (ci := 4) (v := .ref h1) (C := RX4) (T := TX4) (N := 3) hx hb hg inX4 hown hK hP 0 rfl rfl 0 (by decide) (hg _ k209) (fun _ h9 => h9) rfl dX4_become_38 ?_
  refine lv_iconst (v := 1) hx hb dX4_become_41 (by decide) ?_
  refine lv_lload_n hx hb dX4_become_42 rfl (lv_at hl 0 rfl) ?_
  refine lv_bipush (v := 32) hx hb dX4_become_43 (by decide) ?_
  refine lv_lushr (v := 0) hx hb dX4_become_45 (by decide) ?_
  refine lv_l2i (v := 0) hx hb dX4_become_46 (by decide) ?_
  refine astI hx hb hK hP hD hS 1 0 rfl rfl 1 (by decide) (vin (by decide)) dX4_become_47 (fun H locs hP hD hS => ?_)
  have hP : va_P D vwCl [(h0, .inr (4, [.ref h1, v0, .int 0])), (h1, .inl (a0, 2, .inl (upd (upd f0 0 0) 1 0)))] H := hP
  have hD : va_D A [(h0, .inr (4, [.ref h1, v0, .int 0])), (h1, .inl (a0, 2, .inl (upd (upd f0 0 0) 1 0)))] := hD
  refine lv_aload_n hx hb dX4_become_48 rfl (lv_at hl 1 rfl) ?_
  refine lv_aload_n hx hb dX4_become_49 rfl (lv_at hl 1 rfl) ?_
  refine va_get (D := D) (ci := 4) (v := .ref h1) (C := RX4) (T := TX4) (N := 3) hx hb hg inX4 hown hK hP 0 rfl rfl 0 (by decide) (hg _ k209) (fun _ h9 => h9) rfl dX4_become_50 ?_
  refine lv_iconst (v := 1) hx hb dX4_become_53 (by decide) ?_
  refine aldI hx hb hK hP 1 0 rfl rfl 1 (by decide) (vin (by decide)) (v := 0) rfl dX4_become_54 ?_
  refine lv_if_eq (tgt := 62) hx hb dX4_become_55 (by decide) (fun _ => ?_) (fun c9 => absurd (by decide) c9)
  refine lv_aload_n hx hb dX4_become_62 rfl (lv_at hl 1 rfl) ?_
  refine va_get (D := D) (ci := 4) (v := .ref h1) (C := RX4) (T := TX4) (N := 3) hx hb hg inX4 hown hK hP 0 rfl rfl 0 (by decide) (hg _ k209) (fun _ h9 => h9) rfl dX4_become_63 ?_
  refine lv_iconst (v := 0) hx hb dX4_become_66 (by decide) ?_
  refine aldI hx hb hK hP 1 0 rfl rfl 0 (by decide) (vin (by decide)) (v := 0) rfl dX4_become_67 ?_
  refine lv_if_eq (tgt := 75) hx hb dX4_become_68 (by decide) (fun _ => ?_) (fun c9 => absurd (by decide) c9)
  refine lv_iconst (v := 0) hx hb dX4_become_75 (by decide) ?_
  refine va_put (D := D) (ci := 4) (v := .int 0) (ty := .int) (C := RX4) (T := TX4) (N := 3) hx hb hg inX4 tyX4 tyX4_ok nmX4 hown hK hP hD hS 0 rfl rfl 1 (by decide) (hg _ k210) (fun _ h9 => h9) rfl (by decide +kernel) rfl rfl (Nat.le_of_ble_eq_true rfl) dX4_become_76 (fun H locs hP hD hS => ?_)
  have hP : va_P D vwCl [(h0, .inr (4, [.ref h1, .int 0, .int 0])), (h1, .inl (a0, 2, .inl (upd (upd f0 0 0) 1 0)))] H := hP
  have hD : va_D A [(h0, .inr (4, [.ref h1, .int 0, .int 0])), (h1, .inl (a0, 2, .inl (upd (upd f0 0 0) 1 0)))] := hD
  exact fv hx hb hr hlocks hP hD hK hS (()) trivial [0, 1] [0] rfl (by decide) rfl (Nat.le_of_ble_eq_true rfl) (Nat.le_of_ble_eq_true rfl) dX4_become_79
set_option maxHeartbeats 4000000 in
set_option maxRecDepth 100000 in
theorem cX4_add_680 (l : Launch) (D : va_G) (h0 : Nat) (h1 : Nat) (h2 : Nat) (h3 : Nat) (f0 : Nat → Int32) (f1 : Nat → Int32) (a0 : ClassId) (a1 : ClassId) (ef0_0 : f0 0 = 0) (ef1_0 : f1 0 = 0)  : CT l yX4_add cX4_add 7 none { frames := 1, cells := 0, slots := 0, locals := 24 } [.ref h0, .ref h1, .long (-1)] D [(h0, .inr (4, [.ref h2, .int 0, .int 0])), (h1, .inr (4, [.ref h3, .int 0, .int 0])), (h2, .inl (a0, 2, .inl f0)), (h3, .inl (a1, 2, .inl f1))] [(a0, .int), (a1, .int)] XN [(h0, .inr (4, [.ref h2, .int 0, .int 0])), (h1, .inr (4, [.ref h3, .int 0, .int 0])), (h2, .inl (a0, 2, .inl f0)), (h3, .inl (a1, 2, .inl f1))] (ev (fun _ : Unit => True) (fun _ => [(h0, .inr (4, [.ref h2, .int 0, .int 0])), (h1, .inr (4, [.ref h3, .int 0, .int 0])), (h2, .inl (a0, 2, .inl (upd (upd f0 0 0) 1 0))), (h3, .inl (a1, 2, .inl f1))]) (fun u => [(a0, .int), (a1, .int)]) D) 0 0 := by
  refine CT.ofW (by decide +kernel) (Nat.le_of_ble_eq_true rfl) ?_
  intro p e s m below meth c A ls hcs hP hK hD hX hA hS hl
  obtain ⟨hx, hb, hr, hml, hown, hg, hlocks, hin⟩ := hcs
  have hown : s.vm.findClass RX4 = some m.cls := hown
  have hl : lv_has ls 7 [(0, .ref h0), (1, .ref h1), (2, .long (-1))] := hl
  refine lv_aload_n hx hb dX4_add_0 rfl (lv_at hl 0 rfl) ?_
  refine va_get (D := D) (ci := 4) (v := .int 0) (C := RX4) (T := TX4) (N := 3) hx hb hg inX4 hown hK hP 0 rfl rfl 1 (by decide) (hg _ k210) (fun _ h9 => h9) rfl dX4_add_1 ?_
  refine lv_iconst (v := 1) hx hb dX4_add_4 (by decide) ?_
  refine lv_icmp_gt (tgt := 32) hx hb dX4_add_5 (by decide) (fun c9 => absurd c9 (by decide)) (fun _ => ?_)
  refine lv_aload_n hx hb dX4_add_8 rfl (lv_at hl 1 rfl) ?_
  refine va_get (D := D) (ci := 4) (v := .int 0) (C := RX4) (T := TX4) (N := 3) hx hb hg inX4 hown hK hP 1 rfl rfl 1 (by decide) (hg _ k210) (fun _ h9 => h9) rfl dX4_add_9 ?_
  refine lv_iconst (v := 1) hx hb dX4_add_12 (by decide) ?_
  refine lv_icmp_gt (tgt := 32) hx hb dX4_add_13 (by decide) (fun c9 => absurd c9 (by decide)) (fun _ => ?_)
  refine lv_aload_n hx hb dX4_add_16 rfl (lv_at hl 0 rfl) ?_
  refine lv_aload_n hx hb dX4_add_17 rfl (lv_at hl 0 rfl) ?_
  refine cVl (n := 0) (As := []) (rest := [.ref h0]) (wr := [(h0, .inr (4, [.ref h2, .int 0, .int 0])), (h1, .inr (4, [.ref h3, .int 0, .int 0])), (h2, .inl (a0, 2, .inl f0)), (h3, .inl (a1, 2, .inl f1))]) (tr := [(a0, .int), (a1, .int)]) hx hb hml hown hg okN (cX4_lowest_681 l D h0 h2 (.int 0) f0 a0 ef0_0) (mwV k344 k346 k0 k88 k347) ⟨rfl, by decide, by decide, by decide +kernel⟩ ⟨rfl, rfl, (Nat.le_of_ble_eq_true rfl), (Nat.le_of_ble_eq_true rfl)⟩ hP hD hK hS xn [0, 2] [] [0, 1, 2, 3] [0] [0, 1] rfl (by decide) rfl rfl (by decide) (by decide) rfl rfl (aNil hA hS) (aNil hA hS) 0 rfl rfl rfl hl.1 rfl (Nat.le_of_ble_eq_true rfl) dX4_add_18 ⟨(Nat.le_of_ble_eq_true rfl), (Nat.le_of_ble_eq_true rfl)⟩ (fun u H locs hφ hP hD hK hS hk => ?_)
  have hP : va_P D vwCl [(h0, .inr (4, [.ref h2, .int 0, .int 0])), (h1, .inr (4, [.ref h3, .int 0, .int 0])), (h2, .inl (a0, 2, .inl f0)), (h3, .inl (a1, 2, .inl f1))] H := hP
  have hD : va_D A [(h0, .inr (4, [.ref h2, .int 0, .int 0])), (h1, .inr (4, [.ref h3, .int 0, .int 0])), (h2, .inl (a0, 2, .inl f0)), (h3, .inl (a1, 2, .inl f1))] := hD
  have hK : va_K D vwCl [(a0, .int), (a1, .int)] s := hK
  refine W.widen (k := 0) (n := 0) (Nat.le_of_ble_eq_true rfl) (Nat.le_of_ble_eq_true rfl) ?_
  refine lv_aload_n hx hb dX4_add_21 rfl (lv_at hl 1 rfl) ?_
  refine cVl (n := 0) (As := []) (rest := [.long 0, .ref h0]) (wr := [(h0, .inr (4, [.ref h2, .int 0, .int 0])), (h1, .inr (4, [.ref h3, .int 0, .int 0])), (h2, .inl (a0, 2, .inl f0)), (h3, .inl (a1, 2, .inl f1))]) (tr := [(a0, .int), (a1, .int)]) hx hb hml hown hg okN (cX4_lowest_681 l D h1 h3 (.int 0) f1 a1 ef1_0) (mwV k344 k346 k0 k88 k347) ⟨rfl, by decide, by decide, by decide +kernel⟩ ⟨rfl, rfl, (Nat.le_of_ble_eq_true rfl), (Nat.le_of_ble_eq_true rfl)⟩ hP hD hK hS xn [1, 3] [] [0, 1, 2, 3] [1] [0, 1] rfl (by decide) rfl rfl (by decide) (by decide) rfl rfl (aNil hA hS) (aNil hA hS) 1 rfl rfl rfl hl.1 rfl (Nat.le_of_ble_eq_true rfl) dX4_add_22 ⟨(Nat.le_of_ble_eq_true rfl), (Nat.le_of_ble_eq_true rfl)⟩ (fun u H locs hφ hP hD hK hS hk => ?_)
  have hP : va_P D vwCl [(h0, .inr (4, [.ref h2, .int 0, .int 0])), (h1, .inr (4, [.ref h3, .int 0, .int 0])), (h2, .inl (a0, 2, .inl f0)), (h3, .inl (a1, 2, .inl f1))] H := hP
  have hD : va_D A [(h0, .inr (4, [.ref h2, .int 0, .int 0])), (h1, .inr (4, [.ref h3, .int 0, .int 0])), (h2, .inl (a0, 2, .inl f0)), (h3, .inl (a1, 2, .inl f1))] := hD
  have hK : va_K D vwCl [(a0, .int), (a1, .int)] s := hK
  refine W.widen (k := 0) (n := 0) (Nat.le_of_ble_eq_true rfl) (Nat.le_of_ble_eq_true rfl) ?_
  refine lv_lload_n hx hb dX4_add_25 rfl (lv_at hl 2 rfl) ?_
  refine lv_lmul hx hb dX4_add_26 ?_
  refine tl (0) (by decide) ?_
  refine lv_ladd hx hb dX4_add_27 ?_
  refine tl (0) (by decide) ?_
  refine cVv (n := 1) (As := [.long 0]) (rest := []) (wr := [(h1, .inr (4, [.ref h3, .int 0, .int 0])), (h3, .inl (a1, 2, .inl f1))]) (tr := [(a1, .int)]) hx hb hml hown hg okN (cX4_become_682 l D h0 h2 (.int 0) (.int 0) f0 a0) (mwV k349 k275 k276 k88 k277) ⟨rfl, by decide, by decide, by decide +kernel⟩ ⟨rfl, rfl, (Nat.le_of_ble_eq_true rfl), (Nat.le_of_ble_eq_true rfl)⟩ hP hD hK hS xn [0, 2] [0, 2] [1, 3] [0] [1] rfl (by decide) rfl rfl (by decide) (by decide) rfl rfl (va_free hD hS hA [0, 2] rfl) (va_free hD hS hA [0, 2] rfl) 0 rfl rfl rfl hl.1 rfl (Nat.le_of_ble_eq_true rfl) dX4_add_28 ⟨(Nat.le_of_ble_eq_true rfl), (Nat.le_of_ble_eq_true rfl)⟩ (fun u H locs hφ hP hD hK hS hk => ?_)
  have hP : va_P D vwCl [(h1, .inr (4, [.ref h3, .int 0, .int 0])), (h3, .inl (a1, 2, .inl f1)), (h0, .inr (4, [.ref h2, .int 0, .int 0])), (h2, .inl (a0, 2, .inl (upd (upd f0 0 0) 1 0)))] H := hP
  have hD : va_D A [(h1, .inr (4, [.ref h3, .int 0, .int 0])), (h3, .inl (a1, 2, .inl f1)), (h0, .inr (4, [.ref h2, .int 0, .int 0])), (h2, .inl (a0, 2, .inl (upd (upd f0 0 0) 1 0)))] := hD
  have hK : va_K D vwCl [(a1, .int), (a0, .int)] s := hK
  refine W.widen (k := 0) (n := 0) (Nat.le_of_ble_eq_true rfl) (Nat.le_of_ble_eq_true rfl) ?_
  exact fv hx hb hr hlocks hP hD hK hS (()) trivial [2, 0, 3, 1] [1, 0] rfl (by decide) rfl (Nat.le_of_ble_eq_true rfl) (Nat.le_of_ble_eq_true rfl) dX4_add_31
set_option maxHeartbeats 4000000 in
set_option maxRecDepth 100000 in
theorem cX4_become_683 (l : Launch) (D : va_G) (h0 : Nat) (x0 : Int32) (h1 : Nat) (v0 : Value) (v1 : Value) (f0 : Nat → Int32) (a0 : ClassId)  (d0 : ¬ (0 ≤ (lg_cmp x0.toInt64 0))) (d1 : ush32 (-x0.toInt64) = 0) (d2 : ¬ (((-x0.toInt64).toInt32) = 0)) : CT l yX4_become cX4_become 5 none { frames := 0, cells := 0, slots := 0, locals := 0 } [.ref h0, .long x0.toInt64] D [(h0, .inr (4, [.ref h1, v0, v1])), (h1, .inl (a0, 2, .inl f0))] [(a0, .int)] XN [(h0, .inr (4, [.ref h1, v0, v1])), (h1, .inl (a0, 2, .inl f0))] (ev (fun _ : Unit => True) (fun _ => [(h0, .inr (4, [.ref h1, .int 1, .int 1])), (h1, .inl (a0, 2, .inl (upd (upd f0 0 ((-x0.toInt64).toInt32)) 1 0)))]) (fun u => [(a0, .int)]) D) 0 0 := by
  refine CT.ofW (by decide +kernel) (Nat.le_of_ble_eq_true rfl) ?_
  intro p e s m below meth c A ls hcs hP hK hD hX hA hS hl
  obtain ⟨hx, hb, hr, hml, hown, hg, hlocks, hin⟩ := hcs
  have hown : s.vm.findClass RX4 = some m.cls := hown
  have hl : lv_has ls 5 [(0, .ref h0), (1, .long x0.toInt64)] := hl
  refine lv_aload_n hx hb dX4_become_0 rfl (lv_at hl 0 rfl) ?_
  refine lv_lload_n hx hb dX4_become_1 rfl (lv_at hl 1 rfl) ?_
  refine lv_lconst (v := 0) hx hb dX4_become_2 (by decide) ?_
  refine W.lcmp hx hb dX4_become_3 ?_
  refine lv_if_ge (tgt := 11) hx hb dX4_become_4 (by decide) (fun c9 => absurd c9 d0) (fun _ => ?_)
  refine lv_iconst (v := 1) hx hb dX4_become_7 (by decide) ?_
  refine lv_goto (tgt := 12) hx hb dX4_become_8 (by decide) ?_
  refine va_put (D := D) (ci := 4) (v := .int 1) (ty := .boolean) (C := RX4) (T := TX4) (N := 3) hx hb hg inX4 tyX4 tyX4_ok nmX4 hown hK hP hD hS 0 rfl rfl 2 (by decide) (hg _ k211) (fun _ h9 => h9) rfl (by decide +kernel) rfl rfl (Nat.le_of_ble_eq_true rfl) dX4_become_12 (fun H locs hP hD hS => ?_)
  have hP : va_P D vwCl [(h0, .inr (4, [.ref h1, v0, .int 1])), (h1, .inl (a0, 2, .inl f0))] H := hP
  have hD : va_D A [(h0, .inr (4, [.ref h1, v0, .int 1])), (h1, .inl (a0, 2, .inl f0))] := hD
  refine lv_aload_n hx hb dX4_become_15 rfl (lv_at hl 0 rfl) ?_
  refine va_get (D := D) (ci := 4) (v := .int 1) (C := RX4) (T := TX4) (N := 3) hx hb hg inX4 hown hK hP 0 rfl rfl 2 (by decide) (hg _ k211) (fun _ h9 => h9) rfl dX4_become_16 ?_
  refine lv_if_eq (tgt := 27) hx hb dX4_become_19 (by decide) (fun c9 => absurd c9 (by decide)) (fun _ => ?_)
  refine lv_lload_n hx hb dX4_become_22 rfl (lv_at hl 1 rfl) ?_
  refine lv_lneg hx hb dX4_become_23 ?_
  refine lv_goto (tgt := 28) hx hb dX4_become_24 (by decide) ?_
  refine lv_lstore_n (lv' := [(3, .long (-x0.toInt64)), (0, .ref h0), (1, .long x0.toInt64)]) hx hb dX4_become_28 rfl hl (by decide) rfl (fun ls hl => ?_)
  refine lv_aload_n hx hb dX4_become_29 rfl (lv_at hl 1 rfl) ?_
  refine va_get (D := D) (ci := 4) (v := .ref h1) (C := RX4) (T := TX4) (N := 3) hx hb hg inX4 hown hK hP 0 rfl rfl 0 (by decide) (hg _ k209) (fun _ h9 => h9) rfl dX4_become_30 ?_
  refine lv_iconst (v := 0) hx hb dX4_become_33 (by decide) ?_
  refine lv_lload_n hx hb dX4_become_34 rfl (lv_at hl 0 rfl) ?_
  refine lv_l2i (v := ((-x0.toInt64).toInt32)) hx hb dX4_become_35 rfl ?_
  refine astI hx hb hK hP hD hS 1 0 rfl rfl 0 (by decide) (vin (by decide)) dX4_become_36 (fun H locs hP hD hS => ?_)
  have hP : va_P D vwCl [(h0, .inr (4, [.ref h1, v0, .int 1])), (h1, .inl (a0, 2, .inl (upd f0 0 ((-x0.toInt64).toInt32))))] H := hP
  have hD : va_D A [(h0, .inr (4, [.ref h1, v0, .int 1])), (h1, .inl (a0, 2, .inl (upd f0 0 ((-x0.toInt64).toInt32))))] := hD
  refine lv_aload_n hx hb dX4_become_37 rfl (lv_at hl 1 rfl) ?_
  refine va_get (D := D) (ci := 4) (v := .ref h1) (C := RX4) (T := TX4) (N := 3) hx hb hg inX4 hown hK hP 0 rfl rfl 0 (by decide) (hg _ k209) (fun _ h9 => h9) rfl dX4_become_38 ?_
  refine lv_iconst (v := 1) hx hb dX4_become_41 (by decide) ?_
  refine lv_lload_n hx hb dX4_become_42 rfl (lv_at hl 0 rfl) ?_
  refine lv_bipush (v := 32) hx hb dX4_become_43 (by decide) ?_
  refine lv_lushr (v := 0) hx hb dX4_become_45 d1 ?_
  refine lv_l2i (v := 0) hx hb dX4_become_46 (by decide) ?_
  refine astI hx hb hK hP hD hS 1 0 rfl rfl 1 (by decide) (vin (by decide)) dX4_become_47 (fun H locs hP hD hS => ?_)
  have hP : va_P D vwCl [(h0, .inr (4, [.ref h1, v0, .int 1])), (h1, .inl (a0, 2, .inl (upd (upd f0 0 ((-x0.toInt64).toInt32)) 1 0)))] H := hP
  have hD : va_D A [(h0, .inr (4, [.ref h1, v0, .int 1])), (h1, .inl (a0, 2, .inl (upd (upd f0 0 ((-x0.toInt64).toInt32)) 1 0)))] := hD
  refine lv_aload_n hx hb dX4_become_48 rfl (lv_at hl 1 rfl) ?_
  refine lv_aload_n hx hb dX4_become_49 rfl (lv_at hl 1 rfl) ?_
  refine va_get (D := D) (ci := 4) (v := .ref h1) (C := RX4) (T := TX4) (N := 3) hx hb hg inX4 hown hK hP 0 rfl rfl 0 (by decide) (hg _ k209) (fun _ h9 => h9) rfl dX4_become_50 ?_
  refine lv_iconst (v := 1) hx hb dX4_become_53 (by decide) ?_
  refine aldI hx hb hK hP 1 0 rfl rfl 1 (by decide) (vin (by decide)) (v := 0) rfl dX4_become_54 ?_
  refine lv_if_eq (tgt := 62) hx hb dX4_become_55 (by decide) (fun _ => ?_) (fun c9 => absurd (by decide) c9)
  refine lv_aload_n hx hb dX4_become_62 rfl (lv_at hl 1 rfl) ?_
  refine va_get (D := D) (ci := 4) (v := .ref h1) (C := RX4) (T := TX4) (N := 3) hx hb hg inX4 hown hK hP 0 rfl rfl 0 (by decide) (hg _ k209) (fun _ h9 => h9) rfl dX4_become_63 ?_
  refine lv_iconst (v := 0) hx hb dX4_become_66 (by decide) ?_
  refine aldI hx hb hK hP 1 0 rfl rfl 0 (by decide) (vin (by decide)) (v := ((-x0.toInt64).toInt32)) rfl dX4_become_67 ?_
  refine lv_if_eq (tgt := 75) hx hb dX4_become_68 (by decide) (fun c9 => absurd c9 d2) (fun _ => ?_)
  refine lv_iconst (v := 1) hx hb dX4_become_71 (by decide) ?_
  refine lv_goto (tgt := 76) hx hb dX4_become_72 (by decide) ?_
  refine va_put (D := D) (ci := 4) (v := .int 1) (ty := .int) (C := RX4) (T := TX4) (N := 3) hx hb hg inX4 tyX4 tyX4_ok nmX4 hown hK hP hD hS 0 rfl rfl 1 (by decide) (hg _ k210) (fun _ h9 => h9) rfl (by decide +kernel) rfl rfl (Nat.le_of_ble_eq_true rfl) dX4_become_76 (fun H locs hP hD hS => ?_)
  have hP : va_P D vwCl [(h0, .inr (4, [.ref h1, .int 1, .int 1])), (h1, .inl (a0, 2, .inl (upd (upd f0 0 ((-x0.toInt64).toInt32)) 1 0)))] H := hP
  have hD : va_D A [(h0, .inr (4, [.ref h1, .int 1, .int 1])), (h1, .inl (a0, 2, .inl (upd (upd f0 0 ((-x0.toInt64).toInt32)) 1 0)))] := hD
  exact fv hx hb hr hlocks hP hD hK hS (()) trivial [0, 1] [0] rfl (by decide) rfl (Nat.le_of_ble_eq_true rfl) (Nat.le_of_ble_eq_true rfl) dX4_become_79
set_option maxHeartbeats 4000000 in
set_option maxRecDepth 100000 in
theorem cX4_lowest_685 (l : Launch) (D : va_G) (h0 : Nat) (h1 : Nat) (v0 : Value) (f0 : Nat → Int32) (x0 : Int32) (a0 : ClassId) (ef0_0 : f0 0 = x0) (d0 : x0.toInt64 &&& 4294967295 = x0.toInt64) : CT l yX4_lowest cX4_lowest 1 (some .long) { frames := 0, cells := 0, slots := 0, locals := 0 } [.ref h0] D [(h0, .inr (4, [.ref h1, v0, .int 1])), (h1, .inl (a0, 2, .inl f0))] [(a0, .int)] XN [] (el (fun _ : Unit => True) (fun _ => (-x0.toInt64)) (fun _ => []) (fun _ => []) D) 0 0 := by
  refine CT.ofR (by decide +kernel) (Nat.le_of_ble_eq_true rfl) ?_
  intro p e s m below meth c A ls hcs hP hK hD hX hA hS hl
  obtain ⟨hx, hb, hr, hml, hown, hg, hlocks, hin⟩ := hcs
  have hown : s.vm.findClass RX4 = some m.cls := hown
  have hl : lv_has ls 1 [(0, .ref h0)] := hl
  refine lv_aload_n hx hb dX4_lowest_0 rfl (lv_at hl 0 rfl) ?_
  refine va_get (D := D) (ci := 4) (v := .int 1) (C := RX4) (T := TX4) (N := 3) hx hb hg inX4 hown hK hP 0 rfl rfl 2 (by decide) (hg _ k211) (fun _ h9 => h9) rfl dX4_lowest_1 ?_
  refine lv_if_eq (tgt := 22) hx hb dX4_lowest_4 (by decide) (fun c9 => absurd c9 (by decide)) (fun _ => ?_)
  refine lv_aload_n hx hb dX4_lowest_7 rfl (lv_at hl 0 rfl) ?_
  refine va_get (D := D) (ci := 4) (v := .ref h1) (C := RX4) (T := TX4) (N := 3) hx hb hg inX4 hown hK hP 0 rfl rfl 0 (by decide) (hg _ k209) (fun _ h9 => h9) rfl dX4_lowest_8 ?_
  refine lv_iconst (v := 0) hx hb dX4_lowest_11 (by decide) ?_
  refine aldI hx hb hK hP 1 0 rfl rfl 0 (by decide) (vin (by decide)) (v := x0) ef0_0 dX4_lowest_12 ?_
  refine lv_i2l (v := x0.toInt64) hx hb dX4_lowest_13 rfl ?_
  refine lv_ldc2 hx hb hown (hg _ k348) dX4_lowest_14 ?_
  refine lv_land hx hb dX4_lowest_17 ?_
  refine tl (x0.toInt64) (d0) ?_
  refine lv_lneg hx hb dX4_lowest_18 ?_
  refine lv_goto (tgt := 33) hx hb dX4_lowest_19 (by decide) ?_
  exact fl0 hx hb hr hlocks hK hS (Nat.le_of_ble_eq_true rfl) (Nat.le_of_ble_eq_true rfl) dX4_lowest_33
set_option maxHeartbeats 4000000 in
set_option maxRecDepth 100000 in
theorem cX4_become_686 (l : Launch) (D : va_G) (h0 : Nat) (z0 : Int64) (h1 : Nat) (v0 : Value) (v1 : Value) (f0 : Nat → Int32) (a0 : ClassId)  (d0 : ¬ (0 ≤ (lg_cmp z0 0))) (d1 : ush32 (-z0) = 0) (d2 : ¬ (((-z0).toInt32) = 0)) : CT l yX4_become cX4_become 5 none { frames := 0, cells := 0, slots := 0, locals := 0 } [.ref h0, .long z0] D [(h0, .inr (4, [.ref h1, v0, v1])), (h1, .inl (a0, 2, .inl f0))] [(a0, .int)] XN [(h0, .inr (4, [.ref h1, v0, v1])), (h1, .inl (a0, 2, .inl f0))] (ev (fun _ : Unit => True) (fun _ => [(h0, .inr (4, [.ref h1, .int 1, .int 1])), (h1, .inl (a0, 2, .inl (upd (upd f0 0 ((-z0).toInt32)) 1 0)))]) (fun u => [(a0, .int)]) D) 0 0 := by
  refine CT.ofW (by decide +kernel) (Nat.le_of_ble_eq_true rfl) ?_
  intro p e s m below meth c A ls hcs hP hK hD hX hA hS hl
  obtain ⟨hx, hb, hr, hml, hown, hg, hlocks, hin⟩ := hcs
  have hown : s.vm.findClass RX4 = some m.cls := hown
  have hl : lv_has ls 5 [(0, .ref h0), (1, .long z0)] := hl
  refine lv_aload_n hx hb dX4_become_0 rfl (lv_at hl 0 rfl) ?_
  refine lv_lload_n hx hb dX4_become_1 rfl (lv_at hl 1 rfl) ?_
  refine lv_lconst (v := 0) hx hb dX4_become_2 (by decide) ?_
  refine W.lcmp hx hb dX4_become_3 ?_
  refine lv_if_ge (tgt := 11) hx hb dX4_become_4 (by decide) (fun c9 => absurd c9 d0) (fun _ => ?_)
  refine lv_iconst (v := 1) hx hb dX4_become_7 (by decide) ?_
  refine lv_goto (tgt := 12) hx hb dX4_become_8 (by decide) ?_
  refine va_put (D := D) (ci := 4) (v := .int 1) (ty := .boolean) (C := RX4) (T := TX4) (N := 3) hx hb hg inX4 tyX4 tyX4_ok nmX4 hown hK hP hD hS 0 rfl rfl 2 (by decide) (hg _ k211) (fun _ h9 => h9) rfl (by decide +kernel) rfl rfl (Nat.le_of_ble_eq_true rfl) dX4_become_12 (fun H locs hP hD hS => ?_)
  have hP : va_P D vwCl [(h0, .inr (4, [.ref h1, v0, .int 1])), (h1, .inl (a0, 2, .inl f0))] H := hP
  have hD : va_D A [(h0, .inr (4, [.ref h1, v0, .int 1])), (h1, .inl (a0, 2, .inl f0))] := hD
  refine lv_aload_n hx hb dX4_become_15 rfl (lv_at hl 0 rfl) ?_
  refine va_get (D := D) (ci := 4) (v := .int 1) (C := RX4) (T := TX4) (N := 3) hx hb hg inX4 hown hK hP 0 rfl rfl 2 (by decide) (hg _ k211) (fun _ h9 => h9) rfl dX4_become_16 ?_
  refine lv_if_eq (tgt := 27) hx hb dX4_become_19 (by decide) (fun c9 => absurd c9 (by decide)) (fun _ => ?_)
  refine lv_lload_n hx hb dX4_become_22 rfl (lv_at hl 1 rfl) ?_
  refine lv_lneg hx hb dX4_become_23 ?_
  refine lv_goto (tgt := 28) hx hb dX4_become_24 (by decide) ?_
  refine lv_lstore_n (lv' := [(3, .long (-z0)), (0, .ref h0), (1, .long z0)]) hx hb dX4_become_28 rfl hl (by decide) rfl (fun ls hl => ?_)
  refine lv_aload_n hx hb dX4_become_29 rfl (lv_at hl 1 rfl) ?_
  refine va_get (D := D) (ci := 4) (v := .ref h1) (C := RX4) (T := TX4) (N := 3) hx hb hg inX4 hown hK hP 0 rfl rfl 0 (by decide) (hg _ k209) (fun _ h9 => h9) rfl dX4_become_30 ?_
  refine lv_iconst (v := 0) hx hb dX4_become_33 (by decide) ?_
  refine lv_lload_n hx hb dX4_become_34 rfl (lv_at hl 0 rfl) ?_
  refine lv_l2i (v := ((-z0).toInt32)) hx hb dX4_become_35 rfl ?_
  refine astI hx hb hK hP hD hS 1 0 rfl rfl 0 (by decide) (vin (by decide)) dX4_become_36 (fun H locs hP hD hS => ?_)
  have hP : va_P D vwCl [(h0, .inr (4, [.ref h1, v0, .int 1])), (h1, .inl (a0, 2, .inl (upd f0 0 ((-z0).toInt32))))] H := hP
  have hD : va_D A [(h0, .inr (4, [.ref h1, v0, .int 1])), (h1, .inl (a0, 2, .inl (upd f0 0 ((-z0).toInt32))))] := hD
  refine lv_aload_n hx hb dX4_become_37 rfl (lv_at hl 1 rfl) ?_
  refine va_get (D := D) (ci := 4) (v := .ref h1) (C := RX4) (T := TX4) (N := 3) hx hb hg inX4 hown hK hP 0 rfl rfl 0 (by decide) (hg _ k209) (fun _ h9 => h9) rfl dX4_become_38 ?_
  refine lv_iconst (v := 1) hx hb dX4_become_41 (by decide) ?_
  refine lv_lload_n hx hb dX4_become_42 rfl (lv_at hl 0 rfl) ?_
  refine lv_bipush (v := 32) hx hb dX4_become_43 (by decide) ?_
  refine lv_lushr (v := 0) hx hb dX4_become_45 d1 ?_
  refine lv_l2i (v := 0) hx hb dX4_become_46 (by decide) ?_
  refine astI hx hb hK hP hD hS 1 0 rfl rfl 1 (by decide) (vin (by decide)) dX4_become_47 (fun H locs hP hD hS => ?_)
  have hP : va_P D vwCl [(h0, .inr (4, [.ref h1, v0, .int 1])), (h1, .inl (a0, 2, .inl (upd (upd f0 0 ((-z0).toInt32)) 1 0)))] H := hP
  have hD : va_D A [(h0, .inr (4, [.ref h1, v0, .int 1])), (h1, .inl (a0, 2, .inl (upd (upd f0 0 ((-z0).toInt32)) 1 0)))] := hD
  refine lv_aload_n hx hb dX4_become_48 rfl (lv_at hl 1 rfl) ?_
  refine lv_aload_n hx hb dX4_become_49 rfl (lv_at hl 1 rfl) ?_
  refine va_get (D := D) (ci := 4) (v := .ref h1) (C := RX4) (T := TX4) (N := 3) hx hb hg inX4 hown hK hP 0 rfl rfl 0 (by decide) (hg _ k209) (fun _ h9 => h9) rfl dX4_become_50 ?_
  refine lv_iconst (v := 1) hx hb dX4_become_53 (by decide) ?_
  refine aldI hx hb hK hP 1 0 rfl rfl 1 (by decide) (vin (by decide)) (v := 0) rfl dX4_become_54 ?_
  refine lv_if_eq (tgt := 62) hx hb dX4_become_55 (by decide) (fun _ => ?_) (fun c9 => absurd (by decide) c9)
  refine lv_aload_n hx hb dX4_become_62 rfl (lv_at hl 1 rfl) ?_
  refine va_get (D := D) (ci := 4) (v := .ref h1) (C := RX4) (T := TX4) (N := 3) hx hb hg inX4 hown hK hP 0 rfl rfl 0 (by decide) (hg _ k209) (fun _ h9 => h9) rfl dX4_become_63 ?_
  refine lv_iconst (v := 0) hx hb dX4_become_66 (by decide) ?_
  refine aldI hx hb hK hP 1 0 rfl rfl 0 (by decide) (vin (by decide)) (v := ((-z0).toInt32)) rfl dX4_become_67 ?_
  refine lv_if_eq (tgt := 75) hx hb dX4_become_68 (by decide) (fun c9 => absurd c9 d2) (fun _ => ?_)
  refine lv_iconst (v := 1) hx hb dX4_become_71 (by decide) ?_
  refine lv_goto (tgt := 76) hx hb dX4_become_72 (by decide) ?_
  refine va_put (D := D) (ci := 4) (v := .int 1) (ty := .int) (C := RX4) (T := TX4) (N := 3) hx hb hg inX4 tyX4 tyX4_ok nmX4 hown hK hP hD hS 0 rfl rfl 1 (by decide) (hg _ k210) (fun _ h9 => h9) rfl (by decide +kernel) rfl rfl (Nat.le_of_ble_eq_true rfl) dX4_become_76 (fun H locs hP hD hS => ?_)
  have hP : va_P D vwCl [(h0, .inr (4, [.ref h1, .int 1, .int 1])), (h1, .inl (a0, 2, .inl (upd (upd f0 0 ((-z0).toInt32)) 1 0)))] H := hP
  have hD : va_D A [(h0, .inr (4, [.ref h1, .int 1, .int 1])), (h1, .inl (a0, 2, .inl (upd (upd f0 0 ((-z0).toInt32)) 1 0)))] := hD
  exact fv hx hb hr hlocks hP hD hK hS (()) trivial [0, 1] [0] rfl (by decide) rfl (Nat.le_of_ble_eq_true rfl) (Nat.le_of_ble_eq_true rfl) dX4_become_79
set_option maxHeartbeats 4000000 in
set_option maxRecDepth 100000 in
theorem cX4_add_684 (l : Launch) (D : va_G) (h0 : Nat) (h1 : Nat) (h2 : Nat) (h3 : Nat) (f0 : Nat → Int32) (f1 : Nat → Int32) (z0 : Int32) (a0 : ClassId) (a1 : ClassId) (ef0_0 : f0 0 = 0) (ef1_0 : f1 0 = z0) (d0 : z0.toInt64 &&& 4294967295 = z0.toInt64) (d1 : ¬ (0 ≤ (lg_cmp (-z0.toInt64) 0))) (d2 : ush32 (-(-z0.toInt64)) = 0) (d3 : ¬ (((-(-z0.toInt64)).toInt32) = 0)) : CT l yX4_add cX4_add 7 none { frames := 1, cells := 0, slots := 0, locals := 24 } [.ref h0, .ref h1, .long 1] D [(h0, .inr (4, [.ref h2, .int 0, .int 0])), (h1, .inr (4, [.ref h3, .int 1, .int 1])), (h2, .inl (a0, 2, .inl f0)), (h3, .inl (a1, 2, .inl f1))] [(a0, .int), (a1, .int)] XN [(h0, .inr (4, [.ref h2, .int 0, .int 0])), (h1, .inr (4, [.ref h3, .int 1, .int 1])), (h2, .inl (a0, 2, .inl f0)), (h3, .inl (a1, 2, .inl f1))] (ev (fun _ : Unit => True) (fun _ => [(h0, .inr (4, [.ref h2, .int 1, .int 1])), (h1, .inr (4, [.ref h3, .int 1, .int 1])), (h2, .inl (a0, 2, .inl (upd (upd f0 0 ((-(-z0.toInt64)).toInt32)) 1 0))), (h3, .inl (a1, 2, .inl f1))]) (fun u => [(a0, .int), (a1, .int)]) D) 0 0 := by
  refine CT.ofW (by decide +kernel) (Nat.le_of_ble_eq_true rfl) ?_
  intro p e s m below meth c A ls hcs hP hK hD hX hA hS hl
  obtain ⟨hx, hb, hr, hml, hown, hg, hlocks, hin⟩ := hcs
  have hown : s.vm.findClass RX4 = some m.cls := hown
  have hl : lv_has ls 7 [(0, .ref h0), (1, .ref h1), (2, .long 1)] := hl
  refine lv_aload_n hx hb dX4_add_0 rfl (lv_at hl 0 rfl) ?_
  refine va_get (D := D) (ci := 4) (v := .int 0) (C := RX4) (T := TX4) (N := 3) hx hb hg inX4 hown hK hP 0 rfl rfl 1 (by decide) (hg _ k210) (fun _ h9 => h9) rfl dX4_add_1 ?_
  refine lv_iconst (v := 1) hx hb dX4_add_4 (by decide) ?_
  refine lv_icmp_gt (tgt := 32) hx hb dX4_add_5 (by decide) (fun c9 => absurd c9 (by decide)) (fun _ => ?_)
  refine lv_aload_n hx hb dX4_add_8 rfl (lv_at hl 1 rfl) ?_
  refine va_get (D := D) (ci := 4) (v := .int 1) (C := RX4) (T := TX4) (N := 3) hx hb hg inX4 hown hK hP 1 rfl rfl 1 (by decide) (hg _ k210) (fun _ h9 => h9) rfl dX4_add_9 ?_
  refine lv_iconst (v := 1) hx hb dX4_add_12 (by decide) ?_
  refine lv_icmp_gt (tgt := 32) hx hb dX4_add_13 (by decide) (fun c9 => absurd c9 (by decide)) (fun _ => ?_)
  refine lv_aload_n hx hb dX4_add_16 rfl (lv_at hl 0 rfl) ?_
  refine lv_aload_n hx hb dX4_add_17 rfl (lv_at hl 0 rfl) ?_
  refine cVl (n := 0) (As := []) (rest := [.ref h0]) (wr := [(h0, .inr (4, [.ref h2, .int 0, .int 0])), (h1, .inr (4, [.ref h3, .int 1, .int 1])), (h2, .inl (a0, 2, .inl f0)), (h3, .inl (a1, 2, .inl f1))]) (tr := [(a0, .int), (a1, .int)]) hx hb hml hown hg okN (cX4_lowest_681 l D h0 h2 (.int 0) f0 a0 ef0_0) (mwV k344 k346 k0 k88 k347) ⟨rfl, by decide, by decide, by decide +kernel⟩ ⟨rfl, rfl, (Nat.le_of_ble_eq_true rfl), (Nat.le_of_ble_eq_true rfl)⟩ hP hD hK hS xn [0, 2] [] [0, 1, 2, 3] [0] [0, 1] rfl (by decide) rfl rfl (by decide) (by decide) rfl rfl (aNil hA hS) (aNil hA hS) 0 rfl rfl rfl hl.1 rfl (Nat.le_of_ble_eq_true rfl) dX4_add_18 ⟨(Nat.le_of_ble_eq_true rfl), (Nat.le_of_ble_eq_true rfl)⟩ (fun u H locs hφ hP hD hK hS hk => ?_)
  have hP : va_P D vwCl [(h0, .inr (4, [.ref h2, .int 0, .int 0])), (h1, .inr (4, [.ref h3, .int 1, .int 1])), (h2, .inl (a0, 2, .inl f0)), (h3, .inl (a1, 2, .inl f1))] H := hP
  have hD : va_D A [(h0, .inr (4, [.ref h2, .int 0, .int 0])), (h1, .inr (4, [.ref h3, .int 1, .int 1])), (h2, .inl (a0, 2, .inl f0)), (h3, .inl (a1, 2, .inl f1))] := hD
  have hK : va_K D vwCl [(a0, .int), (a1, .int)] s := hK
  refine W.widen (k := 0) (n := 0) (Nat.le_of_ble_eq_true rfl) (Nat.le_of_ble_eq_true rfl) ?_
  refine lv_aload_n hx hb dX4_add_21 rfl (lv_at hl 1 rfl) ?_
  refine cVl (n := 0) (As := []) (rest := [.long 0, .ref h0]) (wr := [(h0, .inr (4, [.ref h2, .int 0, .int 0])), (h1, .inr (4, [.ref h3, .int 1, .int 1])), (h2, .inl (a0, 2, .inl f0)), (h3, .inl (a1, 2, .inl f1))]) (tr := [(a0, .int), (a1, .int)]) hx hb hml hown hg okN (cX4_lowest_685 l D h1 h3 (.int 1) f1 z0 a1 ef1_0 d0) (mwV k344 k346 k0 k88 k347) ⟨rfl, by decide, by decide, by decide +kernel⟩ ⟨rfl, rfl, (Nat.le_of_ble_eq_true rfl), (Nat.le_of_ble_eq_true rfl)⟩ hP hD hK hS xn [1, 3] [] [0, 1, 2, 3] [1] [0, 1] rfl (by decide) rfl rfl (by decide) (by decide) rfl rfl (aNil hA hS) (aNil hA hS) 1 rfl rfl rfl hl.1 rfl (Nat.le_of_ble_eq_true rfl) dX4_add_22 ⟨(Nat.le_of_ble_eq_true rfl), (Nat.le_of_ble_eq_true rfl)⟩ (fun u H locs hφ hP hD hK hS hk => ?_)
  have hP : va_P D vwCl [(h0, .inr (4, [.ref h2, .int 0, .int 0])), (h1, .inr (4, [.ref h3, .int 1, .int 1])), (h2, .inl (a0, 2, .inl f0)), (h3, .inl (a1, 2, .inl f1))] H := hP
  have hD : va_D A [(h0, .inr (4, [.ref h2, .int 0, .int 0])), (h1, .inr (4, [.ref h3, .int 1, .int 1])), (h2, .inl (a0, 2, .inl f0)), (h3, .inl (a1, 2, .inl f1))] := hD
  have hK : va_K D vwCl [(a0, .int), (a1, .int)] s := hK
  refine W.widen (k := 0) (n := 0) (Nat.le_of_ble_eq_true rfl) (Nat.le_of_ble_eq_true rfl) ?_
  refine lv_lload_n hx hb dX4_add_25 rfl (lv_at hl 2 rfl) ?_
  refine lv_lmul hx hb dX4_add_26 ?_
  refine tl ((-z0.toInt64)) (Int64.mul_one _) ?_
  refine lv_ladd hx hb dX4_add_27 ?_
  refine tl ((-z0.toInt64)) (Int64.zero_add _) ?_
  refine cVv (n := 1) (As := [.long (-z0.toInt64)]) (rest := []) (wr := [(h1, .inr (4, [.ref h3, .int 1, .int 1])), (h3, .inl (a1, 2, .inl f1))]) (tr := [(a1, .int)]) hx hb hml hown hg okN (cX4_become_686 l D h0 (-z0.toInt64) h2 (.int 0) (.int 0) f0 a0 d1 d2 d3) (mwV k349 k275 k276 k88 k277) ⟨rfl, by decide, by decide, by decide +kernel⟩ ⟨rfl, rfl, (Nat.le_of_ble_eq_true rfl), (Nat.le_of_ble_eq_true rfl)⟩ hP hD hK hS xn [0, 2] [0, 2] [1, 3] [0] [1] rfl (by decide) rfl rfl (by decide) (by decide) rfl rfl (va_free hD hS hA [0, 2] rfl) (va_free hD hS hA [0, 2] rfl) 0 rfl rfl rfl hl.1 rfl (Nat.le_of_ble_eq_true rfl) dX4_add_28 ⟨(Nat.le_of_ble_eq_true rfl), (Nat.le_of_ble_eq_true rfl)⟩ (fun u H locs hφ hP hD hK hS hk => ?_)
  have hP : va_P D vwCl [(h1, .inr (4, [.ref h3, .int 1, .int 1])), (h3, .inl (a1, 2, .inl f1)), (h0, .inr (4, [.ref h2, .int 1, .int 1])), (h2, .inl (a0, 2, .inl (upd (upd f0 0 ((-(-z0.toInt64)).toInt32)) 1 0)))] H := hP
  have hD : va_D A [(h1, .inr (4, [.ref h3, .int 1, .int 1])), (h3, .inl (a1, 2, .inl f1)), (h0, .inr (4, [.ref h2, .int 1, .int 1])), (h2, .inl (a0, 2, .inl (upd (upd f0 0 ((-(-z0.toInt64)).toInt32)) 1 0)))] := hD
  have hK : va_K D vwCl [(a1, .int), (a0, .int)] s := hK
  refine W.widen (k := 0) (n := 0) (Nat.le_of_ble_eq_true rfl) (Nat.le_of_ble_eq_true rfl) ?_
  exact fv hx hb hr hlocks hP hD hK hS (()) trivial [2, 0, 3, 1] [1, 0] rfl (by decide) rfl (Nat.le_of_ble_eq_true rfl) (Nat.le_of_ble_eq_true rfl) dX4_add_31
set_option maxHeartbeats 4000000 in
set_option maxRecDepth 100000 in
theorem cX1_changeValue_679 (l : Launch) (D : va_G) (h0 : Nat) (x0 : Int32) (h1 : Nat) (h2 : Nat) (h3 : Nat) (h4 : Nat) (h5 : Nat) (h6 : Nat) (v0 : Value) (v1 : Value) (v2 : Value) (v3 : Value) (v4 : Value) (v5 : Value) (v6 : Value) (v7 : Value) (v8 : Value) (v9 : Value) (f0 : Nat → Option Nat) (f1 : Nat → Int64) (f2 : Nat → Int32) (f3 : Nat → Int32) (a0 : ClassId) (a1 : ClassId) (a2 : ClassId) (a3 : ClassId) (ef0_0 : f0 0 = some h4) (ef1_0 : f1 0 = 1) (ef2_0 : f2 0 = 0) (ef3_0 : f3 0 = 0) (d0 : ¬ (0 ≤ (lg_cmp x0.toInt64 0))) (d1 : ush32 (-x0.toInt64) = 0) (d2 : ¬ (((-x0.toInt64).toInt32) = 0)) (d3 : (((-x0.toInt64).toInt32).toInt64) &&& 4294967295 = (((-x0.toInt64).toInt32).toInt64)) (d4 : ¬ (0 ≤ (lg_cmp (-(((-x0.toInt64).toInt32).toInt64)) 0))) (d5 : ush32 (-(-(((-x0.toInt64).toInt32).toInt64))) = 0) (d6 : ¬ (((-(-(((-x0.toInt64).toInt32).toInt64))).toInt32) = 0)) : CT l yX1_changeValue cX1_changeValue 3 none { frames := 2, cells := 0, slots := 0, locals := 50 } [.ref h0, .int 0, .int x0] D [(h0, .inr (1, [v0, .ref h1, .ref h2, v1, v2, v3, .ref h3, v4, v5, v6, v7, v8, v9])), (h1, .inl (a0, 48, .inr (.inr (.inr (.inr f0))))), (h2, .inl (a1, 48, .inr (.inl f1))), (h3, .inr (4, [.ref h5, .int 0, .int 0])), (h4, .inr (4, [.ref h6, .int 0, .int 0])), (h5, .inl (a2, 2, .inl f2)), (h6, .inl (a3, 2, .inl f3))] [(a0, .object "LiftingSignal$Whole"), (a1, .long), (a2, .int), (a3, .int)] XN [(h0, .inr (1, [v0, .ref h1, .ref h2, v1, v2, v3, .ref h3, v4, v5, v6, v7, v8, v9])), (h1, .inl (a0, 48, .inr (.inr (.inr (.inr f0))))), (h2, .inl (a1, 48, .inr (.inl f1))), (h3, .inr (4, [.ref h5, .int 0, .int 0])), (h4, .inr (4, [.ref h6, .int 0, .int 0])), (h5, .inl (a2, 2, .inl f2)), (h6, .inl (a3, 2, .inl f3))] (ev (fun _ : Unit => True) (fun _ => [(h0, .inr (1, [v0, .ref h1, .ref h2, v1, v2, v3, .ref h3, v4, v5, v6, v7, v8, v9])), (h1, .inl (a0, 48, .inr (.inr (.inr (.inr f0))))), (h2, .inl (a1, 48, .inr (.inl f1))), (h3, .inr (4, [.ref h5, .int 1, .int 1])), (h4, .inr (4, [.ref h6, .int 1, .int 1])), (h5, .inl (a2, 2, .inl (upd (upd (upd (upd f2 0 0) 1 0) 0 ((-(-(((-x0.toInt64).toInt32).toInt64))).toInt32)) 1 0))), (h6, .inl (a3, 2, .inl (upd (upd f3 0 ((-x0.toInt64).toInt32)) 1 0)))]) (fun u => [(a0, .object "LiftingSignal$Whole"), (a1, .long), (a2, .int), (a3, .int)]) D) 0 0 := by
  refine CT.ofW (by decide +kernel) (Nat.le_of_ble_eq_true rfl) ?_
  intro p e s m below meth c A ls hcs hP hK hD hX hA hS hl
  obtain ⟨hx, hb, hr, hml, hown, hg, hlocks, hin⟩ := hcs
  have hown : s.vm.findClass RX1 = some m.cls := hown
  have hl : lv_has ls 3 [(0, .ref h0), (1, .int 0), (2, .int x0)] := hl
  refine lv_aload_n hx hb dX1_changeValue_0 rfl (lv_at hl 0 rfl) ?_
  refine va_get (D := D) (ci := 1) (v := .ref h3) (C := RX1) (T := TX1) (N := 13) hx hb hg inX1 hown hK hP 0 rfl rfl 6 (by decide) (hg _ k289) (fun _ h9 => h9) rfl dX1_changeValue_1 ?_
  refine lv_aload_n hx hb dX1_changeValue_4 rfl (lv_at hl 0 rfl) ?_
  refine va_get (D := D) (ci := 1) (v := .ref h1) (C := RX1) (T := TX1) (N := 13) hx hb hg inX1 hown hK hP 0 rfl rfl 1 (by decide) (hg _ k279) (fun _ h9 => h9) rfl dX1_changeValue_5 ?_
  refine lv_iload_n hx hb dX1_changeValue_8 rfl (lv_at hl 1 rfl) ?_
  refine aldQ hx hb hK hP 1 0 rfl rfl 0 (by decide) (vin (by decide)) (v := h4) ef0_0 dX1_changeValue_9 ?_
  refine lv_aload_n hx hb dX1_changeValue_10 rfl (lv_at hl 0 rfl) ?_
  refine va_get (D := D) (ci := 1) (v := .ref h2) (C := RX1) (T := TX1) (N := 13) hx hb hg inX1 hown hK hP 0 rfl rfl 2 (by decide) (hg _ k281) (fun _ h9 => h9) rfl dX1_changeValue_11 ?_
  refine lv_iload_n hx hb dX1_changeValue_14 rfl (lv_at hl 1 rfl) ?_
  refine aldL hx hb hK hP 2 1 rfl rfl 0 (by decide) (vin (by decide)) (v := 1) ef1_0 dX1_changeValue_15 ?_
  refine lv_lneg hx hb dX1_changeValue_16 ?_
  refine tl ((-1)) (by decide) ?_
  refine cVv (n := 2) (As := [.ref h4, .long (-1)]) (rest := []) (wr := [(h0, .inr (1, [v0, .ref h1, .ref h2, v1, v2, v3, .ref h3, v4, v5, v6, v7, v8, v9])), (h1, .inl (a0, 48, .inr (.inr (.inr (.inr f0))))), (h2, .inl (a1, 48, .inr (.inl f1)))]) (tr := [(a0, .object "LiftingSignal$Whole"), (a1, .long)]) hx hb hml hown hg okN (cX4_add_680 l D h3 h4 h5 h6 f2 f3 a2 a3 ef2_0 ef3_0) (mwV k340 k341 k342 k88 k343) ⟨rfl, by decide, by decide, by decide +kernel⟩ ⟨rfl, rfl, (Nat.le_of_ble_eq_true rfl), (Nat.le_of_ble_eq_true rfl)⟩ hP hD hK hS xn [3, 4, 5, 6] [3, 4, 5, 6] [0, 1, 2] [2, 3] [0, 1] rfl (by decide) rfl rfl (by decide) (by decide) rfl rfl (va_free hD hS hA [3, 4, 5, 6] rfl) (va_free hD hS hA [3, 4, 5, 6] rfl) 3 rfl rfl rfl hl.1 rfl (Nat.le_of_ble_eq_true rfl) dX1_changeValue_17 ⟨(Nat.le_of_ble_eq_true rfl), (Nat.le_of_ble_eq_true rfl)⟩ (fun u H locs hφ hP hD hK hS hk => ?_)
  have hP : va_P D vwCl [(h0, .inr (1, [v0, .ref h1, .ref h2, v1, v2, v3, .ref h3, v4, v5, v6, v7, v8, v9])), (h1, .inl (a0, 48, .inr (.inr (.inr (.inr f0))))), (h2, .inl (a1, 48, .inr (.inl f1))), (h3, .inr (4, [.ref h5, .int 0, .int 0])), (h4, .inr (4, [.ref h6, .int 0, .int 0])), (h5, .inl (a2, 2, .inl (upd (upd f2 0 0) 1 0))), (h6, .inl (a3, 2, .inl f3))] H := hP
  have hD : va_D A [(h0, .inr (1, [v0, .ref h1, .ref h2, v1, v2, v3, .ref h3, v4, v5, v6, v7, v8, v9])), (h1, .inl (a0, 48, .inr (.inr (.inr (.inr f0))))), (h2, .inl (a1, 48, .inr (.inl f1))), (h3, .inr (4, [.ref h5, .int 0, .int 0])), (h4, .inr (4, [.ref h6, .int 0, .int 0])), (h5, .inl (a2, 2, .inl (upd (upd f2 0 0) 1 0))), (h6, .inl (a3, 2, .inl f3))] := hD
  have hK : va_K D vwCl [(a0, .object "LiftingSignal$Whole"), (a1, .long), (a2, .int), (a3, .int)] s := hK
  refine W.widen (k := 0) (n := 0) (Nat.le_of_ble_eq_true rfl) (Nat.le_of_ble_eq_true rfl) ?_
  refine lv_aload_n hx hb dX1_changeValue_20 rfl (lv_at hl 0 rfl) ?_
  refine va_get (D := D) (ci := 1) (v := .ref h1) (C := RX1) (T := TX1) (N := 13) hx hb hg inX1 hown hK hP 0 rfl rfl 1 (by decide) (hg _ k279) (fun _ h9 => h9) rfl dX1_changeValue_21 ?_
  refine lv_iload_n hx hb dX1_changeValue_24 rfl (lv_at hl 1 rfl) ?_
  refine aldQ hx hb hK hP 1 0 rfl rfl 0 (by decide) (vin (by decide)) (v := h4) ef0_0 dX1_changeValue_25 ?_
  refine lv_iload_n hx hb dX1_changeValue_26 rfl (lv_at hl 2 rfl) ?_
  refine lv_i2l (v := x0.toInt64) hx hb dX1_changeValue_27 rfl ?_
  refine cVv (n := 1) (As := [.long x0.toInt64]) (rest := []) (wr := [(h0, .inr (1, [v0, .ref h1, .ref h2, v1, v2, v3, .ref h3, v4, v5, v6, v7, v8, v9])), (h1, .inl (a0, 48, .inr (.inr (.inr (.inr f0))))), (h2, .inl (a1, 48, .inr (.inl f1))), (h3, .inr (4, [.ref h5, .int 0, .int 0])), (h5, .inl (a2, 2, .inl (upd (upd f2 0 0) 1 0)))]) (tr := [(a0, .object "LiftingSignal$Whole"), (a1, .long), (a2, .int)]) hx hb hml hown hg okN (cX4_become_683 l D h4 x0 h6 (.int 0) (.int 0) f3 a3 d0 d1 d2) (mwV k274 k275 k276 k88 k277) ⟨rfl, by decide, by decide, by decide +kernel⟩ ⟨rfl, rfl, (Nat.le_of_ble_eq_true rfl), (Nat.le_of_ble_eq_true rfl)⟩ hP hD hK hS xn [4, 6] [4, 6] [0, 1, 2, 3, 5] [3] [0, 1, 2] rfl (by decide) rfl rfl (by decide) (by decide) rfl rfl (va_free hD hS hA [4, 6] rfl) (va_free hD hS hA [4, 6] rfl) 4 rfl rfl rfl hl.1 rfl (Nat.le_of_ble_eq_true rfl) dX1_changeValue_28 ⟨(Nat.le_of_ble_eq_true rfl), (Nat.le_of_ble_eq_true rfl)⟩ (fun u H locs hφ hP hD hK hS hk => ?_)
  have hP : va_P D vwCl [(h0, .inr (1, [v0, .ref h1, .ref h2, v1, v2, v3, .ref h3, v4, v5, v6, v7, v8, v9])), (h1, .inl (a0, 48, .inr (.inr (.inr (.inr f0))))), (h2, .inl (a1, 48, .inr (.inl f1))), (h3, .inr (4, [.ref h5, .int 0, .int 0])), (h5, .inl (a2, 2, .inl (upd (upd f2 0 0) 1 0))), (h4, .inr (4, [.ref h6, .int 1, .int 1])), (h6, .inl (a3, 2, .inl (upd (upd f3 0 ((-x0.toInt64).toInt32)) 1 0)))] H := hP
  have hD : va_D A [(h0, .inr (1, [v0, .ref h1, .ref h2, v1, v2, v3, .ref h3, v4, v5, v6, v7, v8, v9])), (h1, .inl (a0, 48, .inr (.inr (.inr (.inr f0))))), (h2, .inl (a1, 48, .inr (.inl f1))), (h3, .inr (4, [.ref h5, .int 0, .int 0])), (h5, .inl (a2, 2, .inl (upd (upd f2 0 0) 1 0))), (h4, .inr (4, [.ref h6, .int 1, .int 1])), (h6, .inl (a3, 2, .inl (upd (upd f3 0 ((-x0.toInt64).toInt32)) 1 0)))] := hD
  have hK : va_K D vwCl [(a0, .object "LiftingSignal$Whole"), (a1, .long), (a2, .int), (a3, .int)] s := hK
  refine W.widen (k := 0) (n := 0) (Nat.le_of_ble_eq_true rfl) (Nat.le_of_ble_eq_true rfl) ?_
  refine lv_aload_n hx hb dX1_changeValue_31 rfl (lv_at hl 0 rfl) ?_
  refine va_get (D := D) (ci := 1) (v := .ref h3) (C := RX1) (T := TX1) (N := 13) hx hb hg inX1 hown hK hP 0 rfl rfl 6 (by decide) (hg _ k289) (fun _ h9 => h9) rfl dX1_changeValue_32 ?_
  refine lv_aload_n hx hb dX1_changeValue_35 rfl (lv_at hl 0 rfl) ?_
  refine va_get (D := D) (ci := 1) (v := .ref h1) (C := RX1) (T := TX1) (N := 13) hx hb hg inX1 hown hK hP 0 rfl rfl 1 (by decide) (hg _ k279) (fun _ h9 => h9) rfl dX1_changeValue_36 ?_
  refine lv_iload_n hx hb dX1_changeValue_39 rfl (lv_at hl 1 rfl) ?_
  refine aldQ hx hb hK hP 1 0 rfl rfl 0 (by decide) (vin (by decide)) (v := h4) ef0_0 dX1_changeValue_40 ?_
  refine lv_aload_n hx hb dX1_changeValue_41 rfl (lv_at hl 0 rfl) ?_
  refine va_get (D := D) (ci := 1) (v := .ref h2) (C := RX1) (T := TX1) (N := 13) hx hb hg inX1 hown hK hP 0 rfl rfl 2 (by decide) (hg _ k281) (fun _ h9 => h9) rfl dX1_changeValue_42 ?_
  refine lv_iload_n hx hb dX1_changeValue_45 rfl (lv_at hl 1 rfl) ?_
  refine aldL hx hb hK hP 2 1 rfl rfl 0 (by decide) (vin (by decide)) (v := 1) ef1_0 dX1_changeValue_46 ?_
  refine cVv (n := 2) (As := [.ref h4, .long 1]) (rest := []) (wr := [(h0, .inr (1, [v0, .ref h1, .ref h2, v1, v2, v3, .ref h3, v4, v5, v6, v7, v8, v9])), (h1, .inl (a0, 48, .inr (.inr (.inr (.inr f0))))), (h2, .inl (a1, 48, .inr (.inl f1)))]) (tr := [(a0, .object "LiftingSignal$Whole"), (a1, .long)]) hx hb hml hown hg okN (cX4_add_684 l D h3 h4 h5 h6 (upd (upd f2 0 0) 1 0) (upd (upd f3 0 ((-x0.toInt64).toInt32)) 1 0) ((-x0.toInt64).toInt32) a2 a3 rfl rfl d3 d4 d5 d6) (mwV k340 k341 k342 k88 k343) ⟨rfl, by decide, by decide, by decide +kernel⟩ ⟨rfl, rfl, (Nat.le_of_ble_eq_true rfl), (Nat.le_of_ble_eq_true rfl)⟩ hP hD hK hS xn [3, 5, 4, 6] [3, 5, 4, 6] [0, 1, 2] [2, 3] [0, 1] rfl (by decide) rfl rfl (by decide) (by decide) rfl rfl (va_free hD hS hA [3, 5, 4, 6] rfl) (va_free hD hS hA [3, 5, 4, 6] rfl) 3 rfl rfl rfl hl.1 rfl (Nat.le_of_ble_eq_true rfl) dX1_changeValue_47 ⟨(Nat.le_of_ble_eq_true rfl), (Nat.le_of_ble_eq_true rfl)⟩ (fun u H locs hφ hP hD hK hS hk => ?_)
  have hP : va_P D vwCl [(h0, .inr (1, [v0, .ref h1, .ref h2, v1, v2, v3, .ref h3, v4, v5, v6, v7, v8, v9])), (h1, .inl (a0, 48, .inr (.inr (.inr (.inr f0))))), (h2, .inl (a1, 48, .inr (.inl f1))), (h3, .inr (4, [.ref h5, .int 1, .int 1])), (h4, .inr (4, [.ref h6, .int 1, .int 1])), (h5, .inl (a2, 2, .inl (upd (upd (upd (upd f2 0 0) 1 0) 0 ((-(-(((-x0.toInt64).toInt32).toInt64))).toInt32)) 1 0))), (h6, .inl (a3, 2, .inl (upd (upd f3 0 ((-x0.toInt64).toInt32)) 1 0)))] H := hP
  have hD : va_D A [(h0, .inr (1, [v0, .ref h1, .ref h2, v1, v2, v3, .ref h3, v4, v5, v6, v7, v8, v9])), (h1, .inl (a0, 48, .inr (.inr (.inr (.inr f0))))), (h2, .inl (a1, 48, .inr (.inl f1))), (h3, .inr (4, [.ref h5, .int 1, .int 1])), (h4, .inr (4, [.ref h6, .int 1, .int 1])), (h5, .inl (a2, 2, .inl (upd (upd (upd (upd f2 0 0) 1 0) 0 ((-(-(((-x0.toInt64).toInt32).toInt64))).toInt32)) 1 0))), (h6, .inl (a3, 2, .inl (upd (upd f3 0 ((-x0.toInt64).toInt32)) 1 0)))] := hD
  have hK : va_K D vwCl [(a0, .object "LiftingSignal$Whole"), (a1, .long), (a2, .int), (a3, .int)] s := hK
  refine W.widen (k := 0) (n := 0) (Nat.le_of_ble_eq_true rfl) (Nat.le_of_ble_eq_true rfl) ?_
  exact fv hx hb hr hlocks hP hD hK hS (()) trivial [0, 1, 2, 3, 4, 5, 6] [0, 1, 2, 3] rfl (by decide) rfl (Nat.le_of_ble_eq_true rfl) (Nat.le_of_ble_eq_true rfl) dX1_changeValue_50
set_option maxHeartbeats 4000000 in
set_option maxRecDepth 100000 in
theorem cX5_set_671 (l : Launch) (D : va_G) (h0 : Nat) (x0 : Int32) (h1 : Nat) (h2 : Nat) (h3 : Nat) (h4 : Nat) (h5 : Nat) (h6 : Nat) (h7 : Nat) (h8 : Nat) (h9 : Nat) (v0 : Value) (v1 : Value) (v2 : Value) (v3 : Value) (v4 : Value) (v5 : Value) (v6 : Value) (v7 : Value) (v8 : Value) (v9 : Value) (v10 : Value) (v11 : Value) (v12 : Value) (v13 : Value) (v14 : Value) (v15 : Value) (v16 : Value) (v17 : Value) (v18 : Value) (v19 : Value) (v20 : Value) (v21 : Value) (v22 : Value) (f0 : Nat → Int32) (f1 : Nat → Option Nat) (f2 : Nat → Int64) (f3 : Nat → Int32) (f4 : Nat → Int32) (a0 : ClassId) (a1 : ClassId) (a2 : ClassId) (a3 : ClassId) (a4 : ClassId) (ef0_0 : f0 0 = (-1)) (ef1_0 : f1 0 = some h5) (ef2_0 : f2 0 = 1) (ef3_0 : f3 0 = 0) (ef4_0 : f4 0 = 0) (d0 : ¬ (x0 < (-9999))) (d1 : x0 ≤ 9999) (d2 : ¬ (0 ≤ (lg_cmp x0.toInt64 0))) (d3 : ush32 (-x0.toInt64) = 0) (d4 : ¬ (((-x0.toInt64).toInt32) = 0)) (d5 : (((-x0.toInt64).toInt32).toInt64) &&& 4294967295 = (((-x0.toInt64).toInt32).toInt64)) (d6 : ¬ (0 ≤ (lg_cmp (-(((-x0.toInt64).toInt32).toInt64)) 0))) (d7 : ush32 (-(-(((-x0.toInt64).toInt32).toInt64))) = 0) (d8 : ¬ (((-(-(((-x0.toInt64).toInt32).toInt64))).toInt32) = 0)) : CT l yX5_set cX5_set 5 (some .long) { frames := 3, cells := 0, slots := 0, locals := 72 } [.ref h0, .int 0, .int x0] D [(h0, .inr (5, [v0, .ref h1, v1, .ref h2, v2, v3, v4, v5, v6, v7])), (h1, .inr (0, [v8, v9, .int 2, v10, v11, v12, v13])), (h2, .inr (1, [v14, .ref h4, .ref h6, .ref h3, v15, v16, .ref h7, v17, v18, v19, v20, v21, v22])), (h3, .inl (a0, 48, .inl f0)), (h4, .inl (a1, 48, .inr (.inr (.inr (.inr f1))))), (h5, .inr (4, [.ref h9, .int 0, .int 0])), (h6, .inl (a2, 48, .inr (.inl f2))), (h7, .inr (4, [.ref h8, .int 0, .int 0])), (h8, .inl (a3, 2, .inl f3)), (h9, .inl (a4, 2, .inl f4))] [(a0, .int), (a1, .object "LiftingSignal$Whole"), (a2, .long), (a3, .int), (a4, .int)] XN [(h0, .inr (5, [v0, .ref h1, v1, .ref h2, v2, v3, v4, v5, v6, v7])), (h1, .inr (0, [v8, v9, .int 2, v10, v11, v12, v13])), (h2, .inr (1, [v14, .ref h4, .ref h6, .ref h3, v15, v16, .ref h7, v17, v18, v19, v20, v21, v22])), (h3, .inl (a0, 48, .inl f0)), (h4, .inl (a1, 48, .inr (.inr (.inr (.inr f1))))), (h5, .inr (4, [.ref h9, .int 0, .int 0])), (h6, .inl (a2, 48, .inr (.inl f2))), (h7, .inr (4, [.ref h8, .int 0, .int 0])), (h8, .inl (a3, 2, .inl f3)), (h9, .inl (a4, 2, .inl f4))] (el (fun _ : Unit => True) (fun u => 0) (fun _ => [(h0, .inr (5, [v0, .ref h1, v1, .ref h2, v2, v3, v4, v5, v6, v7])), (h1, .inr (0, [v8, v9, .int 2, v10, v11, v12, v13])), (h2, .inr (1, [v14, .ref h4, .ref h6, .ref h3, v15, v16, .ref h7, v17, v18, v19, v20, v21, v22])), (h3, .inl (a0, 48, .inl f0)), (h4, .inl (a1, 48, .inr (.inr (.inr (.inr f1))))), (h5, .inr (4, [.ref h9, .int 1, .int 1])), (h6, .inl (a2, 48, .inr (.inl f2))), (h7, .inr (4, [.ref h8, .int 1, .int 1])), (h8, .inl (a3, 2, .inl (upd (upd (upd (upd f3 0 0) 1 0) 0 ((-(-(((-x0.toInt64).toInt32).toInt64))).toInt32)) 1 0))), (h9, .inl (a4, 2, .inl (upd (upd f4 0 ((-x0.toInt64).toInt32)) 1 0)))]) (fun u => [(a0, .int), (a1, .object "LiftingSignal$Whole"), (a2, .long), (a3, .int), (a4, .int)]) D) 0 0 := by
  refine CT.ofW (by decide +kernel) (Nat.le_of_ble_eq_true rfl) ?_
  intro p e s m below meth c A ls hcs hP hK hD hX hA hS hl
  obtain ⟨hx, hb, hr, hml, hown, hg, hlocks, hin⟩ := hcs
  have hown : s.vm.findClass RX5 = some m.cls := hown
  have hl : lv_has ls 5 [(0, .ref h0), (1, .int 0), (2, .int x0)] := hl
  refine lv_iload_n hx hb dX5_set_0 rfl (lv_at hl 1 rfl) ?_
  refine lv_aload_n hx hb dX5_set_1 rfl (lv_at hl 0 rfl) ?_
  refine va_get (D := D) (ci := 5) (v := .ref h1) (C := RX5) (T := TX5) (N := 10) hx hb hg inX5 hown hK hP 0 rfl rfl 1 (by decide) (hg _ k380) (fun _ h9 => h9) rfl dX5_set_2 ?_
  refine va_get (D := D) (ci := 0) (v := .int 2) (C := RX0) (T := TX0) (N := 7) hx hb hg inX0 hown hK hP 1 rfl rfl 2 (by decide) (hg _ k163) (fun _ h9 => h9) rfl dX5_set_5 ?_
  refine cSv (n := 2) (As := [.int 0, .int 2]) (rest := []) (wr := [(h0, .inr (5, [v0, .ref h1, v1, .ref h2, v2, v3, v4, v5, v6, v7])), (h1, .inr (0, [v8, v9, .int 2, v10, v11, v12, v13])), (h2, .inr (1, [v14, .ref h4, .ref h6, .ref h3, v15, v16, .ref h7, v17, v18, v19, v20, v21, v22])), (h3, .inl (a0, 48, .inl f0)), (h4, .inl (a1, 48, .inr (.inr (.inr (.inr f1))))), (h5, .inr (4, [.ref h9, .int 0, .int 0])), (h6, .inl (a2, 48, .inr (.inl f2))), (h7, .inr (4, [.ref h8, .int 0, .int 0])), (h8, .inl (a3, 2, .inl f3)), (h9, .inl (a4, 2, .inl f4))]) (tr := [(a0, .int), (a1, .object "LiftingSignal$Whole"), (a2, .long), (a3, .int), (a4, .int)]) hx hb hml hown hg okN (cX5_needIndex_672 l D) (mwS k610 k611 k84 k612) ⟨rfl, by decide, by decide, by decide +kernel⟩ ⟨rfl, rfl, (Nat.le_of_ble_eq_true rfl), (Nat.le_of_ble_eq_true rfl)⟩ hP hD hK hS xn [] [] [0, 1, 2, 3, 4, 5, 6, 7, 8, 9] [] [0, 1, 2, 3, 4] rfl (by decide) rfl rfl (by decide) (by decide) rfl rfl (aNil hA hS) (aNil hA hS) rfl hl.1 rfl (Nat.le_of_ble_eq_true rfl) dX5_set_8 ⟨(Nat.le_of_ble_eq_true rfl), (Nat.le_of_ble_eq_true rfl)⟩ (fun u H locs hφ hP hD hK hS hk => ?_)
  have hP : va_P D vwCl [(h0, .inr (5, [v0, .ref h1, v1, .ref h2, v2, v3, v4, v5, v6, v7])), (h1, .inr (0, [v8, v9, .int 2, v10, v11, v12, v13])), (h2, .inr (1, [v14, .ref h4, .ref h6, .ref h3, v15, v16, .ref h7, v17, v18, v19, v20, v21, v22])), (h3, .inl (a0, 48, .inl f0)), (h4, .inl (a1, 48, .inr (.inr (.inr (.inr f1))))), (h5, .inr (4, [.ref h9, .int 0, .int 0])), (h6, .inl (a2, 48, .inr (.inl f2))), (h7, .inr (4, [.ref h8, .int 0, .int 0])), (h8, .inl (a3, 2, .inl f3)), (h9, .inl (a4, 2, .inl f4))] H := hP
  have hD : va_D A [(h0, .inr (5, [v0, .ref h1, v1, .ref h2, v2, v3, v4, v5, v6, v7])), (h1, .inr (0, [v8, v9, .int 2, v10, v11, v12, v13])), (h2, .inr (1, [v14, .ref h4, .ref h6, .ref h3, v15, v16, .ref h7, v17, v18, v19, v20, v21, v22])), (h3, .inl (a0, 48, .inl f0)), (h4, .inl (a1, 48, .inr (.inr (.inr (.inr f1))))), (h5, .inr (4, [.ref h9, .int 0, .int 0])), (h6, .inl (a2, 48, .inr (.inl f2))), (h7, .inr (4, [.ref h8, .int 0, .int 0])), (h8, .inl (a3, 2, .inl f3)), (h9, .inl (a4, 2, .inl f4))] := hD
  have hK : va_K D vwCl [(a0, .int), (a1, .object "LiftingSignal$Whole"), (a2, .long), (a3, .int), (a4, .int)] s := hK
  refine W.widen (k := 0) (n := 0) (Nat.le_of_ble_eq_true rfl) (Nat.le_of_ble_eq_true rfl) ?_
  refine lv_iload_n hx hb dX5_set_11 rfl (lv_at hl 2 rfl) ?_
  refine lv_sipush (v := (-9999)) hx hb dX5_set_12 (by decide) ?_
  refine lv_sipush (v := 9999) hx hb dX5_set_15 (by decide) ?_
  refine cSv (n := 3) (As := [.int x0, .int (-9999), .int 9999]) (rest := []) (wr := [(h0, .inr (5, [v0, .ref h1, v1, .ref h2, v2, v3, v4, v5, v6, v7])), (h1, .inr (0, [v8, v9, .int 2, v10, v11, v12, v13])), (h2, .inr (1, [v14, .ref h4, .ref h6, .ref h3, v15, v16, .ref h7, v17, v18, v19, v20, v21, v22])), (h3, .inl (a0, 48, .inl f0)), (h4, .inl (a1, 48, .inr (.inr (.inr (.inr f1))))), (h5, .inr (4, [.ref h9, .int 0, .int 0])), (h6, .inl (a2, 48, .inr (.inl f2))), (h7, .inr (4, [.ref h8, .int 0, .int 0])), (h8, .inl (a3, 2, .inl f3)), (h9, .inl (a4, 2, .inl f4))]) (tr := [(a0, .int), (a1, .object "LiftingSignal$Whole"), (a2, .long), (a3, .int), (a4, .int)]) hx hb hml hown hg okN (cX5_needRange_673 l D x0 d0 d1) (mwS k909 k910 k84 k911) ⟨rfl, by decide, by decide, by decide +kernel⟩ ⟨rfl, rfl, (Nat.le_of_ble_eq_true rfl), (Nat.le_of_ble_eq_true rfl)⟩ hP hD hK hS xn [] [] [0, 1, 2, 3, 4, 5, 6, 7, 8, 9] [] [0, 1, 2, 3, 4] rfl (by decide) rfl rfl (by decide) (by decide) rfl rfl (aNil hA hS) (aNil hA hS) rfl hl.1 rfl (Nat.le_of_ble_eq_true rfl) dX5_set_18 ⟨(Nat.le_of_ble_eq_true rfl), (Nat.le_of_ble_eq_true rfl)⟩ (fun u H locs hφ hP hD hK hS hk => ?_)
  have hP : va_P D vwCl [(h0, .inr (5, [v0, .ref h1, v1, .ref h2, v2, v3, v4, v5, v6, v7])), (h1, .inr (0, [v8, v9, .int 2, v10, v11, v12, v13])), (h2, .inr (1, [v14, .ref h4, .ref h6, .ref h3, v15, v16, .ref h7, v17, v18, v19, v20, v21, v22])), (h3, .inl (a0, 48, .inl f0)), (h4, .inl (a1, 48, .inr (.inr (.inr (.inr f1))))), (h5, .inr (4, [.ref h9, .int 0, .int 0])), (h6, .inl (a2, 48, .inr (.inl f2))), (h7, .inr (4, [.ref h8, .int 0, .int 0])), (h8, .inl (a3, 2, .inl f3)), (h9, .inl (a4, 2, .inl f4))] H := hP
  have hD : va_D A [(h0, .inr (5, [v0, .ref h1, v1, .ref h2, v2, v3, v4, v5, v6, v7])), (h1, .inr (0, [v8, v9, .int 2, v10, v11, v12, v13])), (h2, .inr (1, [v14, .ref h4, .ref h6, .ref h3, v15, v16, .ref h7, v17, v18, v19, v20, v21, v22])), (h3, .inl (a0, 48, .inl f0)), (h4, .inl (a1, 48, .inr (.inr (.inr (.inr f1))))), (h5, .inr (4, [.ref h9, .int 0, .int 0])), (h6, .inl (a2, 48, .inr (.inl f2))), (h7, .inr (4, [.ref h8, .int 0, .int 0])), (h8, .inl (a3, 2, .inl f3)), (h9, .inl (a4, 2, .inl f4))] := hD
  have hK : va_K D vwCl [(a0, .int), (a1, .object "LiftingSignal$Whole"), (a2, .long), (a3, .int), (a4, .int)] s := hK
  refine W.widen (k := 0) (n := 0) (Nat.le_of_ble_eq_true rfl) (Nat.le_of_ble_eq_true rfl) ?_
  refine lv_aload_n hx hb dX5_set_21 rfl (lv_at hl 0 rfl) ?_
  refine va_get (D := D) (ci := 5) (v := .ref h2) (C := RX5) (T := TX5) (N := 10) hx hb hg inX5 hown hK hP 0 rfl rfl 3 (by decide) (hg _ k382) (fun _ h9 => h9) rfl dX5_set_22 ?_
  refine lv_iload_n hx hb dX5_set_25 rfl (lv_at hl 1 rfl) ?_
  refine cVi (n := 1) (As := [.int 0]) (rest := []) (wr := [(h0, .inr (5, [v0, .ref h1, v1, .ref h2, v2, v3, v4, v5, v6, v7])), (h1, .inr (0, [v8, v9, .int 2, v10, v11, v12, v13])), (h2, .inr (1, [v14, .ref h4, .ref h6, .ref h3, v15, v16, .ref h7, v17, v18, v19, v20, v21, v22])), (h3, .inl (a0, 48, .inl f0)), (h4, .inl (a1, 48, .inr (.inr (.inr (.inr f1))))), (h5, .inr (4, [.ref h9, .int 0, .int 0])), (h6, .inl (a2, 48, .inr (.inl f2))), (h7, .inr (4, [.ref h8, .int 0, .int 0])), (h8, .inl (a3, 2, .inl f3)), (h9, .inl (a4, 2, .inl f4))]) (tr := [(a0, .int), (a1, .object "LiftingSignal$Whole"), (a2, .long), (a3, .int), (a4, .int)]) hx hb hml hown hg okN (cX1_isPresent_674 l D h2 h3 v14 (.ref h4) (.ref h6) v15 v16 (.ref h7) v17 v18 v19 v20 v21 v22 f0 a0 ef0_0) (mwV k861 k460 k461 k87 k462) ⟨rfl, by decide, by decide, by decide +kernel⟩ ⟨rfl, rfl, (Nat.le_of_ble_eq_true rfl), (Nat.le_of_ble_eq_true rfl)⟩ hP hD hK hS xn [2, 3] [] [0, 1, 2, 3, 4, 5, 6, 7, 8, 9] [0] [0, 1, 2, 3, 4] rfl (by decide) rfl rfl (by decide) (by decide) rfl rfl (aNil hA hS) (aNil hA hS) 2 rfl rfl rfl hl.1 rfl (Nat.le_of_ble_eq_true rfl) dX5_set_26 ⟨(Nat.le_of_ble_eq_true rfl), (Nat.le_of_ble_eq_true rfl)⟩ (fun u H locs hφ hP hD hK hS hk => ?_)
  have hP : va_P D vwCl [(h0, .inr (5, [v0, .ref h1, v1, .ref h2, v2, v3, v4, v5, v6, v7])), (h1, .inr (0, [v8, v9, .int 2, v10, v11, v12, v13])), (h2, .inr (1, [v14, .ref h4, .ref h6, .ref h3, v15, v16, .ref h7, v17, v18, v19, v20, v21, v22])), (h3, .inl (a0, 48, .inl f0)), (h4, .inl (a1, 48, .inr (.inr (.inr (.inr f1))))), (h5, .inr (4, [.ref h9, .int 0, .int 0])), (h6, .inl (a2, 48, .inr (.inl f2))), (h7, .inr (4, [.ref h8, .int 0, .int 0])), (h8, .inl (a3, 2, .inl f3)), (h9, .inl (a4, 2, .inl f4))] H := hP
  have hD : va_D A [(h0, .inr (5, [v0, .ref h1, v1, .ref h2, v2, v3, v4, v5, v6, v7])), (h1, .inr (0, [v8, v9, .int 2, v10, v11, v12, v13])), (h2, .inr (1, [v14, .ref h4, .ref h6, .ref h3, v15, v16, .ref h7, v17, v18, v19, v20, v21, v22])), (h3, .inl (a0, 48, .inl f0)), (h4, .inl (a1, 48, .inr (.inr (.inr (.inr f1))))), (h5, .inr (4, [.ref h9, .int 0, .int 0])), (h6, .inl (a2, 48, .inr (.inl f2))), (h7, .inr (4, [.ref h8, .int 0, .int 0])), (h8, .inl (a3, 2, .inl f3)), (h9, .inl (a4, 2, .inl f4))] := hD
  have hK : va_K D vwCl [(a0, .int), (a1, .object "LiftingSignal$Whole"), (a2, .long), (a3, .int), (a4, .int)] s := hK
  refine W.widen (k := 0) (n := 0) (Nat.le_of_ble_eq_true rfl) (Nat.le_of_ble_eq_true rfl) ?_
  refine lv_if_ne (tgt := 40) hx hb dX5_set_29 (by decide) (fun _ => ?_) (fun c9 => absurd c9 (by decide))
  refine lv_aload_n hx hb dX5_set_40 rfl (lv_at hl 0 rfl) ?_
  refine va_get (D := D) (ci := 5) (v := .ref h2) (C := RX5) (T := TX5) (N := 10) hx hb hg inX5 hown hK hP 0 rfl rfl 3 (by decide) (hg _ k382) (fun _ h9 => h9) rfl dX5_set_41 ?_
  refine va_get (D := D) (ci := 1) (v := .ref h4) (C := RX1) (T := TX1) (N := 13) hx hb hg inX1 hown hK hP 2 rfl rfl 1 (by decide) (hg _ k280) (fun _ h9 => h9) rfl dX5_set_44 ?_
  refine lv_iload_n hx hb dX5_set_47 rfl (lv_at hl 1 rfl) ?_
  refine aldQ hx hb hK hP 4 1 rfl rfl 0 (by decide) (vin (by decide)) (v := h5) ef1_0 dX5_set_48 ?_
  refine cVl (n := 0) (As := []) (rest := []) (wr := [(h0, .inr (5, [v0, .ref h1, v1, .ref h2, v2, v3, v4, v5, v6, v7])), (h1, .inr (0, [v8, v9, .int 2, v10, v11, v12, v13])), (h2, .inr (1, [v14, .ref h4, .ref h6, .ref h3, v15, v16, .ref h7, v17, v18, v19, v20, v21, v22])), (h3, .inl (a0, 48, .inl f0)), (h4, .inl (a1, 48, .inr (.inr (.inr (.inr f1))))), (h5, .inr (4, [.ref h9, .int 0, .int 0])), (h6, .inl (a2, 48, .inr (.inl f2))), (h7, .inr (4, [.ref h8, .int 0, .int 0])), (h8, .inl (a3, 2, .inl f3)), (h9, .inl (a4, 2, .inl f4))]) (tr := [(a0, .int), (a1, .object "LiftingSignal$Whole"), (a2, .long), (a3, .int), (a4, .int)]) hx hb hml hown hg okN (cX4_toLong_675 l D h5 (.ref h9)) (mwV k435 k436 k437 k88 k438) ⟨rfl, by decide, by decide, by decide +kernel⟩ ⟨rfl, rfl, (Nat.le_of_ble_eq_true rfl), (Nat.le_of_ble_eq_true rfl)⟩ hP hD hK hS xn [5] [] [0, 1, 2, 3, 4, 5, 6, 7, 8, 9] [] [0, 1, 2, 3, 4] rfl (by decide) rfl rfl (by decide) (by decide) rfl rfl (aNil hA hS) (aNil hA hS) 5 rfl rfl rfl hl.1 rfl (Nat.le_of_ble_eq_true rfl) dX5_set_49 ⟨(Nat.le_of_ble_eq_true rfl), (Nat.le_of_ble_eq_true rfl)⟩ (fun u H locs hφ hP hD hK hS hk => ?_)
  have hP : va_P D vwCl [(h0, .inr (5, [v0, .ref h1, v1, .ref h2, v2, v3, v4, v5, v6, v7])), (h1, .inr (0, [v8, v9, .int 2, v10, v11, v12, v13])), (h2, .inr (1, [v14, .ref h4, .ref h6, .ref h3, v15, v16, .ref h7, v17, v18, v19, v20, v21, v22])), (h3, .inl (a0, 48, .inl f0)), (h4, .inl (a1, 48, .inr (.inr (.inr (.inr f1))))), (h5, .inr (4, [.ref h9, .int 0, .int 0])), (h6, .inl (a2, 48, .inr (.inl f2))), (h7, .inr (4, [.ref h8, .int 0, .int 0])), (h8, .inl (a3, 2, .inl f3)), (h9, .inl (a4, 2, .inl f4))] H := hP
  have hD : va_D A [(h0, .inr (5, [v0, .ref h1, v1, .ref h2, v2, v3, v4, v5, v6, v7])), (h1, .inr (0, [v8, v9, .int 2, v10, v11, v12, v13])), (h2, .inr (1, [v14, .ref h4, .ref h6, .ref h3, v15, v16, .ref h7, v17, v18, v19, v20, v21, v22])), (h3, .inl (a0, 48, .inl f0)), (h4, .inl (a1, 48, .inr (.inr (.inr (.inr f1))))), (h5, .inr (4, [.ref h9, .int 0, .int 0])), (h6, .inl (a2, 48, .inr (.inl f2))), (h7, .inr (4, [.ref h8, .int 0, .int 0])), (h8, .inl (a3, 2, .inl f3)), (h9, .inl (a4, 2, .inl f4))] := hD
  have hK : va_K D vwCl [(a0, .int), (a1, .object "LiftingSignal$Whole"), (a2, .long), (a3, .int), (a4, .int)] s := hK
  refine W.widen (k := 0) (n := 0) (Nat.le_of_ble_eq_true rfl) (Nat.le_of_ble_eq_true rfl) ?_
  refine lv_lstore_n (lv' := [(3, .long 0), (0, .ref h0), (1, .int 0), (2, .int x0)]) hx hb dX5_set_52 rfl hl (by decide) rfl (fun ls hl => ?_)
  refine lv_aload_n hx hb dX5_set_53 rfl (lv_at hl 1 rfl) ?_
  refine va_get (D := D) (ci := 5) (v := .ref h2) (C := RX5) (T := TX5) (N := 10) hx hb hg inX5 hown hK hP 0 rfl rfl 3 (by decide) (hg _ k382) (fun _ h9 => h9) rfl dX5_set_54 ?_
  refine lv_iload_n hx hb dX5_set_57 rfl (lv_at hl 2 rfl) ?_
  refine lv_iload_n hx hb dX5_set_58 rfl (lv_at hl 3 rfl) ?_
  refine cVv (n := 2) (As := [.int 0, .int x0]) (rest := []) (wr := [(h0, .inr (5, [v0, .ref h1, v1, .ref h2, v2, v3, v4, v5, v6, v7])), (h1, .inr (0, [v8, v9, .int 2, v10, v11, v12, v13])), (h3, .inl (a0, 48, .inl f0))]) (tr := [(a0, .int)]) hx hb hml hown hg okN (cX1_changeValue_679 l D h2 x0 h4 h6 h7 h5 h8 h9 v14 (.ref h3) v15 v16 v17 v18 v19 v20 v21 v22 f1 f2 f3 f4 a1 a2 a3 a4 ef1_0 ef2_0 ef3_0 ef4_0 d2 d3 d4 d5 d6 d7 d8) (mwV k1009 k1010 k1011 k87 k1012) ⟨rfl, by decide, by decide, by decide +kernel⟩ ⟨rfl, rfl, (Nat.le_of_ble_eq_true rfl), (Nat.le_of_ble_eq_true rfl)⟩ hP hD hK hS xn [2, 4, 6, 7, 5, 8, 9] [2, 4, 6, 7, 5, 8, 9] [0, 1, 3] [1, 2, 3, 4] [0] rfl (by decide) rfl rfl (by decide) (by decide) rfl rfl (va_free hD hS hA [2, 4, 6, 7, 5, 8, 9] rfl) (va_free hD hS hA [2, 4, 6, 7, 5, 8, 9] rfl) 2 rfl rfl rfl hl.1 rfl (Nat.le_of_ble_eq_true rfl) dX5_set_59 ⟨(Nat.le_of_ble_eq_true rfl), (Nat.le_of_ble_eq_true rfl)⟩ (fun u H locs hφ hP hD hK hS hk => ?_)
  have hP : va_P D vwCl [(h0, .inr (5, [v0, .ref h1, v1, .ref h2, v2, v3, v4, v5, v6, v7])), (h1, .inr (0, [v8, v9, .int 2, v10, v11, v12, v13])), (h3, .inl (a0, 48, .inl f0)), (h2, .inr (1, [v14, .ref h4, .ref h6, .ref h3, v15, v16, .ref h7, v17, v18, v19, v20, v21, v22])), (h4, .inl (a1, 48, .inr (.inr (.inr (.inr f1))))), (h6, .inl (a2, 48, .inr (.inl f2))), (h7, .inr (4, [.ref h8, .int 1, .int 1])), (h5, .inr (4, [.ref h9, .int 1, .int 1])), (h8, .inl (a3, 2, .inl (upd (upd (upd (upd f3 0 0) 1 0) 0 ((-(-(((-x0.toInt64).toInt32).toInt64))).toInt32)) 1 0))), (h9, .inl (a4, 2, .inl (upd (upd f4 0 ((-x0.toInt64).toInt32)) 1 0)))] H := hP
  have hD : va_D A [(h0, .inr (5, [v0, .ref h1, v1, .ref h2, v2, v3, v4, v5, v6, v7])), (h1, .inr (0, [v8, v9, .int 2, v10, v11, v12, v13])), (h3, .inl (a0, 48, .inl f0)), (h2, .inr (1, [v14, .ref h4, .ref h6, .ref h3, v15, v16, .ref h7, v17, v18, v19, v20, v21, v22])), (h4, .inl (a1, 48, .inr (.inr (.inr (.inr f1))))), (h6, .inl (a2, 48, .inr (.inl f2))), (h7, .inr (4, [.ref h8, .int 1, .int 1])), (h5, .inr (4, [.ref h9, .int 1, .int 1])), (h8, .inl (a3, 2, .inl (upd (upd (upd (upd f3 0 0) 1 0) 0 ((-(-(((-x0.toInt64).toInt32).toInt64))).toInt32)) 1 0))), (h9, .inl (a4, 2, .inl (upd (upd f4 0 ((-x0.toInt64).toInt32)) 1 0)))] := hD
  have hK : va_K D vwCl [(a0, .int), (a1, .object "LiftingSignal$Whole"), (a2, .long), (a3, .int), (a4, .int)] s := hK
  refine W.widen (k := 0) (n := 0) (Nat.le_of_ble_eq_true rfl) (Nat.le_of_ble_eq_true rfl) ?_
  refine lv_lload_n hx hb dX5_set_62 rfl (lv_at hl 0 rfl) ?_
  exact fl hx hb hr hlocks hP hD hK hS (()) trivial rfl [0, 1, 3, 2, 4, 7, 5, 6, 8, 9] [0, 1, 2, 3, 4] rfl (by decide) rfl (Nat.le_of_ble_eq_true rfl) (Nat.le_of_ble_eq_true rfl) dX5_set_63
set_option maxHeartbeats 4000000 in
set_option maxRecDepth 100000 in
theorem cL_set_670 (l : Launch) (D : va_G) (h0 : Nat) (x0 : Int32) (h1 : Nat) (h2 : Nat) (h3 : Nat) (h4 : Nat) (h5 : Nat) (h6 : Nat) (h7 : Nat) (h8 : Nat) (h9 : Nat) (h10 : Nat) (v0 : Value) (v1 : Value) (v2 : Value) (v3 : Value) (v4 : Value) (v5 : Value) (v6 : Value) (v7 : Value) (f0 : Nat → Int64) (v8 : Value) (v9 : Value) (v10 : Value) (v11 : Value) (v12 : Value) (v13 : Value) (v14 : Value) (v15 : Value) (v16 : Value) (v17 : Value) (v18 : Value) (v19 : Value) (v20 : Value) (v21 : Value) (v22 : Value) (f1 : Nat → Int32) (f2 : Nat → Option Nat) (f3 : Nat → Int64) (f4 : Nat → Int32) (f5 : Nat → Int32) (a0 : ClassId) (a1 : ClassId) (a2 : ClassId) (a3 : ClassId) (a4 : ClassId) (a5 : ClassId) (ef1_0 : f1 0 = (-1)) (ef2_0 : f2 0 = some h6) (ef3_0 : f3 0 = 1) (ef4_0 : f4 0 = 0) (ef5_0 : f5 0 = 0) (d0 : ¬ (x0 < (-9999))) (d1 : x0 ≤ 9999) (d2 : ¬ (0 ≤ (lg_cmp x0.toInt64 0))) (d3 : ush32 (-x0.toInt64) = 0) (d4 : ¬ (((-x0.toInt64).toInt32) = 0)) (d5 : (((-x0.toInt64).toInt32).toInt64) &&& 4294967295 = (((-x0.toInt64).toInt32).toInt64)) (d6 : ¬ (0 ≤ (lg_cmp (-(((-x0.toInt64).toInt32).toInt64)) 0))) (d7 : ush32 (-(-(((-x0.toInt64).toInt32).toInt64))) = 0) (d8 : ¬ (((-(-(((-x0.toInt64).toInt32).toInt64))).toInt32) = 0)) : CH l yL_set cL_set 5 (some .int) [(0, 9, 12, 13), (0, 9, 16, 19), (0, 9, 20, 62)] { frames := 4, cells := 0, slots := 0, locals := 96 } [.ref h0, .int 0, .int x0, .ref h1] D [(h0, .inr (5, [v0, .ref h2, v1, .ref h3, v2, v3, v4, v5, v6, v7])), (h1, .inl (a0, 1, .inr (.inl f0))), (h2, .inr (0, [v8, v9, .int 2, v10, v11, v12, v13])), (h3, .inr (1, [v14, .ref h5, .ref h7, .ref h4, v15, v16, .ref h8, v17, v18, v19, v20, v21, v22])), (h4, .inl (a1, 48, .inl f1)), (h5, .inl (a2, 48, .inr (.inr (.inr (.inr f2))))), (h6, .inr (4, [.ref h10, .int 0, .int 0])), (h7, .inl (a3, 48, .inr (.inl f3))), (h8, .inr (4, [.ref h9, .int 0, .int 0])), (h9, .inl (a4, 2, .inl f4)), (h10, .inl (a5, 2, .inl f5))] [(a0, .long), (a1, .int), (a2, .object "LiftingSignal$Whole"), (a3, .long), (a4, .int), (a5, .int)] XN [(h0, .inr (5, [v0, .ref h2, v1, .ref h3, v2, v3, v4, v5, v6, v7])), (h1, .inl (a0, 1, .inr (.inl f0))), (h2, .inr (0, [v8, v9, .int 2, v10, v11, v12, v13])), (h3, .inr (1, [v14, .ref h5, .ref h7, .ref h4, v15, v16, .ref h8, v17, v18, v19, v20, v21, v22])), (h4, .inl (a1, 48, .inl f1)), (h5, .inl (a2, 48, .inr (.inr (.inr (.inr f2))))), (h6, .inr (4, [.ref h10, .int 0, .int 0])), (h7, .inl (a3, 48, .inr (.inl f3))), (h8, .inr (4, [.ref h9, .int 0, .int 0])), (h9, .inl (a4, 2, .inl f4)), (h10, .inl (a5, 2, .inl f5))] (ei (fun _ : Unit => True) (fun u => 0) (fun _ => [(h0, .inr (5, [v0, .ref h2, v1, .ref h3, v2, v3, v4, v5, v6, v7])), (h1, .inl (a0, 1, .inr (.inl (vp_updL f0 0 0)))), (h2, .inr (0, [v8, v9, .int 2, v10, v11, v12, v13])), (h3, .inr (1, [v14, .ref h5, .ref h7, .ref h4, v15, v16, .ref h8, v17, v18, v19, v20, v21, v22])), (h4, .inl (a1, 48, .inl f1)), (h5, .inl (a2, 48, .inr (.inr (.inr (.inr f2))))), (h6, .inr (4, [.ref h10, .int 1, .int 1])), (h7, .inl (a3, 48, .inr (.inl f3))), (h8, .inr (4, [.ref h9, .int 1, .int 1])), (h9, .inl (a4, 2, .inl (upd (upd (upd (upd f4 0 0) 1 0) 0 ((-(-(((-x0.toInt64).toInt32).toInt64))).toInt32)) 1 0))), (h10, .inl (a5, 2, .inl (upd (upd f5 0 ((-x0.toInt64).toInt32)) 1 0)))]) (fun u => [(a0, .long), (a1, .int), (a2, .object "LiftingSignal$Whole"), (a3, .long), (a4, .int), (a5, .int)]) D) 0 0 := by
  refine CH.ofW (by decide +kernel) (Nat.le_of_ble_eq_true rfl) ?_
  intro p e s m below meth c A ls hcs htab hP hK hD hX hA hS hl
  obtain ⟨hx, hb, hr, hml, hown, hg, hlocks, hin⟩ := hcs
  have hown : s.vm.findClass RL = some m.cls := hown
  have hl : lv_has ls 5 [(0, .ref h0), (1, .int 0), (2, .int x0), (3, .ref h1)] := hl
  refine lv_aload_n hx hb dL_set_0 rfl (lv_at hl 3 rfl) ?_
  refine lv_iconst (v := 0) hx hb dL_set_1 (by decide) ?_
  refine lv_aload_n hx hb dL_set_2 rfl (lv_at hl 0 rfl) ?_
  refine lv_iload_n hx hb dL_set_3 rfl (lv_at hl 1 rfl) ?_
  refine lv_iload_n hx hb dL_set_4 rfl (lv_at hl 2 rfl) ?_
  refine cVl (n := 2) (As := [.int 0, .int x0]) (rest := [.int 0, .ref h1]) (wr := [(h1, .inl (a0, 1, .inr (.inl f0)))]) (tr := [(a0, .long)]) hx hb hml hown hg okN (cX5_set_671 l D h0 x0 h2 h3 h4 h5 h6 h7 h8 h9 h10 v0 v1 v2 v3 v4 v5 v6 v7 v8 v9 v10 v11 v12 v13 v14 v15 v16 v17 v18 v19 v20 v21 v22 f1 f2 f3 f4 f5 a1 a2 a3 a4 a5 ef1_0 ef2_0 ef3_0 ef4_0 ef5_0 d0 d1 d2 d3 d4 d5 d6 d7 d8) (mwV k985 k986 k987 k84 k988) ⟨rfl, by decide, by decide, by decide +kernel⟩ ⟨rfl, rfl, (Nat.le_of_ble_eq_true rfl), (Nat.le_of_ble_eq_true rfl)⟩ hP hD hK hS xn [0, 2, 3, 4, 5, 6, 7, 8, 9, 10] [0, 2, 3, 4, 5, 6, 7, 8, 9, 10] [1] [1, 2, 3, 4, 5] [0] rfl (by decide) rfl rfl (by decide) (by decide) rfl rfl (va_free hD hS hA [0, 2, 3, 4, 5, 6, 7, 8, 9, 10] rfl) (va_free hD hS hA [0, 2, 3, 4, 5, 6, 7, 8, 9, 10] rfl) 0 rfl rfl rfl hl.1 rfl (Nat.le_of_ble_eq_true rfl) dL_set_5 ⟨(Nat.le_of_ble_eq_true rfl), (Nat.le_of_ble_eq_true rfl)⟩ (fun u H locs hφ hP hD hK hS hk => ?_)
  have hP : va_P D vwCl [(h1, .inl (a0, 1, .inr (.inl f0))), (h0, .inr (5, [v0, .ref h2, v1, .ref h3, v2, v3, v4, v5, v6, v7])), (h2, .inr (0, [v8, v9, .int 2, v10, v11, v12, v13])), (h3, .inr (1, [v14, .ref h5, .ref h7, .ref h4, v15, v16, .ref h8, v17, v18, v19, v20, v21, v22])), (h4, .inl (a1, 48, .inl f1)), (h5, .inl (a2, 48, .inr (.inr (.inr (.inr f2))))), (h6, .inr (4, [.ref h10, .int 1, .int 1])), (h7, .inl (a3, 48, .inr (.inl f3))), (h8, .inr (4, [.ref h9, .int 1, .int 1])), (h9, .inl (a4, 2, .inl (upd (upd (upd (upd f4 0 0) 1 0) 0 ((-(-(((-x0.toInt64).toInt32).toInt64))).toInt32)) 1 0))), (h10, .inl (a5, 2, .inl (upd (upd f5 0 ((-x0.toInt64).toInt32)) 1 0)))] H := hP
  have hD : va_D A [(h1, .inl (a0, 1, .inr (.inl f0))), (h0, .inr (5, [v0, .ref h2, v1, .ref h3, v2, v3, v4, v5, v6, v7])), (h2, .inr (0, [v8, v9, .int 2, v10, v11, v12, v13])), (h3, .inr (1, [v14, .ref h5, .ref h7, .ref h4, v15, v16, .ref h8, v17, v18, v19, v20, v21, v22])), (h4, .inl (a1, 48, .inl f1)), (h5, .inl (a2, 48, .inr (.inr (.inr (.inr f2))))), (h6, .inr (4, [.ref h10, .int 1, .int 1])), (h7, .inl (a3, 48, .inr (.inl f3))), (h8, .inr (4, [.ref h9, .int 1, .int 1])), (h9, .inl (a4, 2, .inl (upd (upd (upd (upd f4 0 0) 1 0) 0 ((-(-(((-x0.toInt64).toInt32).toInt64))).toInt32)) 1 0))), (h10, .inl (a5, 2, .inl (upd (upd f5 0 ((-x0.toInt64).toInt32)) 1 0)))] := hD
  have hK : va_K D vwCl [(a0, .long), (a1, .int), (a2, .object "LiftingSignal$Whole"), (a3, .long), (a4, .int), (a5, .int)] s := hK
  refine W.widen (k := 0) (n := 0) (Nat.le_of_ble_eq_true rfl) (Nat.le_of_ble_eq_true rfl) ?_
  refine astL hx hb hK hP hD hS 0 0 rfl rfl 0 (by decide) (vin (by decide)) dL_set_8 (fun H locs hP hD hS => ?_)
  have hP : va_P D vwCl [(h1, .inl (a0, 1, .inr (.inl (vp_updL f0 0 0)))), (h0, .inr (5, [v0, .ref h2, v1, .ref h3, v2, v3, v4, v5, v6, v7])), (h2, .inr (0, [v8, v9, .int 2, v10, v11, v12, v13])), (h3, .inr (1, [v14, .ref h5, .ref h7, .ref h4, v15, v16, .ref h8, v17, v18, v19, v20, v21, v22])), (h4, .inl (a1, 48, .inl f1)), (h5, .inl (a2, 48, .inr (.inr (.inr (.inr f2))))), (h6, .inr (4, [.ref h10, .int 1, .int 1])), (h7, .inl (a3, 48, .inr (.inl f3))), (h8, .inr (4, [.ref h9, .int 1, .int 1])), (h9, .inl (a4, 2, .inl (upd (upd (upd (upd f4 0 0) 1 0) 0 ((-(-(((-x0.toInt64).toInt32).toInt64))).toInt32)) 1 0))), (h10, .inl (a5, 2, .inl (upd (upd f5 0 ((-x0.toInt64).toInt32)) 1 0)))] H := hP
  have hD : va_D A [(h1, .inl (a0, 1, .inr (.inl (vp_updL f0 0 0)))), (h0, .inr (5, [v0, .ref h2, v1, .ref h3, v2, v3, v4, v5, v6, v7])), (h2, .inr (0, [v8, v9, .int 2, v10, v11, v12, v13])), (h3, .inr (1, [v14, .ref h5, .ref h7, .ref h4, v15, v16, .ref h8, v17, v18, v19, v20, v21, v22])), (h4, .inl (a1, 48, .inl f1)), (h5, .inl (a2, 48, .inr (.inr (.inr (.inr f2))))), (h6, .inr (4, [.ref h10, .int 1, .int 1])), (h7, .inl (a3, 48, .inr (.inl f3))), (h8, .inr (4, [.ref h9, .int 1, .int 1])), (h9, .inl (a4, 2, .inl (upd (upd (upd (upd f4 0 0) 1 0) 0 ((-(-(((-x0.toInt64).toInt32).toInt64))).toInt32)) 1 0))), (h10, .inl (a5, 2, .inl (upd (upd f5 0 ((-x0.toInt64).toInt32)) 1 0)))] := hD
  refine lv_goto (tgt := 24) hx hb dL_set_9 (by decide) ?_
  refine lv_iconst (v := 0) hx hb dL_set_24 (by decide) ?_
  exact fi hx hb hr hlocks hP hD hK hS (()) trivial rfl [1, 0, 2, 3, 4, 5, 6, 7, 8, 9, 10] [0, 1, 2, 3, 4, 5] rfl (by decide) rfl (Nat.le_of_ble_eq_true rfl) (Nat.le_of_ble_eq_true rfl) dL_set_25
set_option maxHeartbeats 4000000 in
set_option maxRecDepth 100000 in
theorem cX6_in_689 (l : Launch) (D : va_G)    : CT l yX6_in cX6_in 6 (some .boolean) { frames := 0, cells := 0, slots := 0, locals := 0 } [.long 0, .long 0, .long 1] D [] [] XN [] (ei (fun _ : Unit => True) (fun _ => 1) (fun _ => []) (fun _ => []) D) 0 0 := by
  refine CT.ofR (by decide +kernel) (Nat.le_of_ble_eq_true rfl) ?_
  intro p e s m below meth c A ls hcs hP hK hD hX hA hS hl
  obtain ⟨hx, hb, hr, hml, hown, hg, hlocks, hin⟩ := hcs
  have hown : s.vm.findClass RX6 = some m.cls := hown
  have hl : lv_has ls 6 [(0, .long 0), (2, .long 0), (4, .long 1)] := hl
  refine lv_lload_n hx hb dX6_in_0 rfl (lv_at hl 0 rfl) ?_
  refine lv_lload_n hx hb dX6_in_1 rfl (lv_at hl 1 rfl) ?_
  refine W.lcmp hx hb dX6_in_2 ?_
  refine ti (0) (by decide) ?_
  refine lv_if_lt (tgt := 17) hx hb dX6_in_3 (by decide) (fun c9 => absurd c9 (by decide)) (fun _ => ?_)
  refine lv_lload_n hx hb dX6_in_6 rfl (lv_at hl 0 rfl) ?_
  refine lv_lload hx hb dX6_in_7 (lv_at hl 2 rfl) ?_
  refine W.lcmp hx hb dX6_in_9 ?_
  refine ti ((-1)) (by decide) ?_
  refine lv_if_gt (tgt := 17) hx hb dX6_in_10 (by decide) (fun c9 => absurd c9 (by decide)) (fun _ => ?_)
  refine lv_iconst (v := 1) hx hb dX6_in_13 (by decide) ?_
  refine lv_goto (tgt := 18) hx hb dX6_in_14 (by decide) ?_
  exact fz0 hx hb hr rfl hlocks hK hS (Nat.le_of_ble_eq_true rfl) (Nat.le_of_ble_eq_true rfl) dX6_in_18
set_option maxHeartbeats 4000000 in
set_option maxRecDepth 100000 in
theorem cX6_isSample_688 (l : Launch) (D : va_G) (h0 : Nat) (v0 : Value) (v1 : Value) (v2 : Value) (v3 : Value) (v4 : Value) (v5 : Value) (v6 : Value) (v7 : Value) (v8 : Value) (v9 : Value) (v10 : Value) (v11 : Value) (v12 : Value) (v13 : Value) (v14 : Value) (v15 : Value) (v16 : Value) (v17 : Value) (v18 : Value) (v19 : Value) (v20 : Value) (v21 : Value) (v22 : Value) (v23 : Value) (v24 : Value) (v25 : Value)   : CT l yX6_isSample cX6_isSample 2 (some .boolean) { frames := 1, cells := 0, slots := 0, locals := 25 } [.ref h0, .int 0] D [(h0, .inr (6, [v0, v1, v2, v3, v4, v5, v6, .int 2, v7, v8, v9, v10, v11, v12, v13, v14, v15, v16, v17, v18, v19, v20, v21, v22, v23, v24, v25]))] [] XN [] (ei (fun _ : Unit => True) (fun _ => 1) (fun _ => []) (fun _ => []) D) 0 0 := by
  refine CT.ofR (by decide +kernel) (Nat.le_of_ble_eq_true rfl) ?_
  intro p e s m below meth c A ls hcs hP hK hD hX hA hS hl
  obtain ⟨hx, hb, hr, hml, hown, hg, hlocks, hin⟩ := hcs
  have hown : s.vm.findClass RX6 = some m.cls := hown
  have hl : lv_has ls 2 [(0, .ref h0), (1, .int 0)] := hl
  refine lv_iload_n hx hb dX6_isSample_0 rfl (lv_at hl 1 rfl) ?_
  refine lv_i2l (v := 0) hx hb dX6_isSample_1 (by decide) ?_
  refine lv_lconst (v := 0) hx hb dX6_isSample_2 (by decide) ?_
  refine lv_aload_n hx hb dX6_isSample_3 rfl (lv_at hl 0 rfl) ?_
  refine va_get (D := D) (ci := 6) (v := .int 2) (C := RX6) (T := TX6) (N := 27) hx hb hg inX6 hown hK hP 0 rfl rfl 7 (by decide) (hg _ k1226) (fun _ h9 => h9) rfl dX6_isSample_4 ?_
  refine lv_iconst (v := 1) hx hb dX6_isSample_7 (by decide) ?_
  refine lv_isub hx hb dX6_isSample_8 ?_
  refine ti (1) (by decide) ?_
  refine lv_i2l (v := 1) hx hb dX6_isSample_9 (by decide) ?_
  refine cSi (n := 3) (As := [.long 0, .long 0, .long 1]) (rest := []) (wr := [(h0, .inr (6, [v0, v1, v2, v3, v4, v5, v6, .int 2, v7, v8, v9, v10, v11, v12, v13, v14, v15, v16, v17, v18, v19, v20, v21, v22, v23, v24, v25]))]) (tr := []) hx hb hml hown hg okN (cX6_in_689 l D) (mwS k1317 k1318 k92 k1319) ⟨rfl, by decide, by decide, by decide +kernel⟩ ⟨rfl, rfl, (Nat.le_of_ble_eq_true rfl), (Nat.le_of_ble_eq_true rfl)⟩ hP hD hK hS xn [] [] [0] [] [] rfl (by decide) rfl rfl (by decide) (by decide) rfl rfl (aNil hA hS) (fun _ _ => trivial) rfl hl.1 rfl (Nat.le_of_ble_eq_true rfl) dX6_isSample_10 ⟨(Nat.le_of_ble_eq_true rfl), (Nat.le_of_ble_eq_true rfl)⟩ (fun u H locs hφ hP hD hK hS hk => ?_)
  have hP : va_P D vwCl [(h0, .inr (6, [v0, v1, v2, v3, v4, v5, v6, .int 2, v7, v8, v9, v10, v11, v12, v13, v14, v15, v16, v17, v18, v19, v20, v21, v22, v23, v24, v25]))] H := hP
  have hD : va_D (fun _ => True) [(h0, .inr (6, [v0, v1, v2, v3, v4, v5, v6, .int 2, v7, v8, v9, v10, v11, v12, v13, v14, v15, v16, v17, v18, v19, v20, v21, v22, v23, v24, v25]))] := hD
  have hK : va_K D vwCl [] s := hK
  refine W.widen (k := 0) (n := 0) (Nat.le_of_ble_eq_true rfl) (Nat.le_of_ble_eq_true rfl) ?_
  exact fz0 hx hb hr rfl hlocks hK hS (Nat.le_of_ble_eq_true rfl) (Nat.le_of_ble_eq_true rfl) dX6_isSample_13
set_option maxHeartbeats 4000000 in
set_option maxRecDepth 100000 in
theorem cX6_in_690 (l : Launch) (D : va_G) (x0 : Int32)  (d0 : ¬ ((lg_cmp x0.toInt64 (-9999)) < 0)) (d1 : ¬ (0 < (lg_cmp x0.toInt64 9999))) : CT l yX6_in cX6_in 6 (some .boolean) { frames := 0, cells := 0, slots := 0, locals := 0 } [.long x0.toInt64, .long (-9999), .long 9999] D [] [] XN [] (ei (fun _ : Unit => True) (fun _ => 1) (fun _ => []) (fun _ => []) D) 0 0 := by
  refine CT.ofR (by decide +kernel) (Nat.le_of_ble_eq_true rfl) ?_
  intro p e s m below meth c A ls hcs hP hK hD hX hA hS hl
  obtain ⟨hx, hb, hr, hml, hown, hg, hlocks, hin⟩ := hcs
  have hown : s.vm.findClass RX6 = some m.cls := hown
  have hl : lv_has ls 6 [(0, .long x0.toInt64), (2, .long (-9999)), (4, .long 9999)] := hl
  refine lv_lload_n hx hb dX6_in_0 rfl (lv_at hl 0 rfl) ?_
  refine lv_lload_n hx hb dX6_in_1 rfl (lv_at hl 1 rfl) ?_
  refine W.lcmp hx hb dX6_in_2 ?_
  refine lv_if_lt (tgt := 17) hx hb dX6_in_3 (by decide) (fun c9 => absurd c9 d0) (fun _ => ?_)
  refine lv_lload_n hx hb dX6_in_6 rfl (lv_at hl 0 rfl) ?_
  refine lv_lload hx hb dX6_in_7 (lv_at hl 2 rfl) ?_
  refine W.lcmp hx hb dX6_in_9 ?_
  refine lv_if_gt (tgt := 17) hx hb dX6_in_10 (by decide) (fun c9 => absurd c9 d1) (fun _ => ?_)
  refine lv_iconst (v := 1) hx hb dX6_in_13 (by decide) ?_
  refine lv_goto (tgt := 18) hx hb dX6_in_14 (by decide) ?_
  exact fz0 hx hb hr rfl hlocks hK hS (Nat.le_of_ble_eq_true rfl) (Nat.le_of_ble_eq_true rfl) dX6_in_18
set_option maxHeartbeats 4000000 in
set_option maxRecDepth 100000 in
theorem cX6_isPresent_691 (l : Launch) (D : va_G) (h0 : Nat) (h1 : Nat) (v0 : Value) (v1 : Value) (v2 : Value) (v3 : Value) (v4 : Value) (v5 : Value) (v6 : Value) (v7 : Value) (v8 : Value) (v9 : Value) (v10 : Value) (v11 : Value) (v12 : Value) (v13 : Value) (v14 : Value) (v15 : Value) (v16 : Value) (v17 : Value) (v18 : Value) (v19 : Value) (v20 : Value) (v21 : Value) (v22 : Value) (v23 : Value) (v24 : Value) (v25 : Value) (f0 : Nat → Int64) (a0 : ClassId) (ef0_101 : f0 101 = (-1))  : CT l yX6_isPresent cX6_isPresent 2 (some .boolean) { frames := 0, cells := 0, slots := 0, locals := 0 } [.ref h0, .int 0] D [(h0, .inr (6, [v0, .ref h1, v1, v2, v3, v4, v5, v6, v7, v8, v9, v10, v11, v12, v13, v14, v15, v16, v17, v18, v19, v20, v21, v22, v23, v24, v25])), (h1, .inl (a0, 609, .inr (.inl f0)))] [(a0, .long)] XN [] (ei (fun _ : Unit => True) (fun _ => 1) (fun _ => []) (fun _ => []) D) 0 0 := by
  refine CT.ofR (by decide +kernel) (Nat.le_of_ble_eq_true rfl) ?_
  intro p e s m below meth c A ls hcs hP hK hD hX hA hS hl
  obtain ⟨hx, hb, hr, hml, hown, hg, hlocks, hin⟩ := hcs
  have hown : s.vm.findClass RX6 = some m.cls := hown
  have hl : lv_has ls 2 [(0, .ref h0), (1, .int 0)] := hl
  refine lv_aload_n hx hb dX6_isPresent_0 rfl (lv_at hl 0 rfl) ?_
  refine va_get (D := D) (ci := 6) (v := .ref h1) (C := RX6) (T := TX6) (N := 27) hx hb hg inX6 hown hK hP 0 rfl rfl 1 (by decide) (hg _ k1220) (fun _ h9 => h9) rfl dX6_isPresent_1 ?_
  refine lv_bipush (v := 101) hx hb dX6_isPresent_4 (by decide) ?_
  refine lv_iload_n hx hb dX6_isPresent_6 rfl (lv_at hl 1 rfl) ?_
  refine lv_iadd hx hb dX6_isPresent_7 ?_
  refine ti (101) (by decide) ?_
  refine aldL hx hb hK hP 1 0 rfl rfl 101 (by decide) (vin (by decide)) (v := (-1)) ef0_101 dX6_isPresent_8 ?_
  refine lv_ldc2 hx hb hown (hg _ k1218) dX6_isPresent_9 ?_
  refine W.lcmp hx hb dX6_isPresent_12 ?_
  refine ti (0) (by decide) ?_
  refine lv_if_ne (tgt := 20) hx hb dX6_isPresent_13 (by decide) (fun c9 => absurd (by decide) c9) (fun _ => ?_)
  refine lv_iconst (v := 1) hx hb dX6_isPresent_16 (by decide) ?_
  refine lv_goto (tgt := 21) hx hb dX6_isPresent_17 (by decide) ?_
  exact fz0 hx hb hr rfl hlocks hK hS (Nat.le_of_ble_eq_true rfl) (Nat.le_of_ble_eq_true rfl) dX6_isPresent_21
set_option maxHeartbeats 4000000 in
set_option maxRecDepth 100000 in
theorem cX6_set_687 (l : Launch) (D : va_G) (h0 : Nat) (x0 : Int32) (h1 : Nat) (v0 : Value) (v1 : Value) (v2 : Value) (v3 : Value) (v4 : Value) (v5 : Value) (v6 : Value) (v7 : Value) (v8 : Value) (v9 : Value) (v10 : Value) (v11 : Value) (v12 : Value) (v13 : Value) (v14 : Value) (v15 : Value) (v16 : Value) (v17 : Value) (v18 : Value) (v19 : Value) (v20 : Value) (v21 : Value) (v22 : Value) (v23 : Value) (v24 : Value) (f0 : Nat → Int64) (a0 : ClassId) (ef0_5 : f0 5 = 0) (ef0_101 : f0 101 = (-1)) (d0 : ¬ ((lg_cmp x0.toInt64 (-9999)) < 0)) (d1 : ¬ (0 < (lg_cmp x0.toInt64 9999))) : CT l yX6_set cX6_set 5 (some .long) { frames := 2, cells := 0, slots := 0, locals := 46 } [.ref h0, .int 0, .int x0] D [(h0, .inr (6, [v0, .ref h1, v1, v2, v3, v4, v5, .int 2, v6, v7, v8, v9, v10, v11, v12, v13, v14, v15, v16, v17, v18, v19, v20, v21, v22, v23, v24])), (h1, .inl (a0, 609, .inr (.inl f0)))] [(a0, .long)] XN [(h0, .inr (6, [v0, .ref h1, v1, v2, v3, v4, v5, .int 2, v6, v7, v8, v9, v10, v11, v12, v13, v14, v15, v16, v17, v18, v19, v20, v21, v22, v23, v24])), (h1, .inl (a0, 609, .inr (.inl f0)))] (el (fun _ : Unit => True) (fun u => 0) (fun _ => [(h0, .inr (6, [.int 0, .ref h1, v1, v2, v3, v4, v5, .int 2, v6, v7, v8, v9, v10, v11, v12, v13, v14, v15, v16, v17, v18, v19, v20, v21, v22, v23, v24])), (h1, .inl (a0, 609, .inr (.inl (vp_updL f0 5 x0.toInt64))))]) (fun u => [(a0, .long)]) D) 0 0 := by
  refine CT.ofW (by decide +kernel) (Nat.le_of_ble_eq_true rfl) ?_
  intro p e s m below meth c A ls hcs hP hK hD hX hA hS hl
  obtain ⟨hx, hb, hr, hml, hown, hg, hlocks, hin⟩ := hcs
  have hown : s.vm.findClass RX6 = some m.cls := hown
  have hl : lv_has ls 5 [(0, .ref h0), (1, .int 0), (2, .int x0)] := hl
  refine lv_aload_n hx hb dX6_set_0 rfl (lv_at hl 0 rfl) ?_
  refine lv_aload_n hx hb dX6_set_1 rfl (lv_at hl 0 rfl) ?_
  refine lv_iload_n hx hb dX6_set_2 rfl (lv_at hl 1 rfl) ?_
  refine cVi (n := 1) (As := [.int 0]) (rest := [.ref h0]) (wr := [(h0, .inr (6, [v0, .ref h1, v1, v2, v3, v4, v5, .int 2, v6, v7, v8, v9, v10, v11, v12, v13, v14, v15, v16, v17, v18, v19, v20, v21, v22, v23, v24])), (h1, .inl (a0, 609, .inr (.inl f0)))]) (tr := [(a0, .long)]) hx hb hml hown hg okN (cX6_isSample_688 l D h0 v0 (.ref h1) v1 v2 v3 v4 v5 v6 v7 v8 v9 v10 v11 v12 v13 v14 v15 v16 v17 v18 v19 v20 v21 v22 v23 v24) (mwV k1440 k1442 k57 k92 k1443) ⟨rfl, by decide, by decide, by decide +kernel⟩ ⟨rfl, rfl, (Nat.le_of_ble_eq_true rfl), (Nat.le_of_ble_eq_true rfl)⟩ hP hD hK hS xn [0] [] [0, 1] [] [0] rfl (by decide) rfl rfl (by decide) (by decide) rfl rfl (aNil hA hS) (aNil hA hS) 0 rfl rfl rfl hl.1 rfl (Nat.le_of_ble_eq_true rfl) dX6_set_3 ⟨(Nat.le_of_ble_eq_true rfl), (Nat.le_of_ble_eq_true rfl)⟩ (fun u H locs hφ hP hD hK hS hk => ?_)
  have hP : va_P D vwCl [(h0, .inr (6, [v0, .ref h1, v1, v2, v3, v4, v5, .int 2, v6, v7, v8, v9, v10, v11, v12, v13, v14, v15, v16, v17, v18, v19, v20, v21, v22, v23, v24])), (h1, .inl (a0, 609, .inr (.inl f0)))] H := hP
  have hD : va_D A [(h0, .inr (6, [v0, .ref h1, v1, v2, v3, v4, v5, .int 2, v6, v7, v8, v9, v10, v11, v12, v13, v14, v15, v16, v17, v18, v19, v20, v21, v22, v23, v24])), (h1, .inl (a0, 609, .inr (.inl f0)))] := hD
  have hK : va_K D vwCl [(a0, .long)] s := hK
  refine W.widen (k := 0) (n := 0) (Nat.le_of_ble_eq_true rfl) (Nat.le_of_ble_eq_true rfl) ?_
  refine lv_if_ne (tgt := 13) hx hb dX6_set_6 (by decide) (fun _ => ?_) (fun c9 => absurd c9 (by decide))
  refine lv_iload_n hx hb dX6_set_13 rfl (lv_at hl 2 rfl) ?_
  refine lv_i2l (v := x0.toInt64) hx hb dX6_set_14 rfl ?_
  refine lv_ldc2 hx hb hown (hg _ k1567) dX6_set_15 ?_
  refine lv_ldc2 hx hb hown (hg _ k1568) dX6_set_18 ?_
  refine cSi (n := 3) (As := [.long x0.toInt64, .long (-9999), .long 9999]) (rest := [.ref h0]) (wr := [(h0, .inr (6, [v0, .ref h1, v1, v2, v3, v4, v5, .int 2, v6, v7, v8, v9, v10, v11, v12, v13, v14, v15, v16, v17, v18, v19, v20, v21, v22, v23, v24])), (h1, .inl (a0, 609, .inr (.inl f0)))]) (tr := [(a0, .long)]) hx hb hml hown hg okN (cX6_in_690 l D x0 d0 d1) (mwS k1317 k1318 k92 k1319) ⟨rfl, by decide, by decide, by decide +kernel⟩ ⟨rfl, rfl, (Nat.le_of_ble_eq_true rfl), (Nat.le_of_ble_eq_true rfl)⟩ hP hD hK hS xn [] [] [0, 1] [] [0] rfl (by decide) rfl rfl (by decide) (by decide) rfl rfl (aNil hA hS) (aNil hA hS) rfl hl.1 rfl (Nat.le_of_ble_eq_true rfl) dX6_set_21 ⟨(Nat.le_of_ble_eq_true rfl), (Nat.le_of_ble_eq_true rfl)⟩ (fun u H locs hφ hP hD hK hS hk => ?_)
  have hP : va_P D vwCl [(h0, .inr (6, [v0, .ref h1, v1, v2, v3, v4, v5, .int 2, v6, v7, v8, v9, v10, v11, v12, v13, v14, v15, v16, v17, v18, v19, v20, v21, v22, v23, v24])), (h1, .inl (a0, 609, .inr (.inl f0)))] H := hP
  have hD : va_D A [(h0, .inr (6, [v0, .ref h1, v1, v2, v3, v4, v5, .int 2, v6, v7, v8, v9, v10, v11, v12, v13, v14, v15, v16, v17, v18, v19, v20, v21, v22, v23, v24])), (h1, .inl (a0, 609, .inr (.inl f0)))] := hD
  have hK : va_K D vwCl [(a0, .long)] s := hK
  refine W.widen (k := 0) (n := 0) (Nat.le_of_ble_eq_true rfl) (Nat.le_of_ble_eq_true rfl) ?_
  refine lv_if_eq (tgt := 31) hx hb dX6_set_24 (by decide) (fun c9 => absurd c9 (by decide)) (fun _ => ?_)
  refine lv_iconst (v := 0) hx hb dX6_set_27 (by decide) ?_
  refine lv_goto (tgt := 32) hx hb dX6_set_28 (by decide) ?_
  refine va_put (D := D) (ci := 6) (v := .int 0) (ty := .int) (C := RX6) (T := TX6) (N := 27) hx hb hg inX6 tyX6 tyX6_ok nmX6 hown hK hP hD hS 0 rfl rfl 0 (by decide) (hg _ k1219) (fun _ h9 => h9) rfl (by decide +kernel) rfl rfl (Nat.le_of_ble_eq_true rfl) dX6_set_32 (fun H locs hP hD hS => ?_)
  have hP : va_P D vwCl [(h0, .inr (6, [.int 0, .ref h1, v1, v2, v3, v4, v5, .int 2, v6, v7, v8, v9, v10, v11, v12, v13, v14, v15, v16, v17, v18, v19, v20, v21, v22, v23, v24])), (h1, .inl (a0, 609, .inr (.inl f0)))] H := hP
  have hD : va_D A [(h0, .inr (6, [.int 0, .ref h1, v1, v2, v3, v4, v5, .int 2, v6, v7, v8, v9, v10, v11, v12, v13, v14, v15, v16, v17, v18, v19, v20, v21, v22, v23, v24])), (h1, .inl (a0, 609, .inr (.inl f0)))] := hD
  refine lv_aload_n hx hb dX6_set_35 rfl (lv_at hl 0 rfl) ?_
  refine va_get (D := D) (ci := 6) (v := .int 0) (C := RX6) (T := TX6) (N := 27) hx hb hg inX6 hown hK hP 0 rfl rfl 0 (by decide) (hg _ k1219) (fun _ h9 => h9) rfl dX6_set_36 ?_
  refine lv_if_le (tgt := 44) hx hb dX6_set_39 (by decide) (fun _ => ?_) (fun c9 => absurd (by decide) c9)
  refine lv_aload_n hx hb dX6_set_44 rfl (lv_at hl 0 rfl) ?_
  refine lv_iload_n hx hb dX6_set_45 rfl (lv_at hl 1 rfl) ?_
  refine cVi (n := 1) (As := [.int 0]) (rest := []) (wr := [(h0, .inr (6, [.int 0, .ref h1, v1, v2, v3, v4, v5, .int 2, v6, v7, v8, v9, v10, v11, v12, v13, v14, v15, v16, v17, v18, v19, v20, v21, v22, v23, v24])), (h1, .inl (a0, 609, .inr (.inl f0)))]) (tr := [(a0, .long)]) hx hb hml hown hg okN (cX6_isPresent_691 l D h0 h1 (.int 0) v1 v2 v3 v4 v5 (.int 2) v6 v7 v8 v9 v10 v11 v12 v13 v14 v15 v16 v17 v18 v19 v20 v21 v22 v23 v24 f0 a0 ef0_101) (mwV k1432 k1434 k56 k92 k1435) ⟨rfl, by decide, by decide, by decide +kernel⟩ ⟨rfl, rfl, (Nat.le_of_ble_eq_true rfl), (Nat.le_of_ble_eq_true rfl)⟩ hP hD hK hS xn [0, 1] [] [0, 1] [0] [0] rfl (by decide) rfl rfl (by decide) (by decide) rfl rfl (aNil hA hS) (aNil hA hS) 0 rfl rfl rfl hl.1 rfl (Nat.le_of_ble_eq_true rfl) dX6_set_46 ⟨(Nat.le_of_ble_eq_true rfl), (Nat.le_of_ble_eq_true rfl)⟩ (fun u H locs hφ hP hD hK hS hk => ?_)
  have hP : va_P D vwCl [(h0, .inr (6, [.int 0, .ref h1, v1, v2, v3, v4, v5, .int 2, v6, v7, v8, v9, v10, v11, v12, v13, v14, v15, v16, v17, v18, v19, v20, v21, v22, v23, v24])), (h1, .inl (a0, 609, .inr (.inl f0)))] H := hP
  have hD : va_D A [(h0, .inr (6, [.int 0, .ref h1, v1, v2, v3, v4, v5, .int 2, v6, v7, v8, v9, v10, v11, v12, v13, v14, v15, v16, v17, v18, v19, v20, v21, v22, v23, v24])), (h1, .inl (a0, 609, .inr (.inl f0)))] := hD
  have hK : va_K D vwCl [(a0, .long)] s := hK
  refine W.widen (k := 0) (n := 0) (Nat.le_of_ble_eq_true rfl) (Nat.le_of_ble_eq_true rfl) ?_
  refine lv_if_ne (tgt := 63) hx hb dX6_set_49 (by decide) (fun _ => ?_) (fun c9 => absurd c9 (by decide))
  refine lv_aload_n hx hb dX6_set_63 rfl (lv_at hl 0 rfl) ?_
  refine va_get (D := D) (ci := 6) (v := .ref h1) (C := RX6) (T := TX6) (N := 27) hx hb hg inX6 hown hK hP 0 rfl rfl 1 (by decide) (hg _ k1220) (fun _ h9 => h9) rfl dX6_set_64 ?_
  refine lv_iconst (v := 5) hx hb dX6_set_67 (by decide) ?_
  refine lv_iload_n hx hb dX6_set_68 rfl (lv_at hl 1 rfl) ?_
  refine lv_iadd hx hb dX6_set_69 ?_
  refine ti (5) (by decide) ?_
  refine aldL hx hb hK hP 1 0 rfl rfl 5 (by decide) (vin (by decide)) (v := 0) ef0_5 dX6_set_70 ?_
  refine lv_lstore_n (lv' := [(3, .long 0), (0, .ref h0), (1, .int 0), (2, .int x0)]) hx hb dX6_set_71 rfl hl (by decide) rfl (fun ls hl => ?_)
  refine lv_aload_n hx hb dX6_set_72 rfl (lv_at hl 1 rfl) ?_
  refine va_get (D := D) (ci := 6) (v := .ref h1) (C := RX6) (T := TX6) (N := 27) hx hb hg inX6 hown hK hP 0 rfl rfl 1 (by decide) (hg _ k1220) (fun _ h9 => h9) rfl dX6_set_73 ?_
  refine lv_iconst (v := 5) hx hb dX6_set_76 (by decide) ?_
  refine lv_iload_n hx hb dX6_set_77 rfl (lv_at hl 2 rfl) ?_
  refine lv_iadd hx hb dX6_set_78 ?_
  refine ti (5) (by decide) ?_
  refine lv_iload_n hx hb dX6_set_79 rfl (lv_at hl 3 rfl) ?_
  refine lv_i2l (v := x0.toInt64) hx hb dX6_set_80 rfl ?_
  refine astL hx hb hK hP hD hS 1 0 rfl rfl 5 (by decide) (vin (by decide)) dX6_set_81 (fun H locs hP hD hS => ?_)
  have hP : va_P D vwCl [(h0, .inr (6, [.int 0, .ref h1, v1, v2, v3, v4, v5, .int 2, v6, v7, v8, v9, v10, v11, v12, v13, v14, v15, v16, v17, v18, v19, v20, v21, v22, v23, v24])), (h1, .inl (a0, 609, .inr (.inl (vp_updL f0 5 x0.toInt64))))] H := hP
  have hD : va_D A [(h0, .inr (6, [.int 0, .ref h1, v1, v2, v3, v4, v5, .int 2, v6, v7, v8, v9, v10, v11, v12, v13, v14, v15, v16, v17, v18, v19, v20, v21, v22, v23, v24])), (h1, .inl (a0, 609, .inr (.inl (vp_updL f0 5 x0.toInt64))))] := hD
  refine lv_lload_n hx hb dX6_set_82 rfl (lv_at hl 0 rfl) ?_
  exact fl hx hb hr hlocks hP hD hK hS (()) trivial rfl [0, 1] [0] rfl (by decide) rfl (Nat.le_of_ble_eq_true rfl) (Nat.le_of_ble_eq_true rfl) dX6_set_83
set_option maxHeartbeats 4000000 in
set_option maxRecDepth 100000 in
theorem cX6_thrown_692 (l : Launch) (D : va_G) (h0 : Nat) (v0 : Value) (v1 : Value) (v2 : Value) (v3 : Value) (v4 : Value) (v5 : Value) (v6 : Value) (v7 : Value) (v8 : Value) (v9 : Value) (v10 : Value) (v11 : Value) (v12 : Value) (v13 : Value) (v14 : Value) (v15 : Value) (v16 : Value) (v17 : Value) (v18 : Value) (v19 : Value) (v20 : Value) (v21 : Value) (v22 : Value) (v23 : Value) (v24 : Value) (v25 : Value)   : CT l yX6_thrown cX6_thrown 1 (some .int) { frames := 0, cells := 0, slots := 0, locals := 0 } [.ref h0] D [(h0, .inr (6, [.int 0, v0, v1, v2, v3, v4, v5, v6, v7, v8, v9, v10, v11, v12, v13, v14, v15, v16, v17, v18, v19, v20, v21, v22, v23, v24, v25]))] [] XN [] (ei (fun _ : Unit => True) (fun _ => 0) (fun _ => []) (fun _ => []) D) 0 0 := by
  refine CT.ofR (by decide +kernel) (Nat.le_of_ble_eq_true rfl) ?_
  intro p e s m below meth c A ls hcs hP hK hD hX hA hS hl
  obtain ⟨hx, hb, hr, hml, hown, hg, hlocks, hin⟩ := hcs
  have hown : s.vm.findClass RX6 = some m.cls := hown
  have hl : lv_has ls 1 [(0, .ref h0)] := hl
  refine lv_aload_n hx hb dX6_thrown_0 rfl (lv_at hl 0 rfl) ?_
  refine va_get (D := D) (ci := 6) (v := .int 0) (C := RX6) (T := TX6) (N := 27) hx hb hg inX6 hown hK hP 0 rfl rfl 0 (by decide) (hg _ k1219) (fun _ h9 => h9) rfl dX6_thrown_1 ?_
  exact fi0 hx hb hr hlocks hK hS (Nat.le_of_ble_eq_true rfl) (Nat.le_of_ble_eq_true rfl) dX6_thrown_4
set_option maxHeartbeats 4000000 in
set_option maxRecDepth 100000 in
theorem cL_set_693 (l : Launch) (D : va_G) (h0 : Nat) (h1 : Nat) (h2 : Nat) (h3 : Nat) (h4 : Nat) (h5 : Nat) (h6 : Nat) (h7 : Nat) (h8 : Nat) (h9 : Nat) (h10 : Nat) (v0 : Value) (v1 : Value) (v2 : Value) (v3 : Value) (v4 : Value) (v5 : Value) (v6 : Value) (v7 : Value) (f0 : Nat → Int64) (v8 : Value) (v9 : Value) (v10 : Value) (v11 : Value) (v12 : Value) (v13 : Value) (v14 : Value) (v15 : Value) (v16 : Value) (v17 : Value) (v18 : Value) (v19 : Value) (v20 : Value) (v21 : Value) (v22 : Value) (f1 : Nat → Int32) (f2 : Nat → Option Nat) (f3 : Nat → Int64) (f4 : Nat → Int32) (f5 : Nat → Int32) (a0 : ClassId) (a1 : ClassId) (a2 : ClassId) (a3 : ClassId) (a4 : ClassId) (a5 : ClassId) (ef1_0 : f1 0 = (-1)) (ef2_0 : f2 0 = some h6) (ef3_0 : f3 0 = 1) (ef4_0 : f4 0 = 0) (ef5_0 : f5 0 = 0)  : CH l yL_set cL_set 5 (some .int) [(0, 9, 12, 13), (0, 9, 16, 19), (0, 9, 20, 62)] { frames := 4, cells := 0, slots := 0, locals := 96 } [.ref h0, .int 0, .int 0, .ref h1] D [(h0, .inr (5, [v0, .ref h2, v1, .ref h3, v2, v3, v4, v5, v6, v7])), (h1, .inl (a0, 1, .inr (.inl f0))), (h2, .inr (0, [v8, v9, .int 2, v10, v11, v12, v13])), (h3, .inr (1, [v14, .ref h5, .ref h7, .ref h4, v15, v16, .ref h8, v17, v18, v19, v20, v21, v22])), (h4, .inl (a1, 48, .inl f1)), (h5, .inl (a2, 48, .inr (.inr (.inr (.inr f2))))), (h6, .inr (4, [.ref h10, .int 0, .int 0])), (h7, .inl (a3, 48, .inr (.inl f3))), (h8, .inr (4, [.ref h9, .int 0, .int 0])), (h9, .inl (a4, 2, .inl f4)), (h10, .inl (a5, 2, .inl f5))] [(a0, .long), (a1, .int), (a2, .object "LiftingSignal$Whole"), (a3, .long), (a4, .int), (a5, .int)] XN [(h0, .inr (5, [v0, .ref h2, v1, .ref h3, v2, v3, v4, v5, v6, v7])), (h1, .inl (a0, 1, .inr (.inl f0))), (h2, .inr (0, [v8, v9, .int 2, v10, v11, v12, v13])), (h3, .inr (1, [v14, .ref h5, .ref h7, .ref h4, v15, v16, .ref h8, v17, v18, v19, v20, v21, v22])), (h4, .inl (a1, 48, .inl f1)), (h5, .inl (a2, 48, .inr (.inr (.inr (.inr f2))))), (h6, .inr (4, [.ref h10, .int 0, .int 0])), (h7, .inl (a3, 48, .inr (.inl f3))), (h8, .inr (4, [.ref h9, .int 0, .int 0])), (h9, .inl (a4, 2, .inl f4)), (h10, .inl (a5, 2, .inl f5))] (ei (fun _ : Unit => True) (fun u => 0) (fun _ => [(h0, .inr (5, [v0, .ref h2, v1, .ref h3, v2, v3, v4, v5, v6, v7])), (h1, .inl (a0, 1, .inr (.inl (vp_updL f0 0 0)))), (h2, .inr (0, [v8, v9, .int 2, v10, v11, v12, v13])), (h3, .inr (1, [v14, .ref h5, .ref h7, .ref h4, v15, v16, .ref h8, v17, v18, v19, v20, v21, v22])), (h4, .inl (a1, 48, .inl f1)), (h5, .inl (a2, 48, .inr (.inr (.inr (.inr f2))))), (h6, .inr (4, [.ref h10, .int 0, .int 0])), (h7, .inl (a3, 48, .inr (.inl f3))), (h8, .inr (4, [.ref h9, .int 0, .int 0])), (h9, .inl (a4, 2, .inl (upd (upd (upd (upd f4 0 0) 1 0) 0 0) 1 0))), (h10, .inl (a5, 2, .inl (upd (upd f5 0 0) 1 0)))]) (fun u => [(a0, .long), (a1, .int), (a2, .object "LiftingSignal$Whole"), (a3, .long), (a4, .int), (a5, .int)]) D) 0 0 := by
  refine CH.ofW (by decide +kernel) (Nat.le_of_ble_eq_true rfl) ?_
  intro p e s m below meth c A ls hcs htab hP hK hD hX hA hS hl
  obtain ⟨hx, hb, hr, hml, hown, hg, hlocks, hin⟩ := hcs
  have hown : s.vm.findClass RL = some m.cls := hown
  have hl : lv_has ls 5 [(0, .ref h0), (1, .int 0), (2, .int 0), (3, .ref h1)] := hl
  refine lv_aload_n hx hb dL_set_0 rfl (lv_at hl 3 rfl) ?_
  refine lv_iconst (v := 0) hx hb dL_set_1 (by decide) ?_
  refine lv_aload_n hx hb dL_set_2 rfl (lv_at hl 0 rfl) ?_
  refine lv_iload_n hx hb dL_set_3 rfl (lv_at hl 1 rfl) ?_
  refine lv_iload_n hx hb dL_set_4 rfl (lv_at hl 2 rfl) ?_
  refine cVl (n := 2) (As := [.int 0, .int 0]) (rest := [.int 0, .ref h1]) (wr := [(h1, .inl (a0, 1, .inr (.inl f0)))]) (tr := [(a0, .long)]) hx hb hml hown hg okN (cX5_set_450 l D h0 h2 h3 h4 h5 h6 h7 h8 h9 h10 v0 v1 v2 v3 v4 v5 v6 v7 v8 v9 v10 v11 v12 v13 v14 v15 v16 v17 v18 v19 v20 v21 v22 f1 f2 f3 f4 f5 a1 a2 a3 a4 a5 ef1_0 ef2_0 ef3_0 ef4_0 ef5_0) (mwV k985 k986 k987 k84 k988) ⟨rfl, by decide, by decide, by decide +kernel⟩ ⟨rfl, rfl, (Nat.le_of_ble_eq_true rfl), (Nat.le_of_ble_eq_true rfl)⟩ hP hD hK hS xn [0, 2, 3, 4, 5, 6, 7, 8, 9, 10] [0, 2, 3, 4, 5, 6, 7, 8, 9, 10] [1] [1, 2, 3, 4, 5] [0] rfl (by decide) rfl rfl (by decide) (by decide) rfl rfl (va_free hD hS hA [0, 2, 3, 4, 5, 6, 7, 8, 9, 10] rfl) (va_free hD hS hA [0, 2, 3, 4, 5, 6, 7, 8, 9, 10] rfl) 0 rfl rfl rfl hl.1 rfl (Nat.le_of_ble_eq_true rfl) dL_set_5 ⟨(Nat.le_of_ble_eq_true rfl), (Nat.le_of_ble_eq_true rfl)⟩ (fun u H locs hφ hP hD hK hS hk => ?_)
  have hP : va_P D vwCl [(h1, .inl (a0, 1, .inr (.inl f0))), (h0, .inr (5, [v0, .ref h2, v1, .ref h3, v2, v3, v4, v5, v6, v7])), (h2, .inr (0, [v8, v9, .int 2, v10, v11, v12, v13])), (h3, .inr (1, [v14, .ref h5, .ref h7, .ref h4, v15, v16, .ref h8, v17, v18, v19, v20, v21, v22])), (h4, .inl (a1, 48, .inl f1)), (h5, .inl (a2, 48, .inr (.inr (.inr (.inr f2))))), (h6, .inr (4, [.ref h10, .int 0, .int 0])), (h7, .inl (a3, 48, .inr (.inl f3))), (h8, .inr (4, [.ref h9, .int 0, .int 0])), (h9, .inl (a4, 2, .inl (upd (upd (upd (upd f4 0 0) 1 0) 0 0) 1 0))), (h10, .inl (a5, 2, .inl (upd (upd f5 0 0) 1 0)))] H := hP
  have hD : va_D A [(h1, .inl (a0, 1, .inr (.inl f0))), (h0, .inr (5, [v0, .ref h2, v1, .ref h3, v2, v3, v4, v5, v6, v7])), (h2, .inr (0, [v8, v9, .int 2, v10, v11, v12, v13])), (h3, .inr (1, [v14, .ref h5, .ref h7, .ref h4, v15, v16, .ref h8, v17, v18, v19, v20, v21, v22])), (h4, .inl (a1, 48, .inl f1)), (h5, .inl (a2, 48, .inr (.inr (.inr (.inr f2))))), (h6, .inr (4, [.ref h10, .int 0, .int 0])), (h7, .inl (a3, 48, .inr (.inl f3))), (h8, .inr (4, [.ref h9, .int 0, .int 0])), (h9, .inl (a4, 2, .inl (upd (upd (upd (upd f4 0 0) 1 0) 0 0) 1 0))), (h10, .inl (a5, 2, .inl (upd (upd f5 0 0) 1 0)))] := hD
  have hK : va_K D vwCl [(a0, .long), (a1, .int), (a2, .object "LiftingSignal$Whole"), (a3, .long), (a4, .int), (a5, .int)] s := hK
  refine W.widen (k := 0) (n := 0) (Nat.le_of_ble_eq_true rfl) (Nat.le_of_ble_eq_true rfl) ?_
  refine astL hx hb hK hP hD hS 0 0 rfl rfl 0 (by decide) (vin (by decide)) dL_set_8 (fun H locs hP hD hS => ?_)
  have hP : va_P D vwCl [(h1, .inl (a0, 1, .inr (.inl (vp_updL f0 0 0)))), (h0, .inr (5, [v0, .ref h2, v1, .ref h3, v2, v3, v4, v5, v6, v7])), (h2, .inr (0, [v8, v9, .int 2, v10, v11, v12, v13])), (h3, .inr (1, [v14, .ref h5, .ref h7, .ref h4, v15, v16, .ref h8, v17, v18, v19, v20, v21, v22])), (h4, .inl (a1, 48, .inl f1)), (h5, .inl (a2, 48, .inr (.inr (.inr (.inr f2))))), (h6, .inr (4, [.ref h10, .int 0, .int 0])), (h7, .inl (a3, 48, .inr (.inl f3))), (h8, .inr (4, [.ref h9, .int 0, .int 0])), (h9, .inl (a4, 2, .inl (upd (upd (upd (upd f4 0 0) 1 0) 0 0) 1 0))), (h10, .inl (a5, 2, .inl (upd (upd f5 0 0) 1 0)))] H := hP
  have hD : va_D A [(h1, .inl (a0, 1, .inr (.inl (vp_updL f0 0 0)))), (h0, .inr (5, [v0, .ref h2, v1, .ref h3, v2, v3, v4, v5, v6, v7])), (h2, .inr (0, [v8, v9, .int 2, v10, v11, v12, v13])), (h3, .inr (1, [v14, .ref h5, .ref h7, .ref h4, v15, v16, .ref h8, v17, v18, v19, v20, v21, v22])), (h4, .inl (a1, 48, .inl f1)), (h5, .inl (a2, 48, .inr (.inr (.inr (.inr f2))))), (h6, .inr (4, [.ref h10, .int 0, .int 0])), (h7, .inl (a3, 48, .inr (.inl f3))), (h8, .inr (4, [.ref h9, .int 0, .int 0])), (h9, .inl (a4, 2, .inl (upd (upd (upd (upd f4 0 0) 1 0) 0 0) 1 0))), (h10, .inl (a5, 2, .inl (upd (upd f5 0 0) 1 0)))] := hD
  refine lv_goto (tgt := 24) hx hb dL_set_9 (by decide) ?_
  refine lv_iconst (v := 0) hx hb dL_set_24 (by decide) ?_
  exact fi hx hb hr hlocks hP hD hK hS (()) trivial rfl [1, 0, 2, 3, 4, 5, 6, 7, 8, 9, 10] [0, 1, 2, 3, 4, 5] rfl (by decide) rfl (Nat.le_of_ble_eq_true rfl) (Nat.le_of_ble_eq_true rfl) dL_set_25
set_option maxHeartbeats 4000000 in
set_option maxRecDepth 100000 in
theorem cX4_become_697 (l : Launch) (D : va_G) (h0 : Nat) (x0 : Int32) (h1 : Nat) (v0 : Value) (v1 : Value) (f0 : Nat → Int32) (a0 : ClassId)  (d0 : 0 ≤ (lg_cmp x0.toInt64 0)) (d1 : ush32 x0.toInt64 = 0) (d2 : ¬ ((x0.toInt64.toInt32) = 0)) : CT l yX4_become cX4_become 5 none { frames := 0, cells := 0, slots := 0, locals := 0 } [.ref h0, .long x0.toInt64] D [(h0, .inr (4, [.ref h1, v0, v1])), (h1, .inl (a0, 2, .inl f0))] [(a0, .int)] XN [(h0, .inr (4, [.ref h1, v0, v1])), (h1, .inl (a0, 2, .inl f0))] (ev (fun _ : Unit => True) (fun _ => [(h0, .inr (4, [.ref h1, .int 1, .int 0])), (h1, .inl (a0, 2, .inl (upd (upd f0 0 (x0.toInt64.toInt32)) 1 0)))]) (fun u => [(a0, .int)]) D) 0 0 := by
  refine CT.ofW (by decide +kernel) (Nat.le_of_ble_eq_true rfl) ?_
  intro p e s m below meth c A ls hcs hP hK hD hX hA hS hl
  obtain ⟨hx, hb, hr, hml, hown, hg, hlocks, hin⟩ := hcs
  have hown : s.vm.findClass RX4 = some m.cls := hown
  have hl : lv_has ls 5 [(0, .ref h0), (1, .long x0.toInt64)] := hl
  refine lv_aload_n hx hb dX4_become_0 rfl (lv_at hl 0 rfl) ?_
  refine lv_lload_n hx hb dX4_become_1 rfl (lv_at hl 1 rfl) ?_
  refine lv_lconst (v := 0) hx hb dX4_become_2 (by decide) ?_
  refine W.lcmp hx hb dX4_become_3 ?_
  refine lv_if_ge (tgt := 11) hx hb dX4_become_4 (by decide) (fun _ => ?_) (fun c9 => absurd d0 c9)
  refine lv_iconst (v := 0) hx hb dX4_become_11 (by decide) ?_
  refine va_put (D := D) (ci := 4) (v := .int 0) (ty := .boolean) (C := RX4) (T := TX4) (N := 3) hx hb hg inX4 tyX4 tyX4_ok nmX4 hown hK hP hD hS 0 rfl rfl 2 (by decide) (hg _ k211) (fun _ h9 => h9) rfl (by decide +kernel) rfl rfl (Nat.le_of_ble_eq_true rfl) dX4_become_12 (fun H locs hP hD hS => ?_)
  have hP : va_P D vwCl [(h0, .inr (4, [.ref h1, v0, .int 0])), (h1, .inl (a0, 2, .inl f0))] H := hP
  have hD : va_D A [(h0, .inr (4, [.ref h1, v0, .int 0])), (h1, .inl (a0, 2, .inl f0))] := hD
  refine lv_aload_n hx hb dX4_become_15 rfl (lv_at hl 0 rfl) ?_
  refine va_get (D := D) (ci := 4) (v := .int 0) (C := RX4) (T := TX4) (N := 3) hx hb hg inX4 hown hK hP 0 rfl rfl 2 (by decide) (hg _ k211) (fun _ h9 => h9) rfl dX4_become_16 ?_
  refine lv_if_eq (tgt := 27) hx hb dX4_become_19 (by decide) (fun _ => ?_) (fun c9 => absurd (by decide) c9)
  refine lv_lload_n hx hb dX4_become_27 rfl (lv_at hl 1 rfl) ?_
  refine lv_lstore_n (lv' := [(3, .long x0.toInt64), (0, .ref h0), (1, .long x0.toInt64)]) hx hb dX4_become_28 rfl hl (by decide) rfl (fun ls hl => ?_)
  refine lv_aload_n hx hb dX4_become_29 rfl (lv_at hl 1 rfl) ?_
  refine va_get (D := D) (ci := 4) (v := .ref h1) (C := RX4) (T := TX4) (N := 3) hx hb hg inX4 hown hK hP 0 rfl rfl 0 (by decide) (hg _ k209) (fun _ h9 => h9) rfl dX4_become_30 ?_
  refine lv_iconst (v := 0) hx hb dX4_become_33 (by decide) ?_
  refine lv_lload_n hx hb dX4_become_34 rfl (lv_at hl 0 rfl) ?_
  refine lv_l2i (v := (x0.toInt64.toInt32)) hx hb dX4_become_35 rfl ?_
  refine astI hx hb hK hP hD hS 1 0 rfl rfl 0 (by decide) (vin (by decide)) dX4_become_36 (fun H locs hP hD hS => ?_)
  have hP : va_P D vwCl [(h0, .inr (4, [.ref h1, v0, .int 0])), (h1, .inl (a0, 2, .inl (upd f0 0 (x0.toInt64.toInt32))))] H := hP
  have hD : va_D A [(h0, .inr (4, [.ref h1, v0, .int 0])), (h1, .inl (a0, 2, .inl (upd f0 0 (x0.toInt64.toInt32))))] := hD
  refine lv_aload_n hx hb dX4_become_37 rfl (lv_at hl 1 rfl) ?_
  refine va_get (D := D) (ci := 4) (v := .ref h1) (C := RX4) (T := TX4) (N := 3) hx hb hg inX4 hown hK hP 0 rfl rfl 0 (by decide) (hg _ k209) (fun _ h9 => h9) rfl dX4_become_38 ?_
  refine lv_iconst (v := 1) hx hb dX4_become_41 (by decide) ?_
  refine lv_lload_n hx hb dX4_become_42 rfl (lv_at hl 0 rfl) ?_
  refine lv_bipush (v := 32) hx hb dX4_become_43 (by decide) ?_
  refine lv_lushr (v := 0) hx hb dX4_become_45 d1 ?_
  refine lv_l2i (v := 0) hx hb dX4_become_46 (by decide) ?_
  refine astI hx hb hK hP hD hS 1 0 rfl rfl 1 (by decide) (vin (by decide)) dX4_become_47 (fun H locs hP hD hS => ?_)
  have hP : va_P D vwCl [(h0, .inr (4, [.ref h1, v0, .int 0])), (h1, .inl (a0, 2, .inl (upd (upd f0 0 (x0.toInt64.toInt32)) 1 0)))] H := hP
  have hD : va_D A [(h0, .inr (4, [.ref h1, v0, .int 0])), (h1, .inl (a0, 2, .inl (upd (upd f0 0 (x0.toInt64.toInt32)) 1 0)))] := hD
  refine lv_aload_n hx hb dX4_become_48 rfl (lv_at hl 1 rfl) ?_
  refine lv_aload_n hx hb dX4_become_49 rfl (lv_at hl 1 rfl) ?_
  refine va_get (D := D) (ci := 4) (v := .ref h1) (C := RX4) (T := TX4) (N := 3) hx hb hg inX4 hown hK hP 0 rfl rfl 0 (by decide) (hg _ k209) (fun _ h9 => h9) rfl dX4_become_50 ?_
  refine lv_iconst (v := 1) hx hb dX4_become_53 (by decide) ?_
  refine aldI hx hb hK hP 1 0 rfl rfl 1 (by decide) (vin (by decide)) (v := 0) rfl dX4_become_54 ?_
  refine lv_if_eq (tgt := 62) hx hb dX4_become_55 (by decide) (fun _ => ?_) (fun c9 => absurd (by decide) c9)
  refine lv_aload_n hx hb dX4_become_62 rfl (lv_at hl 1 rfl) ?_
  refine va_get (D := D) (ci := 4) (v := .ref h1) (C := RX4) (T := TX4) (N := 3) hx hb hg inX4 hown hK hP 0 rfl rfl 0 (by decide) (hg _ k209) (fun _ h9 => h9) rfl dX4_become_63 ?_
  refine lv_iconst (v := 0) hx hb dX4_become_66 (by decide) ?_
  refine aldI hx hb hK hP 1 0 rfl rfl 0 (by decide) (vin (by decide)) (v := (x0.toInt64.toInt32)) rfl dX4_become_67 ?_
  refine lv_if_eq (tgt := 75) hx hb dX4_become_68 (by decide) (fun c9 => absurd c9 d2) (fun _ => ?_)
  refine lv_iconst (v := 1) hx hb dX4_become_71 (by decide) ?_
  refine lv_goto (tgt := 76) hx hb dX4_become_72 (by decide) ?_
  refine va_put (D := D) (ci := 4) (v := .int 1) (ty := .int) (C := RX4) (T := TX4) (N := 3) hx hb hg inX4 tyX4 tyX4_ok nmX4 hown hK hP hD hS 0 rfl rfl 1 (by decide) (hg _ k210) (fun _ h9 => h9) rfl (by decide +kernel) rfl rfl (Nat.le_of_ble_eq_true rfl) dX4_become_76 (fun H locs hP hD hS => ?_)
  have hP : va_P D vwCl [(h0, .inr (4, [.ref h1, .int 1, .int 0])), (h1, .inl (a0, 2, .inl (upd (upd f0 0 (x0.toInt64.toInt32)) 1 0)))] H := hP
  have hD : va_D A [(h0, .inr (4, [.ref h1, .int 1, .int 0])), (h1, .inl (a0, 2, .inl (upd (upd f0 0 (x0.toInt64.toInt32)) 1 0)))] := hD
  exact fv hx hb hr hlocks hP hD hK hS (()) trivial [0, 1] [0] rfl (by decide) rfl (Nat.le_of_ble_eq_true rfl) (Nat.le_of_ble_eq_true rfl) dX4_become_79
set_option maxHeartbeats 4000000 in
set_option maxRecDepth 100000 in
theorem cX4_lowest_699 (l : Launch) (D : va_G) (h0 : Nat) (h1 : Nat) (v0 : Value) (f0 : Nat → Int32) (x0 : Int32) (a0 : ClassId) (ef0_0 : f0 0 = x0) (d0 : x0.toInt64 &&& 4294967295 = x0.toInt64) : CT l yX4_lowest cX4_lowest 1 (some .long) { frames := 0, cells := 0, slots := 0, locals := 0 } [.ref h0] D [(h0, .inr (4, [.ref h1, v0, .int 0])), (h1, .inl (a0, 2, .inl f0))] [(a0, .int)] XN [] (el (fun _ : Unit => True) (fun _ => x0.toInt64) (fun _ => []) (fun _ => []) D) 0 0 := by
  refine CT.ofR (by decide +kernel) (Nat.le_of_ble_eq_true rfl) ?_
  intro p e s m below meth c A ls hcs hP hK hD hX hA hS hl
  obtain ⟨hx, hb, hr, hml, hown, hg, hlocks, hin⟩ := hcs
  have hown : s.vm.findClass RX4 = some m.cls := hown
  have hl : lv_has ls 1 [(0, .ref h0)] := hl
  refine lv_aload_n hx hb dX4_lowest_0 rfl (lv_at hl 0 rfl) ?_
  refine va_get (D := D) (ci := 4) (v := .int 0) (C := RX4) (T := TX4) (N := 3) hx hb hg inX4 hown hK hP 0 rfl rfl 2 (by decide) (hg _ k211) (fun _ h9 => h9) rfl dX4_lowest_1 ?_
  refine lv_if_eq (tgt := 22) hx hb dX4_lowest_4 (by decide) (fun _ => ?_) (fun c9 => absurd (by decide) c9)
  refine lv_aload_n hx hb dX4_lowest_22 rfl (lv_at hl 0 rfl) ?_
  refine va_get (D := D) (ci := 4) (v := .ref h1) (C := RX4) (T := TX4) (N := 3) hx hb hg inX4 hown hK hP 0 rfl rfl 0 (by decide) (hg _ k209) (fun _ h9 => h9) rfl dX4_lowest_23 ?_
  refine lv_iconst (v := 0) hx hb dX4_lowest_26 (by decide) ?_
  refine aldI hx hb hK hP 1 0 rfl rfl 0 (by decide) (vin (by decide)) (v := x0) ef0_0 dX4_lowest_27 ?_
  refine lv_i2l (v := x0.toInt64) hx hb dX4_lowest_28 rfl ?_
  refine lv_ldc2 hx hb hown (hg _ k348) dX4_lowest_29 ?_
  refine lv_land hx hb dX4_lowest_32 ?_
  refine tl (x0.toInt64) (d0) ?_
  exact fl0 hx hb hr hlocks hK hS (Nat.le_of_ble_eq_true rfl) (Nat.le_of_ble_eq_true rfl) dX4_lowest_33
set_option maxHeartbeats 4000000 in
set_option maxRecDepth 100000 in
theorem cX4_add_698 (l : Launch) (D : va_G) (h0 : Nat) (h1 : Nat) (h2 : Nat) (h3 : Nat) (f0 : Nat → Int32) (f1 : Nat → Int32) (z0 : Int32) (a0 : ClassId) (a1 : ClassId) (ef0_0 : f0 0 = 0) (ef1_0 : f1 0 = z0) (d0 : z0.toInt64 &&& 4294967295 = z0.toInt64) (d1 : 0 ≤ (lg_cmp z0.toInt64 0)) (d2 : ush32 z0.toInt64 = 0) (d3 : ¬ ((z0.toInt64.toInt32) = 0)) : CT l yX4_add cX4_add 7 none { frames := 1, cells := 0, slots := 0, locals := 24 } [.ref h0, .ref h1, .long 1] D [(h0, .inr (4, [.ref h2, .int 0, .int 0])), (h1, .inr (4, [.ref h3, .int 1, .int 0])), (h2, .inl (a0, 2, .inl f0)), (h3, .inl (a1, 2, .inl f1))] [(a0, .int), (a1, .int)] XN [(h0, .inr (4, [.ref h2, .int 0, .int 0])), (h1, .inr (4, [.ref h3, .int 1, .int 0])), (h2, .inl (a0, 2, .inl f0)), (h3, .inl (a1, 2, .inl f1))] (ev (fun _ : Unit => True) (fun _ => [(h0, .inr (4, [.ref h2, .int 1, .int 0])), (h1, .inr (4, [.ref h3, .int 1, .int 0])), (h2, .inl (a0, 2, .inl (upd (upd f0 0 (z0.toInt64.toInt32)) 1 0))), (h3, .inl (a1, 2, .inl f1))]) (fun u => [(a0, .int), (a1, .int)]) D) 0 0 := by
  refine CT.ofW (by decide +kernel) (Nat.le_of_ble_eq_true rfl) ?_
  intro p e s m below meth c A ls hcs hP hK hD hX hA hS hl
  obtain ⟨hx, hb, hr, hml, hown, hg, hlocks, hin⟩ := hcs
  have hown : s.vm.findClass RX4 = some m.cls := hown
  have hl : lv_has ls 7 [(0, .ref h0), (1, .ref h1), (2, .long 1)] := hl
  refine lv_aload_n hx hb dX4_add_0 rfl (lv_at hl 0 rfl) ?_
  refine va_get (D := D) (ci := 4) (v := .int 0) (C := RX4) (T := TX4) (N := 3) hx hb hg inX4 hown hK hP 0 rfl rfl 1 (by decide) (hg _ k210) (fun _ h9 => h9) rfl dX4_add_1 ?_
  refine lv_iconst (v := 1) hx hb dX4_add_4 (by decide) ?_
  refine lv_icmp_gt (tgt := 32) hx hb dX4_add_5 (by decide) (fun c9 => absurd c9 (by decide)) (fun _ => ?_)
  refine lv_aload_n hx hb dX4_add_8 rfl (lv_at hl 1 rfl) ?_
  refine va_get (D := D) (ci := 4) (v := .int 1) (C := RX4) (T := TX4) (N := 3) hx hb hg inX4 hown hK hP 1 rfl rfl 1 (by decide) (hg _ k210) (fun _ h9 => h9) rfl dX4_add_9 ?_
  refine lv_iconst (v := 1) hx hb dX4_add_12 (by decide) ?_
  refine lv_icmp_gt (tgt := 32) hx hb dX4_add_13 (by decide) (fun c9 => absurd c9 (by decide)) (fun _ => ?_)
  refine lv_aload_n hx hb dX4_add_16 rfl (lv_at hl 0 rfl) ?_
  refine lv_aload_n hx hb dX4_add_17 rfl (lv_at hl 0 rfl) ?_
  refine cVl (n := 0) (As := []) (rest := [.ref h0]) (wr := [(h0, .inr (4, [.ref h2, .int 0, .int 0])), (h1, .inr (4, [.ref h3, .int 1, .int 0])), (h2, .inl (a0, 2, .inl f0)), (h3, .inl (a1, 2, .inl f1))]) (tr := [(a0, .int), (a1, .int)]) hx hb hml hown hg okN (cX4_lowest_681 l D h0 h2 (.int 0) f0 a0 ef0_0) (mwV k344 k346 k0 k88 k347) ⟨rfl, by decide, by decide, by decide +kernel⟩ ⟨rfl, rfl, (Nat.le_of_ble_eq_true rfl), (Nat.le_of_ble_eq_true rfl)⟩ hP hD hK hS xn [0, 2] [] [0, 1, 2, 3] [0] [0, 1] rfl (by decide) rfl rfl (by decide) (by decide) rfl rfl (aNil hA hS) (aNil hA hS) 0 rfl rfl rfl hl.1 rfl (Nat.le_of_ble_eq_true rfl) dX4_add_18 ⟨(Nat.le_of_ble_eq_true rfl), (Nat.le_of_ble_eq_true rfl)⟩ (fun u H locs hφ hP hD hK hS hk => ?_)
  have hP : va_P D vwCl [(h0, .inr (4, [.ref h2, .int 0, .int 0])), (h1, .inr (4, [.ref h3, .int 1, .int 0])), (h2, .inl (a0, 2, .inl f0)), (h3, .inl (a1, 2, .inl f1))] H := hP
  have hD : va_D A [(h0, .inr (4, [.ref h2, .int 0, .int 0])), (h1, .inr (4, [.ref h3, .int 1, .int 0])), (h2, .inl (a0, 2, .inl f0)), (h3, .inl (a1, 2, .inl f1))] := hD
  have hK : va_K D vwCl [(a0, .int), (a1, .int)] s := hK
  refine W.widen (k := 0) (n := 0) (Nat.le_of_ble_eq_true rfl) (Nat.le_of_ble_eq_true rfl) ?_
  refine lv_aload_n hx hb dX4_add_21 rfl (lv_at hl 1 rfl) ?_
  refine cVl (n := 0) (As := []) (rest := [.long 0, .ref h0]) (wr := [(h0, .inr (4, [.ref h2, .int 0, .int 0])), (h1, .inr (4, [.ref h3, .int 1, .int 0])), (h2, .inl (a0, 2, .inl f0)), (h3, .inl (a1, 2, .inl f1))]) (tr := [(a0, .int), (a1, .int)]) hx hb hml hown hg okN (cX4_lowest_699 l D h1 h3 (.int 1) f1 z0 a1 ef1_0 d0) (mwV k344 k346 k0 k88 k347) ⟨rfl, by decide, by decide, by decide +kernel⟩ ⟨rfl, rfl, (Nat.le_of_ble_eq_true rfl), (Nat.le_of_ble_eq_true rfl)⟩ hP hD hK hS xn [1, 3] [] [0, 1, 2, 3] [1] [0, 1] rfl (by decide) rfl rfl (by decide) (by decide) rfl rfl (aNil hA hS) (aNil hA hS) 1 rfl rfl rfl hl.1 rfl (Nat.le_of_ble_eq_true rfl) dX4_add_22 ⟨(Nat.le_of_ble_eq_true rfl), (Nat.le_of_ble_eq_true rfl)⟩ (fun u H locs hφ hP hD hK hS hk => ?_)
  have hP : va_P D vwCl [(h0, .inr (4, [.ref h2, .int 0, .int 0])), (h1, .inr (4, [.ref h3, .int 1, .int 0])), (h2, .inl (a0, 2, .inl f0)), (h3, .inl (a1, 2, .inl f1))] H := hP
  have hD : va_D A [(h0, .inr (4, [.ref h2, .int 0, .int 0])), (h1, .inr (4, [.ref h3, .int 1, .int 0])), (h2, .inl (a0, 2, .inl f0)), (h3, .inl (a1, 2, .inl f1))] := hD
  have hK : va_K D vwCl [(a0, .int), (a1, .int)] s := hK
  refine W.widen (k := 0) (n := 0) (Nat.le_of_ble_eq_true rfl) (Nat.le_of_ble_eq_true rfl) ?_
  refine lv_lload_n hx hb dX4_add_25 rfl (lv_at hl 2 rfl) ?_
  refine lv_lmul hx hb dX4_add_26 ?_
  refine tl (z0.toInt64) (Int64.mul_one _) ?_
  refine lv_ladd hx hb dX4_add_27 ?_
  refine tl (z0.toInt64) (Int64.zero_add _) ?_
  refine cVv (n := 1) (As := [.long z0.toInt64]) (rest := []) (wr := [(h1, .inr (4, [.ref h3, .int 1, .int 0])), (h3, .inl (a1, 2, .inl f1))]) (tr := [(a1, .int)]) hx hb hml hown hg okN (cX4_become_697 l D h0 z0 h2 (.int 0) (.int 0) f0 a0 d1 d2 d3) (mwV k349 k275 k276 k88 k277) ⟨rfl, by decide, by decide, by decide +kernel⟩ ⟨rfl, rfl, (Nat.le_of_ble_eq_true rfl), (Nat.le_of_ble_eq_true rfl)⟩ hP hD hK hS xn [0, 2] [0, 2] [1, 3] [0] [1] rfl (by decide) rfl rfl (by decide) (by decide) rfl rfl (va_free hD hS hA [0, 2] rfl) (va_free hD hS hA [0, 2] rfl) 0 rfl rfl rfl hl.1 rfl (Nat.le_of_ble_eq_true rfl) dX4_add_28 ⟨(Nat.le_of_ble_eq_true rfl), (Nat.le_of_ble_eq_true rfl)⟩ (fun u H locs hφ hP hD hK hS hk => ?_)
  have hP : va_P D vwCl [(h1, .inr (4, [.ref h3, .int 1, .int 0])), (h3, .inl (a1, 2, .inl f1)), (h0, .inr (4, [.ref h2, .int 1, .int 0])), (h2, .inl (a0, 2, .inl (upd (upd f0 0 (z0.toInt64.toInt32)) 1 0)))] H := hP
  have hD : va_D A [(h1, .inr (4, [.ref h3, .int 1, .int 0])), (h3, .inl (a1, 2, .inl f1)), (h0, .inr (4, [.ref h2, .int 1, .int 0])), (h2, .inl (a0, 2, .inl (upd (upd f0 0 (z0.toInt64.toInt32)) 1 0)))] := hD
  have hK : va_K D vwCl [(a1, .int), (a0, .int)] s := hK
  refine W.widen (k := 0) (n := 0) (Nat.le_of_ble_eq_true rfl) (Nat.le_of_ble_eq_true rfl) ?_
  exact fv hx hb hr hlocks hP hD hK hS (()) trivial [2, 0, 3, 1] [1, 0] rfl (by decide) rfl (Nat.le_of_ble_eq_true rfl) (Nat.le_of_ble_eq_true rfl) dX4_add_31
set_option maxHeartbeats 4000000 in
set_option maxRecDepth 100000 in
theorem cX1_changeValue_696 (l : Launch) (D : va_G) (h0 : Nat) (x0 : Int32) (h1 : Nat) (h2 : Nat) (h3 : Nat) (h4 : Nat) (h5 : Nat) (h6 : Nat) (v0 : Value) (v1 : Value) (v2 : Value) (v3 : Value) (v4 : Value) (v5 : Value) (v6 : Value) (v7 : Value) (v8 : Value) (v9 : Value) (f0 : Nat → Option Nat) (f1 : Nat → Int64) (f2 : Nat → Int32) (f3 : Nat → Int32) (a0 : ClassId) (a1 : ClassId) (a2 : ClassId) (a3 : ClassId) (ef0_0 : f0 0 = some h4) (ef1_0 : f1 0 = 1) (ef2_0 : f2 0 = 0) (ef3_0 : f3 0 = 0) (d0 : 0 ≤ (lg_cmp x0.toInt64 0)) (d1 : ush32 x0.toInt64 = 0) (d2 : ¬ ((x0.toInt64.toInt32) = 0)) (d3 : ((x0.toInt64.toInt32).toInt64) &&& 4294967295 = ((x0.toInt64.toInt32).toInt64)) (d4 : 0 ≤ (lg_cmp ((x0.toInt64.toInt32).toInt64) 0)) (d5 : ush32 ((x0.toInt64.toInt32).toInt64) = 0) (d6 : ¬ ((((x0.toInt64.toInt32).toInt64).toInt32) = 0)) : CT l yX1_changeValue cX1_changeValue 3 none { frames := 2, cells := 0, slots := 0, locals := 50 } [.ref h0, .int 0, .int x0] D [(h0, .inr (1, [v0, .ref h1, .ref h2, v1, v2, v3, .ref h3, v4, v5, v6, v7, v8, v9])), (h1, .inl (a0, 48, .inr (.inr (.inr (.inr f0))))), (h2, .inl (a1, 48, .inr (.inl f1))), (h3, .inr (4, [.ref h5, .int 0, .int 0])), (h4, .inr (4, [.ref h6, .int 0, .int 0])), (h5, .inl (a2, 2, .inl f2)), (h6, .inl (a3, 2, .inl f3))] [(a0, .object "LiftingSignal$Whole"), (a1, .long), (a2, .int), (a3, .int)] XN [(h0, .inr (1, [v0, .ref h1, .ref h2, v1, v2, v3, .ref h3, v4, v5, v6, v7, v8, v9])), (h1, .inl (a0, 48, .inr (.inr (.inr (.inr f0))))), (h2, .inl (a1, 48, .inr (.inl f1))), (h3, .inr (4, [.ref h5, .int 0, .int 0])), (h4, .inr (4, [.ref h6, .int 0, .int 0])), (h5, .inl (a2, 2, .inl f2)), (h6, .inl (a3, 2, .inl f3))] (ev (fun _ : Unit => True) (fun _ => [(h0, .inr (1, [v0, .ref h1, .ref h2, v1, v2, v3, .ref h3, v4, v5, v6, v7, v8, v9])), (h1, .inl (a0, 48, .inr (.inr (.inr (.inr f0))))), (h2, .inl (a1, 48, .inr (.inl f1))), (h3, .inr (4, [.ref h5, .int 1, .int 0])), (h4, .inr (4, [.ref h6, .int 1, .int 0])), (h5, .inl (a2, 2, .inl (upd (upd (upd (upd f2 0 0) 1 0) 0 (((x0.toInt64.toInt32).toInt64).toInt32)) 1 0))), (h6, .inl (a3, 2, .inl (upd (upd f3 0 (x0.toInt64.toInt32)) 1 0)))]) (fun u => [(a0, .object "LiftingSignal$Whole"), (a1, .long), (a2, .int), (a3, .int)]) D) 0 0 := by
  refine CT.ofW (by decide +kernel) (Nat.le_of_ble_eq_true rfl) ?_
  intro p e s m below meth c A ls hcs hP hK hD hX hA hS hl
  obtain ⟨hx, hb, hr, hml, hown, hg, hlocks, hin⟩ := hcs
  have hown : s.vm.findClass RX1 = some m.cls := hown
  have hl : lv_has ls 3 [(0, .ref h0), (1, .int 0), (2, .int x0)] := hl
  refine lv_aload_n hx hb dX1_changeValue_0 rfl (lv_at hl 0 rfl) ?_
  refine va_get (D := D) (ci := 1) (v := .ref h3) (C := RX1) (T := TX1) (N := 13) hx hb hg inX1 hown hK hP 0 rfl rfl 6 (by decide) (hg _ k289) (fun _ h9 => h9) rfl dX1_changeValue_1 ?_
  refine lv_aload_n hx hb dX1_changeValue_4 rfl (lv_at hl 0 rfl) ?_
  refine va_get (D := D) (ci := 1) (v := .ref h1) (C := RX1) (T := TX1) (N := 13) hx hb hg inX1 hown hK hP 0 rfl rfl 1 (by decide) (hg _ k279) (fun _ h9 => h9) rfl dX1_changeValue_5 ?_
  refine lv_iload_n hx hb dX1_changeValue_8 rfl (lv_at hl 1 rfl) ?_
  refine aldQ hx hb hK hP 1 0 rfl rfl 0 (by decide) (vin (by decide)) (v := h4) ef0_0 dX1_changeValue_9 ?_
  refine lv_aload_n hx hb dX1_changeValue_10 rfl (lv_at hl 0 rfl) ?_
  refine va_get (D := D) (ci := 1) (v := .ref h2) (C := RX1) (T := TX1) (N := 13) hx hb hg inX1 hown hK hP 0 rfl rfl 2 (by decide) (hg _ k281) (fun _ h9 => h9) rfl dX1_changeValue_11 ?_
  refine lv_iload_n hx hb dX1_changeValue_14 rfl (lv_at hl 1 rfl) ?_
  refine aldL hx hb hK hP 2 1 rfl rfl 0 (by decide) (vin (by decide)) (v := 1) ef1_0 dX1_changeValue_15 ?_
  refine lv_lneg hx hb dX1_changeValue_16 ?_
  refine tl ((-1)) (by decide) ?_
  refine cVv (n := 2) (As := [.ref h4, .long (-1)]) (rest := []) (wr := [(h0, .inr (1, [v0, .ref h1, .ref h2, v1, v2, v3, .ref h3, v4, v5, v6, v7, v8, v9])), (h1, .inl (a0, 48, .inr (.inr (.inr (.inr f0))))), (h2, .inl (a1, 48, .inr (.inl f1)))]) (tr := [(a0, .object "LiftingSignal$Whole"), (a1, .long)]) hx hb hml hown hg okN (cX4_add_680 l D h3 h4 h5 h6 f2 f3 a2 a3 ef2_0 ef3_0) (mwV k340 k341 k342 k88 k343) ⟨rfl, by decide, by decide, by decide +kernel⟩ ⟨rfl, rfl, (Nat.le_of_ble_eq_true rfl), (Nat.le_of_ble_eq_true rfl)⟩ hP hD hK hS xn [3, 4, 5, 6] [3, 4, 5, 6] [0, 1, 2] [2, 3] [0, 1] rfl (by decide) rfl rfl (by decide) (by decide) rfl rfl (va_free hD hS hA [3, 4, 5, 6] rfl) (va_free hD hS hA [3, 4, 5, 6] rfl) 3 rfl rfl rfl hl.1 rfl (Nat.le_of_ble_eq_true rfl) dX1_changeValue_17 ⟨(Nat.le_of_ble_eq_true rfl), (Nat.le_of_ble_eq_true rfl)⟩ (fun u H locs hφ hP hD hK hS hk => ?_)
  have hP : va_P D vwCl [(h0, .inr (1, [v0, .ref h1, .ref h2, v1, v2, v3, .ref h3, v4, v5, v6, v7, v8, v9])), (h1, .inl (a0, 48, .inr (.inr (.inr (.inr f0))))), (h2, .inl (a1, 48, .inr (.inl f1))), (h3, .inr (4, [.ref h5, .int 0, .int 0])), (h4, .inr (4, [.ref h6, .int 0, .int 0])), (h5, .inl (a2, 2, .inl (upd (upd f2 0 0) 1 0))), (h6, .inl (a3, 2, .inl f3))] H := hP
  have hD : va_D A [(h0, .inr (1, [v0, .ref h1, .ref h2, v1, v2, v3, .ref h3, v4, v5, v6, v7, v8, v9])), (h1, .inl (a0, 48, .inr (.inr (.inr (.inr f0))))), (h2, .inl (a1, 48, .inr (.inl f1))), (h3, .inr (4, [.ref h5, .int 0, .int 0])), (h4, .inr (4, [.ref h6, .int 0, .int 0])), (h5, .inl (a2, 2, .inl (upd (upd f2 0 0) 1 0))), (h6, .inl (a3, 2, .inl f3))] := hD
  have hK : va_K D vwCl [(a0, .object "LiftingSignal$Whole"), (a1, .long), (a2, .int), (a3, .int)] s := hK
  refine W.widen (k := 0) (n := 0) (Nat.le_of_ble_eq_true rfl) (Nat.le_of_ble_eq_true rfl) ?_
  refine lv_aload_n hx hb dX1_changeValue_20 rfl (lv_at hl 0 rfl) ?_
  refine va_get (D := D) (ci := 1) (v := .ref h1) (C := RX1) (T := TX1) (N := 13) hx hb hg inX1 hown hK hP 0 rfl rfl 1 (by decide) (hg _ k279) (fun _ h9 => h9) rfl dX1_changeValue_21 ?_
  refine lv_iload_n hx hb dX1_changeValue_24 rfl (lv_at hl 1 rfl) ?_
  refine aldQ hx hb hK hP 1 0 rfl rfl 0 (by decide) (vin (by decide)) (v := h4) ef0_0 dX1_changeValue_25 ?_
  refine lv_iload_n hx hb dX1_changeValue_26 rfl (lv_at hl 2 rfl) ?_
  refine lv_i2l (v := x0.toInt64) hx hb dX1_changeValue_27 rfl ?_
  refine cVv (n := 1) (As := [.long x0.toInt64]) (rest := []) (wr := [(h0, .inr (1, [v0, .ref h1, .ref h2, v1, v2, v3, .ref h3, v4, v5, v6, v7, v8, v9])), (h1, .inl (a0, 48, .inr (.inr (.inr (.inr f0))))), (h2, .inl (a1, 48, .inr (.inl f1))), (h3, .inr (4, [.ref h5, .int 0, .int 0])), (h5, .inl (a2, 2, .inl (upd (upd f2 0 0) 1 0)))]) (tr := [(a0, .object "LiftingSignal$Whole"), (a1, .long), (a2, .int)]) hx hb hml hown hg okN (cX4_become_697 l D h4 x0 h6 (.int 0) (.int 0) f3 a3 d0 d1 d2) (mwV k274 k275 k276 k88 k277) ⟨rfl, by decide, by decide, by decide +kernel⟩ ⟨rfl, rfl, (Nat.le_of_ble_eq_true rfl), (Nat.le_of_ble_eq_true rfl)⟩ hP hD hK hS xn [4, 6] [4, 6] [0, 1, 2, 3, 5] [3] [0, 1, 2] rfl (by decide) rfl rfl (by decide) (by decide) rfl rfl (va_free hD hS hA [4, 6] rfl) (va_free hD hS hA [4, 6] rfl) 4 rfl rfl rfl hl.1 rfl (Nat.le_of_ble_eq_true rfl) dX1_changeValue_28 ⟨(Nat.le_of_ble_eq_true rfl), (Nat.le_of_ble_eq_true rfl)⟩ (fun u H locs hφ hP hD hK hS hk => ?_)
  have hP : va_P D vwCl [(h0, .inr (1, [v0, .ref h1, .ref h2, v1, v2, v3, .ref h3, v4, v5, v6, v7, v8, v9])), (h1, .inl (a0, 48, .inr (.inr (.inr (.inr f0))))), (h2, .inl (a1, 48, .inr (.inl f1))), (h3, .inr (4, [.ref h5, .int 0, .int 0])), (h5, .inl (a2, 2, .inl (upd (upd f2 0 0) 1 0))), (h4, .inr (4, [.ref h6, .int 1, .int 0])), (h6, .inl (a3, 2, .inl (upd (upd f3 0 (x0.toInt64.toInt32)) 1 0)))] H := hP
  have hD : va_D A [(h0, .inr (1, [v0, .ref h1, .ref h2, v1, v2, v3, .ref h3, v4, v5, v6, v7, v8, v9])), (h1, .inl (a0, 48, .inr (.inr (.inr (.inr f0))))), (h2, .inl (a1, 48, .inr (.inl f1))), (h3, .inr (4, [.ref h5, .int 0, .int 0])), (h5, .inl (a2, 2, .inl (upd (upd f2 0 0) 1 0))), (h4, .inr (4, [.ref h6, .int 1, .int 0])), (h6, .inl (a3, 2, .inl (upd (upd f3 0 (x0.toInt64.toInt32)) 1 0)))] := hD
  have hK : va_K D vwCl [(a0, .object "LiftingSignal$Whole"), (a1, .long), (a2, .int), (a3, .int)] s := hK
  refine W.widen (k := 0) (n := 0) (Nat.le_of_ble_eq_true rfl) (Nat.le_of_ble_eq_true rfl) ?_
  refine lv_aload_n hx hb dX1_changeValue_31 rfl (lv_at hl 0 rfl) ?_
  refine va_get (D := D) (ci := 1) (v := .ref h3) (C := RX1) (T := TX1) (N := 13) hx hb hg inX1 hown hK hP 0 rfl rfl 6 (by decide) (hg _ k289) (fun _ h9 => h9) rfl dX1_changeValue_32 ?_
  refine lv_aload_n hx hb dX1_changeValue_35 rfl (lv_at hl 0 rfl) ?_
  refine va_get (D := D) (ci := 1) (v := .ref h1) (C := RX1) (T := TX1) (N := 13) hx hb hg inX1 hown hK hP 0 rfl rfl 1 (by decide) (hg _ k279) (fun _ h9 => h9) rfl dX1_changeValue_36 ?_
  refine lv_iload_n hx hb dX1_changeValue_39 rfl (lv_at hl 1 rfl) ?_
  refine aldQ hx hb hK hP 1 0 rfl rfl 0 (by decide) (vin (by decide)) (v := h4) ef0_0 dX1_changeValue_40 ?_
  refine lv_aload_n hx hb dX1_changeValue_41 rfl (lv_at hl 0 rfl) ?_
  refine va_get (D := D) (ci := 1) (v := .ref h2) (C := RX1) (T := TX1) (N := 13) hx hb hg inX1 hown hK hP 0 rfl rfl 2 (by decide) (hg _ k281) (fun _ h9 => h9) rfl dX1_changeValue_42 ?_
  refine lv_iload_n hx hb dX1_changeValue_45 rfl (lv_at hl 1 rfl) ?_
  refine aldL hx hb hK hP 2 1 rfl rfl 0 (by decide) (vin (by decide)) (v := 1) ef1_0 dX1_changeValue_46 ?_
  refine cVv (n := 2) (As := [.ref h4, .long 1]) (rest := []) (wr := [(h0, .inr (1, [v0, .ref h1, .ref h2, v1, v2, v3, .ref h3, v4, v5, v6, v7, v8, v9])), (h1, .inl (a0, 48, .inr (.inr (.inr (.inr f0))))), (h2, .inl (a1, 48, .inr (.inl f1)))]) (tr := [(a0, .object "LiftingSignal$Whole"), (a1, .long)]) hx hb hml hown hg okN (cX4_add_698 l D h3 h4 h5 h6 (upd (upd f2 0 0) 1 0) (upd (upd f3 0 (x0.toInt64.toInt32)) 1 0) (x0.toInt64.toInt32) a2 a3 rfl rfl d3 d4 d5 d6) (mwV k340 k341 k342 k88 k343) ⟨rfl, by decide, by decide, by decide +kernel⟩ ⟨rfl, rfl, (Nat.le_of_ble_eq_true rfl), (Nat.le_of_ble_eq_true rfl)⟩ hP hD hK hS xn [3, 5, 4, 6] [3, 5, 4, 6] [0, 1, 2] [2, 3] [0, 1] rfl (by decide) rfl rfl (by decide) (by decide) rfl rfl (va_free hD hS hA [3, 5, 4, 6] rfl) (va_free hD hS hA [3, 5, 4, 6] rfl) 3 rfl rfl rfl hl.1 rfl (Nat.le_of_ble_eq_true rfl) dX1_changeValue_47 ⟨(Nat.le_of_ble_eq_true rfl), (Nat.le_of_ble_eq_true rfl)⟩ (fun u H locs hφ hP hD hK hS hk => ?_)
  have hP : va_P D vwCl [(h0, .inr (1, [v0, .ref h1, .ref h2, v1, v2, v3, .ref h3, v4, v5, v6, v7, v8, v9])), (h1, .inl (a0, 48, .inr (.inr (.inr (.inr f0))))), (h2, .inl (a1, 48, .inr (.inl f1))), (h3, .inr (4, [.ref h5, .int 1, .int 0])), (h4, .inr (4, [.ref h6, .int 1, .int 0])), (h5, .inl (a2, 2, .inl (upd (upd (upd (upd f2 0 0) 1 0) 0 (((x0.toInt64.toInt32).toInt64).toInt32)) 1 0))), (h6, .inl (a3, 2, .inl (upd (upd f3 0 (x0.toInt64.toInt32)) 1 0)))] H := hP
  have hD : va_D A [(h0, .inr (1, [v0, .ref h1, .ref h2, v1, v2, v3, .ref h3, v4, v5, v6, v7, v8, v9])), (h1, .inl (a0, 48, .inr (.inr (.inr (.inr f0))))), (h2, .inl (a1, 48, .inr (.inl f1))), (h3, .inr (4, [.ref h5, .int 1, .int 0])), (h4, .inr (4, [.ref h6, .int 1, .int 0])), (h5, .inl (a2, 2, .inl (upd (upd (upd (upd f2 0 0) 1 0) 0 (((x0.toInt64.toInt32).toInt64).toInt32)) 1 0))), (h6, .inl (a3, 2, .inl (upd (upd f3 0 (x0.toInt64.toInt32)) 1 0)))] := hD
  have hK : va_K D vwCl [(a0, .object "LiftingSignal$Whole"), (a1, .long), (a2, .int), (a3, .int)] s := hK
  refine W.widen (k := 0) (n := 0) (Nat.le_of_ble_eq_true rfl) (Nat.le_of_ble_eq_true rfl) ?_
  exact fv hx hb hr hlocks hP hD hK hS (()) trivial [0, 1, 2, 3, 4, 5, 6] [0, 1, 2, 3] rfl (by decide) rfl (Nat.le_of_ble_eq_true rfl) (Nat.le_of_ble_eq_true rfl) dX1_changeValue_50
set_option maxHeartbeats 4000000 in
set_option maxRecDepth 100000 in
theorem cX5_set_695 (l : Launch) (D : va_G) (h0 : Nat) (x0 : Int32) (h1 : Nat) (h2 : Nat) (h3 : Nat) (h4 : Nat) (h5 : Nat) (h6 : Nat) (h7 : Nat) (h8 : Nat) (h9 : Nat) (v0 : Value) (v1 : Value) (v2 : Value) (v3 : Value) (v4 : Value) (v5 : Value) (v6 : Value) (v7 : Value) (v8 : Value) (v9 : Value) (v10 : Value) (v11 : Value) (v12 : Value) (v13 : Value) (v14 : Value) (v15 : Value) (v16 : Value) (v17 : Value) (v18 : Value) (v19 : Value) (v20 : Value) (v21 : Value) (v22 : Value) (f0 : Nat → Int32) (f1 : Nat → Option Nat) (f2 : Nat → Int64) (f3 : Nat → Int32) (f4 : Nat → Int32) (a0 : ClassId) (a1 : ClassId) (a2 : ClassId) (a3 : ClassId) (a4 : ClassId) (ef0_0 : f0 0 = (-1)) (ef1_0 : f1 0 = some h5) (ef2_0 : f2 0 = 1) (ef3_0 : f3 0 = 0) (ef4_0 : f4 0 = 0) (d0 : ¬ (x0 < (-9999))) (d1 : x0 ≤ 9999) (d2 : 0 ≤ (lg_cmp x0.toInt64 0)) (d3 : ush32 x0.toInt64 = 0) (d4 : ¬ ((x0.toInt64.toInt32) = 0)) (d5 : ((x0.toInt64.toInt32).toInt64) &&& 4294967295 = ((x0.toInt64.toInt32).toInt64)) (d6 : 0 ≤ (lg_cmp ((x0.toInt64.toInt32).toInt64) 0)) (d7 : ush32 ((x0.toInt64.toInt32).toInt64) = 0) (d8 : ¬ ((((x0.toInt64.toInt32).toInt64).toInt32) = 0)) : CT l yX5_set cX5_set 5 (some .long) { frames := 3, cells := 0, slots := 0, locals := 72 } [.ref h0, .int 0, .int x0] D [(h0, .inr (5, [v0, .ref h1, v1, .ref h2, v2, v3, v4, v5, v6, v7])), (h1, .inr (0, [v8, v9, .int 2, v10, v11, v12, v13])), (h2, .inr (1, [v14, .ref h4, .ref h6, .ref h3, v15, v16, .ref h7, v17, v18, v19, v20, v21, v22])), (h3, .inl (a0, 48, .inl f0)), (h4, .inl (a1, 48, .inr (.inr (.inr (.inr f1))))), (h5, .inr (4, [.ref h9, .int 0, .int 0])), (h6, .inl (a2, 48, .inr (.inl f2))), (h7, .inr (4, [.ref h8, .int 0, .int 0])), (h8, .inl (a3, 2, .inl f3)), (h9, .inl (a4, 2, .inl f4))] [(a0, .int), (a1, .object "LiftingSignal$Whole"), (a2, .long), (a3, .int), (a4, .int)] XN [(h0, .inr (5, [v0, .ref h1, v1, .ref h2, v2, v3, v4, v5, v6, v7])), (h1, .inr (0, [v8, v9, .int 2, v10, v11, v12, v13])), (h2, .inr (1, [v14, .ref h4, .ref h6, .ref h3, v15, v16, .ref h7, v17, v18, v19, v20, v21, v22])), (h3, .inl (a0, 48, .inl f0)), (h4, .inl (a1, 48, .inr (.inr (.inr (.inr f1))))), (h5, .inr (4, [.ref h9, .int 0, .int 0])), (h6, .inl (a2, 48, .inr (.inl f2))), (h7, .inr (4, [.ref h8, .int 0, .int 0])), (h8, .inl (a3, 2, .inl f3)), (h9, .inl (a4, 2, .inl f4))] (el (fun _ : Unit => True) (fun u => 0) (fun _ => [(h0, .inr (5, [v0, .ref h1, v1, .ref h2, v2, v3, v4, v5, v6, v7])), (h1, .inr (0, [v8, v9, .int 2, v10, v11, v12, v13])), (h2, .inr (1, [v14, .ref h4, .ref h6, .ref h3, v15, v16, .ref h7, v17, v18, v19, v20, v21, v22])), (h3, .inl (a0, 48, .inl f0)), (h4, .inl (a1, 48, .inr (.inr (.inr (.inr f1))))), (h5, .inr (4, [.ref h9, .int 1, .int 0])), (h6, .inl (a2, 48, .inr (.inl f2))), (h7, .inr (4, [.ref h8, .int 1, .int 0])), (h8, .inl (a3, 2, .inl (upd (upd (upd (upd f3 0 0) 1 0) 0 (((x0.toInt64.toInt32).toInt64).toInt32)) 1 0))), (h9, .inl (a4, 2, .inl (upd (upd f4 0 (x0.toInt64.toInt32)) 1 0)))]) (fun u => [(a0, .int), (a1, .object "LiftingSignal$Whole"), (a2, .long), (a3, .int), (a4, .int)]) D) 0 0 := by
  refine CT.ofW (by decide +kernel) (Nat.le_of_ble_eq_true rfl) ?_
  intro p e s m below meth c A ls hcs hP hK hD hX hA hS hl
  obtain ⟨hx, hb, hr, hml, hown, hg, hlocks, hin⟩ := hcs
  have hown : s.vm.findClass RX5 = some m.cls := hown
  have hl : lv_has ls 5 [(0, .ref h0), (1, .int 0), (2, .int x0)] := hl
  refine lv_iload_n hx hb dX5_set_0 rfl (lv_at hl 1 rfl) ?_
  refine lv_aload_n hx hb dX5_set_1 rfl (lv_at hl 0 rfl) ?_
  refine va_get (D := D) (ci := 5) (v := .ref h1) (C := RX5) (T := TX5) (N := 10) hx hb hg inX5 hown hK hP 0 rfl rfl 1 (by decide) (hg _ k380) (fun _ h9 => h9) rfl dX5_set_2 ?_
  refine va_get (D := D) (ci := 0) (v := .int 2) (C := RX0) (T := TX0) (N := 7) hx hb hg inX0 hown hK hP 1 rfl rfl 2 (by decide) (hg _ k163) (fun _ h9 => h9) rfl dX5_set_5 ?_
  refine cSv (n := 2) (As := [.int 0, .int 2]) (rest := []) (wr := [(h0, .inr (5, [v0, .ref h1, v1, .ref h2, v2, v3, v4, v5, v6, v7])), (h1, .inr (0, [v8, v9, .int 2, v10, v11, v12, v13])), (h2, .inr (1, [v14, .ref h4, .ref h6, .ref h3, v15, v16, .ref h7, v17, v18, v19, v20, v21, v22])), (h3, .inl (a0, 48, .inl f0)), (h4, .inl (a1, 48, .inr (.inr (.inr (.inr f1))))), (h5, .inr (4, [.ref h9, .int 0, .int 0])), (h6, .inl (a2, 48, .inr (.inl f2))), (h7, .inr (4, [.ref h8, .int 0, .int 0])), (h8, .inl (a3, 2, .inl f3)), (h9, .inl (a4, 2, .inl f4))]) (tr := [(a0, .int), (a1, .object "LiftingSignal$Whole"), (a2, .long), (a3, .int), (a4, .int)]) hx hb hml hown hg okN (cX5_needIndex_672 l D) (mwS k610 k611 k84 k612) ⟨rfl, by decide, by decide, by decide +kernel⟩ ⟨rfl, rfl, (Nat.le_of_ble_eq_true rfl), (Nat.le_of_ble_eq_true rfl)⟩ hP hD hK hS xn [] [] [0, 1, 2, 3, 4, 5, 6, 7, 8, 9] [] [0, 1, 2, 3, 4] rfl (by decide) rfl rfl (by decide) (by decide) rfl rfl (aNil hA hS) (aNil hA hS) rfl hl.1 rfl (Nat.le_of_ble_eq_true rfl) dX5_set_8 ⟨(Nat.le_of_ble_eq_true rfl), (Nat.le_of_ble_eq_true rfl)⟩ (fun u H locs hφ hP hD hK hS hk => ?_)
  have hP : va_P D vwCl [(h0, .inr (5, [v0, .ref h1, v1, .ref h2, v2, v3, v4, v5, v6, v7])), (h1, .inr (0, [v8, v9, .int 2, v10, v11, v12, v13])), (h2, .inr (1, [v14, .ref h4, .ref h6, .ref h3, v15, v16, .ref h7, v17, v18, v19, v20, v21, v22])), (h3, .inl (a0, 48, .inl f0)), (h4, .inl (a1, 48, .inr (.inr (.inr (.inr f1))))), (h5, .inr (4, [.ref h9, .int 0, .int 0])), (h6, .inl (a2, 48, .inr (.inl f2))), (h7, .inr (4, [.ref h8, .int 0, .int 0])), (h8, .inl (a3, 2, .inl f3)), (h9, .inl (a4, 2, .inl f4))] H := hP
  have hD : va_D A [(h0, .inr (5, [v0, .ref h1, v1, .ref h2, v2, v3, v4, v5, v6, v7])), (h1, .inr (0, [v8, v9, .int 2, v10, v11, v12, v13])), (h2, .inr (1, [v14, .ref h4, .ref h6, .ref h3, v15, v16, .ref h7, v17, v18, v19, v20, v21, v22])), (h3, .inl (a0, 48, .inl f0)), (h4, .inl (a1, 48, .inr (.inr (.inr (.inr f1))))), (h5, .inr (4, [.ref h9, .int 0, .int 0])), (h6, .inl (a2, 48, .inr (.inl f2))), (h7, .inr (4, [.ref h8, .int 0, .int 0])), (h8, .inl (a3, 2, .inl f3)), (h9, .inl (a4, 2, .inl f4))] := hD
  have hK : va_K D vwCl [(a0, .int), (a1, .object "LiftingSignal$Whole"), (a2, .long), (a3, .int), (a4, .int)] s := hK
  refine W.widen (k := 0) (n := 0) (Nat.le_of_ble_eq_true rfl) (Nat.le_of_ble_eq_true rfl) ?_
  refine lv_iload_n hx hb dX5_set_11 rfl (lv_at hl 2 rfl) ?_
  refine lv_sipush (v := (-9999)) hx hb dX5_set_12 (by decide) ?_
  refine lv_sipush (v := 9999) hx hb dX5_set_15 (by decide) ?_
  refine cSv (n := 3) (As := [.int x0, .int (-9999), .int 9999]) (rest := []) (wr := [(h0, .inr (5, [v0, .ref h1, v1, .ref h2, v2, v3, v4, v5, v6, v7])), (h1, .inr (0, [v8, v9, .int 2, v10, v11, v12, v13])), (h2, .inr (1, [v14, .ref h4, .ref h6, .ref h3, v15, v16, .ref h7, v17, v18, v19, v20, v21, v22])), (h3, .inl (a0, 48, .inl f0)), (h4, .inl (a1, 48, .inr (.inr (.inr (.inr f1))))), (h5, .inr (4, [.ref h9, .int 0, .int 0])), (h6, .inl (a2, 48, .inr (.inl f2))), (h7, .inr (4, [.ref h8, .int 0, .int 0])), (h8, .inl (a3, 2, .inl f3)), (h9, .inl (a4, 2, .inl f4))]) (tr := [(a0, .int), (a1, .object "LiftingSignal$Whole"), (a2, .long), (a3, .int), (a4, .int)]) hx hb hml hown hg okN (cX5_needRange_673 l D x0 d0 d1) (mwS k909 k910 k84 k911) ⟨rfl, by decide, by decide, by decide +kernel⟩ ⟨rfl, rfl, (Nat.le_of_ble_eq_true rfl), (Nat.le_of_ble_eq_true rfl)⟩ hP hD hK hS xn [] [] [0, 1, 2, 3, 4, 5, 6, 7, 8, 9] [] [0, 1, 2, 3, 4] rfl (by decide) rfl rfl (by decide) (by decide) rfl rfl (aNil hA hS) (aNil hA hS) rfl hl.1 rfl (Nat.le_of_ble_eq_true rfl) dX5_set_18 ⟨(Nat.le_of_ble_eq_true rfl), (Nat.le_of_ble_eq_true rfl)⟩ (fun u H locs hφ hP hD hK hS hk => ?_)
  have hP : va_P D vwCl [(h0, .inr (5, [v0, .ref h1, v1, .ref h2, v2, v3, v4, v5, v6, v7])), (h1, .inr (0, [v8, v9, .int 2, v10, v11, v12, v13])), (h2, .inr (1, [v14, .ref h4, .ref h6, .ref h3, v15, v16, .ref h7, v17, v18, v19, v20, v21, v22])), (h3, .inl (a0, 48, .inl f0)), (h4, .inl (a1, 48, .inr (.inr (.inr (.inr f1))))), (h5, .inr (4, [.ref h9, .int 0, .int 0])), (h6, .inl (a2, 48, .inr (.inl f2))), (h7, .inr (4, [.ref h8, .int 0, .int 0])), (h8, .inl (a3, 2, .inl f3)), (h9, .inl (a4, 2, .inl f4))] H := hP
  have hD : va_D A [(h0, .inr (5, [v0, .ref h1, v1, .ref h2, v2, v3, v4, v5, v6, v7])), (h1, .inr (0, [v8, v9, .int 2, v10, v11, v12, v13])), (h2, .inr (1, [v14, .ref h4, .ref h6, .ref h3, v15, v16, .ref h7, v17, v18, v19, v20, v21, v22])), (h3, .inl (a0, 48, .inl f0)), (h4, .inl (a1, 48, .inr (.inr (.inr (.inr f1))))), (h5, .inr (4, [.ref h9, .int 0, .int 0])), (h6, .inl (a2, 48, .inr (.inl f2))), (h7, .inr (4, [.ref h8, .int 0, .int 0])), (h8, .inl (a3, 2, .inl f3)), (h9, .inl (a4, 2, .inl f4))] := hD
  have hK : va_K D vwCl [(a0, .int), (a1, .object "LiftingSignal$Whole"), (a2, .long), (a3, .int), (a4, .int)] s := hK
  refine W.widen (k := 0) (n := 0) (Nat.le_of_ble_eq_true rfl) (Nat.le_of_ble_eq_true rfl) ?_
  refine lv_aload_n hx hb dX5_set_21 rfl (lv_at hl 0 rfl) ?_
  refine va_get (D := D) (ci := 5) (v := .ref h2) (C := RX5) (T := TX5) (N := 10) hx hb hg inX5 hown hK hP 0 rfl rfl 3 (by decide) (hg _ k382) (fun _ h9 => h9) rfl dX5_set_22 ?_
  refine lv_iload_n hx hb dX5_set_25 rfl (lv_at hl 1 rfl) ?_
  refine cVi (n := 1) (As := [.int 0]) (rest := []) (wr := [(h0, .inr (5, [v0, .ref h1, v1, .ref h2, v2, v3, v4, v5, v6, v7])), (h1, .inr (0, [v8, v9, .int 2, v10, v11, v12, v13])), (h2, .inr (1, [v14, .ref h4, .ref h6, .ref h3, v15, v16, .ref h7, v17, v18, v19, v20, v21, v22])), (h3, .inl (a0, 48, .inl f0)), (h4, .inl (a1, 48, .inr (.inr (.inr (.inr f1))))), (h5, .inr (4, [.ref h9, .int 0, .int 0])), (h6, .inl (a2, 48, .inr (.inl f2))), (h7, .inr (4, [.ref h8, .int 0, .int 0])), (h8, .inl (a3, 2, .inl f3)), (h9, .inl (a4, 2, .inl f4))]) (tr := [(a0, .int), (a1, .object "LiftingSignal$Whole"), (a2, .long), (a3, .int), (a4, .int)]) hx hb hml hown hg okN (cX1_isPresent_674 l D h2 h3 v14 (.ref h4) (.ref h6) v15 v16 (.ref h7) v17 v18 v19 v20 v21 v22 f0 a0 ef0_0) (mwV k861 k460 k461 k87 k462) ⟨rfl, by decide, by decide, by decide +kernel⟩ ⟨rfl, rfl, (Nat.le_of_ble_eq_true rfl), (Nat.le_of_ble_eq_true rfl)⟩ hP hD hK hS xn [2, 3] [] [0, 1, 2, 3, 4, 5, 6, 7, 8, 9] [0] [0, 1, 2, 3, 4] rfl (by decide) rfl rfl (by decide) (by decide) rfl rfl (aNil hA hS) (aNil hA hS) 2 rfl rfl rfl hl.1 rfl (Nat.le_of_ble_eq_true rfl) dX5_set_26 ⟨(Nat.le_of_ble_eq_true rfl), (Nat.le_of_ble_eq_true rfl)⟩ (fun u H locs hφ hP hD hK hS hk => ?_)
  have hP : va_P D vwCl [(h0, .inr (5, [v0, .ref h1, v1, .ref h2, v2, v3, v4, v5, v6, v7])), (h1, .inr (0, [v8, v9, .int 2, v10, v11, v12, v13])), (h2, .inr (1, [v14, .ref h4, .ref h6, .ref h3, v15, v16, .ref h7, v17, v18, v19, v20, v21, v22])), (h3, .inl (a0, 48, .inl f0)), (h4, .inl (a1, 48, .inr (.inr (.inr (.inr f1))))), (h5, .inr (4, [.ref h9, .int 0, .int 0])), (h6, .inl (a2, 48, .inr (.inl f2))), (h7, .inr (4, [.ref h8, .int 0, .int 0])), (h8, .inl (a3, 2, .inl f3)), (h9, .inl (a4, 2, .inl f4))] H := hP
  have hD : va_D A [(h0, .inr (5, [v0, .ref h1, v1, .ref h2, v2, v3, v4, v5, v6, v7])), (h1, .inr (0, [v8, v9, .int 2, v10, v11, v12, v13])), (h2, .inr (1, [v14, .ref h4, .ref h6, .ref h3, v15, v16, .ref h7, v17, v18, v19, v20, v21, v22])), (h3, .inl (a0, 48, .inl f0)), (h4, .inl (a1, 48, .inr (.inr (.inr (.inr f1))))), (h5, .inr (4, [.ref h9, .int 0, .int 0])), (h6, .inl (a2, 48, .inr (.inl f2))), (h7, .inr (4, [.ref h8, .int 0, .int 0])), (h8, .inl (a3, 2, .inl f3)), (h9, .inl (a4, 2, .inl f4))] := hD
  have hK : va_K D vwCl [(a0, .int), (a1, .object "LiftingSignal$Whole"), (a2, .long), (a3, .int), (a4, .int)] s := hK
  refine W.widen (k := 0) (n := 0) (Nat.le_of_ble_eq_true rfl) (Nat.le_of_ble_eq_true rfl) ?_
  refine lv_if_ne (tgt := 40) hx hb dX5_set_29 (by decide) (fun _ => ?_) (fun c9 => absurd c9 (by decide))
  refine lv_aload_n hx hb dX5_set_40 rfl (lv_at hl 0 rfl) ?_
  refine va_get (D := D) (ci := 5) (v := .ref h2) (C := RX5) (T := TX5) (N := 10) hx hb hg inX5 hown hK hP 0 rfl rfl 3 (by decide) (hg _ k382) (fun _ h9 => h9) rfl dX5_set_41 ?_
  refine va_get (D := D) (ci := 1) (v := .ref h4) (C := RX1) (T := TX1) (N := 13) hx hb hg inX1 hown hK hP 2 rfl rfl 1 (by decide) (hg _ k280) (fun _ h9 => h9) rfl dX5_set_44 ?_
  refine lv_iload_n hx hb dX5_set_47 rfl (lv_at hl 1 rfl) ?_
  refine aldQ hx hb hK hP 4 1 rfl rfl 0 (by decide) (vin (by decide)) (v := h5) ef1_0 dX5_set_48 ?_
  refine cVl (n := 0) (As := []) (rest := []) (wr := [(h0, .inr (5, [v0, .ref h1, v1, .ref h2, v2, v3, v4, v5, v6, v7])), (h1, .inr (0, [v8, v9, .int 2, v10, v11, v12, v13])), (h2, .inr (1, [v14, .ref h4, .ref h6, .ref h3, v15, v16, .ref h7, v17, v18, v19, v20, v21, v22])), (h3, .inl (a0, 48, .inl f0)), (h4, .inl (a1, 48, .inr (.inr (.inr (.inr f1))))), (h5, .inr (4, [.ref h9, .int 0, .int 0])), (h6, .inl (a2, 48, .inr (.inl f2))), (h7, .inr (4, [.ref h8, .int 0, .int 0])), (h8, .inl (a3, 2, .inl f3)), (h9, .inl (a4, 2, .inl f4))]) (tr := [(a0, .int), (a1, .object "LiftingSignal$Whole"), (a2, .long), (a3, .int), (a4, .int)]) hx hb hml hown hg okN (cX4_toLong_675 l D h5 (.ref h9)) (mwV k435 k436 k437 k88 k438) ⟨rfl, by decide, by decide, by decide +kernel⟩ ⟨rfl, rfl, (Nat.le_of_ble_eq_true rfl), (Nat.le_of_ble_eq_true rfl)⟩ hP hD hK hS xn [5] [] [0, 1, 2, 3, 4, 5, 6, 7, 8, 9] [] [0, 1, 2, 3, 4] rfl (by decide) rfl rfl (by decide) (by decide) rfl rfl (aNil hA hS) (aNil hA hS) 5 rfl rfl rfl hl.1 rfl (Nat.le_of_ble_eq_true rfl) dX5_set_49 ⟨(Nat.le_of_ble_eq_true rfl), (Nat.le_of_ble_eq_true rfl)⟩ (fun u H locs hφ hP hD hK hS hk => ?_)
  have hP : va_P D vwCl [(h0, .inr (5, [v0, .ref h1, v1, .ref h2, v2, v3, v4, v5, v6, v7])), (h1, .inr (0, [v8, v9, .int 2, v10, v11, v12, v13])), (h2, .inr (1, [v14, .ref h4, .ref h6, .ref h3, v15, v16, .ref h7, v17, v18, v19, v20, v21, v22])), (h3, .inl (a0, 48, .inl f0)), (h4, .inl (a1, 48, .inr (.inr (.inr (.inr f1))))), (h5, .inr (4, [.ref h9, .int 0, .int 0])), (h6, .inl (a2, 48, .inr (.inl f2))), (h7, .inr (4, [.ref h8, .int 0, .int 0])), (h8, .inl (a3, 2, .inl f3)), (h9, .inl (a4, 2, .inl f4))] H := hP
  have hD : va_D A [(h0, .inr (5, [v0, .ref h1, v1, .ref h2, v2, v3, v4, v5, v6, v7])), (h1, .inr (0, [v8, v9, .int 2, v10, v11, v12, v13])), (h2, .inr (1, [v14, .ref h4, .ref h6, .ref h3, v15, v16, .ref h7, v17, v18, v19, v20, v21, v22])), (h3, .inl (a0, 48, .inl f0)), (h4, .inl (a1, 48, .inr (.inr (.inr (.inr f1))))), (h5, .inr (4, [.ref h9, .int 0, .int 0])), (h6, .inl (a2, 48, .inr (.inl f2))), (h7, .inr (4, [.ref h8, .int 0, .int 0])), (h8, .inl (a3, 2, .inl f3)), (h9, .inl (a4, 2, .inl f4))] := hD
  have hK : va_K D vwCl [(a0, .int), (a1, .object "LiftingSignal$Whole"), (a2, .long), (a3, .int), (a4, .int)] s := hK
  refine W.widen (k := 0) (n := 0) (Nat.le_of_ble_eq_true rfl) (Nat.le_of_ble_eq_true rfl) ?_
  refine lv_lstore_n (lv' := [(3, .long 0), (0, .ref h0), (1, .int 0), (2, .int x0)]) hx hb dX5_set_52 rfl hl (by decide) rfl (fun ls hl => ?_)
  refine lv_aload_n hx hb dX5_set_53 rfl (lv_at hl 1 rfl) ?_
  refine va_get (D := D) (ci := 5) (v := .ref h2) (C := RX5) (T := TX5) (N := 10) hx hb hg inX5 hown hK hP 0 rfl rfl 3 (by decide) (hg _ k382) (fun _ h9 => h9) rfl dX5_set_54 ?_
  refine lv_iload_n hx hb dX5_set_57 rfl (lv_at hl 2 rfl) ?_
  refine lv_iload_n hx hb dX5_set_58 rfl (lv_at hl 3 rfl) ?_
  refine cVv (n := 2) (As := [.int 0, .int x0]) (rest := []) (wr := [(h0, .inr (5, [v0, .ref h1, v1, .ref h2, v2, v3, v4, v5, v6, v7])), (h1, .inr (0, [v8, v9, .int 2, v10, v11, v12, v13])), (h3, .inl (a0, 48, .inl f0))]) (tr := [(a0, .int)]) hx hb hml hown hg okN (cX1_changeValue_696 l D h2 x0 h4 h6 h7 h5 h8 h9 v14 (.ref h3) v15 v16 v17 v18 v19 v20 v21 v22 f1 f2 f3 f4 a1 a2 a3 a4 ef1_0 ef2_0 ef3_0 ef4_0 d2 d3 d4 d5 d6 d7 d8) (mwV k1009 k1010 k1011 k87 k1012) ⟨rfl, by decide, by decide, by decide +kernel⟩ ⟨rfl, rfl, (Nat.le_of_ble_eq_true rfl), (Nat.le_of_ble_eq_true rfl)⟩ hP hD hK hS xn [2, 4, 6, 7, 5, 8, 9] [2, 4, 6, 7, 5, 8, 9] [0, 1, 3] [1, 2, 3, 4] [0] rfl (by decide) rfl rfl (by decide) (by decide) rfl rfl (va_free hD hS hA [2, 4, 6, 7, 5, 8, 9] rfl) (va_free hD hS hA [2, 4, 6, 7, 5, 8, 9] rfl) 2 rfl rfl rfl hl.1 rfl (Nat.le_of_ble_eq_true rfl) dX5_set_59 ⟨(Nat.le_of_ble_eq_true rfl), (Nat.le_of_ble_eq_true rfl)⟩ (fun u H locs hφ hP hD hK hS hk => ?_)
  have hP : va_P D vwCl [(h0, .inr (5, [v0, .ref h1, v1, .ref h2, v2, v3, v4, v5, v6, v7])), (h1, .inr (0, [v8, v9, .int 2, v10, v11, v12, v13])), (h3, .inl (a0, 48, .inl f0)), (h2, .inr (1, [v14, .ref h4, .ref h6, .ref h3, v15, v16, .ref h7, v17, v18, v19, v20, v21, v22])), (h4, .inl (a1, 48, .inr (.inr (.inr (.inr f1))))), (h6, .inl (a2, 48, .inr (.inl f2))), (h7, .inr (4, [.ref h8, .int 1, .int 0])), (h5, .inr (4, [.ref h9, .int 1, .int 0])), (h8, .inl (a3, 2, .inl (upd (upd (upd (upd f3 0 0) 1 0) 0 (((x0.toInt64.toInt32).toInt64).toInt32)) 1 0))), (h9, .inl (a4, 2, .inl (upd (upd f4 0 (x0.toInt64.toInt32)) 1 0)))] H := hP
  have hD : va_D A [(h0, .inr (5, [v0, .ref h1, v1, .ref h2, v2, v3, v4, v5, v6, v7])), (h1, .inr (0, [v8, v9, .int 2, v10, v11, v12, v13])), (h3, .inl (a0, 48, .inl f0)), (h2, .inr (1, [v14, .ref h4, .ref h6, .ref h3, v15, v16, .ref h7, v17, v18, v19, v20, v21, v22])), (h4, .inl (a1, 48, .inr (.inr (.inr (.inr f1))))), (h6, .inl (a2, 48, .inr (.inl f2))), (h7, .inr (4, [.ref h8, .int 1, .int 0])), (h5, .inr (4, [.ref h9, .int 1, .int 0])), (h8, .inl (a3, 2, .inl (upd (upd (upd (upd f3 0 0) 1 0) 0 (((x0.toInt64.toInt32).toInt64).toInt32)) 1 0))), (h9, .inl (a4, 2, .inl (upd (upd f4 0 (x0.toInt64.toInt32)) 1 0)))] := hD
  have hK : va_K D vwCl [(a0, .int), (a1, .object "LiftingSignal$Whole"), (a2, .long), (a3, .int), (a4, .int)] s := hK
  refine W.widen (k := 0) (n := 0) (Nat.le_of_ble_eq_true rfl) (Nat.le_of_ble_eq_true rfl) ?_
  refine lv_lload_n hx hb dX5_set_62 rfl (lv_at hl 0 rfl) ?_
  exact fl hx hb hr hlocks hP hD hK hS (()) trivial rfl [0, 1, 3, 2, 4, 7, 5, 6, 8, 9] [0, 1, 2, 3, 4] rfl (by decide) rfl (Nat.le_of_ble_eq_true rfl) (Nat.le_of_ble_eq_true rfl) dX5_set_63
set_option maxHeartbeats 4000000 in
set_option maxRecDepth 100000 in
theorem cL_set_694 (l : Launch) (D : va_G) (h0 : Nat) (x0 : Int32) (h1 : Nat) (h2 : Nat) (h3 : Nat) (h4 : Nat) (h5 : Nat) (h6 : Nat) (h7 : Nat) (h8 : Nat) (h9 : Nat) (h10 : Nat) (v0 : Value) (v1 : Value) (v2 : Value) (v3 : Value) (v4 : Value) (v5 : Value) (v6 : Value) (v7 : Value) (f0 : Nat → Int64) (v8 : Value) (v9 : Value) (v10 : Value) (v11 : Value) (v12 : Value) (v13 : Value) (v14 : Value) (v15 : Value) (v16 : Value) (v17 : Value) (v18 : Value) (v19 : Value) (v20 : Value) (v21 : Value) (v22 : Value) (f1 : Nat → Int32) (f2 : Nat → Option Nat) (f3 : Nat → Int64) (f4 : Nat → Int32) (f5 : Nat → Int32) (a0 : ClassId) (a1 : ClassId) (a2 : ClassId) (a3 : ClassId) (a4 : ClassId) (a5 : ClassId) (ef1_0 : f1 0 = (-1)) (ef2_0 : f2 0 = some h6) (ef3_0 : f3 0 = 1) (ef4_0 : f4 0 = 0) (ef5_0 : f5 0 = 0) (d0 : ¬ (x0 < (-9999))) (d1 : x0 ≤ 9999) (d2 : 0 ≤ (lg_cmp x0.toInt64 0)) (d3 : ush32 x0.toInt64 = 0) (d4 : ¬ ((x0.toInt64.toInt32) = 0)) (d5 : ((x0.toInt64.toInt32).toInt64) &&& 4294967295 = ((x0.toInt64.toInt32).toInt64)) (d6 : 0 ≤ (lg_cmp ((x0.toInt64.toInt32).toInt64) 0)) (d7 : ush32 ((x0.toInt64.toInt32).toInt64) = 0) (d8 : ¬ ((((x0.toInt64.toInt32).toInt64).toInt32) = 0)) : CH l yL_set cL_set 5 (some .int) [(0, 9, 12, 13), (0, 9, 16, 19), (0, 9, 20, 62)] { frames := 4, cells := 0, slots := 0, locals := 96 } [.ref h0, .int 0, .int x0, .ref h1] D [(h0, .inr (5, [v0, .ref h2, v1, .ref h3, v2, v3, v4, v5, v6, v7])), (h1, .inl (a0, 1, .inr (.inl f0))), (h2, .inr (0, [v8, v9, .int 2, v10, v11, v12, v13])), (h3, .inr (1, [v14, .ref h5, .ref h7, .ref h4, v15, v16, .ref h8, v17, v18, v19, v20, v21, v22])), (h4, .inl (a1, 48, .inl f1)), (h5, .inl (a2, 48, .inr (.inr (.inr (.inr f2))))), (h6, .inr (4, [.ref h10, .int 0, .int 0])), (h7, .inl (a3, 48, .inr (.inl f3))), (h8, .inr (4, [.ref h9, .int 0, .int 0])), (h9, .inl (a4, 2, .inl f4)), (h10, .inl (a5, 2, .inl f5))] [(a0, .long), (a1, .int), (a2, .object "LiftingSignal$Whole"), (a3, .long), (a4, .int), (a5, .int)] XN [(h0, .inr (5, [v0, .ref h2, v1, .ref h3, v2, v3, v4, v5, v6, v7])), (h1, .inl (a0, 1, .inr (.inl f0))), (h2, .inr (0, [v8, v9, .int 2, v10, v11, v12, v13])), (h3, .inr (1, [v14, .ref h5, .ref h7, .ref h4, v15, v16, .ref h8, v17, v18, v19, v20, v21, v22])), (h4, .inl (a1, 48, .inl f1)), (h5, .inl (a2, 48, .inr (.inr (.inr (.inr f2))))), (h6, .inr (4, [.ref h10, .int 0, .int 0])), (h7, .inl (a3, 48, .inr (.inl f3))), (h8, .inr (4, [.ref h9, .int 0, .int 0])), (h9, .inl (a4, 2, .inl f4)), (h10, .inl (a5, 2, .inl f5))] (ei (fun _ : Unit => True) (fun u => 0) (fun _ => [(h0, .inr (5, [v0, .ref h2, v1, .ref h3, v2, v3, v4, v5, v6, v7])), (h1, .inl (a0, 1, .inr (.inl (vp_updL f0 0 0)))), (h2, .inr (0, [v8, v9, .int 2, v10, v11, v12, v13])), (h3, .inr (1, [v14, .ref h5, .ref h7, .ref h4, v15, v16, .ref h8, v17, v18, v19, v20, v21, v22])), (h4, .inl (a1, 48, .inl f1)), (h5, .inl (a2, 48, .inr (.inr (.inr (.inr f2))))), (h6, .inr (4, [.ref h10, .int 1, .int 0])), (h7, .inl (a3, 48, .inr (.inl f3))), (h8, .inr (4, [.ref h9, .int 1, .int 0])), (h9, .inl (a4, 2, .inl (upd (upd (upd (upd f4 0 0) 1 0) 0 (((x0.toInt64.toInt32).toInt64).toInt32)) 1 0))), (h10, .inl (a5, 2, .inl (upd (upd f5 0 (x0.toInt64.toInt32)) 1 0)))]) (fun u => [(a0, .long), (a1, .int), (a2, .object "LiftingSignal$Whole"), (a3, .long), (a4, .int), (a5, .int)]) D) 0 0 := by
  refine CH.ofW (by decide +kernel) (Nat.le_of_ble_eq_true rfl) ?_
  intro p e s m below meth c A ls hcs htab hP hK hD hX hA hS hl
  obtain ⟨hx, hb, hr, hml, hown, hg, hlocks, hin⟩ := hcs
  have hown : s.vm.findClass RL = some m.cls := hown
  have hl : lv_has ls 5 [(0, .ref h0), (1, .int 0), (2, .int x0), (3, .ref h1)] := hl
  refine lv_aload_n hx hb dL_set_0 rfl (lv_at hl 3 rfl) ?_
  refine lv_iconst (v := 0) hx hb dL_set_1 (by decide) ?_
  refine lv_aload_n hx hb dL_set_2 rfl (lv_at hl 0 rfl) ?_
  refine lv_iload_n hx hb dL_set_3 rfl (lv_at hl 1 rfl) ?_
  refine lv_iload_n hx hb dL_set_4 rfl (lv_at hl 2 rfl) ?_
  refine cVl (n := 2) (As := [.int 0, .int x0]) (rest := [.int 0, .ref h1]) (wr := [(h1, .inl (a0, 1, .inr (.inl f0)))]) (tr := [(a0, .long)]) hx hb hml hown hg okN (cX5_set_695 l D h0 x0 h2 h3 h4 h5 h6 h7 h8 h9 h10 v0 v1 v2 v3 v4 v5 v6 v7 v8 v9 v10 v11 v12 v13 v14 v15 v16 v17 v18 v19 v20 v21 v22 f1 f2 f3 f4 f5 a1 a2 a3 a4 a5 ef1_0 ef2_0 ef3_0 ef4_0 ef5_0 d0 d1 d2 d3 d4 d5 d6 d7 d8) (mwV k985 k986 k987 k84 k988) ⟨rfl, by decide, by decide, by decide +kernel⟩ ⟨rfl, rfl, (Nat.le_of_ble_eq_true rfl), (Nat.le_of_ble_eq_true rfl)⟩ hP hD hK hS xn [0, 2, 3, 4, 5, 6, 7, 8, 9, 10] [0, 2, 3, 4, 5, 6, 7, 8, 9, 10] [1] [1, 2, 3, 4, 5] [0] rfl (by decide) rfl rfl (by decide) (by decide) rfl rfl (va_free hD hS hA [0, 2, 3, 4, 5, 6, 7, 8, 9, 10] rfl) (va_free hD hS hA [0, 2, 3, 4, 5, 6, 7, 8, 9, 10] rfl) 0 rfl rfl rfl hl.1 rfl (Nat.le_of_ble_eq_true rfl) dL_set_5 ⟨(Nat.le_of_ble_eq_true rfl), (Nat.le_of_ble_eq_true rfl)⟩ (fun u H locs hφ hP hD hK hS hk => ?_)
  have hP : va_P D vwCl [(h1, .inl (a0, 1, .inr (.inl f0))), (h0, .inr (5, [v0, .ref h2, v1, .ref h3, v2, v3, v4, v5, v6, v7])), (h2, .inr (0, [v8, v9, .int 2, v10, v11, v12, v13])), (h3, .inr (1, [v14, .ref h5, .ref h7, .ref h4, v15, v16, .ref h8, v17, v18, v19, v20, v21, v22])), (h4, .inl (a1, 48, .inl f1)), (h5, .inl (a2, 48, .inr (.inr (.inr (.inr f2))))), (h6, .inr (4, [.ref h10, .int 1, .int 0])), (h7, .inl (a3, 48, .inr (.inl f3))), (h8, .inr (4, [.ref h9, .int 1, .int 0])), (h9, .inl (a4, 2, .inl (upd (upd (upd (upd f4 0 0) 1 0) 0 (((x0.toInt64.toInt32).toInt64).toInt32)) 1 0))), (h10, .inl (a5, 2, .inl (upd (upd f5 0 (x0.toInt64.toInt32)) 1 0)))] H := hP
  have hD : va_D A [(h1, .inl (a0, 1, .inr (.inl f0))), (h0, .inr (5, [v0, .ref h2, v1, .ref h3, v2, v3, v4, v5, v6, v7])), (h2, .inr (0, [v8, v9, .int 2, v10, v11, v12, v13])), (h3, .inr (1, [v14, .ref h5, .ref h7, .ref h4, v15, v16, .ref h8, v17, v18, v19, v20, v21, v22])), (h4, .inl (a1, 48, .inl f1)), (h5, .inl (a2, 48, .inr (.inr (.inr (.inr f2))))), (h6, .inr (4, [.ref h10, .int 1, .int 0])), (h7, .inl (a3, 48, .inr (.inl f3))), (h8, .inr (4, [.ref h9, .int 1, .int 0])), (h9, .inl (a4, 2, .inl (upd (upd (upd (upd f4 0 0) 1 0) 0 (((x0.toInt64.toInt32).toInt64).toInt32)) 1 0))), (h10, .inl (a5, 2, .inl (upd (upd f5 0 (x0.toInt64.toInt32)) 1 0)))] := hD
  have hK : va_K D vwCl [(a0, .long), (a1, .int), (a2, .object "LiftingSignal$Whole"), (a3, .long), (a4, .int), (a5, .int)] s := hK
  refine W.widen (k := 0) (n := 0) (Nat.le_of_ble_eq_true rfl) (Nat.le_of_ble_eq_true rfl) ?_
  refine astL hx hb hK hP hD hS 0 0 rfl rfl 0 (by decide) (vin (by decide)) dL_set_8 (fun H locs hP hD hS => ?_)
  have hP : va_P D vwCl [(h1, .inl (a0, 1, .inr (.inl (vp_updL f0 0 0)))), (h0, .inr (5, [v0, .ref h2, v1, .ref h3, v2, v3, v4, v5, v6, v7])), (h2, .inr (0, [v8, v9, .int 2, v10, v11, v12, v13])), (h3, .inr (1, [v14, .ref h5, .ref h7, .ref h4, v15, v16, .ref h8, v17, v18, v19, v20, v21, v22])), (h4, .inl (a1, 48, .inl f1)), (h5, .inl (a2, 48, .inr (.inr (.inr (.inr f2))))), (h6, .inr (4, [.ref h10, .int 1, .int 0])), (h7, .inl (a3, 48, .inr (.inl f3))), (h8, .inr (4, [.ref h9, .int 1, .int 0])), (h9, .inl (a4, 2, .inl (upd (upd (upd (upd f4 0 0) 1 0) 0 (((x0.toInt64.toInt32).toInt64).toInt32)) 1 0))), (h10, .inl (a5, 2, .inl (upd (upd f5 0 (x0.toInt64.toInt32)) 1 0)))] H := hP
  have hD : va_D A [(h1, .inl (a0, 1, .inr (.inl (vp_updL f0 0 0)))), (h0, .inr (5, [v0, .ref h2, v1, .ref h3, v2, v3, v4, v5, v6, v7])), (h2, .inr (0, [v8, v9, .int 2, v10, v11, v12, v13])), (h3, .inr (1, [v14, .ref h5, .ref h7, .ref h4, v15, v16, .ref h8, v17, v18, v19, v20, v21, v22])), (h4, .inl (a1, 48, .inl f1)), (h5, .inl (a2, 48, .inr (.inr (.inr (.inr f2))))), (h6, .inr (4, [.ref h10, .int 1, .int 0])), (h7, .inl (a3, 48, .inr (.inl f3))), (h8, .inr (4, [.ref h9, .int 1, .int 0])), (h9, .inl (a4, 2, .inl (upd (upd (upd (upd f4 0 0) 1 0) 0 (((x0.toInt64.toInt32).toInt64).toInt32)) 1 0))), (h10, .inl (a5, 2, .inl (upd (upd f5 0 (x0.toInt64.toInt32)) 1 0)))] := hD
  refine lv_goto (tgt := 24) hx hb dL_set_9 (by decide) ?_
  refine lv_iconst (v := 0) hx hb dL_set_24 (by decide) ?_
  exact fi hx hb hr hlocks hP hD hK hS (()) trivial rfl [1, 0, 2, 3, 4, 5, 6, 7, 8, 9, 10] [0, 1, 2, 3, 4, 5] rfl (by decide) rfl (Nat.le_of_ble_eq_true rfl) (Nat.le_of_ble_eq_true rfl) dL_set_25
set_option maxHeartbeats 4000000 in
set_option maxRecDepth 100000 in
theorem cL_set_700 (l : Launch) (D : va_G) (hlt : l.stackTraces = false) (h0 : Nat) (x0 : Int32) (h1 : Nat) (h2 : Nat) (v0 : Value) (v1 : Value) (v2 : Value) (v3 : Value) (v4 : Value) (v5 : Value) (v6 : Value) (v7 : Value) (v8 : Value) (v9 : Value) (v10 : Value) (v11 : Value) (v12 : Value) (v13 : Value) (v14 : Value)  (d0 : ¬ (x0 < (-9999))) (d1 : ¬ (x0 ≤ 9999)) : CH l yL_set cL_set 5 (some .int) [(0, 9, 12, 13), (0, 9, 16, 19), (0, 9, 20, 62)] { frames := 8, cells := 1, slots := 6, locals := 136 } [.ref h0, .int 0, .int x0, .ref h1] D [(h0, .inr (5, [v0, .ref h2, v1, v2, v3, v4, v5, v6, v7, v8])), (h2, .inr (0, [v9, v10, .int 2, v11, v12, v13, v14]))] [] XX [] (ei (fun _ : Unit => True) (fun _ => 2) (fun _ => []) (fun _ => []) D) 1 6 := by
  refine CH.ofR (by decide +kernel) (Nat.le_of_ble_eq_true rfl) ?_
  intro p e s m below meth c A ls hcs htab hP hK hD hX hA hS hl
  obtain ⟨hx, hb, hr, hml, hown, hg, hlocks, hin⟩ := hcs
  have hown : s.vm.findClass RL = some m.cls := hown
  have hl : lv_has ls 5 [(0, .ref h0), (1, .int 0), (2, .int x0), (3, .ref h1)] := hl
  refine lv_aload_n hx hb dL_set_0 rfl (lv_at hl 3 rfl) ?_
  refine lv_iconst (v := 0) hx hb dL_set_1 (by decide) ?_
  refine lv_aload_n hx hb dL_set_2 rfl (lv_at hl 0 rfl) ?_
  refine lv_iload_n hx hb dL_set_3 rfl (lv_at hl 1 rfl) ?_
  refine lv_iload_n hx hb dL_set_4 rfl (lv_at hl 2 rfl) ?_
  refine hVl (n := 2) (As := [.int 0, .int x0]) (rest := [.int 0, .ref h1]) hx hb hml hown hg okXX (cX5_set_453 l D hlt h0 x0 h2 v0 v1 v2 v3 v4 v5 v6 v7 v8 v9 v10 v11 v12 v13 v14 d0 d1) (mwV k985 k986 k987 k84 k988) ⟨rfl, by decide, by decide, by decide +kernel⟩ ⟨rfl, rfl, (Nat.le_of_ble_eq_true rfl), (Nat.le_of_ble_eq_true rfl)⟩ hP hD hK hS (okXX.2.2 _ _ _ _ hS.2.1 hX) [0, 1] [] rfl (by decide) rfl (aNil hA hS) 0 rfl rfl rfl hl.1 rfl (Nat.le_of_ble_eq_true rfl) dL_set_5 ⟨(Nat.le_of_ble_eq_true rfl), (Nat.le_of_ble_eq_true rfl)⟩ [{ startPc := 0, endPc := 9, handlerPc := 12, catchType := 13 }] { startPc := 0, endPc := 9, handlerPc := 16, catchType := 19 } [{ startPc := 0, endPc := 9, handlerPc := 20, catchType := 62 }] (htab.trans rfl) (fun z hz => (List.mem_cons.mp hz).elim (fun e9 => by rw [e9]; exact Or.inr ⟨by decide, "java/lang/IndexOutOfBoundsException", hg _ k605, XX_qIAE_IOOBE hX⟩) ((fun z h9 => nomatch h9) z)) (by decide) (by decide) (hg _ k684) (XX_cIAE hX) (fun q9 H locs hS hk => ?_)
  have hP : va_P D vwCl [] H := pNil
  have hD : va_D (fun _ => True) [] := dNil
  have hK : va_K D vwCl [] s := hK.sub [] rfl
  refine W.widen (k := 1) (n := 6) (Nat.le_of_ble_eq_true rfl) (Nat.le_of_ble_eq_true rfl) ?_
  refine lv_astore (lv' := [(4, .ref q9), (0, .ref h0), (1, .int 0), (2, .int x0), (3, .ref h1)]) hx hb dL_set_16 hl (by decide) rfl (fun ls hl => ?_)
  refine lv_iconst (v := 2) hx hb dL_set_18 (by decide) ?_
  exact fi0 hx hb hr hlocks hK hS (Nat.le_of_ble_eq_true rfl) (Nat.le_of_ble_eq_true rfl) dL_set_19
set_option maxHeartbeats 4000000 in
set_option maxRecDepth 100000 in
theorem cL_set_701 (l : Launch) (D : va_G) (hlt : l.stackTraces = false) (h0 : Nat) (x0 : Int32) (h1 : Nat) (h2 : Nat) (v0 : Value) (v1 : Value) (v2 : Value) (v3 : Value) (v4 : Value) (v5 : Value) (v6 : Value) (v7 : Value) (v8 : Value) (v9 : Value) (v10 : Value) (v11 : Value) (v12 : Value) (v13 : Value) (v14 : Value)  (d0 : x0 < (-9999)) : CH l yL_set cL_set 5 (some .int) [(0, 9, 12, 13), (0, 9, 16, 19), (0, 9, 20, 62)] { frames := 8, cells := 1, slots := 6, locals := 136 } [.ref h0, .int 1, .int x0, .ref h1] D [(h0, .inr (5, [v0, .ref h2, v1, v2, v3, v4, v5, v6, v7, v8])), (h2, .inr (0, [v9, v10, .int 2, v11, v12, v13, v14]))] [] XX [] (ei (fun _ : Unit => True) (fun _ => 2) (fun _ => []) (fun _ => []) D) 1 6 := by
  refine CH.ofR (by decide +kernel) (Nat.le_of_ble_eq_true rfl) ?_
  intro p e s m below meth c A ls hcs htab hP hK hD hX hA hS hl
  obtain ⟨hx, hb, hr, hml, hown, hg, hlocks, hin⟩ := hcs
  have hown : s.vm.findClass RL = some m.cls := hown
  have hl : lv_has ls 5 [(0, .ref h0), (1, .int 1), (2, .int x0), (3, .ref h1)] := hl
  refine lv_aload_n hx hb dL_set_0 rfl (lv_at hl 3 rfl) ?_
  refine lv_iconst (v := 0) hx hb dL_set_1 (by decide) ?_
  refine lv_aload_n hx hb dL_set_2 rfl (lv_at hl 0 rfl) ?_
  refine lv_iload_n hx hb dL_set_3 rfl (lv_at hl 1 rfl) ?_
  refine lv_iload_n hx hb dL_set_4 rfl (lv_at hl 2 rfl) ?_
  refine hVl (n := 2) (As := [.int 1, .int x0]) (rest := [.int 0, .ref h1]) hx hb hml hown hg okXX (cX5_set_455 l D hlt h0 x0 h2 v0 v1 v2 v3 v4 v5 v6 v7 v8 v9 v10 v11 v12 v13 v14 d0) (mwV k985 k986 k987 k84 k988) ⟨rfl, by decide, by decide, by decide +kernel⟩ ⟨rfl, rfl, (Nat.le_of_ble_eq_true rfl), (Nat.le_of_ble_eq_true rfl)⟩ hP hD hK hS (okXX.2.2 _ _ _ _ hS.2.1 hX) [0, 1] [] rfl (by decide) rfl (aNil hA hS) 0 rfl rfl rfl hl.1 rfl (Nat.le_of_ble_eq_true rfl) dL_set_5 ⟨(Nat.le_of_ble_eq_true rfl), (Nat.le_of_ble_eq_true rfl)⟩ [{ startPc := 0, endPc := 9, handlerPc := 12, catchType := 13 }] { startPc := 0, endPc := 9, handlerPc := 16, catchType := 19 } [{ startPc := 0, endPc := 9, handlerPc := 20, catchType := 62 }] (htab.trans rfl) (fun z hz => (List.mem_cons.mp hz).elim (fun e9 => by rw [e9]; exact Or.inr ⟨by decide, "java/lang/IndexOutOfBoundsException", hg _ k605, XX_qIAE_IOOBE hX⟩) ((fun z h9 => nomatch h9) z)) (by decide) (by decide) (hg _ k684) (XX_cIAE hX) (fun q9 H locs hS hk => ?_)
  have hP : va_P D vwCl [] H := pNil
  have hD : va_D (fun _ => True) [] := dNil
  have hK : va_K D vwCl [] s := hK.sub [] rfl
  refine W.widen (k := 1) (n := 6) (Nat.le_of_ble_eq_true rfl) (Nat.le_of_ble_eq_true rfl) ?_
  refine lv_astore (lv' := [(4, .ref q9), (0, .ref h0), (1, .int 1), (2, .int x0), (3, .ref h1)]) hx hb dL_set_16 hl (by decide) rfl (fun ls hl => ?_)
  refine lv_iconst (v := 2) hx hb dL_set_18 (by decide) ?_
  exact fi0 hx hb hr hlocks hK hS (Nat.le_of_ble_eq_true rfl) (Nat.le_of_ble_eq_true rfl) dL_set_19
set_option maxHeartbeats 4000000 in
set_option maxRecDepth 100000 in
theorem cX5_needIndex_704 (l : Launch) (D : va_G)    : CT l yX5_needIndex cX5_needIndex 2 none { frames := 0, cells := 0, slots := 0, locals := 0 } [.int 1, .int 2] D [] [] XN [] (ev (fun _ : Unit => True) (fun _ => []) (fun _ => []) D) 0 0 := by
  refine CT.ofR (by decide +kernel) (Nat.le_of_ble_eq_true rfl) ?_
  intro p e s m below meth c A ls hcs hP hK hD hX hA hS hl
  obtain ⟨hx, hb, hr, hml, hown, hg, hlocks, hin⟩ := hcs
  have hown : s.vm.findClass RX5 = some m.cls := hown
  have hl : lv_has ls 2 [(0, .int 1), (1, .int 2)] := hl
  refine lv_iload_n hx hb dX5_needIndex_0 rfl (lv_at hl 0 rfl) ?_
  refine lv_if_lt (tgt := 9) hx hb dX5_needIndex_1 (by decide) (fun c9 => absurd c9 (by decide)) (fun _ => ?_)
  refine lv_iload_n hx hb dX5_needIndex_4 rfl (lv_at hl 0 rfl) ?_
  refine lv_iload_n hx hb dX5_needIndex_5 rfl (lv_at hl 1 rfl) ?_
  refine lv_icmp_lt (tgt := 20) hx hb dX5_needIndex_6 (by decide) (fun _ => ?_) (fun c9 => absurd (by decide) c9)
  exact fv0 hx hb hr hlocks hK hS (Nat.le_of_ble_eq_true rfl) (Nat.le_of_ble_eq_true rfl) dX5_needIndex_20
set_option maxHeartbeats 4000000 in
set_option maxRecDepth 100000 in
theorem cX1_isPresent_705 (l : Launch) (D : va_G) (h0 : Nat) (h1 : Nat) (v0 : Value) (v1 : Value) (v2 : Value) (v3 : Value) (v4 : Value) (v5 : Value) (v6 : Value) (v7 : Value) (v8 : Value) (v9 : Value) (v10 : Value) (v11 : Value) (f0 : Nat → Int32) (a0 : ClassId) (ef0_1 : f0 1 = (-1))  : CT l yX1_isPresent cX1_isPresent 2 (some .boolean) { frames := 0, cells := 0, slots := 0, locals := 0 } [.ref h0, .int 1] D [(h0, .inr (1, [v0, v1, v2, .ref h1, v3, v4, v5, v6, v7, v8, v9, v10, v11])), (h1, .inl (a0, 48, .inl f0))] [(a0, .int)] XN [] (ei (fun _ : Unit => True) (fun _ => 1) (fun _ => []) (fun _ => []) D) 0 0 := by
  refine CT.ofR (by decide +kernel) (Nat.le_of_ble_eq_true rfl) ?_
  intro p e s m below meth c A ls hcs hP hK hD hX hA hS hl
  obtain ⟨hx, hb, hr, hml, hown, hg, hlocks, hin⟩ := hcs
  have hown : s.vm.findClass RX1 = some m.cls := hown
  have hl : lv_has ls 2 [(0, .ref h0), (1, .int 1)] := hl
  refine lv_aload_n hx hb dX1_isPresent_0 rfl (lv_at hl 0 rfl) ?_
  refine va_get (D := D) (ci := 1) (v := .ref h1) (C := RX1) (T := TX1) (N := 13) hx hb hg inX1 hown hK hP 0 rfl rfl 3 (by decide) (hg _ k283) (fun _ h9 => h9) rfl dX1_isPresent_1 ?_
  refine lv_iload_n hx hb dX1_isPresent_4 rfl (lv_at hl 1 rfl) ?_
  refine aldI hx hb hK hP 1 0 rfl rfl 1 (by decide) (vin (by decide)) (v := (-1)) ef0_1 dX1_isPresent_5 ?_
  refine lv_iconst (v := (-1)) hx hb dX1_isPresent_6 (by decide) ?_
  refine lv_icmp_ne (tgt := 14) hx hb dX1_isPresent_7 (by decide) (fun c9 => absurd (by decide) c9) (fun _ => ?_)
  refine lv_iconst (v := 1) hx hb dX1_isPresent_10 (by decide) ?_
  refine lv_goto (tgt := 15) hx hb dX1_isPresent_11 (by decide) ?_
  exact fz0 hx hb hr rfl hlocks hK hS (Nat.le_of_ble_eq_true rfl) (Nat.le_of_ble_eq_true rfl) dX1_isPresent_15
set_option maxHeartbeats 4000000 in
set_option maxRecDepth 100000 in
theorem cX1_changeValue_706 (l : Launch) (D : va_G) (h0 : Nat) (x0 : Int32) (h1 : Nat) (h2 : Nat) (h3 : Nat) (h4 : Nat) (h5 : Nat) (h6 : Nat) (v0 : Value) (v1 : Value) (v2 : Value) (v3 : Value) (v4 : Value) (v5 : Value) (v6 : Value) (v7 : Value) (v8 : Value) (v9 : Value) (f0 : Nat → Option Nat) (f1 : Nat → Int64) (f2 : Nat → Int32) (f3 : Nat → Int32) (a0 : ClassId) (a1 : ClassId) (a2 : ClassId) (a3 : ClassId) (ef0_1 : f0 1 = some h4) (ef1_1 : f1 1 = 1) (ef2_0 : f2 0 = 0) (ef3_0 : f3 0 = 0) (d0 : ¬ (0 ≤ (lg_cmp x0.toInt64 0))) (d1 : ush32 (-x0.toInt64) = 0) (d2 : ¬ (((-x0.toInt64).toInt32) = 0)) (d3 : (((-x0.toInt64).toInt32).toInt64) &&& 4294967295 = (((-x0.toInt64).toInt32).toInt64)) (d4 : ¬ (0 ≤ (lg_cmp (-(((-x0.toInt64).toInt32).toInt64)) 0))) (d5 : ush32 (-(-(((-x0.toInt64).toInt32).toInt64))) = 0) (d6 : ¬ (((-(-(((-x0.toInt64).toInt32).toInt64))).toInt32) = 0)) : CT l yX1_changeValue cX1_changeValue 3 none { frames := 2, cells := 0, slots := 0, locals := 50 } [.ref h0, .int 1, .int x0] D [(h0, .inr (1, [v0, .ref h1, .ref h2, v1, v2, v3, .ref h3, v4, v5, v6, v7, v8, v9])), (h1, .inl (a0, 48, .inr (.inr (.inr (.inr f0))))), (h2, .inl (a1, 48, .inr (.inl f1))), (h3, .inr (4, [.ref h5, .int 0, .int 0])), (h4, .inr (4, [.ref h6, .int 0, .int 0])), (h5, .inl (a2, 2, .inl f2)), (h6, .inl (a3, 2, .inl f3))] [(a0, .object "LiftingSignal$Whole"), (a1, .long), (a2, .int), (a3, .int)] XN [(h0, .inr (1, [v0, .ref h1, .ref h2, v1, v2, v3, .ref h3, v4, v5, v6, v7, v8, v9])), (h1, .inl (a0, 48, .inr (.inr (.inr (.inr f0))))), (h2, .inl (a1, 48, .inr (.inl f1))), (h3, .inr (4, [.ref h5, .int 0, .int 0])), (h4, .inr (4, [.ref h6, .int 0, .int 0])), (h5, .inl (a2, 2, .inl f2)), (h6, .inl (a3, 2, .inl f3))] (ev (fun _ : Unit => True) (fun _ => [(h0, .inr (1, [v0, .ref h1, .ref h2, v1, v2, v3, .ref h3, v4, v5, v6, v7, v8, v9])), (h1, .inl (a0, 48, .inr (.inr (.inr (.inr f0))))), (h2, .inl (a1, 48, .inr (.inl f1))), (h3, .inr (4, [.ref h5, .int 1, .int 1])), (h4, .inr (4, [.ref h6, .int 1, .int 1])), (h5, .inl (a2, 2, .inl (upd (upd (upd (upd f2 0 0) 1 0) 0 ((-(-(((-x0.toInt64).toInt32).toInt64))).toInt32)) 1 0))), (h6, .inl (a3, 2, .inl (upd (upd f3 0 ((-x0.toInt64).toInt32)) 1 0)))]) (fun u => [(a0, .object "LiftingSignal$Whole"), (a1, .long), (a2, .int), (a3, .int)]) D) 0 0 := by
  refine CT.ofW (by decide +kernel) (Nat.le_of_ble_eq_true rfl) ?_
  intro p e s m below meth c A ls hcs hP hK hD hX hA hS hl
  obtain ⟨hx, hb, hr, hml, hown, hg, hlocks, hin⟩ := hcs
  have hown : s.vm.findClass RX1 = some m.cls := hown
  have hl : lv_has ls 3 [(0, .ref h0), (1, .int 1), (2, .int x0)] := hl
  refine lv_aload_n hx hb dX1_changeValue_0 rfl (lv_at hl 0 rfl) ?_
  refine va_get (D := D) (ci := 1) (v := .ref h3) (C := RX1) (T := TX1) (N := 13) hx hb hg inX1 hown hK hP 0 rfl rfl 6 (by decide) (hg _ k289) (fun _ h9 => h9) rfl dX1_changeValue_1 ?_
  refine lv_aload_n hx hb dX1_changeValue_4 rfl (lv_at hl 0 rfl) ?_
  refine va_get (D := D) (ci := 1) (v := .ref h1) (C := RX1) (T := TX1) (N := 13) hx hb hg inX1 hown hK hP 0 rfl rfl 1 (by decide) (hg _ k279) (fun _ h9 => h9) rfl dX1_changeValue_5 ?_
  refine lv_iload_n hx hb dX1_changeValue_8 rfl (lv_at hl 1 rfl) ?_
  refine aldQ hx hb hK hP 1 0 rfl rfl 1 (by decide) (vin (by decide)) (v := h4) ef0_1 dX1_changeValue_9 ?_
  refine lv_aload_n hx hb dX1_changeValue_10 rfl (lv_at hl 0 rfl) ?_
  refine va_get (D := D) (ci := 1) (v := .ref h2) (C := RX1) (T := TX1) (N := 13) hx hb hg inX1 hown hK hP 0 rfl rfl 2 (by decide) (hg _ k281) (fun _ h9 => h9) rfl dX1_changeValue_11 ?_
  refine lv_iload_n hx hb dX1_changeValue_14 rfl (lv_at hl 1 rfl) ?_
  refine aldL hx hb hK hP 2 1 rfl rfl 1 (by decide) (vin (by decide)) (v := 1) ef1_1 dX1_changeValue_15 ?_
  refine lv_lneg hx hb dX1_changeValue_16 ?_
  refine tl ((-1)) (by decide) ?_
  refine cVv (n := 2) (As := [.ref h4, .long (-1)]) (rest := []) (wr := [(h0, .inr (1, [v0, .ref h1, .ref h2, v1, v2, v3, .ref h3, v4, v5, v6, v7, v8, v9])), (h1, .inl (a0, 48, .inr (.inr (.inr (.inr f0))))), (h2, .inl (a1, 48, .inr (.inl f1)))]) (tr := [(a0, .object "LiftingSignal$Whole"), (a1, .long)]) hx hb hml hown hg okN (cX4_add_680 l D h3 h4 h5 h6 f2 f3 a2 a3 ef2_0 ef3_0) (mwV k340 k341 k342 k88 k343) ⟨rfl, by decide, by decide, by decide +kernel⟩ ⟨rfl, rfl, (Nat.le_of_ble_eq_true rfl), (Nat.le_of_ble_eq_true rfl)⟩ hP hD hK hS xn [3, 4, 5, 6] [3, 4, 5, 6] [0, 1, 2] [2, 3] [0, 1] rfl (by decide) rfl rfl (by decide) (by decide) rfl rfl (va_free hD hS hA [3, 4, 5, 6] rfl) (va_free hD hS hA [3, 4, 5, 6] rfl) 3 rfl rfl rfl hl.1 rfl (Nat.le_of_ble_eq_true rfl) dX1_changeValue_17 ⟨(Nat.le_of_ble_eq_true rfl), (Nat.le_of_ble_eq_true rfl)⟩ (fun u H locs hφ hP hD hK hS hk => ?_)
  have hP : va_P D vwCl [(h0, .inr (1, [v0, .ref h1, .ref h2, v1, v2, v3, .ref h3, v4, v5, v6, v7, v8, v9])), (h1, .inl (a0, 48, .inr (.inr (.inr (.inr f0))))), (h2, .inl (a1, 48, .inr (.inl f1))), (h3, .inr (4, [.ref h5, .int 0, .int 0])), (h4, .inr (4, [.ref h6, .int 0, .int 0])), (h5, .inl (a2, 2, .inl (upd (upd f2 0 0) 1 0))), (h6, .inl (a3, 2, .inl f3))] H := hP
  have hD : va_D A [(h0, .inr (1, [v0, .ref h1, .ref h2, v1, v2, v3, .ref h3, v4, v5, v6, v7, v8, v9])), (h1, .inl (a0, 48, .inr (.inr (.inr (.inr f0))))), (h2, .inl (a1, 48, .inr (.inl f1))), (h3, .inr (4, [.ref h5, .int 0, .int 0])), (h4, .inr (4, [.ref h6, .int 0, .int 0])), (h5, .inl (a2, 2, .inl (upd (upd f2 0 0) 1 0))), (h6, .inl (a3, 2, .inl f3))] := hD
  have hK : va_K D vwCl [(a0, .object "LiftingSignal$Whole"), (a1, .long), (a2, .int), (a3, .int)] s := hK
  refine W.widen (k := 0) (n := 0) (Nat.le_of_ble_eq_true rfl) (Nat.le_of_ble_eq_true rfl) ?_
  refine lv_aload_n hx hb dX1_changeValue_20 rfl (lv_at hl 0 rfl) ?_
  refine va_get (D := D) (ci := 1) (v := .ref h1) (C := RX1) (T := TX1) (N := 13) hx hb hg inX1 hown hK hP 0 rfl rfl 1 (by decide) (hg _ k279) (fun _ h9 => h9) rfl dX1_changeValue_21 ?_
  refine lv_iload_n hx hb dX1_changeValue_24 rfl (lv_at hl 1 rfl) ?_
  refine aldQ hx hb hK hP 1 0 rfl rfl 1 (by decide) (vin (by decide)) (v := h4) ef0_1 dX1_changeValue_25 ?_
  refine lv_iload_n hx hb dX1_changeValue_26 rfl (lv_at hl 2 rfl) ?_
  refine lv_i2l (v := x0.toInt64) hx hb dX1_changeValue_27 rfl ?_
  refine cVv (n := 1) (As := [.long x0.toInt64]) (rest := []) (wr := [(h0, .inr (1, [v0, .ref h1, .ref h2, v1, v2, v3, .ref h3, v4, v5, v6, v7, v8, v9])), (h1, .inl (a0, 48, .inr (.inr (.inr (.inr f0))))), (h2, .inl (a1, 48, .inr (.inl f1))), (h3, .inr (4, [.ref h5, .int 0, .int 0])), (h5, .inl (a2, 2, .inl (upd (upd f2 0 0) 1 0)))]) (tr := [(a0, .object "LiftingSignal$Whole"), (a1, .long), (a2, .int)]) hx hb hml hown hg okN (cX4_become_683 l D h4 x0 h6 (.int 0) (.int 0) f3 a3 d0 d1 d2) (mwV k274 k275 k276 k88 k277) ⟨rfl, by decide, by decide, by decide +kernel⟩ ⟨rfl, rfl, (Nat.le_of_ble_eq_true rfl), (Nat.le_of_ble_eq_true rfl)⟩ hP hD hK hS xn [4, 6] [4, 6] [0, 1, 2, 3, 5] [3] [0, 1, 2] rfl (by decide) rfl rfl (by decide) (by decide) rfl rfl (va_free hD hS hA [4, 6] rfl) (va_free hD hS hA [4, 6] rfl) 4 rfl rfl rfl hl.1 rfl (Nat.le_of_ble_eq_true rfl) dX1_changeValue_28 ⟨(Nat.le_of_ble_eq_true rfl), (Nat.le_of_ble_eq_true rfl)⟩ (fun u H locs hφ hP hD hK hS hk => ?_)
  have hP : va_P D vwCl [(h0, .inr (1, [v0, .ref h1, .ref h2, v1, v2, v3, .ref h3, v4, v5, v6, v7, v8, v9])), (h1, .inl (a0, 48, .inr (.inr (.inr (.inr f0))))), (h2, .inl (a1, 48, .inr (.inl f1))), (h3, .inr (4, [.ref h5, .int 0, .int 0])), (h5, .inl (a2, 2, .inl (upd (upd f2 0 0) 1 0))), (h4, .inr (4, [.ref h6, .int 1, .int 1])), (h6, .inl (a3, 2, .inl (upd (upd f3 0 ((-x0.toInt64).toInt32)) 1 0)))] H := hP
  have hD : va_D A [(h0, .inr (1, [v0, .ref h1, .ref h2, v1, v2, v3, .ref h3, v4, v5, v6, v7, v8, v9])), (h1, .inl (a0, 48, .inr (.inr (.inr (.inr f0))))), (h2, .inl (a1, 48, .inr (.inl f1))), (h3, .inr (4, [.ref h5, .int 0, .int 0])), (h5, .inl (a2, 2, .inl (upd (upd f2 0 0) 1 0))), (h4, .inr (4, [.ref h6, .int 1, .int 1])), (h6, .inl (a3, 2, .inl (upd (upd f3 0 ((-x0.toInt64).toInt32)) 1 0)))] := hD
  have hK : va_K D vwCl [(a0, .object "LiftingSignal$Whole"), (a1, .long), (a2, .int), (a3, .int)] s := hK
  refine W.widen (k := 0) (n := 0) (Nat.le_of_ble_eq_true rfl) (Nat.le_of_ble_eq_true rfl) ?_
  refine lv_aload_n hx hb dX1_changeValue_31 rfl (lv_at hl 0 rfl) ?_
  refine va_get (D := D) (ci := 1) (v := .ref h3) (C := RX1) (T := TX1) (N := 13) hx hb hg inX1 hown hK hP 0 rfl rfl 6 (by decide) (hg _ k289) (fun _ h9 => h9) rfl dX1_changeValue_32 ?_
  refine lv_aload_n hx hb dX1_changeValue_35 rfl (lv_at hl 0 rfl) ?_
  refine va_get (D := D) (ci := 1) (v := .ref h1) (C := RX1) (T := TX1) (N := 13) hx hb hg inX1 hown hK hP 0 rfl rfl 1 (by decide) (hg _ k279) (fun _ h9 => h9) rfl dX1_changeValue_36 ?_
  refine lv_iload_n hx hb dX1_changeValue_39 rfl (lv_at hl 1 rfl) ?_
  refine aldQ hx hb hK hP 1 0 rfl rfl 1 (by decide) (vin (by decide)) (v := h4) ef0_1 dX1_changeValue_40 ?_
  refine lv_aload_n hx hb dX1_changeValue_41 rfl (lv_at hl 0 rfl) ?_
  refine va_get (D := D) (ci := 1) (v := .ref h2) (C := RX1) (T := TX1) (N := 13) hx hb hg inX1 hown hK hP 0 rfl rfl 2 (by decide) (hg _ k281) (fun _ h9 => h9) rfl dX1_changeValue_42 ?_
  refine lv_iload_n hx hb dX1_changeValue_45 rfl (lv_at hl 1 rfl) ?_
  refine aldL hx hb hK hP 2 1 rfl rfl 1 (by decide) (vin (by decide)) (v := 1) ef1_1 dX1_changeValue_46 ?_
  refine cVv (n := 2) (As := [.ref h4, .long 1]) (rest := []) (wr := [(h0, .inr (1, [v0, .ref h1, .ref h2, v1, v2, v3, .ref h3, v4, v5, v6, v7, v8, v9])), (h1, .inl (a0, 48, .inr (.inr (.inr (.inr f0))))), (h2, .inl (a1, 48, .inr (.inl f1)))]) (tr := [(a0, .object "LiftingSignal$Whole"), (a1, .long)]) hx hb hml hown hg okN (cX4_add_684 l D h3 h4 h5 h6 (upd (upd f2 0 0) 1 0) (upd (upd f3 0 ((-x0.toInt64).toInt32)) 1 0) ((-x0.toInt64).toInt32) a2 a3 rfl rfl d3 d4 d5 d6) (mwV k340 k341 k342 k88 k343) ⟨rfl, by decide, by decide, by decide +kernel⟩ ⟨rfl, rfl, (Nat.le_of_ble_eq_true rfl), (Nat.le_of_ble_eq_true rfl)⟩ hP hD hK hS xn [3, 5, 4, 6] [3, 5, 4, 6] [0, 1, 2] [2, 3] [0, 1] rfl (by decide) rfl rfl (by decide) (by decide) rfl rfl (va_free hD hS hA [3, 5, 4, 6] rfl) (va_free hD hS hA [3, 5, 4, 6] rfl) 3 rfl rfl rfl hl.1 rfl (Nat.le_of_ble_eq_true rfl) dX1_changeValue_47 ⟨(Nat.le_of_ble_eq_true rfl), (Nat.le_of_ble_eq_true rfl)⟩ (fun u H locs hφ hP hD hK hS hk => ?_)
  have hP : va_P D vwCl [(h0, .inr (1, [v0, .ref h1, .ref h2, v1, v2, v3, .ref h3, v4, v5, v6, v7, v8, v9])), (h1, .inl (a0, 48, .inr (.inr (.inr (.inr f0))))), (h2, .inl (a1, 48, .inr (.inl f1))), (h3, .inr (4, [.ref h5, .int 1, .int 1])), (h4, .inr (4, [.ref h6, .int 1, .int 1])), (h5, .inl (a2, 2, .inl (upd (upd (upd (upd f2 0 0) 1 0) 0 ((-(-(((-x0.toInt64).toInt32).toInt64))).toInt32)) 1 0))), (h6, .inl (a3, 2, .inl (upd (upd f3 0 ((-x0.toInt64).toInt32)) 1 0)))] H := hP
  have hD : va_D A [(h0, .inr (1, [v0, .ref h1, .ref h2, v1, v2, v3, .ref h3, v4, v5, v6, v7, v8, v9])), (h1, .inl (a0, 48, .inr (.inr (.inr (.inr f0))))), (h2, .inl (a1, 48, .inr (.inl f1))), (h3, .inr (4, [.ref h5, .int 1, .int 1])), (h4, .inr (4, [.ref h6, .int 1, .int 1])), (h5, .inl (a2, 2, .inl (upd (upd (upd (upd f2 0 0) 1 0) 0 ((-(-(((-x0.toInt64).toInt32).toInt64))).toInt32)) 1 0))), (h6, .inl (a3, 2, .inl (upd (upd f3 0 ((-x0.toInt64).toInt32)) 1 0)))] := hD
  have hK : va_K D vwCl [(a0, .object "LiftingSignal$Whole"), (a1, .long), (a2, .int), (a3, .int)] s := hK
  refine W.widen (k := 0) (n := 0) (Nat.le_of_ble_eq_true rfl) (Nat.le_of_ble_eq_true rfl) ?_
  exact fv hx hb hr hlocks hP hD hK hS (()) trivial [0, 1, 2, 3, 4, 5, 6] [0, 1, 2, 3] rfl (by decide) rfl (Nat.le_of_ble_eq_true rfl) (Nat.le_of_ble_eq_true rfl) dX1_changeValue_50
set_option maxHeartbeats 4000000 in
set_option maxRecDepth 100000 in
theorem cX5_set_703 (l : Launch) (D : va_G) (h0 : Nat) (x0 : Int32) (h1 : Nat) (h2 : Nat) (h3 : Nat) (h4 : Nat) (h5 : Nat) (h6 : Nat) (h7 : Nat) (h8 : Nat) (h9 : Nat) (v0 : Value) (v1 : Value) (v2 : Value) (v3 : Value) (v4 : Value) (v5 : Value) (v6 : Value) (v7 : Value) (v8 : Value) (v9 : Value) (v10 : Value) (v11 : Value) (v12 : Value) (v13 : Value) (v14 : Value) (v15 : Value) (v16 : Value) (v17 : Value) (v18 : Value) (v19 : Value) (v20 : Value) (v21 : Value) (v22 : Value) (f0 : Nat → Int32) (f1 : Nat → Option Nat) (f2 : Nat → Int64) (f3 : Nat → Int32) (f4 : Nat → Int32) (a0 : ClassId) (a1 : ClassId) (a2 : ClassId) (a3 : ClassId) (a4 : ClassId) (ef0_1 : f0 1 = (-1)) (ef1_1 : f1 1 = some h5) (ef2_1 : f2 1 = 1) (ef3_0 : f3 0 = 0) (ef4_0 : f4 0 = 0) (d0 : ¬ (x0 < (-9999))) (d1 : x0 ≤ 9999) (d2 : ¬ (0 ≤ (lg_cmp x0.toInt64 0))) (d3 : ush32 (-x0.toInt64) = 0) (d4 : ¬ (((-x0.toInt64).toInt32) = 0)) (d5 : (((-x0.toInt64).toInt32).toInt64) &&& 4294967295 = (((-x0.toInt64).toInt32).toInt64)) (d6 : ¬ (0 ≤ (lg_cmp (-(((-x0.toInt64).toInt32).toInt64)) 0))) (d7 : ush32 (-(-(((-x0.toInt64).toInt32).toInt64))) = 0) (d8 : ¬ (((-(-(((-x0.toInt64).toInt32).toInt64))).toInt32) = 0)) : CT l yX5_set cX5_set 5 (some .long) { frames := 3, cells := 0, slots := 0, locals := 72 } [.ref h0, .int 1, .int x0] D [(h0, .inr (5, [v0, .ref h1, v1, .ref h2, v2, v3, v4, v5, v6, v7])), (h1, .inr (0, [v8, v9, .int 2, v10, v11, v12, v13])), (h2, .inr (1, [v14, .ref h4, .ref h6, .ref h3, v15, v16, .ref h7, v17, v18, v19, v20, v21, v22])), (h3, .inl (a0, 48, .inl f0)), (h4, .inl (a1, 48, .inr (.inr (.inr (.inr f1))))), (h5, .inr (4, [.ref h9, .int 0, .int 0])), (h6, .inl (a2, 48, .inr (.inl f2))), (h7, .inr (4, [.ref h8, .int 0, .int 0])), (h8, .inl (a3, 2, .inl f3)), (h9, .inl (a4, 2, .inl f4))] [(a0, .int), (a1, .object "LiftingSignal$Whole"), (a2, .long), (a3, .int), (a4, .int)] XN [(h0, .inr (5, [v0, .ref h1, v1, .ref h2, v2, v3, v4, v5, v6, v7])), (h1, .inr (0, [v8, v9, .int 2, v10, v11, v12, v13])), (h2, .inr (1, [v14, .ref h4, .ref h6, .ref h3, v15, v16, .ref h7, v17, v18, v19, v20, v21, v22])), (h3, .inl (a0, 48, .inl f0)), (h4, .inl (a1, 48, .inr (.inr (.inr (.inr f1))))), (h5, .inr (4, [.ref h9, .int 0, .int 0])), (h6, .inl (a2, 48, .inr (.inl f2))), (h7, .inr (4, [.ref h8, .int 0, .int 0])), (h8, .inl (a3, 2, .inl f3)), (h9, .inl (a4, 2, .inl f4))] (el (fun _ : Unit => True) (fun u => 0) (fun _ => [(h0, .inr (5, [v0, .ref h1, v1, .ref h2, v2, v3, v4, v5, v6, v7])), (h1, .inr (0, [v8, v9, .int 2, v10, v11, v12, v13])), (h2, .inr (1, [v14, .ref h4, .ref h6, .ref h3, v15, v16, .ref h7, v17, v18, v19, v20, v21, v22])), (h3, .inl (a0, 48, .inl f0)), (h4, .inl (a1, 48, .inr (.inr (.inr (.inr f1))))), (h5, .inr (4, [.ref h9, .int 1, .int 1])), (h6, .inl (a2, 48, .inr (.inl f2))), (h7, .inr (4, [.ref h8, .int 1, .int 1])), (h8, .inl (a3, 2, .inl (upd (upd (upd (upd f3 0 0) 1 0) 0 ((-(-(((-x0.toInt64).toInt32).toInt64))).toInt32)) 1 0))), (h9, .inl (a4, 2, .inl (upd (upd f4 0 ((-x0.toInt64).toInt32)) 1 0)))]) (fun u => [(a0, .int), (a1, .object "LiftingSignal$Whole"), (a2, .long), (a3, .int), (a4, .int)]) D) 0 0 := by
  refine CT.ofW (by decide +kernel) (Nat.le_of_ble_eq_true rfl) ?_
  intro p e s m below meth c A ls hcs hP hK hD hX hA hS hl
  obtain ⟨hx, hb, hr, hml, hown, hg, hlocks, hin⟩ := hcs
  have hown : s.vm.findClass RX5 = some m.cls := hown
  have hl : lv_has ls 5 [(0, .ref h0), (1, .int 1), (2, .int x0)] := hl
  refine lv_iload_n hx hb dX5_set_0 rfl (lv_at hl 1 rfl) ?_
  refine lv_aload_n hx hb dX5_set_1 rfl (lv_at hl 0 rfl) ?_
  refine va_get (D := D) (ci := 5) (v := .ref h1) (C := RX5) (T := TX5) (N := 10) hx hb hg inX5 hown hK hP 0 rfl rfl 1 (by decide) (hg _ k380) (fun _ h9 => h9) rfl dX5_set_2 ?_
  refine va_get (D := D) (ci := 0) (v := .int 2) (C := RX0) (T := TX0) (N := 7) hx hb hg inX0 hown hK hP 1 rfl rfl 2 (by decide) (hg _ k163) (fun _ h9 => h9) rfl dX5_set_5 ?_
  refine cSv (n := 2) (As := [.int 1, .int 2]) (rest := []) (wr := [(h0, .inr (5, [v0, .ref h1, v1, .ref h2, v2, v3, v4, v5, v6, v7])), (h1, .inr (0, [v8, v9, .int 2, v10, v11, v12, v13])), (h2, .inr (1, [v14, .ref h4, .ref h6, .ref h3, v15, v16, .ref h7, v17, v18, v19, v20, v21, v22])), (h3, .inl (a0, 48, .inl f0)), (h4, .inl (a1, 48, .inr (.inr (.inr (.inr f1))))), (h5, .inr (4, [.ref h9, .int 0, .int 0])), (h6, .inl (a2, 48, .inr (.inl f2))), (h7, .inr (4, [.ref h8, .int 0, .int 0])), (h8, .inl (a3, 2, .inl f3)), (h9, .inl (a4, 2, .inl f4))]) (tr := [(a0, .int), (a1, .object "LiftingSignal$Whole"), (a2, .long), (a3, .int), (a4, .int)]) hx hb hml hown hg okN (cX5_needIndex_704 l D) (mwS k610 k611 k84 k612) ⟨rfl, by decide, by decide, by decide +kernel⟩ ⟨rfl, rfl, (Nat.le_of_ble_eq_true rfl), (Nat.le_of_ble_eq_true rfl)⟩ hP hD hK hS xn [] [] [0, 1, 2, 3, 4, 5, 6, 7, 8, 9] [] [0, 1, 2, 3, 4] rfl (by decide) rfl rfl (by decide) (by decide) rfl rfl (aNil hA hS) (aNil hA hS) rfl hl.1 rfl (Nat.le_of_ble_eq_true rfl) dX5_set_8 ⟨(Nat.le_of_ble_eq_true rfl), (Nat.le_of_ble_eq_true rfl)⟩ (fun u H locs hφ hP hD hK hS hk => ?_)
  have hP : va_P D vwCl [(h0, .inr (5, [v0, .ref h1, v1, .ref h2, v2, v3, v4, v5, v6, v7])), (h1, .inr (0, [v8, v9, .int 2, v10, v11, v12, v13])), (h2, .inr (1, [v14, .ref h4, .ref h6, .ref h3, v15, v16, .ref h7, v17, v18, v19, v20, v21, v22])), (h3, .inl (a0, 48, .inl f0)), (h4, .inl (a1, 48, .inr (.inr (.inr (.inr f1))))), (h5, .inr (4, [.ref h9, .int 0, .int 0])), (h6, .inl (a2, 48, .inr (.inl f2))), (h7, .inr (4, [.ref h8, .int 0, .int 0])), (h8, .inl (a3, 2, .inl f3)), (h9, .inl (a4, 2, .inl f4))] H := hP
  have hD : va_D A [(h0, .inr (5, [v0, .ref h1, v1, .ref h2, v2, v3, v4, v5, v6, v7])), (h1, .inr (0, [v8, v9, .int 2, v10, v11, v12, v13])), (h2, .inr (1, [v14, .ref h4, .ref h6, .ref h3, v15, v16, .ref h7, v17, v18, v19, v20, v21, v22])), (h3, .inl (a0, 48, .inl f0)), (h4, .inl (a1, 48, .inr (.inr (.inr (.inr f1))))), (h5, .inr (4, [.ref h9, .int 0, .int 0])), (h6, .inl (a2, 48, .inr (.inl f2))), (h7, .inr (4, [.ref h8, .int 0, .int 0])), (h8, .inl (a3, 2, .inl f3)), (h9, .inl (a4, 2, .inl f4))] := hD
  have hK : va_K D vwCl [(a0, .int), (a1, .object "LiftingSignal$Whole"), (a2, .long), (a3, .int), (a4, .int)] s := hK
  refine W.widen (k := 0) (n := 0) (Nat.le_of_ble_eq_true rfl) (Nat.le_of_ble_eq_true rfl) ?_
  refine lv_iload_n hx hb dX5_set_11 rfl (lv_at hl 2 rfl) ?_
  refine lv_sipush (v := (-9999)) hx hb dX5_set_12 (by decide) ?_
  refine lv_sipush (v := 9999) hx hb dX5_set_15 (by decide) ?_
  refine cSv (n := 3) (As := [.int x0, .int (-9999), .int 9999]) (rest := []) (wr := [(h0, .inr (5, [v0, .ref h1, v1, .ref h2, v2, v3, v4, v5, v6, v7])), (h1, .inr (0, [v8, v9, .int 2, v10, v11, v12, v13])), (h2, .inr (1, [v14, .ref h4, .ref h6, .ref h3, v15, v16, .ref h7, v17, v18, v19, v20, v21, v22])), (h3, .inl (a0, 48, .inl f0)), (h4, .inl (a1, 48, .inr (.inr (.inr (.inr f1))))), (h5, .inr (4, [.ref h9, .int 0, .int 0])), (h6, .inl (a2, 48, .inr (.inl f2))), (h7, .inr (4, [.ref h8, .int 0, .int 0])), (h8, .inl (a3, 2, .inl f3)), (h9, .inl (a4, 2, .inl f4))]) (tr := [(a0, .int), (a1, .object "LiftingSignal$Whole"), (a2, .long), (a3, .int), (a4, .int)]) hx hb hml hown hg okN (cX5_needRange_673 l D x0 d0 d1) (mwS k909 k910 k84 k911) ⟨rfl, by decide, by decide, by decide +kernel⟩ ⟨rfl, rfl, (Nat.le_of_ble_eq_true rfl), (Nat.le_of_ble_eq_true rfl)⟩ hP hD hK hS xn [] [] [0, 1, 2, 3, 4, 5, 6, 7, 8, 9] [] [0, 1, 2, 3, 4] rfl (by decide) rfl rfl (by decide) (by decide) rfl rfl (aNil hA hS) (aNil hA hS) rfl hl.1 rfl (Nat.le_of_ble_eq_true rfl) dX5_set_18 ⟨(Nat.le_of_ble_eq_true rfl), (Nat.le_of_ble_eq_true rfl)⟩ (fun u H locs hφ hP hD hK hS hk => ?_)
  have hP : va_P D vwCl [(h0, .inr (5, [v0, .ref h1, v1, .ref h2, v2, v3, v4, v5, v6, v7])), (h1, .inr (0, [v8, v9, .int 2, v10, v11, v12, v13])), (h2, .inr (1, [v14, .ref h4, .ref h6, .ref h3, v15, v16, .ref h7, v17, v18, v19, v20, v21, v22])), (h3, .inl (a0, 48, .inl f0)), (h4, .inl (a1, 48, .inr (.inr (.inr (.inr f1))))), (h5, .inr (4, [.ref h9, .int 0, .int 0])), (h6, .inl (a2, 48, .inr (.inl f2))), (h7, .inr (4, [.ref h8, .int 0, .int 0])), (h8, .inl (a3, 2, .inl f3)), (h9, .inl (a4, 2, .inl f4))] H := hP
  have hD : va_D A [(h0, .inr (5, [v0, .ref h1, v1, .ref h2, v2, v3, v4, v5, v6, v7])), (h1, .inr (0, [v8, v9, .int 2, v10, v11, v12, v13])), (h2, .inr (1, [v14, .ref h4, .ref h6, .ref h3, v15, v16, .ref h7, v17, v18, v19, v20, v21, v22])), (h3, .inl (a0, 48, .inl f0)), (h4, .inl (a1, 48, .inr (.inr (.inr (.inr f1))))), (h5, .inr (4, [.ref h9, .int 0, .int 0])), (h6, .inl (a2, 48, .inr (.inl f2))), (h7, .inr (4, [.ref h8, .int 0, .int 0])), (h8, .inl (a3, 2, .inl f3)), (h9, .inl (a4, 2, .inl f4))] := hD
  have hK : va_K D vwCl [(a0, .int), (a1, .object "LiftingSignal$Whole"), (a2, .long), (a3, .int), (a4, .int)] s := hK
  refine W.widen (k := 0) (n := 0) (Nat.le_of_ble_eq_true rfl) (Nat.le_of_ble_eq_true rfl) ?_
  refine lv_aload_n hx hb dX5_set_21 rfl (lv_at hl 0 rfl) ?_
  refine va_get (D := D) (ci := 5) (v := .ref h2) (C := RX5) (T := TX5) (N := 10) hx hb hg inX5 hown hK hP 0 rfl rfl 3 (by decide) (hg _ k382) (fun _ h9 => h9) rfl dX5_set_22 ?_
  refine lv_iload_n hx hb dX5_set_25 rfl (lv_at hl 1 rfl) ?_
  refine cVi (n := 1) (As := [.int 1]) (rest := []) (wr := [(h0, .inr (5, [v0, .ref h1, v1, .ref h2, v2, v3, v4, v5, v6, v7])), (h1, .inr (0, [v8, v9, .int 2, v10, v11, v12, v13])), (h2, .inr (1, [v14, .ref h4, .ref h6, .ref h3, v15, v16, .ref h7, v17, v18, v19, v20, v21, v22])), (h3, .inl (a0, 48, .inl f0)), (h4, .inl (a1, 48, .inr (.inr (.inr (.inr f1))))), (h5, .inr (4, [.ref h9, .int 0, .int 0])), (h6, .inl (a2, 48, .inr (.inl f2))), (h7, .inr (4, [.ref h8, .int 0, .int 0])), (h8, .inl (a3, 2, .inl f3)), (h9, .inl (a4, 2, .inl f4))]) (tr := [(a0, .int), (a1, .object "LiftingSignal$Whole"), (a2, .long), (a3, .int), (a4, .int)]) hx hb hml hown hg okN (cX1_isPresent_705 l D h2 h3 v14 (.ref h4) (.ref h6) v15 v16 (.ref h7) v17 v18 v19 v20 v21 v22 f0 a0 ef0_1) (mwV k861 k460 k461 k87 k462) ⟨rfl, by decide, by decide, by decide +kernel⟩ ⟨rfl, rfl, (Nat.le_of_ble_eq_true rfl), (Nat.le_of_ble_eq_true rfl)⟩ hP hD hK hS xn [2, 3] [] [0, 1, 2, 3, 4, 5, 6, 7, 8, 9] [0] [0, 1, 2, 3, 4] rfl (by decide) rfl rfl (by decide) (by decide) rfl rfl (aNil hA hS) (aNil hA hS) 2 rfl rfl rfl hl.1 rfl (Nat.le_of_ble_eq_true rfl) dX5_set_26 ⟨(Nat.le_of_ble_eq_true rfl), (Nat.le_of_ble_eq_true rfl)⟩ (fun u H locs hφ hP hD hK hS hk => ?_)
  have hP : va_P D vwCl [(h0, .inr (5, [v0, .ref h1, v1, .ref h2, v2, v3, v4, v5, v6, v7])), (h1, .inr (0, [v8, v9, .int 2, v10, v11, v12, v13])), (h2, .inr (1, [v14, .ref h4, .ref h6, .ref h3, v15, v16, .ref h7, v17, v18, v19, v20, v21, v22])), (h3, .inl (a0, 48, .inl f0)), (h4, .inl (a1, 48, .inr (.inr (.inr (.inr f1))))), (h5, .inr (4, [.ref h9, .int 0, .int 0])), (h6, .inl (a2, 48, .inr (.inl f2))), (h7, .inr (4, [.ref h8, .int 0, .int 0])), (h8, .inl (a3, 2, .inl f3)), (h9, .inl (a4, 2, .inl f4))] H := hP
  have hD : va_D A [(h0, .inr (5, [v0, .ref h1, v1, .ref h2, v2, v3, v4, v5, v6, v7])), (h1, .inr (0, [v8, v9, .int 2, v10, v11, v12, v13])), (h2, .inr (1, [v14, .ref h4, .ref h6, .ref h3, v15, v16, .ref h7, v17, v18, v19, v20, v21, v22])), (h3, .inl (a0, 48, .inl f0)), (h4, .inl (a1, 48, .inr (.inr (.inr (.inr f1))))), (h5, .inr (4, [.ref h9, .int 0, .int 0])), (h6, .inl (a2, 48, .inr (.inl f2))), (h7, .inr (4, [.ref h8, .int 0, .int 0])), (h8, .inl (a3, 2, .inl f3)), (h9, .inl (a4, 2, .inl f4))] := hD
  have hK : va_K D vwCl [(a0, .int), (a1, .object "LiftingSignal$Whole"), (a2, .long), (a3, .int), (a4, .int)] s := hK
  refine W.widen (k := 0) (n := 0) (Nat.le_of_ble_eq_true rfl) (Nat.le_of_ble_eq_true rfl) ?_
  refine lv_if_ne (tgt := 40) hx hb dX5_set_29 (by decide) (fun _ => ?_) (fun c9 => absurd c9 (by decide))
  refine lv_aload_n hx hb dX5_set_40 rfl (lv_at hl 0 rfl) ?_
  refine va_get (D := D) (ci := 5) (v := .ref h2) (C := RX5) (T := TX5) (N := 10) hx hb hg inX5 hown hK hP 0 rfl rfl 3 (by decide) (hg _ k382) (fun _ h9 => h9) rfl dX5_set_41 ?_
  refine va_get (D := D) (ci := 1) (v := .ref h4) (C := RX1) (T := TX1) (N := 13) hx hb hg inX1 hown hK hP 2 rfl rfl 1 (by decide) (hg _ k280) (fun _ h9 => h9) rfl dX5_set_44 ?_
  refine lv_iload_n hx hb dX5_set_47 rfl (lv_at hl 1 rfl) ?_
  refine aldQ hx hb hK hP 4 1 rfl rfl 1 (by decide) (vin (by decide)) (v := h5) ef1_1 dX5_set_48 ?_
  refine cVl (n := 0) (As := []) (rest := []) (wr := [(h0, .inr (5, [v0, .ref h1, v1, .ref h2, v2, v3, v4, v5, v6, v7])), (h1, .inr (0, [v8, v9, .int 2, v10, v11, v12, v13])), (h2, .inr (1, [v14, .ref h4, .ref h6, .ref h3, v15, v16, .ref h7, v17, v18, v19, v20, v21, v22])), (h3, .inl (a0, 48, .inl f0)), (h4, .inl (a1, 48, .inr (.inr (.inr (.inr f1))))), (h5, .inr (4, [.ref h9, .int 0, .int 0])), (h6, .inl (a2, 48, .inr (.inl f2))), (h7, .inr (4, [.ref h8, .int 0, .int 0])), (h8, .inl (a3, 2, .inl f3)), (h9, .inl (a4, 2, .inl f4))]) (tr := [(a0, .int), (a1, .object "LiftingSignal$Whole"), (a2, .long), (a3, .int), (a4, .int)]) hx hb hml hown hg okN (cX4_toLong_675 l D h5 (.ref h9)) (mwV k435 k436 k437 k88 k438) ⟨rfl, by decide, by decide, by decide +kernel⟩ ⟨rfl, rfl, (Nat.le_of_ble_eq_true rfl), (Nat.le_of_ble_eq_true rfl)⟩ hP hD hK hS xn [5] [] [0, 1, 2, 3, 4, 5, 6, 7, 8, 9] [] [0, 1, 2, 3, 4] rfl (by decide) rfl rfl (by decide) (by decide) rfl rfl (aNil hA hS) (aNil hA hS) 5 rfl rfl rfl hl.1 rfl (Nat.le_of_ble_eq_true rfl) dX5_set_49 ⟨(Nat.le_of_ble_eq_true rfl), (Nat.le_of_ble_eq_true rfl)⟩ (fun u H locs hφ hP hD hK hS hk => ?_)
  have hP : va_P D vwCl [(h0, .inr (5, [v0, .ref h1, v1, .ref h2, v2, v3, v4, v5, v6, v7])), (h1, .inr (0, [v8, v9, .int 2, v10, v11, v12, v13])), (h2, .inr (1, [v14, .ref h4, .ref h6, .ref h3, v15, v16, .ref h7, v17, v18, v19, v20, v21, v22])), (h3, .inl (a0, 48, .inl f0)), (h4, .inl (a1, 48, .inr (.inr (.inr (.inr f1))))), (h5, .inr (4, [.ref h9, .int 0, .int 0])), (h6, .inl (a2, 48, .inr (.inl f2))), (h7, .inr (4, [.ref h8, .int 0, .int 0])), (h8, .inl (a3, 2, .inl f3)), (h9, .inl (a4, 2, .inl f4))] H := hP
  have hD : va_D A [(h0, .inr (5, [v0, .ref h1, v1, .ref h2, v2, v3, v4, v5, v6, v7])), (h1, .inr (0, [v8, v9, .int 2, v10, v11, v12, v13])), (h2, .inr (1, [v14, .ref h4, .ref h6, .ref h3, v15, v16, .ref h7, v17, v18, v19, v20, v21, v22])), (h3, .inl (a0, 48, .inl f0)), (h4, .inl (a1, 48, .inr (.inr (.inr (.inr f1))))), (h5, .inr (4, [.ref h9, .int 0, .int 0])), (h6, .inl (a2, 48, .inr (.inl f2))), (h7, .inr (4, [.ref h8, .int 0, .int 0])), (h8, .inl (a3, 2, .inl f3)), (h9, .inl (a4, 2, .inl f4))] := hD
  have hK : va_K D vwCl [(a0, .int), (a1, .object "LiftingSignal$Whole"), (a2, .long), (a3, .int), (a4, .int)] s := hK
  refine W.widen (k := 0) (n := 0) (Nat.le_of_ble_eq_true rfl) (Nat.le_of_ble_eq_true rfl) ?_
  refine lv_lstore_n (lv' := [(3, .long 0), (0, .ref h0), (1, .int 1), (2, .int x0)]) hx hb dX5_set_52 rfl hl (by decide) rfl (fun ls hl => ?_)
  refine lv_aload_n hx hb dX5_set_53 rfl (lv_at hl 1 rfl) ?_
  refine va_get (D := D) (ci := 5) (v := .ref h2) (C := RX5) (T := TX5) (N := 10) hx hb hg inX5 hown hK hP 0 rfl rfl 3 (by decide) (hg _ k382) (fun _ h9 => h9) rfl dX5_set_54 ?_
  refine lv_iload_n hx hb dX5_set_57 rfl (lv_at hl 2 rfl) ?_
  refine lv_iload_n hx hb dX5_set_58 rfl (lv_at hl 3 rfl) ?_
  refine cVv (n := 2) (As := [.int 1, .int x0]) (rest := []) (wr := [(h0, .inr (5, [v0, .ref h1, v1, .ref h2, v2, v3, v4, v5, v6, v7])), (h1, .inr (0, [v8, v9, .int 2, v10, v11, v12, v13])), (h3, .inl (a0, 48, .inl f0))]) (tr := [(a0, .int)]) hx hb hml hown hg okN (cX1_changeValue_706 l D h2 x0 h4 h6 h7 h5 h8 h9 v14 (.ref h3) v15 v16 v17 v18 v19 v20 v21 v22 f1 f2 f3 f4 a1 a2 a3 a4 ef1_1 ef2_1 ef3_0 ef4_0 d2 d3 d4 d5 d6 d7 d8) (mwV k1009 k1010 k1011 k87 k1012) ⟨rfl, by decide, by decide, by decide +kernel⟩ ⟨rfl, rfl, (Nat.le_of_ble_eq_true rfl), (Nat.le_of_ble_eq_true rfl)⟩ hP hD hK hS xn [2, 4, 6, 7, 5, 8, 9] [2, 4, 6, 7, 5, 8, 9] [0, 1, 3] [1, 2, 3, 4] [0] rfl (by decide) rfl rfl (by decide) (by decide) rfl rfl (va_free hD hS hA [2, 4, 6, 7, 5, 8, 9] rfl) (va_free hD hS hA [2, 4, 6, 7, 5, 8, 9] rfl) 2 rfl rfl rfl hl.1 rfl (Nat.le_of_ble_eq_true rfl) dX5_set_59 ⟨(Nat.le_of_ble_eq_true rfl), (Nat.le_of_ble_eq_true rfl)⟩ (fun u H locs hφ hP hD hK hS hk => ?_)
  have hP : va_P D vwCl [(h0, .inr (5, [v0, .ref h1, v1, .ref h2, v2, v3, v4, v5, v6, v7])), (h1, .inr (0, [v8, v9, .int 2, v10, v11, v12, v13])), (h3, .inl (a0, 48, .inl f0)), (h2, .inr (1, [v14, .ref h4, .ref h6, .ref h3, v15, v16, .ref h7, v17, v18, v19, v20, v21, v22])), (h4, .inl (a1, 48, .inr (.inr (.inr (.inr f1))))), (h6, .inl (a2, 48, .inr (.inl f2))), (h7, .inr (4, [.ref h8, .int 1, .int 1])), (h5, .inr (4, [.ref h9, .int 1, .int 1])), (h8, .inl (a3, 2, .inl (upd (upd (upd (upd f3 0 0) 1 0) 0 ((-(-(((-x0.toInt64).toInt32).toInt64))).toInt32)) 1 0))), (h9, .inl (a4, 2, .inl (upd (upd f4 0 ((-x0.toInt64).toInt32)) 1 0)))] H := hP
  have hD : va_D A [(h0, .inr (5, [v0, .ref h1, v1, .ref h2, v2, v3, v4, v5, v6, v7])), (h1, .inr (0, [v8, v9, .int 2, v10, v11, v12, v13])), (h3, .inl (a0, 48, .inl f0)), (h2, .inr (1, [v14, .ref h4, .ref h6, .ref h3, v15, v16, .ref h7, v17, v18, v19, v20, v21, v22])), (h4, .inl (a1, 48, .inr (.inr (.inr (.inr f1))))), (h6, .inl (a2, 48, .inr (.inl f2))), (h7, .inr (4, [.ref h8, .int 1, .int 1])), (h5, .inr (4, [.ref h9, .int 1, .int 1])), (h8, .inl (a3, 2, .inl (upd (upd (upd (upd f3 0 0) 1 0) 0 ((-(-(((-x0.toInt64).toInt32).toInt64))).toInt32)) 1 0))), (h9, .inl (a4, 2, .inl (upd (upd f4 0 ((-x0.toInt64).toInt32)) 1 0)))] := hD
  have hK : va_K D vwCl [(a0, .int), (a1, .object "LiftingSignal$Whole"), (a2, .long), (a3, .int), (a4, .int)] s := hK
  refine W.widen (k := 0) (n := 0) (Nat.le_of_ble_eq_true rfl) (Nat.le_of_ble_eq_true rfl) ?_
  refine lv_lload_n hx hb dX5_set_62 rfl (lv_at hl 0 rfl) ?_
  exact fl hx hb hr hlocks hP hD hK hS (()) trivial rfl [0, 1, 3, 2, 4, 7, 5, 6, 8, 9] [0, 1, 2, 3, 4] rfl (by decide) rfl (Nat.le_of_ble_eq_true rfl) (Nat.le_of_ble_eq_true rfl) dX5_set_63
