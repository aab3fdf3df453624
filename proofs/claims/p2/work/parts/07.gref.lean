/-! the reference over any state: the row put aside and taken back -/
theorem k111 : Cond.instanceMethod objectInit ∈ GW := gm 111 (by decide +kernel) (by decide +kernel)
theorem k112 : Cond.code objectInit ⟨#[0xb1]⟩ 1 none ∈ GW := gm 112 (by decide +kernel) (by decide +kernel)
theorem k193 : Cond.arrayClass .int ∈ GW := gm 193 (by decide +kernel) (by decide +kernel)
theorem k219 : Cond.arrayClass .long ∈ GW := gm 219 (by decide +kernel) (by decide +kernel)
theorem k410 : Cond.arrayClass .boolean ∈ GW := gm 410 (by decide +kernel) (by decide +kernel)
theorem k1209 : Cond.methodLink RX6 1 objectInit ∈ GW := gm 1209 (by decide +kernel) (by decide +kernel)
theorem k1221 : Cond.fieldLink RX6 13 "LiftingSignalModel" "aside" "[J" ∈ GW := gm 1221 (by decide +kernel) (by decide +kernel)
theorem k1222 : Cond.fieldLink RX6 16 "LiftingSignalModel" "slots" "[J" ∈ GW := gm 1222 (by decide +kernel) (by decide +kernel)
theorem k1223 : Cond.fieldLink RX6 19 "LiftingSignalModel" "areKept" "[Z" ∈ GW := gm 1223 (by decide +kernel) (by decide +kernel)
theorem k1224 : Cond.fieldLink RX6 23 "LiftingSignalModel" "place" "[I" ∈ GW := gm 1224 (by decide +kernel) (by decide +kernel)
theorem k1225 : Cond.fieldLink RX6 27 "LiftingSignalModel" "first" "[I" ∈ GW := gm 1225 (by decide +kernel) (by decide +kernel)
theorem k1227 : Cond.fieldLink RX6 188 "LiftingSignalModel" "least" "I" ∈ GW := gm 1227 (by decide +kernel) (by decide +kernel)
theorem k1230 : Cond.fieldLink RX6 30 "LiftingSignalModel" "aboutAt" "I" ∈ GW := gm 1230 (by decide +kernel) (by decide +kernel)
theorem k1231 : Cond.fieldLink RX6 34 "LiftingSignalModel" "text" "[I" ∈ GW := gm 1231 (by decide +kernel) (by decide +kernel)
theorem k1235 : Cond.fieldLink RX6 37 "LiftingSignalModel" "errorPosition" "I" ∈ GW := gm 1235 (by decide +kernel) (by decide +kernel)
theorem k1237 : Cond.fieldLink RX6 46 "LiftingSignalModel" "newSamples" "I" ∈ GW := gm 1237 (by decide +kernel) (by decide +kernel)
theorem k1238 : Cond.fieldLink RX6 49 "LiftingSignalModel" "newLeast" "I" ∈ GW := gm 1238 (by decide +kernel) (by decide +kernel)
theorem k1239 : Cond.fieldLink RX6 52 "LiftingSignalModel" "newSplit" "I" ∈ GW := gm 1239 (by decide +kernel) (by decide +kernel)
theorem k1240 : Cond.fieldLink RX6 55 "LiftingSignalModel" "newPredict" "I" ∈ GW := gm 1240 (by decide +kernel) (by decide +kernel)
theorem k1241 : Cond.fieldLink RX6 58 "LiftingSignalModel" "newUpdate" "I" ∈ GW := gm 1241 (by decide +kernel) (by decide +kernel)
theorem k1244 : Cond.fieldLink RX6 40 "LiftingSignalModel" "newPlace" "[I" ∈ GW := gm 1244 (by decide +kernel) (by decide +kernel)
theorem k1245 : Cond.fieldLink RX6 43 "LiftingSignalModel" "newValue" "[I" ∈ GW := gm 1245 (by decide +kernel) (by decide +kernel)
theorem dX6_puts_0 : decode cX6_puts 0 = .ok (.iconst 0, 1) := by decide +kernel
theorem dX6_puts_1 : decode cX6_puts 1 = .ok (.istore_n 1, 1) := by decide +kernel
theorem dX6_puts_2 : decode cX6_puts 2 = .ok (.iload_n 1, 1) := by decide +kernel
theorem dX6_puts_3 : decode cX6_puts 3 = .ok (.sipush 609, 3) := by decide +kernel
theorem dX6_puts_6 : decode cX6_puts 6 = .ok (.if_icmp .ge 21, 3) := by decide +kernel
theorem dX6_puts_9 : decode cX6_puts 9 = .ok (.aload_n 0, 1) := by decide +kernel
theorem dX6_puts_10 : decode cX6_puts 10 = .ok (.getfield 13, 3) := by decide +kernel
theorem dX6_puts_13 : decode cX6_puts 13 = .ok (.iload_n 1, 1) := by decide +kernel
theorem dX6_puts_14 : decode cX6_puts 14 = .ok (.aload_n 0, 1) := by decide +kernel
theorem dX6_puts_15 : decode cX6_puts 15 = .ok (.getfield 7, 3) := by decide +kernel
theorem dX6_puts_18 : decode cX6_puts 18 = .ok (.iload_n 1, 1) := by decide +kernel
theorem dX6_puts_19 : decode cX6_puts 19 = .ok (.laload, 1) := by decide +kernel
theorem dX6_puts_20 : decode cX6_puts 20 = .ok (.lastore, 1) := by decide +kernel
theorem dX6_puts_21 : decode cX6_puts 21 = .ok (.iinc 1 1, 3) := by decide +kernel
theorem dX6_puts_24 : decode cX6_puts 24 = .ok (.goto (-22), 3) := by decide +kernel
theorem dX6_puts_27 : decode cX6_puts 27 = .ok (.return_, 1) := by decide +kernel
theorem dX6_takesBack_0 : decode cX6_takesBack 0 = .ok (.iconst 0, 1) := by decide +kernel
theorem dX6_takesBack_1 : decode cX6_takesBack 1 = .ok (.istore_n 1, 1) := by decide +kernel
theorem dX6_takesBack_2 : decode cX6_takesBack 2 = .ok (.iload_n 1, 1) := by decide +kernel
theorem dX6_takesBack_3 : decode cX6_takesBack 3 = .ok (.sipush 609, 3) := by decide +kernel
theorem dX6_takesBack_6 : decode cX6_takesBack 6 = .ok (.if_icmp .ge 21, 3) := by decide +kernel
theorem dX6_takesBack_9 : decode cX6_takesBack 9 = .ok (.aload_n 0, 1) := by decide +kernel
theorem dX6_takesBack_10 : decode cX6_takesBack 10 = .ok (.getfield 7, 3) := by decide +kernel
theorem dX6_takesBack_13 : decode cX6_takesBack 13 = .ok (.iload_n 1, 1) := by decide +kernel
theorem dX6_takesBack_14 : decode cX6_takesBack 14 = .ok (.aload_n 0, 1) := by decide +kernel
theorem dX6_takesBack_15 : decode cX6_takesBack 15 = .ok (.getfield 13, 3) := by decide +kernel
theorem dX6_takesBack_18 : decode cX6_takesBack 18 = .ok (.iload_n 1, 1) := by decide +kernel
theorem dX6_takesBack_19 : decode cX6_takesBack 19 = .ok (.laload, 1) := by decide +kernel
theorem dX6_takesBack_20 : decode cX6_takesBack 20 = .ok (.lastore, 1) := by decide +kernel
theorem dX6_takesBack_21 : decode cX6_takesBack 21 = .ok (.iinc 1 1, 3) := by decide +kernel
theorem dX6_takesBack_24 : decode cX6_takesBack 24 = .ok (.goto (-22), 3) := by decide +kernel
theorem dX6_takesBack_27 : decode cX6_takesBack 27 = .ok (.return_, 1) := by decide +kernel
set_option maxHeartbeats 4000000 in
set_option maxRecDepth 100000 in
theorem gX6_puts (l : Launch) (D : va_G) (h0 : Nat) (h1 : Nat) (h2 : Nat) (v0 : Value) (v1 : Value) (v2 : Value) (v3 : Value) (v4 : Value) (v5 : Value) (v6 : Value) (v7 : Value) (v8 : Value) (v9 : Value) (v10 : Value) (v11 : Value) (v12 : Value) (v13 : Value) (v14 : Value) (v15 : Value) (v16 : Value) (v17 : Value) (v18 : Value) (v19 : Value) (v20 : Value) (v21 : Value) (v22 : Value) (v23 : Value) (v24 : Value) (f0 : Nat → Int64) (f1 : Nat → Int64) (a0 : ClassId) (a1 : ClassId)   : CT l yX6_puts cX6_puts 2 none { frames := 0, cells := 0, slots := 0, locals := 0 } [.ref h0] D [(h0, .inr (6, [v0, .ref h1, .ref h2, v1, v2, v3, v4, v5, v6, v7, v8, v9, v10, v11, v12, v13, v14, v15, v16, v17, v18, v19, v20, v21, v22, v23, v24])), (h1, .inl (a0, 609, .inr (.inl f0))), (h2, .inl (a1, 609, .inr (.inl f1)))] [(a0, .long), (a1, .long)] XN [(h0, .inr (6, [v0, .ref h1, .ref h2, v1, v2, v3, v4, v5, v6, v7, v8, v9, v10, v11, v12, v13, v14, v15, v16, v17, v18, v19, v20, v21, v22, v23, v24])), (h1, .inl (a0, 609, .inr (.inl f0))), (h2, .inl (a1, 609, .inr (.inl f1)))] (ev (fun u : (Nat → Int64) => ∀ j, j < 609 → u j = f0 j) (fun u => [(h0, .inr (6, [v0, .ref h1, .ref h2, v1, v2, v3, v4, v5, v6, v7, v8, v9, v10, v11, v12, v13, v14, v15, v16, v17, v18, v19, v20, v21, v22, v23, v24])), (h1, .inl (a0, 609, .inr (.inl f0))), (h2, .inl (a1, 609, .inr (.inl u)))]) (fun u => [(a0, .long), (a1, .long)]) D) 0 0 := by
  refine CT.ofW (by decide +kernel) (Nat.le_of_ble_eq_true rfl) ?_
  intro p e s m below meth c A ls hcs hP hK hD hX hA hS hl
  obtain ⟨hx, hb, hr, hml, hown, hg, hlocks, hin⟩ := hcs
  have hown : s.vm.findClass RX6 = some m.cls := hown
  have hl : lv_has ls 2 [(0, .ref h0)] := hl
  refine lv_iconst (v := 0) hx hb dX6_puts_0 (by decide) ?_
  refine lv_istore_n (lv' := [(1, .int 0), (0, .ref h0)]) hx hb dX6_puts_1 rfl hl (by decide) rfl (fun ls hl => ?_)
  have lq1 : ∀ (Q9 : State → Prop), (∀ (gg1 : Nat → Int64) (H : Heap) (locs : List Loc) (ls : Array Slot), (∀ j, j < 609 → gg1 j = f0 j) → va_P D vwCl [(h0, .inr (6, [v0, .ref h1, .ref h2, v1, v2, v3, v4, v5, v6, v7, v8, v9, v10, v11, v12, v13, v14, v15, v16, v17, v18, v19, v20, v21, v22, v23, v24])), (h1, .inl (a0, 609, .inr (.inl f0))), (h2, .inl (a1, 609, .inr (.inl gg1)))] H → va_D A [(h0, .inr (6, [v0, .ref h1, .ref h2, v1, v2, v3, v4, v5, v6, v7, v8, v9, v10, v11, v12, v13, v14, v15, v16, v17, v18, v19, v20, v21, v22, v23, v24])), (h1, .inl (a0, 609, .inr (.inl f0))), (h2, .inl (a1, 609, .inr (.inl gg1)))] → va_K D vwCl [(a0, .long), (a1, .long)] s → va_S A s.heap H locs → lv_has ls 2 [(1, .int 609), (0, .ref h0)] → W p l e { frames := 0, cells := 0, slots := 0, locals := 0 } s m [.ref h0].toArray below meth c H locs (0) (0) Q9 (F0 m 27 ls [])) → ∀ (n9 i : Nat), 0 ≤ i → i + n9 = 609 → ∀ (gg1 : Nat → Int64) (H : Heap) (locs : List Loc) (ls : Array Slot), (∀ j, j < i → gg1 j = f0 j) → va_P D vwCl [(h0, .inr (6, [v0, .ref h1, .ref h2, v1, v2, v3, v4, v5, v6, v7, v8, v9, v10, v11, v12, v13, v14, v15, v16, v17, v18, v19, v20, v21, v22, v23, v24])), (h1, .inl (a0, 609, .inr (.inl f0))), (h2, .inl (a1, 609, .inr (.inl gg1)))] H → va_D A [(h0, .inr (6, [v0, .ref h1, .ref h2, v1, v2, v3, v4, v5, v6, v7, v8, v9, v10, v11, v12, v13, v14, v15, v16, v17, v18, v19, v20, v21, v22, v23, v24])), (h1, .inl (a0, 609, .inr (.inl f0))), (h2, .inl (a1, 609, .inr (.inl gg1)))] → va_K D vwCl [(a0, .long), (a1, .long)] s → va_S A s.heap H locs → lv_has ls 2 [(1, .int (nI i)), (0, .ref h0)] → W p l e { frames := 0, cells := 0, slots := 0, locals := 0 } s m [.ref h0].toArray below meth c H locs (0 + 0 * (i - 0)) (0 + 0 * (i - 0)) Q9 (F0 m 2 ls []) := by
    intro Q9 kx n9
    induction n9 with
    | zero =>
      intro i hi0 hin9 gg1 H locs ls hq hP hD hK hS hl
      have hi9 : i = 609 := by omega
      subst hi9
      refine lv_iload_n hx hb dX6_puts_2 rfl (lv_at hl 0 rfl) ?_
      refine lv_sipush (v := 609) hx hb dX6_puts_3 (by decide) ?_
      refine lv_icmp_ge (tgt := 27) hx hb dX6_puts_6 (by decide) (fun _ => ?_) (fun c9 => absurd (by decide) c9)
      exact kx gg1 H locs ls hq hP hD hK hS hl
    | succ n9 ih =>
      intro i hi0 hin9 gg1 H locs ls hq hP hD hK hS hl
      have hi : i < 609 := by omega
      refine lv_iload_n hx hb dX6_puts_2 rfl (lv_at hl 0 rfl) ?_
      refine lv_sipush (v := 609) hx hb dX6_puts_3 (by decide) ?_
      refine lv_icmp_ge (tgt := 27) hx hb dX6_puts_6 (by decide) (fun c9 => absurd c9 (nI_ge hi (by decide))) (fun _ => ?_)
      refine lv_aload_n hx hb dX6_puts_9 rfl (lv_at hl 1 rfl) ?_
      refine va_get (D := D) (ci := 6) (v := .ref h2) (C := RX6) (T := TX6) (N := 27) hx hb hg inX6 hown hK hP 0 rfl rfl 2 (by decide) (hg _ k1221) (fun _ h9 => h9) rfl dX6_puts_10 ?_
      refine lv_iload_n hx hb dX6_puts_13 rfl (lv_at hl 0 rfl) ?_
      refine lv_aload_n hx hb dX6_puts_14 rfl (lv_at hl 1 rfl) ?_
      refine va_get (D := D) (ci := 6) (v := .ref h1) (C := RX6) (T := TX6) (N := 27) hx hb hg inX6 hown hK hP 0 rfl rfl 1 (by decide) (hg _ k1220) (fun _ h9 => h9) rfl dX6_puts_15 ?_
      refine lv_iload_n hx hb dX6_puts_18 rfl (lv_at hl 0 rfl) ?_
      refine aldL hx hb hK hP 1 0 rfl rfl i (nI_clamp (by omega)) (vp_in_nI (by omega) (by decide)) (v := f0 i) rfl dX6_puts_19 ?_
      refine astL hx hb hK hP hD hS 2 1 rfl rfl i (nI_clamp (by omega)) (vp_in_nI (by omega) (by decide)) dX6_puts_20 (fun H locs hP hD hS => ?_)
      have hP : va_P D vwCl [(h0, .inr (6, [v0, .ref h1, .ref h2, v1, v2, v3, v4, v5, v6, v7, v8, v9, v10, v11, v12, v13, v14, v15, v16, v17, v18, v19, v20, v21, v22, v23, v24])), (h1, .inl (a0, 609, .inr (.inl f0))), (h2, .inl (a1, 609, .inr (.inl (vp_updL gg1 i (f0 i)))))] H := hP
      have hD : va_D A [(h0, .inr (6, [v0, .ref h1, .ref h2, v1, v2, v3, v4, v5, v6, v7, v8, v9, v10, v11, v12, v13, v14, v15, v16, v17, v18, v19, v20, v21, v22, v23, v24])), (h1, .inl (a0, 609, .inr (.inl f0))), (h2, .inl (a1, 609, .inr (.inl (vp_updL gg1 i (f0 i)))))] := hD
      refine lv_iinc (v := (nI (i + 1))) (lv' := [(1, .int (nI (i + 1))), (0, .ref h0)]) hx hb dX6_puts_21 hl (k := 0) rfl (nI_1 i) (by decide) rfl (fun ls hl => ?_)
      refine lv_goto (tgt := 2) hx hb dX6_puts_24 (by decide) ?_
      exact ih (i + 1) (by omega) (by omega) (vp_updL gg1 i (f0 i)) _ _ _ (fun j hj => (Decidable.em (j = i)).elim (fun q => by show (if j = i then f0 i else gg1 j) = f0 j; rw [if_pos q, q]) (fun q => by show (if j = i then f0 i else gg1 j) = f0 j; rw [if_neg q]; exact hq j (by omega))) (hP.sub [0, 1, 2] rfl) (hD.sub [0, 1, 2] (by decide) rfl) (hK.sub [0, 1] rfl) hS (lv_sub hl [0, 1] rfl)
  refine lq1 _ (fun gg1x H locs ls hq hP hD hK hS hl => ?_) 609 0 (Nat.le_refl _) rfl f1 _ _ _ (fun j hj => absurd hj (Nat.not_lt_zero j)) hP hD hK hS hl
  exact fv hx hb hr hlocks hP hD hK hS (gg1x) hq [0, 1, 2] [0, 1] rfl (by decide) rfl (Nat.le_of_ble_eq_true rfl) (Nat.le_of_ble_eq_true rfl) dX6_puts_27
set_option maxHeartbeats 4000000 in
set_option maxRecDepth 100000 in
theorem gX6_takesBack (l : Launch) (D : va_G) (h0 : Nat) (h1 : Nat) (h2 : Nat) (v0 : Value) (v1 : Value) (v2 : Value) (v3 : Value) (v4 : Value) (v5 : Value) (v6 : Value) (v7 : Value) (v8 : Value) (v9 : Value) (v10 : Value) (v11 : Value) (v12 : Value) (v13 : Value) (v14 : Value) (v15 : Value) (v16 : Value) (v17 : Value) (v18 : Value) (v19 : Value) (v20 : Value) (v21 : Value) (v22 : Value) (v23 : Value) (v24 : Value) (f0 : Nat → Int64) (f1 : Nat → Int64) (a0 : ClassId) (a1 : ClassId)   : CT l yX6_takesBack cX6_takesBack 2 none { frames := 0, cells := 0, slots := 0, locals := 0 } [.ref h0] D [(h0, .inr (6, [v0, .ref h2, .ref h1, v1, v2, v3, v4, v5, v6, v7, v8, v9, v10, v11, v12, v13, v14, v15, v16, v17, v18, v19, v20, v21, v22, v23, v24])), (h1, .inl (a0, 609, .inr (.inl f0))), (h2, .inl (a1, 609, .inr (.inl f1)))] [(a0, .long), (a1, .long)] XN [(h0, .inr (6, [v0, .ref h2, .ref h1, v1, v2, v3, v4, v5, v6, v7, v8, v9, v10, v11, v12, v13, v14, v15, v16, v17, v18, v19, v20, v21, v22, v23, v24])), (h1, .inl (a0, 609, .inr (.inl f0))), (h2, .inl (a1, 609, .inr (.inl f1)))] (ev (fun u : (Nat → Int64) => ∀ j, j < 609 → u j = f0 j) (fun u => [(h0, .inr (6, [v0, .ref h2, .ref h1, v1, v2, v3, v4, v5, v6, v7, v8, v9, v10, v11, v12, v13, v14, v15, v16, v17, v18, v19, v20, v21, v22, v23, v24])), (h1, .inl (a0, 609, .inr (.inl f0))), (h2, .inl (a1, 609, .inr (.inl u)))]) (fun u => [(a0, .long), (a1, .long)]) D) 0 0 := by
  refine CT.ofW (by decide +kernel) (Nat.le_of_ble_eq_true rfl) ?_
  intro p e s m below meth c A ls hcs hP hK hD hX hA hS hl
  obtain ⟨hx, hb, hr, hml, hown, hg, hlocks, hin⟩ := hcs
  have hown : s.vm.findClass RX6 = some m.cls := hown
  have hl : lv_has ls 2 [(0, .ref h0)] := hl
  refine lv_iconst (v := 0) hx hb dX6_takesBack_0 (by decide) ?_
  refine lv_istore_n (lv' := [(1, .int 0), (0, .ref h0)]) hx hb dX6_takesBack_1 rfl hl (by decide) rfl (fun ls hl => ?_)
  have lq1 : ∀ (Q9 : State → Prop), (∀ (gg1 : Nat → Int64) (H : Heap) (locs : List Loc) (ls : Array Slot), (∀ j, j < 609 → gg1 j = f0 j) → va_P D vwCl [(h0, .inr (6, [v0, .ref h2, .ref h1, v1, v2, v3, v4, v5, v6, v7, v8, v9, v10, v11, v12, v13, v14, v15, v16, v17, v18, v19, v20, v21, v22, v23, v24])), (h1, .inl (a0, 609, .inr (.inl f0))), (h2, .inl (a1, 609, .inr (.inl gg1)))] H → va_D A [(h0, .inr (6, [v0, .ref h2, .ref h1, v1, v2, v3, v4, v5, v6, v7, v8, v9, v10, v11, v12, v13, v14, v15, v16, v17, v18, v19, v20, v21, v22, v23, v24])), (h1, .inl (a0, 609, .inr (.inl f0))), (h2, .inl (a1, 609, .inr (.inl gg1)))] → va_K D vwCl [(a0, .long), (a1, .long)] s → va_S A s.heap H locs → lv_has ls 2 [(1, .int 609), (0, .ref h0)] → W p l e { frames := 0, cells := 0, slots := 0, locals := 0 } s m [.ref h0].toArray below meth c H locs (0) (0) Q9 (F0 m 27 ls [])) → ∀ (n9 i : Nat), 0 ≤ i → i + n9 = 609 → ∀ (gg1 : Nat → Int64) (H : Heap) (locs : List Loc) (ls : Array Slot), (∀ j, j < i → gg1 j = f0 j) → va_P D vwCl [(h0, .inr (6, [v0, .ref h2, .ref h1, v1, v2, v3, v4, v5, v6, v7, v8, v9, v10, v11, v12, v13, v14, v15, v16, v17, v18, v19, v20, v21, v22, v23, v24])), (h1, .inl (a0, 609, .inr (.inl f0))), (h2, .inl (a1, 609, .inr (.inl gg1)))] H → va_D A [(h0, .inr (6, [v0, .ref h2, .ref h1, v1, v2, v3, v4, v5, v6, v7, v8, v9, v10, v11, v12, v13, v14, v15, v16, v17, v18, v19, v20, v21, v22, v23, v24])), (h1, .inl (a0, 609, .inr (.inl f0))), (h2, .inl (a1, 609, .inr (.inl gg1)))] → va_K D vwCl [(a0, .long), (a1, .long)] s → va_S A s.heap H locs → lv_has ls 2 [(1, .int (nI i)), (0, .ref h0)] → W p l e { frames := 0, cells := 0, slots := 0, locals := 0 } s m [.ref h0].toArray below meth c H locs (0 + 0 * (i - 0)) (0 + 0 * (i - 0)) Q9 (F0 m 2 ls []) := by
    intro Q9 kx n9
    induction n9 with
    | zero =>
      intro i hi0 hin9 gg1 H locs ls hq hP hD hK hS hl
      have hi9 : i = 609 := by omega
      subst hi9
      refine lv_iload_n hx hb dX6_takesBack_2 rfl (lv_at hl 0 rfl) ?_
      refine lv_sipush (v := 609) hx hb dX6_takesBack_3 (by decide) ?_
      refine lv_icmp_ge (tgt := 27) hx hb dX6_takesBack_6 (by decide) (fun _ => ?_) (fun c9 => absurd (by decide) c9)
      exact kx gg1 H locs ls hq hP hD hK hS hl
    | succ n9 ih =>
      intro i hi0 hin9 gg1 H locs ls hq hP hD hK hS hl
      have hi : i < 609 := by omega
      refine lv_iload_n hx hb dX6_takesBack_2 rfl (lv_at hl 0 rfl) ?_
      refine lv_sipush (v := 609) hx hb dX6_takesBack_3 (by decide) ?_
      refine lv_icmp_ge (tgt := 27) hx hb dX6_takesBack_6 (by decide) (fun c9 => absurd c9 (nI_ge hi (by decide))) (fun _ => ?_)
      refine lv_aload_n hx hb dX6_takesBack_9 rfl (lv_at hl 1 rfl) ?_
      refine va_get (D := D) (ci := 6) (v := .ref h2) (C := RX6) (T := TX6) (N := 27) hx hb hg inX6 hown hK hP 0 rfl rfl 1 (by decide) (hg _ k1220) (fun _ h9 => h9) rfl dX6_takesBack_10 ?_
      refine lv_iload_n hx hb dX6_takesBack_13 rfl (lv_at hl 0 rfl) ?_
      refine lv_aload_n hx hb dX6_takesBack_14 rfl (lv_at hl 1 rfl) ?_
      refine va_get (D := D) (ci := 6) (v := .ref h1) (C := RX6) (T := TX6) (N := 27) hx hb hg inX6 hown hK hP 0 rfl rfl 2 (by decide) (hg _ k1221) (fun _ h9 => h9) rfl dX6_takesBack_15 ?_
      refine lv_iload_n hx hb dX6_takesBack_18 rfl (lv_at hl 0 rfl) ?_
      refine aldL hx hb hK hP 1 0 rfl rfl i (nI_clamp (by omega)) (vp_in_nI (by omega) (by decide)) (v := f0 i) rfl dX6_takesBack_19 ?_
      refine astL hx hb hK hP hD hS 2 1 rfl rfl i (nI_clamp (by omega)) (vp_in_nI (by omega) (by decide)) dX6_takesBack_20 (fun H locs hP hD hS => ?_)
      have hP : va_P D vwCl [(h0, .inr (6, [v0, .ref h2, .ref h1, v1, v2, v3, v4, v5, v6, v7, v8, v9, v10, v11, v12, v13, v14, v15, v16, v17, v18, v19, v20, v21, v22, v23, v24])), (h1, .inl (a0, 609, .inr (.inl f0))), (h2, .inl (a1, 609, .inr (.inl (vp_updL gg1 i (f0 i)))))] H := hP
      have hD : va_D A [(h0, .inr (6, [v0, .ref h2, .ref h1, v1, v2, v3, v4, v5, v6, v7, v8, v9, v10, v11, v12, v13, v14, v15, v16, v17, v18, v19, v20, v21, v22, v23, v24])), (h1, .inl (a0, 609, .inr (.inl f0))), (h2, .inl (a1, 609, .inr (.inl (vp_updL gg1 i (f0 i)))))] := hD
      refine lv_iinc (v := (nI (i + 1))) (lv' := [(1, .int (nI (i + 1))), (0, .ref h0)]) hx hb dX6_takesBack_21 hl (k := 0) rfl (nI_1 i) (by decide) rfl (fun ls hl => ?_)
      refine lv_goto (tgt := 2) hx hb dX6_takesBack_24 (by decide) ?_
      exact ih (i + 1) (by omega) (by omega) (vp_updL gg1 i (f0 i)) _ _ _ (fun j hj => (Decidable.em (j = i)).elim (fun q => by show (if j = i then f0 i else gg1 j) = f0 j; rw [if_pos q, q]) (fun q => by show (if j = i then f0 i else gg1 j) = f0 j; rw [if_neg q]; exact hq j (by omega))) (hP.sub [0, 1, 2] rfl) (hD.sub [0, 1, 2] (by decide) rfl) (hK.sub [0, 1] rfl) hS (lv_sub hl [0, 1] rfl)
  refine lq1 _ (fun gg1x H locs ls hq hP hD hK hS hl => ?_) 609 0 (Nat.le_refl _) rfl f1 _ _ _ (fun j hj => absurd hj (Nat.not_lt_zero j)) hP hD hK hS hl
  exact fv hx hb hr hlocks hP hD hK hS (gg1x) hq [0, 1, 2] [0, 1] rfl (by decide) rfl (Nat.le_of_ble_eq_true rfl) (Nat.le_of_ble_eq_true rfl) dX6_takesBack_27
