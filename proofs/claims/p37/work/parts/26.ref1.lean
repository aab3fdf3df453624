/-! The reference over any state: small readers -/
theorem k37 : Cond.selects RX6 yX6_fails yX6_fails ∈ GW := gm 37 (by decide +kernel) (by decide +kernel)
theorem k52 : Cond.selects RX6 yX6_steps yX6_steps ∈ GW := gm 52 (by decide +kernel) (by decide +kernel)
theorem k56 : Cond.selects RX6 yX6_isPresent yX6_isPresent ∈ GW := gm 56 (by decide +kernel) (by decide +kernel)
theorem k92 : Cond.initialized RX6 ∈ GW := gm 92 (by decide +kernel) (by decide +kernel)
theorem k1218 : Cond.constantLong RX6 197 (-1) ∈ GW := gm 1218 (by decide +kernel) (by decide +kernel)
theorem k1219 : Cond.fieldLink RX6 64 "LiftingSignalModel" "raised" "I" ∈ GW := gm 1219 (by decide +kernel) (by decide +kernel)
theorem k1220 : Cond.fieldLink RX6 7 "LiftingSignalModel" "w" "[J" ∈ GW := gm 1220 (by decide +kernel) (by decide +kernel)
theorem k1226 : Cond.fieldLink RX6 185 "LiftingSignalModel" "samples" "I" ∈ GW := gm 1226 (by decide +kernel) (by decide +kernel)
theorem k1228 : Cond.fieldLink RX6 67 "LiftingSignalModel" "reasonAt" "I" ∈ GW := gm 1228 (by decide +kernel) (by decide +kernel)
theorem k1229 : Cond.fieldLink RX6 70 "LiftingSignalModel" "causeAt" "I" ∈ GW := gm 1229 (by decide +kernel) (by decide +kernel)
theorem k1230 : Cond.fieldLink RX6 30 "LiftingSignalModel" "aboutAt" "I" ∈ GW := gm 1230 (by decide +kernel) (by decide +kernel)
theorem k1317 : Cond.methodLink RX6 84 yX6_in ∈ GW := gm 1317 (by decide +kernel) (by decide +kernel)
theorem k1318 : Cond.static yX6_in ∈ GW := gm 1318 (by decide +kernel) (by decide +kernel)
theorem k1319 : Cond.code yX6_in cX6_in 6 (some .boolean) ∈ GW := gm 1319 (by decide +kernel) (by decide +kernel)
theorem k1320 : Cond.methodLink RX6 73 yX6_fails ∈ GW := gm 1320 (by decide +kernel) (by decide +kernel)
theorem k1322 : Cond.instanceMethod yX6_fails ∈ GW := gm 1322 (by decide +kernel) (by decide +kernel)
theorem k1323 : Cond.code yX6_fails cX6_fails 2 (some .int) ∈ GW := gm 1323 (by decide +kernel) (by decide +kernel)
theorem k1416 : Cond.methodLink RX6 199 yX6_steps ∈ GW := gm 1416 (by decide +kernel) (by decide +kernel)
theorem k1418 : Cond.instanceMethod yX6_steps ∈ GW := gm 1418 (by decide +kernel) (by decide +kernel)
theorem k1419 : Cond.code yX6_steps cX6_steps 1 (some .int) ∈ GW := gm 1419 (by decide +kernel) (by decide +kernel)
theorem k1432 : Cond.methodLink RX6 202 yX6_isPresent ∈ GW := gm 1432 (by decide +kernel) (by decide +kernel)
theorem k1434 : Cond.instanceMethod yX6_isPresent ∈ GW := gm 1434 (by decide +kernel) (by decide +kernel)
theorem k1435 : Cond.code yX6_isPresent cX6_isPresent 2 (some .boolean) ∈ GW := gm 1435 (by decide +kernel) (by decide +kernel)
theorem dX6_amount_0 : decode cX6_amount 0 = .ok (.lload_n 0, 1) := by decide +kernel
theorem dX6_amount_1 : decode cX6_amount 1 = .ok (.lconst 0, 1) := by decide +kernel
theorem dX6_amount_2 : decode cX6_amount 2 = .ok (.lcmp, 1) := by decide +kernel
theorem dX6_amount_3 : decode cX6_amount 3 = .ok (.ifCond .ge 8, 3) := by decide +kernel
theorem dX6_amount_6 : decode cX6_amount 6 = .ok (.lload_n 0, 1) := by decide +kernel
theorem dX6_amount_7 : decode cX6_amount 7 = .ok (.lneg, 1) := by decide +kernel
theorem dX6_amount_8 : decode cX6_amount 8 = .ok (.goto 4, 3) := by decide +kernel
theorem dX6_amount_11 : decode cX6_amount 11 = .ok (.lload_n 0, 1) := by decide +kernel
theorem dX6_amount_12 : decode cX6_amount 12 = .ok (.lreturn, 1) := by decide +kernel
theorem dX6_fails_0 : decode cX6_fails 0 = .ok (.aload_n 0, 1) := by decide +kernel
theorem dX6_fails_1 : decode cX6_fails 1 = .ok (.iload_n 1, 1) := by decide +kernel
theorem dX6_fails_2 : decode cX6_fails 2 = .ok (.putfield 64, 3) := by decide +kernel
theorem dX6_fails_5 : decode cX6_fails 5 = .ok (.iconst 0, 1) := by decide +kernel
theorem dX6_fails_6 : decode cX6_fails 6 = .ok (.ireturn, 1) := by decide +kernel
theorem dX6_floor_0 : decode cX6_floor 0 = .ok (.lload_n 0, 1) := by decide +kernel
theorem dX6_floor_1 : decode cX6_floor 1 = .ok (.lload_n 2, 1) := by decide +kernel
theorem dX6_floor_2 : decode cX6_floor 2 = .ok (.ldiv, 1) := by decide +kernel
theorem dX6_floor_3 : decode cX6_floor 3 = .ok (.lstore 4, 2) := by decide +kernel
theorem dX6_floor_5 : decode cX6_floor 5 = .ok (.lload_n 0, 1) := by decide +kernel
theorem dX6_floor_6 : decode cX6_floor 6 = .ok (.lload_n 2, 1) := by decide +kernel
theorem dX6_floor_7 : decode cX6_floor 7 = .ok (.lrem, 1) := by decide +kernel
theorem dX6_floor_8 : decode cX6_floor 8 = .ok (.lconst 0, 1) := by decide +kernel
theorem dX6_floor_9 : decode cX6_floor 9 = .ok (.lcmp, 1) := by decide +kernel
theorem dX6_floor_10 : decode cX6_floor 10 = .ok (.ifCond .ge 10, 3) := by decide +kernel
theorem dX6_floor_13 : decode cX6_floor 13 = .ok (.lload 4, 2) := by decide +kernel
theorem dX6_floor_15 : decode cX6_floor 15 = .ok (.lconst 1, 1) := by decide +kernel
theorem dX6_floor_16 : decode cX6_floor 16 = .ok (.lsub, 1) := by decide +kernel
theorem dX6_floor_17 : decode cX6_floor 17 = .ok (.goto 5, 3) := by decide +kernel
theorem dX6_floor_20 : decode cX6_floor 20 = .ok (.lload 4, 2) := by decide +kernel
theorem dX6_floor_22 : decode cX6_floor 22 = .ok (.lreturn, 1) := by decide +kernel
theorem dX6_in_0 : decode cX6_in 0 = .ok (.lload_n 0, 1) := by decide +kernel
theorem dX6_in_1 : decode cX6_in 1 = .ok (.lload_n 2, 1) := by decide +kernel
theorem dX6_in_2 : decode cX6_in 2 = .ok (.lcmp, 1) := by decide +kernel
theorem dX6_in_3 : decode cX6_in 3 = .ok (.ifCond .lt 14, 3) := by decide +kernel
theorem dX6_in_6 : decode cX6_in 6 = .ok (.lload_n 0, 1) := by decide +kernel
theorem dX6_in_7 : decode cX6_in 7 = .ok (.lload 4, 2) := by decide +kernel
theorem dX6_in_9 : decode cX6_in 9 = .ok (.lcmp, 1) := by decide +kernel
theorem dX6_in_10 : decode cX6_in 10 = .ok (.ifCond .gt 7, 3) := by decide +kernel
theorem dX6_in_13 : decode cX6_in 13 = .ok (.iconst 1, 1) := by decide +kernel
theorem dX6_in_14 : decode cX6_in 14 = .ok (.goto 4, 3) := by decide +kernel
theorem dX6_in_17 : decode cX6_in 17 = .ok (.iconst 0, 1) := by decide +kernel
theorem dX6_in_18 : decode cX6_in 18 = .ok (.ireturn, 1) := by decide +kernel
theorem dX6_isInner_0 : decode cX6_isInner 0 = .ok (.iload_n 1, 1) := by decide +kernel
theorem dX6_isInner_1 : decode cX6_isInner 1 = .ok (.ifCond .le 25, 3) := by decide +kernel
theorem dX6_isInner_4 : decode cX6_isInner 4 = .ok (.iload_n 1, 1) := by decide +kernel
theorem dX6_isInner_5 : decode cX6_isInner 5 = .ok (.aload_n 0, 1) := by decide +kernel
theorem dX6_isInner_6 : decode cX6_isInner 6 = .ok (.getfield 185, 3) := by decide +kernel
theorem dX6_isInner_9 : decode cX6_isInner 9 = .ok (.iconst 1, 1) := by decide +kernel
theorem dX6_isInner_10 : decode cX6_isInner 10 = .ok (.isub, 1) := by decide +kernel
theorem dX6_isInner_11 : decode cX6_isInner 11 = .ok (.if_icmp .ge 15, 3) := by decide +kernel
theorem dX6_isInner_14 : decode cX6_isInner 14 = .ok (.aload_n 0, 1) := by decide +kernel
theorem dX6_isInner_15 : decode cX6_isInner 15 = .ok (.iload_n 1, 1) := by decide +kernel
theorem dX6_isInner_16 : decode cX6_isInner 16 = .ok (.invokevirtual 202, 3) := by decide +kernel
theorem dX6_isInner_19 : decode cX6_isInner 19 = .ok (.ifCond .eq 7, 3) := by decide +kernel
theorem dX6_isInner_22 : decode cX6_isInner 22 = .ok (.iconst 1, 1) := by decide +kernel
theorem dX6_isInner_23 : decode cX6_isInner 23 = .ok (.goto 4, 3) := by decide +kernel
theorem dX6_isInner_26 : decode cX6_isInner 26 = .ok (.iconst 0, 1) := by decide +kernel
theorem dX6_isInner_27 : decode cX6_isInner 27 = .ok (.ireturn, 1) := by decide +kernel
theorem dX6_isPresent_0 : decode cX6_isPresent 0 = .ok (.aload_n 0, 1) := by decide +kernel
theorem dX6_isPresent_1 : decode cX6_isPresent 1 = .ok (.getfield 7, 3) := by decide +kernel
theorem dX6_isPresent_4 : decode cX6_isPresent 4 = .ok (.bipush 101, 2) := by decide +kernel
theorem dX6_isPresent_6 : decode cX6_isPresent 6 = .ok (.iload_n 1, 1) := by decide +kernel
theorem dX6_isPresent_7 : decode cX6_isPresent 7 = .ok (.iadd, 1) := by decide +kernel
theorem dX6_isPresent_8 : decode cX6_isPresent 8 = .ok (.laload, 1) := by decide +kernel
theorem dX6_isPresent_9 : decode cX6_isPresent 9 = .ok (.ldc2_w 197, 3) := by decide +kernel
theorem dX6_isPresent_12 : decode cX6_isPresent 12 = .ok (.lcmp, 1) := by decide +kernel
theorem dX6_isPresent_13 : decode cX6_isPresent 13 = .ok (.ifCond .ne 7, 3) := by decide +kernel
theorem dX6_isPresent_16 : decode cX6_isPresent 16 = .ok (.iconst 1, 1) := by decide +kernel
theorem dX6_isPresent_17 : decode cX6_isPresent 17 = .ok (.goto 4, 3) := by decide +kernel
theorem dX6_isPresent_20 : decode cX6_isPresent 20 = .ok (.iconst 0, 1) := by decide +kernel
theorem dX6_isPresent_21 : decode cX6_isPresent 21 = .ok (.ireturn, 1) := by decide +kernel
theorem dX6_isSample_0 : decode cX6_isSample 0 = .ok (.iload_n 1, 1) := by decide +kernel
theorem dX6_isSample_1 : decode cX6_isSample 1 = .ok (.i2l, 1) := by decide +kernel
theorem dX6_isSample_2 : decode cX6_isSample 2 = .ok (.lconst 0, 1) := by decide +kernel
theorem dX6_isSample_3 : decode cX6_isSample 3 = .ok (.aload_n 0, 1) := by decide +kernel
theorem dX6_isSample_4 : decode cX6_isSample 4 = .ok (.getfield 185, 3) := by decide +kernel
theorem dX6_isSample_7 : decode cX6_isSample 7 = .ok (.iconst 1, 1) := by decide +kernel
theorem dX6_isSample_8 : decode cX6_isSample 8 = .ok (.isub, 1) := by decide +kernel
theorem dX6_isSample_9 : decode cX6_isSample 9 = .ok (.i2l, 1) := by decide +kernel
theorem dX6_isSample_10 : decode cX6_isSample 10 = .ok (.invokestatic 84, 3) := by decide +kernel
theorem dX6_isSample_13 : decode cX6_isSample 13 = .ok (.ireturn, 1) := by decide +kernel
theorem dX6_isStep_0 : decode cX6_isStep 0 = .ok (.iload_n 1, 1) := by decide +kernel
theorem dX6_isStep_1 : decode cX6_isStep 1 = .ok (.i2l, 1) := by decide +kernel
theorem dX6_isStep_2 : decode cX6_isStep 2 = .ok (.lconst 0, 1) := by decide +kernel
theorem dX6_isStep_3 : decode cX6_isStep 3 = .ok (.aload_n 0, 1) := by decide +kernel
theorem dX6_isStep_4 : decode cX6_isStep 4 = .ok (.invokevirtual 199, 3) := by decide +kernel
theorem dX6_isStep_7 : decode cX6_isStep 7 = .ok (.iconst 1, 1) := by decide +kernel
theorem dX6_isStep_8 : decode cX6_isStep 8 = .ok (.isub, 1) := by decide +kernel
theorem dX6_isStep_9 : decode cX6_isStep 9 = .ok (.i2l, 1) := by decide +kernel
theorem dX6_isStep_10 : decode cX6_isStep 10 = .ok (.invokestatic 84, 3) := by decide +kernel
theorem dX6_isStep_13 : decode cX6_isStep 13 = .ok (.ireturn, 1) := by decide +kernel
theorem dX6_of_0 : decode cX6_of 0 = .ok (.aload_n 0, 1) := by decide +kernel
theorem dX6_of_1 : decode cX6_of 1 = .ok (.getfield 7, 3) := by decide +kernel
theorem dX6_of_4 : decode cX6_of 4 = .ok (.sipush 149, 3) := by decide +kernel
theorem dX6_of_7 : decode cX6_of 7 = .ok (.bipush 10, 2) := by decide +kernel
theorem dX6_of_9 : decode cX6_of 9 = .ok (.iload_n 1, 1) := by decide +kernel
theorem dX6_of_10 : decode cX6_of 10 = .ok (.imul, 1) := by decide +kernel
theorem dX6_of_11 : decode cX6_of 11 = .ok (.iadd, 1) := by decide +kernel
theorem dX6_of_12 : decode cX6_of 12 = .ok (.iload_n 2, 1) := by decide +kernel
theorem dX6_of_13 : decode cX6_of 13 = .ok (.iadd, 1) := by decide +kernel
theorem dX6_of_14 : decode cX6_of 14 = .ok (.laload, 1) := by decide +kernel
theorem dX6_of_15 : decode cX6_of 15 = .ok (.lreturn, 1) := by decide +kernel
theorem dX6_presents_0 : decode cX6_presents 0 = .ok (.aload_n 0, 1) := by decide +kernel
theorem dX6_presents_1 : decode cX6_presents 1 = .ok (.getfield 185, 3) := by decide +kernel
theorem dX6_presents_4 : decode cX6_presents 4 = .ok (.aload_n 0, 1) := by decide +kernel
theorem dX6_presents_5 : decode cX6_presents 5 = .ok (.invokevirtual 199, 3) := by decide +kernel
theorem dX6_presents_8 : decode cX6_presents 8 = .ok (.isub, 1) := by decide +kernel
theorem dX6_presents_9 : decode cX6_presents 9 = .ok (.ireturn, 1) := by decide +kernel
theorem dX6_stateFails_0 : decode cX6_stateFails 0 = .ok (.aload_n 0, 1) := by decide +kernel
theorem dX6_stateFails_1 : decode cX6_stateFails 1 = .ok (.iload_n 2, 1) := by decide +kernel
theorem dX6_stateFails_2 : decode cX6_stateFails 2 = .ok (.putfield 67, 3) := by decide +kernel
theorem dX6_stateFails_5 : decode cX6_stateFails 5 = .ok (.aload_n 0, 1) := by decide +kernel
theorem dX6_stateFails_6 : decode cX6_stateFails 6 = .ok (.iload_n 3, 1) := by decide +kernel
theorem dX6_stateFails_7 : decode cX6_stateFails 7 = .ok (.putfield 70, 3) := by decide +kernel
theorem dX6_stateFails_10 : decode cX6_stateFails 10 = .ok (.aload_n 0, 1) := by decide +kernel
theorem dX6_stateFails_11 : decode cX6_stateFails 11 = .ok (.iload 4, 2) := by decide +kernel
theorem dX6_stateFails_13 : decode cX6_stateFails 13 = .ok (.putfield 30, 3) := by decide +kernel
theorem dX6_stateFails_16 : decode cX6_stateFails 16 = .ok (.aload_n 0, 1) := by decide +kernel
theorem dX6_stateFails_17 : decode cX6_stateFails 17 = .ok (.iload_n 1, 1) := by decide +kernel
theorem dX6_stateFails_18 : decode cX6_stateFails 18 = .ok (.invokevirtual 73, 3) := by decide +kernel
theorem dX6_stateFails_21 : decode cX6_stateFails 21 = .ok (.ireturn, 1) := by decide +kernel
theorem dX6_steps_0 : decode cX6_steps 0 = .ok (.aload_n 0, 1) := by decide +kernel
theorem dX6_steps_1 : decode cX6_steps 1 = .ok (.getfield 7, 3) := by decide +kernel
theorem dX6_steps_4 : decode cX6_steps 4 = .ok (.iconst 4, 1) := by decide +kernel
theorem dX6_steps_5 : decode cX6_steps 5 = .ok (.laload, 1) := by decide +kernel
theorem dX6_steps_6 : decode cX6_steps 6 = .ok (.l2i, 1) := by decide +kernel
theorem dX6_steps_7 : decode cX6_steps 7 = .ok (.ireturn, 1) := by decide +kernel
set_option maxHeartbeats 4000000 in
set_option maxRecDepth 100000 in
theorem X6_in (l : Launch) (κ : Kt) (σ0 : Gh) (x : Int64) (lo : Int64) (hi : Int64) : TC l yX6_in cX6_in 6 (some .boolean) 0 0 [.long x, .long lo, .long hi] κ σ0 (tqi κ fE σ0 (fun (r : Int32) (τ : Gh) => ((r.toInt = 1 ∧ lo.toInt ≤ x.toInt ∧ x.toInt ≤ hi.toInt) ∨ (r.toInt = 0 ∧ (x.toInt < lo.toInt ∨ hi.toInt < x.toInt))) ∧ (isB r))) := by
  refine TC.of fE (by decide +kernel) (Nat.le_of_ble_eq_true rfl) ?_
  intro p e s m below meth c ls hcs hK hX hT hl
  obtain ⟨hx, hb, hr, hml, hown, hg, hlocks, hin⟩ := hcs
  have hown : s.vm.findClass RX6 = some m.cls := hown
  have hl : lv_has ls 6 [(0, .long x), (2, .long lo), (4, .long hi)] := hl
  have hT0 := hT
  have n0 : (0 : Int32).toInt = 0 := by decide
  have n1 : (1 : Int32).toInt = 1 := by decide
  generalize hQ9 : tQ _ _ _ _ _ _ = Q9
  refine lv_lload_n hx hb dX6_in_0 rfl (lv_at hl 0 rfl) ?_
  refine lv_lload_n hx hb dX6_in_1 rfl (lv_at hl 1 rfl) ?_
  refine W.lcmp hx hb dX6_in_2 ?_
  refine lv_if_lt (tgt := 17) hx hb dX6_in_3 (by decide) (fun c9 => ?_) (fun c9 => ?_)
  · have c1 := gl_lt c9
    refine lv_iconst (v := 0) hx hb dX6_in_17 (by decide) ?_
    subst hQ9
    exact t_z hx hb hr isB0 hlocks hT ⟨by omega, isB0⟩ dX6_in_18
  · have c2 := gl_nlt c9
    refine lv_lload_n hx hb dX6_in_6 rfl (lv_at hl 0 rfl) ?_
    refine lv_lload hx hb dX6_in_7 (lv_at hl 2 rfl) ?_
    refine W.lcmp hx hb dX6_in_9 ?_
    refine lv_if_gt (tgt := 17) hx hb dX6_in_10 (by decide) (fun c9 => ?_) (fun c9 => ?_)
    · have c3 := gl_gt c9
      refine lv_iconst (v := 0) hx hb dX6_in_17 (by decide) ?_
      subst hQ9
      exact t_z hx hb hr isB0 hlocks hT ⟨by omega, isB0⟩ dX6_in_18
    · have c4 := gl_ngt c9
      refine lv_iconst (v := 1) hx hb dX6_in_13 (by decide) ?_
      refine lv_goto (tgt := 18) hx hb dX6_in_14 (by decide) ?_
      subst hQ9
      exact t_z hx hb hr isB1 hlocks hT ⟨by omega, isB1⟩ dX6_in_18
set_option maxHeartbeats 4000000 in
set_option maxRecDepth 100000 in
theorem X6_fails (l : Launch) (κ : Kt) (σ0 : Gh) (this : Nat) (i : Int32) (t_this : zk σ0 this 20) (h0 : RI κ σ0 this) : TC l yX6_fails cX6_fails 2 (some .int) 0 0 [.ref this, .int i] κ σ0 (tqi κ gR σ0 (fun (r : Int32) (τ : Gh) => (r.toInt = 0))) := by
  refine TC.of gR (by decide +kernel) (Nat.le_of_ble_eq_true rfl) ?_
  intro p e s m below meth c ls hcs hK hX hT hl
  obtain ⟨hx, hb, hr, hml, hown, hg, hlocks, hin⟩ := hcs
  have hown : s.vm.findClass RX6 = some m.cls := hown
  have hl : lv_has ls 2 [(0, .ref this), (1, .int i)] := hl
  have hT0 := hT
  have n0 : (0 : Int32).toInt = 0 := by decide
  have i_lo := Int32.le_toInt i
  have i_hi := Int32.toInt_lt i
  generalize hQ9 : tQ _ _ _ _ _ _ = Q9
  obtain ⟨rW, erW⟩ : ∃ z, kR κ this 1 = z := ⟨_, rfl⟩
  have trW : zk σ0 rW 21 := by rw [← erW]; exact h0.1.2.1
  obtain ⟨rP, erP⟩ : ∃ z, kR κ this 5 = z := ⟨_, rfl⟩
  have trP : zk σ0 rP 25 := by rw [← erP]; exact h0.1.2.2.2.2
  have hB0 := h0.b
  rw [erW] at hB0
  have hW := h0.2.1
  rw [erW] at hW
  have hP := h0.2.2.1
  rw [erP] at hP
  have hrN : (rN σ0 this : Int) = (zI σ0 this 7).toInt := by unfold rN; omega
  refine lv_aload_n hx hb dX6_fails_0 rfl (lv_at hl 0 rfl) ?_
  refine lv_iload_n hx hb dX6_fails_1 rfl (lv_at hl 1 rfl) ?_
  have hTo := hT
  refine pf20_0 hx hb hg hown hK hT (hT.k t_this (by decide)) rfl (hg _ k1219) dX6_fails_2 (fun H locs s1 hus1 hT => ?_)
  have e2 : zI s1 this 0 = i := zput_at hus1
  refine lv_iconst (v := 0) hx hb dX6_fails_5 (by decide) ?_
  subst hQ9
  exact t_i hx hb hr hlocks hT (by omega) dX6_fails_6
set_option maxHeartbeats 4000000 in
set_option maxRecDepth 100000 in
theorem X6_stateFails (l : Launch) (κ : Kt) (σ0 : Gh) (this : Nat) (i : Int32) (y1 : Int32) (y2 : Int32) (y3 : Int32) (t_this : zk σ0 this 20) (h0 : RI κ σ0 this) : TC l yX6_stateFails cX6_stateFails 5 (some .int) 1 21 [.ref this, .int i, .int y1, .int y2, .int y3] κ σ0 (tqi κ gR σ0 (fun (r : Int32) (τ : Gh) => True)) := by
  refine TC.of gR (by decide +kernel) (Nat.le_of_ble_eq_true rfl) ?_
  intro p e s m below meth c ls hcs hK hX hT hl
  obtain ⟨hx, hb, hr, hml, hown, hg, hlocks, hin⟩ := hcs
  have hown : s.vm.findClass RX6 = some m.cls := hown
  have hl : lv_has ls 5 [(0, .ref this), (1, .int i), (2, .int y1), (3, .int y2), (4, .int y3)] := hl
  have hT0 := hT
  have i_lo := Int32.le_toInt i
  have i_hi := Int32.toInt_lt i
  have y1_lo := Int32.le_toInt y1
  have y1_hi := Int32.toInt_lt y1
  have y2_lo := Int32.le_toInt y2
  have y2_hi := Int32.toInt_lt y2
  have y3_lo := Int32.le_toInt y3
  have y3_hi := Int32.toInt_lt y3
  generalize hQ9 : tQ _ _ _ _ _ _ = Q9
  obtain ⟨rW, erW⟩ : ∃ z, kR κ this 1 = z := ⟨_, rfl⟩
  have trW : zk σ0 rW 21 := by rw [← erW]; exact h0.1.2.1
  obtain ⟨rP, erP⟩ : ∃ z, kR κ this 5 = z := ⟨_, rfl⟩
  have trP : zk σ0 rP 25 := by rw [← erP]; exact h0.1.2.2.2.2
  have hB0 := h0.b
  rw [erW] at hB0
  have hW := h0.2.1
  rw [erW] at hW
  have hP := h0.2.2.1
  rw [erP] at hP
  have hrN : (rN σ0 this : Int) = (zI σ0 this 7).toInt := by unfold rN; omega
  refine lv_aload_n hx hb dX6_stateFails_0 rfl (lv_at hl 0 rfl) ?_
  refine lv_iload_n hx hb dX6_stateFails_1 rfl (lv_at hl 2 rfl) ?_
  have hTo := hT
  refine pf20_9 hx hb hg hown hK hT (hT.k t_this (by decide)) rfl (hg _ k1228) dX6_stateFails_2 (fun H locs s1 hus1 hT => ?_)
  have e2 : zI s1 this 9 = y1 := zput_at hus1
  refine lv_aload_n hx hb dX6_stateFails_5 rfl (lv_at hl 0 rfl) ?_
  refine lv_iload_n hx hb dX6_stateFails_6 rfl (lv_at hl 3 rfl) ?_
  have hTo := hT
  refine pf20_10 hx hb hg hown hK hT (hT.k t_this (by decide)) rfl (hg _ k1229) dX6_stateFails_7 (fun H locs s3 hus3 hT => ?_)
  have e2 : zI s3 this 9 = y1 := (zput_o hus3 (Or.inr (by decide))).trans e2
  have e4 : zI s3 this 10 = y2 := zput_at hus3
  refine lv_aload_n hx hb dX6_stateFails_10 rfl (lv_at hl 0 rfl) ?_
  refine lv_iload hx hb dX6_stateFails_11 (lv_at hl 4 rfl) ?_
  have hTo := hT
  refine pf20_11 hx hb hg hown hK hT (hT.k t_this (by decide)) rfl (hg _ k1230) dX6_stateFails_13 (fun H locs s5 hus5 hT => ?_)
  have e2 : zI s5 this 9 = y1 := (zput_o hus5 (Or.inr (by decide))).trans e2
  have e4 : zI s5 this 10 = y2 := (zput_o hus5 (Or.inr (by decide))).trans e4
  have e6 : zI s5 this 11 = y3 := zput_at hus5
  refine lv_aload_n hx hb dX6_stateFails_16 rfl (lv_at hl 0 rfl) ?_
  refine lv_iload_n hx hb dX6_stateFails_17 rfl (lv_at hl 1 rfl) ?_
  have K7 : zI s5 this 7 = zI σ0 this 7 := hT.eI t_this (by decide) rfl rfl
  have K7n : (zI s5 this 7).toInt = (zI σ0 this 7).toInt := by rw [K7]
  have J8 : zJ s5 rW = zJ σ0 rW := funext fun k => hT.eJ trW (by decide) rfl rfl
  have J8n : (zJ s5 (kR κ this 1) 4).toInt = (zJ σ0 rW 4).toInt := by rw [erW, J8]
  have P9 : zI s5 rP = zI σ0 rP := funext fun k => hT.eI trP (by decide) rfl rfl
  have R10 : RI κ s5 this := h0.ext hT.2.2.1 ⟨rfl, rfl, fun _ => rfl, fun _ => rfl, fun _ => rfl, fun _ => rfl⟩
  have hTo := hT
  refine tVi (n := 1) (As := [.int i]) (rest := []) hx hb hml hown hg hT hK hX (X6_fails l κ s5 this i  (hT.k t_this (by decide)) R10) (fun _ _ h => h) (mwV k1320 k1322 k37 k92 k1323) ⟨rfl, by decide, by decide, by decide +kernel⟩ ⟨(Nat.le_of_ble_eq_true rfl), (Nat.le_of_ble_eq_true rfl)⟩ (hT.o20 (hT.k t_this (by decide))) rfl rfl hl.1 rfl (Nat.le_of_ble_eq_true rfl) dX6_stateFails_18 zroom.rf (fun x11 s12 H locs hφ hEs12 hT => ?_)
  have f13 := hφ
  have K14 : zI s12 this 7 = zI σ0 this 7 := hT.eI t_this (by decide) rfl rfl
  have K14n : (zI s12 this 7).toInt = (zI σ0 this 7).toInt := by rw [K14]
  have J15 : zJ s12 rW = zJ σ0 rW := funext fun k => hT.eJ trW (by decide) rfl rfl
  have J15n : (zJ s12 (kR κ this 1) 4).toInt = (zJ σ0 rW 4).toInt := by rw [erW, J15]
  have P16 : zI s12 rP = zI σ0 rP := funext fun k => hT.eI trP (by decide) rfl rfl
  try simp only [erW, erP, ix_0, ix_1, ix_2, ix_3, ix_4, ix_5, ix_6, ix_7, ix_8, ix_9, K7, J8, P9, K14, J15, P16] at f13
  subst hQ9
  exact t_i hx hb hr hlocks hT trivial dX6_stateFails_21
set_option maxHeartbeats 4000000 in
set_option maxRecDepth 100000 in
theorem X6_amount (l : Launch) (κ : Kt) (σ0 : Gh) (x : Int64) : TC l yX6_amount cX6_amount 2 (some .long) 0 0 [.long x] κ σ0 (tql κ fE σ0 (fun (r : Int64) (τ : Gh) => (r = (if x.toInt < 0 then -x else x)))) := by
  refine TC.of fE (by decide +kernel) (Nat.le_of_ble_eq_true rfl) ?_
  intro p e s m below meth c ls hcs hK hX hT hl
  obtain ⟨hx, hb, hr, hml, hown, hg, hlocks, hin⟩ := hcs
  have hown : s.vm.findClass RX6 = some m.cls := hown
  have hl : lv_has ls 2 [(0, .long x)] := hl
  have hT0 := hT
  have n0 : (0 : Int32).toInt = 0 := by decide
  have j0 : (0 : Int64).toInt = 0 := by decide
  generalize hQ9 : tQ _ _ _ _ _ _ = Q9
  refine lv_lload_n hx hb dX6_amount_0 rfl (lv_at hl 0 rfl) ?_
  refine lv_lconst (v := 0) hx hb dX6_amount_1 (by decide) ?_
  refine W.lcmp hx hb dX6_amount_2 ?_
  refine lv_if_ge (tgt := 11) hx hb dX6_amount_3 (by decide) (fun c9 => ?_) (fun c9 => ?_)
  · have c1 := gl_ge c9
    refine lv_lload_n hx hb dX6_amount_11 rfl (lv_at hl 0 rfl) ?_
    subst hQ9
    exact t_l hx hb hr hlocks hT (by first | (rw [if_pos (by omega)]; assumption) | (rw [if_neg (by omega)])) dX6_amount_12
  · have c2 := gl_nge c9
    refine lv_lload_n hx hb dX6_amount_6 rfl (lv_at hl 0 rfl) ?_
    refine lv_lneg hx hb dX6_amount_7 ?_
    refine lv_topl (fun t1 ht1 => ?_)
    refine lv_goto (tgt := 12) hx hb dX6_amount_8 (by decide) ?_
    subst hQ9
    exact t_l hx hb hr hlocks hT (by first | (rw [if_pos (by omega)]; assumption) | (rw [if_neg (by omega)])) dX6_amount_12
set_option maxHeartbeats 4000000 in
set_option maxRecDepth 100000 in
theorem X6_floor (l : Launch) (κ : Kt) (σ0 : Gh) (x : Int64) (y : Int64) (h0 : 1 ≤ y.toInt) : TC l yX6_floor cX6_floor 6 (some .long) 0 0 [.long x, .long y] κ σ0 (tql κ fE σ0 (fun (r : Int64) (τ : Gh) => (0 ≤ x.toInt → 0 ≤ r.toInt ∧ r.toInt ≤ x.toInt / y.toInt))) := by
  refine TC.of fE (by decide +kernel) (Nat.le_of_ble_eq_true rfl) ?_
  intro p e s m below meth c ls hcs hK hX hT hl
  obtain ⟨hx, hb, hr, hml, hown, hg, hlocks, hin⟩ := hcs
  have hown : s.vm.findClass RX6 = some m.cls := hown
  have hl : lv_has ls 6 [(0, .long x), (2, .long y)] := hl
  have hT0 := hT
  have n0 : (0 : Int32).toInt = 0 := by decide
  have j0 : (0 : Int64).toInt = 0 := by decide
  have j1 : (1 : Int64).toInt = 1 := by decide
  generalize hQ9 : tQ _ _ _ _ _ _ = Q9
  refine lv_lload_n hx hb dX6_floor_0 rfl (lv_at hl 0 rfl) ?_
  refine lv_lload_n hx hb dX6_floor_1 rfl (lv_at hl 1 rfl) ?_
  refine lv_ldiv hx hb dX6_floor_2 (gl_nz (by omega)) ?_
  refine g_ldivp (by omega) (fun t1 ht1 => ?_)
  refine lv_lstore (lv' := [(4, .long t1), (0, .long x), (2, .long y)]) hx hb dX6_floor_3 hl (by decide) rfl (fun ls hl => ?_)
  refine lv_lload_n hx hb dX6_floor_5 rfl (lv_at hl 1 rfl) ?_
  refine lv_lload_n hx hb dX6_floor_6 rfl (lv_at hl 2 rfl) ?_
  refine lv_lrem hx hb dX6_floor_7 (gl_nz (by omega)) ?_
  refine g_lremp (by omega) (fun t2 ht2 => ?_)
  refine lv_lconst (v := 0) hx hb dX6_floor_8 (by decide) ?_
  refine W.lcmp hx hb dX6_floor_9 ?_
  refine lv_if_ge (tgt := 20) hx hb dX6_floor_10 (by decide) (fun c9 => ?_) (fun c9 => ?_)
  · have c1 := gl_ge c9
    refine lv_lload hx hb dX6_floor_20 (lv_at hl 0 rfl) ?_
    subst hQ9
    exact t_l hx hb hr hlocks hT (fun z9 => by omega) dX6_floor_22
  · have c2 := gl_nge c9
    refine lv_lload hx hb dX6_floor_13 (lv_at hl 0 rfl) ?_
    refine lv_lconst (v := 1) hx hb dX6_floor_15 (by decide) ?_
    refine lv_lsub hx hb dX6_floor_16 ?_
    refine lv_topl (fun t3 ht3 => ?_)
    refine lv_goto (tgt := 22) hx hb dX6_floor_17 (by decide) ?_
    subst hQ9
    exact t_l hx hb hr hlocks hT (fun z9 => by omega) dX6_floor_22
set_option maxHeartbeats 4000000 in
set_option maxRecDepth 100000 in
theorem X6_steps (l : Launch) (κ : Kt) (σ0 : Gh) (this : Nat) (t_this : zk σ0 this 20) (h0 : RI κ σ0 this) : TC l yX6_steps cX6_steps 1 (some .int) 0 0 [.ref this] κ σ0 (tqi κ fE σ0 (fun (r : Int32) (τ : Gh) => (r.toInt = ((zJ σ0 (kR κ this 1)) 4).toInt))) := by
  refine TC.of fE (by decide +kernel) (Nat.le_of_ble_eq_true rfl) ?_
  intro p e s m below meth c ls hcs hK hX hT hl
  obtain ⟨hx, hb, hr, hml, hown, hg, hlocks, hin⟩ := hcs
  have hown : s.vm.findClass RX6 = some m.cls := hown
  have hl : lv_has ls 1 [(0, .ref this)] := hl
  have hT0 := hT
  have n4 : (4 : Int32).toInt = 4 := by decide
  generalize hQ9 : tQ _ _ _ _ _ _ = Q9
  obtain ⟨rW, erW⟩ : ∃ z, kR κ this 1 = z := ⟨_, rfl⟩
  have trW : zk σ0 rW 21 := by rw [← erW]; exact h0.1.2.1
  obtain ⟨rP, erP⟩ : ∃ z, kR κ this 5 = z := ⟨_, rfl⟩
  have trP : zk σ0 rP 25 := by rw [← erP]; exact h0.1.2.2.2.2
  have hB0 := h0.b
  rw [erW] at hB0
  have hW := h0.2.1
  rw [erW] at hW
  have hP := h0.2.2.1
  rw [erP] at hP
  have hrN : (rN σ0 this : Int) = (zI σ0 this 7).toInt := by unfold rN; omega
  refine lv_aload_n hx hb dX6_steps_0 rfl (lv_at hl 0 rfl) ?_
  refine va_get (D := κ.1) (ci := 6) (v := .ref (kR κ this 1)) (C := RX6) (T := TX6) (N := 27) hx hb hg inX6 hown hK (hT.o20 (hT.k t_this (by decide))).one 0 rfl rfl 1 (by decide) (hg _ k1220) (fun _ h9 => h9) rfl dX6_steps_1 ?_
  rw [erW]
  refine lv_iconst (v := 4) hx hb dX6_steps_4 (by decide) ?_
  refine va_lald hx hb hK (hT.o21 (hT.k trW (by decide))).one 0 1 rfl rfl (g_in (by omega) (by omega)) dX6_steps_5 ?_
  refine lv_topl (fun t1 ht1 => ?_)
  have xt1 : (zJ σ0 rW 4).toInt = t1.toInt := by rw [ht1]; exact congrArg (fun q9 => (zJ σ0 rW q9).toInt) (show 4 = ix 4 from by decide)
  refine lv_l2i hx hb dX6_steps_6 rfl ?_
  first | refine g_l2i (by omega) (by omega) (fun t2 ht2 => ?_) | refine lv_topi (fun t2 ht2 => ?_)
  subst hQ9
  exact t_i hx hb hr hlocks hT (by simp only [erW, erP]; omega) dX6_steps_7
set_option maxHeartbeats 4000000 in
set_option maxRecDepth 100000 in
theorem X6_presents (l : Launch) (κ : Kt) (σ0 : Gh) (this : Nat) (t_this : zk σ0 this 20) (h0 : RI κ σ0 this) : TC l yX6_presents cX6_presents 1 (some .int) 1 20 [.ref this] κ σ0 (tqi κ fE σ0 (fun (r : Int32) (τ : Gh) => (r.toInt = (zI σ0 this 7).toInt - ((zJ σ0 (kR κ this 1)) 4).toInt))) := by
  refine TC.of fE (by decide +kernel) (Nat.le_of_ble_eq_true rfl) ?_
  intro p e s m below meth c ls hcs hK hX hT hl
  obtain ⟨hx, hb, hr, hml, hown, hg, hlocks, hin⟩ := hcs
  have hown : s.vm.findClass RX6 = some m.cls := hown
  have hl : lv_has ls 1 [(0, .ref this)] := hl
  have hT0 := hT
  generalize hQ9 : tQ _ _ _ _ _ _ = Q9
  obtain ⟨rW, erW⟩ : ∃ z, kR κ this 1 = z := ⟨_, rfl⟩
  have trW : zk σ0 rW 21 := by rw [← erW]; exact h0.1.2.1
  obtain ⟨rP, erP⟩ : ∃ z, kR κ this 5 = z := ⟨_, rfl⟩
  have trP : zk σ0 rP 25 := by rw [← erP]; exact h0.1.2.2.2.2
  have hB0 := h0.b
  rw [erW] at hB0
  have hW := h0.2.1
  rw [erW] at hW
  have hP := h0.2.2.1
  rw [erP] at hP
  have hrN : (rN σ0 this : Int) = (zI σ0 this 7).toInt := by unfold rN; omega
  refine lv_aload_n hx hb dX6_presents_0 rfl (lv_at hl 0 rfl) ?_
  obtain ⟨v1, ev1⟩ : ∃ zz9 : Int32, zI σ0 this 7 = zz9 := ⟨_, rfl⟩
  have qv1 : v1.toInt = (zI σ0 this 7).toInt := by rw [ev1]
  refine va_get (D := κ.1) (ci := 6) (v := .int (zI σ0 this 7)) (C := RX6) (T := TX6) (N := 27) hx hb hg inX6 hown hK (hT.o20 (hT.k t_this (by decide))).one 0 rfl rfl 7 (by decide) (hg _ k1226) (fun _ h9 => h9) rfl dX6_presents_1 ?_
  rw [(hT.eI t_this (by decide) rfl ev1)]
  refine lv_aload_n hx hb dX6_presents_4 rfl (lv_at hl 0 rfl) ?_
  have hTo := hT
  refine tVi (n := 0) (As := []) (rest := [.int v1]) hx hb hml hown hg hT hK hX (X6_steps l κ σ0 this  (hT.k t_this (by decide)) h0) (fun _ _ h => h) (mwV k1416 k1418 k52 k92 k1419) ⟨rfl, by decide, by decide, by decide +kernel⟩ ⟨(Nat.le_of_ble_eq_true rfl), (Nat.le_of_ble_eq_true rfl)⟩ (hT.o20 (hT.k t_this (by decide))) rfl rfl hl.1 rfl (Nat.le_of_ble_eq_true rfl) dX6_presents_5 zroom.rf (fun x2 s3 H locs hφ hEs3 hT => ?_)
  have f4 := hφ
  have K5 : zI s3 this 7 = zI σ0 this 7 := hT.eI t_this (by decide) rfl rfl
  have K5n : (zI s3 this 7).toInt = (zI σ0 this 7).toInt := by rw [K5]
  have J6 : zJ s3 rW = zJ σ0 rW := funext fun k => hT.eJ trW (by decide) rfl rfl
  have J6n : (zJ s3 (kR κ this 1) 4).toInt = (zJ σ0 rW 4).toInt := by rw [erW, J6]
  have P7 : zI s3 rP = zI σ0 rP := funext fun k => hT.eI trP (by decide) rfl rfl
  try simp only [erW, erP, ix_0, ix_1, ix_2, ix_3, ix_4, ix_5, ix_6, ix_7, ix_8, ix_9, K5, J6, P7] at f4
  refine lv_isub hx hb dX6_presents_8 ?_
  first | refine g_sub (by omega) (by omega) (fun t8 ht8 => ?_) | refine lv_topi (fun t8 ht8 => ?_)
  subst hQ9
  exact t_i hx hb hr hlocks hT (by simp only [erW, erP]; omega) dX6_presents_9
set_option maxHeartbeats 4000000 in
set_option maxRecDepth 100000 in
theorem X6_isSample (l : Launch) (κ : Kt) (σ0 : Gh) (this : Nat) (i : Int32) (t_this : zk σ0 this 20) (h0 : RI κ σ0 this) : TC l yX6_isSample cX6_isSample 2 (some .boolean) 1 25 [.ref this, .int i] κ σ0 (tqi κ fE σ0 (fun (r : Int32) (τ : Gh) => ((r.toInt = 1 ∧ 0 ≤ i.toInt ∧ i.toInt < (zI σ0 this 7).toInt) ∨ (r.toInt = 0 ∧ (i.toInt < 0 ∨ (zI σ0 this 7).toInt ≤ i.toInt))) ∧ (isB r))) := by
  refine TC.of fE (by decide +kernel) (Nat.le_of_ble_eq_true rfl) ?_
  intro p e s m below meth c ls hcs hK hX hT hl
  obtain ⟨hx, hb, hr, hml, hown, hg, hlocks, hin⟩ := hcs
  have hown : s.vm.findClass RX6 = some m.cls := hown
  have hl : lv_has ls 2 [(0, .ref this), (1, .int i)] := hl
  have hT0 := hT
  have n1 : (1 : Int32).toInt = 1 := by decide
  have j0 : (0 : Int64).toInt = 0 := by decide
  have i_lo := Int32.le_toInt i
  have i_hi := Int32.toInt_lt i
  generalize hQ9 : tQ _ _ _ _ _ _ = Q9
  obtain ⟨rW, erW⟩ : ∃ z, kR κ this 1 = z := ⟨_, rfl⟩
  have trW : zk σ0 rW 21 := by rw [← erW]; exact h0.1.2.1
  obtain ⟨rP, erP⟩ : ∃ z, kR κ this 5 = z := ⟨_, rfl⟩
  have trP : zk σ0 rP 25 := by rw [← erP]; exact h0.1.2.2.2.2
  have hB0 := h0.b
  rw [erW] at hB0
  have hW := h0.2.1
  rw [erW] at hW
  have hP := h0.2.2.1
  rw [erP] at hP
  have hrN : (rN σ0 this : Int) = (zI σ0 this 7).toInt := by unfold rN; omega
  refine lv_iload_n hx hb dX6_isSample_0 rfl (lv_at hl 1 rfl) ?_
  refine lv_i2l hx hb dX6_isSample_1 rfl ?_
  refine g_i2l (fun t1 ht1 => ?_)
  refine lv_lconst (v := 0) hx hb dX6_isSample_2 (by decide) ?_
  refine lv_aload_n hx hb dX6_isSample_3 rfl (lv_at hl 0 rfl) ?_
  obtain ⟨v2, ev2⟩ : ∃ zz9 : Int32, zI σ0 this 7 = zz9 := ⟨_, rfl⟩
  have qv2 : v2.toInt = (zI σ0 this 7).toInt := by rw [ev2]
  refine va_get (D := κ.1) (ci := 6) (v := .int (zI σ0 this 7)) (C := RX6) (T := TX6) (N := 27) hx hb hg inX6 hown hK (hT.o20 (hT.k t_this (by decide))).one 0 rfl rfl 7 (by decide) (hg _ k1226) (fun _ h9 => h9) rfl dX6_isSample_4 ?_
  rw [(hT.eI t_this (by decide) rfl ev2)]
  refine lv_iconst (v := 1) hx hb dX6_isSample_7 (by decide) ?_
  refine lv_isub hx hb dX6_isSample_8 ?_
  first | refine g_sub (by omega) (by omega) (fun t3 ht3 => ?_) | refine lv_topi (fun t3 ht3 => ?_)
  refine lv_i2l hx hb dX6_isSample_9 rfl ?_
  refine g_i2l (fun t4 ht4 => ?_)
  have hTo := hT
  refine tSi (n := 3) (As := [.long t1, .long 0, .long t4]) (rest := []) hx hb hml hown hg hT hK hX (X6_in l κ σ0 t1 0 t4   ) (fun _ _ h => h) (mwS k1317 k1318 k92 k1319) ⟨rfl, by decide, by decide, by decide +kernel⟩ ⟨(Nat.le_of_ble_eq_true rfl), (Nat.le_of_ble_eq_true rfl)⟩ rfl hl.1 rfl (Nat.le_of_ble_eq_true rfl) dX6_isSample_10 zroom.rf (fun x5 s6 H locs hφ hEs6 hT => ?_)
  obtain ⟨f7, f8⟩ := hφ
  have K9 : zI s6 this 7 = zI σ0 this 7 := hT.eI t_this (by decide) rfl rfl
  have K9n : (zI s6 this 7).toInt = (zI σ0 this 7).toInt := by rw [K9]
  have J10 : zJ s6 rW = zJ σ0 rW := funext fun k => hT.eJ trW (by decide) rfl rfl
  have J10n : (zJ s6 (kR κ this 1) 4).toInt = (zJ σ0 rW 4).toInt := by rw [erW, J10]
  have P11 : zI s6 rP = zI σ0 rP := funext fun k => hT.eI trP (by decide) rfl rfl
  try simp only [erW, erP, ix_0, ix_1, ix_2, ix_3, ix_4, ix_5, ix_6, ix_7, ix_8, ix_9, K9, J10, P11] at f7
  subst hQ9
  exact t_z hx hb hr f8 hlocks hT ⟨by omega, f8⟩ dX6_isSample_13
set_option maxHeartbeats 4000000 in
set_option maxRecDepth 100000 in
theorem X6_isStep (l : Launch) (κ : Kt) (σ0 : Gh) (this : Nat) (i : Int32) (t_this : zk σ0 this 20) (h0 : RI κ σ0 this) : TC l yX6_isStep cX6_isStep 2 (some .boolean) 1 25 [.ref this, .int i] κ σ0 (tqi κ fE σ0 (fun (r : Int32) (τ : Gh) => ((r.toInt = 1 ∧ 0 ≤ i.toInt ∧ i.toInt < ((zJ σ0 (kR κ this 1)) 4).toInt) ∨ (r.toInt = 0 ∧ (i.toInt < 0 ∨ ((zJ σ0 (kR κ this 1)) 4).toInt ≤ i.toInt))) ∧ (isB r))) := by
  refine TC.of fE (by decide +kernel) (Nat.le_of_ble_eq_true rfl) ?_
  intro p e s m below meth c ls hcs hK hX hT hl
  obtain ⟨hx, hb, hr, hml, hown, hg, hlocks, hin⟩ := hcs
  have hown : s.vm.findClass RX6 = some m.cls := hown
  have hl : lv_has ls 2 [(0, .ref this), (1, .int i)] := hl
  have hT0 := hT
  have n1 : (1 : Int32).toInt = 1 := by decide
  have j0 : (0 : Int64).toInt = 0 := by decide
  have i_lo := Int32.le_toInt i
  have i_hi := Int32.toInt_lt i
  generalize hQ9 : tQ _ _ _ _ _ _ = Q9
  obtain ⟨rW, erW⟩ : ∃ z, kR κ this 1 = z := ⟨_, rfl⟩
  have trW : zk σ0 rW 21 := by rw [← erW]; exact h0.1.2.1
  obtain ⟨rP, erP⟩ : ∃ z, kR κ this 5 = z := ⟨_, rfl⟩
  have trP : zk σ0 rP 25 := by rw [← erP]; exact h0.1.2.2.2.2
  have hB0 := h0.b
  rw [erW] at hB0
  have hW := h0.2.1
  rw [erW] at hW
  have hP := h0.2.2.1
  rw [erP] at hP
  have hrN : (rN σ0 this : Int) = (zI σ0 this 7).toInt := by unfold rN; omega
  refine lv_iload_n hx hb dX6_isStep_0 rfl (lv_at hl 1 rfl) ?_
  refine lv_i2l hx hb dX6_isStep_1 rfl ?_
  refine g_i2l (fun t1 ht1 => ?_)
  refine lv_lconst (v := 0) hx hb dX6_isStep_2 (by decide) ?_
  refine lv_aload_n hx hb dX6_isStep_3 rfl (lv_at hl 0 rfl) ?_
  have hTo := hT
  refine tVi (n := 0) (As := []) (rest := [.long 0, .long t1]) hx hb hml hown hg hT hK hX (X6_steps l κ σ0 this  (hT.k t_this (by decide)) h0) (fun _ _ h => h) (mwV k1416 k1418 k52 k92 k1419) ⟨rfl, by decide, by decide, by decide +kernel⟩ ⟨(Nat.le_of_ble_eq_true rfl), (Nat.le_of_ble_eq_true rfl)⟩ (hT.o20 (hT.k t_this (by decide))) rfl rfl hl.1 rfl (Nat.le_of_ble_eq_true rfl) dX6_isStep_4 zroom.rf (fun x2 s3 H locs hφ hEs3 hT => ?_)
  have f4 := hφ
  have K5 : zI s3 this 7 = zI σ0 this 7 := hT.eI t_this (by decide) rfl rfl
  have K5n : (zI s3 this 7).toInt = (zI σ0 this 7).toInt := by rw [K5]
  have J6 : zJ s3 rW = zJ σ0 rW := funext fun k => hT.eJ trW (by decide) rfl rfl
  have J6n : (zJ s3 (kR κ this 1) 4).toInt = (zJ σ0 rW 4).toInt := by rw [erW, J6]
  have P7 : zI s3 rP = zI σ0 rP := funext fun k => hT.eI trP (by decide) rfl rfl
  try simp only [erW, erP, ix_0, ix_1, ix_2, ix_3, ix_4, ix_5, ix_6, ix_7, ix_8, ix_9, K5, J6, P7] at f4
  refine lv_iconst (v := 1) hx hb dX6_isStep_7 (by decide) ?_
  refine lv_isub hx hb dX6_isStep_8 ?_
  first | refine g_sub (by omega) (by omega) (fun t8 ht8 => ?_) | refine lv_topi (fun t8 ht8 => ?_)
  refine lv_i2l hx hb dX6_isStep_9 rfl ?_
  refine g_i2l (fun t9 ht9 => ?_)
  have hTo := hT
  refine tSi (n := 3) (As := [.long t1, .long 0, .long t9]) (rest := []) hx hb hml hown hg hT hK hX (X6_in l κ s3 t1 0 t9   ) (fun _ _ h => h) (mwS k1317 k1318 k92 k1319) ⟨rfl, by decide, by decide, by decide +kernel⟩ ⟨(Nat.le_of_ble_eq_true rfl), (Nat.le_of_ble_eq_true rfl)⟩ rfl hl.1 rfl (Nat.le_of_ble_eq_true rfl) dX6_isStep_10 zroom.rf (fun x10 s11 H locs hφ hEs11 hT => ?_)
  obtain ⟨f12, f13⟩ := hφ
  have K14 : zI s11 this 7 = zI σ0 this 7 := hT.eI t_this (by decide) rfl rfl
  have K14n : (zI s11 this 7).toInt = (zI σ0 this 7).toInt := by rw [K14]
  have J15 : zJ s11 rW = zJ σ0 rW := funext fun k => hT.eJ trW (by decide) rfl rfl
  have J15n : (zJ s11 (kR κ this 1) 4).toInt = (zJ σ0 rW 4).toInt := by rw [erW, J15]
  have P16 : zI s11 rP = zI σ0 rP := funext fun k => hT.eI trP (by decide) rfl rfl
  try simp only [erW, erP, ix_0, ix_1, ix_2, ix_3, ix_4, ix_5, ix_6, ix_7, ix_8, ix_9, K5, J6, P7, K14, J15, P16] at f12
  subst hQ9
  exact t_z hx hb hr f13 hlocks hT ⟨by simp only [erW, erP]; omega, f13⟩ dX6_isStep_13
set_option maxHeartbeats 4000000 in
set_option maxRecDepth 100000 in
theorem X6_isPresent (l : Launch) (κ : Kt) (σ0 : Gh) (this : Nat) (i : Int32) (t_this : zk σ0 this 20) (h0 : RI κ σ0 this) (h1 : 0 ≤ i.toInt) (h2 : i.toInt < 48) : TC l yX6_isPresent cX6_isPresent 2 (some .boolean) 0 0 [.ref this, .int i] κ σ0 (tqi κ fE σ0 (fun (r : Int32) (τ : Gh) => ((r.toInt = 1 ∧ rlf (zJ σ0 (kR κ this 1)) (ix i) = -1) ∨ (r.toInt = 0 ∧ rlf (zJ σ0 (kR κ this 1)) (ix i) ≠ -1)) ∧ (isB r))) := by
  refine TC.of fE (by decide +kernel) (Nat.le_of_ble_eq_true rfl) ?_
  intro p e s m below meth c ls hcs hK hX hT hl
  obtain ⟨hx, hb, hr, hml, hown, hg, hlocks, hin⟩ := hcs
  have hown : s.vm.findClass RX6 = some m.cls := hown
  have hl : lv_has ls 2 [(0, .ref this), (1, .int i)] := hl
  have hT0 := hT
  have n0 : (0 : Int32).toInt = 0 := by decide
  have n1 : (1 : Int32).toInt = 1 := by decide
  have n101 : (101 : Int32).toInt = 101 := by decide
  have jm1 : ((-1) : Int64).toInt = (-1) := by decide
  have i_lo := Int32.le_toInt i
  have i_hi := Int32.toInt_lt i
  generalize hQ9 : tQ _ _ _ _ _ _ = Q9
  obtain ⟨rW, erW⟩ : ∃ z, kR κ this 1 = z := ⟨_, rfl⟩
  have trW : zk σ0 rW 21 := by rw [← erW]; exact h0.1.2.1
  obtain ⟨rP, erP⟩ : ∃ z, kR κ this 5 = z := ⟨_, rfl⟩
  have trP : zk σ0 rP 25 := by rw [← erP]; exact h0.1.2.2.2.2
  have hB0 := h0.b
  rw [erW] at hB0
  have hW := h0.2.1
  rw [erW] at hW
  have hP := h0.2.2.1
  rw [erP] at hP
  have hrN : (rN σ0 this : Int) = (zI σ0 this 7).toInt := by unfold rN; omega
  refine lv_aload_n hx hb dX6_isPresent_0 rfl (lv_at hl 0 rfl) ?_
  refine va_get (D := κ.1) (ci := 6) (v := .ref (kR κ this 1)) (C := RX6) (T := TX6) (N := 27) hx hb hg inX6 hown hK (hT.o20 (hT.k t_this (by decide))).one 0 rfl rfl 1 (by decide) (hg _ k1220) (fun _ h9 => h9) rfl dX6_isPresent_1 ?_
  rw [erW]
  refine lv_bipush (v := 101) hx hb dX6_isPresent_4 (by decide) ?_
  refine lv_iload_n hx hb dX6_isPresent_6 rfl (lv_at hl 1 rfl) ?_
  refine lv_iadd hx hb dX6_isPresent_7 ?_
  first | refine g_add (by omega) (by omega) (fun t1 ht1 => ?_) | refine lv_topi (fun t1 ht1 => ?_)
  refine va_lald hx hb hK (hT.o21 (hT.k trW (by decide))).one 0 1 rfl rfl (g_in (by omega) (by omega)) dX6_isPresent_8 ?_
  refine lv_topl (fun t2 ht2 => ?_)
  have xt2 : rlf (zJ σ0 rW) (ix i) = t2.toInt := by rw [ht2]; exact congrArg (fun q9 => (zJ σ0 rW q9).toInt) (show 101 + ix i = ix t1 from by unfold ix; omega)
  refine lv_ldc2 hx hb hown (hg _ k1218) dX6_isPresent_9 ?_
  refine W.lcmp hx hb dX6_isPresent_12 ?_
  refine lv_if_ne (tgt := 20) hx hb dX6_isPresent_13 (by decide) (fun c9 => ?_) (fun c9 => ?_)
  · have c1 := gl_ne c9
    refine lv_iconst (v := 0) hx hb dX6_isPresent_20 (by decide) ?_
    subst hQ9
    exact t_z hx hb hr isB0 hlocks hT ⟨by simp only [erW, erP]; omega, isB0⟩ dX6_isPresent_21
  · have c2 := gl_eq c9
    refine lv_iconst (v := 1) hx hb dX6_isPresent_16 (by decide) ?_
    refine lv_goto (tgt := 21) hx hb dX6_isPresent_17 (by decide) ?_
    subst hQ9
    exact t_z hx hb hr isB1 hlocks hT ⟨by simp only [erW, erP]; omega, isB1⟩ dX6_isPresent_21
set_option maxHeartbeats 4000000 in
set_option maxRecDepth 100000 in
theorem X6_isInner (l : Launch) (κ : Kt) (σ0 : Gh) (this : Nat) (i : Int32) (t_this : zk σ0 this 20) (h0 : RI κ σ0 this) : TC l yX6_isInner cX6_isInner 2 (some .boolean) 1 21 [.ref this, .int i] κ σ0 (tqi κ fE σ0 (fun (r : Int32) (τ : Gh) => ((r.toInt = 1 ∧ 0 < i.toInt ∧ i.toInt < (zI σ0 this 7).toInt - 1 ∧ rlf (zJ σ0 (kR κ this 1)) (ix i) = -1) ∨ (r.toInt = 0 ∧ (i.toInt ≤ 0 ∨ (zI σ0 this 7).toInt - 1 ≤ i.toInt ∨ rlf (zJ σ0 (kR κ this 1)) (ix i) ≠ -1))) ∧ (isB r))) := by
  refine TC.of fE (by decide +kernel) (Nat.le_of_ble_eq_true rfl) ?_
  intro p e s m below meth c ls hcs hK hX hT hl
  obtain ⟨hx, hb, hr, hml, hown, hg, hlocks, hin⟩ := hcs
  have hown : s.vm.findClass RX6 = some m.cls := hown
  have hl : lv_has ls 2 [(0, .ref this), (1, .int i)] := hl
  have hT0 := hT
  have n0 : (0 : Int32).toInt = 0 := by decide
  have n1 : (1 : Int32).toInt = 1 := by decide
  have i_lo := Int32.le_toInt i
  have i_hi := Int32.toInt_lt i
  generalize hQ9 : tQ _ _ _ _ _ _ = Q9
  obtain ⟨rW, erW⟩ : ∃ z, kR κ this 1 = z := ⟨_, rfl⟩
  have trW : zk σ0 rW 21 := by rw [← erW]; exact h0.1.2.1
  obtain ⟨rP, erP⟩ : ∃ z, kR κ this 5 = z := ⟨_, rfl⟩
  have trP : zk σ0 rP 25 := by rw [← erP]; exact h0.1.2.2.2.2
  have hB0 := h0.b
  rw [erW] at hB0
  have hW := h0.2.1
  rw [erW] at hW
  have hP := h0.2.2.1
  rw [erP] at hP
  have hrN : (rN σ0 this : Int) = (zI σ0 this 7).toInt := by unfold rN; omega
  refine lv_iload_n hx hb dX6_isInner_0 rfl (lv_at hl 1 rfl) ?_
  refine lv_if_le (tgt := 26) hx hb dX6_isInner_1 (by decide) (fun c9 => ?_) (fun c9 => ?_)
  · have c1 := gi_le c9
    refine lv_iconst (v := 0) hx hb dX6_isInner_26 (by decide) ?_
    subst hQ9
    exact t_z hx hb hr isB0 hlocks hT ⟨by simp only [erW, erP]; omega, isB0⟩ dX6_isInner_27
  · have c2 := gi_nle c9
    refine lv_iload_n hx hb dX6_isInner_4 rfl (lv_at hl 1 rfl) ?_
    refine lv_aload_n hx hb dX6_isInner_5 rfl (lv_at hl 0 rfl) ?_
    obtain ⟨v1, ev1⟩ : ∃ zz9 : Int32, zI σ0 this 7 = zz9 := ⟨_, rfl⟩
    have qv1 : v1.toInt = (zI σ0 this 7).toInt := by rw [ev1]
    refine va_get (D := κ.1) (ci := 6) (v := .int (zI σ0 this 7)) (C := RX6) (T := TX6) (N := 27) hx hb hg inX6 hown hK (hT.o20 (hT.k t_this (by decide))).one 0 rfl rfl 7 (by decide) (hg _ k1226) (fun _ h9 => h9) rfl dX6_isInner_6 ?_
    rw [(hT.eI t_this (by decide) rfl ev1)]
    refine lv_iconst (v := 1) hx hb dX6_isInner_9 (by decide) ?_
    refine lv_isub hx hb dX6_isInner_10 ?_
    first | refine g_sub (by omega) (by omega) (fun t2 ht2 => ?_) | refine lv_topi (fun t2 ht2 => ?_)
    refine lv_icmp_ge (tgt := 26) hx hb dX6_isInner_11 (by decide) (fun c9 => ?_) (fun c9 => ?_)
    · have c3 := gi_le c9
      refine lv_iconst (v := 0) hx hb dX6_isInner_26 (by decide) ?_
      subst hQ9
      exact t_z hx hb hr isB0 hlocks hT ⟨by simp only [erW, erP]; omega, isB0⟩ dX6_isInner_27
    · have c4 := gi_nle c9
      refine lv_aload_n hx hb dX6_isInner_14 rfl (lv_at hl 0 rfl) ?_
      refine lv_iload_n hx hb dX6_isInner_15 rfl (lv_at hl 1 rfl) ?_
      have hTo := hT
      refine tVi (n := 1) (As := [.int i]) (rest := []) hx hb hml hown hg hT hK hX (X6_isPresent l κ σ0 this i  (hT.k t_this (by decide)) h0 (by omega) (by omega)) (fun _ _ h => h) (mwV k1432 k1434 k56 k92 k1435) ⟨rfl, by decide, by decide, by decide +kernel⟩ ⟨(Nat.le_of_ble_eq_true rfl), (Nat.le_of_ble_eq_true rfl)⟩ (hT.o20 (hT.k t_this (by decide))) rfl rfl hl.1 rfl (Nat.le_of_ble_eq_true rfl) dX6_isInner_16 zroom.rf (fun x3 s4 H locs hφ hEs4 hT => ?_)
      obtain ⟨f5, f6⟩ := hφ
      have K7 : zI s4 this 7 = zI σ0 this 7 := hT.eI t_this (by decide) rfl rfl
      have K7n : (zI s4 this 7).toInt = (zI σ0 this 7).toInt := by rw [K7]
      have J8 : zJ s4 rW = zJ σ0 rW := funext fun k => hT.eJ trW (by decide) rfl rfl
      have J8n : (zJ s4 (kR κ this 1) 4).toInt = (zJ σ0 rW 4).toInt := by rw [erW, J8]
      have P9 : zI s4 rP = zI σ0 rP := funext fun k => hT.eI trP (by decide) rfl rfl
      try simp only [erW, erP, ix_0, ix_1, ix_2, ix_3, ix_4, ix_5, ix_6, ix_7, ix_8, ix_9, K7, J8, P9] at f5
      refine lv_if_eq (tgt := 26) hx hb dX6_isInner_19 (by decide) (fun c9 => ?_) (fun c9 => ?_)
      · have c5 := gi_eq c9
        refine lv_iconst (v := 0) hx hb dX6_isInner_26 (by decide) ?_
        subst hQ9
        exact t_z hx hb hr isB0 hlocks hT ⟨by simp only [erW, erP]; omega, isB0⟩ dX6_isInner_27
      · have c6 := gi_ne c9
        refine lv_iconst (v := 1) hx hb dX6_isInner_22 (by decide) ?_
        refine lv_goto (tgt := 27) hx hb dX6_isInner_23 (by decide) ?_
        subst hQ9
        exact t_z hx hb hr isB1 hlocks hT ⟨by simp only [erW, erP]; omega, isB1⟩ dX6_isInner_27
set_option maxHeartbeats 4000000 in
set_option maxRecDepth 100000 in
theorem X6_of (l : Launch) (κ : Kt) (σ0 : Gh) (this : Nat) (i : Int32) (x : Int32) (t_this : zk σ0 this 20) (h0 : 0 ≤ i.toInt) (h1 : i.toInt ≤ 45) (h2 : 0 ≤ x.toInt) (h3 : x.toInt ≤ 9) : TC l yX6_of cX6_of 3 (some .long) 0 0 [.ref this, .int i, .int x] κ σ0 (tql κ fE σ0 (fun (r : Int64) (τ : Gh) => (r.toInt = rst (zJ σ0 (kR κ this 1)) (ix i) (ix x)))) := by
  refine TC.of fE (by decide +kernel) (Nat.le_of_ble_eq_true rfl) ?_
  intro p e s m below meth c ls hcs hK hX hT hl
  obtain ⟨hx, hb, hr, hml, hown, hg, hlocks, hin⟩ := hcs
  have hown : s.vm.findClass RX6 = some m.cls := hown
  have hl : lv_has ls 3 [(0, .ref this), (1, .int i), (2, .int x)] := hl
  have hT0 := hT
  have n10 : (10 : Int32).toInt = 10 := by decide
  have n149 : (149 : Int32).toInt = 149 := by decide
  have i_lo := Int32.le_toInt i
  have i_hi := Int32.toInt_lt i
  have x_lo := Int32.le_toInt x
  have x_hi := Int32.toInt_lt x
  generalize hQ9 : tQ _ _ _ _ _ _ = Q9
  obtain ⟨rW, erW⟩ : ∃ z, kR κ this 1 = z := ⟨_, rfl⟩
  have trW : zk σ0 rW 21 := by rw [← erW]; exact hT0.ref t_this (by decide) (by decide) (by decide)
  obtain ⟨rP, erP⟩ : ∃ z, kR κ this 5 = z := ⟨_, rfl⟩
  have trP : zk σ0 rP 25 := by rw [← erP]; exact hT0.ref t_this (by decide) (by decide) (by decide)
  refine lv_aload_n hx hb dX6_of_0 rfl (lv_at hl 0 rfl) ?_
  refine va_get (D := κ.1) (ci := 6) (v := .ref (kR κ this 1)) (C := RX6) (T := TX6) (N := 27) hx hb hg inX6 hown hK (hT.o20 (hT.k t_this (by decide))).one 0 rfl rfl 1 (by decide) (hg _ k1220) (fun _ h9 => h9) rfl dX6_of_1 ?_
  rw [erW]
  refine lv_sipush (v := 149) hx hb dX6_of_4 (by decide) ?_
  refine lv_bipush (v := 10) hx hb dX6_of_7 (by decide) ?_
  refine lv_iload_n hx hb dX6_of_9 rfl (lv_at hl 1 rfl) ?_
  refine lv_imul hx hb dX6_of_10 ?_
  first | (refine g_mul (by rw [n10]; omega) (by rw [n10]; omega) (fun t1 ht1 => ?_); rw [n10] at ht1) | refine lv_topi (fun t1 ht1 => ?_)
  refine lv_iadd hx hb dX6_of_11 ?_
  first | refine g_add (by omega) (by omega) (fun t2 ht2 => ?_) | refine lv_topi (fun t2 ht2 => ?_)
  refine lv_iload_n hx hb dX6_of_12 rfl (lv_at hl 2 rfl) ?_
  refine lv_iadd hx hb dX6_of_13 ?_
  first | refine g_add (by omega) (by omega) (fun t3 ht3 => ?_) | refine lv_topi (fun t3 ht3 => ?_)
  refine va_lald hx hb hK (hT.o21 (hT.k trW (by decide))).one 0 1 rfl rfl (g_in (by omega) (by omega)) dX6_of_14 ?_
  refine lv_topl (fun t4 ht4 => ?_)
  have xt4 : rst (zJ σ0 rW) (ix i) (ix x) = t4.toInt := by rw [ht4]; exact congrArg (fun q9 => (zJ σ0 rW q9).toInt) (show 149 + 10 * ix i + ix x = ix t3 from by unfold ix; omega)
  subst hQ9
  exact t_l hx hb hr hlocks hT (by simp only [erW, erP]; omega) dX6_of_15
