/-! the methods of String that the reading of words calls -/
theorem k97 : Cond.initialized RJ0 ∈ GW := gm 97 (by decide +kernel) (by decide +kernel)
theorem k98 : Cond.initialized RJ1 ∈ GW := gm 98 (by decide +kernel) (by decide +kernel)
theorem k99 : Cond.initialized RJ3 ∈ GW := gm 99 (by decide +kernel) (by decide +kernel)
theorem k732 : Cond.methodLink RJ0 335 yJ0_coder_7d493 ∈ GW := gm 732 (by decide +kernel) (by decide +kernel)
theorem k733 : Cond.instanceMethod yJ0_coder_7d493 ∈ GW := gm 733 (by decide +kernel) (by decide +kernel)
theorem k734 : Cond.selects RJ0 yJ0_coder_7d493 yJ0_coder_7d493 ∈ GW := gm 734 (by decide +kernel) (by decide +kernel)
theorem k735 : Cond.code yJ0_coder_7d493 cJ0_coder_7d493 1 (some .byte) ∈ GW := gm 735 (by decide +kernel) (by decide +kernel)
theorem k736 : Cond.fieldLink RJ0 38 "java/lang/String" "COMPACT_STRINGS" "Z" ∈ GW := gm 736 (by decide +kernel) (by decide +kernel)
theorem k742 : Cond.methodLink RJ0 492 yJ0_isLatin1_aae02 ∈ GW := gm 742 (by decide +kernel) (by decide +kernel)
theorem k743 : Cond.instanceMethod yJ0_isLatin1_aae02 ∈ GW := gm 743 (by decide +kernel) (by decide +kernel)
theorem k744 : Cond.selects RJ0 yJ0_isLatin1_aae02 yJ0_isLatin1_aae02 ∈ GW := gm 744 (by decide +kernel) (by decide +kernel)
theorem k745 : Cond.code yJ0_isLatin1_aae02 cJ0_isLatin1_aae02 1 (some .boolean) ∈ GW := gm 745 (by decide +kernel) (by decide +kernel)
theorem k746 : Cond.methodLink RJ0 495 yJ1_charAt_3b067 ∈ GW := gm 746 (by decide +kernel) (by decide +kernel)
theorem k747 : Cond.static yJ1_charAt_3b067 ∈ GW := gm 747 (by decide +kernel) (by decide +kernel)
theorem k748 : Cond.code yJ1_charAt_3b067 cJ1_charAt_3b067 2 (some .char) ∈ GW := gm 748 (by decide +kernel) (by decide +kernel)
theorem k749 : Cond.methodLink RJ1 9 yJ0_checkIndex_df160 ∈ GW := gm 749 (by decide +kernel) (by decide +kernel)
theorem k750 : Cond.static yJ0_checkIndex_df160 ∈ GW := gm 750 (by decide +kernel) (by decide +kernel)
theorem k751 : Cond.code yJ0_checkIndex_df160 cJ0_checkIndex_df160 2 none ∈ GW := gm 751 (by decide +kernel) (by decide +kernel)
theorem k752 : Cond.fieldLink RJ0 1053 "jdk/internal/util/Preconditions" "SIOOBE_FORMATTER" "Ljava/util/function/BiFunction;" ∈ GW := gm 752 (by decide +kernel) (by decide +kernel)
theorem k754 : Cond.methodLink RJ0 1059 yJ3_checkIndex_8e157 ∈ GW := gm 754 (by decide +kernel) (by decide +kernel)
theorem k755 : Cond.static yJ3_checkIndex_8e157 ∈ GW := gm 755 (by decide +kernel) (by decide +kernel)
theorem k756 : Cond.code yJ3_checkIndex_8e157 cJ3_checkIndex_8e157 3 (some .int) ∈ GW := gm 756 (by decide +kernel) (by decide +kernel)
theorem k1712 : Cond.fieldLink RJ0 9 "java/lang/String" "value" "[B" ∈ GW := gm 1712 (by decide +kernel) (by decide +kernel)
theorem k1713 : Cond.fieldLink RJ0 15 "java/lang/String" "coder" "B" ∈ GW := gm 1713 (by decide +kernel) (by decide +kernel)
theorem dJ0_charAt_5068e_0 : decode cJ0_charAt_5068e 0 = .ok (.aload_n 0, 1) := by decide +kernel
theorem dJ0_charAt_5068e_1 : decode cJ0_charAt_5068e 1 = .ok (.invokevirtual 492, 3) := by decide +kernel
theorem dJ0_charAt_5068e_4 : decode cJ0_charAt_5068e 4 = .ok (.ifCond .eq 12, 3) := by decide +kernel
theorem dJ0_charAt_5068e_7 : decode cJ0_charAt_5068e 7 = .ok (.aload_n 0, 1) := by decide +kernel
theorem dJ0_charAt_5068e_8 : decode cJ0_charAt_5068e 8 = .ok (.getfield 9, 3) := by decide +kernel
theorem dJ0_charAt_5068e_11 : decode cJ0_charAt_5068e 11 = .ok (.iload_n 1, 1) := by decide +kernel
theorem dJ0_charAt_5068e_12 : decode cJ0_charAt_5068e 12 = .ok (.invokestatic 495, 3) := by decide +kernel
theorem dJ0_charAt_5068e_15 : decode cJ0_charAt_5068e 15 = .ok (.ireturn, 1) := by decide +kernel
theorem dJ0_checkIndex_df160_0 : decode cJ0_checkIndex_df160 0 = .ok (.iload_n 0, 1) := by decide +kernel
theorem dJ0_checkIndex_df160_1 : decode cJ0_checkIndex_df160 1 = .ok (.iload_n 1, 1) := by decide +kernel
theorem dJ0_checkIndex_df160_2 : decode cJ0_checkIndex_df160 2 = .ok (.getstatic 1053, 3) := by decide +kernel
theorem dJ0_checkIndex_df160_5 : decode cJ0_checkIndex_df160 5 = .ok (.invokestatic 1059, 3) := by decide +kernel
theorem dJ0_checkIndex_df160_8 : decode cJ0_checkIndex_df160 8 = .ok (.pop, 1) := by decide +kernel
theorem dJ0_checkIndex_df160_9 : decode cJ0_checkIndex_df160 9 = .ok (.return_, 1) := by decide +kernel
theorem dJ0_coder_7d493_0 : decode cJ0_coder_7d493 0 = .ok (.getstatic 38, 3) := by decide +kernel
theorem dJ0_coder_7d493_3 : decode cJ0_coder_7d493 3 = .ok (.ifCond .eq 10, 3) := by decide +kernel
theorem dJ0_coder_7d493_6 : decode cJ0_coder_7d493 6 = .ok (.aload_n 0, 1) := by decide +kernel
theorem dJ0_coder_7d493_7 : decode cJ0_coder_7d493 7 = .ok (.getfield 15, 3) := by decide +kernel
theorem dJ0_coder_7d493_10 : decode cJ0_coder_7d493 10 = .ok (.goto 4, 3) := by decide +kernel
theorem dJ0_coder_7d493_14 : decode cJ0_coder_7d493 14 = .ok (.ireturn, 1) := by decide +kernel
theorem dJ0_isLatin1_aae02_0 : decode cJ0_isLatin1_aae02 0 = .ok (.getstatic 38, 3) := by decide +kernel
theorem dJ0_isLatin1_aae02_3 : decode cJ0_isLatin1_aae02 3 = .ok (.ifCond .eq 14, 3) := by decide +kernel
theorem dJ0_isLatin1_aae02_6 : decode cJ0_isLatin1_aae02 6 = .ok (.aload_n 0, 1) := by decide +kernel
theorem dJ0_isLatin1_aae02_7 : decode cJ0_isLatin1_aae02 7 = .ok (.getfield 15, 3) := by decide +kernel
theorem dJ0_isLatin1_aae02_10 : decode cJ0_isLatin1_aae02 10 = .ok (.ifCond .ne 7, 3) := by decide +kernel
theorem dJ0_isLatin1_aae02_13 : decode cJ0_isLatin1_aae02 13 = .ok (.iconst 1, 1) := by decide +kernel
theorem dJ0_isLatin1_aae02_14 : decode cJ0_isLatin1_aae02 14 = .ok (.goto 4, 3) := by decide +kernel
theorem dJ0_isLatin1_aae02_18 : decode cJ0_isLatin1_aae02 18 = .ok (.ireturn, 1) := by decide +kernel
theorem dJ0_length_8abf5_0 : decode cJ0_length_8abf5 0 = .ok (.aload_n 0, 1) := by decide +kernel
theorem dJ0_length_8abf5_1 : decode cJ0_length_8abf5 1 = .ok (.getfield 9, 3) := by decide +kernel
theorem dJ0_length_8abf5_4 : decode cJ0_length_8abf5 4 = .ok (.arraylength, 1) := by decide +kernel
theorem dJ0_length_8abf5_5 : decode cJ0_length_8abf5 5 = .ok (.aload_n 0, 1) := by decide +kernel
theorem dJ0_length_8abf5_6 : decode cJ0_length_8abf5 6 = .ok (.invokevirtual 335, 3) := by decide +kernel
theorem dJ0_length_8abf5_9 : decode cJ0_length_8abf5 9 = .ok (.ishr, 1) := by decide +kernel
theorem dJ0_length_8abf5_10 : decode cJ0_length_8abf5 10 = .ok (.ireturn, 1) := by decide +kernel
theorem dJ1_charAt_3b067_0 : decode cJ1_charAt_3b067 0 = .ok (.iload_n 1, 1) := by decide +kernel
theorem dJ1_charAt_3b067_1 : decode cJ1_charAt_3b067 1 = .ok (.aload_n 0, 1) := by decide +kernel
theorem dJ1_charAt_3b067_2 : decode cJ1_charAt_3b067 2 = .ok (.arraylength, 1) := by decide +kernel
theorem dJ1_charAt_3b067_3 : decode cJ1_charAt_3b067 3 = .ok (.invokestatic 9, 3) := by decide +kernel
theorem dJ1_charAt_3b067_6 : decode cJ1_charAt_3b067 6 = .ok (.aload_n 0, 1) := by decide +kernel
theorem dJ1_charAt_3b067_7 : decode cJ1_charAt_3b067 7 = .ok (.iload_n 1, 1) := by decide +kernel
theorem dJ1_charAt_3b067_8 : decode cJ1_charAt_3b067 8 = .ok (.baload, 1) := by decide +kernel
theorem dJ1_charAt_3b067_9 : decode cJ1_charAt_3b067 9 = .ok (.sipush 255, 3) := by decide +kernel
theorem dJ1_charAt_3b067_12 : decode cJ1_charAt_3b067 12 = .ok (.iand, 1) := by decide +kernel
theorem dJ1_charAt_3b067_13 : decode cJ1_charAt_3b067 13 = .ok (.i2c, 1) := by decide +kernel
theorem dJ1_charAt_3b067_14 : decode cJ1_charAt_3b067 14 = .ok (.ireturn, 1) := by decide +kernel
theorem dJ3_checkIndex_8e157_0 : decode cJ3_checkIndex_8e157 0 = .ok (.iload_n 0, 1) := by decide +kernel
theorem dJ3_checkIndex_8e157_1 : decode cJ3_checkIndex_8e157 1 = .ok (.ifCond .lt 8, 3) := by decide +kernel
theorem dJ3_checkIndex_8e157_4 : decode cJ3_checkIndex_8e157 4 = .ok (.iload_n 0, 1) := by decide +kernel
theorem dJ3_checkIndex_8e157_5 : decode cJ3_checkIndex_8e157 5 = .ok (.iload_n 1, 1) := by decide +kernel
theorem dJ3_checkIndex_8e157_6 : decode cJ3_checkIndex_8e157 6 = .ok (.if_icmp .lt 10, 3) := by decide +kernel
theorem dJ3_checkIndex_8e157_16 : decode cJ3_checkIndex_8e157 16 = .ok (.iload_n 0, 1) := by decide +kernel
theorem dJ3_checkIndex_8e157_17 : decode cJ3_checkIndex_8e157 17 = .ok (.ireturn, 1) := by decide +kernel
/-! String constants: length, charAt; a call on a String -/
section STR
variable {p : Program} {l : Launch} {e : Env} {R : Room} {s : State} {m : MethodId} {args : Array Value} {below : List Frame} {meth : Method} {c : Code} {H : Heap} {locs : List Loc} {cells slots : Nat} {Q : State → Prop} {cc : ByteArray} {pc : Nat} {ls : Array Slot} {rest st0 : List Value}
variable {κ : Kt} {F F1 : Nat → Nat → Bool} {σ0 σ : Gh}
variable {own C : String} {nL n idx ml fr lw : Nat} {y : MethodName} {bc : ByteArray} {rt : Option FieldType} {b : Nat} {av As : List Value}
theorem tKi {φ : Int32 → Gh → Prop} (hx : p.tables.exec = Jvm.exec) (hb : c.code = cc) (hml : c.maxLocals = nL) (hown : s.vm.findClass own = some m.cls) (hg : ∀ w ∈ GW, w.before args s = true) (hT : TS κ F σ0 σ s H locs) (hK : va_K κ.1 vwCl (kTy κ) s) (hX : XY κ (tA σ0 s.heap.size) s s.heap) (hC : TC l y bc ml rt fr lw (.ref b :: As) κ σ (tqi κ F1 σ φ)) (hFG : ∀ t k, F t k = false → F1 t k = false) (hG : GoodIn GW (wsV own idx C y (mw y bc ml rt))) (hd : y.cls = C ∧ y.cls ≠ "java/lang/invoke/MethodHandle" ∧ y.cls ≠ "java/lang/invoke/VarHandle" ∧ (parseMethodDescriptor y.desc).map (fun d => d.parameters.length) = some n) (hfr : fr + 1 ≤ R.frames ∧ 8 + (ml + 11) + lw ≤ R.locals)
    (hr9 : ∃ cell : Cell, H[b]? = some cell ∧ cell.vm.isStatics = false ∧ s.vm.findClass C = some cell.cls) (hn : As.length = n) (hsize : ls.size = nL) (hst : st0 = As.reverse ++ .ref b :: rest) (hroom : (rest.map fun v => v.category).sum ≤ 8) (hdg : decode cc pc = .ok (.invokevirtual idx, 3)) (hz9 : zroom κ s R cells slots)
    (kk : ∀ (x : Int32) (τ : Gh) (H1 : Heap) (locs1 : List Loc), φ x τ → Ext F1 H.size σ τ → TS κ F σ0 τ s H1 locs1 → W p l e R s m args below meth c H1 locs1 cells slots Q (F0 m (pc + 3) ls (.int x :: rest))) : W p l e R s m args below meth c H locs cells slots Q (F0 m pc ls st0) := by
  refine W.tight (fun w1 w2 w3 w4 => ?_)
  obtain ⟨z1, z2, z3, z4⟩ := hz9
  have c1 := hT.2.1.2.1
  have c2 := hT.2.1.2.2
  refine va_calli (va_runV (As := As) (rest := rest) ⟨hx, hb, hml, hown, hg⟩ (hC H.size (hsl H)) (cwV n hg hG rfl rfl rfl hd ⟨hfr.1, hfr.2⟩) ⟨tpre_blind, hr9, fun U hU hW => ⟨rfl, by rw [hU], by rw [hU], by rw [hU]; exact hT.1, by rw [hU]; exact hT.2.1, va_K.moved hW.alike hK, by rw [hU]; exact (okXY κ).2.1 _ _ _ _ hW ((okXY κ).1 _ _ _ _ hT.tA ((okXY κ).2.2 _ _ _ _ hT.2.2.2.2.1 hX))⟩⟩ rfl hn hsize hst (lv_room hroom) hdg ⟨by omega, by omega⟩) hT.2.2.2 (fun q _ h => hT.tA q h) hT.tA (fun x τ t H1 locs1 ht1 hvm hw hB hz hk hS1 => ?_)
  obtain ⟨b1, b2, b3⟩ := hB
  rw [ht1] at b1 b2
  refine W.widen (k := cells) (n := slots) (by omega) (by omega) ?_
  exact kk x τ H1 locs1 hw b3 ⟨b1, b2, hT.2.2.1.tr b3 hT.2.2.2.1 hFG, hS1⟩
theorem t_n {ty : FieldType} {φ : Int32 → Gh → Prop} {v : Int32} (hx : p.tables.exec = Jvm.exec) (hb : c.code = cc) (hr : meth.sig.returnType = some ty) (hn : narrow ty (.int v) = .int v) (hlocks : meth.locks = false) (hT : TS κ F σ0 σ s H locs) (hφ : φ v σ) (hdg : decode cc pc = .ok (.ireturn, 1)) : W p l e R s m args below meth c H locs cells slots (MQ below (tqi κ F σ0 φ s.heap.size) args s cells slots (tA σ0 s.heap.size)) (F0 m pc ls [.int v]) :=
  W.zret hx hb hr hn (fun t ht hW => ⟨⟨v, σ, rfl, hφ, by rw [ht]; exact hT.1, by rw [ht]; exact hT.2.1, hT.2.2.1⟩, hT.2.2.2.F ht⟩) hT.2.2.2.2.2 hdg (hlocks := hlocks)
end STR
theorem wd_shr : ∀ i, i < 13 → Int32.ofNat (wdL.getD i 0) >>> ((0 : Int32) &&& 31) = Int32.ofNat (wdL.getD i 0) := by decide
theorem wd_len : ∀ i, i < 13 → (Int32.ofNat (wdL.getD i 0)).toInt = wdL.getD i 0 ∧ wdL.getD i 0 ≤ 7 := by decide
theorem wd_byt : ∀ i, i < 13 → ∀ j, j < 7 → (((wdB.getD i []).getD j 0 &&& 255).toUInt32 % 65536).toInt32 = (wdB.getD i []).getD j 0 ∧ narrow .char (.int ((wdB.getD i []).getD j 0)) = .int ((wdB.getD i []).getD j 0) := by decide +kernel
set_option maxHeartbeats 4000000 in
set_option maxRecDepth 100000 in
theorem J_coder (l : Launch) (κ : Kt) (σ0 : Gh) (i : Nat) (hi : i < 13) : TC l yJ0_coder_7d493 cJ0_coder_7d493 1 (some .byte) 0 0 [.ref (kK κ i)] κ σ0 (tqi κ fE σ0 (fun r _ => r = 0)) := by
  refine TC.ofF fE (by decide +kernel) (Nat.le_of_ble_eq_true rfl) ?_
  intro p e s m below meth c ls hcs hK hX hT hl
  obtain ⟨hx, hb, hr, hml, hown, hg, hlocks, hin⟩ := hcs
  have hown : s.vm.findClass RJ0 = some m.cls := hown
  have hl : lv_has ls 1 [(0, .ref (kK κ i))] := hl
  have hS := hT.2.2.2
  refine va_gets hx hb hX.2.2.2.1 hS hown (hg _ k736) (fun _ h => h) dJ0_coder_7d493_0 ?_
  refine lv_if_eq (tgt := 13) hx hb dJ0_coder_7d493_3 (by decide) (fun c9 => absurd c9 (by decide)) (fun _ => ?_)
  refine lv_aload_n hx hb dJ0_coder_7d493_6 rfl (lv_at hl 0 rfl) ?_
  refine vk_getf hx hb (hX.2.1.1 i hi).2.1 hS hown (hg _ k1713) (fun _ h => h) dJ0_coder_7d493_7 ?_
  refine lv_goto (tgt := 14) hx hb dJ0_coder_7d493_10 (by decide) ?_
  exact t_n hx hb hr (by decide) hlocks hT rfl dJ0_coder_7d493_14
set_option maxHeartbeats 4000000 in
set_option maxRecDepth 100000 in
theorem J_isLatin1 (l : Launch) (κ : Kt) (σ0 : Gh) (i : Nat) (hi : i < 13) : TC l yJ0_isLatin1_aae02 cJ0_isLatin1_aae02 1 (some .boolean) 0 0 [.ref (kK κ i)] κ σ0 (tqi κ fE σ0 (fun r _ => r = 1)) := by
  refine TC.ofF fE (by decide +kernel) (Nat.le_of_ble_eq_true rfl) ?_
  intro p e s m below meth c ls hcs hK hX hT hl
  obtain ⟨hx, hb, hr, hml, hown, hg, hlocks, hin⟩ := hcs
  have hown : s.vm.findClass RJ0 = some m.cls := hown
  have hl : lv_has ls 1 [(0, .ref (kK κ i))] := hl
  have hS := hT.2.2.2
  refine va_gets hx hb hX.2.2.2.1 hS hown (hg _ k736) (fun _ h => h) dJ0_isLatin1_aae02_0 ?_
  refine lv_if_eq (tgt := 17) hx hb dJ0_isLatin1_aae02_3 (by decide) (fun c9 => absurd c9 (by decide)) (fun _ => ?_)
  refine lv_aload_n hx hb dJ0_isLatin1_aae02_6 rfl (lv_at hl 0 rfl) ?_
  refine vk_getf hx hb (hX.2.1.1 i hi).2.1 hS hown (hg _ k1713) (fun _ h => h) dJ0_isLatin1_aae02_7 ?_
  refine lv_if_ne (tgt := 17) hx hb dJ0_isLatin1_aae02_10 (by decide) (fun c9 => absurd rfl c9) (fun _ => ?_)
  refine lv_iconst (v := 1) hx hb dJ0_isLatin1_aae02_13 (by decide) ?_
  refine lv_goto (tgt := 18) hx hb dJ0_isLatin1_aae02_14 (by decide) ?_
  exact t_n hx hb hr (by decide) hlocks hT rfl dJ0_isLatin1_aae02_18
set_option maxHeartbeats 4000000 in
set_option maxRecDepth 100000 in
theorem J_length (l : Launch) (κ : Kt) (σ0 : Gh) (i : Nat) (hi : i < 13) : TC l yJ0_length_8abf5 cJ0_length_8abf5 1 (some .int) 1 20 [.ref (kK κ i)] κ σ0 (tqi κ fE σ0 (fun r _ => r.toInt = wdL.getD i 0)) := by
  refine TC.ofF fE (by decide +kernel) (Nat.le_of_ble_eq_true rfl) ?_
  intro p e s m below meth c ls hcs hK hX hT hl
  obtain ⟨hx, hb, hr, hml, hown, hg, hlocks, hin⟩ := hcs
  have hown : s.vm.findClass RJ0 = some m.cls := hown
  have hl : lv_has ls 1 [(0, .ref (kK κ i))] := hl
  have hS := hT.2.2.2
  refine lv_aload_n hx hb dJ0_length_8abf5_0 rfl (lv_at hl 0 rfl) ?_
  refine vk_getf hx hb (hX.2.1.1 i hi).2.2.1 hS hown (hg _ k1712) (fun _ h => h) dJ0_length_8abf5_1 ?_
  refine va_tlen hx hb (hX.2.1.1 i hi).2.2.2 hS rfl dJ0_length_8abf5_4 ?_
  refine lv_aload_n hx hb dJ0_length_8abf5_5 rfl (lv_at hl 0 rfl) ?_
  refine tKi (n := 0) (As := []) (rest := [.int (Int32.ofNat (wdL.getD i 0))]) hx hb hml hown hg hT hK hX (J_coder l κ σ0 i hi) (fun _ _ h => h) (mwV k732 k733 k734 k97 k735) ⟨rfl, by decide, by decide, by decide +kernel⟩ ⟨(Nat.le_of_ble_eq_true rfl), (Nat.le_of_ble_eq_true rfl)⟩ (vk_recv hX.2.1 hi hS) rfl hl.1 rfl (Nat.le_of_ble_eq_true rfl) dJ0_length_8abf5_6 zroom.rf (fun x τ H locs hφ hE hT => ?_)
  subst hφ
  refine lv_ishr hx hb dJ0_length_8abf5_9 ?_
  rw [wd_shr i hi]
  exact t_i hx hb hr hlocks hT (wd_len i hi).1 dJ0_length_8abf5_10
set_option maxHeartbeats 4000000 in
set_option maxRecDepth 100000 in
theorem J_preIndexN (l : Launch) (κ : Kt) (σ0 : Gh) (k n : Int32) (h0 : 0 ≤ k.toInt) (h1 : k.toInt < n.toInt) : TC l yJ3_checkIndex_8e157 cJ3_checkIndex_8e157 3 (some .int) 0 0 [.int k, .int n, .null] κ σ0 (tqi κ fE σ0 (fun _ _ => True)) := by
  refine TC.ofF fE (by decide +kernel) (Nat.le_of_ble_eq_true rfl) ?_
  intro p e s m below meth c ls hcs hK hX hT hl
  obtain ⟨hx, hb, hr, hml, hown, hg, hlocks, hin⟩ := hcs
  have hown : s.vm.findClass RJ3 = some m.cls := hown
  have hl : lv_has ls 3 [(0, .int k), (1, .int n), (2, .null)] := hl
  have hS := hT.2.2.2
  have n0 : (0 : Int32).toInt = 0 := by decide
  refine lv_iload_n hx hb dJ3_checkIndex_8e157_0 rfl (lv_at hl 0 rfl) ?_
  refine lv_if_lt (tgt := 9) hx hb dJ3_checkIndex_8e157_1 (by decide) (fun c9 => absurd (gi_lt c9) (by omega)) (fun _ => ?_)
  refine lv_iload_n hx hb dJ3_checkIndex_8e157_4 rfl (lv_at hl 0 rfl) ?_
  refine lv_iload_n hx hb dJ3_checkIndex_8e157_5 rfl (lv_at hl 1 rfl) ?_
  refine lv_icmp_lt (tgt := 16) hx hb dJ3_checkIndex_8e157_6 (by decide) (fun _ => ?_) (fun c9 => absurd (gi_nlt c9) (by omega))
  refine lv_iload_n hx hb dJ3_checkIndex_8e157_16 rfl (lv_at hl 0 rfl) ?_
  exact t_i hx hb hr hlocks hT trivial dJ3_checkIndex_8e157_17
set_option maxHeartbeats 4000000 in
set_option maxRecDepth 100000 in
theorem J_preIndexR (l : Launch) (κ : Kt) (σ0 : Gh) (k n : Int32) (q : Nat) (h0 : 0 ≤ k.toInt) (h1 : k.toInt < n.toInt) : TC l yJ3_checkIndex_8e157 cJ3_checkIndex_8e157 3 (some .int) 0 0 [.int k, .int n, .ref q] κ σ0 (tqi κ fE σ0 (fun _ _ => True)) := by
  refine TC.ofF fE (by decide +kernel) (Nat.le_of_ble_eq_true rfl) ?_
  intro p e s m below meth c ls hcs hK hX hT hl
  obtain ⟨hx, hb, hr, hml, hown, hg, hlocks, hin⟩ := hcs
  have hown : s.vm.findClass RJ3 = some m.cls := hown
  have hl : lv_has ls 3 [(0, .int k), (1, .int n), (2, .ref q)] := hl
  have hS := hT.2.2.2
  have n0 : (0 : Int32).toInt = 0 := by decide
  refine lv_iload_n hx hb dJ3_checkIndex_8e157_0 rfl (lv_at hl 0 rfl) ?_
  refine lv_if_lt (tgt := 9) hx hb dJ3_checkIndex_8e157_1 (by decide) (fun c9 => absurd (gi_lt c9) (by omega)) (fun _ => ?_)
  refine lv_iload_n hx hb dJ3_checkIndex_8e157_4 rfl (lv_at hl 0 rfl) ?_
  refine lv_iload_n hx hb dJ3_checkIndex_8e157_5 rfl (lv_at hl 1 rfl) ?_
  refine lv_icmp_lt (tgt := 16) hx hb dJ3_checkIndex_8e157_6 (by decide) (fun _ => ?_) (fun c9 => absurd (gi_nlt c9) (by omega))
  refine lv_iload_n hx hb dJ3_checkIndex_8e157_16 rfl (lv_at hl 0 rfl) ?_
  exact t_i hx hb hr hlocks hT trivial dJ3_checkIndex_8e157_17
set_option maxHeartbeats 4000000 in
set_option maxRecDepth 100000 in
theorem J_checkIndex (l : Launch) (κ : Kt) (σ0 : Gh) (k n : Int32) (h0 : 0 ≤ k.toInt) (h1 : k.toInt < n.toInt) : TC l yJ0_checkIndex_df160 cJ0_checkIndex_df160 2 none 1 22 [.int k, .int n] κ σ0 (tqv κ fE σ0 (fun _ => True)) := by
  refine TC.ofF fE (by decide +kernel) (Nat.le_of_ble_eq_true rfl) ?_
  intro p e s m below meth c ls hcs hK hX hT hl
  obtain ⟨hx, hb, hr, hml, hown, hg, hlocks, hin⟩ := hcs
  have hown : s.vm.findClass RJ0 = some m.cls := hown
  have hl : lv_has ls 2 [(0, .int k), (1, .int n)] := hl
  have hS := hT.2.2.2
  refine lv_iload_n hx hb dJ0_checkIndex_df160_0 rfl (lv_at hl 0 rfl) ?_
  refine lv_iload_n hx hb dJ0_checkIndex_df160_1 rfl (lv_at hl 1 rfl) ?_
  rcases hX.2.2.2.2 with hZ | ⟨q, hZ⟩
  · refine va_gets hx hb hZ hS hown (hg _ k752) (fun _ h => h) dJ0_checkIndex_df160_2 ?_
    refine tTi (n := 3) (As := [.int k, .int n, .null]) (rest := []) hx hb hml hown hg hT hK hX (J_preIndexN l κ σ0 k n h0 h1) (fun _ _ h => h) (mwI k756) ⟨by decide, by decide, by decide +kernel⟩ ⟨(Nat.le_of_ble_eq_true rfl), (Nat.le_of_ble_eq_true rfl)⟩ k99 k754 k755 rfl hl.1 rfl (Nat.le_of_ble_eq_true rfl) dJ0_checkIndex_df160_5 zroom.rf (fun x τ H locs hφ hE hT => ?_)
    refine lv_pop hx hb dJ0_checkIndex_df160_8 rfl ?_
    exact t_v hx hb hr hlocks hT trivial dJ0_checkIndex_df160_9
  · refine va_gets hx hb hZ hS hown (hg _ k752) (fun _ h => h) dJ0_checkIndex_df160_2 ?_
    refine tTi (n := 3) (As := [.int k, .int n, .ref q]) (rest := []) hx hb hml hown hg hT hK hX (J_preIndexR l κ σ0 k n q h0 h1) (fun _ _ h => h) (mwI k756) ⟨by decide, by decide, by decide +kernel⟩ ⟨(Nat.le_of_ble_eq_true rfl), (Nat.le_of_ble_eq_true rfl)⟩ k99 k754 k755 rfl hl.1 rfl (Nat.le_of_ble_eq_true rfl) dJ0_checkIndex_df160_5 zroom.rf (fun x τ H locs hφ hE hT => ?_)
    refine lv_pop hx hb dJ0_checkIndex_df160_8 rfl ?_
    exact t_v hx hb hr hlocks hT trivial dJ0_checkIndex_df160_9
set_option maxHeartbeats 4000000 in
set_option maxRecDepth 100000 in
theorem J_charAtL (l : Launch) (κ : Kt) (σ0 : Gh) (i : Nat) (hi : i < 13) (k : Int32) (h0 : 0 ≤ k.toInt) (h1 : k.toInt < wdL.getD i 0) : TC l yJ1_charAt_3b067 cJ1_charAt_3b067 2 (some .char) 2 43 [.ref (kV κ i), .int k] κ σ0 (tqi κ fE σ0 (fun r _ => r = (wdB.getD i []).getD (ix k) 0)) := by
  refine TC.ofF fE (by decide +kernel) (Nat.le_of_ble_eq_true rfl) ?_
  intro p e s m below meth c ls hcs hK hX hT hl
  obtain ⟨hx, hb, hr, hml, hown, hg, hlocks, hin⟩ := hcs
  have hown : s.vm.findClass RJ1 = some m.cls := hown
  have hl : lv_has ls 2 [(0, .ref (kV κ i)), (1, .int k)] := hl
  have hS := hT.2.2.2
  have hw := wd_len i hi
  have hk : ix k < 7 := ix_lt h0 (by omega)
  refine lv_iload_n hx hb dJ1_charAt_3b067_0 rfl (lv_at hl 1 rfl) ?_
  refine lv_aload_n hx hb dJ1_charAt_3b067_1 rfl (lv_at hl 0 rfl) ?_
  refine va_tlen hx hb (hX.2.1.1 i hi).2.2.2 hS rfl dJ1_charAt_3b067_2 ?_
  refine tTv (n := 2) (As := [.int k, .int (Int32.ofNat (wdL.getD i 0))]) (rest := []) hx hb hml hown hg hT hK hX (J_checkIndex l κ σ0 k (Int32.ofNat (wdL.getD i 0)) h0 (by omega)) (fun _ _ h => h) (mwI k751) ⟨by decide, by decide, by decide +kernel⟩ ⟨(Nat.le_of_ble_eq_true rfl), (Nat.le_of_ble_eq_true rfl)⟩ k97 k749 k750 rfl hl.1 rfl (Nat.le_of_ble_eq_true rfl) dJ1_charAt_3b067_3 zroom.rf (fun τ H locs hφ hE hT => ?_)
  have hS := hT.2.2.2
  refine lv_aload_n hx hb dJ1_charAt_3b067_6 rfl (lv_at hl 0 rfl) ?_
  refine lv_iload_n hx hb dJ1_charAt_3b067_7 rfl (lv_at hl 1 rfl) ?_
  refine va_tb (v := .int ((wdB.getD i []).getD (ix k) 0)) hx hb (hX.2.1.1 i hi).2.2.2 hS (g_in h0 h1) rfl dJ1_charAt_3b067_8 ?_
  refine lv_sipush (v := 255) hx hb dJ1_charAt_3b067_9 (by decide) ?_
  refine lv_iand hx hb dJ1_charAt_3b067_12 ?_
  refine lv_i2c hx hb dJ1_charAt_3b067_13 (wd_byt i hi (ix k) hk).1 ?_
  exact t_n hx hb hr (wd_byt i hi (ix k) hk).2 hlocks hT rfl dJ1_charAt_3b067_14
set_option maxHeartbeats 4000000 in
set_option maxRecDepth 100000 in
theorem J_charAt (l : Launch) (κ : Kt) (σ0 : Gh) (i : Nat) (hi : i < 13) (k : Int32) (h0 : 0 ≤ k.toInt) (h1 : k.toInt < wdL.getD i 0) : TC l yJ0_charAt_5068e cJ0_charAt_5068e 2 (some .char) 3 64 [.ref (kK κ i), .int k] κ σ0 (tqi κ fE σ0 (fun r _ => r = (wdB.getD i []).getD (ix k) 0)) := by
  refine TC.ofF fE (by decide +kernel) (Nat.le_of_ble_eq_true rfl) ?_
  intro p e s m below meth c ls hcs hK hX hT hl
  obtain ⟨hx, hb, hr, hml, hown, hg, hlocks, hin⟩ := hcs
  have hown : s.vm.findClass RJ0 = some m.cls := hown
  have hl : lv_has ls 2 [(0, .ref (kK κ i)), (1, .int k)] := hl
  have hS := hT.2.2.2
  have hw := wd_len i hi
  have hk : ix k < 7 := ix_lt h0 (by omega)
  refine lv_aload_n hx hb dJ0_charAt_5068e_0 rfl (lv_at hl 0 rfl) ?_
  refine tKi (n := 0) (As := []) (rest := []) hx hb hml hown hg hT hK hX (J_isLatin1 l κ σ0 i hi) (fun _ _ h => h) (mwV k742 k743 k744 k97 k745) ⟨rfl, by decide, by decide, by decide +kernel⟩ ⟨(Nat.le_of_ble_eq_true rfl), (Nat.le_of_ble_eq_true rfl)⟩ (vk_recv hX.2.1 hi hS) rfl hl.1 rfl (Nat.le_of_ble_eq_true rfl) dJ0_charAt_5068e_1 zroom.rf (fun x τ H locs hφ hE hT => ?_)
  subst hφ
  have hS := hT.2.2.2
  refine lv_if_eq (tgt := 16) hx hb dJ0_charAt_5068e_4 (by decide) (fun c9 => absurd c9 (by decide)) (fun _ => ?_)
  refine lv_aload_n hx hb dJ0_charAt_5068e_7 rfl (lv_at hl 0 rfl) ?_
  refine vk_getf hx hb (hX.2.1.1 i hi).2.2.1 hS hown (hg _ k1712) (fun _ h => h) dJ0_charAt_5068e_8 ?_
  refine lv_iload_n hx hb dJ0_charAt_5068e_11 rfl (lv_at hl 1 rfl) ?_
  refine tTi (n := 2) (As := [.ref (kV κ i), .int k]) (rest := []) hx hb hml hown hg hT hK hX (J_charAtL l κ τ i hi k h0 h1) (fun _ _ h => h) (mwI k748) ⟨by decide, by decide, by decide +kernel⟩ ⟨(Nat.le_of_ble_eq_true rfl), (Nat.le_of_ble_eq_true rfl)⟩ k98 k746 k747 rfl hl.1 rfl (Nat.le_of_ble_eq_true rfl) dJ0_charAt_5068e_12 zroom.rf (fun x τ H locs hφ hE hT => ?_)
  exact t_n hx hb hr (by rw [hφ]; exact (wd_byt i hi (ix k) hk).2) hlocks hT hφ dJ0_charAt_5068e_15
