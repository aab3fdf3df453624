/-! The loop of the law -/
theorem dL_law_23 : decode cL_law 23 = .ok (.iload 4, 2) := by decide +kernel
theorem dL_law_25 : decode cL_law 25 = .ok (.aload_n 0, 1) := by decide +kernel
theorem dL_law_26 : decode cL_law 26 = .ok (.arraylength, 1) := by decide +kernel
theorem dL_law_27 : decode cL_law 27 = .ok (.bipush 6, 2) := by decide +kernel
theorem dL_law_29 : decode cL_law 29 = .ok (.isub, 1) := by decide +kernel
theorem dL_law_30 : decode cL_law 30 = .ok (.if_icmp .gt 1408, 3) := by decide +kernel
theorem dL_law_33 : decode cL_law 33 = .ok (.aload_n 0, 1) := by decide +kernel
theorem dL_law_34 : decode cL_law 34 = .ok (.iload 4, 2) := by decide +kernel
theorem dL_law_36 : decode cL_law 36 = .ok (.iaload, 1) := by decide +kernel
theorem dL_law_37 : decode cL_law 37 = .ok (.bipush 63, 2) := by decide +kernel
theorem dL_law_39 : decode cL_law 39 = .ok (.iand, 1) := by decide +kernel
theorem dL_law_40 : decode cL_law 40 = .ok (.tableswitch 1392 0 40 #[180, 253, 281, 297, 310, 323, 351, 391, 419, 475, 515, 543, 556, 569, 597, 612, 625, 638, 666, 682, 710, 738, 779, 819, 859, 872, 900, 928, 956, 996, 1052, 1080, 1108, 1136, 1192, 1220, 1288, 1301, 1329, 1342, 1367], 180) := by decide +kernel
theorem dL_law_1432 : decode cL_law 1432 = .ok (.iinc 4 6, 3) := by decide +kernel
theorem dL_law_1435 : decode cL_law 1435 = .ok (.goto (-1412), 3) := by decide +kernel
def kb (κ : Kt) (j : Nat) : Kt := kbump κ j (6 * j)
theorem kb_up {κ : Kt} {j : Nat} : kX (kb κ j) = kb κ (j + 1) := by
  show kbump (kbump κ j (6 * j)) 1 6 = kbump κ (j + 1) (6 * (j + 1))
  unfold kbump
  simp only [Nat.mul_add, Nat.add_assoc, Nat.mul_one]
set_option maxHeartbeats 40000000 in
set_option maxRecDepth 100000 in
theorem law_loop (l : Launch) (κ : Kt) (σ0 : Gh) (x mm out b : Nat) (t_x : zk σ0 x 7) (t_mm : zk σ0 mm 20) (t_out : zk σ0 out 24) (ttx0 : zk σ0 (kR κ x 0) 6) (hdis : DIS κ x) (hlt : l.stackTraces = false) {p : Program} {e : Env} {s : State} {m : MethodId} {below : List Frame} {meth : Method} {c : Code} {L : Nat} {xs : Nat → Int32} {Q9 : State → Prop} (hx : p.tables.exec = Jvm.exec) (hb : c.code = cL_law) (hml : c.maxLocals = 9) (hown : s.vm.findClass RL = some m.cls) (hg : ∀ w ∈ GW, w.before #[Value.ref b] s = true) (hK : va_K κ.1 vwCl (kTy κ) s) (hX : XY κ (tA σ0 s.heap.size) s s.heap) (hXs : va_X b L xs s s.heap) (hbl : b < s.heap.size) (hbA : ¬ tA σ0 s.heap.size b) (hC : kC κ + 512 ≤ s.heap.size + 601024) (hS : kS κ + 3072 ≤ hsl s.heap + 7293034) (hL9 : L ≤ 3072)
    (KE : ∀ (d1 : Drawn), s.drawn.sameBut d1 lw_cs → ∀ (j : Nat) (σ1 : Gh) (H : Heap) (locs : List Loc) (ls : Array Slot), TS (kb κ j) fA σ0 σ1 s H locs → lv_has ls 9 [(0, .ref b)] → W p l e room_1 (s.setDrawn d1) m #[Value.ref b] below meth c H locs 601024 7293034 Q9 (F0 m 1438 ls [])) :
    ∀ (n9 j : Nat) (i : Int32) (d0 : Drawn) (σ : Gh) (H : Heap) (locs : List Loc) (ls : Array Slot), L < 6 * (j + n9) + 6 → i.toInt = 6 * j → s.drawn.sameBut d0 lw_cs → TS (kb κ j) fA σ0 σ s H locs → RI κ σ mm → LREL κ σ x mm → SREL κ σ x mm → SMP κ σ x mm → lv_has ls 9 [(4, .int i), (3, .ref out), (2, .ref mm), (1, .ref x), (0, .ref b)] → W p l e room_1 (s.setDrawn d0) m #[Value.ref b] below meth c H locs 601024 7293034 Q9 (F0 m 23 ls []) := by
  intro n9
  induction n9 with
  | zero =>
    intro j i d0 σ H locs ls hn hi hd0 hT hR hlen hsr hsm hl
    have n6 : (6 : Int32).toInt = 6 := by decide
    refine lv_iload hx hb dL_law_23 (lv_at hl 0 rfl) ?_
    refine lv_aload_n hx hb dL_law_25 rfl (lv_at hl 4 rfl) ?_
    refine va_slen hx hb hXs hbl hbA hT.2.2.2 dL_law_26 ?_
    refine lv_topi (fun t1 ht1 => ?_)
    have e1 : t1.toInt = L := by rw [ht1]; exact nI_toInt (by omega)
    refine lv_bipush (v := 6) hx hb dL_law_27 (by decide) ?_
    refine lv_isub hx hb dL_law_29 ?_
    refine g_sub (by omega) (by omega) (fun t2 ht2 => ?_)
    refine lv_icmp_gt (tgt := 1438) hx hb dL_law_30 (by decide) (fun _ => ?_) (fun c9 => absurd (gi_nlt c9) (by omega))
    exact KE d0 hd0 j σ _ _ _ hT (lv_sub hl [4] rfl)
  | succ n9 ih =>
    intro j i d0 σ H locs ls hn hi hd0 hT hR hlen hsr hsm hl
    have n6 : (6 : Int32).toInt = 6 := by decide
    refine lv_iload hx hb dL_law_23 (lv_at hl 0 rfl) ?_
    refine lv_aload_n hx hb dL_law_25 rfl (lv_at hl 4 rfl) ?_
    refine va_slen hx hb hXs hbl hbA hT.2.2.2 dL_law_26 ?_
    refine lv_topi (fun t1 ht1 => ?_)
    have e1 : t1.toInt = L := by rw [ht1]; exact nI_toInt (by omega)
    refine lv_bipush (v := 6) hx hb dL_law_27 (by decide) ?_
    refine lv_isub hx hb dL_law_29 ?_
    refine g_sub (by omega) (by omega) (fun t2 ht2 => ?_)
    refine lv_icmp_gt (tgt := 1438) hx hb dL_law_30 (by decide) (fun _ => ?_) (fun c9 => ?_)
    · exact KE d0 hd0 j σ _ _ _ hT (lv_sub hl [4] rfl)
    have c8 := gi_nlt c9
    have kk : ∀ (d1 : Drawn), s.drawn.sameBut d1 lw_cs → ∀ (σ1 : Gh) (H : Heap) (locs : List Loc) (ls : Array Slot), TS (kX (kb κ j)) fA σ0 σ1 s H locs → RI κ σ1 mm → LREL κ σ1 x mm → SREL κ σ1 x mm → SMP κ σ1 x mm → lv_has ls 9 [(4, .int i), (3, .ref out), (2, .ref mm), (1, .ref x), (0, .ref b)] → W p l e room_1 (s.setDrawn d1) m #[Value.ref b] below meth c H locs 601024 7293034 Q9 (F0 m 1432 ls []) := by
      intro d1 hd1 σ1 H locs ls hT hR hlen hsr hsm hl
      obtain ⟨i2, qi2⟩ : ∃ z : Int32, i + Int32.ofInt 6 = z := ⟨_, rfl⟩
      refine lv_iinc (v := i2) (lv' := [(4, .int i2), (3, .ref out), (2, .ref mm), (1, .ref x), (0, .ref b)]) hx hb dL_law_1432 hl (k := 0) rfl qi2 (by decide) rfl (fun ls hl => ?_)
      have hi2 : i2.toInt = i.toInt + 6 := by rw [← qi2]; exact v_addi rfl (show (Int32.ofInt 6).toInt = 6 from by decide) (by omega) (by omega)
      refine lv_goto (tgt := 23) hx hb dL_law_1435 (by decide) ?_
      exact ih (j + 1) i2 d1 σ1 H locs ls (by omega) (by omega) hd1 (kb_up ▸ hT) hR hlen hsr hsm hl
    have zx : zroomX (kb κ j) (s.setDrawn d0) room_1 601024 7293034 := ⟨by show kC κ + j + 1 - s.heap.size ≤ _; omega, by show kS κ + 6 * j + 6 - hsl s.heap ≤ _; omega, (Nat.le_of_ble_eq_true rfl), (Nat.le_of_ble_eq_true rfl)⟩
    refine lv_aload_n hx hb dL_law_33 rfl (lv_at hl 4 rfl) ?_
    refine lv_iload hx hb dL_law_34 (lv_at hl 0 rfl) ?_
    refine va_sld (s := s.setDrawn d0) (i := i) hx hb hXs hbl hbA hT.2.2.2 (g_in (by omega) (by omega)) dL_law_36 ?_
    refine lv_topi (fun t3 ht3 => ?_)
    refine lv_bipush (v := 63) hx hb dL_law_37 (by decide) ?_
    refine lv_iand hx hb dL_law_39 ?_
    obtain ⟨o, ho, hoe⟩ := pk_andE t3 (m := 63) 6 (by decide)
    refine ti (nI o) hoe ?_
    have hg9 : ∀ w ∈ GW, w.before #[Value.ref b] (s.setDrawn d0) = true := dr_words hg d0
    rcases (show o = 0 ∨ o = 1 ∨ o = 2 ∨ o = 3 ∨ o = 4 ∨ o = 5 ∨ o = 6 ∨ o = 7 ∨ o = 8 ∨ o = 9 ∨ o = 10 ∨ o = 11 ∨ o = 12 ∨ o = 13 ∨ o = 14 ∨ o = 15 ∨ o = 16 ∨ o = 17 ∨ o = 18 ∨ o = 19 ∨ o = 20 ∨ o = 21 ∨ o = 22 ∨ o = 23 ∨ o = 24 ∨ o = 25 ∨ o = 26 ∨ o = 27 ∨ o = 28 ∨ o = 29 ∨ o = 30 ∨ o = 31 ∨ o = 32 ∨ o = 33 ∨ o = 34 ∨ o = 35 ∨ o = 36 ∨ o = 37 ∨ o = 38 ∨ o = 39 ∨ o = 40 ∨ 41 ≤ o by omega) with rfl | rfl | rfl | rfl | rfl | rfl | rfl | rfl | rfl | rfl | rfl | rfl | rfl | rfl | rfl | rfl | rfl | rfl | rfl | rfl | rfl | rfl | rfl | rfl | rfl | rfl | rfl | rfl | rfl | rfl | rfl | rfl | rfl | rfl | rfl | rfl | rfl | rfl | rfl | rfl | rfl | ho9
    · refine lv_tableIn (off := 180) (tgt := 220) hx hb dL_law_40 (by decide) (by decide) (by decide) (by decide) ?_
      exact lc_0 (s := s.setDrawn d0) l (kb κ j) σ0 x mm out b t_x t_mm t_out ttx0 hdis hlt hx hb hml hown hg9 hK hX hXs hbl hbA zx (by omega) (by omega) hL9 hT hR hlen hsr hsm hl (kk d0 hd0)
    · refine lv_tableIn (off := 253) (tgt := 293) hx hb dL_law_40 (by decide) (by decide) (by decide) (by decide) ?_
      exact lc_1 (s := s.setDrawn d0) l (kb κ j) σ0 x mm out b t_x t_mm t_out ttx0 hdis hlt hx hb hml hown hg9 hK hX hXs hbl hbA zx (by omega) (by omega) hL9 hT hR hlen hsr hsm hl (kk d0 hd0)
    · refine lv_tableIn (off := 281) (tgt := 321) hx hb dL_law_40 (by decide) (by decide) (by decide) (by decide) ?_
      exact lc_2 (s := s.setDrawn d0) l (kb κ j) σ0 x mm out b t_x t_mm t_out ttx0 hdis hlt hx hb hml hown hg9 hK hX hXs hbl hbA zx (by omega) (by omega) hL9 hT hR hlen hsr hsm hl (kk d0 hd0)
    · refine lv_tableIn (off := 297) (tgt := 337) hx hb dL_law_40 (by decide) (by decide) (by decide) (by decide) ?_
      exact lc_3 (s := s.setDrawn d0) l (kb κ j) σ0 x mm out b t_x t_mm t_out ttx0 hdis hlt hx hb hml hown hg9 hK hX hXs hbl hbA zx (by omega) (by omega) hL9 hT hR hlen hsr hsm hl (kk d0 hd0)
    · refine lv_tableIn (off := 310) (tgt := 350) hx hb dL_law_40 (by decide) (by decide) (by decide) (by decide) ?_
      exact lc_4 (s := s.setDrawn d0) l (kb κ j) σ0 x mm out b t_x t_mm t_out ttx0 hdis hlt hx hb hml hown hg9 hK hX hXs hbl hbA zx (by omega) (by omega) hL9 hT hR hlen hsr hsm hl (kk d0 hd0)
    · refine lv_tableIn (off := 323) (tgt := 363) hx hb dL_law_40 (by decide) (by decide) (by decide) (by decide) ?_
      exact lc_5 (s := s.setDrawn d0) l (kb κ j) σ0 x mm out b t_x t_mm t_out ttx0 hdis hlt hx hb hml hown hg9 hK hX hXs hbl hbA zx (by omega) (by omega) hL9 hT hR hlen hsr hsm hl (kk d0 hd0)
    · refine lv_tableIn (off := 351) (tgt := 391) hx hb dL_law_40 (by decide) (by decide) (by decide) (by decide) ?_
      exact lc_6 (s := s.setDrawn d0) l (kb κ j) σ0 x mm out b t_x t_mm t_out ttx0 hdis hlt hx hb hml hown hg9 hK hX hXs hbl hbA zx (by omega) (by omega) hL9 hT hR hlen hsr hsm hl (kk d0 hd0)
    · refine lv_tableIn (off := 391) (tgt := 431) hx hb dL_law_40 (by decide) (by decide) (by decide) (by decide) ?_
      exact lc_7 (s := s.setDrawn d0) l (kb κ j) σ0 x mm out b t_x t_mm t_out ttx0 hdis hlt hx hb hml hown hg9 hK hX hXs hbl hbA zx (by omega) (by omega) hL9 hT hR hlen hsr hsm hl (kk d0 hd0)
    · refine lv_tableIn (off := 419) (tgt := 459) hx hb dL_law_40 (by decide) (by decide) (by decide) (by decide) ?_
      exact lc_8 (s := s.setDrawn d0) l (kb κ j) σ0 x mm out b t_x t_mm t_out ttx0 hdis hlt hx hb hml hown hg9 hK hX hXs hbl hbA zx (by omega) (by omega) hL9 hT hR hlen hsr hsm hl (kk d0 hd0)
    · refine lv_tableIn (off := 475) (tgt := 515) hx hb dL_law_40 (by decide) (by decide) (by decide) (by decide) ?_
      exact lc_9 (s := s.setDrawn d0) l (kb κ j) σ0 x mm out b t_x t_mm t_out ttx0 hdis hlt hx hb hml hown hg9 hK hX hXs hbl hbA zx (by omega) (by omega) hL9 hT hR hlen hsr hsm hl (kk d0 hd0)
    · refine lv_tableIn (off := 515) (tgt := 555) hx hb dL_law_40 (by decide) (by decide) (by decide) (by decide) ?_
      exact lc_10 (s := s.setDrawn d0) l (kb κ j) σ0 x mm out b t_x t_mm t_out ttx0 hdis hlt hx hb hml hown hg9 hK hX hXs hbl hbA zx (by omega) (by omega) hL9 hT hR hlen hsr hsm hl (kk d0 hd0)
    · refine lv_tableIn (off := 543) (tgt := 583) hx hb dL_law_40 (by decide) (by decide) (by decide) (by decide) ?_
      exact lc_11 (s := s.setDrawn d0) l (kb κ j) σ0 x mm out b t_x t_mm t_out ttx0 hdis hlt hx hb hml hown hg9 hK hX hXs hbl hbA zx (by omega) (by omega) hL9 hT hR hlen hsr hsm hl (kk d0 hd0)
    · refine lv_tableIn (off := 556) (tgt := 596) hx hb dL_law_40 (by decide) (by decide) (by decide) (by decide) ?_
      exact lc_12 (s := s.setDrawn d0) l (kb κ j) σ0 x mm out b t_x t_mm t_out ttx0 hdis hlt hx hb hml hown hg9 hK hX hXs hbl hbA zx (by omega) (by omega) hL9 hT hR hlen hsr hsm hl (kk d0 hd0)
    · refine lv_tableIn (off := 569) (tgt := 609) hx hb dL_law_40 (by decide) (by decide) (by decide) (by decide) ?_
      exact lc_13 (s := s.setDrawn d0) l (kb κ j) σ0 x mm out b t_x t_mm t_out ttx0 hdis hlt hx hb hml hown hg9 hK hX hXs hbl hbA zx (by omega) (by omega) hL9 hT hR hlen hsr hsm hl (kk d0 hd0)
    · refine lv_tableIn (off := 597) (tgt := 637) hx hb dL_law_40 (by decide) (by decide) (by decide) (by decide) ?_
      exact lc_14 (s := s) l (kb κ j) σ0 x mm out b t_x t_mm t_out ttx0 hdis hlt hx hb hml hown hg hK hX hXs hbl hbA zx (by omega) (by omega) hL9 hd0 hT hR hlen hsr hsm hl kk
    · refine lv_tableIn (off := 612) (tgt := 652) hx hb dL_law_40 (by decide) (by decide) (by decide) (by decide) ?_
      exact lc_15 (s := s.setDrawn d0) l (kb κ j) σ0 x mm out b t_x t_mm t_out ttx0 hdis hlt hx hb hml hown hg9 hK hX hXs hbl hbA zx (by omega) (by omega) hL9 hT hR hlen hsr hsm hl (kk d0 hd0)
    · refine lv_tableIn (off := 625) (tgt := 665) hx hb dL_law_40 (by decide) (by decide) (by decide) (by decide) ?_
      exact lc_16 (s := s.setDrawn d0) l (kb κ j) σ0 x mm out b t_x t_mm t_out ttx0 hdis hlt hx hb hml hown hg9 hK hX hXs hbl hbA zx (by omega) (by omega) hL9 hT hR hlen hsr hsm hl (kk d0 hd0)
    · refine lv_tableIn (off := 638) (tgt := 678) hx hb dL_law_40 (by decide) (by decide) (by decide) (by decide) ?_
      exact lc_17 (s := s.setDrawn d0) l (kb κ j) σ0 x mm out b t_x t_mm t_out ttx0 hdis hlt hx hb hml hown hg9 hK hX hXs hbl hbA zx (by omega) (by omega) hL9 hT hR hlen hsr hsm hl (kk d0 hd0)
    · refine lv_tableIn (off := 666) (tgt := 706) hx hb dL_law_40 (by decide) (by decide) (by decide) (by decide) ?_
      exact lc_18 (s := s.setDrawn d0) l (kb κ j) σ0 x mm out b t_x t_mm t_out ttx0 hdis hlt hx hb hml hown hg9 hK hX hXs hbl hbA zx (by omega) (by omega) hL9 hT hR hlen hsr hsm hl (kk d0 hd0)
    · refine lv_tableIn (off := 682) (tgt := 722) hx hb dL_law_40 (by decide) (by decide) (by decide) (by decide) ?_
      exact lc_19 (s := s.setDrawn d0) l (kb κ j) σ0 x mm out b t_x t_mm t_out ttx0 hdis hlt hx hb hml hown hg9 hK hX hXs hbl hbA zx (by omega) (by omega) hL9 hT hR hlen hsr hsm hl (kk d0 hd0)
    · refine lv_tableIn (off := 710) (tgt := 750) hx hb dL_law_40 (by decide) (by decide) (by decide) (by decide) ?_
      exact lc_20 (s := s.setDrawn d0) l (kb κ j) σ0 x mm out b t_x t_mm t_out ttx0 hdis hlt hx hb hml hown hg9 hK hX hXs hbl hbA zx (by omega) (by omega) hL9 hT hR hlen hsr hsm hl (kk d0 hd0)
    · refine lv_tableIn (off := 738) (tgt := 778) hx hb dL_law_40 (by decide) (by decide) (by decide) (by decide) ?_
      exact lc_21 (s := s.setDrawn d0) l (kb κ j) σ0 x mm out b t_x t_mm t_out ttx0 hdis hlt hx hb hml hown hg9 hK hX hXs hbl hbA zx (by omega) (by omega) hL9 hT hR hlen hsr hsm hl (kk d0 hd0)
    · refine lv_tableIn (off := 779) (tgt := 819) hx hb dL_law_40 (by decide) (by decide) (by decide) (by decide) ?_
      exact lc_22 (s := s.setDrawn d0) l (kb κ j) σ0 x mm out b t_x t_mm t_out ttx0 hdis hlt hx hb hml hown hg9 hK hX hXs hbl hbA zx (by omega) (by omega) hL9 hT hR hlen hsr hsm hl (kk d0 hd0)
    · refine lv_tableIn (off := 819) (tgt := 859) hx hb dL_law_40 (by decide) (by decide) (by decide) (by decide) ?_
      exact lc_23 (s := s.setDrawn d0) l (kb κ j) σ0 x mm out b t_x t_mm t_out ttx0 hdis hlt hx hb hml hown hg9 hK hX hXs hbl hbA zx (by omega) (by omega) hL9 hT hR hlen hsr hsm hl (kk d0 hd0)
    · refine lv_tableIn (off := 859) (tgt := 899) hx hb dL_law_40 (by decide) (by decide) (by decide) (by decide) ?_
      exact lc_24 (s := s.setDrawn d0) l (kb κ j) σ0 x mm out b t_x t_mm t_out ttx0 hdis hlt hx hb hml hown hg9 hK hX hXs hbl hbA zx (by omega) (by omega) hL9 hT hR hlen hsr hsm hl (kk d0 hd0)
    · refine lv_tableIn (off := 872) (tgt := 912) hx hb dL_law_40 (by decide) (by decide) (by decide) (by decide) ?_
      exact lc_25 (s := s.setDrawn d0) l (kb κ j) σ0 x mm out b t_x t_mm t_out ttx0 hdis hlt hx hb hml hown hg9 hK hX hXs hbl hbA zx (by omega) (by omega) hL9 hT hR hlen hsr hsm hl (kk d0 hd0)
    · refine lv_tableIn (off := 900) (tgt := 940) hx hb dL_law_40 (by decide) (by decide) (by decide) (by decide) ?_
      exact lc_26 (s := s.setDrawn d0) l (kb κ j) σ0 x mm out b t_x t_mm t_out ttx0 hdis hlt hx hb hml hown hg9 hK hX hXs hbl hbA zx (by omega) (by omega) hL9 hT hR hlen hsr hsm hl (kk d0 hd0)
    · refine lv_tableIn (off := 928) (tgt := 968) hx hb dL_law_40 (by decide) (by decide) (by decide) (by decide) ?_
      exact lc_27 (s := s.setDrawn d0) l (kb κ j) σ0 x mm out b t_x t_mm t_out ttx0 hdis hlt hx hb hml hown hg9 hK hX hXs hbl hbA zx (by omega) (by omega) hL9 hT hR hlen hsr hsm hl (kk d0 hd0)
    · refine lv_tableIn (off := 956) (tgt := 996) hx hb dL_law_40 (by decide) (by decide) (by decide) (by decide) ?_
      exact lc_28 (s := s.setDrawn d0) l (kb κ j) σ0 x mm out b t_x t_mm t_out ttx0 hdis hlt hx hb hml hown hg9 hK hX hXs hbl hbA zx (by omega) (by omega) hL9 hT hR hlen hsr hsm hl (kk d0 hd0)
    · refine lv_tableIn (off := 996) (tgt := 1036) hx hb dL_law_40 (by decide) (by decide) (by decide) (by decide) ?_
      exact lc_29 (s := s.setDrawn d0) l (kb κ j) σ0 x mm out b t_x t_mm t_out ttx0 hdis hlt hx hb hml hown hg9 hK hX hXs hbl hbA zx (by omega) (by omega) hL9 hT hR hlen hsr hsm hl (kk d0 hd0)
    · refine lv_tableIn (off := 1052) (tgt := 1092) hx hb dL_law_40 (by decide) (by decide) (by decide) (by decide) ?_
      exact lc_30 (s := s.setDrawn d0) l (kb κ j) σ0 x mm out b t_x t_mm t_out ttx0 hdis hlt hx hb hml hown hg9 hK hX hXs hbl hbA zx (by omega) (by omega) hL9 hT hR hlen hsr hsm hl (kk d0 hd0)
    · refine lv_tableIn (off := 1080) (tgt := 1120) hx hb dL_law_40 (by decide) (by decide) (by decide) (by decide) ?_
      exact lc_31 (s := s.setDrawn d0) l (kb κ j) σ0 x mm out b t_x t_mm t_out ttx0 hdis hlt hx hb hml hown hg9 hK hX hXs hbl hbA zx (by omega) (by omega) hL9 hT hR hlen hsr hsm hl (kk d0 hd0)
    · refine lv_tableIn (off := 1108) (tgt := 1148) hx hb dL_law_40 (by decide) (by decide) (by decide) (by decide) ?_
      exact lc_32 (s := s.setDrawn d0) l (kb κ j) σ0 x mm out b t_x t_mm t_out ttx0 hdis hlt hx hb hml hown hg9 hK hX hXs hbl hbA zx (by omega) (by omega) hL9 hT hR hlen hsr hsm hl (kk d0 hd0)
    · refine lv_tableIn (off := 1136) (tgt := 1176) hx hb dL_law_40 (by decide) (by decide) (by decide) (by decide) ?_
      exact lc_33 (s := s.setDrawn d0) l (kb κ j) σ0 x mm out b t_x t_mm t_out ttx0 hdis hlt hx hb hml hown hg9 hK hX hXs hbl hbA zx (by omega) (by omega) hL9 hT hR hlen hsr hsm hl (kk d0 hd0)
    · refine lv_tableIn (off := 1192) (tgt := 1232) hx hb dL_law_40 (by decide) (by decide) (by decide) (by decide) ?_
      exact lc_34 (s := s.setDrawn d0) l (kb κ j) σ0 x mm out b t_x t_mm t_out ttx0 hdis hlt hx hb hml hown hg9 hK hX hXs hbl hbA zx (by omega) (by omega) hL9 hT hR hlen hsr hsm hl (kk d0 hd0)
    · refine lv_tableIn (off := 1220) (tgt := 1260) hx hb dL_law_40 (by decide) (by decide) (by decide) (by decide) ?_
      exact lc_35 (s := s.setDrawn d0) l (kb κ j) σ0 x mm out b t_x t_mm t_out ttx0 hdis hlt hx hb hml hown hg9 hK hX hXs hbl hbA zx (by omega) (by omega) hL9 hT hR hlen hsr hsm hl (kk d0 hd0)
    · refine lv_tableIn (off := 1288) (tgt := 1328) hx hb dL_law_40 (by decide) (by decide) (by decide) (by decide) ?_
      exact lc_36 (s := s.setDrawn d0) l (kb κ j) σ0 x mm out b t_x t_mm t_out ttx0 hdis hlt hx hb hml hown hg9 hK hX hXs hbl hbA zx (by omega) (by omega) hL9 hT hR hlen hsr hsm hl (kk d0 hd0)
    · refine lv_tableIn (off := 1301) (tgt := 1341) hx hb dL_law_40 (by decide) (by decide) (by decide) (by decide) ?_
      exact lc_37 (s := s.setDrawn d0) l (kb κ j) σ0 x mm out b t_x t_mm t_out ttx0 hdis hlt hx hb hml hown hg9 hK hX hXs hbl hbA zx (by omega) (by omega) hL9 hT hR hlen hsr hsm hl (kk d0 hd0)
    · refine lv_tableIn (off := 1329) (tgt := 1369) hx hb dL_law_40 (by decide) (by decide) (by decide) (by decide) ?_
      exact lc_38 (s := s.setDrawn d0) l (kb κ j) σ0 x mm out b t_x t_mm t_out ttx0 hdis hlt hx hb hml hown hg9 hK hX hXs hbl hbA zx (by omega) (by omega) hL9 hT hR hlen hsr hsm hl (kk d0 hd0)
    · refine lv_tableIn (off := 1342) (tgt := 1382) hx hb dL_law_40 (by decide) (by decide) (by decide) (by decide) ?_
      exact lc_39 (s := s.setDrawn d0) l (kb κ j) σ0 x mm out b t_x t_mm t_out ttx0 hdis hlt hx hb hml hown hg9 hK hX hXs hbl hbA zx (by omega) (by omega) hL9 hT hR hlen hsr hsm hl (kk d0 hd0)
    · refine lv_tableIn (off := 1367) (tgt := 1407) hx hb dL_law_40 (by decide) (by decide) (by decide) (by decide) ?_
      exact lc_40 (s := s.setDrawn d0) l (kb κ j) σ0 x mm out b t_x t_mm t_out ttx0 hdis hlt hx hb hml hown hg9 hK hX hXs hbl hbA zx (by omega) (by omega) hL9 hT hR hlen hsr hsm hl (kk d0 hd0)
    · refine lv_tableOut (tgt := 1432) hx hb dL_law_40 (Or.inr (by rw [nI_toInt (by omega)]; omega)) (by decide) ?_
      exact kk d0 hd0 σ _ _ _ hT.up hR hlen hsr hsm hl
