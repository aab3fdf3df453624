/-! Means in doubles -/
theorem k7 : Cond.selects RX4 yX4_isAnyBitBelow yX4_isAnyBitBelow ∈ GW := gm 7 (by decide +kernel) (by decide +kernel)
theorem k471 : Cond.methodLink RX5 231 yX4_toDouble ∈ GW := gm 471 (by decide +kernel) (by decide +kernel)
theorem k472 : Cond.instanceMethod yX4_toDouble ∈ GW := gm 472 (by decide +kernel) (by decide +kernel)
theorem k473 : Cond.selects RX4 yX4_toDouble yX4_toDouble ∈ GW := gm 473 (by decide +kernel) (by decide +kernel)
theorem k474 : Cond.code yX4_toDouble cX4_toDouble 7 (some .double) ∈ GW := gm 474 (by decide +kernel) (by decide +kernel)
theorem k475 : Cond.methodLink RX4 77 yX4_bitsOfAmount ∈ GW := gm 475 (by decide +kernel) (by decide +kernel)
theorem k483 : Cond.methodLink RX4 81 yX4_isAnyBitBelow ∈ GW := gm 483 (by decide +kernel) (by decide +kernel)
theorem k485 : Cond.instanceMethod yX4_isAnyBitBelow ∈ GW := gm 485 (by decide +kernel) (by decide +kernel)
theorem k486 : Cond.code yX4_isAnyBitBelow cX4_isAnyBitBelow 4 (some .boolean) ∈ GW := gm 486 (by decide +kernel) (by decide +kernel)
theorem k487 : Cond.constantDouble RX4 85 4611686018427387904 ∈ GW := gm 487 (by decide +kernel) (by decide +kernel)
theorem dX4_toDouble_0 : decode cX4_toDouble 0 = .ok (.iconst 0, 1) := by decide +kernel
theorem dX4_toDouble_1 : decode cX4_toDouble 1 = .ok (.aload_n 0, 1) := by decide +kernel
theorem dX4_toDouble_2 : decode cX4_toDouble 2 = .ok (.invokevirtual 77, 3) := by decide +kernel
theorem dX4_toDouble_5 : decode cX4_toDouble 5 = .ok (.bipush 62, 2) := by decide +kernel
theorem dX4_toDouble_7 : decode cX4_toDouble 7 = .ok (.isub, 1) := by decide +kernel
theorem dX4_toDouble_8 : decode cX4_toDouble 8 = .ok (.invokestatic 39, 3) := by decide +kernel
theorem dX4_toDouble_11 : decode cX4_toDouble 11 = .ok (.istore_n 1, 1) := by decide +kernel
theorem dX4_toDouble_12 : decode cX4_toDouble 12 = .ok (.aload_n 0, 1) := by decide +kernel
theorem dX4_toDouble_13 : decode cX4_toDouble 13 = .ok (.iload_n 1, 1) := by decide +kernel
theorem dX4_toDouble_14 : decode cX4_toDouble 14 = .ok (.invokevirtual 81, 3) := by decide +kernel
theorem dX4_toDouble_17 : decode cX4_toDouble 17 = .ok (.ifCond .eq 13, 3) := by decide +kernel
theorem dX4_toDouble_20 : decode cX4_toDouble 20 = .ok (.aload_n 0, 1) := by decide +kernel
theorem dX4_toDouble_21 : decode cX4_toDouble 21 = .ok (.iload_n 1, 1) := by decide +kernel
theorem dX4_toDouble_22 : decode cX4_toDouble 22 = .ok (.invokevirtual 73, 3) := by decide +kernel
theorem dX4_toDouble_25 : decode cX4_toDouble 25 = .ok (.lconst 1, 1) := by decide +kernel
theorem dX4_toDouble_26 : decode cX4_toDouble 26 = .ok (.lor, 1) := by decide +kernel
theorem dX4_toDouble_27 : decode cX4_toDouble 27 = .ok (.goto 8, 3) := by decide +kernel
theorem dX4_toDouble_30 : decode cX4_toDouble 30 = .ok (.aload_n 0, 1) := by decide +kernel
theorem dX4_toDouble_31 : decode cX4_toDouble 31 = .ok (.iload_n 1, 1) := by decide +kernel
theorem dX4_toDouble_32 : decode cX4_toDouble 32 = .ok (.invokevirtual 73, 3) := by decide +kernel
theorem dX4_toDouble_35 : decode cX4_toDouble 35 = .ok (.lstore_n 2, 1) := by decide +kernel
theorem dX4_toDouble_36 : decode cX4_toDouble 36 = .ok (.aload_n 0, 1) := by decide +kernel
theorem dX4_toDouble_37 : decode cX4_toDouble 37 = .ok (.getfield 17, 3) := by decide +kernel
theorem dX4_toDouble_40 : decode cX4_toDouble 40 = .ok (.ifCond .eq 8, 3) := by decide +kernel
theorem dX4_toDouble_43 : decode cX4_toDouble 43 = .ok (.lload_n 2, 1) := by decide +kernel
theorem dX4_toDouble_44 : decode cX4_toDouble 44 = .ok (.lneg, 1) := by decide +kernel
theorem dX4_toDouble_45 : decode cX4_toDouble 45 = .ok (.goto 4, 3) := by decide +kernel
theorem dX4_toDouble_48 : decode cX4_toDouble 48 = .ok (.lload_n 2, 1) := by decide +kernel
theorem dX4_toDouble_49 : decode cX4_toDouble 49 = .ok (.l2d, 1) := by decide +kernel
theorem dX4_toDouble_50 : decode cX4_toDouble 50 = .ok (.dstore 4, 2) := by decide +kernel
theorem dX4_toDouble_52 : decode cX4_toDouble 52 = .ok (.iconst 0, 1) := by decide +kernel
theorem dX4_toDouble_53 : decode cX4_toDouble 53 = .ok (.istore 6, 2) := by decide +kernel
theorem dX4_toDouble_55 : decode cX4_toDouble 55 = .ok (.iload 6, 2) := by decide +kernel
theorem dX4_toDouble_57 : decode cX4_toDouble 57 = .ok (.iload_n 1, 1) := by decide +kernel
theorem dX4_toDouble_58 : decode cX4_toDouble 58 = .ok (.if_icmp .ge 17, 3) := by decide +kernel
theorem dX4_toDouble_61 : decode cX4_toDouble 61 = .ok (.dload 4, 2) := by decide +kernel
theorem dX4_toDouble_63 : decode cX4_toDouble 63 = .ok (.ldc2_w 85, 3) := by decide +kernel
theorem dX4_toDouble_66 : decode cX4_toDouble 66 = .ok (.dmul, 1) := by decide +kernel
theorem dX4_toDouble_67 : decode cX4_toDouble 67 = .ok (.dstore 4, 2) := by decide +kernel
theorem dX4_toDouble_69 : decode cX4_toDouble 69 = .ok (.iinc 6 1, 3) := by decide +kernel
theorem dX4_toDouble_72 : decode cX4_toDouble 72 = .ok (.goto (-17), 3) := by decide +kernel
theorem dX4_toDouble_75 : decode cX4_toDouble 75 = .ok (.dload 4, 2) := by decide +kernel
theorem dX4_toDouble_77 : decode cX4_toDouble 77 = .ok (.dreturn, 1) := by decide +kernel
theorem dX5_plainMean_0 : decode cX5_plainMean 0 = .ok (.aload_n 0, 1) := by decide +kernel
theorem dX5_plainMean_1 : decode cX5_plainMean 1 = .ok (.getfield 31, 3) := by decide +kernel
theorem dX5_plainMean_4 : decode cX5_plainMean 4 = .ok (.invokevirtual 228, 3) := by decide +kernel
theorem dX5_plainMean_7 : decode cX5_plainMean 7 = .ok (.invokevirtual 231, 3) := by decide +kernel
theorem dX5_plainMean_10 : decode cX5_plainMean 10 = .ok (.aload_n 0, 1) := by decide +kernel
theorem dX5_plainMean_11 : decode cX5_plainMean 11 = .ok (.getfield 31, 3) := by decide +kernel
theorem dX5_plainMean_14 : decode cX5_plainMean 14 = .ok (.invokevirtual 103, 3) := by decide +kernel
theorem dX5_plainMean_17 : decode cX5_plainMean 17 = .ok (.i2d, 1) := by decide +kernel
theorem dX5_plainMean_18 : decode cX5_plainMean 18 = .ok (.ddiv, 1) := by decide +kernel
theorem dX5_plainMean_19 : decode cX5_plainMean 19 = .ok (.dreturn, 1) := by decide +kernel
theorem dX6_plainMean_0 : decode cX6_plainMean 0 = .ok (.aload_n 0, 1) := by decide +kernel
theorem dX6_plainMean_1 : decode cX6_plainMean 1 = .ok (.iconst 0, 1) := by decide +kernel
theorem dX6_plainMean_2 : decode cX6_plainMean 2 = .ok (.putfield 64, 3) := by decide +kernel
theorem dX6_plainMean_5 : decode cX6_plainMean 5 = .ok (.lconst 0, 1) := by decide +kernel
theorem dX6_plainMean_6 : decode cX6_plainMean 6 = .ok (.lstore_n 1, 1) := by decide +kernel
theorem dX6_plainMean_7 : decode cX6_plainMean 7 = .ok (.iconst 0, 1) := by decide +kernel
theorem dX6_plainMean_8 : decode cX6_plainMean 8 = .ok (.istore_n 3, 1) := by decide +kernel
theorem dX6_plainMean_9 : decode cX6_plainMean 9 = .ok (.iload_n 3, 1) := by decide +kernel
theorem dX6_plainMean_10 : decode cX6_plainMean 10 = .ok (.aload_n 0, 1) := by decide +kernel
theorem dX6_plainMean_11 : decode cX6_plainMean 11 = .ok (.getfield 185, 3) := by decide +kernel
theorem dX6_plainMean_14 : decode cX6_plainMean 14 = .ok (.if_icmp .ge 32, 3) := by decide +kernel
theorem dX6_plainMean_17 : decode cX6_plainMean 17 = .ok (.lload_n 1, 1) := by decide +kernel
theorem dX6_plainMean_18 : decode cX6_plainMean 18 = .ok (.aload_n 0, 1) := by decide +kernel
theorem dX6_plainMean_19 : decode cX6_plainMean 19 = .ok (.iload_n 3, 1) := by decide +kernel
theorem dX6_plainMean_20 : decode cX6_plainMean 20 = .ok (.invokevirtual 202, 3) := by decide +kernel
theorem dX6_plainMean_23 : decode cX6_plainMean 23 = .ok (.ifCond .eq 14, 3) := by decide +kernel
theorem dX6_plainMean_26 : decode cX6_plainMean 26 = .ok (.aload_n 0, 1) := by decide +kernel
theorem dX6_plainMean_27 : decode cX6_plainMean 27 = .ok (.getfield 7, 3) := by decide +kernel
theorem dX6_plainMean_30 : decode cX6_plainMean 30 = .ok (.iconst 5, 1) := by decide +kernel
theorem dX6_plainMean_31 : decode cX6_plainMean 31 = .ok (.iload_n 3, 1) := by decide +kernel
theorem dX6_plainMean_32 : decode cX6_plainMean 32 = .ok (.iadd, 1) := by decide +kernel
theorem dX6_plainMean_33 : decode cX6_plainMean 33 = .ok (.laload, 1) := by decide +kernel
theorem dX6_plainMean_34 : decode cX6_plainMean 34 = .ok (.goto 4, 3) := by decide +kernel
theorem dX6_plainMean_37 : decode cX6_plainMean 37 = .ok (.lconst 0, 1) := by decide +kernel
theorem dX6_plainMean_38 : decode cX6_plainMean 38 = .ok (.ladd, 1) := by decide +kernel
theorem dX6_plainMean_39 : decode cX6_plainMean 39 = .ok (.lstore_n 1, 1) := by decide +kernel
theorem dX6_plainMean_40 : decode cX6_plainMean 40 = .ok (.iinc 3 1, 3) := by decide +kernel
theorem dX6_plainMean_43 : decode cX6_plainMean 43 = .ok (.goto (-34), 3) := by decide +kernel
theorem dX6_plainMean_46 : decode cX6_plainMean 46 = .ok (.lload_n 1, 1) := by decide +kernel
theorem dX6_plainMean_47 : decode cX6_plainMean 47 = .ok (.l2d, 1) := by decide +kernel
theorem dX6_plainMean_48 : decode cX6_plainMean 48 = .ok (.aload_n 0, 1) := by decide +kernel
theorem dX6_plainMean_49 : decode cX6_plainMean 49 = .ok (.invokevirtual 214, 3) := by decide +kernel
theorem dX6_plainMean_52 : decode cX6_plainMean 52 = .ok (.i2d, 1) := by decide +kernel
theorem dX6_plainMean_53 : decode cX6_plainMean 53 = .ok (.ddiv, 1) := by decide +kernel
theorem dX6_plainMean_54 : decode cX6_plainMean 54 = .ok (.dreturn, 1) := by decide +kernel
set_option maxHeartbeats 4000000 in
set_option maxRecDepth 100000 in
theorem X4_toDouble (l : Launch) (κ : Kt) (σ0 : Gh) (this : Nat) (t_this : zk σ0 this 1) : TC l yX4_toDouble cX4_toDouble 7 (some .double) 2 46 [.ref this] κ σ0 (tqd κ fE σ0 (fun (r : UInt64) (τ : Gh) => (ND r))) := by
  refine TC.of fE (by decide +kernel) (Nat.le_of_ble_eq_true rfl) ?_
  intro p e s m below meth c ls hcs hK hX hT hl
  obtain ⟨hx, hb, hr, hml, hown, hg, hlocks, hin⟩ := hcs
  have hown : s.vm.findClass RX4 = some m.cls := hown
  have hl : lv_has ls 7 [(0, .ref this)] := hl
  have hT0 := hT
  have n0 : (0 : Int32).toInt = 0 := by decide
  have n62 : (62 : Int32).toInt = 62 := by decide
  have j1 : (1 : Int64).toInt = 1 := by decide
  generalize hQ9 : tQ _ _ _ _ _ _ = Q9
  refine lv_iconst (v := 0) hx hb dX4_toDouble_0 (by decide) ?_
  refine lv_aload_n hx hb dX4_toDouble_1 rfl (lv_at hl 0 rfl) ?_
  obtain ⟨h3, oh3, th3⟩ := hT.o1 (hT.k t_this (by decide))
  have hTo := hT
  refine tVi (n := 0) (As := []) (rest := [.int 0]) hx hb hml hown hg hT hK hX (X4_bitsOfAmount l κ σ0 this  (hT.k t_this (by decide)) ) (fun _ _ h => h) (mwV k475 k476 k477 k88 k478) ⟨rfl, by decide, by decide, by decide +kernel⟩ ⟨(Nat.le_of_ble_eq_true rfl), (Nat.le_of_ble_eq_true rfl)⟩ oh3 rfl rfl hl.1 rfl (Nat.le_of_ble_eq_true rfl) dX4_toDouble_2 zroom.rf (fun x1 s2 H locs hφ hEs2 hT => ?_)
  refine lv_bipush (v := 62) hx hb dX4_toDouble_5 (by decide) ?_
  refine lv_isub hx hb dX4_toDouble_7 ?_
  first | refine g_sub (by omega) (by omega) (fun t4 ht4 => ?_) | refine lv_topi (fun t4 ht4 => ?_)
  refine va_mmax hx hb (hml.trans hl.1.symm) hown (hg _ k350) (hg _ k351) (hg _ k90) (hg _ k352) (Nat.le_of_ble_eq_true rfl) (Nat.le_of_ble_eq_true rfl) zroom.rf.2.2.1 zroom.rf.2.2.2 dX4_toDouble_8 ?_
  refine mmax_t (fun t5 ht5 => ?_)
  refine lv_istore_n (lv' := [(1, .int t5), (0, .ref this)]) hx hb dX4_toDouble_11 rfl hl (by decide) rfl (fun ls hl => ?_)
  refine lv_aload_n hx hb dX4_toDouble_12 rfl (lv_at hl 1 rfl) ?_
  refine lv_iload_n hx hb dX4_toDouble_13 rfl (lv_at hl 0 rfl) ?_
  obtain ⟨h8, oh8, th8⟩ := hT.o1 (hT.k t_this (by decide))
  have hTo := hT
  refine tVi (n := 1) (As := [.int t5]) (rest := []) hx hb hml hown hg hT hK hX (X4_isAnyBitBelow l κ s2 this t5  (hT.k t_this (by decide)) (by omega)) (fun _ _ h => h) (mwV k483 k485 k7 k88 k486) ⟨rfl, by decide, by decide, by decide +kernel⟩ ⟨(Nat.le_of_ble_eq_true rfl), (Nat.le_of_ble_eq_true rfl)⟩ oh8 rfl rfl hl.1 rfl (Nat.le_of_ble_eq_true rfl) dX4_toDouble_14 zroom.rf (fun x6 s7 H locs hφ hEs7 hT => ?_)
  have f9 := hφ
  refine lv_if_eq (tgt := 30) hx hb dX4_toDouble_17 (by decide) (fun c9 => ?_) (fun c9 => ?_)
  · have c1 := gi_eq c9
    refine lv_aload_n hx hb dX4_toDouble_30 rfl (lv_at hl 1 rfl) ?_
    refine lv_iload_n hx hb dX4_toDouble_31 rfl (lv_at hl 0 rfl) ?_
    obtain ⟨h12, oh12, th12⟩ := hT.o1 (hT.k t_this (by decide))
    have hTo := hT
    refine tVl (n := 1) (As := [.int t5]) (rest := []) hx hb hml hown hg hT hK hX (X4_amountFrom l κ s7 this t5  (hT.k t_this (by decide)) (by omega)) (fun _ _ h => h) (mwV k439 k441 k5 k88 k442) ⟨rfl, by decide, by decide, by decide +kernel⟩ ⟨(Nat.le_of_ble_eq_true rfl), (Nat.le_of_ble_eq_true rfl)⟩ oh12 rfl rfl hl.1 rfl (Nat.le_of_ble_eq_true rfl) dX4_toDouble_32 zroom.rf (fun x10 s11 H locs hφ hEs11 hT => ?_)
    refine lv_lstore_n (lv' := [(2, .long x10), (1, .int t5), (0, .ref this)]) hx hb dX4_toDouble_35 rfl hl (by decide) rfl (fun ls hl => ?_)
    refine lv_aload_n hx hb dX4_toDouble_36 rfl (lv_at hl 2 rfl) ?_
    obtain ⟨h13, oh13, th13⟩ := hT.o1 (hT.k t_this (by decide))
    obtain ⟨v14, ev14⟩ : ∃ zz9 : Int32, zI σ0 this 2 = zz9 := ⟨_, rfl⟩
    have qv14 : v14.toInt = (zI σ0 this 2).toInt := by rw [ev14]
    have b15 : isB v14 := by have q9 := (hT.P (hT.k t_this (by decide)) (by decide)).2.2; rw [(hT.eI t_this (by decide) rfl ev14)] at q9; exact q9
    refine va_get (D := κ.1) (ci := 4) (v := .int (zI s11 this 2)) (C := RX4) (T := TX4) (N := 3) hx hb hg inX4 hown hK oh13.one 0 rfl rfl 2 (by decide) (hg _ k211) (fun _ h9 => h9) rfl dX4_toDouble_37 ?_
    rw [(hT.eI t_this (by decide) rfl ev14)]
    refine lv_if_eq (tgt := 48) hx hb dX4_toDouble_40 (by decide) (fun c9 => ?_) (fun c9 => ?_)
    · have c2 := gi_eq c9
      refine lv_lload_n hx hb dX4_toDouble_48 rfl (lv_at hl 0 rfl) ?_
      refine lv_l2d hx hb dX4_toDouble_49 ?_
      refine lv_topd (fun t16 ht16 => ?_)
      have ndt16 : ND t16 := by rw [ht16]; exact nd_l2d _
      refine lv_dstore (lv' := [(4, .double t16), (2, .long x10), (1, .int t5), (0, .ref this)]) hx hb dX4_toDouble_50 hl (by decide) rfl (fun ls hl => ?_)
      refine lv_iconst (v := 0) hx hb dX4_toDouble_52 (by decide) ?_
      refine lv_istore (lv' := [(6, .int 0), (4, .double t16), (2, .long x10), (1, .int t5), (0, .ref this)]) hx hb dX4_toDouble_53 hl (by decide) rfl (fun ls hl => ?_)
      have loop55 : ∀ (n9 : Nat) (dd : UInt64) (i : Int32) (H : Heap) (locs : List Loc) (sg : Gh) (ls : Array Slot), TS κ fE σ0 sg s H locs → (0 ≤ i.toInt) → (i.toInt ≤ t5.toInt) → (t5.toInt < 2147483648) → (ND dd) → lv_has ls 7 [(4, .double dd), (6, .int i), (2, .long x10), (1, .int t5), (0, .ref this)] → (t5.toInt - i.toInt) < n9 → tW p l e 2 46 κ s m #[.ref this] below meth c H locs Q9 (F0 m 55 ls []) := by
        intro n9
        induction n9 with
        | zero =>
          intro dd i H locs sg ls hT q1 q2 q3 nd hl hm9
          exfalso
          omega
        | succ n9 ih9 =>
          have ih55 := ih9
          clear ih9
          intro dd i H locs s17 ls hT q1 q2 q3 nd hl hm9
          refine lv_iload hx hb dX4_toDouble_55 (lv_at hl 1 rfl) ?_
          refine lv_iload_n hx hb dX4_toDouble_57 rfl (lv_at hl 3 rfl) ?_
          refine lv_icmp_ge (tgt := 75) hx hb dX4_toDouble_58 (by decide) (fun c9 => ?_) (fun c9 => ?_)
          · have c3 := gi_le c9
            refine lv_dload hx hb dX4_toDouble_75 (lv_at hl 0 rfl) ?_
            subst hQ9
            exact t_d hx hb hr hlocks hT nd dX4_toDouble_77
          · have c4 := gi_nle c9
            refine lv_dload hx hb dX4_toDouble_61 (lv_at hl 0 rfl) ?_
            refine lv_ldc2d hx hb hown (hg _ k487) dX4_toDouble_63 ?_
            refine lv_dmul hx hb dX4_toDouble_66 (nd_n64 (nd_mul2 nd)) ?_
            refine lv_topd (fun t18 ht18 => ?_)
            have ndt18 : ND t18 := by rw [ht18]; exact nd_mul2 nd
            refine lv_dstore (lv' := [(4, .double t18), (6, .int i), (2, .long x10), (1, .int t5), (0, .ref this)]) hx hb dX4_toDouble_67 hl (by decide) rfl (fun ls hl => ?_)
            obtain ⟨t19, qt19⟩ : ∃ zz9 : Int32, i + Int32.ofInt 1 = zz9 := ⟨_, rfl⟩
            refine lv_iinc (v := t19) (lv' := [(6, .int t19), (4, .double t18), (2, .long x10), (1, .int t5), (0, .ref this)]) hx hb dX4_toDouble_69 hl (k := 1) rfl qt19 (by decide) rfl (fun ls hl => ?_)
            have ht19 : t19.toInt = i.toInt + 1 := by rw [← qt19]; exact v_addi rfl (show (Int32.ofInt 1).toInt = 1 from by decide) (by omega) (by omega)
            refine lv_goto (tgt := 55) hx hb dX4_toDouble_72 (by decide) ?_
            exact ih55 t18 t19 _ _ _ _ hT  (by omega) (by omega) (Int32.toInt_lt _) ndt18 (lv_sub hl [1, 0, 2, 3, 4] rfl) (by omega)
      exact loop55 ((t5.toInt - (0 : Int32).toInt).toNat + 1) t16 0 _ _ _ _ hT  (by omega) (by omega) (Int32.toInt_lt _) ndt16 (lv_sub hl [1, 0, 2, 3, 4] rfl) (by omega)
    · have c5 := gi_ne c9
      refine lv_lload_n hx hb dX4_toDouble_43 rfl (lv_at hl 0 rfl) ?_
      refine lv_lneg hx hb dX4_toDouble_44 ?_
      refine lv_topl (fun t20 ht20 => ?_)
      refine lv_goto (tgt := 49) hx hb dX4_toDouble_45 (by decide) ?_
      refine lv_l2d hx hb dX4_toDouble_49 ?_
      refine lv_topd (fun t21 ht21 => ?_)
      have ndt21 : ND t21 := by rw [ht21]; exact nd_l2d _
      refine lv_dstore (lv' := [(4, .double t21), (2, .long x10), (1, .int t5), (0, .ref this)]) hx hb dX4_toDouble_50 hl (by decide) rfl (fun ls hl => ?_)
      refine lv_iconst (v := 0) hx hb dX4_toDouble_52 (by decide) ?_
      refine lv_istore (lv' := [(6, .int 0), (4, .double t21), (2, .long x10), (1, .int t5), (0, .ref this)]) hx hb dX4_toDouble_53 hl (by decide) rfl (fun ls hl => ?_)
      have loop55 : ∀ (n9 : Nat) (dd : UInt64) (i : Int32) (H : Heap) (locs : List Loc) (sg : Gh) (ls : Array Slot), TS κ fE σ0 sg s H locs → (0 ≤ i.toInt) → (i.toInt ≤ t5.toInt) → (t5.toInt < 2147483648) → (ND dd) → lv_has ls 7 [(4, .double dd), (6, .int i), (2, .long x10), (1, .int t5), (0, .ref this)] → (t5.toInt - i.toInt) < n9 → tW p l e 2 46 κ s m #[.ref this] below meth c H locs Q9 (F0 m 55 ls []) := by
        intro n9
        induction n9 with
        | zero =>
          intro dd i H locs sg ls hT q1 q2 q3 nd hl hm9
          exfalso
          omega
        | succ n9 ih9 =>
          have ih55 := ih9
          clear ih9
          intro dd i H locs s22 ls hT q1 q2 q3 nd hl hm9
          refine lv_iload hx hb dX4_toDouble_55 (lv_at hl 1 rfl) ?_
          refine lv_iload_n hx hb dX4_toDouble_57 rfl (lv_at hl 3 rfl) ?_
          refine lv_icmp_ge (tgt := 75) hx hb dX4_toDouble_58 (by decide) (fun c9 => ?_) (fun c9 => ?_)
          · have c6 := gi_le c9
            refine lv_dload hx hb dX4_toDouble_75 (lv_at hl 0 rfl) ?_
            subst hQ9
            exact t_d hx hb hr hlocks hT nd dX4_toDouble_77
          · have c7 := gi_nle c9
            refine lv_dload hx hb dX4_toDouble_61 (lv_at hl 0 rfl) ?_
            refine lv_ldc2d hx hb hown (hg _ k487) dX4_toDouble_63 ?_
            refine lv_dmul hx hb dX4_toDouble_66 (nd_n64 (nd_mul2 nd)) ?_
            refine lv_topd (fun t23 ht23 => ?_)
            have ndt23 : ND t23 := by rw [ht23]; exact nd_mul2 nd
            refine lv_dstore (lv' := [(4, .double t23), (6, .int i), (2, .long x10), (1, .int t5), (0, .ref this)]) hx hb dX4_toDouble_67 hl (by decide) rfl (fun ls hl => ?_)
            obtain ⟨t24, qt24⟩ : ∃ zz9 : Int32, i + Int32.ofInt 1 = zz9 := ⟨_, rfl⟩
            refine lv_iinc (v := t24) (lv' := [(6, .int t24), (4, .double t23), (2, .long x10), (1, .int t5), (0, .ref this)]) hx hb dX4_toDouble_69 hl (k := 1) rfl qt24 (by decide) rfl (fun ls hl => ?_)
            have ht24 : t24.toInt = i.toInt + 1 := by rw [← qt24]; exact v_addi rfl (show (Int32.ofInt 1).toInt = 1 from by decide) (by omega) (by omega)
            refine lv_goto (tgt := 55) hx hb dX4_toDouble_72 (by decide) ?_
            exact ih55 t23 t24 _ _ _ _ hT  (by omega) (by omega) (Int32.toInt_lt _) ndt23 (lv_sub hl [1, 0, 2, 3, 4] rfl) (by omega)
      exact loop55 ((t5.toInt - (0 : Int32).toInt).toNat + 1) t21 0 _ _ _ _ hT  (by omega) (by omega) (Int32.toInt_lt _) ndt21 (lv_sub hl [1, 0, 2, 3, 4] rfl) (by omega)
  · have c8 := gi_ne c9
    refine lv_aload_n hx hb dX4_toDouble_20 rfl (lv_at hl 1 rfl) ?_
    refine lv_iload_n hx hb dX4_toDouble_21 rfl (lv_at hl 0 rfl) ?_
    obtain ⟨h27, oh27, th27⟩ := hT.o1 (hT.k t_this (by decide))
    have hTo := hT
    refine tVl (n := 1) (As := [.int t5]) (rest := []) hx hb hml hown hg hT hK hX (X4_amountFrom l κ s7 this t5  (hT.k t_this (by decide)) (by omega)) (fun _ _ h => h) (mwV k439 k441 k5 k88 k442) ⟨rfl, by decide, by decide, by decide +kernel⟩ ⟨(Nat.le_of_ble_eq_true rfl), (Nat.le_of_ble_eq_true rfl)⟩ oh27 rfl rfl hl.1 rfl (Nat.le_of_ble_eq_true rfl) dX4_toDouble_22 zroom.rf (fun x25 s26 H locs hφ hEs26 hT => ?_)
    refine lv_lconst (v := 1) hx hb dX4_toDouble_25 (by decide) ?_
    refine lv_lor hx hb dX4_toDouble_26 ?_
    refine lv_topl (fun t28 ht28 => ?_)
    refine lv_goto (tgt := 35) hx hb dX4_toDouble_27 (by decide) ?_
    refine lv_lstore_n (lv' := [(2, .long t28), (1, .int t5), (0, .ref this)]) hx hb dX4_toDouble_35 rfl hl (by decide) rfl (fun ls hl => ?_)
    refine lv_aload_n hx hb dX4_toDouble_36 rfl (lv_at hl 2 rfl) ?_
    obtain ⟨h29, oh29, th29⟩ := hT.o1 (hT.k t_this (by decide))
    obtain ⟨v30, ev30⟩ : ∃ zz9 : Int32, zI σ0 this 2 = zz9 := ⟨_, rfl⟩
    have qv30 : v30.toInt = (zI σ0 this 2).toInt := by rw [ev30]
    have b31 : isB v30 := by have q9 := (hT.P (hT.k t_this (by decide)) (by decide)).2.2; rw [(hT.eI t_this (by decide) rfl ev30)] at q9; exact q9
    refine va_get (D := κ.1) (ci := 4) (v := .int (zI s26 this 2)) (C := RX4) (T := TX4) (N := 3) hx hb hg inX4 hown hK oh29.one 0 rfl rfl 2 (by decide) (hg _ k211) (fun _ h9 => h9) rfl dX4_toDouble_37 ?_
    rw [(hT.eI t_this (by decide) rfl ev30)]
    refine lv_if_eq (tgt := 48) hx hb dX4_toDouble_40 (by decide) (fun c9 => ?_) (fun c9 => ?_)
    · have c9 := gi_eq c9
      refine lv_lload_n hx hb dX4_toDouble_48 rfl (lv_at hl 0 rfl) ?_
      refine lv_l2d hx hb dX4_toDouble_49 ?_
      refine lv_topd (fun t32 ht32 => ?_)
      have ndt32 : ND t32 := by rw [ht32]; exact nd_l2d _
      refine lv_dstore (lv' := [(4, .double t32), (2, .long t28), (1, .int t5), (0, .ref this)]) hx hb dX4_toDouble_50 hl (by decide) rfl (fun ls hl => ?_)
      refine lv_iconst (v := 0) hx hb dX4_toDouble_52 (by decide) ?_
      refine lv_istore (lv' := [(6, .int 0), (4, .double t32), (2, .long t28), (1, .int t5), (0, .ref this)]) hx hb dX4_toDouble_53 hl (by decide) rfl (fun ls hl => ?_)
      have loop55 : ∀ (n9 : Nat) (dd : UInt64) (i : Int32) (H : Heap) (locs : List Loc) (sg : Gh) (ls : Array Slot), TS κ fE σ0 sg s H locs → (0 ≤ i.toInt) → (i.toInt ≤ t5.toInt) → (t5.toInt < 2147483648) → (ND dd) → lv_has ls 7 [(4, .double dd), (6, .int i), (2, .long t28), (1, .int t5), (0, .ref this)] → (t5.toInt - i.toInt) < n9 → tW p l e 2 46 κ s m #[.ref this] below meth c H locs Q9 (F0 m 55 ls []) := by
        intro n9
        induction n9 with
        | zero =>
          intro dd i H locs sg ls hT q1 q2 q3 nd hl hm9
          exfalso
          omega
        | succ n9 ih9 =>
          have ih55 := ih9
          clear ih9
          intro dd i H locs s33 ls hT q1 q2 q3 nd hl hm9
          refine lv_iload hx hb dX4_toDouble_55 (lv_at hl 1 rfl) ?_
          refine lv_iload_n hx hb dX4_toDouble_57 rfl (lv_at hl 3 rfl) ?_
          refine lv_icmp_ge (tgt := 75) hx hb dX4_toDouble_58 (by decide) (fun c9 => ?_) (fun c9 => ?_)
          · have c10 := gi_le c9
            refine lv_dload hx hb dX4_toDouble_75 (lv_at hl 0 rfl) ?_
            subst hQ9
            exact t_d hx hb hr hlocks hT nd dX4_toDouble_77
          · have c11 := gi_nle c9
            refine lv_dload hx hb dX4_toDouble_61 (lv_at hl 0 rfl) ?_
            refine lv_ldc2d hx hb hown (hg _ k487) dX4_toDouble_63 ?_
            refine lv_dmul hx hb dX4_toDouble_66 (nd_n64 (nd_mul2 nd)) ?_
            refine lv_topd (fun t34 ht34 => ?_)
            have ndt34 : ND t34 := by rw [ht34]; exact nd_mul2 nd
            refine lv_dstore (lv' := [(4, .double t34), (6, .int i), (2, .long t28), (1, .int t5), (0, .ref this)]) hx hb dX4_toDouble_67 hl (by decide) rfl (fun ls hl => ?_)
            obtain ⟨t35, qt35⟩ : ∃ zz9 : Int32, i + Int32.ofInt 1 = zz9 := ⟨_, rfl⟩
            refine lv_iinc (v := t35) (lv' := [(6, .int t35), (4, .double t34), (2, .long t28), (1, .int t5), (0, .ref this)]) hx hb dX4_toDouble_69 hl (k := 1) rfl qt35 (by decide) rfl (fun ls hl => ?_)
            have ht35 : t35.toInt = i.toInt + 1 := by rw [← qt35]; exact v_addi rfl (show (Int32.ofInt 1).toInt = 1 from by decide) (by omega) (by omega)
            refine lv_goto (tgt := 55) hx hb dX4_toDouble_72 (by decide) ?_
            exact ih55 t34 t35 _ _ _ _ hT  (by omega) (by omega) (Int32.toInt_lt _) ndt34 (lv_sub hl [1, 0, 2, 3, 4] rfl) (by omega)
      exact loop55 ((t5.toInt - (0 : Int32).toInt).toNat + 1) t32 0 _ _ _ _ hT  (by omega) (by omega) (Int32.toInt_lt _) ndt32 (lv_sub hl [1, 0, 2, 3, 4] rfl) (by omega)
    · have c12 := gi_ne c9
      refine lv_lload_n hx hb dX4_toDouble_43 rfl (lv_at hl 0 rfl) ?_
      refine lv_lneg hx hb dX4_toDouble_44 ?_
      refine lv_topl (fun t36 ht36 => ?_)
      refine lv_goto (tgt := 49) hx hb dX4_toDouble_45 (by decide) ?_
      refine lv_l2d hx hb dX4_toDouble_49 ?_
      refine lv_topd (fun t37 ht37 => ?_)
      have ndt37 : ND t37 := by rw [ht37]; exact nd_l2d _
      refine lv_dstore (lv' := [(4, .double t37), (2, .long t28), (1, .int t5), (0, .ref this)]) hx hb dX4_toDouble_50 hl (by decide) rfl (fun ls hl => ?_)
      refine lv_iconst (v := 0) hx hb dX4_toDouble_52 (by decide) ?_
      refine lv_istore (lv' := [(6, .int 0), (4, .double t37), (2, .long t28), (1, .int t5), (0, .ref this)]) hx hb dX4_toDouble_53 hl (by decide) rfl (fun ls hl => ?_)
      have loop55 : ∀ (n9 : Nat) (dd : UInt64) (i : Int32) (H : Heap) (locs : List Loc) (sg : Gh) (ls : Array Slot), TS κ fE σ0 sg s H locs → (0 ≤ i.toInt) → (i.toInt ≤ t5.toInt) → (t5.toInt < 2147483648) → (ND dd) → lv_has ls 7 [(4, .double dd), (6, .int i), (2, .long t28), (1, .int t5), (0, .ref this)] → (t5.toInt - i.toInt) < n9 → tW p l e 2 46 κ s m #[.ref this] below meth c H locs Q9 (F0 m 55 ls []) := by
        intro n9
        induction n9 with
        | zero =>
          intro dd i H locs sg ls hT q1 q2 q3 nd hl hm9
          exfalso
          omega
        | succ n9 ih9 =>
          have ih55 := ih9
          clear ih9
          intro dd i H locs s38 ls hT q1 q2 q3 nd hl hm9
          refine lv_iload hx hb dX4_toDouble_55 (lv_at hl 1 rfl) ?_
          refine lv_iload_n hx hb dX4_toDouble_57 rfl (lv_at hl 3 rfl) ?_
          refine lv_icmp_ge (tgt := 75) hx hb dX4_toDouble_58 (by decide) (fun c9 => ?_) (fun c9 => ?_)
          · have c13 := gi_le c9
            refine lv_dload hx hb dX4_toDouble_75 (lv_at hl 0 rfl) ?_
            subst hQ9
            exact t_d hx hb hr hlocks hT nd dX4_toDouble_77
          · have c14 := gi_nle c9
            refine lv_dload hx hb dX4_toDouble_61 (lv_at hl 0 rfl) ?_
            refine lv_ldc2d hx hb hown (hg _ k487) dX4_toDouble_63 ?_
            refine lv_dmul hx hb dX4_toDouble_66 (nd_n64 (nd_mul2 nd)) ?_
            refine lv_topd (fun t39 ht39 => ?_)
            have ndt39 : ND t39 := by rw [ht39]; exact nd_mul2 nd
            refine lv_dstore (lv' := [(4, .double t39), (6, .int i), (2, .long t28), (1, .int t5), (0, .ref this)]) hx hb dX4_toDouble_67 hl (by decide) rfl (fun ls hl => ?_)
            obtain ⟨t40, qt40⟩ : ∃ zz9 : Int32, i + Int32.ofInt 1 = zz9 := ⟨_, rfl⟩
            refine lv_iinc (v := t40) (lv' := [(6, .int t40), (4, .double t39), (2, .long t28), (1, .int t5), (0, .ref this)]) hx hb dX4_toDouble_69 hl (k := 1) rfl qt40 (by decide) rfl (fun ls hl => ?_)
            have ht40 : t40.toInt = i.toInt + 1 := by rw [← qt40]; exact v_addi rfl (show (Int32.ofInt 1).toInt = 1 from by decide) (by omega) (by omega)
            refine lv_goto (tgt := 55) hx hb dX4_toDouble_72 (by decide) ?_
            exact ih55 t39 t40 _ _ _ _ hT  (by omega) (by omega) (Int32.toInt_lt _) ndt39 (lv_sub hl [1, 0, 2, 3, 4] rfl) (by omega)
      exact loop55 ((t5.toInt - (0 : Int32).toInt).toNat + 1) t37 0 _ _ _ _ hT  (by omega) (by omega) (Int32.toInt_lt _) ndt37 (lv_sub hl [1, 0, 2, 3, 4] rfl) (by omega)
set_option maxHeartbeats 4000000 in
set_option maxRecDepth 100000 in
theorem X6_plainMean (l : Launch) (κ : Kt) (σ0 : Gh) (this : Nat) (t_this : zk σ0 this 20) (h0 : RI κ σ0 this) : TC l yX6_plainMean cX6_plainMean 4 (some .double) 2 40 [.ref this] κ σ0 (tqd κ gR σ0 (fun (r : UInt64) (τ : Gh) => True)) := by
  refine TC.of gR (by decide +kernel) (Nat.le_of_ble_eq_true rfl) ?_
  intro p e s m below meth c ls hcs hK hX hT hl
  obtain ⟨hx, hb, hr, hml, hown, hg, hlocks, hin⟩ := hcs
  have hown : s.vm.findClass RX6 = some m.cls := hown
  have hl : lv_has ls 4 [(0, .ref this)] := hl
  have hT0 := hT
  have n0 : (0 : Int32).toInt = 0 := by decide
  have n5 : (5 : Int32).toInt = 5 := by decide
  have j0 : (0 : Int64).toInt = 0 := by decide
  generalize hQ9 : tQ _ _ _ _ _ _ = Q9
  obtain ⟨rW, erW⟩ : ∃ z, kR κ this 1 = z := ⟨_, rfl⟩
  have trW : zk σ0 rW 21 := by rw [← erW]; exact h0.1.2.1
  obtain ⟨rP, erP⟩ : ∃ z, kR κ this 5 = z := ⟨_, rfl⟩
  have trP : zk σ0 rP 25 := by rw [← erP]; exact h0.1.2.2.2.2
  have hB0 := h0.b
  rw [erW] at hB0
  have hW := h0.2.1
  rw [erW] at hW
  have hP := h0.2.2.1
  rw [erP] at hP
  have hrN : (rN σ0 this : Int) = (zI σ0 this 7).toInt := by unfold rN; omega
  refine lv_aload_n hx hb dX6_plainMean_0 rfl (lv_at hl 0 rfl) ?_
  refine lv_iconst (v := 0) hx hb dX6_plainMean_1 (by decide) ?_
  have hTo := hT
  refine pf20_0 hx hb hg hown hK hT (hT.k t_this (by decide)) rfl (hg _ k1219) dX6_plainMean_2 (fun H locs s1 hus1 hT => ?_)
  have e2 : zI s1 this 0 = 0 := zput_at hus1
  refine lv_lconst (v := 0) hx hb dX6_plainMean_5 (by decide) ?_
  refine lv_lstore_n (lv' := [(1, .long 0), (0, .ref this)]) hx hb dX6_plainMean_6 rfl hl (by decide) rfl (fun ls hl => ?_)
  refine lv_iconst (v := 0) hx hb dX6_plainMean_7 (by decide) ?_
  refine lv_istore_n (lv' := [(3, .int 0), (1, .long 0), (0, .ref this)]) hx hb dX6_plainMean_8 rfl hl (by decide) rfl (fun ls hl => ?_)
  have loop9 : ∀ (n9 : Nat) (k : Int32) (sm : Int64) (H : Heap) (locs : List Loc) (sg : Gh) (ls : Array Slot), TS κ gR σ0 sg s H locs → (0 ≤ k.toInt) → (k.toInt ≤ (zI σ0 this 7).toInt) → lv_has ls 4 [(3, .int k), (1, .long sm), (0, .ref this)] → ((zI σ0 this 7).toInt - k.toInt) < n9 → tW p l e 2 40 κ s m #[.ref this] below meth c H locs Q9 (F0 m 9 ls []) := by
    intro n9
    induction n9 with
    | zero =>
      intro k sm H locs sg ls hT q1 q2 hl hm9
      exfalso
      omega
    | succ n9 ih9 =>
      have ih9 := ih9
      clear ih9
      intro k sm H locs s3 ls hT q1 q2 hl hm9
      refine lv_iload_n hx hb dX6_plainMean_9 rfl (lv_at hl 0 rfl) ?_
      refine lv_aload_n hx hb dX6_plainMean_10 rfl (lv_at hl 2 rfl) ?_
      obtain ⟨v4, ev4⟩ : ∃ zz9 : Int32, zI σ0 this 7 = zz9 := ⟨_, rfl⟩
      have qv4 : v4.toInt = (zI σ0 this 7).toInt := by rw [ev4]
      refine va_get (D := κ.1) (ci := 6) (v := .int (zI s3 this 7)) (C := RX6) (T := TX6) (N := 27) hx hb hg inX6 hown hK (hT.o20 (hT.k t_this (by decide))).one 0 rfl rfl 7 (by decide) (hg _ k1226) (fun _ h9 => h9) rfl dX6_plainMean_11 ?_
      rw [(hT.eI t_this (by decide) rfl ev4)]
      refine lv_icmp_ge (tgt := 46) hx hb dX6_plainMean_14 (by decide) (fun c9 => ?_) (fun c9 => ?_)
      · have c1 := gi_le c9
        refine lv_lload_n hx hb dX6_plainMean_46 rfl (lv_at hl 1 rfl) ?_
        refine lv_l2d hx hb dX6_plainMean_47 ?_
        refine lv_topd (fun t5 ht5 => ?_)
        have ndt5 : ND t5 := by rw [ht5]; exact nd_l2d _
        refine lv_aload_n hx hb dX6_plainMean_48 rfl (lv_at hl 2 rfl) ?_
        have K6 : zI s3 this 7 = zI σ0 this 7 := hT.eI t_this (by decide) rfl rfl
        have K6n : (zI s3 this 7).toInt = (zI σ0 this 7).toInt := by rw [K6]
        have J7 : zJ s3 rW = zJ σ0 rW := funext fun k => hT.eJ trW (by decide) rfl rfl
        have J7n : (zJ s3 (kR κ this 1) 4).toInt = (zJ σ0 rW 4).toInt := by rw [erW, J7]
        have P8 : zI s3 rP = zI σ0 rP := funext fun k => hT.eI trP (by decide) rfl rfl
        have R9 : RI κ s3 this := h0.ext hT.2.2.1 ⟨rfl, rfl, fun _ => rfl, fun _ => rfl, fun _ => rfl, fun _ => rfl⟩
        have hTo := hT
        refine tVi (n := 0) (As := []) (rest := [.double t5]) hx hb hml hown hg hT hK hX (X6_presents l κ s3 this  (hT.k t_this (by decide)) R9) sub_fE_gR (mwV k1412 k1414 k51 k92 k1415) ⟨rfl, by decide, by decide, by decide +kernel⟩ ⟨(Nat.le_of_ble_eq_true rfl), (Nat.le_of_ble_eq_true rfl)⟩ (hT.o20 (hT.k t_this (by decide))) rfl rfl hl.1 rfl (Nat.le_of_ble_eq_true rfl) dX6_plainMean_49 zroom.rf (fun x10 s11 H locs hφ hEs11 hT => ?_)
        have f12 := hφ
        have K13 : zI s11 this 7 = zI σ0 this 7 := hT.eI t_this (by decide) rfl rfl
        have K13n : (zI s11 this 7).toInt = (zI σ0 this 7).toInt := by rw [K13]
        have J14 : zJ s11 rW = zJ σ0 rW := funext fun k => hT.eJ trW (by decide) rfl rfl
        have J14n : (zJ s11 (kR κ this 1) 4).toInt = (zJ σ0 rW 4).toInt := by rw [erW, J14]
        have P15 : zI s11 rP = zI σ0 rP := funext fun k => hT.eI trP (by decide) rfl rfl
        try simp only [erW, erP, ix_0, ix_1, ix_2, ix_3, ix_4, ix_5, ix_6, ix_7, ix_8, ix_9, K6, J7, P8, K13, J14, P15] at f12
        refine lv_i2d hx hb dX6_plainMean_52 ?_
        refine lv_topd (fun t16 ht16 => ?_)
        refine lv_ddiv hx hb dX6_plainMean_53 (by rw [ht16]; exact nd_n64 (nd_divi ndt5 (by omega) (by omega))) ?_
        refine lv_topd (fun t17 ht17 => ?_)
        subst hQ9
        exact t_d hx hb hr hlocks hT trivial dX6_plainMean_54
      · have c2 := gi_nle c9
        refine lv_lload_n hx hb dX6_plainMean_17 rfl (lv_at hl 1 rfl) ?_
        refine lv_aload_n hx hb dX6_plainMean_18 rfl (lv_at hl 2 rfl) ?_
        refine lv_iload_n hx hb dX6_plainMean_19 rfl (lv_at hl 0 rfl) ?_
        have K18 : zI s3 this 7 = zI σ0 this 7 := hT.eI t_this (by decide) rfl rfl
        have K18n : (zI s3 this 7).toInt = (zI σ0 this 7).toInt := by rw [K18]
        have J19 : zJ s3 rW = zJ σ0 rW := funext fun k => hT.eJ trW (by decide) rfl rfl
        have J19n : (zJ s3 (kR κ this 1) 4).toInt = (zJ σ0 rW 4).toInt := by rw [erW, J19]
        have P20 : zI s3 rP = zI σ0 rP := funext fun k => hT.eI trP (by decide) rfl rfl
        have R21 : RI κ s3 this := h0.ext hT.2.2.1 ⟨rfl, rfl, fun _ => rfl, fun _ => rfl, fun _ => rfl, fun _ => rfl⟩
        have hTo := hT
        refine tVi (n := 1) (As := [.int k]) (rest := [.long sm]) hx hb hml hown hg hT hK hX (X6_isPresent l κ s3 this k  (hT.k t_this (by decide)) R21 (by omega) (by omega)) sub_fE_gR (mwV k1432 k1434 k56 k92 k1435) ⟨rfl, by decide, by decide, by decide +kernel⟩ ⟨(Nat.le_of_ble_eq_true rfl), (Nat.le_of_ble_eq_true rfl)⟩ (hT.o20 (hT.k t_this (by decide))) rfl rfl hl.1 rfl (Nat.le_of_ble_eq_true rfl) dX6_plainMean_20 zroom.rf (fun x22 s23 H locs hφ hEs23 hT => ?_)
        obtain ⟨f24, f25⟩ := hφ
        have K26 : zI s23 this 7 = zI σ0 this 7 := hT.eI t_this (by decide) rfl rfl
        have K26n : (zI s23 this 7).toInt = (zI σ0 this 7).toInt := by rw [K26]
        have J27 : zJ s23 rW = zJ σ0 rW := funext fun k => hT.eJ trW (by decide) rfl rfl
        have J27n : (zJ s23 (kR κ this 1) 4).toInt = (zJ σ0 rW 4).toInt := by rw [erW, J27]
        have P28 : zI s23 rP = zI σ0 rP := funext fun k => hT.eI trP (by decide) rfl rfl
        try simp only [erW, erP, ix_0, ix_1, ix_2, ix_3, ix_4, ix_5, ix_6, ix_7, ix_8, ix_9, K18, J19, P20, K26, J27, P28] at f24
        refine lv_if_eq (tgt := 37) hx hb dX6_plainMean_23 (by decide) (fun c9 => ?_) (fun c9 => ?_)
        · have c3 := gi_eq c9
          refine lv_lconst (v := 0) hx hb dX6_plainMean_37 (by decide) ?_
          refine lv_ladd hx hb dX6_plainMean_38 ?_
          refine lv_topl (fun t29 ht29 => ?_)
          refine lv_lstore_n (lv' := [(1, .long t29), (3, .int k), (0, .ref this)]) hx hb dX6_plainMean_39 rfl hl (by decide) rfl (fun ls hl => ?_)
          obtain ⟨t30, qt30⟩ : ∃ zz9 : Int32, k + Int32.ofInt 1 = zz9 := ⟨_, rfl⟩
          refine lv_iinc (v := t30) (lv' := [(3, .int t30), (1, .long t29), (0, .ref this)]) hx hb dX6_plainMean_40 hl (k := 1) rfl qt30 (by decide) rfl (fun ls hl => ?_)
          have ht30 : t30.toInt = k.toInt + 1 := by rw [← qt30]; exact v_addi rfl (show (Int32.ofInt 1).toInt = 1 from by decide) (by omega) (by omega)
          refine lv_goto (tgt := 9) hx hb dX6_plainMean_43 (by decide) ?_
          exact ih9 t30 t29 _ _ _ _ hT  (by omega) (by omega) hl (by omega)
        · have c4 := gi_ne c9
          refine lv_aload_n hx hb dX6_plainMean_26 rfl (lv_at hl 2 rfl) ?_
          refine va_get (D := κ.1) (ci := 6) (v := .ref (kR κ this 1)) (C := RX6) (T := TX6) (N := 27) hx hb hg inX6 hown hK (hT.o20 (hT.k t_this (by decide))).one 0 rfl rfl 1 (by decide) (hg _ k1220) (fun _ h9 => h9) rfl dX6_plainMean_27 ?_
          rw [erW]
          refine lv_iconst (v := 5) hx hb dX6_plainMean_30 (by decide) ?_
          refine lv_iload_n hx hb dX6_plainMean_31 rfl (lv_at hl 0 rfl) ?_
          refine lv_iadd hx hb dX6_plainMean_32 ?_
          first | refine g_add (by omega) (by omega) (fun t31 ht31 => ?_) | refine lv_topi (fun t31 ht31 => ?_)
          refine va_lald hx hb hK (hT.o21 (hT.k trW (by decide))).one 0 1 rfl rfl (g_in (by omega) (by omega)) dX6_plainMean_33 ?_
          refine lv_topl (fun t32 ht32 => ?_)
          refine lv_goto (tgt := 38) hx hb dX6_plainMean_34 (by decide) ?_
          refine lv_ladd hx hb dX6_plainMean_38 ?_
          refine lv_topl (fun t33 ht33 => ?_)
          refine lv_lstore_n (lv' := [(1, .long t33), (3, .int k), (0, .ref this)]) hx hb dX6_plainMean_39 rfl hl (by decide) rfl (fun ls hl => ?_)
          obtain ⟨t34, qt34⟩ : ∃ zz9 : Int32, k + Int32.ofInt 1 = zz9 := ⟨_, rfl⟩
          refine lv_iinc (v := t34) (lv' := [(3, .int t34), (1, .long t33), (0, .ref this)]) hx hb dX6_plainMean_40 hl (k := 1) rfl qt34 (by decide) rfl (fun ls hl => ?_)
          have ht34 : t34.toInt = k.toInt + 1 := by rw [← qt34]; exact v_addi rfl (show (Int32.ofInt 1).toInt = 1 from by decide) (by omega) (by omega)
          refine lv_goto (tgt := 9) hx hb dX6_plainMean_43 (by decide) ?_
          exact ih9 t34 t33 _ _ _ _ hT  (by omega) (by omega) hl (by omega)
  exact loop9 (((zI σ0 this 7).toInt - (0 : Int32).toInt).toNat + 1) 0 0 _ _ _ _ hT  (by omega) (by omega) hl (by omega)
/-- a contract of a method that may draw -/
def TD (l : Launch) (y : MethodName) (bc : ByteArray) (ml : Nat) (rt : Option FieldType) (fr lw : Nat) (av : List Value) (κ : Kt) (σ : Gh) (Qc : Nat → Array Value → State → Outcome → State → Prop) : Prop := ∀ sz su, MetD lw_cs l y (mw y bc ml rt) { frames := fr, cells := kC κ - sz, slots := kS κ - su, locals := lw } (tpre av κ σ sz su) (Qc sz) (kC κ - sz) (kS κ - su) (tA σ sz)
set_option maxHeartbeats 4000000 in
set_option maxRecDepth 100000 in
theorem X5_plainMean (l : Launch) (κ : Kt) (σ0 : Gh) (this : Nat) (t_this : zk σ0 this 7) : TD l yX5_plainMean cX5_plainMean 1 (some .double) 4 110 [.ref this] κ σ0 (tqd κ fW σ0 (fun (r : UInt64) (τ : Gh) => True)) := by
  intro sz su
  refine MetD.ofW (cc := cX5_plainMean) (maxL := 1) (ret := (some .double)) (by decide +kernel) rfl ?_
  intro p e s m args below meth c s₁ B hml hv hd0
  obtain ⟨rfl, hsz, hsu, hT, hC, hK, hX⟩ := hv
  subst hsz
  subst hsu
  rw [lg_entry_eq]
  have hts := atoms_spec (ws := mw yX5_plainMean cX5_plainMean 1 (some .double)) B.pre
  have hx := B.exec
  have hb := B.bytes
  have hr := B.returns
  have hlocks := B.notSynchronized
  have hown : (s.setDrawn s.drawn).vm.findClass RX5 = some m.cls := findClass_of_methodNamed B.named
  have hg : ∀ w ∈ GW, w.before ([Value.ref this] : List Value).toArray (s.setDrawn s.drawn) = true := dr_words (fun w h => hts w (List.mem_cons_of_mem _ h)) _
  have hl := lv_entry [.ref this] (n := 1) (Nat.le_of_ble_eq_true rfl)
  have hT : TS κ fW σ0 σ0 (s.setDrawn s.drawn) s.heap [] := ⟨hT, hC, Ext.rf, va_S.rf⟩
  have hK : va_K κ.1 vwCl (kTy κ) (s.setDrawn s.drawn) := hK
  have hX : XY κ (tA σ0 (s.setDrawn s.drawn).heap.size) (s.setDrawn s.drawn) (s.setDrawn s.drawn).heap := hX
  refine W.widen (k := kC κ - s.heap.size) (n := kS κ - hsl s.heap) (Nat.zero_le _) (Nat.zero_le _) ?_
  generalize (lg_sl ([.ref this]) ++ List.replicate (1 - (lg_sl ([.ref this])).length) Slot.unset).toArray = ls at hl ⊢
  have hl : lv_has ls 1 [(0, .ref this)] := hl
  have rn : zk σ0 (kR κ this 3) 3 := hT.ref t_this (by decide) (by decide) (by decide)
  change W p l e { frames := 4, cells := kC κ - (s.setDrawn s.drawn).heap.size, slots := kS κ - hsl (s.setDrawn s.drawn).heap, locals := 110 } (s.setDrawn s.drawn) m _ below meth c s.heap [] (kC κ - (s.setDrawn s.drawn).heap.size) (kS κ - hsl (s.setDrawn s.drawn).heap) _ _
  generalize hs9 : s.setDrawn s.drawn = s9 at *
  refine lv_aload_n hx hb dX5_plainMean_0 rfl (lv_at hl 0 rfl) ?_
  refine va_get (D := κ.1) (ci := 5) (v := .ref (kR κ this 3)) (C := RX5) (T := TX5) (N := 10) hx hb hg inX5 hown hK (hT.o7 t_this).one 0 rfl rfl 3 (by decide) (hg _ k382) (fun _ h9 => h9) rfl dX5_plainMean_1 ?_
  refine tVr (n := 0) (As := []) (rest := []) hx hb hml hown hg hT hK hX (X1_valueSum l κ σ0 (kR κ this 3) rn) (fun _ _ h => h) (mwV k467 k468 k469 k87 k470) ⟨rfl, by decide, by decide, by decide +kernel⟩ ⟨(Nat.le_of_ble_eq_true rfl), (Nat.le_of_ble_eq_true rfl)⟩ (hT.o3 rn) rfl rfl hl.1 rfl (Nat.le_of_ble_eq_true rfl) dX5_plainMean_4 zroom.rf (fun x1 s1 H locs hφ hE1 hT1 => ?_)
  have tx1 : zk s1 x1 1 := zk.ext hφ hE1 (by decide)
  have rn1 : zk s1 (kR κ this 3) 3 := rn.ext hE1 (by decide)
  have tt1 : zk s1 this 7 := t_this.ext hE1 (by decide)
  obtain ⟨h8, oh8, th8⟩ := hT1.o1 tx1
  refine tVd (n := 0) (As := []) (rest := []) hx hb hml hown hg hT1 hK hX (X4_toDouble l κ s1 x1 tx1) sub_fE_fW (mwV k471 k472 k473 k88 k474) ⟨rfl, by decide, by decide, by decide +kernel⟩ ⟨(Nat.le_of_ble_eq_true rfl), (Nat.le_of_ble_eq_true rfl)⟩ oh8 rfl rfl hl.1 rfl (Nat.le_of_ble_eq_true rfl) dX5_plainMean_7 zroom.rf (fun x2 s2 H locs hφ2 hE2 hT2 => ?_)
  have rn2 : zk s2 (kR κ this 3) 3 := rn1.ext hE2 (by decide)
  have tt2 : zk s2 this 7 := tt1.ext hE2 (by decide)
  refine lv_aload_n hx hb dX5_plainMean_10 rfl (lv_at hl 0 rfl) ?_
  refine va_get (D := κ.1) (ci := 5) (v := .ref (kR κ this 3)) (C := RX5) (T := TX5) (N := 10) hx hb hg inX5 hown hK (hT2.o7 tt2).one 0 rfl rfl 3 (by decide) (hg _ k382) (fun _ h9 => h9) rfl dX5_plainMean_11 ?_
  refine tVi (n := 0) (As := []) (rest := [.double x2]) hx hb hml hown hg hT2 hK hX (X1_presentCount l κ s2 (kR κ this 3) rn2) sub_fE_fW (mwV k488 k489 k490 k87 k491) ⟨rfl, by decide, by decide, by decide +kernel⟩ ⟨(Nat.le_of_ble_eq_true rfl), (Nat.le_of_ble_eq_true rfl)⟩ (hT2.o3 rn2) rfl rfl hl.1 rfl (Nat.le_of_ble_eq_true rfl) dX5_plainMean_14 zroom.rf (fun x3 s3 H locs hφ3 hE3 hT3 => ?_)
  refine lv_i2d hx hb dX5_plainMean_17 ?_
  subst hs9
  refine lv_ddiv_any hd0 lw_bits hx hb dX5_plainMean_18 (fun r d1 hal hd1 => ?_)
  refine W.endD hd1 ?_
  exact t_d (s := s.setDrawn d1) hx hb hr hlocks hT3 trivial dX5_plainMean_19
