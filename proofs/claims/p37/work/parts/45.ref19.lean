/-! The reference over any state: the whole text -/
theorem sub_gB_gS3 : ∀ t k, gS3 t k = false → gB t k = false := by
  intro t k h
  simp [gB, gS3] at h ⊢ <;> omega
theorem sub_gH_gS3 : ∀ t k, gS3 t k = false → gH t k = false := by
  intro t k h
  simp [gH, gS3] at h ⊢ <;> omega
theorem sub_gS1_gS3 : ∀ t k, gS3 t k = false → gS1 t k = false := by
  intro t k h
  simp [gS1, gS3] at h ⊢ <;> omega
theorem sub_gS2_gS3 : ∀ t k, gS3 t k = false → gS2 t k = false := by
  intro t k h
  simp [gS2, gS3] at h ⊢ <;> omega
theorem k39 : Cond.selects RX6 yX6_setting yX6_setting ∈ GW := gm 39 (by decide +kernel) (by decide +kernel)
theorem k50 : Cond.selects RX6 yX6_sampleTold yX6_sampleTold ∈ GW := gm 50 (by decide +kernel) (by decide +kernel)
theorem k1332 : Cond.methodLink RX6 176 yX6_setting ∈ GW := gm 1332 (by decide +kernel) (by decide +kernel)
theorem k1334 : Cond.instanceMethod yX6_setting ∈ GW := gm 1334 (by decide +kernel) (by decide +kernel)
theorem k1335 : Cond.code yX6_setting cX6_setting 1 (some .boolean) ∈ GW := gm 1335 (by decide +kernel) (by decide +kernel)
theorem k1394 : Cond.constantLong RX6 180 47 ∈ GW := gm 1394 (by decide +kernel) (by decide +kernel)
theorem k1395 : Cond.methodLink RX6 182 yX6_sampleTold ∈ GW := gm 1395 (by decide +kernel) (by decide +kernel)
theorem k1397 : Cond.instanceMethod yX6_sampleTold ∈ GW := gm 1397 (by decide +kernel) (by decide +kernel)
theorem k1398 : Cond.code yX6_sampleTold cX6_sampleTold 2 none ∈ GW := gm 1398 (by decide +kernel) (by decide +kernel)
theorem dX6_reads_0 : decode cX6_reads 0 = .ok (.iconst 1, 1) := by decide +kernel
theorem dX6_reads_1 : decode cX6_reads 1 = .ok (.istore_n 1, 1) := by decide +kernel
theorem dX6_reads_2 : decode cX6_reads 2 = .ok (.aload_n 0, 1) := by decide +kernel
theorem dX6_reads_3 : decode cX6_reads 3 = .ok (.getfield 91, 3) := by decide +kernel
theorem dX6_reads_6 : decode cX6_reads 6 = .ok (.ifCond .ne 15, 3) := by decide +kernel
theorem dX6_reads_9 : decode cX6_reads 9 = .ok (.iload_n 1, 1) := by decide +kernel
theorem dX6_reads_10 : decode cX6_reads 10 = .ok (.ifCond .eq 11, 3) := by decide +kernel
theorem dX6_reads_13 : decode cX6_reads 13 = .ok (.aload_n 0, 1) := by decide +kernel
theorem dX6_reads_14 : decode cX6_reads 14 = .ok (.invokevirtual 176, 3) := by decide +kernel
theorem dX6_reads_17 : decode cX6_reads 17 = .ok (.istore_n 1, 1) := by decide +kernel
theorem dX6_reads_18 : decode cX6_reads 18 = .ok (.goto (-16), 3) := by decide +kernel
theorem dX6_reads_21 : decode cX6_reads 21 = .ok (.aload_n 0, 1) := by decide +kernel
theorem dX6_reads_22 : decode cX6_reads 22 = .ok (.ldc2_w 180, 3) := by decide +kernel
theorem dX6_reads_25 : decode cX6_reads 25 = .ok (.invokevirtual 117, 3) := by decide +kernel
theorem dX6_reads_28 : decode cX6_reads 28 = .ok (.ifCond .eq 10, 3) := by decide +kernel
theorem dX6_reads_31 : decode cX6_reads 31 = .ok (.aload_n 0, 1) := by decide +kernel
theorem dX6_reads_32 : decode cX6_reads 32 = .ok (.invokevirtual 182, 3) := by decide +kernel
theorem dX6_reads_35 : decode cX6_reads 35 = .ok (.goto (-14), 3) := by decide +kernel
theorem dX6_reads_38 : decode cX6_reads 38 = .ok (.aload_n 0, 1) := by decide +kernel
theorem dX6_reads_39 : decode cX6_reads 39 = .ok (.getfield 91, 3) := by decide +kernel
theorem dX6_reads_42 : decode cX6_reads 42 = .ok (.ifCond .ne 33, 3) := by decide +kernel
theorem dX6_reads_45 : decode cX6_reads 45 = .ok (.aload_n 0, 1) := by decide +kernel
theorem dX6_reads_46 : decode cX6_reads 46 = .ok (.getfield 46, 3) := by decide +kernel
theorem dX6_reads_49 : decode cX6_reads 49 = .ok (.iconst 2, 1) := by decide +kernel
theorem dX6_reads_50 : decode cX6_reads 50 = .ok (.if_icmp .lt 11, 3) := by decide +kernel
theorem dX6_reads_53 : decode cX6_reads 53 = .ok (.aload_n 0, 1) := by decide +kernel
theorem dX6_reads_54 : decode cX6_reads 54 = .ok (.invokevirtual 102, 3) := by decide +kernel
theorem dX6_reads_57 : decode cX6_reads 57 = .ok (.iconst (-1), 1) := by decide +kernel
theorem dX6_reads_58 : decode cX6_reads 58 = .ok (.if_icmp .eq 17, 3) := by decide +kernel
theorem dX6_reads_61 : decode cX6_reads 61 = .ok (.aload_n 0, 1) := by decide +kernel
theorem dX6_reads_62 : decode cX6_reads 62 = .ok (.invokevirtual 102, 3) := by decide +kernel
theorem dX6_reads_65 : decode cX6_reads 65 = .ok (.istore_n 2, 1) := by decide +kernel
theorem dX6_reads_66 : decode cX6_reads 66 = .ok (.aload_n 0, 1) := by decide +kernel
theorem dX6_reads_67 : decode cX6_reads 67 = .ok (.iconst 1, 1) := by decide +kernel
theorem dX6_reads_68 : decode cX6_reads 68 = .ok (.aload_n 0, 1) := by decide +kernel
theorem dX6_reads_69 : decode cX6_reads 69 = .ok (.getfield 88, 3) := by decide +kernel
theorem dX6_reads_72 : decode cX6_reads 72 = .ok (.invokevirtual 128, 3) := by decide +kernel
theorem dX6_reads_75 : decode cX6_reads 75 = .ok (.return_, 1) := by decide +kernel
set_option maxHeartbeats 4000000 in
set_option maxRecDepth 100000 in
theorem X6_reads (l : Launch) (κ : Kt) (σ0 : Gh) (this : Nat) (t_this : zk σ0 this 20) (h0 : 0 ≤ (zI σ0 this 13).toInt) (h1 : (zI σ0 this 13).toInt ≤ 700) (h2 : 0 ≤ (zI σ0 this 14).toInt) (h3 : (zI σ0 this 14).toInt ≤ 702) (h4 : (zI σ0 this 14).toInt = 0) (h5 : (zI σ0 this 17).toInt = 0) (h6 : (zI σ0 this 18).toInt = 0) : TC l yX6_reads cX6_reads 3 none 7 163 [.ref this] κ σ0 (tqv κ gS3 σ0 (fun (τ : Gh) => ((zI τ this 17).toInt = 1 ∨ (2 ≤ (zI τ this 18).toInt ∧ (zI τ this 18).toInt ≤ 48)) ∧ ((zI τ this 17).toInt = 1 ∨ PL (zI τ this 18).toInt.toNat (zI τ (kR κ this 25))))) := by
  refine TC.of gS3 (by decide +kernel) (Nat.le_of_ble_eq_true rfl) ?_
  intro p e s m below meth c ls hcs hK hX hT hl
  obtain ⟨hx, hb, hr, hml, hown, hg, hlocks, hin⟩ := hcs
  have hown : s.vm.findClass RX6 = some m.cls := hown
  have hl : lv_has ls 3 [(0, .ref this)] := hl
  have hT0 := hT
  have nm1 : ((-1) : Int32).toInt = (-1) := by decide
  have n0 : (0 : Int32).toInt = 0 := by decide
  have n1 : (1 : Int32).toInt = 1 := by decide
  have n2 : (2 : Int32).toInt = 2 := by decide
  have j47 : (47 : Int64).toInt = 47 := by decide
  generalize hQ9 : tQ _ _ _ _ _ _ = Q9
  obtain ⟨rQ, erQ⟩ : ∃ z, kR κ this 25 = z := ⟨_, rfl⟩
  have trQ : zk σ0 rQ 27 := by rw [← erQ]; exact hT0.ref t_this (by decide) (by decide) (by decide)
  obtain ⟨v1, ev1⟩ : ∃ zz9 : Int32, zI σ0 this 13 = zz9 := ⟨_, rfl⟩
  have qv1 : v1.toInt = (zI σ0 this 13).toInt := by rw [ev1]
  obtain ⟨v2, ev2⟩ : ∃ zz9 : Int32, zI σ0 this 14 = zz9 := ⟨_, rfl⟩
  have qv2 : v2.toInt = (zI σ0 this 14).toInt := by rw [ev2]
  obtain ⟨v3, ev3⟩ : ∃ zz9 : Int32, zI σ0 this 17 = zz9 := ⟨_, rfl⟩
  have qv3 : v3.toInt = (zI σ0 this 17).toInt := by rw [ev3]
  have b4 : isB v3 := by have q9 : isB (zI σ0 this 17) := hT.P (hT.k t_this (by decide)) (by decide); rw [ev3] at q9; exact q9
  have b4t := isB_t b4
  obtain ⟨v5, ev5⟩ : ∃ zz9 : Int32, zI σ0 this 18 = zz9 := ⟨_, rfl⟩
  have qv5 : v5.toInt = (zI σ0 this 18).toInt := by rw [ev5]
  refine lv_iconst (v := 1) hx hb dX6_reads_0 (by decide) ?_
  refine lv_istore_n (lv' := [(1, .int 1), (0, .ref this)]) hx hb dX6_reads_1 rfl hl (by decide) rfl (fun ls hl => ?_)
  have loop2 : ∀ (n9 : Nat) (is : Int32) (u : Int32) (bb : Int32) (H : Heap) (locs : List Loc) (sg : Gh) (ls : Array Slot), TS κ gS3 σ0 sg s H locs → (zI sg this 18 = v5) → (zI sg this 14 = u) → (zI sg this 17 = bb) → (0 ≤ u.toInt) → (u.toInt ≤ 701) → (bb.toInt = 1 ∨ u.toInt ≤ (zI σ0 this 13).toInt) → (isB is) → lv_has ls 3 [(1, .int is), (0, .ref this)] → (2 * (702 - u.toInt) + is.toInt) < n9 → tW p l e 7 163 κ s m #[.ref this] below meth c H locs Q9 (F0 m 2 ls []) := by
    intro n9
    induction n9 with
    | zero =>
      intro is u bb H locs sg ls hT kthis_18 kthis_14 kthis_17 q1 q2 q3 hbs hl hm9
      exfalso
      (have z9 := isB_t hbs; omega)
    | succ n9 ih9 =>
      have ih2 := ih9
      clear ih9
      intro is u bb H locs s6 ls hT kthis_18 kthis_14 kthis_17 q1 q2 q3 hbs hl hm9
      have b7 : isB (zI s6 this 17) := hT.P (hT.k t_this (by decide)) (by decide)
      rw [kthis_17] at b7
      have b7t := isB_t b7
      have hbt := isB_t hbs
      refine lv_aload_n hx hb dX6_reads_2 rfl (lv_at hl 1 rfl) ?_
      refine va_get (D := κ.1) (ci := 6) (v := .int (zI s6 this 17)) (C := RX6) (T := TX6) (N := 27) hx hb hg inX6 hown hK (hT.o20 (hT.k t_this (by decide))).one 0 rfl rfl 17 (by decide) (hg _ k1236) (fun _ h9 => h9) rfl dX6_reads_3 ?_
      rw [kthis_17]
      refine lv_if_ne (tgt := 21) hx hb dX6_reads_6 (by decide) (fun c9 => ?_) (fun c9 => ?_)
      · have c1 := gi_ne c9
        have loop21 : ∀ (n9 : Nat)  (u2 : Int32) (b2 : Int32) (ns : Int32) (H : Heap) (locs : List Loc) (sg : Gh) (ls : Array Slot), TS κ gS3 σ0 sg s H locs → (zI sg this 14 = u2) → (zI sg this 17 = b2) → (zI sg this 18 = ns) → (0 ≤ u2.toInt) → (u2.toInt ≤ 702) → (b2.toInt = 1 ∨ u2.toInt ≤ (zI σ0 this 13).toInt) → (0 ≤ ns.toInt) → (ns.toInt ≤ 48) → (b2.toInt = 1 ∨ PL ns.toInt.toNat (zI sg rQ)) → lv_has ls 3 [(0, .ref this)] → (2 * (702 - u2.toInt) + 1 - b2.toInt) < n9 → tW p l e 7 163 κ s m #[.ref this] below meth c H locs Q9 (F0 m 21 ls []) := by
          intro n9
          induction n9 with
          | zero =>
            intro u2 b2 ns H locs sg ls hT kthis_14 kthis_17 kthis_18 p1 p2 p3 p4 p6 p5 hl hm9
            exfalso
            (have z9 := isB_t (show isB b2 from by have y9 : isB (zI sg this 17) := hT.P (hT.k t_this (by decide)) (by decide); rw [kthis_17] at y9; exact y9); omega)
          | succ n9 ih9 =>
            have ih21 := ih9
            clear ih9
            intro u2 b2 ns H locs s8 ls hT kthis_14 kthis_17 kthis_18 p1 p2 p3 p4 p6 p5 hl hm9
            have b9 : isB (zI s8 this 17) := hT.P (hT.k t_this (by decide)) (by decide)
            rw [kthis_17] at b9
            have b9t := isB_t b9
            refine lv_aload_n hx hb dX6_reads_21 rfl (lv_at hl 0 rfl) ?_
            refine lv_ldc2 hx hb hown (hg _ k1394) dX6_reads_22 ?_
            have qq10 : (zI s8 this 13).toInt = v1.toInt := by rw [(hT.eI t_this (by decide) rfl ev1)]
            have qq11 : (zI s8 this 14).toInt = u2.toInt := by rw [kthis_14]
            have qq12 : (zI s8 this 17).toInt = b2.toInt := by rw [kthis_17]
            have hTo := hT
            refine tVi (n := 1) (As := [.long 47]) (rest := []) hx hb hml hown hg hT hK hX (X6_isWord l κ s8 this 47  (hT.k t_this (by decide)) (by omega) (by omega) (by omega) (by omega)) sub_gH_gS3 (mwV k1337 k1339 k40 k92 k1340) ⟨rfl, by decide, by decide, by decide +kernel⟩ ⟨(Nat.le_of_ble_eq_true rfl), (Nat.le_of_ble_eq_true rfl)⟩ (hT.o20 (hT.k t_this (by decide))) rfl rfl hl.1 rfl (Nat.le_of_ble_eq_true rfl) dX6_reads_25 zroom.rf (fun x13 s14 H locs hφ hEs14 hT => ?_)
            have kthis_17 : zI s14 this 17 = b2 := ((hTo.k t_this (by decide)).eI hEs14 (by decide) rfl).trans kthis_17
            have kthis_18 : zI s14 this 18 = ns := ((hTo.k t_this (by decide)).eI hEs14 (by decide) rfl).trans kthis_18
            have Y15 : b2.toInt = 1 ∨ PL ns.toInt.toNat (zI s14 rQ) := by first | (rw [show zI s14 rQ = zI s8 rQ from funext fun k => (hTo.k trQ (by decide)).eI hEs14 (by decide) rfl]; exact p5) | rw [show zI s14 rQ = zI s8 rQ from funext fun k => (hTo.k trQ (by decide)).eI hEs14 (by decide) rfl]
            obtain ⟨f16, f17, f18, f19⟩ := hφ
            obtain ⟨v20, ev20⟩ : ∃ zz9 : Int32, zI s14 this 14 = zz9 := ⟨_, rfl⟩
            have qv20 : v20.toInt = (zI s14 this 14).toInt := by rw [ev20]
            refine lv_if_eq (tgt := 38) hx hb dX6_reads_28 (by decide) (fun c9 => ?_) (fun c9 => ?_)
            · have c2 := gi_eq c9
              refine lv_aload_n hx hb dX6_reads_38 rfl (lv_at hl 0 rfl) ?_
              refine va_get (D := κ.1) (ci := 6) (v := .int (zI s14 this 17)) (C := RX6) (T := TX6) (N := 27) hx hb hg inX6 hown hK (hT.o20 (hT.k t_this (by decide))).one 0 rfl rfl 17 (by decide) (hg _ k1236) (fun _ h9 => h9) rfl dX6_reads_39 ?_
              rw [kthis_17]
              refine lv_if_ne (tgt := 75) hx hb dX6_reads_42 (by decide) (fun c9 => ?_) (fun c9 => ?_)
              · have c3 := gi_ne c9
                have zz21 : (zI s14 this 17).toInt = b2.toInt := by rw [kthis_17]
                have zz22 : (zI s14 this 18).toInt = ns.toInt := by rw [kthis_18]
                subst hQ9
                exact t_v hx hb hr hlocks hT ⟨by omega, (Classical.em ((zI s14 this 17).toInt = 1)).elim Or.inl (fun q8 => Or.inr (by rw [erQ, (show zI s14 this 18 = ns from kthis_18)]; exact Y15.resolve_left (by omega)))⟩ dX6_reads_75
              · have c4 := gi_eq c9
                refine lv_aload_n hx hb dX6_reads_45 rfl (lv_at hl 0 rfl) ?_
                refine va_get (D := κ.1) (ci := 6) (v := .int (zI s14 this 18)) (C := RX6) (T := TX6) (N := 27) hx hb hg inX6 hown hK (hT.o20 (hT.k t_this (by decide))).one 0 rfl rfl 18 (by decide) (hg _ k1237) (fun _ h9 => h9) rfl dX6_reads_46 ?_
                rw [kthis_18]
                refine lv_iconst (v := 2) hx hb dX6_reads_49 (by decide) ?_
                refine lv_icmp_lt (tgt := 61) hx hb dX6_reads_50 (by decide) (fun c9 => ?_) (fun c9 => ?_)
                · have c5 := gi_lt c9
                  refine lv_aload_n hx hb dX6_reads_61 rfl (lv_at hl 0 rfl) ?_
                  have qq23 : (zI s14 this 13).toInt = v1.toInt := by rw [(hT.eI t_this (by decide) rfl ev1)]
                  have qq24 : (zI s14 this 14).toInt = v20.toInt := by rw [ev20]
                  have qq25 : (zI s14 this 17).toInt = b2.toInt := by rw [kthis_17]
                  have hTo := hT
                  refine tVi (n := 0) (As := []) (rest := []) hx hb hml hown hg hT hK hX (X6_here l κ s14 this  (hT.k t_this (by decide)) (by omega) (by omega) (by omega) (by omega)) sub_gH_gS3 (mwV k1345 k1347 k42 k92 k1348) ⟨rfl, by decide, by decide, by decide +kernel⟩ ⟨(Nat.le_of_ble_eq_true rfl), (Nat.le_of_ble_eq_true rfl)⟩ (hT.o20 (hT.k t_this (by decide))) rfl rfl hl.1 rfl (Nat.le_of_ble_eq_true rfl) dX6_reads_62 zroom.rf (fun x26 s27 H locs hφ hEs27 hT => ?_)
                  have kthis_17 : zI s27 this 17 = b2 := ((hTo.k t_this (by decide)).eI hEs27 (by decide) rfl).trans kthis_17
                  have kthis_18 : zI s27 this 18 = ns := ((hTo.k t_this (by decide)).eI hEs27 (by decide) rfl).trans kthis_18
                  have Y28 : b2.toInt = 1 ∨ PL ns.toInt.toNat (zI s27 rQ) := by first | (rw [show zI s27 rQ = zI s14 rQ from funext fun k => (hTo.k trQ (by decide)).eI hEs27 (by decide) rfl]; exact Y15) | rw [show zI s27 rQ = zI s14 rQ from funext fun k => (hTo.k trQ (by decide)).eI hEs27 (by decide) rfl]
                  obtain ⟨f29, f30, f31⟩ := hφ
                  obtain ⟨v32, ev32⟩ : ∃ zz9 : Int32, zI s27 this 14 = zz9 := ⟨_, rfl⟩
                  have qv32 : v32.toInt = (zI s27 this 14).toInt := by rw [ev32]
                  refine lv_istore_n (lv' := [(2, .int x26), (0, .ref this)]) hx hb dX6_reads_65 rfl hl (by decide) rfl (fun ls hl => ?_)
                  refine lv_aload_n hx hb dX6_reads_66 rfl (lv_at hl 1 rfl) ?_
                  refine lv_iconst (v := 1) hx hb dX6_reads_67 (by decide) ?_
                  refine lv_aload_n hx hb dX6_reads_68 rfl (lv_at hl 1 rfl) ?_
                  refine va_get (D := κ.1) (ci := 6) (v := .int (zI s27 this 14)) (C := RX6) (T := TX6) (N := 27) hx hb hg inX6 hown hK (hT.o20 (hT.k t_this (by decide))).one 0 rfl rfl 14 (by decide) (hg _ k1233) (fun _ h9 => h9) rfl dX6_reads_69 ?_
                  rw [ev32]
                  have qq33 : (zI s27 this 17).toInt = b2.toInt := by rw [kthis_17]
                  have hTo := hT
                  refine tVv (n := 2) (As := [.int 1, .int v32]) (rest := []) hx hb hml hown hg hT hK hX (X6_wrong l κ s27 this 1 v32  (hT.k t_this (by decide)) ) sub_gB_gS3 (mwV k1361 k1363 k45 k92 k1364) ⟨rfl, by decide, by decide, by decide +kernel⟩ ⟨(Nat.le_of_ble_eq_true rfl), (Nat.le_of_ble_eq_true rfl)⟩ (hT.o20 (hT.k t_this (by decide))) rfl rfl hl.1 rfl (Nat.le_of_ble_eq_true rfl) dX6_reads_72 zroom.rf (fun s35 H locs hφ hEs35 hT => ?_)
                  have kthis_18 : zI s35 this 18 = ns := ((hTo.k t_this (by decide)).eI hEs35 (by decide) rfl).trans kthis_18
                  have ev32 : zI s35 this 14 = v32 := ((hTo.k t_this (by decide)).eI hEs35 (by decide) rfl).trans ev32
                  have Y36 : b2.toInt = 1 ∨ PL ns.toInt.toNat (zI s35 rQ) := by first | (rw [show zI s35 rQ = zI s27 rQ from funext fun k => (hTo.k trQ (by decide)).eI hEs35 (by decide) rfl]; exact Y28) | rw [show zI s35 rQ = zI s27 rQ from funext fun k => (hTo.k trQ (by decide)).eI hEs35 (by decide) rfl]
                  have f37 := hφ
                  obtain ⟨v38, ev38⟩ : ∃ zz9 : Int32, zI s35 this 17 = zz9 := ⟨_, rfl⟩
                  have qv38 : v38.toInt = (zI s35 this 17).toInt := by rw [ev38]
                  have b39 : isB v38 := by have q9 : isB (zI s35 this 17) := hT.P (hT.k t_this (by decide)) (by decide); rw [ev38] at q9; exact q9
                  have b39t := isB_t b39
                  have zz40 : (zI s35 this 17).toInt = v38.toInt := by rw [ev38]
                  have zz41 : (zI s35 this 18).toInt = ns.toInt := by rw [kthis_18]
                  subst hQ9
                  exact t_v hx hb hr hlocks hT ⟨by omega, (Classical.em ((zI s35 this 17).toInt = 1)).elim Or.inl (fun q8 => Or.inr (by rw [erQ, (show zI s35 this 18 = ns from kthis_18)]; exact Y36.resolve_left (by omega)))⟩ dX6_reads_75
                · have c6 := gi_nlt c9
                  refine lv_aload_n hx hb dX6_reads_53 rfl (lv_at hl 0 rfl) ?_
                  have qq42 : (zI s14 this 13).toInt = v1.toInt := by rw [(hT.eI t_this (by decide) rfl ev1)]
                  have qq43 : (zI s14 this 14).toInt = v20.toInt := by rw [ev20]
                  have qq44 : (zI s14 this 17).toInt = b2.toInt := by rw [kthis_17]
                  have hTo := hT
                  refine tVi (n := 0) (As := []) (rest := []) hx hb hml hown hg hT hK hX (X6_here l κ s14 this  (hT.k t_this (by decide)) (by omega) (by omega) (by omega) (by omega)) sub_gH_gS3 (mwV k1345 k1347 k42 k92 k1348) ⟨rfl, by decide, by decide, by decide +kernel⟩ ⟨(Nat.le_of_ble_eq_true rfl), (Nat.le_of_ble_eq_true rfl)⟩ (hT.o20 (hT.k t_this (by decide))) rfl rfl hl.1 rfl (Nat.le_of_ble_eq_true rfl) dX6_reads_54 zroom.rf (fun x45 s46 H locs hφ hEs46 hT => ?_)
                  have kthis_17 : zI s46 this 17 = b2 := ((hTo.k t_this (by decide)).eI hEs46 (by decide) rfl).trans kthis_17
                  have kthis_18 : zI s46 this 18 = ns := ((hTo.k t_this (by decide)).eI hEs46 (by decide) rfl).trans kthis_18
                  have Y47 : b2.toInt = 1 ∨ PL ns.toInt.toNat (zI s46 rQ) := by first | (rw [show zI s46 rQ = zI s14 rQ from funext fun k => (hTo.k trQ (by decide)).eI hEs46 (by decide) rfl]; exact Y15) | rw [show zI s46 rQ = zI s14 rQ from funext fun k => (hTo.k trQ (by decide)).eI hEs46 (by decide) rfl]
                  obtain ⟨f48, f49, f50⟩ := hφ
                  obtain ⟨v51, ev51⟩ : ∃ zz9 : Int32, zI s46 this 14 = zz9 := ⟨_, rfl⟩
                  have qv51 : v51.toInt = (zI s46 this 14).toInt := by rw [ev51]
                  refine lv_iconst (v := (-1)) hx hb dX6_reads_57 (by decide) ?_
                  refine lv_icmp_eq (tgt := 75) hx hb dX6_reads_58 (by decide) (fun c9 => ?_) (fun c9 => ?_)
                  · have c7 := gi_eq c9
                    have zz52 : (zI s46 this 17).toInt = b2.toInt := by rw [kthis_17]
                    have zz53 : (zI s46 this 18).toInt = ns.toInt := by rw [kthis_18]
                    subst hQ9
                    exact t_v hx hb hr hlocks hT ⟨by omega, (Classical.em ((zI s46 this 17).toInt = 1)).elim Or.inl (fun q8 => Or.inr (by rw [erQ, (show zI s46 this 18 = ns from kthis_18)]; exact Y47.resolve_left (by omega)))⟩ dX6_reads_75
                  · have c8 := gi_ne c9
                    refine lv_aload_n hx hb dX6_reads_61 rfl (lv_at hl 0 rfl) ?_
                    have qq54 : (zI s46 this 13).toInt = v1.toInt := by rw [(hT.eI t_this (by decide) rfl ev1)]
                    have qq55 : (zI s46 this 14).toInt = v51.toInt := by rw [ev51]
                    have qq56 : (zI s46 this 17).toInt = b2.toInt := by rw [kthis_17]
                    have hTo := hT
                    refine tVi (n := 0) (As := []) (rest := []) hx hb hml hown hg hT hK hX (X6_here l κ s46 this  (hT.k t_this (by decide)) (by omega) (by omega) (by omega) (by omega)) sub_gH_gS3 (mwV k1345 k1347 k42 k92 k1348) ⟨rfl, by decide, by decide, by decide +kernel⟩ ⟨(Nat.le_of_ble_eq_true rfl), (Nat.le_of_ble_eq_true rfl)⟩ (hT.o20 (hT.k t_this (by decide))) rfl rfl hl.1 rfl (Nat.le_of_ble_eq_true rfl) dX6_reads_62 zroom.rf (fun x57 s58 H locs hφ hEs58 hT => ?_)
                    have kthis_17 : zI s58 this 17 = b2 := ((hTo.k t_this (by decide)).eI hEs58 (by decide) rfl).trans kthis_17
                    have kthis_18 : zI s58 this 18 = ns := ((hTo.k t_this (by decide)).eI hEs58 (by decide) rfl).trans kthis_18
                    have Y59 : b2.toInt = 1 ∨ PL ns.toInt.toNat (zI s58 rQ) := by first | (rw [show zI s58 rQ = zI s46 rQ from funext fun k => (hTo.k trQ (by decide)).eI hEs58 (by decide) rfl]; exact Y47) | rw [show zI s58 rQ = zI s46 rQ from funext fun k => (hTo.k trQ (by decide)).eI hEs58 (by decide) rfl]
                    obtain ⟨f60, f61, f62⟩ := hφ
                    obtain ⟨v63, ev63⟩ : ∃ zz9 : Int32, zI s58 this 14 = zz9 := ⟨_, rfl⟩
                    have qv63 : v63.toInt = (zI s58 this 14).toInt := by rw [ev63]
                    refine lv_istore_n (lv' := [(2, .int x57), (0, .ref this)]) hx hb dX6_reads_65 rfl hl (by decide) rfl (fun ls hl => ?_)
                    refine lv_aload_n hx hb dX6_reads_66 rfl (lv_at hl 1 rfl) ?_
                    refine lv_iconst (v := 1) hx hb dX6_reads_67 (by decide) ?_
                    refine lv_aload_n hx hb dX6_reads_68 rfl (lv_at hl 1 rfl) ?_
                    refine va_get (D := κ.1) (ci := 6) (v := .int (zI s58 this 14)) (C := RX6) (T := TX6) (N := 27) hx hb hg inX6 hown hK (hT.o20 (hT.k t_this (by decide))).one 0 rfl rfl 14 (by decide) (hg _ k1233) (fun _ h9 => h9) rfl dX6_reads_69 ?_
                    rw [ev63]
                    have qq64 : (zI s58 this 17).toInt = b2.toInt := by rw [kthis_17]
                    have hTo := hT
                    refine tVv (n := 2) (As := [.int 1, .int v63]) (rest := []) hx hb hml hown hg hT hK hX (X6_wrong l κ s58 this 1 v63  (hT.k t_this (by decide)) ) sub_gB_gS3 (mwV k1361 k1363 k45 k92 k1364) ⟨rfl, by decide, by decide, by decide +kernel⟩ ⟨(Nat.le_of_ble_eq_true rfl), (Nat.le_of_ble_eq_true rfl)⟩ (hT.o20 (hT.k t_this (by decide))) rfl rfl hl.1 rfl (Nat.le_of_ble_eq_true rfl) dX6_reads_72 zroom.rf (fun s66 H locs hφ hEs66 hT => ?_)
                    have kthis_18 : zI s66 this 18 = ns := ((hTo.k t_this (by decide)).eI hEs66 (by decide) rfl).trans kthis_18
                    have ev63 : zI s66 this 14 = v63 := ((hTo.k t_this (by decide)).eI hEs66 (by decide) rfl).trans ev63
                    have Y67 : b2.toInt = 1 ∨ PL ns.toInt.toNat (zI s66 rQ) := by first | (rw [show zI s66 rQ = zI s58 rQ from funext fun k => (hTo.k trQ (by decide)).eI hEs66 (by decide) rfl]; exact Y59) | rw [show zI s66 rQ = zI s58 rQ from funext fun k => (hTo.k trQ (by decide)).eI hEs66 (by decide) rfl]
                    have f68 := hφ
                    obtain ⟨v69, ev69⟩ : ∃ zz9 : Int32, zI s66 this 17 = zz9 := ⟨_, rfl⟩
                    have qv69 : v69.toInt = (zI s66 this 17).toInt := by rw [ev69]
                    have b70 : isB v69 := by have q9 : isB (zI s66 this 17) := hT.P (hT.k t_this (by decide)) (by decide); rw [ev69] at q9; exact q9
                    have b70t := isB_t b70
                    have zz71 : (zI s66 this 17).toInt = v69.toInt := by rw [ev69]
                    have zz72 : (zI s66 this 18).toInt = ns.toInt := by rw [kthis_18]
                    subst hQ9
                    exact t_v hx hb hr hlocks hT ⟨by omega, (Classical.em ((zI s66 this 17).toInt = 1)).elim Or.inl (fun q8 => Or.inr (by rw [erQ, (show zI s66 this 18 = ns from kthis_18)]; exact Y67.resolve_left (by omega)))⟩ dX6_reads_75
            · have c9 := gi_ne c9
              refine lv_aload_n hx hb dX6_reads_31 rfl (lv_at hl 0 rfl) ?_
              have qq73 : (zI s14 this 13).toInt = v1.toInt := by rw [(hT.eI t_this (by decide) rfl ev1)]
              have qq74 : (zI s14 this 14).toInt = v20.toInt := by rw [ev20]
              have qq75 : (zI s14 this 17).toInt = b2.toInt := by rw [kthis_17]
              have qq76 : (zI s14 this 18).toInt = ns.toInt := by rw [kthis_18]
              have hTo := hT
              refine tVv (n := 0) (As := []) (rest := []) hx hb hml hown hg hT hK hX (X6_sampleTold l κ s14 this  (hT.k t_this (by decide)) (by omega) (by omega) (by omega) (by omega) (by omega) (by omega) (by omega) (by rw [erQ, (show zI s14 this 18 = ns from kthis_18)]; exact Y15.resolve_left (by omega))) sub_gS2_gS3 (mwV k1395 k1397 k50 k92 k1398) ⟨rfl, by decide, by decide, by decide +kernel⟩ ⟨(Nat.le_of_ble_eq_true rfl), (Nat.le_of_ble_eq_true rfl)⟩ (hT.o20 (hT.k t_this (by decide))) rfl rfl hl.1 rfl (Nat.le_of_ble_eq_true rfl) dX6_reads_32 zroom.rf (fun s78 H locs hφ hEs78 hT => ?_)
              obtain ⟨f79, f80, f81, f82, f83, f84, f85⟩ := hφ
              obtain ⟨v86, ev86⟩ : ∃ zz9 : Int32, zI s78 this 14 = zz9 := ⟨_, rfl⟩
              have qv86 : v86.toInt = (zI s78 this 14).toInt := by rw [ev86]
              obtain ⟨v87, ev87⟩ : ∃ zz9 : Int32, zI s78 this 17 = zz9 := ⟨_, rfl⟩
              have qv87 : v87.toInt = (zI s78 this 17).toInt := by rw [ev87]
              have b88 : isB v87 := by have q9 : isB (zI s78 this 17) := hT.P (hT.k t_this (by decide)) (by decide); rw [ev87] at q9; exact q9
              have b88t := isB_t b88
              obtain ⟨v89, ev89⟩ : ∃ zz9 : Int32, zI s78 this 18 = zz9 := ⟨_, rfl⟩
              have qv89 : v89.toInt = (zI s78 this 18).toInt := by rw [ev89]
              refine lv_goto (tgt := 21) hx hb dX6_reads_35 (by decide) ?_
              exact ih21 v86 v87 v89 _ _ _ _ hT ev86 ev87 ev89 (by omega) (by omega) (by omega) (by omega) (by omega) (by have z9 := f85; rw [erQ, (show zI s78 this 18 = v89 from ev89), (show zI s78 this 17 = v87 from ev87)] at z9; exact z9) hl (by omega)
        exact loop21 ((2 * (702 - u.toInt) + 1 - bb.toInt).toNat + 1) u bb v5 _ _ _ _ hT kthis_14 kthis_17 kthis_18 (by omega) (by omega) (by omega) (by omega) (by omega) (Or.inr (by rw [show v5.toInt.toNat = 0 from by omega]; exact fun k hk => absurd hk (by omega))) (lv_sub hl [1] rfl) (by omega)
      · have c10 := gi_eq c9
        refine lv_iload_n hx hb dX6_reads_9 rfl (lv_at hl 0 rfl) ?_
        refine lv_if_eq (tgt := 21) hx hb dX6_reads_10 (by decide) (fun c9 => ?_) (fun c9 => ?_)
        · have c11 := gi_eq c9
          have loop21 : ∀ (n9 : Nat)  (u2 : Int32) (b2 : Int32) (ns : Int32) (H : Heap) (locs : List Loc) (sg : Gh) (ls : Array Slot), TS κ gS3 σ0 sg s H locs → (zI sg this 14 = u2) → (zI sg this 17 = b2) → (zI sg this 18 = ns) → (0 ≤ u2.toInt) → (u2.toInt ≤ 702) → (b2.toInt = 1 ∨ u2.toInt ≤ (zI σ0 this 13).toInt) → (0 ≤ ns.toInt) → (ns.toInt ≤ 48) → (b2.toInt = 1 ∨ PL ns.toInt.toNat (zI sg rQ)) → lv_has ls 3 [(0, .ref this)] → (2 * (702 - u2.toInt) + 1 - b2.toInt) < n9 → tW p l e 7 163 κ s m #[.ref this] below meth c H locs Q9 (F0 m 21 ls []) := by
            intro n9
            induction n9 with
            | zero =>
              intro u2 b2 ns H locs sg ls hT kthis_14 kthis_17 kthis_18 p1 p2 p3 p4 p6 p5 hl hm9
              exfalso
              (have z9 := isB_t (show isB b2 from by have y9 : isB (zI sg this 17) := hT.P (hT.k t_this (by decide)) (by decide); rw [kthis_17] at y9; exact y9); omega)
            | succ n9 ih9 =>
              have ih21 := ih9
              clear ih9
              intro u2 b2 ns H locs s90 ls hT kthis_14 kthis_17 kthis_18 p1 p2 p3 p4 p6 p5 hl hm9
              have b91 : isB (zI s90 this 17) := hT.P (hT.k t_this (by decide)) (by decide)
              rw [kthis_17] at b91
              have b91t := isB_t b91
              refine lv_aload_n hx hb dX6_reads_21 rfl (lv_at hl 0 rfl) ?_
              refine lv_ldc2 hx hb hown (hg _ k1394) dX6_reads_22 ?_
              have qq92 : (zI s90 this 13).toInt = v1.toInt := by rw [(hT.eI t_this (by decide) rfl ev1)]
              have qq93 : (zI s90 this 14).toInt = u2.toInt := by rw [kthis_14]
              have qq94 : (zI s90 this 17).toInt = b2.toInt := by rw [kthis_17]
              have hTo := hT
              refine tVi (n := 1) (As := [.long 47]) (rest := []) hx hb hml hown hg hT hK hX (X6_isWord l κ s90 this 47  (hT.k t_this (by decide)) (by omega) (by omega) (by omega) (by omega)) sub_gH_gS3 (mwV k1337 k1339 k40 k92 k1340) ⟨rfl, by decide, by decide, by decide +kernel⟩ ⟨(Nat.le_of_ble_eq_true rfl), (Nat.le_of_ble_eq_true rfl)⟩ (hT.o20 (hT.k t_this (by decide))) rfl rfl hl.1 rfl (Nat.le_of_ble_eq_true rfl) dX6_reads_25 zroom.rf (fun x95 s96 H locs hφ hEs96 hT => ?_)
              have kthis_17 : zI s96 this 17 = b2 := ((hTo.k t_this (by decide)).eI hEs96 (by decide) rfl).trans kthis_17
              have kthis_18 : zI s96 this 18 = ns := ((hTo.k t_this (by decide)).eI hEs96 (by decide) rfl).trans kthis_18
              have Y97 : b2.toInt = 1 ∨ PL ns.toInt.toNat (zI s96 rQ) := by first | (rw [show zI s96 rQ = zI s90 rQ from funext fun k => (hTo.k trQ (by decide)).eI hEs96 (by decide) rfl]; exact p5) | rw [show zI s96 rQ = zI s90 rQ from funext fun k => (hTo.k trQ (by decide)).eI hEs96 (by decide) rfl]
              obtain ⟨f98, f99, f100, f101⟩ := hφ
              obtain ⟨v102, ev102⟩ : ∃ zz9 : Int32, zI s96 this 14 = zz9 := ⟨_, rfl⟩
              have qv102 : v102.toInt = (zI s96 this 14).toInt := by rw [ev102]
              refine lv_if_eq (tgt := 38) hx hb dX6_reads_28 (by decide) (fun c9 => ?_) (fun c9 => ?_)
              · have c12 := gi_eq c9
                refine lv_aload_n hx hb dX6_reads_38 rfl (lv_at hl 0 rfl) ?_
                refine va_get (D := κ.1) (ci := 6) (v := .int (zI s96 this 17)) (C := RX6) (T := TX6) (N := 27) hx hb hg inX6 hown hK (hT.o20 (hT.k t_this (by decide))).one 0 rfl rfl 17 (by decide) (hg _ k1236) (fun _ h9 => h9) rfl dX6_reads_39 ?_
                rw [kthis_17]
                refine lv_if_ne (tgt := 75) hx hb dX6_reads_42 (by decide) (fun c9 => ?_) (fun c9 => ?_)
                · have c13 := gi_ne c9
                  have zz103 : (zI s96 this 17).toInt = b2.toInt := by rw [kthis_17]
                  have zz104 : (zI s96 this 18).toInt = ns.toInt := by rw [kthis_18]
                  subst hQ9
                  exact t_v hx hb hr hlocks hT ⟨by omega, (Classical.em ((zI s96 this 17).toInt = 1)).elim Or.inl (fun q8 => Or.inr (by rw [erQ, (show zI s96 this 18 = ns from kthis_18)]; exact Y97.resolve_left (by omega)))⟩ dX6_reads_75
                · have c14 := gi_eq c9
                  refine lv_aload_n hx hb dX6_reads_45 rfl (lv_at hl 0 rfl) ?_
                  refine va_get (D := κ.1) (ci := 6) (v := .int (zI s96 this 18)) (C := RX6) (T := TX6) (N := 27) hx hb hg inX6 hown hK (hT.o20 (hT.k t_this (by decide))).one 0 rfl rfl 18 (by decide) (hg _ k1237) (fun _ h9 => h9) rfl dX6_reads_46 ?_
                  rw [kthis_18]
                  refine lv_iconst (v := 2) hx hb dX6_reads_49 (by decide) ?_
                  refine lv_icmp_lt (tgt := 61) hx hb dX6_reads_50 (by decide) (fun c9 => ?_) (fun c9 => ?_)
                  · have c15 := gi_lt c9
                    refine lv_aload_n hx hb dX6_reads_61 rfl (lv_at hl 0 rfl) ?_
                    have qq105 : (zI s96 this 13).toInt = v1.toInt := by rw [(hT.eI t_this (by decide) rfl ev1)]
                    have qq106 : (zI s96 this 14).toInt = v102.toInt := by rw [ev102]
                    have qq107 : (zI s96 this 17).toInt = b2.toInt := by rw [kthis_17]
                    have hTo := hT
                    refine tVi (n := 0) (As := []) (rest := []) hx hb hml hown hg hT hK hX (X6_here l κ s96 this  (hT.k t_this (by decide)) (by omega) (by omega) (by omega) (by omega)) sub_gH_gS3 (mwV k1345 k1347 k42 k92 k1348) ⟨rfl, by decide, by decide, by decide +kernel⟩ ⟨(Nat.le_of_ble_eq_true rfl), (Nat.le_of_ble_eq_true rfl)⟩ (hT.o20 (hT.k t_this (by decide))) rfl rfl hl.1 rfl (Nat.le_of_ble_eq_true rfl) dX6_reads_62 zroom.rf (fun x108 s109 H locs hφ hEs109 hT => ?_)
                    have kthis_17 : zI s109 this 17 = b2 := ((hTo.k t_this (by decide)).eI hEs109 (by decide) rfl).trans kthis_17
                    have kthis_18 : zI s109 this 18 = ns := ((hTo.k t_this (by decide)).eI hEs109 (by decide) rfl).trans kthis_18
                    have Y110 : b2.toInt = 1 ∨ PL ns.toInt.toNat (zI s109 rQ) := by first | (rw [show zI s109 rQ = zI s96 rQ from funext fun k => (hTo.k trQ (by decide)).eI hEs109 (by decide) rfl]; exact Y97) | rw [show zI s109 rQ = zI s96 rQ from funext fun k => (hTo.k trQ (by decide)).eI hEs109 (by decide) rfl]
                    obtain ⟨f111, f112, f113⟩ := hφ
                    obtain ⟨v114, ev114⟩ : ∃ zz9 : Int32, zI s109 this 14 = zz9 := ⟨_, rfl⟩
                    have qv114 : v114.toInt = (zI s109 this 14).toInt := by rw [ev114]
                    refine lv_istore_n (lv' := [(2, .int x108), (0, .ref this)]) hx hb dX6_reads_65 rfl hl (by decide) rfl (fun ls hl => ?_)
                    refine lv_aload_n hx hb dX6_reads_66 rfl (lv_at hl 1 rfl) ?_
                    refine lv_iconst (v := 1) hx hb dX6_reads_67 (by decide) ?_
                    refine lv_aload_n hx hb dX6_reads_68 rfl (lv_at hl 1 rfl) ?_
                    refine va_get (D := κ.1) (ci := 6) (v := .int (zI s109 this 14)) (C := RX6) (T := TX6) (N := 27) hx hb hg inX6 hown hK (hT.o20 (hT.k t_this (by decide))).one 0 rfl rfl 14 (by decide) (hg _ k1233) (fun _ h9 => h9) rfl dX6_reads_69 ?_
                    rw [ev114]
                    have qq115 : (zI s109 this 17).toInt = b2.toInt := by rw [kthis_17]
                    have hTo := hT
                    refine tVv (n := 2) (As := [.int 1, .int v114]) (rest := []) hx hb hml hown hg hT hK hX (X6_wrong l κ s109 this 1 v114  (hT.k t_this (by decide)) ) sub_gB_gS3 (mwV k1361 k1363 k45 k92 k1364) ⟨rfl, by decide, by decide, by decide +kernel⟩ ⟨(Nat.le_of_ble_eq_true rfl), (Nat.le_of_ble_eq_true rfl)⟩ (hT.o20 (hT.k t_this (by decide))) rfl rfl hl.1 rfl (Nat.le_of_ble_eq_true rfl) dX6_reads_72 zroom.rf (fun s117 H locs hφ hEs117 hT => ?_)
                    have kthis_18 : zI s117 this 18 = ns := ((hTo.k t_this (by decide)).eI hEs117 (by decide) rfl).trans kthis_18
                    have ev114 : zI s117 this 14 = v114 := ((hTo.k t_this (by decide)).eI hEs117 (by decide) rfl).trans ev114
                    have Y118 : b2.toInt = 1 ∨ PL ns.toInt.toNat (zI s117 rQ) := by first | (rw [show zI s117 rQ = zI s109 rQ from funext fun k => (hTo.k trQ (by decide)).eI hEs117 (by decide) rfl]; exact Y110) | rw [show zI s117 rQ = zI s109 rQ from funext fun k => (hTo.k trQ (by decide)).eI hEs117 (by decide) rfl]
                    have f119 := hφ
                    obtain ⟨v120, ev120⟩ : ∃ zz9 : Int32, zI s117 this 17 = zz9 := ⟨_, rfl⟩
                    have qv120 : v120.toInt = (zI s117 this 17).toInt := by rw [ev120]
                    have b121 : isB v120 := by have q9 : isB (zI s117 this 17) := hT.P (hT.k t_this (by decide)) (by decide); rw [ev120] at q9; exact q9
                    have b121t := isB_t b121
                    have zz122 : (zI s117 this 17).toInt = v120.toInt := by rw [ev120]
                    have zz123 : (zI s117 this 18).toInt = ns.toInt := by rw [kthis_18]
                    subst hQ9
                    exact t_v hx hb hr hlocks hT ⟨by omega, (Classical.em ((zI s117 this 17).toInt = 1)).elim Or.inl (fun q8 => Or.inr (by rw [erQ, (show zI s117 this 18 = ns from kthis_18)]; exact Y118.resolve_left (by omega)))⟩ dX6_reads_75
                  · have c16 := gi_nlt c9
                    refine lv_aload_n hx hb dX6_reads_53 rfl (lv_at hl 0 rfl) ?_
                    have qq124 : (zI s96 this 13).toInt = v1.toInt := by rw [(hT.eI t_this (by decide) rfl ev1)]
                    have qq125 : (zI s96 this 14).toInt = v102.toInt := by rw [ev102]
                    have qq126 : (zI s96 this 17).toInt = b2.toInt := by rw [kthis_17]
                    have hTo := hT
                    refine tVi (n := 0) (As := []) (rest := []) hx hb hml hown hg hT hK hX (X6_here l κ s96 this  (hT.k t_this (by decide)) (by omega) (by omega) (by omega) (by omega)) sub_gH_gS3 (mwV k1345 k1347 k42 k92 k1348) ⟨rfl, by decide, by decide, by decide +kernel⟩ ⟨(Nat.le_of_ble_eq_true rfl), (Nat.le_of_ble_eq_true rfl)⟩ (hT.o20 (hT.k t_this (by decide))) rfl rfl hl.1 rfl (Nat.le_of_ble_eq_true rfl) dX6_reads_54 zroom.rf (fun x127 s128 H locs hφ hEs128 hT => ?_)
                    have kthis_17 : zI s128 this 17 = b2 := ((hTo.k t_this (by decide)).eI hEs128 (by decide) rfl).trans kthis_17
                    have kthis_18 : zI s128 this 18 = ns := ((hTo.k t_this (by decide)).eI hEs128 (by decide) rfl).trans kthis_18
                    have Y129 : b2.toInt = 1 ∨ PL ns.toInt.toNat (zI s128 rQ) := by first | (rw [show zI s128 rQ = zI s96 rQ from funext fun k => (hTo.k trQ (by decide)).eI hEs128 (by decide) rfl]; exact Y97) | rw [show zI s128 rQ = zI s96 rQ from funext fun k => (hTo.k trQ (by decide)).eI hEs128 (by decide) rfl]
                    obtain ⟨f130, f131, f132⟩ := hφ
                    obtain ⟨v133, ev133⟩ : ∃ zz9 : Int32, zI s128 this 14 = zz9 := ⟨_, rfl⟩
                    have qv133 : v133.toInt = (zI s128 this 14).toInt := by rw [ev133]
                    refine lv_iconst (v := (-1)) hx hb dX6_reads_57 (by decide) ?_
                    refine lv_icmp_eq (tgt := 75) hx hb dX6_reads_58 (by decide) (fun c9 => ?_) (fun c9 => ?_)
                    · have c17 := gi_eq c9
                      have zz134 : (zI s128 this 17).toInt = b2.toInt := by rw [kthis_17]
                      have zz135 : (zI s128 this 18).toInt = ns.toInt := by rw [kthis_18]
                      subst hQ9
                      exact t_v hx hb hr hlocks hT ⟨by omega, (Classical.em ((zI s128 this 17).toInt = 1)).elim Or.inl (fun q8 => Or.inr (by rw [erQ, (show zI s128 this 18 = ns from kthis_18)]; exact Y129.resolve_left (by omega)))⟩ dX6_reads_75
                    · have c18 := gi_ne c9
                      refine lv_aload_n hx hb dX6_reads_61 rfl (lv_at hl 0 rfl) ?_
                      have qq136 : (zI s128 this 13).toInt = v1.toInt := by rw [(hT.eI t_this (by decide) rfl ev1)]
                      have qq137 : (zI s128 this 14).toInt = v133.toInt := by rw [ev133]
                      have qq138 : (zI s128 this 17).toInt = b2.toInt := by rw [kthis_17]
                      have hTo := hT
                      refine tVi (n := 0) (As := []) (rest := []) hx hb hml hown hg hT hK hX (X6_here l κ s128 this  (hT.k t_this (by decide)) (by omega) (by omega) (by omega) (by omega)) sub_gH_gS3 (mwV k1345 k1347 k42 k92 k1348) ⟨rfl, by decide, by decide, by decide +kernel⟩ ⟨(Nat.le_of_ble_eq_true rfl), (Nat.le_of_ble_eq_true rfl)⟩ (hT.o20 (hT.k t_this (by decide))) rfl rfl hl.1 rfl (Nat.le_of_ble_eq_true rfl) dX6_reads_62 zroom.rf (fun x139 s140 H locs hφ hEs140 hT => ?_)
                      have kthis_17 : zI s140 this 17 = b2 := ((hTo.k t_this (by decide)).eI hEs140 (by decide) rfl).trans kthis_17
                      have kthis_18 : zI s140 this 18 = ns := ((hTo.k t_this (by decide)).eI hEs140 (by decide) rfl).trans kthis_18
                      have Y141 : b2.toInt = 1 ∨ PL ns.toInt.toNat (zI s140 rQ) := by first | (rw [show zI s140 rQ = zI s128 rQ from funext fun k => (hTo.k trQ (by decide)).eI hEs140 (by decide) rfl]; exact Y129) | rw [show zI s140 rQ = zI s128 rQ from funext fun k => (hTo.k trQ (by decide)).eI hEs140 (by decide) rfl]
                      obtain ⟨f142, f143, f144⟩ := hφ
                      obtain ⟨v145, ev145⟩ : ∃ zz9 : Int32, zI s140 this 14 = zz9 := ⟨_, rfl⟩
                      have qv145 : v145.toInt = (zI s140 this 14).toInt := by rw [ev145]
                      refine lv_istore_n (lv' := [(2, .int x139), (0, .ref this)]) hx hb dX6_reads_65 rfl hl (by decide) rfl (fun ls hl => ?_)
                      refine lv_aload_n hx hb dX6_reads_66 rfl (lv_at hl 1 rfl) ?_
                      refine lv_iconst (v := 1) hx hb dX6_reads_67 (by decide) ?_
                      refine lv_aload_n hx hb dX6_reads_68 rfl (lv_at hl 1 rfl) ?_
                      refine va_get (D := κ.1) (ci := 6) (v := .int (zI s140 this 14)) (C := RX6) (T := TX6) (N := 27) hx hb hg inX6 hown hK (hT.o20 (hT.k t_this (by decide))).one 0 rfl rfl 14 (by decide) (hg _ k1233) (fun _ h9 => h9) rfl dX6_reads_69 ?_
                      rw [ev145]
                      have qq146 : (zI s140 this 17).toInt = b2.toInt := by rw [kthis_17]
                      have hTo := hT
                      refine tVv (n := 2) (As := [.int 1, .int v145]) (rest := []) hx hb hml hown hg hT hK hX (X6_wrong l κ s140 this 1 v145  (hT.k t_this (by decide)) ) sub_gB_gS3 (mwV k1361 k1363 k45 k92 k1364) ⟨rfl, by decide, by decide, by decide +kernel⟩ ⟨(Nat.le_of_ble_eq_true rfl), (Nat.le_of_ble_eq_true rfl)⟩ (hT.o20 (hT.k t_this (by decide))) rfl rfl hl.1 rfl (Nat.le_of_ble_eq_true rfl) dX6_reads_72 zroom.rf (fun s148 H locs hφ hEs148 hT => ?_)
                      have kthis_18 : zI s148 this 18 = ns := ((hTo.k t_this (by decide)).eI hEs148 (by decide) rfl).trans kthis_18
                      have ev145 : zI s148 this 14 = v145 := ((hTo.k t_this (by decide)).eI hEs148 (by decide) rfl).trans ev145
                      have Y149 : b2.toInt = 1 ∨ PL ns.toInt.toNat (zI s148 rQ) := by first | (rw [show zI s148 rQ = zI s140 rQ from funext fun k => (hTo.k trQ (by decide)).eI hEs148 (by decide) rfl]; exact Y141) | rw [show zI s148 rQ = zI s140 rQ from funext fun k => (hTo.k trQ (by decide)).eI hEs148 (by decide) rfl]
                      have f150 := hφ
                      obtain ⟨v151, ev151⟩ : ∃ zz9 : Int32, zI s148 this 17 = zz9 := ⟨_, rfl⟩
                      have qv151 : v151.toInt = (zI s148 this 17).toInt := by rw [ev151]
                      have b152 : isB v151 := by have q9 : isB (zI s148 this 17) := hT.P (hT.k t_this (by decide)) (by decide); rw [ev151] at q9; exact q9
                      have b152t := isB_t b152
                      have zz153 : (zI s148 this 17).toInt = v151.toInt := by rw [ev151]
                      have zz154 : (zI s148 this 18).toInt = ns.toInt := by rw [kthis_18]
                      subst hQ9
                      exact t_v hx hb hr hlocks hT ⟨by omega, (Classical.em ((zI s148 this 17).toInt = 1)).elim Or.inl (fun q8 => Or.inr (by rw [erQ, (show zI s148 this 18 = ns from kthis_18)]; exact Y149.resolve_left (by omega)))⟩ dX6_reads_75
              · have c19 := gi_ne c9
                refine lv_aload_n hx hb dX6_reads_31 rfl (lv_at hl 0 rfl) ?_
                have qq155 : (zI s96 this 13).toInt = v1.toInt := by rw [(hT.eI t_this (by decide) rfl ev1)]
                have qq156 : (zI s96 this 14).toInt = v102.toInt := by rw [ev102]
                have qq157 : (zI s96 this 17).toInt = b2.toInt := by rw [kthis_17]
                have qq158 : (zI s96 this 18).toInt = ns.toInt := by rw [kthis_18]
                have hTo := hT
                refine tVv (n := 0) (As := []) (rest := []) hx hb hml hown hg hT hK hX (X6_sampleTold l κ s96 this  (hT.k t_this (by decide)) (by omega) (by omega) (by omega) (by omega) (by omega) (by omega) (by omega) (by rw [erQ, (show zI s96 this 18 = ns from kthis_18)]; exact Y97.resolve_left (by omega))) sub_gS2_gS3 (mwV k1395 k1397 k50 k92 k1398) ⟨rfl, by decide, by decide, by decide +kernel⟩ ⟨(Nat.le_of_ble_eq_true rfl), (Nat.le_of_ble_eq_true rfl)⟩ (hT.o20 (hT.k t_this (by decide))) rfl rfl hl.1 rfl (Nat.le_of_ble_eq_true rfl) dX6_reads_32 zroom.rf (fun s160 H locs hφ hEs160 hT => ?_)
                obtain ⟨f161, f162, f163, f164, f165, f166, f167⟩ := hφ
                obtain ⟨v168, ev168⟩ : ∃ zz9 : Int32, zI s160 this 14 = zz9 := ⟨_, rfl⟩
                have qv168 : v168.toInt = (zI s160 this 14).toInt := by rw [ev168]
                obtain ⟨v169, ev169⟩ : ∃ zz9 : Int32, zI s160 this 17 = zz9 := ⟨_, rfl⟩
                have qv169 : v169.toInt = (zI s160 this 17).toInt := by rw [ev169]
                have b170 : isB v169 := by have q9 : isB (zI s160 this 17) := hT.P (hT.k t_this (by decide)) (by decide); rw [ev169] at q9; exact q9
                have b170t := isB_t b170
                obtain ⟨v171, ev171⟩ : ∃ zz9 : Int32, zI s160 this 18 = zz9 := ⟨_, rfl⟩
                have qv171 : v171.toInt = (zI s160 this 18).toInt := by rw [ev171]
                refine lv_goto (tgt := 21) hx hb dX6_reads_35 (by decide) ?_
                exact ih21 v168 v169 v171 _ _ _ _ hT ev168 ev169 ev171 (by omega) (by omega) (by omega) (by omega) (by omega) (by have z9 := f167; rw [erQ, (show zI s160 this 18 = v171 from ev171), (show zI s160 this 17 = v169 from ev169)] at z9; exact z9) hl (by omega)
          exact loop21 ((2 * (702 - u.toInt) + 1 - bb.toInt).toNat + 1) u bb v5 _ _ _ _ hT kthis_14 kthis_17 kthis_18 (by omega) (by omega) (by omega) (by omega) (by omega) (Or.inr (by rw [show v5.toInt.toNat = 0 from by omega]; exact fun k hk => absurd hk (by omega))) (lv_sub hl [1] rfl) (by omega)
        · have c20 := gi_ne c9
          refine lv_aload_n hx hb dX6_reads_13 rfl (lv_at hl 1 rfl) ?_
          have qq172 : (zI s6 this 13).toInt = v1.toInt := by rw [(hT.eI t_this (by decide) rfl ev1)]
          have qq173 : (zI s6 this 14).toInt = u.toInt := by rw [kthis_14]
          have qq174 : (zI s6 this 17).toInt = bb.toInt := by rw [kthis_17]
          have hTo := hT
          refine tVi (n := 0) (As := []) (rest := []) hx hb hml hown hg hT hK hX (X6_setting l κ s6 this  (hT.k t_this (by decide)) (by omega) (by omega) (by omega) (by omega) (by omega)) sub_gS1_gS3 (mwV k1332 k1334 k39 k92 k1335) ⟨rfl, by decide, by decide, by decide +kernel⟩ ⟨(Nat.le_of_ble_eq_true rfl), (Nat.le_of_ble_eq_true rfl)⟩ (hT.o20 (hT.k t_this (by decide))) rfl rfl hl.1 rfl (Nat.le_of_ble_eq_true rfl) dX6_reads_14 zroom.rf (fun x175 s176 H locs hφ hEs176 hT => ?_)
          have kthis_18 : zI s176 this 18 = v5 := ((hTo.k t_this (by decide)).eI hEs176 (by decide) rfl).trans kthis_18
          obtain ⟨f177, f178, f179, f180, f181⟩ := hφ
          have hb182 := isB_t f181
          obtain ⟨v183, ev183⟩ : ∃ zz9 : Int32, zI s176 this 14 = zz9 := ⟨_, rfl⟩
          have qv183 : v183.toInt = (zI s176 this 14).toInt := by rw [ev183]
          obtain ⟨v184, ev184⟩ : ∃ zz9 : Int32, zI s176 this 17 = zz9 := ⟨_, rfl⟩
          have qv184 : v184.toInt = (zI s176 this 17).toInt := by rw [ev184]
          have b185 : isB v184 := by have q9 : isB (zI s176 this 17) := hT.P (hT.k t_this (by decide)) (by decide); rw [ev184] at q9; exact q9
          have b185t := isB_t b185
          refine lv_istore_n (lv' := [(1, .int x175), (0, .ref this)]) hx hb dX6_reads_17 rfl hl (by decide) rfl (fun ls hl => ?_)
          refine lv_goto (tgt := 2) hx hb dX6_reads_18 (by decide) ?_
          exact ih2 x175 v183 v184 _ _ _ _ hT kthis_18 ev183 ev184 (by omega) (by omega) (by omega) f181 hl (by omega)
  exact loop2 ((2 * (702 - v2.toInt) + (1 : Int32).toInt).toNat + 1) 1 v2 v3 _ _ _ _ hT ev5 ev2 ev3 (by omega) (by omega) (by omega) isB1 hl (by omega)
