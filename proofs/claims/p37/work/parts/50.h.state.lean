/-! The constructor of a State -/
theorem k199 : Cond.methodLink RX1 3 objectInit ∈ GW := gm 199 (by decide +kernel) (by decide +kernel)
theorem k200 : Cond.classLink RX1 9 RX4 ∈ GW := gm 200 (by decide +kernel) (by decide +kernel)
theorem k202 : Cond.classLink RX1 25 RX2 ∈ GW := gm 202 (by decide +kernel) (by decide +kernel)
theorem k219 : Cond.arrayClass .long ∈ GW := gm 219 (by decide +kernel) (by decide +kernel)
theorem k220 : Cond.instantiable RX2 10 ∈ GW := gm 220 (by decide +kernel) (by decide +kernel)
theorem k222 : Cond.instanceMethod yX2_init ∈ GW := gm 222 (by decide +kernel) (by decide +kernel)
theorem k223 : Cond.code yX2_init cX2_init 1 none ∈ GW := gm 223 (by decide +kernel) (by decide +kernel)
theorem dX1_init_0 : decode cX1_init 0 = .ok (.aload_n 0, 1) := by decide +kernel
theorem dX1_init_1 : decode cX1_init 1 = .ok (.invokespecial 3, 3) := by decide +kernel
theorem dX1_init_4 : decode cX1_init 4 = .ok (.aload_n 0, 1) := by decide +kernel
theorem dX1_init_5 : decode cX1_init 5 = .ok (.bipush 48, 2) := by decide +kernel
theorem dX1_init_7 : decode cX1_init 7 = .ok (.anewarray 9, 3) := by decide +kernel
theorem dX1_init_10 : decode cX1_init 10 = .ok (.putfield 11, 3) := by decide +kernel
theorem dX1_init_13 : decode cX1_init 13 = .ok (.aload_n 0, 1) := by decide +kernel
theorem dX1_init_14 : decode cX1_init 14 = .ok (.bipush 48, 2) := by decide +kernel
theorem dX1_init_16 : decode cX1_init 16 = .ok (.newarray .long, 2) := by decide +kernel
theorem dX1_init_18 : decode cX1_init 18 = .ok (.putfield 17, 3) := by decide +kernel
theorem dX1_init_21 : decode cX1_init 21 = .ok (.aload_n 0, 1) := by decide +kernel
theorem dX1_init_22 : decode cX1_init 22 = .ok (.bipush 48, 2) := by decide +kernel
theorem dX1_init_24 : decode cX1_init 24 = .ok (.newarray .int, 2) := by decide +kernel
theorem dX1_init_26 : decode cX1_init 26 = .ok (.putfield 21, 3) := by decide +kernel
theorem dX1_init_29 : decode cX1_init 29 = .ok (.aload_n 0, 1) := by decide +kernel
theorem dX1_init_30 : decode cX1_init 30 = .ok (.bipush 46, 2) := by decide +kernel
theorem dX1_init_32 : decode cX1_init 32 = .ok (.anewarray 25, 3) := by decide +kernel
theorem dX1_init_35 : decode cX1_init 35 = .ok (.putfield 27, 3) := by decide +kernel
theorem dX1_init_38 : decode cX1_init 38 = .ok (.aload_n 0, 1) := by decide +kernel
theorem dX1_init_39 : decode cX1_init 39 = .ok (.iconst 0, 1) := by decide +kernel
theorem dX1_init_40 : decode cX1_init 40 = .ok (.putfield 31, 3) := by decide +kernel
theorem dX1_init_43 : decode cX1_init 43 = .ok (.aload_n 0, 1) := by decide +kernel
theorem dX1_init_44 : decode cX1_init 44 = .ok (.new 9, 3) := by decide +kernel
theorem dX1_init_47 : decode cX1_init 47 = .ok (.dup, 1) := by decide +kernel
theorem dX1_init_48 : decode cX1_init 48 = .ok (.invokespecial 35, 3) := by decide +kernel
theorem dX1_init_51 : decode cX1_init 51 = .ok (.putfield 36, 3) := by decide +kernel
theorem dX1_init_54 : decode cX1_init 54 = .ok (.aload_n 0, 1) := by decide +kernel
theorem dX1_init_55 : decode cX1_init 55 = .ok (.new 9, 3) := by decide +kernel
theorem dX1_init_58 : decode cX1_init 58 = .ok (.dup, 1) := by decide +kernel
theorem dX1_init_59 : decode cX1_init 59 = .ok (.invokespecial 35, 3) := by decide +kernel
theorem dX1_init_62 : decode cX1_init 62 = .ok (.putfield 40, 3) := by decide +kernel
theorem dX1_init_65 : decode cX1_init 65 = .ok (.aload_n 0, 1) := by decide +kernel
theorem dX1_init_66 : decode cX1_init 66 = .ok (.new 9, 3) := by decide +kernel
theorem dX1_init_69 : decode cX1_init 69 = .ok (.dup, 1) := by decide +kernel
theorem dX1_init_70 : decode cX1_init 70 = .ok (.invokespecial 35, 3) := by decide +kernel
theorem dX1_init_73 : decode cX1_init 73 = .ok (.putfield 43, 3) := by decide +kernel
theorem dX1_init_76 : decode cX1_init 76 = .ok (.aload_n 0, 1) := by decide +kernel
theorem dX1_init_77 : decode cX1_init 77 = .ok (.new 9, 3) := by decide +kernel
theorem dX1_init_80 : decode cX1_init 80 = .ok (.dup, 1) := by decide +kernel
theorem dX1_init_81 : decode cX1_init 81 = .ok (.invokespecial 35, 3) := by decide +kernel
theorem dX1_init_84 : decode cX1_init 84 = .ok (.putfield 46, 3) := by decide +kernel
theorem dX1_init_87 : decode cX1_init 87 = .ok (.aload_n 0, 1) := by decide +kernel
theorem dX1_init_88 : decode cX1_init 88 = .ok (.aload_n 1, 1) := by decide +kernel
theorem dX1_init_89 : decode cX1_init 89 = .ok (.putfield 49, 3) := by decide +kernel
theorem dX1_init_92 : decode cX1_init 92 = .ok (.iconst 0, 1) := by decide +kernel
theorem dX1_init_93 : decode cX1_init 93 = .ok (.istore_n 2, 1) := by decide +kernel
theorem dX1_init_94 : decode cX1_init 94 = .ok (.iload_n 2, 1) := by decide +kernel
theorem dX1_init_95 : decode cX1_init 95 = .ok (.bipush 46, 2) := by decide +kernel
theorem dX1_init_97 : decode cX1_init 97 = .ok (.if_icmp .ge 22, 3) := by decide +kernel
theorem dX1_init_100 : decode cX1_init 100 = .ok (.aload_n 0, 1) := by decide +kernel
theorem dX1_init_101 : decode cX1_init 101 = .ok (.getfield 27, 3) := by decide +kernel
theorem dX1_init_104 : decode cX1_init 104 = .ok (.iload_n 2, 1) := by decide +kernel
theorem dX1_init_105 : decode cX1_init 105 = .ok (.new 25, 3) := by decide +kernel
theorem dX1_init_108 : decode cX1_init 108 = .ok (.dup, 1) := by decide +kernel
theorem dX1_init_109 : decode cX1_init 109 = .ok (.invokespecial 53, 3) := by decide +kernel
theorem dX1_init_112 : decode cX1_init 112 = .ok (.aastore, 1) := by decide +kernel
theorem dX1_init_113 : decode cX1_init 113 = .ok (.iinc 2 1, 3) := by decide +kernel
theorem dX1_init_116 : decode cX1_init 116 = .ok (.goto (-22), 3) := by decide +kernel
theorem dX1_init_119 : decode cX1_init 119 = .ok (.iconst 0, 1) := by decide +kernel
theorem dX1_init_120 : decode cX1_init 120 = .ok (.istore_n 2, 1) := by decide +kernel
theorem dX1_init_121 : decode cX1_init 121 = .ok (.iload_n 2, 1) := by decide +kernel
theorem dX1_init_122 : decode cX1_init 122 = .ok (.bipush 48, 2) := by decide +kernel
theorem dX1_init_124 : decode cX1_init 124 = .ok (.if_icmp .ge 22, 3) := by decide +kernel
theorem dX1_init_127 : decode cX1_init 127 = .ok (.aload_n 0, 1) := by decide +kernel
theorem dX1_init_128 : decode cX1_init 128 = .ok (.getfield 11, 3) := by decide +kernel
theorem dX1_init_131 : decode cX1_init 131 = .ok (.iload_n 2, 1) := by decide +kernel
theorem dX1_init_132 : decode cX1_init 132 = .ok (.new 9, 3) := by decide +kernel
theorem dX1_init_135 : decode cX1_init 135 = .ok (.dup, 1) := by decide +kernel
theorem dX1_init_136 : decode cX1_init 136 = .ok (.invokespecial 35, 3) := by decide +kernel
theorem dX1_init_139 : decode cX1_init 139 = .ok (.aastore, 1) := by decide +kernel
theorem dX1_init_140 : decode cX1_init 140 = .ok (.iinc 2 1, 3) := by decide +kernel
theorem dX1_init_143 : decode cX1_init 143 = .ok (.goto (-22), 3) := by decide +kernel
theorem dX1_init_146 : decode cX1_init 146 = .ok (.aload_n 0, 1) := by decide +kernel
theorem dX1_init_147 : decode cX1_init 147 = .ok (.getfield 40, 3) := by decide +kernel
theorem dX1_init_150 : decode cX1_init 150 = .ok (.lconst 1, 1) := by decide +kernel
theorem dX1_init_151 : decode cX1_init 151 = .ok (.invokevirtual 54, 3) := by decide +kernel
theorem dX1_init_154 : decode cX1_init 154 = .ok (.return_, 1) := by decide +kernel
set_option maxHeartbeats 40000000 in
set_option maxRecDepth 100000 in
theorem W1_init_lp94 (l : Launch) (κ : Kt) (this : Nat) (src : Nat) {p : Program} {e : Env} {s : State} {m : MethodId} {below : List Frame} {meth : Method} {c : Code} {Q9 : State → Prop} (hx : p.tables.exec = Jvm.exec) (hb : c.code = cX1_init) (hml : c.maxLocals = 3) (hown : s.vm.findClass RX1 = some m.cls) (hg : ∀ w ∈ GW, w.before ([.ref this, .ref src] : List Value).toArray s = true) (hin : meth.name = "<init>") (hK : va_K κ.1 vwCl (kTy κ) s) (hX : XY κ (xA [this] s.heap.size) s s.heap) (lt_this : this < s.heap.size) : (∀ (gg : Nat → Option Nat) (H : Heap) (locs : List Loc) (ls : Array Slot), H.size = s.heap.size + 150 → va_at κ.1 vwCl (this, .inr (1, [.ref src, .ref (s.heap.size + 0), .ref (s.heap.size + 1), .ref (s.heap.size + 2), .ref (s.heap.size + 3), .int 0, .ref (s.heap.size + 4), .int 0, .int 0, .int 0, .ref (s.heap.size + 6), .ref (s.heap.size + 8), .ref (s.heap.size + 10)])) H → va_at κ.1 vwCl ((s.heap.size + 0), .inl (kA κ 4, 48, .inr (.inr (.inr (.inr (fun _ => none)))))) H → va_at κ.1 vwCl ((s.heap.size + 1), .inl (kA κ 1, 48, .inr (.inl (fun _ => 0)))) H → va_at κ.1 vwCl ((s.heap.size + 2), .inl (kA κ 0, 48, .inl (fun _ => 0))) H → va_at κ.1 vwCl ((s.heap.size + 3), .inl (kA κ 5, 46, .inr (.inr (.inr (.inr gg))))) H → va_at κ.1 vwCl ((s.heap.size + 4), .inr (4, [.ref (s.heap.size + 5), .int 0, .int 0])) H → va_at κ.1 vwCl ((s.heap.size + 5), .inl (kA κ 0, 2, .inl (fun _ => 0))) H → va_at κ.1 vwCl ((s.heap.size + 6), .inr (4, [.ref (s.heap.size + 7), .int 0, .int 0])) H → va_at κ.1 vwCl ((s.heap.size + 7), .inl (kA κ 0, 2, .inl (fun _ => 0))) H → va_at κ.1 vwCl ((s.heap.size + 8), .inr (4, [.ref (s.heap.size + 9), .int 0, .int 0])) H → va_at κ.1 vwCl ((s.heap.size + 9), .inl (kA κ 0, 2, .inl (fun _ => 0))) H → va_at κ.1 vwCl ((s.heap.size + 10), .inr (4, [.ref (s.heap.size + 11), .int 0, .int 0])) H → va_at κ.1 vwCl ((s.heap.size + 11), .inl (kA κ 0, 2, .inl (fun _ => 0))) H → (∀ j, j < 46 → gg j = some (s.heap.size + (12 + 3 * j))) → (∀ j, j < 46 → va_at κ.1 vwCl (s.heap.size + (12 + 3 * j), .inr (2, [.int 0, .int 0, .int 0, .long 0, .long 0, .long 0, .long 0, .int 0, .int 0, .ref (s.heap.size + (12 + 3 * j) + 1)])) H ∧ va_at κ.1 vwCl (s.heap.size + (12 + 3 * j) + 1, .inr (4, [.ref (s.heap.size + (12 + 3 * j) + 2), .int 0, .int 0])) H ∧ va_at κ.1 vwCl (s.heap.size + (12 + 3 * j) + 2, .inl (kA κ 0, 2, .inl (fun _ => 0))) H) → va_S (xA [this] s.heap.size) s.heap H locs → lv_has ls 3 [(0, .ref this), (1, .ref src)] → W p l e { frames := 3, cells := 246, slots := 1140, locals := 52 } s m ([.ref this, .ref src] : List Value).toArray below meth c H locs 150 900 Q9 (F0 m 119 ls [])) → ∀ (n9 i : Nat) (x : Int32) (gg : Nat → Option Nat) (H : Heap) (locs : List Loc) (ls : Array Slot), i + n9 = 46 → x.toInt = i → H.size = s.heap.size + (12 + 3 * i) → va_at κ.1 vwCl (this, .inr (1, [.ref src, .ref (s.heap.size + 0), .ref (s.heap.size + 1), .ref (s.heap.size + 2), .ref (s.heap.size + 3), .int 0, .ref (s.heap.size + 4), .int 0, .int 0, .int 0, .ref (s.heap.size + 6), .ref (s.heap.size + 8), .ref (s.heap.size + 10)])) H → va_at κ.1 vwCl ((s.heap.size + 0), .inl (kA κ 4, 48, .inr (.inr (.inr (.inr (fun _ => none)))))) H → va_at κ.1 vwCl ((s.heap.size + 1), .inl (kA κ 1, 48, .inr (.inl (fun _ => 0)))) H → va_at κ.1 vwCl ((s.heap.size + 2), .inl (kA κ 0, 48, .inl (fun _ => 0))) H → va_at κ.1 vwCl ((s.heap.size + 3), .inl (kA κ 5, 46, .inr (.inr (.inr (.inr gg))))) H → va_at κ.1 vwCl ((s.heap.size + 4), .inr (4, [.ref (s.heap.size + 5), .int 0, .int 0])) H → va_at κ.1 vwCl ((s.heap.size + 5), .inl (kA κ 0, 2, .inl (fun _ => 0))) H → va_at κ.1 vwCl ((s.heap.size + 6), .inr (4, [.ref (s.heap.size + 7), .int 0, .int 0])) H → va_at κ.1 vwCl ((s.heap.size + 7), .inl (kA κ 0, 2, .inl (fun _ => 0))) H → va_at κ.1 vwCl ((s.heap.size + 8), .inr (4, [.ref (s.heap.size + 9), .int 0, .int 0])) H → va_at κ.1 vwCl ((s.heap.size + 9), .inl (kA κ 0, 2, .inl (fun _ => 0))) H → va_at κ.1 vwCl ((s.heap.size + 10), .inr (4, [.ref (s.heap.size + 11), .int 0, .int 0])) H → va_at κ.1 vwCl ((s.heap.size + 11), .inl (kA κ 0, 2, .inl (fun _ => 0))) H → (∀ j, j < i → gg j = some (s.heap.size + (12 + 3 * j))) → (∀ j, j < i → va_at κ.1 vwCl (s.heap.size + (12 + 3 * j), .inr (2, [.int 0, .int 0, .int 0, .long 0, .long 0, .long 0, .long 0, .int 0, .int 0, .ref (s.heap.size + (12 + 3 * j) + 1)])) H ∧ va_at κ.1 vwCl (s.heap.size + (12 + 3 * j) + 1, .inr (4, [.ref (s.heap.size + (12 + 3 * j) + 2), .int 0, .int 0])) H ∧ va_at κ.1 vwCl (s.heap.size + (12 + 3 * j) + 2, .inl (kA κ 0, 2, .inl (fun _ => 0))) H) → va_S (xA [this] s.heap.size) s.heap H locs → lv_has ls 3 [(2, .int x), (0, .ref this), (1, .ref src)] → W p l e { frames := 3, cells := 246, slots := 1140, locals := 52 } s m ([.ref this, .ref src] : List Value).toArray below meth c H locs (12 + 3 * i) (210 + 15 * i) Q9 (F0 m 94 ls []) := by
  intro kx n9
  induction n9 with
  | zero =>
    intro i x gg H locs ls hi9 hxi hz f0 f2 f4 f6 f8 p12 p13 p17 p18 p22 p23 p27 p28 hgg hF1  hS hl
    obtain rfl : i = 46 := by omega
    have nb : (46 : Int32).toInt = 46 := by decide
    refine lv_iload_n hx hb dX1_init_94 rfl (lv_at hl 0 rfl) ?_
    refine lv_bipush (v := 46) hx hb dX1_init_95 (by decide) ?_
    refine lv_icmp_ge (tgt := 119) hx hb dX1_init_97 (by decide) (fun _ => ?_) (fun c9 => absurd (gi_nle c9) (by omega))
    exact kx gg H locs ls hz f0 f2 f4 f6 f8 p12 p13 p17 p18 p22 p23 p27 p28 hgg hF1  hS (lv_sub hl [1, 2] rfl)
  | succ n9 ih =>
    intro i x gg H locs ls hi9 hxi hz f0 f2 f4 f6 f8 p12 p13 p17 p18 p22 p23 p27 p28 hgg hF1  hS hl
    have nb : (46 : Int32).toInt = 46 := by decide
    refine lv_iload_n hx hb dX1_init_94 rfl (lv_at hl 0 rfl) ?_
    refine lv_bipush (v := 46) hx hb dX1_init_95 (by decide) ?_
    refine lv_icmp_ge (tgt := 119) hx hb dX1_init_97 (by decide) (fun c9 => absurd (gi_le c9) (by omega)) (fun _ => ?_)
    have hz : H.size = s.heap.size + (12 + 3 * i) + 0 := hz
    refine lv_aload_n hx hb dX1_init_100 rfl (lv_at hl 1 rfl) ?_
    refine va_get (D := κ.1) (ci := 1) (v := .ref (s.heap.size + 3)) (C := RX1) (T := TX1) (N := 13) hx hb hg inX1 hown hK f0.one 0 rfl rfl 4 (by decide) (hg _ k285) (fun _ h9 => h9) rfl dX1_init_101 ?_
    refine lv_iload_n hx hb dX1_init_104 rfl (lv_at hl 0 rfl) ?_
    refine xnew (ci := 2) (fs := [.int 0, .int 0, .int 0, .long 0, .long 0, .long 0, .long 0, .int 0, .int 0, .null]) (C := RX2) (T := TX2) (N := 10) hx hb hg inX2 tyX2 tyX2_ok hown (hg _ k202) (hg _ k220) (hg _ k89) hK hS rfl nwX2 (by show _ ≤ (246 : Nat); omega) (by show _ ≤ (1140 : Nat); omega) dX1_init_105 (fun n29 H e9 g f30 hS2 => ?_)
    replace hS := hS2
    clear hS2
    replace f0 := g.kept f0
    replace f2 := g.kept f2
    replace f4 := g.kept f4
    replace f6 := g.kept f6
    replace f8 := g.kept f8
    replace p12 := g.kept p12
    replace p13 := g.kept p13
    replace p17 := g.kept p17
    replace p18 := g.kept p18
    replace p22 := g.kept p22
    replace p23 := g.kept p23
    replace p27 := g.kept p27
    replace p28 := g.kept p28
    replace hF1 : ∀ j, j < i → va_at κ.1 vwCl (s.heap.size + (12 + 3 * j), .inr (2, [.int 0, .int 0, .int 0, .long 0, .long 0, .long 0, .long 0, .int 0, .int 0, .ref (s.heap.size + (12 + 3 * j) + 1)])) H ∧ va_at κ.1 vwCl (s.heap.size + (12 + 3 * j) + 1, .inr (4, [.ref (s.heap.size + (12 + 3 * j) + 2), .int 0, .int 0])) H ∧ va_at κ.1 vwCl (s.heap.size + (12 + 3 * j) + 2, .inl (kA κ 0, 2, .inl (fun _ => 0))) H := fun j hj => ⟨g.kept (hF1 j hj).1, g.kept (hF1 j hj).2.1, g.kept (hF1 j hj).2.2⟩
    obtain rfl : n29 = s.heap.size + (12 + 3 * i) + 0 := by omega
    replace hz : H.size = s.heap.size + (12 + 3 * i) + 1 := by have := g.1; omega
    clear g
    refine lv_dup hx hb dX1_init_108 rfl ?_
    refine xcallN (n := 0) (As := []) (rest := [.ref (s.heap.size + (12 + 3 * i) + 0), .int x, .ref (s.heap.size + 3)]) hx hb hml hown hg (W2_init l κ (s.heap.size + (12 + 3 * i) + 0)) (mwI k223) ⟨by decide, by decide, by decide +kernel⟩ k89 (XX_nRX1_53 hX.1) k222 rfl ⟨(Nat.le_of_ble_eq_true rfl), (Nat.le_of_ble_eq_true rfl)⟩ f30 hK hS hX (xA_in (xA1 (Or.inr (by omega))) hS.1) rfl hl.1 rfl (Nat.le_of_ble_eq_true rfl) dX1_init_109 ⟨(by show _ ≤ (246 : Nat); omega), (by show _ ≤ (1140 : Nat); omega)⟩ (fun H locs hp g hS2 => ?_)
    replace hS := hS2
    clear hS2
    replace f0 := g.kept f0 (show ¬ xA _ _ this from xA_no (by omega) (by omega))
    replace f2 := g.kept f2 (show ¬ xA _ _ (s.heap.size + 0) from xA_no (by omega) (by omega))
    replace f4 := g.kept f4 (show ¬ xA _ _ (s.heap.size + 1) from xA_no (by omega) (by omega))
    replace f6 := g.kept f6 (show ¬ xA _ _ (s.heap.size + 2) from xA_no (by omega) (by omega))
    replace f8 := g.kept f8 (show ¬ xA _ _ (s.heap.size + 3) from xA_no (by omega) (by omega))
    replace p12 := g.kept p12 (show ¬ xA _ _ (s.heap.size + 4) from xA_no (by omega) (by omega))
    replace p13 := g.kept p13 (show ¬ xA _ _ (s.heap.size + 5) from xA_no (by omega) (by omega))
    replace p17 := g.kept p17 (show ¬ xA _ _ (s.heap.size + 6) from xA_no (by omega) (by omega))
    replace p18 := g.kept p18 (show ¬ xA _ _ (s.heap.size + 7) from xA_no (by omega) (by omega))
    replace p22 := g.kept p22 (show ¬ xA _ _ (s.heap.size + 8) from xA_no (by omega) (by omega))
    replace p23 := g.kept p23 (show ¬ xA _ _ (s.heap.size + 9) from xA_no (by omega) (by omega))
    replace p27 := g.kept p27 (show ¬ xA _ _ (s.heap.size + 10) from xA_no (by omega) (by omega))
    replace p28 := g.kept p28 (show ¬ xA _ _ (s.heap.size + 11) from xA_no (by omega) (by omega))
    replace hF1 : ∀ j, j < i → va_at κ.1 vwCl (s.heap.size + (12 + 3 * j), .inr (2, [.int 0, .int 0, .int 0, .long 0, .long 0, .long 0, .long 0, .int 0, .int 0, .ref (s.heap.size + (12 + 3 * j) + 1)])) H ∧ va_at κ.1 vwCl (s.heap.size + (12 + 3 * j) + 1, .inr (4, [.ref (s.heap.size + (12 + 3 * j) + 2), .int 0, .int 0])) H ∧ va_at κ.1 vwCl (s.heap.size + (12 + 3 * j) + 2, .inl (kA κ 0, 2, .inl (fun _ => 0))) H := fun j hj => ⟨g.kept (hF1 j hj).1 (show ¬ xA _ _ (s.heap.size + (12 + 3 * j)) from xA_no (by omega) (by omega)), g.kept (hF1 j hj).2.1 (show ¬ xA _ _ (s.heap.size + (12 + 3 * j) + 1) from xA_no (by omega) (by omega)), g.kept (hF1 j hj).2.2 (show ¬ xA _ _ (s.heap.size + (12 + 3 * j) + 2) from xA_no (by omega) (by omega))⟩
    clear g
    obtain ⟨p31, p32, p33, p34⟩ := hp
    rw [hz] at p31 p32 p33 p34
    replace hz : H.size = s.heap.size + (12 + 3 * i) + 3 := by omega
    replace p32 : va_at κ.1 vwCl ((s.heap.size + (12 + 3 * i) + 0), .inr (2, [.int 0, .int 0, .int 0, .long 0, .long 0, .long 0, .long 0, .int 0, .int 0, .ref (s.heap.size + (12 + 3 * i) + 1)])) H := p32
    replace p33 : va_at κ.1 vwCl ((s.heap.size + (12 + 3 * i) + 1), .inr (4, [.ref (s.heap.size + (12 + 3 * i) + 2), .int 0, .int 0])) H := p33
    replace p34 : va_at κ.1 vwCl ((s.heap.size + (12 + 3 * i) + 2), .inl (kA κ 0, 2, .inl (fun _ => 0))) H := p34
    refine xaast 5 (ci := 2) hx hb hK hS (Or.inr (by omega)) f8 rfl p32 rfl (g_in (by omega) (by omega)) dX1_init_112 (fun H locs g f8 hS2 => ?_)
    replace hS := hS2
    clear hS2
    replace f0 := g.kept f0 (show this ≠ (s.heap.size + 3) from (by omega))
    replace f2 := g.kept f2 (show (s.heap.size + 0) ≠ (s.heap.size + 3) from (by omega))
    replace f4 := g.kept f4 (show (s.heap.size + 1) ≠ (s.heap.size + 3) from (by omega))
    replace f6 := g.kept f6 (show (s.heap.size + 2) ≠ (s.heap.size + 3) from (by omega))
    replace p12 := g.kept p12 (show (s.heap.size + 4) ≠ (s.heap.size + 3) from (by omega))
    replace p13 := g.kept p13 (show (s.heap.size + 5) ≠ (s.heap.size + 3) from (by omega))
    replace p17 := g.kept p17 (show (s.heap.size + 6) ≠ (s.heap.size + 3) from (by omega))
    replace p18 := g.kept p18 (show (s.heap.size + 7) ≠ (s.heap.size + 3) from (by omega))
    replace p22 := g.kept p22 (show (s.heap.size + 8) ≠ (s.heap.size + 3) from (by omega))
    replace p23 := g.kept p23 (show (s.heap.size + 9) ≠ (s.heap.size + 3) from (by omega))
    replace p27 := g.kept p27 (show (s.heap.size + 10) ≠ (s.heap.size + 3) from (by omega))
    replace p28 := g.kept p28 (show (s.heap.size + 11) ≠ (s.heap.size + 3) from (by omega))
    replace p32 := g.kept p32 (show (s.heap.size + (12 + 3 * i) + 0) ≠ (s.heap.size + 3) from (by omega))
    replace p33 := g.kept p33 (show (s.heap.size + (12 + 3 * i) + 1) ≠ (s.heap.size + 3) from (by omega))
    replace p34 := g.kept p34 (show (s.heap.size + (12 + 3 * i) + 2) ≠ (s.heap.size + 3) from (by omega))
    replace hF1 : ∀ j, j < i → va_at κ.1 vwCl (s.heap.size + (12 + 3 * j), .inr (2, [.int 0, .int 0, .int 0, .long 0, .long 0, .long 0, .long 0, .int 0, .int 0, .ref (s.heap.size + (12 + 3 * j) + 1)])) H ∧ va_at κ.1 vwCl (s.heap.size + (12 + 3 * j) + 1, .inr (4, [.ref (s.heap.size + (12 + 3 * j) + 2), .int 0, .int 0])) H ∧ va_at κ.1 vwCl (s.heap.size + (12 + 3 * j) + 2, .inl (kA κ 0, 2, .inl (fun _ => 0))) H := fun j hj => ⟨g.kept (hF1 j hj).1 (show s.heap.size + (12 + 3 * j) ≠ _ from by omega), g.kept (hF1 j hj).2.1 (show s.heap.size + (12 + 3 * j) + 1 ≠ _ from by omega), g.kept (hF1 j hj).2.2 (show s.heap.size + (12 + 3 * j) + 2 ≠ _ from by omega)⟩
    replace hz := g.1.trans hz
    clear g
    obtain ⟨x2, qx2⟩ : ∃ z9 : Int32, x + Int32.ofInt 1 = z9 := ⟨_, rfl⟩
    refine lv_iinc (v := x2) (lv' := [(2, .int x2), (0, .ref this), (1, .ref src)]) hx hb dX1_init_113 hl (k := 0) rfl qx2 (by decide) rfl (fun ls hl => ?_)
    have hx2 : x2.toInt = x.toInt + 1 := by rw [← qx2]; exact v_addi rfl (show (Int32.ofInt 1).toInt = 1 from by decide) (by omega) (by omega)
    refine lv_goto (tgt := 94) hx hb dX1_init_116 (by decide) ?_
    refine W.widen (k := 12 + 3 * (i + 1)) (n := 210 + 15 * (i + 1)) (by omega) (by omega) ?_
    refine ih (i + 1) x2 _ H locs ls (by omega) (by omega) (by omega) f0 f2 f4 f6 f8 p12 p13 p17 p18 p22 p23 p27 p28 (fun j hj => ?_) (fun j hj => ?_)  hS hl
    · rw [show x.toNatClampNeg = i from by show x.toInt.toNat = i; omega]
      by_cases e9 : j = i
      · subst e9; simp [va_up]
      · simp [va_up, e9]; exact hgg j (by omega)
    · by_cases e9 : j = i
      · subst e9; exact ⟨p32, p33, p34⟩
      · exact hF1 j (by omega)
set_option maxHeartbeats 40000000 in
set_option maxRecDepth 100000 in
theorem W1_init_lp121 (l : Launch) (κ : Kt) (this : Nat) (src : Nat) {p : Program} {e : Env} {s : State} {m : MethodId} {below : List Frame} {meth : Method} {c : Code} {Q9 : State → Prop} (hx : p.tables.exec = Jvm.exec) (hb : c.code = cX1_init) (hml : c.maxLocals = 3) (hown : s.vm.findClass RX1 = some m.cls) (hg : ∀ w ∈ GW, w.before ([.ref this, .ref src] : List Value).toArray s = true) (hin : meth.name = "<init>") (hK : va_K κ.1 vwCl (kTy κ) s) (hX : XY κ (xA [this] s.heap.size) s s.heap) (lt_this : this < s.heap.size) : (∀ (gg : Nat → Option Nat) (H : Heap) (locs : List Loc) (ls : Array Slot), H.size = s.heap.size + 246 → va_at κ.1 vwCl (this, .inr (1, [.ref src, .ref (s.heap.size + 0), .ref (s.heap.size + 1), .ref (s.heap.size + 2), .ref (s.heap.size + 3), .int 0, .ref (s.heap.size + 4), .int 0, .int 0, .int 0, .ref (s.heap.size + 6), .ref (s.heap.size + 8), .ref (s.heap.size + 10)])) H → va_at κ.1 vwCl ((s.heap.size + 0), .inl (kA κ 4, 48, .inr (.inr (.inr (.inr gg))))) H → va_at κ.1 vwCl ((s.heap.size + 1), .inl (kA κ 1, 48, .inr (.inl (fun _ => 0)))) H → va_at κ.1 vwCl ((s.heap.size + 2), .inl (kA κ 0, 48, .inl (fun _ => 0))) H → va_at κ.1 vwCl ((s.heap.size + 3), .inl (kA κ 5, 46, .inr (.inr (.inr (.inr (fun j => some (s.heap.size + (12 + 3 * j)))))))) H → va_at κ.1 vwCl ((s.heap.size + 4), .inr (4, [.ref (s.heap.size + 5), .int 0, .int 0])) H → va_at κ.1 vwCl ((s.heap.size + 5), .inl (kA κ 0, 2, .inl (fun _ => 0))) H → va_at κ.1 vwCl ((s.heap.size + 6), .inr (4, [.ref (s.heap.size + 7), .int 0, .int 0])) H → va_at κ.1 vwCl ((s.heap.size + 7), .inl (kA κ 0, 2, .inl (fun _ => 0))) H → va_at κ.1 vwCl ((s.heap.size + 8), .inr (4, [.ref (s.heap.size + 9), .int 0, .int 0])) H → va_at κ.1 vwCl ((s.heap.size + 9), .inl (kA κ 0, 2, .inl (fun _ => 0))) H → va_at κ.1 vwCl ((s.heap.size + 10), .inr (4, [.ref (s.heap.size + 11), .int 0, .int 0])) H → va_at κ.1 vwCl ((s.heap.size + 11), .inl (kA κ 0, 2, .inl (fun _ => 0))) H → (∀ j, j < 48 → gg j = some (s.heap.size + (150 + 2 * j))) → (∀ j, j < 48 → va_at κ.1 vwCl (s.heap.size + (150 + 2 * j), .inr (4, [.ref (s.heap.size + (150 + 2 * j) + 1), .int 0, .int 0])) H ∧ va_at κ.1 vwCl (s.heap.size + (150 + 2 * j) + 1, .inl (kA κ 0, 2, .inl (fun _ => 0))) H) → (∀ j, j < 46 → va_at κ.1 vwCl (s.heap.size + (12 + 3 * j), .inr (2, [.int 0, .int 0, .int 0, .long 0, .long 0, .long 0, .long 0, .int 0, .int 0, .ref (s.heap.size + (12 + 3 * j) + 1)])) H ∧ va_at κ.1 vwCl (s.heap.size + (12 + 3 * j) + 1, .inr (4, [.ref (s.heap.size + (12 + 3 * j) + 2), .int 0, .int 0])) H ∧ va_at κ.1 vwCl (s.heap.size + (12 + 3 * j) + 2, .inl (kA κ 0, 2, .inl (fun _ => 0))) H) → va_S (xA [this] s.heap.size) s.heap H locs → lv_has ls 3 [(0, .ref this), (1, .ref src)] → W p l e { frames := 3, cells := 246, slots := 1140, locals := 52 } s m ([.ref this, .ref src] : List Value).toArray below meth c H locs 246 1140 Q9 (F0 m 146 ls [])) → ∀ (n9 i : Nat) (x : Int32) (gg : Nat → Option Nat) (H : Heap) (locs : List Loc) (ls : Array Slot), i + n9 = 48 → x.toInt = i → H.size = s.heap.size + (150 + 2 * i) → va_at κ.1 vwCl (this, .inr (1, [.ref src, .ref (s.heap.size + 0), .ref (s.heap.size + 1), .ref (s.heap.size + 2), .ref (s.heap.size + 3), .int 0, .ref (s.heap.size + 4), .int 0, .int 0, .int 0, .ref (s.heap.size + 6), .ref (s.heap.size + 8), .ref (s.heap.size + 10)])) H → va_at κ.1 vwCl ((s.heap.size + 0), .inl (kA κ 4, 48, .inr (.inr (.inr (.inr gg))))) H → va_at κ.1 vwCl ((s.heap.size + 1), .inl (kA κ 1, 48, .inr (.inl (fun _ => 0)))) H → va_at κ.1 vwCl ((s.heap.size + 2), .inl (kA κ 0, 48, .inl (fun _ => 0))) H → va_at κ.1 vwCl ((s.heap.size + 3), .inl (kA κ 5, 46, .inr (.inr (.inr (.inr (fun j => some (s.heap.size + (12 + 3 * j)))))))) H → va_at κ.1 vwCl ((s.heap.size + 4), .inr (4, [.ref (s.heap.size + 5), .int 0, .int 0])) H → va_at κ.1 vwCl ((s.heap.size + 5), .inl (kA κ 0, 2, .inl (fun _ => 0))) H → va_at κ.1 vwCl ((s.heap.size + 6), .inr (4, [.ref (s.heap.size + 7), .int 0, .int 0])) H → va_at κ.1 vwCl ((s.heap.size + 7), .inl (kA κ 0, 2, .inl (fun _ => 0))) H → va_at κ.1 vwCl ((s.heap.size + 8), .inr (4, [.ref (s.heap.size + 9), .int 0, .int 0])) H → va_at κ.1 vwCl ((s.heap.size + 9), .inl (kA κ 0, 2, .inl (fun _ => 0))) H → va_at κ.1 vwCl ((s.heap.size + 10), .inr (4, [.ref (s.heap.size + 11), .int 0, .int 0])) H → va_at κ.1 vwCl ((s.heap.size + 11), .inl (kA κ 0, 2, .inl (fun _ => 0))) H → (∀ j, j < i → gg j = some (s.heap.size + (150 + 2 * j))) → (∀ j, j < i → va_at κ.1 vwCl (s.heap.size + (150 + 2 * j), .inr (4, [.ref (s.heap.size + (150 + 2 * j) + 1), .int 0, .int 0])) H ∧ va_at κ.1 vwCl (s.heap.size + (150 + 2 * j) + 1, .inl (kA κ 0, 2, .inl (fun _ => 0))) H) → (∀ j, j < 46 → va_at κ.1 vwCl (s.heap.size + (12 + 3 * j), .inr (2, [.int 0, .int 0, .int 0, .long 0, .long 0, .long 0, .long 0, .int 0, .int 0, .ref (s.heap.size + (12 + 3 * j) + 1)])) H ∧ va_at κ.1 vwCl (s.heap.size + (12 + 3 * j) + 1, .inr (4, [.ref (s.heap.size + (12 + 3 * j) + 2), .int 0, .int 0])) H ∧ va_at κ.1 vwCl (s.heap.size + (12 + 3 * j) + 2, .inl (kA κ 0, 2, .inl (fun _ => 0))) H) → va_S (xA [this] s.heap.size) s.heap H locs → lv_has ls 3 [(2, .int x), (0, .ref this), (1, .ref src)] → W p l e { frames := 3, cells := 246, slots := 1140, locals := 52 } s m ([.ref this, .ref src] : List Value).toArray below meth c H locs (150 + 2 * i) (900 + 5 * i) Q9 (F0 m 121 ls []) := by
  intro kx n9
  induction n9 with
  | zero =>
    intro i x gg H locs ls hi9 hxi hz f0 f2 f4 f6 f8 p12 p13 p17 p18 p22 p23 p27 p28 hgg hF2 hF1 hS hl
    obtain rfl : i = 48 := by omega
    have nb : (48 : Int32).toInt = 48 := by decide
    refine lv_iload_n hx hb dX1_init_121 rfl (lv_at hl 0 rfl) ?_
    refine lv_bipush (v := 48) hx hb dX1_init_122 (by decide) ?_
    refine lv_icmp_ge (tgt := 146) hx hb dX1_init_124 (by decide) (fun _ => ?_) (fun c9 => absurd (gi_nle c9) (by omega))
    exact kx gg H locs ls hz f0 f2 f4 f6 f8 p12 p13 p17 p18 p22 p23 p27 p28 hgg hF2 hF1 hS (lv_sub hl [1, 2] rfl)
  | succ n9 ih =>
    intro i x gg H locs ls hi9 hxi hz f0 f2 f4 f6 f8 p12 p13 p17 p18 p22 p23 p27 p28 hgg hF2 hF1 hS hl
    have nb : (48 : Int32).toInt = 48 := by decide
    refine lv_iload_n hx hb dX1_init_121 rfl (lv_at hl 0 rfl) ?_
    refine lv_bipush (v := 48) hx hb dX1_init_122 (by decide) ?_
    refine lv_icmp_ge (tgt := 146) hx hb dX1_init_124 (by decide) (fun c9 => absurd (gi_le c9) (by omega)) (fun _ => ?_)
    have hz : H.size = s.heap.size + (150 + 2 * i) + 0 := hz
    refine lv_aload_n hx hb dX1_init_127 rfl (lv_at hl 1 rfl) ?_
    refine va_get (D := κ.1) (ci := 1) (v := .ref (s.heap.size + 0)) (C := RX1) (T := TX1) (N := 13) hx hb hg inX1 hown hK f0.one 0 rfl rfl 1 (by decide) (hg _ k279) (fun _ h9 => h9) rfl dX1_init_128 ?_
    refine lv_iload_n hx hb dX1_init_131 rfl (lv_at hl 0 rfl) ?_
    refine xnew (ci := 4) (fs := [.null, .int 0, .int 0]) (C := RX4) (T := TX4) (N := 3) hx hb hg inX4 tyX4 tyX4_ok hown (hg _ k200) (hg _ k204) (hg _ k88) hK hS rfl nwX4 (by show _ ≤ (246 : Nat); omega) (by show _ ≤ (1140 : Nat); omega) dX1_init_132 (fun n35 H e9 g f36 hS2 => ?_)
    replace hS := hS2
    clear hS2
    replace f0 := g.kept f0
    replace f2 := g.kept f2
    replace f4 := g.kept f4
    replace f6 := g.kept f6
    replace f8 := g.kept f8
    replace p12 := g.kept p12
    replace p13 := g.kept p13
    replace p17 := g.kept p17
    replace p18 := g.kept p18
    replace p22 := g.kept p22
    replace p23 := g.kept p23
    replace p27 := g.kept p27
    replace p28 := g.kept p28
    replace hF1 : ∀ j, j < 46 → va_at κ.1 vwCl (s.heap.size + (12 + 3 * j), .inr (2, [.int 0, .int 0, .int 0, .long 0, .long 0, .long 0, .long 0, .int 0, .int 0, .ref (s.heap.size + (12 + 3 * j) + 1)])) H ∧ va_at κ.1 vwCl (s.heap.size + (12 + 3 * j) + 1, .inr (4, [.ref (s.heap.size + (12 + 3 * j) + 2), .int 0, .int 0])) H ∧ va_at κ.1 vwCl (s.heap.size + (12 + 3 * j) + 2, .inl (kA κ 0, 2, .inl (fun _ => 0))) H := fun j hj => ⟨g.kept (hF1 j hj).1, g.kept (hF1 j hj).2.1, g.kept (hF1 j hj).2.2⟩
    replace hF2 : ∀ j, j < i → va_at κ.1 vwCl (s.heap.size + (150 + 2 * j), .inr (4, [.ref (s.heap.size + (150 + 2 * j) + 1), .int 0, .int 0])) H ∧ va_at κ.1 vwCl (s.heap.size + (150 + 2 * j) + 1, .inl (kA κ 0, 2, .inl (fun _ => 0))) H := fun j hj => ⟨g.kept (hF2 j hj).1, g.kept (hF2 j hj).2⟩
    obtain rfl : n35 = s.heap.size + (150 + 2 * i) + 0 := by omega
    replace hz : H.size = s.heap.size + (150 + 2 * i) + 1 := by have := g.1; omega
    clear g
    refine lv_dup hx hb dX1_init_135 rfl ?_
    refine xcallN (n := 0) (As := []) (rest := [.ref (s.heap.size + (150 + 2 * i) + 0), .int x, .ref (s.heap.size + 0)]) hx hb hml hown hg (W4_init l κ (s.heap.size + (150 + 2 * i) + 0)) (mwI k207) ⟨by decide, by decide, by decide +kernel⟩ k88 (XX_nRX1_35 hX.1) k206 rfl ⟨(Nat.le_of_ble_eq_true rfl), (Nat.le_of_ble_eq_true rfl)⟩ f36 hK hS hX (xA_in (xA1 (Or.inr (by omega))) hS.1) rfl hl.1 rfl (Nat.le_of_ble_eq_true rfl) dX1_init_136 ⟨(by show _ ≤ (246 : Nat); omega), (by show _ ≤ (1140 : Nat); omega)⟩ (fun H locs hp g hS2 => ?_)
    replace hS := hS2
    clear hS2
    replace f0 := g.kept f0 (show ¬ xA _ _ this from xA_no (by omega) (by omega))
    replace f2 := g.kept f2 (show ¬ xA _ _ (s.heap.size + 0) from xA_no (by omega) (by omega))
    replace f4 := g.kept f4 (show ¬ xA _ _ (s.heap.size + 1) from xA_no (by omega) (by omega))
    replace f6 := g.kept f6 (show ¬ xA _ _ (s.heap.size + 2) from xA_no (by omega) (by omega))
    replace f8 := g.kept f8 (show ¬ xA _ _ (s.heap.size + 3) from xA_no (by omega) (by omega))
    replace p12 := g.kept p12 (show ¬ xA _ _ (s.heap.size + 4) from xA_no (by omega) (by omega))
    replace p13 := g.kept p13 (show ¬ xA _ _ (s.heap.size + 5) from xA_no (by omega) (by omega))
    replace p17 := g.kept p17 (show ¬ xA _ _ (s.heap.size + 6) from xA_no (by omega) (by omega))
    replace p18 := g.kept p18 (show ¬ xA _ _ (s.heap.size + 7) from xA_no (by omega) (by omega))
    replace p22 := g.kept p22 (show ¬ xA _ _ (s.heap.size + 8) from xA_no (by omega) (by omega))
    replace p23 := g.kept p23 (show ¬ xA _ _ (s.heap.size + 9) from xA_no (by omega) (by omega))
    replace p27 := g.kept p27 (show ¬ xA _ _ (s.heap.size + 10) from xA_no (by omega) (by omega))
    replace p28 := g.kept p28 (show ¬ xA _ _ (s.heap.size + 11) from xA_no (by omega) (by omega))
    replace hF1 : ∀ j, j < 46 → va_at κ.1 vwCl (s.heap.size + (12 + 3 * j), .inr (2, [.int 0, .int 0, .int 0, .long 0, .long 0, .long 0, .long 0, .int 0, .int 0, .ref (s.heap.size + (12 + 3 * j) + 1)])) H ∧ va_at κ.1 vwCl (s.heap.size + (12 + 3 * j) + 1, .inr (4, [.ref (s.heap.size + (12 + 3 * j) + 2), .int 0, .int 0])) H ∧ va_at κ.1 vwCl (s.heap.size + (12 + 3 * j) + 2, .inl (kA κ 0, 2, .inl (fun _ => 0))) H := fun j hj => ⟨g.kept (hF1 j hj).1 (show ¬ xA _ _ (s.heap.size + (12 + 3 * j)) from xA_no (by omega) (by omega)), g.kept (hF1 j hj).2.1 (show ¬ xA _ _ (s.heap.size + (12 + 3 * j) + 1) from xA_no (by omega) (by omega)), g.kept (hF1 j hj).2.2 (show ¬ xA _ _ (s.heap.size + (12 + 3 * j) + 2) from xA_no (by omega) (by omega))⟩
    replace hF2 : ∀ j, j < i → va_at κ.1 vwCl (s.heap.size + (150 + 2 * j), .inr (4, [.ref (s.heap.size + (150 + 2 * j) + 1), .int 0, .int 0])) H ∧ va_at κ.1 vwCl (s.heap.size + (150 + 2 * j) + 1, .inl (kA κ 0, 2, .inl (fun _ => 0))) H := fun j hj => ⟨g.kept (hF2 j hj).1 (show ¬ xA _ _ (s.heap.size + (150 + 2 * j)) from xA_no (by omega) (by omega)), g.kept (hF2 j hj).2 (show ¬ xA _ _ (s.heap.size + (150 + 2 * j) + 1) from xA_no (by omega) (by omega))⟩
    clear g
    obtain ⟨p37, p38, p39⟩ := hp
    rw [hz] at p37 p38 p39
    replace hz : H.size = s.heap.size + (150 + 2 * i) + 2 := by omega
    replace p38 : va_at κ.1 vwCl ((s.heap.size + (150 + 2 * i) + 0), .inr (4, [.ref (s.heap.size + (150 + 2 * i) + 1), .int 0, .int 0])) H := p38
    replace p39 : va_at κ.1 vwCl ((s.heap.size + (150 + 2 * i) + 1), .inl (kA κ 0, 2, .inl (fun _ => 0))) H := p39
    refine xaast 4 (ci := 4) hx hb hK hS (Or.inr (by omega)) f2 rfl p38 rfl (g_in (by omega) (by omega)) dX1_init_139 (fun H locs g f2 hS2 => ?_)
    replace hS := hS2
    clear hS2
    replace f0 := g.kept f0 (show this ≠ (s.heap.size + 0) from (by omega))
    replace f4 := g.kept f4 (show (s.heap.size + 1) ≠ (s.heap.size + 0) from (by omega))
    replace f6 := g.kept f6 (show (s.heap.size + 2) ≠ (s.heap.size + 0) from (by omega))
    replace f8 := g.kept f8 (show (s.heap.size + 3) ≠ (s.heap.size + 0) from (by omega))
    replace p12 := g.kept p12 (show (s.heap.size + 4) ≠ (s.heap.size + 0) from (by omega))
    replace p13 := g.kept p13 (show (s.heap.size + 5) ≠ (s.heap.size + 0) from (by omega))
    replace p17 := g.kept p17 (show (s.heap.size + 6) ≠ (s.heap.size + 0) from (by omega))
    replace p18 := g.kept p18 (show (s.heap.size + 7) ≠ (s.heap.size + 0) from (by omega))
    replace p22 := g.kept p22 (show (s.heap.size + 8) ≠ (s.heap.size + 0) from (by omega))
    replace p23 := g.kept p23 (show (s.heap.size + 9) ≠ (s.heap.size + 0) from (by omega))
    replace p27 := g.kept p27 (show (s.heap.size + 10) ≠ (s.heap.size + 0) from (by omega))
    replace p28 := g.kept p28 (show (s.heap.size + 11) ≠ (s.heap.size + 0) from (by omega))
    replace p38 := g.kept p38 (show (s.heap.size + (150 + 2 * i) + 0) ≠ (s.heap.size + 0) from (by omega))
    replace p39 := g.kept p39 (show (s.heap.size + (150 + 2 * i) + 1) ≠ (s.heap.size + 0) from (by omega))
    replace hF1 : ∀ j, j < 46 → va_at κ.1 vwCl (s.heap.size + (12 + 3 * j), .inr (2, [.int 0, .int 0, .int 0, .long 0, .long 0, .long 0, .long 0, .int 0, .int 0, .ref (s.heap.size + (12 + 3 * j) + 1)])) H ∧ va_at κ.1 vwCl (s.heap.size + (12 + 3 * j) + 1, .inr (4, [.ref (s.heap.size + (12 + 3 * j) + 2), .int 0, .int 0])) H ∧ va_at κ.1 vwCl (s.heap.size + (12 + 3 * j) + 2, .inl (kA κ 0, 2, .inl (fun _ => 0))) H := fun j hj => ⟨g.kept (hF1 j hj).1 (show s.heap.size + (12 + 3 * j) ≠ _ from by omega), g.kept (hF1 j hj).2.1 (show s.heap.size + (12 + 3 * j) + 1 ≠ _ from by omega), g.kept (hF1 j hj).2.2 (show s.heap.size + (12 + 3 * j) + 2 ≠ _ from by omega)⟩
    replace hF2 : ∀ j, j < i → va_at κ.1 vwCl (s.heap.size + (150 + 2 * j), .inr (4, [.ref (s.heap.size + (150 + 2 * j) + 1), .int 0, .int 0])) H ∧ va_at κ.1 vwCl (s.heap.size + (150 + 2 * j) + 1, .inl (kA κ 0, 2, .inl (fun _ => 0))) H := fun j hj => ⟨g.kept (hF2 j hj).1 (show s.heap.size + (150 + 2 * j) ≠ _ from by omega), g.kept (hF2 j hj).2 (show s.heap.size + (150 + 2 * j) + 1 ≠ _ from by omega)⟩
    replace hz := g.1.trans hz
    clear g
    obtain ⟨x2, qx2⟩ : ∃ z9 : Int32, x + Int32.ofInt 1 = z9 := ⟨_, rfl⟩
    refine lv_iinc (v := x2) (lv' := [(2, .int x2), (0, .ref this), (1, .ref src)]) hx hb dX1_init_140 hl (k := 0) rfl qx2 (by decide) rfl (fun ls hl => ?_)
    have hx2 : x2.toInt = x.toInt + 1 := by rw [← qx2]; exact v_addi rfl (show (Int32.ofInt 1).toInt = 1 from by decide) (by omega) (by omega)
    refine lv_goto (tgt := 121) hx hb dX1_init_143 (by decide) ?_
    refine W.widen (k := 150 + 2 * (i + 1)) (n := 900 + 5 * (i + 1)) (by omega) (by omega) ?_
    refine ih (i + 1) x2 _ H locs ls (by omega) (by omega) (by omega) f0 f2 f4 f6 f8 p12 p13 p17 p18 p22 p23 p27 p28 (fun j hj => ?_) (fun j hj => ?_) hF1 hS hl
    · rw [show x.toNatClampNeg = i from by show x.toInt.toNat = i; omega]
      by_cases e9 : j = i
      · subst e9; simp [va_up]
      · simp [va_up, e9]; exact hgg j (by omega)
    · by_cases e9 : j = i
      · subst e9; exact ⟨p38, p39⟩
      · exact hF2 j (by omega)
set_option maxHeartbeats 40000000 in
set_option maxRecDepth 100000 in
theorem W1_init (l : Launch) (κ : Kt) (this : Nat) (src : Nat) : XC l yX1_init cX1_init 3 3 52 246 1140 [.ref this, .ref src] κ [this] (fun H => va_at κ.1 vwCl (this, .inr (1, [.null, .null, .null, .null, .null, .int 0, .null, .int 0, .int 0, .int 0, .null, .null, .null])) H) (fun sz su H => H.size = sz + 246 ∧ va_at κ.1 vwCl (this, .inr (1, [.ref src, .ref (sz + 0), .ref (sz + 1), .ref (sz + 2), .ref (sz + 3), .int 0, .ref (sz + 4), .int 0, .int 0, .int 0, .ref (sz + 6), .ref (sz + 8), .ref (sz + 10)])) H ∧ va_at κ.1 vwCl ((sz + 0), .inl (kA κ 4, 48, .inr (.inr (.inr (.inr (fun j => some (sz + (150 + 2 * j)))))))) H ∧ va_at κ.1 vwCl ((sz + 1), .inl (kA κ 1, 48, .inr (.inl (fun _ => 0)))) H ∧ va_at κ.1 vwCl ((sz + 2), .inl (kA κ 0, 48, .inl (fun _ => 0))) H ∧ va_at κ.1 vwCl ((sz + 3), .inl (kA κ 5, 46, .inr (.inr (.inr (.inr (fun j => some (sz + (12 + 3 * j)))))))) H ∧ va_at κ.1 vwCl ((sz + 4), .inr (4, [.ref (sz + 5), .int 0, .int 0])) H ∧ va_at κ.1 vwCl ((sz + 5), .inl (kA κ 0, 2, .inl (fun _ => 0))) H ∧ va_at κ.1 vwCl ((sz + 6), .inr (4, [.ref (sz + 7), .int 1, .int 0])) H ∧ va_at κ.1 vwCl ((sz + 7), .inl (kA κ 0, 2, .inl (upd ((upd ((fun _ => 0)) 0 1)) 1 0))) H ∧ va_at κ.1 vwCl ((sz + 8), .inr (4, [.ref (sz + 9), .int 0, .int 0])) H ∧ va_at κ.1 vwCl ((sz + 9), .inl (kA κ 0, 2, .inl (fun _ => 0))) H ∧ va_at κ.1 vwCl ((sz + 10), .inr (4, [.ref (sz + 11), .int 0, .int 0])) H ∧ va_at κ.1 vwCl ((sz + 11), .inl (kA κ 0, 2, .inl (fun _ => 0))) H ∧ (∀ j, j < 46 → va_at κ.1 vwCl (sz + (12 + 3 * j), .inr (2, [.int 0, .int 0, .int 0, .long 0, .long 0, .long 0, .long 0, .int 0, .int 0, .ref (sz + (12 + 3 * j) + 1)])) H ∧ va_at κ.1 vwCl (sz + (12 + 3 * j) + 1, .inr (4, [.ref (sz + (12 + 3 * j) + 2), .int 0, .int 0])) H ∧ va_at κ.1 vwCl (sz + (12 + 3 * j) + 2, .inl (kA κ 0, 2, .inl (fun _ => 0))) H) ∧ (∀ j, j < 48 → va_at κ.1 vwCl (sz + (150 + 2 * j), .inr (4, [.ref (sz + (150 + 2 * j) + 1), .int 0, .int 0])) H ∧ va_at κ.1 vwCl (sz + (150 + 2 * j) + 1, .inl (kA κ 0, 2, .inl (fun _ => 0))) H)) := by
  refine XC.of (by decide +kernel) (Nat.le_of_ble_eq_true rfl) ?_
  intro p e s m below meth c ls hcs hpre hK hX hS hl
  obtain ⟨hx, hb, hr, hml, hown, hg, hlocks, hin⟩ := hcs
  have hown : s.vm.findClass RX1 = some m.cls := hown
  have hl : lv_has ls 3 [(0, .ref this), (1, .ref src)] := hl
  have f0 := hpre
  generalize hQ9 : MQ below _ _ s _ _ _ = Q9
  have lt_this : this < s.heap.size := f0.lt
  have hz : s.heap.size = s.heap.size + 0 := rfl
  refine lv_aload_n hx hb dX1_init_0 rfl (lv_at hl 0 rfl) ?_
  refine W.objInit hx hb hown (hg _ k199) (hg _ k111) (hg _ k112) rfl (by rw [hml]; exact hl.1) rfl dX1_init_1 (Nat.le_of_ble_eq_true rfl) (Nat.le_of_ble_eq_true rfl) ?_
  refine W.eq (g2 := F0 m 4 ls []) rfl ?_
  refine lv_aload_n hx hb dX1_init_4 rfl (lv_at hl 0 rfl) ?_
  refine lv_bipush (v := 48) hx hb dX1_init_5 (by decide) ?_
  refine xnewq 4 (k := 48) (N := 48) hx hb hown (hg _ k200) (XX_aoRX4 hX.1) hK rfl hS (by decide) (by decide) (Nat.le_of_ble_eq_true rfl) (Nat.le_of_ble_eq_true rfl) (Nat.le_of_ble_eq_true rfl) dX1_init_7 (fun n1 H e9 g f2 hS2 => ?_)
  replace hS := hS2
  clear hS2
  replace f0 := g.kept f0
  obtain rfl : n1 = s.heap.size + 0 := by omega
  replace hz : H.size = s.heap.size + 1 := by have := g.1; omega
  clear g
  refine xputF (cn := 1) (v := .ref (s.heap.size + 0)) (ty := .array (.object "LiftingSignal$Whole")) (C := RX1) (T := TX1) (N := 13) hx hb hg inX1 tyX1 tyX1_ok nmX1 hown hK hS xA0 f0 rfl 1 (by decide) (hg _ k279) (fun _ h9 => h9) rfl hin rfl (by decide +kernel) rfl rfl (Nat.le_of_ble_eq_true rfl) dX1_init_10 (fun H locs g f0 hS2 => ?_)
  replace hS := hS2
  clear hS2
  replace f2 := g.kept f2 (show (s.heap.size + 0) ≠ this from (nt2 lt_this))
  replace f0 : va_at κ.1 vwCl (this, .inr (1, [.null, .ref (s.heap.size + 0), .null, .null, .null, .int 0, .null, .int 0, .int 0, .int 0, .null, .null, .null])) H := f0
  replace hz := g.1.trans hz
  clear g
  refine lv_aload_n hx hb dX1_init_13 rfl (lv_at hl 0 rfl) ?_
  refine lv_bipush (v := 48) hx hb dX1_init_14 (by decide) ?_
  refine xnewa 1 (atype := .long) (k := 48) (N := 48) (E := (48, .inr (.inl (fun _ => 0)))) hx hb (hg _ k219) hK rfl hS (by decide) (by decide) (Nat.le_of_ble_eq_true rfl) rfl (Nat.le_of_ble_eq_true rfl) (Nat.le_of_ble_eq_true rfl) dX1_init_16 (fun n3 H e9 g f4 hS2 => ?_)
  replace hS := hS2
  clear hS2
  replace f0 := g.kept f0
  replace f2 := g.kept f2
  obtain rfl : n3 = s.heap.size + 1 := by omega
  replace hz : H.size = s.heap.size + 2 := by have := g.1; omega
  clear g
  refine xputF (cn := 1) (v := .ref (s.heap.size + 1)) (ty := .array .long) (C := RX1) (T := TX1) (N := 13) hx hb hg inX1 tyX1 tyX1_ok nmX1 hown hK hS xA0 f0 rfl 2 (by decide) (hg _ k281) (fun _ h9 => h9) rfl hin rfl (by decide +kernel) rfl rfl (Nat.le_of_ble_eq_true rfl) dX1_init_18 (fun H locs g f0 hS2 => ?_)
  replace hS := hS2
  clear hS2
  replace f2 := g.kept f2 (show (s.heap.size + 0) ≠ this from (nt2 lt_this))
  replace f4 := g.kept f4 (show (s.heap.size + 1) ≠ this from (nt2 lt_this))
  replace f0 : va_at κ.1 vwCl (this, .inr (1, [.null, .ref (s.heap.size + 0), .ref (s.heap.size + 1), .null, .null, .int 0, .null, .int 0, .int 0, .int 0, .null, .null, .null])) H := f0
  replace hz := g.1.trans hz
  clear g
  refine lv_aload_n hx hb dX1_init_21 rfl (lv_at hl 0 rfl) ?_
  refine lv_bipush (v := 48) hx hb dX1_init_22 (by decide) ?_
  refine xnewa 0 (atype := .int) (k := 48) (N := 48) (E := (48, .inl (fun _ => 0))) hx hb (hg _ k193) hK rfl hS (by decide) (by decide) (Nat.le_of_ble_eq_true rfl) rfl (Nat.le_of_ble_eq_true rfl) (Nat.le_of_ble_eq_true rfl) dX1_init_24 (fun n5 H e9 g f6 hS2 => ?_)
  replace hS := hS2
  clear hS2
  replace f0 := g.kept f0
  replace f2 := g.kept f2
  replace f4 := g.kept f4
  obtain rfl : n5 = s.heap.size + 2 := by omega
  replace hz : H.size = s.heap.size + 3 := by have := g.1; omega
  clear g
  refine xputF (cn := 1) (v := .ref (s.heap.size + 2)) (ty := .array .int) (C := RX1) (T := TX1) (N := 13) hx hb hg inX1 tyX1 tyX1_ok nmX1 hown hK hS xA0 f0 rfl 3 (by decide) (hg _ k283) (fun _ h9 => h9) rfl hin rfl (by decide +kernel) rfl rfl (Nat.le_of_ble_eq_true rfl) dX1_init_26 (fun H locs g f0 hS2 => ?_)
  replace hS := hS2
  clear hS2
  replace f2 := g.kept f2 (show (s.heap.size + 0) ≠ this from (nt2 lt_this))
  replace f4 := g.kept f4 (show (s.heap.size + 1) ≠ this from (nt2 lt_this))
  replace f6 := g.kept f6 (show (s.heap.size + 2) ≠ this from (nt2 lt_this))
  replace f0 : va_at κ.1 vwCl (this, .inr (1, [.null, .ref (s.heap.size + 0), .ref (s.heap.size + 1), .ref (s.heap.size + 2), .null, .int 0, .null, .int 0, .int 0, .int 0, .null, .null, .null])) H := f0
  replace hz := g.1.trans hz
  clear g
  refine lv_aload_n hx hb dX1_init_29 rfl (lv_at hl 0 rfl) ?_
  refine lv_bipush (v := 46) hx hb dX1_init_30 (by decide) ?_
  refine xnewq 5 (k := 46) (N := 46) hx hb hown (hg _ k202) (XX_aoRX2 hX.1) hK rfl hS (by decide) (by decide) (Nat.le_of_ble_eq_true rfl) (Nat.le_of_ble_eq_true rfl) (Nat.le_of_ble_eq_true rfl) dX1_init_32 (fun n7 H e9 g f8 hS2 => ?_)
  replace hS := hS2
  clear hS2
  replace f0 := g.kept f0
  replace f2 := g.kept f2
  replace f4 := g.kept f4
  replace f6 := g.kept f6
  obtain rfl : n7 = s.heap.size + 3 := by omega
  replace hz : H.size = s.heap.size + 4 := by have := g.1; omega
  clear g
  refine xputF (cn := 1) (v := .ref (s.heap.size + 3)) (ty := .array (.object "LiftingSignal$Step")) (C := RX1) (T := TX1) (N := 13) hx hb hg inX1 tyX1 tyX1_ok nmX1 hown hK hS xA0 f0 rfl 4 (by decide) (hg _ k285) (fun _ h9 => h9) rfl hin rfl (by decide +kernel) rfl rfl (Nat.le_of_ble_eq_true rfl) dX1_init_35 (fun H locs g f0 hS2 => ?_)
  replace hS := hS2
  clear hS2
  replace f2 := g.kept f2 (show (s.heap.size + 0) ≠ this from (nt2 lt_this))
  replace f4 := g.kept f4 (show (s.heap.size + 1) ≠ this from (nt2 lt_this))
  replace f6 := g.kept f6 (show (s.heap.size + 2) ≠ this from (nt2 lt_this))
  replace f8 := g.kept f8 (show (s.heap.size + 3) ≠ this from (nt2 lt_this))
  replace f0 : va_at κ.1 vwCl (this, .inr (1, [.null, .ref (s.heap.size + 0), .ref (s.heap.size + 1), .ref (s.heap.size + 2), .ref (s.heap.size + 3), .int 0, .null, .int 0, .int 0, .int 0, .null, .null, .null])) H := f0
  replace hz := g.1.trans hz
  clear g
  refine lv_aload_n hx hb dX1_init_38 rfl (lv_at hl 0 rfl) ?_
  refine lv_iconst (v := 0) hx hb dX1_init_39 (by decide) ?_
  refine xput (cn := 1) (v := .int 0) (ty := .int) (C := RX1) (T := TX1) (N := 13) hx hb hg inX1 tyX1 tyX1_ok nmX1 hown hK hS xA0 f0 rfl 5 (by decide) (hg _ k287) (fun _ h9 => h9) rfl (by decide +kernel) rfl rfl (Nat.le_of_ble_eq_true rfl) dX1_init_40 (fun H locs g f0 hS2 => ?_)
  replace hS := hS2
  clear hS2
  replace f2 := g.kept f2 (show (s.heap.size + 0) ≠ this from (nt2 lt_this))
  replace f4 := g.kept f4 (show (s.heap.size + 1) ≠ this from (nt2 lt_this))
  replace f6 := g.kept f6 (show (s.heap.size + 2) ≠ this from (nt2 lt_this))
  replace f8 := g.kept f8 (show (s.heap.size + 3) ≠ this from (nt2 lt_this))
  replace f0 : va_at κ.1 vwCl (this, .inr (1, [.null, .ref (s.heap.size + 0), .ref (s.heap.size + 1), .ref (s.heap.size + 2), .ref (s.heap.size + 3), .int 0, .null, .int 0, .int 0, .int 0, .null, .null, .null])) H := f0
  replace hz := g.1.trans hz
  clear g
  refine lv_aload_n hx hb dX1_init_43 rfl (lv_at hl 0 rfl) ?_
  refine xnew (ci := 4) (fs := [.null, .int 0, .int 0]) (C := RX4) (T := TX4) (N := 3) hx hb hg inX4 tyX4 tyX4_ok hown (hg _ k200) (hg _ k204) (hg _ k88) hK hS rfl nwX4 (Nat.le_of_ble_eq_true rfl) (Nat.le_of_ble_eq_true rfl) dX1_init_44 (fun n9 H e9 g f10 hS2 => ?_)
  replace hS := hS2
  clear hS2
  replace f0 := g.kept f0
  replace f2 := g.kept f2
  replace f4 := g.kept f4
  replace f6 := g.kept f6
  replace f8 := g.kept f8
  obtain rfl : n9 = s.heap.size + 4 := by omega
  replace hz : H.size = s.heap.size + 5 := by have := g.1; omega
  clear g
  refine lv_dup hx hb dX1_init_47 rfl ?_
  refine xcallN (n := 0) (As := []) (rest := [.ref (s.heap.size + 4), .ref this]) hx hb hml hown hg (W4_init l κ (s.heap.size + 4)) (mwI k207) ⟨by decide, by decide, by decide +kernel⟩ k88 (XX_nRX1_35 hX.1) k206 rfl ⟨(Nat.le_of_ble_eq_true rfl), (Nat.le_of_ble_eq_true rfl)⟩ f10 hK hS hX (xA_in (xA1 (Or.inr (by omega))) hS.1) rfl hl.1 rfl (Nat.le_of_ble_eq_true rfl) dX1_init_48 ⟨(Nat.le_of_ble_eq_true rfl), (Nat.le_of_ble_eq_true rfl)⟩ (fun H locs hp g hS2 => ?_)
  replace hS := hS2
  clear hS2
  replace f0 := g.kept f0 (show ¬ xA _ _ this from xA_no (nt1 lt_this) (lt1 lt_this hz))
  replace f2 := g.kept f2 (show ¬ xA _ _ (s.heap.size + 0) from xA_no (nk rfl) (lt2 hz rfl))
  replace f4 := g.kept f4 (show ¬ xA _ _ (s.heap.size + 1) from xA_no (nk rfl) (lt2 hz rfl))
  replace f6 := g.kept f6 (show ¬ xA _ _ (s.heap.size + 2) from xA_no (nk rfl) (lt2 hz rfl))
  replace f8 := g.kept f8 (show ¬ xA _ _ (s.heap.size + 3) from xA_no (nk rfl) (lt2 hz rfl))
  clear g
  obtain ⟨p11, p12, p13⟩ := hp
  rw [hz] at p11 p12 p13
  replace hz : H.size = s.heap.size + 6 := by omega
  replace p12 : va_at κ.1 vwCl ((s.heap.size + 4), .inr (4, [.ref (s.heap.size + 5), .int 0, .int 0])) H := p12
  replace p13 : va_at κ.1 vwCl ((s.heap.size + 5), .inl (kA κ 0, 2, .inl (fun _ => 0))) H := p13
  refine xputF (cn := 1) (v := .ref (s.heap.size + 4)) (ty := .object "LiftingSignal$Whole") (C := RX1) (T := TX1) (N := 13) hx hb hg inX1 tyX1 tyX1_ok nmX1 hown hK hS xA0 f0 rfl 6 (by decide) (hg _ k289) (fun _ h9 => h9) rfl hin rfl (by decide +kernel) rfl rfl (Nat.le_of_ble_eq_true rfl) dX1_init_51 (fun H locs g f0 hS2 => ?_)
  replace hS := hS2
  clear hS2
  replace f2 := g.kept f2 (show (s.heap.size + 0) ≠ this from (nt2 lt_this))
  replace f4 := g.kept f4 (show (s.heap.size + 1) ≠ this from (nt2 lt_this))
  replace f6 := g.kept f6 (show (s.heap.size + 2) ≠ this from (nt2 lt_this))
  replace f8 := g.kept f8 (show (s.heap.size + 3) ≠ this from (nt2 lt_this))
  replace p12 := g.kept p12 (show (s.heap.size + 4) ≠ this from (nt2 lt_this))
  replace p13 := g.kept p13 (show (s.heap.size + 5) ≠ this from (nt2 lt_this))
  replace f0 : va_at κ.1 vwCl (this, .inr (1, [.null, .ref (s.heap.size + 0), .ref (s.heap.size + 1), .ref (s.heap.size + 2), .ref (s.heap.size + 3), .int 0, .ref (s.heap.size + 4), .int 0, .int 0, .int 0, .null, .null, .null])) H := f0
  replace hz := g.1.trans hz
  clear g
  refine lv_aload_n hx hb dX1_init_54 rfl (lv_at hl 0 rfl) ?_
  refine xnew (ci := 4) (fs := [.null, .int 0, .int 0]) (C := RX4) (T := TX4) (N := 3) hx hb hg inX4 tyX4 tyX4_ok hown (hg _ k200) (hg _ k204) (hg _ k88) hK hS rfl nwX4 (Nat.le_of_ble_eq_true rfl) (Nat.le_of_ble_eq_true rfl) dX1_init_55 (fun n14 H e9 g f15 hS2 => ?_)
  replace hS := hS2
  clear hS2
  replace f0 := g.kept f0
  replace f2 := g.kept f2
  replace f4 := g.kept f4
  replace f6 := g.kept f6
  replace f8 := g.kept f8
  replace p12 := g.kept p12
  replace p13 := g.kept p13
  obtain rfl : n14 = s.heap.size + 6 := by omega
  replace hz : H.size = s.heap.size + 7 := by have := g.1; omega
  clear g
  refine lv_dup hx hb dX1_init_58 rfl ?_
  refine xcallN (n := 0) (As := []) (rest := [.ref (s.heap.size + 6), .ref this]) hx hb hml hown hg (W4_init l κ (s.heap.size + 6)) (mwI k207) ⟨by decide, by decide, by decide +kernel⟩ k88 (XX_nRX1_35 hX.1) k206 rfl ⟨(Nat.le_of_ble_eq_true rfl), (Nat.le_of_ble_eq_true rfl)⟩ f15 hK hS hX (xA_in (xA1 (Or.inr (by omega))) hS.1) rfl hl.1 rfl (Nat.le_of_ble_eq_true rfl) dX1_init_59 ⟨(Nat.le_of_ble_eq_true rfl), (Nat.le_of_ble_eq_true rfl)⟩ (fun H locs hp g hS2 => ?_)
  replace hS := hS2
  clear hS2
  replace f0 := g.kept f0 (show ¬ xA _ _ this from xA_no (nt1 lt_this) (lt1 lt_this hz))
  replace f2 := g.kept f2 (show ¬ xA _ _ (s.heap.size + 0) from xA_no (nk rfl) (lt2 hz rfl))
  replace f4 := g.kept f4 (show ¬ xA _ _ (s.heap.size + 1) from xA_no (nk rfl) (lt2 hz rfl))
  replace f6 := g.kept f6 (show ¬ xA _ _ (s.heap.size + 2) from xA_no (nk rfl) (lt2 hz rfl))
  replace f8 := g.kept f8 (show ¬ xA _ _ (s.heap.size + 3) from xA_no (nk rfl) (lt2 hz rfl))
  replace p12 := g.kept p12 (show ¬ xA _ _ (s.heap.size + 4) from xA_no (nk rfl) (lt2 hz rfl))
  replace p13 := g.kept p13 (show ¬ xA _ _ (s.heap.size + 5) from xA_no (nk rfl) (lt2 hz rfl))
  clear g
  obtain ⟨p16, p17, p18⟩ := hp
  rw [hz] at p16 p17 p18
  replace hz : H.size = s.heap.size + 8 := by omega
  replace p17 : va_at κ.1 vwCl ((s.heap.size + 6), .inr (4, [.ref (s.heap.size + 7), .int 0, .int 0])) H := p17
  replace p18 : va_at κ.1 vwCl ((s.heap.size + 7), .inl (kA κ 0, 2, .inl (fun _ => 0))) H := p18
  refine xputF (cn := 1) (v := .ref (s.heap.size + 6)) (ty := .object "LiftingSignal$Whole") (C := RX1) (T := TX1) (N := 13) hx hb hg inX1 tyX1 tyX1_ok nmX1 hown hK hS xA0 f0 rfl 10 (by decide) (hg _ k297) (fun _ h9 => h9) rfl hin rfl (by decide +kernel) rfl rfl (Nat.le_of_ble_eq_true rfl) dX1_init_62 (fun H locs g f0 hS2 => ?_)
  replace hS := hS2
  clear hS2
  replace f2 := g.kept f2 (show (s.heap.size + 0) ≠ this from (nt2 lt_this))
  replace f4 := g.kept f4 (show (s.heap.size + 1) ≠ this from (nt2 lt_this))
  replace f6 := g.kept f6 (show (s.heap.size + 2) ≠ this from (nt2 lt_this))
  replace f8 := g.kept f8 (show (s.heap.size + 3) ≠ this from (nt2 lt_this))
  replace p12 := g.kept p12 (show (s.heap.size + 4) ≠ this from (nt2 lt_this))
  replace p13 := g.kept p13 (show (s.heap.size + 5) ≠ this from (nt2 lt_this))
  replace p17 := g.kept p17 (show (s.heap.size + 6) ≠ this from (nt2 lt_this))
  replace p18 := g.kept p18 (show (s.heap.size + 7) ≠ this from (nt2 lt_this))
  replace f0 : va_at κ.1 vwCl (this, .inr (1, [.null, .ref (s.heap.size + 0), .ref (s.heap.size + 1), .ref (s.heap.size + 2), .ref (s.heap.size + 3), .int 0, .ref (s.heap.size + 4), .int 0, .int 0, .int 0, .ref (s.heap.size + 6), .null, .null])) H := f0
  replace hz := g.1.trans hz
  clear g
  refine lv_aload_n hx hb dX1_init_65 rfl (lv_at hl 0 rfl) ?_
  refine xnew (ci := 4) (fs := [.null, .int 0, .int 0]) (C := RX4) (T := TX4) (N := 3) hx hb hg inX4 tyX4 tyX4_ok hown (hg _ k200) (hg _ k204) (hg _ k88) hK hS rfl nwX4 (Nat.le_of_ble_eq_true rfl) (Nat.le_of_ble_eq_true rfl) dX1_init_66 (fun n19 H e9 g f20 hS2 => ?_)
  replace hS := hS2
  clear hS2
  replace f0 := g.kept f0
  replace f2 := g.kept f2
  replace f4 := g.kept f4
  replace f6 := g.kept f6
  replace f8 := g.kept f8
  replace p12 := g.kept p12
  replace p13 := g.kept p13
  replace p17 := g.kept p17
  replace p18 := g.kept p18
  obtain rfl : n19 = s.heap.size + 8 := by omega
  replace hz : H.size = s.heap.size + 9 := by have := g.1; omega
  clear g
  refine lv_dup hx hb dX1_init_69 rfl ?_
  refine xcallN (n := 0) (As := []) (rest := [.ref (s.heap.size + 8), .ref this]) hx hb hml hown hg (W4_init l κ (s.heap.size + 8)) (mwI k207) ⟨by decide, by decide, by decide +kernel⟩ k88 (XX_nRX1_35 hX.1) k206 rfl ⟨(Nat.le_of_ble_eq_true rfl), (Nat.le_of_ble_eq_true rfl)⟩ f20 hK hS hX (xA_in (xA1 (Or.inr (by omega))) hS.1) rfl hl.1 rfl (Nat.le_of_ble_eq_true rfl) dX1_init_70 ⟨(Nat.le_of_ble_eq_true rfl), (Nat.le_of_ble_eq_true rfl)⟩ (fun H locs hp g hS2 => ?_)
  replace hS := hS2
  clear hS2
  replace f0 := g.kept f0 (show ¬ xA _ _ this from xA_no (nt1 lt_this) (lt1 lt_this hz))
  replace f2 := g.kept f2 (show ¬ xA _ _ (s.heap.size + 0) from xA_no (nk rfl) (lt2 hz rfl))
  replace f4 := g.kept f4 (show ¬ xA _ _ (s.heap.size + 1) from xA_no (nk rfl) (lt2 hz rfl))
  replace f6 := g.kept f6 (show ¬ xA _ _ (s.heap.size + 2) from xA_no (nk rfl) (lt2 hz rfl))
  replace f8 := g.kept f8 (show ¬ xA _ _ (s.heap.size + 3) from xA_no (nk rfl) (lt2 hz rfl))
  replace p12 := g.kept p12 (show ¬ xA _ _ (s.heap.size + 4) from xA_no (nk rfl) (lt2 hz rfl))
  replace p13 := g.kept p13 (show ¬ xA _ _ (s.heap.size + 5) from xA_no (nk rfl) (lt2 hz rfl))
  replace p17 := g.kept p17 (show ¬ xA _ _ (s.heap.size + 6) from xA_no (nk rfl) (lt2 hz rfl))
  replace p18 := g.kept p18 (show ¬ xA _ _ (s.heap.size + 7) from xA_no (nk rfl) (lt2 hz rfl))
  clear g
  obtain ⟨p21, p22, p23⟩ := hp
  rw [hz] at p21 p22 p23
  replace hz : H.size = s.heap.size + 10 := by omega
  replace p22 : va_at κ.1 vwCl ((s.heap.size + 8), .inr (4, [.ref (s.heap.size + 9), .int 0, .int 0])) H := p22
  replace p23 : va_at κ.1 vwCl ((s.heap.size + 9), .inl (kA κ 0, 2, .inl (fun _ => 0))) H := p23
  refine xputF (cn := 1) (v := .ref (s.heap.size + 8)) (ty := .object "LiftingSignal$Whole") (C := RX1) (T := TX1) (N := 13) hx hb hg inX1 tyX1 tyX1_ok nmX1 hown hK hS xA0 f0 rfl 11 (by decide) (hg _ k298) (fun _ h9 => h9) rfl hin rfl (by decide +kernel) rfl rfl (Nat.le_of_ble_eq_true rfl) dX1_init_73 (fun H locs g f0 hS2 => ?_)
  replace hS := hS2
  clear hS2
  replace f2 := g.kept f2 (show (s.heap.size + 0) ≠ this from (nt2 lt_this))
  replace f4 := g.kept f4 (show (s.heap.size + 1) ≠ this from (nt2 lt_this))
  replace f6 := g.kept f6 (show (s.heap.size + 2) ≠ this from (nt2 lt_this))
  replace f8 := g.kept f8 (show (s.heap.size + 3) ≠ this from (nt2 lt_this))
  replace p12 := g.kept p12 (show (s.heap.size + 4) ≠ this from (nt2 lt_this))
  replace p13 := g.kept p13 (show (s.heap.size + 5) ≠ this from (nt2 lt_this))
  replace p17 := g.kept p17 (show (s.heap.size + 6) ≠ this from (nt2 lt_this))
  replace p18 := g.kept p18 (show (s.heap.size + 7) ≠ this from (nt2 lt_this))
  replace p22 := g.kept p22 (show (s.heap.size + 8) ≠ this from (nt2 lt_this))
  replace p23 := g.kept p23 (show (s.heap.size + 9) ≠ this from (nt2 lt_this))
  replace f0 : va_at κ.1 vwCl (this, .inr (1, [.null, .ref (s.heap.size + 0), .ref (s.heap.size + 1), .ref (s.heap.size + 2), .ref (s.heap.size + 3), .int 0, .ref (s.heap.size + 4), .int 0, .int 0, .int 0, .ref (s.heap.size + 6), .ref (s.heap.size + 8), .null])) H := f0
  replace hz := g.1.trans hz
  clear g
  refine lv_aload_n hx hb dX1_init_76 rfl (lv_at hl 0 rfl) ?_
  refine xnew (ci := 4) (fs := [.null, .int 0, .int 0]) (C := RX4) (T := TX4) (N := 3) hx hb hg inX4 tyX4 tyX4_ok hown (hg _ k200) (hg _ k204) (hg _ k88) hK hS rfl nwX4 (Nat.le_of_ble_eq_true rfl) (Nat.le_of_ble_eq_true rfl) dX1_init_77 (fun n24 H e9 g f25 hS2 => ?_)
  replace hS := hS2
  clear hS2
  replace f0 := g.kept f0
  replace f2 := g.kept f2
  replace f4 := g.kept f4
  replace f6 := g.kept f6
  replace f8 := g.kept f8
  replace p12 := g.kept p12
  replace p13 := g.kept p13
  replace p17 := g.kept p17
  replace p18 := g.kept p18
  replace p22 := g.kept p22
  replace p23 := g.kept p23
  obtain rfl : n24 = s.heap.size + 10 := by omega
  replace hz : H.size = s.heap.size + 11 := by have := g.1; omega
  clear g
  refine lv_dup hx hb dX1_init_80 rfl ?_
  refine xcallN (n := 0) (As := []) (rest := [.ref (s.heap.size + 10), .ref this]) hx hb hml hown hg (W4_init l κ (s.heap.size + 10)) (mwI k207) ⟨by decide, by decide, by decide +kernel⟩ k88 (XX_nRX1_35 hX.1) k206 rfl ⟨(Nat.le_of_ble_eq_true rfl), (Nat.le_of_ble_eq_true rfl)⟩ f25 hK hS hX (xA_in (xA1 (Or.inr (by omega))) hS.1) rfl hl.1 rfl (Nat.le_of_ble_eq_true rfl) dX1_init_81 ⟨(Nat.le_of_ble_eq_true rfl), (Nat.le_of_ble_eq_true rfl)⟩ (fun H locs hp g hS2 => ?_)
  replace hS := hS2
  clear hS2
  replace f0 := g.kept f0 (show ¬ xA _ _ this from xA_no (nt1 lt_this) (lt1 lt_this hz))
  replace f2 := g.kept f2 (show ¬ xA _ _ (s.heap.size + 0) from xA_no (nk rfl) (lt2 hz rfl))
  replace f4 := g.kept f4 (show ¬ xA _ _ (s.heap.size + 1) from xA_no (nk rfl) (lt2 hz rfl))
  replace f6 := g.kept f6 (show ¬ xA _ _ (s.heap.size + 2) from xA_no (nk rfl) (lt2 hz rfl))
  replace f8 := g.kept f8 (show ¬ xA _ _ (s.heap.size + 3) from xA_no (nk rfl) (lt2 hz rfl))
  replace p12 := g.kept p12 (show ¬ xA _ _ (s.heap.size + 4) from xA_no (nk rfl) (lt2 hz rfl))
  replace p13 := g.kept p13 (show ¬ xA _ _ (s.heap.size + 5) from xA_no (nk rfl) (lt2 hz rfl))
  replace p17 := g.kept p17 (show ¬ xA _ _ (s.heap.size + 6) from xA_no (nk rfl) (lt2 hz rfl))
  replace p18 := g.kept p18 (show ¬ xA _ _ (s.heap.size + 7) from xA_no (nk rfl) (lt2 hz rfl))
  replace p22 := g.kept p22 (show ¬ xA _ _ (s.heap.size + 8) from xA_no (nk rfl) (lt2 hz rfl))
  replace p23 := g.kept p23 (show ¬ xA _ _ (s.heap.size + 9) from xA_no (nk rfl) (lt2 hz rfl))
  clear g
  obtain ⟨p26, p27, p28⟩ := hp
  rw [hz] at p26 p27 p28
  replace hz : H.size = s.heap.size + 12 := by omega
  replace p27 : va_at κ.1 vwCl ((s.heap.size + 10), .inr (4, [.ref (s.heap.size + 11), .int 0, .int 0])) H := p27
  replace p28 : va_at κ.1 vwCl ((s.heap.size + 11), .inl (kA κ 0, 2, .inl (fun _ => 0))) H := p28
  refine xputF (cn := 1) (v := .ref (s.heap.size + 10)) (ty := .object "LiftingSignal$Whole") (C := RX1) (T := TX1) (N := 13) hx hb hg inX1 tyX1 tyX1_ok nmX1 hown hK hS xA0 f0 rfl 12 (by decide) (hg _ k299) (fun _ h9 => h9) rfl hin rfl (by decide +kernel) rfl rfl (Nat.le_of_ble_eq_true rfl) dX1_init_84 (fun H locs g f0 hS2 => ?_)
  replace hS := hS2
  clear hS2
  replace f2 := g.kept f2 (show (s.heap.size + 0) ≠ this from (nt2 lt_this))
  replace f4 := g.kept f4 (show (s.heap.size + 1) ≠ this from (nt2 lt_this))
  replace f6 := g.kept f6 (show (s.heap.size + 2) ≠ this from (nt2 lt_this))
  replace f8 := g.kept f8 (show (s.heap.size + 3) ≠ this from (nt2 lt_this))
  replace p12 := g.kept p12 (show (s.heap.size + 4) ≠ this from (nt2 lt_this))
  replace p13 := g.kept p13 (show (s.heap.size + 5) ≠ this from (nt2 lt_this))
  replace p17 := g.kept p17 (show (s.heap.size + 6) ≠ this from (nt2 lt_this))
  replace p18 := g.kept p18 (show (s.heap.size + 7) ≠ this from (nt2 lt_this))
  replace p22 := g.kept p22 (show (s.heap.size + 8) ≠ this from (nt2 lt_this))
  replace p23 := g.kept p23 (show (s.heap.size + 9) ≠ this from (nt2 lt_this))
  replace p27 := g.kept p27 (show (s.heap.size + 10) ≠ this from (nt2 lt_this))
  replace p28 := g.kept p28 (show (s.heap.size + 11) ≠ this from (nt2 lt_this))
  replace f0 : va_at κ.1 vwCl (this, .inr (1, [.null, .ref (s.heap.size + 0), .ref (s.heap.size + 1), .ref (s.heap.size + 2), .ref (s.heap.size + 3), .int 0, .ref (s.heap.size + 4), .int 0, .int 0, .int 0, .ref (s.heap.size + 6), .ref (s.heap.size + 8), .ref (s.heap.size + 10)])) H := f0
  replace hz := g.1.trans hz
  clear g
  refine lv_aload_n hx hb dX1_init_87 rfl (lv_at hl 0 rfl) ?_
  refine lv_aload_n hx hb dX1_init_88 rfl (lv_at hl 1 rfl) ?_
  refine xputF (cn := 1) (v := .ref src) (ty := .object "LiftingSignal$Source") (C := RX1) (T := TX1) (N := 13) hx hb hg inX1 tyX1 tyX1_ok nmX1 hown hK hS xA0 f0 rfl 0 (by decide) (hg _ k278) (fun _ h9 => h9) rfl hin rfl (by decide +kernel) rfl rfl (Nat.le_of_ble_eq_true rfl) dX1_init_89 (fun H locs g f0 hS2 => ?_)
  replace hS := hS2
  clear hS2
  replace f2 := g.kept f2 (show (s.heap.size + 0) ≠ this from (nt2 lt_this))
  replace f4 := g.kept f4 (show (s.heap.size + 1) ≠ this from (nt2 lt_this))
  replace f6 := g.kept f6 (show (s.heap.size + 2) ≠ this from (nt2 lt_this))
  replace f8 := g.kept f8 (show (s.heap.size + 3) ≠ this from (nt2 lt_this))
  replace p12 := g.kept p12 (show (s.heap.size + 4) ≠ this from (nt2 lt_this))
  replace p13 := g.kept p13 (show (s.heap.size + 5) ≠ this from (nt2 lt_this))
  replace p17 := g.kept p17 (show (s.heap.size + 6) ≠ this from (nt2 lt_this))
  replace p18 := g.kept p18 (show (s.heap.size + 7) ≠ this from (nt2 lt_this))
  replace p22 := g.kept p22 (show (s.heap.size + 8) ≠ this from (nt2 lt_this))
  replace p23 := g.kept p23 (show (s.heap.size + 9) ≠ this from (nt2 lt_this))
  replace p27 := g.kept p27 (show (s.heap.size + 10) ≠ this from (nt2 lt_this))
  replace p28 := g.kept p28 (show (s.heap.size + 11) ≠ this from (nt2 lt_this))
  replace f0 : va_at κ.1 vwCl (this, .inr (1, [.ref src, .ref (s.heap.size + 0), .ref (s.heap.size + 1), .ref (s.heap.size + 2), .ref (s.heap.size + 3), .int 0, .ref (s.heap.size + 4), .int 0, .int 0, .int 0, .ref (s.heap.size + 6), .ref (s.heap.size + 8), .ref (s.heap.size + 10)])) H := f0
  replace hz := g.1.trans hz
  clear g
  refine lv_iconst (v := 0) hx hb dX1_init_92 (by decide) ?_
  refine lv_istore_n (lv' := [(2, .int 0), (0, .ref this), (1, .ref src)]) hx hb dX1_init_93 rfl hl (by decide) rfl (fun ls hl => ?_)
  refine W1_init_lp94 l κ this src hx hb hml hown hg hin hK hX lt_this (fun gg H locs ls hz f0 f2 f4 f6 f8 p12 p13 p17 p18 p22 p23 p27 p28 hgg hF1  hS hl => ?_) 46 0 0 (fun _ => none) H locs ls rfl (by decide) hz f0 f2 f4 f6 f8 p12 p13 p17 p18 p22 p23 p27 p28 (fun j hj => absurd hj (Nat.not_lt_zero j)) (fun j hj => absurd hj (Nat.not_lt_zero j))  hS hl
  have f8 : va_at κ.1 vwCl ((s.heap.size + 3), .inl (kA κ 5, 46, .inr (.inr (.inr (.inr (fun j => some (s.heap.size + (12 + 3 * j)))))))) H := f8.refs hgg
  refine lv_iconst (v := 0) hx hb dX1_init_119 (by decide) ?_
  refine lv_istore_n (lv' := [(2, .int 0), (0, .ref this), (1, .ref src)]) hx hb dX1_init_120 rfl hl (by decide) rfl (fun ls hl => ?_)
  refine W1_init_lp121 l κ this src hx hb hml hown hg hin hK hX lt_this (fun gg H locs ls hz f0 f2 f4 f6 f8 p12 p13 p17 p18 p22 p23 p27 p28 hgg hF2 hF1 hS hl => ?_) 48 0 0 (fun _ => none) H locs ls rfl (by decide) hz f0 f2 f4 f6 f8 p12 p13 p17 p18 p22 p23 p27 p28 (fun j hj => absurd hj (Nat.not_lt_zero j)) (fun j hj => absurd hj (Nat.not_lt_zero j)) hF1 hS hl
  have f2 : va_at κ.1 vwCl ((s.heap.size + 0), .inl (kA κ 4, 48, .inr (.inr (.inr (.inr (fun j => some (s.heap.size + (150 + 2 * j)))))))) H := f2.refs hgg
  refine lv_aload_n hx hb dX1_init_146 rfl (lv_at hl 0 rfl) ?_
  refine va_get (D := κ.1) (ci := 1) (v := .ref (s.heap.size + 6)) (C := RX1) (T := TX1) (N := 13) hx hb hg inX1 hown hK f0.one 0 rfl rfl 10 (by decide) (hg _ k297) (fun _ h9 => h9) rfl dX1_init_147 ?_
  refine lv_lconst (v := 1) hx hb dX1_init_150 (by decide) ?_
  refine xcallX (n := 1) (As := [.long 1]) (rest := []) hx hb hml hown hg (W4_become1 l κ (s.heap.size + 6) (s.heap.size + 7) (by omega)) (mwV k274 k275 k276 k88 k277) ⟨rfl, by decide, by decide, by decide +kernel⟩ ⟨(Nat.le_of_ble_eq_true rfl), (Nat.le_of_ble_eq_true rfl)⟩ ⟨p17, p18⟩ hK hS hX (xA_in (xA2 (Or.inr (by omega)) (Or.inr (by omega))) hS.1) p17 rfl rfl hl.1 rfl (Nat.le_of_ble_eq_true rfl) dX1_init_151 ⟨(Nat.le_of_ble_eq_true rfl), (Nat.le_of_ble_eq_true rfl)⟩ (fun H locs hp g hS2 => ?_)
  replace hS := hS2
  clear hS2
  replace f0 := g.kept f0 (show ¬ xA _ _ this from xA_no2 (nt1 lt_this) (nt1 lt_this) (lt1 lt_this hz))
  replace f2 := g.kept f2 (show ¬ xA _ _ (s.heap.size + 0) from xA_no2 (nk rfl) (nk rfl) (lt2 hz rfl))
  replace f4 := g.kept f4 (show ¬ xA _ _ (s.heap.size + 1) from xA_no2 (nk rfl) (nk rfl) (lt2 hz rfl))
  replace f6 := g.kept f6 (show ¬ xA _ _ (s.heap.size + 2) from xA_no2 (nk rfl) (nk rfl) (lt2 hz rfl))
  replace f8 := g.kept f8 (show ¬ xA _ _ (s.heap.size + 3) from xA_no2 (nk rfl) (nk rfl) (lt2 hz rfl))
  replace p12 := g.kept p12 (show ¬ xA _ _ (s.heap.size + 4) from xA_no2 (nk rfl) (nk rfl) (lt2 hz rfl))
  replace p13 := g.kept p13 (show ¬ xA _ _ (s.heap.size + 5) from xA_no2 (nk rfl) (nk rfl) (lt2 hz rfl))
  replace p22 := g.kept p22 (show ¬ xA _ _ (s.heap.size + 8) from xA_no2 (nk rfl) (nk rfl) (lt2 hz rfl))
  replace p23 := g.kept p23 (show ¬ xA _ _ (s.heap.size + 9) from xA_no2 (nk rfl) (nk rfl) (lt2 hz rfl))
  replace p27 := g.kept p27 (show ¬ xA _ _ (s.heap.size + 10) from xA_no2 (nk rfl) (nk rfl) (lt2 hz rfl))
  replace p28 := g.kept p28 (show ¬ xA _ _ (s.heap.size + 11) from xA_no2 (nk rfl) (nk rfl) (lt2 hz rfl))
  replace hF1 : ∀ j, j < 46 → va_at κ.1 vwCl (s.heap.size + (12 + 3 * j), .inr (2, [.int 0, .int 0, .int 0, .long 0, .long 0, .long 0, .long 0, .int 0, .int 0, .ref (s.heap.size + (12 + 3 * j) + 1)])) H ∧ va_at κ.1 vwCl (s.heap.size + (12 + 3 * j) + 1, .inr (4, [.ref (s.heap.size + (12 + 3 * j) + 2), .int 0, .int 0])) H ∧ va_at κ.1 vwCl (s.heap.size + (12 + 3 * j) + 2, .inl (kA κ 0, 2, .inl (fun _ => 0))) H := fun j hj => ⟨g.kept (hF1 j hj).1 (show ¬ xA _ _ (s.heap.size + (12 + 3 * j)) from xA_no2 (by omega) (by omega) (by omega)), g.kept (hF1 j hj).2.1 (show ¬ xA _ _ (s.heap.size + (12 + 3 * j) + 1) from xA_no2 (by omega) (by omega) (by omega)), g.kept (hF1 j hj).2.2 (show ¬ xA _ _ (s.heap.size + (12 + 3 * j) + 2) from xA_no2 (by omega) (by omega) (by omega))⟩
  replace hF2 : ∀ j, j < 48 → va_at κ.1 vwCl (s.heap.size + (150 + 2 * j), .inr (4, [.ref (s.heap.size + (150 + 2 * j) + 1), .int 0, .int 0])) H ∧ va_at κ.1 vwCl (s.heap.size + (150 + 2 * j) + 1, .inl (kA κ 0, 2, .inl (fun _ => 0))) H := fun j hj => ⟨g.kept (hF2 j hj).1 (show ¬ xA _ _ (s.heap.size + (150 + 2 * j)) from xA_no2 (by omega) (by omega) (by omega)), g.kept (hF2 j hj).2 (show ¬ xA _ _ (s.heap.size + (150 + 2 * j) + 1) from xA_no2 (by omega) (by omega) (by omega))⟩
  clear g
  obtain ⟨p40, p41, p42⟩ := hp
  rw [hz] at p40
  replace hz : H.size = s.heap.size + 246 := by omega
  replace p41 : va_at κ.1 vwCl ((s.heap.size + 6), .inr (4, [.ref (s.heap.size + 7), .int 1, .int 0])) H := p41
  replace p42 : va_at κ.1 vwCl ((s.heap.size + 7), .inl (kA κ 0, 2, .inl (upd ((upd ((fun _ => 0)) 0 1)) 1 0))) H := p42
  subst hQ9
  exact xret (Post := (fun sz su H => H.size = sz + 246 ∧ va_at κ.1 vwCl (this, .inr (1, [.ref src, .ref (sz + 0), .ref (sz + 1), .ref (sz + 2), .ref (sz + 3), .int 0, .ref (sz + 4), .int 0, .int 0, .int 0, .ref (sz + 6), .ref (sz + 8), .ref (sz + 10)])) H ∧ va_at κ.1 vwCl ((sz + 0), .inl (kA κ 4, 48, .inr (.inr (.inr (.inr (fun j => some (sz + (150 + 2 * j)))))))) H ∧ va_at κ.1 vwCl ((sz + 1), .inl (kA κ 1, 48, .inr (.inl (fun _ => 0)))) H ∧ va_at κ.1 vwCl ((sz + 2), .inl (kA κ 0, 48, .inl (fun _ => 0))) H ∧ va_at κ.1 vwCl ((sz + 3), .inl (kA κ 5, 46, .inr (.inr (.inr (.inr (fun j => some (sz + (12 + 3 * j)))))))) H ∧ va_at κ.1 vwCl ((sz + 4), .inr (4, [.ref (sz + 5), .int 0, .int 0])) H ∧ va_at κ.1 vwCl ((sz + 5), .inl (kA κ 0, 2, .inl (fun _ => 0))) H ∧ va_at κ.1 vwCl ((sz + 6), .inr (4, [.ref (sz + 7), .int 1, .int 0])) H ∧ va_at κ.1 vwCl ((sz + 7), .inl (kA κ 0, 2, .inl (upd ((upd ((fun _ => 0)) 0 1)) 1 0))) H ∧ va_at κ.1 vwCl ((sz + 8), .inr (4, [.ref (sz + 9), .int 0, .int 0])) H ∧ va_at κ.1 vwCl ((sz + 9), .inl (kA κ 0, 2, .inl (fun _ => 0))) H ∧ va_at κ.1 vwCl ((sz + 10), .inr (4, [.ref (sz + 11), .int 0, .int 0])) H ∧ va_at κ.1 vwCl ((sz + 11), .inl (kA κ 0, 2, .inl (fun _ => 0))) H ∧ (∀ j, j < 46 → va_at κ.1 vwCl (sz + (12 + 3 * j), .inr (2, [.int 0, .int 0, .int 0, .long 0, .long 0, .long 0, .long 0, .int 0, .int 0, .ref (sz + (12 + 3 * j) + 1)])) H ∧ va_at κ.1 vwCl (sz + (12 + 3 * j) + 1, .inr (4, [.ref (sz + (12 + 3 * j) + 2), .int 0, .int 0])) H ∧ va_at κ.1 vwCl (sz + (12 + 3 * j) + 2, .inl (kA κ 0, 2, .inl (fun _ => 0))) H) ∧ (∀ j, j < 48 → va_at κ.1 vwCl (sz + (150 + 2 * j), .inr (4, [.ref (sz + (150 + 2 * j) + 1), .int 0, .int 0])) H ∧ va_at κ.1 vwCl (sz + (150 + 2 * j) + 1, .inl (kA κ 0, 2, .inl (fun _ => 0))) H))) hx hb hr hlocks hS ⟨by omega, f0, f2, f4, f6, f8, p12, p13, p41, p42, p22, p23, p27, p28, hF1, hF2⟩ (Nat.le_of_ble_eq_true rfl) (Nat.le_of_ble_eq_true rfl) dX1_init_154
