/-! The constructor of LiftingSignal: what its text and slots are -/
set_option maxHeartbeats 40000000 in
set_option maxRecDepth 100000 in
theorem W5r_init_c143 (l : Launch) (κ : Kt) (this : Nat) {p : Program} {e : Env} {s : State} {m : MethodId} {below : List Frame} {meth : Method} {c : Code} (hx : p.tables.exec = Jvm.exec) (hb : c.code = cX5_init) (hr : meth.sig.returnType = none) (hml : c.maxLocals = 1) (hown : s.vm.findClass RX5 = some m.cls) (hg : ∀ w ∈ GW, w.before ([.ref this] : List Value).toArray s = true) (hlocks : meth.locks = false) (hin : meth.name = "<init>") (hK : va_K κ.1 vwCl (kTy κ) s) (hX : XY κ (xA [this] s.heap.size) s s.heap) (lt_this : this < s.heap.size) {H : Heap} {locs : List Loc} {ls : Array Slot} (hz : H.size = s.heap.size + 998) (f0 : va_at κ.1 vwCl (this, .inr (5, [.ref (s.heap.size + 0), .ref (s.heap.size + 2), .ref (s.heap.size + 5), .ref (s.heap.size + 8), .ref (s.heap.size + 255), .ref (s.heap.size + 502), .ref (s.heap.size + 997), .int 0, .int 0, .int (-1)])) H) (p4 : va_at κ.1 vwCl ((s.heap.size + 0), .inr (3, [.ref (s.heap.size + 1), .int 0, .int 0, .int (-1), .int 0, .int 0, .int 0, .int 0])) H) (p5 : va_at κ.1 vwCl ((s.heap.size + 1), .inl (kA κ 2, 700, .inl (fun _ => 0))) H) (p39 : va_at κ.1 vwCl ((s.heap.size + 2), .inr (0, [.ref (s.heap.size + 3), .ref (s.heap.size + 4), .int 2, .int 0, .int 2, .int 1, .int 2])) H) (p40 : va_at κ.1 vwCl ((s.heap.size + 3), .inl (kA κ 0, 48, .inl (upd ((upd ((fun _ => 0)) 0 0)) 1 1))) H) (p41 : va_at κ.1 vwCl ((s.heap.size + 4), .inl (kA κ 0, 48, .inl (upd ((upd ((fun _ => 0)) 0 0)) 1 0))) H) (p15 : va_at κ.1 vwCl ((s.heap.size + 5), .inr (0, [.ref (s.heap.size + 6), .ref (s.heap.size + 7), .int 0, .int 0, .int 2, .int 1, .int 2])) H) (p16 : va_at κ.1 vwCl ((s.heap.size + 6), .inl (kA κ 0, 48, .inl (fun _ => 0))) H) (p17 : va_at κ.1 vwCl ((s.heap.size + 7), .inl (kA κ 0, 48, .inl (fun _ => 0))) H) (p20 : va_at κ.1 vwCl ((s.heap.size + 8), .inr (1, [.ref (s.heap.size + 2), .ref (s.heap.size + 9 + 0), .ref (s.heap.size + 9 + 1), .ref (s.heap.size + 9 + 2), .ref (s.heap.size + 9 + 3), .int 0, .ref (s.heap.size + 9 + 4), .int 0, .int 0, .int 0, .ref (s.heap.size + 9 + 6), .ref (s.heap.size + 9 + 8), .ref (s.heap.size + 9 + 10)])) H) (p23 : va_at κ.1 vwCl ((s.heap.size + 255), .inr (1, [.ref (s.heap.size + 2), .ref (s.heap.size + 256 + 0), .ref (s.heap.size + 256 + 1), .ref (s.heap.size + 256 + 2), .ref (s.heap.size + 256 + 3), .int 0, .ref (s.heap.size + 256 + 4), .int 0, .int 0, .int 0, .ref (s.heap.size + 256 + 6), .ref (s.heap.size + 256 + 8), .ref (s.heap.size + 256 + 10)])) H) (f25 : va_at κ.1 vwCl ((s.heap.size + 502), .inl (kA κ 6, 2, .inr (.inr (.inr (.inr (va_up (va_up (fun _ => none) 0 (some (s.heap.size + 503))) 1 (some (s.heap.size + 750)))))))) H) (p28 : va_at κ.1 vwCl ((s.heap.size + 503), .inr (1, [.ref (s.heap.size + 2), .ref (s.heap.size + 504 + 0), .ref (s.heap.size + 504 + 1), .ref (s.heap.size + 504 + 2), .ref (s.heap.size + 504 + 3), .int 0, .ref (s.heap.size + 504 + 4), .int 0, .int 0, .int 0, .ref (s.heap.size + 504 + 6), .ref (s.heap.size + 504 + 8), .ref (s.heap.size + 504 + 10)])) H) (p31 : va_at κ.1 vwCl ((s.heap.size + 750), .inr (1, [.ref (s.heap.size + 2), .ref (s.heap.size + 751 + 0), .ref (s.heap.size + 751 + 1), .ref (s.heap.size + 751 + 2), .ref (s.heap.size + 751 + 3), .int 0, .ref (s.heap.size + 751 + 4), .int 0, .int 0, .int 0, .ref (s.heap.size + 751 + 6), .ref (s.heap.size + 751 + 8), .ref (s.heap.size + 751 + 10)])) H) (f33 : va_at κ.1 vwCl ((s.heap.size + 997), .inl (kA κ 3, 2, .inl (fun _ => 0))) H) (T9 : TI (kst κ (s.heap.size + 9)) (gst (s.heap.size + 9)) H) (T256 : TI (kst κ (s.heap.size + 256)) (gst (s.heap.size + 256)) H) (T504 : TI (kst κ (s.heap.size + 504)) (gst (s.heap.size + 504)) H) (T751 : TI (kst κ (s.heap.size + 751)) (gst (s.heap.size + 751)) H) (hS : va_S (xA [this] s.heap.size) s.heap H locs) (hl : lv_has ls 1 [(0, .ref this)]) : W p l e { frames := 4, cells := 375248, slots := 4502060, locals := 110 } s m ([.ref this] : List Value).toArray below meth c H locs 998 5530 (MQ below (va_Qv (fun _ : Unit => True) (fun _ t => (fun sz su H => ∃ (κ' : Kt) (τ : Gh), TI κ' τ H ∧ CAP κ' τ H ∧ (κ'.1 = κ.1 ∧ κ'.2.1 = κ.2.1 ∧ κ'.2.2.2.2.2.2 = κ.2.2.2.2.2.2) ∧ kC κ' = sz + 375248 ∧ kS κ' ≤ su + 4496530 ∧ zT τ this = 7 ∧ zI τ (kR κ' this 0) 1 = 0 ∧ zI τ (kR κ' this 0) 2 = 0 ∧ zI τ (kR κ' this 0) 3 = -1 ∧ zI τ (kR κ' this 6) 0 = 0 ∧ zI τ (kR κ' this 6) 1 = 0 ∧ zI τ (kR κ' this 3) 7 = 0 ∧ zI τ (kR κ' this 3) 8 = 2 ∧ zI τ (kR κ' this 3) 9 = 1 ∧ DIS κ' this ∧ S9 κ' τ this ∧ ∀ q, zT τ q ≠ 0 → xA [this] sz q) s.heap.size (hsl s.heap) t.heap) (xA [this] s.heap.size)) ([.ref this] : List Value).toArray s 375248 4502060 (xA [this] s.heap.size)) (F0 m 143 ls []) := by
  refine lv_aload_n hx hb dX5_init_143 rfl (lv_at hl 0 rfl) ?_
  refine va_get (D := κ.1) (ci := 5) (v := .ref (s.heap.size + 8)) (C := RX5) (T := TX5) (N := 10) hx hb hg inX5 hown hK f0.one 0 rfl rfl 3 (by decide) (hg _ k382) (fun _ h9 => h9) rfl dX5_init_144 ?_
  obtain ⟨ka19, sa19, G19, kd8_9, kd7_9, kd0_9, it, r19, rs19, it2, it3, kd997_9, r6_9, ik0, ik1, hI9, hA9⟩ := W5_asmr lt_this p4 p5 p39 p40 p41 p15 p16 p17 p20 p23 f25 p28 p31 f33 f0 T9 T256 T504 T751
  obtain ⟨GT, ⟨gc1, gc2, gc3⟩, GP⟩ := G19
  refine W.tight (fun w1 w2 w3 w4 => ?_)
  obtain ⟨kz, hkz⟩ : ∃ z, z = kcap ka19 ((List.range 998).map (fun j => s.heap.size + j)) (s.heap.size + 375248) (hsl H + 4491000) := ⟨_, rfl⟩
  have hkC : kC kz = s.heap.size + 375248 := by rw [hkz]; rfl
  have hkS : kS kz = hsl H + 4491000 := by rw [hkz]; rfl
  have hc1 : kz.1 = κ.1 := by rw [hkz]; exact gc1
  have hc2 : kz.2.1 = κ.2.1 := by rw [hkz]; exact gc2
  have hc3 : kz.2.2.2.2.2.2 = κ.2.2.2.2.2.2 := by rw [hkz]; show ka19.2.2.2.2.2.2 = _; rw [gc3]
  have rz : kR kz this 0 = (s.heap.size + 0) := by rw [hkz]; exact r19
  have rs : kR kz this 3 = (s.heap.size + 8) := by rw [hkz]; exact rs19
  have r6 : kR kz this 6 = (s.heap.size + 997) := by rw [hkz]; exact r6_9
  have A9k : A9 kz s.heap.size this := by rw [hkz]; exact A9.cap hA9
  have hT : TI kz sa19 H := by rw [hkz]; exact GT.kcap
  have hL9 : ∀ a, zT sa19 a = 1 → a ∈ (List.range 998).map (fun j => s.heap.size + j) := fun a ha => by
    have h9 : (s.heap.size + 0 ≤ a ∧ a < s.heap.size + 998) ∨ a = this := GP a (by rw [ha]; decide)
    rcases h9 with h9 | h9
    · exact List.mem_map.mpr ⟨a - s.heap.size, List.mem_range.mpr (by omega), by omega⟩
    · rw [h9, kd7_9] at ha; exact absurd ha (by decide)
  have hCp : CAP kz sa19 H := by rw [hkz]; exact CAP.mk (n := 998) hL9 (by rw [List.length_map, List.length_range]; exact Nat.le_refl _) (by omega) (by omega)
  have hAq : ∀ q, tA sa19 H.size q → xA [this] s.heap.size q := fun q hq => by
    rcases hq with hq | hq
    · have h9 : (s.heap.size + 0 ≤ q ∧ q < s.heap.size + 998) ∨ q = this := GP q hq; exact h9.elim (fun h => Or.inr (by omega)) (fun h => Or.inl (List.mem_singleton.mpr h))
    · exact Or.inr (by omega)
  refine xcallV (n := 0) (As := []) (rest := []) hx hb hml hown hg (κ1 := kz) ⟨hc1, kTy_eq hc2, XY_eq hc3⟩ (X1_begin l kz sa19 (s.heap.size + 8) kd8_9) (mwV k332 k333 k334 k87 k335) ⟨rfl, by decide, by decide, by decide +kernel⟩ ⟨(Nat.le_of_ble_eq_true rfl), (Nat.le_of_ble_eq_true rfl)⟩ hT hCp hK hS hX hAq p20 rfl rfl hl.1 rfl (Nat.le_of_ble_eq_true rfl) dX5_init_147 ⟨by show _ ≤ (375248 : Nat); omega, by show _ ≤ (4502060 : Nat); omega⟩ (fun tb H locs hφ hE hT hCp g hS2 => ?_)
  replace hS := hS2
  clear hS2
  have kn8 : zT tb (s.heap.size + 8) = 3 := (hE.1 _ (by rw [kd8_9]; decide)).trans kd8_9
  have kt : zT tb this = 7 := (hE.1 _ (by rw [kd7_9]; decide)).trans kd7_9
  have kx : zT tb (s.heap.size + 0) = 6 := (hE.1 _ (by rw [kd0_9]; decide)).trans kd0_9
  have ix : zI tb (s.heap.size + 0) 1 = 0 := ((show zk sa19 (s.heap.size + 0) 6 from kd0_9).eI hE (by decide) rfl).trans it
  have k97 : zT tb (s.heap.size + 997) = 13 := (hE.1 _ (by rw [kd997_9]; decide)).trans kd997_9
  have jx2 : zI tb (s.heap.size + 0) 2 = 0 := ((show zk sa19 (s.heap.size + 0) 6 from kd0_9).eI hE (by decide) rfl).trans it2
  have jx3 : zI tb (s.heap.size + 0) 3 = -1 := ((show zk sa19 (s.heap.size + 0) 6 from kd0_9).eI hE (by decide) rfl).trans it3
  have I9b : I9 tb s.heap.size := hI9.ext hE rfl rfl rfl rfl rfl (fun _ => rfl) (fun _ => rfl)
  have iy0 : zI tb (s.heap.size + 997) 0 = 0 := ((show zk sa19 (s.heap.size + 997) 13 from kd997_9).eI hE (by decide) rfl).trans ik0
  have iy1 : zI tb (s.heap.size + 997) 1 = 0 := ((show zk sa19 (s.heap.size + 997) 13 from kd997_9).eI hE (by decide) rfl).trans ik1
  obtain ⟨x7, fo7, -⟩ := hT.at kt (by decide)
  have ft7 : va_at κ.1 vwCl (this, .inr (5, fs5 (kR kz this) (zI tb this))) H := by rw [← hc1]; exact fo7
  have suppb : ∀ q, zT tb q ≠ 0 → xA [this] s.heap.size q := fun q hq => by
    rcases hE.2.1 q hq with h | h
    · exact hAq q (Or.inl h)
    · exact Or.inr (by omega)
  refine lv_aload_n hx hb dX5_init_150 rfl (lv_at hl 0 rfl) ?_
  refine va_get (D := κ.1) (ci := 5) (v := .ref (s.heap.size + 8)) (C := RX5) (T := TX5) (N := 10) hx hb hg inX5 hown hK ft7.one 0 rfl rfl 3 (by decide) (hg _ k382) (fun _ h9 => h9) (congrArg (fun z => some (Value.ref z)) rs) dX5_init_151 ?_
  refine W.tight (fun v1 v2 v3 v4 => ?_)
  have hAq : ∀ q, tA tb H.size q → xA [this] s.heap.size q := fun q hq => hq.elim (fun h => suppb q h) (fun h => Or.inr (by omega))
  obtain ⟨x9, fo9, -⟩ := hT.at kn8 (by decide)
  refine xcallV (n := 0) (As := []) (rest := []) hx hb hml hown hg (κ1 := kz) ⟨hc1, kTy_eq hc2, XY_eq hc3⟩ (X1t_takeSettings l kz tb (s.heap.size + 8) kn8) (mwV k375 k376 k377 k87 k378) ⟨rfl, by decide, by decide, by decide +kernel⟩ ⟨(Nat.le_of_ble_eq_true rfl), (Nat.le_of_ble_eq_true rfl)⟩ hT hCp hK hS hX hAq (by rw [← hc1]; exact fo9) rfl rfl hl.1 rfl (Nat.le_of_ble_eq_true rfl) dX5_init_154 ⟨by show _ ≤ (375248 : Nat); omega, by show _ ≤ (4502060 : Nat); omega⟩ (fun tc H locs hφ hE hT hCp g hS2 => ?_)
  replace hS := hS2
  clear hS2
  have kt2 : zT tc this = 7 := (hE.1 _ (by rw [kt]; decide)).trans kt
  have ix2 : zI tc (s.heap.size + 0) 1 = 0 := ((show zk tb (s.heap.size + 0) 6 from kx).eI hE (by decide) rfl).trans ix
  have iz2 : zI tc (s.heap.size + 0) 2 = 0 := ((show zk tb (s.heap.size + 0) 6 from kx).eI hE (by decide) rfl).trans jx2
  have iz3 : zI tc (s.heap.size + 0) 3 = -1 := ((show zk tb (s.heap.size + 0) 6 from kx).eI hE (by decide) rfl).trans jx3
  have iy0 : zI tc (s.heap.size + 997) 0 = 0 := ((show zk tb (s.heap.size + 997) 13 from k97).eI hE (by decide) rfl).trans iy0
  have iy1 : zI tc (s.heap.size + 997) 1 = 0 := ((show zk tb (s.heap.size + 997) 13 from k97).eI hE (by decide) rfl).trans iy1
  obtain ⟨hs7, hs8, hs9, -⟩ := hφ
  have hS9 := I9.set A9k I9b rs hs7 hs8 hs9
  have hD9 : DIS kz this := dis9 (B := s.heap.size) rs A9k
  have hS9_ : S9 kz tc this := I9.s9 A9k (I9b.ext hE rfl rfl rfl rfl rfl (fun _ => rfl) (fun _ => rfl))
  have suppc : ∀ q, zT tc q ≠ 0 → xA [this] s.heap.size q := fun q hq => by
    rcases hE.2.1 q hq with h | h
    · exact hAq q (Or.inl h)
    · exact Or.inr (by omega)
  refine W.tight (fun y1 y2 y3 y4 => ?_)
  exact xret (Post := (fun sz su H => ∃ (κ' : Kt) (τ : Gh), TI κ' τ H ∧ CAP κ' τ H ∧ (κ'.1 = κ.1 ∧ κ'.2.1 = κ.2.1 ∧ κ'.2.2.2.2.2.2 = κ.2.2.2.2.2.2) ∧ kC κ' = sz + 375248 ∧ kS κ' ≤ su + 4496530 ∧ zT τ this = 7 ∧ zI τ (kR κ' this 0) 1 = 0 ∧ zI τ (kR κ' this 0) 2 = 0 ∧ zI τ (kR κ' this 0) 3 = -1 ∧ zI τ (kR κ' this 6) 0 = 0 ∧ zI τ (kR κ' this 6) 1 = 0 ∧ zI τ (kR κ' this 3) 7 = 0 ∧ zI τ (kR κ' this 3) 8 = 2 ∧ zI τ (kR κ' this 3) 9 = 1 ∧ DIS κ' this ∧ S9 κ' τ this ∧ ∀ q, zT τ q ≠ 0 → xA [this] sz q)) hx hb hr hlocks hS ⟨kz, tc, hT, hCp, ⟨hc1, hc2, hc3⟩, hkC, by omega, kt2, by rw [rz]; exact ix2, by rw [rz]; exact iz2, by rw [rz]; exact iz3, by rw [r6]; exact iy0, by rw [r6]; exact iy1, hS9.1, hS9.2.1, hS9.2.2, hD9, hS9_, suppc⟩ (by omega) (by omega) dX5_init_157
set_option maxHeartbeats 40000000 in
set_option maxRecDepth 100000 in
theorem W5r_init_c125 (l : Launch) (κ : Kt) (this : Nat) {p : Program} {e : Env} {s : State} {m : MethodId} {below : List Frame} {meth : Method} {c : Code} (hx : p.tables.exec = Jvm.exec) (hb : c.code = cX5_init) (hr : meth.sig.returnType = none) (hml : c.maxLocals = 1) (hown : s.vm.findClass RX5 = some m.cls) (hg : ∀ w ∈ GW, w.before ([.ref this] : List Value).toArray s = true) (hlocks : meth.locks = false) (hin : meth.name = "<init>") (hK : va_K κ.1 vwCl (kTy κ) s) (hX : XY κ (xA [this] s.heap.size) s s.heap) (lt_this : this < s.heap.size) {H : Heap} {locs : List Loc} {ls : Array Slot} (hz : H.size = s.heap.size + 998) (f0 : va_at κ.1 vwCl (this, .inr (5, [.ref (s.heap.size + 0), .ref (s.heap.size + 2), .ref (s.heap.size + 5), .ref (s.heap.size + 8), .ref (s.heap.size + 255), .ref (s.heap.size + 502), .ref (s.heap.size + 997), .int 0, .int 0, .int (-1)])) H) (p4 : va_at κ.1 vwCl ((s.heap.size + 0), .inr (3, [.ref (s.heap.size + 1), .int 0, .int 0, .int (-1), .int 0, .int 0, .int 0, .int 0])) H) (p5 : va_at κ.1 vwCl ((s.heap.size + 1), .inl (kA κ 2, 700, .inl (fun _ => 0))) H) (p9 : va_at κ.1 vwCl ((s.heap.size + 2), .inr (0, [.ref (s.heap.size + 3), .ref (s.heap.size + 4), .int 0, .int 0, .int 2, .int 1, .int 2])) H) (p10 : va_at κ.1 vwCl ((s.heap.size + 3), .inl (kA κ 0, 48, .inl (fun _ => 0))) H) (p11 : va_at κ.1 vwCl ((s.heap.size + 4), .inl (kA κ 0, 48, .inl (fun _ => 0))) H) (p15 : va_at κ.1 vwCl ((s.heap.size + 5), .inr (0, [.ref (s.heap.size + 6), .ref (s.heap.size + 7), .int 0, .int 0, .int 2, .int 1, .int 2])) H) (p16 : va_at κ.1 vwCl ((s.heap.size + 6), .inl (kA κ 0, 48, .inl (fun _ => 0))) H) (p17 : va_at κ.1 vwCl ((s.heap.size + 7), .inl (kA κ 0, 48, .inl (fun _ => 0))) H) (p20 : va_at κ.1 vwCl ((s.heap.size + 8), .inr (1, [.ref (s.heap.size + 2), .ref (s.heap.size + 9 + 0), .ref (s.heap.size + 9 + 1), .ref (s.heap.size + 9 + 2), .ref (s.heap.size + 9 + 3), .int 0, .ref (s.heap.size + 9 + 4), .int 0, .int 0, .int 0, .ref (s.heap.size + 9 + 6), .ref (s.heap.size + 9 + 8), .ref (s.heap.size + 9 + 10)])) H) (p23 : va_at κ.1 vwCl ((s.heap.size + 255), .inr (1, [.ref (s.heap.size + 2), .ref (s.heap.size + 256 + 0), .ref (s.heap.size + 256 + 1), .ref (s.heap.size + 256 + 2), .ref (s.heap.size + 256 + 3), .int 0, .ref (s.heap.size + 256 + 4), .int 0, .int 0, .int 0, .ref (s.heap.size + 256 + 6), .ref (s.heap.size + 256 + 8), .ref (s.heap.size + 256 + 10)])) H) (f25 : va_at κ.1 vwCl ((s.heap.size + 502), .inl (kA κ 6, 2, .inr (.inr (.inr (.inr (va_up (va_up (fun _ => none) 0 (some (s.heap.size + 503))) 1 (some (s.heap.size + 750)))))))) H) (p28 : va_at κ.1 vwCl ((s.heap.size + 503), .inr (1, [.ref (s.heap.size + 2), .ref (s.heap.size + 504 + 0), .ref (s.heap.size + 504 + 1), .ref (s.heap.size + 504 + 2), .ref (s.heap.size + 504 + 3), .int 0, .ref (s.heap.size + 504 + 4), .int 0, .int 0, .int 0, .ref (s.heap.size + 504 + 6), .ref (s.heap.size + 504 + 8), .ref (s.heap.size + 504 + 10)])) H) (p31 : va_at κ.1 vwCl ((s.heap.size + 750), .inr (1, [.ref (s.heap.size + 2), .ref (s.heap.size + 751 + 0), .ref (s.heap.size + 751 + 1), .ref (s.heap.size + 751 + 2), .ref (s.heap.size + 751 + 3), .int 0, .ref (s.heap.size + 751 + 4), .int 0, .int 0, .int 0, .ref (s.heap.size + 751 + 6), .ref (s.heap.size + 751 + 8), .ref (s.heap.size + 751 + 10)])) H) (f33 : va_at κ.1 vwCl ((s.heap.size + 997), .inl (kA κ 3, 2, .inl (fun _ => 0))) H) (T9 : TI (kst κ (s.heap.size + 9)) (gst (s.heap.size + 9)) H) (T256 : TI (kst κ (s.heap.size + 256)) (gst (s.heap.size + 256)) H) (T504 : TI (kst κ (s.heap.size + 504)) (gst (s.heap.size + 504)) H) (T751 : TI (kst κ (s.heap.size + 751)) (gst (s.heap.size + 751)) H) (hS : va_S (xA [this] s.heap.size) s.heap H locs) (hl : lv_has ls 1 [(0, .ref this)]) : W p l e { frames := 4, cells := 375248, slots := 4502060, locals := 110 } s m ([.ref this] : List Value).toArray below meth c H locs 998 5530 (MQ below (va_Qv (fun _ : Unit => True) (fun _ t => (fun sz su H => ∃ (κ' : Kt) (τ : Gh), TI κ' τ H ∧ CAP κ' τ H ∧ (κ'.1 = κ.1 ∧ κ'.2.1 = κ.2.1 ∧ κ'.2.2.2.2.2.2 = κ.2.2.2.2.2.2) ∧ kC κ' = sz + 375248 ∧ kS κ' ≤ su + 4496530 ∧ zT τ this = 7 ∧ zI τ (kR κ' this 0) 1 = 0 ∧ zI τ (kR κ' this 0) 2 = 0 ∧ zI τ (kR κ' this 0) 3 = -1 ∧ zI τ (kR κ' this 6) 0 = 0 ∧ zI τ (kR κ' this 6) 1 = 0 ∧ zI τ (kR κ' this 3) 7 = 0 ∧ zI τ (kR κ' this 3) 8 = 2 ∧ zI τ (kR κ' this 3) 9 = 1 ∧ DIS κ' this ∧ S9 κ' τ this ∧ ∀ q, zT τ q ≠ 0 → xA [this] sz q) s.heap.size (hsl s.heap) t.heap) (xA [this] s.heap.size)) ([.ref this] : List Value).toArray s 375248 4502060 (xA [this] s.heap.size)) (F0 m 125 ls []) := by
  refine lv_aload_n hx hb dX5_init_125 rfl (lv_at hl 0 rfl) ?_
  refine va_get (D := κ.1) (ci := 5) (v := .ref (s.heap.size + 2)) (C := RX5) (T := TX5) (N := 10) hx hb hg inX5 hown hK f0.one 0 rfl rfl 1 (by decide) (hg _ k380) (fun _ h9 => h9) rfl dX5_init_126 ?_
  refine lv_iconst (v := 0) hx hb dX5_init_129 (by decide) ?_
  refine lv_iconst (v := 0) hx hb dX5_init_130 (by decide) ?_
  refine xcallX (n := 2) (As := [.int 0, .int 0]) (rest := []) hx hb hml hown hg (W0_add0 l κ (s.heap.size + 2) (s.heap.size + 3) (s.heap.size + 4) (by omega) (by omega) (by omega)) (mwV k328 k329 k330 k86 k331) ⟨rfl, by decide, by decide, by decide +kernel⟩ ⟨(Nat.le_of_ble_eq_true rfl), (Nat.le_of_ble_eq_true rfl)⟩ ⟨p9, p10, p11⟩ hK hS hX (xA_in (xA3 (Or.inr (by omega)) (Or.inr (by omega)) (Or.inr (by omega))) hS.1) p9 rfl rfl hl.1 rfl (Nat.le_of_ble_eq_true rfl) dX5_init_131 ⟨(Nat.le_of_ble_eq_true rfl), (Nat.le_of_ble_eq_true rfl)⟩ (fun H locs hp g hS2 => ?_)
  replace hS := hS2
  clear hS2
  replace f0 := g.kept f0 (show ¬ xA _ _ this from xA_no3 (nt1 lt_this) (nt1 lt_this) (nt1 lt_this) (lt1 lt_this hz))
  replace p4 := g.kept p4 (show ¬ xA _ _ (s.heap.size + 0) from xA_no3 (nk rfl) (nk rfl) (nk rfl) (lt2 hz rfl))
  replace p5 := g.kept p5 (show ¬ xA _ _ (s.heap.size + 1) from xA_no3 (nk rfl) (nk rfl) (nk rfl) (lt2 hz rfl))
  replace p15 := g.kept p15 (show ¬ xA _ _ (s.heap.size + 5) from xA_no3 (nk rfl) (nk rfl) (nk rfl) (lt2 hz rfl))
  replace p16 := g.kept p16 (show ¬ xA _ _ (s.heap.size + 6) from xA_no3 (nk rfl) (nk rfl) (nk rfl) (lt2 hz rfl))
  replace p17 := g.kept p17 (show ¬ xA _ _ (s.heap.size + 7) from xA_no3 (nk rfl) (nk rfl) (nk rfl) (lt2 hz rfl))
  replace p20 := g.kept p20 (show ¬ xA _ _ (s.heap.size + 8) from xA_no3 (nk rfl) (nk rfl) (nk rfl) (lt2 hz rfl))
  replace p23 := g.kept p23 (show ¬ xA _ _ (s.heap.size + 255) from xA_no3 (nk rfl) (nk rfl) (nk rfl) (lt2 hz rfl))
  replace f25 := g.kept f25 (show ¬ xA _ _ (s.heap.size + 502) from xA_no3 (nk rfl) (nk rfl) (nk rfl) (lt2 hz rfl))
  replace p28 := g.kept p28 (show ¬ xA _ _ (s.heap.size + 503) from xA_no3 (nk rfl) (nk rfl) (nk rfl) (lt2 hz rfl))
  replace p31 := g.kept p31 (show ¬ xA _ _ (s.heap.size + 750) from xA_no3 (nk rfl) (nk rfl) (nk rfl) (lt2 hz rfl))
  replace f33 := g.kept f33 (show ¬ xA _ _ (s.heap.size + 997) from xA_no3 (nk rfl) (nk rfl) (nk rfl) (lt2 hz rfl))
  replace T9 : TI (kst κ (s.heap.size + 9)) (gst (s.heap.size + 9)) H := g.TI T9 (fun q hq => (gst_in hq).elim fun h1 h2 => xA_no3 (by omega) (by omega) (by omega) (by omega))
  replace T256 : TI (kst κ (s.heap.size + 256)) (gst (s.heap.size + 256)) H := g.TI T256 (fun q hq => (gst_in hq).elim fun h1 h2 => xA_no3 (by omega) (by omega) (by omega) (by omega))
  replace T504 : TI (kst κ (s.heap.size + 504)) (gst (s.heap.size + 504)) H := g.TI T504 (fun q hq => (gst_in hq).elim fun h1 h2 => xA_no3 (by omega) (by omega) (by omega) (by omega))
  replace T751 : TI (kst κ (s.heap.size + 751)) (gst (s.heap.size + 751)) H := g.TI T751 (fun q hq => (gst_in hq).elim fun h1 h2 => xA_no3 (by omega) (by omega) (by omega) (by omega))
  clear g
  obtain ⟨p34, p35, p36, p37⟩ := hp
  rw [hz] at p34
  replace hz : H.size = s.heap.size + 998 := by omega
  replace p35 : va_at κ.1 vwCl ((s.heap.size + 2), .inr (0, [.ref (s.heap.size + 3), .ref (s.heap.size + 4), .int 1, .int 0, .int 2, .int 1, .int 2])) H := p35
  replace p36 : va_at κ.1 vwCl ((s.heap.size + 3), .inl (kA κ 0, 48, .inl (upd ((fun _ => 0)) 0 0))) H := p36
  replace p37 : va_at κ.1 vwCl ((s.heap.size + 4), .inl (kA κ 0, 48, .inl (upd ((fun _ => 0)) 0 0))) H := p37
  refine lv_aload_n hx hb dX5_init_134 rfl (lv_at hl 0 rfl) ?_
  refine va_get (D := κ.1) (ci := 5) (v := .ref (s.heap.size + 2)) (C := RX5) (T := TX5) (N := 10) hx hb hg inX5 hown hK f0.one 0 rfl rfl 1 (by decide) (hg _ k380) (fun _ h9 => h9) rfl dX5_init_135 ?_
  refine lv_iconst (v := 1) hx hb dX5_init_138 (by decide) ?_
  refine lv_iconst (v := 0) hx hb dX5_init_139 (by decide) ?_
  refine xcallX (n := 2) (As := [.int 1, .int 0]) (rest := []) hx hb hml hown hg (W0_add1 l κ (s.heap.size + 2) (s.heap.size + 3) (s.heap.size + 4) (by omega) (by omega) (by omega)) (mwV k328 k329 k330 k86 k331) ⟨rfl, by decide, by decide, by decide +kernel⟩ ⟨(Nat.le_of_ble_eq_true rfl), (Nat.le_of_ble_eq_true rfl)⟩ ⟨p35, p36, p37⟩ hK hS hX (xA_in (xA3 (Or.inr (by omega)) (Or.inr (by omega)) (Or.inr (by omega))) hS.1) p35 rfl rfl hl.1 rfl (Nat.le_of_ble_eq_true rfl) dX5_init_140 ⟨(Nat.le_of_ble_eq_true rfl), (Nat.le_of_ble_eq_true rfl)⟩ (fun H locs hp g hS2 => ?_)
  replace hS := hS2
  clear hS2
  replace f0 := g.kept f0 (show ¬ xA _ _ this from xA_no3 (nt1 lt_this) (nt1 lt_this) (nt1 lt_this) (lt1 lt_this hz))
  replace p4 := g.kept p4 (show ¬ xA _ _ (s.heap.size + 0) from xA_no3 (nk rfl) (nk rfl) (nk rfl) (lt2 hz rfl))
  replace p5 := g.kept p5 (show ¬ xA _ _ (s.heap.size + 1) from xA_no3 (nk rfl) (nk rfl) (nk rfl) (lt2 hz rfl))
  replace p15 := g.kept p15 (show ¬ xA _ _ (s.heap.size + 5) from xA_no3 (nk rfl) (nk rfl) (nk rfl) (lt2 hz rfl))
  replace p16 := g.kept p16 (show ¬ xA _ _ (s.heap.size + 6) from xA_no3 (nk rfl) (nk rfl) (nk rfl) (lt2 hz rfl))
  replace p17 := g.kept p17 (show ¬ xA _ _ (s.heap.size + 7) from xA_no3 (nk rfl) (nk rfl) (nk rfl) (lt2 hz rfl))
  replace p20 := g.kept p20 (show ¬ xA _ _ (s.heap.size + 8) from xA_no3 (nk rfl) (nk rfl) (nk rfl) (lt2 hz rfl))
  replace p23 := g.kept p23 (show ¬ xA _ _ (s.heap.size + 255) from xA_no3 (nk rfl) (nk rfl) (nk rfl) (lt2 hz rfl))
  replace f25 := g.kept f25 (show ¬ xA _ _ (s.heap.size + 502) from xA_no3 (nk rfl) (nk rfl) (nk rfl) (lt2 hz rfl))
  replace p28 := g.kept p28 (show ¬ xA _ _ (s.heap.size + 503) from xA_no3 (nk rfl) (nk rfl) (nk rfl) (lt2 hz rfl))
  replace p31 := g.kept p31 (show ¬ xA _ _ (s.heap.size + 750) from xA_no3 (nk rfl) (nk rfl) (nk rfl) (lt2 hz rfl))
  replace f33 := g.kept f33 (show ¬ xA _ _ (s.heap.size + 997) from xA_no3 (nk rfl) (nk rfl) (nk rfl) (lt2 hz rfl))
  replace T9 : TI (kst κ (s.heap.size + 9)) (gst (s.heap.size + 9)) H := g.TI T9 (fun q hq => (gst_in hq).elim fun h1 h2 => xA_no3 (by omega) (by omega) (by omega) (by omega))
  replace T256 : TI (kst κ (s.heap.size + 256)) (gst (s.heap.size + 256)) H := g.TI T256 (fun q hq => (gst_in hq).elim fun h1 h2 => xA_no3 (by omega) (by omega) (by omega) (by omega))
  replace T504 : TI (kst κ (s.heap.size + 504)) (gst (s.heap.size + 504)) H := g.TI T504 (fun q hq => (gst_in hq).elim fun h1 h2 => xA_no3 (by omega) (by omega) (by omega) (by omega))
  replace T751 : TI (kst κ (s.heap.size + 751)) (gst (s.heap.size + 751)) H := g.TI T751 (fun q hq => (gst_in hq).elim fun h1 h2 => xA_no3 (by omega) (by omega) (by omega) (by omega))
  clear g
  obtain ⟨p38, p39, p40, p41⟩ := hp
  rw [hz] at p38
  replace hz : H.size = s.heap.size + 998 := by omega
  replace p39 : va_at κ.1 vwCl ((s.heap.size + 2), .inr (0, [.ref (s.heap.size + 3), .ref (s.heap.size + 4), .int 2, .int 0, .int 2, .int 1, .int 2])) H := p39
  replace p40 : va_at κ.1 vwCl ((s.heap.size + 3), .inl (kA κ 0, 48, .inl (upd ((upd ((fun _ => 0)) 0 0)) 1 1))) H := p40
  replace p41 : va_at κ.1 vwCl ((s.heap.size + 4), .inl (kA κ 0, 48, .inl (upd ((upd ((fun _ => 0)) 0 0)) 1 0))) H := p41
  exact W5r_init_c143 l κ this  hx hb hr hml hown hg hlocks hin hK hX lt_this hz f0 p4 p5 p39 p40 p41 p15 p16 p17 p20 p23 f25 p28 p31 f33 T9 T256 T504 T751 hS hl
set_option maxHeartbeats 40000000 in
set_option maxRecDepth 100000 in
theorem W5r_init_c103 (l : Launch) (κ : Kt) (this : Nat) {p : Program} {e : Env} {s : State} {m : MethodId} {below : List Frame} {meth : Method} {c : Code} (hx : p.tables.exec = Jvm.exec) (hb : c.code = cX5_init) (hr : meth.sig.returnType = none) (hml : c.maxLocals = 1) (hown : s.vm.findClass RX5 = some m.cls) (hg : ∀ w ∈ GW, w.before ([.ref this] : List Value).toArray s = true) (hlocks : meth.locks = false) (hin : meth.name = "<init>") (hK : va_K κ.1 vwCl (kTy κ) s) (hX : XY κ (xA [this] s.heap.size) s s.heap) (lt_this : this < s.heap.size) {H : Heap} {locs : List Loc} {ls : Array Slot} (hz : H.size = s.heap.size + 997) (f0 : va_at κ.1 vwCl (this, .inr (5, [.ref (s.heap.size + 0), .ref (s.heap.size + 2), .ref (s.heap.size + 5), .ref (s.heap.size + 8), .ref (s.heap.size + 255), .ref (s.heap.size + 502), .null, .int 0, .int 0, .int 0])) H) (p4 : va_at κ.1 vwCl ((s.heap.size + 0), .inr (3, [.ref (s.heap.size + 1), .int 0, .int 0, .int (-1), .int 0, .int 0, .int 0, .int 0])) H) (p5 : va_at κ.1 vwCl ((s.heap.size + 1), .inl (kA κ 2, 700, .inl (fun _ => 0))) H) (p9 : va_at κ.1 vwCl ((s.heap.size + 2), .inr (0, [.ref (s.heap.size + 3), .ref (s.heap.size + 4), .int 0, .int 0, .int 2, .int 1, .int 2])) H) (p10 : va_at κ.1 vwCl ((s.heap.size + 3), .inl (kA κ 0, 48, .inl (fun _ => 0))) H) (p11 : va_at κ.1 vwCl ((s.heap.size + 4), .inl (kA κ 0, 48, .inl (fun _ => 0))) H) (p15 : va_at κ.1 vwCl ((s.heap.size + 5), .inr (0, [.ref (s.heap.size + 6), .ref (s.heap.size + 7), .int 0, .int 0, .int 2, .int 1, .int 2])) H) (p16 : va_at κ.1 vwCl ((s.heap.size + 6), .inl (kA κ 0, 48, .inl (fun _ => 0))) H) (p17 : va_at κ.1 vwCl ((s.heap.size + 7), .inl (kA κ 0, 48, .inl (fun _ => 0))) H) (p20 : va_at κ.1 vwCl ((s.heap.size + 8), .inr (1, [.ref (s.heap.size + 2), .ref (s.heap.size + 9 + 0), .ref (s.heap.size + 9 + 1), .ref (s.heap.size + 9 + 2), .ref (s.heap.size + 9 + 3), .int 0, .ref (s.heap.size + 9 + 4), .int 0, .int 0, .int 0, .ref (s.heap.size + 9 + 6), .ref (s.heap.size + 9 + 8), .ref (s.heap.size + 9 + 10)])) H) (p23 : va_at κ.1 vwCl ((s.heap.size + 255), .inr (1, [.ref (s.heap.size + 2), .ref (s.heap.size + 256 + 0), .ref (s.heap.size + 256 + 1), .ref (s.heap.size + 256 + 2), .ref (s.heap.size + 256 + 3), .int 0, .ref (s.heap.size + 256 + 4), .int 0, .int 0, .int 0, .ref (s.heap.size + 256 + 6), .ref (s.heap.size + 256 + 8), .ref (s.heap.size + 256 + 10)])) H) (f25 : va_at κ.1 vwCl ((s.heap.size + 502), .inl (kA κ 6, 2, .inr (.inr (.inr (.inr (va_up (va_up (fun _ => none) 0 (some (s.heap.size + 503))) 1 (some (s.heap.size + 750)))))))) H) (p28 : va_at κ.1 vwCl ((s.heap.size + 503), .inr (1, [.ref (s.heap.size + 2), .ref (s.heap.size + 504 + 0), .ref (s.heap.size + 504 + 1), .ref (s.heap.size + 504 + 2), .ref (s.heap.size + 504 + 3), .int 0, .ref (s.heap.size + 504 + 4), .int 0, .int 0, .int 0, .ref (s.heap.size + 504 + 6), .ref (s.heap.size + 504 + 8), .ref (s.heap.size + 504 + 10)])) H) (p31 : va_at κ.1 vwCl ((s.heap.size + 750), .inr (1, [.ref (s.heap.size + 2), .ref (s.heap.size + 751 + 0), .ref (s.heap.size + 751 + 1), .ref (s.heap.size + 751 + 2), .ref (s.heap.size + 751 + 3), .int 0, .ref (s.heap.size + 751 + 4), .int 0, .int 0, .int 0, .ref (s.heap.size + 751 + 6), .ref (s.heap.size + 751 + 8), .ref (s.heap.size + 751 + 10)])) H) (T9 : TI (kst κ (s.heap.size + 9)) (gst (s.heap.size + 9)) H) (T256 : TI (kst κ (s.heap.size + 256)) (gst (s.heap.size + 256)) H) (T504 : TI (kst κ (s.heap.size + 504)) (gst (s.heap.size + 504)) H) (T751 : TI (kst κ (s.heap.size + 751)) (gst (s.heap.size + 751)) H) (hS : va_S (xA [this] s.heap.size) s.heap H locs) (hl : lv_has ls 1 [(0, .ref this)]) : W p l e { frames := 4, cells := 375248, slots := 4502060, locals := 110 } s m ([.ref this] : List Value).toArray below meth c H locs 997 5528 (MQ below (va_Qv (fun _ : Unit => True) (fun _ t => (fun sz su H => ∃ (κ' : Kt) (τ : Gh), TI κ' τ H ∧ CAP κ' τ H ∧ (κ'.1 = κ.1 ∧ κ'.2.1 = κ.2.1 ∧ κ'.2.2.2.2.2.2 = κ.2.2.2.2.2.2) ∧ kC κ' = sz + 375248 ∧ kS κ' ≤ su + 4496530 ∧ zT τ this = 7 ∧ zI τ (kR κ' this 0) 1 = 0 ∧ zI τ (kR κ' this 0) 2 = 0 ∧ zI τ (kR κ' this 0) 3 = -1 ∧ zI τ (kR κ' this 6) 0 = 0 ∧ zI τ (kR κ' this 6) 1 = 0 ∧ zI τ (kR κ' this 3) 7 = 0 ∧ zI τ (kR κ' this 3) 8 = 2 ∧ zI τ (kR κ' this 3) 9 = 1 ∧ DIS κ' this ∧ S9 κ' τ this ∧ ∀ q, zT τ q ≠ 0 → xA [this] sz q) s.heap.size (hsl s.heap) t.heap) (xA [this] s.heap.size)) ([.ref this] : List Value).toArray s 375248 4502060 (xA [this] s.heap.size)) (F0 m 103 ls []) := by
  refine lv_aload_n hx hb dX5_init_103 rfl (lv_at hl 0 rfl) ?_
  refine lv_iconst (v := 2) hx hb dX5_init_104 (by decide) ?_
  refine xnewa 3 (atype := .boolean) (k := 2) (N := 2) (E := (2, .inl (fun _ => 0))) hx hb (hg _ k410) hK rfl hS (by decide) (by decide) (Nat.le_of_ble_eq_true rfl) rfl (Nat.le_of_ble_eq_true rfl) (Nat.le_of_ble_eq_true rfl) dX5_init_105 (fun n32 H e9 g f33 hS2 => ?_)
  replace hS := hS2
  clear hS2
  replace f0 := g.kept f0
  replace p4 := g.kept p4
  replace p5 := g.kept p5
  replace p9 := g.kept p9
  replace p10 := g.kept p10
  replace p11 := g.kept p11
  replace p15 := g.kept p15
  replace p16 := g.kept p16
  replace p17 := g.kept p17
  replace p20 := g.kept p20
  replace p23 := g.kept p23
  replace f25 := g.kept f25
  replace p28 := g.kept p28
  replace p31 := g.kept p31
  replace T9 : TI (kst κ (s.heap.size + 9)) (gst (s.heap.size + 9)) H := g.TI T9
  replace T256 : TI (kst κ (s.heap.size + 256)) (gst (s.heap.size + 256)) H := g.TI T256
  replace T504 : TI (kst κ (s.heap.size + 504)) (gst (s.heap.size + 504)) H := g.TI T504
  replace T751 : TI (kst κ (s.heap.size + 751)) (gst (s.heap.size + 751)) H := g.TI T751
  obtain rfl : n32 = s.heap.size + 997 := by omega
  replace hz : H.size = s.heap.size + 998 := by have := g.1; omega
  clear g
  refine xputF (cn := 5) (v := .ref (s.heap.size + 997)) (ty := .array .boolean) (C := RX5) (T := TX5) (N := 10) hx hb hg inX5 tyX5 tyX5_ok nmX5 hown hK hS xA0 f0 rfl 6 (by decide) (hg _ k385) (fun _ h9 => h9) rfl hin rfl (by decide +kernel) rfl rfl (Nat.le_of_ble_eq_true rfl) dX5_init_107 (fun H locs g f0 hS2 => ?_)
  replace hS := hS2
  clear hS2
  replace p4 := g.kept p4 (show (s.heap.size + 0) ≠ this from (nt2 lt_this))
  replace p5 := g.kept p5 (show (s.heap.size + 1) ≠ this from (nt2 lt_this))
  replace p9 := g.kept p9 (show (s.heap.size + 2) ≠ this from (nt2 lt_this))
  replace p10 := g.kept p10 (show (s.heap.size + 3) ≠ this from (nt2 lt_this))
  replace p11 := g.kept p11 (show (s.heap.size + 4) ≠ this from (nt2 lt_this))
  replace p15 := g.kept p15 (show (s.heap.size + 5) ≠ this from (nt2 lt_this))
  replace p16 := g.kept p16 (show (s.heap.size + 6) ≠ this from (nt2 lt_this))
  replace p17 := g.kept p17 (show (s.heap.size + 7) ≠ this from (nt2 lt_this))
  replace p20 := g.kept p20 (show (s.heap.size + 8) ≠ this from (nt2 lt_this))
  replace p23 := g.kept p23 (show (s.heap.size + 255) ≠ this from (nt2 lt_this))
  replace f25 := g.kept f25 (show (s.heap.size + 502) ≠ this from (nt2 lt_this))
  replace p28 := g.kept p28 (show (s.heap.size + 503) ≠ this from (nt2 lt_this))
  replace p31 := g.kept p31 (show (s.heap.size + 750) ≠ this from (nt2 lt_this))
  replace f33 := g.kept f33 (show (s.heap.size + 997) ≠ this from (nt2 lt_this))
  replace T9 : TI (kst κ (s.heap.size + 9)) (gst (s.heap.size + 9)) H := g.TI T9 (gst_0 (Or.inl (nlt0 lt_this)))
  replace T256 : TI (kst κ (s.heap.size + 256)) (gst (s.heap.size + 256)) H := g.TI T256 (gst_0 (Or.inl (nlt0 lt_this)))
  replace T504 : TI (kst κ (s.heap.size + 504)) (gst (s.heap.size + 504)) H := g.TI T504 (gst_0 (Or.inl (nlt0 lt_this)))
  replace T751 : TI (kst κ (s.heap.size + 751)) (gst (s.heap.size + 751)) H := g.TI T751 (gst_0 (Or.inl (nlt0 lt_this)))
  replace f0 : va_at κ.1 vwCl (this, .inr (5, [.ref (s.heap.size + 0), .ref (s.heap.size + 2), .ref (s.heap.size + 5), .ref (s.heap.size + 8), .ref (s.heap.size + 255), .ref (s.heap.size + 502), .ref (s.heap.size + 997), .int 0, .int 0, .int 0])) H := f0
  replace hz := g.1.trans hz
  clear g
  refine lv_aload_n hx hb dX5_init_110 rfl (lv_at hl 0 rfl) ?_
  refine lv_iconst (v := 0) hx hb dX5_init_111 (by decide) ?_
  refine xput (cn := 5) (v := .int 0) (ty := .int) (C := RX5) (T := TX5) (N := 10) hx hb hg inX5 tyX5 tyX5_ok nmX5 hown hK hS xA0 f0 rfl 7 (by decide) (hg _ k386) (fun _ h9 => h9) rfl (by decide +kernel) rfl rfl (Nat.le_of_ble_eq_true rfl) dX5_init_112 (fun H locs g f0 hS2 => ?_)
  replace hS := hS2
  clear hS2
  replace p4 := g.kept p4 (show (s.heap.size + 0) ≠ this from (nt2 lt_this))
  replace p5 := g.kept p5 (show (s.heap.size + 1) ≠ this from (nt2 lt_this))
  replace p9 := g.kept p9 (show (s.heap.size + 2) ≠ this from (nt2 lt_this))
  replace p10 := g.kept p10 (show (s.heap.size + 3) ≠ this from (nt2 lt_this))
  replace p11 := g.kept p11 (show (s.heap.size + 4) ≠ this from (nt2 lt_this))
  replace p15 := g.kept p15 (show (s.heap.size + 5) ≠ this from (nt2 lt_this))
  replace p16 := g.kept p16 (show (s.heap.size + 6) ≠ this from (nt2 lt_this))
  replace p17 := g.kept p17 (show (s.heap.size + 7) ≠ this from (nt2 lt_this))
  replace p20 := g.kept p20 (show (s.heap.size + 8) ≠ this from (nt2 lt_this))
  replace p23 := g.kept p23 (show (s.heap.size + 255) ≠ this from (nt2 lt_this))
  replace f25 := g.kept f25 (show (s.heap.size + 502) ≠ this from (nt2 lt_this))
  replace p28 := g.kept p28 (show (s.heap.size + 503) ≠ this from (nt2 lt_this))
  replace p31 := g.kept p31 (show (s.heap.size + 750) ≠ this from (nt2 lt_this))
  replace f33 := g.kept f33 (show (s.heap.size + 997) ≠ this from (nt2 lt_this))
  replace T9 : TI (kst κ (s.heap.size + 9)) (gst (s.heap.size + 9)) H := g.TI T9 (gst_0 (Or.inl (nlt0 lt_this)))
  replace T256 : TI (kst κ (s.heap.size + 256)) (gst (s.heap.size + 256)) H := g.TI T256 (gst_0 (Or.inl (nlt0 lt_this)))
  replace T504 : TI (kst κ (s.heap.size + 504)) (gst (s.heap.size + 504)) H := g.TI T504 (gst_0 (Or.inl (nlt0 lt_this)))
  replace T751 : TI (kst κ (s.heap.size + 751)) (gst (s.heap.size + 751)) H := g.TI T751 (gst_0 (Or.inl (nlt0 lt_this)))
  replace f0 : va_at κ.1 vwCl (this, .inr (5, [.ref (s.heap.size + 0), .ref (s.heap.size + 2), .ref (s.heap.size + 5), .ref (s.heap.size + 8), .ref (s.heap.size + 255), .ref (s.heap.size + 502), .ref (s.heap.size + 997), .int 0, .int 0, .int 0])) H := f0
  replace hz := g.1.trans hz
  clear g
  refine lv_aload_n hx hb dX5_init_115 rfl (lv_at hl 0 rfl) ?_
  refine lv_iconst (v := 0) hx hb dX5_init_116 (by decide) ?_
  refine xput (cn := 5) (v := .int 0) (ty := .int) (C := RX5) (T := TX5) (N := 10) hx hb hg inX5 tyX5 tyX5_ok nmX5 hown hK hS xA0 f0 rfl 8 (by decide) (hg _ k387) (fun _ h9 => h9) rfl (by decide +kernel) rfl rfl (Nat.le_of_ble_eq_true rfl) dX5_init_117 (fun H locs g f0 hS2 => ?_)
  replace hS := hS2
  clear hS2
  replace p4 := g.kept p4 (show (s.heap.size + 0) ≠ this from (nt2 lt_this))
  replace p5 := g.kept p5 (show (s.heap.size + 1) ≠ this from (nt2 lt_this))
  replace p9 := g.kept p9 (show (s.heap.size + 2) ≠ this from (nt2 lt_this))
  replace p10 := g.kept p10 (show (s.heap.size + 3) ≠ this from (nt2 lt_this))
  replace p11 := g.kept p11 (show (s.heap.size + 4) ≠ this from (nt2 lt_this))
  replace p15 := g.kept p15 (show (s.heap.size + 5) ≠ this from (nt2 lt_this))
  replace p16 := g.kept p16 (show (s.heap.size + 6) ≠ this from (nt2 lt_this))
  replace p17 := g.kept p17 (show (s.heap.size + 7) ≠ this from (nt2 lt_this))
  replace p20 := g.kept p20 (show (s.heap.size + 8) ≠ this from (nt2 lt_this))
  replace p23 := g.kept p23 (show (s.heap.size + 255) ≠ this from (nt2 lt_this))
  replace f25 := g.kept f25 (show (s.heap.size + 502) ≠ this from (nt2 lt_this))
  replace p28 := g.kept p28 (show (s.heap.size + 503) ≠ this from (nt2 lt_this))
  replace p31 := g.kept p31 (show (s.heap.size + 750) ≠ this from (nt2 lt_this))
  replace f33 := g.kept f33 (show (s.heap.size + 997) ≠ this from (nt2 lt_this))
  replace T9 : TI (kst κ (s.heap.size + 9)) (gst (s.heap.size + 9)) H := g.TI T9 (gst_0 (Or.inl (nlt0 lt_this)))
  replace T256 : TI (kst κ (s.heap.size + 256)) (gst (s.heap.size + 256)) H := g.TI T256 (gst_0 (Or.inl (nlt0 lt_this)))
  replace T504 : TI (kst κ (s.heap.size + 504)) (gst (s.heap.size + 504)) H := g.TI T504 (gst_0 (Or.inl (nlt0 lt_this)))
  replace T751 : TI (kst κ (s.heap.size + 751)) (gst (s.heap.size + 751)) H := g.TI T751 (gst_0 (Or.inl (nlt0 lt_this)))
  replace f0 : va_at κ.1 vwCl (this, .inr (5, [.ref (s.heap.size + 0), .ref (s.heap.size + 2), .ref (s.heap.size + 5), .ref (s.heap.size + 8), .ref (s.heap.size + 255), .ref (s.heap.size + 502), .ref (s.heap.size + 997), .int 0, .int 0, .int 0])) H := f0
  replace hz := g.1.trans hz
  clear g
  refine lv_aload_n hx hb dX5_init_120 rfl (lv_at hl 0 rfl) ?_
  refine lv_iconst (v := (-1)) hx hb dX5_init_121 (by decide) ?_
  refine xput (cn := 5) (v := .int (-1)) (ty := .int) (C := RX5) (T := TX5) (N := 10) hx hb hg inX5 tyX5 tyX5_ok nmX5 hown hK hS xA0 f0 rfl 9 (by decide) (hg _ k388) (fun _ h9 => h9) rfl (by decide +kernel) rfl rfl (Nat.le_of_ble_eq_true rfl) dX5_init_122 (fun H locs g f0 hS2 => ?_)
  replace hS := hS2
  clear hS2
  replace p4 := g.kept p4 (show (s.heap.size + 0) ≠ this from (nt2 lt_this))
  replace p5 := g.kept p5 (show (s.heap.size + 1) ≠ this from (nt2 lt_this))
  replace p9 := g.kept p9 (show (s.heap.size + 2) ≠ this from (nt2 lt_this))
  replace p10 := g.kept p10 (show (s.heap.size + 3) ≠ this from (nt2 lt_this))
  replace p11 := g.kept p11 (show (s.heap.size + 4) ≠ this from (nt2 lt_this))
  replace p15 := g.kept p15 (show (s.heap.size + 5) ≠ this from (nt2 lt_this))
  replace p16 := g.kept p16 (show (s.heap.size + 6) ≠ this from (nt2 lt_this))
  replace p17 := g.kept p17 (show (s.heap.size + 7) ≠ this from (nt2 lt_this))
  replace p20 := g.kept p20 (show (s.heap.size + 8) ≠ this from (nt2 lt_this))
  replace p23 := g.kept p23 (show (s.heap.size + 255) ≠ this from (nt2 lt_this))
  replace f25 := g.kept f25 (show (s.heap.size + 502) ≠ this from (nt2 lt_this))
  replace p28 := g.kept p28 (show (s.heap.size + 503) ≠ this from (nt2 lt_this))
  replace p31 := g.kept p31 (show (s.heap.size + 750) ≠ this from (nt2 lt_this))
  replace f33 := g.kept f33 (show (s.heap.size + 997) ≠ this from (nt2 lt_this))
  replace T9 : TI (kst κ (s.heap.size + 9)) (gst (s.heap.size + 9)) H := g.TI T9 (gst_0 (Or.inl (nlt0 lt_this)))
  replace T256 : TI (kst κ (s.heap.size + 256)) (gst (s.heap.size + 256)) H := g.TI T256 (gst_0 (Or.inl (nlt0 lt_this)))
  replace T504 : TI (kst κ (s.heap.size + 504)) (gst (s.heap.size + 504)) H := g.TI T504 (gst_0 (Or.inl (nlt0 lt_this)))
  replace T751 : TI (kst κ (s.heap.size + 751)) (gst (s.heap.size + 751)) H := g.TI T751 (gst_0 (Or.inl (nlt0 lt_this)))
  replace f0 : va_at κ.1 vwCl (this, .inr (5, [.ref (s.heap.size + 0), .ref (s.heap.size + 2), .ref (s.heap.size + 5), .ref (s.heap.size + 8), .ref (s.heap.size + 255), .ref (s.heap.size + 502), .ref (s.heap.size + 997), .int 0, .int 0, .int (-1)])) H := f0
  replace hz := g.1.trans hz
  clear g
  exact W5r_init_c125 l κ this  hx hb hr hml hown hg hlocks hin hK hX lt_this hz f0 p4 p5 p9 p10 p11 p15 p16 p17 p20 p23 f25 p28 p31 f33 T9 T256 T504 T751 hS hl
set_option maxHeartbeats 40000000 in
set_option maxRecDepth 100000 in
theorem W5r_init_c67 (l : Launch) (κ : Kt) (this : Nat) {p : Program} {e : Env} {s : State} {m : MethodId} {below : List Frame} {meth : Method} {c : Code} (hx : p.tables.exec = Jvm.exec) (hb : c.code = cX5_init) (hr : meth.sig.returnType = none) (hml : c.maxLocals = 1) (hown : s.vm.findClass RX5 = some m.cls) (hg : ∀ w ∈ GW, w.before ([.ref this] : List Value).toArray s = true) (hlocks : meth.locks = false) (hin : meth.name = "<init>") (hK : va_K κ.1 vwCl (kTy κ) s) (hX : XY κ (xA [this] s.heap.size) s s.heap) (lt_this : this < s.heap.size) {H : Heap} {locs : List Loc} {ls : Array Slot} (hz : H.size = s.heap.size + 502) (f0 : va_at κ.1 vwCl (this, .inr (5, [.ref (s.heap.size + 0), .ref (s.heap.size + 2), .ref (s.heap.size + 5), .ref (s.heap.size + 8), .ref (s.heap.size + 255), .null, .null, .int 0, .int 0, .int 0])) H) (p4 : va_at κ.1 vwCl ((s.heap.size + 0), .inr (3, [.ref (s.heap.size + 1), .int 0, .int 0, .int (-1), .int 0, .int 0, .int 0, .int 0])) H) (p5 : va_at κ.1 vwCl ((s.heap.size + 1), .inl (kA κ 2, 700, .inl (fun _ => 0))) H) (p9 : va_at κ.1 vwCl ((s.heap.size + 2), .inr (0, [.ref (s.heap.size + 3), .ref (s.heap.size + 4), .int 0, .int 0, .int 2, .int 1, .int 2])) H) (p10 : va_at κ.1 vwCl ((s.heap.size + 3), .inl (kA κ 0, 48, .inl (fun _ => 0))) H) (p11 : va_at κ.1 vwCl ((s.heap.size + 4), .inl (kA κ 0, 48, .inl (fun _ => 0))) H) (p15 : va_at κ.1 vwCl ((s.heap.size + 5), .inr (0, [.ref (s.heap.size + 6), .ref (s.heap.size + 7), .int 0, .int 0, .int 2, .int 1, .int 2])) H) (p16 : va_at κ.1 vwCl ((s.heap.size + 6), .inl (kA κ 0, 48, .inl (fun _ => 0))) H) (p17 : va_at κ.1 vwCl ((s.heap.size + 7), .inl (kA κ 0, 48, .inl (fun _ => 0))) H) (p20 : va_at κ.1 vwCl ((s.heap.size + 8), .inr (1, [.ref (s.heap.size + 2), .ref (s.heap.size + 9 + 0), .ref (s.heap.size + 9 + 1), .ref (s.heap.size + 9 + 2), .ref (s.heap.size + 9 + 3), .int 0, .ref (s.heap.size + 9 + 4), .int 0, .int 0, .int 0, .ref (s.heap.size + 9 + 6), .ref (s.heap.size + 9 + 8), .ref (s.heap.size + 9 + 10)])) H) (p23 : va_at κ.1 vwCl ((s.heap.size + 255), .inr (1, [.ref (s.heap.size + 2), .ref (s.heap.size + 256 + 0), .ref (s.heap.size + 256 + 1), .ref (s.heap.size + 256 + 2), .ref (s.heap.size + 256 + 3), .int 0, .ref (s.heap.size + 256 + 4), .int 0, .int 0, .int 0, .ref (s.heap.size + 256 + 6), .ref (s.heap.size + 256 + 8), .ref (s.heap.size + 256 + 10)])) H) (T9 : TI (kst κ (s.heap.size + 9)) (gst (s.heap.size + 9)) H) (T256 : TI (kst κ (s.heap.size + 256)) (gst (s.heap.size + 256)) H) (hS : va_S (xA [this] s.heap.size) s.heap H locs) (hl : lv_has ls 1 [(0, .ref this)]) : W p l e { frames := 4, cells := 375248, slots := 4502060, locals := 110 } s m ([.ref this] : List Value).toArray below meth c H locs 502 3220 (MQ below (va_Qv (fun _ : Unit => True) (fun _ t => (fun sz su H => ∃ (κ' : Kt) (τ : Gh), TI κ' τ H ∧ CAP κ' τ H ∧ (κ'.1 = κ.1 ∧ κ'.2.1 = κ.2.1 ∧ κ'.2.2.2.2.2.2 = κ.2.2.2.2.2.2) ∧ kC κ' = sz + 375248 ∧ kS κ' ≤ su + 4496530 ∧ zT τ this = 7 ∧ zI τ (kR κ' this 0) 1 = 0 ∧ zI τ (kR κ' this 0) 2 = 0 ∧ zI τ (kR κ' this 0) 3 = -1 ∧ zI τ (kR κ' this 6) 0 = 0 ∧ zI τ (kR κ' this 6) 1 = 0 ∧ zI τ (kR κ' this 3) 7 = 0 ∧ zI τ (kR κ' this 3) 8 = 2 ∧ zI τ (kR κ' this 3) 9 = 1 ∧ DIS κ' this ∧ S9 κ' τ this ∧ ∀ q, zT τ q ≠ 0 → xA [this] sz q) s.heap.size (hsl s.heap) t.heap) (xA [this] s.heap.size)) ([.ref this] : List Value).toArray s 375248 4502060 (xA [this] s.heap.size)) (F0 m 67 ls []) := by
  refine lv_aload_n hx hb dX5_init_67 rfl (lv_at hl 0 rfl) ?_
  refine lv_iconst (v := 2) hx hb dX5_init_68 (by decide) ?_
  refine xnewq 6 (k := 2) (N := 2) hx hb hown (hg _ k194) (XX_aoRX1 hX.1) hK rfl hS (by decide) (by decide) (Nat.le_of_ble_eq_true rfl) (Nat.le_of_ble_eq_true rfl) (Nat.le_of_ble_eq_true rfl) dX5_init_69 (fun n24 H e9 g f25 hS2 => ?_)
  replace hS := hS2
  clear hS2
  replace f0 := g.kept f0
  replace p4 := g.kept p4
  replace p5 := g.kept p5
  replace p9 := g.kept p9
  replace p10 := g.kept p10
  replace p11 := g.kept p11
  replace p15 := g.kept p15
  replace p16 := g.kept p16
  replace p17 := g.kept p17
  replace p20 := g.kept p20
  replace p23 := g.kept p23
  replace T9 : TI (kst κ (s.heap.size + 9)) (gst (s.heap.size + 9)) H := g.TI T9
  replace T256 : TI (kst κ (s.heap.size + 256)) (gst (s.heap.size + 256)) H := g.TI T256
  obtain rfl : n24 = s.heap.size + 502 := by omega
  replace hz : H.size = s.heap.size + 503 := by have := g.1; omega
  clear g
  refine lv_dup hx hb dX5_init_72 rfl ?_
  refine lv_iconst (v := 0) hx hb dX5_init_73 (by decide) ?_
  refine xnew (ci := 1) (fs := [.null, .null, .null, .null, .null, .int 0, .null, .int 0, .int 0, .int 0, .null, .null, .null]) (C := RX1) (T := TX1) (N := 13) hx hb hg inX1 tyX1 tyX1_ok hown (hg _ k194) (hg _ k195) (hg _ k87) hK hS rfl nwX1 (Nat.le_of_ble_eq_true rfl) (Nat.le_of_ble_eq_true rfl) dX5_init_74 (fun n26 H e9 g f27 hS2 => ?_)
  replace hS := hS2
  clear hS2
  replace f0 := g.kept f0
  replace p4 := g.kept p4
  replace p5 := g.kept p5
  replace p9 := g.kept p9
  replace p10 := g.kept p10
  replace p11 := g.kept p11
  replace p15 := g.kept p15
  replace p16 := g.kept p16
  replace p17 := g.kept p17
  replace p20 := g.kept p20
  replace p23 := g.kept p23
  replace f25 := g.kept f25
  replace T9 : TI (kst κ (s.heap.size + 9)) (gst (s.heap.size + 9)) H := g.TI T9
  replace T256 : TI (kst κ (s.heap.size + 256)) (gst (s.heap.size + 256)) H := g.TI T256
  obtain rfl : n26 = s.heap.size + 503 := by omega
  replace hz : H.size = s.heap.size + 504 := by have := g.1; omega
  clear g
  refine lv_dup hx hb dX5_init_77 rfl ?_
  refine lv_aload_n hx hb dX5_init_78 rfl (lv_at hl 0 rfl) ?_
  refine va_get (D := κ.1) (ci := 5) (v := .ref (s.heap.size + 2)) (C := RX5) (T := TX5) (N := 10) hx hb hg inX5 hown hK f0.one 0 rfl rfl 1 (by decide) (hg _ k380) (fun _ h9 => h9) rfl dX5_init_79 ?_
  refine xcallI (n := 1) (As := [.ref (s.heap.size + 2)]) (rest := [.ref (s.heap.size + 503), .int 0, .ref (s.heap.size + 502), .ref (s.heap.size + 502), .ref this]) hx hb hml hown hg (W1_init l κ (s.heap.size + 503) (s.heap.size + 2)) (mwI k198) ⟨by decide, by decide, by decide +kernel⟩ k87 k196 k197 rfl ⟨(Nat.le_of_ble_eq_true rfl), (Nat.le_of_ble_eq_true rfl)⟩ f27 hK hS hX (xA_in (xA1 (Or.inr (by omega))) hS.1) rfl hl.1 rfl (Nat.le_of_ble_eq_true rfl) dX5_init_82 ⟨(Nat.le_of_ble_eq_true rfl), (Nat.le_of_ble_eq_true rfl)⟩ (fun H locs hp g hS2 => ?_)
  replace hS := hS2
  clear hS2
  replace f0 := g.kept f0 (show ¬ xA _ _ this from xA_no (nt1 lt_this) (lt1 lt_this hz))
  replace p4 := g.kept p4 (show ¬ xA _ _ (s.heap.size + 0) from xA_no (nk rfl) (lt2 hz rfl))
  replace p5 := g.kept p5 (show ¬ xA _ _ (s.heap.size + 1) from xA_no (nk rfl) (lt2 hz rfl))
  replace p9 := g.kept p9 (show ¬ xA _ _ (s.heap.size + 2) from xA_no (nk rfl) (lt2 hz rfl))
  replace p10 := g.kept p10 (show ¬ xA _ _ (s.heap.size + 3) from xA_no (nk rfl) (lt2 hz rfl))
  replace p11 := g.kept p11 (show ¬ xA _ _ (s.heap.size + 4) from xA_no (nk rfl) (lt2 hz rfl))
  replace p15 := g.kept p15 (show ¬ xA _ _ (s.heap.size + 5) from xA_no (nk rfl) (lt2 hz rfl))
  replace p16 := g.kept p16 (show ¬ xA _ _ (s.heap.size + 6) from xA_no (nk rfl) (lt2 hz rfl))
  replace p17 := g.kept p17 (show ¬ xA _ _ (s.heap.size + 7) from xA_no (nk rfl) (lt2 hz rfl))
  replace p20 := g.kept p20 (show ¬ xA _ _ (s.heap.size + 8) from xA_no (nk rfl) (lt2 hz rfl))
  replace p23 := g.kept p23 (show ¬ xA _ _ (s.heap.size + 255) from xA_no (nk rfl) (lt2 hz rfl))
  replace f25 := g.kept f25 (show ¬ xA _ _ (s.heap.size + 502) from xA_no (nk rfl) (lt2 hz rfl))
  replace T9 : TI (kst κ (s.heap.size + 9)) (gst (s.heap.size + 9)) H := g.TI T9 (fun q hq => (gst_in hq).elim fun h1 h2 => xA_no (by omega) (by omega))
  replace T256 : TI (kst κ (s.heap.size + 256)) (gst (s.heap.size + 256)) H := g.TI T256 (fun q hq => (gst_in hq).elim fun h1 h2 => xA_no (by omega) (by omega))
  clear g
  rw [hz] at hp
  obtain ⟨q0, qt, q1, q2, q3, q4, q5, q6, q7, q8, q9, q10, q11, q12, qF1, qF2⟩ := hp
  replace hz : H.size = s.heap.size + 750 := by omega
  have p28 : va_at κ.1 vwCl ((s.heap.size + 503), .inr (1, [.ref (s.heap.size + 2), .ref (s.heap.size + 504 + 0), .ref (s.heap.size + 504 + 1), .ref (s.heap.size + 504 + 2), .ref (s.heap.size + 504 + 3), .int 0, .ref (s.heap.size + 504 + 4), .int 0, .int 0, .int 0, .ref (s.heap.size + 504 + 6), .ref (s.heap.size + 504 + 8), .ref (s.heap.size + 504 + 10)])) H := qt
  have T504 : TI (kst κ (s.heap.size + 504)) (gst (s.heap.size + 504)) H := gst_TI q1 q2 q3 q4 q5 q6 q7 q8 q9 q10 q11 q12 qF1 qF2
  refine xaast 6 (ci := 1) hx hb hK hS (Or.inr (by omega)) f25 rfl p28 rfl (vin (by decide)) dX5_init_85 (fun H locs g f25 hS2 => ?_)
  replace hS := hS2
  clear hS2
  replace f0 := g.kept f0 (show this ≠ (s.heap.size + 502) from (nt1 lt_this))
  replace p4 := g.kept p4 (show (s.heap.size + 0) ≠ (s.heap.size + 502) from (nk rfl))
  replace p5 := g.kept p5 (show (s.heap.size + 1) ≠ (s.heap.size + 502) from (nk rfl))
  replace p9 := g.kept p9 (show (s.heap.size + 2) ≠ (s.heap.size + 502) from (nk rfl))
  replace p10 := g.kept p10 (show (s.heap.size + 3) ≠ (s.heap.size + 502) from (nk rfl))
  replace p11 := g.kept p11 (show (s.heap.size + 4) ≠ (s.heap.size + 502) from (nk rfl))
  replace p15 := g.kept p15 (show (s.heap.size + 5) ≠ (s.heap.size + 502) from (nk rfl))
  replace p16 := g.kept p16 (show (s.heap.size + 6) ≠ (s.heap.size + 502) from (nk rfl))
  replace p17 := g.kept p17 (show (s.heap.size + 7) ≠ (s.heap.size + 502) from (nk rfl))
  replace p20 := g.kept p20 (show (s.heap.size + 8) ≠ (s.heap.size + 502) from (nk rfl))
  replace p23 := g.kept p23 (show (s.heap.size + 255) ≠ (s.heap.size + 502) from (nk rfl))
  replace p28 := g.kept p28 (show (s.heap.size + 503) ≠ (s.heap.size + 502) from (nk rfl))
  replace T9 : TI (kst κ (s.heap.size + 9)) (gst (s.heap.size + 9)) H := g.TI T9 (gst_0 (Or.inr (nle rfl)))
  replace T256 : TI (kst κ (s.heap.size + 256)) (gst (s.heap.size + 256)) H := g.TI T256 (gst_0 (Or.inr (nle rfl)))
  replace T504 : TI (kst κ (s.heap.size + 504)) (gst (s.heap.size + 504)) H := g.TI T504 (gst_0 (Or.inl (nlt rfl)))
  replace hz := g.1.trans hz
  clear g
  replace f25 : va_at κ.1 vwCl ((s.heap.size + 502), .inl (kA κ 6, 2, .inr (.inr (.inr (.inr (va_up (fun _ => none) 0 (some (s.heap.size + 503)))))))) H := f25
  refine lv_dup hx hb dX5_init_86 rfl ?_
  refine lv_iconst (v := 1) hx hb dX5_init_87 (by decide) ?_
  refine xnew (ci := 1) (fs := [.null, .null, .null, .null, .null, .int 0, .null, .int 0, .int 0, .int 0, .null, .null, .null]) (C := RX1) (T := TX1) (N := 13) hx hb hg inX1 tyX1 tyX1_ok hown (hg _ k194) (hg _ k195) (hg _ k87) hK hS rfl nwX1 (Nat.le_of_ble_eq_true rfl) (Nat.le_of_ble_eq_true rfl) dX5_init_88 (fun n29 H e9 g f30 hS2 => ?_)
  replace hS := hS2
  clear hS2
  replace f0 := g.kept f0
  replace p4 := g.kept p4
  replace p5 := g.kept p5
  replace p9 := g.kept p9
  replace p10 := g.kept p10
  replace p11 := g.kept p11
  replace p15 := g.kept p15
  replace p16 := g.kept p16
  replace p17 := g.kept p17
  replace p20 := g.kept p20
  replace p23 := g.kept p23
  replace f25 := g.kept f25
  replace p28 := g.kept p28
  replace T9 : TI (kst κ (s.heap.size + 9)) (gst (s.heap.size + 9)) H := g.TI T9
  replace T256 : TI (kst κ (s.heap.size + 256)) (gst (s.heap.size + 256)) H := g.TI T256
  replace T504 : TI (kst κ (s.heap.size + 504)) (gst (s.heap.size + 504)) H := g.TI T504
  obtain rfl : n29 = s.heap.size + 750 := by omega
  replace hz : H.size = s.heap.size + 751 := by have := g.1; omega
  clear g
  refine lv_dup hx hb dX5_init_91 rfl ?_
  refine lv_aload_n hx hb dX5_init_92 rfl (lv_at hl 0 rfl) ?_
  refine va_get (D := κ.1) (ci := 5) (v := .ref (s.heap.size + 2)) (C := RX5) (T := TX5) (N := 10) hx hb hg inX5 hown hK f0.one 0 rfl rfl 1 (by decide) (hg _ k380) (fun _ h9 => h9) rfl dX5_init_93 ?_
  refine xcallI (n := 1) (As := [.ref (s.heap.size + 2)]) (rest := [.ref (s.heap.size + 750), .int 1, .ref (s.heap.size + 502), .ref (s.heap.size + 502), .ref this]) hx hb hml hown hg (W1_init l κ (s.heap.size + 750) (s.heap.size + 2)) (mwI k198) ⟨by decide, by decide, by decide +kernel⟩ k87 k196 k197 rfl ⟨(Nat.le_of_ble_eq_true rfl), (Nat.le_of_ble_eq_true rfl)⟩ f30 hK hS hX (xA_in (xA1 (Or.inr (by omega))) hS.1) rfl hl.1 rfl (Nat.le_of_ble_eq_true rfl) dX5_init_96 ⟨(Nat.le_of_ble_eq_true rfl), (Nat.le_of_ble_eq_true rfl)⟩ (fun H locs hp g hS2 => ?_)
  replace hS := hS2
  clear hS2
  replace f0 := g.kept f0 (show ¬ xA _ _ this from xA_no (nt1 lt_this) (lt1 lt_this hz))
  replace p4 := g.kept p4 (show ¬ xA _ _ (s.heap.size + 0) from xA_no (nk rfl) (lt2 hz rfl))
  replace p5 := g.kept p5 (show ¬ xA _ _ (s.heap.size + 1) from xA_no (nk rfl) (lt2 hz rfl))
  replace p9 := g.kept p9 (show ¬ xA _ _ (s.heap.size + 2) from xA_no (nk rfl) (lt2 hz rfl))
  replace p10 := g.kept p10 (show ¬ xA _ _ (s.heap.size + 3) from xA_no (nk rfl) (lt2 hz rfl))
  replace p11 := g.kept p11 (show ¬ xA _ _ (s.heap.size + 4) from xA_no (nk rfl) (lt2 hz rfl))
  replace p15 := g.kept p15 (show ¬ xA _ _ (s.heap.size + 5) from xA_no (nk rfl) (lt2 hz rfl))
  replace p16 := g.kept p16 (show ¬ xA _ _ (s.heap.size + 6) from xA_no (nk rfl) (lt2 hz rfl))
  replace p17 := g.kept p17 (show ¬ xA _ _ (s.heap.size + 7) from xA_no (nk rfl) (lt2 hz rfl))
  replace p20 := g.kept p20 (show ¬ xA _ _ (s.heap.size + 8) from xA_no (nk rfl) (lt2 hz rfl))
  replace p23 := g.kept p23 (show ¬ xA _ _ (s.heap.size + 255) from xA_no (nk rfl) (lt2 hz rfl))
  replace f25 := g.kept f25 (show ¬ xA _ _ (s.heap.size + 502) from xA_no (nk rfl) (lt2 hz rfl))
  replace p28 := g.kept p28 (show ¬ xA _ _ (s.heap.size + 503) from xA_no (nk rfl) (lt2 hz rfl))
  replace T9 : TI (kst κ (s.heap.size + 9)) (gst (s.heap.size + 9)) H := g.TI T9 (fun q hq => (gst_in hq).elim fun h1 h2 => xA_no (by omega) (by omega))
  replace T256 : TI (kst κ (s.heap.size + 256)) (gst (s.heap.size + 256)) H := g.TI T256 (fun q hq => (gst_in hq).elim fun h1 h2 => xA_no (by omega) (by omega))
  replace T504 : TI (kst κ (s.heap.size + 504)) (gst (s.heap.size + 504)) H := g.TI T504 (fun q hq => (gst_in hq).elim fun h1 h2 => xA_no (by omega) (by omega))
  clear g
  rw [hz] at hp
  obtain ⟨q0, qt, q1, q2, q3, q4, q5, q6, q7, q8, q9, q10, q11, q12, qF1, qF2⟩ := hp
  replace hz : H.size = s.heap.size + 997 := by omega
  have p31 : va_at κ.1 vwCl ((s.heap.size + 750), .inr (1, [.ref (s.heap.size + 2), .ref (s.heap.size + 751 + 0), .ref (s.heap.size + 751 + 1), .ref (s.heap.size + 751 + 2), .ref (s.heap.size + 751 + 3), .int 0, .ref (s.heap.size + 751 + 4), .int 0, .int 0, .int 0, .ref (s.heap.size + 751 + 6), .ref (s.heap.size + 751 + 8), .ref (s.heap.size + 751 + 10)])) H := qt
  have T751 : TI (kst κ (s.heap.size + 751)) (gst (s.heap.size + 751)) H := gst_TI q1 q2 q3 q4 q5 q6 q7 q8 q9 q10 q11 q12 qF1 qF2
  refine xaast 6 (ci := 1) hx hb hK hS (Or.inr (by omega)) f25 rfl p31 rfl (vin (by decide)) dX5_init_99 (fun H locs g f25 hS2 => ?_)
  replace hS := hS2
  clear hS2
  replace f0 := g.kept f0 (show this ≠ (s.heap.size + 502) from (nt1 lt_this))
  replace p4 := g.kept p4 (show (s.heap.size + 0) ≠ (s.heap.size + 502) from (nk rfl))
  replace p5 := g.kept p5 (show (s.heap.size + 1) ≠ (s.heap.size + 502) from (nk rfl))
  replace p9 := g.kept p9 (show (s.heap.size + 2) ≠ (s.heap.size + 502) from (nk rfl))
  replace p10 := g.kept p10 (show (s.heap.size + 3) ≠ (s.heap.size + 502) from (nk rfl))
  replace p11 := g.kept p11 (show (s.heap.size + 4) ≠ (s.heap.size + 502) from (nk rfl))
  replace p15 := g.kept p15 (show (s.heap.size + 5) ≠ (s.heap.size + 502) from (nk rfl))
  replace p16 := g.kept p16 (show (s.heap.size + 6) ≠ (s.heap.size + 502) from (nk rfl))
  replace p17 := g.kept p17 (show (s.heap.size + 7) ≠ (s.heap.size + 502) from (nk rfl))
  replace p20 := g.kept p20 (show (s.heap.size + 8) ≠ (s.heap.size + 502) from (nk rfl))
  replace p23 := g.kept p23 (show (s.heap.size + 255) ≠ (s.heap.size + 502) from (nk rfl))
  replace p28 := g.kept p28 (show (s.heap.size + 503) ≠ (s.heap.size + 502) from (nk rfl))
  replace p31 := g.kept p31 (show (s.heap.size + 750) ≠ (s.heap.size + 502) from (nk rfl))
  replace T9 : TI (kst κ (s.heap.size + 9)) (gst (s.heap.size + 9)) H := g.TI T9 (gst_0 (Or.inr (nle rfl)))
  replace T256 : TI (kst κ (s.heap.size + 256)) (gst (s.heap.size + 256)) H := g.TI T256 (gst_0 (Or.inr (nle rfl)))
  replace T504 : TI (kst κ (s.heap.size + 504)) (gst (s.heap.size + 504)) H := g.TI T504 (gst_0 (Or.inl (nlt rfl)))
  replace T751 : TI (kst κ (s.heap.size + 751)) (gst (s.heap.size + 751)) H := g.TI T751 (gst_0 (Or.inl (nlt rfl)))
  replace hz := g.1.trans hz
  clear g
  replace f25 : va_at κ.1 vwCl ((s.heap.size + 502), .inl (kA κ 6, 2, .inr (.inr (.inr (.inr (va_up (va_up (fun _ => none) 0 (some (s.heap.size + 503))) 1 (some (s.heap.size + 750)))))))) H := f25
  refine xputF (cn := 5) (v := .ref (s.heap.size + 502)) (ty := .array (.object "LiftingSignal$State")) (C := RX5) (T := TX5) (N := 10) hx hb hg inX5 tyX5 tyX5_ok nmX5 hown hK hS xA0 f0 rfl 5 (by decide) (hg _ k384) (fun _ h9 => h9) rfl hin rfl (by decide +kernel) rfl rfl (Nat.le_of_ble_eq_true rfl) dX5_init_100 (fun H locs g f0 hS2 => ?_)
  replace hS := hS2
  clear hS2
  replace p4 := g.kept p4 (show (s.heap.size + 0) ≠ this from (nt2 lt_this))
  replace p5 := g.kept p5 (show (s.heap.size + 1) ≠ this from (nt2 lt_this))
  replace p9 := g.kept p9 (show (s.heap.size + 2) ≠ this from (nt2 lt_this))
  replace p10 := g.kept p10 (show (s.heap.size + 3) ≠ this from (nt2 lt_this))
  replace p11 := g.kept p11 (show (s.heap.size + 4) ≠ this from (nt2 lt_this))
  replace p15 := g.kept p15 (show (s.heap.size + 5) ≠ this from (nt2 lt_this))
  replace p16 := g.kept p16 (show (s.heap.size + 6) ≠ this from (nt2 lt_this))
  replace p17 := g.kept p17 (show (s.heap.size + 7) ≠ this from (nt2 lt_this))
  replace p20 := g.kept p20 (show (s.heap.size + 8) ≠ this from (nt2 lt_this))
  replace p23 := g.kept p23 (show (s.heap.size + 255) ≠ this from (nt2 lt_this))
  replace f25 := g.kept f25 (show (s.heap.size + 502) ≠ this from (nt2 lt_this))
  replace p28 := g.kept p28 (show (s.heap.size + 503) ≠ this from (nt2 lt_this))
  replace p31 := g.kept p31 (show (s.heap.size + 750) ≠ this from (nt2 lt_this))
  replace T9 : TI (kst κ (s.heap.size + 9)) (gst (s.heap.size + 9)) H := g.TI T9 (gst_0 (Or.inl (nlt0 lt_this)))
  replace T256 : TI (kst κ (s.heap.size + 256)) (gst (s.heap.size + 256)) H := g.TI T256 (gst_0 (Or.inl (nlt0 lt_this)))
  replace T504 : TI (kst κ (s.heap.size + 504)) (gst (s.heap.size + 504)) H := g.TI T504 (gst_0 (Or.inl (nlt0 lt_this)))
  replace T751 : TI (kst κ (s.heap.size + 751)) (gst (s.heap.size + 751)) H := g.TI T751 (gst_0 (Or.inl (nlt0 lt_this)))
  replace f0 : va_at κ.1 vwCl (this, .inr (5, [.ref (s.heap.size + 0), .ref (s.heap.size + 2), .ref (s.heap.size + 5), .ref (s.heap.size + 8), .ref (s.heap.size + 255), .ref (s.heap.size + 502), .null, .int 0, .int 0, .int 0])) H := f0
  replace hz := g.1.trans hz
  clear g
  exact W5r_init_c103 l κ this  hx hb hr hml hown hg hlocks hin hK hX lt_this hz f0 p4 p5 p9 p10 p11 p15 p16 p17 p20 p23 f25 p28 p31 T9 T256 T504 T751 hS hl
set_option maxHeartbeats 40000000 in
set_option maxRecDepth 100000 in
theorem W5r_init_c52 (l : Launch) (κ : Kt) (this : Nat) {p : Program} {e : Env} {s : State} {m : MethodId} {below : List Frame} {meth : Method} {c : Code} (hx : p.tables.exec = Jvm.exec) (hb : c.code = cX5_init) (hr : meth.sig.returnType = none) (hml : c.maxLocals = 1) (hown : s.vm.findClass RX5 = some m.cls) (hg : ∀ w ∈ GW, w.before ([.ref this] : List Value).toArray s = true) (hlocks : meth.locks = false) (hin : meth.name = "<init>") (hK : va_K κ.1 vwCl (kTy κ) s) (hX : XY κ (xA [this] s.heap.size) s s.heap) (lt_this : this < s.heap.size) {H : Heap} {locs : List Loc} {ls : Array Slot} (hz : H.size = s.heap.size + 255) (f0 : va_at κ.1 vwCl (this, .inr (5, [.ref (s.heap.size + 0), .ref (s.heap.size + 2), .ref (s.heap.size + 5), .ref (s.heap.size + 8), .null, .null, .null, .int 0, .int 0, .int 0])) H) (p4 : va_at κ.1 vwCl ((s.heap.size + 0), .inr (3, [.ref (s.heap.size + 1), .int 0, .int 0, .int (-1), .int 0, .int 0, .int 0, .int 0])) H) (p5 : va_at κ.1 vwCl ((s.heap.size + 1), .inl (kA κ 2, 700, .inl (fun _ => 0))) H) (p9 : va_at κ.1 vwCl ((s.heap.size + 2), .inr (0, [.ref (s.heap.size + 3), .ref (s.heap.size + 4), .int 0, .int 0, .int 2, .int 1, .int 2])) H) (p10 : va_at κ.1 vwCl ((s.heap.size + 3), .inl (kA κ 0, 48, .inl (fun _ => 0))) H) (p11 : va_at κ.1 vwCl ((s.heap.size + 4), .inl (kA κ 0, 48, .inl (fun _ => 0))) H) (p15 : va_at κ.1 vwCl ((s.heap.size + 5), .inr (0, [.ref (s.heap.size + 6), .ref (s.heap.size + 7), .int 0, .int 0, .int 2, .int 1, .int 2])) H) (p16 : va_at κ.1 vwCl ((s.heap.size + 6), .inl (kA κ 0, 48, .inl (fun _ => 0))) H) (p17 : va_at κ.1 vwCl ((s.heap.size + 7), .inl (kA κ 0, 48, .inl (fun _ => 0))) H) (p20 : va_at κ.1 vwCl ((s.heap.size + 8), .inr (1, [.ref (s.heap.size + 2), .ref (s.heap.size + 9 + 0), .ref (s.heap.size + 9 + 1), .ref (s.heap.size + 9 + 2), .ref (s.heap.size + 9 + 3), .int 0, .ref (s.heap.size + 9 + 4), .int 0, .int 0, .int 0, .ref (s.heap.size + 9 + 6), .ref (s.heap.size + 9 + 8), .ref (s.heap.size + 9 + 10)])) H) (T9 : TI (kst κ (s.heap.size + 9)) (gst (s.heap.size + 9)) H) (hS : va_S (xA [this] s.heap.size) s.heap H locs) (hl : lv_has ls 1 [(0, .ref this)]) : W p l e { frames := 4, cells := 375248, slots := 4502060, locals := 110 } s m ([.ref this] : List Value).toArray below meth c H locs 255 2067 (MQ below (va_Qv (fun _ : Unit => True) (fun _ t => (fun sz su H => ∃ (κ' : Kt) (τ : Gh), TI κ' τ H ∧ CAP κ' τ H ∧ (κ'.1 = κ.1 ∧ κ'.2.1 = κ.2.1 ∧ κ'.2.2.2.2.2.2 = κ.2.2.2.2.2.2) ∧ kC κ' = sz + 375248 ∧ kS κ' ≤ su + 4496530 ∧ zT τ this = 7 ∧ zI τ (kR κ' this 0) 1 = 0 ∧ zI τ (kR κ' this 0) 2 = 0 ∧ zI τ (kR κ' this 0) 3 = -1 ∧ zI τ (kR κ' this 6) 0 = 0 ∧ zI τ (kR κ' this 6) 1 = 0 ∧ zI τ (kR κ' this 3) 7 = 0 ∧ zI τ (kR κ' this 3) 8 = 2 ∧ zI τ (kR κ' this 3) 9 = 1 ∧ DIS κ' this ∧ S9 κ' τ this ∧ ∀ q, zT τ q ≠ 0 → xA [this] sz q) s.heap.size (hsl s.heap) t.heap) (xA [this] s.heap.size)) ([.ref this] : List Value).toArray s 375248 4502060 (xA [this] s.heap.size)) (F0 m 52 ls []) := by
  refine lv_aload_n hx hb dX5_init_52 rfl (lv_at hl 0 rfl) ?_
  refine xnew (ci := 1) (fs := [.null, .null, .null, .null, .null, .int 0, .null, .int 0, .int 0, .int 0, .null, .null, .null]) (C := RX1) (T := TX1) (N := 13) hx hb hg inX1 tyX1 tyX1_ok hown (hg _ k194) (hg _ k195) (hg _ k87) hK hS rfl nwX1 (Nat.le_of_ble_eq_true rfl) (Nat.le_of_ble_eq_true rfl) dX5_init_53 (fun n21 H e9 g f22 hS2 => ?_)
  replace hS := hS2
  clear hS2
  replace f0 := g.kept f0
  replace p4 := g.kept p4
  replace p5 := g.kept p5
  replace p9 := g.kept p9
  replace p10 := g.kept p10
  replace p11 := g.kept p11
  replace p15 := g.kept p15
  replace p16 := g.kept p16
  replace p17 := g.kept p17
  replace p20 := g.kept p20
  replace T9 : TI (kst κ (s.heap.size + 9)) (gst (s.heap.size + 9)) H := g.TI T9
  obtain rfl : n21 = s.heap.size + 255 := by omega
  replace hz : H.size = s.heap.size + 256 := by have := g.1; omega
  clear g
  refine lv_dup hx hb dX5_init_56 rfl ?_
  refine lv_aload_n hx hb dX5_init_57 rfl (lv_at hl 0 rfl) ?_
  refine va_get (D := κ.1) (ci := 5) (v := .ref (s.heap.size + 2)) (C := RX5) (T := TX5) (N := 10) hx hb hg inX5 hown hK f0.one 0 rfl rfl 1 (by decide) (hg _ k380) (fun _ h9 => h9) rfl dX5_init_58 ?_
  refine xcallI (n := 1) (As := [.ref (s.heap.size + 2)]) (rest := [.ref (s.heap.size + 255), .ref this]) hx hb hml hown hg (W1_init l κ (s.heap.size + 255) (s.heap.size + 2)) (mwI k198) ⟨by decide, by decide, by decide +kernel⟩ k87 k196 k197 rfl ⟨(Nat.le_of_ble_eq_true rfl), (Nat.le_of_ble_eq_true rfl)⟩ f22 hK hS hX (xA_in (xA1 (Or.inr (by omega))) hS.1) rfl hl.1 rfl (Nat.le_of_ble_eq_true rfl) dX5_init_61 ⟨(Nat.le_of_ble_eq_true rfl), (Nat.le_of_ble_eq_true rfl)⟩ (fun H locs hp g hS2 => ?_)
  replace hS := hS2
  clear hS2
  replace f0 := g.kept f0 (show ¬ xA _ _ this from xA_no (nt1 lt_this) (lt1 lt_this hz))
  replace p4 := g.kept p4 (show ¬ xA _ _ (s.heap.size + 0) from xA_no (nk rfl) (lt2 hz rfl))
  replace p5 := g.kept p5 (show ¬ xA _ _ (s.heap.size + 1) from xA_no (nk rfl) (lt2 hz rfl))
  replace p9 := g.kept p9 (show ¬ xA _ _ (s.heap.size + 2) from xA_no (nk rfl) (lt2 hz rfl))
  replace p10 := g.kept p10 (show ¬ xA _ _ (s.heap.size + 3) from xA_no (nk rfl) (lt2 hz rfl))
  replace p11 := g.kept p11 (show ¬ xA _ _ (s.heap.size + 4) from xA_no (nk rfl) (lt2 hz rfl))
  replace p15 := g.kept p15 (show ¬ xA _ _ (s.heap.size + 5) from xA_no (nk rfl) (lt2 hz rfl))
  replace p16 := g.kept p16 (show ¬ xA _ _ (s.heap.size + 6) from xA_no (nk rfl) (lt2 hz rfl))
  replace p17 := g.kept p17 (show ¬ xA _ _ (s.heap.size + 7) from xA_no (nk rfl) (lt2 hz rfl))
  replace p20 := g.kept p20 (show ¬ xA _ _ (s.heap.size + 8) from xA_no (nk rfl) (lt2 hz rfl))
  replace T9 : TI (kst κ (s.heap.size + 9)) (gst (s.heap.size + 9)) H := g.TI T9 (fun q hq => (gst_in hq).elim fun h1 h2 => xA_no (by omega) (by omega))
  clear g
  rw [hz] at hp
  obtain ⟨q0, qt, q1, q2, q3, q4, q5, q6, q7, q8, q9, q10, q11, q12, qF1, qF2⟩ := hp
  replace hz : H.size = s.heap.size + 502 := by omega
  have p23 : va_at κ.1 vwCl ((s.heap.size + 255), .inr (1, [.ref (s.heap.size + 2), .ref (s.heap.size + 256 + 0), .ref (s.heap.size + 256 + 1), .ref (s.heap.size + 256 + 2), .ref (s.heap.size + 256 + 3), .int 0, .ref (s.heap.size + 256 + 4), .int 0, .int 0, .int 0, .ref (s.heap.size + 256 + 6), .ref (s.heap.size + 256 + 8), .ref (s.heap.size + 256 + 10)])) H := qt
  have T256 : TI (kst κ (s.heap.size + 256)) (gst (s.heap.size + 256)) H := gst_TI q1 q2 q3 q4 q5 q6 q7 q8 q9 q10 q11 q12 qF1 qF2
  refine xputF (cn := 5) (v := .ref (s.heap.size + 255)) (ty := .object "LiftingSignal$State") (C := RX5) (T := TX5) (N := 10) hx hb hg inX5 tyX5 tyX5_ok nmX5 hown hK hS xA0 f0 rfl 4 (by decide) (hg _ k383) (fun _ h9 => h9) rfl hin rfl (by decide +kernel) rfl rfl (Nat.le_of_ble_eq_true rfl) dX5_init_64 (fun H locs g f0 hS2 => ?_)
  replace hS := hS2
  clear hS2
  replace p4 := g.kept p4 (show (s.heap.size + 0) ≠ this from (nt2 lt_this))
  replace p5 := g.kept p5 (show (s.heap.size + 1) ≠ this from (nt2 lt_this))
  replace p9 := g.kept p9 (show (s.heap.size + 2) ≠ this from (nt2 lt_this))
  replace p10 := g.kept p10 (show (s.heap.size + 3) ≠ this from (nt2 lt_this))
  replace p11 := g.kept p11 (show (s.heap.size + 4) ≠ this from (nt2 lt_this))
  replace p15 := g.kept p15 (show (s.heap.size + 5) ≠ this from (nt2 lt_this))
  replace p16 := g.kept p16 (show (s.heap.size + 6) ≠ this from (nt2 lt_this))
  replace p17 := g.kept p17 (show (s.heap.size + 7) ≠ this from (nt2 lt_this))
  replace p20 := g.kept p20 (show (s.heap.size + 8) ≠ this from (nt2 lt_this))
  replace p23 := g.kept p23 (show (s.heap.size + 255) ≠ this from (nt2 lt_this))
  replace T9 : TI (kst κ (s.heap.size + 9)) (gst (s.heap.size + 9)) H := g.TI T9 (gst_0 (Or.inl (nlt0 lt_this)))
  replace T256 : TI (kst κ (s.heap.size + 256)) (gst (s.heap.size + 256)) H := g.TI T256 (gst_0 (Or.inl (nlt0 lt_this)))
  replace f0 : va_at κ.1 vwCl (this, .inr (5, [.ref (s.heap.size + 0), .ref (s.heap.size + 2), .ref (s.heap.size + 5), .ref (s.heap.size + 8), .ref (s.heap.size + 255), .null, .null, .int 0, .int 0, .int 0])) H := f0
  replace hz := g.1.trans hz
  clear g
  exact W5r_init_c67 l κ this  hx hb hr hml hown hg hlocks hin hK hX lt_this hz f0 p4 p5 p9 p10 p11 p15 p16 p17 p20 p23 T9 T256 hS hl
set_option maxHeartbeats 40000000 in
set_option maxRecDepth 100000 in
theorem W5r_init_c37 (l : Launch) (κ : Kt) (this : Nat) {p : Program} {e : Env} {s : State} {m : MethodId} {below : List Frame} {meth : Method} {c : Code} (hx : p.tables.exec = Jvm.exec) (hb : c.code = cX5_init) (hr : meth.sig.returnType = none) (hml : c.maxLocals = 1) (hown : s.vm.findClass RX5 = some m.cls) (hg : ∀ w ∈ GW, w.before ([.ref this] : List Value).toArray s = true) (hlocks : meth.locks = false) (hin : meth.name = "<init>") (hK : va_K κ.1 vwCl (kTy κ) s) (hX : XY κ (xA [this] s.heap.size) s s.heap) (lt_this : this < s.heap.size) {H : Heap} {locs : List Loc} {ls : Array Slot} (hz : H.size = s.heap.size + 8) (f0 : va_at κ.1 vwCl (this, .inr (5, [.ref (s.heap.size + 0), .ref (s.heap.size + 2), .ref (s.heap.size + 5), .null, .null, .null, .null, .int 0, .int 0, .int 0])) H) (p4 : va_at κ.1 vwCl ((s.heap.size + 0), .inr (3, [.ref (s.heap.size + 1), .int 0, .int 0, .int (-1), .int 0, .int 0, .int 0, .int 0])) H) (p5 : va_at κ.1 vwCl ((s.heap.size + 1), .inl (kA κ 2, 700, .inl (fun _ => 0))) H) (p9 : va_at κ.1 vwCl ((s.heap.size + 2), .inr (0, [.ref (s.heap.size + 3), .ref (s.heap.size + 4), .int 0, .int 0, .int 2, .int 1, .int 2])) H) (p10 : va_at κ.1 vwCl ((s.heap.size + 3), .inl (kA κ 0, 48, .inl (fun _ => 0))) H) (p11 : va_at κ.1 vwCl ((s.heap.size + 4), .inl (kA κ 0, 48, .inl (fun _ => 0))) H) (p15 : va_at κ.1 vwCl ((s.heap.size + 5), .inr (0, [.ref (s.heap.size + 6), .ref (s.heap.size + 7), .int 0, .int 0, .int 2, .int 1, .int 2])) H) (p16 : va_at κ.1 vwCl ((s.heap.size + 6), .inl (kA κ 0, 48, .inl (fun _ => 0))) H) (p17 : va_at κ.1 vwCl ((s.heap.size + 7), .inl (kA κ 0, 48, .inl (fun _ => 0))) H) (hS : va_S (xA [this] s.heap.size) s.heap H locs) (hl : lv_has ls 1 [(0, .ref this)]) : W p l e { frames := 4, cells := 375248, slots := 4502060, locals := 110 } s m ([.ref this] : List Value).toArray below meth c H locs 8 914 (MQ below (va_Qv (fun _ : Unit => True) (fun _ t => (fun sz su H => ∃ (κ' : Kt) (τ : Gh), TI κ' τ H ∧ CAP κ' τ H ∧ (κ'.1 = κ.1 ∧ κ'.2.1 = κ.2.1 ∧ κ'.2.2.2.2.2.2 = κ.2.2.2.2.2.2) ∧ kC κ' = sz + 375248 ∧ kS κ' ≤ su + 4496530 ∧ zT τ this = 7 ∧ zI τ (kR κ' this 0) 1 = 0 ∧ zI τ (kR κ' this 0) 2 = 0 ∧ zI τ (kR κ' this 0) 3 = -1 ∧ zI τ (kR κ' this 6) 0 = 0 ∧ zI τ (kR κ' this 6) 1 = 0 ∧ zI τ (kR κ' this 3) 7 = 0 ∧ zI τ (kR κ' this 3) 8 = 2 ∧ zI τ (kR κ' this 3) 9 = 1 ∧ DIS κ' this ∧ S9 κ' τ this ∧ ∀ q, zT τ q ≠ 0 → xA [this] sz q) s.heap.size (hsl s.heap) t.heap) (xA [this] s.heap.size)) ([.ref this] : List Value).toArray s 375248 4502060 (xA [this] s.heap.size)) (F0 m 37 ls []) := by
  refine lv_aload_n hx hb dX5_init_37 rfl (lv_at hl 0 rfl) ?_
  refine xnew (ci := 1) (fs := [.null, .null, .null, .null, .null, .int 0, .null, .int 0, .int 0, .int 0, .null, .null, .null]) (C := RX1) (T := TX1) (N := 13) hx hb hg inX1 tyX1 tyX1_ok hown (hg _ k194) (hg _ k195) (hg _ k87) hK hS rfl nwX1 (Nat.le_of_ble_eq_true rfl) (Nat.le_of_ble_eq_true rfl) dX5_init_38 (fun n18 H e9 g f19 hS2 => ?_)
  replace hS := hS2
  clear hS2
  replace f0 := g.kept f0
  replace p4 := g.kept p4
  replace p5 := g.kept p5
  replace p9 := g.kept p9
  replace p10 := g.kept p10
  replace p11 := g.kept p11
  replace p15 := g.kept p15
  replace p16 := g.kept p16
  replace p17 := g.kept p17
  obtain rfl : n18 = s.heap.size + 8 := by omega
  replace hz : H.size = s.heap.size + 9 := by have := g.1; omega
  clear g
  refine lv_dup hx hb dX5_init_41 rfl ?_
  refine lv_aload_n hx hb dX5_init_42 rfl (lv_at hl 0 rfl) ?_
  refine va_get (D := κ.1) (ci := 5) (v := .ref (s.heap.size + 2)) (C := RX5) (T := TX5) (N := 10) hx hb hg inX5 hown hK f0.one 0 rfl rfl 1 (by decide) (hg _ k380) (fun _ h9 => h9) rfl dX5_init_43 ?_
  refine xcallI (n := 1) (As := [.ref (s.heap.size + 2)]) (rest := [.ref (s.heap.size + 8), .ref this]) hx hb hml hown hg (W1_init l κ (s.heap.size + 8) (s.heap.size + 2)) (mwI k198) ⟨by decide, by decide, by decide +kernel⟩ k87 k196 k197 rfl ⟨(Nat.le_of_ble_eq_true rfl), (Nat.le_of_ble_eq_true rfl)⟩ f19 hK hS hX (xA_in (xA1 (Or.inr (by omega))) hS.1) rfl hl.1 rfl (Nat.le_of_ble_eq_true rfl) dX5_init_46 ⟨(Nat.le_of_ble_eq_true rfl), (Nat.le_of_ble_eq_true rfl)⟩ (fun H locs hp g hS2 => ?_)
  replace hS := hS2
  clear hS2
  replace f0 := g.kept f0 (show ¬ xA _ _ this from xA_no (nt1 lt_this) (lt1 lt_this hz))
  replace p4 := g.kept p4 (show ¬ xA _ _ (s.heap.size + 0) from xA_no (nk rfl) (lt2 hz rfl))
  replace p5 := g.kept p5 (show ¬ xA _ _ (s.heap.size + 1) from xA_no (nk rfl) (lt2 hz rfl))
  replace p9 := g.kept p9 (show ¬ xA _ _ (s.heap.size + 2) from xA_no (nk rfl) (lt2 hz rfl))
  replace p10 := g.kept p10 (show ¬ xA _ _ (s.heap.size + 3) from xA_no (nk rfl) (lt2 hz rfl))
  replace p11 := g.kept p11 (show ¬ xA _ _ (s.heap.size + 4) from xA_no (nk rfl) (lt2 hz rfl))
  replace p15 := g.kept p15 (show ¬ xA _ _ (s.heap.size + 5) from xA_no (nk rfl) (lt2 hz rfl))
  replace p16 := g.kept p16 (show ¬ xA _ _ (s.heap.size + 6) from xA_no (nk rfl) (lt2 hz rfl))
  replace p17 := g.kept p17 (show ¬ xA _ _ (s.heap.size + 7) from xA_no (nk rfl) (lt2 hz rfl))
  clear g
  rw [hz] at hp
  obtain ⟨q0, qt, q1, q2, q3, q4, q5, q6, q7, q8, q9, q10, q11, q12, qF1, qF2⟩ := hp
  replace hz : H.size = s.heap.size + 255 := by omega
  have p20 : va_at κ.1 vwCl ((s.heap.size + 8), .inr (1, [.ref (s.heap.size + 2), .ref (s.heap.size + 9 + 0), .ref (s.heap.size + 9 + 1), .ref (s.heap.size + 9 + 2), .ref (s.heap.size + 9 + 3), .int 0, .ref (s.heap.size + 9 + 4), .int 0, .int 0, .int 0, .ref (s.heap.size + 9 + 6), .ref (s.heap.size + 9 + 8), .ref (s.heap.size + 9 + 10)])) H := qt
  have T9 : TI (kst κ (s.heap.size + 9)) (gst (s.heap.size + 9)) H := gst_TI q1 q2 q3 q4 q5 q6 q7 q8 q9 q10 q11 q12 qF1 qF2
  refine xputF (cn := 5) (v := .ref (s.heap.size + 8)) (ty := .object "LiftingSignal$State") (C := RX5) (T := TX5) (N := 10) hx hb hg inX5 tyX5 tyX5_ok nmX5 hown hK hS xA0 f0 rfl 3 (by decide) (hg _ k382) (fun _ h9 => h9) rfl hin rfl (by decide +kernel) rfl rfl (Nat.le_of_ble_eq_true rfl) dX5_init_49 (fun H locs g f0 hS2 => ?_)
  replace hS := hS2
  clear hS2
  replace p4 := g.kept p4 (show (s.heap.size + 0) ≠ this from (nt2 lt_this))
  replace p5 := g.kept p5 (show (s.heap.size + 1) ≠ this from (nt2 lt_this))
  replace p9 := g.kept p9 (show (s.heap.size + 2) ≠ this from (nt2 lt_this))
  replace p10 := g.kept p10 (show (s.heap.size + 3) ≠ this from (nt2 lt_this))
  replace p11 := g.kept p11 (show (s.heap.size + 4) ≠ this from (nt2 lt_this))
  replace p15 := g.kept p15 (show (s.heap.size + 5) ≠ this from (nt2 lt_this))
  replace p16 := g.kept p16 (show (s.heap.size + 6) ≠ this from (nt2 lt_this))
  replace p17 := g.kept p17 (show (s.heap.size + 7) ≠ this from (nt2 lt_this))
  replace p20 := g.kept p20 (show (s.heap.size + 8) ≠ this from (nt2 lt_this))
  replace T9 : TI (kst κ (s.heap.size + 9)) (gst (s.heap.size + 9)) H := g.TI T9 (gst_0 (Or.inl (nlt0 lt_this)))
  replace f0 : va_at κ.1 vwCl (this, .inr (5, [.ref (s.heap.size + 0), .ref (s.heap.size + 2), .ref (s.heap.size + 5), .ref (s.heap.size + 8), .null, .null, .null, .int 0, .int 0, .int 0])) H := f0
  replace hz := g.1.trans hz
  clear g
  exact W5r_init_c52 l κ this  hx hb hr hml hown hg hlocks hin hK hX lt_this hz f0 p4 p5 p9 p10 p11 p15 p16 p17 p20 T9 hS hl
set_option maxHeartbeats 40000000 in
set_option maxRecDepth 100000 in
theorem W5r_init (l : Launch) (κ : Kt) (this : Nat) : XC l yX5_init cX5_init 1 4 110 375248 4502060 [.ref this] κ [this] (fun H => va_at κ.1 vwCl (this, .inr (5, [.null, .null, .null, .null, .null, .null, .null, .int 0, .int 0, .int 0])) H) (fun sz su H => ∃ (κ' : Kt) (τ : Gh), TI κ' τ H ∧ CAP κ' τ H ∧ (κ'.1 = κ.1 ∧ κ'.2.1 = κ.2.1 ∧ κ'.2.2.2.2.2.2 = κ.2.2.2.2.2.2) ∧ kC κ' = sz + 375248 ∧ kS κ' ≤ su + 4496530 ∧ zT τ this = 7 ∧ zI τ (kR κ' this 0) 1 = 0 ∧ zI τ (kR κ' this 0) 2 = 0 ∧ zI τ (kR κ' this 0) 3 = -1 ∧ zI τ (kR κ' this 6) 0 = 0 ∧ zI τ (kR κ' this 6) 1 = 0 ∧ zI τ (kR κ' this 3) 7 = 0 ∧ zI τ (kR κ' this 3) 8 = 2 ∧ zI τ (kR κ' this 3) 9 = 1 ∧ DIS κ' this ∧ S9 κ' τ this ∧ ∀ q, zT τ q ≠ 0 → xA [this] sz q) := by
  refine XC.of (by decide +kernel) (Nat.le_of_ble_eq_true rfl) ?_
  intro p e s m below meth c ls hcs hpre hK hX hS hl
  obtain ⟨hx, hb, hr, hml, hown, hg, hlocks, hin⟩ := hcs
  have hown : s.vm.findClass RX5 = some m.cls := hown
  have hl : lv_has ls 1 [(0, .ref this)] := hl
  have f0 := hpre
  have lt_this : this < s.heap.size := f0.lt
  have hz : s.heap.size = s.heap.size + 0 := rfl
  refine lv_aload_n hx hb dX5_init_0 rfl (lv_at hl 0 rfl) ?_
  refine W.objInit hx hb hown (hg _ k110) (hg _ k111) (hg _ k112) rfl (by rw [hml]; exact hl.1) rfl dX5_init_1 (Nat.le_of_ble_eq_true rfl) (Nat.le_of_ble_eq_true rfl) ?_
  refine W.eq (g2 := F0 m 4 ls []) rfl ?_
  refine lv_aload_n hx hb dX5_init_4 rfl (lv_at hl 0 rfl) ?_
  refine xnew (ci := 3) (fs := [.null, .int 0, .int 0, .int 0, .int 0, .int 0, .int 0, .int 0]) (C := RX3) (T := TX3) (N := 8) hx hb hg inX3 tyX3 tyX3_ok hown (hg _ k113) (hg _ k114) (hg _ k85) hK hS rfl nwX3 (Nat.le_of_ble_eq_true rfl) (Nat.le_of_ble_eq_true rfl) dX5_init_5 (fun n1 H e9 g f2 hS2 => ?_)
  replace hS := hS2
  clear hS2
  replace f0 := g.kept f0
  obtain rfl : n1 = s.heap.size + 0 := by omega
  replace hz : H.size = s.heap.size + 1 := by have := g.1; omega
  clear g
  refine lv_dup hx hb dX5_init_8 rfl ?_
  refine xcallN (n := 0) (As := []) (rest := [.ref (s.heap.size + 0), .ref this]) hx hb hml hown hg (W3_init l κ (s.heap.size + 0)) (mwI k117) ⟨by decide, by decide, by decide +kernel⟩ k85 (XX_nRX5_11 hX.1) k116 rfl ⟨(Nat.le_of_ble_eq_true rfl), (Nat.le_of_ble_eq_true rfl)⟩ f2 hK hS hX (xA_in (xA1 (Or.inr (by omega))) hS.1) rfl hl.1 rfl (Nat.le_of_ble_eq_true rfl) dX5_init_9 ⟨(Nat.le_of_ble_eq_true rfl), (Nat.le_of_ble_eq_true rfl)⟩ (fun H locs hp g hS2 => ?_)
  replace hS := hS2
  clear hS2
  replace f0 := g.kept f0 (show ¬ xA _ _ this from xA_no (nt1 lt_this) (lt1 lt_this hz))
  clear g
  obtain ⟨p3, p4, p5⟩ := hp
  rw [hz] at p3 p4 p5
  replace hz : H.size = s.heap.size + 2 := by omega
  replace p4 : va_at κ.1 vwCl ((s.heap.size + 0), .inr (3, [.ref (s.heap.size + 1), .int 0, .int 0, .int (-1), .int 0, .int 0, .int 0, .int 0])) H := p4
  replace p5 : va_at κ.1 vwCl ((s.heap.size + 1), .inl (kA κ 2, 700, .inl (fun _ => 0))) H := p5
  refine xputF (cn := 5) (v := .ref (s.heap.size + 0)) (ty := .object "LiftingSignal$Text") (C := RX5) (T := TX5) (N := 10) hx hb hg inX5 tyX5 tyX5_ok nmX5 hown hK hS xA0 f0 rfl 0 (by decide) (hg _ k379) (fun _ h9 => h9) rfl hin rfl (by decide +kernel) rfl rfl (Nat.le_of_ble_eq_true rfl) dX5_init_12 (fun H locs g f0 hS2 => ?_)
  replace hS := hS2
  clear hS2
  replace p4 := g.kept p4 (show (s.heap.size + 0) ≠ this from (nt2 lt_this))
  replace p5 := g.kept p5 (show (s.heap.size + 1) ≠ this from (nt2 lt_this))
  replace f0 : va_at κ.1 vwCl (this, .inr (5, [.ref (s.heap.size + 0), .null, .null, .null, .null, .null, .null, .int 0, .int 0, .int 0])) H := f0
  replace hz := g.1.trans hz
  clear g
  refine lv_aload_n hx hb dX5_init_15 rfl (lv_at hl 0 rfl) ?_
  refine xnew (ci := 0) (fs := [.null, .null, .int 0, .int 0, .int 0, .int 0, .int 0]) (C := RX0) (T := TX0) (N := 7) hx hb hg inX0 tyX0 tyX0_ok hown (hg _ k148) (hg _ k149) (hg _ k86) hK hS rfl nwX0 (Nat.le_of_ble_eq_true rfl) (Nat.le_of_ble_eq_true rfl) dX5_init_16 (fun n6 H e9 g f7 hS2 => ?_)
  replace hS := hS2
  clear hS2
  replace f0 := g.kept f0
  replace p4 := g.kept p4
  replace p5 := g.kept p5
  obtain rfl : n6 = s.heap.size + 2 := by omega
  replace hz : H.size = s.heap.size + 3 := by have := g.1; omega
  clear g
  refine lv_dup hx hb dX5_init_19 rfl ?_
  refine xcallN (n := 0) (As := []) (rest := [.ref (s.heap.size + 2), .ref this]) hx hb hml hown hg (W0_init l κ (s.heap.size + 2)) (mwI k152) ⟨by decide, by decide, by decide +kernel⟩ k86 (XX_nRX5_18 hX.1) k151 rfl ⟨(Nat.le_of_ble_eq_true rfl), (Nat.le_of_ble_eq_true rfl)⟩ f7 hK hS hX (xA_in (xA1 (Or.inr (by omega))) hS.1) rfl hl.1 rfl (Nat.le_of_ble_eq_true rfl) dX5_init_20 ⟨(Nat.le_of_ble_eq_true rfl), (Nat.le_of_ble_eq_true rfl)⟩ (fun H locs hp g hS2 => ?_)
  replace hS := hS2
  clear hS2
  replace f0 := g.kept f0 (show ¬ xA _ _ this from xA_no (nt1 lt_this) (lt1 lt_this hz))
  replace p4 := g.kept p4 (show ¬ xA _ _ (s.heap.size + 0) from xA_no (nk rfl) (lt2 hz rfl))
  replace p5 := g.kept p5 (show ¬ xA _ _ (s.heap.size + 1) from xA_no (nk rfl) (lt2 hz rfl))
  clear g
  obtain ⟨p8, p9, p10, p11⟩ := hp
  rw [hz] at p8 p9 p10 p11
  replace hz : H.size = s.heap.size + 5 := by omega
  replace p9 : va_at κ.1 vwCl ((s.heap.size + 2), .inr (0, [.ref (s.heap.size + 3), .ref (s.heap.size + 4), .int 0, .int 0, .int 2, .int 1, .int 2])) H := p9
  replace p10 : va_at κ.1 vwCl ((s.heap.size + 3), .inl (kA κ 0, 48, .inl (fun _ => 0))) H := p10
  replace p11 : va_at κ.1 vwCl ((s.heap.size + 4), .inl (kA κ 0, 48, .inl (fun _ => 0))) H := p11
  refine xputF (cn := 5) (v := .ref (s.heap.size + 2)) (ty := .object "LiftingSignal$Source") (C := RX5) (T := TX5) (N := 10) hx hb hg inX5 tyX5 tyX5_ok nmX5 hown hK hS xA0 f0 rfl 1 (by decide) (hg _ k380) (fun _ h9 => h9) rfl hin rfl (by decide +kernel) rfl rfl (Nat.le_of_ble_eq_true rfl) dX5_init_23 (fun H locs g f0 hS2 => ?_)
  replace hS := hS2
  clear hS2
  replace p4 := g.kept p4 (show (s.heap.size + 0) ≠ this from (nt2 lt_this))
  replace p5 := g.kept p5 (show (s.heap.size + 1) ≠ this from (nt2 lt_this))
  replace p9 := g.kept p9 (show (s.heap.size + 2) ≠ this from (nt2 lt_this))
  replace p10 := g.kept p10 (show (s.heap.size + 3) ≠ this from (nt2 lt_this))
  replace p11 := g.kept p11 (show (s.heap.size + 4) ≠ this from (nt2 lt_this))
  replace f0 : va_at κ.1 vwCl (this, .inr (5, [.ref (s.heap.size + 0), .ref (s.heap.size + 2), .null, .null, .null, .null, .null, .int 0, .int 0, .int 0])) H := f0
  replace hz := g.1.trans hz
  clear g
  refine lv_aload_n hx hb dX5_init_26 rfl (lv_at hl 0 rfl) ?_
  refine xnew (ci := 0) (fs := [.null, .null, .int 0, .int 0, .int 0, .int 0, .int 0]) (C := RX0) (T := TX0) (N := 7) hx hb hg inX0 tyX0 tyX0_ok hown (hg _ k148) (hg _ k149) (hg _ k86) hK hS rfl nwX0 (Nat.le_of_ble_eq_true rfl) (Nat.le_of_ble_eq_true rfl) dX5_init_27 (fun n12 H e9 g f13 hS2 => ?_)
  replace hS := hS2
  clear hS2
  replace f0 := g.kept f0
  replace p4 := g.kept p4
  replace p5 := g.kept p5
  replace p9 := g.kept p9
  replace p10 := g.kept p10
  replace p11 := g.kept p11
  obtain rfl : n12 = s.heap.size + 5 := by omega
  replace hz : H.size = s.heap.size + 6 := by have := g.1; omega
  clear g
  refine lv_dup hx hb dX5_init_30 rfl ?_
  refine xcallN (n := 0) (As := []) (rest := [.ref (s.heap.size + 5), .ref this]) hx hb hml hown hg (W0_init l κ (s.heap.size + 5)) (mwI k152) ⟨by decide, by decide, by decide +kernel⟩ k86 (XX_nRX5_18 hX.1) k151 rfl ⟨(Nat.le_of_ble_eq_true rfl), (Nat.le_of_ble_eq_true rfl)⟩ f13 hK hS hX (xA_in (xA1 (Or.inr (by omega))) hS.1) rfl hl.1 rfl (Nat.le_of_ble_eq_true rfl) dX5_init_31 ⟨(Nat.le_of_ble_eq_true rfl), (Nat.le_of_ble_eq_true rfl)⟩ (fun H locs hp g hS2 => ?_)
  replace hS := hS2
  clear hS2
  replace f0 := g.kept f0 (show ¬ xA _ _ this from xA_no (nt1 lt_this) (lt1 lt_this hz))
  replace p4 := g.kept p4 (show ¬ xA _ _ (s.heap.size + 0) from xA_no (nk rfl) (lt2 hz rfl))
  replace p5 := g.kept p5 (show ¬ xA _ _ (s.heap.size + 1) from xA_no (nk rfl) (lt2 hz rfl))
  replace p9 := g.kept p9 (show ¬ xA _ _ (s.heap.size + 2) from xA_no (nk rfl) (lt2 hz rfl))
  replace p10 := g.kept p10 (show ¬ xA _ _ (s.heap.size + 3) from xA_no (nk rfl) (lt2 hz rfl))
  replace p11 := g.kept p11 (show ¬ xA _ _ (s.heap.size + 4) from xA_no (nk rfl) (lt2 hz rfl))
  clear g
  obtain ⟨p14, p15, p16, p17⟩ := hp
  rw [hz] at p14 p15 p16 p17
  replace hz : H.size = s.heap.size + 8 := by omega
  replace p15 : va_at κ.1 vwCl ((s.heap.size + 5), .inr (0, [.ref (s.heap.size + 6), .ref (s.heap.size + 7), .int 0, .int 0, .int 2, .int 1, .int 2])) H := p15
  replace p16 : va_at κ.1 vwCl ((s.heap.size + 6), .inl (kA κ 0, 48, .inl (fun _ => 0))) H := p16
  replace p17 : va_at κ.1 vwCl ((s.heap.size + 7), .inl (kA κ 0, 48, .inl (fun _ => 0))) H := p17
  refine xputF (cn := 5) (v := .ref (s.heap.size + 5)) (ty := .object "LiftingSignal$Source") (C := RX5) (T := TX5) (N := 10) hx hb hg inX5 tyX5 tyX5_ok nmX5 hown hK hS xA0 f0 rfl 2 (by decide) (hg _ k381) (fun _ h9 => h9) rfl hin rfl (by decide +kernel) rfl rfl (Nat.le_of_ble_eq_true rfl) dX5_init_34 (fun H locs g f0 hS2 => ?_)
  replace hS := hS2
  clear hS2
  replace p4 := g.kept p4 (show (s.heap.size + 0) ≠ this from (nt2 lt_this))
  replace p5 := g.kept p5 (show (s.heap.size + 1) ≠ this from (nt2 lt_this))
  replace p9 := g.kept p9 (show (s.heap.size + 2) ≠ this from (nt2 lt_this))
  replace p10 := g.kept p10 (show (s.heap.size + 3) ≠ this from (nt2 lt_this))
  replace p11 := g.kept p11 (show (s.heap.size + 4) ≠ this from (nt2 lt_this))
  replace p15 := g.kept p15 (show (s.heap.size + 5) ≠ this from (nt2 lt_this))
  replace p16 := g.kept p16 (show (s.heap.size + 6) ≠ this from (nt2 lt_this))
  replace p17 := g.kept p17 (show (s.heap.size + 7) ≠ this from (nt2 lt_this))
  replace f0 : va_at κ.1 vwCl (this, .inr (5, [.ref (s.heap.size + 0), .ref (s.heap.size + 2), .ref (s.heap.size + 5), .null, .null, .null, .null, .int 0, .int 0, .int 0])) H := f0
  replace hz := g.1.trans hz
  clear g
  exact W5r_init_c37 l κ this  hx hb hr hml hown hg hlocks hin hK hX lt_this hz f0 p4 p5 p9 p10 p11 p15 p16 p17 hS hl
