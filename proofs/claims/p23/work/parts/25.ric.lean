/-! What every state of the reference keeps, over states of known kinds. -/
def rN (σ : Gh) (m : Nat) : Nat := (zI σ m 7).toInt.toNat
def RI (κ : Kt) (σ : Gh) (m : Nat) : Prop := (zk σ m 20 ∧ zk σ (kR κ m 1) 21 ∧ zk σ (kR κ m 3) 22 ∧ zk σ (kR κ m 4) 29 ∧ zk σ (kR κ m 5) 25) ∧ WI (rN σ m) (zJ σ (kR κ m 1)) ∧ PL (rN σ m) (zI σ (kR κ m 5)) ∧ (0 ≤ (zI σ m 13).toInt ∧ (zI σ m 13).toInt ≤ 700) ∧ (∀ i, i < 2 → zI σ (kR κ m 4) i ≠ 0 → WI (rN σ m) (fun j => zJ σ (kR κ m 3) (609 * i + j)))
section RIC
variable {κ : Kt} {F : Nat → Nat → Bool} {σ τ : Gh} {m a t sz : Nat}
theorem RI.b (h : RI κ σ m) : (2 ≤ (zI σ m 7).toInt ∧ (zI σ m 7).toInt ≤ 48) ∧ (0 ≤ (zJ σ (kR κ m 1) 4).toInt ∧ (zJ σ (kR κ m 1) 4).toInt ≤ (zI σ m 7).toInt - 2) ∧ (0 ≤ (zI σ m 13).toInt ∧ (zI σ m 13).toInt ≤ 700) := by
  obtain ⟨-, w, -, l, -⟩ := h
  have f := w.f.2.2.2.2.1
  obtain ⟨⟨w1, w2⟩, ⟨w3, w4⟩, -⟩ := w
  unfold rN at f w1 w2
  exact ⟨⟨by omega, by omega⟩, ⟨w3, by omega⟩, l⟩
theorem RI.same (h : RI κ σ m) (hk : zT τ = zT σ) (h7 : zI τ m 7 = zI σ m 7) (h13 : zI τ m 13 = zI σ m 13) (hw : zJ τ (kR κ m 1) = zJ σ (kR κ m 1)) (hs : zJ τ (kR κ m 3) = zJ σ (kR κ m 3)) (hkp : zI τ (kR κ m 4) = zI σ (kR κ m 4)) (hp : zI τ (kR κ m 5) = zI σ (kR κ m 5)) : RI κ τ m := by
  unfold RI rN zk at *
  rw [hk, h7, h13, hw, hs, hkp, hp]
  exact h
theorem RI.ext (h : RI κ σ m) (g : Ext F sz σ τ) (hF : F 20 7 = false ∧ F 20 13 = false ∧ (∀ k, F 21 k = false) ∧ (∀ k, F 22 k = false) ∧ (∀ k, F 25 k = false) ∧ (∀ k, F 29 k = false)) : RI κ τ m := by
  have k1 := h.1.1.ext g (by decide)
  have k2 := h.1.2.1.ext g (by decide)
  have k3 := h.1.2.2.1.ext g (by decide)
  have k4 := h.1.2.2.2.1.ext g (by decide)
  have k5 := h.1.2.2.2.2.ext g (by decide)
  have h7 := h.1.1.eI g (by decide) hF.1
  have h13 := h.1.1.eI g (by decide) hF.2.1
  have hw : zJ τ (kR κ m 1) = zJ σ (kR κ m 1) := funext fun k => h.1.2.1.eJ g (by decide) (hF.2.2.1 k)
  have hs : zJ τ (kR κ m 3) = zJ σ (kR κ m 3) := funext fun k => h.1.2.2.1.eJ g (by decide) (hF.2.2.2.1 k)
  have hp : zI τ (kR κ m 5) = zI σ (kR κ m 5) := funext fun k => h.1.2.2.2.2.eI g (by decide) (hF.2.2.2.2.1 k)
  have hkp : zI τ (kR κ m 4) = zI σ (kR κ m 4) := funext fun k => h.1.2.2.2.1.eI g (by decide) (hF.2.2.2.2.2 k)
  refine ⟨⟨k1, k2, k3, k4, k5⟩, ?_⟩
  unfold rN
  rw [h7, h13, hw, hs, hkp, hp]
  exact h.2
theorem zput_Io {k x : Nat} {v : Int32} (h : τ = zput σ a k v) (hn : x ≠ a) : zI τ x = zI σ x := funext fun _ => zput_o h (Or.inl hn)
theorem zpul_Jo {k x : Nat} {v : Int64} (h : τ = zpul σ a k v) (hn : x ≠ a) : zJ τ x = zJ σ x := funext fun _ => zpul_o h (Or.inl hn)
theorem zpul_Ja {k : Nat} {v : Int64} (h : τ = zpul σ a k v) : zJ τ a = vp_updL (zJ σ a) k v := by rw [h]; unfold zpul; rw [zset_J]
theorem RI.put {k : Nat} {v : Int32} (h : RI κ σ m) (hu : τ = zput σ a k v) (ha : zk σ a t) (ht : t ≠ 25 ∧ t ≠ 29 ∧ (t = 20 → k ≠ 7 ∧ k ≠ 13)) : RI κ τ m := by
  refine h.same (by rw [hu]; rfl) ?_ ?_ (zput_J hu) (zput_J hu) (zput_Io hu (h.1.2.2.2.1.ne ha (by omega))) (zput_Io hu (h.1.2.2.2.2.ne ha (by omega)))
  · by_cases e : t = 20
    · exact zput_o hu (Or.inr (fun q => (ht.2.2 e).1 q.symm))
    · exact zput_o hu (Or.inl (h.1.1.ne ha (by omega)))
  · by_cases e : t = 20
    · exact zput_o hu (Or.inr (fun q => (ht.2.2 e).2 q.symm))
    · exact zput_o hu (Or.inl (h.1.1.ne ha (by omega)))
theorem RI.putL {v : Int32} (h : RI κ σ m) (hu : τ = zput σ m 13 v) (hv : 0 ≤ v.toInt ∧ v.toInt ≤ 700) : RI κ τ m := by
  have e7 : zI τ m 7 = zI σ m 7 := zput_o hu (Or.inr (by decide))
  have e13 : zI τ m 13 = v := zput_at hu
  have j := fun x => zput_J (x := x) hu
  have ik := zput_Io hu (h.1.2.2.2.1.ne h.1.1 (by decide))
  have ip := zput_Io hu (h.1.2.2.2.2.ne h.1.1 (by decide))
  obtain ⟨h1, h2⟩ := h
  refine ⟨by rw [hu]; exact h1, ?_⟩
  unfold rN at *
  rw [e7, e13, j, j, ik, ip]
  exact ⟨h2.1, h2.2.1, hv, h2.2.2.2⟩
theorem RI.pul {k : Nat} {v : Int64} (h : RI κ σ m) (hu : τ = zpul σ a k v) (ha : zk σ a t) (ht : t ≠ 21 ∧ t ≠ 22) : RI κ τ m :=
  h.same (by rw [hu]; rfl) (by rw [zpul_I hu]) (by rw [zpul_I hu]) (zpul_Jo hu (h.1.2.1.ne ha (by omega))) (zpul_Jo hu (h.1.2.2.1.ne ha (by omega))) (zpul_I hu) (zpul_I hu)
/-- the row alone is new -/
theorem RI.row (h : RI κ σ m) (hk : zT τ = zT σ) (hI : zI τ = zI σ) (ho : ∀ x, x ≠ kR κ m 1 → zJ τ x = zJ σ x) (hw : WI (rN σ m) (zJ τ (kR κ m 1))) : RI κ τ m := by
  have hs : zJ τ (kR κ m 3) = zJ σ (kR κ m 3) := ho _ (h.1.2.2.1.ne h.1.2.1 (by decide))
  obtain ⟨h1, -, h3⟩ := h
  unfold RI rN zk at *
  rw [hk, hI, hs]
  exact ⟨h1, hw, h3⟩
theorem RI.pulw {k : Nat} {v : Int64} (h : RI κ σ m) (hu : τ = zpul σ a k v) (ea : kR κ m 1 = a) (hk : ¬ rel k) : RI κ τ m := by
  subst ea
  refine h.row (by rw [hu]; rfl) (funext fun x => zpul_I hu) (fun x hx => zpul_Jo hu hx) ?_
  rw [zpul_Ja hu]
  exact h.2.1.upd hk
/-- the row is new behind a call -/
theorem RI.extw (h : RI κ σ m) (g : Ext F sz σ τ) (hF : F 20 7 = false ∧ F 20 13 = false ∧ (∀ k, F 22 k = false) ∧ (∀ k, F 25 k = false) ∧ (∀ k, F 29 k = false)) (hw : WI (rN σ m) (zJ τ (kR κ m 1))) : RI κ τ m := by
  have k1 := h.1.1.ext g (by decide)
  have k2 := h.1.2.1.ext g (by decide)
  have k3 := h.1.2.2.1.ext g (by decide)
  have k4 := h.1.2.2.2.1.ext g (by decide)
  have k5 := h.1.2.2.2.2.ext g (by decide)
  have h7 := h.1.1.eI g (by decide) hF.1
  have h13 := h.1.1.eI g (by decide) hF.2.1
  have hs : zJ τ (kR κ m 3) = zJ σ (kR κ m 3) := funext fun k => h.1.2.2.1.eJ g (by decide) (hF.2.2.1 k)
  have hp : zI τ (kR κ m 5) = zI σ (kR κ m 5) := funext fun k => h.1.2.2.2.2.eI g (by decide) (hF.2.2.2.1 k)
  have hkp : zI τ (kR κ m 4) = zI σ (kR κ m 4) := funext fun k => h.1.2.2.2.1.eI g (by decide) (hF.2.2.2.2 k)
  unfold rN at hw
  refine ⟨⟨k1, k2, k3, k4, k5⟩, ?_⟩
  unfold rN
  rw [h7, h13, hs, hkp, hp]
  exact ⟨hw, h.2.2⟩
end RIC
theorem nrel {j : Nat} (h : j < 4 ∨ (4 < j ∧ j < 53)) : ¬ rel j := by unfold rel; omega
theorem nrel_s {i k j : Nat} (h : j = 149 + 10 * i + k) (hk : k = 3 ∨ k = 8 ∨ k = 9) : ¬ rel j := by unfold rel; omega
theorem ix_0 : ix (0 : Int32) = 0 := by decide
theorem ix_1 : ix (1 : Int32) = 1 := by decide
theorem ix_2 : ix (2 : Int32) = 2 := by decide
theorem ix_3 : ix (3 : Int32) = 3 := by decide
theorem ix_4 : ix (4 : Int32) = 4 := by decide
theorem ix_5 : ix (5 : Int32) = 5 := by decide
theorem ix_6 : ix (6 : Int32) = 6 := by decide
theorem ix_7 : ix (7 : Int32) = 7 := by decide
theorem ix_8 : ix (8 : Int32) = 8 := by decide
theorem ix_9 : ix (9 : Int32) = 9 := by decide
def ad (w : Nat → Int64) (j : Nat) : Int := (if (w (149 + 10 * j + 3)).toInt < 0 then -(w (149 + 10 * j + 3)) else w (149 + 10 * j + 3)).toInt
theorem ad_of {w : Nat → Int64} {j : Nat} {t r : Int64} (h : t.toInt = rst w j 3) (g : r = if t.toInt < 0 then -t else t) : r.toInt = ad w j := by
  have e : t = w (149 + 10 * j + 3) := Int64.toInt_inj.mp h
  rw [g, e]; rfl
theorem lrem_t (x y : Int64) : (x - x / y * y).toInt = x.toInt.tmod y.toInt := by
  have h1 : x.toInt - x.toInt.tdiv y.toInt * y.toInt = x.toInt.tmod y.toInt := by have := Int.mul_tdiv_add_tmod x.toInt y.toInt; rw [Int.mul_comm] at this; omega
  have h3 := Int64.toInt_lt x
  have h4 := Int64.le_toInt x
  have h2 : -9223372036854775808 ≤ x.toInt.tmod y.toInt ∧ x.toInt.tmod y.toInt ≤ 9223372036854775807 := by
    by_cases hx : 0 ≤ x.toInt
    · have a := Int.tmod_nonneg y.toInt hx
      have b : x.toInt.tmod y.toInt ≤ x.toInt := by
        have c := Int.natAbs_tmod x.toInt y.toInt
        have d := Nat.mod_le x.toInt.natAbs y.toInt.natAbs
        omega
      omega
    · have c := Int.natAbs_tmod x.toInt y.toInt
      have d := Nat.mod_le x.toInt.natAbs y.toInt.natAbs
      have e : x.toInt.tmod y.toInt ≤ 0 := by
        have := Int.tmod_nonneg y.toInt (show 0 ≤ -x.toInt by omega)
        rw [Int.neg_tmod] at this
        omega
      omega
  rw [Int64.toInt_sub, Int64.toInt_mul, Int64.toInt_div]
  simp only [Int.sub_bmod_bmod, Int.bmod_mul_bmod]
  rw [h1, Int.bmod_eq_of_le (by omega) (by omega)]
section RID
variable {p : Program} {l : Launch} {e : Env} {R : Room} {s : State} {m : MethodId} {args : Array Value} {below : List Frame} {meth : Method} {c : Code} {H : Heap} {locs : List Loc} {cells slots : Nat} {Q : State → Prop} {cc : ByteArray} {pc : Nat} {ls : Array Slot} {rest : List Value}
theorem g_subl {x y : Int64} (a : -9223372036854775808 ≤ x.toInt - y.toInt) (b : x.toInt - y.toInt ≤ 9223372036854775807) (k : ∀ t : Int64, t.toInt = x.toInt - y.toInt → W p l e R s m args below meth c H locs cells slots Q (F0 m pc ls (.long t :: rest))) : W p l e R s m args below meth c H locs cells slots Q (F0 m pc ls (.long (x - y) :: rest)) :=
  k _ (by rw [Int64.toInt_sub, Int.bmod_eq_of_le (by omega) (by omega)])
theorem g_mull {x y : Int64} (a : -9223372036854775808 ≤ x.toInt * y.toInt) (b : x.toInt * y.toInt ≤ 9223372036854775807) (k : ∀ t : Int64, t.toInt = x.toInt * y.toInt → W p l e R s m args below meth c H locs cells slots Q (F0 m pc ls (.long t :: rest))) : W p l e R s m args below meth c H locs cells slots Q (F0 m pc ls (.long (x * y) :: rest)) :=
  k _ (by rw [Int64.toInt_mul, Int.bmod_eq_of_le (by omega) (by omega)])
theorem g_ldivp {x y : Int64} (a : 1 ≤ y.toInt) (k : ∀ t : Int64, (0 ≤ x.toInt → t.toInt = x.toInt / y.toInt ∧ 0 ≤ t.toInt) → W p l e R s m args below meth c H locs cells slots Q (F0 m pc ls (.long t :: rest))) : W p l e R s m args below meth c H locs cells slots Q (F0 m pc ls (.long (x / y) :: rest)) :=
  k _ (fun h => by
    have h1 : x.toInt.tdiv y.toInt = x.toInt / y.toInt := Int.tdiv_eq_ediv_of_nonneg h
    have h2 : x.toInt / y.toInt ≤ x.toInt := Int.ediv_le_self _ h
    have h3 : 0 ≤ x.toInt / y.toInt := Int.ediv_nonneg h (by omega)
    have h4 := Int64.toInt_lt x
    rw [Int64.toInt_div, h1, Int.bmod_eq_of_le (by omega) (by omega)]
    exact ⟨rfl, h3⟩)
theorem g_ldivk {x y : Int64} {k : Int} (hy : y.toInt = k) (hk : 0 < k) (kk : ∀ t : Int64, (0 ≤ x.toInt → t.toInt = x.toInt / k ∧ 0 ≤ t.toInt) → W p l e R s m args below meth c H locs cells slots Q (F0 m pc ls (.long t :: rest))) : W p l e R s m args below meth c H locs cells slots Q (F0 m pc ls (.long (x / y) :: rest)) := by
  subst hy
  exact g_ldivp (by omega) kk
theorem g_lremp {x y : Int64} (a : 1 ≤ y.toInt) (k : ∀ t : Int64, (0 ≤ x.toInt → 0 ≤ t.toInt) → W p l e R s m args below meth c H locs cells slots Q (F0 m pc ls (.long t :: rest))) : W p l e R s m args below meth c H locs cells slots Q (F0 m pc ls (.long (x - x / y * y) :: rest)) :=
  k _ (fun h => by
    have h1 : x.toInt.tdiv y.toInt = x.toInt / y.toInt := Int.tdiv_eq_ediv_of_nonneg h
    have h2 : x.toInt / y.toInt ≤ x.toInt := Int.ediv_le_self _ h
    have h3 : 0 ≤ x.toInt / y.toInt := Int.ediv_nonneg h (by omega)
    have h4 := Int64.toInt_lt x
    have h5 : (x / y).toInt = x.toInt / y.toInt := by rw [Int64.toInt_div, h1, Int.bmod_eq_of_le (by omega) (by omega)]
    have h6 : x.toInt / y.toInt * y.toInt ≤ x.toInt := Int.ediv_mul_le _ (by omega)
    have h7 : 0 ≤ x.toInt / y.toInt * y.toInt := Int.mul_nonneg h3 (by omega)
    have h8 : (x / y * y).toInt = x.toInt / y.toInt * y.toInt := by rw [Int64.toInt_mul, h5, Int.bmod_eq_of_le (by omega) (by omega)]
    rw [Int64.toInt_sub, h8, Int.bmod_eq_of_le (by omega) (by omega)]
    omega)
theorem g_lremn {x y : Int64} (a : y.toInt ≠ 0) (k : ∀ t : Int64, t.toInt.natAbs < y.toInt.natAbs → W p l e R s m args below meth c H locs cells slots Q (F0 m pc ls (.long t :: rest))) : W p l e R s m args below meth c H locs cells slots Q (F0 m pc ls (.long (x - x / y * y) :: rest)) :=
  k _ (by
    rw [lrem_t, Int.natAbs_tmod]
    exact Nat.mod_lt _ (by omega))
end RID
