/-! Cells get their kinds: one more, two ghosts together. -/
def kset (κ : Kt) (a : Nat) (r : Nat → Nat) : Kt := (κ.1, κ.2.1, fun x => if x = a then r else κ.2.2.1 x, κ.2.2.2)
def zadd (σ : Gh) (a t n : Nat) (c : Nat → Int32) (l : Nat → Int64) : Gh := (fun x => if x = a then t else σ.1 x, fun x => if x = a then n else σ.2.1 x, fun x => if x = a then c else σ.2.2.1 x, fun x => if x = a then l else σ.2.2.2 x)
theorem zadd_T {σ : Gh} {a t n x : Nat} {c : Nat → Int32} {l : Nat → Int64} : zT (zadd σ a t n c l) x = if x = a then t else zT σ x := rfl
theorem zadd_Ta {σ : Gh} {a t n : Nat} {c : Nat → Int32} {l : Nat → Int64} : zT (zadd σ a t n c l) a = t := by rw [zadd_T, if_pos rfl]
theorem zadd_To {σ : Gh} {a t n x : Nat} {c : Nat → Int32} {l : Nat → Int64} (h : x ≠ a) : zT (zadd σ a t n c l) x = zT σ x := by rw [zadd_T, if_neg h]
theorem zadd_Tk {σ : Gh} {a t n x u : Nat} {c : Nat → Int32} {l : Nat → Int64} (h0 : zT σ a = 0) (hu : u ≠ 0) (h : zT σ x = u) : zT (zadd σ a t n c l) x = u := by
  rw [zadd_To (fun e => hu (by rw [← h, e]; exact h0))]; exact h
theorem zadd_I {σ : Gh} {a t n : Nat} {c : Nat → Int32} {l : Nat → Int64} : zI (zadd σ a t n c l) a = c := by simp [zadd, zI]
theorem zadd_J {σ : Gh} {a t n : Nat} {c : Nat → Int32} {l : Nat → Int64} : zJ (zadd σ a t n c l) a = l := by simp [zadd, zJ]
theorem zadd_M {σ : Gh} {a t n : Nat} {c : Nat → Int32} {l : Nat → Int64} : zM (zadd σ a t n c l) a = n := by simp [zadd, zM]
theorem zadd_Mo {σ : Gh} {a t n x : Nat} {c : Nat → Int32} {l : Nat → Int64} (h : x ≠ a) : zM (zadd σ a t n c l) x = zM σ x := by simp [zadd, zM, h]
theorem zadd_Io {σ : Gh} {a t n x : Nat} {c : Nat → Int32} {l : Nat → Int64} (h : x ≠ a) : zI (zadd σ a t n c l) x = zI σ x := by simp [zadd, zI, h]
theorem zadd_Jo {σ : Gh} {a t n x : Nat} {c : Nat → Int32} {l : Nat → Int64} (h : x ≠ a) : zJ (zadd σ a t n c l) x = zJ σ x := by simp [zadd, zJ, h]
theorem zadd_No {σ : Gh} {a t n x : Nat} {c : Nat → Int32} {l : Nat → Int64} (h : x ≠ a) : zN (zadd σ a t n c l) x = zN σ x := by unfold zN; rw [zadd_Mo h]
/-- what a cell is hangs on its own references alone -/
theorem zS_eq {κ κ' : Kt} {a t h : Nat} {c : Nat → Int32} {l : Nat → Int64} (hA : kA κ' = kA κ) (hR : kR κ' a = kR κ a) : zS κ' a t h c l = zS κ a t h c l := by
  unfold zS
  rw [hA, hR]
theorem kset_R {κ : Kt} {a x : Nat} {r : Nat → Nat} (h : x ≠ a) : kR (kset κ a r) x = kR κ x := by simp [kset, kR, h]
theorem kset_Ra {κ : Kt} {a : Nat} {r : Nat → Nat} : kR (kset κ a r) a = r := by simp [kset, kR]
theorem zok.eq {κ κ' : Kt} {T M : Nat → Nat} {H : Heap} {a t n : Nat} {c : Nat → Int32} {l : Nat → Int64} (h : zok κ T M H a t n c l) (h1 : κ'.1 = κ.1) (hA : kA κ' = kA κ) (hR : kR κ' a = kR κ a) : zok κ' T M H a t n c l := by
  rcases h with h | ⟨h0, g1, g2, g3, g4⟩
  · exact Or.inl h
  · exact Or.inr ⟨h0, by rw [h1, zS_eq hA hR]; exact g1, g2, fun p hp => by rw [hR]; exact g3 p hp, g4⟩
theorem TI.add {κ : Kt} {σ : Gh} {H : Heap} {a t n hh : Nat} {c : Nat → Int32} {l : Nat → Int64} {r : Nat → Nat} (h : TI κ σ H) (h0 : zT σ a = 0) (hat : va_at κ.1 vwCl (a, zS (kset κ a r) a t hh c l) H) (hP : zP t (n % 2048) c) (hR : ∀ p ∈ zR t, p.2 = 0 ∨ zT σ (r p.1) = p.2) (h1 : t = 1 → False) : TI (kset κ a r) (zadd σ a t n c l) H := by
  intro x
  by_cases e : x = a
  · subst e
    rw [zadd_Ta, zadd_I, zadd_J, zadd_M]
    refine Or.inr ⟨hh, hat, hP, fun p hp => ?_, fun q => ?_⟩
    · rcases hR p hp with q | q
      · exact Or.inl q
      · by_cases z : p.2 = 0
        · exact Or.inl z
        · rw [kset_Ra]
          exact Or.inr (zadd_Tk h0 z q)
    · exact (h1 q).elim
  · rw [zadd_To e, zadd_Io e, zadd_Jo e, zadd_Mo e]
    refine ((h x).more (T' := zT (zadd σ a t n c l)) (fun y hy => zadd_Tk h0 hy rfl) (M' := zM (zadd σ a t n c l)) (fun y hy => zadd_Mo (fun e9 => hy (by rw [e9]; exact h0)))).eq rfl rfl (kset_R e)
theorem TI.addP {κ : Kt} {σ : Gh} {H : Heap} {a t : Nat} {c : Nat → Int32} {l : Nat → Int64} (h : TI κ σ H) (h0 : zT σ a = 0) (hat : va_at κ.1 vwCl (a, zS κ a t 0 c l) H) (hP : zP t 0 c) (hR : zR t = []) (h1 : t ≠ 1) : TI κ (zadd σ a t 0 c l) H := by
  intro x
  by_cases e : x = a
  · subst e
    rw [zadd_Ta, zadd_I, zadd_J, zadd_M]
    exact Or.inr ⟨0, hat, hP, (fun p hp => by rw [hR] at hp; cases hp), fun q => absurd q h1⟩
  · rw [zadd_To e, zadd_Io e, zadd_Jo e, zadd_Mo e]
    exact (h x).more (T' := zT (zadd σ a t 0 c l)) (fun y hy => zadd_Tk h0 hy rfl) (M' := zM (zadd σ a t 0 c l)) (fun y hy => zadd_Mo (fun e9 => hy (by rw [e9]; exact h0)))
def kmer (κ1 κ2 : Kt) (σ2 : Gh) : Kt := (κ1.1, κ1.2.1, fun x => if zT σ2 x = 0 then κ1.2.2.1 x else κ2.2.2.1 x, κ1.2.2.2)
def zmer (σ1 σ2 : Gh) : Gh := (fun x => if zT σ2 x = 0 then zT σ1 x else zT σ2 x, fun x => if zT σ2 x = 0 then zM σ1 x else zM σ2 x, fun x => if zT σ2 x = 0 then zI σ1 x else zI σ2 x, fun x => if zT σ2 x = 0 then zJ σ1 x else zJ σ2 x)
theorem zmer_T {σ1 σ2 : Gh} {x : Nat} : zT (zmer σ1 σ2) x = if zT σ2 x = 0 then zT σ1 x else zT σ2 x := rfl
theorem zmer_T1 {σ1 σ2 : Gh} {x u : Nat} (d : ∀ x, zT σ1 x = 0 ∨ zT σ2 x = 0) (hu : u ≠ 0) (h : zT σ1 x = u) : zT (zmer σ1 σ2) x = u := by
  rw [zmer_T, if_pos ((d x).resolve_left (by rw [h]; exact hu))]; exact h
theorem zmer_T2 {σ1 σ2 : Gh} {x u : Nat} (hu : u ≠ 0) (h : zT σ2 x = u) : zT (zmer σ1 σ2) x = u := by
  rw [zmer_T, if_neg (by rw [h]; exact hu)]; exact h
theorem TI.mer {κ1 κ2 : Kt} {σ1 σ2 : Gh} {H : Heap} (h1 : TI κ1 σ1 H) (h2 : TI κ2 σ2 H) (e : κ2.1 = κ1.1 ∧ κ2.2.1 = κ1.2.1) (d : ∀ x, zT σ1 x = 0 ∨ zT σ2 x = 0) : TI (kmer κ1 κ2 σ2) (zmer σ1 σ2) H := by
  intro x
  by_cases z : zT σ2 x = 0
  · have eI : zI (zmer σ1 σ2) x = zI σ1 x := by simp [zmer, zI, z]
    have eJ : zJ (zmer σ1 σ2) x = zJ σ1 x := by simp [zmer, zJ, z]
    have eN : zM (zmer σ1 σ2) x = zM σ1 x := by simp [zmer, zM, z]
    have eR : kR (kmer κ1 κ2 σ2) x = kR κ1 x := by simp [kmer, kR, z]
    rw [eI, eJ, eN, zmer_T, if_pos z]
    exact ((h1 x).more (T' := zT (zmer σ1 σ2)) (fun y hy => zmer_T1 d hy rfl) (M' := zM (zmer σ1 σ2)) (fun y hy => by have z9 := (d y).resolve_left hy; simp [zmer, zM, z9])).eq rfl rfl eR
  · have eI : zI (zmer σ1 σ2) x = zI σ2 x := by simp [zmer, zI, z]
    have eJ : zJ (zmer σ1 σ2) x = zJ σ2 x := by simp [zmer, zJ, z]
    have eN : zM (zmer σ1 σ2) x = zM σ2 x := by simp [zmer, zM, z]
    have eR : kR (kmer κ1 κ2 σ2) x = kR κ2 x := by simp [kmer, kR, z]
    rw [eI, eJ, eN, zmer_T, if_neg z]
    exact ((h2 x).more (T' := zT (zmer σ1 σ2)) (fun y hy => zmer_T2 hy rfl) (M' := zM (zmer σ1 σ2)) (fun y hy => by simp [zmer, zM, hy])).eq e.1.symm e.2.symm eR
def z0 : Gh := (fun _ => 0, fun _ => 0, fun _ _ => 0, fun _ _ => 0)
theorem TI.nil {κ : Kt} {H : Heap} : TI κ z0 H := fun _ => Or.inl rfl
def kw (κ : Kt) (R : Nat → Nat → Nat) : Kt := (κ.1, κ.2.1, R, κ.2.2.2)
def kcap (κ : Kt) (L : List Nat) (C S : Nat) : Kt := (κ.1, κ.2.1, κ.2.2.1, L, C, S, κ.2.2.2.2.2.2)
theorem TI.kcap {κ : Kt} {σ : Gh} {H : Heap} {L : List Nat} {C S : Nat} (h : TI κ σ H) : TI (kcap κ L C S) σ H := fun x => (h x).eq rfl rfl rfl
theorem pcl_le (n : Nat) : pcl n ≤ 375 := by unfold pcl; omega
theorem psl_le (n : Nat) : psl n ≤ 4500 := by unfold psl; split <;> omega
theorem sum_le {f : Nat → Nat} {d : Nat} (h : ∀ x, f x ≤ d) : ∀ L : List Nat, (L.map f).sum ≤ L.length * d := by
  intro L
  induction L with
  | nil => simp
  | cons a L ih =>
    have := h a
    simp only [List.map_cons, List.sum_cons, List.length_cons]
    rw [Nat.add_mul]
    omega
/-- room for all that may grow -/
theorem CAP.mk {κ : Kt} {σ : Gh} {H : Heap} {L : List Nat} {n C S : Nat} (hL : ∀ a, zT σ a = 1 → a ∈ L) (hn : L.length ≤ n) (hC : H.size + n * 375 ≤ C) (hS : hsl H + n * 4500 ≤ S) : CAP (kcap κ L C S) σ H := by
  refine ⟨hL, ?_, ?_⟩
  · have h1 := sum_le (f := fun a => pcl (zN σ a)) (fun a => pcl_le _) L
    have h2 := Nat.mul_le_mul_right 375 hn
    show H.size + (L.map fun a => pcl (zN σ a)).sum ≤ C
    omega
  · have h1 := sum_le (f := fun a => psl (zN σ a)) (fun a => psl_le _) L
    have h2 := Nat.mul_le_mul_right 4500 hn
    show hsl H + (L.map fun a => psl (zN σ a)).sum ≤ S
    omega
/-- contents of an array of references count below its length alone -/
theorem va_at.refs {D : va_G} {a cA n : Nat} {f g : Nat → Option Nat} {H : Heap} (h : va_at D vwCl (a, .inl (cA, n, .inr (.inr (.inr (.inr f))))) H) (e : ∀ i, i < n → f i = g i) : va_at D vwCl (a, .inl (cA, n, .inr (.inr (.inr (.inr g))))) H := by
  have e1 : (fun j : Fin n => va_rf (f j.val)) = fun j => va_rf (g j.val) := funext fun j => by rw [e j.val j.isLt]
  have e2 : vp_cell cA (n, .inr (.inr (.inr (.inr f)))) = vp_cell cA (n, .inr (.inr (.inr (.inr g)))) := by
    rw [vp_cell_q, vp_cell_q]
    unfold arrV
    rw [e1]
  show H[a]? = some (vp_cell _ _)
  rw [← e2]
  exact h
