/-! THE CLAIM OUT OF ONE WALK OF THE LAW'S BODY. Your part is whole_start (and what it stands on); all else here is the same for every law, but numbers. -/
def R_law : String := "LiftingSignalLaw"
def lw_P (b : Addr) (xs : List Int32) (args : Array Value) (s : State) : Prop := args = #[.ref b] ∧ s.IntsAt b xs ∧ xs.length ≤ 3072 ∧ (Jvm.Cond.and given_1 narrow_1).before args s = true
/-- what a walk over the start with the record d0 says of its end, said of the start itself -/
theorem lw_closed {s t : State} {o : Outcome} {d0 : Drawn} {L : List Loc} {k n : Nat} (hd0 : s.drawn.sameBut d0 lw_cs) (hv : ∃ v, o = .returned v) (hW : (s.setDrawn d0).WarmedH t.vm) (hs : (s.setDrawn d0).sameButNew ({ t with vm := s.vm } : State) L k n) : State.butDraws s t lw_cs (fun t1 => Framed s o t1 L k n) := by
  have h2 : t.drawn = d0 := congrArg State.drawn hs.1
  refine ⟨⟨hv, hW, State.sameButNew.setDrawn hs s.drawn⟩, ?_, by decide⟩
  rw [h2]
  exact hd0
def lw_Q (_ : Array Value) (s : State) (o : Outcome) (t : State) : Prop := o = .returned (some (.int 1)) ∧ State.butDraws s t lw_cs (fun t1 => Framed s o t1 [] 601024 7293034)
def lw_Z (below : List Frame) (a : Array Value) (s : State) : State → Prop := fun t => ∃ o, t.status = .running ∧ Ended t below o ∧ lw_Q a s o t
/-- the law's own end, with 1 on the stack, nothing written that was there before, its room as the claim has it; d0: the record of draws at this point (at the entry s.drawn: begin with 'refine W.base ?_' and 'have hd0 := Drawn.sameBut.refl s.drawn lw_cs') -/
theorem lw_ret {p : Program} {l : Launch} {e : Env} {s : State} {m : MethodId} {below : List Frame} {meth : Method} {c : Code} {b : Nat} {d0 : Drawn} (hd0 : s.drawn.sameBut d0 lw_cs) (hx : p.tables.exec = Jvm.exec) (hb : c.code = code) (hr : meth.sig.returnType = ret) (hlocks : meth.locks = false) {pc : Nat} {H : Heap} {ls : Array Slot} (hdg : decode code pc = .ok (.ireturn, 1)) : W p l e room_1 (s.setDrawn d0) m #[Value.ref b] below meth c H [] 601024 7293034 (lw_Z below #[Value.ref b] s) (F0 m pc ls [.int 1]) := by
  intro T hT X
  obtain ⟨fs, hret, hrun, hended, hW, hframe⟩ := X.leave (v := some (.int 1)) (hlocks := hlocks) (fun h => by rw [hr] at h; cases h)
  have hmeth' : T.vm.method? m = some meth := X.method'
  refine ⟨T.setFrames fs, ?_, .returned (some (.int 1)), hrun, hended, rfl, lw_closed hd0 ⟨_, rfl⟩ hW hframe⟩
  jvm_step X.here [X.here.top, hx, hb, hdg, hmeth', hr, ret, narrow_b1]
  (try refine ⟨rfl, ?_⟩); (try refine ⟨rfl, ?_⟩)
  first | (intro acts; rw [hret _ acts rfl rfl rfl]) | rw [hret _ _ rfl rfl rfl]
  exact Steps.refl _
/-- what holds at the law's entry: the machine, the code, the tables' words (any of lw_tbl by 'hts w (by decide +kernel)'), the script of L ints xs at the cell b, what the Statement gives of the start (any of its parts by flat_of_before) -/
def lw_At (p : Program) (s : State) (m : MethodId) (meth : Method) (c : Code) (b L : Nat) (xs : Nat → Int32) : Prop :=
  p.tables.exec = Jvm.exec ∧ c.code = code ∧ meth.sig.returnType = ret ∧ c.maxLocals = 9 ∧ s.vm.findClass R_law = some m.cls ∧ (∀ w ∈ lw_tbl, w.before #[Value.ref b] s = true) ∧ va_X b L xs s s.heap ∧ b < s.heap.size ∧ meth.locks = false ∧ (Jvm.Cond.and given_1 narrow_1).before #[Value.ref b] s = true
-- ===== YOUR PART BEGINS =====
theorem k105 : Cond.classLink RL 8 RX5 ∈ GW := gm 105 (by decide +kernel) (by decide +kernel)
theorem k106 : Cond.instantiable RX5 10 ∈ GW := gm 106 (by decide +kernel) (by decide +kernel)
theorem k107 : Cond.methodLink RL 112 yX5_init ∈ GW := gm 107 (by decide +kernel) (by decide +kernel)
theorem k108 : Cond.instanceMethod yX5_init ∈ GW := gm 108 (by decide +kernel) (by decide +kernel)
theorem k109 : Cond.code yX5_init cX5_init 1 none ∈ GW := gm 109 (by decide +kernel) (by decide +kernel)
theorem k1204 : Cond.classLink RL 113 RX6 ∈ GW := gm 1204 (by decide +kernel) (by decide +kernel)
theorem k1205 : Cond.instantiable RX6 27 ∈ GW := gm 1205 (by decide +kernel) (by decide +kernel)
theorem k1206 : Cond.methodLink RL 115 yX6_init ∈ GW := gm 1206 (by decide +kernel) (by decide +kernel)
theorem k1207 : Cond.instanceMethod yX6_init ∈ GW := gm 1207 (by decide +kernel) (by decide +kernel)
theorem k1208 : Cond.code yX6_init cX6_init 1 none ∈ GW := gm 1208 (by decide +kernel) (by decide +kernel)
theorem dL_law_0 : decode cL_law 0 = .ok (.new 8, 3) := by decide +kernel
theorem dL_law_3 : decode cL_law 3 = .ok (.dup, 1) := by decide +kernel
theorem dL_law_4 : decode cL_law 4 = .ok (.invokespecial 112, 3) := by decide +kernel
theorem dL_law_7 : decode cL_law 7 = .ok (.astore_n 1, 1) := by decide +kernel
theorem dL_law_8 : decode cL_law 8 = .ok (.new 113, 3) := by decide +kernel
theorem dL_law_11 : decode cL_law 11 = .ok (.dup, 1) := by decide +kernel
theorem dL_law_12 : decode cL_law 12 = .ok (.invokespecial 115, 3) := by decide +kernel
theorem dL_law_15 : decode cL_law 15 = .ok (.astore_n 2, 1) := by decide +kernel
theorem dL_law_16 : decode cL_law 16 = .ok (.iconst 1, 1) := by decide +kernel
theorem dL_law_17 : decode cL_law 17 = .ok (.newarray .long, 2) := by decide +kernel
theorem dL_law_19 : decode cL_law 19 = .ok (.astore_n 3, 1) := by decide +kernel
theorem dL_law_20 : decode cL_law 20 = .ok (.iconst 0, 1) := by decide +kernel
theorem dL_law_21 : decode cL_law 21 = .ok (.istore 4, 2) := by decide +kernel
theorem dL_law_1438 : decode cL_law 1438 = .ok (.iconst 1, 1) := by decide +kernel
theorem dL_law_1439 : decode cL_law 1439 = .ok (.ireturn, 1) := by decide +kernel
theorem lw_drop {s s' : State} {J : List Loc} {k n : Nat} (h : s.sameButNew s' J k n) (hJ : ∀ x ∈ J, s.heap.size ≤ x.base) : s.sameButNew s' [] k n := by
  obtain ⟨h1, h2, h3, h4, h5, h6⟩ := h
  refine ⟨h1, h2, h3, h4, h5, fun a c hc => ?_⟩
  obtain ⟨c', hc', hce, hsz, hout⟩ := h6 a c hc
  refine ⟨c', hc', hce, hsz, fun i _ => hout i ?_⟩
  intro hmem
  have hb : s.heap.size ≤ a := hJ _ hmem
  have ha : a < s.heap.size := (Array.getElem?_eq_some_iff.mp hc).1
  exact absurd ha (Nat.not_lt.mpr hb)
theorem lw_retL {p : Program} {l : Launch} {e : Env} {s : State} {m : MethodId} {below : List Frame} {meth : Method} {c : Code} {b : Nat} {d0 : Drawn} {locs : List Loc} (hL : ∀ z ∈ locs, s.heap.size ≤ z.base) (hd0 : s.drawn.sameBut d0 lw_cs) (hx : p.tables.exec = Jvm.exec) (hb : c.code = code) (hr : meth.sig.returnType = ret) (hlocks : meth.locks = false) {pc : Nat} {H : Heap} {ls : Array Slot} (hdg : decode code pc = .ok (.ireturn, 1)) : W p l e room_1 (s.setDrawn d0) m #[Value.ref b] below meth c H locs 601024 7293034 (lw_Z below #[Value.ref b] s) (F0 m pc ls [.int 1]) := by
  intro T hT X
  obtain ⟨fs, hret, hrun, hended, hW, hframe⟩ := X.leave (v := some (.int 1)) (hlocks := hlocks) (fun h => by rw [hr] at h; cases h)
  have hmeth' : T.vm.method? m = some meth := X.method'
  refine ⟨T.setFrames fs, ?_, .returned (some (.int 1)), hrun, hended, rfl, lw_closed hd0 ⟨_, rfl⟩ hW (lw_drop hframe hL)⟩
  jvm_step X.here [X.here.top, hx, hb, hdg, hmeth', hr, ret, narrow_b1]
  (try refine ⟨rfl, ?_⟩); (try refine ⟨rfl, ?_⟩)
  first | (intro acts; rw [hret _ acts rfl rfl rfl]) | rw [hret _ _ rfl rfl rfl]
  exact Steps.refl _
theorem kb_0 {κ : Kt} : kb κ 0 = κ := rfl
set_option maxHeartbeats 40000000 in
set_option maxRecDepth 100000 in
theorem whole_start {p : Program} {e : Env} {s : State} {m : MethodId} {below : List Frame} {meth : Method} {c : Code} (l : Launch) (hflags : l.flags = flags0) {b L : Nat} {xs : Nat → Int32} (hL : L ≤ 3072) (C0 : lw_At p s m meth c b L xs) : W p l e room_1 s m #[Value.ref b] below meth c s.heap [] 0 0 (lw_Z below #[Value.ref b] s) (entryFrame m ([Value.ref b] : List Value).toArray 9) := by
  obtain ⟨hx, hb, hr, hml, hown, hts, hXs, hbl, hlocks, hgv⟩ := id C0
  have hlt : l.stackTraces = false := by rw [Launch.stackTraces, hflags]; decide +kernel
  have hg : ∀ w ∈ GW, w.before #[Value.ref b] s = true := fun w h => hts w (GW_in h)
  have hown : s.vm.findClass RL = some m.cls := hown
  have hb : c.code = cL_law := hb
  obtain ⟨A, hAe⟩ : ∃ A : Nat → Prop, A = (fun q => s.heap.size ≤ q) := ⟨_, rfl⟩
  have hA : ∀ q, s.heap.size ≤ q → A q := fun q h => by rw [hAe]; exact h
  have hAf : ∀ q, A q → s.heap.size ≤ q := fun q h => by rw [hAe] at h; exact h
  have hA0 : ∀ a : Nat, a < s.heap.size → ¬ A a := fun a h q => by rw [hAe] at q; exact absurd h (Nat.not_lt.mpr q)
  have hbA : ¬ A b := hA0 b hbl
  have hfl := flat_of_before _ hgv
  have hz_UNASSIGNED_STACK : vx_Zq Bundle.tN "UNASSIGNED_STACK" Bundle.steD A s s.heap := vx_Zqof (args := #[Value.ref b]) (hts (.laysStatic "java/lang/Throwable" "UNASSIGNED_STACK" "[Ljava/lang/StackTraceElement;") (List.mem_of_getElem? (i := 640) (by decide +kernel))) (hts (.initialized "java/lang/Throwable") (List.mem_of_getElem? (i := 93) (by decide +kernel))) (hfl (.isRef (.static "java/lang/Throwable" "UNASSIGNED_STACK" "[Ljava/lang/StackTraceElement;")) (by decide +kernel)) hA0
  have hz_SUPPRESSED_SENTINEL : vx_Zq Bundle.tN "SUPPRESSED_SENTINEL" Bundle.listD A s s.heap := vx_Zqof (args := #[Value.ref b]) (hts (.laysStatic "java/lang/Throwable" "SUPPRESSED_SENTINEL" "Ljava/util/List;") (List.mem_of_getElem? (i := 642) (by decide +kernel))) (hts (.initialized "java/lang/Throwable") (List.mem_of_getElem? (i := 93) (by decide +kernel))) (hfl (.isRef (.static "java/lang/Throwable" "SUPPRESSED_SENTINEL" "Ljava/util/List;")) (by decide +kernel)) hA0
  have hstr : ∀ q ∈ XXL, ∃ a, vk_R q.1 q.2.1 q.2.2 a s := by
    intro q hq
    simp only [XXL, List.mem_cons, List.not_mem_nil, or_false] at hq
    rcases hq with rfl | rfl | rfl | rfl | rfl | rfl | rfl | rfl | rfl | rfl | rfl | rfl | rfl | rfl | rfl | rfl | rfl | rfl | rfl | rfl | rfl | rfl
    · obtain ⟨a, _, _, _, q1, _⟩ := Cond.exactly_spec (args := #[Value.ref b]) (first := s) (o := none) (s := s) (idx := []) (t := .string "LiftingSignal" 319) (cls := "java/lang/String") (hfl (.exactly (.string "LiftingSignal" 319) "java/lang/String") (by decide +kernel))
      exact ⟨a, vk_R.of (A := #[Value.ref b]) (hts (.stringRef RX5 319 "there is no such index") (List.mem_of_getElem? (i := 655) (by decide +kernel))) q1⟩
    · obtain ⟨a, _, _, _, q1, _⟩ := Cond.exactly_spec (args := #[Value.ref b]) (first := s) (o := none) (s := s) (idx := []) (t := .string "LiftingSignal$Text" 68) (cls := "java/lang/String") (hfl (.exactly (.string "LiftingSignal$Text" 68) "java/lang/String") (by decide +kernel))
      exact ⟨a, vk_R.of (A := #[Value.ref b]) (hts (.stringRef RX3 68 "split") (List.mem_of_getElem? (i := 723) (by decide +kernel))) q1⟩
    · obtain ⟨a, _, _, _, q1, _⟩ := Cond.exactly_spec (args := #[Value.ref b]) (first := s) (o := none) (s := s) (idx := []) (t := .string "LiftingSignal$Text" 74) (cls := "java/lang/String") (hfl (.exactly (.string "LiftingSignal$Text" 74) "java/lang/String") (by decide +kernel))
      exact ⟨a, vk_R.of (A := #[Value.ref b]) (hts (.stringRef RX3 74 "predict") (List.mem_of_getElem? (i := 776) (by decide +kernel))) q1⟩
    · obtain ⟨a, _, _, _, q1, _⟩ := Cond.exactly_spec (args := #[Value.ref b]) (first := s) (o := none) (s := s) (idx := []) (t := .string "LiftingSignal$Text" 76) (cls := "java/lang/String") (hfl (.exactly (.string "LiftingSignal$Text" 76) "java/lang/String") (by decide +kernel))
      exact ⟨a, vk_R.of (A := #[Value.ref b]) (hts (.stringRef RX3 76 "update") (List.mem_of_getElem? (i := 777) (by decide +kernel))) q1⟩
    · obtain ⟨a, _, _, _, q1, _⟩ := Cond.exactly_spec (args := #[Value.ref b]) (first := s) (o := none) (s := s) (idx := []) (t := .string "LiftingSignal$Text" 78) (cls := "java/lang/String") (hfl (.exactly (.string "LiftingSignal$Text" 78) "java/lang/String") (by decide +kernel))
      exact ⟨a, vk_R.of (A := #[Value.ref b]) (hts (.stringRef RX3 78 "least") (List.mem_of_getElem? (i := 778) (by decide +kernel))) q1⟩
    · obtain ⟨a, _, _, _, q1, _⟩ := Cond.exactly_spec (args := #[Value.ref b]) (first := s) (o := none) (s := s) (idx := []) (t := .string "LiftingSignal$Text" 80) (cls := "java/lang/String") (hfl (.exactly (.string "LiftingSignal$Text" 80) "java/lang/String") (by decide +kernel))
      exact ⟨a, vk_R.of (A := #[Value.ref b]) (hts (.stringRef RX3 80 "span") (List.mem_of_getElem? (i := 787) (by decide +kernel))) q1⟩
    · obtain ⟨a, _, _, _, q1, _⟩ := Cond.exactly_spec (args := #[Value.ref b]) (first := s) (o := none) (s := s) (idx := []) (t := .string "LiftingSignal$Text" 82) (cls := "java/lang/String") (hfl (.exactly (.string "LiftingSignal$Text" 82) "java/lang/String") (by decide +kernel))
      exact ⟨a, vk_R.of (A := #[Value.ref b]) (hts (.stringRef RX3 82 "dyadic") (List.mem_of_getElem? (i := 788) (by decide +kernel))) q1⟩
    · obtain ⟨a, _, _, _, q1, _⟩ := Cond.exactly_spec (args := #[Value.ref b]) (first := s) (o := none) (s := s) (idx := []) (t := .string "LiftingSignal$Text" 84) (cls := "java/lang/String") (hfl (.exactly (.string "LiftingSignal$Text" 84) "java/lang/String") (by decide +kernel))
      exact ⟨a, vk_R.of (A := #[Value.ref b]) (hts (.stringRef RX3 84 "detail") (List.mem_of_getElem? (i := 789) (by decide +kernel))) q1⟩
    · obtain ⟨a, _, _, _, q1, _⟩ := Cond.exactly_spec (args := #[Value.ref b]) (first := s) (o := none) (s := s) (idx := []) (t := .string "LiftingSignal$Text" 88) (cls := "java/lang/String") (hfl (.exactly (.string "LiftingSignal$Text" 88) "java/lang/String") (by decide +kernel))
      exact ⟨a, vk_R.of (A := #[Value.ref b]) (hts (.stringRef RX3 88 "left") (List.mem_of_getElem? (i := 790) (by decide +kernel))) q1⟩
    · obtain ⟨a, _, _, _, q1, _⟩ := Cond.exactly_spec (args := #[Value.ref b]) (first := s) (o := none) (s := s) (idx := []) (t := .string "LiftingSignal$Text" 90) (cls := "java/lang/String") (hfl (.exactly (.string "LiftingSignal$Text" 90) "java/lang/String") (by decide +kernel))
      exact ⟨a, vk_R.of (A := #[Value.ref b]) (hts (.stringRef RX3 90 "near") (List.mem_of_getElem? (i := 791) (by decide +kernel))) q1⟩
    · obtain ⟨a, _, _, _, q1, _⟩ := Cond.exactly_spec (args := #[Value.ref b]) (first := s) (o := none) (s := s) (idx := []) (t := .string "LiftingSignal$Text" 92) (cls := "java/lang/String") (hfl (.exactly (.string "LiftingSignal$Text" 92) "java/lang/String") (by decide +kernel))
      exact ⟨a, vk_R.of (A := #[Value.ref b]) (hts (.stringRef RX3 92 "linear") (List.mem_of_getElem? (i := 792) (by decide +kernel))) q1⟩
    · obtain ⟨a, _, _, _, q1, _⟩ := Cond.exactly_spec (args := #[Value.ref b]) (first := s) (o := none) (s := s) (idx := []) (t := .string "LiftingSignal$Text" 96) (cls := "java/lang/String") (hfl (.exactly (.string "LiftingSignal$Text" 96) "java/lang/String") (by decide +kernel))
      exact ⟨a, vk_R.of (A := #[Value.ref b]) (hts (.stringRef RX3 96 "keep") (List.mem_of_getElem? (i := 793) (by decide +kernel))) q1⟩
    · obtain ⟨a, _, _, _, q1, _⟩ := Cond.exactly_spec (args := #[Value.ref b]) (first := s) (o := none) (s := s) (idx := []) (t := .string "LiftingSignal$Text" 102) (cls := "java/lang/String") (hfl (.exactly (.string "LiftingSignal$Text" 102) "java/lang/String") (by decide +kernel))
      exact ⟨a, vk_R.of (A := #[Value.ref b]) (hts (.stringRef RX3 102 "none") (List.mem_of_getElem? (i := 794) (by decide +kernel))) q1⟩
    · obtain ⟨a, _, _, _, q1, _⟩ := Cond.exactly_spec (args := #[Value.ref b]) (first := s) (o := none) (s := s) (idx := []) (t := .string "LiftingSignal$Text" 109) (cls := "java/lang/String") (hfl (.exactly (.string "LiftingSignal$Text" 109) "java/lang/String") (by decide +kernel))
      exact ⟨a, vk_R.of (A := #[Value.ref b]) (hts (.stringRef RX3 109 "at") (List.mem_of_getElem? (i := 807) (by decide +kernel))) q1⟩
    · obtain ⟨a, _, _, _, q1, _⟩ := Cond.exactly_spec (args := #[Value.ref b]) (first := s) (o := none) (s := s) (idx := []) (t := .string "LiftingSignal" 86) (cls := "java/lang/String") (hfl (.exactly (.string "LiftingSignal" 86) "java/lang/String") (by decide +kernel))
      exact ⟨a, vk_R.of (A := #[Value.ref b]) (hts (.stringRef RX5 86 "the text has an error") (List.mem_of_getElem? (i := 822) (by decide +kernel))) q1⟩
    · obtain ⟨a, _, _, _, q1, _⟩ := Cond.exactly_spec (args := #[Value.ref b]) (first := s) (o := none) (s := s) (idx := []) (t := .string "LiftingSignal" 130) (cls := "java/lang/String") (hfl (.exactly (.string "LiftingSignal" 130) "java/lang/String") (by decide +kernel))
      exact ⟨a, vk_R.of (A := #[Value.ref b]) (hts (.stringRef RX5 130 "what is out of range") (List.mem_of_getElem? (i := 853) (by decide +kernel))) q1⟩
    · obtain ⟨a, _, _, _, q1, _⟩ := Cond.exactly_spec (args := #[Value.ref b]) (first := s) (o := none) (s := s) (idx := []) (t := .string "LiftingSignal" 198) (cls := "java/lang/String") (hfl (.exactly (.string "LiftingSignal" 198) "java/lang/String") (by decide +kernel))
      exact ⟨a, vk_R.of (A := #[Value.ref b]) (hts (.stringRef RX5 198 "the position is outside of the samples") (List.mem_of_getElem? (i := 897) (by decide +kernel))) q1⟩
    · obtain ⟨a, _, _, _, q1, _⟩ := Cond.exactly_spec (args := #[Value.ref b]) (first := s) (o := none) (s := s) (idx := []) (t := .string "LiftingSignal" 321) (cls := "java/lang/String") (hfl (.exactly (.string "LiftingSignal" 321) "java/lang/String") (by decide +kernel))
      exact ⟨a, vk_R.of (A := #[Value.ref b]) (hts (.stringRef RX5 321 "a number is out of range") (List.mem_of_getElem? (i := 912) (by decide +kernel))) q1⟩
    · obtain ⟨a, _, _, _, q1, _⟩ := Cond.exactly_spec (args := #[Value.ref b]) (first := s) (o := none) (s := s) (idx := []) (t := .string "LiftingSignal" 249) (cls := "java/lang/String") (hfl (.exactly (.string "LiftingSignal" 249) "java/lang/String") (by decide +kernel))
      exact ⟨a, vk_R.of (A := #[Value.ref b]) (hts (.stringRef RX5 249 "no sample would be lifted") (List.mem_of_getElem? (i := 960) (by decide +kernel))) q1⟩
    · obtain ⟨a, _, _, _, q1, _⟩ := Cond.exactly_spec (args := #[Value.ref b]) (first := s) (o := none) (s := s) (idx := []) (t := .string "LiftingSignal" 325) (cls := "java/lang/String") (hfl (.exactly (.string "LiftingSignal" 325) "java/lang/String") (by decide +kernel))
      exact ⟨a, vk_R.of (A := #[Value.ref b]) (hts (.stringRef RX5 325 "the state does not allow it; reason() tells why") (List.mem_of_getElem? (i := 1002) (by decide +kernel))) q1⟩
    · obtain ⟨a, _, _, _, q1, _⟩ := Cond.exactly_spec (args := #[Value.ref b]) (first := s) (o := none) (s := s) (idx := []) (t := .string "LiftingSignal" 312) (cls := "java/lang/String") (hfl (.exactly (.string "LiftingSignal" 312) "java/lang/String") (by decide +kernel))
      exact ⟨a, vk_R.of (A := #[Value.ref b]) (hts (.stringRef RX5 312 "no threshold keeps the error that small") (List.mem_of_getElem? (i := 1174) (by decide +kernel))) q1⟩
    · obtain ⟨a, _, _, _, q1, _⟩ := Cond.exactly_spec (args := #[Value.ref b]) (first := s) (o := none) (s := s) (idx := []) (t := .string "LiftingSignal" 317) (cls := "java/lang/String") (hfl (.exactly (.string "LiftingSignal" 317) "java/lang/String") (by decide +kernel))
      exact ⟨a, vk_R.of (A := #[Value.ref b]) (hts (.stringRef RX5 317 "nothing is saved in the slot") (List.mem_of_getElem? (i := 1203) (by decide +kernel))) q1⟩
  have hnest : ∀ q ∈ XXM, va_Nw (.methodLinkNest q.1 q.2.1 q.2.2.1 q.2.2.2) s := by
    intro q hq
    simp only [XXM, List.mem_cons, List.not_mem_nil, or_false] at hq
    rcases hq with rfl | rfl | rfl | rfl | rfl
    · exact va_Nw.of rfl (hts (.methodLinkNest RX5 11 yX3_init "LiftingSignal") (List.mem_of_getElem? (i := 115) (by decide +kernel)))
    · exact va_Nw.of rfl (hts (.methodLinkNest RX5 18 yX0_init "LiftingSignal") (List.mem_of_getElem? (i := 150) (by decide +kernel)))
    · exact va_Nw.of rfl (hts (.methodLinkNest RX1 35 yX4_init "LiftingSignal") (List.mem_of_getElem? (i := 205) (by decide +kernel)))
    · exact va_Nw.of rfl (hts (.methodLinkNest RX1 53 yX2_init "LiftingSignal") (List.mem_of_getElem? (i := 221) (by decide +kernel)))
    · exact va_Nw.of rfl (hts (.methodLinkNest RX2 9 yX4_init "LiftingSignal") (List.mem_of_getElem? (i := 226) (by decide +kernel)))
  have hao : ∀ q ∈ XXO, va_AO q s := by
    intro q hq
    simp only [XXO, List.mem_cons, List.not_mem_nil, or_false] at hq
    rcases hq with rfl | rfl | rfl
    · exact va_AO.of (hts (.arrayOver (.object RX4)) (List.mem_of_getElem? (i := 201) (by decide +kernel)))
    · exact va_AO.of (hts (.arrayOver (.object RX2)) (List.mem_of_getElem? (i := 203) (by decide +kernel)))
    · exact va_AO.of (hts (.arrayOver (.object RX1)) (List.mem_of_getElem? (i := 327) (by decide +kernel)))
  have hde : ∀ q ∈ XXD, va_Nw (.declares q) s := by
    intro q hq
    simp only [XXD, List.mem_cons, List.not_mem_nil, or_false] at hq
    rcases hq with rfl | rfl | rfl
    · exact va_Nw.of rfl (hts (.declares (Bundle.initS "java/lang/RuntimeException")) (List.mem_of_getElem? (i := 617) (by decide +kernel)))
    · exact va_Nw.of rfl (hts (.declares (Bundle.initS "java/lang/Exception")) (List.mem_of_getElem? (i := 619) (by decide +kernel)))
    · exact va_Nw.of rfl (hts (.declares (Bundle.initS Bundle.tN)) (List.mem_of_getElem? (i := 621) (by decide +kernel)))
  have hca : ∀ q ∈ XXC, va_Nw (.castable q q) s := by
    intro q hq
    simp only [XXC, List.mem_cons, List.not_mem_nil, or_false] at hq
    rcases hq with rfl | rfl | rfl | rfl
    · exact va_Nw.of rfl (hts (.castable "java/lang/IndexOutOfBoundsException" "java/lang/IndexOutOfBoundsException") (List.mem_of_getElem? (i := 615) (by decide +kernel)))
    · exact va_Nw.of rfl (hts (.castable "java/lang/IllegalArgumentException" "java/lang/IllegalArgumentException") (List.mem_of_getElem? (i := 815) (by decide +kernel)))
    · exact va_Nw.of rfl (hts (.castable "java/util/NoSuchElementException" "java/util/NoSuchElementException") (List.mem_of_getElem? (i := 953) (by decide +kernel)))
    · exact va_Nw.of rfl (hts (.castable "java/lang/IllegalStateException" "java/lang/IllegalStateException") (List.mem_of_getElem? (i := 995) (by decide +kernel)))
  have hnc : ∀ q ∈ XXQ, va_Nc q.1 q.2 s := by
    intro q hq
    simp only [XXQ, List.mem_cons, List.not_mem_nil, or_false] at hq
    rcases hq with rfl | rfl | rfl | rfl | rfl
    · exact va_Nc.of (args := #[Value.ref b]) (hfl (.not (.castable "java/lang/IllegalArgumentException" "java/lang/IndexOutOfBoundsException")) (by decide +kernel))
    · exact va_Nc.of (args := #[Value.ref b]) (hfl (.not (.castable "java/lang/IllegalStateException" "java/lang/IndexOutOfBoundsException")) (by decide +kernel))
    · exact va_Nc.of (args := #[Value.ref b]) (hfl (.not (.castable "java/lang/IllegalStateException" "java/lang/IllegalArgumentException")) (by decide +kernel))
    · exact va_Nc.of (args := #[Value.ref b]) (hfl (.not (.castable "java/util/NoSuchElementException" "java/lang/IndexOutOfBoundsException")) (by decide +kernel))
    · exact va_Nc.of (args := #[Value.ref b]) (hfl (.not (.castable "java/util/NoSuchElementException" "java/lang/IllegalArgumentException")) (by decide +kernel))
  have hX : XX A s s.heap := ⟨hz_UNASSIGNED_STACK, hz_SUPPRESSED_SENTINEL, hstr, hnest, hao, hde, hca, hnc⟩
  obtain ⟨cc0, ii0, kk0⟩ := u_known (C := RX0) (T := TX0) (N := 7) (n := 7) hg inX0 (hg _ k149)
  obtain ⟨cc1, ii1, kk1⟩ := u_known (C := RX1) (T := TX1) (N := 13) (n := 13) hg inX1 (hg _ k195)
  obtain ⟨cc2, ii2, kk2⟩ := u_known (C := RX2) (T := TX2) (N := 10) (n := 10) hg inX2 (hg _ k220)
  obtain ⟨cc3, ii3, kk3⟩ := u_known (C := RX3) (T := TX3) (N := 8) (n := 8) hg inX3 (hg _ k114)
  obtain ⟨cc4, ii4, kk4⟩ := u_known (C := RX4) (T := TX4) (N := 3) (n := 3) hg inX4 (hg _ k204)
  obtain ⟨cc5, ii5, kk5⟩ := u_known (C := RX5) (T := TX5) (N := 10) (n := 10) hg inX5 (hg _ k106)
  obtain ⟨cc6, ii6, kk6⟩ := u_known (C := RX6) (T := TX6) (N := 27) (n := 27) hg inX6 (hg _ k1205)
  obtain ⟨D, hKc⟩ : ∃ D : va_G, ∀ (k : Nat) (q : vw_C), vwCl[k]? = some q → u_Kn s q.1 q.2.1 q.2.2 (D.1 k) (D.2 k) := by
    refine ⟨(fun k => if k = 0 then cc0 else if k = 1 then cc1 else if k = 2 then cc2 else if k = 3 then cc3 else if k = 4 then cc4 else if k = 5 then cc5 else cc6, fun k => if k = 0 then ii0 else if k = 1 then ii1 else if k = 2 then ii2 else if k = 3 then ii3 else if k = 4 then ii4 else if k = 5 then ii5 else ii6), ?_⟩
    intro k q hq
    match k, hq with
    | 0, hq => cases hq; exact kk0
    | 1, hq => cases hq; exact kk1
    | 2, hq => cases hq; exact kk2
    | 3, hq => cases hq; exact kk3
    | 4, hq => cases hq; exact kk4
    | 5, hq => cases hq; exact kk5
    | 6, hq => cases hq; exact kk6
    | k + 7, hq => simp [vwCl] at hq
  obtain ⟨a0, ar0, an0⟩ := arr_of (ty := .int) (hg _ k193)
  obtain ⟨a1, ar1, an1⟩ := arr_of (ty := .long) (hg _ k219)
  obtain ⟨a2, ar2, an2⟩ := arr_of (ty := .byte) (hg _ k147)
  obtain ⟨a3, ar3, an3⟩ := arr_of (ty := .boolean) (hg _ k410)
  obtain ⟨a4, ar4, an4⟩ := arr_ofq (XX_aoRX4 hX)
  obtain ⟨a5, ar5, an5⟩ := arr_ofq (XX_aoRX2 hX)
  obtain ⟨a6, ar6, an6⟩ := arr_ofq (XX_aoRX1 hX)
  have hex9 : ∀ i, i < 13 → (Cond.exactly (.string RX3 (wdI.getD i 0)) "java/lang/String").before #[Value.ref b] s = true := fun i hi => hfl _ (by revert i; decide +kernel)
  have hco9 : ∀ i, i < 13 → (Cond.eq (.field (.string RX3 (wdI.getD i 0)) "java/lang/String" "coder" "B") (.int 0)).before #[Value.ref b] s = true := fun i hi => hfl _ (by revert i; decide +kernel)
  have har9 : ∀ i, i < 13 → (Cond.arrayOf (.field (.string RX3 (wdI.getD i 0)) "java/lang/String" "value" "[B") .byte).before #[Value.ref b] s = true := fun i hi => hfl _ (by revert i; decide +kernel)
  have hle9 : ∀ i, i < 13 → (Cond.eq (.length (.field (.string RX3 (wdI.getD i 0)) "java/lang/String" "value" "[B")) (.int (Int32.ofNat (wdL.getD i 0)))).before #[Value.ref b] s = true := fun i hi => hfl _ (by revert i; decide +kernel)
  have hel9 : ∀ i, i < 13 → ∀ j, j < wdL.getD i 0 → (Cond.eq (.elem (.field (.string RX3 (wdI.getD i 0)) "java/lang/String" "value" "[B") (.int (Int32.ofNat j))) (.int ((wdB.getD i []).getD j 0))).before #[Value.ref b] s = true := fun i hi j hj => hfl _ (by revert j; revert i; decide +kernel)
  have hne9 : ∀ j, j < 13 → ∀ i, i < j → (Cond.not (Cond.eq (.string RX3 (wdI.getD i 0)) (.string RX3 (wdI.getD j 0)))).before #[Value.ref b] s = true := fun j hj i hi => hfl _ (by revert i; revert j; decide +kernel)
  obtain ⟨adK, adV, hS9, hev⟩ := vk_Sof (args := #[Value.ref b]) (s := s) (N := 13) (tm := fun i => (.string RX3 (wdI.getD i 0))) (len := wdL) (byt := wdB) (A := A) (by decide) hex9 hco9 har9 hle9 hel9 (fun i j hi hj hij => (Nat.lt_or_gt_of_ne hij).elim (fun h => Or.inl (hne9 j hj i h)) (fun h => Or.inr (hne9 i hi j h))) hA0
  have hR9 : ∀ i, i < 13 → vk_R RX3 (wdI.getD i 0) (wdT.getD i "") (adK i) s := by
    intro i hi
    match i, hi with
    | 0, _ => exact vk_R.of (A := #[Value.ref b]) (hts (.stringRef RX3 68 "split") (List.mem_of_getElem? (i := 723) (by decide +kernel))) (hev 0 (by decide))
    | 1, _ => exact vk_R.of (A := #[Value.ref b]) (hts (.stringRef RX3 74 "predict") (List.mem_of_getElem? (i := 776) (by decide +kernel))) (hev 1 (by decide))
    | 2, _ => exact vk_R.of (A := #[Value.ref b]) (hts (.stringRef RX3 76 "update") (List.mem_of_getElem? (i := 777) (by decide +kernel))) (hev 2 (by decide))
    | 3, _ => exact vk_R.of (A := #[Value.ref b]) (hts (.stringRef RX3 78 "least") (List.mem_of_getElem? (i := 778) (by decide +kernel))) (hev 3 (by decide))
    | 4, _ => exact vk_R.of (A := #[Value.ref b]) (hts (.stringRef RX3 80 "span") (List.mem_of_getElem? (i := 787) (by decide +kernel))) (hev 4 (by decide))
    | 5, _ => exact vk_R.of (A := #[Value.ref b]) (hts (.stringRef RX3 82 "dyadic") (List.mem_of_getElem? (i := 788) (by decide +kernel))) (hev 5 (by decide))
    | 6, _ => exact vk_R.of (A := #[Value.ref b]) (hts (.stringRef RX3 84 "detail") (List.mem_of_getElem? (i := 789) (by decide +kernel))) (hev 6 (by decide))
    | 7, _ => exact vk_R.of (A := #[Value.ref b]) (hts (.stringRef RX3 88 "left") (List.mem_of_getElem? (i := 790) (by decide +kernel))) (hev 7 (by decide))
    | 8, _ => exact vk_R.of (A := #[Value.ref b]) (hts (.stringRef RX3 90 "near") (List.mem_of_getElem? (i := 791) (by decide +kernel))) (hev 8 (by decide))
    | 9, _ => exact vk_R.of (A := #[Value.ref b]) (hts (.stringRef RX3 92 "linear") (List.mem_of_getElem? (i := 792) (by decide +kernel))) (hev 9 (by decide))
    | 10, _ => exact vk_R.of (A := #[Value.ref b]) (hts (.stringRef RX3 96 "keep") (List.mem_of_getElem? (i := 793) (by decide +kernel))) (hev 10 (by decide))
    | 11, _ => exact vk_R.of (A := #[Value.ref b]) (hts (.stringRef RX3 102 "none") (List.mem_of_getElem? (i := 794) (by decide +kernel))) (hev 11 (by decide))
    | 12, _ => exact vk_R.of (A := #[Value.ref b]) (hts (.stringRef RX3 109 "at") (List.mem_of_getElem? (i := 807) (by decide +kernel))) (hev 12 (by decide))
    | i + 13, h => exact absurd h (by omega)
  have hZ9 := va_Zof (args := #[Value.ref b]) (A := A) (hts (.laysStatic "java/lang/String" "COMPACT_STRINGS" "Z") (List.mem_of_getElem? (i := 737) (by decide +kernel))) (hts (.initialized "java/lang/String") (List.mem_of_getElem? (i := 97) (by decide +kernel))) (va_eqt (hfl (.eq (.static "java/lang/String" "COMPACT_STRINGS" "Z") (.int 1)) (by decide +kernel))) hA0
  have hZq9 := va_Zqof (args := #[Value.ref b]) (A := A) (hts (.laysStatic "jdk/internal/util/Preconditions" "SIOOBE_FORMATTER" "Ljava/util/function/BiFunction;") (List.mem_of_getElem? (i := 753) (by decide +kernel))) (hts (.initialized "jdk/internal/util/Preconditions") (List.mem_of_getElem? (i := 99) (by decide +kernel))) (hfl (.isRef (.static "jdk/internal/util/Preconditions" "SIOOBE_FORMATTER" "Ljava/util/function/BiFunction;")) (by decide +kernel)) hA0
  obtain ⟨κ, hK, hX⟩ : ∃ κ : Kt, va_K κ.1 vwCl (kTy κ) s ∧ XY κ A s s.heap := by
    refine ⟨(D, fun k => if k = 0 then a0 else if k = 1 then a1 else if k = 2 then a2 else if k = 3 then a3 else if k = 4 then a4 else if k = 5 then a5 else a6, fun _ _ => 0, [], 0, 0, adK, adV), ⟨hKc, fun k q hq => ?_⟩, hX, hS9, hR9, hZ9, hZq9⟩
    match k, hq with
    | 0, hq => have e9 : ((a0, .int) : ClassId × FieldType) = q := Option.some.inj hq; subst e9; exact ⟨ar0, an0⟩
    | 1, hq => have e9 : ((a1, .long) : ClassId × FieldType) = q := Option.some.inj hq; subst e9; exact ⟨ar1, an1⟩
    | 2, hq => have e9 : ((a2, .byte) : ClassId × FieldType) = q := Option.some.inj hq; subst e9; exact ⟨ar2, an2⟩
    | 3, hq => have e9 : ((a3, .boolean) : ClassId × FieldType) = q := Option.some.inj hq; subst e9; exact ⟨ar3, an3⟩
    | 4, hq => have e9 : ((a4, .object RX4) : ClassId × FieldType) = q := Option.some.inj hq; subst e9; exact ⟨ar4, an4⟩
    | 5, hq => have e9 : ((a5, .object RX2) : ClassId × FieldType) = q := Option.some.inj hq; subst e9; exact ⟨ar5, an5⟩
    | 6, hq => have e9 : ((a6, .object RX1) : ClassId × FieldType) = q := Option.some.inj hq; subst e9; exact ⟨ar6, an6⟩
    | k + 7, hq => simp [kTy] at hq
  have hS : va_S A s.heap s.heap [] := va_S.rf
  have hl := lv_entry ([.ref b]) (n := 9) (Nat.le_of_ble_eq_true rfl)
  rw [lg_entry_eq]
  generalize (lg_sl ([.ref b]) ++ List.replicate (9 - (lg_sl ([.ref b])).length) Slot.unset).toArray = ls at hl ⊢
  have hl : lv_has ls 9 [(0, .ref b)] := hl
  refine xnew (ci := 5) (fs := [.null, .null, .null, .null, .null, .null, .null, .int 0, .int 0, .int 0]) (C := RX5) (T := TX5) (N := 10) hx hb hg inX5 tyX5 tyX5_ok hown (hg _ k105) (hg _ k106) (hg _ k84) hK hS rfl nwX5 (by show _ ≤ (601024 : Nat); omega) (by show _ ≤ (7293034 : Nat); omega) dL_law_0 (fun x H ex gX fX hS2 => ?_)
  replace hS := hS2
  clear hS2
  refine lv_dup hx hb dL_law_3 rfl ?_
  refine W.tight (fun u1 u2 u3 u4 => ?_)
  refine xcallI (n := 0) (As := []) (rest := [.ref x]) hx hb hml hown hg (W5r_init l κ x) (mwI k109) ⟨by decide, by decide, by decide +kernel⟩ k84 k107 k108 rfl ⟨(Nat.le_of_ble_eq_true rfl), (Nat.le_of_ble_eq_true rfl)⟩ fX hK hS hX (fun z hz => hA z (hz.elim (fun e9 => by have e8 := List.mem_singleton.mp e9; omega) (fun e9 => by omega))) rfl hl.1 rfl (Nat.le_of_ble_eq_true rfl) dL_law_4 ⟨(by show _ ≤ (601024 : Nat); omega), (by show _ ≤ (7293034 : Nat); omega)⟩ (fun H1 locs hp g1 hS2 => ?_)
  replace hS := hS2
  clear hS2
  obtain ⟨κ1, τ1, T1, C1, k1, kc1, ks1, zx1, zi1, zi2, zi3, zk0, zk1, n7, n8, n9, D1, S1, su1⟩ := hp
  have lt1 : ∀ q, zT τ1 q ≠ 0 → q < H1.size := fun q hq => T1.lt hq
  refine lv_astore_n (lv' := [(1, .ref x), (0, .ref b)]) hx hb dL_law_7 rfl hl (by decide) rfl (fun ls hl => ?_)
  have g1z := g1.1
  refine W.tight (fun v1 v2 v3 v4 => ?_)
  refine xnew (ci := 6) (fs := [.int 0, .null, .null, .null, .null, .null, .null, .int 0, .int 0, .int 0, .int 0, .int 0, .null, .int 0, .int 0, .int 0, .int 0, .int 0, .int 0, .int 0, .int 0, .int 0, .int 0, .int 0, .int 0, .null, .null]) (C := RX6) (T := TX6) (N := 27) hx hb hg inX6 tyX6 tyX6_ok hown (hg _ k1204) (hg _ k1205) (hg _ k92) hK hS rfl nwX6 (by show _ ≤ (601024 : Nat); omega) (by show _ ≤ (7293034 : Nat); omega) dL_law_8 (fun mm H2 emm gM fM hS2 => ?_)
  replace hS := hS2
  clear hS2
  have gMz := gM.1
  replace T1 := gM.TI T1
  refine lv_dup hx hb dL_law_11 rfl ?_
  refine xcallI (n := 0) (As := []) (rest := [.ref mm]) hx hb hml hown hg (W6r_init l κ mm) (mwI k1208) ⟨by decide, by decide, by decide +kernel⟩ k92 k1206 k1207 rfl ⟨(Nat.le_of_ble_eq_true rfl), (Nat.le_of_ble_eq_true rfl)⟩ fM hK hS hX (fun z hz => hA z (hz.elim (fun e9 => by have e8 := List.mem_singleton.mp e9; omega) (fun e9 => by omega))) rfl hl.1 rfl (Nat.le_of_ble_eq_true rfl) dL_law_12 ⟨(by show _ ≤ (601024 : Nat); omega), (by show _ ≤ (7293034 : Nat); omega)⟩ (fun H3 locs hp g2 hS2 => ?_)
  replace hS := hS2
  clear hS2
  obtain ⟨κ2, τ2, T2, k2, R2, l13, l15, l16, kk0, kk1, w0, w1, w2, M1, zm2, no2, su2⟩ := hp
  have g2z := g2.1
  replace T1 := g2.TI T1 (fun q hq h9 => by have q9 := lt1 q hq; rcases h9 with e9 | e9; (have e8 := List.mem_singleton.mp e9; omega); omega)
  have lt2 : ∀ q, zT τ2 q ≠ 0 → q < H3.size := fun q hq => T2.lt hq
  refine lv_astore_n (lv' := [(2, .ref mm), (1, .ref x), (0, .ref b)]) hx hb dL_law_15 rfl hl (by decide) rfl (fun ls hl => ?_)
  refine lv_iconst (v := 1) hx hb dL_law_16 (by decide) ?_
  refine xnewa 1 (atype := .long) (k := 1) (N := 1) (E := (1, .inr (.inl (fun _ => 0)))) hx hb (hg _ k219) hK rfl hS (by decide) (by decide) (Nat.le_of_ble_eq_true rfl) rfl (by show _ ≤ (601024 : Nat); omega) (by show _ ≤ (7293034 : Nat); omega) dL_law_17 (fun out H4 eO gO fO hS2 => ?_)
  replace hS := hS2
  clear hS2
  have gOz := gO.1
  replace T1 := gO.TI T1
  replace T2 := gO.TI T2
  refine lv_astore_n (lv' := [(3, .ref out), (2, .ref mm), (1, .ref x), (0, .ref b)]) hx hb dL_law_19 rfl hl (by decide) rfl (fun ls hl => ?_)
  refine lv_iconst (v := 0) hx hb dL_law_20 (by decide) ?_
  refine lv_istore (lv' := [(4, .int 0), (3, .ref out), (2, .ref mm), (1, .ref x), (0, .ref b)]) hx hb dL_law_21 hl (by decide) rfl (fun ls hl => ?_)
  refine W.tight (fun y1 y2 y3 y4 => ?_)
  have hd9 : ∀ q, zT τ1 q = 0 ∨ zT τ2 q = 0 := fun q => by
    by_cases h1 : zT τ1 q = 0
    · exact Or.inl h1
    · refine Or.inr (Decidable.byContradiction fun h2 => ?_)
      have q9 := lt1 q h1
      rcases su2 q h2 with e9 | e9
      · have e8 := List.mem_singleton.mp e9; omega
      · omega
  have ho1 : zT τ1 out = 0 := Decidable.byContradiction fun h2 => by have q9 := lt1 _ h2; omega
  have ho2 : zT τ2 out = 0 := Decidable.byContradiction fun h2 => by have q9 := lt2 _ h2; omega
  obtain ⟨κ', σ', e1, e2, e3, eC, eS, hT', hC', hR', tx, tmm, tout, ttx, hlen, hdis, hsr, hsm, supp⟩ := law_parts (C := s.heap.size + 600512) (S := hsl s.heap + 7289962) k1 k2 T1 T2 C1 hd9 ho1 ho2 fO zx1 zm2 R2 no2 zi1 l13 zi2 zi3 zk0 zk1 l15 l16 kk0 kk1 D1 n7 n8 n9 w0 w1 w2 S1 M1 (by omega) (by omega)
  have su : ∀ q, zT σ' q ≠ 0 → s.heap.size ≤ q := fun q hq => by
    rcases supp q hq with h | h | h
    · rcases su1 q h with e9 | e9
      · have e8 := List.mem_singleton.mp e9; omega
      · omega
    · rcases su2 q h with e9 | e9
      · have e8 := List.mem_singleton.mp e9; omega
      · omega
    · omega
  have hK' : va_K κ'.1 vwCl (kTy κ') s := by rw [e1, kTy_eq e2]; exact hK
  have hX' : XY κ' (tA σ' s.heap.size) s s.heap := by rw [XY_eq e3]; exact (okXY κ).1 _ _ _ _ (fun q hq => hA q (hq.elim (su q) id)) hX
  have hbA' : ¬ tA σ' s.heap.size b := fun h => h.elim (fun h => absurd hbl (Nat.not_lt.mpr (su b h))) (fun h => absurd hbl (Nat.not_lt.mpr h))
  have hS' : va_S (tA σ' s.heap.size) s.heap H4 locs := ⟨hS.1, fun q h1 h2 => hS.2.1 q h1 (fun h => h2 (Or.inr (hAf q h))), fun z hz => Or.inr (hAf _ (hS.2.2 z hz))⟩
  have hTS : TS (kb κ' 0) fA σ' σ' s H4 locs := ⟨hT', hC', Ext.rf, hS'⟩
  refine W.widen (k := 601024) (n := 7293034) (by omega) (by omega) ?_
  refine W.base ?_
  have hd0 := Drawn.sameBut.refl s.drawn lw_cs
  exact law_loop l κ' σ' x mm out b tx tmm tout ttx hdis hlt hx hb hml hown hg hK' hX' hXs hbl hbA' (by omega) (by omega) hL (fun d1 hd1 j σ1 H9 locs9 ls9 hT9 hl9 => by
    refine lv_iconst (v := 1) hx hb dL_law_1438 (by decide) ?_
    exact lw_retL (fun z hz => (hT9.2.2.2.2.2 z hz).elim (su _) id) hd1 hx hb hr hlocks dL_law_1439) 513 0 0 s.drawn σ' H4 locs ls (by omega) (by decide) hd0 hTS hR' hlen hsr hsm hl

-- ===== YOUR PART ENDS =====
set_option maxHeartbeats 4000000 in
theorem lw_walk (l : Launch) (hflags : l.flags = flags0) (b : Addr) (xs : List Int32) : MetFree l x (headSpec (Jvm.Cond.code x code maxLocals ret :: tables_1) room_1) (lw_P b xs) (fun _ _ _ _ _ => True) lw_Q := by
  refine MetFree.of_bodyS (code := code) (maxLocals := maxLocals) (ret := ret) (by decide) ?_ ?_
  · intro args s m h hn
    obtain ⟨meth, c, h1, h2, h3, h4, h5, h6, -, -⟩ := Cond.code_spec hn (atoms_spec (ws := Jvm.Cond.code x code maxLocals ret :: tables_1) h _ List.mem_cons_self)
    exact ⟨meth, c, h1, h2, h3, h4, h5, h6⟩
  · intro p e s m args below meth c s₁ B hml0 hP _
    obtain ⟨rfl, hx, hbd, hgv⟩ := hP
    obtain ⟨scr, harrAt, hlist, hof, hsmall⟩ := hx
    obtain ⟨hcb, hkn, -, -⟩ := State.arrayAt?_spec harrAt
    have hown : s.vm.findClass R_law = some m.cls := findClass_of_methodNamed B.named
    have hts0 : ∀ c ∈ (Jvm.Cond.code x code maxLocals ret :: tables_1), c.before #[Value.ref b] s = true := atoms_spec (ws := Jvm.Cond.code x code maxLocals ret :: tables_1) B.pre
    have hts : ∀ w ∈ lw_tbl, w.before #[Value.ref b] s = true := k2_hts_sels lw_privs (fun w hw => hts0 w (List.mem_cons_of_mem _ hw)) lw_privs_ok
    have hml : c.maxLocals = 9 := B.maxLocals_eq (hts0 _ List.mem_cons_self)
    have X₀ : Stand p l e room_1 s m #[Value.ref b] below meth c s₁ [] 0 0 := Stand.of_body B
    have hh0 : s₁.heap = s.heap := by rw [B.state]; rfl
    have hsz : scr.slots.size = xs.length := by rw [← Array.length_toList, hlist, List.length_map]
    have hval : ∀ j : Nat, j < xs.length → scr.slots[j]? = some (.int (xs.getD j 0)) := fun j hj => by
      rw [← Array.getElem?_toList, hlist]
      simp [hj]
    have hbl : b < s.heap.size := (Array.getElem?_eq_some_iff.mp hcb).1
    have hX : va_X b xs.length (fun j => xs.getD j 0) s s.heap := ⟨scr, hcb, hof, hkn, hsz, hval⟩
    have K : W p l e room_1 s m #[Value.ref b] below meth c s₁.heap [] 0 0 (lw_Z below #[Value.ref b] s) (entryFrame m ([Value.ref b] : List Value).toArray 9) := by
      rw [hh0]
      exact whole_start l hflags hbd ⟨B.exec, B.bytes, B.returns, hml, hown, hts, hX, hbl, B.notSynchronized, hgv⟩
    obtain ⟨t, a1, o, b1, b2, b3⟩ := K s₁ rfl X₀
    exact ⟨t, o, a1, b1, b2, b3⟩
theorem lw_pre_spec {args : Array Value} {s : State} (h : (Jvm.Cond.and given_1 narrow_1).before args s = true) (hr : rest_1_c.before args s = true) : ∃ (b : Addr) (xs : List Int32), lw_P b xs args s := by
  have hs := flat_of_before _ h
  have hq := flat_of_before _ hr
  have hc : (Cond.count 1).before args s = true := hs _ (by decide +kernel)
  have harr : (Cond.arrayOf (.arg 0) .int).before args s = true := hs _ (by decide +kernel)
  have hle : (Cond.le (.length (.arg 0)) (.int 3072)).before args s = true := hs _ (by decide +kernel)
  have hlen : (Cond.isInt (.length (.arg 0))).before args s = true := hq _ (by decide +kernel)
  have hall : (Cond.all (.arg 0) (.isInt (.elem (.arg 0) (.index 0)))).before args s = true := hq _ (by decide +kernel)
  obtain ⟨b, xs, hb, hx⟩ := State.ints_of_pre rfl harr hlen hall
  have hsm : xs.length < 2 ^ 31 := hx.choose_spec.2.2.2
  have hev : (Term.length (.arg 0)).eval args s none [] s = some (.int xs.length.toInt32) := hx.length_eval hb
  have hv := Cond.le_ints hev (show (Term.int 3072).eval args s none [] s = some (.int 3072) from rfl)
  have hd : xs.length.toInt32 ≤ 3072 := by
    simpa [Cond.before, Cond.holds, hv] using hle
  have hN : xs.length ≤ 3072 := (Int32.ofNat_le_ofNat hsm (by decide)).mp (show Int32.ofNat xs.length ≤ Int32.ofNat 3072 from hd)
  exact ⟨b, xs, Cond.one_arg hc (show args[0]? = some (.ref b) from hb), hx, hN, h⟩
theorem lw_comes (l : Launch) (hflags : l.flags = flags0) : Comes l x (Jvm.Cond.code x code maxLocals ret :: tables_1) room_1 (fun tb e args s => Calls_1 tb e args s ∧ rest_1 tb e args s ∧ Pre_1 tb e args s)
    (fun _ _ args s o t => lw_Q args s o t) := by
  intro p e ha hc hk s m args below hf hfit hheap happ hpre
  obtain ⟨b, xs, hP⟩ := lw_pre_spec hpre.2.2 hpre.2.1
  obtain ⟨k, o, h1, h2, h3, hQ⟩ := lw_walk l hflags b xs p e ha hc hk s m args below hf ((Spec.applies_iff_loose hf).mp happ).1 hP trivial
  exact ⟨k, o, h1, h2, h3, hQ⟩
theorem lw_frame {s t : State} {o : Outcome} {args : Array Value} (h : State.butDraws s t lw_cs (fun t1 => Framed s o t1 [] 601024 7293034)) :
    State.butDraws s t [Jvm.Choice.named "NaN.bits"] (fun t1 => Framed s o t1 (fieldLocs frame_1_writes args s ++ arrayLocs frame_1_arrays args s ++ staticLocs frame_1_statics s) 601024 7293034) := h
theorem lw_limb (L : Cond) (hL : ∀ (args : Array Value) (s t : State), L.after args s (.returned (some (.int 1))) t = true) :
    ArmFor flags0 classFile x code maxLocals ret World_1 tables_1 room_1 Calls_1 rest_1 Pre_1
      (fun tb e a s o t => postC L tb e a s o t ∧ State.butDraws s t [Jvm.Choice.named "NaN.bits"] (fun t1 => Framed s o t1 (fieldLocs frame_1_writes a s ++ arrayLocs frame_1_arrays a s ++ staticLocs frame_1_statics s) 601024 7293034)) := by
  intro l hflags _ _ p e ha hc hk s m args below hf hfit hheap happ hpre
  obtain ⟨k, o, h1, h2, h3, rfl, hF⟩ := lw_comes l hflags p e ha hc hk s m args below hf hfit hheap happ hpre
  exact ⟨k, _, h1, h2, h3, hL args s _, lw_frame hF⟩
theorem i_vc : Claimed_1_1 ∧ Claimed_1_2 := ⟨lw_limb limb_1_1 (fun args s t => by simp [limb_1_1, Cond.after, Cond.holds, Cond.value]), lw_limb limb_1_2 (fun args s t => Cond.after_iff.mpr (by
  first | (rw [show limb_1_2 = Cond.eq .result (.int 1) from rfl, Cond.eq_ints (x := 1) (y := 1) rfl rfl]; simp; done) | (simp [limb_1_2, Cond.value, Term.eval]; done)))⟩
