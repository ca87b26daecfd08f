/-! THE CLAIM OUT OF ONE WALK OF THE LAW'S BODY. Your part is whole_start (and what it stands on); all else here is the same for every law, but numbers. -/
def R_law : String := "LineMillLaw"
def lw_P (b : Addr) (xs : List Int32) (args : Array Value) (s : State) : Prop := args = #[.ref b] ∧ s.IntsAt b xs ∧ xs.length ≤ 2048 ∧ (Jvm.Cond.and given_1 narrow_1).before args s = true
def lw_Q (_ : Array Value) (s : State) (o : Outcome) (t : State) : Prop := o = .returned (some (.int 1)) ∧ Framed s o t [] 600000 7302250
def lw_Z (below : List Frame) (a : Array Value) (s : State) : State → Prop := fun t => ∃ o, t.status = .running ∧ Ended t below o ∧ lw_Q a s o t
/-- the law's own end, with 1 on the stack, nothing written that was there before, its room as the claim has it -/
theorem lw_ret {p : Program} {l : Launch} {e : Env} {s : State} {m : MethodId} {below : List Frame} {meth : Method} {c : Code} {b : Nat} (hx : p.tables.exec = Jvm.exec) (hb : c.code = code) (hr : meth.sig.returnType = ret) (hlocks : meth.locks = false) {pc : Nat} {H : Heap} {ls : Array Slot} (hdg : decode code pc = .ok (.ireturn, 1)) : W p l e room_1 s m #[Value.ref b] below meth c H [] 600000 7302250 (lw_Z below #[Value.ref b] s) (F0 m pc ls [.int 1]) := by
  intro T hT X
  obtain ⟨fs, hret, hrun, hended, hW, hframe⟩ := X.leave (v := some (.int 1)) (hlocks := hlocks) (fun h => by rw [hr] at h; cases h)
  have hmeth' : T.vm.method? m = some meth := X.method'
  refine ⟨T.setFrames fs, ?_, .returned (some (.int 1)), hrun, hended, rfl, ⟨_, rfl⟩, hW, hframe⟩
  jvm_step X.here [X.here.top, hx, hb, hdg, hmeth', hr, ret, narrow_b1]
  (try refine ⟨rfl, ?_⟩); (try refine ⟨rfl, ?_⟩)
  first | (intro acts; rw [hret _ acts rfl rfl rfl]) | rw [hret _ _ rfl rfl rfl]
  exact Steps.refl _
/-- what holds at the law's entry: the machine, the code, the tables' words (any of lw_tbl by 'hts w (by decide +kernel)'), the script of L ints xs at the cell b, what the Statement gives of the start (any of its parts by flat_of_before) -/
def lw_At (p : Program) (s : State) (m : MethodId) (meth : Method) (c : Code) (b L : Nat) (xs : Nat → Int32) : Prop :=
  p.tables.exec = Jvm.exec ∧ c.code = code ∧ meth.sig.returnType = ret ∧ c.maxLocals = 4 ∧ s.vm.findClass R_law = some m.cls ∧ (∀ w ∈ lw_tbl, w.before #[Value.ref b] s = true) ∧ va_X b L xs s s.heap ∧ b < s.heap.size ∧ meth.locks = false ∧ (Jvm.Cond.and given_1 narrow_1).before #[Value.ref b] s = true
/-! the String constants' world, as it is at the start -/
def tmS : Nat → Term := fun i => match i with
  | 0 => .string "LineMill" 161
  | 1 => .string "LineMill" 167
  | 2 => .string "LineMill" 169
  | 3 => .string "LineMillModel" 102
  | 4 => .string "LineMillModel" 83
  | 5 => .string "LineMillModel" 89
  | _ => .string "LineMillModel" 139
set_option maxRecDepth 100000 in
theorem sw_hex : ∀ i, i < 7 → Cond.exactly (tmS i) "java/lang/String" ∈ flatC (Jvm.Cond.and given_1 narrow_1) := by decide +kernel
set_option maxRecDepth 100000 in
theorem sw_hco : ∀ i, i < 7 → Cond.eq (.field (tmS i) "java/lang/String" "coder" "B") (.int 0) ∈ flatC (Jvm.Cond.and given_1 narrow_1) := by decide +kernel
set_option maxRecDepth 100000 in
theorem sw_har : ∀ i, i < 7 → Cond.arrayOf (.field (tmS i) "java/lang/String" "value" "[B") .byte ∈ flatC (Jvm.Cond.and given_1 narrow_1) := by decide +kernel
set_option maxRecDepth 100000 in
theorem sw_hle : ∀ i, i < 7 → Cond.eq (.length (.field (tmS i) "java/lang/String" "value" "[B")) (.int (Int32.ofNat (lS.getD i 0))) ∈ flatC (Jvm.Cond.and given_1 narrow_1) := by decide +kernel
set_option maxRecDepth 100000 in
theorem sw_hel : ∀ i, i < 7 → ∀ j, j < lS.getD i 0 → Cond.eq (.elem (.field (tmS i) "java/lang/String" "value" "[B") (.int (Int32.ofNat j))) (.int ((bS.getD i []).getD j 0)) ∈ flatC (Jvm.Cond.and given_1 narrow_1) := by decide +kernel
set_option maxRecDepth 100000 in
theorem sw_hne : ∀ i, i < 7 → ∀ j, j < 7 → i < j → Cond.not (Cond.eq (tmS i) (tmS j)) ∈ flatC (Jvm.Cond.and given_1 narrow_1) := by decide +kernel
set_option maxRecDepth 100000 in
theorem sw_start {s : State} {b : Nat} (hts : ∀ w ∈ lw_tbl, w.before #[Value.ref b] s = true) (hgv : (Jvm.Cond.and given_1 narrow_1).before #[Value.ref b] s = true) : ∃ dK dV : Nat → Nat, swd dK dV (fun q : Nat => s.heap.size ≤ q) s s.heap := by
  have hs := flat_of_before _ hgv
  have hA : ∀ a : Nat, a < s.heap.size → ¬ (fun q : Nat => s.heap.size ≤ q) a := fun a h z => absurd h (Nat.not_lt.mpr z)
  obtain ⟨dK, dV, h1, h2⟩ := vk_Sof (N := 7) (tm := tmS) (len := lS) (byt := bS) (A := fun q : Nat => s.heap.size ≤ q) (fun i hi => by have := lS_b i hi; omega) (fun i hi => hs _ (sw_hex i hi)) (fun i hi => hs _ (sw_hco i hi)) (fun i hi => hs _ (sw_har i hi)) (fun i hi => hs _ (sw_hle i hi)) (fun i hi j hj => hs _ (sw_hel i hi j hj)) (fun i j hi hj hij => by
    rcases Nat.lt_or_ge i j with q | q
    · exact Or.inl (hs _ (sw_hne i hi j hj q))
    · exact Or.inr (hs _ (sw_hne j hj i hi (by omega)))) hA
  refine ⟨dK, dV, h1, ?_, ?_, ?_, ?_, ?_, ?_, ?_, ?_, ?_⟩
  · exact va_Zof (hts (.laysStatic "java/lang/String" "COMPACT_STRINGS" "Z") (by decide +kernel)) (hts (.initialized "java/lang/String") (by decide +kernel)) (va_eqi (hs (.eq (.static "java/lang/String" "COMPACT_STRINGS" "Z") (.int 1)) (by decide +kernel))) hA
  · exact va_Zqof (hts (.laysStatic "jdk/internal/util/Preconditions" "SIOOBE_FORMATTER" "Ljava/util/function/BiFunction;") (by decide +kernel)) (hts (.initialized "jdk/internal/util/Preconditions") (by decide +kernel)) (hs (.isRef (.static "jdk/internal/util/Preconditions" "SIOOBE_FORMATTER" "Ljava/util/function/BiFunction;")) (by decide +kernel)) hA
  · exact vk_R.of (hts (.stringRef "LineMill" 161 "...<<=>>=") (by decide +kernel)) (h2 0 (by decide))
  · exact vk_R.of (hts (.stringRef "LineMill" 167 "->++--<<>><=>===!=&&||*=/=%=+=-=&=^=|=##") (by decide +kernel)) (h2 1 (by decide))
  · exact vk_R.of (hts (.stringRef "LineMill" 169 "#[](){}.&*+-~!/%<>^|?:;=,") (by decide +kernel)) (h2 2 (by decide))
  · exact vk_R.of (hts (.stringRef "LineMillModel" 102 "eEpP") (by decide +kernel)) (h2 3 (by decide))
  · exact vk_R.of (hts (.stringRef "LineMillModel" 83 "+-<>=&|#") (by decide +kernel)) (h2 4 (by decide))
  · exact vk_R.of (hts (.stringRef "LineMillModel" 89 "<>=!*/%+-&^|") (by decide +kernel)) (h2 5 (by decide))
  · exact vk_R.of (hts (.stringRef "LineMillModel" 139 "#[](){}.&*+-~!/%<>^|?:=,;") (by decide +kernel)) (h2 6 (by decide))
