/-! THE CLAIM OUT OF ONE WALK OF THE LAW'S BODY. Your part is whole_start (and what it stands on); all else here is the same for every law, but numbers. -/
def R_law : String := "ThirtyThreeBelowLaw"
def lw_P (b : Addr) (xs : List Int32) (args : Array Value) (s : State) : Prop := args = #[.ref b] ∧ s.IntsAt b xs ∧ xs.length ≤ 3072 ∧ (Jvm.Cond.and given_1 narrow_1).before args s = true
def lw_Q (_ : Array Value) (s : State) (o : Outcome) (t : State) : Prop := o = .returned (some (.int 1)) ∧ Framed s o t [] 600000 7302250
def lw_Z (below : List Frame) (a : Array Value) (s : State) : State → Prop := fun t => ∃ o, t.status = .running ∧ Ended t below o ∧ lw_Q a s o t
/-- the law's own end, with 1 on the stack, nothing written that was there before, its room as the claim has it -/
theorem lw_ret {p : Program} {l : Launch} {e : Env} {s : State} {m : MethodId} {below : List Frame} {meth : Method} {c : Code} {b : Nat} (hx : p.tables.exec = Jvm.exec) (hb : c.code = code) (hr : meth.sig.returnType = ret) (hlocks : meth.locks = false) {pc : Nat} {H : Heap} {ls : Array Slot} (hdg : decode code pc = .ok (.ireturn, 1)) : W p l e room_1 s m #[Value.ref b] below meth c H [] 600000 7302250 (lw_Z below #[Value.ref b] s) (F0 m pc ls [.int 1]) := by
  intro T hT X
  obtain ⟨fs, hret, hrun, hended, hW, hframe⟩ := X.leave (v := some (.int 1)) (hlocks := hlocks) (fun h => by rw [hr] at h; cases h)
  have hmeth' : T.vm.method? m = some meth := X.method'
  refine ⟨T.setFrames fs, ?_, .returned (some (.int 1)), hrun, hended, rfl, ⟨_, rfl⟩, hW, hframe⟩
  jvm_step X.here [X.here.top, hx, hb, hdg, hmeth', hr, ret, narrow_b1]
  (try refine ⟨rfl, ?_⟩); (try refine ⟨rfl, ?_⟩)
  first | (intro acts; rw [hret _ acts rfl rfl rfl]) | rw [hret _ _ rfl rfl rfl]
  exact Steps.refl _
/-- what holds at the law's entry: the machine, the code, the tables' words (any of lw_tbl by 'hts w (by decide +kernel)'), the script of L ints xs at the cell b, what the Statement gives of the start (any of its parts by flat_of_before) -/
def lw_At (p : Program) (s : State) (m : MethodId) (meth : Method) (c : Code) (b L : Nat) (xs : Nat → Int32) : Prop :=
  p.tables.exec = Jvm.exec ∧ c.code = code ∧ meth.sig.returnType = ret ∧ c.maxLocals = 4 ∧ s.vm.findClass R_law = some m.cls ∧ (∀ w ∈ lw_tbl, w.before #[Value.ref b] s = true) ∧ va_X b L xs s s.heap ∧ b < s.heap.size ∧ meth.locks = false ∧ (Jvm.Cond.and given_1 narrow_1).before #[Value.ref b] s = true
theorem nst_inM : ∀ q ∈ nstM, Cond.methodLinkNest q.1 q.2.1 q.2.2.1 q.2.2.2 ∈ lw_tbl := by
  intro q hq
  simp only [nstM, List.mem_cons, List.not_mem_nil, or_false] at hq
  rcases hq with rfl | rfl | rfl | rfl | rfl | rfl | rfl
  · exact in_t1 _ (List.mem_of_getElem? (i := 63) (by decide +kernel))
  · exact in_t1 _ (List.mem_of_getElem? (i := 171) (by decide +kernel))
  · exact in_t1 _ (List.mem_of_getElem? (i := 193) (by decide +kernel))
  · exact in_t1 _ (List.mem_of_getElem? (i := 232) (by decide +kernel))
  · exact in_t2 _ (List.mem_of_getElem? (i := 84) (by decide +kernel))
  · exact in_t3 _ (List.mem_of_getElem? (i := 190) (by decide +kernel))
  · exact in_t5 _ (List.mem_of_getElem? (i := 8) (by decide +kernel))
theorem nst_inF : ∀ q ∈ nstF, Cond.fieldLinkNest q.1 q.2.1 q.2.2.1 q.2.2.2.1 q.2.2.2.2.1 q.2.2.2.2.2 ∈ lw_tbl := by
  intro q hq
  simp only [nstF, List.mem_cons, List.not_mem_nil, or_false] at hq
  subst hq
  · exact in_t6 _ (List.mem_of_getElem? (i := 21) (by decide +kernel))
theorem nst_inA : ∀ E ∈ aoL, Cond.arrayOver (.object E) ∈ lw_tbl := by
  intro E hE
  simp only [aoL, List.mem_cons, List.not_mem_nil, or_false] at hE
  rcases hE with rfl | rfl | rfl | rfl | rfl
  · exact in_t1 _ (List.mem_of_getElem? (i := 124) (by decide +kernel))
  · exact in_t1 _ (List.mem_of_getElem? (i := 169) (by decide +kernel))
  · exact in_t1 _ (List.mem_of_getElem? (i := 190) (by decide +kernel))
  · exact in_t1 _ (List.mem_of_getElem? (i := 218) (by decide +kernel))
  · exact in_t2 _ (List.mem_of_getElem? (i := 82) (by decide +kernel))
theorem st_ka : Cond.laysStatic "ThirtyThreeBelow" "KIND_ABOVE" "[I" ∈ lw_tbl := in_t6 _ (List.mem_of_getElem? (i := 22) (by decide +kernel))
theorem st_cs : Cond.laysStatic "java/lang/String" "COMPACT_STRINGS" "Z" ∈ lw_tbl := in_t1 _ (List.mem_of_getElem? (i := 229) (by decide +kernel))
theorem st_cast : Cond.castable "[I" "java/lang/Cloneable" ∈ lw_tbl := in_t4 _ (List.mem_of_getElem? (i := 148) (by decide +kernel))
theorem st_ini11 : Cond.initialized "ThirtyThreeBelow" ∈ lw_tbl := in_t1 _ (List.mem_of_getElem? (i := 1) (by decide +kernel))
theorem st_iniJ0 : Cond.initialized "java/lang/String" ∈ lw_tbl := in_t1 _ (List.mem_of_getElem? (i := 8) (by decide +kernel))
theorem st_r1 : Cond.stringRef "ThirtyThreeBelow" 58 "hdskinft" ∈ lw_tbl := in_t1 _ (List.mem_of_getElem? (i := 219) (by decide +kernel))
theorem st_r2 : Cond.stringRef "ThirtyThreeBelow$Reader" 88 "hdskinft" ∈ lw_tbl := in_t4 _ (List.mem_of_getElem? (i := 53) (by decide +kernel))
