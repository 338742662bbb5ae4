/-! CONTRACTS BY THE KIND OF ANSWER, and rows for programs that print walks -/
def PI (Q : Int32 → List aE → Prop) : Option Value → List aE → Prop := fun v h' => ∃ r : Int32, v = some (.int r) ∧ Q r h'
def PL (Q : Int64 → List aE → Prop) : Option Value → List aE → Prop := fun v h' => ∃ r : Int64, v = some (.long r) ∧ Q r h'
def PV (Q : List aE → Prop) : Option Value → List aE → Prop := fun v h' => v = none ∧ Q h'
def PA (Q : Value → List aE → Prop) : Option Value → List aE → Prop := fun v h' => ∃ r : Value, v = some r ∧ Q r h'
/-- a cell behind a change of another, and of itself -/
theorem gsn {h h1 : List aE} {q k : Nat} {e x : aE} (e1 : h.set q e = h1) (hne : q ≠ k) (hk : h[k]? = some x) : h1[k]? = some x := by
  rw [← e1, List.getElem?_set_ne hne]; exact hk
theorem gss {h h1 : List aE} {q : Nat} {e x : aE} (e1 : h.set q e = h1) (hk : h[q]? = some x) : h1[q]? = some e := by
  rw [← e1]; exact List.getElem?_set_self (List.getElem?_eq_some_iff.mp hk).1
theorem gpn {h h1 : List aE} {k : Nat} {e x : aE} (e1 : h ++ [e] = h1) (hk : h[k]? = some x) : h1[k]? = some x := by
  rw [← e1, List.getElem?_append_left (List.getElem?_eq_some_iff.mp hk).1]; exact hk
theorem gps {h h1 : List aE} {k : Nat} {e : aE} (e1 : h ++ [e] = h1) (hk : h.length = k) : h1[k]? = some e := by
  rw [← e1, ← hk, List.getElem?_append_right (Nat.le_refl _), Nat.sub_self]; rfl
section AWj
variable {M M' : aM} {R : Room} {F : aF} {pc pc' : Nat} {lv lv' : List (Option Value)} {st rest : List Value} {h h' : List aE} {nc ns mc ms d n idx nc' ns' : Nat}
theorem aw_callVi {b ci : Nat} {fs As : List Value} {Q : Int32 → List aE → Prop} (hd : decode M.2.1 pc = .ok (.invokevirtual idx, 3)) (hp : pc + 3 = pc') (hl0 : Cond.methodLink M.1.cls idx M'.1 ∈ gw) (hM : MV M' n) (hA : AM M' d (.ref (b + 8) :: As) h mc ms (PI Q)) (hq : h[b]? = some (.inr (ci, fs))) (hc : (cls[ci]?).map (fun q => q.1) = some M'.1.cls) (hn : As.length = n) (hst : st = As.reverse ++ .ref (b + 8) :: rest) (hw : (rest.map Value.category).sum ≤ 8) (hRm : RoomOk R M' d nc ns mc ms) (h1 : nc + mc = nc') (h2 : ns + ms = ns')
    (kk : ∀ (r : Int32) (h' : List aE), Q r h' → AW M R F pc' lv (.int r :: rest) h' nc' ns') : AW M R F pc lv st h nc ns := by
  subst h1
  subst h2
  refine aw_callV hd hp hl0 hM hA hq hc hn hst hw hRm (fun v h' hP => ?_)
  obtain ⟨r, rfl, hQ⟩ := hP
  exact kk r h' hQ
theorem aw_callVl {b ci : Nat} {fs As : List Value} {Q : Int64 → List aE → Prop} (hd : decode M.2.1 pc = .ok (.invokevirtual idx, 3)) (hp : pc + 3 = pc') (hl0 : Cond.methodLink M.1.cls idx M'.1 ∈ gw) (hM : MV M' n) (hA : AM M' d (.ref (b + 8) :: As) h mc ms (PL Q)) (hq : h[b]? = some (.inr (ci, fs))) (hc : (cls[ci]?).map (fun q => q.1) = some M'.1.cls) (hn : As.length = n) (hst : st = As.reverse ++ .ref (b + 8) :: rest) (hw : (rest.map Value.category).sum ≤ 8) (hRm : RoomOk R M' d nc ns mc ms) (h1 : nc + mc = nc') (h2 : ns + ms = ns')
    (kk : ∀ (r : Int64) (h' : List aE), Q r h' → AW M R F pc' lv (.long r :: rest) h' nc' ns') : AW M R F pc lv st h nc ns := by
  subst h1
  subst h2
  refine aw_callV hd hp hl0 hM hA hq hc hn hst hw hRm (fun v h' hP => ?_)
  obtain ⟨r, rfl, hQ⟩ := hP
  exact kk r h' hQ
theorem aw_callVv {b ci : Nat} {fs As : List Value} {Q : List aE → Prop} (hd : decode M.2.1 pc = .ok (.invokevirtual idx, 3)) (hp : pc + 3 = pc') (hl0 : Cond.methodLink M.1.cls idx M'.1 ∈ gw) (hM : MV M' n) (hA : AM M' d (.ref (b + 8) :: As) h mc ms (PV Q)) (hq : h[b]? = some (.inr (ci, fs))) (hc : (cls[ci]?).map (fun q => q.1) = some M'.1.cls) (hn : As.length = n) (hst : st = As.reverse ++ .ref (b + 8) :: rest) (hw : (rest.map Value.category).sum ≤ 8) (hRm : RoomOk R M' d nc ns mc ms) (h1 : nc + mc = nc') (h2 : ns + ms = ns')
    (kk : ∀ (h' : List aE), Q h' → AW M R F pc' lv (rest) h' nc' ns') : AW M R F pc lv st h nc ns := by
  subst h1
  subst h2
  refine aw_callV hd hp hl0 hM hA hq hc hn hst hw hRm (fun v h' hP => ?_)
  obtain ⟨rfl, hQ⟩ := hP
  exact kk h' hQ
theorem aw_callVa {b ci : Nat} {fs As : List Value} {Q : Value → List aE → Prop} (hd : decode M.2.1 pc = .ok (.invokevirtual idx, 3)) (hp : pc + 3 = pc') (hl0 : Cond.methodLink M.1.cls idx M'.1 ∈ gw) (hM : MV M' n) (hA : AM M' d (.ref (b + 8) :: As) h mc ms (PA Q)) (hq : h[b]? = some (.inr (ci, fs))) (hc : (cls[ci]?).map (fun q => q.1) = some M'.1.cls) (hn : As.length = n) (hst : st = As.reverse ++ .ref (b + 8) :: rest) (hw : (rest.map Value.category).sum ≤ 8) (hRm : RoomOk R M' d nc ns mc ms) (h1 : nc + mc = nc') (h2 : ns + ms = ns')
    (kk : ∀ (r : Value) (h' : List aE), Q r h' → AW M R F pc' lv (r :: rest) h' nc' ns') : AW M R F pc lv st h nc ns := by
  subst h1
  subst h2
  refine aw_callV hd hp hl0 hM hA hq hc hn hst hw hRm (fun v h' hP => ?_)
  obtain ⟨r, rfl, hQ⟩ := hP
  exact kk r h' hQ
theorem aw_callSi {As : List Value} {Q : Int32 → List aE → Prop} (hd : decode M.2.1 pc = .ok (.invokestatic idx, 3)) (hp : pc + 3 = pc') (hl0 : Cond.methodLink M.1.cls idx M'.1 ∈ gw) (hM : MS M' n) (hA : AM M' d As h mc ms (PI Q)) (hn : As.length = n) (hst : st = As.reverse ++ rest) (hw : (rest.map Value.category).sum ≤ 8) (hRm : RoomOk R M' d nc ns mc ms) (h1 : nc + mc = nc') (h2 : ns + ms = ns')
    (kk : ∀ (r : Int32) (h' : List aE), Q r h' → AW M R F pc' lv (.int r :: rest) h' nc' ns') : AW M R F pc lv st h nc ns := by
  subst h1
  subst h2
  refine aw_callS hd hp hl0 hM hA hn hst hw hRm (fun v h' hP => ?_)
  obtain ⟨r, rfl, hQ⟩ := hP
  exact kk r h' hQ
theorem aw_callSl {As : List Value} {Q : Int64 → List aE → Prop} (hd : decode M.2.1 pc = .ok (.invokestatic idx, 3)) (hp : pc + 3 = pc') (hl0 : Cond.methodLink M.1.cls idx M'.1 ∈ gw) (hM : MS M' n) (hA : AM M' d As h mc ms (PL Q)) (hn : As.length = n) (hst : st = As.reverse ++ rest) (hw : (rest.map Value.category).sum ≤ 8) (hRm : RoomOk R M' d nc ns mc ms) (h1 : nc + mc = nc') (h2 : ns + ms = ns')
    (kk : ∀ (r : Int64) (h' : List aE), Q r h' → AW M R F pc' lv (.long r :: rest) h' nc' ns') : AW M R F pc lv st h nc ns := by
  subst h1
  subst h2
  refine aw_callS hd hp hl0 hM hA hn hst hw hRm (fun v h' hP => ?_)
  obtain ⟨r, rfl, hQ⟩ := hP
  exact kk r h' hQ
theorem aw_callSv {As : List Value} {Q : List aE → Prop} (hd : decode M.2.1 pc = .ok (.invokestatic idx, 3)) (hp : pc + 3 = pc') (hl0 : Cond.methodLink M.1.cls idx M'.1 ∈ gw) (hM : MS M' n) (hA : AM M' d As h mc ms (PV Q)) (hn : As.length = n) (hst : st = As.reverse ++ rest) (hw : (rest.map Value.category).sum ≤ 8) (hRm : RoomOk R M' d nc ns mc ms) (h1 : nc + mc = nc') (h2 : ns + ms = ns')
    (kk : ∀ (h' : List aE), Q h' → AW M R F pc' lv (rest) h' nc' ns') : AW M R F pc lv st h nc ns := by
  subst h1
  subst h2
  refine aw_callS hd hp hl0 hM hA hn hst hw hRm (fun v h' hP => ?_)
  obtain ⟨rfl, hQ⟩ := hP
  exact kk h' hQ
theorem aw_callSa {As : List Value} {Q : Value → List aE → Prop} (hd : decode M.2.1 pc = .ok (.invokestatic idx, 3)) (hp : pc + 3 = pc') (hl0 : Cond.methodLink M.1.cls idx M'.1 ∈ gw) (hM : MS M' n) (hA : AM M' d As h mc ms (PA Q)) (hn : As.length = n) (hst : st = As.reverse ++ rest) (hw : (rest.map Value.category).sum ≤ 8) (hRm : RoomOk R M' d nc ns mc ms) (h1 : nc + mc = nc') (h2 : ns + ms = ns')
    (kk : ∀ (r : Value) (h' : List aE), Q r h' → AW M R F pc' lv (r :: rest) h' nc' ns') : AW M R F pc lv st h nc ns := by
  subst h1
  subst h2
  refine aw_callS hd hp hl0 hM hA hn hst hw hRm (fun v h' hP => ?_)
  obtain ⟨r, rfl, hQ⟩ := hP
  exact kk r h' hQ
theorem aw_callSNi {host : String} {As : List Value} {Q : Int32 → List aE → Prop} (hd : decode M.2.1 pc = .ok (.invokestatic idx, 3)) (hp : pc + 3 = pc') (hl0 : (M.1.cls, idx, M'.1, host) ∈ nstM) (hM : MS M' n) (hA : AM M' d As h mc ms (PI Q)) (hn : As.length = n) (hst : st = As.reverse ++ rest) (hw : (rest.map Value.category).sum ≤ 8) (hRm : RoomOk R M' d nc ns mc ms) (h1 : nc + mc = nc') (h2 : ns + ms = ns')
    (kk : ∀ (r : Int32) (h' : List aE), Q r h' → AW M R F pc' lv (.int r :: rest) h' nc' ns') : AW M R F pc lv st h nc ns := by
  subst h1
  subst h2
  refine aw_callSN hd hp hl0 hM hA hn hst hw hRm (fun v h' hP => ?_)
  obtain ⟨r, rfl, hQ⟩ := hP
  exact kk r h' hQ
theorem aw_callSNl {host : String} {As : List Value} {Q : Int64 → List aE → Prop} (hd : decode M.2.1 pc = .ok (.invokestatic idx, 3)) (hp : pc + 3 = pc') (hl0 : (M.1.cls, idx, M'.1, host) ∈ nstM) (hM : MS M' n) (hA : AM M' d As h mc ms (PL Q)) (hn : As.length = n) (hst : st = As.reverse ++ rest) (hw : (rest.map Value.category).sum ≤ 8) (hRm : RoomOk R M' d nc ns mc ms) (h1 : nc + mc = nc') (h2 : ns + ms = ns')
    (kk : ∀ (r : Int64) (h' : List aE), Q r h' → AW M R F pc' lv (.long r :: rest) h' nc' ns') : AW M R F pc lv st h nc ns := by
  subst h1
  subst h2
  refine aw_callSN hd hp hl0 hM hA hn hst hw hRm (fun v h' hP => ?_)
  obtain ⟨r, rfl, hQ⟩ := hP
  exact kk r h' hQ
theorem aw_callSNv {host : String} {As : List Value} {Q : List aE → Prop} (hd : decode M.2.1 pc = .ok (.invokestatic idx, 3)) (hp : pc + 3 = pc') (hl0 : (M.1.cls, idx, M'.1, host) ∈ nstM) (hM : MS M' n) (hA : AM M' d As h mc ms (PV Q)) (hn : As.length = n) (hst : st = As.reverse ++ rest) (hw : (rest.map Value.category).sum ≤ 8) (hRm : RoomOk R M' d nc ns mc ms) (h1 : nc + mc = nc') (h2 : ns + ms = ns')
    (kk : ∀ (h' : List aE), Q h' → AW M R F pc' lv (rest) h' nc' ns') : AW M R F pc lv st h nc ns := by
  subst h1
  subst h2
  refine aw_callSN hd hp hl0 hM hA hn hst hw hRm (fun v h' hP => ?_)
  obtain ⟨rfl, hQ⟩ := hP
  exact kk h' hQ
theorem aw_callSNa {host : String} {As : List Value} {Q : Value → List aE → Prop} (hd : decode M.2.1 pc = .ok (.invokestatic idx, 3)) (hp : pc + 3 = pc') (hl0 : (M.1.cls, idx, M'.1, host) ∈ nstM) (hM : MS M' n) (hA : AM M' d As h mc ms (PA Q)) (hn : As.length = n) (hst : st = As.reverse ++ rest) (hw : (rest.map Value.category).sum ≤ 8) (hRm : RoomOk R M' d nc ns mc ms) (h1 : nc + mc = nc') (h2 : ns + ms = ns')
    (kk : ∀ (r : Value) (h' : List aE), Q r h' → AW M R F pc' lv (r :: rest) h' nc' ns') : AW M R F pc lv st h nc ns := by
  subst h1
  subst h2
  refine aw_callSN hd hp hl0 hM hA hn hst hw hRm (fun v h' hP => ?_)
  obtain ⟨r, rfl, hQ⟩ := hP
  exact kk r h' hQ
theorem aw_callIv {b : Nat} {As : List Value} {Q : List aE → Prop} (hd : decode M.2.1 pc = .ok (.invokespecial idx, 3)) (hp : pc + 3 = pc') (hl0 : Cond.methodLink M.1.cls idx M'.1 ∈ gw) (hM : MI M' n) (hA : AM M' d (.ref (b + 8) :: As) h mc ms (PV Q)) (hn : As.length = n) (hst : st = As.reverse ++ .ref (b + 8) :: rest) (hw : (rest.map Value.category).sum ≤ 8) (hRm : RoomOk R M' d nc ns mc ms) (h1 : nc + mc = nc') (h2 : ns + ms = ns')
    (kk : ∀ (h' : List aE), Q h' → AW M R F pc' lv (rest) h' nc' ns') : AW M R F pc lv st h nc ns := by
  subst h1
  subst h2
  refine aw_callI hd hp hl0 hM hA hn hst hw hRm (fun v h' hP => ?_)
  obtain ⟨rfl, hQ⟩ := hP
  exact kk h' hQ
theorem aw_callINv {host : String} {b : Nat} {As : List Value} {Q : List aE → Prop} (hd : decode M.2.1 pc = .ok (.invokespecial idx, 3)) (hp : pc + 3 = pc') (hl0 : (M.1.cls, idx, M'.1, host) ∈ nstM) (hM : MI M' n) (hA : AM M' d (.ref (b + 8) :: As) h mc ms (PV Q)) (hn : As.length = n) (hst : st = As.reverse ++ .ref (b + 8) :: rest) (hw : (rest.map Value.category).sum ≤ 8) (hRm : RoomOk R M' d nc ns mc ms) (h1 : nc + mc = nc') (h2 : ns + ms = ns')
    (kk : ∀ (h' : List aE), Q h' → AW M R F pc' lv (rest) h' nc' ns') : AW M R F pc lv st h nc ns := by
  subst h1
  subst h2
  refine aw_callIN hd hp hl0 hM hA hn hst hw hRm (fun v h' hP => ?_)
  obtain ⟨rfl, hQ⟩ := hP
  exact kk h' hQ
end AWj
section AWm
variable {M : aM} {R : Room} {F : aF} {pc pc' : Nat} {lv lv' : List (Option Value)} {st : List Value} {h h' : List aE} {nc ns mc ms : Nat}
theorem aw_ri {Q : Int32 → List aE → Prop} {ty : FieldType} {v : Int32} (hd : decode M.2.1 pc = .ok (.ireturn, 1)) (hr : M.2.2.2 = some ty) (hn : narrow ty (.int v) = .int v) (h1 : nc ≤ mc) (h2 : ns ≤ ms) (hQ : Q v h) : AW M R (fin (PI Q) mc ms) pc lv [.int v] h nc ns := aw_iret hd hr hn h1 h2 ⟨v, rfl, hQ⟩
theorem aw_rl {Q : Int64 → List aE → Prop} {v : Int64} (hd : decode M.2.1 pc = .ok (.lreturn, 1)) (hr : M.2.2.2 = some .long) (h1 : nc ≤ mc) (h2 : ns ≤ ms) (hQ : Q v h) : AW M R (fin (PL Q) mc ms) pc lv [.long v] h nc ns := aw_lret hd hr h1 h2 ⟨v, rfl, hQ⟩
theorem aw_rv {Q : List aE → Prop} (hd : decode M.2.1 pc = .ok (.return_, 1)) (hr : M.2.2.2 = none) (h1 : nc ≤ mc) (h2 : ns ≤ ms) (hQ : Q h) : AW M R (fin (PV Q) mc ms) pc lv [] h nc ns := aw_vret hd hr h1 h2 ⟨rfl, hQ⟩
theorem aw_ra {Q : Value → List aE → Prop} {ty : FieldType} {v : Value} (hd : decode M.2.1 pc = .ok (.areturn, 1)) (hr : M.2.2.2 = some ty) (hty : (∃ n, ty = .object n) ∨ ∃ t, ty = .array t) (ha : isA v = true) (h1 : nc ≤ mc) (h2 : ns ≤ ms) (hQ : Q v h) : AW M R (fin (PA Q) mc ms) pc lv [v] h nc ns := aw_aret hd hr hty ha h1 h2 ⟨v, rfl, hQ⟩
theorem aw_zlt {x : Int32} {off : Int} {tgt : Nat} (hd : decode M.2.1 pc = .ok (.ifCond .lt off, 3)) (ht : (pc : Int) + off = (tgt : Int)) (hp : pc + 3 = pc') (kt : x < 0 → AW M R F tgt lv st h nc ns) (kf : ¬ x < 0 → AW M R F pc' lv st h nc ns) : AW M R F pc lv (.int x :: st) h nc ns := aw_if_lt hd ht hp (kt) (kf)
theorem aw_zge {x : Int32} {off : Int} {tgt : Nat} (hd : decode M.2.1 pc = .ok (.ifCond .ge off, 3)) (ht : (pc : Int) + off = (tgt : Int)) (hp : pc + 3 = pc') (kt : ¬ x < 0 → AW M R F tgt lv st h nc ns) (kf : x < 0 → AW M R F pc' lv st h nc ns) : AW M R F pc lv (.int x :: st) h nc ns := aw_if_ge hd ht hp (fun z => kt (Int32.not_lt.mpr z)) (fun z => kf (Int32.not_le.mp z))
theorem aw_zgt {x : Int32} {off : Int} {tgt : Nat} (hd : decode M.2.1 pc = .ok (.ifCond .gt off, 3)) (ht : (pc : Int) + off = (tgt : Int)) (hp : pc + 3 = pc') (kt : 0 < x → AW M R F tgt lv st h nc ns) (kf : ¬ 0 < x → AW M R F pc' lv st h nc ns) : AW M R F pc lv (.int x :: st) h nc ns := aw_if_gt hd ht hp (kt) (kf)
theorem aw_zle {x : Int32} {off : Int} {tgt : Nat} (hd : decode M.2.1 pc = .ok (.ifCond .le off, 3)) (ht : (pc : Int) + off = (tgt : Int)) (hp : pc + 3 = pc') (kt : ¬ 0 < x → AW M R F tgt lv st h nc ns) (kf : 0 < x → AW M R F pc' lv st h nc ns) : AW M R F pc lv (.int x :: st) h nc ns := aw_if_le hd ht hp (fun z => kt (Int32.not_lt.mpr z)) (fun z => kf (Int32.not_le.mp z))
theorem aw_clt {x y : Int32} {off : Int} {tgt : Nat} (hd : decode M.2.1 pc = .ok (.if_icmp .lt off, 3)) (ht : (pc : Int) + off = (tgt : Int)) (hp : pc + 3 = pc') (kt : x < y → AW M R F tgt lv st h nc ns) (kf : ¬ x < y → AW M R F pc' lv st h nc ns) : AW M R F pc lv (.int y :: .int x :: st) h nc ns := aw_icmp_lt hd ht hp (kt) (kf)
theorem aw_cge {x y : Int32} {off : Int} {tgt : Nat} (hd : decode M.2.1 pc = .ok (.if_icmp .ge off, 3)) (ht : (pc : Int) + off = (tgt : Int)) (hp : pc + 3 = pc') (kt : ¬ x < y → AW M R F tgt lv st h nc ns) (kf : x < y → AW M R F pc' lv st h nc ns) : AW M R F pc lv (.int y :: .int x :: st) h nc ns := aw_icmp_ge hd ht hp (fun z => kt (Int32.not_lt.mpr z)) (fun z => kf (Int32.not_le.mp z))
theorem aw_cgt {x y : Int32} {off : Int} {tgt : Nat} (hd : decode M.2.1 pc = .ok (.if_icmp .gt off, 3)) (ht : (pc : Int) + off = (tgt : Int)) (hp : pc + 3 = pc') (kt : y < x → AW M R F tgt lv st h nc ns) (kf : ¬ y < x → AW M R F pc' lv st h nc ns) : AW M R F pc lv (.int y :: .int x :: st) h nc ns := aw_icmp_gt hd ht hp (kt) (kf)
theorem aw_cle {x y : Int32} {off : Int} {tgt : Nat} (hd : decode M.2.1 pc = .ok (.if_icmp .le off, 3)) (ht : (pc : Int) + off = (tgt : Int)) (hp : pc + 3 = pc') (kt : ¬ y < x → AW M R F tgt lv st h nc ns) (kf : y < x → AW M R F pc' lv st h nc ns) : AW M R F pc lv (.int y :: .int x :: st) h nc ns := aw_icmp_le hd ht hp (fun z => kt (Int32.not_lt.mpr z)) (fun z => kf (Int32.not_le.mp z))
end AWm
theorem raw_p {t : FieldType} (ht : ∀ C, t ≠ .object C) (U : State) (cA cB : ClassId) (h : va_RA U cA t) (h2 : U.vm.findClass ("[" ++ t.toString) = some cB) : cA = cB := by
  cases t with
  | object C => exact absurd rfl (ht C)
  | _ => exact Option.some.inj (h.symm.trans h2)
section AWn
variable {M : aM} {R : Room} {F : aF} {pc pc' : Nat} {lv : List (Option Value)} {st : List Value} {h h' : List aE} {nc ns nc' ns' N r : Nat} {n : Int32}
theorem aw_newi (hd : decode M.2.1 pc = .ok (.newarray .int, 2)) (hp : pc + 2 = pc') (hn : ¬ n < 0) (hN : n.toNatClampNeg = N) (hby : N * 4 ≤ 536870912) (hc : nc + 1 ≤ R.cells) (hs : ns + N ≤ R.slots) (hr : h.length + 8 = r) (hh : h ++ [.inl (0, N, .inl (fun _ => 0))] = h') (h1 : nc + 1 = nc') (h2 : ns + N = ns') (kk : AW M R F pc' lv (.ref r :: st) h' nc' ns') : AW M R F pc lv (.int n :: st) h nc ns := by
  subst h1
  subst h2
  exact aw_newa (t := 0) hd hp (by omega) rfl ac_int (fun U a b x y => raw_p (fun C q => by cases q) U a b x y) (fun _ _ => rfl) hn hN hby hc hs hr hh kk
theorem aw_newz (hd : decode M.2.1 pc = .ok (.newarray .boolean, 2)) (hp : pc + 2 = pc') (hn : ¬ n < 0) (hN : n.toNatClampNeg = N) (hby : N * 1 ≤ 536870912) (hc : nc + 1 ≤ R.cells) (hs : ns + N ≤ R.slots) (hr : h.length + 8 = r) (hh : h ++ [.inl (1, N, .inl (fun _ => 0))] = h') (h1 : nc + 1 = nc') (h2 : ns + N = ns') (kk : AW M R F pc' lv (.ref r :: st) h' nc' ns') : AW M R F pc lv (.int n :: st) h nc ns := by
  subst h1
  subst h2
  exact aw_newa (t := 1) hd hp (by omega) rfl ac_boolean (fun U a b x y => raw_p (fun C q => by cases q) U a b x y) (fun _ _ => rfl) hn hN hby hc hs hr hh kk
theorem aw_newb (hd : decode M.2.1 pc = .ok (.newarray .byte, 2)) (hp : pc + 2 = pc') (hn : ¬ n < 0) (hN : n.toNatClampNeg = N) (hby : N * 1 ≤ 536870912) (hc : nc + 1 ≤ R.cells) (hs : ns + N ≤ R.slots) (hr : h.length + 8 = r) (hh : h ++ [.inl (2, N, .inl (fun _ => 0))] = h') (h1 : nc + 1 = nc') (h2 : ns + N = ns') (kk : AW M R F pc' lv (.ref r :: st) h' nc' ns') : AW M R F pc lv (.int n :: st) h nc ns := by
  subst h1
  subst h2
  exact aw_newa (t := 2) hd hp (by omega) rfl ac_byte (fun U a b x y => raw_p (fun C q => by cases q) U a b x y) (fun _ _ => rfl) hn hN hby hc hs hr hh kk
theorem aw_newl (hd : decode M.2.1 pc = .ok (.newarray .long, 2)) (hp : pc + 2 = pc') (hn : ¬ n < 0) (hN : n.toNatClampNeg = N) (hby : N * 8 ≤ 536870912) (hc : nc + 1 ≤ R.cells) (hs : ns + N ≤ R.slots) (hr : h.length + 8 = r) (hh : h ++ [.inl (3, N, .inr (.inl (fun _ => 0)))] = h') (h1 : nc + 1 = nc') (h2 : ns + N = ns') (kk : AW M R F pc' lv (.ref r :: st) h' nc' ns') : AW M R F pc lv (.int n :: st) h nc ns := by
  subst h1
  subst h2
  exact aw_newa (t := 3) hd hp (by omega) rfl ac_long (fun U a b x y => raw_p (fun C q => by cases q) U a b x y) (fun _ _ => rfl) hn hN hby hc hs hr hh kk
end AWn
/-- a world that begins with pre, which has L cells -/
theorem gA_ {pre r : List aE} {L j : Nat} {x : aE} (hL : pre.length = L) (hj : r[j]? = some x) : (pre ++ r)[L + j]? = some x := by
  rw [← hL, List.getElem?_append_right (Nat.le_add_right _ _), Nat.add_sub_cancel_left]; exact hj
theorem gA_set {pre r r' : List aE} {L j : Nat} {x : aE} (hL : pre.length = L) (hr : r.set j x = r') : (pre ++ r).set (L + j) x = pre ++ r' := by
  rw [← hL, ← hr, List.set_append_right _ _ (Nat.le_add_right _ _), Nat.add_sub_cancel_left]
theorem gA_push {pre r r' : List aE} {x : aE} (hr : r ++ [x] = r') : (pre ++ r) ++ [x] = pre ++ r' := by rw [List.append_assoc, hr]
theorem gA_len {pre r : List aE} {L k : Nat} (hL : pre.length = L) (hk : r.length = k) : (pre ++ r).length + 8 = L + k + 8 := by rw [List.length_append, hL, hk]
