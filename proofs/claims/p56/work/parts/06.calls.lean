/-! CONTRACTS: AM M d as h mc ms P: method M, called with the arguments as in the world h, returns, with P of its answer and of the world behind it; d calls deep, mc cells of ms slots at most -/
def rmD (d mc ms : Nat) : Room := { frames := d, cells := mc, slots := ms, locals := 41 * d }
def aQ (G : aG) (P : Option Value → List aE → Prop) : Array Value → State → Outcome → State → Prop := fun _ st o t => (∃ (v : Option Value) (h' : List aE), o = .returned (v.map (cv G)) ∧ P v h' ∧ Rep G h' t.heap) ∧ va_F (aS G) st t
def fin (P : Option Value → List aE → Prop) (mc ms : Nat) : aF := fun G below args s => MQ below (aQ G P) args s mc ms (aS G)
def aPc (G : aG) (as : List Value) (h : List aE) : Array Value → State → Prop := va_Pc (as.map (cv G)) (fun U => Rep G h U.heap ∧ Nst U ∧ Kn G U ∧ St G U U.heap)
def AM (M : aM) (d : Nat) (as : List Value) (h : List aE) (mc ms : Nat) (P : Option Value → List aE → Prop) : Prop :=
  ∀ (l : Launch) (G : aG), Met l M.1 (mws M) (rmD d mc ms) (aPc G as h) (aQ G P) mc ms (aS G)
theorem aPc_blind (G : aG) (as : List Value) (h : List aE) : FrameBlind (aPc G as h) := by
  intro a U g mk hq
  obtain ⟨h1, h2, h3, h4, h5⟩ := hq
  exact ⟨h1, h2, h3.same rfl, va_K.moved (u := U) (U := U.calling g mk a) (Vm.Alike.refl U.vm) h4, h5.same rfl⟩
theorem lg_len (G : aG) : ∀ as : List Value, (lg_sl (as.map (cv G))).length = (as.map Value.category).sum
  | [] => rfl
  | v :: r => by
    have ih := lg_len G r
    unfold lg_sl at ih ⊢
    simp only [List.map_cons, List.flatMap_cons, List.length_append, List.sum_cons, cv_cat]
    rw [ih]
    rcases lv_cat v with h | h <;> simp [h]
theorem am_of {M : aM} {d mc ms : Nat} {as : List Value} {h : List aE} {P : Option Value → List aE → Prop} {lv : List (Option Value)} (hM : plainName M.1.cls = true) (ha : (as.map Value.category).sum ≤ M.2.2.1) (hlv : lvIn M.2.2.1 as = lv) (k : AW M (rmD d mc ms) (fin P mc ms) 0 lv [] h 0 0) : AM M d as h mc ms P := by
  subst hlv
  intro l G
  refine Met.ofW (cc := M.2.1) (maxL := M.2.2.1) (ret := M.2.2.2) hM rfl ?_
  intro p e s m args below meth c s₁ B hml hv
  obtain ⟨rfl, hR, hN, hK, hS⟩ := hv
  have hts := atoms_spec (ws := mws M) B.pre
  have hown : s.vm.findClass M.1.cls = some m.cls := findClass_of_methodNamed B.named
  have hname := (name_of_methodNamed B.named B.method).1
  rw [lg_entry_eq]
  have hl := lv_entry (as.map (cv G)) (n := M.2.2.1) (by rw [lg_len]; exact ha)
  refine k p l e s m _ below meth c G s.heap [] _ ⟨B.exec, B.bytes, B.returns, hml, hown, B.notSynchronized, hname, fun w hw => hts w (List.mem_cons_of_mem _ hw), hN, hK, hS, ?_⟩ hR va_S.rf ?_
  · rw [hR.1]; exact Nat.le_add_right _ _
  · refine ⟨hl.1, hl.2.1, fun q hq => ?_⟩
    obtain ⟨j, w⟩ := q
    obtain ⟨v, h1, h2, rfl⟩ := (prs_mem _ 0 j w).mp hq
    rw [Nat.sub_zero] at h2
    have := lvIn_mem (G := G) as M.2.2.1 0 j v h2
    rw [Nat.zero_add] at this
    exact hl.2.2 _ this
theorem AM.post {M : aM} {d mc ms : Nat} {as : List Value} {h : List aE} {P P' : Option Value → List aE → Prop} (hA : AM M d as h mc ms P) (hP : ∀ v h', P v h' → P' v h') : AM M d as h mc ms P' := by
  intro l G
  have hM := hA l G
  unfold Met MetFree at hM ⊢
  intro p e ha hc hk s m args below hf
  intro hap hp ht
  obtain ⟨k, o, h1, h2, h3, ⟨⟨v, h', e1, e2, e3⟩, e4⟩, e5⟩ := hM p e ha hc hk s m args below hf hap hp ht
  exact ⟨k, o, h1, h2, h3, ⟨⟨v, h', e1, hP _ _ e2, e3⟩, e4⟩, e5⟩
section AWr
variable {M : aM} {R : Room} {F : aF} {pc pc' : Nat} {lv lv' : List (Option Value)} {st : List Value} {h h' : List aE} {nc ns mc ms : Nat} {P : Option Value → List aE → Prop}
theorem aw_iret {ty : FieldType} {v : Int32} (hd : decode M.2.1 pc = .ok (.ireturn, 1)) (hr : M.2.2.2 = some ty) (hn : narrow ty (.int v) = .int v) (h1 : nc ≤ mc) (h2 : ns ≤ ms) (hP : P (some (.int v)) h) : AW M R (fin P mc ms) pc lv [.int v] h nc ns := by
  intro p l e s m args below meth c G H locs ls C hR hS hl
  refine W.widen h1 h2 ?_
  have hlk : meth.locks = false := C.2.2.2.2.2.1
  exact W.zret C.1 C.2.1 (C.2.2.1.trans hr) hn (fun t ht hW => ⟨⟨some (.int v), h, rfl, hP, by rw [ht]; exact hR⟩, hS.F ht⟩) hS.2.2 hd
theorem aw_lret {v : Int64} (hd : decode M.2.1 pc = .ok (.lreturn, 1)) (hr : M.2.2.2 = some .long) (h1 : nc ≤ mc) (h2 : ns ≤ ms) (hP : P (some (.long v)) h) : AW M R (fin P mc ms) pc lv [.long v] h nc ns := by
  intro p l e s m args below meth c G H locs ls C hR hS hl
  refine W.widen h1 h2 ?_
  have hlk : meth.locks = false := C.2.2.2.2.2.1
  exact W.lret C.1 C.2.1 (C.2.2.1.trans hr) (fun t ht hW => ⟨⟨some (.long v), h, rfl, hP, by rw [ht]; exact hR⟩, hS.F ht⟩) hS.2.2 hd
theorem aw_vret (hd : decode M.2.1 pc = .ok (.return_, 1)) (hr : M.2.2.2 = none) (h1 : nc ≤ mc) (h2 : ns ≤ ms) (hP : P none h) : AW M R (fin P mc ms) pc lv [] h nc ns := by
  intro p l e s m args below meth c G H locs ls C hR hS hl
  refine W.widen h1 h2 ?_
  have hlk : meth.locks = false := C.2.2.2.2.2.1
  exact W.vret C.1 C.2.1 (C.2.2.1.trans hr) (fun t ht hW => ⟨⟨none, h, rfl, hP, by rw [ht]; exact hR⟩, hS.F ht⟩) hS.2.2 hd
theorem aw_aret {ty : FieldType} {v : Value} (hd : decode M.2.1 pc = .ok (.areturn, 1)) (hr : M.2.2.2 = some ty) (hty : (∃ n, ty = .object n) ∨ ∃ t, ty = .array t) (ha : isA v = true) (h1 : nc ≤ mc) (h2 : ns ≤ ms) (hP : P (some v) h) : AW M R (fin P mc ms) pc lv [v] h nc ns := by
  intro p l e s m args below meth c G H locs ls C hR hS hl
  refine W.widen h1 h2 ?_
  have hlk : meth.locks = false := C.2.2.2.2.2.1
  have hv : cv G v = .null ∨ ∃ a, cv G v = .ref a := by
    cases v with
    | ref x => exact Or.inr ⟨_, rfl⟩
    | null => exact Or.inl rfl
    | _ => cases ha
  exact W.aret C.1 C.2.1 (C.2.2.1.trans hr) hty hv (fun t ht hW => ⟨⟨some v, h, rfl, hP, by rw [ht]; exact hR⟩, hS.F ht⟩) hS.2.2 hd
end AWr
section AWc
variable {p : Program} {l : Launch} {e : Env} {R : Room} {s : State} {m : MethodId} {args : Array Value} {below : List Frame} {meth : Method} {c : Code} {H : Heap} {locs : List Loc} {nc ns mc ms : Nat} {Q : State → Prop}
theorem w_run {G : aG} {P : Option Value → List aE → Prop} {pc : Nat} {ls : Array Slot} {st0 rest : List Value} {a : Array Value} (hr : va_Run p l e R s m args below meth c H locs nc ns mc ms (F0 m pc ls st0) rest (aQ G P a) (aS G)) (hS : va_S (aS G) s.heap H locs)
    (kk : ∀ (v : Option Value) (h' : List aE) (H1 : Heap) (locs1 : List Loc), P v h' → Rep G h' H1 → va_S (aS G) s.heap H1 locs1 → W p l e R s m args below meth c H1 locs1 (nc + mc) (ns + ms) Q (F0 m (pc + 3) ls ((v.map (cv G)).toList ++ rest))) : W p l e R s m args below meth c H locs nc ns Q (F0 m pc ls st0) := by
  intro T hT X
  obtain ⟨v, st₀, t, T', L, h0, X', hL, e1, e2, ⟨⟨w, h', hv, hp, hb⟩, hz, hk⟩, st⟩ := hr T hT X
  cases hv
  rw [h0] at hz hk
  obtain ⟨t2, a1, b1⟩ := kk w h' T'.heap (locs ++ L) hp (by rw [e1]; exact hb)
    ⟨Nat.le_trans hS.1 (by rw [e1]; exact hz), fun q h1 h2 => by rw [e1, hk q (Nat.lt_of_lt_of_le h1 hS.1) h2]; exact hS.2.1 q h1 h2, fun q hq => by
      rcases List.mem_append.mp hq with h | h
      · exact hS.2.2 q h
      · exact hL q h⟩ T' rfl X'
  exact ⟨t2, st t2 a1, b1⟩
end AWc
/-- what the tables say of a method that is called -/
def MN (M : aM) (n : Nat) : Prop := Cond.initialized M.1.cls ∈ gw ∧ mw M ∈ gw ∧ M.1.cls ≠ "java/lang/invoke/MethodHandle" ∧ M.1.cls ≠ "java/lang/invoke/VarHandle" ∧ (parseMethodDescriptor M.1.desc).map (fun d => d.parameters.length) = some n
def MV (M : aM) (n : Nat) : Prop := MN M n ∧ Cond.instanceMethod M.1 ∈ gw ∧ Cond.selects M.1.cls M.1 M.1 ∈ gw
def MS (M : aM) (n : Nat) : Prop := MN M n ∧ Cond.static M.1 ∈ gw
def MI (M : aM) (n : Nat) : Prop := MN M n ∧ M.1.name = "<init>" ∧ Cond.instanceMethod M.1 ∈ gw ∧ M.2.2.2 = none
def RoomOk (R : Room) (M : aM) (d nc ns mc ms : Nat) : Prop := d + 1 ≤ R.frames ∧ 19 + M.2.2.1 + 41 * d ≤ R.locals ∧ nc + mc ≤ R.cells ∧ ns + ms ≤ R.slots
section AWk
variable {M M' : aM} {R : Room} {F : aF} {pc pc' : Nat} {lv lv' : List (Option Value)} {st rest : List Value} {h h' : List aE} {nc ns mc ms d n idx : Nat} {P : Option Value → List aE → Prop}
theorem aw_pre {G : aG} {p : Program} {s : State} {m : MethodId} {args : Array Value} {meth : Method} {c : Code} {H : Heap} {locs : List Loc} {as : List Value} (C : Cx M G p s m args meth c) (hR : Rep G h H) (hS : va_S (aS G) s.heap H locs) : ∀ U : State, U.heap = H → s.WarmedH U.vm → aPc G as h (as.map (cv G)).toArray U := by
  intro U hU hW
  refine ⟨rfl, by rw [hU]; exact hR, C.2.2.2.2.2.2.2.2.1.warm hW, va_K.moved hW.alike C.2.2.2.2.2.2.2.2.2.1, ?_⟩
  rw [hU]
  exact C.2.2.2.2.2.2.2.2.2.2.1.go hW hS.2.1
theorem aw_cat (G : aG) (rest : List Value) : ((rest.map (cv G)).map fun v => v.category).sum = (rest.map Value.category).sum := by
  rw [List.map_map]
  congr 1
  apply List.map_congr_left
  intro v _
  exact cv_cat G v
theorem aw_toL (G : aG) (v : Option Value) (rest : List Value) : (v.map (cv G)).toList ++ rest.map (cv G) = (v.toList ++ rest).map (cv G) := by
  cases v <;> rfl
theorem aw_cB {s : State} {args : Array Value} (hts : ∀ w ∈ gw, w.before args s = true) (hM : MN M' n) (hl : (Cond.methodLink M.1.cls idx M'.1).before args s = true) (hR : RoomOk R M' d nc ns mc ms) : CallB R s args M.1.cls idx M'.1 M'.2.1 M'.2.2.1 M'.2.2.2 (mws M') (rmD d mc ms) mc ms n := by
  obtain ⟨h1, h2, h3, h4, h5⟩ := hM
  refine callB_of n hts (mws_good h2) rfl rfl rfl (hts _ h1) hl ⟨h3, h4, h5⟩ ⟨hR.1, ?_⟩
  have := hR.2.1
  show 8 + (M'.2.2.1 + 11) + 41 * d ≤ R.locals
  omega
theorem aw_callV {b ci : Nat} {fs As : List Value} (hd : decode M.2.1 pc = .ok (.invokevirtual idx, 3)) (hp : pc + 3 = pc') (hl0 : Cond.methodLink M.1.cls idx M'.1 ∈ gw) (hM : MV M' n) (hA : AM M' d (.ref (b + 8) :: As) h mc ms P) (hq : h[b]? = some (.inr (ci, fs))) (hc : (cls[ci]?).map (fun q => q.1) = some M'.1.cls) (hn : As.length = n) (hst : st = As.reverse ++ .ref (b + 8) :: rest) (hw : (rest.map Value.category).sum ≤ 8) (hRm : RoomOk R M' d nc ns mc ms)
    (kk : ∀ (v : Option Value) (h' : List aE), P v h' → AW M R F pc' lv (v.toList ++ rest) h' (nc + mc) (ns + ms)) : AW M R F pc lv st h nc ns := by
  subst hp
  subst hst
  intro p l e s m args below meth c G H locs ls C hR hS hl
  have hts := C.2.2.2.2.2.2.2.1
  obtain ⟨q0, hq0, hq1⟩ : ∃ q0, cls[ci]? = some q0 ∧ q0.1 = M'.1.cls := by
    cases hz : cls[ci]? with
    | none => rw [hz] at hc; cases hc
    | some q0 => rw [hz] at hc; exact ⟨q0, rfl, Option.some.inj hc⟩
  have hrec : ∃ cell : Cell, H[gB G + b]? = some cell ∧ cell.vm.isStatics = false ∧ s.vm.findClass M'.1.cls = some cell.cls := by
    rw [← hq1]
    exact va_recv C.2.2.2.2.2.2.2.2.2.1 hR.2 hq0 (wsG_get hq)
  have e0 : (As.reverse ++ Value.ref (b + 8) :: rest).map (cv G) = (As.map (cv G)).reverse ++ .ref (gB G + b) :: rest.map (cv G) := by
    rw [List.map_append, List.map_reverse, List.map_cons]
    show _ ++ Value.ref (gr G (b + 8)) :: _ = _
    rw [gr_dyn]
  have e1 : (Value.ref (b + 8) :: As).map (cv G) = .ref (gB G + b) :: As.map (cv G) := by
    rw [List.map_cons]
    show Value.ref (gr G (b + 8)) :: _ = _
    rw [gr_dyn]
  rw [e0]
  have hpre := aw_pre (as := .ref (b + 8) :: As) C hR hS
  rw [e1] at hpre
  have hrun := va_runV (As := As.map (cv G)) (rest := rest.map (cv G)) (b := gB G + b) (g := F0 m pc ls ((As.map (cv G)).reverse ++ .ref (gB G + b) :: rest.map (cv G))) (below := below) (meth := meth) (locs := locs) (cells := nc) (slots := ns) (e := e)
    ⟨C.1, C.2.1, C.2.2.2.1, C.2.2.2.2.1, hts⟩ (hA l G) ⟨aw_cB hts hM.1 (hts _ hl0) hRm, hts _ hM.2.1, hts _ hM.2.2⟩ ⟨aPc_blind G _ h, hrec, hpre⟩ rfl (by rw [List.length_map]; exact hn) hl.1 rfl (by have := aw_cat G rest; show 0 + _ ≤ 8; omega) hd ⟨hRm.2.2.1, hRm.2.2.2⟩
  refine w_run hrun hS (fun v h' H1 locs1 hP hR1 hS1 => ?_)
  rw [aw_toL]
  exact kk v h' hP p l e s m args below meth c G H1 locs1 ls C hR1 hS1 hl
theorem aw_callS {As : List Value} (hd : decode M.2.1 pc = .ok (.invokestatic idx, 3)) (hp : pc + 3 = pc') (hl0 : Cond.methodLink M.1.cls idx M'.1 ∈ gw) (hM : MS M' n) (hA : AM M' d As h mc ms P) (hn : As.length = n) (hst : st = As.reverse ++ rest) (hw : (rest.map Value.category).sum ≤ 8) (hRm : RoomOk R M' d nc ns mc ms)
    (kk : ∀ (v : Option Value) (h' : List aE), P v h' → AW M R F pc' lv (v.toList ++ rest) h' (nc + mc) (ns + ms)) : AW M R F pc lv st h nc ns := by
  subst hp
  subst hst
  intro p l e s m args below meth c G H locs ls C hR hS hl
  have hts := C.2.2.2.2.2.2.2.1
  rw [List.map_append, List.map_reverse]
  have hrun := va_runS (As := As.map (cv G)) (rest := rest.map (cv G)) (g := F0 m pc ls ((As.map (cv G)).reverse ++ rest.map (cv G))) (below := below) (meth := meth) (locs := locs) (cells := nc) (slots := ns) (e := e) (H := H)
    ⟨C.1, C.2.1, C.2.2.2.1, C.2.2.2.2.1, hts⟩ (hA l G) ⟨aw_cB hts hM.1 (hts _ hl0) hRm, hts _ hM.2⟩ ⟨aPc_blind G _ h, aw_pre (as := As) C hR hS⟩ rfl (by rw [List.length_map]; exact hn) hl.1 rfl (by have := aw_cat G rest; show 0 + _ ≤ 8; omega) hd ⟨hRm.2.2.1, hRm.2.2.2⟩
  refine w_run hrun hS (fun v h' H1 locs1 hP hR1 hS1 => ?_)
  rw [aw_toL]
  exact kk v h' hP p l e s m args below meth c G H1 locs1 ls C hR1 hS1 hl
theorem aw_callI {b : Nat} {As : List Value} (hd : decode M.2.1 pc = .ok (.invokespecial idx, 3)) (hp : pc + 3 = pc') (hl0 : Cond.methodLink M.1.cls idx M'.1 ∈ gw) (hM : MI M' n) (hA : AM M' d (.ref (b + 8) :: As) h mc ms P) (hn : As.length = n) (hst : st = As.reverse ++ .ref (b + 8) :: rest) (hw : (rest.map Value.category).sum ≤ 8) (hRm : RoomOk R M' d nc ns mc ms)
    (kk : ∀ (v : Option Value) (h' : List aE), P v h' → AW M R F pc' lv (v.toList ++ rest) h' (nc + mc) (ns + ms)) : AW M R F pc lv st h nc ns := by
  subst hp
  subst hst
  intro p l e s m args below meth c G H locs ls C hR hS hl
  have hts := C.2.2.2.2.2.2.2.1
  have e0 : (As.reverse ++ Value.ref (b + 8) :: rest).map (cv G) = (As.map (cv G)).reverse ++ .ref (gB G + b) :: rest.map (cv G) := by
    rw [List.map_append, List.map_reverse, List.map_cons]
    show _ ++ Value.ref (gr G (b + 8)) :: _ = _
    rw [gr_dyn]
  have e1 : (Value.ref (b + 8) :: As).map (cv G) = .ref (gB G + b) :: As.map (cv G) := by
    rw [List.map_cons]
    show Value.ref (gr G (b + 8)) :: _ = _
    rw [gr_dyn]
  rw [e0]
  have hpre := aw_pre (as := .ref (b + 8) :: As) C hR hS
  rw [e1] at hpre
  have hcb := aw_cB (M := M) hts hM.1 (hts _ hl0) hRm
  rw [hM.2.2.2] at hcb
  have hrun := va_runI (As := As.map (cv G)) (rest := rest.map (cv G)) (b := gB G + b) (g := F0 m pc ls ((As.map (cv G)).reverse ++ .ref (gB G + b) :: rest.map (cv G))) (below := below) (meth := meth) (locs := locs) (cells := nc) (slots := ns) (e := e) (H := H)
    ⟨C.1, C.2.1, C.2.2.2.1, C.2.2.2.2.1, hts⟩ (hA l G) ⟨hcb, hM.2.1, hts _ hM.2.2.1⟩ ⟨aPc_blind G _ h, hpre⟩ rfl (by rw [List.length_map]; exact hn) hl.1 rfl (by have := aw_cat G rest; show 0 + _ ≤ 8; omega) hd ⟨hRm.2.2.1, hRm.2.2.2⟩
  refine w_run hrun hS (fun v h' H1 locs1 hP hR1 hS1 => ?_)
  rw [aw_toL]
  exact kk v h' hP p l e s m args below meth c G H1 locs1 ls C hR1 hS1 hl
theorem aw_cN {s : State} {args : Array Value} {host : String} (hts : ∀ w ∈ gw, w.before args s = true) (hM : MN M' n) (hl : va_Nw (.methodLinkNest M.1.cls idx M'.1 host) s) (hR : RoomOk R M' d nc ns mc ms) : va_CN R s args M.1.cls idx M'.1 host M'.2.1 M'.2.2.1 M'.2.2.2 (mws M') (rmD d mc ms) mc ms n := by
  obtain ⟨h1, h2, h3, h4, h5⟩ := hM
  refine va_cnB n hts (mws_good h2) rfl rfl rfl hl (hts _ h1) ⟨h3, h4, h5⟩ ⟨hR.1, ?_⟩
  have := hR.2.1
  show 8 + (M'.2.2.1 + 11) + 41 * d ≤ R.locals
  omega
theorem aw_callSN {host : String} {As : List Value} (hd : decode M.2.1 pc = .ok (.invokestatic idx, 3)) (hp : pc + 3 = pc') (hl0 : (M.1.cls, idx, M'.1, host) ∈ nstM) (hM : MS M' n) (hA : AM M' d As h mc ms P) (hn : As.length = n) (hst : st = As.reverse ++ rest) (hw : (rest.map Value.category).sum ≤ 8) (hRm : RoomOk R M' d nc ns mc ms)
    (kk : ∀ (v : Option Value) (h' : List aE), P v h' → AW M R F pc' lv (v.toList ++ rest) h' (nc + mc) (ns + ms)) : AW M R F pc lv st h nc ns := by
  subst hp
  subst hst
  intro p l e s m args below meth c G H locs ls C hR hS hl
  have hts := C.2.2.2.2.2.2.2.1
  rw [List.map_append, List.map_reverse]
  have hrun := va_runSN (As := As.map (cv G)) (rest := rest.map (cv G)) (g := F0 m pc ls ((As.map (cv G)).reverse ++ rest.map (cv G))) (below := below) (meth := meth) (locs := locs) (cells := nc) (slots := ns) (e := e) (H := H)
    ⟨C.1, C.2.1, C.2.2.2.1, C.2.2.2.2.1, hts⟩ (hA l G) ⟨aw_cN hts hM.1 (C.2.2.2.2.2.2.2.2.1.1 _ hl0) hRm, hts _ hM.2, trivial⟩ ⟨aPc_blind G _ h, aw_pre (as := As) C hR hS⟩ rfl (by rw [List.length_map]; exact hn) hl.1 rfl (by have := aw_cat G rest; show 0 + _ ≤ 8; omega) hd ⟨hRm.2.2.1, hRm.2.2.2⟩
  refine w_run hrun hS (fun v h' H1 locs1 hP hR1 hS1 => ?_)
  rw [aw_toL]
  exact kk v h' hP p l e s m args below meth c G H1 locs1 ls C hR1 hS1 hl
theorem aw_callIN {host : String} {b : Nat} {As : List Value} (hd : decode M.2.1 pc = .ok (.invokespecial idx, 3)) (hp : pc + 3 = pc') (hl0 : (M.1.cls, idx, M'.1, host) ∈ nstM) (hM : MI M' n) (hA : AM M' d (.ref (b + 8) :: As) h mc ms P) (hn : As.length = n) (hst : st = As.reverse ++ .ref (b + 8) :: rest) (hw : (rest.map Value.category).sum ≤ 8) (hRm : RoomOk R M' d nc ns mc ms)
    (kk : ∀ (v : Option Value) (h' : List aE), P v h' → AW M R F pc' lv (v.toList ++ rest) h' (nc + mc) (ns + ms)) : AW M R F pc lv st h nc ns := by
  subst hp
  subst hst
  intro p l e s m args below meth c G H locs ls C hR hS hl
  have hts := C.2.2.2.2.2.2.2.1
  have e0 : (As.reverse ++ Value.ref (b + 8) :: rest).map (cv G) = (As.map (cv G)).reverse ++ .ref (gB G + b) :: rest.map (cv G) := by
    rw [List.map_append, List.map_reverse, List.map_cons]
    show _ ++ Value.ref (gr G (b + 8)) :: _ = _
    rw [gr_dyn]
  have e1 : (Value.ref (b + 8) :: As).map (cv G) = .ref (gB G + b) :: As.map (cv G) := by
    rw [List.map_cons]
    show Value.ref (gr G (b + 8)) :: _ = _
    rw [gr_dyn]
  rw [e0]
  have hpre := aw_pre (as := .ref (b + 8) :: As) C hR hS
  rw [e1] at hpre
  have hcb := aw_cN (M := M) hts hM.1 (C.2.2.2.2.2.2.2.2.1.1 _ hl0) hRm
  rw [hM.2.2.2] at hcb
  have hrun := va_runIN (As := As.map (cv G)) (rest := rest.map (cv G)) (b := gB G + b) (g := F0 m pc ls ((As.map (cv G)).reverse ++ .ref (gB G + b) :: rest.map (cv G))) (below := below) (meth := meth) (locs := locs) (cells := nc) (slots := ns) (e := e) (H := H)
    ⟨C.1, C.2.1, C.2.2.2.1, C.2.2.2.2.1, hts⟩ (hA l G) ⟨hcb, hM.2.1, hts _ hM.2.2.1⟩ ⟨aPc_blind G _ h, hpre⟩ rfl (by rw [List.length_map]; exact hn) hl.1 rfl (by have := aw_cat G rest; show 0 + _ ≤ 8; omega) hd ⟨hRm.2.2.1, hRm.2.2.2⟩
  refine w_run hrun hS (fun v h' H1 locs1 hP hR1 hS1 => ?_)
  rw [aw_toL]
  exact kk v h' hP p l e s m args below meth c G H1 locs1 ls C hR1 hS1 hl
theorem aw_objInit {b : Nat} (hd : decode M.2.1 pc = .ok (.invokespecial idx, 3)) (hp : pc + 3 = pc') (hl0 : Cond.methodLink M.1.cls idx Lib.objectInit ∈ gw) (hi : Cond.instanceMethod Lib.objectInit ∈ gw) (hc : Cond.code Lib.objectInit ⟨#[0xb1]⟩ 1 none ∈ gw) (hw : (st.map Value.category).sum ≤ 8) (hf : 1 ≤ R.frames) (hlo : 20 ≤ R.locals) (k : AW M R F pc' lv st h nc ns) : AW M R F pc lv (.ref b :: st) h nc ns := by
  subst hp
  intro p l e s m args below meth c G H locs ls C hR hS hl
  have hts := C.2.2.2.2.2.2.2.1
  refine W.objInit C.1 C.2.1 C.2.2.2.2.1 (hts _ hl0) (hts _ hi) (hts _ hc) rfl (by rw [C.2.2.2.1]; exact hl.1) rfl hd hf (by have := aw_cat G st; show 0 + _ + 12 ≤ _; omega) ?_
  exact k p l e s m args below meth c G H locs ls C hR hS hl
end AWk
