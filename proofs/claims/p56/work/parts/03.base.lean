/-! THE ABSTRACT WORLD: one list of cells; position k of the list is the real address gB + k; a reference to it is written .ref (k + 8); .ref 0 .. .ref 7 are things that were there before (script, KIND_ABOVE, the text "hdskinft", its bytes) -/
abbrev aE : Type := (Nat × vp_A) ⊕ (Nat × List Value)
abbrev aG : Type := va_G × (Nat → ClassId) × (Nat → Nat) × Nat × Nat × (Nat → Int32)
def gD (G : aG) : va_G := G.1
def gA (G : aG) : Nat → ClassId := G.2.1
def gs (G : aG) : Nat → Nat := G.2.2.1
def gB (G : aG) : Nat := G.2.2.2.1
def gL (G : aG) : Nat := G.2.2.2.2.1
def gX (G : aG) : Nat → Int32 := G.2.2.2.2.2
def gr (G : aG) (k : Nat) : Nat := if k < 8 then gs G k else gB G + (k - 8)
theorem gr_dyn (G : aG) (k : Nat) : gr G (k + 8) = gB G + k := by
  unfold gr
  rw [if_neg (by omega)]
  omega
def cv (G : aG) (v : Value) : Value := match v with
  | .ref k => .ref (gr G k)
  | .int x => .int x
  | .long x => .long x
  | .float x => .float x
  | .double x => .double x
  | .null => .null
  | .retAddr p => .retAddr p
theorem cv_cat (G : aG) (v : Value) : (cv G v).category = v.category := by cases v <;> rfl
theorem cv_rf (G : aG) (r : Option Nat) : cv G (va_rf r) = va_rf (r.map (gr G)) := by cases r <;> rfl
def ca (G : aG) (a : vp_A) : vp_A := match a with
  | (n, .inl f) => (n, .inl f)
  | (n, .inr (.inl f)) => (n, .inr (.inl f))
  | (n, .inr (.inr (.inl f))) => (n, .inr (.inr (.inl f)))
  | (n, .inr (.inr (.inr (.inl f)))) => (n, .inr (.inr (.inr (.inl f))))
  | (n, .inr (.inr (.inr (.inr f)))) => (n, .inr (.inr (.inr (.inr (fun j => (f j).map (gr G))))))
def ce (G : aG) (e : aE) : va_E := match e with
  | .inl (t, a) => .inl (gA G t, ca G a)
  | .inr (ci, fs) => .inr (ci, fs.map (cv G))
def wsG (G : aG) (h : List aE) : va_W := h.mapIdx (fun i e => (gB G + i, ce G e))
theorem wsG_get {G : aG} {h : List aE} {k : Nat} {e : aE} (hk : h[k]? = some e) : (wsG G h)[k]? = some (gB G + k, ce G e) := by
  simp [wsG, List.getElem?_mapIdx, hk]
theorem wsG_inv {G : aG} {h : List aE} {k : Nat} {q : Nat × va_E} (hk : (wsG G h)[k]? = some q) : ∃ e, h[k]? = some e ∧ q = (gB G + k, ce G e) := by
  simp only [wsG, List.getElem?_mapIdx] at hk
  cases hh : h[k]? with
  | none => rw [hh] at hk; simp at hk
  | some e => rw [hh] at hk; simp at hk; exact ⟨e, rfl, hk.symm⟩
theorem wsG_set (G : aG) (h : List aE) (k : Nat) (e : aE) : wsG G (h.set k e) = (wsG G h).set k (gB G + k, ce G e) := by
  apply List.ext_getElem?
  intro i
  simp only [wsG, List.getElem?_mapIdx, List.getElem?_set, List.length_mapIdx]
  by_cases hik : k = i
  · subst hik
    by_cases hl : k < h.length <;> simp [hl]
  · simp [hik]
theorem wsG_push (G : aG) (h : List aE) (e : aE) : wsG G (h ++ [e]) = wsG G h ++ [(gB G + h.length, ce G e)] := by
  simp [wsG, List.mapIdx_append]
def aS (G : aG) : Nat → Prop := fun q => gB G ≤ q
theorem wsG_D (G : aG) (h : List aE) : va_D (aS G) (wsG G h) := by
  refine ⟨fun i j p q hi hj e => ?_, fun k q hk => ?_⟩
  · obtain ⟨_, _, rfl⟩ := wsG_inv hi
    obtain ⟨_, _, rfl⟩ := wsG_inv hj
    dsimp only at e
    omega
  · obtain ⟨_, _, rfl⟩ := wsG_inv hk
    exact Nat.le_add_right _ _
/-- the heap holds the world, and nothing stands behind it -/
def Rep (G : aG) (h : List aE) (H : Heap) : Prop := H.size = gB G + h.length ∧ va_P (gD G) cls (wsG G h) H
theorem Rep.at {G : aG} {h : List aE} {H : Heap} (hR : Rep G h H) {k : Nat} {e : aE} (hk : h[k]? = some e) : va_at (gD G) cls (gB G + k, ce G e) H := hR.2 k _ (wsG_get hk)
theorem Rep.set {G : aG} {h : List aE} {H H1 : Heap} (hR : Rep G h H) {k : Nat} {e0 e : aE} (hk : h[k]? = some e0) (hz : H1.size = H.size) (he : va_at (gD G) cls (gB G + k, ce G e) H1) (oq : ∀ q : Nat, q ≠ gB G + k → H1[q]? = H[q]?) : Rep G (h.set k e) H1 := by
  refine ⟨by rw [hz, hR.1, List.length_set], ?_⟩
  rw [wsG_set]
  exact hR.2.set (wsG_D G h) (wsG_get hk) he oq
theorem Rep.push {G : aG} {h : List aE} {H H1 : Heap} (hR : Rep G h H) {e : aE} (hz : H1.size = H.size + 1) (he : va_at (gD G) cls (gB G + h.length, ce G e) H1) (oq : ∀ q : Nat, q < H.size → H1[q]? = H[q]?) : Rep G (h ++ [e]) H1 := by
  refine ⟨by rw [hz, hR.1, List.length_append]; rfl, ?_⟩
  rw [wsG_push]
  refine va_P.app (hR.2.kept (fun k q hk => oq _ (hR.2 k q hk).lt)) (fun k q hk => ?_)
  have hl := (List.getElem?_eq_some_iff.mp hk).1
  have h0 : k = 0 := by simp at hl; omega
  subst h0
  cases hk
  exact he
/-- what the tables say: classes, their fields, array classes -/
def tysL (G : aG) : List (ClassId × FieldType) := [(gA G 0, .int), (gA G 1, .boolean), (gA G 2, .byte), (gA G 3, .long), (gA G 4, .object RX3), (gA G 5, .object RX4), (gA G 6, .object RX1), (gA G 7, .object RX10), (gA G 8, .object RX8)]
def aty (t : Nat) : FieldType := match t with
  | 0 => .int
  | 1 => .boolean
  | 2 => .byte
  | 3 => .long
  | 4 => .object RX3
  | 5 => .object RX4
  | 6 => .object RX1
  | 7 => .object RX10
  | _ => .object RX8
def Kn (G : aG) (U : State) : Prop := va_K (gD G) cls (tysL G) U
def kAb (j : Nat) : Value := .int (match j with
  | 0 => -1
  | 1 => 0
  | 2 => 1
  | 3 => 2
  | 4 => 2
  | 5 => 4
  | 6 => 1
  | _ => 0)
/-- what stood there before and stays: the script, KIND_ABOVE, the text of the names -/
def St (G : aG) (U : State) (H : Heap) : Prop :=
  (va_X (gs G 0) (gL G) (gX G) U H ∧ ¬ aS G (gs G 0)) ∧ va_Z "ThirtyThreeBelow" "KIND_ABOVE" "[I" (.ref (gs G 1)) (aS G) U H ∧ va_T .int (gs G 1) 8 kAb (aS G) U H ∧
  (vk_R "ThirtyThreeBelow" 58 "hdskinft" (gs G 2) U ∧ vk_R "ThirtyThreeBelow$Reader" 88 "hdskinft" (gs G 2) U) ∧ vk_S 1 [8] [[104, 100, 115, 107, 105, 110, 102, 116]] (fun _ => gs G 2) (fun _ => gs G 3) (aS G) U H ∧
  va_Z "java/lang/String" "COMPACT_STRINGS" "Z" (.int 1) (aS G) U H
theorem St.go {G : aG} {s U : State} {H : Heap} (h : St G s s.heap) (hW : s.WarmedH U.vm) (hq : ∀ a : Nat, a < s.heap.size → ¬ aS G a → H[a]? = s.heap[a]?) : St G U H := by
  obtain ⟨⟨x1, x2⟩, z1, t1, ⟨r1, r2⟩, k1, z2⟩ := h
  have hlt : gs G 0 < s.heap.size := by
    obtain ⟨_, g, _⟩ := x1
    exact (Array.getElem?_eq_some_iff.mp g).1
  exact ⟨⟨(x1.kept (hq _ hlt x2)).moved hW.alike, x2⟩, (z1.kept hq).moved hW.alike, (t1.kept hq).moved hW.alike, ⟨r1.warm hW, r2.warm hW⟩, (k1.kept hq).moved hW.alike, (z2.kept hq).moved hW.alike⟩
theorem St.same {G : aG} {s U : State} {H : Heap} (h : St G s H) (hv : U.vm = s.vm) : St G U H := by
  obtain ⟨⟨x1, x2⟩, z1, t1, ⟨r1, r2⟩, k1, z2⟩ := h
  have ha : s.vm.Alike U.vm := by rw [hv]; exact Vm.Alike.refl _
  exact ⟨⟨x1.moved ha, x2⟩, z1.moved ha, t1.moved ha, ⟨r1.same hv, r2.same hv⟩, k1.moved ha, z2.moved ha⟩
/-- links of nest mates -/
def Nst (U : State) : Prop := (∀ q ∈ nstM, va_Nw (.methodLinkNest q.1 q.2.1 q.2.2.1 q.2.2.2) U) ∧ (∀ q ∈ nstF, va_Nw (.fieldLinkNest q.1 q.2.1 q.2.2.1 q.2.2.2.1 q.2.2.2.2.1 q.2.2.2.2.2) U) ∧ (∀ E ∈ aoL, va_AO E U) ∧ va_Nw (.castable "[I" "java/lang/Cloneable") U
theorem Nst.warm {s U : State} (hW : s.WarmedH U.vm) (h : Nst s) : Nst U := ⟨fun q hq => (h.1 q hq).warmM hW, fun q hq => (h.2.1 q hq).warmF hW, fun E hE => (h.2.2.1 E hE).moved hW.alike, h.2.2.2.warmC hW⟩
theorem Nst.same {s U : State} (hv : U.vm = s.vm) (h : Nst s) : Nst U := ⟨fun q hq => (h.1 q hq).same rfl hv.symm, fun q hq => (h.2.1 q hq).same rfl hv.symm, fun E hE => (h.2.2.1 E hE).moved (by rw [hv]; exact Vm.Alike.refl _), h.2.2.2.same rfl hv.symm⟩
/-- words that every method may use -/
def gw : List Cond := lw_tbl.filter goodWord
theorem gw_of (i : Nat) {w : Cond} (h : lw_tbl[i]? = some w) (hg : goodWord w = true) : w ∈ gw := List.mem_filter.mpr ⟨List.mem_of_getElem? h, hg⟩
theorem gw_sub {ws : List Cond} (ps : List Nat) (h : ws = ps.filterMap (fun i => lw_tbl[i]?)) (hg : ws.all goodWord = true) : ∀ w ∈ ws, w ∈ gw := by
  intro w hw
  refine List.mem_filter.mpr ⟨?_, List.all_eq_true.mp hg w hw⟩
  rw [h] at hw
  obtain ⟨i, -, hi⟩ := List.mem_filterMap.mp hw
  exact List.mem_of_getElem? hi
theorem gw_good {w : Cond} (h : w ∈ gw) : (w.onTables && w.keeps) = true ∨ ∃ ty, w = .arrayClass ty := good_of_word (List.mem_filter.mp h).2
def mw (M : aM) : Cond := .code M.1 M.2.1 M.2.2.1 M.2.2.2
def mws (M : aM) : List Cond := mw M :: gw
theorem mws_good {M : aM} (h : mw M ∈ gw) : GoodIn gw (mws M) := by
  intro w hw
  rcases List.mem_cons.mp hw with rfl | hw
  · exact ⟨h, gw_good h⟩
  · exact ⟨hw, gw_good hw⟩
/-! LOCALS, by their places -/
def prs (G : aG) : List (Option Value) → Nat → List (Nat × Value)
  | [], _ => []
  | none :: r, k => prs G r (k + 1)
  | some v :: r, k => (k, cv G v) :: prs G r (k + 1)
theorem prs_mem {G : aG} : ∀ (lv : List (Option Value)) (k j : Nat) (w : Value), (j, w) ∈ prs G lv k ↔ ∃ v, k ≤ j ∧ lv[j - k]? = some (some v) ∧ w = cv G v
  | [], k, j, w => by simp [prs]
  | none :: r, k, j, w => by
    simp only [prs]
    rw [prs_mem r (k + 1) j w]
    constructor
    · rintro ⟨v, h1, h2, h3⟩
      refine ⟨v, by omega, ?_, h3⟩
      rw [show j - k = (j - (k + 1)) + 1 by omega, List.getElem?_cons_succ]
      exact h2
    · rintro ⟨v, h1, h2, h3⟩
      by_cases hk : j = k
      · subst hk
        simp at h2
      · refine ⟨v, by omega, ?_, h3⟩
        rw [show j - k = (j - (k + 1)) + 1 by omega, List.getElem?_cons_succ] at h2
        exact h2
  | some x :: r, k, j, w => by
    simp only [prs, List.mem_cons]
    rw [prs_mem r (k + 1) j w]
    constructor
    · rintro (h | ⟨v, h1, h2, h3⟩)
      · cases h
        exact ⟨x, Nat.le_refl _, by simp, rfl⟩
      · refine ⟨v, by omega, ?_, h3⟩
        rw [show j - k = (j - (k + 1)) + 1 by omega, List.getElem?_cons_succ]
        exact h2
    · rintro ⟨v, h1, h2, h3⟩
      by_cases hk : j = k
      · subst hk
        simp at h2
        subst h2
        exact Or.inl (by rw [h3])
      · refine Or.inr ⟨v, by omega, ?_, h3⟩
        rw [show j - k = (j - (k + 1)) + 1 by omega, List.getElem?_cons_succ] at h2
        exact h2
def Lv (G : aG) (ls : Array Slot) (n : Nat) (lv : List (Option Value)) : Prop := lv_has ls n (prs G lv 0)
theorem Lv.get {G : aG} {ls : Array Slot} {n : Nat} {lv : List (Option Value)} (h : Lv G ls n lv) {i : Nat} {v : Value} (hi : lv[i]? = some (some v)) : ls[i]? = some (.val (cv G v)) :=
  h.2.2 (i, cv G v) ((prs_mem lv 0 i (cv G v)).mpr ⟨v, Nat.zero_le _, by simpa using hi, rfl⟩)
theorem Lv.le {G : aG} {ls : Array Slot} {n : Nat} {lv lv' : List (Option Value)} (h : Lv G ls n lv) (hs : ∀ (i : Nat) (v : Value), lv'[i]? = some (some v) → lv[i]? = some (some v)) : Lv G ls n lv' := by
  refine ⟨h.1, h.2.1, fun q hq => ?_⟩
  obtain ⟨j, w⟩ := q
  obtain ⟨v, h1, h2, h3⟩ := (prs_mem lv' 0 j w).mp hq
  subst h3
  exact h.get (hs j v (by simpa using h2))
def isTwo : Option Value → Bool
  | some (.long _) => true
  | some (.double _) => true
  | _ => false
/-- a value of one slot comes to place i -/
def lst : List (Option Value) → Nat → Value → List (Option Value)
  | [], _, _ => []
  | _ :: r, 0, v => some v :: r
  | x :: r, 1, v => (if isTwo x = true then none else x) :: lst r 0 v
  | x :: r, n + 2, v => x :: lst r (n + 1) v
theorem lst_inv : ∀ (lv : List (Option Value)) (i : Nat) (v : Value) (j : Nat) (w : Value), (lst lv i v)[j]? = some (some w) → (j = i ∧ w = v) ∨ (j ≠ i ∧ lv[j]? = some (some w) ∧ ¬ (j + 1 = i ∧ w.category = 2))
  | [], i, v, j, w, h => by simp [lst] at h
  | x :: r, 0, v, j, w, h => by
    cases j with
    | zero => simp [lst] at h; exact Or.inl ⟨rfl, h.symm⟩
    | succ j => simp [lst] at h; exact Or.inr ⟨by omega, by simpa using h, by omega⟩
  | x :: r, 1, v, j, w, h => by
    cases j with
    | zero =>
      simp only [lst, List.getElem?_cons_zero, Option.some.injEq] at h
      by_cases hx : isTwo x = true
      · rw [if_pos hx] at h; cases h
      · rw [if_neg hx] at h
        subst h
        refine Or.inr ⟨by omega, rfl, fun q => hx ?_⟩
        have q2 := q.2
        cases w <;> simp_all [Value.category, isTwo]
    | succ j =>
      simp only [lst, List.getElem?_cons_succ] at h
      rcases lst_inv r 0 v j w h with ⟨a, b⟩ | ⟨a, b, c⟩
      · exact Or.inl ⟨by omega, b⟩
      · exact Or.inr ⟨by omega, by simpa using b, by omega⟩
  | x :: r, n + 2, v, j, w, h => by
    cases j with
    | zero =>
      simp only [lst, List.getElem?_cons_zero, Option.some.injEq] at h
      subst h
      exact Or.inr ⟨by omega, rfl, by omega⟩
    | succ j =>
      simp only [lst, List.getElem?_cons_succ] at h
      rcases lst_inv r (n + 1) v j w h with ⟨a, b⟩ | ⟨a, b, c⟩
      · exact Or.inl ⟨by omega, b⟩
      · exact Or.inr ⟨by omega, by simpa using b, fun q => c ⟨by omega, q.2⟩⟩
theorem Lv.put {G : aG} {ls : Array Slot} {n i : Nat} {lv : List (Option Value)} {v : Value} (h : lv_has ls n ((i, cv G v) :: (prs G lv 0).filter (fun q => !(q.1 == i) && !(q.1 + 1 == i && q.2.category == 2)))) : Lv G ls n (lst lv i v) := by
  refine ⟨h.1, h.2.1, fun q hq => ?_⟩
  obtain ⟨j, w⟩ := q
  obtain ⟨u, h1, h2, h3⟩ := (prs_mem _ 0 j w).mp hq
  subst h3
  rw [Nat.sub_zero] at h2
  refine h.2.2 _ ?_
  rcases lst_inv lv i v j u h2 with ⟨a, b⟩ | ⟨a, b, c⟩
  · subst a; subst b; exact List.mem_cons_self
  · refine List.mem_cons_of_mem _ (List.mem_filter.mpr ⟨(prs_mem lv 0 j _).mpr ⟨u, Nat.zero_le _, by simpa using b, rfl⟩, ?_⟩)
    simp only [cv_cat, Bool.and_eq_true, Bool.not_eq_true', beq_eq_false_iff_ne, Bool.and_eq_false_iff]
    refine ⟨a, ?_⟩
    by_cases q : j + 1 = i
    · exact Or.inr (fun z => c ⟨q, z⟩)
    · exact Or.inl q
/-- a value of two slots comes to place i -/
def lst2 : List (Option Value) → Nat → Value → List (Option Value)
  | [], _, _ => []
  | [_], 0, v => [some v]
  | _ :: _ :: r, 0, v => some v :: none :: r
  | x :: r, 1, v => (if isTwo x = true then none else x) :: lst2 r 0 v
  | x :: r, n + 2, v => x :: lst2 r (n + 1) v
/-- locals of a method's arguments -/
def lvIn (n : Nat) : List Value → List (Option Value)
  | [] => List.replicate n none
  | .long x :: r => some (.long x) :: none :: lvIn (n - 2) r
  | .double x :: r => some (.double x) :: none :: lvIn (n - 2) r
  | .int x :: r => some (.int x) :: lvIn (n - 1) r
  | .ref x :: r => some (.ref x) :: lvIn (n - 1) r
  | .null :: r => some .null :: lvIn (n - 1) r
  | .float x :: r => some (.float x) :: lvIn (n - 1) r
  | .retAddr x :: r => some (.retAddr x) :: lvIn (n - 1) r
theorem lvIn_mem {G : aG} : ∀ (vs : List Value) (n k j : Nat) (v : Value), (lvIn n vs)[j]? = some (some v) → (k + j, cv G v) ∈ lv_args k (vs.map (cv G))
  | [], n, k, j, v, h => by
    simp only [lvIn, List.getElem?_replicate] at h
    split at h <;> simp at h
  | x :: r, n, k, j, v, h => by
    simp only [List.map_cons, lv_args, cv_cat, List.mem_cons]
    cases x with
    | long y =>
      simp only [lvIn] at h
      match j, h with
      | 0, h => simp at h; subst h; exact Or.inl rfl
      | 1, h => simp at h
      | j + 2, h =>
        simp only [List.getElem?_cons_succ] at h
        have := lvIn_mem (G := G) r (n - 2) (k + 2) j v h
        refine Or.inr ?_
        rw [show k + (j + 2) = k + 2 + j by omega]
        simpa [Value.category] using this
    | double y =>
      simp only [lvIn] at h
      match j, h with
      | 0, h => simp at h; subst h; exact Or.inl rfl
      | 1, h => simp at h
      | j + 2, h =>
        simp only [List.getElem?_cons_succ] at h
        have := lvIn_mem (G := G) r (n - 2) (k + 2) j v h
        refine Or.inr ?_
        rw [show k + (j + 2) = k + 2 + j by omega]
        simpa [Value.category] using this
    | int y =>
      simp only [lvIn] at h
      match j, h with
      | 0, h => simp at h; subst h; exact Or.inl rfl
      | j + 1, h =>
        simp only [List.getElem?_cons_succ] at h
        have := lvIn_mem (G := G) r (n - 1) (k + 1) j v h
        refine Or.inr ?_
        rw [show k + (j + 1) = k + 1 + j by omega]
        simpa [Value.category] using this
    | ref y =>
      simp only [lvIn] at h
      match j, h with
      | 0, h => simp at h; subst h; exact Or.inl rfl
      | j + 1, h =>
        simp only [List.getElem?_cons_succ] at h
        have := lvIn_mem (G := G) r (n - 1) (k + 1) j v h
        refine Or.inr ?_
        rw [show k + (j + 1) = k + 1 + j by omega]
        simpa [Value.category] using this
    | null =>
      simp only [lvIn] at h
      match j, h with
      | 0, h => simp at h; subst h; exact Or.inl rfl
      | j + 1, h =>
        simp only [List.getElem?_cons_succ] at h
        have := lvIn_mem (G := G) r (n - 1) (k + 1) j v h
        refine Or.inr ?_
        rw [show k + (j + 1) = k + 1 + j by omega]
        simpa [Value.category] using this
    | float y =>
      simp only [lvIn] at h
      match j, h with
      | 0, h => simp at h; subst h; exact Or.inl rfl
      | j + 1, h =>
        simp only [List.getElem?_cons_succ] at h
        have := lvIn_mem (G := G) r (n - 1) (k + 1) j v h
        refine Or.inr ?_
        rw [show k + (j + 1) = k + 1 + j by omega]
        simpa [Value.category] using this
    | retAddr y =>
      simp only [lvIn] at h
      match j, h with
      | 0, h => simp at h; subst h; exact Or.inl rfl
      | j + 1, h =>
        simp only [List.getElem?_cons_succ] at h
        have := lvIn_mem (G := G) r (n - 1) (k + 1) j v h
        refine Or.inr ?_
        rw [show k + (j + 1) = k + 1 + j by omega]
        simpa [Value.category] using this
