/-! what stood there before: the script (.ref 0), KIND_ABOVE (.ref 1), the text "hdskinft" (.ref 2) and its bytes (.ref 3) -/
theorem rok {R : Room} {M : aM} {d nc ns mc ms : Nat} (h : (Nat.ble (d + 1) R.frames && Nat.ble (19 + M.2.2.1 + 41 * d) R.locals && Nat.ble (nc + mc) R.cells && Nat.ble (ns + ms) R.slots) = true) : RoomOk R M d nc ns mc ms := by
  simp only [Bool.and_eq_true, Nat.ble_eq] at h
  exact ⟨h.1.1.1, h.1.1.2, h.1.2, h.2⟩
theorem vpc {i : Int32} {n : Nat} (h : (decide (i < 0) || Nat.ble n i.toNatClampNeg) = false) : vp_in i n := by
  simp only [Bool.or_eq_false_iff, decide_eq_false_iff_not] at h
  rintro (q | q)
  · exact h.1 q
  · have := Nat.ble_eq_true_of_le q
    rw [h.2] at this
    cases this
section AWt
variable {M : aM} {R : Room} {F : aF} {pc pc' : Nat} {lv lv' : List (Option Value)} {st : List Value} {h h' : List aE} {nc ns : Nat}
theorem aw_topi {x v : Int32} (hv : x = v) (k : AW M R F pc lv (.int v :: st) h nc ns) : AW M R F pc lv (.int x :: st) h nc ns := hv ▸ k
theorem aw_topl {x v : Int64} (hv : x = v) (k : AW M R F pc lv (.long v :: st) h nc ns) : AW M R F pc lv (.long x :: st) h nc ns := hv ▸ k
theorem aw_putG (hCA : ClsAll) {idx ci k q : Nat} {ty : FieldType} {fs : List Value} {v : Value} (hd : decode M.2.1 pc = .ok (.putfield idx, 3)) (hp : pc + 3 = pc') (hf : FL M.1.cls idx ci k ty false) (hq : h[q]? = some (.inr (ci, fs))) (hl0 : k < fs.length) (hn : okv ty v = true) (kk : ∀ h', h.set q (.inr (ci, fs.set k v)) = h' → AW M R F pc' lv st h' nc ns) : AW M R F pc lv (v :: .ref (q + 8) :: st) h nc ns := aw_put hCA hd hp hf hq hl0 hn rfl (kk _ rfl)
theorem aw_iastG {q n : Nat} {f : Nat → Int32} {i x : Int32} (hd : decode M.2.1 pc = .ok (.iastore, 1)) (hp : pc + 1 = pc') (hq : h[q]? = some (.inl (0, n, .inl f))) (hin : vp_in i n) (kk : ∀ h', h.set q (.inl (0, n, .inl (upd f i.toNatClampNeg x))) = h' → AW M R F pc' lv st h' nc ns) : AW M R F pc lv (.int x :: .int i :: .ref (q + 8) :: st) h nc ns := aw_iast hd hp hq hin rfl (kk _ rfl)
theorem aw_zastG {q n : Nat} {f : Nat → Int32} {i x : Int32} (hd : decode M.2.1 pc = .ok (.bastore, 1)) (hp : pc + 1 = pc') (hq : h[q]? = some (.inl (1, n, .inl f))) (hin : vp_in i n) (hx : narrow .boolean (.int x) = .int x) (kk : ∀ h', h.set q (.inl (1, n, .inl (upd f i.toNatClampNeg x))) = h' → AW M R F pc' lv st h' nc ns) : AW M R F pc lv (.int x :: .int i :: .ref (q + 8) :: st) h nc ns := aw_zast hd hp hq hin hx rfl (kk _ rfl)
theorem aw_bastG {q n : Nat} {f : Nat → Int32} {i x y : Int32} (hd : decode M.2.1 pc = .ok (.bastore, 1)) (hp : pc + 1 = pc') (hq : h[q]? = some (.inl (2, n, .inl f))) (hin : vp_in i n) (hx : narrow .byte (.int x) = .int y) (kk : ∀ h', h.set q (.inl (2, n, .inl (upd f i.toNatClampNeg y))) = h' → AW M R F pc' lv st h' nc ns) : AW M R F pc lv (.int x :: .int i :: .ref (q + 8) :: st) h nc ns := aw_bast hd hp hq hin hx rfl (kk _ rfl)
theorem aw_lastG {q n : Nat} {f : Nat → Int64} {i : Int32} {x : Int64} (hd : decode M.2.1 pc = .ok (.lastore, 1)) (hp : pc + 1 = pc') (hq : h[q]? = some (.inl (3, n, .inr (.inl f)))) (hin : vp_in i n) (kk : ∀ h', h.set q (.inl (3, n, .inr (.inl (vp_updL f i.toNatClampNeg x)))) = h' → AW M R F pc' lv st h' nc ns) : AW M R F pc lv (.long x :: .int i :: .ref (q + 8) :: st) h nc ns := aw_last hd hp hq hin rfl (kk _ rfl)
/-- the script: an end that is owed for the scripts of L ints xs alone -/
def sF (L : Nat) (xs : Nat → Int32) (F : aF) : aF := fun G b a s t => (gL G = L ∧ gX G = xs) → F G b a s t
theorem sF_or {L : Nat} {xs : Nat → Int32} {p : Program} {l : Launch} {e : Env} {s : State} {m : MethodId} {args : Array Value} {below : List Frame} {meth : Method} {c : Code} {G : aG} {H : Heap} {locs : List Loc} {g : JFrame} (h : (gL G = L ∧ gX G = xs) → W p l e R s m args below meth c H locs nc ns (sF L xs F G below args s) g) : W p l e R s m args below meth c H locs nc ns (sF L xs F G below args s) g := by
  by_cases hG : gL G = L ∧ gX G = xs
  · exact h hG
  · intro T hT X
    exact ⟨_, Steps.refl _, fun q => absurd q hG⟩
theorem aw_slen {L : Nat} {xs : Nat → Int32} (hd : decode M.2.1 pc = .ok (.arraylength, 1)) (hp : pc + 1 = pc') (kk : AW M R (sF L xs F) pc' lv (.int (Int32.ofNat L) :: st) h nc ns) : AW M R (sF L xs F) pc lv (.ref 0 :: st) h nc ns := by
  subst hp
  intro p l e s m args below meth c G H locs ls C hR hS hl
  refine sF_or (fun hG => ?_)
  obtain ⟨⟨x1, x2⟩, -⟩ := C.2.2.2.2.2.2.2.2.2.2.1
  have hlt : gs G 0 < s.heap.size := by
    obtain ⟨_, g, _⟩ := x1
    exact (Array.getElem?_eq_some_iff.mp g).1
  have K := kk p l e s m args below meth c G H locs ls C hR hS hl
  rw [hG.1] at x1
  exact va_slen C.1 C.2.1 x1 hlt x2 hS hd K
theorem aw_sld {L : Nat} {xs : Nat → Int32} {i v : Int32} (hd : decode M.2.1 pc = .ok (.iaload, 1)) (hp : pc + 1 = pc') (hin : vp_in i L) (hv : xs i.toNatClampNeg = v) (kk : AW M R (sF L xs F) pc' lv (.int v :: st) h nc ns) : AW M R (sF L xs F) pc lv (.int i :: .ref 0 :: st) h nc ns := by
  subst hp
  subst hv
  intro p l e s m args below meth c G H locs ls C hR hS hl
  refine sF_or (fun hG => ?_)
  obtain ⟨⟨x1, x2⟩, -⟩ := C.2.2.2.2.2.2.2.2.2.2.1
  have hlt : gs G 0 < s.heap.size := by
    obtain ⟨_, g, _⟩ := x1
    exact (Array.getElem?_eq_some_iff.mp g).1
  have K := kk p l e s m args below meth c G H locs ls C hR hS hl
  rw [hG.1, hG.2] at x1
  exact va_sld C.1 C.2.1 x1 hlt x2 hS hin hd K
/-- the text "hdskinft" -/
theorem aw_ldcS {idx : Nat} (hd : decode M.2.1 pc = .ok (.ldc idx, 2)) (hp : pc + 2 = pc') (hi : (M.1.cls = "ThirtyThreeBelow" ∧ idx = 58) ∨ (M.1.cls = "ThirtyThreeBelow$Reader" ∧ idx = 88)) (kk : AW M R F pc' lv (.ref 2 :: st) h nc ns) : AW M R F pc lv st h nc ns := by
  subst hp
  intro p l e s m args below meth c G H locs ls C hR hS hl
  have K := kk p l e s m args below meth c G H locs ls C hR hS hl
  obtain ⟨-, -, -, ⟨r1, r2⟩, -⟩ := C.2.2.2.2.2.2.2.2.2.2.1
  rcases hi with ⟨h1, h2⟩ | ⟨h1, h2⟩
  · subst h2
    exact va_ldcS C.1 C.2.1 C.2.2.2.2.1 (by rw [h1]; exact r1) hd K
  · subst h2
    exact va_ldcS C.1 C.2.1 C.2.2.2.2.1 (by rw [h1]; exact r2) hd K
/-- its fields: the bytes, the coder -/
theorem aw_sval {idx : Nat} (hd : decode M.2.1 pc = .ok (.getfield idx, 3)) (hp : pc + 3 = pc') (hlk : Cond.fieldLink M.1.cls idx "java/lang/String" "value" "[B" ∈ gw) (kk : AW M R F pc' lv (.ref 3 :: st) h nc ns) : AW M R F pc lv (.ref 2 :: st) h nc ns := by
  subst hp
  intro p l e s m args below meth c G H locs ls C hR hS hl
  have K := kk p l e s m args below meth c G H locs ls C hR hS hl
  obtain ⟨-, -, -, -, k1, -⟩ := C.2.2.2.2.2.2.2.2.2.2.1
  exact vk_getf C.1 C.2.1 (k1.1 0 (by omega)).2.2.1 hS C.2.2.2.2.1 (C.2.2.2.2.2.2.2.1 _ hlk) (fun x hx => hx) hd K
theorem aw_scod {idx : Nat} (hd : decode M.2.1 pc = .ok (.getfield idx, 3)) (hp : pc + 3 = pc') (hlk : Cond.fieldLink M.1.cls idx "java/lang/String" "coder" "B" ∈ gw) (kk : AW M R F pc' lv (.int 0 :: st) h nc ns) : AW M R F pc lv (.ref 2 :: st) h nc ns := by
  subst hp
  intro p l e s m args below meth c G H locs ls C hR hS hl
  have K := kk p l e s m args below meth c G H locs ls C hR hS hl
  obtain ⟨-, -, -, -, k1, -⟩ := C.2.2.2.2.2.2.2.2.2.2.1
  exact vk_getf C.1 C.2.1 (k1.1 0 (by omega)).2.1 hS C.2.2.2.2.1 (C.2.2.2.2.2.2.2.1 _ hlk) (fun x hx => hx) hd K
theorem aw_sbl (hd : decode M.2.1 pc = .ok (.arraylength, 1)) (hp : pc + 1 = pc') (kk : AW M R F pc' lv (.int 8 :: st) h nc ns) : AW M R F pc lv (.ref 3 :: st) h nc ns := by
  subst hp
  intro p l e s m args below meth c G H locs ls C hR hS hl
  have K := kk p l e s m args below meth c G H locs ls C hR hS hl
  obtain ⟨-, -, -, -, k1, -⟩ := C.2.2.2.2.2.2.2.2.2.2.1
  obtain ⟨cell, h1, h2, h3, h4, h5, h6, h7⟩ := ((k1.1 0 (by omega)).2.2.2).kept hS.2.1
  exact W.alen (n := 8) C.1 C.2.1 h1 h2 (h5.trans rfl) rfl rfl hd K
theorem aw_cmp {idx : Nat} (hd : decode M.2.1 pc = .ok (.getstatic idx, 3)) (hp : pc + 3 = pc') (hlk : Cond.fieldLink M.1.cls idx "java/lang/String" "COMPACT_STRINGS" "Z" ∈ gw) (kk : AW M R F pc' lv (.int 1 :: st) h nc ns) : AW M R F pc lv st h nc ns := by
  subst hp
  intro p l e s m args below meth c G H locs ls C hR hS hl
  have K := kk p l e s m args below meth c G H locs ls C hR hS hl
  obtain ⟨-, -, -, -, -, z2⟩ := C.2.2.2.2.2.2.2.2.2.2.1
  exact va_gets C.1 C.2.1 z2 hS C.2.2.2.2.1 (C.2.2.2.2.2.2.2.1 _ hlk) (fun x hx => hx) hd K
end AWt
section AWu
variable {M M' : aM} {R : Room} {F : aF} {pc pc' : Nat} {lv lv' : List (Option Value)} {st rest : List Value} {h h' : List aE} {nc ns mc ms d n idx nc' ns' : Nat}
/-- a method of String, called on the text -/
theorem aw_callStr {Q : Int32 → List aE → Prop} {As : List Value} (hd : decode M.2.1 pc = .ok (.invokevirtual idx, 3)) (hp : pc + 3 = pc') (hl0 : Cond.methodLink M.1.cls idx M'.1 ∈ gw) (hM : MV M' n) (hA : AM M' d (.ref 2 :: As) h mc ms (PI Q)) (hc : M'.1.cls = "java/lang/String") (hn : As.length = n) (hst : st = As.reverse ++ .ref 2 :: rest) (hw : (rest.map Value.category).sum ≤ 8) (hRm : RoomOk R M' d nc ns mc ms) (h1 : nc + mc = nc') (h2 : ns + ms = ns')
    (kk : ∀ (r : Int32) (h' : List aE), Q r h' → AW M R F pc' lv (.int r :: rest) h' nc' ns') : AW M R F pc lv st h nc ns := by
  subst hp
  subst hst
  subst h1
  subst h2
  intro p l e s m args below meth c G H locs ls C hR hS hl
  have hts := C.2.2.2.2.2.2.2.1
  obtain ⟨-, -, -, -, k1, -⟩ := C.2.2.2.2.2.2.2.2.2.2.1
  have hrec : ∃ cell : Cell, H[gs G 2]? = some cell ∧ cell.vm.isStatics = false ∧ s.vm.findClass M'.1.cls = some cell.cls := by
    rw [hc]
    exact vk_recv (i := 0) k1 (by omega) hS
  have e0 : (As.reverse ++ Value.ref 2 :: rest).map (cv G) = (As.map (cv G)).reverse ++ .ref (gs G 2) :: rest.map (cv G) := by
    rw [List.map_append, List.map_reverse, List.map_cons]
    rfl
  have e1 : (Value.ref 2 :: As).map (cv G) = .ref (gs G 2) :: As.map (cv G) := rfl
  rw [e0]
  have hpre := aw_pre (as := .ref 2 :: As) C hR hS
  rw [e1] at hpre
  have hrun := va_runV (As := As.map (cv G)) (rest := rest.map (cv G)) (b := gs G 2) (g := F0 m pc ls ((As.map (cv G)).reverse ++ .ref (gs G 2) :: rest.map (cv G))) (below := below) (meth := meth) (locs := locs) (cells := nc) (slots := ns) (e := e)
    ⟨C.1, C.2.1, C.2.2.2.1, C.2.2.2.2.1, hts⟩ (hA l G) ⟨aw_cB hts hM.1 (hts _ hl0) hRm, hts _ hM.2.1, hts _ hM.2.2⟩ ⟨aPc_blind G _ h, hrec, hpre⟩ rfl (by rw [List.length_map]; exact hn) hl.1 rfl (by have := aw_cat G rest; show 0 + _ ≤ 8; omega) hd ⟨hRm.2.2.1, hRm.2.2.2⟩
  refine w_run hrun hS (fun v h' H1 locs1 hP hR1 hS1 => ?_)
  obtain ⟨r, rfl, hQ⟩ := hP
  exact kk r h' hQ p l e s m args below meth c G H1 locs1 ls C hR1 hS1 hl
end AWu
section AWv
variable {M : aM} {R : Room} {F : aF} {pc pc' : Nat} {lv lv' : List (Option Value)} {st : List Value} {h h' : List aE} {nc ns nc' ns' : Nat}
theorem AW.toN (h1 : nc = nc') (h2 : ns = ns') (k : AW M R F pc lv st h nc' ns') : AW M R F pc lv st h nc ns := by
  subst h1
  subst h2
  exact k
theorem aw_aastG {q n t r ci : Nat} {vs : List Value} {q0 : vw_C} {f : Nat → Option Nat} {i : Int32} (hd : decode M.2.1 pc = .ok (.aastore, 1)) (hp : pc + 1 = pc') (hq : h[q]? = some (.inl (t, n, .inr (.inr (.inr (.inr f)))))) (ht : t < 9) (hE : aty t = .object q0.1) (hr : h[r]? = some (.inr (ci, vs))) (hc : cls[ci]? = some q0) (hin : vp_in i n) (kk : ∀ h', h.set q (.inl (t, n, .inr (.inr (.inr (.inr (va_up f i.toNatClampNeg (some (r + 8)))))))) = h' → AW M R F pc' lv st h' nc ns) : AW M R F pc lv (.ref (r + 8) :: .int i :: .ref (q + 8) :: st) h nc ns := aw_aast hd hp hq ht hE hr hc hin rfl (kk _ rfl)
/-- an array's contents may be named otherwise where they agree -/
theorem aw_exti {q n t : Nat} {f g : Nat → Int32} (hq : h[q]? = some (.inl (t, n, .inl f))) (hfg : ∀ j, j < n → f j = g j) (k : AW M R F pc lv st (h.set q (.inl (t, n, .inl g))) nc ns) : AW M R F pc lv st h nc ns := by
  intro p l e s m args below meth c G H locs ls C hR hS hl
  refine k p l e s m args below meth c G H locs ls C (hR.set hq rfl ?_ (fun _ _ => rfl)) hS hl
  have h0 : H[gB G + q]? = some (vp_cell (gA G t) (n, .inl f)) := hR.at hq
  show H[gB G + q]? = some (vp_cell (gA G t) (n, .inl g))
  rw [h0, vp_cell_i, vp_cell_i]
  congr 1
  unfold arrV
  congr 1
  apply Array.ext (by simp)
  intro i h1 h2
  simp at h1
  simp [hfg i h1]
theorem aw_extl {q n : Nat} {f g : Nat → Int64} (hq : h[q]? = some (.inl (3, n, .inr (.inl f)))) (hfg : ∀ j, j < n → f j = g j) (k : AW M R F pc lv st (h.set q (.inl (3, n, .inr (.inl g)))) nc ns) : AW M R F pc lv st h nc ns := by
  intro p l e s m args below meth c G H locs ls C hR hS hl
  refine k p l e s m args below meth c G H locs ls C (hR.set hq rfl ?_ (fun _ _ => rfl)) hS hl
  have h0 : H[gB G + q]? = some (vp_cell (gA G 3) (n, .inr (.inl f))) := hR.at hq
  show H[gB G + q]? = some (vp_cell (gA G 3) (n, .inr (.inl g)))
  rw [h0, vp_cell_l, vp_cell_l]
  congr 1
  unfold arrV
  congr 1
  apply Array.ext (by simp)
  intro i h1 h2
  simp at h1
  simp [hfg i h1]
end AWv
theorem tne {x k : Int32} (h : ¬ x = k) : ¬ x.toInt = k.toInt := fun q => h (Int32.toInt_inj.mp q)
theorem tabo {A : Prop} (h : A) : A := h
