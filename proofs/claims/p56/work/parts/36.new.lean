/-! FILLS, COPIES, NEW OBJECTS OVER THE PURE STATE -/
theorem Lv.put2 {G : aG} {ls : Array Slot} {n i : Nat} {lv : List (Option Value)} {v : Value} (h : lv_has ls n ((i, cv G v) :: (prs G lv 0).filter (fun q => !(q.1 == i) && (!(q.1 == i + 1) && !(q.1 + 1 == i && q.2.category == 2))))) : Lv G ls n ((lst lv i v).set (i + 1) none) := by
  refine ⟨h.1, h.2.1, fun q hq => ?_⟩
  obtain ⟨j, w⟩ := q
  obtain ⟨u, h1, h2, h3⟩ := (prs_mem _ 0 j w).mp hq
  subst h3
  rw [Nat.sub_zero, List.getElem?_set] at h2
  by_cases hji : i + 1 = j
  · rw [if_pos hji] at h2
    split at h2 <;> simp at h2
  rw [if_neg hji] at h2
  refine h.2.2 _ ?_
  rcases lst_inv lv i v j u h2 with ⟨a, b⟩ | ⟨a, b, c⟩
  · subst a; subst b; exact List.mem_cons_self
  · refine List.mem_cons_of_mem _ (List.mem_filter.mpr ⟨(prs_mem lv 0 j _).mpr ⟨u, Nat.zero_le _, by simpa using b, rfl⟩, ?_⟩)
    simp only [cv_cat, Bool.and_eq_true, Bool.not_eq_true', beq_eq_false_iff_ne, Bool.and_eq_false_iff]
    refine ⟨a, fun z => hji z.symm, ?_⟩
    by_cases q : j + 1 = i
    · exact Or.inr (fun z => c ⟨q, z⟩)
    · exact Or.inl q
section AWl
variable {M : aM} {R : Room} {F : aF} {pc pc' : Nat} {lv lv' : List (Option Value)} {st : List Value} {h : List aE} {nc ns : Nat}
theorem aw_lstore {i : Nat} {x : Int64} (hd : decode M.2.1 pc = .ok (.lstore i, 2)) (hp : pc + 2 = pc') (hi : i + 1 < M.2.2.1) (hl0 : (lst lv i (.long x)).set (i + 1) none = lv') (k : AW M R F pc' lv' st h nc ns) : AW M R F pc lv (.long x :: st) h nc ns := by
  subst hp
  subst hl0
  exact fun p l e s m args below meth c G H locs ls C hR hS hl => lv_lstore C.1 C.2.1 hd hl hi rfl (fun ls2 h2 => k p l e s m args below meth c G H locs ls2 C hR hS (Lv.put2 (v := .long x) h2))
theorem aw_lstore_n {i : Fin 4} {x : Int64} (hd : decode M.2.1 pc = .ok (.lstore_n i, 1)) (hp : pc + 1 = pc') (hi : (i : Nat) + 1 < M.2.2.1) (hl0 : (lst lv (i : Nat) (.long x)).set ((i : Nat) + 1) none = lv') (k : AW M R F pc' lv' st h nc ns) : AW M R F pc lv (.long x :: st) h nc ns := by
  subst hp
  subst hl0
  exact fun p l e s m args below meth c G H locs ls C hR hS hl => lv_lstore_n C.1 C.2.1 hd rfl hl hi rfl (fun ls2 h2 => k p l e s m args below meth c G H locs ls2 C hR hS (Lv.put2 (v := .long x) h2))
end AWl
def pF (s : SS) (q : Nat) (v : Int32) : SS := (s.1, fun a b => if a = q then v else s.2.1 a b, s.2.2)
def pG (s : SS) (q : Nat) (v : Int64) : SS := (s.1, s.2.1, fun a b => if a = q then v else s.2.2.1 a b, s.2.2.2)
def pK (s : SS) (q0 q1 sp dp n : Nat) : SS := (s.1, s.2.1, fun a b => if a = q1 then va_cpy (s.2.2.1 q0) (s.2.2.1 q1) sp dp n b else s.2.2.1 a b, s.2.2.2)
def holeF (c w : Int32) (b : Nat) : Int32 := if b = 0 then c else if b = 1 then w else if b = 2 then c else 0
def pHole (s : SS) (c w : Int32) : SS :=
  (fun a b => if a = zL s then holeF c w b else s.1 a b,
   fun a b => if a = zL s + 1 then 0 else if a = zL s + 2 then 0 else if a = zL s + 3 then (-2000000000) else s.2.1 a b,
   s.2.2.1, s.2.2.2.1,
   fun a => if a = zL s then 3 else if a = zL s + 1 then 20 else if a = zL s + 2 then 20 else if a = zL s + 3 then 20 else zT s a,
   fun a => if a = zL s + 1 then 61 else if a = zL s + 2 then 61 else if a = zL s + 3 then 61 else zN s a,
   zL s + 4)
def mapF (c w y : Int32) (b : Nat) : Int32 := if b = 0 then c else if b = 1 then w else if b = 2 then y else 0
def pMap (s : SS) (c w y : Int32) : SS :=
  (fun a b => if a = zL s then mapF c w y b else s.1 a b,
   fun a b => if a = zL s + 1 then 0 else s.2.1 a b,
   s.2.2.1, s.2.2.2.1,
   fun a => if a = zL s then 1 else if a = zL s + 1 then 20 else zT s a,
   fun a => if a = zL s + 1 then 61 else zN s a,
   zL s + 2)
def textF (x y c e : Int32) (b : Nat) : Int32 := if b = 0 then x else if b = 1 then y else if b = 2 then c else if b = 3 then e else 0
def pText (s : SS) (x y c e : Int32) (N : Nat) : SS :=
  (fun a b => if a = zL s then textF x y c e b else s.1 a b,
   fun a b => if a = zL s + 1 then s.2.1 26 b else s.2.1 a b,
   s.2.2.1, s.2.2.2.1,
   fun a => if a = zL s then 10 else if a = zL s + 1 then 20 else zT s a,
   fun a => if a = zL s + 1 then N else zN s a,
   zL s + 2)
def pUn (s : SS) : SS := (s.1, s.2.1, s.2.2.1, s.2.2.2.1, fun a => if a = zL s then 40 else zT s a, s.2.2.2.2.2.1, zL s + 1)
set_option maxRecDepth 4000 in
theorem T0_lt (q : Nat) (hq : q < 126) : T0 q < 29 := by
  have h : ∀ x ∈ T0L, x < 29 := by decide
  unfold T0
  rw [List.getD_eq_getElem?_getD]
  cases hx : T0L[q]? with
  | none => decide
  | some x => exact h x (List.mem_of_getElem? hx)
section HHn
variable {s s' : SS} {h h' : List aE} {q t n : Nat}
theorem HH.putF (H : HH s h) (hA : Ar s q t n) (ht : t < 3) (v : Int32) (he : h.set q (.inl (t, n, .inl (fun _ => v))) = h') : HH (pF s q v) h' := by
  refine H.one hA.1 _ rfl ?_ (fun x hx => ?_) (H.2.2.same rfl rfl) he
  · unfold cellS cellZ
    rw [show zT (pF s q v) q = 20 + t from hA.2.1, show zN (pF s q v) q = n from hA.2.2, if_neg (by omega), if_pos (by omega), Nat.add_sub_cancel_left]
    show Sum.inl (t, n, Sum.inl (fun b => if q = q then v else s.2.1 q b)) = _
    simp only [↓reduceIte]
  · unfold cellS
    show cellZ _ x _ (fun b => if x = q then v else s.2.1 x b) _ _ _ = _
    simp only [if_neg hx]
    rfl
theorem HH.putG (H : HH s h) (hA : Ar s q 3 n) (v : Int64) (he : h.set q (.inl (3, n, .inr (.inl (fun _ => v)))) = h') : HH (pG s q v) h' := by
  refine H.one hA.1 _ rfl ?_ (fun x hx => ?_) (H.2.2.same rfl rfl) he
  · unfold cellS cellZ
    rw [show zT (pG s q v) q = 20 + 3 from hA.2.1, show zN (pG s q v) q = n from hA.2.2, if_neg (by omega), if_neg (by omega), if_pos rfl]
    show Sum.inl (3, n, Sum.inr (Sum.inl (fun b => if q = q then v else s.2.2.1 q b))) = _
    simp only [↓reduceIte]
  · unfold cellS
    show cellZ _ x _ _ (fun b => if x = q then v else s.2.2.1 x b) _ _ = _
    simp only [if_neg hx]
    rfl
theorem HH.putK {q0 sp dp m : Nat} (H : HH s h) (hA : Ar s q 3 n) (he : h.set q (.inl (3, n, .inr (.inl (va_cpy (s.2.2.1 q0) (s.2.2.1 q) sp dp m)))) = h') : HH (pK s q0 q sp dp m) h' := by
  refine H.one hA.1 _ rfl ?_ (fun x hx => ?_) (H.2.2.same rfl rfl) he
  · unfold cellS cellZ
    rw [show zT (pK s q0 q sp dp m) q = 20 + 3 from hA.2.1, show zN (pK s q0 q sp dp m) q = n from hA.2.2, if_neg (by omega), if_neg (by omega), if_pos rfl]
    show Sum.inl (3, n, Sum.inr (Sum.inl (fun b => if q = q then va_cpy (s.2.2.1 q0) (s.2.2.1 q) sp dp m b else s.2.2.1 q b))) = _
    simp only [↓reduceIte]
  · unfold cellS
    show cellZ _ x _ _ (fun b => if x = q then va_cpy (s.2.2.1 q0) (s.2.2.1 q) sp dp m b else s.2.2.1 x b) _ _ = _
    simp only [if_neg hx]
    rfl
theorem Mo.ofF {v : Int32} (e : s' = pF s q v) : Mo s s' := (Mo.rf s).eq (by rw [e]; rfl)
theorem Mo.ofG {v : Int64} (e : s' = pG s q v) : Mo s s' := (Mo.rf s).eq (by rw [e]; rfl)
theorem Mo.ofK {q0 sp dp m : Nat} (e : s' = pK s q0 q sp dp m) : Mo s s' := (Mo.rf s).eq (by rw [e]; rfl)
theorem Sh.grow (hS : Sh s) (hR : s'.2.2.2.1 = s.2.2.2.1) (m : Mo s s') : Sh s' := by
  have hz : ∀ a b, zR s' a b = zR s a b := fun a b => by unfold zR; rw [hR]
  obtain ⟨h1, h2, h3, h4, h5, h6, h7⟩ := hS
  refine ⟨Nat.le_trans h1 m.1, fun q hq => ?_, fun i p hi e => (h3 i p hi ((hz _ _).symm.trans e)).mo m, fun i hi => (hz _ _).trans (h4 i hi), fun i p hi e => (h5 i p hi ((hz _ _).symm.trans e)).mo m, fun i p hi e => (h6 i p hi ((hz _ _).symm.trans e)).mo m, fun i hi => (hz _ _).trans (h7 i hi)⟩
  have a := h2 q hq
  have b := m.2 q (by omega) (by rw [a.1]; exact T0_lt q hq)
  exact ⟨b.1.trans a.1, b.2.trans a.2⟩
theorem HH.grow {ext : List aE} (H : HH s h) (hR : s'.2.2.2.1 = s.2.2.2.1) (m : Mo s s') (hL : zL s' = zL s + ext.length) (ho : ∀ q, q < zL s → cellS s' q = cellS s q) (hn : ∀ (j : Nat) (x : aE), ext[j]? = some x → x = cellS s' (zL s + j)) : HH s' (h ++ ext) := by
  refine ⟨by rw [List.length_append, H.1, hL], fun q hq => ?_, H.2.2.grow hR m⟩
  by_cases hql : q < zL s
  · rw [List.getElem?_append_left (by rw [H.1]; exact hql), ho q hql]
    exact H.2.1 q hql
  · rw [List.getElem?_append_right (by rw [H.1]; omega), H.1]
    cases hx : ext[q - zL s]? with
    | none =>
      have := List.getElem?_eq_none_iff.mp hx
      omega
    | some x =>
      have e := hn _ x hx
      rw [show zL s + (q - zL s) = q by omega] at e
      rw [e]
theorem Mo.hole (c w : Int32) : Mo s (pHole s c w) := by
  refine ⟨Nat.le_add_right _ _, fun q hq _ => ⟨?_, ?_⟩⟩
  · show (if q = zL s then 3 else if q = zL s + 1 then 20 else if q = zL s + 2 then 20 else if q = zL s + 3 then 20 else zT s q) = _
    rw [if_neg (by omega), if_neg (by omega), if_neg (by omega), if_neg (by omega)]
  · show (if q = zL s + 1 then 61 else if q = zL s + 2 then 61 else if q = zL s + 3 then 61 else zN s q) = _
    rw [if_neg (by omega), if_neg (by omega), if_neg (by omega)]
theorem Mo.map (c w y : Int32) : Mo s (pMap s c w y) := by
  refine ⟨Nat.le_add_right _ _, fun q hq _ => ⟨?_, ?_⟩⟩
  · show (if q = zL s then 1 else if q = zL s + 1 then 20 else zT s q) = _
    rw [if_neg (by omega), if_neg (by omega)]
  · show (if q = zL s + 1 then 61 else zN s q) = _
    rw [if_neg (by omega)]
theorem Mo.text (x y c e : Int32) (N : Nat) : Mo s (pText s x y c e N) := by
  refine ⟨Nat.le_add_right _ _, fun q hq _ => ⟨?_, ?_⟩⟩
  · show (if q = zL s then 10 else if q = zL s + 1 then 20 else zT s q) = _
    rw [if_neg (by omega), if_neg (by omega)]
  · show (if q = zL s + 1 then N else zN s q) = _
    rw [if_neg (by omega)]
theorem Mo.un : Mo s (pUn s) := by
  refine ⟨Nat.le_add_right _ _, fun q hq _ => ⟨?_, rfl⟩⟩
  show (if q = zL s then 40 else zT s q) = _
  rw [if_neg (by omega)]
theorem one_of {α : Type} {x y : α} {j : Nat} (h : [x][j]? = some y) : j = 0 ∧ y = x := by
  match j, h with
  | 0, h => exact ⟨rfl, (Option.some.inj h).symm⟩
theorem HH.hole (H : HH s h) (c w : Int32) : HH (pHole s c w) (h ++ [.inr (3, [.int c, .int w, .int c, .int 0, .int 0, .int 0, .int 0, .int 0, .ref (zL s + 1 + 8), .ref (zL s + 2 + 8), .ref (zL s + 3 + 8)]), .inl (0, 61, .inl (fun _ => 0)), .inl (0, 61, .inl (fun _ => 0)), .inl (0, 61, .inl (fun _ => (-2000000000)))]) := by
  refine H.grow rfl (Mo.hole c w) rfl (fun q hq => ?_) (fun j x hx => ?_)
  · show cellZ (if q = zL s then 3 else if q = zL s + 1 then 20 else if q = zL s + 2 then 20 else if q = zL s + 3 then 20 else zT s q) q (fun b => if q = zL s then holeF c w b else s.1 q b) (fun b => if q = zL s + 1 then 0 else if q = zL s + 2 then 0 else if q = zL s + 3 then (-2000000000) else s.2.1 q b) _ _ (if q = zL s + 1 then 61 else if q = zL s + 2 then 61 else if q = zL s + 3 then 61 else zN s q) = _
    simp only [if_neg (show ¬ q = zL s by omega), if_neg (show ¬ q = zL s + 1 by omega), if_neg (show ¬ q = zL s + 2 by omega), if_neg (show ¬ q = zL s + 3 by omega)]
    rfl
  · have a : ∀ k, cellS (pHole s c w) (zL s + k) = cellZ (if zL s + k = zL s then 3 else if zL s + k = zL s + 1 then 20 else if zL s + k = zL s + 2 then 20 else if zL s + k = zL s + 3 then 20 else zT s (zL s + k)) (zL s + k) (fun b => if zL s + k = zL s then holeF c w b else s.1 (zL s + k) b) (fun b => if zL s + k = zL s + 1 then 0 else if zL s + k = zL s + 2 then 0 else if zL s + k = zL s + 3 then (-2000000000) else s.2.1 (zL s + k) b) (s.2.2.1 (zL s + k)) (s.2.2.2.1 (zL s + k)) (if zL s + k = zL s + 1 then 61 else if zL s + k = zL s + 2 then 61 else if zL s + k = zL s + 3 then 61 else zN s (zL s + k)) := fun _ => rfl
    rw [a]
    match j, hx with
    | 0, hx => simp only [if_pos (show zL s + 0 = zL s by omega)]; exact (Option.some.inj hx).symm
    | 1, hx => simp only [if_neg (show ¬ zL s + 1 = zL s by omega), if_pos rfl]; exact (Option.some.inj hx).symm
    | 2, hx => simp only [if_neg (show ¬ zL s + 2 = zL s by omega), if_neg (show ¬ zL s + 2 = zL s + 1 by omega), if_pos rfl]; exact (Option.some.inj hx).symm
    | 3, hx => simp only [if_neg (show ¬ zL s + 3 = zL s by omega), if_neg (show ¬ zL s + 3 = zL s + 1 by omega), if_neg (show ¬ zL s + 3 = zL s + 2 by omega), if_pos rfl]; exact (Option.some.inj hx).symm
theorem HH.map (H : HH s h) (c w y : Int32) : HH (pMap s c w y) (h ++ [.inr (1, [.int c, .int w, .int y, .ref (zL s + 1 + 8), .int 0]), .inl (0, 61, .inl (fun _ => 0))]) := by
  refine H.grow rfl (Mo.map c w y) rfl (fun q hq => ?_) (fun j x hx => ?_)
  · show cellZ (if q = zL s then 1 else if q = zL s + 1 then 20 else zT s q) q (fun b => if q = zL s then mapF c w y b else s.1 q b) (fun b => if q = zL s + 1 then 0 else s.2.1 q b) _ _ (if q = zL s + 1 then 61 else zN s q) = _
    simp only [if_neg (show ¬ q = zL s by omega), if_neg (show ¬ q = zL s + 1 by omega)]
    rfl
  · have a : ∀ k, cellS (pMap s c w y) (zL s + k) = cellZ (if zL s + k = zL s then 1 else if zL s + k = zL s + 1 then 20 else zT s (zL s + k)) (zL s + k) (fun b => if zL s + k = zL s then mapF c w y b else s.1 (zL s + k) b) (fun b => if zL s + k = zL s + 1 then 0 else s.2.1 (zL s + k) b) (s.2.2.1 (zL s + k)) (s.2.2.2.1 (zL s + k)) (if zL s + k = zL s + 1 then 61 else zN s (zL s + k)) := fun _ => rfl
    rw [a]
    match j, hx with
    | 0, hx => simp only [if_pos (show zL s + 0 = zL s by omega)]; exact (Option.some.inj hx).symm
    | 1, hx => simp only [if_neg (show ¬ zL s + 1 = zL s by omega), if_pos rfl]; exact (Option.some.inj hx).symm
theorem HH.text (H : HH s h) (x y c e : Int32) (N : Nat) : HH (pText s x y c e N) (h ++ [.inr (10, [.int x, .int y, .int c, .int e, .ref (zL s + 1 + 8)]), .inl (0, N, .inl (s.2.1 26))]) := by
  refine H.grow rfl (Mo.text x y c e N) rfl (fun q hq => ?_) (fun j z hx => ?_)
  · show cellZ (if q = zL s then 10 else if q = zL s + 1 then 20 else zT s q) q (fun b => if q = zL s then textF x y c e b else s.1 q b) (fun b => if q = zL s + 1 then s.2.1 26 b else s.2.1 q b) _ _ (if q = zL s + 1 then N else zN s q) = _
    simp only [if_neg (show ¬ q = zL s by omega), if_neg (show ¬ q = zL s + 1 by omega)]
    rfl
  · have a : ∀ k, cellS (pText s x y c e N) (zL s + k) = cellZ (if zL s + k = zL s then 10 else if zL s + k = zL s + 1 then 20 else zT s (zL s + k)) (zL s + k) (fun b => if zL s + k = zL s then textF x y c e b else s.1 (zL s + k) b) (fun b => if zL s + k = zL s + 1 then s.2.1 26 b else s.2.1 (zL s + k) b) (s.2.2.1 (zL s + k)) (s.2.2.2.1 (zL s + k)) (if zL s + k = zL s + 1 then N else zN s (zL s + k)) := fun _ => rfl
    rw [a]
    match j, hx with
    | 0, hx => simp only [if_pos (show zL s + 0 = zL s by omega)]; exact (Option.some.inj hx).symm
    | 1, hx => simp only [if_neg (show ¬ zL s + 1 = zL s by omega), if_pos rfl]; exact (Option.some.inj hx).symm
theorem HH.un (H : HH s h) : HH (pUn s) (h ++ [.inr (10, [.int 0, .int 0, .int 0, .int 0, .null])]) := by
  refine H.grow rfl Mo.un rfl (fun q hq => ?_) (fun j z hx => ?_)
  · show cellZ (if q = zL s then 40 else zT s q) q _ _ _ _ _ = _
    rw [if_neg (by omega)]
    rfl
  · obtain ⟨rfl, rfl⟩ := one_of hx
    show _ = cellZ (if zL s + 0 = zL s then 40 else zT s (zL s + 0)) _ _ _ _ _ _
    rw [if_pos (by omega)]
    rfl
theorem okH.new (H : HH s h) (c w : Int32) : okH (pHole s c w) (zL s) := by
  have h1 := H.2.2.1
  refine ⟨h1, by show zL s + 3 < zL s + 4; omega, if_pos rfl, ⟨?_, ?_⟩, ⟨?_, ?_⟩, ?_, ?_⟩
  · show (if zL s + 1 = zL s then 3 else if zL s + 1 = zL s + 1 then 20 else _) = 20
    rw [if_neg (by omega), if_pos rfl]
  · show (if zL s + 1 = zL s + 1 then 61 else _) = 61
    rw [if_pos rfl]
  · show (if zL s + 2 = zL s then 3 else if zL s + 2 = zL s + 1 then 20 else if zL s + 2 = zL s + 2 then 20 else _) = 20
    rw [if_neg (by omega), if_neg (by omega), if_pos rfl]
  · show (if zL s + 2 = zL s + 1 then 61 else if zL s + 2 = zL s + 2 then 61 else _) = 61
    rw [if_neg (by omega), if_pos rfl]
  · show (if zL s + 3 = zL s then 3 else if zL s + 3 = zL s + 1 then 20 else if zL s + 3 = zL s + 2 then 20 else if zL s + 3 = zL s + 3 then 20 else _) = 20
    rw [if_neg (by omega), if_neg (by omega), if_neg (by omega), if_pos rfl]
  · show (if zL s + 3 = zL s + 1 then 61 else if zL s + 3 = zL s + 2 then 61 else if zL s + 3 = zL s + 3 then 61 else _) = 61
    rw [if_neg (by omega), if_neg (by omega), if_pos rfl]
theorem okC.new (H : HH s h) (c w y : Int32) : okC (pMap s c w y) (zL s) := by
  have h1 := H.2.2.1
  refine ⟨h1, by show zL s + 1 < zL s + 2; omega, if_pos rfl, ?_, ?_⟩
  · show (if zL s + 1 = zL s then 1 else if zL s + 1 = zL s + 1 then 20 else _) = 20
    rw [if_neg (by omega), if_pos rfl]
  · show (if zL s + 1 = zL s + 1 then 61 else _) = 61
    rw [if_pos rfl]
theorem okT.new (H : HH s h) (x y c e : Int32) (N : Nat) : okT (pText s x y c e N) (zL s) := by
  have h1 := H.2.2.1
  refine ⟨h1, by show zL s + 1 < zL s + 2; omega, if_pos rfl, ?_⟩
  show (if zL s + 1 = zL s then 10 else if zL s + 1 = zL s + 1 then 20 else _) = 20
  rw [if_neg (by omega), if_pos rfl]
theorem HH.putR (H : HH s h) (hA : Ar s q t n) (h3 : 3 < t) (ht : t < 9) (i p : Nat) (hS : Sh (pR s q i (some p))) (he : h.set q (.inl (t, n, .inr (.inr (.inr (.inr (va_up (fun j => (s.2.2.2.1 q j).map (· + 8)) i (some (p + 8)))))))) = h') : HH (pR s q i (some p)) h' := by
  refine H.one hA.1 _ rfl ?_ (fun x hx => ?_) hS he
  · unfold cellS cellZ
    rw [show zT (pR s q i (some p)) q = 20 + t from hA.2.1, show zN (pR s q i (some p)) q = n from hA.2.2, if_neg (by omega), if_neg (by omega), if_neg (by omega), if_pos (by omega), Nat.add_sub_cancel_left]
    show Sum.inl (t, n, Sum.inr (Sum.inr (Sum.inr (Sum.inr (fun j => (up2 s.2.2.2.1 q i (some p) q j).map (· + 8)))))) = _
    congr 7
    funext j
    rw [up2_eq]
    unfold va_up
    by_cases hj : j = i
    · simp [hj]
    · simp [hj]
  · unfold cellS
    show cellZ _ x _ _ _ (up2 s.2.2.2.1 q i (some p) x) _ = _
    rw [up2_ne _ _ _ hx]
    rfl
theorem zR_pR (s : SS) (q i a b : Nat) (v : Option Nat) : zR (pR s q i v) a b = if a = q ∧ b = i then v else zR s a b := rfl
theorem Sh.putH (hS : Sh s) {i p : Nat} (o : okH s p) : Sh (pR s 17 i (some p)) := by
  obtain ⟨h1, h2, h3, h4, h5, h6, h7⟩ := hS
  refine ⟨h1, h2, fun j r hj e => ?_, fun j hj => ?_, fun j r hj e => ?_, fun j r hj e => ?_, fun j hj => ?_⟩
  · rw [zR_pR] at e
    by_cases hji : j = i
    · rw [if_pos ⟨rfl, hji⟩] at e; cases e; exact o
    · rw [if_neg (fun z => hji z.2)] at e; exact h3 j r hj e
  · rw [zR_pR, if_neg (by omega)]; exact h4 j hj
  · rw [zR_pR, if_neg (by omega)] at e; exact h5 j r hj e
  · rw [zR_pR, if_neg (by omega)] at e; exact h6 j r hj e
  · rw [zR_pR, if_neg (by omega)]; exact h7 j hj
theorem Sh.putC (hS : Sh s) {i p : Nat} (o : okC s p) : Sh (pR s 23 i (some p)) := by
  obtain ⟨h1, h2, h3, h4, h5, h6, h7⟩ := hS
  refine ⟨h1, h2, fun j r hj e => ?_, fun j hj => ?_, fun j r hj e => ?_, fun j r hj e => ?_, fun j hj => ?_⟩
  · rw [zR_pR, if_neg (by omega)] at e; exact h3 j r hj e
  · rw [zR_pR, if_neg (by omega)]; exact h4 j hj
  · rw [zR_pR] at e
    by_cases hji : j = i
    · rw [if_pos ⟨rfl, hji⟩] at e; cases e; exact o
    · rw [if_neg (fun z => hji z.2)] at e; exact h5 j r hj e
  · rw [zR_pR, if_neg (by omega)] at e; exact h6 j r hj e
  · rw [zR_pR, if_neg (by omega)]; exact h7 j hj
theorem Sh.putT (hS : Sh s) {i p : Nat} (o : okT s p) : Sh (pR s 27 i (some p)) := by
  obtain ⟨h1, h2, h3, h4, h5, h6, h7⟩ := hS
  refine ⟨h1, h2, fun j r hj e => ?_, fun j hj => ?_, fun j r hj e => ?_, fun j r hj e => ?_, fun j hj => ?_⟩
  · rw [zR_pR, if_neg (by omega)] at e; exact h3 j r hj e
  · rw [zR_pR, if_neg (by omega)]; exact h4 j hj
  · rw [zR_pR, if_neg (by omega)] at e; exact h5 j r hj e
  · rw [zR_pR] at e
    by_cases hji : j = i
    · rw [if_pos ⟨rfl, hji⟩] at e; cases e; exact o
    · rw [if_neg (fun z => hji z.2)] at e; exact h6 j r hj e
  · rw [zR_pR, if_neg (by omega)]; exact h7 j hj
end HHn
set_option maxRecDepth 4000 in
/-- Reader.code -/
theorem t_X7_code {s : SS} {h : List aE} (H : HH s h) (h0 : ¬ zS s 24 3 < 0) (h1 : ¬ 161 < zS s 24 3) : AM mX7_code 2 [.ref 32] h 1 161 (PA fun v h' => v = .ref (h.length + 8) ∧ ∃ g : Nat → Int32, (∀ j, j < (zS s 24 3).toNatClampNeg → g j = s.2.1 26 j) ∧ h ++ [.inl (0, (zS s 24 3).toNatClampNeg, .inl g)] = h') := by
  refine am_of (lv := [some (.ref 32)]) rfl (Nat.le_of_ble_eq_true rfl) rfl ?_
  refine aw_aload_n (pc' := 1) dX7_code_0 rfl rfl rfl ?_
  refine aw_gr (q := 24) (e := 5) (v := .ref 34) (pc' := 4) H (H.fo rfl rfl) (by decide) rfl rfl dX7_code_1 rfl fl_RX7_15 ?_
  refine aw_aload_n (pc' := 5) dX7_code_4 rfl rfl rfl ?_
  refine aw_gi (q := 24) (pc' := 8) H (H.fo rfl rfl) (by decide) rfl dX7_code_5 rfl fl_RX7_22 ?_
  refine aw_callSa (M' := mJ7_copyOf_59c91) (nc' := 1) (ns' := 161) (pc' := 11) dX7_code_8 rfl ml_RX7_25 kJ7_copyOf_59c91 (c_copyOf (H.ai (H.fa rfl rfl rfl) (by decide)) h0 h1) rfl rfl (Nat.le_of_ble_eq_true rfl) (rokD (by omega) (Nat.le_of_ble_eq_true rfl) (Nat.le_of_ble_eq_true rfl) (Nat.le_of_ble_eq_true rfl)) rfl rfl (fun v h2 q2 => ?_)
  obtain ⟨rfl, g, hg, e2⟩ := q2
  exact aw_ra dX7_code_11 rfl (Or.inr ⟨_, rfl⟩) rfl (Nat.le_of_ble_eq_true rfl) (Nat.le_of_ble_eq_true rfl) ⟨rfl, g, hg, e2⟩
