/-! THE PURE STATE: what the cells hold, by their places -/
abbrev SS : Type := (Nat → Nat → Int32) × (Nat → Nat → Int32) × (Nat → Nat → Int64) × (Nat → Nat → Option Nat) × (Nat → Nat) × (Nat → Nat) × Nat
def zS (s : SS) (q k : Nat) : Int32 := s.1 q k
def zI (s : SS) (q i : Nat) : Int32 := s.2.1 q i
def zJ (s : SS) (q i : Nat) : Int64 := s.2.2.1 q i
def zR (s : SS) (q i : Nat) : Option Nat := s.2.2.2.1 q i
def zT (s : SS) (q : Nat) : Nat := s.2.2.2.2.1 q
def zN (s : SS) (q : Nat) : Nat := s.2.2.2.2.2.1 q
def zL (s : SS) : Nat := s.2.2.2.2.2.2
def up2 {α : Type} (f : Nat → Nat → α) (q k : Nat) (v : α) : Nat → Nat → α := fun a b => if a = q ∧ b = k then v else f a b
def pS (s : SS) (q k : Nat) (v : Int32) : SS := (up2 s.1 q k v, s.2)
def pI (s : SS) (q i : Nat) (v : Int32) : SS := (s.1, up2 s.2.1 q i v, s.2.2)
def pJ (s : SS) (q i : Nat) (v : Int64) : SS := (s.1, s.2.1, up2 s.2.2.1 q i v, s.2.2.2)
def pR (s : SS) (q i : Nat) (v : Option Nat) : SS := (s.1, s.2.1, s.2.2.1, up2 s.2.2.2.1 q i v, s.2.2.2.2)
/-- fields of the classes: 0 an int, 2 j + 1 the cell j behind the object's, 2 c + 2 the cell c -/
def LF (t : Nat) : List Nat := match t with
  | 0 => [3, 5, 14, 0, 0, 0, 0, 0, 0, 0, 7, 0]
  | 1 => [0, 0, 0, 3, 0]
  | 2 => [3, 5, 7, 9, 0, 11, 13, 0, 15, 17, 0, 0, 0]
  | 3 => [0, 0, 0, 0, 0, 0, 0, 0, 3, 5, 7]
  | 4 => [0, 0, 0]
  | 5 => [3, 5, 7, 9, 0]
  | 6 => [3, 5, 7, 0, 9, 11, 13, 0, 15, 0, 17, 19, 21, 23, 0]
  | 7 => [3, 0, 5, 0, 0, 0]
  | 8 => [0, 0, 0, 0, 3]
  | 9 => [0, 0, 3, 5, 7, 0]
  | 10 => [0, 0, 0, 0, 3]
  | 11 => [3, 31, 13, 39, 47, 0, 49, 55, 0, 57, 59, 61, 69, 93, 0, 0, 0, 0, 0]
  | 12 => [0, 0, 3, 5, 0, 7, 9, 11, 13, 15, 17, 19, 21, 23, 25, 27, 29, 31, 33, 35, 37, 0, 0, 0, 0, 0, 39, 41, 43, 0, 0, 45, 47, 49, 51, 53, 55, 0, 0, 57, 59, 61, 63, 65, 67, 69, 71, 0, 0, 0, 0, 0, 73, 75, 0, 0, 0, 77, 79, 81, 83, 85, 0, 87, 89, 91, 93, 0, 95, 97, 99, 101, 0, 103, 0, 105, 0, 107, 109, 0, 111, 113, 0, 0, 115, 117, 119, 0, 121, 123, 125, 127, 129, 131, 133]
  | _ => []
def fv (q : Nat) (s : Nat → Int32) (j e : Nat) : Value := if e = 0 then .int (s j) else if e % 2 = 1 then .ref (q + e / 2 + 8) else .ref (e / 2 + 7)
def fvs (q : Nat) (s : Nat → Int32) : List Nat → Nat → List Value
  | [], _ => []
  | e :: r, j => fv q s j e :: fvs q s r (j + 1)
theorem fvs_len (q : Nat) (s : Nat → Int32) : ∀ (L : List Nat) (j : Nat), (fvs q s L j).length = L.length
  | [], _ => rfl
  | e :: r, j => by simp [fvs, fvs_len q s r (j + 1)]
theorem fvs_get (q : Nat) (s : Nat → Int32) : ∀ (L : List Nat) (j k e : Nat), L[k]? = some e → (fvs q s L j)[k]? = some (fv q s (j + k) e)
  | [], _, k, e, h => by simp at h
  | x :: r, j, 0, e, h => by simp at h; subst h; rfl
  | x :: r, j, k + 1, e, h => by
    simp only [List.getElem?_cons_succ] at h
    have := fvs_get q s r (j + 1) k e h
    simp only [fvs, List.getElem?_cons_succ]
    rw [this, show j + 1 + k = j + (k + 1) by omega]
theorem fvs_set (q : Nat) (s : Nat → Int32) (v : Int32) : ∀ (L : List Nat) (j k : Nat), L[k]? = some 0 → (fvs q s L j).set k (.int v) = fvs q (fun x => if x = j + k then v else s x) L j
  | [], _, k, h => by simp at h
  | x :: r, j, 0, h => by
    simp at h
    subst h
    simp only [fvs, List.set_cons_zero]
    congr 1
    · simp [fv]
    · have : ∀ (L : List Nat) (i : Nat), j < i → fvs q s L i = fvs q (fun x => if x = j + 0 then v else s x) L i := by
        intro L
        induction L with
        | nil => intro i _; rfl
        | cons e L ih =>
          intro i hi
          simp only [fvs]
          rw [ih (i + 1) (by omega)]
          congr 1
          unfold fv
          dsimp only
          rw [if_neg (show ¬ i = j + 0 by omega)]
      exact this r (j + 1) (by omega)
  | x :: r, j, k + 1, h => by
    simp only [List.getElem?_cons_succ] at h
    simp only [fvs, List.set_cons_succ]
    rw [fvs_set q s v r (j + 1) k h]
    have e : j + 1 + k = j + (k + 1) := by omega
    rw [e]
    congr 1
    unfold fv
    dsimp only
    rw [if_neg (show ¬ j = j + (k + 1) by omega)]
/-- an object that is not initialized yet -/
def UF (t : Nat) : List Value := match t with
  | 1 => [.int 0, .int 0, .int 0, .null, .int 0]
  | 3 => [.int 0, .int 0, .int 0, .int 0, .int 0, .int 0, .int 0, .int 0, .null, .null, .null]
  | _ => [.int 0, .int 0, .int 0, .int 0, .null]
def cellZ (t q : Nat) (s a : Nat → Int32) (l : Nat → Int64) (r : Nat → Option Nat) (n : Nat) : aE :=
  if t < 13 then .inr (t, fvs q s (LF t) 0) else if t < 23 then .inl (t - 20, n, .inl a) else if t = 23 then .inl (3, n, .inr (.inl l)) else if t < 29 then .inl (t - 20, n, .inr (.inr (.inr (.inr fun j => (r j).map (· + 8))))) else .inr (t - 30, UF (t - 30))
def cellS (s : SS) (q : Nat) : aE := cellZ (zT s q) q (s.1 q) (s.2.1 q) (s.2.2.1 q) (s.2.2.2.1 q) (zN s q)
def okH (s : SS) (p : Nat) : Prop := 126 ≤ p ∧ p + 3 < zL s ∧ zT s p = 3 ∧ (zT s (p + 1) = 20 ∧ zN s (p + 1) = 61) ∧ (zT s (p + 2) = 20 ∧ zN s (p + 2) = 61) ∧ zT s (p + 3) = 20 ∧ zN s (p + 3) = 61
def okC (s : SS) (p : Nat) : Prop := 126 ≤ p ∧ p + 1 < zL s ∧ zT s p = 1 ∧ zT s (p + 1) = 20 ∧ zN s (p + 1) = 61
def okT (s : SS) (p : Nat) : Prop := 126 ≤ p ∧ p + 1 < zL s ∧ zT s p = 10 ∧ zT s (p + 1) = 20
def okM (p : Nat) : Prop := 20 ≤ p ∧ p < 23
def okV (p : Nat) : Prop := p < 59 ∧ 47 ≤ p ∧ p % 2 = 1
def T0L : List Nat := [11, 5, 20, 20, 20, 20, 2, 20, 20, 20, 20, 20, 20, 20, 20, 0, 20, 24, 20, 25, 4, 4, 4, 26, 7, 20, 20, 27, 20, 20, 9, 20, 20, 20, 6, 20, 20, 20, 20, 20, 20, 20, 20, 20, 20, 20, 28, 8, 23, 8, 23, 8, 23, 8, 23, 8, 23, 8, 23, 12, 20, 21, 20, 20, 20, 20, 20, 20, 20, 20, 20, 20, 21, 20, 20, 20, 20, 21, 20, 20, 20, 20, 20, 20, 20, 20, 22, 20, 20, 20, 20, 20, 20, 20, 20, 20, 20, 20, 20, 21, 20, 20, 20, 20, 20, 20, 20, 20, 20, 20, 20, 20, 20, 20, 20, 20, 20, 20, 20, 20, 20, 20, 23, 21, 23, 21]
def N0L : List Nat := [0, 0, 1920, 1920, 60, 60, 0, 120, 120, 120, 120, 120, 9, 120, 120, 0, 120, 120, 24, 3, 0, 0, 0, 8, 0, 160, 161, 16, 8, 64, 0, 10, 40, 40, 0, 10, 10, 10, 1024, 1024, 10, 6, 24, 6, 2, 2, 6, 0, 60, 0, 60, 0, 60, 0, 60, 0, 60, 0, 60, 0, 1952, 1952, 120, 120, 120, 120, 120, 120, 120, 120, 7320, 7320, 7320, 7320, 120, 120, 120, 120, 3, 3, 3, 8, 8, 8, 8, 320, 160, 16, 16, 16, 17, 1530, 1530, 2890, 2890, 8, 170, 60, 60, 120, 120, 120, 40, 40, 120, 10, 10, 10, 10, 1024, 10, 9, 6, 24, 2, 2, 120, 120, 120, 24, 6, 6, 360, 360, 60, 60]
def T0 (q : Nat) : Nat := T0L.getD q 0
def N0 (q : Nat) : Nat := N0L.getD q 0
def Sh (s : SS) : Prop := 126 ≤ zL s ∧ (∀ q, q < 126 → zT s q = T0 q ∧ zN s q = N0 q) ∧ (∀ i p, i < 120 → zR s 17 i = some p → okH s p) ∧ (∀ i, i < 3 → zR s 19 i = some (20 + i)) ∧ (∀ i p, i < 8 → zR s 23 i = some p → okC s p) ∧ (∀ i p, i < 16 → zR s 27 i = some p → okT s p) ∧ (∀ i, i < 6 → zR s 46 i = some (47 + 2 * i))
def HH (s : SS) (h : List aE) : Prop := h.length = zL s ∧ (∀ q, q < zL s → h[q]? = some (cellS s q)) ∧ Sh s
/-- the layout grows, and what is laid out stays -/
def Mo (s s' : SS) : Prop := zL s ≤ zL s' ∧ ∀ q, q < zL s → zT s q < 29 → zT s' q = zT s q ∧ zN s' q = zN s q
theorem Mo.rf (s : SS) : Mo s s := ⟨Nat.le_refl _, fun _ _ _ => ⟨rfl, rfl⟩⟩
theorem Mo.tr {a b c : SS} (h1 : Mo a b) (h2 : Mo b c) : Mo a c := ⟨Nat.le_trans h1.1 h2.1, fun q hq ht => by
  have e1 := h1.2 q hq ht
  have e2 := h2.2 q (Nat.lt_of_lt_of_le hq h1.1) (by rw [e1.1]; exact ht)
  exact ⟨e2.1.trans e1.1, e2.2.trans e1.2⟩⟩
theorem okH.mo {s s' : SS} {p : Nat} (h : okH s p) (m : Mo s s') : okH s' p := by
  obtain ⟨h1, h2, h3, ⟨h4, h5⟩, ⟨h6, h7⟩, h8, h9⟩ := h
  have a := m.2 p (by omega) (by omega)
  have b := m.2 (p + 1) (by omega) (by omega)
  have c := m.2 (p + 2) (by omega) (by omega)
  have d := m.2 (p + 3) (by omega) (by omega)
  have := m.1
  exact ⟨h1, by omega, by omega, ⟨by omega, by omega⟩, ⟨by omega, by omega⟩, by omega, by omega⟩
theorem okC.mo {s s' : SS} {p : Nat} (h : okC s p) (m : Mo s s') : okC s' p := by
  obtain ⟨h1, h2, h3, h4, h5⟩ := h
  have a := m.2 p (by omega) (by omega)
  have b := m.2 (p + 1) (by omega) (by omega)
  have := m.1
  exact ⟨h1, by omega, by omega, by omega, by omega⟩
theorem okT.mo {s s' : SS} {p : Nat} (h : okT s p) (m : Mo s s') : okT s' p := by
  obtain ⟨h1, h2, h3, h4⟩ := h
  have a := m.2 p (by omega) (by omega)
  have b := m.2 (p + 1) (by omega) (by omega)
  have := m.1
  exact ⟨h1, by omega, by omega, by omega⟩
/-- an object of class ci at q; an array of sort t and length n at q -/
def Ob (s : SS) (q ci : Nat) : Prop := q < zL s ∧ zT s q = ci
def Ar (s : SS) (q t n : Nat) : Prop := q < zL s ∧ zT s q = 20 + t ∧ zN s q = n
section HHs
variable {s s' : SS} {h h' : List aE} {q ci t n p k : Nat}
theorem HH.fo (H : HH s h) (hq : Nat.blt q 126 = true) (ht : T0 q = ci) : Ob s q ci := by
  have hq' : q < 126 := by simpa using hq
  exact ⟨Nat.lt_of_lt_of_le hq' H.2.2.1, ((H.2.2.2.1 q hq').1).trans ht⟩
theorem HH.fa (H : HH s h) (hq : Nat.blt q 126 = true) (ht : T0 q = 20 + t) (hn : N0 q = n) : Ar s q t n := by
  have hq' : q < 126 := by simpa using hq
  exact ⟨Nat.lt_of_lt_of_le hq' H.2.2.1, ((H.2.2.2.1 q hq').1).trans ht, ((H.2.2.2.1 q hq').2).trans hn⟩
theorem HH.ob (H : HH s h) (hO : Ob s q ci) (hc : ci < 13) : h[q]? = some (.inr (ci, fvs q (s.1 q) (LF ci) 0)) := by
  rw [H.2.1 q hO.1]
  unfold cellS cellZ
  rw [hO.2, if_pos hc]
theorem HH.ai (H : HH s h) (hA : Ar s q t n) (ht : t < 3) : h[q]? = some (.inl (t, n, .inl (s.2.1 q))) := by
  rw [H.2.1 q hA.1]
  unfold cellS cellZ
  rw [hA.2.1, hA.2.2, if_neg (by omega), if_pos (by omega), Nat.add_sub_cancel_left]
theorem HH.aj (H : HH s h) (hA : Ar s q 3 n) : h[q]? = some (.inl (3, n, .inr (.inl (s.2.2.1 q)))) := by
  rw [H.2.1 q hA.1]
  unfold cellS cellZ
  rw [hA.2.1, hA.2.2, if_neg (by omega), if_neg (by omega), if_pos rfl]
theorem HH.arr (H : HH s h) (hA : Ar s q t n) (h3 : 3 < t) (ht : t < 9) : h[q]? = some (.inl (t, n, .inr (.inr (.inr (.inr fun j => (s.2.2.2.1 q j).map (· + 8)))))) := by
  rw [H.2.1 q hA.1]
  unfold cellS cellZ
  rw [hA.2.1, hA.2.2, if_neg (by omega), if_neg (by omega), if_neg (by omega), if_pos (by omega), Nat.add_sub_cancel_left]
theorem okH.ob (o : okH s p) : Ob s p 3 := ⟨by have := o.2.1; omega, o.2.2.1⟩
theorem okH.a1 (o : okH s p) : Ar s (p + 1) 0 61 := ⟨by have := o.2.1; omega, o.2.2.2.1.1, o.2.2.2.1.2⟩
theorem okH.a2 (o : okH s p) : Ar s (p + 2) 0 61 := ⟨by have := o.2.1; omega, o.2.2.2.2.1.1, o.2.2.2.2.1.2⟩
theorem okH.a3 (o : okH s p) : Ar s (p + 3) 0 61 := ⟨o.2.1, o.2.2.2.2.2.1, o.2.2.2.2.2.2⟩
theorem okC.ob (o : okC s p) : Ob s p 1 := ⟨by have := o.2.1; omega, o.2.2.1⟩
theorem okC.a1 (o : okC s p) : Ar s (p + 1) 0 61 := ⟨o.2.1, o.2.2.2.1, o.2.2.2.2⟩
theorem okT.ob (o : okT s p) : Ob s p 10 := ⟨by have := o.2.1; omega, o.2.2.1⟩
theorem okT.a1 (o : okT s p) : Ar s (p + 1) 0 (zN s (p + 1)) := ⟨o.2.1, o.2.2.2, rfl⟩
theorem okM.ob (o : okM p) (H : HH s h) : Ob s p 4 := by
  have hq : p < 126 := by have := o.2; omega
  refine ⟨Nat.lt_of_lt_of_le hq H.2.2.1, (H.2.2.2.1 p hq).1.trans ?_⟩
  obtain ⟨h1, h2⟩ := o
  have : p = 20 ∨ p = 21 ∨ p = 22 := by omega
  rcases this with rfl | rfl | rfl <;> rfl
theorem okV.ob (o : okV p) (H : HH s h) : Ob s p 8 := by
  have hq : p < 126 := by have := o.1; omega
  refine ⟨Nat.lt_of_lt_of_le hq H.2.2.1, (H.2.2.2.1 p hq).1.trans ?_⟩
  obtain ⟨h1, h2, h3⟩ := o
  have : p = 47 ∨ p = 49 ∨ p = 51 ∨ p = 53 ∨ p = 55 ∨ p = 57 := by omega
  rcases this with rfl | rfl | rfl | rfl | rfl | rfl <;> rfl
theorem okV.a1 (o : okV p) (H : HH s h) : Ar s (p + 1) 3 60 := by
  have hq : p + 1 < 126 := by have := o.1; omega
  refine ⟨Nat.lt_of_lt_of_le hq H.2.2.1, (H.2.2.2.1 (p + 1) hq).1.trans ?_, (H.2.2.2.1 (p + 1) hq).2.trans ?_⟩ <;>
  · obtain ⟨h1, h2, h3⟩ := o
    have : p = 47 ∨ p = 49 ∨ p = 51 ∨ p = 53 ∨ p = 55 ∨ p = 57 := by omega
    rcases this with rfl | rfl | rfl | rfl | rfl | rfl <;> rfl
/-- one cell changes, and the layout stays -/
theorem HH.one (H : HH s h) (hq : q < zL s) (e : aE) (hz : s'.2.2.2.2 = s.2.2.2.2) (hc : cellS s' q = e) (ho : ∀ x, x ≠ q → cellS s' x = cellS s x) (hS : Sh s') (he : h.set q e = h') : HH s' h' := by
  have hL : zL s' = zL s := by unfold zL; rw [hz]
  refine ⟨by rw [← he, List.length_set, hL]; exact H.1, fun x hx => ?_, hS⟩
  rw [hL] at hx
  rw [← he, List.getElem?_set]
  by_cases hxq : q = x
  · subst hxq
    rw [if_pos rfl, if_pos (by rw [H.1]; exact hq), hc]
  · rw [if_neg hxq, ho x (fun z => hxq z.symm)]
    exact H.2.1 x hx
theorem Sh.same (hS : Sh s) (h1 : s'.2.2.2.1 = s.2.2.2.1) (h2 : s'.2.2.2.2 = s.2.2.2.2) : Sh s' := by
  obtain ⟨a, b, c, d, r⟩ := s
  obtain ⟨a', b', c', d', r'⟩ := s'
  dsimp only at h1 h2
  subst h1
  subst h2
  exact hS
theorem up2_ne {α : Type} (f : Nat → Nat → α) {q x : Nat} (k : Nat) (v : α) (hx : x ≠ q) : up2 f q k v x = f x := by
  funext b
  unfold up2
  rw [if_neg (fun z => hx z.1)]
theorem up2_eq {α : Type} (f : Nat → Nat → α) (q k : Nat) (v : α) : up2 f q k v q = fun b => if b = k then v else f q b := by
  funext b
  simp [up2]
theorem HH.putS (H : HH s h) (hO : Ob s q ci) (hc : ci < 13) (hL : (LF ci)[k]? = some 0) (v : Int32) (he : h.set q (.inr (ci, (fvs q (s.1 q) (LF ci) 0).set k (.int v))) = h') : HH (pS s q k v) h' := by
  refine H.one hO.1 _ rfl ?_ (fun x hx => ?_) (H.2.2.same rfl rfl) he
  · unfold cellS cellZ
    rw [show zT (pS s q k v) q = ci from hO.2, if_pos hc, fvs_set q _ v _ 0 k hL]
    show Sum.inr (ci, fvs q (up2 s.1 q k v q) (LF ci) 0) = _
    rw [up2_eq, Nat.zero_add]
  · unfold cellS
    show cellZ _ x (up2 s.1 q k v x) _ _ _ _ = _
    rw [up2_ne _ _ _ hx]
    rfl
theorem HH.putI (H : HH s h) (hA : Ar s q t n) (ht : t < 3) (i : Nat) (v : Int32) (he : h.set q (.inl (t, n, .inl (upd (s.2.1 q) i v))) = h') : HH (pI s q i v) h' := by
  refine H.one hA.1 _ rfl ?_ (fun x hx => ?_) (H.2.2.same rfl rfl) he
  · unfold cellS cellZ
    rw [show zT (pI s q i v) q = 20 + t from hA.2.1, show zN (pI s q i v) q = n from hA.2.2, if_neg (by omega), if_pos (by omega), Nat.add_sub_cancel_left]
    show Sum.inl (t, n, Sum.inl (up2 s.2.1 q i v q)) = _
    rw [up2_eq]
    rfl
  · unfold cellS
    show cellZ _ x _ (up2 s.2.1 q i v x) _ _ _ = _
    rw [up2_ne _ _ _ hx]
    rfl
theorem HH.putJ (H : HH s h) (hA : Ar s q 3 n) (i : Nat) (v : Int64) (he : h.set q (.inl (3, n, .inr (.inl (vp_updL (s.2.2.1 q) i v)))) = h') : HH (pJ s q i v) h' := by
  refine H.one hA.1 _ rfl ?_ (fun x hx => ?_) (H.2.2.same rfl rfl) he
  · unfold cellS cellZ
    rw [show zT (pJ s q i v) q = 20 + 3 from hA.2.1, show zN (pJ s q i v) q = n from hA.2.2, if_neg (by omega), if_neg (by omega), if_pos rfl]
    show Sum.inl (3, n, Sum.inr (Sum.inl (up2 s.2.2.1 q i v q))) = _
    rw [up2_eq]
    rfl
  · unfold cellS
    show cellZ _ x _ _ (up2 s.2.2.1 q i v x) _ _ = _
    rw [up2_ne _ _ _ hx]
    rfl
end HHs
/-! THE FUNCTIONS' WORDS -/
section FWs
variable {α β ρ : Type}
def st (s : SS) (k : SS → Option ρ) : Option ρ := k s
def vl (v : Int32) (k : Int32 → Option ρ) : Option ρ := k v
def wl (v : Int64) (k : Int64 → Option ρ) : Option ρ := k v
def gd (b : Prop) [Decidable b] (k : Option ρ) : Option ρ := if b then k else none
def b1 (a : Option α) (k : α → Option ρ) : Option ρ := match a with
  | none => none
  | some x => k x
def bd (a : Option (α × SS)) (k : α → SS → Option ρ) : Option ρ := match a with
  | none => none
  | some (x, s) => k x s
def on (o : Option Nat) (A : Option ρ) (B : Nat → Option ρ) : Option ρ := match o with
  | none => A
  | some p => B p
def jn (K : α) (B : α → Option ρ) : Option ρ := B K
abbrev inB (i : Int32) (n : Nat) : Prop := 0 ≤ i.toInt ∧ i.toInt < (n : Int)
theorem st_e {s : SS} {k : SS → Option ρ} {z : ρ} (h : st s k = some z) : ∃ s', s' = s ∧ k s' = some z := ⟨s, rfl, h⟩
theorem vl_e {v : Int32} {k : Int32 → Option ρ} {z : ρ} (h : vl v k = some z) : ∃ x, v = x ∧ k x = some z := ⟨v, rfl, h⟩
theorem wl_e {v : Int64} {k : Int64 → Option ρ} {z : ρ} (h : wl v k = some z) : ∃ x, v = x ∧ k x = some z := ⟨v, rfl, h⟩
theorem b1_e {a : Option α} {k : α → Option ρ} {z : ρ} (h : b1 a k = some z) : ∃ x, a = some x ∧ k x = some z := by
  cases a with
  | none => cases h
  | some x => exact ⟨x, rfl, h⟩
theorem bd_e {a : Option (α × SS)} {k : α → SS → Option ρ} {z : ρ} (h : bd a k = some z) : ∃ x s, a = some (x, s) ∧ k x s = some z := by
  cases a with
  | none => cases h
  | some x => exact ⟨x.1, x.2, rfl, h⟩
theorem on_e {o : Option Nat} {A : Option ρ} {B : Nat → Option ρ} {z : ρ} (h : on o A B = some z) : (o = none ∧ A = some z) ∨ ∃ p, o = some p ∧ B p = some z := by
  cases o with
  | none => exact Or.inl ⟨rfl, h⟩
  | some p => exact Or.inr ⟨p, rfl, h⟩
theorem jn_e {K : α} {B : α → Option ρ} {z : ρ} (h : jn K B = some z) : ∃ k, k = K ∧ B k = some z := ⟨K, rfl, h⟩
theorem ifp {c : Prop} [Decidable c] {A B : Option ρ} {z : Option ρ} (hc : c) (h : (if c then A else B) = z) : A = z := by rw [if_pos hc] at h; exact h
theorem ifn {c : Prop} [Decidable c] {A B : Option ρ} {z : Option ρ} (hc : ¬ c) (h : (if c then A else B) = z) : B = z := by rw [if_neg hc] at h; exact h
end FWs
theorem gd_e {ρ : Type} {b : Prop} {i : Decidable b} {k : Option ρ} {z : ρ} (h : gd b k = some z) : b ∧ k = some z := by
  unfold gd at h
  by_cases hb : b
  · rw [if_pos hb] at h; exact ⟨hb, h⟩
  · rw [if_neg hb] at h; cases h
theorem so2 {α β : Type} {a c : α} {b d : β} (h : some (a, b) = some (c, d)) : a = c ∧ b = d := by
  cases h
  exact ⟨rfl, rfl⟩
theorem inB_vp {i : Int32} {n : Nat} (h : inB i n) : vp_in i n := by
  rintro (q | q)
  · have := Int32.lt_iff_toInt_lt.mp q
    have e0 : (0 : Int32).toInt = 0 := by decide
    omega
  · have e : i.toNatClampNeg = i.toInt.toNat := rfl
    omega
