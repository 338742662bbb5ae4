/-! what reading changes; codes; how a piece ends -/
def PkX (s r : SS) : Prop := (∀ q k, ¬ (q = 24 ∧ (k = 3 ∨ k = 4 ∨ k = 5)) → zS r q k = zS s q k) ∧ (∀ q i, q ≠ 26 → zI r q i = zI s q i) ∧ r.2.2 = s.2.2
def PkM (s r : SS) : Prop := (∀ q k, ¬ (q = 59 ∧ (k = 47 ∨ k = 48 ∨ k = 49 ∨ k = 51)) → zS r q k = zS s q k) ∧ (∀ q i, q ≠ 93 → q ≠ 94 → zI r q i = zI s q i) ∧ r.2.2 = s.2.2
theorem PkX.rf {s : SS} : PkX s s := ⟨fun _ _ _ => rfl, fun _ _ _ => rfl, rfl⟩
theorem PkM.rf {s : SS} : PkM s s := ⟨fun _ _ _ => rfl, fun _ _ _ _ => rfl, rfl⟩
theorem PkX.tr {a b c : SS} (h : PkX a b) (g : PkX b c) : PkX a c := ⟨fun q k z => (g.1 q k z).trans (h.1 q k z), fun q i z => (g.2.1 q i z).trans (h.2.1 q i z), g.2.2.trans h.2.2⟩
theorem PkM.tr {a b c : SS} (h : PkM a b) (g : PkM b c) : PkM a c := ⟨fun q k z => (g.1 q k z).trans (h.1 q k z), fun q i z w => (g.2.1 q i z w).trans (h.2.1 q i z w), g.2.2.trans h.2.2⟩
theorem PkX.av {s : SS} : PkX s (avX s) := ⟨fun q k z => by unfold avX; rw [zS_pS, if_neg (by omega)], fun _ _ _ => rfl, rfl⟩
theorem PkM.av {s : SS} : PkM s (avM s) := ⟨fun q k z => by unfold avM; rw [zS_pS, if_neg (by omega)], fun _ _ _ _ => rfl, rfl⟩
theorem PkX.em {s : SS} {c : Int32} : PkX s (emX s c) := ⟨fun q k z => by unfold emX; rw [zS_pS, if_neg (by omega), zS_pI], fun q i z => by unfold emX; rw [zI_pS, zI_pI, if_neg (by omega)], rfl⟩
theorem PkM.ly {s : SS} {a w : Int32} : PkM s (lyM s a w) := ⟨fun q k z => by unfold lyM; rw [zS_pS, if_neg (by omega), zS_pI, zS_pI], fun q i z z2 => by unfold lyM; rw [zI_pS, zI_pI, if_neg (by omega), zI_pI, if_neg (by omega)], rfl⟩
theorem PkX.n {s r : SS} (h : PkX s r) : zS r 24 1 = zS s 24 1 := h.1 24 1 (by omega)
theorem PkM.r {s r : SS} (h : PkM s r) : zS r 59 50 = zS s 59 50 := h.1 59 50 (by omega)
theorem TP.c {s t s' t' : SS} (T : TP s t) (h : PkX s s') (g : PkM t t') : TP s' t' := by
  obtain ⟨e1, e2, e3⟩ := T
  refine ⟨by rw [h.n, g.1 59 37 (by omega)]; exact e1, by unfold xn; rw [h.n]; exact e2, fun i hi => ?_⟩
  rw [h.2.1 25 i (by omega), g.2.1 86 i (by omega) (by omega)]
  exact e3 i hi
/-- the reference's step for a code -/
def tkA (c : Int32) : Int32 := if -1 < c then 1 else if -11 < c then 2 else if c = -21 then 3 else if c = -22 then 4 else if c = -11 then 124 else if c = -12 then 38 else if c = -13 then 60 else if c = -14 then 61 else if c = -15 then 62 else if c = -16 then 43 else if c = -17 then 45 else if c = -18 then 42 else if c = -19 then 47 else 37
def tkW (c : Int32) : Int32 := if -1 < c then c else if -11 < c then -1 - c else 0
def Em (s r : SS) (l : List Int32) : Prop := xz r = xz s + l.length ∧ (∀ j : Nat, (j : Int) < xz s → zI r 26 j = zI s 26 j) ∧ ∀ (j : Nat) (c : Int32), l[j]? = some c → zI r 26 ((xz s).toNat + j) = c
def Ly (s r : SS) (l : List Int32) : Prop := ml r = ml s + l.length ∧ (∀ j : Nat, (j : Int) < 170 * mr s + ml s → zI r 93 j = zI s 93 j ∧ zI r 94 j = zI s 94 j) ∧ ∀ (j : Nat) (c : Int32), l[j]? = some c → zI r 93 ((170 * mr s + ml s).toNat + j) = tkA c ∧ zI r 94 ((170 * mr s + ml s).toNat + j) = tkW c
theorem Em.nil {s r : SS} (h : zS r 24 3 = zS s 24 3) (hI : ∀ i, zI r 26 i = zI s 26 i) : Em s r [] := ⟨by unfold xz; rw [h]; simp, fun j _ => hI j, fun j c z => by simp at z⟩
theorem Ly.nil {s r : SS} (h : zS r 59 51 = zS s 59 51) (h3 : ∀ i, zI r 93 i = zI s 93 i) (h4 : ∀ i, zI r 94 i = zI s 94 i) : Ly s r [] := ⟨by unfold ml; rw [h]; simp, fun j _ => ⟨h3 j, h4 j⟩, fun j c z => by simp at z⟩
theorem Em.tr {a b c : SS} {l m : List Int32} (h0 : 0 ≤ xz a) (h : Em a b l) (g : Em b c m) : Em a c (l ++ m) := by
  obtain ⟨h1, h2, h3⟩ := h
  obtain ⟨g1, g2, g3⟩ := g
  refine ⟨by rw [g1, h1, List.length_append]; omega, fun j hj => (g2 j (by omega)).trans (h2 j hj), fun j v z => ?_⟩
  rw [List.getElem?_append] at z
  by_cases w : j < l.length
  · rw [if_pos w] at z
    rw [g2 _ (by omega)]
    exact h3 j v z
  · rw [if_neg w] at z
    have := g3 _ v z
    rw [show (xz b).toNat + (j - l.length) = (xz a).toNat + j by omega] at this
    exact this
theorem Ly.tr {a b c : SS} {l m : List Int32} (h0 : 0 ≤ ml a) (hr : 0 ≤ mr a) (er : mr b = mr a) (h : Ly a b l) (g : Ly b c m) : Ly a c (l ++ m) := by
  obtain ⟨h1, h2, h3⟩ := h
  obtain ⟨g1, g2, g3⟩ := g
  rw [er] at g2 g3
  refine ⟨by rw [g1, h1, List.length_append]; omega, fun j hj => ⟨(g2 j (by omega)).1.trans (h2 j hj).1, (g2 j (by omega)).2.trans (h2 j hj).2⟩, fun j v z => ?_⟩
  rw [List.getElem?_append] at z
  by_cases w : j < l.length
  · rw [if_pos w] at z
    rw [(g2 _ (by omega)).1, (g2 _ (by omega)).2]
    exact h3 j v z
  · rw [if_neg w] at z
    have := g3 _ v z
    rw [show (170 * mr a + ml b).toNat + (j - l.length) = (170 * mr a + ml a).toNat + j by omega] at this
    exact this
theorem Em.one {s : SS} {c : Int32} (h0 : 0 ≤ xz s ∧ xz s < 161) : Em s (emX s c) [c] := by
  unfold xz at h0
  have e : (zS s 24 3 + 1).toInt = (zS s 24 3).toInt + 1 := by rw [i32_add (by rw [jl1]; omega) (by rw [jl1]; omega), jl1]
  refine ⟨?_, fun j hj => ?_, fun j v z => ?_⟩
  · unfold xz emX
    rw [zS_pS, if_pos ⟨rfl, rfl⟩, e]
    rfl
  · unfold emX
    unfold xz at hj
    rw [zI_pS, zI_pI, if_neg (by omega)]
  · have hj : j = 0 := by
      cases j with
      | zero => rfl
      | succ j => simp at z
    subst hj
    simp at z
    unfold emX xz
    rw [zI_pS, zI_pI, if_pos ⟨rfl, by omega⟩]
    exact z
theorem Ly.one {s : SS} {c a w : Int32} (h0 : 0 ≤ ml s ∧ ml s < 1000) (hr : 0 ≤ mr s) (ea : tkA c = a) (ew : tkW c = w) : Ly s (lyM s a w) [c] := by
  have e : (zS s 59 51 + 1).toInt = (zS s 59 51).toInt + 1 := by
    unfold ml at h0
    rw [i32_add (by rw [jl1]; omega) (by rw [jl1]; omega), jl1]
  refine ⟨?_, fun j hj => ?_, fun j v z => ?_⟩
  · unfold lyM ml
    rw [zS_pS, if_pos ⟨rfl, rfl⟩, e]
    rfl
  · unfold lyM
    rw [zI_pS, zI_pI, if_neg (by omega), zI_pI, if_neg (by omega), zI_pS, zI_pI, if_neg (by omega), zI_pI, if_neg (by omega)]
    exact ⟨rfl, rfl⟩
  · have hj : j = 0 := by
      cases j with
      | zero => rfl
      | succ j => simp at z
    subst hj
    simp at z
    subst z
    unfold lyM
    rw [zI_pS, zI_pI, if_neg (by omega), zI_pI, if_pos ⟨rfl, by omega⟩, zI_pS, zI_pI, if_pos ⟨rfl, by omega⟩]
    exact ⟨ea.symm, ew.symm⟩
/-- the end with a fault at p: the class has it, or stands before a digit too many -/
def StX (s : SS) (p : Int32) : Prop := zS s 24 5 = p ∨ (zS s 24 5 = -1 ∧ zS s 24 4 = p ∧ zS s 24 4 < zS s 24 1 ∧ p.toInt < 160 ∧ 48 ≤ (zI s 25 p.toInt.toNat).toInt ∧ (zI s 25 p.toInt.toNat).toInt ≤ 57)
def Stk (s t s' t' : SS) : Prop := ∃ p : Int32, 0 ≤ p.toInt ∧ StX s' p ∧ zS t' 59 48 = p ∧ 0 ≤ xz s' ∧ 0 ≤ ml t' ∧ mh t' ≤ 160 ∧ ml t' - ml t ≤ mh t' - mh t
theorem StX.takes {s : SS} {p k : Int32} (hp : 0 ≤ p.toInt) (h : StX s p) (hk : k.toInt < 48 ∨ 57 < k.toInt) : f_X7_takes s k = some (0, s) := by
  rcases h with h | ⟨h1, h2, h3, h6, h4, h5⟩
  · exact takes_f (by rw [h, jlt, jl0]; omega)
  · unfold f_X7_takes
    rw [if_pos (by rw [h1]; decide), if_pos h3, vl, h2, gd_t ⟨hp, h6⟩, if_neg]
    intro z
    rw [z] at h4 h5
    omega
theorem StX.emit {s : SS} {p c : Int32} (h : StX s p) (hp : 0 ≤ p.toInt) (hz : 0 ≤ xz s) : ∃ r, f_X7_emit s c = some r ∧ PkX s r ∧ StX r p ∧ 0 ≤ xz r := by
  by_cases f : zS s 24 5 < 0
  · by_cases z : xz s < 161
    · refine ⟨_, emit_g f ⟨hz, z⟩, PkX.em, ?_, ?_⟩
      · rcases h with h | ⟨h1, h2, h3, h6, h4, h5⟩
        · rw [h, jlt, jl0] at f
          omega
        · refine Or.inr ⟨h1, h2, h3, h6, ?_, ?_⟩
          · rw [PkX.em.2.1 25 _ (by omega)]; exact h4
          · rw [PkX.em.2.1 25 _ (by omega)]; exact h5
      · have := (Em.one (c := c) ⟨hz, z⟩).1
        rw [this]
        omega
    · refine ⟨s, ?_, PkX.rf, h, hz⟩
      unfold f_X7_emit
      rw [if_pos f, if_neg (by rw [jlt, j161]; exact z)]
  · exact ⟨s, emit_f f, PkX.rf, h, hz⟩
