/-! A DRILLING HOUR: the relation behind it -/
section DEs
variable {s s' s1 s2 s3 t r : SS}
/-- through or not, and the first: what steps of the class did -/
def TF (s s' : SS) : Prop := (∀ i p, i < 120 → zR s 17 i = some p → zS s' p 6 = zS s p 6 ∨ (zS s p 6 = 0 ∧ zS s' p 6 = 1)) ∧ ((zS s' 0 18 = zS s 0 18 ∧ ∀ i p, i < 120 → zR s 17 i = some p → zS s' p 6 = zS s p 6) ∨ (zS s' 0 18 = (if zS s 0 14 < zS s 0 18 then zS s 0 14 else zS s 0 18) ∧ ∃ i p, i < 120 ∧ zR s 17 i = some p ∧ zS s p 6 = 0 ∧ zS s' p 6 = 1))
theorem TF.rf : TF s s := ⟨fun _ _ _ _ => Or.inl rfl, Or.inl ⟨rfl, fun _ _ _ _ => rfl⟩⟩
theorem TF.tr {r : SS} (L : cL s s') (h : TF s s') (g : TF s' r) : TF s r := by
  have e14 : zS s' 0 14 = zS s 0 14 := L.1 0 14 (by omega) (by omega)
  have R : ∀ i, zR s' 17 i = zR s 17 i := fun i => L.R 17 i
  have n10 : ¬ (1 : Int32) = 0 := by decide
  have m1 : ∀ i p, i < 120 → zR s 17 i = some p → zS s' p 6 = 1 → zS r p 6 = 1 := fun i p hi hp e => by
    rcases g.1 i p hi ((R i).trans hp) with w | ⟨w, _⟩
    · rw [w]; exact e
    · rw [e] at w; exact absurd w n10
  refine ⟨fun i p hi hp => ?_, ?_⟩
  · rcases h.1 i p hi hp with w | ⟨w1, w2⟩
    · rcases g.1 i p hi ((R i).trans hp) with v | ⟨v1, v2⟩
      · exact Or.inl (v.trans w)
      · exact Or.inr ⟨w.symm.trans v1, v2⟩
    · exact Or.inr ⟨w1, m1 i p hi hp w2⟩
  · rcases h.2 with ⟨a1, a2⟩ | ⟨a1, i, p, hi, hp, a2, a3⟩
    · rcases g.2 with ⟨b1, b2⟩ | ⟨b1, i, p, hi, hp, b2, b3⟩
      · exact Or.inl ⟨b1.trans a1, fun i p hi hp => (b2 i p hi ((R i).trans hp)).trans (a2 i p hi hp)⟩
      · have hp' := (R i).symm.trans hp
        exact Or.inr ⟨by rw [b1, e14, a1], i, p, hi, hp', (a2 i p hi hp').symm.trans b2, b3⟩
    · refine Or.inr ⟨?_, i, p, hi, hp, a2, m1 i p hi hp a3⟩
      rcases g.2 with ⟨b1, _⟩ | ⟨b1, _⟩
      · rw [b1, a1]
      · rw [b1, e14, a1]
        by_cases z : zS s 0 14 < zS s 0 18
        · rw [if_pos z, if_neg (by rw [jlt]; omega)]
        · rw [if_neg z, if_neg z]
theorem mSt.tf {m : Nat} (C : CI s) (h : mSt m s s') : TF s s' := by
  obtain ⟨_, d⟩ := h.ci C
  rcases d with ⟨_, e⟩ | ⟨p, ha, M⟩
  · rw [e]; exact TF.rf
  · have o := act_o C ha
    have oth : ∀ i q, i < 120 → zR s 17 i = some q → q ≠ p → zS s' q 6 = zS s q 6 := fun i q hi hq ne => (M.h o (C.1.2.2.1 i q hi hq) ne).1 6
    have hp : ∃ i, i < 120 ∧ zR s 17 i = some p := by
      unfold act at ha
      by_cases z : zS s (20 + m) 2 < zS s 0 14
      · rw [if_pos z] at ha
        exact ⟨_, (hO_ok C.1 C.2.1 ha).1, (hO_ok C.1 C.2.1 ha).2.1⟩
      · rw [if_neg z] at ha; cases ha
    obtain ⟨j, hj, hjp⟩ := hp
    rcases M.2.2.2 with ⟨w1, w2⟩ | ⟨w1, w2, w3⟩
    · have all : ∀ i q, i < 120 → zR s 17 i = some q → zS s' q 6 = zS s q 6 := fun i q hi hq => by
        by_cases z : q = p
        · rw [z]; exact w1
        · exact oth i q hi hq z
      exact ⟨fun i q hi hq => Or.inl (all i q hi hq), Or.inl ⟨w2, all⟩⟩
    · refine ⟨fun i q hi hq => ?_, Or.inr ⟨w3, j, p, hj, hjp, w1, w2⟩⟩
      by_cases z : q = p
      · rw [z]; exact Or.inr ⟨w1, w2⟩
      · exact Or.inl (oth i q hi hq z)
theorem m3_t (C : CI s) (h0 : mSt 0 s s1) (h1 : mSt 1 s1 s2) (h2 : mSt 2 s2 s3) : TF s s3 := by
  obtain ⟨C1, L1, _⟩ := h0.o C
  obtain ⟨C2, L2, _⟩ := h1.o C1
  exact TF.tr (L1.tr L2) (TF.tr L1 (h0.tf C) (h1.tf C1)) (h2.tf C2)
theorem HZ.w {i : Nat} (h : HZ t i) (g : sRw i t r) : HZ r i := by
  obtain ⟨a1, a2, a3, a4, a5, a6⟩ := h
  refine ⟨?_, ?_, ?_, ?_, ?_, fun y y1 y2 => ?_⟩
  · rw [g.1 66 (by omega) (by omega)]; exact a1
  · rw [g.1 67 (by omega) (by omega)]; exact a2
  · rw [g.1 68 (by omega) (by omega)]; exact a3
  · rw [g.1 69 (by omega) (by omega)]; exact a4
  · rw [g.1 104 (by omega) (by omega)]; exact a5
  · rw [g.2 70 y (by omega) (by omega) y1 y2, g.2 71 y (by omega) (by omega) y1 y2, g.2 72 y (by omega) (by omega) y1 y2, g.2 73 y (by omega) (by omega) y1 y2]
    exact a6 y y1 y2
theorem drH (L : cL s s3) (H : QHol s t) (g : ∀ i, i < 120 → GH s s3 t i r) : QHol s3 r := by
  have R : ∀ i, zR s3 17 i = zR s 17 i := fun i => L.R 17 i
  exact ⟨fun i p hi hp => (g i hi).1 p ((R i).symm.trans hp), fun i hi hn => (H.2.1 i hi ((R i).symm.trans hn)).w ((g i hi).2.1 ((R i).symm.trans hn)), fun i j p hi hj a b => H.2.2.1 i j p hi hj ((R i).symm.trans a) ((R j).symm.trans b), fun i hi => (g i hi).2.2.1⟩
theorem drC (C : CI s3) (L : cL s s3) (Q : QCnt s t) (H : QHol s3 r) : QCnt s3 r := by
  obtain ⟨_, _, _, _, c5, c6⟩ := C
  refine ⟨c5.trans (ySum_c fun i hi => ?_), c6.trans (ySum_c fun i hi => ?_), ?_⟩
  · cases e : zR s3 17 i with
    | none =>
      have := (H.2.1 i hi e).2.1
      unfold cb
      rw [e, this]
      rfl
    | some p =>
      rw [cb_t e]
      rw [(H.1 i p hi e).2.2.2.2.1]
  · cases e : zR s3 17 i with
    | none =>
      have := (H.2.1 i hi e).2.2.2.1
      unfold ct
      rw [e, this]
      rfl
    | some p =>
      rw [ct_t e, (H.1 i p hi e).2.2.2.2.2.2.1]
      by_cases z : 0 < (zI r 69 i).toInt
      · rw [if_pos z, if_pos z]; rfl
      · rw [if_neg z, if_neg z]; rfl
  · rw [L.1 15 4 (by omega) (by omega), Q.2.2]
    exact ySum_c fun i hi => by rw [L.R]
end DEs
