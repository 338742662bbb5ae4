/-! A DRILLING HOUR, HOLE BY HOLE -/
section DQs
variable {s s3 t u u0 : SS}
/-- where the machines are: alike -/
def MA (s t : SS) : Prop := ∀ m, m < 3 → zS s (20 + m) 0 = zI t 78 m ∧ zS s (20 + m) 1 = zI t 79 m ∧ zS s (20 + m) 2 = zI t 80 m
theorem act_m {m p : Nat} (A : MA s t) (hh : zS s 0 14 = zS t 59 1) (b : (zS s 15 3).toInt ≤ 120) (hm : m < 3) (h : act s m = some p) : mac t m ∧ mat t m < 120 ∧ zR s 17 (mat t m) = some p := by
  obtain ⟨_, a1, a2⟩ := A m hm
  unfold act at h
  rw [a1, a2, hh] at h
  by_cases z : zI t 80 m < zS t 59 1
  · rw [if_pos z] at h
    unfold hO at h
    by_cases c : 0 ≤ (zI t 79 m).toInt ∧ (zI t 79 m).toInt < (zS s 15 3).toInt
    · rw [if_pos c] at h
      exact ⟨⟨c.1, z⟩, by unfold mat; omega, h⟩
    · rw [if_neg c] at h; cases h
  · rw [if_neg z] at h; cases h
theorem m_act {m : Nat} (A : MA s t) (hh : zS s 0 14 = zS t 59 1) (b : (zS s 15 3).toInt ≤ 120) (Q : QSet s t) (hm : m < 3) (h : mac t m) : (mat t m : Int) < (zS s 15 3).toInt ∧ ∃ p, act s m = some p ∧ zR s 17 (mat t m) = some p := by
  obtain ⟨_, a1, a2⟩ := A m hm
  obtain ⟨h1, h2⟩ := h
  rcases Q.1 m hm with w | ⟨w1, w2, w3⟩
  · omega
  refine ⟨by unfold mat; omega, ?_⟩
  cases e : zR s 17 (zI t 79 m).toInt.toNat with
  | none => exact absurd e w3
  | some p =>
    refine ⟨p, ?_, e⟩
    unfold act hO
    rw [a1, a2, hh, if_pos h2, if_pos ⟨w1, w2⟩]
    exact e
theorem mat_1 {m m' : Nat} (Q : QSet s t) (hm : m < 3) (hm' : m' < 3) (h : mac t m) (h' : mac t m') (e : mat t m' = mat t m) : m' = m := by
  by_cases z : m' = m
  · exact z
  · have n := Q.2 m' m hm' hm z h'.1
    unfold mat at e
    have a := h.1
    have b := h'.1
    exact absurd (Int32.toInt_inj.1 (by omega)) n
/-- hole i when the hour's boring is over -/
def GH (s s3 t : SS) (i : Nat) (u : SS) : Prop := (∀ p, zR s 17 i = some p → HX s3 p u i) ∧ (zR s 17 i = none → sRw i t u) ∧ (0 ≤ (zI u 69 i).toInt ∧ (zI u 69 i).toInt ≤ 1700) ∧ (zI u 69 i = zI t 69 i ∨ (zI t 69 i = 0 ∧ zI u 69 i = zS t 59 1 + 1)) ∧ 0 ≤ (zI u 68 i).toInt ∧ (zI u 68 i).toInt ≤ 60 * (zS t 59 1).toInt
theorem GH.g {i : Nat} {u u' : SS} (h : sRw i u u') (g : GH s s3 t i u) : GH s s3 t i u' := by
  obtain ⟨g1, g2, g3, g4, g5⟩ := g
  have e9 := h.1 69 (by omega) (by omega)
  have e8 := h.1 68 (by omega) (by omega)
  refine ⟨fun p hp => (g1 p hp).h sHp.rf h, fun n => (g2 n).tr h, ?_, ?_, ?_⟩
  · rw [e9]; exact g3
  · rw [e9]; exact g4
  · rw [e8]; exact g5
/-- the row of a hole without a machine, after the minutes -/
theorem DK.n {i : Nat} (D : DK t u0 3) (h : ∀ m, m < 3 → mac t m → mat t m ≠ i) : sRw i t u0 := by
  obtain ⟨F, d1, _⟩ := D
  refine ⟨fun q a b => ?_, fun q y a b _ _ => F.2.1 q _ ?_⟩
  · by_cases z : q = 68
    · rw [z]; exact (d1 i h).1
    · refine F.2.1 q i ?_
      have : q = 63 ∨ q = 64 ∨ q = 65 ∨ q = 66 ∨ q = 67 ∨ q = 69 ∨ q = 104 := by omega
      rcases this with w | w | w | w | w | w | w <;> subst w <;> decide
  · have : q = 70 ∨ q = 71 ∨ q = 72 ∨ q = 73 := by omega
    rcases this with w | w | w | w <;> subst w <;> decide
theorem GH.n {i : Nat} (C : CI s) (A : MA s t) (hh : zS s 0 14 = zS t 59 1) (hr : 0 ≤ (zS s 0 14).toInt) (H : QHol s t) (K : QKep ((zS t 59 1).toInt - 1) t) (k3 : ∀ i q, i < 120 → zR s 17 i = some q → (∀ m, m < 3 → act s m ≠ some q) → sHp q s s3) (D : DK t u0 3) (hi : i < 120) (h : ∀ m, m < 3 → mac t m → mat t m ≠ i) (hu : sRw i u0 u) : GH s s3 t i u := by
  have r := (D.n h).tr hu
  have e9 := r.1 69 (by omega) (by omega)
  have e8 := r.1 68 (by omega) (by omega)
  have k := K i hi
  refine ⟨fun p hp => (H.1 i p hi hp).h (k3 i p hi hp (fun m hm ha => ?_)) r, fun _ => r, ?_, Or.inl e9, ?_⟩
  · obtain ⟨x1, x2, x3⟩ := act_m A hh C.2.1 hm ha
    exact h m hm x1 (H.2.2.1 (mat t m) i p x2 hi x3 hp)
  · rw [e9]; exact H.2.2.2 i hi
  · rw [e8]; omega
end DQs
