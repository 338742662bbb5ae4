/-! A DRILLING HOUR: the first through; all of it -/
section DFs
variable {s s3 t r : SS}
theorem thr1 {v : Int32} {x : Int} (h : v = (if 0 < x then 1 else 0)) : (v = 1 → 0 < x) ∧ (v = 0 → ¬ 0 < x) := by
  by_cases z : 0 < x
  · rw [if_pos z] at h
    exact ⟨fun _ => z, fun e => by rw [h] at e; exact absurd e (by decide)⟩
  · rw [if_neg z] at h
    exact ⟨fun e => by rw [h] at e; exact absurd e (by decide), fun _ => z⟩
theorem drF (L : cL s s3) (hh : zS s 0 14 = zS t 59 1) (hr : 0 ≤ (zS s 0 14).toInt ∧ (zS s 0 14).toInt ≤ 1699) (H : QHol s t) (g : ∀ i, i < 120 → GH s s3 t i r) (T : TF s s3) (Q : QFst s t) : QFst s3 r := by
  have e14 : zS s3 0 14 = zS s 0 14 := L.1 0 14 (by omega) (by omega)
  have nh : (zS t 59 1 + 1).toInt = (zS s 0 14).toInt + 1 := by rw [← hh, i32_add (by rw [jl1]; omega) (by rw [jl1]; omega), jl1]
  have w : ∀ i, i < 120 → zI r 69 i = zI t 69 i ∨ ((zI t 69 i).toInt = 0 ∧ (zI r 69 i).toInt = (zS s 0 14).toInt + 1) := fun i hi => by
    rcases (g i hi).2.2.2.1 with a | ⟨a, b⟩
    · exact Or.inl a
    · exact Or.inr ⟨by rw [a, jl0], by rw [b, nh]⟩
  have x : ∀ i p, i < 120 → zR s 17 i = some p → zS s p 6 = (if 0 < (zI t 69 i).toInt then 1 else 0) ∧ zS s3 p 6 = (if 0 < (zI r 69 i).toInt then 1 else 0) := fun i p hi hp => ⟨(H.1 i p hi hp).2.2.2.2.2.2.1, ((g i hi).1 p hp).2.2.2.2.2.2.1⟩
  rcases T.2 with ⟨t1, t2⟩ | ⟨t1, j, p, hj, hp, t2, t3⟩
  · have e : ∀ i, i < 120 → zI r 69 i = zI t 69 i := fun i hi => by
      rcases w i hi with a | ⟨a, b⟩
      · exact a
      · cases q : zR s 17 i with
        | none => exact ((g i hi).2.1 q).1 69 (by omega) (by omega)
        | some p =>
          obtain ⟨x1, x2⟩ := x i p hi q
          rw [t2 i p hi q, x1, if_neg (by omega), if_pos (by omega)] at x2
          exact absurd x2 (by decide)
    rcases Q with ⟨q1, q2⟩ | ⟨q1, q2, i, hi, q3, q4⟩
    · exact Or.inl ⟨by rw [t1]; exact q1, fun i hi => by rw [e i hi]; exact q2 i hi⟩
    · exact Or.inr ⟨by rw [t1, e14]; exact q1, fun i hi h => by rw [e i hi] at h ⊢; rw [t1]; exact q2 i hi h, i, hi, by rw [e i hi]; exact q3, by rw [t1, e i hi]; exact q4⟩
  · obtain ⟨x1, x2⟩ := x j p hj hp
    have y1 := (thr1 x1).2 t2
    have y2 := (thr1 x2).1 t3
    have y3 : (zI r 69 j).toInt = (zS s 0 14).toInt + 1 := by
      rcases w j hj with a | ⟨_, b⟩
      · rw [a] at y2; exact absurd y2 y1
      · exact b
    rcases Q with ⟨q1, q2⟩ | ⟨q1, q2, i, hi, q3, q4⟩
    · rw [if_pos (by rw [jlt]; omega)] at t1
      refine Or.inr ⟨by rw [t1, e14]; exact Int.le_refl _, fun i hi h => ?_, j, hj, y2, by rw [t1, y3]; omega⟩
      rw [t1]
      rcases w i hi with a | ⟨_, b⟩
      · rw [a] at h; exact absurd h (q2 i hi)
      · omega
    · rw [if_neg (by rw [jlt]; omega)] at t1
      have k : zI r 69 i = zI t 69 i := by
        rcases w i hi with a | ⟨a, _⟩
        · exact a
        · omega
      refine Or.inr ⟨by rw [t1, e14]; exact q1, fun i hi h => ?_, i, hi, by rw [k]; exact q3, by rw [t1, k]; exact q4⟩
      rw [t1]
      rcases w i hi with a | ⟨_, b⟩
      · rw [a] at h ⊢; exact q2 i hi h
      · omega
/-- what a drilling hour leaves on both sides -/
def DRe (s t s3 r : SS) : Prop := QHol s3 r ∧ QCnt s3 r ∧ QFst s3 r ∧ QKep (zS t 59 1).toInt r ∧ cL s s3 ∧ CI s3 ∧ (∀ q k, zS r q k = zS t q k) ∧ ∀ q j, q < 63 ∨ 73 < q → q ≠ 99 → q ≠ 100 → q ≠ 104 → zI r q j = zI t q j
theorem dr_e (C : CI s) (A : MA s t) (E : BE s t) (H : QHol s t) (QC : QCnt s t) (QF : QFst s t) (Q : QSet s t) (K : QKep ((zS t 59 1).toInt - 1) t) (hp : ∀ m, m < 3 → 0 ≤ (zI t 78 m).toInt ∧ (zI t 78 m).toInt ≤ 60) (hd : ∀ j, 0 ≤ (zI s 2 j).toInt ∧ (zI s 2 j).toInt ≤ 9) (hn : zS s 15 3 = zS t 59 4) (hn0 : 0 ≤ (zS s 15 3).toInt) (z99 : ∀ i : Nat, (i : Int) < (zS t 59 4).toInt → zI t 99 i = 0) : Pc (f_X11_machinesWork s) (fun s3 => Pc (f_X12_drill_L36 (fun (s33 : SS) => (f_X12_drill_L119 4000 s33 0)) 4000 t 0) (fun r => DRe s t s3 r)) := by
  refine Pc.mono (mw_p C) (fun s3 h => ?_)
  obtain ⟨s1, s2, h0, h1, h2⟩ := h
  obtain ⟨C3, L, k3, k4⟩ := m3_o C h0 h1 h2
  have T := m3_t C h0 h1 h2
  refine Pc.mono (dr_g C A E H Q K hp hd hn hn0 z99 k3 k4) (fun r h => ?_)
  obtain ⟨r1, r2, g⟩ := h
  have H3 := drH L H g
  exact ⟨H3, drC C3 L QC H3, drF L E.2.1 E.2.2.1 H g T QF, fun i hi => (g i hi).2.2.2.2, L, C3, r1, r2⟩
end DFs
