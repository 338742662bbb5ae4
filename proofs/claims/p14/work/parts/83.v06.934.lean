/-! THE HOUR: what stands when the clock has gone on by one; what stands behind the moves -/
section HRs
variable {s t r u : SS}
theorem Ok.at {ρ : Type} {o : Option ρ} {Q : ρ → Prop} {r : ρ} (h : Ok o Q) (e : o = some r) : Q r := by
  obtain ⟨r', e', q⟩ := h
  rw [e] at e'
  rw [Option.some.inj e']
  exact q
/-- pace and hardness within their bounds -/
def QRng (s t : SS) : Prop := (∀ m, m < 3 → 0 ≤ (zI t 78 m).toInt ∧ (zI t 78 m).toInt ≤ 60) ∧ ∀ j, 0 ≤ (zI s 2 j).toInt ∧ (zI s 2 j).toInt ≤ 9
theorem Q4h.hr {h : Int} (Q : Q4h h s t) (S : Sh s) (hh : (zS s 0 14).toInt ≤ (zS s 0 14 + 1).toInt) {v : Int32} : Q4h h (pS s 0 14 (zS s 0 14 + 1)) (pS t 59 1 v) := by
  obtain ⟨q1, q2, q3, q4, q5, q6, q7, q8, q9, q10, q11, q12, q13⟩ := Q
  have fS : ∀ q k, ¬ (q = 0 ∧ k = 14) → zS (pS s 0 14 (zS s 0 14 + 1)) q k = zS s q k := fun q k w => by rw [zS_pS, if_neg w]
  have gS : ∀ k, k ≠ 1 → zS (pS t 59 1 v) 59 k = zS t 59 k := fun k w => by rw [zS_pS, if_neg (by omega)]
  refine ⟨q1.c S (fun q k w => fS q k (by omega)) (fun _ _ _ => rfl) (fun _ => rfl) (fun _ _ _ _ => rfl), q2, q3.c (fun k w => fS 0 k (by omega)) (fS 15 4 (by omega)) (fun _ => rfl) (fun _ => rfl) (fun _ => rfl), ?_, q5.d (fun k => fS 30 k (by omega)) (fun _ _ _ _ => rfl) (fun k w => gS k (by omega)) (fun _ _ _ _ => rfl), q6.c (fun k _ _ => fS 15 k (by omega)) (fun k w1 w2 => gS k (by omega)), q7.c (fun i _ => fS (20 + i) 2 (by omega)) (fun _ => rfl), q8.c (fun k _ _ => fS 6 k (by omega)) (fun _ => rfl) (fun k w => gS k (by omega)) (fun _ => rfl) (fun _ => rfl), q9, q10.c S (fS 0 5 (by omega)) (fun q k w => fS q k (by omega)) (fun _ _ _ => rfl) (fun _ => rfl) (fun _ _ _ _ => rfl), q11.c S (fS 0 8 (by omega)) (fun q k w => fS q k (by omega)) (fun _ _ _ => rfl) (fun _ => rfl) (fun _ _ => rfl) (fun _ _ _ _ => rfl), q12, q13⟩
  have e14 : zS (pS s 0 14 (zS s 0 14 + 1)) 0 14 = zS s 0 14 + 1 := by rw [zS_pS, if_pos ⟨rfl, rfl⟩]
  rcases q4 with ⟨a, b⟩ | ⟨a, b, c⟩
  · exact Or.inl ⟨by rw [fS 0 18 (by omega)]; exact a, b⟩
  · refine Or.inr ⟨?_, fun i hi h => ?_, ?_⟩
    · rw [e14, fS 0 18 (by omega)]
      omega
    · rw [fS 0 18 (by omega)]
      exact b i hi h
    · obtain ⟨i, hi, c1, c2⟩ := c
      exact ⟨i, hi, c1, by rw [fS 0 18 (by omega)]; exact c2⟩
/-- behind the moves -/
theorem Q4h.mv {h : Int} (Q : Q4h h s t) (S : Sh s) (M : MVq s t r u) : Q4h h r u := by
  obtain ⟨_, e, F, G, _⟩ := M
  obtain ⟨q1, q2, q3, q4, q5, q6, q7, q8, q9, q10, q11, q12, q13⟩ := Q
  have fS : ∀ q k, ¬ (q = 15 ∧ k = 9) → zS r q k = zS s q k := fun q k w => F.1 q k (by
    cases c : ([(15, 9)] : List (Nat × Nat)).contains (q, k) with
    | false => rfl
    | true =>
      have : (q, k) = (15, 9) := by simpa using c
      exact absurd ⟨congrArg Prod.fst this, congrArg Prod.snd this⟩ w)
  have fI : ∀ q j, q ≠ 2 → q ≠ 3 → zI r q j = zI s q j := fun q j w1 w2 => F.2.1 q j (by simp [w1, w2])
  have fR : ∀ a i, zR r a i = zR s a i := fun a i => by unfold zR; rw [F.2.2.2]
  have fN : ∀ q, 126 ≤ q → zN r q = zN s q := fun q _ => by unfold zN; rw [F.2.2.2]
  have gS : ∀ k, k ≠ 25 → zS u 59 k = zS t 59 k := fun k w => G.1 59 k (by simp [w])
  have gI : ∀ q j, q ≠ 60 → q ≠ 61 → zI u q j = zI t q j := fun q j w1 w2 => G.2.1 q j (by simp [w1, w2])
  refine ⟨q1.c S (fun q k w => fS q k (by omega)) (fun q j w => fI q j (by omega) (by omega)) (fun i => fR 17 i) (fun q j w1 w2 => gI q j (by omega) (by omega)), q2.c (fun i => fI 7 i (by omega) (by omega)) (fun i => fI 8 i (by omega) (by omega)) (fun i => fI 10 i (by omega) (by omega)) (fun i => fI 16 i (by omega) (by omega)) (fS 15 3 (by omega)) (fS 6 4 (by omega)) (fun i => gI 74 i (by omega) (by omega)) (fun i => gI 75 i (by omega) (by omega)) (fun i => gI 77 i (by omega) (by omega)), q3.c (fun k _ => fS 0 k (by omega)) (fS 15 4 (by omega)) (fun i => fR 17 i) (fun i => gI 67 i (by omega) (by omega)) (fun i => gI 69 i (by omega) (by omega)), q4.c (fS 0 18 (by omega)) (fS 0 14 (by omega)) (fun i => gI 69 i (by omega) (by omega)), q5.d (fun k => fS 30 k (by omega)) (fun q i w1 w2 => fI q i (by omega) (by omega)) (fun k w => gS k (by omega)) (fun q i w1 w2 => gI q i (by omega) (by omega)), ?_, q7.c (fun i hi => fS (20 + i) 2 (by omega)) (fun i => gI 80 i (by omega) (by omega)), q8.c (fun k _ _ => fS 6 k (by omega)) (fun i => fI 13 i (by omega) (by omega)) (fun k w => gS k (by omega)) (fun i => gI 116 i (by omega) (by omega)) (fun i => gI 118 i (by omega) (by omega)), ?_, q10.c S (fS 0 5 (by omega)) (fun q k w => fS q k (by omega)) (fun q j w => fI q j (by omega) (by omega)) (fun i => fR 23 i) (fun q j w1 w2 => gI q j (by omega) (by omega)), q11.c S (fS 0 8 (by omega)) (fun q k w => fS q k (by omega)) (fun q j w => fI q j (by omega) (by omega)) (fun i => fR 27 i) fN (fun q j w1 w2 => gI q j (by omega) (by omega)), q12.c (fun q i w => gI q i (by omega) (by omega)) (fun i => G.2.2.1 122 i rfl), fun i hi => by rw [gI 68 i (by omega) (by omega)]; exact q13 i hi⟩
  · obtain ⟨a, b, c, d, f⟩ := q6
    refine ⟨?_, ?_, ?_, e, ?_⟩
    · rw [fS 15 6 (by omega), gS 22 (by omega)]; exact a
    · rw [fS 15 7 (by omega), gS 23 (by omega)]; exact b
    · rw [fS 15 8 (by omega), gS 24 (by omega)]; exact c
    · rw [fS 15 5 (by omega), fS 15 8 (by omega)]; exact f
  · refine ⟨fun i hi => ?_, fun i j hi hj ne => ?_⟩
    · rw [gI 79 i (by omega) (by omega), fS 15 3 (by omega), fR]
      exact q9.1 i hi
    · rw [gI 79 i (by omega) (by omega), gI 79 j (by omega) (by omega)]
      exact q9.2 i j hi hj ne
end HRs
