set_option maxRecDepth 4000 in
theorem w_X12_forceOf {b0 : SS} {s0 : SS} {a0 : Int32} {a1 : Int32} {a2 : Int32} (K : Lk b0 s0) : Ok (f_X12_forceOf s0 a0 a1 a2) (fun r => -2 ≤ r.toInt ∧ r.toInt ≤ 15 ∧ r.toInt < (zS s0 59 38).toInt) := by
  unfold f_X12_forceOf
  have f0 := (K.f (q := 59) (k := 38) rfl)
  repeat' (first
    | with_reducible assumption
    | dsimp only
    | with_reducible refine Ok_vl ?_
    | with_reducible refine Ok_jn ?_
    | with_reducible refine Ok_b1 ?_
    | with_reducible refine Ok_ift (by decide) ?_
    | with_reducible refine Ok_iff (by decide) ?_
    | with_reducible refine Ok_if (fun _ => ?_) (fun _ => ?_)
    | with_reducible refine Ok.mono (w_X12_firstThrough (b0 := b0) ?_) (fun _ _ => ?_)
    | with_reducible refine w_X12_forceOf_L23 (b0 := b0) ?_ (fun _ _ => ?_) _ _  ?_ ?_ ?_
    | with_reducible refine And.intro ?_ ?_)
  all_goals (try (first | with_reducible assumption | exact trivial | omega | ((try clear ih); (try clear hr); (try clear hq0); (try clear hq1); (try clear hrec); ((try simp only [inB, Rs, Pg, Px, Ps, Pr, Pl, jcl, Rg, cellOK, bF, bA, bH, bV, jlt, jeq, jd4, jd10, jd20, jd24, jd60, jd100, jm4, jm10, jm20, jm24, jm60, jm100, Int32.reduceToInt, jn1, jn2, jn3, jn4, jn5, jn6, jn7, jn8, jn9, jn10, jn11, jn12, jn13, jn14, jn15, jn16, jn17, jn18, jn19, jn20, jn21, jn22, jn23, jn24, jn100, jn2000000000, zS_pS, zS_pI, zS_pJ, zS_pR, zS_pF, zS_pG, zI_pI, zI_pS, zI_pJ, zI_pR, zI_pF, zI_pG, zN_pS, zN_pI, zN_pJ, Nat.reduceEqDiff, Nat.reduceAdd, Nat.reduceMul, ite_true, ite_false, and_true, true_and, and_false, false_and, true_or, or_true, false_or, or_false, not_true_eq_false, not_false_eq_true, reduceIte, reduceCtorEq, eq_self] at *) <;> (first | omega | ((try simp (disch := first | omega | (simp (disch := first | omega | (simp (disch := first | omega | (simp only [jd4, jd10, jd20, jd24, jd60, jd100, jm4, jm10, jm20, jm24, jm60, jm100, Int32.reduceToInt]; omega)) only [i32_add, i32_sub, i32_mul, jd4, jd10, jd20, jd24, jd60, jd100, jm4, jm10, jm20, jm24, jm60, jm100, Int32.reduceToInt]; omega)) only [i32_add, i32_sub, i32_mul, jd4, jd10, jd20, jd24, jd60, jd100, jm4, jm10, jm20, jm24, jm60, jm100, Int32.reduceToInt]; omega)) only [i32_add, i32_sub, i32_mul, jd4, jd10, jd20, jd24, jd60, jd100, jm4, jm10, jm20, jm24, jm60, jm100, Int32.reduceToInt] at *) <;> (first | omega | ((try simp (disch := first | omega | (simp (disch := first | omega | (simp (disch := first | omega | (simp only [jd4, jd10, jd20, jd24, jd60, jd100, jm4, jm10, jm20, jm24, jm60, jm100, Int32.reduceToInt]; omega)) only [i32_add, i32_sub, i32_mul, jd4, jd10, jd20, jd24, jd60, jd100, jm4, jm10, jm20, jm24, jm60, jm100, Int32.reduceToInt]; omega)) only [i32_add, i32_sub, i32_mul, jd4, jd10, jd20, jd24, jd60, jd100, jm4, jm10, jm20, jm24, jm60, jm100, Int32.reduceToInt]; omega)) only [i32_add, i32_sub, i32_mul, jd4, jd10, jd20, jd24, jd60, jd100, jm4, jm10, jm20, jm24, jm60, jm100, Int32.reduceToInt] at *) <;> (first | omega | ((simp only [jadd, jsub, jmul, jneg, Int32.reduceToInt] at *) <;> omega))))))))))
set_option maxRecDepth 4000 in
theorem w_X12_inForce {b0 : SS} {s0 : SS} {a0 : Int32} {a1 : Int32} {a2 : Int32} (K : Lk b0 s0) : Ok (f_X12_inForce s0 a0 a1 a2) (fun _ => True) := by
  unfold f_X12_inForce
  repeat' (first
    | with_reducible assumption
    | dsimp only
    | with_reducible refine Ok_some ?_
    | with_reducible refine Ok_b1 ?_
    | with_reducible refine Ok_ift (by decide) ?_
    | with_reducible refine Ok_iff (by decide) ?_
    | with_reducible refine Ok_if (fun _ => ?_) (fun _ => ?_)
    | with_reducible refine Ok.mono (w_X12_isWhat ) (fun _ _ => ?_)
    | with_reducible refine Ok.mono (w_X12_forceOf (b0 := b0) ?_) (fun _ _ => ?_)
    | with_reducible refine Ok.mono (w_X12_in ) (fun _ _ => ?_)
    | with_reducible refine And.intro ?_ ?_
    | unfold f_X12_isHour)
  all_goals (try (first | with_reducible assumption | exact trivial | omega | ((try clear ih); (try clear hr); (try clear hq0); (try clear hq1); (try clear hrec); ((try simp only [inB, Rs, Pg, Px, Ps, Pr, Pl, jcl, Rg, cellOK, bF, bA, bH, bV, jlt, jeq, jd4, jd10, jd20, jd24, jd60, jd100, jm4, jm10, jm20, jm24, jm60, jm100, Int32.reduceToInt, jn1, jn2, jn3, jn4, jn5, jn6, jn7, jn8, jn9, jn10, jn11, jn12, jn13, jn14, jn15, jn16, jn17, jn18, jn19, jn20, jn21, jn22, jn23, jn24, jn100, jn2000000000, zS_pS, zS_pI, zS_pJ, zS_pR, zS_pF, zS_pG, zI_pI, zI_pS, zI_pJ, zI_pR, zI_pF, zI_pG, zN_pS, zN_pI, zN_pJ, Nat.reduceEqDiff, Nat.reduceAdd, Nat.reduceMul, ite_true, ite_false, and_true, true_and, and_false, false_and, true_or, or_true, false_or, or_false, not_true_eq_false, not_false_eq_true, reduceIte, reduceCtorEq, eq_self] at *) <;> (first | omega | ((try simp (disch := first | omega | (simp (disch := first | omega | (simp (disch := first | omega | (simp only [jd4, jd10, jd20, jd24, jd60, jd100, jm4, jm10, jm20, jm24, jm60, jm100, Int32.reduceToInt]; omega)) only [i32_add, i32_sub, i32_mul, jd4, jd10, jd20, jd24, jd60, jd100, jm4, jm10, jm20, jm24, jm60, jm100, Int32.reduceToInt]; omega)) only [i32_add, i32_sub, i32_mul, jd4, jd10, jd20, jd24, jd60, jd100, jm4, jm10, jm20, jm24, jm60, jm100, Int32.reduceToInt]; omega)) only [i32_add, i32_sub, i32_mul, jd4, jd10, jd20, jd24, jd60, jd100, jm4, jm10, jm20, jm24, jm60, jm100, Int32.reduceToInt] at *) <;> (first | omega | ((try simp (disch := first | omega | (simp (disch := first | omega | (simp (disch := first | omega | (simp only [jd4, jd10, jd20, jd24, jd60, jd100, jm4, jm10, jm20, jm24, jm60, jm100, Int32.reduceToInt]; omega)) only [i32_add, i32_sub, i32_mul, jd4, jd10, jd20, jd24, jd60, jd100, jm4, jm10, jm20, jm24, jm60, jm100, Int32.reduceToInt]; omega)) only [i32_add, i32_sub, i32_mul, jd4, jd10, jd20, jd24, jd60, jd100, jm4, jm10, jm20, jm24, jm60, jm100, Int32.reduceToInt]; omega)) only [i32_add, i32_sub, i32_mul, jd4, jd10, jd20, jd24, jd60, jd100, jm4, jm10, jm20, jm24, jm60, jm100, Int32.reduceToInt] at *) <;> (first | omega | ((simp only [jadd, jsub, jmul, jneg, Int32.reduceToInt] at *) <;> omega))))))))))
set_option maxRecDepth 4000 in
theorem w_X12_both {a0 : Int32} {a1 : Int32} {a2 : Int32} : Ok (f_X12_both a0 a1 a2) (fun _ => True) := by
  unfold f_X12_both
  repeat' (first
    | with_reducible assumption
    | dsimp only
    | with_reducible refine Ok_some ?_
    | with_reducible refine Ok_gd ?_ (fun _ => ?_)
    | with_reducible refine Ok_jn ?_
    | with_reducible refine Ok_ift (by decide) ?_
    | with_reducible refine Ok_iff (by decide) ?_
    | with_reducible refine Ok_if (fun _ => ?_) (fun _ => ?_)
    | with_reducible refine And.intro ?_ ?_)
  all_goals (try (first | with_reducible assumption | exact trivial | omega | ((try clear ih); (try clear hr); (try clear hq0); (try clear hq1); (try clear hrec); ((try simp only [inB, Rs, Pg, Px, Ps, Pr, Pl, jcl, Rg, cellOK, bF, bA, bH, bV, jlt, jeq, jd4, jd10, jd20, jd24, jd60, jd100, jm4, jm10, jm20, jm24, jm60, jm100, Int32.reduceToInt, jn1, jn2, jn3, jn4, jn5, jn6, jn7, jn8, jn9, jn10, jn11, jn12, jn13, jn14, jn15, jn16, jn17, jn18, jn19, jn20, jn21, jn22, jn23, jn24, jn100, jn2000000000, zS_pS, zS_pI, zS_pJ, zS_pR, zS_pF, zS_pG, zI_pI, zI_pS, zI_pJ, zI_pR, zI_pF, zI_pG, zN_pS, zN_pI, zN_pJ, Nat.reduceEqDiff, Nat.reduceAdd, Nat.reduceMul, ite_true, ite_false, and_true, true_and, and_false, false_and, true_or, or_true, false_or, or_false, not_true_eq_false, not_false_eq_true, reduceIte, reduceCtorEq, eq_self] at *) <;> (first | omega | ((try simp (disch := first | omega | (simp (disch := first | omega | (simp (disch := first | omega | (simp only [jd4, jd10, jd20, jd24, jd60, jd100, jm4, jm10, jm20, jm24, jm60, jm100, Int32.reduceToInt]; omega)) only [i32_add, i32_sub, i32_mul, jd4, jd10, jd20, jd24, jd60, jd100, jm4, jm10, jm20, jm24, jm60, jm100, Int32.reduceToInt]; omega)) only [i32_add, i32_sub, i32_mul, jd4, jd10, jd20, jd24, jd60, jd100, jm4, jm10, jm20, jm24, jm60, jm100, Int32.reduceToInt]; omega)) only [i32_add, i32_sub, i32_mul, jd4, jd10, jd20, jd24, jd60, jd100, jm4, jm10, jm20, jm24, jm60, jm100, Int32.reduceToInt] at *) <;> (first | omega | ((try simp (disch := first | omega | (simp (disch := first | omega | (simp (disch := first | omega | (simp only [jd4, jd10, jd20, jd24, jd60, jd100, jm4, jm10, jm20, jm24, jm60, jm100, Int32.reduceToInt]; omega)) only [i32_add, i32_sub, i32_mul, jd4, jd10, jd20, jd24, jd60, jd100, jm4, jm10, jm20, jm24, jm60, jm100, Int32.reduceToInt]; omega)) only [i32_add, i32_sub, i32_mul, jd4, jd10, jd20, jd24, jd60, jd100, jm4, jm10, jm20, jm24, jm60, jm100, Int32.reduceToInt]; omega)) only [i32_add, i32_sub, i32_mul, jd4, jd10, jd20, jd24, jd60, jd100, jm4, jm10, jm20, jm24, jm60, jm100, Int32.reduceToInt] at *) <;> (first | omega | ((simp only [jadd, jsub, jmul, jneg, Int32.reduceToInt] at *) <;> omega))))))))))
/-! THE REFERENCE'S CODE RUNS -/
def Sm5 (c s : SS) : Prop := (∀ q, 90 ≤ q → q ≤ 94 → zI s q = zI c q) ∧ S7 c s
theorem Sm5.p96 {c s : SS} {i : Nat} {v : Int32} (h : Sm5 c s) : Sm5 c (pI s 96 i v) := ⟨fun q h1 h2 => by
  rw [← h.1 q h1 h2]
  funext b
  rw [zI_pI, if_neg (fun z => by omega)], S7.p (by decide) h.2⟩
theorem w_X12_worked_L12 {b0 c0 : SS} {q0 : SS → Option (Int32 × SS)} {y1 y3 : Int32} {Q : Int32 × SS → Prop} (g0 : 0 ≤ y1.toInt ∧ y1.toInt ≤ 15) (g1 : 0 ≤ y3.toInt ∧ y3.toInt ≤ 160) (hq0 : ∀ s, Lk b0 s → Sm5 c0 s → Ok (q0 s) Q) : ∀ (n : Nat) (s : SS) (x4 x5 : Int32), Lk b0 s → Sm5 c0 s → (0 ≤ x4.toInt ∧ x4.toInt ≤ x5.toInt - 170 * y1.toInt) → (170 * y1.toInt ≤ x5.toInt ∧ x5.toInt ≤ 170 * y1.toInt + 160) → Cd (zI c0 93) (zI c0 94) (170 * y1.toInt + y3.toInt - x5.toInt).toNat x5.toInt.toNat x4.toInt.toNat → 170 * y1.toInt + 160 - x5.toInt < (n : Int) → Ok (f_X12_worked_L12 q0 y1 y3 n s x4 x5) Q := by
  intro n
  induction n with
  | zero =>
    intro s x4 x5 K S i0 i1 hC hm
    exfalso
    omega
  | succ n ih =>
    intro s x4 x5 K S i0 i1 hC hm
    show Ok (f_X12_worked_L12_b q0 y1 y3 (f_X12_worked_L12 q0 y1 y3 n) s x4 x5) Q
    unfold f_X12_worked_L12_b
    have j170 : (170 : Int32).toInt = 170 := rfl
    have j1 : (1 : Int32).toInt = 1 := rfl
    have m1 : (170 * y1).toInt = 170 * y1.toInt := by rw [i32_mul (by rw [j170]; omega) (by rw [j170]; omega), j170]
    have m2 : (170 * y1 + y3).toInt = 170 * y1.toInt + y3.toInt := by rw [i32_add (by rw [m1]; omega) (by rw [m1]; omega), m1]
    with_reducible refine Ok_if (fun c => ?_) (fun _ => hq0 s K S)
    rw [Int32.lt_iff_toInt_lt, m2] at c
    have x5n : (x5 + 1).toInt = x5.toInt + 1 := by rw [i32_add (by rw [j1]; omega) (by rw [j1]; omega), j1]
    have x4n : (x4 + 1).toInt = x4.toInt + 1 := by rw [i32_add (by rw [j1]; omega) (by rw [j1]; omega), j1]
    clear m1 m2 j170 j1
    have k1 : 170 * y1.toInt ≤ (x5 + 1).toInt ∧ (x5 + 1).toInt ≤ 170 * y1.toInt + 160 := by clear hC ih; omega
    have k2 : 170 * y1.toInt + 160 - (x5 + 1).toInt < (n : Int) := by clear hC ih; omega
    have k3 : ∀ x : Int32, (0 ≤ x.toInt ∧ x.toInt ≤ x4.toInt + 1) → 0 ≤ x.toInt ∧ x.toInt ≤ (x5 + 1).toInt - 170 * y1.toInt := by clear hC ih; intro x h; omega
    have k4 : inB x5 2890 := by clear hC ih; exact ⟨by omega, by omega⟩
    have k5 : inB x4 170 := by clear hC ih; exact ⟨by omega, by omega⟩
    obtain ⟨m, em⟩ : ∃ m, (170 * y1.toInt + y3.toInt - x5.toInt).toNat = m + 1 := ⟨(170 * y1.toInt + y3.toInt - x5.toInt).toNat - 1, by clear hC ih; omega⟩
    rw [em] at hC
    have em' : (170 * y1.toInt + y3.toInt - (x5 + 1).toInt).toNat = m := by clear hC ih; omega
    have e5 : (x5 + 1).toInt.toNat = x5.toInt.toNat + 1 := by clear hC ih; omega
    have e4 : (x4 + 1).toInt.toNat = x4.toInt.toNat + 1 := by clear hC ih; omega
    unfold Cd at hC
    with_reducible refine Ok_gd k4 (fun gx => ?_)
    with_reducible refine Ok_vl ?_
    have rA : zI s 93 x5.toInt.toNat = zI c0 93 x5.toInt.toNat := by rw [S.1 93 (by omega) (by omega)]
    have rB : zI s 94 x5.toInt.toNat = zI c0 94 x5.toInt.toNat := by rw [S.1 94 (by omega) (by omega)]
    rw [rA, rB]
    have go : ∀ (s' : SS) (x : Int32), Lk b0 s' → Sm5 c0 s' → (0 ≤ x.toInt ∧ x.toInt ≤ x4.toInt + 1) → Cd (zI c0 93) (zI c0 94) m (x5.toInt.toNat + 1) x.toInt.toNat → Ok (f_X12_worked_L12 q0 y1 y3 n s' x (x5 + 1)) Q := fun s' x K' S' h1 h2 => ih s' x (x5 + 1) K' S' (k3 x h1) k1 (by rw [em', e5]; exact h2) k2
    clear em em' k1 k2 k3 hm
    with_reducible refine Ok_jn ?_
    with_reducible refine Ok_jn ?_
    with_reducible refine Ok_if (fun c1 => ?_) (fun c1 => ?_)
    · rw [if_pos c1] at hC
      with_reducible refine Ok_jn ?_
      with_reducible refine Ok_ift c1 ?_
      with_reducible refine Ok_gd gx (fun _ => ?_)
      with_reducible refine Ok_gd k5 (fun _ => ?_)
      with_reducible refine Ok_st ?_
      with_reducible refine Ok_vl ?_
      with_reducible refine Ok_vl ?_
      exact go _ _ (K.wI (by decide) (by decide) trivial) S.p96 (by clear hC go; omega) (by rw [e4]; exact hC)
    rw [if_neg c1] at hC
    with_reducible refine Ok_if (fun c2 => ?_) (fun c2 => ?_)
    · rw [if_pos c2] at hC
      with_reducible refine Ok_jn ?_
      with_reducible refine Ok_iff c1 ?_
      with_reducible refine Ok_gd gx (fun _ => ?_)
      with_reducible refine Ok_vl ?_
      with_reducible refine Ok_gd ⟨hC.1.1, by have h7 := hC.1.2; clear hC go; omega⟩ (fun _ => ?_)
      with_reducible refine Ok_gd k5 (fun _ => ?_)
      with_reducible refine Ok_st ?_
      with_reducible refine Ok_vl ?_
      with_reducible refine Ok_vl ?_
      exact go _ _ (K.wI (by decide) (by decide) trivial) S.p96 (by clear hC go; omega) (by rw [e4]; exact hC.2)
    rw [if_neg c2] at hC
    with_reducible refine Ok_if (fun c3 => ?_) (fun c3 => ?_)
    · rw [if_pos (Or.inl c3)] at hC
      have h4 := hC.1
      clear x4n x5n e4 e5
      obtain ⟨u, eu, hu⟩ : ∃ u, x4 - 1 = u ∧ u.toInt = x4.toInt - 1 := ⟨_, rfl, by clear hC go; rw [i32_sub (by rw [jl1]; omega) (by rw [jl1]; omega), jl1]⟩
      rw [eu]
      with_reducible refine Ok_vl ?_
      with_reducible refine Ok_gd ⟨by clear hC go; omega, by clear hC go; omega⟩ (fun g => ?_)
      with_reducible refine Ok_jn ?_
      with_reducible refine Ok_if (fun _ => ?_) (fun _ => ?_)
      · with_reducible refine Ok_vl ?_
        with_reducible refine Ok_gd g (fun _ => ?_)
        with_reducible refine Ok_st ?_
        with_reducible refine Ok_vl ?_
        exact go _ _ (K.wI (by decide) (by decide) trivial) S.p96 (by clear hC go; omega) hC.2
      · with_reducible refine Ok_vl ?_
        with_reducible refine Ok_gd g (fun _ => ?_)
        with_reducible refine Ok_st ?_
        with_reducible refine Ok_vl ?_
        exact go _ _ (K.wI (by decide) (by decide) trivial) S.p96 (by clear hC go; omega) hC.2
    with_reducible refine Ok_if (fun c4 => ?_) (fun c4 => ?_)
    · rw [if_pos (Or.inr c4)] at hC
      have h4 := hC.1
      clear x4n x5n e4 e5
      obtain ⟨u, eu, hu⟩ : ∃ u, x4 - 1 = u ∧ u.toInt = x4.toInt - 1 := ⟨_, rfl, by clear hC go; rw [i32_sub (by rw [jl1]; omega) (by rw [jl1]; omega), jl1]⟩
      rw [eu]
      with_reducible refine Ok_vl ?_
      with_reducible refine Ok_gd ⟨by clear hC go; omega, by clear hC go; omega⟩ (fun g => ?_)
      with_reducible refine Ok_vl ?_
      with_reducible refine Ok_vl ?_
      with_reducible refine Ok_gd g (fun _ => ?_)
      with_reducible refine Ok_st ?_
      with_reducible refine Ok_vl ?_
      exact go _ _ (K.wI (by decide) (by decide) trivial) S.p96 (by clear hC go; omega) hC.2
    · rw [if_neg (show ¬ (zI c0 93 x5.toInt.toNat = 3 ∨ zI c0 93 x5.toInt.toNat = 4) from fun z => z.elim c3 c4)] at hC
      have h4 := hC.1
      clear x4n x5n e4 e5
      obtain ⟨u, eu, hu⟩ : ∃ u, x4 + (-1) = u ∧ u.toInt = x4.toInt - 1 := ⟨_, rfl, by clear hC go; rw [i32_add (by rw [jn1]; omega) (by rw [jn1]; omega), jn1]; omega⟩
      rw [eu]
      obtain ⟨w, ew, hw⟩ : ∃ w, u - 1 = w ∧ w.toInt = x4.toInt - 2 := ⟨_, rfl, by clear hC go; rw [i32_sub (by rw [jl1]; omega) (by rw [jl1]; omega), jl1]; omega⟩
      with_reducible refine Ok_vl ?_
      rw [ew]
      with_reducible refine Ok_vl ?_
      with_reducible refine Ok_gd ⟨by clear hC go; omega, by clear hC go; omega⟩ (fun g => ?_)
      with_reducible refine Ok_gd ⟨by clear hC go; omega, by clear hC go; omega⟩ (fun _ => ?_)
      with_reducible refine Ok_b1 ((w_X12_both).mono (fun r _ => ?_))
      with_reducible refine Ok_vl ?_
      with_reducible refine Ok_gd g (fun _ => ?_)
      with_reducible refine Ok_st ?_
      with_reducible refine Ok_vl ?_
      exact go _ _ (K.wI (by decide) (by decide) trivial) S.p96 (by clear hC go; omega) (by rw [show u.toInt.toNat = x4.toInt.toNat - 1 by clear hC go; omega]; exact hC.2)
theorem w_X12_worked {b0 s0 : SS} {a0 a1 a2 : Int32} (K : Lk b0 s0) (h0 : 0 ≤ a0.toInt ∧ a0.toInt ≤ 15) (h1 : 0 ≤ a1.toInt ∧ a1.toInt ≤ a2.toInt ∧ a2.toInt ≤ 160) (hC : Cd (zI s0 93) (zI s0 94) (a2.toInt - a1.toInt).toNat (170 * a0.toInt.toNat + a1.toInt.toNat) 0) : Ok (f_X12_worked s0 a0 a1 a2) (fun r => Lk b0 r.2 ∧ Sm5 s0 r.2) := by
  unfold f_X12_worked
  have j170 : (170 : Int32).toInt = 170 := rfl
  have j0 : (0 : Int32).toInt = 0 := rfl
  have m1 : (170 * a0).toInt = 170 * a0.toInt := by rw [i32_mul (by rw [j170]; omega) (by rw [j170]; omega), j170]
  have m2 : (170 * a0 + a1).toInt = 170 * a0.toInt + a1.toInt := by rw [i32_add (by rw [m1]; omega) (by rw [m1]; omega), m1]
  with_reducible refine Ok_vl ?_
  refine w_X12_worked_L12 (c0 := s0) h0 (by omega) (fun s K' S => Ok_some ⟨K', S⟩) 4000 s0 0 _ K ⟨fun _ _ _ => rfl, S7.rf⟩ (by rw [m2, j0]; omega) (by rw [m2]; omega) ?_ (by rw [m2]; omega)
  rw [m2, show (170 * a0.toInt + a2.toInt - (170 * a0.toInt + a1.toInt)).toNat = (a2.toInt - a1.toInt).toNat by omega, show (170 * a0.toInt + a1.toInt).toNat = 170 * a0.toInt.toNat + a1.toInt.toNat by omega]
  exact hC
theorem w_X12_gives_L4 {b0 c0 : SS} {q0 : SS → Int32 → Option (Int32 × SS)} {y1 : Int32} {Q : Int32 × SS → Prop} (g0 : 0 ≤ y1.toInt ∧ y1.toInt ≤ 15) (hM : 0 ≤ (zI c0 90 y1.toInt.toNat).toInt ∧ (zI c0 90 y1.toInt.toNat).toInt ≤ 90) (hT : TWr (zI c0 91) (zI c0 92) (zI c0 93) (zI c0 94) y1.toInt.toNat (zI c0 90 y1.toInt.toNat).toInt.toNat) (hr : ∀ v s, Lk b0 s → Sm5 c0 s → Q (v, s)) (hq0 : ∀ (s : SS) (x : Int32) (i : Nat), Lk b0 s → Sm5 c0 s → i < (zI c0 90 y1.toInt.toNat).toInt.toNat → x.toInt = 90 * y1.toInt + i → Ok (q0 s x) Q) :
    ∀ (n : Nat) (s : SS) (x2 x3 : Int32), Lk b0 s → Sm5 c0 s → (0 ≤ x3.toInt ∧ x3.toInt ≤ 90) → x2.toInt = fromL (zI c0 92) y1.toInt.toNat x3.toInt.toNat → 90 - x3.toInt < (n : Int) → Ok (f_X12_gives_L4 q0 y1 n s x2 x3) Q := by
  intro n
  induction n with
  | zero =>
    intro s x2 x3 K S i0 i1 hm
    exfalso
    omega
  | succ n ih =>
    intro s x2 x3 K S i0 i1 hm
    show Ok (f_X12_gives_L4_b q0 y1 (f_X12_gives_L4 q0 y1 n) s x2 x3) Q
    unfold f_X12_gives_L4_b
    have j90 : (90 : Int32).toInt = 90 := rfl
    have j1 : (1 : Int32).toInt = 1 := rfl
    have m1 : (90 * y1).toInt = 90 * y1.toInt := by rw [i32_mul (by rw [j90]; omega) (by rw [j90]; omega), j90]
    have m2 : (90 * y1 + x3).toInt = 90 * y1.toInt + x3.toInt := by rw [i32_add (by rw [m1]; omega) (by rw [m1]; omega), m1]
    with_reducible refine Ok_gd ⟨by omega, by omega⟩ (fun gy => ?_)
    have r90 : zI s 90 y1.toInt.toNat = zI c0 90 y1.toInt.toNat := by rw [S.1 90 (by omega) (by omega)]
    rw [r90]
    with_reducible refine Ok_if (fun c => ?_) (fun _ => Ok_some (hr _ _ K S))
    rw [Int32.lt_iff_toInt_lt] at c
    obtain ⟨t1, t2, t3⟩ := hT x3.toInt.toNat (by omega)
    have en : (90 * y1 + x3).toInt.toNat = 90 * y1.toInt.toNat + x3.toInt.toNat := by rw [m2]; omega
    with_reducible refine Ok_vl ?_
    with_reducible refine Ok_gd ⟨by rw [m2]; omega, by rw [m2]; omega⟩ (fun gl => ?_)
    have r91 : zI s 91 (90 * y1 + x3).toInt.toNat = zI c0 91 (90 * y1.toInt.toNat + x3.toInt.toNat) := by rw [S.1 91 (by omega) (by omega), en]
    rw [r91]
    with_reducible refine Ok_if (fun _ => hq0 s _ x3.toInt.toNat K S (by omega) (by rw [m2]; omega)) (fun _ => ?_)
    with_reducible refine Ok_gd gl (fun _ => ?_)
    with_reducible refine Ok_bd ((w_X12_worked (a0 := y1) (a1 := x2) (a2 := zI c0 91 (90 * y1.toInt.toNat + x3.toInt.toNat)) K g0 (by rw [i1]; omega) ?_).mono (fun r h => ?_))
    · rw [S.1 93 (by omega) (by omega), S.1 94 (by omega) (by omega), i1]
      exact t2
    · obtain ⟨K', S'⟩ := h
      have S2 : Sm5 c0 r.2 := ⟨fun q h1 h2 => (S'.1 q h1 h2).trans (S.1 q h1 h2), S7.tr S'.2 S.2⟩
      with_reducible refine Ok_if (fun _ => ?_) (fun _ => hq0 r.2 _ x3.toInt.toNat K' S2 (by omega) (by rw [m2]; omega))
      with_reducible refine Ok_gd gl (fun _ => ?_)
      with_reducible refine Ok_vl ?_
      with_reducible refine Ok_vl ?_
      have x3n : (x3 + 1).toInt = x3.toInt + 1 := by rw [i32_add (by rw [j1]; omega) (by rw [j1]; omega), j1]
      refine ih r.2 _ _ K' S2 (by omega) ?_ (by omega)
      have r92 : zI r.2 92 (90 * y1 + x3).toInt.toNat = zI c0 92 (90 * y1.toInt.toNat + x3.toInt.toNat) := by rw [S2.1 92 (by omega) (by omega), en]
      rw [r92, show (x3 + 1).toInt.toNat = x3.toInt.toNat + 1 by omega]
      unfold fromL
      rw [if_neg (by omega), show 90 * y1.toInt.toNat + (x3.toInt.toNat + 1) - 1 = 90 * y1.toInt.toNat + x3.toInt.toNat by omega]
theorem w_X12_gives {b0 s0 : SS} {a0 : Int32} (K : Lk b0 s0) (h : 0 ≤ a0.toInt ∧ a0.toInt ≤ 15 ∧ a0.toInt < (zS s0 59 38).toInt) : Ok (f_X12_gives s0 a0) (fun r => Lk b0 r.2 ∧ S7 s0 r.2) := by
  unfold f_X12_gives
  obtain ⟨hM, hT⟩ := K.1.2.1 a0.toInt.toNat (by omega)
  refine w_X12_gives_L4 (c0 := s0) (by omega) hM hT (fun v s K' S => ⟨K', S.2⟩) (fun s x i K' S hi hx => ?_) 4000 s0 0 0 K ⟨fun _ _ _ => rfl, S7.rf⟩ (by decide) rfl (by decide)
  obtain ⟨t1, t2, t3⟩ := hT i hi
  have ex : x.toInt.toNat = 90 * a0.toInt.toNat + i := by omega
  have gx : inB x 1530 := ⟨by omega, by omega⟩
  with_reducible refine Ok_gd gx (fun _ => ?_)
  with_reducible refine Ok_gd gx (fun _ => ?_)
  have r91 : zI s 91 x.toInt.toNat = zI s0 91 (90 * a0.toInt.toNat + i) := by rw [S.1 91 (by omega) (by omega), ex]
  have r92 : zI s 92 x.toInt.toNat = zI s0 92 (90 * a0.toInt.toNat + i) := by rw [S.1 92 (by omega) (by omega), ex]
  rw [r91, r92]
  have z7 : ∀ r : Int32 × SS, (Lk b0 r.2 ∧ Sm5 s r.2) → Lk b0 r.2 ∧ S7 s0 r.2 := fun r h => ⟨h.1, S7.tr h.2.2 S.2⟩
  with_reducible refine Ok_bd ((w_X12_worked K' (by omega) ⟨by omega, t1.2.2.1, t1.2.2.2⟩ ?_).mono (fun r h => Ok_some (z7 r h)))
  rw [S.1 93 (by omega) (by omega), S.1 94 (by omega) (by omega)]
  exact t3
