set_option maxRecDepth 4000 in
theorem w_X12_isHole {b0 : SS} {s0 : SS} {a0 : Int32} (K : Lk b0 s0) : Ok (f_X12_isHole s0 a0) (fun r => r.toInt = 0 ∨ (0 ≤ a0.toInt ∧ a0.toInt ≤ 119)) := by
  unfold f_X12_isHole
  have f0 := (K.f (q := 59) (k := 4) rfl)
  repeat' (first
    | with_reducible assumption
    | dsimp only
    | with_reducible refine Ok_some ?_
    | with_reducible refine Lk_g120 (by assumption) ?_ (fun _ _ _ _ _ => ?_)
    | with_reducible refine Ok_gd ?_ (fun _ => ?_)
    | with_reducible refine Ok_b1 ?_
    | with_reducible refine Ok_ift (by decide) ?_
    | with_reducible refine Ok_iff (by decide) ?_
    | with_reducible refine Ok_if (fun _ => ?_) (fun _ => ?_)
    | with_reducible refine Ok.mono (w_X12_isUnder ) (fun _ _ => ?_)
    | with_reducible refine Ok.mono (w_X12_in ) (fun _ _ => ?_)
    | with_reducible refine And.intro ?_ ?_
    | unfold f_X12_isBody)
  all_goals (try (first | with_reducible assumption | exact trivial | omega | ((try clear ih); (try clear hr); (try clear hq0); (try clear hq1); (try clear hrec); ((try simp only [inB, Rs, Pg, Px, Ps, Pr, Pl, jcl, Rg, cellOK, bF, bA, bH, bV, jlt, jeq, jd4, jd10, jd20, jd24, jd60, jd100, jm4, jm10, jm20, jm24, jm60, jm100, Int32.reduceToInt, jn1, jn2, jn3, jn4, jn5, jn6, jn7, jn8, jn9, jn10, jn11, jn12, jn13, jn14, jn15, jn16, jn17, jn18, jn19, jn20, jn21, jn22, jn23, jn24, jn100, jn2000000000, zS_pS, zS_pI, zS_pJ, zS_pR, zS_pF, zS_pG, zI_pI, zI_pS, zI_pJ, zI_pR, zI_pF, zI_pG, zN_pS, zN_pI, zN_pJ, Nat.reduceEqDiff, Nat.reduceAdd, Nat.reduceMul, ite_true, ite_false, and_true, true_and, and_false, false_and, true_or, or_true, false_or, or_false, not_true_eq_false, not_false_eq_true, reduceIte, reduceCtorEq, eq_self] at *) <;> (first | omega | ((try simp (disch := first | omega | (simp (disch := first | omega | (simp (disch := first | omega | (simp only [jd4, jd10, jd20, jd24, jd60, jd100, jm4, jm10, jm20, jm24, jm60, jm100, Int32.reduceToInt]; omega)) only [i32_add, i32_sub, i32_mul, jd4, jd10, jd20, jd24, jd60, jd100, jm4, jm10, jm20, jm24, jm60, jm100, Int32.reduceToInt]; omega)) only [i32_add, i32_sub, i32_mul, jd4, jd10, jd20, jd24, jd60, jd100, jm4, jm10, jm20, jm24, jm60, jm100, Int32.reduceToInt]; omega)) only [i32_add, i32_sub, i32_mul, jd4, jd10, jd20, jd24, jd60, jd100, jm4, jm10, jm20, jm24, jm60, jm100, Int32.reduceToInt] at *) <;> (first | omega | ((try simp (disch := first | omega | (simp (disch := first | omega | (simp (disch := first | omega | (simp only [jd4, jd10, jd20, jd24, jd60, jd100, jm4, jm10, jm20, jm24, jm60, jm100, Int32.reduceToInt]; omega)) only [i32_add, i32_sub, i32_mul, jd4, jd10, jd20, jd24, jd60, jd100, jm4, jm10, jm20, jm24, jm60, jm100, Int32.reduceToInt]; omega)) only [i32_add, i32_sub, i32_mul, jd4, jd10, jd20, jd24, jd60, jd100, jm4, jm10, jm20, jm24, jm60, jm100, Int32.reduceToInt]; omega)) only [i32_add, i32_sub, i32_mul, jd4, jd10, jd20, jd24, jd60, jd100, jm4, jm10, jm20, jm24, jm60, jm100, Int32.reduceToInt] at *) <;> (first | omega | ((simp only [jadd, jsub, jmul, jneg, Int32.reduceToInt] at *) <;> omega))))))))))
set_option maxRecDepth 4000 in
theorem w_X12_isMan {b0 : SS} {s0 : SS} {a0 : Int32} (K : Lk b0 s0) : Ok (f_X12_isMan s0 a0) (fun r => r.toInt = 0 ∨ (0 ≤ a0.toInt ∧ a0.toInt ≤ 119)) := by
  unfold f_X12_isMan
  have f0 := (K.f (q := 59) (k := 4) rfl)
  repeat' (first
    | with_reducible assumption
    | dsimp only
    | with_reducible refine Ok_some ?_
    | with_reducible refine Lk_g120 (by assumption) ?_ (fun _ _ _ _ _ => ?_)
    | with_reducible refine Ok_gd ?_ (fun _ => ?_)
    | with_reducible refine Ok_b1 ?_
    | with_reducible refine Ok_ift (by decide) ?_
    | with_reducible refine Ok_iff (by decide) ?_
    | with_reducible refine Ok_if (fun _ => ?_) (fun _ => ?_)
    | with_reducible refine Ok.mono (w_X12_in ) (fun _ _ => ?_)
    | with_reducible refine And.intro ?_ ?_
    | unfold f_X12_isBody)
  all_goals (try (first | with_reducible assumption | exact trivial | omega | ((try clear ih); (try clear hr); (try clear hq0); (try clear hq1); (try clear hrec); ((try simp only [inB, Rs, Pg, Px, Ps, Pr, Pl, jcl, Rg, cellOK, bF, bA, bH, bV, jlt, jeq, jd4, jd10, jd20, jd24, jd60, jd100, jm4, jm10, jm20, jm24, jm60, jm100, Int32.reduceToInt, jn1, jn2, jn3, jn4, jn5, jn6, jn7, jn8, jn9, jn10, jn11, jn12, jn13, jn14, jn15, jn16, jn17, jn18, jn19, jn20, jn21, jn22, jn23, jn24, jn100, jn2000000000, zS_pS, zS_pI, zS_pJ, zS_pR, zS_pF, zS_pG, zI_pI, zI_pS, zI_pJ, zI_pR, zI_pF, zI_pG, zN_pS, zN_pI, zN_pJ, Nat.reduceEqDiff, Nat.reduceAdd, Nat.reduceMul, ite_true, ite_false, and_true, true_and, and_false, false_and, true_or, or_true, false_or, or_false, not_true_eq_false, not_false_eq_true, reduceIte, reduceCtorEq, eq_self] at *) <;> (first | omega | ((try simp (disch := first | omega | (simp (disch := first | omega | (simp (disch := first | omega | (simp only [jd4, jd10, jd20, jd24, jd60, jd100, jm4, jm10, jm20, jm24, jm60, jm100, Int32.reduceToInt]; omega)) only [i32_add, i32_sub, i32_mul, jd4, jd10, jd20, jd24, jd60, jd100, jm4, jm10, jm20, jm24, jm60, jm100, Int32.reduceToInt]; omega)) only [i32_add, i32_sub, i32_mul, jd4, jd10, jd20, jd24, jd60, jd100, jm4, jm10, jm20, jm24, jm60, jm100, Int32.reduceToInt]; omega)) only [i32_add, i32_sub, i32_mul, jd4, jd10, jd20, jd24, jd60, jd100, jm4, jm10, jm20, jm24, jm60, jm100, Int32.reduceToInt] at *) <;> (first | omega | ((try simp (disch := first | omega | (simp (disch := first | omega | (simp (disch := first | omega | (simp only [jd4, jd10, jd20, jd24, jd60, jd100, jm4, jm10, jm20, jm24, jm60, jm100, Int32.reduceToInt]; omega)) only [i32_add, i32_sub, i32_mul, jd4, jd10, jd20, jd24, jd60, jd100, jm4, jm10, jm20, jm24, jm60, jm100, Int32.reduceToInt]; omega)) only [i32_add, i32_sub, i32_mul, jd4, jd10, jd20, jd24, jd60, jd100, jm4, jm10, jm20, jm24, jm60, jm100, Int32.reduceToInt]; omega)) only [i32_add, i32_sub, i32_mul, jd4, jd10, jd20, jd24, jd60, jd100, jm4, jm10, jm20, jm24, jm60, jm100, Int32.reduceToInt] at *) <;> (first | omega | ((simp only [jadd, jsub, jmul, jneg, Int32.reduceToInt] at *) <;> omega))))))))))
set_option maxRecDepth 4000 in
theorem w_X12_ofBody {b0 : SS} {s0 : SS} {a0 : Int32} {a1 : Int32} (K : Lk b0 s0) : Ok (f_X12_ofBody s0 a0 a1) (fun _ => True) := by
  unfold f_X12_ofBody
  have f0 := (K.f (q := 59) (k := 4) rfl)
  repeat' (first
    | with_reducible assumption
    | dsimp only
    | with_reducible refine Ok_some ?_
    | with_reducible refine Lk_g120 (by assumption) ?_ (fun _ _ _ _ _ => ?_)
    | with_reducible refine Ok_gd ?_ (fun _ => ?_)
    | with_reducible refine Ok_b1 ?_
    | with_reducible refine Ok_ift (by decide) ?_
    | with_reducible refine Ok_iff (by decide) ?_
    | with_reducible refine Ok_if (fun _ => ?_) (fun _ => ?_)
    | with_reducible refine Ok.mono (w_X12_isHole (b0 := b0) ?_) (fun _ _ => ?_)
    | with_reducible refine Ok.mono (w_X12_in ) (fun _ _ => ?_)
    | with_reducible refine And.intro ?_ ?_
    | unfold f_X12_isBody)
  all_goals (try (first | with_reducible assumption | exact trivial | omega | ((try clear ih); (try clear hr); (try clear hq0); (try clear hq1); (try clear hrec); ((try simp only [inB, Rs, Pg, Px, Ps, Pr, Pl, jcl, Rg, cellOK, bF, bA, bH, bV, jlt, jeq, jd4, jd10, jd20, jd24, jd60, jd100, jm4, jm10, jm20, jm24, jm60, jm100, Int32.reduceToInt, jn1, jn2, jn3, jn4, jn5, jn6, jn7, jn8, jn9, jn10, jn11, jn12, jn13, jn14, jn15, jn16, jn17, jn18, jn19, jn20, jn21, jn22, jn23, jn24, jn100, jn2000000000, zS_pS, zS_pI, zS_pJ, zS_pR, zS_pF, zS_pG, zI_pI, zI_pS, zI_pJ, zI_pR, zI_pF, zI_pG, zN_pS, zN_pI, zN_pJ, Nat.reduceEqDiff, Nat.reduceAdd, Nat.reduceMul, ite_true, ite_false, and_true, true_and, and_false, false_and, true_or, or_true, false_or, or_false, not_true_eq_false, not_false_eq_true, reduceIte, reduceCtorEq, eq_self] at *) <;> (first | omega | ((try simp (disch := first | omega | (simp (disch := first | omega | (simp (disch := first | omega | (simp only [jd4, jd10, jd20, jd24, jd60, jd100, jm4, jm10, jm20, jm24, jm60, jm100, Int32.reduceToInt]; omega)) only [i32_add, i32_sub, i32_mul, jd4, jd10, jd20, jd24, jd60, jd100, jm4, jm10, jm20, jm24, jm60, jm100, Int32.reduceToInt]; omega)) only [i32_add, i32_sub, i32_mul, jd4, jd10, jd20, jd24, jd60, jd100, jm4, jm10, jm20, jm24, jm60, jm100, Int32.reduceToInt]; omega)) only [i32_add, i32_sub, i32_mul, jd4, jd10, jd20, jd24, jd60, jd100, jm4, jm10, jm20, jm24, jm60, jm100, Int32.reduceToInt] at *) <;> (first | omega | ((try simp (disch := first | omega | (simp (disch := first | omega | (simp (disch := first | omega | (simp only [jd4, jd10, jd20, jd24, jd60, jd100, jm4, jm10, jm20, jm24, jm60, jm100, Int32.reduceToInt]; omega)) only [i32_add, i32_sub, i32_mul, jd4, jd10, jd20, jd24, jd60, jd100, jm4, jm10, jm20, jm24, jm60, jm100, Int32.reduceToInt]; omega)) only [i32_add, i32_sub, i32_mul, jd4, jd10, jd20, jd24, jd60, jd100, jm4, jm10, jm20, jm24, jm60, jm100, Int32.reduceToInt]; omega)) only [i32_add, i32_sub, i32_mul, jd4, jd10, jd20, jd24, jd60, jd100, jm4, jm10, jm20, jm24, jm60, jm100, Int32.reduceToInt] at *) <;> (first | omega | ((simp only [jadd, jsub, jmul, jneg, Int32.reduceToInt] at *) <;> omega))))))))))
/-! THE REFERENCE: the men below -/
theorem w_X12_menBelow_L4 {b0 s0 : SS} {Q : Int32 → Prop} (K : Lk b0 s0) (hr : ∀ v, (v = 0 ∨ E7 s0 0) → Q v) : ∀ (n : Nat) (x1 x2 : Int32), (x1 = 0 ∨ E7 s0 0) → (0 ≤ x2.toInt ∧ x2.toInt ≤ 120) → 120 - x2.toInt < (n : Int) → Ok (f_X12_menBelow_L4 s0 n x1 x2) Q := by
  intro n
  induction n with
  | zero =>
    intro x1 x2 e i0 hm
    exfalso
    omega
  | succ n ih =>
    intro x1 x2 e i0 hm
    show Ok (f_X12_menBelow_L4_b s0 (f_X12_menBelow_L4 s0 n) x1 x2) Q
    unfold f_X12_menBelow_L4_b
    have hf : 0 ≤ (zS s0 59 4).toInt ∧ (zS s0 59 4).toInt ≤ 120 := K.f (q := 59) (k := 4) rfl
    with_reducible refine Ok_if (fun c => ?_) (fun _ => Ok_some (hr _ e))
    rw [Int32.lt_iff_toInt_lt] at c
    have x2n : (x2 + 1).toInt = x2.toInt + 1 := by rw [i32_add (by rw [jl1]; omega) (by rw [jl1]; omega), jl1]
    with_reducible refine Ok_gd ⟨i0.1, by omega⟩ (fun _ => ?_)
    with_reducible refine Ok_jn ?_
    with_reducible refine Ok_if (fun _ => ?_) (fun c2 => ?_)
    · with_reducible refine Ok_vl ?_
      with_reducible refine Ok_vl ?_
      refine ih _ _ ?_ (by omega) (by omega)
      rcases e with e | e
      · left
        rw [e]
        rfl
      · exact Or.inr e
    · with_reducible refine Ok_vl ?_
      with_reducible refine Ok_vl ?_
      exact ih _ _ (Or.inr ⟨x2.toInt.toNat, by rw [jl0]; omega, by omega, c2⟩) (by omega) (by omega)
theorem w_X12_menBelow {b0 s0 : SS} (K : Lk b0 s0) : Ok (f_X12_menBelow s0) (fun r => r = 0 ∨ E7 s0 0) := by
  unfold f_X12_menBelow
  exact w_X12_menBelow_L4 K (fun _ h => h) 4000 0 0 (Or.inl rfl) (by decide) (by decide)
