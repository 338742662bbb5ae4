set_option maxRecDepth 4000 in
theorem w_X7_compiled {b0 : SS} {s0 : SS} (K : Lk b0 s0) (g0 : 0 ≤ (zS s0 0 8).toInt ∧ (zS s0 0 8).toInt ≤ 15) : Ok (f_X7_compiled s0) (fun r => Lk b0 r.2 ∧ Rs r.2) := by
  unfold f_X7_compiled
  have e0 := (K.f (q := 24) (k := 1) rfl)
  repeat' (first
    | with_reducible assumption
    | dsimp only
    | with_reducible refine Ok_some ?_
    | with_reducible refine Ok_vl ?_
    | with_reducible refine Ok_st ?_
    | with_reducible refine Ok_b1 ?_
    | with_reducible refine Ok_ift (by decide) ?_
    | with_reducible refine Ok_iff (by decide) ?_
    | with_reducible refine Ok_if (fun _ => ?_) (fun _ => ?_)
    | with_reducible refine Ok.mono (w_X7_line (b0 := b0) ?_ ?_) (fun _ ⟨_, _⟩ => ?_)
    | with_reducible refine w_X7_compiled_L21 (b0 := b0) (fun _ _ _ => ?_) _ _ _  ?_ ?_ ?_ ?_
    | with_reducible refine Lk.wF ?_ (by decide) (by decide) (by decide) ?_
    | with_reducible refine And.intro ?_ ?_)
  all_goals (try (first | with_reducible assumption | exact trivial | omega | ((try clear ih); (try clear hr); (try clear hq0); (try clear hq1); (try clear hrec); ((try simp only [inB, Rs, Pg, Px, Ps, Pr, Pl, jcl, Rg, cellOK, bF, bA, bH, bV, jlt, jeq, jd4, jd10, jd20, jd24, jd60, jd100, jm4, jm10, jm20, jm24, jm60, jm100, Int32.reduceToInt, jn1, jn2, jn3, jn4, jn5, jn6, jn7, jn8, jn9, jn10, jn11, jn12, jn13, jn14, jn15, jn16, jn17, jn18, jn19, jn20, jn21, jn22, jn23, jn24, jn100, jn2000000000, zS_pS, zS_pI, zS_pJ, zS_pR, zS_pF, zS_pG, zI_pI, zI_pS, zI_pJ, zI_pR, zI_pF, zI_pG, zN_pS, zN_pI, zN_pJ, Nat.reduceEqDiff, Nat.reduceAdd, Nat.reduceMul, ite_true, ite_false, and_true, true_and, and_false, false_and, true_or, or_true, false_or, or_false, not_true_eq_false, not_false_eq_true, reduceIte, reduceCtorEq, eq_self] at *) <;> (first | omega | ((try simp (disch := first | omega | (simp (disch := first | omega | (simp (disch := first | omega | (simp only [jd4, jd10, jd20, jd24, jd60, jd100, jm4, jm10, jm20, jm24, jm60, jm100, Int32.reduceToInt]; omega)) only [i32_add, i32_sub, i32_mul, jd4, jd10, jd20, jd24, jd60, jd100, jm4, jm10, jm20, jm24, jm60, jm100, Int32.reduceToInt]; omega)) only [i32_add, i32_sub, i32_mul, jd4, jd10, jd20, jd24, jd60, jd100, jm4, jm10, jm20, jm24, jm60, jm100, Int32.reduceToInt]; omega)) only [i32_add, i32_sub, i32_mul, jd4, jd10, jd20, jd24, jd60, jd100, jm4, jm10, jm20, jm24, jm60, jm100, Int32.reduceToInt] at *) <;> (first | omega | ((try simp (disch := first | omega | (simp (disch := first | omega | (simp (disch := first | omega | (simp only [jd4, jd10, jd20, jd24, jd60, jd100, jm4, jm10, jm20, jm24, jm60, jm100, Int32.reduceToInt]; omega)) only [i32_add, i32_sub, i32_mul, jd4, jd10, jd20, jd24, jd60, jd100, jm4, jm10, jm20, jm24, jm60, jm100, Int32.reduceToInt]; omega)) only [i32_add, i32_sub, i32_mul, jd4, jd10, jd20, jd24, jd60, jd100, jm4, jm10, jm20, jm24, jm60, jm100, Int32.reduceToInt]; omega)) only [i32_add, i32_sub, i32_mul, jd4, jd10, jd20, jd24, jd60, jd100, jm4, jm10, jm20, jm24, jm60, jm100, Int32.reduceToInt] at *) <;> (first | omega | ((simp only [jadd, jsub, jmul, jneg, Int32.reduceToInt] at *) <;> omega))))))))))
set_option maxRecDepth 4000 in
theorem w_X9_arrivals_L4 {b0 : SS} {q0 : SS → Int32 → Option SS} {y1 : Int32} {Q : SS → Prop} (hq0 : ∀ (s : SS) (z0 : Int32), Lk b0 s → (0 ≤ z0.toInt ∧ z0.toInt ≤ 40) → Ok (q0 s z0) Q) : ∀ (n : Nat) (s : SS) (x2 : Int32) (x3 : Int32), Lk b0 s → (0 ≤ x2.toInt ∧ x2.toInt ≤ x3.toInt) → (0 ≤ x3.toInt ∧ x3.toInt ≤ 40) → 40 - x3.toInt < (n : Int) → Ok (f_X9_arrivals_L4 q0 y1 n s x2 x3) Q := by
  intro n
  induction n with
  | zero =>
    intro s x2 x3 K i0 i1 hm
    exfalso
    (first | with_reducible assumption | omega | ((try clear ih); (try clear hr); (try clear hq0); (try clear hq1); (try clear hrec); ((try simp only [inB, Rs, Pg, Px, Ps, Pr, Pl, jcl, Rg, cellOK, bF, bA, bH, bV, jlt, jeq, jd4, jd10, jd20, jd24, jd60, jd100, jm4, jm10, jm20, jm24, jm60, jm100, Int32.reduceToInt, jn1, jn2, jn3, jn4, jn5, jn6, jn7, jn8, jn9, jn10, jn11, jn12, jn13, jn14, jn15, jn16, jn17, jn18, jn19, jn20, jn21, jn22, jn23, jn24, jn100, jn2000000000, zS_pS, zS_pI, zS_pJ, zS_pR, zS_pF, zS_pG, zI_pI, zI_pS, zI_pJ, zI_pR, zI_pF, zI_pG, zN_pS, zN_pI, zN_pJ, Nat.reduceEqDiff, Nat.reduceAdd, Nat.reduceMul, ite_true, ite_false, and_true, true_and, and_false, false_and, true_or, or_true, false_or, or_false, not_true_eq_false, not_false_eq_true, reduceIte, reduceCtorEq, eq_self] at *) <;> (first | omega | ((try simp (disch := first | omega | (simp (disch := first | omega | (simp (disch := first | omega | (simp only [jd4, jd10, jd20, jd24, jd60, jd100, jm4, jm10, jm20, jm24, jm60, jm100, Int32.reduceToInt]; omega)) only [i32_add, i32_sub, i32_mul, jd4, jd10, jd20, jd24, jd60, jd100, jm4, jm10, jm20, jm24, jm60, jm100, Int32.reduceToInt]; omega)) only [i32_add, i32_sub, i32_mul, jd4, jd10, jd20, jd24, jd60, jd100, jm4, jm10, jm20, jm24, jm60, jm100, Int32.reduceToInt]; omega)) only [i32_add, i32_sub, i32_mul, jd4, jd10, jd20, jd24, jd60, jd100, jm4, jm10, jm20, jm24, jm60, jm100, Int32.reduceToInt] at *) <;> (first | omega | ((try simp (disch := first | omega | (simp (disch := first | omega | (simp (disch := first | omega | (simp only [jd4, jd10, jd20, jd24, jd60, jd100, jm4, jm10, jm20, jm24, jm60, jm100, Int32.reduceToInt]; omega)) only [i32_add, i32_sub, i32_mul, jd4, jd10, jd20, jd24, jd60, jd100, jm4, jm10, jm20, jm24, jm60, jm100, Int32.reduceToInt]; omega)) only [i32_add, i32_sub, i32_mul, jd4, jd10, jd20, jd24, jd60, jd100, jm4, jm10, jm20, jm24, jm60, jm100, Int32.reduceToInt]; omega)) only [i32_add, i32_sub, i32_mul, jd4, jd10, jd20, jd24, jd60, jd100, jm4, jm10, jm20, jm24, jm60, jm100, Int32.reduceToInt] at *) <;> (first | omega | ((simp only [jadd, jsub, jmul, jneg, Int32.reduceToInt] at *) <;> omega)))))))))
  | succ n ih =>
    intro s x2 x3 K i0 i1 hm
    show Ok (f_X9_arrivals_L4_b q0 y1 (f_X9_arrivals_L4 q0 y1 n) s x2 x3) Q
    unfold f_X9_arrivals_L4_b
    have f0 := (K.f (q := 30) (k := 5) rfl)
    repeat' (first
      | with_reducible assumption
      | dsimp only
      | with_reducible refine Ok_some ?_
      | with_reducible refine Lk_g40 (by assumption) ?_ (fun _ _ => ?_)
      | with_reducible refine Ok_gd ?_ (fun _ => ?_)
      | with_reducible refine Ok_vl ?_
      | with_reducible refine Ok_st ?_
      | with_reducible refine Ok_jn ?_
      | with_reducible refine Ok_b1 ?_
      | with_reducible refine Ok_ift (by decide) ?_
      | with_reducible refine Ok_iff (by decide) ?_
      | with_reducible refine Ok_if (fun _ => ?_) (fun _ => ?_)
      | with_reducible refine ih _ _ _  ?_ ?_ ?_ ?_
      | with_reducible refine hq0 _ _  ?_ ?_
      | with_reducible refine Lk.wI ?_ (by decide) (by decide) ?_
      | with_reducible refine Lk.wF ?_ (by decide) (by decide) (by decide) ?_
      | with_reducible refine And.intro ?_ ?_
      | unfold f_X9_comesBelow)
    all_goals (try (first | with_reducible assumption | exact trivial | omega | ((try clear ih); (try clear hr); (try clear hq0); (try clear hq1); (try clear hrec); ((try simp only [inB, Rs, Pg, Px, Ps, Pr, Pl, jcl, Rg, cellOK, bF, bA, bH, bV, jlt, jeq, jd4, jd10, jd20, jd24, jd60, jd100, jm4, jm10, jm20, jm24, jm60, jm100, Int32.reduceToInt, jn1, jn2, jn3, jn4, jn5, jn6, jn7, jn8, jn9, jn10, jn11, jn12, jn13, jn14, jn15, jn16, jn17, jn18, jn19, jn20, jn21, jn22, jn23, jn24, jn100, jn2000000000, zS_pS, zS_pI, zS_pJ, zS_pR, zS_pF, zS_pG, zI_pI, zI_pS, zI_pJ, zI_pR, zI_pF, zI_pG, zN_pS, zN_pI, zN_pJ, Nat.reduceEqDiff, Nat.reduceAdd, Nat.reduceMul, ite_true, ite_false, and_true, true_and, and_false, false_and, true_or, or_true, false_or, or_false, not_true_eq_false, not_false_eq_true, reduceIte, reduceCtorEq, eq_self] at *) <;> (first | omega | ((try simp (disch := first | omega | (simp (disch := first | omega | (simp (disch := first | omega | (simp only [jd4, jd10, jd20, jd24, jd60, jd100, jm4, jm10, jm20, jm24, jm60, jm100, Int32.reduceToInt]; omega)) only [i32_add, i32_sub, i32_mul, jd4, jd10, jd20, jd24, jd60, jd100, jm4, jm10, jm20, jm24, jm60, jm100, Int32.reduceToInt]; omega)) only [i32_add, i32_sub, i32_mul, jd4, jd10, jd20, jd24, jd60, jd100, jm4, jm10, jm20, jm24, jm60, jm100, Int32.reduceToInt]; omega)) only [i32_add, i32_sub, i32_mul, jd4, jd10, jd20, jd24, jd60, jd100, jm4, jm10, jm20, jm24, jm60, jm100, Int32.reduceToInt] at *) <;> (first | omega | ((try simp (disch := first | omega | (simp (disch := first | omega | (simp (disch := first | omega | (simp only [jd4, jd10, jd20, jd24, jd60, jd100, jm4, jm10, jm20, jm24, jm60, jm100, Int32.reduceToInt]; omega)) only [i32_add, i32_sub, i32_mul, jd4, jd10, jd20, jd24, jd60, jd100, jm4, jm10, jm20, jm24, jm60, jm100, Int32.reduceToInt]; omega)) only [i32_add, i32_sub, i32_mul, jd4, jd10, jd20, jd24, jd60, jd100, jm4, jm10, jm20, jm24, jm60, jm100, Int32.reduceToInt]; omega)) only [i32_add, i32_sub, i32_mul, jd4, jd10, jd20, jd24, jd60, jd100, jm4, jm10, jm20, jm24, jm60, jm100, Int32.reduceToInt] at *) <;> (first | omega | ((simp only [jadd, jsub, jmul, jneg, Int32.reduceToInt] at *) <;> omega))))))))))
set_option maxRecDepth 4000 in
theorem w_X9_arrivals {b0 : SS} {s0 : SS} {a0 : Int32} (K : Lk b0 s0) : Ok (f_X9_arrivals s0 a0) (fun r => Lk b0 r) := by
  unfold f_X9_arrivals
  repeat' (first
    | with_reducible assumption
    | dsimp only
    | with_reducible refine Ok_some ?_
    | with_reducible refine Ok_st ?_
    | with_reducible refine w_X9_arrivals_L4 (b0 := b0) (fun _ _ _ _ => ?_) _ _ _ _  ?_ ?_ ?_ ?_
    | with_reducible refine Lk.wF ?_ (by decide) (by decide) (by decide) ?_
    | with_reducible refine And.intro ?_ ?_)
  all_goals (try (first | with_reducible assumption | exact trivial | omega | ((try clear ih); (try clear hr); (try clear hq0); (try clear hq1); (try clear hrec); ((try simp only [inB, Rs, Pg, Px, Ps, Pr, Pl, jcl, Rg, cellOK, bF, bA, bH, bV, jlt, jeq, jd4, jd10, jd20, jd24, jd60, jd100, jm4, jm10, jm20, jm24, jm60, jm100, Int32.reduceToInt, jn1, jn2, jn3, jn4, jn5, jn6, jn7, jn8, jn9, jn10, jn11, jn12, jn13, jn14, jn15, jn16, jn17, jn18, jn19, jn20, jn21, jn22, jn23, jn24, jn100, jn2000000000, zS_pS, zS_pI, zS_pJ, zS_pR, zS_pF, zS_pG, zI_pI, zI_pS, zI_pJ, zI_pR, zI_pF, zI_pG, zN_pS, zN_pI, zN_pJ, Nat.reduceEqDiff, Nat.reduceAdd, Nat.reduceMul, ite_true, ite_false, and_true, true_and, and_false, false_and, true_or, or_true, false_or, or_false, not_true_eq_false, not_false_eq_true, reduceIte, reduceCtorEq, eq_self] at *) <;> (first | omega | ((try simp (disch := first | omega | (simp (disch := first | omega | (simp (disch := first | omega | (simp only [jd4, jd10, jd20, jd24, jd60, jd100, jm4, jm10, jm20, jm24, jm60, jm100, Int32.reduceToInt]; omega)) only [i32_add, i32_sub, i32_mul, jd4, jd10, jd20, jd24, jd60, jd100, jm4, jm10, jm20, jm24, jm60, jm100, Int32.reduceToInt]; omega)) only [i32_add, i32_sub, i32_mul, jd4, jd10, jd20, jd24, jd60, jd100, jm4, jm10, jm20, jm24, jm60, jm100, Int32.reduceToInt]; omega)) only [i32_add, i32_sub, i32_mul, jd4, jd10, jd20, jd24, jd60, jd100, jm4, jm10, jm20, jm24, jm60, jm100, Int32.reduceToInt] at *) <;> (first | omega | ((try simp (disch := first | omega | (simp (disch := first | omega | (simp (disch := first | omega | (simp only [jd4, jd10, jd20, jd24, jd60, jd100, jm4, jm10, jm20, jm24, jm60, jm100, Int32.reduceToInt]; omega)) only [i32_add, i32_sub, i32_mul, jd4, jd10, jd20, jd24, jd60, jd100, jm4, jm10, jm20, jm24, jm60, jm100, Int32.reduceToInt]; omega)) only [i32_add, i32_sub, i32_mul, jd4, jd10, jd20, jd24, jd60, jd100, jm4, jm10, jm20, jm24, jm60, jm100, Int32.reduceToInt]; omega)) only [i32_add, i32_sub, i32_mul, jd4, jd10, jd20, jd24, jd60, jd100, jm4, jm10, jm20, jm24, jm60, jm100, Int32.reduceToInt] at *) <;> (first | omega | ((simp only [jadd, jsub, jmul, jneg, Int32.reduceToInt] at *) <;> omega))))))))))
set_option maxRecDepth 4000 in
theorem w_X10_joined {a0 : Int32} {a1 : Int32} {a2 : Int32} : Ok (f_X10_joined a0 a1 a2) (fun _ => True) := by
  unfold f_X10_joined
  repeat' (first
    | with_reducible assumption
    | dsimp only
    | with_reducible refine Ok_some ?_
    | with_reducible refine Ok_gd ?_ (fun _ => ?_)
    | with_reducible refine Ok_ift (by decide) ?_
    | with_reducible refine Ok_iff (by decide) ?_
    | with_reducible refine Ok_if (fun _ => ?_) (fun _ => ?_)
    | with_reducible refine And.intro ?_ ?_)
  all_goals (try (first | with_reducible assumption | exact trivial | omega | ((try clear ih); (try clear hr); (try clear hq0); (try clear hq1); (try clear hrec); ((try simp only [inB, Rs, Pg, Px, Ps, Pr, Pl, jcl, Rg, cellOK, bF, bA, bH, bV, jlt, jeq, jd4, jd10, jd20, jd24, jd60, jd100, jm4, jm10, jm20, jm24, jm60, jm100, Int32.reduceToInt, jn1, jn2, jn3, jn4, jn5, jn6, jn7, jn8, jn9, jn10, jn11, jn12, jn13, jn14, jn15, jn16, jn17, jn18, jn19, jn20, jn21, jn22, jn23, jn24, jn100, jn2000000000, zS_pS, zS_pI, zS_pJ, zS_pR, zS_pF, zS_pG, zI_pI, zI_pS, zI_pJ, zI_pR, zI_pF, zI_pG, zN_pS, zN_pI, zN_pJ, Nat.reduceEqDiff, Nat.reduceAdd, Nat.reduceMul, ite_true, ite_false, and_true, true_and, and_false, false_and, true_or, or_true, false_or, or_false, not_true_eq_false, not_false_eq_true, reduceIte, reduceCtorEq, eq_self] at *) <;> (first | omega | ((try simp (disch := first | omega | (simp (disch := first | omega | (simp (disch := first | omega | (simp only [jd4, jd10, jd20, jd24, jd60, jd100, jm4, jm10, jm20, jm24, jm60, jm100, Int32.reduceToInt]; omega)) only [i32_add, i32_sub, i32_mul, jd4, jd10, jd20, jd24, jd60, jd100, jm4, jm10, jm20, jm24, jm60, jm100, Int32.reduceToInt]; omega)) only [i32_add, i32_sub, i32_mul, jd4, jd10, jd20, jd24, jd60, jd100, jm4, jm10, jm20, jm24, jm60, jm100, Int32.reduceToInt]; omega)) only [i32_add, i32_sub, i32_mul, jd4, jd10, jd20, jd24, jd60, jd100, jm4, jm10, jm20, jm24, jm60, jm100, Int32.reduceToInt] at *) <;> (first | omega | ((try simp (disch := first | omega | (simp (disch := first | omega | (simp (disch := first | omega | (simp only [jd4, jd10, jd20, jd24, jd60, jd100, jm4, jm10, jm20, jm24, jm60, jm100, Int32.reduceToInt]; omega)) only [i32_add, i32_sub, i32_mul, jd4, jd10, jd20, jd24, jd60, jd100, jm4, jm10, jm20, jm24, jm60, jm100, Int32.reduceToInt]; omega)) only [i32_add, i32_sub, i32_mul, jd4, jd10, jd20, jd24, jd60, jd100, jm4, jm10, jm20, jm24, jm60, jm100, Int32.reduceToInt]; omega)) only [i32_add, i32_sub, i32_mul, jd4, jd10, jd20, jd24, jd60, jd100, jm4, jm10, jm20, jm24, jm60, jm100, Int32.reduceToInt] at *) <;> (first | omega | ((simp only [jadd, jsub, jmul, jneg, Int32.reduceToInt] at *) <;> omega))))))))))
