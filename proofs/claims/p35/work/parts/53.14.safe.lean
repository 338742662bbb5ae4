set_option maxRecDepth 4000 in
theorem w_X12_saysNow_L28 {b0 : SS} {q0 : Int32 → Option (Int32 × SS)} {sb : SS} {y2 : Int32} {y4 : Int32} {Q : Int32 × SS → Prop} (K : Lk b0 sb) (hq0 : ∀ (z0 : Int32), Ok (q0 z0) Q) : ∀ (n : Nat) (x5 : Int32) (x6 : Int32), (0 ≤ x6.toInt ∧ x6.toInt ≤ 120) → 120 - x6.toInt < (n : Int) → Ok (f_X12_saysNow_L28 q0 sb y2 y4 n x5 x6) Q := by
  intro n
  induction n with
  | zero =>
    intro x5 x6 i0 hm
    exfalso
    (first | with_reducible assumption | omega | ((try clear ih); (try clear hr); (try clear hq0); (try clear hq1); (try clear hrec); ((try simp only [inB, Rs, Pg, Px, Ps, Pr, Pl, jcl, Rg, cellOK, bF, bA, bH, bV, jlt, jeq, jd4, jd10, jd20, jd24, jd60, jd100, jm4, jm10, jm20, jm24, jm60, jm100, Int32.reduceToInt, jn1, jn2, jn3, jn4, jn5, jn6, jn7, jn8, jn9, jn10, jn11, jn12, jn13, jn14, jn15, jn16, jn17, jn18, jn19, jn20, jn21, jn22, jn23, jn24, jn100, jn2000000000, zS_pS, zS_pI, zS_pJ, zS_pR, zS_pF, zS_pG, zI_pI, zI_pS, zI_pJ, zI_pR, zI_pF, zI_pG, zN_pS, zN_pI, zN_pJ, Nat.reduceEqDiff, Nat.reduceAdd, Nat.reduceMul, ite_true, ite_false, and_true, true_and, and_false, false_and, true_or, or_true, false_or, or_false, not_true_eq_false, not_false_eq_true, reduceIte, reduceCtorEq, eq_self] at *) <;> (first | omega | ((try simp (disch := first | omega | (simp (disch := first | omega | (simp (disch := first | omega | (simp only [jd4, jd10, jd20, jd24, jd60, jd100, jm4, jm10, jm20, jm24, jm60, jm100, Int32.reduceToInt]; omega)) only [i32_add, i32_sub, i32_mul, jd4, jd10, jd20, jd24, jd60, jd100, jm4, jm10, jm20, jm24, jm60, jm100, Int32.reduceToInt]; omega)) only [i32_add, i32_sub, i32_mul, jd4, jd10, jd20, jd24, jd60, jd100, jm4, jm10, jm20, jm24, jm60, jm100, Int32.reduceToInt]; omega)) only [i32_add, i32_sub, i32_mul, jd4, jd10, jd20, jd24, jd60, jd100, jm4, jm10, jm20, jm24, jm60, jm100, Int32.reduceToInt] at *) <;> (first | omega | ((try simp (disch := first | omega | (simp (disch := first | omega | (simp (disch := first | omega | (simp only [jd4, jd10, jd20, jd24, jd60, jd100, jm4, jm10, jm20, jm24, jm60, jm100, Int32.reduceToInt]; omega)) only [i32_add, i32_sub, i32_mul, jd4, jd10, jd20, jd24, jd60, jd100, jm4, jm10, jm20, jm24, jm60, jm100, Int32.reduceToInt]; omega)) only [i32_add, i32_sub, i32_mul, jd4, jd10, jd20, jd24, jd60, jd100, jm4, jm10, jm20, jm24, jm60, jm100, Int32.reduceToInt]; omega)) only [i32_add, i32_sub, i32_mul, jd4, jd10, jd20, jd24, jd60, jd100, jm4, jm10, jm20, jm24, jm60, jm100, Int32.reduceToInt] at *) <;> (first | omega | ((simp only [jadd, jsub, jmul, jneg, Int32.reduceToInt] at *) <;> omega)))))))))
  | succ n ih =>
    intro x5 x6 i0 hm
    show Ok (f_X12_saysNow_L28_b q0 sb y2 y4 (f_X12_saysNow_L28 q0 sb y2 y4 n) x5 x6) Q
    unfold f_X12_saysNow_L28_b
    have f0 := (K.f (q := 59) (k := 4) rfl)
    repeat' (first
      | with_reducible assumption
      | dsimp only
      | with_reducible refine Lk_g120 (by assumption) ?_ (fun _ _ _ _ _ => ?_)
      | with_reducible refine Ok_gd ?_ (fun _ => ?_)
      | with_reducible refine Ok_vl ?_
      | with_reducible refine Ok_jn ?_
      | with_reducible refine Ok_ift (by decide) ?_
      | with_reducible refine Ok_iff (by decide) ?_
      | with_reducible refine Ok_if (fun _ => ?_) (fun _ => ?_)
      | with_reducible refine ih _ _  ?_ ?_
      | with_reducible refine hq0 _
      | with_reducible refine And.intro ?_ ?_)
    all_goals (try (first | with_reducible assumption | exact trivial | omega | ((try clear ih); (try clear hr); (try clear hq0); (try clear hq1); (try clear hrec); ((try simp only [inB, Rs, Pg, Px, Ps, Pr, Pl, jcl, Rg, cellOK, bF, bA, bH, bV, jlt, jeq, jd4, jd10, jd20, jd24, jd60, jd100, jm4, jm10, jm20, jm24, jm60, jm100, Int32.reduceToInt, jn1, jn2, jn3, jn4, jn5, jn6, jn7, jn8, jn9, jn10, jn11, jn12, jn13, jn14, jn15, jn16, jn17, jn18, jn19, jn20, jn21, jn22, jn23, jn24, jn100, jn2000000000, zS_pS, zS_pI, zS_pJ, zS_pR, zS_pF, zS_pG, zI_pI, zI_pS, zI_pJ, zI_pR, zI_pF, zI_pG, zN_pS, zN_pI, zN_pJ, Nat.reduceEqDiff, Nat.reduceAdd, Nat.reduceMul, ite_true, ite_false, and_true, true_and, and_false, false_and, true_or, or_true, false_or, or_false, not_true_eq_false, not_false_eq_true, reduceIte, reduceCtorEq, eq_self] at *) <;> (first | omega | ((try simp (disch := first | omega | (simp (disch := first | omega | (simp (disch := first | omega | (simp only [jd4, jd10, jd20, jd24, jd60, jd100, jm4, jm10, jm20, jm24, jm60, jm100, Int32.reduceToInt]; omega)) only [i32_add, i32_sub, i32_mul, jd4, jd10, jd20, jd24, jd60, jd100, jm4, jm10, jm20, jm24, jm60, jm100, Int32.reduceToInt]; omega)) only [i32_add, i32_sub, i32_mul, jd4, jd10, jd20, jd24, jd60, jd100, jm4, jm10, jm20, jm24, jm60, jm100, Int32.reduceToInt]; omega)) only [i32_add, i32_sub, i32_mul, jd4, jd10, jd20, jd24, jd60, jd100, jm4, jm10, jm20, jm24, jm60, jm100, Int32.reduceToInt] at *) <;> (first | omega | ((try simp (disch := first | omega | (simp (disch := first | omega | (simp (disch := first | omega | (simp only [jd4, jd10, jd20, jd24, jd60, jd100, jm4, jm10, jm20, jm24, jm60, jm100, Int32.reduceToInt]; omega)) only [i32_add, i32_sub, i32_mul, jd4, jd10, jd20, jd24, jd60, jd100, jm4, jm10, jm20, jm24, jm60, jm100, Int32.reduceToInt]; omega)) only [i32_add, i32_sub, i32_mul, jd4, jd10, jd20, jd24, jd60, jd100, jm4, jm10, jm20, jm24, jm60, jm100, Int32.reduceToInt]; omega)) only [i32_add, i32_sub, i32_mul, jd4, jd10, jd20, jd24, jd60, jd100, jm4, jm10, jm20, jm24, jm60, jm100, Int32.reduceToInt] at *) <;> (first | omega | ((simp only [jadd, jsub, jmul, jneg, Int32.reduceToInt] at *) <;> omega))))))))))
set_option maxRecDepth 4000 in
theorem w_X12_saysNow {b0 : SS} {s0 : SS} {a0 : Int32} {a1 : Int32} {a2 : Int32} (K : Lk b0 s0) (g0 : -1 ≤ a1.toInt ∧ a1.toInt ≤ 119) : Ok (f_X12_saysNow s0 a0 a1 a2) (fun r => Lk b0 r.2 ∧ S7 s0 r.2) := by
  unfold f_X12_saysNow
  repeat' (first
    | with_reducible assumption
    | dsimp only
    | with_reducible exact S7.rf
    | with_reducible exact e7 (by assumption) (by assumption)
    | with_reducible refine S7.p (by decide) ?_
    | with_reducible refine S7.tr (by assumption) ?_
    | with_reducible refine Ok_jn0 ?_ (fun _ _ => ?_)
    | with_reducible refine Ok_jn1 (fun _ => ?_) (fun _ _ => ?_)
    | with_reducible refine Ok_jn2 (fun _ _ => ?_) (fun _ _ => ?_)
    | with_reducible refine Ok_jnS (b0 := b0) (fun _ _ => ?_) (fun _ _ => ?_)
    | with_reducible refine Ok_jnS1 (b0 := b0) (fun _ _ _ => ?_) (fun _ _ => ?_)
    | with_reducible refine Ok_jnS2 (b0 := b0) (fun _ _ _ _ => ?_) (fun _ _ => ?_)
    | with_reducible refine Ok_k1 (by assumption) _
    | with_reducible refine Ok_k2 (by assumption) _ _
    | with_reducible refine Ok_kS (b0 := b0) (by assumption) ?_
    | with_reducible refine Ok_kS1 (b0 := b0) (by assumption) ?_
    | with_reducible refine Ok_kS2 (b0 := b0) (by assumption) ?_
    | with_reducible refine Ok_some ?_
    | with_reducible refine Lk_g120 (by assumption) ?_ (fun _ _ _ _ _ => ?_)
    | with_reducible refine Ok_gd ?_ (fun _ => ?_)
    | with_reducible refine Ok_vl ?_
    | with_reducible refine Ok_st ?_
    | with_reducible refine Ok_jn ?_
    | with_reducible refine Ok_b1 ?_
    | with_reducible refine Ok_bd ?_
    | with_reducible refine Ok_ift (by decide) ?_
    | with_reducible refine Ok_iff (by decide) ?_
    | with_reducible refine Ok_if (fun _ => ?_) (fun _ => ?_)
    | with_reducible refine Ok.mono (w_X12_forceOf (b0 := b0) ?_) (fun _ _ => ?_)
    | with_reducible refine w_X12_saysNow_L28 (b0 := b0) ?_ (fun _ => ?_) _ _ _  ?_ ?_
    | with_reducible refine Ok.mono (w_X12_menBelow (b0 := b0) ?_) (fun _ _ => ?_)
    | with_reducible refine Ok.mono (w_X12_gives (b0 := b0) ?_ ?_) (fun _ ⟨_, _⟩ => ?_)
    | with_reducible refine Lk.wI ?_ (by decide) (by decide) ?_
    | with_reducible refine And.intro ?_ ?_)
  all_goals (try (first | with_reducible assumption | exact trivial | omega | ((try clear ih); (try clear hr); (try clear hq0); (try clear hq1); (try clear hrec); ((try simp only [inB, Rs, Pg, Px, Ps, Pr, Pl, jcl, Rg, cellOK, bF, bA, bH, bV, jlt, jeq, jd4, jd10, jd20, jd24, jd60, jd100, jm4, jm10, jm20, jm24, jm60, jm100, Int32.reduceToInt, jn1, jn2, jn3, jn4, jn5, jn6, jn7, jn8, jn9, jn10, jn11, jn12, jn13, jn14, jn15, jn16, jn17, jn18, jn19, jn20, jn21, jn22, jn23, jn24, jn100, jn2000000000, zS_pS, zS_pI, zS_pJ, zS_pR, zS_pF, zS_pG, zI_pI, zI_pS, zI_pJ, zI_pR, zI_pF, zI_pG, zN_pS, zN_pI, zN_pJ, Nat.reduceEqDiff, Nat.reduceAdd, Nat.reduceMul, ite_true, ite_false, and_true, true_and, and_false, false_and, true_or, or_true, false_or, or_false, not_true_eq_false, not_false_eq_true, reduceIte, reduceCtorEq, eq_self] at *) <;> (first | omega | ((try simp (disch := first | omega | (simp (disch := first | omega | (simp (disch := first | omega | (simp only [jd4, jd10, jd20, jd24, jd60, jd100, jm4, jm10, jm20, jm24, jm60, jm100, Int32.reduceToInt]; omega)) only [i32_add, i32_sub, i32_mul, jd4, jd10, jd20, jd24, jd60, jd100, jm4, jm10, jm20, jm24, jm60, jm100, Int32.reduceToInt]; omega)) only [i32_add, i32_sub, i32_mul, jd4, jd10, jd20, jd24, jd60, jd100, jm4, jm10, jm20, jm24, jm60, jm100, Int32.reduceToInt]; omega)) only [i32_add, i32_sub, i32_mul, jd4, jd10, jd20, jd24, jd60, jd100, jm4, jm10, jm20, jm24, jm60, jm100, Int32.reduceToInt] at *) <;> (first | omega | ((try simp (disch := first | omega | (simp (disch := first | omega | (simp (disch := first | omega | (simp only [jd4, jd10, jd20, jd24, jd60, jd100, jm4, jm10, jm20, jm24, jm60, jm100, Int32.reduceToInt]; omega)) only [i32_add, i32_sub, i32_mul, jd4, jd10, jd20, jd24, jd60, jd100, jm4, jm10, jm20, jm24, jm60, jm100, Int32.reduceToInt]; omega)) only [i32_add, i32_sub, i32_mul, jd4, jd10, jd20, jd24, jd60, jd100, jm4, jm10, jm20, jm24, jm60, jm100, Int32.reduceToInt]; omega)) only [i32_add, i32_sub, i32_mul, jd4, jd10, jd20, jd24, jd60, jd100, jm4, jm10, jm20, jm24, jm60, jm100, Int32.reduceToInt] at *) <;> (first | omega | ((simp only [jadd, jsub, jmul, jneg, Int32.reduceToInt] at *) <;> omega))))))))))
set_option maxRecDepth 4000 in
theorem w_X12_says {b0 : SS} {s0 : SS} {a0 : Int32} {a1 : Int32} (K : Lk b0 s0) : Ok (f_X12_says s0 a0 a1) (fun r => Lk b0 r.2) := by
  unfold f_X12_says
  repeat' (first
    | with_reducible assumption
    | dsimp only
    | with_reducible refine Ok_some ?_
    | with_reducible refine Ok_jn ?_
    | with_reducible refine Ok_b1 ?_
    | with_reducible refine Ok_bd ?_
    | with_reducible refine Ok_ift (by decide) ?_
    | with_reducible refine Ok_iff (by decide) ?_
    | with_reducible refine Ok_if (fun _ => ?_) (fun _ => ?_)
    | with_reducible refine Ok.mono (w_X12_isWhat ) (fun _ _ => ?_)
    | with_reducible refine Ok.mono (w_X12_saysNow (b0 := b0) ?_ ?_) (fun _ ⟨_, _⟩ => ?_)
    | with_reducible refine Ok.mono (w_X12_isMan (b0 := b0) ?_) (fun _ _ => ?_)
    | with_reducible refine And.intro ?_ ?_)
  all_goals (try (first | with_reducible assumption | exact trivial | omega | ((try clear ih); (try clear hr); (try clear hq0); (try clear hq1); (try clear hrec); ((try simp only [inB, Rs, Pg, Px, Ps, Pr, Pl, jcl, Rg, cellOK, bF, bA, bH, bV, jlt, jeq, jd4, jd10, jd20, jd24, jd60, jd100, jm4, jm10, jm20, jm24, jm60, jm100, Int32.reduceToInt, jn1, jn2, jn3, jn4, jn5, jn6, jn7, jn8, jn9, jn10, jn11, jn12, jn13, jn14, jn15, jn16, jn17, jn18, jn19, jn20, jn21, jn22, jn23, jn24, jn100, jn2000000000, zS_pS, zS_pI, zS_pJ, zS_pR, zS_pF, zS_pG, zI_pI, zI_pS, zI_pJ, zI_pR, zI_pF, zI_pG, zN_pS, zN_pI, zN_pJ, Nat.reduceEqDiff, Nat.reduceAdd, Nat.reduceMul, ite_true, ite_false, and_true, true_and, and_false, false_and, true_or, or_true, false_or, or_false, not_true_eq_false, not_false_eq_true, reduceIte, reduceCtorEq, eq_self] at *) <;> (first | omega | ((try simp (disch := first | omega | (simp (disch := first | omega | (simp (disch := first | omega | (simp only [jd4, jd10, jd20, jd24, jd60, jd100, jm4, jm10, jm20, jm24, jm60, jm100, Int32.reduceToInt]; omega)) only [i32_add, i32_sub, i32_mul, jd4, jd10, jd20, jd24, jd60, jd100, jm4, jm10, jm20, jm24, jm60, jm100, Int32.reduceToInt]; omega)) only [i32_add, i32_sub, i32_mul, jd4, jd10, jd20, jd24, jd60, jd100, jm4, jm10, jm20, jm24, jm60, jm100, Int32.reduceToInt]; omega)) only [i32_add, i32_sub, i32_mul, jd4, jd10, jd20, jd24, jd60, jd100, jm4, jm10, jm20, jm24, jm60, jm100, Int32.reduceToInt] at *) <;> (first | omega | ((try simp (disch := first | omega | (simp (disch := first | omega | (simp (disch := first | omega | (simp only [jd4, jd10, jd20, jd24, jd60, jd100, jm4, jm10, jm20, jm24, jm60, jm100, Int32.reduceToInt]; omega)) only [i32_add, i32_sub, i32_mul, jd4, jd10, jd20, jd24, jd60, jd100, jm4, jm10, jm20, jm24, jm60, jm100, Int32.reduceToInt]; omega)) only [i32_add, i32_sub, i32_mul, jd4, jd10, jd20, jd24, jd60, jd100, jm4, jm10, jm20, jm24, jm60, jm100, Int32.reduceToInt]; omega)) only [i32_add, i32_sub, i32_mul, jd4, jd10, jd20, jd24, jd60, jd100, jm4, jm10, jm20, jm24, jm60, jm100, Int32.reduceToInt] at *) <;> (first | omega | ((simp only [jadd, jsub, jmul, jneg, Int32.reduceToInt] at *) <;> omega))))))))))
set_option maxRecDepth 4000 in
theorem w_X12_spoons {b0 : SS} {s0 : SS} {a0 : Int32} (K : Lk b0 s0) : Ok (f_X12_spoons s0 a0) (fun r => Lk b0 r.2) := by
  unfold f_X12_spoons
  repeat' (first
    | with_reducible assumption
    | dsimp only
    | with_reducible refine Ok_some ?_
    | with_reducible refine Ok_vl ?_
    | with_reducible refine Ok_st ?_
    | with_reducible refine Ok_b1 ?_
    | with_reducible refine Ok_ift (by decide) ?_
    | with_reducible refine Ok_iff (by decide) ?_
    | with_reducible refine Ok_if (fun _ => ?_) (fun _ => ?_)
    | with_reducible refine Ok.mono (w_X12_in ) (fun _ _ => ?_)
    | with_reducible refine Lk.wF ?_ (by decide) (by decide) (by decide) ?_
    | with_reducible refine And.intro ?_ ?_)
  all_goals (try (first | with_reducible assumption | exact trivial | omega | ((try clear ih); (try clear hr); (try clear hq0); (try clear hq1); (try clear hrec); ((try simp only [inB, Rs, Pg, Px, Ps, Pr, Pl, jcl, Rg, cellOK, bF, bA, bH, bV, jlt, jeq, jd4, jd10, jd20, jd24, jd60, jd100, jm4, jm10, jm20, jm24, jm60, jm100, Int32.reduceToInt, jn1, jn2, jn3, jn4, jn5, jn6, jn7, jn8, jn9, jn10, jn11, jn12, jn13, jn14, jn15, jn16, jn17, jn18, jn19, jn20, jn21, jn22, jn23, jn24, jn100, jn2000000000, zS_pS, zS_pI, zS_pJ, zS_pR, zS_pF, zS_pG, zI_pI, zI_pS, zI_pJ, zI_pR, zI_pF, zI_pG, zN_pS, zN_pI, zN_pJ, Nat.reduceEqDiff, Nat.reduceAdd, Nat.reduceMul, ite_true, ite_false, and_true, true_and, and_false, false_and, true_or, or_true, false_or, or_false, not_true_eq_false, not_false_eq_true, reduceIte, reduceCtorEq, eq_self] at *) <;> (first | omega | ((try simp (disch := first | omega | (simp (disch := first | omega | (simp (disch := first | omega | (simp only [jd4, jd10, jd20, jd24, jd60, jd100, jm4, jm10, jm20, jm24, jm60, jm100, Int32.reduceToInt]; omega)) only [i32_add, i32_sub, i32_mul, jd4, jd10, jd20, jd24, jd60, jd100, jm4, jm10, jm20, jm24, jm60, jm100, Int32.reduceToInt]; omega)) only [i32_add, i32_sub, i32_mul, jd4, jd10, jd20, jd24, jd60, jd100, jm4, jm10, jm20, jm24, jm60, jm100, Int32.reduceToInt]; omega)) only [i32_add, i32_sub, i32_mul, jd4, jd10, jd20, jd24, jd60, jd100, jm4, jm10, jm20, jm24, jm60, jm100, Int32.reduceToInt] at *) <;> (first | omega | ((try simp (disch := first | omega | (simp (disch := first | omega | (simp (disch := first | omega | (simp only [jd4, jd10, jd20, jd24, jd60, jd100, jm4, jm10, jm20, jm24, jm60, jm100, Int32.reduceToInt]; omega)) only [i32_add, i32_sub, i32_mul, jd4, jd10, jd20, jd24, jd60, jd100, jm4, jm10, jm20, jm24, jm60, jm100, Int32.reduceToInt]; omega)) only [i32_add, i32_sub, i32_mul, jd4, jd10, jd20, jd24, jd60, jd100, jm4, jm10, jm20, jm24, jm60, jm100, Int32.reduceToInt]; omega)) only [i32_add, i32_sub, i32_mul, jd4, jd10, jd20, jd24, jd60, jd100, jm4, jm10, jm20, jm24, jm60, jm100, Int32.reduceToInt] at *) <;> (first | omega | ((simp only [jadd, jsub, jmul, jneg, Int32.reduceToInt] at *) <;> omega))))))))))
