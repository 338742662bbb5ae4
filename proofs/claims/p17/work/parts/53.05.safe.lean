set_option maxRecDepth 4000 in
theorem w_X12_drill_L2 {b0 : SS} {q0 : SS → Option SS} {Q : SS → Prop} (hq0 : ∀ (s : SS), Lk b0 s → Ok (q0 s) Q) : ∀ (n : Nat) (s : SS) (x1 : Int32), Lk b0 s → (0 ≤ x1.toInt ∧ x1.toInt ≤ 120) → 120 - x1.toInt < (n : Int) → Ok (f_X12_drill_L2 q0 n s x1) Q := by
  intro n
  induction n with
  | zero =>
    intro s x1 K i0 hm
    exfalso
    (first | with_reducible assumption | omega | ((try clear ih); (try clear hr); (try clear hq0); (try clear hq1); (try clear hrec); ((try simp only [inB, Rs, Pg, Px, Ps, Pr, Pl, jcl, Rg, cellOK, bF, bA, bH, bV, jlt, jeq, jd4, jd10, jd20, jd24, jd60, jd100, jm4, jm10, jm20, jm24, jm60, jm100, Int32.reduceToInt, jn1, jn2, jn3, jn4, jn5, jn6, jn7, jn8, jn9, jn10, jn11, jn12, jn13, jn14, jn15, jn16, jn17, jn18, jn19, jn20, jn21, jn22, jn23, jn24, jn100, jn2000000000, zS_pS, zS_pI, zS_pJ, zS_pR, zS_pF, zS_pG, zI_pI, zI_pS, zI_pJ, zI_pR, zI_pF, zI_pG, zN_pS, zN_pI, zN_pJ, Nat.reduceEqDiff, Nat.reduceAdd, Nat.reduceMul, ite_true, ite_false, and_true, true_and, and_false, false_and, true_or, or_true, false_or, or_false, not_true_eq_false, not_false_eq_true, reduceIte, reduceCtorEq, eq_self] at *) <;> (first | omega | ((try simp (disch := first | omega | (simp (disch := first | omega | (simp (disch := first | omega | (simp only [jd4, jd10, jd20, jd24, jd60, jd100, jm4, jm10, jm20, jm24, jm60, jm100, Int32.reduceToInt]; omega)) only [i32_add, i32_sub, i32_mul, jd4, jd10, jd20, jd24, jd60, jd100, jm4, jm10, jm20, jm24, jm60, jm100, Int32.reduceToInt]; omega)) only [i32_add, i32_sub, i32_mul, jd4, jd10, jd20, jd24, jd60, jd100, jm4, jm10, jm20, jm24, jm60, jm100, Int32.reduceToInt]; omega)) only [i32_add, i32_sub, i32_mul, jd4, jd10, jd20, jd24, jd60, jd100, jm4, jm10, jm20, jm24, jm60, jm100, Int32.reduceToInt] at *) <;> (first | omega | ((try simp (disch := first | omega | (simp (disch := first | omega | (simp (disch := first | omega | (simp only [jd4, jd10, jd20, jd24, jd60, jd100, jm4, jm10, jm20, jm24, jm60, jm100, Int32.reduceToInt]; omega)) only [i32_add, i32_sub, i32_mul, jd4, jd10, jd20, jd24, jd60, jd100, jm4, jm10, jm20, jm24, jm60, jm100, Int32.reduceToInt]; omega)) only [i32_add, i32_sub, i32_mul, jd4, jd10, jd20, jd24, jd60, jd100, jm4, jm10, jm20, jm24, jm60, jm100, Int32.reduceToInt]; omega)) only [i32_add, i32_sub, i32_mul, jd4, jd10, jd20, jd24, jd60, jd100, jm4, jm10, jm20, jm24, jm60, jm100, Int32.reduceToInt] at *) <;> (first | omega | ((simp only [jadd, jsub, jmul, jneg, Int32.reduceToInt] at *) <;> omega)))))))))
  | succ n ih =>
    intro s x1 K i0 hm
    show Ok (f_X12_drill_L2_b q0 (f_X12_drill_L2 q0 n) s x1) Q
    unfold f_X12_drill_L2_b
    have f0 := (K.f (q := 59) (k := 4) rfl)
    repeat' (first
      | with_reducible assumption
      | dsimp only
      | with_reducible refine Ok_some ?_
      | with_reducible refine Lk_g120 (by assumption) ?_ (fun _ _ _ _ _ => ?_)
      | with_reducible refine Lk_g3 (by assumption) ?_ (fun _ _ => ?_)
      | with_reducible refine Lk_g8 (by assumption) ?_ (fun _ _ => ?_)
      | with_reducible refine Lk_g60 (by assumption) ?_ (fun _ _ => ?_)
      | with_reducible refine Lk_g40 (by assumption) ?_ (fun _ _ => ?_)
      | with_reducible refine Lk_g6 (by assumption) ?_ (fun _ _ _ => ?_)
      | with_reducible refine Ok_gd ?_ (fun _ => ?_)
      | with_reducible refine Ok_vl ?_
      | with_reducible refine Ok_wl ?_
      | with_reducible refine Ok_st ?_
      | with_reducible refine Ok_jn ?_
      | with_reducible refine Ok_b1 ?_
      | with_reducible refine Ok_bd ?_
      | with_reducible refine Ok_onN ?_
      | with_reducible refine Ok_onS ?_
      | with_reducible refine Ok_ift (by decide) ?_
      | with_reducible refine Ok_iff (by decide) ?_
      | with_reducible refine Ok_if (fun _ => ?_) (fun _ => ?_)
      | with_reducible refine Lk_onM (b0 := b0) ?_ (by assumption) (fun _ _ _ => ?_)
      | with_reducible refine Lk_onV (b0 := b0) ?_ (by assumption) (fun _ _ _ _ => ?_)
      | with_reducible refine Lk_onH (b0 := b0) ?_ (by assumption) (fun _ => ?_) (fun _ _ _ _ _ _ => ?_)
      | with_reducible refine Lk_onC (b0 := b0) ?_ (by assumption) (fun _ => ?_) (fun _ _ _ _ => ?_)
      | with_reducible refine Lk_onT (b0 := b0) ?_ (by assumption) (fun _ => ?_) (fun _ _ _ _ => ?_)
      | with_reducible refine ih _ _  ?_ ?_ ?_ 
      | with_reducible refine hq0 _  ?_ 
      | with_reducible refine Lk.wI ?_ (by decide) (by decide) ?_
      | with_reducible refine Lk.wF ?_ (by decide) (by decide) (by decide) ?_
      | with_reducible refine Lk.wH ?_ (by assumption) ?_
      | with_reducible refine Lk.wV ?_ (by assumption) ?_
      | with_reducible refine Lk.wM ?_ (by assumption)
      | with_reducible refine Lk.wC ?_ (by assumption)
      | with_reducible refine Lk.w1 ?_ (by assumption)
      | with_reducible refine Lk.w2 ?_ (by assumption)
      | with_reducible refine Lk.w3 ?_ (by assumption)
      | with_reducible refine Lk.wc1 ?_ (by assumption)
      | with_reducible refine Lk.wJ ?_
      | with_reducible refine Lk.wG ?_
      | with_reducible refine Lk.wK ?_
      | with_reducible refine Lk.wFI ?_ (by decide) (by decide) ?_
      | with_reducible refine And.intro ?_ ?_)
    all_goals (try (first | with_reducible assumption | exact trivial | omega | ((try clear ih); (try clear hr); (try clear hq0); (try clear hq1); (try clear hrec); ((try simp only [inB, Rs, Pg, Px, Ps, Pr, Pl, jcl, Rg, cellOK, bF, bA, bH, bV, jlt, jeq, jd4, jd10, jd20, jd24, jd60, jd100, jm4, jm10, jm20, jm24, jm60, jm100, Int32.reduceToInt, jn1, jn2, jn3, jn4, jn5, jn6, jn7, jn8, jn9, jn10, jn11, jn12, jn13, jn14, jn15, jn16, jn17, jn18, jn19, jn20, jn21, jn22, jn23, jn24, jn100, jn2000000000, zS_pS, zS_pI, zS_pJ, zS_pR, zS_pF, zS_pG, zI_pI, zI_pS, zI_pJ, zI_pR, zI_pF, zI_pG, zN_pS, zN_pI, zN_pJ, Nat.reduceEqDiff, Nat.reduceAdd, Nat.reduceMul, ite_true, ite_false, and_true, true_and, and_false, false_and, true_or, or_true, false_or, or_false, not_true_eq_false, not_false_eq_true, reduceIte, reduceCtorEq, eq_self] at *) <;> (first | omega | ((try simp (disch := first | omega | (simp (disch := first | omega | (simp (disch := first | omega | (simp only [jd4, jd10, jd20, jd24, jd60, jd100, jm4, jm10, jm20, jm24, jm60, jm100, Int32.reduceToInt]; omega)) only [i32_add, i32_sub, i32_mul, jd4, jd10, jd20, jd24, jd60, jd100, jm4, jm10, jm20, jm24, jm60, jm100, Int32.reduceToInt]; omega)) only [i32_add, i32_sub, i32_mul, jd4, jd10, jd20, jd24, jd60, jd100, jm4, jm10, jm20, jm24, jm60, jm100, Int32.reduceToInt]; omega)) only [i32_add, i32_sub, i32_mul, jd4, jd10, jd20, jd24, jd60, jd100, jm4, jm10, jm20, jm24, jm60, jm100, Int32.reduceToInt] at *) <;> (first | omega | ((try simp (disch := first | omega | (simp (disch := first | omega | (simp (disch := first | omega | (simp only [jd4, jd10, jd20, jd24, jd60, jd100, jm4, jm10, jm20, jm24, jm60, jm100, Int32.reduceToInt]; omega)) only [i32_add, i32_sub, i32_mul, jd4, jd10, jd20, jd24, jd60, jd100, jm4, jm10, jm20, jm24, jm60, jm100, Int32.reduceToInt]; omega)) only [i32_add, i32_sub, i32_mul, jd4, jd10, jd20, jd24, jd60, jd100, jm4, jm10, jm20, jm24, jm60, jm100, Int32.reduceToInt]; omega)) only [i32_add, i32_sub, i32_mul, jd4, jd10, jd20, jd24, jd60, jd100, jm4, jm10, jm20, jm24, jm60, jm100, Int32.reduceToInt] at *) <;> (first | omega | ((simp only [jadd, jsub, jmul, jneg, Int32.reduceToInt] at *) <;> omega))))))))))
set_option maxRecDepth 4000 in
theorem w_X12_drill_L36 {b0 : SS} {q0 : SS → Option SS} {Q : SS → Prop} (hq0 : ∀ (s : SS), Lk b0 s → Ok (q0 s) Q) : ∀ (n : Nat) (s : SS) (x1 : Int32), Lk b0 s → (0 ≤ x1.toInt ∧ x1.toInt ≤ 3) → 3 - x1.toInt < (n : Int) → Ok (f_X12_drill_L36 q0 n s x1) Q := by
  intro n
  induction n with
  | zero =>
    intro s x1 K i0 hm
    exfalso
    (first | with_reducible assumption | omega | ((try clear ih); (try clear hr); (try clear hq0); (try clear hq1); (try clear hrec); ((try simp only [inB, Rs, Pg, Px, Ps, Pr, Pl, jcl, Rg, cellOK, bF, bA, bH, bV, jlt, jeq, jd4, jd10, jd20, jd24, jd60, jd100, jm4, jm10, jm20, jm24, jm60, jm100, Int32.reduceToInt, jn1, jn2, jn3, jn4, jn5, jn6, jn7, jn8, jn9, jn10, jn11, jn12, jn13, jn14, jn15, jn16, jn17, jn18, jn19, jn20, jn21, jn22, jn23, jn24, jn100, jn2000000000, zS_pS, zS_pI, zS_pJ, zS_pR, zS_pF, zS_pG, zI_pI, zI_pS, zI_pJ, zI_pR, zI_pF, zI_pG, zN_pS, zN_pI, zN_pJ, Nat.reduceEqDiff, Nat.reduceAdd, Nat.reduceMul, ite_true, ite_false, and_true, true_and, and_false, false_and, true_or, or_true, false_or, or_false, not_true_eq_false, not_false_eq_true, reduceIte, reduceCtorEq, eq_self] at *) <;> (first | omega | ((try simp (disch := first | omega | (simp (disch := first | omega | (simp (disch := first | omega | (simp only [jd4, jd10, jd20, jd24, jd60, jd100, jm4, jm10, jm20, jm24, jm60, jm100, Int32.reduceToInt]; omega)) only [i32_add, i32_sub, i32_mul, jd4, jd10, jd20, jd24, jd60, jd100, jm4, jm10, jm20, jm24, jm60, jm100, Int32.reduceToInt]; omega)) only [i32_add, i32_sub, i32_mul, jd4, jd10, jd20, jd24, jd60, jd100, jm4, jm10, jm20, jm24, jm60, jm100, Int32.reduceToInt]; omega)) only [i32_add, i32_sub, i32_mul, jd4, jd10, jd20, jd24, jd60, jd100, jm4, jm10, jm20, jm24, jm60, jm100, Int32.reduceToInt] at *) <;> (first | omega | ((try simp (disch := first | omega | (simp (disch := first | omega | (simp (disch := first | omega | (simp only [jd4, jd10, jd20, jd24, jd60, jd100, jm4, jm10, jm20, jm24, jm60, jm100, Int32.reduceToInt]; omega)) only [i32_add, i32_sub, i32_mul, jd4, jd10, jd20, jd24, jd60, jd100, jm4, jm10, jm20, jm24, jm60, jm100, Int32.reduceToInt]; omega)) only [i32_add, i32_sub, i32_mul, jd4, jd10, jd20, jd24, jd60, jd100, jm4, jm10, jm20, jm24, jm60, jm100, Int32.reduceToInt]; omega)) only [i32_add, i32_sub, i32_mul, jd4, jd10, jd20, jd24, jd60, jd100, jm4, jm10, jm20, jm24, jm60, jm100, Int32.reduceToInt] at *) <;> (first | omega | ((simp only [jadd, jsub, jmul, jneg, Int32.reduceToInt] at *) <;> omega)))))))))
  | succ n ih =>
    intro s x1 K i0 hm
    show Ok (f_X12_drill_L36_b q0 (f_X12_drill_L36 q0 n) s x1) Q
    unfold f_X12_drill_L36_b
    repeat' (first
      | with_reducible assumption
      | dsimp only
      | with_reducible refine Ok_some ?_
      | with_reducible refine Lk_g120 (by assumption) ?_ (fun _ _ _ _ _ => ?_)
      | with_reducible refine Lk_g3 (by assumption) ?_ (fun _ _ => ?_)
      | with_reducible refine Lk_g8 (by assumption) ?_ (fun _ _ => ?_)
      | with_reducible refine Lk_g60 (by assumption) ?_ (fun _ _ => ?_)
      | with_reducible refine Lk_g40 (by assumption) ?_ (fun _ _ => ?_)
      | with_reducible refine Lk_g6 (by assumption) ?_ (fun _ _ _ => ?_)
      | with_reducible refine Ok_gd ?_ (fun _ => ?_)
      | with_reducible refine Ok_vl ?_
      | with_reducible refine Ok_wl ?_
      | with_reducible refine Ok_st ?_
      | with_reducible refine Ok_jn ?_
      | with_reducible refine Ok_b1 ?_
      | with_reducible refine Ok_bd ?_
      | with_reducible refine Ok_onN ?_
      | with_reducible refine Ok_onS ?_
      | with_reducible refine Ok_ift (by decide) ?_
      | with_reducible refine Ok_iff (by decide) ?_
      | with_reducible refine Ok_if (fun _ => ?_) (fun _ => ?_)
      | with_reducible refine Lk_onM (b0 := b0) ?_ (by assumption) (fun _ _ _ => ?_)
      | with_reducible refine Lk_onV (b0 := b0) ?_ (by assumption) (fun _ _ _ _ => ?_)
      | with_reducible refine Lk_onH (b0 := b0) ?_ (by assumption) (fun _ => ?_) (fun _ _ _ _ _ _ => ?_)
      | with_reducible refine Lk_onC (b0 := b0) ?_ (by assumption) (fun _ => ?_) (fun _ _ _ _ => ?_)
      | with_reducible refine Lk_onT (b0 := b0) ?_ (by assumption) (fun _ => ?_) (fun _ _ _ _ => ?_)
      | with_reducible refine ih _ _  ?_ ?_ ?_ 
      | with_reducible refine hq0 _  ?_ 
      | with_reducible refine Lk.wI ?_ (by decide) (by decide) ?_
      | with_reducible refine Lk.wF ?_ (by decide) (by decide) (by decide) ?_
      | with_reducible refine Lk.wH ?_ (by assumption) ?_
      | with_reducible refine Lk.wV ?_ (by assumption) ?_
      | with_reducible refine Lk.wM ?_ (by assumption)
      | with_reducible refine Lk.wC ?_ (by assumption)
      | with_reducible refine Lk.w1 ?_ (by assumption)
      | with_reducible refine Lk.w2 ?_ (by assumption)
      | with_reducible refine Lk.w3 ?_ (by assumption)
      | with_reducible refine Lk.wc1 ?_ (by assumption)
      | with_reducible refine Lk.wJ ?_
      | with_reducible refine Lk.wG ?_
      | with_reducible refine Lk.wK ?_
      | with_reducible refine Lk.wFI ?_ (by decide) (by decide) ?_
      | with_reducible refine And.intro ?_ ?_)
    all_goals (try (first | with_reducible assumption | exact trivial | omega | ((try clear ih); (try clear hr); (try clear hq0); (try clear hq1); (try clear hrec); ((try simp only [inB, Rs, Pg, Px, Ps, Pr, Pl, jcl, Rg, cellOK, bF, bA, bH, bV, jlt, jeq, jd4, jd10, jd20, jd24, jd60, jd100, jm4, jm10, jm20, jm24, jm60, jm100, Int32.reduceToInt, jn1, jn2, jn3, jn4, jn5, jn6, jn7, jn8, jn9, jn10, jn11, jn12, jn13, jn14, jn15, jn16, jn17, jn18, jn19, jn20, jn21, jn22, jn23, jn24, jn100, jn2000000000, zS_pS, zS_pI, zS_pJ, zS_pR, zS_pF, zS_pG, zI_pI, zI_pS, zI_pJ, zI_pR, zI_pF, zI_pG, zN_pS, zN_pI, zN_pJ, Nat.reduceEqDiff, Nat.reduceAdd, Nat.reduceMul, ite_true, ite_false, and_true, true_and, and_false, false_and, true_or, or_true, false_or, or_false, not_true_eq_false, not_false_eq_true, reduceIte, reduceCtorEq, eq_self] at *) <;> (first | omega | ((try simp (disch := first | omega | (simp (disch := first | omega | (simp (disch := first | omega | (simp only [jd4, jd10, jd20, jd24, jd60, jd100, jm4, jm10, jm20, jm24, jm60, jm100, Int32.reduceToInt]; omega)) only [i32_add, i32_sub, i32_mul, jd4, jd10, jd20, jd24, jd60, jd100, jm4, jm10, jm20, jm24, jm60, jm100, Int32.reduceToInt]; omega)) only [i32_add, i32_sub, i32_mul, jd4, jd10, jd20, jd24, jd60, jd100, jm4, jm10, jm20, jm24, jm60, jm100, Int32.reduceToInt]; omega)) only [i32_add, i32_sub, i32_mul, jd4, jd10, jd20, jd24, jd60, jd100, jm4, jm10, jm20, jm24, jm60, jm100, Int32.reduceToInt] at *) <;> (first | omega | ((try simp (disch := first | omega | (simp (disch := first | omega | (simp (disch := first | omega | (simp only [jd4, jd10, jd20, jd24, jd60, jd100, jm4, jm10, jm20, jm24, jm60, jm100, Int32.reduceToInt]; omega)) only [i32_add, i32_sub, i32_mul, jd4, jd10, jd20, jd24, jd60, jd100, jm4, jm10, jm20, jm24, jm60, jm100, Int32.reduceToInt]; omega)) only [i32_add, i32_sub, i32_mul, jd4, jd10, jd20, jd24, jd60, jd100, jm4, jm10, jm20, jm24, jm60, jm100, Int32.reduceToInt]; omega)) only [i32_add, i32_sub, i32_mul, jd4, jd10, jd20, jd24, jd60, jd100, jm4, jm10, jm20, jm24, jm60, jm100, Int32.reduceToInt] at *) <;> (first | omega | ((simp only [jadd, jsub, jmul, jneg, Int32.reduceToInt] at *) <;> omega))))))))))
set_option maxRecDepth 4000 in
theorem w_X12_drill_L119 {b0 : SS}  {Q : SS → Prop} (hr : ∀ s, Lk b0 s → Q s) : ∀ (n : Nat) (s : SS) (x1 : Int32), Lk b0 s → (0 ≤ x1.toInt ∧ x1.toInt ≤ 120) → 120 - x1.toInt < (n : Int) → Ok (f_X12_drill_L119  n s x1) Q := by
  intro n
  induction n with
  | zero =>
    intro s x1 K i0 hm
    exfalso
    (first | with_reducible assumption | omega | ((try clear ih); (try clear hr); (try clear hq0); (try clear hq1); (try clear hrec); ((try simp only [inB, Rs, Pg, Px, Ps, Pr, Pl, jcl, Rg, cellOK, bF, bA, bH, bV, jlt, jeq, jd4, jd10, jd20, jd24, jd60, jd100, jm4, jm10, jm20, jm24, jm60, jm100, Int32.reduceToInt, jn1, jn2, jn3, jn4, jn5, jn6, jn7, jn8, jn9, jn10, jn11, jn12, jn13, jn14, jn15, jn16, jn17, jn18, jn19, jn20, jn21, jn22, jn23, jn24, jn100, jn2000000000, zS_pS, zS_pI, zS_pJ, zS_pR, zS_pF, zS_pG, zI_pI, zI_pS, zI_pJ, zI_pR, zI_pF, zI_pG, zN_pS, zN_pI, zN_pJ, Nat.reduceEqDiff, Nat.reduceAdd, Nat.reduceMul, ite_true, ite_false, and_true, true_and, and_false, false_and, true_or, or_true, false_or, or_false, not_true_eq_false, not_false_eq_true, reduceIte, reduceCtorEq, eq_self] at *) <;> (first | omega | ((try simp (disch := first | omega | (simp (disch := first | omega | (simp (disch := first | omega | (simp only [jd4, jd10, jd20, jd24, jd60, jd100, jm4, jm10, jm20, jm24, jm60, jm100, Int32.reduceToInt]; omega)) only [i32_add, i32_sub, i32_mul, jd4, jd10, jd20, jd24, jd60, jd100, jm4, jm10, jm20, jm24, jm60, jm100, Int32.reduceToInt]; omega)) only [i32_add, i32_sub, i32_mul, jd4, jd10, jd20, jd24, jd60, jd100, jm4, jm10, jm20, jm24, jm60, jm100, Int32.reduceToInt]; omega)) only [i32_add, i32_sub, i32_mul, jd4, jd10, jd20, jd24, jd60, jd100, jm4, jm10, jm20, jm24, jm60, jm100, Int32.reduceToInt] at *) <;> (first | omega | ((try simp (disch := first | omega | (simp (disch := first | omega | (simp (disch := first | omega | (simp only [jd4, jd10, jd20, jd24, jd60, jd100, jm4, jm10, jm20, jm24, jm60, jm100, Int32.reduceToInt]; omega)) only [i32_add, i32_sub, i32_mul, jd4, jd10, jd20, jd24, jd60, jd100, jm4, jm10, jm20, jm24, jm60, jm100, Int32.reduceToInt]; omega)) only [i32_add, i32_sub, i32_mul, jd4, jd10, jd20, jd24, jd60, jd100, jm4, jm10, jm20, jm24, jm60, jm100, Int32.reduceToInt]; omega)) only [i32_add, i32_sub, i32_mul, jd4, jd10, jd20, jd24, jd60, jd100, jm4, jm10, jm20, jm24, jm60, jm100, Int32.reduceToInt] at *) <;> (first | omega | ((simp only [jadd, jsub, jmul, jneg, Int32.reduceToInt] at *) <;> omega)))))))))
  | succ n ih =>
    intro s x1 K i0 hm
    show Ok (f_X12_drill_L119_b  (f_X12_drill_L119  n) s x1) Q
    unfold f_X12_drill_L119_b
    have f0 := (K.f (q := 59) (k := 4) rfl)
    repeat' (first
      | with_reducible assumption
      | dsimp only
      | with_reducible refine Ok_some ?_
      | with_reducible refine Lk_g120 (by assumption) ?_ (fun _ _ _ _ _ => ?_)
      | with_reducible refine Lk_g3 (by assumption) ?_ (fun _ _ => ?_)
      | with_reducible refine Lk_g8 (by assumption) ?_ (fun _ _ => ?_)
      | with_reducible refine Lk_g60 (by assumption) ?_ (fun _ _ => ?_)
      | with_reducible refine Lk_g40 (by assumption) ?_ (fun _ _ => ?_)
      | with_reducible refine Lk_g6 (by assumption) ?_ (fun _ _ _ => ?_)
      | with_reducible refine Ok_gd ?_ (fun _ => ?_)
      | with_reducible refine Ok_vl ?_
      | with_reducible refine Ok_wl ?_
      | with_reducible refine Ok_st ?_
      | with_reducible refine Ok_jn ?_
      | with_reducible refine Ok_b1 ?_
      | with_reducible refine Ok_bd ?_
      | with_reducible refine Ok_onN ?_
      | with_reducible refine Ok_onS ?_
      | with_reducible refine Ok_ift (by decide) ?_
      | with_reducible refine Ok_iff (by decide) ?_
      | with_reducible refine Ok_if (fun _ => ?_) (fun _ => ?_)
      | with_reducible refine Lk_onM (b0 := b0) ?_ (by assumption) (fun _ _ _ => ?_)
      | with_reducible refine Lk_onV (b0 := b0) ?_ (by assumption) (fun _ _ _ _ => ?_)
      | with_reducible refine Lk_onH (b0 := b0) ?_ (by assumption) (fun _ => ?_) (fun _ _ _ _ _ _ => ?_)
      | with_reducible refine Lk_onC (b0 := b0) ?_ (by assumption) (fun _ => ?_) (fun _ _ _ _ => ?_)
      | with_reducible refine Lk_onT (b0 := b0) ?_ (by assumption) (fun _ => ?_) (fun _ _ _ _ => ?_)
      | with_reducible refine ih _ _  ?_ ?_ ?_ 
      | with_reducible refine hr _ ?_ 
      | with_reducible refine Ok.mono (w_X12_bore (b0 := b0) ?_ ?_) (fun _ _ => ?_)
      | with_reducible refine Lk.wI ?_ (by decide) (by decide) ?_
      | with_reducible refine Lk.wF ?_ (by decide) (by decide) (by decide) ?_
      | with_reducible refine Lk.wH ?_ (by assumption) ?_
      | with_reducible refine Lk.wV ?_ (by assumption) ?_
      | with_reducible refine Lk.wM ?_ (by assumption)
      | with_reducible refine Lk.wC ?_ (by assumption)
      | with_reducible refine Lk.w1 ?_ (by assumption)
      | with_reducible refine Lk.w2 ?_ (by assumption)
      | with_reducible refine Lk.w3 ?_ (by assumption)
      | with_reducible refine Lk.wc1 ?_ (by assumption)
      | with_reducible refine Lk.wJ ?_
      | with_reducible refine Lk.wG ?_
      | with_reducible refine Lk.wK ?_
      | with_reducible refine Lk.wFI ?_ (by decide) (by decide) ?_
      | with_reducible refine And.intro ?_ ?_)
    all_goals (try (first | with_reducible assumption | exact trivial | omega | ((try clear ih); (try clear hr); (try clear hq0); (try clear hq1); (try clear hrec); ((try simp only [inB, Rs, Pg, Px, Ps, Pr, Pl, jcl, Rg, cellOK, bF, bA, bH, bV, jlt, jeq, jd4, jd10, jd20, jd24, jd60, jd100, jm4, jm10, jm20, jm24, jm60, jm100, Int32.reduceToInt, jn1, jn2, jn3, jn4, jn5, jn6, jn7, jn8, jn9, jn10, jn11, jn12, jn13, jn14, jn15, jn16, jn17, jn18, jn19, jn20, jn21, jn22, jn23, jn24, jn100, jn2000000000, zS_pS, zS_pI, zS_pJ, zS_pR, zS_pF, zS_pG, zI_pI, zI_pS, zI_pJ, zI_pR, zI_pF, zI_pG, zN_pS, zN_pI, zN_pJ, Nat.reduceEqDiff, Nat.reduceAdd, Nat.reduceMul, ite_true, ite_false, and_true, true_and, and_false, false_and, true_or, or_true, false_or, or_false, not_true_eq_false, not_false_eq_true, reduceIte, reduceCtorEq, eq_self] at *) <;> (first | omega | ((try simp (disch := first | omega | (simp (disch := first | omega | (simp (disch := first | omega | (simp only [jd4, jd10, jd20, jd24, jd60, jd100, jm4, jm10, jm20, jm24, jm60, jm100, Int32.reduceToInt]; omega)) only [i32_add, i32_sub, i32_mul, jd4, jd10, jd20, jd24, jd60, jd100, jm4, jm10, jm20, jm24, jm60, jm100, Int32.reduceToInt]; omega)) only [i32_add, i32_sub, i32_mul, jd4, jd10, jd20, jd24, jd60, jd100, jm4, jm10, jm20, jm24, jm60, jm100, Int32.reduceToInt]; omega)) only [i32_add, i32_sub, i32_mul, jd4, jd10, jd20, jd24, jd60, jd100, jm4, jm10, jm20, jm24, jm60, jm100, Int32.reduceToInt] at *) <;> (first | omega | ((try simp (disch := first | omega | (simp (disch := first | omega | (simp (disch := first | omega | (simp only [jd4, jd10, jd20, jd24, jd60, jd100, jm4, jm10, jm20, jm24, jm60, jm100, Int32.reduceToInt]; omega)) only [i32_add, i32_sub, i32_mul, jd4, jd10, jd20, jd24, jd60, jd100, jm4, jm10, jm20, jm24, jm60, jm100, Int32.reduceToInt]; omega)) only [i32_add, i32_sub, i32_mul, jd4, jd10, jd20, jd24, jd60, jd100, jm4, jm10, jm20, jm24, jm60, jm100, Int32.reduceToInt]; omega)) only [i32_add, i32_sub, i32_mul, jd4, jd10, jd20, jd24, jd60, jd100, jm4, jm10, jm20, jm24, jm60, jm100, Int32.reduceToInt] at *) <;> (first | omega | ((simp only [jadd, jsub, jmul, jneg, Int32.reduceToInt] at *) <;> omega))))))))))
set_option maxRecDepth 4000 in
theorem w_X12_drill {b0 : SS} {s0 : SS} (K : Lk b0 s0) : Ok (f_X12_drill s0) (fun r => Lk b0 r) := by
  unfold f_X12_drill
  repeat' (first
    | with_reducible assumption
    | dsimp only
    | with_reducible refine Ok_some ?_
    | with_reducible refine Lk_g120 (by assumption) ?_ (fun _ _ _ _ _ => ?_)
    | with_reducible refine Lk_g3 (by assumption) ?_ (fun _ _ => ?_)
    | with_reducible refine Lk_g8 (by assumption) ?_ (fun _ _ => ?_)
    | with_reducible refine Lk_g60 (by assumption) ?_ (fun _ _ => ?_)
    | with_reducible refine Lk_g40 (by assumption) ?_ (fun _ _ => ?_)
    | with_reducible refine Lk_g6 (by assumption) ?_ (fun _ _ _ => ?_)
    | with_reducible refine Ok_gd ?_ (fun _ => ?_)
    | with_reducible refine Ok_vl ?_
    | with_reducible refine Ok_wl ?_
    | with_reducible refine Ok_st ?_
    | with_reducible refine Ok_jn ?_
    | with_reducible refine Ok_b1 ?_
    | with_reducible refine Ok_bd ?_
    | with_reducible refine Ok_onN ?_
    | with_reducible refine Ok_onS ?_
    | with_reducible refine Ok_ift (by decide) ?_
    | with_reducible refine Ok_iff (by decide) ?_
    | with_reducible refine Ok_if (fun _ => ?_) (fun _ => ?_)
    | with_reducible refine Lk_onM (b0 := b0) ?_ (by assumption) (fun _ _ _ => ?_)
    | with_reducible refine Lk_onV (b0 := b0) ?_ (by assumption) (fun _ _ _ _ => ?_)
    | with_reducible refine Lk_onH (b0 := b0) ?_ (by assumption) (fun _ => ?_) (fun _ _ _ _ _ _ => ?_)
    | with_reducible refine Lk_onC (b0 := b0) ?_ (by assumption) (fun _ => ?_) (fun _ _ _ _ => ?_)
    | with_reducible refine Lk_onT (b0 := b0) ?_ (by assumption) (fun _ => ?_) (fun _ _ _ _ => ?_)
    | with_reducible refine w_X12_drill_L2 (b0 := b0) (fun _ _ => ?_) _ _ _  ?_ ?_ ?_ 
    | with_reducible refine Ok.mono (w_X12_saysNow (b0 := b0) ?_ ?_) (fun _ ⟨_, _⟩ => ?_)
    | with_reducible refine w_X12_drill_L36 (b0 := b0) (fun _ _ => ?_) _ _ _  ?_ ?_ ?_ 
    | with_reducible refine w_X12_drill_L119 (b0 := b0) (fun _ _ => ?_) _ _ _  ?_ ?_ ?_ 
    | with_reducible refine Lk.wI ?_ (by decide) (by decide) ?_
    | with_reducible refine Lk.wF ?_ (by decide) (by decide) (by decide) ?_
    | with_reducible refine Lk.wH ?_ (by assumption) ?_
    | with_reducible refine Lk.wV ?_ (by assumption) ?_
    | with_reducible refine Lk.wM ?_ (by assumption)
    | with_reducible refine Lk.wC ?_ (by assumption)
    | with_reducible refine Lk.w1 ?_ (by assumption)
    | with_reducible refine Lk.w2 ?_ (by assumption)
    | with_reducible refine Lk.w3 ?_ (by assumption)
    | with_reducible refine Lk.wc1 ?_ (by assumption)
    | with_reducible refine Lk.wJ ?_
    | with_reducible refine Lk.wG ?_
    | with_reducible refine Lk.wK ?_
    | with_reducible refine Lk.wFI ?_ (by decide) (by decide) ?_
    | with_reducible refine And.intro ?_ ?_)
  all_goals (try (first | with_reducible assumption | exact trivial | omega | ((try clear ih); (try clear hr); (try clear hq0); (try clear hq1); (try clear hrec); ((try simp only [inB, Rs, Pg, Px, Ps, Pr, Pl, jcl, Rg, cellOK, bF, bA, bH, bV, jlt, jeq, jd4, jd10, jd20, jd24, jd60, jd100, jm4, jm10, jm20, jm24, jm60, jm100, Int32.reduceToInt, jn1, jn2, jn3, jn4, jn5, jn6, jn7, jn8, jn9, jn10, jn11, jn12, jn13, jn14, jn15, jn16, jn17, jn18, jn19, jn20, jn21, jn22, jn23, jn24, jn100, jn2000000000, zS_pS, zS_pI, zS_pJ, zS_pR, zS_pF, zS_pG, zI_pI, zI_pS, zI_pJ, zI_pR, zI_pF, zI_pG, zN_pS, zN_pI, zN_pJ, Nat.reduceEqDiff, Nat.reduceAdd, Nat.reduceMul, ite_true, ite_false, and_true, true_and, and_false, false_and, true_or, or_true, false_or, or_false, not_true_eq_false, not_false_eq_true, reduceIte, reduceCtorEq, eq_self] at *) <;> (first | omega | ((try simp (disch := first | omega | (simp (disch := first | omega | (simp (disch := first | omega | (simp only [jd4, jd10, jd20, jd24, jd60, jd100, jm4, jm10, jm20, jm24, jm60, jm100, Int32.reduceToInt]; omega)) only [i32_add, i32_sub, i32_mul, jd4, jd10, jd20, jd24, jd60, jd100, jm4, jm10, jm20, jm24, jm60, jm100, Int32.reduceToInt]; omega)) only [i32_add, i32_sub, i32_mul, jd4, jd10, jd20, jd24, jd60, jd100, jm4, jm10, jm20, jm24, jm60, jm100, Int32.reduceToInt]; omega)) only [i32_add, i32_sub, i32_mul, jd4, jd10, jd20, jd24, jd60, jd100, jm4, jm10, jm20, jm24, jm60, jm100, Int32.reduceToInt] at *) <;> (first | omega | ((try simp (disch := first | omega | (simp (disch := first | omega | (simp (disch := first | omega | (simp only [jd4, jd10, jd20, jd24, jd60, jd100, jm4, jm10, jm20, jm24, jm60, jm100, Int32.reduceToInt]; omega)) only [i32_add, i32_sub, i32_mul, jd4, jd10, jd20, jd24, jd60, jd100, jm4, jm10, jm20, jm24, jm60, jm100, Int32.reduceToInt]; omega)) only [i32_add, i32_sub, i32_mul, jd4, jd10, jd20, jd24, jd60, jd100, jm4, jm10, jm20, jm24, jm60, jm100, Int32.reduceToInt]; omega)) only [i32_add, i32_sub, i32_mul, jd4, jd10, jd20, jd24, jd60, jd100, jm4, jm10, jm20, jm24, jm60, jm100, Int32.reduceToInt] at *) <;> (first | omega | ((simp only [jadd, jsub, jmul, jneg, Int32.reduceToInt] at *) <;> omega))))))))))
set_option maxRecDepth 4000 in
theorem w_X12_eat_L2 {b0 : SS}  {Q : SS → Prop} (hr : ∀ s, Lk b0 s → Q s) : ∀ (n : Nat) (s : SS) (x1 : Int32), Lk b0 s → (0 ≤ x1.toInt ∧ x1.toInt ≤ 120) → 120 - x1.toInt < (n : Int) → Ok (f_X12_eat_L2  n s x1) Q := by
  intro n
  induction n with
  | zero =>
    intro s x1 K i0 hm
    exfalso
    (first | with_reducible assumption | omega | ((try clear ih); (try clear hr); (try clear hq0); (try clear hq1); (try clear hrec); ((try simp only [inB, Rs, Pg, Px, Ps, Pr, Pl, jcl, Rg, cellOK, bF, bA, bH, bV, jlt, jeq, jd4, jd10, jd20, jd24, jd60, jd100, jm4, jm10, jm20, jm24, jm60, jm100, Int32.reduceToInt, jn1, jn2, jn3, jn4, jn5, jn6, jn7, jn8, jn9, jn10, jn11, jn12, jn13, jn14, jn15, jn16, jn17, jn18, jn19, jn20, jn21, jn22, jn23, jn24, jn100, jn2000000000, zS_pS, zS_pI, zS_pJ, zS_pR, zS_pF, zS_pG, zI_pI, zI_pS, zI_pJ, zI_pR, zI_pF, zI_pG, zN_pS, zN_pI, zN_pJ, Nat.reduceEqDiff, Nat.reduceAdd, Nat.reduceMul, ite_true, ite_false, and_true, true_and, and_false, false_and, true_or, or_true, false_or, or_false, not_true_eq_false, not_false_eq_true, reduceIte, reduceCtorEq, eq_self] at *) <;> (first | omega | ((try simp (disch := first | omega | (simp (disch := first | omega | (simp (disch := first | omega | (simp only [jd4, jd10, jd20, jd24, jd60, jd100, jm4, jm10, jm20, jm24, jm60, jm100, Int32.reduceToInt]; omega)) only [i32_add, i32_sub, i32_mul, jd4, jd10, jd20, jd24, jd60, jd100, jm4, jm10, jm20, jm24, jm60, jm100, Int32.reduceToInt]; omega)) only [i32_add, i32_sub, i32_mul, jd4, jd10, jd20, jd24, jd60, jd100, jm4, jm10, jm20, jm24, jm60, jm100, Int32.reduceToInt]; omega)) only [i32_add, i32_sub, i32_mul, jd4, jd10, jd20, jd24, jd60, jd100, jm4, jm10, jm20, jm24, jm60, jm100, Int32.reduceToInt] at *) <;> (first | omega | ((try simp (disch := first | omega | (simp (disch := first | omega | (simp (disch := first | omega | (simp only [jd4, jd10, jd20, jd24, jd60, jd100, jm4, jm10, jm20, jm24, jm60, jm100, Int32.reduceToInt]; omega)) only [i32_add, i32_sub, i32_mul, jd4, jd10, jd20, jd24, jd60, jd100, jm4, jm10, jm20, jm24, jm60, jm100, Int32.reduceToInt]; omega)) only [i32_add, i32_sub, i32_mul, jd4, jd10, jd20, jd24, jd60, jd100, jm4, jm10, jm20, jm24, jm60, jm100, Int32.reduceToInt]; omega)) only [i32_add, i32_sub, i32_mul, jd4, jd10, jd20, jd24, jd60, jd100, jm4, jm10, jm20, jm24, jm60, jm100, Int32.reduceToInt] at *) <;> (first | omega | ((simp only [jadd, jsub, jmul, jneg, Int32.reduceToInt] at *) <;> omega)))))))))
  | succ n ih =>
    intro s x1 K i0 hm
    show Ok (f_X12_eat_L2_b  (f_X12_eat_L2  n) s x1) Q
    unfold f_X12_eat_L2_b
    have f0 := (K.f (q := 59) (k := 4) rfl)
    repeat' (first
      | with_reducible assumption
      | dsimp only
      | with_reducible refine Ok_some ?_
      | with_reducible refine Lk_g120 (by assumption) ?_ (fun _ _ _ _ _ => ?_)
      | with_reducible refine Lk_g3 (by assumption) ?_ (fun _ _ => ?_)
      | with_reducible refine Lk_g8 (by assumption) ?_ (fun _ _ => ?_)
      | with_reducible refine Lk_g60 (by assumption) ?_ (fun _ _ => ?_)
      | with_reducible refine Lk_g40 (by assumption) ?_ (fun _ _ => ?_)
      | with_reducible refine Lk_g6 (by assumption) ?_ (fun _ _ _ => ?_)
      | with_reducible refine Ok_gd ?_ (fun _ => ?_)
      | with_reducible refine Ok_vl ?_
      | with_reducible refine Ok_wl ?_
      | with_reducible refine Ok_st ?_
      | with_reducible refine Ok_jn ?_
      | with_reducible refine Ok_b1 ?_
      | with_reducible refine Ok_bd ?_
      | with_reducible refine Ok_onN ?_
      | with_reducible refine Ok_onS ?_
      | with_reducible refine Ok_ift (by decide) ?_
      | with_reducible refine Ok_iff (by decide) ?_
      | with_reducible refine Ok_if (fun _ => ?_) (fun _ => ?_)
      | with_reducible refine Lk_onM (b0 := b0) ?_ (by assumption) (fun _ _ _ => ?_)
      | with_reducible refine Lk_onV (b0 := b0) ?_ (by assumption) (fun _ _ _ _ => ?_)
      | with_reducible refine Lk_onH (b0 := b0) ?_ (by assumption) (fun _ => ?_) (fun _ _ _ _ _ _ => ?_)
      | with_reducible refine Lk_onC (b0 := b0) ?_ (by assumption) (fun _ => ?_) (fun _ _ _ _ => ?_)
      | with_reducible refine Lk_onT (b0 := b0) ?_ (by assumption) (fun _ => ?_) (fun _ _ _ _ => ?_)
      | with_reducible refine ih _ _  ?_ ?_ ?_ 
      | with_reducible refine hr _ ?_ 
      | with_reducible refine Ok.mono (w_X12_saysNow (b0 := b0) ?_ ?_) (fun _ ⟨_, _⟩ => ?_)
      | with_reducible refine Ok.mono (w_X12_held ?_) (fun _ _ => ?_)
      | with_reducible refine Lk.wI ?_ (by decide) (by decide) ?_
      | with_reducible refine Lk.wF ?_ (by decide) (by decide) (by decide) ?_
      | with_reducible refine Lk.wH ?_ (by assumption) ?_
      | with_reducible refine Lk.wV ?_ (by assumption) ?_
      | with_reducible refine Lk.wM ?_ (by assumption)
      | with_reducible refine Lk.wC ?_ (by assumption)
      | with_reducible refine Lk.w1 ?_ (by assumption)
      | with_reducible refine Lk.w2 ?_ (by assumption)
      | with_reducible refine Lk.w3 ?_ (by assumption)
      | with_reducible refine Lk.wc1 ?_ (by assumption)
      | with_reducible refine Lk.wJ ?_
      | with_reducible refine Lk.wG ?_
      | with_reducible refine Lk.wK ?_
      | with_reducible refine Lk.wFI ?_ (by decide) (by decide) ?_
      | with_reducible refine And.intro ?_ ?_)
    all_goals (try (first | with_reducible assumption | exact trivial | omega | ((try clear ih); (try clear hr); (try clear hq0); (try clear hq1); (try clear hrec); ((try simp only [inB, Rs, Pg, Px, Ps, Pr, Pl, jcl, Rg, cellOK, bF, bA, bH, bV, jlt, jeq, jd4, jd10, jd20, jd24, jd60, jd100, jm4, jm10, jm20, jm24, jm60, jm100, Int32.reduceToInt, jn1, jn2, jn3, jn4, jn5, jn6, jn7, jn8, jn9, jn10, jn11, jn12, jn13, jn14, jn15, jn16, jn17, jn18, jn19, jn20, jn21, jn22, jn23, jn24, jn100, jn2000000000, zS_pS, zS_pI, zS_pJ, zS_pR, zS_pF, zS_pG, zI_pI, zI_pS, zI_pJ, zI_pR, zI_pF, zI_pG, zN_pS, zN_pI, zN_pJ, Nat.reduceEqDiff, Nat.reduceAdd, Nat.reduceMul, ite_true, ite_false, and_true, true_and, and_false, false_and, true_or, or_true, false_or, or_false, not_true_eq_false, not_false_eq_true, reduceIte, reduceCtorEq, eq_self] at *) <;> (first | omega | ((try simp (disch := first | omega | (simp (disch := first | omega | (simp (disch := first | omega | (simp only [jd4, jd10, jd20, jd24, jd60, jd100, jm4, jm10, jm20, jm24, jm60, jm100, Int32.reduceToInt]; omega)) only [i32_add, i32_sub, i32_mul, jd4, jd10, jd20, jd24, jd60, jd100, jm4, jm10, jm20, jm24, jm60, jm100, Int32.reduceToInt]; omega)) only [i32_add, i32_sub, i32_mul, jd4, jd10, jd20, jd24, jd60, jd100, jm4, jm10, jm20, jm24, jm60, jm100, Int32.reduceToInt]; omega)) only [i32_add, i32_sub, i32_mul, jd4, jd10, jd20, jd24, jd60, jd100, jm4, jm10, jm20, jm24, jm60, jm100, Int32.reduceToInt] at *) <;> (first | omega | ((try simp (disch := first | omega | (simp (disch := first | omega | (simp (disch := first | omega | (simp only [jd4, jd10, jd20, jd24, jd60, jd100, jm4, jm10, jm20, jm24, jm60, jm100, Int32.reduceToInt]; omega)) only [i32_add, i32_sub, i32_mul, jd4, jd10, jd20, jd24, jd60, jd100, jm4, jm10, jm20, jm24, jm60, jm100, Int32.reduceToInt]; omega)) only [i32_add, i32_sub, i32_mul, jd4, jd10, jd20, jd24, jd60, jd100, jm4, jm10, jm20, jm24, jm60, jm100, Int32.reduceToInt]; omega)) only [i32_add, i32_sub, i32_mul, jd4, jd10, jd20, jd24, jd60, jd100, jm4, jm10, jm20, jm24, jm60, jm100, Int32.reduceToInt] at *) <;> (first | omega | ((simp only [jadd, jsub, jmul, jneg, Int32.reduceToInt] at *) <;> omega))))))))))
set_option maxRecDepth 4000 in
theorem w_X12_eat {b0 : SS} {s0 : SS} (K : Lk b0 s0) : Ok (f_X12_eat s0) (fun r => Lk b0 r) := by
  unfold f_X12_eat
  repeat' (first
    | with_reducible assumption
    | dsimp only
    | with_reducible refine Ok_some ?_
    | with_reducible refine Lk_g120 (by assumption) ?_ (fun _ _ _ _ _ => ?_)
    | with_reducible refine Lk_g3 (by assumption) ?_ (fun _ _ => ?_)
    | with_reducible refine Lk_g8 (by assumption) ?_ (fun _ _ => ?_)
    | with_reducible refine Lk_g60 (by assumption) ?_ (fun _ _ => ?_)
    | with_reducible refine Lk_g40 (by assumption) ?_ (fun _ _ => ?_)
    | with_reducible refine Lk_g6 (by assumption) ?_ (fun _ _ _ => ?_)
    | with_reducible refine Ok_gd ?_ (fun _ => ?_)
    | with_reducible refine Ok_vl ?_
    | with_reducible refine Ok_wl ?_
    | with_reducible refine Ok_st ?_
    | with_reducible refine Ok_jn ?_
    | with_reducible refine Ok_b1 ?_
    | with_reducible refine Ok_bd ?_
    | with_reducible refine Ok_onN ?_
    | with_reducible refine Ok_onS ?_
    | with_reducible refine Ok_ift (by decide) ?_
    | with_reducible refine Ok_iff (by decide) ?_
    | with_reducible refine Ok_if (fun _ => ?_) (fun _ => ?_)
    | with_reducible refine Lk_onM (b0 := b0) ?_ (by assumption) (fun _ _ _ => ?_)
    | with_reducible refine Lk_onV (b0 := b0) ?_ (by assumption) (fun _ _ _ _ => ?_)
    | with_reducible refine Lk_onH (b0 := b0) ?_ (by assumption) (fun _ => ?_) (fun _ _ _ _ _ _ => ?_)
    | with_reducible refine Lk_onC (b0 := b0) ?_ (by assumption) (fun _ => ?_) (fun _ _ _ _ => ?_)
    | with_reducible refine Lk_onT (b0 := b0) ?_ (by assumption) (fun _ => ?_) (fun _ _ _ _ => ?_)
    | with_reducible refine w_X12_eat_L2 (b0 := b0) (fun _ _ => ?_) _ _ _  ?_ ?_ ?_ 
    | with_reducible refine Lk.wI ?_ (by decide) (by decide) ?_
    | with_reducible refine Lk.wF ?_ (by decide) (by decide) (by decide) ?_
    | with_reducible refine Lk.wH ?_ (by assumption) ?_
    | with_reducible refine Lk.wV ?_ (by assumption) ?_
    | with_reducible refine Lk.wM ?_ (by assumption)
    | with_reducible refine Lk.wC ?_ (by assumption)
    | with_reducible refine Lk.w1 ?_ (by assumption)
    | with_reducible refine Lk.w2 ?_ (by assumption)
    | with_reducible refine Lk.w3 ?_ (by assumption)
    | with_reducible refine Lk.wc1 ?_ (by assumption)
    | with_reducible refine Lk.wJ ?_
    | with_reducible refine Lk.wG ?_
    | with_reducible refine Lk.wK ?_
    | with_reducible refine Lk.wFI ?_ (by decide) (by decide) ?_
    | with_reducible refine And.intro ?_ ?_)
  all_goals (try (first | with_reducible assumption | exact trivial | omega | ((try clear ih); (try clear hr); (try clear hq0); (try clear hq1); (try clear hrec); ((try simp only [inB, Rs, Pg, Px, Ps, Pr, Pl, jcl, Rg, cellOK, bF, bA, bH, bV, jlt, jeq, jd4, jd10, jd20, jd24, jd60, jd100, jm4, jm10, jm20, jm24, jm60, jm100, Int32.reduceToInt, jn1, jn2, jn3, jn4, jn5, jn6, jn7, jn8, jn9, jn10, jn11, jn12, jn13, jn14, jn15, jn16, jn17, jn18, jn19, jn20, jn21, jn22, jn23, jn24, jn100, jn2000000000, zS_pS, zS_pI, zS_pJ, zS_pR, zS_pF, zS_pG, zI_pI, zI_pS, zI_pJ, zI_pR, zI_pF, zI_pG, zN_pS, zN_pI, zN_pJ, Nat.reduceEqDiff, Nat.reduceAdd, Nat.reduceMul, ite_true, ite_false, and_true, true_and, and_false, false_and, true_or, or_true, false_or, or_false, not_true_eq_false, not_false_eq_true, reduceIte, reduceCtorEq, eq_self] at *) <;> (first | omega | ((try simp (disch := first | omega | (simp (disch := first | omega | (simp (disch := first | omega | (simp only [jd4, jd10, jd20, jd24, jd60, jd100, jm4, jm10, jm20, jm24, jm60, jm100, Int32.reduceToInt]; omega)) only [i32_add, i32_sub, i32_mul, jd4, jd10, jd20, jd24, jd60, jd100, jm4, jm10, jm20, jm24, jm60, jm100, Int32.reduceToInt]; omega)) only [i32_add, i32_sub, i32_mul, jd4, jd10, jd20, jd24, jd60, jd100, jm4, jm10, jm20, jm24, jm60, jm100, Int32.reduceToInt]; omega)) only [i32_add, i32_sub, i32_mul, jd4, jd10, jd20, jd24, jd60, jd100, jm4, jm10, jm20, jm24, jm60, jm100, Int32.reduceToInt] at *) <;> (first | omega | ((try simp (disch := first | omega | (simp (disch := first | omega | (simp (disch := first | omega | (simp only [jd4, jd10, jd20, jd24, jd60, jd100, jm4, jm10, jm20, jm24, jm60, jm100, Int32.reduceToInt]; omega)) only [i32_add, i32_sub, i32_mul, jd4, jd10, jd20, jd24, jd60, jd100, jm4, jm10, jm20, jm24, jm60, jm100, Int32.reduceToInt]; omega)) only [i32_add, i32_sub, i32_mul, jd4, jd10, jd20, jd24, jd60, jd100, jm4, jm10, jm20, jm24, jm60, jm100, Int32.reduceToInt]; omega)) only [i32_add, i32_sub, i32_mul, jd4, jd10, jd20, jd24, jd60, jd100, jm4, jm10, jm20, jm24, jm60, jm100, Int32.reduceToInt] at *) <;> (first | omega | ((simp only [jadd, jsub, jmul, jneg, Int32.reduceToInt] at *) <;> omega))))))))))
set_option maxRecDepth 4000 in
theorem w_X12_comeDown_L4 {b0 : SS} {q0 : SS → Int32 → Option SS} {Q : SS → Prop} (hq0 : ∀ (s : SS) (z0 : Int32), Lk b0 s → (0 ≤ z0.toInt ∧ z0.toInt ≤ 40) → Ok (q0 s z0) Q) : ∀ (n : Nat) (s : SS) (x1 : Int32) (x2 : Int32), Lk b0 s → (0 ≤ x1.toInt ∧ x1.toInt ≤ x2.toInt) → (0 ≤ x2.toInt ∧ x2.toInt ≤ 40) → 40 - x2.toInt < (n : Int) → Ok (f_X12_comeDown_L4 q0 n s x1 x2) Q := by
  intro n
  induction n with
  | zero =>
    intro s x1 x2 K i0 i1 hm
    exfalso
    (first | with_reducible assumption | omega | ((try clear ih); (try clear hr); (try clear hq0); (try clear hq1); (try clear hrec); ((try simp only [inB, Rs, Pg, Px, Ps, Pr, Pl, jcl, Rg, cellOK, bF, bA, bH, bV, jlt, jeq, jd4, jd10, jd20, jd24, jd60, jd100, jm4, jm10, jm20, jm24, jm60, jm100, Int32.reduceToInt, jn1, jn2, jn3, jn4, jn5, jn6, jn7, jn8, jn9, jn10, jn11, jn12, jn13, jn14, jn15, jn16, jn17, jn18, jn19, jn20, jn21, jn22, jn23, jn24, jn100, jn2000000000, zS_pS, zS_pI, zS_pJ, zS_pR, zS_pF, zS_pG, zI_pI, zI_pS, zI_pJ, zI_pR, zI_pF, zI_pG, zN_pS, zN_pI, zN_pJ, Nat.reduceEqDiff, Nat.reduceAdd, Nat.reduceMul, ite_true, ite_false, and_true, true_and, and_false, false_and, true_or, or_true, false_or, or_false, not_true_eq_false, not_false_eq_true, reduceIte, reduceCtorEq, eq_self] at *) <;> (first | omega | ((try simp (disch := first | omega | (simp (disch := first | omega | (simp (disch := first | omega | (simp only [jd4, jd10, jd20, jd24, jd60, jd100, jm4, jm10, jm20, jm24, jm60, jm100, Int32.reduceToInt]; omega)) only [i32_add, i32_sub, i32_mul, jd4, jd10, jd20, jd24, jd60, jd100, jm4, jm10, jm20, jm24, jm60, jm100, Int32.reduceToInt]; omega)) only [i32_add, i32_sub, i32_mul, jd4, jd10, jd20, jd24, jd60, jd100, jm4, jm10, jm20, jm24, jm60, jm100, Int32.reduceToInt]; omega)) only [i32_add, i32_sub, i32_mul, jd4, jd10, jd20, jd24, jd60, jd100, jm4, jm10, jm20, jm24, jm60, jm100, Int32.reduceToInt] at *) <;> (first | omega | ((try simp (disch := first | omega | (simp (disch := first | omega | (simp (disch := first | omega | (simp only [jd4, jd10, jd20, jd24, jd60, jd100, jm4, jm10, jm20, jm24, jm60, jm100, Int32.reduceToInt]; omega)) only [i32_add, i32_sub, i32_mul, jd4, jd10, jd20, jd24, jd60, jd100, jm4, jm10, jm20, jm24, jm60, jm100, Int32.reduceToInt]; omega)) only [i32_add, i32_sub, i32_mul, jd4, jd10, jd20, jd24, jd60, jd100, jm4, jm10, jm20, jm24, jm60, jm100, Int32.reduceToInt]; omega)) only [i32_add, i32_sub, i32_mul, jd4, jd10, jd20, jd24, jd60, jd100, jm4, jm10, jm20, jm24, jm60, jm100, Int32.reduceToInt] at *) <;> (first | omega | ((simp only [jadd, jsub, jmul, jneg, Int32.reduceToInt] at *) <;> omega)))))))))
  | succ n ih =>
    intro s x1 x2 K i0 i1 hm
    show Ok (f_X12_comeDown_L4_b q0 (f_X12_comeDown_L4 q0 n) s x1 x2) Q
    unfold f_X12_comeDown_L4_b
    have f0 := (K.f (q := 59) (k := 62) rfl)
    repeat' (first
      | with_reducible assumption
      | dsimp only
      | with_reducible refine Ok_some ?_
      | with_reducible refine Lk_g120 (by assumption) ?_ (fun _ _ _ _ _ => ?_)
      | with_reducible refine Lk_g3 (by assumption) ?_ (fun _ _ => ?_)
      | with_reducible refine Lk_g8 (by assumption) ?_ (fun _ _ => ?_)
      | with_reducible refine Lk_g60 (by assumption) ?_ (fun _ _ => ?_)
      | with_reducible refine Lk_g40 (by assumption) ?_ (fun _ _ => ?_)
      | with_reducible refine Lk_g6 (by assumption) ?_ (fun _ _ _ => ?_)
      | with_reducible refine Ok_gd ?_ (fun _ => ?_)
      | with_reducible refine Ok_vl ?_
      | with_reducible refine Ok_wl ?_
      | with_reducible refine Ok_st ?_
      | with_reducible refine Ok_jn ?_
      | with_reducible refine Ok_b1 ?_
      | with_reducible refine Ok_bd ?_
      | with_reducible refine Ok_onN ?_
      | with_reducible refine Ok_onS ?_
      | with_reducible refine Ok_ift (by decide) ?_
      | with_reducible refine Ok_iff (by decide) ?_
      | with_reducible refine Ok_if (fun _ => ?_) (fun _ => ?_)
      | with_reducible refine Lk_onM (b0 := b0) ?_ (by assumption) (fun _ _ _ => ?_)
      | with_reducible refine Lk_onV (b0 := b0) ?_ (by assumption) (fun _ _ _ _ => ?_)
      | with_reducible refine Lk_onH (b0 := b0) ?_ (by assumption) (fun _ => ?_) (fun _ _ _ _ _ _ => ?_)
      | with_reducible refine Lk_onC (b0 := b0) ?_ (by assumption) (fun _ => ?_) (fun _ _ _ _ => ?_)
      | with_reducible refine Lk_onT (b0 := b0) ?_ (by assumption) (fun _ => ?_) (fun _ _ _ _ => ?_)
      | with_reducible refine ih _ _ _  ?_ ?_ ?_ ?_ 
      | with_reducible refine hq0 _ _  ?_ ?_ 
      | with_reducible refine Lk.wI ?_ (by decide) (by decide) ?_
      | with_reducible refine Lk.wF ?_ (by decide) (by decide) (by decide) ?_
      | with_reducible refine Lk.wH ?_ (by assumption) ?_
      | with_reducible refine Lk.wV ?_ (by assumption) ?_
      | with_reducible refine Lk.wM ?_ (by assumption)
      | with_reducible refine Lk.wC ?_ (by assumption)
      | with_reducible refine Lk.w1 ?_ (by assumption)
      | with_reducible refine Lk.w2 ?_ (by assumption)
      | with_reducible refine Lk.w3 ?_ (by assumption)
      | with_reducible refine Lk.wc1 ?_ (by assumption)
      | with_reducible refine Lk.wJ ?_
      | with_reducible refine Lk.wG ?_
      | with_reducible refine Lk.wK ?_
      | with_reducible refine Lk.wFI ?_ (by decide) (by decide) ?_
      | with_reducible refine And.intro ?_ ?_)
    all_goals (try (first | with_reducible assumption | exact trivial | omega | ((try clear ih); (try clear hr); (try clear hq0); (try clear hq1); (try clear hrec); ((try simp only [inB, Rs, Pg, Px, Ps, Pr, Pl, jcl, Rg, cellOK, bF, bA, bH, bV, jlt, jeq, jd4, jd10, jd20, jd24, jd60, jd100, jm4, jm10, jm20, jm24, jm60, jm100, Int32.reduceToInt, jn1, jn2, jn3, jn4, jn5, jn6, jn7, jn8, jn9, jn10, jn11, jn12, jn13, jn14, jn15, jn16, jn17, jn18, jn19, jn20, jn21, jn22, jn23, jn24, jn100, jn2000000000, zS_pS, zS_pI, zS_pJ, zS_pR, zS_pF, zS_pG, zI_pI, zI_pS, zI_pJ, zI_pR, zI_pF, zI_pG, zN_pS, zN_pI, zN_pJ, Nat.reduceEqDiff, Nat.reduceAdd, Nat.reduceMul, ite_true, ite_false, and_true, true_and, and_false, false_and, true_or, or_true, false_or, or_false, not_true_eq_false, not_false_eq_true, reduceIte, reduceCtorEq, eq_self] at *) <;> (first | omega | ((try simp (disch := first | omega | (simp (disch := first | omega | (simp (disch := first | omega | (simp only [jd4, jd10, jd20, jd24, jd60, jd100, jm4, jm10, jm20, jm24, jm60, jm100, Int32.reduceToInt]; omega)) only [i32_add, i32_sub, i32_mul, jd4, jd10, jd20, jd24, jd60, jd100, jm4, jm10, jm20, jm24, jm60, jm100, Int32.reduceToInt]; omega)) only [i32_add, i32_sub, i32_mul, jd4, jd10, jd20, jd24, jd60, jd100, jm4, jm10, jm20, jm24, jm60, jm100, Int32.reduceToInt]; omega)) only [i32_add, i32_sub, i32_mul, jd4, jd10, jd20, jd24, jd60, jd100, jm4, jm10, jm20, jm24, jm60, jm100, Int32.reduceToInt] at *) <;> (first | omega | ((try simp (disch := first | omega | (simp (disch := first | omega | (simp (disch := first | omega | (simp only [jd4, jd10, jd20, jd24, jd60, jd100, jm4, jm10, jm20, jm24, jm60, jm100, Int32.reduceToInt]; omega)) only [i32_add, i32_sub, i32_mul, jd4, jd10, jd20, jd24, jd60, jd100, jm4, jm10, jm20, jm24, jm60, jm100, Int32.reduceToInt]; omega)) only [i32_add, i32_sub, i32_mul, jd4, jd10, jd20, jd24, jd60, jd100, jm4, jm10, jm20, jm24, jm60, jm100, Int32.reduceToInt]; omega)) only [i32_add, i32_sub, i32_mul, jd4, jd10, jd20, jd24, jd60, jd100, jm4, jm10, jm20, jm24, jm60, jm100, Int32.reduceToInt] at *) <;> (first | omega | ((simp only [jadd, jsub, jmul, jneg, Int32.reduceToInt] at *) <;> omega))))))))))
set_option maxRecDepth 4000 in
theorem w_X12_comeDown {b0 : SS} {s0 : SS} (K : Lk b0 s0) : Ok (f_X12_comeDown s0) (fun r => Lk b0 r) := by
  unfold f_X12_comeDown
  repeat' (first
    | with_reducible assumption
    | dsimp only
    | with_reducible refine Ok_some ?_
    | with_reducible refine Lk_g120 (by assumption) ?_ (fun _ _ _ _ _ => ?_)
    | with_reducible refine Lk_g3 (by assumption) ?_ (fun _ _ => ?_)
    | with_reducible refine Lk_g8 (by assumption) ?_ (fun _ _ => ?_)
    | with_reducible refine Lk_g60 (by assumption) ?_ (fun _ _ => ?_)
    | with_reducible refine Lk_g40 (by assumption) ?_ (fun _ _ => ?_)
    | with_reducible refine Lk_g6 (by assumption) ?_ (fun _ _ _ => ?_)
    | with_reducible refine Ok_gd ?_ (fun _ => ?_)
    | with_reducible refine Ok_vl ?_
    | with_reducible refine Ok_wl ?_
    | with_reducible refine Ok_st ?_
    | with_reducible refine Ok_jn ?_
    | with_reducible refine Ok_b1 ?_
    | with_reducible refine Ok_bd ?_
    | with_reducible refine Ok_onN ?_
    | with_reducible refine Ok_onS ?_
    | with_reducible refine Ok_ift (by decide) ?_
    | with_reducible refine Ok_iff (by decide) ?_
    | with_reducible refine Ok_if (fun _ => ?_) (fun _ => ?_)
    | with_reducible refine Lk_onM (b0 := b0) ?_ (by assumption) (fun _ _ _ => ?_)
    | with_reducible refine Lk_onV (b0 := b0) ?_ (by assumption) (fun _ _ _ _ => ?_)
    | with_reducible refine Lk_onH (b0 := b0) ?_ (by assumption) (fun _ => ?_) (fun _ _ _ _ _ _ => ?_)
    | with_reducible refine Lk_onC (b0 := b0) ?_ (by assumption) (fun _ => ?_) (fun _ _ _ _ => ?_)
    | with_reducible refine Lk_onT (b0 := b0) ?_ (by assumption) (fun _ => ?_) (fun _ _ _ _ => ?_)
    | with_reducible refine w_X12_comeDown_L4 (b0 := b0) (fun _ _ _ _ => ?_) _ _ _ _  ?_ ?_ ?_ ?_ 
    | with_reducible refine Lk.wI ?_ (by decide) (by decide) ?_
    | with_reducible refine Lk.wF ?_ (by decide) (by decide) (by decide) ?_
    | with_reducible refine Lk.wH ?_ (by assumption) ?_
    | with_reducible refine Lk.wV ?_ (by assumption) ?_
    | with_reducible refine Lk.wM ?_ (by assumption)
    | with_reducible refine Lk.wC ?_ (by assumption)
    | with_reducible refine Lk.w1 ?_ (by assumption)
    | with_reducible refine Lk.w2 ?_ (by assumption)
    | with_reducible refine Lk.w3 ?_ (by assumption)
    | with_reducible refine Lk.wc1 ?_ (by assumption)
    | with_reducible refine Lk.wJ ?_
    | with_reducible refine Lk.wG ?_
    | with_reducible refine Lk.wK ?_
    | with_reducible refine Lk.wFI ?_ (by decide) (by decide) ?_
    | with_reducible refine And.intro ?_ ?_)
  all_goals (try (first | with_reducible assumption | exact trivial | omega | ((try clear ih); (try clear hr); (try clear hq0); (try clear hq1); (try clear hrec); ((try simp only [inB, Rs, Pg, Px, Ps, Pr, Pl, jcl, Rg, cellOK, bF, bA, bH, bV, jlt, jeq, jd4, jd10, jd20, jd24, jd60, jd100, jm4, jm10, jm20, jm24, jm60, jm100, Int32.reduceToInt, jn1, jn2, jn3, jn4, jn5, jn6, jn7, jn8, jn9, jn10, jn11, jn12, jn13, jn14, jn15, jn16, jn17, jn18, jn19, jn20, jn21, jn22, jn23, jn24, jn100, jn2000000000, zS_pS, zS_pI, zS_pJ, zS_pR, zS_pF, zS_pG, zI_pI, zI_pS, zI_pJ, zI_pR, zI_pF, zI_pG, zN_pS, zN_pI, zN_pJ, Nat.reduceEqDiff, Nat.reduceAdd, Nat.reduceMul, ite_true, ite_false, and_true, true_and, and_false, false_and, true_or, or_true, false_or, or_false, not_true_eq_false, not_false_eq_true, reduceIte, reduceCtorEq, eq_self] at *) <;> (first | omega | ((try simp (disch := first | omega | (simp (disch := first | omega | (simp (disch := first | omega | (simp only [jd4, jd10, jd20, jd24, jd60, jd100, jm4, jm10, jm20, jm24, jm60, jm100, Int32.reduceToInt]; omega)) only [i32_add, i32_sub, i32_mul, jd4, jd10, jd20, jd24, jd60, jd100, jm4, jm10, jm20, jm24, jm60, jm100, Int32.reduceToInt]; omega)) only [i32_add, i32_sub, i32_mul, jd4, jd10, jd20, jd24, jd60, jd100, jm4, jm10, jm20, jm24, jm60, jm100, Int32.reduceToInt]; omega)) only [i32_add, i32_sub, i32_mul, jd4, jd10, jd20, jd24, jd60, jd100, jm4, jm10, jm20, jm24, jm60, jm100, Int32.reduceToInt] at *) <;> (first | omega | ((try simp (disch := first | omega | (simp (disch := first | omega | (simp (disch := first | omega | (simp only [jd4, jd10, jd20, jd24, jd60, jd100, jm4, jm10, jm20, jm24, jm60, jm100, Int32.reduceToInt]; omega)) only [i32_add, i32_sub, i32_mul, jd4, jd10, jd20, jd24, jd60, jd100, jm4, jm10, jm20, jm24, jm60, jm100, Int32.reduceToInt]; omega)) only [i32_add, i32_sub, i32_mul, jd4, jd10, jd20, jd24, jd60, jd100, jm4, jm10, jm20, jm24, jm60, jm100, Int32.reduceToInt]; omega)) only [i32_add, i32_sub, i32_mul, jd4, jd10, jd20, jd24, jd60, jd100, jm4, jm10, jm20, jm24, jm60, jm100, Int32.reduceToInt] at *) <;> (first | omega | ((simp only [jadd, jsub, jmul, jneg, Int32.reduceToInt] at *) <;> omega))))))))))
set_option maxRecDepth 4000 in
theorem w_X12_hours_L65 {b0 : SS} {q0 : SS → Option (Int32 × SS)} {y1 : Int32} {y2 : Int32} {Q : Int32 × SS → Prop} (hq0 : ∀ (s : SS), Lk b0 s → Ok (q0 s) Q) : ∀ (n : Nat) (s : SS) (x3 : Int32), Lk b0 s → (0 ≤ x3.toInt ∧ x3.toInt ≤ 60) → 60 - x3.toInt < (n : Int) → Ok (f_X12_hours_L65 q0 y1 y2 n s x3) Q := by
  intro n
  induction n with
  | zero =>
    intro s x3 K i0 hm
    exfalso
    (first | with_reducible assumption | omega | ((try clear ih); (try clear hr); (try clear hq0); (try clear hq1); (try clear hrec); ((try simp only [inB, Rs, Pg, Px, Ps, Pr, Pl, jcl, Rg, cellOK, bF, bA, bH, bV, jlt, jeq, jd4, jd10, jd20, jd24, jd60, jd100, jm4, jm10, jm20, jm24, jm60, jm100, Int32.reduceToInt, jn1, jn2, jn3, jn4, jn5, jn6, jn7, jn8, jn9, jn10, jn11, jn12, jn13, jn14, jn15, jn16, jn17, jn18, jn19, jn20, jn21, jn22, jn23, jn24, jn100, jn2000000000, zS_pS, zS_pI, zS_pJ, zS_pR, zS_pF, zS_pG, zI_pI, zI_pS, zI_pJ, zI_pR, zI_pF, zI_pG, zN_pS, zN_pI, zN_pJ, Nat.reduceEqDiff, Nat.reduceAdd, Nat.reduceMul, ite_true, ite_false, and_true, true_and, and_false, false_and, true_or, or_true, false_or, or_false, not_true_eq_false, not_false_eq_true, reduceIte, reduceCtorEq, eq_self] at *) <;> (first | omega | ((try simp (disch := first | omega | (simp (disch := first | omega | (simp (disch := first | omega | (simp only [jd4, jd10, jd20, jd24, jd60, jd100, jm4, jm10, jm20, jm24, jm60, jm100, Int32.reduceToInt]; omega)) only [i32_add, i32_sub, i32_mul, jd4, jd10, jd20, jd24, jd60, jd100, jm4, jm10, jm20, jm24, jm60, jm100, Int32.reduceToInt]; omega)) only [i32_add, i32_sub, i32_mul, jd4, jd10, jd20, jd24, jd60, jd100, jm4, jm10, jm20, jm24, jm60, jm100, Int32.reduceToInt]; omega)) only [i32_add, i32_sub, i32_mul, jd4, jd10, jd20, jd24, jd60, jd100, jm4, jm10, jm20, jm24, jm60, jm100, Int32.reduceToInt] at *) <;> (first | omega | ((try simp (disch := first | omega | (simp (disch := first | omega | (simp (disch := first | omega | (simp only [jd4, jd10, jd20, jd24, jd60, jd100, jm4, jm10, jm20, jm24, jm60, jm100, Int32.reduceToInt]; omega)) only [i32_add, i32_sub, i32_mul, jd4, jd10, jd20, jd24, jd60, jd100, jm4, jm10, jm20, jm24, jm60, jm100, Int32.reduceToInt]; omega)) only [i32_add, i32_sub, i32_mul, jd4, jd10, jd20, jd24, jd60, jd100, jm4, jm10, jm20, jm24, jm60, jm100, Int32.reduceToInt]; omega)) only [i32_add, i32_sub, i32_mul, jd4, jd10, jd20, jd24, jd60, jd100, jm4, jm10, jm20, jm24, jm60, jm100, Int32.reduceToInt] at *) <;> (first | omega | ((simp only [jadd, jsub, jmul, jneg, Int32.reduceToInt] at *) <;> omega)))))))))
  | succ n ih =>
    intro s x3 K i0 hm
    show Ok (f_X12_hours_L65_b q0 y1 y2 (f_X12_hours_L65 q0 y1 y2 n) s x3) Q
    unfold f_X12_hours_L65_b
    have f0 := (K.f (q := 59) (k := 56) rfl)
    repeat' (first
      | with_reducible assumption
      | dsimp only
      | with_reducible refine Ok_some ?_
      | with_reducible refine Lk_g120 (by assumption) ?_ (fun _ _ _ _ _ => ?_)
      | with_reducible refine Lk_g3 (by assumption) ?_ (fun _ _ => ?_)
      | with_reducible refine Lk_g8 (by assumption) ?_ (fun _ _ => ?_)
      | with_reducible refine Lk_g60 (by assumption) ?_ (fun _ _ => ?_)
      | with_reducible refine Lk_g40 (by assumption) ?_ (fun _ _ => ?_)
      | with_reducible refine Lk_g6 (by assumption) ?_ (fun _ _ _ => ?_)
      | with_reducible refine Ok_gd ?_ (fun _ => ?_)
      | with_reducible refine Ok_vl ?_
      | with_reducible refine Ok_wl ?_
      | with_reducible refine Ok_st ?_
      | with_reducible refine Ok_jn ?_
      | with_reducible refine Ok_b1 ?_
      | with_reducible refine Ok_bd ?_
      | with_reducible refine Ok_onN ?_
      | with_reducible refine Ok_onS ?_
      | with_reducible refine Ok_ift (by decide) ?_
      | with_reducible refine Ok_iff (by decide) ?_
      | with_reducible refine Ok_if (fun _ => ?_) (fun _ => ?_)
      | with_reducible refine Lk_onM (b0 := b0) ?_ (by assumption) (fun _ _ _ => ?_)
      | with_reducible refine Lk_onV (b0 := b0) ?_ (by assumption) (fun _ _ _ _ => ?_)
      | with_reducible refine Lk_onH (b0 := b0) ?_ (by assumption) (fun _ => ?_) (fun _ _ _ _ _ _ => ?_)
      | with_reducible refine Lk_onC (b0 := b0) ?_ (by assumption) (fun _ => ?_) (fun _ _ _ _ => ?_)
      | with_reducible refine Lk_onT (b0 := b0) ?_ (by assumption) (fun _ => ?_) (fun _ _ _ _ => ?_)
      | with_reducible refine ih _ _  ?_ ?_ ?_ 
      | with_reducible refine hq0 _  ?_ 
      | with_reducible refine Ok.mono (w_X12_in ) (fun _ _ => ?_)
      | with_reducible refine Lk.wI ?_ (by decide) (by decide) ?_
      | with_reducible refine Lk.wF ?_ (by decide) (by decide) (by decide) ?_
      | with_reducible refine Lk.wH ?_ (by assumption) ?_
      | with_reducible refine Lk.wV ?_ (by assumption) ?_
      | with_reducible refine Lk.wM ?_ (by assumption)
      | with_reducible refine Lk.wC ?_ (by assumption)
      | with_reducible refine Lk.w1 ?_ (by assumption)
      | with_reducible refine Lk.w2 ?_ (by assumption)
      | with_reducible refine Lk.w3 ?_ (by assumption)
      | with_reducible refine Lk.wc1 ?_ (by assumption)
      | with_reducible refine Lk.wJ ?_
      | with_reducible refine Lk.wG ?_
      | with_reducible refine Lk.wK ?_
      | with_reducible refine Lk.wFI ?_ (by decide) (by decide) ?_
      | with_reducible refine And.intro ?_ ?_
      | unfold f_X12_placeOf)
    all_goals (try (first | with_reducible assumption | exact trivial | omega | ((try clear ih); (try clear hr); (try clear hq0); (try clear hq1); (try clear hrec); ((try simp only [inB, Rs, Pg, Px, Ps, Pr, Pl, jcl, Rg, cellOK, bF, bA, bH, bV, jlt, jeq, jd4, jd10, jd20, jd24, jd60, jd100, jm4, jm10, jm20, jm24, jm60, jm100, Int32.reduceToInt, jn1, jn2, jn3, jn4, jn5, jn6, jn7, jn8, jn9, jn10, jn11, jn12, jn13, jn14, jn15, jn16, jn17, jn18, jn19, jn20, jn21, jn22, jn23, jn24, jn100, jn2000000000, zS_pS, zS_pI, zS_pJ, zS_pR, zS_pF, zS_pG, zI_pI, zI_pS, zI_pJ, zI_pR, zI_pF, zI_pG, zN_pS, zN_pI, zN_pJ, Nat.reduceEqDiff, Nat.reduceAdd, Nat.reduceMul, ite_true, ite_false, and_true, true_and, and_false, false_and, true_or, or_true, false_or, or_false, not_true_eq_false, not_false_eq_true, reduceIte, reduceCtorEq, eq_self] at *) <;> (first | omega | ((try simp (disch := first | omega | (simp (disch := first | omega | (simp (disch := first | omega | (simp only [jd4, jd10, jd20, jd24, jd60, jd100, jm4, jm10, jm20, jm24, jm60, jm100, Int32.reduceToInt]; omega)) only [i32_add, i32_sub, i32_mul, jd4, jd10, jd20, jd24, jd60, jd100, jm4, jm10, jm20, jm24, jm60, jm100, Int32.reduceToInt]; omega)) only [i32_add, i32_sub, i32_mul, jd4, jd10, jd20, jd24, jd60, jd100, jm4, jm10, jm20, jm24, jm60, jm100, Int32.reduceToInt]; omega)) only [i32_add, i32_sub, i32_mul, jd4, jd10, jd20, jd24, jd60, jd100, jm4, jm10, jm20, jm24, jm60, jm100, Int32.reduceToInt] at *) <;> (first | omega | ((try simp (disch := first | omega | (simp (disch := first | omega | (simp (disch := first | omega | (simp only [jd4, jd10, jd20, jd24, jd60, jd100, jm4, jm10, jm20, jm24, jm60, jm100, Int32.reduceToInt]; omega)) only [i32_add, i32_sub, i32_mul, jd4, jd10, jd20, jd24, jd60, jd100, jm4, jm10, jm20, jm24, jm60, jm100, Int32.reduceToInt]; omega)) only [i32_add, i32_sub, i32_mul, jd4, jd10, jd20, jd24, jd60, jd100, jm4, jm10, jm20, jm24, jm60, jm100, Int32.reduceToInt]; omega)) only [i32_add, i32_sub, i32_mul, jd4, jd10, jd20, jd24, jd60, jd100, jm4, jm10, jm20, jm24, jm60, jm100, Int32.reduceToInt] at *) <;> (first | omega | ((simp only [jadd, jsub, jmul, jneg, Int32.reduceToInt] at *) <;> omega))))))))))
set_option maxRecDepth 4000 in
theorem w_X12_hours_L26 {b0 : SS} {y1 : Int32} {Q : Int32 × SS → Prop} (g0 : y1.toInt ≤ 48) (hr : ∀ v s, Lk b0 s → Q (v, s)) : ∀ (n : Nat) (s : SS) (x2 : Int32), Lk b0 s → (0 ≤ x2.toInt ∧ x2.toInt ≤ 48) → 48 - x2.toInt < (n : Int) → Ok (f_X12_hours_L26 y1 n s x2) Q := by
  intro n
  induction n with
  | zero =>
    intro s x2 K i0 hm
    exfalso
    (first | with_reducible assumption | omega | ((try clear ih); (try clear hr); (try clear hq0); (try clear hq1); (try clear hrec); ((try simp only [inB, Rs, Pg, Px, Ps, Pr, Pl, jcl, Rg, cellOK, bF, bA, bH, bV, jlt, jeq, jd4, jd10, jd20, jd24, jd60, jd100, jm4, jm10, jm20, jm24, jm60, jm100, Int32.reduceToInt, jn1, jn2, jn3, jn4, jn5, jn6, jn7, jn8, jn9, jn10, jn11, jn12, jn13, jn14, jn15, jn16, jn17, jn18, jn19, jn20, jn21, jn22, jn23, jn24, jn100, jn2000000000, zS_pS, zS_pI, zS_pJ, zS_pR, zS_pF, zS_pG, zI_pI, zI_pS, zI_pJ, zI_pR, zI_pF, zI_pG, zN_pS, zN_pI, zN_pJ, Nat.reduceEqDiff, Nat.reduceAdd, Nat.reduceMul, ite_true, ite_false, and_true, true_and, and_false, false_and, true_or, or_true, false_or, or_false, not_true_eq_false, not_false_eq_true, reduceIte, reduceCtorEq, eq_self] at *) <;> (first | omega | ((try simp (disch := first | omega | (simp (disch := first | omega | (simp (disch := first | omega | (simp only [jd4, jd10, jd20, jd24, jd60, jd100, jm4, jm10, jm20, jm24, jm60, jm100, Int32.reduceToInt]; omega)) only [i32_add, i32_sub, i32_mul, jd4, jd10, jd20, jd24, jd60, jd100, jm4, jm10, jm20, jm24, jm60, jm100, Int32.reduceToInt]; omega)) only [i32_add, i32_sub, i32_mul, jd4, jd10, jd20, jd24, jd60, jd100, jm4, jm10, jm20, jm24, jm60, jm100, Int32.reduceToInt]; omega)) only [i32_add, i32_sub, i32_mul, jd4, jd10, jd20, jd24, jd60, jd100, jm4, jm10, jm20, jm24, jm60, jm100, Int32.reduceToInt] at *) <;> (first | omega | ((try simp (disch := first | omega | (simp (disch := first | omega | (simp (disch := first | omega | (simp only [jd4, jd10, jd20, jd24, jd60, jd100, jm4, jm10, jm20, jm24, jm60, jm100, Int32.reduceToInt]; omega)) only [i32_add, i32_sub, i32_mul, jd4, jd10, jd20, jd24, jd60, jd100, jm4, jm10, jm20, jm24, jm60, jm100, Int32.reduceToInt]; omega)) only [i32_add, i32_sub, i32_mul, jd4, jd10, jd20, jd24, jd60, jd100, jm4, jm10, jm20, jm24, jm60, jm100, Int32.reduceToInt]; omega)) only [i32_add, i32_sub, i32_mul, jd4, jd10, jd20, jd24, jd60, jd100, jm4, jm10, jm20, jm24, jm60, jm100, Int32.reduceToInt] at *) <;> (first | omega | ((simp only [jadd, jsub, jmul, jneg, Int32.reduceToInt] at *) <;> omega)))))))))
  | succ n ih =>
    intro s x2 K i0 hm
    show Ok (f_X12_hours_L26_b y1 (f_X12_hours_L26 y1 n) s x2) Q
    unfold f_X12_hours_L26_b
    repeat' (first
      | with_reducible assumption
      | dsimp only
      | with_reducible refine Ok_some ?_
      | with_reducible refine Lk_g120 (by assumption) ?_ (fun _ _ _ _ _ => ?_)
      | with_reducible refine Lk_g3 (by assumption) ?_ (fun _ _ => ?_)
      | with_reducible refine Lk_g8 (by assumption) ?_ (fun _ _ => ?_)
      | with_reducible refine Lk_g60 (by assumption) ?_ (fun _ _ => ?_)
      | with_reducible refine Lk_g40 (by assumption) ?_ (fun _ _ => ?_)
      | with_reducible refine Lk_g6 (by assumption) ?_ (fun _ _ _ => ?_)
      | with_reducible refine Ok_gd ?_ (fun _ => ?_)
      | with_reducible refine Ok_vl ?_
      | with_reducible refine Ok_wl ?_
      | with_reducible refine Ok_st ?_
      | with_reducible refine Ok_jn ?_
      | with_reducible refine Ok_b1 ?_
      | with_reducible refine Ok_bd ?_
      | with_reducible refine Ok_onN ?_
      | with_reducible refine Ok_onS ?_
      | with_reducible refine Ok_ift (by decide) ?_
      | with_reducible refine Ok_iff (by decide) ?_
      | with_reducible refine Ok_if (fun _ => ?_) (fun _ => ?_)
      | with_reducible refine Lk_onM (b0 := b0) ?_ (by assumption) (fun _ _ _ => ?_)
      | with_reducible refine Lk_onV (b0 := b0) ?_ (by assumption) (fun _ _ _ _ => ?_)
      | with_reducible refine Lk_onH (b0 := b0) ?_ (by assumption) (fun _ => ?_) (fun _ _ _ _ _ _ => ?_)
      | with_reducible refine Lk_onC (b0 := b0) ?_ (by assumption) (fun _ => ?_) (fun _ _ _ _ => ?_)
      | with_reducible refine Lk_onT (b0 := b0) ?_ (by assumption) (fun _ => ?_) (fun _ _ _ _ => ?_)
      | with_reducible refine ih _ _  ?_ ?_ ?_ 
      | with_reducible refine hr _ _ ?_ 
      | with_reducible refine Ok.mono (w_X12_drill (b0 := b0) ?_) (fun _ _ => ?_)
      | with_reducible refine Ok.mono (w_X12_comeDown (b0 := b0) ?_) (fun _ _ => ?_)
      | with_reducible refine w_X12_hours_L65 (b0 := b0) (fun _ _ => ?_) _ _ _  ?_ ?_ ?_ 
      | with_reducible refine Ok.mono (w_X12_eat (b0 := b0) ?_) (fun _ _ => ?_)
      | with_reducible refine Lk.wI ?_ (by decide) (by decide) ?_
      | with_reducible refine Lk.wF ?_ (by decide) (by decide) (by decide) ?_
      | with_reducible refine Lk.wH ?_ (by assumption) ?_
      | with_reducible refine Lk.wV ?_ (by assumption) ?_
      | with_reducible refine Lk.wM ?_ (by assumption)
      | with_reducible refine Lk.wC ?_ (by assumption)
      | with_reducible refine Lk.w1 ?_ (by assumption)
      | with_reducible refine Lk.w2 ?_ (by assumption)
      | with_reducible refine Lk.w3 ?_ (by assumption)
      | with_reducible refine Lk.wc1 ?_ (by assumption)
      | with_reducible refine Lk.wJ ?_
      | with_reducible refine Lk.wG ?_
      | with_reducible refine Lk.wK ?_
      | with_reducible refine Lk.wFI ?_ (by decide) (by decide) ?_
      | with_reducible refine And.intro ?_ ?_)
    all_goals (try (first | with_reducible assumption | exact trivial | omega | ((try clear ih); (try clear hr); (try clear hq0); (try clear hq1); (try clear hrec); ((try simp only [inB, Rs, Pg, Px, Ps, Pr, Pl, jcl, Rg, cellOK, bF, bA, bH, bV, jlt, jeq, jd4, jd10, jd20, jd24, jd60, jd100, jm4, jm10, jm20, jm24, jm60, jm100, Int32.reduceToInt, jn1, jn2, jn3, jn4, jn5, jn6, jn7, jn8, jn9, jn10, jn11, jn12, jn13, jn14, jn15, jn16, jn17, jn18, jn19, jn20, jn21, jn22, jn23, jn24, jn100, jn2000000000, zS_pS, zS_pI, zS_pJ, zS_pR, zS_pF, zS_pG, zI_pI, zI_pS, zI_pJ, zI_pR, zI_pF, zI_pG, zN_pS, zN_pI, zN_pJ, Nat.reduceEqDiff, Nat.reduceAdd, Nat.reduceMul, ite_true, ite_false, and_true, true_and, and_false, false_and, true_or, or_true, false_or, or_false, not_true_eq_false, not_false_eq_true, reduceIte, reduceCtorEq, eq_self] at *) <;> (first | omega | ((try simp (disch := first | omega | (simp (disch := first | omega | (simp (disch := first | omega | (simp only [jd4, jd10, jd20, jd24, jd60, jd100, jm4, jm10, jm20, jm24, jm60, jm100, Int32.reduceToInt]; omega)) only [i32_add, i32_sub, i32_mul, jd4, jd10, jd20, jd24, jd60, jd100, jm4, jm10, jm20, jm24, jm60, jm100, Int32.reduceToInt]; omega)) only [i32_add, i32_sub, i32_mul, jd4, jd10, jd20, jd24, jd60, jd100, jm4, jm10, jm20, jm24, jm60, jm100, Int32.reduceToInt]; omega)) only [i32_add, i32_sub, i32_mul, jd4, jd10, jd20, jd24, jd60, jd100, jm4, jm10, jm20, jm24, jm60, jm100, Int32.reduceToInt] at *) <;> (first | omega | ((try simp (disch := first | omega | (simp (disch := first | omega | (simp (disch := first | omega | (simp only [jd4, jd10, jd20, jd24, jd60, jd100, jm4, jm10, jm20, jm24, jm60, jm100, Int32.reduceToInt]; omega)) only [i32_add, i32_sub, i32_mul, jd4, jd10, jd20, jd24, jd60, jd100, jm4, jm10, jm20, jm24, jm60, jm100, Int32.reduceToInt]; omega)) only [i32_add, i32_sub, i32_mul, jd4, jd10, jd20, jd24, jd60, jd100, jm4, jm10, jm20, jm24, jm60, jm100, Int32.reduceToInt]; omega)) only [i32_add, i32_sub, i32_mul, jd4, jd10, jd20, jd24, jd60, jd100, jm4, jm10, jm20, jm24, jm60, jm100, Int32.reduceToInt] at *) <;> (first | omega | ((simp only [jadd, jsub, jmul, jneg, Int32.reduceToInt] at *) <;> omega))))))))))
set_option maxRecDepth 4000 in
theorem w_X12_hours {b0 : SS} {s0 : SS} {a0 : Int32} (K : Lk b0 s0) : Ok (f_X12_hours s0 a0) (fun r => Lk b0 r.2) := by
  unfold f_X12_hours
  repeat' (first
    | with_reducible assumption
    | dsimp only
    | with_reducible refine Ok_some ?_
    | with_reducible refine Lk_g120 (by assumption) ?_ (fun _ _ _ _ _ => ?_)
    | with_reducible refine Lk_g3 (by assumption) ?_ (fun _ _ => ?_)
    | with_reducible refine Lk_g8 (by assumption) ?_ (fun _ _ => ?_)
    | with_reducible refine Lk_g60 (by assumption) ?_ (fun _ _ => ?_)
    | with_reducible refine Lk_g40 (by assumption) ?_ (fun _ _ => ?_)
    | with_reducible refine Lk_g6 (by assumption) ?_ (fun _ _ _ => ?_)
    | with_reducible refine Ok_gd ?_ (fun _ => ?_)
    | with_reducible refine Ok_vl ?_
    | with_reducible refine Ok_wl ?_
    | with_reducible refine Ok_st ?_
    | with_reducible refine Ok_jn ?_
    | with_reducible refine Ok_b1 ?_
    | with_reducible refine Ok_bd ?_
    | with_reducible refine Ok_onN ?_
    | with_reducible refine Ok_onS ?_
    | with_reducible refine Ok_ift (by decide) ?_
    | with_reducible refine Ok_iff (by decide) ?_
    | with_reducible refine Ok_if (fun _ => ?_) (fun _ => ?_)
    | with_reducible refine Lk_onM (b0 := b0) ?_ (by assumption) (fun _ _ _ => ?_)
    | with_reducible refine Lk_onV (b0 := b0) ?_ (by assumption) (fun _ _ _ _ => ?_)
    | with_reducible refine Lk_onH (b0 := b0) ?_ (by assumption) (fun _ => ?_) (fun _ _ _ _ _ _ => ?_)
    | with_reducible refine Lk_onC (b0 := b0) ?_ (by assumption) (fun _ => ?_) (fun _ _ _ _ => ?_)
    | with_reducible refine Lk_onT (b0 := b0) ?_ (by assumption) (fun _ => ?_) (fun _ _ _ _ => ?_)
    | with_reducible refine Ok.mono (w_X12_in ) (fun _ _ => ?_)
    | with_reducible refine w_X12_hours_L26 (b0 := b0) ?_ (fun _ _ _ => ?_) _ _ _  ?_ ?_ ?_ 
    | with_reducible refine Lk.wI ?_ (by decide) (by decide) ?_
    | with_reducible refine Lk.wF ?_ (by decide) (by decide) (by decide) ?_
    | with_reducible refine Lk.wH ?_ (by assumption) ?_
    | with_reducible refine Lk.wV ?_ (by assumption) ?_
    | with_reducible refine Lk.wM ?_ (by assumption)
    | with_reducible refine Lk.wC ?_ (by assumption)
    | with_reducible refine Lk.w1 ?_ (by assumption)
    | with_reducible refine Lk.w2 ?_ (by assumption)
    | with_reducible refine Lk.w3 ?_ (by assumption)
    | with_reducible refine Lk.wc1 ?_ (by assumption)
    | with_reducible refine Lk.wJ ?_
    | with_reducible refine Lk.wG ?_
    | with_reducible refine Lk.wK ?_
    | with_reducible refine Lk.wFI ?_ (by decide) (by decide) ?_
    | with_reducible refine And.intro ?_ ?_)
  all_goals (try (first | with_reducible assumption | exact trivial | omega | ((try clear ih); (try clear hr); (try clear hq0); (try clear hq1); (try clear hrec); ((try simp only [inB, Rs, Pg, Px, Ps, Pr, Pl, jcl, Rg, cellOK, bF, bA, bH, bV, jlt, jeq, jd4, jd10, jd20, jd24, jd60, jd100, jm4, jm10, jm20, jm24, jm60, jm100, Int32.reduceToInt, jn1, jn2, jn3, jn4, jn5, jn6, jn7, jn8, jn9, jn10, jn11, jn12, jn13, jn14, jn15, jn16, jn17, jn18, jn19, jn20, jn21, jn22, jn23, jn24, jn100, jn2000000000, zS_pS, zS_pI, zS_pJ, zS_pR, zS_pF, zS_pG, zI_pI, zI_pS, zI_pJ, zI_pR, zI_pF, zI_pG, zN_pS, zN_pI, zN_pJ, Nat.reduceEqDiff, Nat.reduceAdd, Nat.reduceMul, ite_true, ite_false, and_true, true_and, and_false, false_and, true_or, or_true, false_or, or_false, not_true_eq_false, not_false_eq_true, reduceIte, reduceCtorEq, eq_self] at *) <;> (first | omega | ((try simp (disch := first | omega | (simp (disch := first | omega | (simp (disch := first | omega | (simp only [jd4, jd10, jd20, jd24, jd60, jd100, jm4, jm10, jm20, jm24, jm60, jm100, Int32.reduceToInt]; omega)) only [i32_add, i32_sub, i32_mul, jd4, jd10, jd20, jd24, jd60, jd100, jm4, jm10, jm20, jm24, jm60, jm100, Int32.reduceToInt]; omega)) only [i32_add, i32_sub, i32_mul, jd4, jd10, jd20, jd24, jd60, jd100, jm4, jm10, jm20, jm24, jm60, jm100, Int32.reduceToInt]; omega)) only [i32_add, i32_sub, i32_mul, jd4, jd10, jd20, jd24, jd60, jd100, jm4, jm10, jm20, jm24, jm60, jm100, Int32.reduceToInt] at *) <;> (first | omega | ((try simp (disch := first | omega | (simp (disch := first | omega | (simp (disch := first | omega | (simp only [jd4, jd10, jd20, jd24, jd60, jd100, jm4, jm10, jm20, jm24, jm60, jm100, Int32.reduceToInt]; omega)) only [i32_add, i32_sub, i32_mul, jd4, jd10, jd20, jd24, jd60, jd100, jm4, jm10, jm20, jm24, jm60, jm100, Int32.reduceToInt]; omega)) only [i32_add, i32_sub, i32_mul, jd4, jd10, jd20, jd24, jd60, jd100, jm4, jm10, jm20, jm24, jm60, jm100, Int32.reduceToInt]; omega)) only [i32_add, i32_sub, i32_mul, jd4, jd10, jd20, jd24, jd60, jd100, jm4, jm10, jm20, jm24, jm60, jm100, Int32.reduceToInt] at *) <;> (first | omega | ((simp only [jadd, jsub, jmul, jneg, Int32.reduceToInt] at *) <;> omega))))))))))
set_option maxRecDepth 4000 in
theorem w_X12_lastsBy_L2 {b0 : SS} {q0 : SS → Option (Int32 × SS)} {y1 : Int32} {y2 : Int32} {Q : Int32 × SS → Prop} (hq0 : ∀ (s : SS), Lk b0 s → Ok (q0 s) Q) : ∀ (n : Nat) (s : SS) (x3 : Int32), Lk b0 s → (0 ≤ x3.toInt ∧ x3.toInt ≤ 120) → 120 - x3.toInt < (n : Int) → Ok (f_X12_lastsBy_L2 q0 y1 y2 n s x3) Q := by
  intro n
  induction n with
  | zero =>
    intro s x3 K i0 hm
    exfalso
    (first | with_reducible assumption | omega | ((try clear ih); (try clear hr); (try clear hq0); (try clear hq1); (try clear hrec); ((try simp only [inB, Rs, Pg, Px, Ps, Pr, Pl, jcl, Rg, cellOK, bF, bA, bH, bV, jlt, jeq, jd4, jd10, jd20, jd24, jd60, jd100, jm4, jm10, jm20, jm24, jm60, jm100, Int32.reduceToInt, jn1, jn2, jn3, jn4, jn5, jn6, jn7, jn8, jn9, jn10, jn11, jn12, jn13, jn14, jn15, jn16, jn17, jn18, jn19, jn20, jn21, jn22, jn23, jn24, jn100, jn2000000000, zS_pS, zS_pI, zS_pJ, zS_pR, zS_pF, zS_pG, zI_pI, zI_pS, zI_pJ, zI_pR, zI_pF, zI_pG, zN_pS, zN_pI, zN_pJ, Nat.reduceEqDiff, Nat.reduceAdd, Nat.reduceMul, ite_true, ite_false, and_true, true_and, and_false, false_and, true_or, or_true, false_or, or_false, not_true_eq_false, not_false_eq_true, reduceIte, reduceCtorEq, eq_self] at *) <;> (first | omega | ((try simp (disch := first | omega | (simp (disch := first | omega | (simp (disch := first | omega | (simp only [jd4, jd10, jd20, jd24, jd60, jd100, jm4, jm10, jm20, jm24, jm60, jm100, Int32.reduceToInt]; omega)) only [i32_add, i32_sub, i32_mul, jd4, jd10, jd20, jd24, jd60, jd100, jm4, jm10, jm20, jm24, jm60, jm100, Int32.reduceToInt]; omega)) only [i32_add, i32_sub, i32_mul, jd4, jd10, jd20, jd24, jd60, jd100, jm4, jm10, jm20, jm24, jm60, jm100, Int32.reduceToInt]; omega)) only [i32_add, i32_sub, i32_mul, jd4, jd10, jd20, jd24, jd60, jd100, jm4, jm10, jm20, jm24, jm60, jm100, Int32.reduceToInt] at *) <;> (first | omega | ((try simp (disch := first | omega | (simp (disch := first | omega | (simp (disch := first | omega | (simp only [jd4, jd10, jd20, jd24, jd60, jd100, jm4, jm10, jm20, jm24, jm60, jm100, Int32.reduceToInt]; omega)) only [i32_add, i32_sub, i32_mul, jd4, jd10, jd20, jd24, jd60, jd100, jm4, jm10, jm20, jm24, jm60, jm100, Int32.reduceToInt]; omega)) only [i32_add, i32_sub, i32_mul, jd4, jd10, jd20, jd24, jd60, jd100, jm4, jm10, jm20, jm24, jm60, jm100, Int32.reduceToInt]; omega)) only [i32_add, i32_sub, i32_mul, jd4, jd10, jd20, jd24, jd60, jd100, jm4, jm10, jm20, jm24, jm60, jm100, Int32.reduceToInt] at *) <;> (first | omega | ((simp only [jadd, jsub, jmul, jneg, Int32.reduceToInt] at *) <;> omega)))))))))
  | succ n ih =>
    intro s x3 K i0 hm
    show Ok (f_X12_lastsBy_L2_b q0 y1 y2 (f_X12_lastsBy_L2 q0 y1 y2 n) s x3) Q
    unfold f_X12_lastsBy_L2_b
    have f0 := (K.f (q := 59) (k := 4) rfl)
    repeat' (first
      | with_reducible assumption
      | dsimp only
      | with_reducible refine Ok_some ?_
      | with_reducible refine Lk_g120 (by assumption) ?_ (fun _ _ _ _ _ => ?_)
      | with_reducible refine Lk_g3 (by assumption) ?_ (fun _ _ => ?_)
      | with_reducible refine Lk_g8 (by assumption) ?_ (fun _ _ => ?_)
      | with_reducible refine Lk_g60 (by assumption) ?_ (fun _ _ => ?_)
      | with_reducible refine Lk_g40 (by assumption) ?_ (fun _ _ => ?_)
      | with_reducible refine Lk_g6 (by assumption) ?_ (fun _ _ _ => ?_)
      | with_reducible refine Ok_gd ?_ (fun _ => ?_)
      | with_reducible refine Ok_vl ?_
      | with_reducible refine Ok_wl ?_
      | with_reducible refine Ok_st ?_
      | with_reducible refine Ok_jn ?_
      | with_reducible refine Ok_b1 ?_
      | with_reducible refine Ok_bd ?_
      | with_reducible refine Ok_onN ?_
      | with_reducible refine Ok_onS ?_
      | with_reducible refine Ok_ift (by decide) ?_
      | with_reducible refine Ok_iff (by decide) ?_
      | with_reducible refine Ok_if (fun _ => ?_) (fun _ => ?_)
      | with_reducible refine Lk_onM (b0 := b0) ?_ (by assumption) (fun _ _ _ => ?_)
      | with_reducible refine Lk_onV (b0 := b0) ?_ (by assumption) (fun _ _ _ _ => ?_)
      | with_reducible refine Lk_onH (b0 := b0) ?_ (by assumption) (fun _ => ?_) (fun _ _ _ _ _ _ => ?_)
      | with_reducible refine Lk_onC (b0 := b0) ?_ (by assumption) (fun _ => ?_) (fun _ _ _ _ => ?_)
      | with_reducible refine Lk_onT (b0 := b0) ?_ (by assumption) (fun _ => ?_) (fun _ _ _ _ => ?_)
      | with_reducible refine ih _ _  ?_ ?_ ?_ 
      | with_reducible refine hq0 _  ?_ 
      | with_reducible refine Lk.wI ?_ (by decide) (by decide) ?_
      | with_reducible refine Lk.wF ?_ (by decide) (by decide) (by decide) ?_
      | with_reducible refine Lk.wH ?_ (by assumption) ?_
      | with_reducible refine Lk.wV ?_ (by assumption) ?_
      | with_reducible refine Lk.wM ?_ (by assumption)
      | with_reducible refine Lk.wC ?_ (by assumption)
      | with_reducible refine Lk.w1 ?_ (by assumption)
      | with_reducible refine Lk.w2 ?_ (by assumption)
      | with_reducible refine Lk.w3 ?_ (by assumption)
      | with_reducible refine Lk.wc1 ?_ (by assumption)
      | with_reducible refine Lk.wJ ?_
      | with_reducible refine Lk.wG ?_
      | with_reducible refine Lk.wK ?_
      | with_reducible refine Lk.wFI ?_ (by decide) (by decide) ?_
      | with_reducible refine And.intro ?_ ?_)
    all_goals (try (first | with_reducible assumption | exact trivial | omega | ((try clear ih); (try clear hr); (try clear hq0); (try clear hq1); (try clear hrec); ((try simp only [inB, Rs, Pg, Px, Ps, Pr, Pl, jcl, Rg, cellOK, bF, bA, bH, bV, jlt, jeq, jd4, jd10, jd20, jd24, jd60, jd100, jm4, jm10, jm20, jm24, jm60, jm100, Int32.reduceToInt, jn1, jn2, jn3, jn4, jn5, jn6, jn7, jn8, jn9, jn10, jn11, jn12, jn13, jn14, jn15, jn16, jn17, jn18, jn19, jn20, jn21, jn22, jn23, jn24, jn100, jn2000000000, zS_pS, zS_pI, zS_pJ, zS_pR, zS_pF, zS_pG, zI_pI, zI_pS, zI_pJ, zI_pR, zI_pF, zI_pG, zN_pS, zN_pI, zN_pJ, Nat.reduceEqDiff, Nat.reduceAdd, Nat.reduceMul, ite_true, ite_false, and_true, true_and, and_false, false_and, true_or, or_true, false_or, or_false, not_true_eq_false, not_false_eq_true, reduceIte, reduceCtorEq, eq_self] at *) <;> (first | omega | ((try simp (disch := first | omega | (simp (disch := first | omega | (simp (disch := first | omega | (simp only [jd4, jd10, jd20, jd24, jd60, jd100, jm4, jm10, jm20, jm24, jm60, jm100, Int32.reduceToInt]; omega)) only [i32_add, i32_sub, i32_mul, jd4, jd10, jd20, jd24, jd60, jd100, jm4, jm10, jm20, jm24, jm60, jm100, Int32.reduceToInt]; omega)) only [i32_add, i32_sub, i32_mul, jd4, jd10, jd20, jd24, jd60, jd100, jm4, jm10, jm20, jm24, jm60, jm100, Int32.reduceToInt]; omega)) only [i32_add, i32_sub, i32_mul, jd4, jd10, jd20, jd24, jd60, jd100, jm4, jm10, jm20, jm24, jm60, jm100, Int32.reduceToInt] at *) <;> (first | omega | ((try simp (disch := first | omega | (simp (disch := first | omega | (simp (disch := first | omega | (simp only [jd4, jd10, jd20, jd24, jd60, jd100, jm4, jm10, jm20, jm24, jm60, jm100, Int32.reduceToInt]; omega)) only [i32_add, i32_sub, i32_mul, jd4, jd10, jd20, jd24, jd60, jd100, jm4, jm10, jm20, jm24, jm60, jm100, Int32.reduceToInt]; omega)) only [i32_add, i32_sub, i32_mul, jd4, jd10, jd20, jd24, jd60, jd100, jm4, jm10, jm20, jm24, jm60, jm100, Int32.reduceToInt]; omega)) only [i32_add, i32_sub, i32_mul, jd4, jd10, jd20, jd24, jd60, jd100, jm4, jm10, jm20, jm24, jm60, jm100, Int32.reduceToInt] at *) <;> (first | omega | ((simp only [jadd, jsub, jmul, jneg, Int32.reduceToInt] at *) <;> omega))))))))))
set_option maxRecDepth 4000 in
theorem w_X12_lastsBy_L49 {b0 : SS} {q0 : SS → Int32 → Int32 → Option (Int32 × SS)} {y1 : Int32} {y2 : Int32} {y4 : Int32} {Q : Int32 × SS → Prop} (hq0 : ∀ (s : SS) (z0 : Int32) (z1 : Int32), Lk b0 s → Ok (q0 s z0 z1) Q) : ∀ (n : Nat) (s : SS) (x3 : Int32) (x5 : Int32) (x6 : Int32), Lk b0 s → (0 ≤ x6.toInt ∧ x6.toInt ≤ 120) → 120 - x6.toInt < (n : Int) → Ok (f_X12_lastsBy_L49 q0 y1 y2 y4 n s x3 x5 x6) Q := by
  intro n
  induction n with
  | zero =>
    intro s x3 x5 x6 K i0 hm
    exfalso
    (first | with_reducible assumption | omega | ((try clear ih); (try clear hr); (try clear hq0); (try clear hq1); (try clear hrec); ((try simp only [inB, Rs, Pg, Px, Ps, Pr, Pl, jcl, Rg, cellOK, bF, bA, bH, bV, jlt, jeq, jd4, jd10, jd20, jd24, jd60, jd100, jm4, jm10, jm20, jm24, jm60, jm100, Int32.reduceToInt, jn1, jn2, jn3, jn4, jn5, jn6, jn7, jn8, jn9, jn10, jn11, jn12, jn13, jn14, jn15, jn16, jn17, jn18, jn19, jn20, jn21, jn22, jn23, jn24, jn100, jn2000000000, zS_pS, zS_pI, zS_pJ, zS_pR, zS_pF, zS_pG, zI_pI, zI_pS, zI_pJ, zI_pR, zI_pF, zI_pG, zN_pS, zN_pI, zN_pJ, Nat.reduceEqDiff, Nat.reduceAdd, Nat.reduceMul, ite_true, ite_false, and_true, true_and, and_false, false_and, true_or, or_true, false_or, or_false, not_true_eq_false, not_false_eq_true, reduceIte, reduceCtorEq, eq_self] at *) <;> (first | omega | ((try simp (disch := first | omega | (simp (disch := first | omega | (simp (disch := first | omega | (simp only [jd4, jd10, jd20, jd24, jd60, jd100, jm4, jm10, jm20, jm24, jm60, jm100, Int32.reduceToInt]; omega)) only [i32_add, i32_sub, i32_mul, jd4, jd10, jd20, jd24, jd60, jd100, jm4, jm10, jm20, jm24, jm60, jm100, Int32.reduceToInt]; omega)) only [i32_add, i32_sub, i32_mul, jd4, jd10, jd20, jd24, jd60, jd100, jm4, jm10, jm20, jm24, jm60, jm100, Int32.reduceToInt]; omega)) only [i32_add, i32_sub, i32_mul, jd4, jd10, jd20, jd24, jd60, jd100, jm4, jm10, jm20, jm24, jm60, jm100, Int32.reduceToInt] at *) <;> (first | omega | ((try simp (disch := first | omega | (simp (disch := first | omega | (simp (disch := first | omega | (simp only [jd4, jd10, jd20, jd24, jd60, jd100, jm4, jm10, jm20, jm24, jm60, jm100, Int32.reduceToInt]; omega)) only [i32_add, i32_sub, i32_mul, jd4, jd10, jd20, jd24, jd60, jd100, jm4, jm10, jm20, jm24, jm60, jm100, Int32.reduceToInt]; omega)) only [i32_add, i32_sub, i32_mul, jd4, jd10, jd20, jd24, jd60, jd100, jm4, jm10, jm20, jm24, jm60, jm100, Int32.reduceToInt]; omega)) only [i32_add, i32_sub, i32_mul, jd4, jd10, jd20, jd24, jd60, jd100, jm4, jm10, jm20, jm24, jm60, jm100, Int32.reduceToInt] at *) <;> (first | omega | ((simp only [jadd, jsub, jmul, jneg, Int32.reduceToInt] at *) <;> omega)))))))))
  | succ n ih =>
    intro s x3 x5 x6 K i0 hm
    show Ok (f_X12_lastsBy_L49_b q0 y1 y2 y4 (f_X12_lastsBy_L49 q0 y1 y2 y4 n) s x3 x5 x6) Q
    unfold f_X12_lastsBy_L49_b
    have f0 := (K.f (q := 59) (k := 4) rfl)
    repeat' (first
      | with_reducible assumption
      | dsimp only
      | with_reducible refine Ok_some ?_
      | with_reducible refine Lk_g120 (by assumption) ?_ (fun _ _ _ _ _ => ?_)
      | with_reducible refine Lk_g3 (by assumption) ?_ (fun _ _ => ?_)
      | with_reducible refine Lk_g8 (by assumption) ?_ (fun _ _ => ?_)
      | with_reducible refine Lk_g60 (by assumption) ?_ (fun _ _ => ?_)
      | with_reducible refine Lk_g40 (by assumption) ?_ (fun _ _ => ?_)
      | with_reducible refine Lk_g6 (by assumption) ?_ (fun _ _ _ => ?_)
      | with_reducible refine Ok_gd ?_ (fun _ => ?_)
      | with_reducible refine Ok_vl ?_
      | with_reducible refine Ok_wl ?_
      | with_reducible refine Ok_st ?_
      | with_reducible refine Ok_jn ?_
      | with_reducible refine Ok_b1 ?_
      | with_reducible refine Ok_bd ?_
      | with_reducible refine Ok_onN ?_
      | with_reducible refine Ok_onS ?_
      | with_reducible refine Ok_ift (by decide) ?_
      | with_reducible refine Ok_iff (by decide) ?_
      | with_reducible refine Ok_if (fun _ => ?_) (fun _ => ?_)
      | with_reducible refine Lk_onM (b0 := b0) ?_ (by assumption) (fun _ _ _ => ?_)
      | with_reducible refine Lk_onV (b0 := b0) ?_ (by assumption) (fun _ _ _ _ => ?_)
      | with_reducible refine Lk_onH (b0 := b0) ?_ (by assumption) (fun _ => ?_) (fun _ _ _ _ _ _ => ?_)
      | with_reducible refine Lk_onC (b0 := b0) ?_ (by assumption) (fun _ => ?_) (fun _ _ _ _ => ?_)
      | with_reducible refine Lk_onT (b0 := b0) ?_ (by assumption) (fun _ => ?_) (fun _ _ _ _ => ?_)
      | with_reducible refine ih _ _ _ _  ?_ ?_ ?_ 
      | with_reducible refine hq0 _ _ _  ?_ 
      | with_reducible refine Ok.mono (w_X12_held ?_) (fun _ _ => ?_)
      | with_reducible refine Lk.wI ?_ (by decide) (by decide) ?_
      | with_reducible refine Lk.wF ?_ (by decide) (by decide) (by decide) ?_
      | with_reducible refine Lk.wH ?_ (by assumption) ?_
      | with_reducible refine Lk.wV ?_ (by assumption) ?_
      | with_reducible refine Lk.wM ?_ (by assumption)
      | with_reducible refine Lk.wC ?_ (by assumption)
      | with_reducible refine Lk.w1 ?_ (by assumption)
      | with_reducible refine Lk.w2 ?_ (by assumption)
      | with_reducible refine Lk.w3 ?_ (by assumption)
      | with_reducible refine Lk.wc1 ?_ (by assumption)
      | with_reducible refine Lk.wJ ?_
      | with_reducible refine Lk.wG ?_
      | with_reducible refine Lk.wK ?_
      | with_reducible refine Lk.wFI ?_ (by decide) (by decide) ?_
      | with_reducible refine And.intro ?_ ?_)
    all_goals (try (first | with_reducible assumption | exact trivial | omega | ((try clear ih); (try clear hr); (try clear hq0); (try clear hq1); (try clear hrec); ((try simp only [inB, Rs, Pg, Px, Ps, Pr, Pl, jcl, Rg, cellOK, bF, bA, bH, bV, jlt, jeq, jd4, jd10, jd20, jd24, jd60, jd100, jm4, jm10, jm20, jm24, jm60, jm100, Int32.reduceToInt, jn1, jn2, jn3, jn4, jn5, jn6, jn7, jn8, jn9, jn10, jn11, jn12, jn13, jn14, jn15, jn16, jn17, jn18, jn19, jn20, jn21, jn22, jn23, jn24, jn100, jn2000000000, zS_pS, zS_pI, zS_pJ, zS_pR, zS_pF, zS_pG, zI_pI, zI_pS, zI_pJ, zI_pR, zI_pF, zI_pG, zN_pS, zN_pI, zN_pJ, Nat.reduceEqDiff, Nat.reduceAdd, Nat.reduceMul, ite_true, ite_false, and_true, true_and, and_false, false_and, true_or, or_true, false_or, or_false, not_true_eq_false, not_false_eq_true, reduceIte, reduceCtorEq, eq_self] at *) <;> (first | omega | ((try simp (disch := first | omega | (simp (disch := first | omega | (simp (disch := first | omega | (simp only [jd4, jd10, jd20, jd24, jd60, jd100, jm4, jm10, jm20, jm24, jm60, jm100, Int32.reduceToInt]; omega)) only [i32_add, i32_sub, i32_mul, jd4, jd10, jd20, jd24, jd60, jd100, jm4, jm10, jm20, jm24, jm60, jm100, Int32.reduceToInt]; omega)) only [i32_add, i32_sub, i32_mul, jd4, jd10, jd20, jd24, jd60, jd100, jm4, jm10, jm20, jm24, jm60, jm100, Int32.reduceToInt]; omega)) only [i32_add, i32_sub, i32_mul, jd4, jd10, jd20, jd24, jd60, jd100, jm4, jm10, jm20, jm24, jm60, jm100, Int32.reduceToInt] at *) <;> (first | omega | ((try simp (disch := first | omega | (simp (disch := first | omega | (simp (disch := first | omega | (simp only [jd4, jd10, jd20, jd24, jd60, jd100, jm4, jm10, jm20, jm24, jm60, jm100, Int32.reduceToInt]; omega)) only [i32_add, i32_sub, i32_mul, jd4, jd10, jd20, jd24, jd60, jd100, jm4, jm10, jm20, jm24, jm60, jm100, Int32.reduceToInt]; omega)) only [i32_add, i32_sub, i32_mul, jd4, jd10, jd20, jd24, jd60, jd100, jm4, jm10, jm20, jm24, jm60, jm100, Int32.reduceToInt]; omega)) only [i32_add, i32_sub, i32_mul, jd4, jd10, jd20, jd24, jd60, jd100, jm4, jm10, jm20, jm24, jm60, jm100, Int32.reduceToInt] at *) <;> (first | omega | ((simp only [jadd, jsub, jmul, jneg, Int32.reduceToInt] at *) <;> omega))))))))))
set_option maxRecDepth 4000 in
theorem w_X12_lastsBy_L36 {b0 : SS} {y1 : Int32} {y2 : Int32} {Q : Int32 × SS → Prop} (hr : ∀ v s, Lk b0 s → Q (v, s)) : ∀ (n : Nat) (s : SS) (x3 : Int32) (x4 : Int32), Lk b0 s → (1 ≤ x4.toInt ∧ x4.toInt ≤ 61) → 61 - x4.toInt < (n : Int) → Ok (f_X12_lastsBy_L36 y1 y2 n s x3 x4) Q := by
  intro n
  induction n with
  | zero =>
    intro s x3 x4 K i0 hm
    exfalso
    (first | with_reducible assumption | omega | ((try clear ih); (try clear hr); (try clear hq0); (try clear hq1); (try clear hrec); ((try simp only [inB, Rs, Pg, Px, Ps, Pr, Pl, jcl, Rg, cellOK, bF, bA, bH, bV, jlt, jeq, jd4, jd10, jd20, jd24, jd60, jd100, jm4, jm10, jm20, jm24, jm60, jm100, Int32.reduceToInt, jn1, jn2, jn3, jn4, jn5, jn6, jn7, jn8, jn9, jn10, jn11, jn12, jn13, jn14, jn15, jn16, jn17, jn18, jn19, jn20, jn21, jn22, jn23, jn24, jn100, jn2000000000, zS_pS, zS_pI, zS_pJ, zS_pR, zS_pF, zS_pG, zI_pI, zI_pS, zI_pJ, zI_pR, zI_pF, zI_pG, zN_pS, zN_pI, zN_pJ, Nat.reduceEqDiff, Nat.reduceAdd, Nat.reduceMul, ite_true, ite_false, and_true, true_and, and_false, false_and, true_or, or_true, false_or, or_false, not_true_eq_false, not_false_eq_true, reduceIte, reduceCtorEq, eq_self] at *) <;> (first | omega | ((try simp (disch := first | omega | (simp (disch := first | omega | (simp (disch := first | omega | (simp only [jd4, jd10, jd20, jd24, jd60, jd100, jm4, jm10, jm20, jm24, jm60, jm100, Int32.reduceToInt]; omega)) only [i32_add, i32_sub, i32_mul, jd4, jd10, jd20, jd24, jd60, jd100, jm4, jm10, jm20, jm24, jm60, jm100, Int32.reduceToInt]; omega)) only [i32_add, i32_sub, i32_mul, jd4, jd10, jd20, jd24, jd60, jd100, jm4, jm10, jm20, jm24, jm60, jm100, Int32.reduceToInt]; omega)) only [i32_add, i32_sub, i32_mul, jd4, jd10, jd20, jd24, jd60, jd100, jm4, jm10, jm20, jm24, jm60, jm100, Int32.reduceToInt] at *) <;> (first | omega | ((try simp (disch := first | omega | (simp (disch := first | omega | (simp (disch := first | omega | (simp only [jd4, jd10, jd20, jd24, jd60, jd100, jm4, jm10, jm20, jm24, jm60, jm100, Int32.reduceToInt]; omega)) only [i32_add, i32_sub, i32_mul, jd4, jd10, jd20, jd24, jd60, jd100, jm4, jm10, jm20, jm24, jm60, jm100, Int32.reduceToInt]; omega)) only [i32_add, i32_sub, i32_mul, jd4, jd10, jd20, jd24, jd60, jd100, jm4, jm10, jm20, jm24, jm60, jm100, Int32.reduceToInt]; omega)) only [i32_add, i32_sub, i32_mul, jd4, jd10, jd20, jd24, jd60, jd100, jm4, jm10, jm20, jm24, jm60, jm100, Int32.reduceToInt] at *) <;> (first | omega | ((simp only [jadd, jsub, jmul, jneg, Int32.reduceToInt] at *) <;> omega)))))))))
  | succ n ih =>
    intro s x3 x4 K i0 hm
    show Ok (f_X12_lastsBy_L36_b y1 y2 (f_X12_lastsBy_L36 y1 y2 n) s x3 x4) Q
    unfold f_X12_lastsBy_L36_b
    repeat' (first
      | with_reducible assumption
      | dsimp only
      | with_reducible refine Ok_some ?_
      | with_reducible refine Lk_g120 (by assumption) ?_ (fun _ _ _ _ _ => ?_)
      | with_reducible refine Lk_g3 (by assumption) ?_ (fun _ _ => ?_)
      | with_reducible refine Lk_g8 (by assumption) ?_ (fun _ _ => ?_)
      | with_reducible refine Lk_g60 (by assumption) ?_ (fun _ _ => ?_)
      | with_reducible refine Lk_g40 (by assumption) ?_ (fun _ _ => ?_)
      | with_reducible refine Lk_g6 (by assumption) ?_ (fun _ _ _ => ?_)
      | with_reducible refine Ok_gd ?_ (fun _ => ?_)
      | with_reducible refine Ok_vl ?_
      | with_reducible refine Ok_wl ?_
      | with_reducible refine Ok_st ?_
      | with_reducible refine Ok_jn ?_
      | with_reducible refine Ok_b1 ?_
      | with_reducible refine Ok_bd ?_
      | with_reducible refine Ok_onN ?_
      | with_reducible refine Ok_onS ?_
      | with_reducible refine Ok_ift (by decide) ?_
      | with_reducible refine Ok_iff (by decide) ?_
      | with_reducible refine Ok_if (fun _ => ?_) (fun _ => ?_)
      | with_reducible refine Lk_onM (b0 := b0) ?_ (by assumption) (fun _ _ _ => ?_)
      | with_reducible refine Lk_onV (b0 := b0) ?_ (by assumption) (fun _ _ _ _ => ?_)
      | with_reducible refine Lk_onH (b0 := b0) ?_ (by assumption) (fun _ => ?_) (fun _ _ _ _ _ _ => ?_)
      | with_reducible refine Lk_onC (b0 := b0) ?_ (by assumption) (fun _ => ?_) (fun _ _ _ _ => ?_)
      | with_reducible refine Lk_onT (b0 := b0) ?_ (by assumption) (fun _ => ?_) (fun _ _ _ _ => ?_)
      | with_reducible refine ih _ _ _  ?_ ?_ ?_ 
      | with_reducible refine hr _ _ ?_ 
      | with_reducible refine w_X12_lastsBy_L49 (b0 := b0) (fun _ _ _ _ => ?_) _ _ _ _ _  ?_ ?_ ?_ 
      | with_reducible refine Lk.wI ?_ (by decide) (by decide) ?_
      | with_reducible refine Lk.wF ?_ (by decide) (by decide) (by decide) ?_
      | with_reducible refine Lk.wH ?_ (by assumption) ?_
      | with_reducible refine Lk.wV ?_ (by assumption) ?_
      | with_reducible refine Lk.wM ?_ (by assumption)
      | with_reducible refine Lk.wC ?_ (by assumption)
      | with_reducible refine Lk.w1 ?_ (by assumption)
      | with_reducible refine Lk.w2 ?_ (by assumption)
      | with_reducible refine Lk.w3 ?_ (by assumption)
      | with_reducible refine Lk.wc1 ?_ (by assumption)
      | with_reducible refine Lk.wJ ?_
      | with_reducible refine Lk.wG ?_
      | with_reducible refine Lk.wK ?_
      | with_reducible refine Lk.wFI ?_ (by decide) (by decide) ?_
      | with_reducible refine And.intro ?_ ?_)
    all_goals (try (first | with_reducible assumption | exact trivial | omega | ((try clear ih); (try clear hr); (try clear hq0); (try clear hq1); (try clear hrec); ((try simp only [inB, Rs, Pg, Px, Ps, Pr, Pl, jcl, Rg, cellOK, bF, bA, bH, bV, jlt, jeq, jd4, jd10, jd20, jd24, jd60, jd100, jm4, jm10, jm20, jm24, jm60, jm100, Int32.reduceToInt, jn1, jn2, jn3, jn4, jn5, jn6, jn7, jn8, jn9, jn10, jn11, jn12, jn13, jn14, jn15, jn16, jn17, jn18, jn19, jn20, jn21, jn22, jn23, jn24, jn100, jn2000000000, zS_pS, zS_pI, zS_pJ, zS_pR, zS_pF, zS_pG, zI_pI, zI_pS, zI_pJ, zI_pR, zI_pF, zI_pG, zN_pS, zN_pI, zN_pJ, Nat.reduceEqDiff, Nat.reduceAdd, Nat.reduceMul, ite_true, ite_false, and_true, true_and, and_false, false_and, true_or, or_true, false_or, or_false, not_true_eq_false, not_false_eq_true, reduceIte, reduceCtorEq, eq_self] at *) <;> (first | omega | ((try simp (disch := first | omega | (simp (disch := first | omega | (simp (disch := first | omega | (simp only [jd4, jd10, jd20, jd24, jd60, jd100, jm4, jm10, jm20, jm24, jm60, jm100, Int32.reduceToInt]; omega)) only [i32_add, i32_sub, i32_mul, jd4, jd10, jd20, jd24, jd60, jd100, jm4, jm10, jm20, jm24, jm60, jm100, Int32.reduceToInt]; omega)) only [i32_add, i32_sub, i32_mul, jd4, jd10, jd20, jd24, jd60, jd100, jm4, jm10, jm20, jm24, jm60, jm100, Int32.reduceToInt]; omega)) only [i32_add, i32_sub, i32_mul, jd4, jd10, jd20, jd24, jd60, jd100, jm4, jm10, jm20, jm24, jm60, jm100, Int32.reduceToInt] at *) <;> (first | omega | ((try simp (disch := first | omega | (simp (disch := first | omega | (simp (disch := first | omega | (simp only [jd4, jd10, jd20, jd24, jd60, jd100, jm4, jm10, jm20, jm24, jm60, jm100, Int32.reduceToInt]; omega)) only [i32_add, i32_sub, i32_mul, jd4, jd10, jd20, jd24, jd60, jd100, jm4, jm10, jm20, jm24, jm60, jm100, Int32.reduceToInt]; omega)) only [i32_add, i32_sub, i32_mul, jd4, jd10, jd20, jd24, jd60, jd100, jm4, jm10, jm20, jm24, jm60, jm100, Int32.reduceToInt]; omega)) only [i32_add, i32_sub, i32_mul, jd4, jd10, jd20, jd24, jd60, jd100, jm4, jm10, jm20, jm24, jm60, jm100, Int32.reduceToInt] at *) <;> (first | omega | ((simp only [jadd, jsub, jmul, jneg, Int32.reduceToInt] at *) <;> omega))))))))))
set_option maxRecDepth 4000 in
theorem w_X12_lastsBy {b0 : SS} {s0 : SS} {a0 : Int32} {a1 : Int32} (K : Lk b0 s0) : Ok (f_X12_lastsBy s0 a0 a1) (fun r => Lk b0 r.2) := by
  unfold f_X12_lastsBy
  repeat' (first
    | with_reducible assumption
    | dsimp only
    | with_reducible refine Ok_some ?_
    | with_reducible refine Lk_g120 (by assumption) ?_ (fun _ _ _ _ _ => ?_)
    | with_reducible refine Lk_g3 (by assumption) ?_ (fun _ _ => ?_)
    | with_reducible refine Lk_g8 (by assumption) ?_ (fun _ _ => ?_)
    | with_reducible refine Lk_g60 (by assumption) ?_ (fun _ _ => ?_)
    | with_reducible refine Lk_g40 (by assumption) ?_ (fun _ _ => ?_)
    | with_reducible refine Lk_g6 (by assumption) ?_ (fun _ _ _ => ?_)
    | with_reducible refine Ok_gd ?_ (fun _ => ?_)
    | with_reducible refine Ok_vl ?_
    | with_reducible refine Ok_wl ?_
    | with_reducible refine Ok_st ?_
    | with_reducible refine Ok_jn ?_
    | with_reducible refine Ok_b1 ?_
    | with_reducible refine Ok_bd ?_
    | with_reducible refine Ok_onN ?_
    | with_reducible refine Ok_onS ?_
    | with_reducible refine Ok_ift (by decide) ?_
    | with_reducible refine Ok_iff (by decide) ?_
    | with_reducible refine Ok_if (fun _ => ?_) (fun _ => ?_)
    | with_reducible refine Lk_onM (b0 := b0) ?_ (by assumption) (fun _ _ _ => ?_)
    | with_reducible refine Lk_onV (b0 := b0) ?_ (by assumption) (fun _ _ _ _ => ?_)
    | with_reducible refine Lk_onH (b0 := b0) ?_ (by assumption) (fun _ => ?_) (fun _ _ _ _ _ _ => ?_)
    | with_reducible refine Lk_onC (b0 := b0) ?_ (by assumption) (fun _ => ?_) (fun _ _ _ _ => ?_)
    | with_reducible refine Lk_onT (b0 := b0) ?_ (by assumption) (fun _ => ?_) (fun _ _ _ _ => ?_)
    | with_reducible refine w_X12_lastsBy_L2 (b0 := b0) (fun _ _ => ?_) _ _ _  ?_ ?_ ?_ 
    | with_reducible refine w_X12_lastsBy_L36 (b0 := b0) (fun _ _ _ => ?_) _ _ _ _  ?_ ?_ ?_ 
    | with_reducible refine Lk.wI ?_ (by decide) (by decide) ?_
    | with_reducible refine Lk.wF ?_ (by decide) (by decide) (by decide) ?_
    | with_reducible refine Lk.wH ?_ (by assumption) ?_
    | with_reducible refine Lk.wV ?_ (by assumption) ?_
    | with_reducible refine Lk.wM ?_ (by assumption)
    | with_reducible refine Lk.wC ?_ (by assumption)
    | with_reducible refine Lk.w1 ?_ (by assumption)
    | with_reducible refine Lk.w2 ?_ (by assumption)
    | with_reducible refine Lk.w3 ?_ (by assumption)
    | with_reducible refine Lk.wc1 ?_ (by assumption)
    | with_reducible refine Lk.wJ ?_
    | with_reducible refine Lk.wG ?_
    | with_reducible refine Lk.wK ?_
    | with_reducible refine Lk.wFI ?_ (by decide) (by decide) ?_
    | with_reducible refine And.intro ?_ ?_)
  all_goals (try (first | with_reducible assumption | exact trivial | omega | ((try clear ih); (try clear hr); (try clear hq0); (try clear hq1); (try clear hrec); ((try simp only [inB, Rs, Pg, Px, Ps, Pr, Pl, jcl, Rg, cellOK, bF, bA, bH, bV, jlt, jeq, jd4, jd10, jd20, jd24, jd60, jd100, jm4, jm10, jm20, jm24, jm60, jm100, Int32.reduceToInt, jn1, jn2, jn3, jn4, jn5, jn6, jn7, jn8, jn9, jn10, jn11, jn12, jn13, jn14, jn15, jn16, jn17, jn18, jn19, jn20, jn21, jn22, jn23, jn24, jn100, jn2000000000, zS_pS, zS_pI, zS_pJ, zS_pR, zS_pF, zS_pG, zI_pI, zI_pS, zI_pJ, zI_pR, zI_pF, zI_pG, zN_pS, zN_pI, zN_pJ, Nat.reduceEqDiff, Nat.reduceAdd, Nat.reduceMul, ite_true, ite_false, and_true, true_and, and_false, false_and, true_or, or_true, false_or, or_false, not_true_eq_false, not_false_eq_true, reduceIte, reduceCtorEq, eq_self] at *) <;> (first | omega | ((try simp (disch := first | omega | (simp (disch := first | omega | (simp (disch := first | omega | (simp only [jd4, jd10, jd20, jd24, jd60, jd100, jm4, jm10, jm20, jm24, jm60, jm100, Int32.reduceToInt]; omega)) only [i32_add, i32_sub, i32_mul, jd4, jd10, jd20, jd24, jd60, jd100, jm4, jm10, jm20, jm24, jm60, jm100, Int32.reduceToInt]; omega)) only [i32_add, i32_sub, i32_mul, jd4, jd10, jd20, jd24, jd60, jd100, jm4, jm10, jm20, jm24, jm60, jm100, Int32.reduceToInt]; omega)) only [i32_add, i32_sub, i32_mul, jd4, jd10, jd20, jd24, jd60, jd100, jm4, jm10, jm20, jm24, jm60, jm100, Int32.reduceToInt] at *) <;> (first | omega | ((try simp (disch := first | omega | (simp (disch := first | omega | (simp (disch := first | omega | (simp only [jd4, jd10, jd20, jd24, jd60, jd100, jm4, jm10, jm20, jm24, jm60, jm100, Int32.reduceToInt]; omega)) only [i32_add, i32_sub, i32_mul, jd4, jd10, jd20, jd24, jd60, jd100, jm4, jm10, jm20, jm24, jm60, jm100, Int32.reduceToInt]; omega)) only [i32_add, i32_sub, i32_mul, jd4, jd10, jd20, jd24, jd60, jd100, jm4, jm10, jm20, jm24, jm60, jm100, Int32.reduceToInt]; omega)) only [i32_add, i32_sub, i32_mul, jd4, jd10, jd20, jd24, jd60, jd100, jm4, jm10, jm20, jm24, jm60, jm100, Int32.reduceToInt] at *) <;> (first | omega | ((simp only [jadd, jsub, jmul, jneg, Int32.reduceToInt] at *) <;> omega))))))))))
