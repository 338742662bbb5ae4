set_option maxRecDepth 4000 in
theorem w_X12_raise_L27 {b0 : SS} {y1 : Int32} {Q : Int32 × SS → Prop} (hr : ∀ v s, Lk b0 s → Q (v, s)) : ∀ (n : Nat) (s : SS) (x2 : Int32) (x3 : Int32), Lk b0 s → (0 ≤ x3.toInt ∧ x3.toInt ≤ 120) → 120 - x3.toInt < (n : Int) → Ok (f_X12_raise_L27 y1 n s x2 x3) Q := by
  intro n
  induction n with
  | zero =>
    intro s x2 x3 K i0 hm
    exfalso
    (first | with_reducible assumption | omega | ((try clear ih); (try clear hr); (try clear hq0); (try clear hq1); (try clear hrec); ((try simp only [inB, Rs, Pg, Px, Ps, Pr, Pl, jcl, Rg, cellOK, bF, bA, bH, bV, jlt, jeq, jd4, jd10, jd20, jd24, jd60, jd100, jm4, jm10, jm20, jm24, jm60, jm100, Int32.reduceToInt, jn1, jn2, jn3, jn4, jn5, jn6, jn7, jn8, jn9, jn10, jn11, jn12, jn13, jn14, jn15, jn16, jn17, jn18, jn19, jn20, jn21, jn22, jn23, jn24, jn100, jn2000000000, zS_pS, zS_pI, zS_pJ, zS_pR, zS_pF, zS_pG, zI_pI, zI_pS, zI_pJ, zI_pR, zI_pF, zI_pG, zN_pS, zN_pI, zN_pJ, Nat.reduceEqDiff, Nat.reduceAdd, Nat.reduceMul, ite_true, ite_false, and_true, true_and, and_false, false_and, true_or, or_true, false_or, or_false, not_true_eq_false, not_false_eq_true, reduceIte, reduceCtorEq, eq_self] at *) <;> (first | omega | ((try simp (disch := first | omega | (simp (disch := first | omega | (simp (disch := first | omega | (simp only [jd4, jd10, jd20, jd24, jd60, jd100, jm4, jm10, jm20, jm24, jm60, jm100, Int32.reduceToInt]; omega)) only [i32_add, i32_sub, i32_mul, jd4, jd10, jd20, jd24, jd60, jd100, jm4, jm10, jm20, jm24, jm60, jm100, Int32.reduceToInt]; omega)) only [i32_add, i32_sub, i32_mul, jd4, jd10, jd20, jd24, jd60, jd100, jm4, jm10, jm20, jm24, jm60, jm100, Int32.reduceToInt]; omega)) only [i32_add, i32_sub, i32_mul, jd4, jd10, jd20, jd24, jd60, jd100, jm4, jm10, jm20, jm24, jm60, jm100, Int32.reduceToInt] at *) <;> (first | omega | ((try simp (disch := first | omega | (simp (disch := first | omega | (simp (disch := first | omega | (simp only [jd4, jd10, jd20, jd24, jd60, jd100, jm4, jm10, jm20, jm24, jm60, jm100, Int32.reduceToInt]; omega)) only [i32_add, i32_sub, i32_mul, jd4, jd10, jd20, jd24, jd60, jd100, jm4, jm10, jm20, jm24, jm60, jm100, Int32.reduceToInt]; omega)) only [i32_add, i32_sub, i32_mul, jd4, jd10, jd20, jd24, jd60, jd100, jm4, jm10, jm20, jm24, jm60, jm100, Int32.reduceToInt]; omega)) only [i32_add, i32_sub, i32_mul, jd4, jd10, jd20, jd24, jd60, jd100, jm4, jm10, jm20, jm24, jm60, jm100, Int32.reduceToInt] at *) <;> (first | omega | ((simp only [jadd, jsub, jmul, jneg, Int32.reduceToInt] at *) <;> omega)))))))))
  | succ n ih =>
    intro s x2 x3 K i0 hm
    show Ok (f_X12_raise_L27_b y1 (f_X12_raise_L27 y1 n) s x2 x3) Q
    unfold f_X12_raise_L27_b
    have f0 := (K.f (q := 59) (k := 82) rfl)
    repeat' (first
      | with_reducible assumption
      | dsimp only
      | with_reducible refine Ok_some ?_
      | with_reducible refine Lk_g120 (by assumption) ?_ (fun _ _ _ _ _ => ?_)
      | with_reducible refine Lk_g3 (by assumption) ?_ (fun _ _ => ?_)
      | with_reducible refine Lk_g8 (by assumption) ?_ (fun _ _ => ?_)
      | with_reducible refine Lk_g60 (by assumption) ?_ (fun _ _ => ?_)
      | with_reducible refine Lk_g40 (by assumption) ?_ (fun _ _ => ?_)
      | with_reducible refine Lk_g6 (by assumption) ?_ (fun _ _ _ => ?_)
      | with_reducible refine Ok_gd ?_ (fun _ => ?_)
      | with_reducible refine Ok_vl ?_
      | with_reducible refine Ok_wl ?_
      | with_reducible refine Ok_st ?_
      | with_reducible refine Ok_jn ?_
      | with_reducible refine Ok_b1 ?_
      | with_reducible refine Ok_bd ?_
      | with_reducible refine Ok_onN ?_
      | with_reducible refine Ok_onS ?_
      | with_reducible refine Ok_ift (by decide) ?_
      | with_reducible refine Ok_iff (by decide) ?_
      | with_reducible refine Ok_if (fun _ => ?_) (fun _ => ?_)
      | with_reducible refine Lk_onM (b0 := b0) ?_ (by assumption) (fun _ _ _ => ?_)
      | with_reducible refine Lk_onV (b0 := b0) ?_ (by assumption) (fun _ _ _ _ => ?_)
      | with_reducible refine Lk_onH (b0 := b0) ?_ (by assumption) (fun _ => ?_) (fun _ _ _ _ _ _ => ?_)
      | with_reducible refine Lk_onC (b0 := b0) ?_ (by assumption) (fun _ => ?_) (fun _ _ _ _ => ?_)
      | with_reducible refine Lk_onT (b0 := b0) ?_ (by assumption) (fun _ => ?_) (fun _ _ _ _ => ?_)
      | with_reducible refine ih _ _ _  ?_ ?_ ?_ 
      | with_reducible refine hr _ _ ?_ 
      | with_reducible refine Lk.wI ?_ (by decide) (by decide) ?_
      | with_reducible refine Lk.wF ?_ (by decide) (by decide) (by decide) ?_
      | with_reducible refine Lk.wH ?_ (by assumption) ?_
      | with_reducible refine Lk.wV ?_ (by assumption) ?_
      | with_reducible refine Lk.wM ?_ (by assumption)
      | with_reducible refine Lk.wC ?_ (by assumption)
      | with_reducible refine Lk.w1 ?_ (by assumption)
      | with_reducible refine Lk.w2 ?_ (by assumption)
      | with_reducible refine Lk.w3 ?_ (by assumption)
      | with_reducible refine Lk.wc1 ?_ (by assumption)
      | with_reducible refine Lk.wJ ?_
      | with_reducible refine Lk.wG ?_
      | with_reducible refine Lk.wK ?_
      | with_reducible refine Lk.wFI ?_ (by decide) (by decide) ?_
      | with_reducible refine And.intro ?_ ?_)
    all_goals (try (first | with_reducible assumption | exact trivial | omega | ((try clear ih); (try clear hr); (try clear hq0); (try clear hq1); (try clear hrec); ((try simp only [inB, Rs, Pg, Px, Ps, Pr, Pl, jcl, Rg, cellOK, bF, bA, bH, bV, jlt, jeq, jd4, jd10, jd20, jd24, jd60, jd100, jm4, jm10, jm20, jm24, jm60, jm100, Int32.reduceToInt, jn1, jn2, jn3, jn4, jn5, jn6, jn7, jn8, jn9, jn10, jn11, jn12, jn13, jn14, jn15, jn16, jn17, jn18, jn19, jn20, jn21, jn22, jn23, jn24, jn100, jn2000000000, zS_pS, zS_pI, zS_pJ, zS_pR, zS_pF, zS_pG, zI_pI, zI_pS, zI_pJ, zI_pR, zI_pF, zI_pG, zN_pS, zN_pI, zN_pJ, Nat.reduceEqDiff, Nat.reduceAdd, Nat.reduceMul, ite_true, ite_false, and_true, true_and, and_false, false_and, true_or, or_true, false_or, or_false, not_true_eq_false, not_false_eq_true, reduceIte, reduceCtorEq, eq_self] at *) <;> (first | omega | ((try simp (disch := first | omega | (simp (disch := first | omega | (simp (disch := first | omega | (simp only [jd4, jd10, jd20, jd24, jd60, jd100, jm4, jm10, jm20, jm24, jm60, jm100, Int32.reduceToInt]; omega)) only [i32_add, i32_sub, i32_mul, jd4, jd10, jd20, jd24, jd60, jd100, jm4, jm10, jm20, jm24, jm60, jm100, Int32.reduceToInt]; omega)) only [i32_add, i32_sub, i32_mul, jd4, jd10, jd20, jd24, jd60, jd100, jm4, jm10, jm20, jm24, jm60, jm100, Int32.reduceToInt]; omega)) only [i32_add, i32_sub, i32_mul, jd4, jd10, jd20, jd24, jd60, jd100, jm4, jm10, jm20, jm24, jm60, jm100, Int32.reduceToInt] at *) <;> (first | omega | ((try simp (disch := first | omega | (simp (disch := first | omega | (simp (disch := first | omega | (simp only [jd4, jd10, jd20, jd24, jd60, jd100, jm4, jm10, jm20, jm24, jm60, jm100, Int32.reduceToInt]; omega)) only [i32_add, i32_sub, i32_mul, jd4, jd10, jd20, jd24, jd60, jd100, jm4, jm10, jm20, jm24, jm60, jm100, Int32.reduceToInt]; omega)) only [i32_add, i32_sub, i32_mul, jd4, jd10, jd20, jd24, jd60, jd100, jm4, jm10, jm20, jm24, jm60, jm100, Int32.reduceToInt]; omega)) only [i32_add, i32_sub, i32_mul, jd4, jd10, jd20, jd24, jd60, jd100, jm4, jm10, jm20, jm24, jm60, jm100, Int32.reduceToInt] at *) <;> (first | omega | ((simp only [jadd, jsub, jmul, jneg, Int32.reduceToInt] at *) <;> omega))))))))))
set_option maxRecDepth 4000 in
theorem w_X12_raise {b0 : SS} {s0 : SS} {a0 : Int32} (K : Lk b0 s0) : Ok (f_X12_raise s0 a0) (fun r => Lk b0 r.2) := by
  unfold f_X12_raise
  have f0 := (K.f (q := 59) (k := 82) rfl)
  repeat' (first
    | with_reducible assumption
    | dsimp only
    | with_reducible refine Ok_some ?_
    | with_reducible refine Lk_g120 (by assumption) ?_ (fun _ _ _ _ _ => ?_)
    | with_reducible refine Lk_g3 (by assumption) ?_ (fun _ _ => ?_)
    | with_reducible refine Lk_g8 (by assumption) ?_ (fun _ _ => ?_)
    | with_reducible refine Lk_g60 (by assumption) ?_ (fun _ _ => ?_)
    | with_reducible refine Lk_g40 (by assumption) ?_ (fun _ _ => ?_)
    | with_reducible refine Lk_g6 (by assumption) ?_ (fun _ _ _ => ?_)
    | with_reducible refine Ok_gd ?_ (fun _ => ?_)
    | with_reducible refine Ok_vl ?_
    | with_reducible refine Ok_wl ?_
    | with_reducible refine Ok_st ?_
    | with_reducible refine Ok_jn ?_
    | with_reducible refine Ok_b1 ?_
    | with_reducible refine Ok_bd ?_
    | with_reducible refine Ok_onN ?_
    | with_reducible refine Ok_onS ?_
    | with_reducible refine Ok_ift (by decide) ?_
    | with_reducible refine Ok_iff (by decide) ?_
    | with_reducible refine Ok_if (fun _ => ?_) (fun _ => ?_)
    | with_reducible refine Lk_onM (b0 := b0) ?_ (by assumption) (fun _ _ _ => ?_)
    | with_reducible refine Lk_onV (b0 := b0) ?_ (by assumption) (fun _ _ _ _ => ?_)
    | with_reducible refine Lk_onH (b0 := b0) ?_ (by assumption) (fun _ => ?_) (fun _ _ _ _ _ _ => ?_)
    | with_reducible refine Lk_onC (b0 := b0) ?_ (by assumption) (fun _ => ?_) (fun _ _ _ _ => ?_)
    | with_reducible refine Lk_onT (b0 := b0) ?_ (by assumption) (fun _ => ?_) (fun _ _ _ _ => ?_)
    | with_reducible refine Ok.mono (w_X12_in ) (fun _ _ => ?_)
    | with_reducible refine w_X12_raise_L27 (b0 := b0) (fun _ _ _ => ?_) _ _ _ _  ?_ ?_ ?_ 
    | with_reducible refine Lk.wI ?_ (by decide) (by decide) ?_
    | with_reducible refine Lk.wF ?_ (by decide) (by decide) (by decide) ?_
    | with_reducible refine Lk.wH ?_ (by assumption) ?_
    | with_reducible refine Lk.wV ?_ (by assumption) ?_
    | with_reducible refine Lk.wM ?_ (by assumption)
    | with_reducible refine Lk.wC ?_ (by assumption)
    | with_reducible refine Lk.w1 ?_ (by assumption)
    | with_reducible refine Lk.w2 ?_ (by assumption)
    | with_reducible refine Lk.w3 ?_ (by assumption)
    | with_reducible refine Lk.wc1 ?_ (by assumption)
    | with_reducible refine Lk.wJ ?_
    | with_reducible refine Lk.wG ?_
    | with_reducible refine Lk.wK ?_
    | with_reducible refine Lk.wFI ?_ (by decide) (by decide) ?_
    | with_reducible refine And.intro ?_ ?_)
  all_goals (try (first | with_reducible assumption | exact trivial | omega | ((try clear ih); (try clear hr); (try clear hq0); (try clear hq1); (try clear hrec); ((try simp only [inB, Rs, Pg, Px, Ps, Pr, Pl, jcl, Rg, cellOK, bF, bA, bH, bV, jlt, jeq, jd4, jd10, jd20, jd24, jd60, jd100, jm4, jm10, jm20, jm24, jm60, jm100, Int32.reduceToInt, jn1, jn2, jn3, jn4, jn5, jn6, jn7, jn8, jn9, jn10, jn11, jn12, jn13, jn14, jn15, jn16, jn17, jn18, jn19, jn20, jn21, jn22, jn23, jn24, jn100, jn2000000000, zS_pS, zS_pI, zS_pJ, zS_pR, zS_pF, zS_pG, zI_pI, zI_pS, zI_pJ, zI_pR, zI_pF, zI_pG, zN_pS, zN_pI, zN_pJ, Nat.reduceEqDiff, Nat.reduceAdd, Nat.reduceMul, ite_true, ite_false, and_true, true_and, and_false, false_and, true_or, or_true, false_or, or_false, not_true_eq_false, not_false_eq_true, reduceIte, reduceCtorEq, eq_self] at *) <;> (first | omega | ((try simp (disch := first | omega | (simp (disch := first | omega | (simp (disch := first | omega | (simp only [jd4, jd10, jd20, jd24, jd60, jd100, jm4, jm10, jm20, jm24, jm60, jm100, Int32.reduceToInt]; omega)) only [i32_add, i32_sub, i32_mul, jd4, jd10, jd20, jd24, jd60, jd100, jm4, jm10, jm20, jm24, jm60, jm100, Int32.reduceToInt]; omega)) only [i32_add, i32_sub, i32_mul, jd4, jd10, jd20, jd24, jd60, jd100, jm4, jm10, jm20, jm24, jm60, jm100, Int32.reduceToInt]; omega)) only [i32_add, i32_sub, i32_mul, jd4, jd10, jd20, jd24, jd60, jd100, jm4, jm10, jm20, jm24, jm60, jm100, Int32.reduceToInt] at *) <;> (first | omega | ((try simp (disch := first | omega | (simp (disch := first | omega | (simp (disch := first | omega | (simp only [jd4, jd10, jd20, jd24, jd60, jd100, jm4, jm10, jm20, jm24, jm60, jm100, Int32.reduceToInt]; omega)) only [i32_add, i32_sub, i32_mul, jd4, jd10, jd20, jd24, jd60, jd100, jm4, jm10, jm20, jm24, jm60, jm100, Int32.reduceToInt]; omega)) only [i32_add, i32_sub, i32_mul, jd4, jd10, jd20, jd24, jd60, jd100, jm4, jm10, jm20, jm24, jm60, jm100, Int32.reduceToInt]; omega)) only [i32_add, i32_sub, i32_mul, jd4, jd10, jd20, jd24, jd60, jd100, jm4, jm10, jm20, jm24, jm60, jm100, Int32.reduceToInt] at *) <;> (first | omega | ((simp only [jadd, jsub, jmul, jneg, Int32.reduceToInt] at *) <;> omega))))))))))
set_option maxRecDepth 4000 in
theorem w_X12_ran {b0 : SS} {s0 : SS} {a0 : Int32} (K : Lk b0 s0) (g0 : 0 ≤ (zS s0 59 87).toInt ∧ (zS s0 59 87).toInt + 1 ≤ 100000) : Ok (f_X12_ran s0 a0) (fun r => Lk b0 r ∧ (0 ≤ (zS r 59 87).toInt ∧ (zS r 59 87).toInt ≤ (zS s0 59 87).toInt + 1)) := by
  unfold f_X12_ran
  repeat' (first
    | with_reducible assumption
    | dsimp only
    | with_reducible refine Ok_some ?_
    | with_reducible refine Lk_g120 (by assumption) ?_ (fun _ _ _ _ _ => ?_)
    | with_reducible refine Lk_g3 (by assumption) ?_ (fun _ _ => ?_)
    | with_reducible refine Lk_g8 (by assumption) ?_ (fun _ _ => ?_)
    | with_reducible refine Lk_g60 (by assumption) ?_ (fun _ _ => ?_)
    | with_reducible refine Lk_g40 (by assumption) ?_ (fun _ _ => ?_)
    | with_reducible refine Lk_g6 (by assumption) ?_ (fun _ _ _ => ?_)
    | with_reducible refine Ok_gd ?_ (fun _ => ?_)
    | with_reducible refine Ok_vl ?_
    | with_reducible refine Ok_wl ?_
    | with_reducible refine Ok_st ?_
    | with_reducible refine Ok_jn ?_
    | with_reducible refine Ok_b1 ?_
    | with_reducible refine Ok_bd ?_
    | with_reducible refine Ok_onN ?_
    | with_reducible refine Ok_onS ?_
    | with_reducible refine Ok_ift (by decide) ?_
    | with_reducible refine Ok_iff (by decide) ?_
    | with_reducible refine Ok_if (fun _ => ?_) (fun _ => ?_)
    | with_reducible refine Lk_onM (b0 := b0) ?_ (by assumption) (fun _ _ _ => ?_)
    | with_reducible refine Lk_onV (b0 := b0) ?_ (by assumption) (fun _ _ _ _ => ?_)
    | with_reducible refine Lk_onH (b0 := b0) ?_ (by assumption) (fun _ => ?_) (fun _ _ _ _ _ _ => ?_)
    | with_reducible refine Lk_onC (b0 := b0) ?_ (by assumption) (fun _ => ?_) (fun _ _ _ _ => ?_)
    | with_reducible refine Lk_onT (b0 := b0) ?_ (by assumption) (fun _ => ?_) (fun _ _ _ _ => ?_)
    | with_reducible refine Lk.wI ?_ (by decide) (by decide) ?_
    | with_reducible refine Lk.wF ?_ (by decide) (by decide) (by decide) ?_
    | with_reducible refine Lk.wH ?_ (by assumption) ?_
    | with_reducible refine Lk.wV ?_ (by assumption) ?_
    | with_reducible refine Lk.wM ?_ (by assumption)
    | with_reducible refine Lk.wC ?_ (by assumption)
    | with_reducible refine Lk.w1 ?_ (by assumption)
    | with_reducible refine Lk.w2 ?_ (by assumption)
    | with_reducible refine Lk.w3 ?_ (by assumption)
    | with_reducible refine Lk.wc1 ?_ (by assumption)
    | with_reducible refine Lk.wJ ?_
    | with_reducible refine Lk.wG ?_
    | with_reducible refine Lk.wK ?_
    | with_reducible refine Lk.wFI ?_ (by decide) (by decide) ?_
    | with_reducible refine And.intro ?_ ?_)
  all_goals (try (first | with_reducible assumption | exact trivial | omega | ((try clear ih); (try clear hr); (try clear hq0); (try clear hq1); (try clear hrec); ((try simp only [inB, Rs, Pg, Px, Ps, Pr, Pl, jcl, Rg, cellOK, bF, bA, bH, bV, jlt, jeq, jd4, jd10, jd20, jd24, jd60, jd100, jm4, jm10, jm20, jm24, jm60, jm100, Int32.reduceToInt, jn1, jn2, jn3, jn4, jn5, jn6, jn7, jn8, jn9, jn10, jn11, jn12, jn13, jn14, jn15, jn16, jn17, jn18, jn19, jn20, jn21, jn22, jn23, jn24, jn100, jn2000000000, zS_pS, zS_pI, zS_pJ, zS_pR, zS_pF, zS_pG, zI_pI, zI_pS, zI_pJ, zI_pR, zI_pF, zI_pG, zN_pS, zN_pI, zN_pJ, Nat.reduceEqDiff, Nat.reduceAdd, Nat.reduceMul, ite_true, ite_false, and_true, true_and, and_false, false_and, true_or, or_true, false_or, or_false, not_true_eq_false, not_false_eq_true, reduceIte, reduceCtorEq, eq_self] at *) <;> (first | omega | ((try simp (disch := first | omega | (simp (disch := first | omega | (simp (disch := first | omega | (simp only [jd4, jd10, jd20, jd24, jd60, jd100, jm4, jm10, jm20, jm24, jm60, jm100, Int32.reduceToInt]; omega)) only [i32_add, i32_sub, i32_mul, jd4, jd10, jd20, jd24, jd60, jd100, jm4, jm10, jm20, jm24, jm60, jm100, Int32.reduceToInt]; omega)) only [i32_add, i32_sub, i32_mul, jd4, jd10, jd20, jd24, jd60, jd100, jm4, jm10, jm20, jm24, jm60, jm100, Int32.reduceToInt]; omega)) only [i32_add, i32_sub, i32_mul, jd4, jd10, jd20, jd24, jd60, jd100, jm4, jm10, jm20, jm24, jm60, jm100, Int32.reduceToInt] at *) <;> (first | omega | ((try simp (disch := first | omega | (simp (disch := first | omega | (simp (disch := first | omega | (simp only [jd4, jd10, jd20, jd24, jd60, jd100, jm4, jm10, jm20, jm24, jm60, jm100, Int32.reduceToInt]; omega)) only [i32_add, i32_sub, i32_mul, jd4, jd10, jd20, jd24, jd60, jd100, jm4, jm10, jm20, jm24, jm60, jm100, Int32.reduceToInt]; omega)) only [i32_add, i32_sub, i32_mul, jd4, jd10, jd20, jd24, jd60, jd100, jm4, jm10, jm20, jm24, jm60, jm100, Int32.reduceToInt]; omega)) only [i32_add, i32_sub, i32_mul, jd4, jd10, jd20, jd24, jd60, jd100, jm4, jm10, jm20, jm24, jm60, jm100, Int32.reduceToInt] at *) <;> (first | omega | ((simp only [jadd, jsub, jmul, jneg, Int32.reduceToInt] at *) <;> omega))))))))))
set_option maxRecDepth 4000 in
theorem w_X12_plainBores {b0 : SS} {s0 : SS} {a0 : Int32} {a1 : Int32} (K : Lk b0 s0) (g0 : 0 ≤ a0.toInt ∧ a0.toInt ≤ 119) (g1 : 0 ≤ (zS s0 59 87).toInt ∧ (zS s0 59 87).toInt + 1 ≤ 100000) : Ok (f_X12_plainBores s0 a0 a1) (fun r => Lk b0 r.2 ∧ (0 ≤ (zS r.2 59 87).toInt ∧ (zS r.2 59 87).toInt ≤ (zS s0 59 87).toInt + 1)) := by
  unfold f_X12_plainBores
  repeat' (first
    | with_reducible assumption
    | dsimp only
    | with_reducible refine Ok_some ?_
    | with_reducible refine Lk_g120 (by assumption) ?_ (fun _ _ _ _ _ => ?_)
    | with_reducible refine Lk_g3 (by assumption) ?_ (fun _ _ => ?_)
    | with_reducible refine Lk_g8 (by assumption) ?_ (fun _ _ => ?_)
    | with_reducible refine Lk_g60 (by assumption) ?_ (fun _ _ => ?_)
    | with_reducible refine Lk_g40 (by assumption) ?_ (fun _ _ => ?_)
    | with_reducible refine Lk_g6 (by assumption) ?_ (fun _ _ _ => ?_)
    | with_reducible refine Ok_gd ?_ (fun _ => ?_)
    | with_reducible refine Ok_vl ?_
    | with_reducible refine Ok_wl ?_
    | with_reducible refine Ok_st ?_
    | with_reducible refine Ok_jn ?_
    | with_reducible refine Ok_b1 ?_
    | with_reducible refine Ok_bd ?_
    | with_reducible refine Ok_onN ?_
    | with_reducible refine Ok_onS ?_
    | with_reducible refine Ok_ift (by decide) ?_
    | with_reducible refine Ok_iff (by decide) ?_
    | with_reducible refine Ok_if (fun _ => ?_) (fun _ => ?_)
    | with_reducible refine Lk_onM (b0 := b0) ?_ (by assumption) (fun _ _ _ => ?_)
    | with_reducible refine Lk_onV (b0 := b0) ?_ (by assumption) (fun _ _ _ _ => ?_)
    | with_reducible refine Lk_onH (b0 := b0) ?_ (by assumption) (fun _ => ?_) (fun _ _ _ _ _ _ => ?_)
    | with_reducible refine Lk_onC (b0 := b0) ?_ (by assumption) (fun _ => ?_) (fun _ _ _ _ => ?_)
    | with_reducible refine Lk_onT (b0 := b0) ?_ (by assumption) (fun _ => ?_) (fun _ _ _ _ => ?_)
    | with_reducible refine Ok.mono (w_X12_ran (b0 := b0) ?_ ?_) (fun _ ⟨_, _⟩ => ?_)
    | with_reducible refine Lk.wI ?_ (by decide) (by decide) ?_
    | with_reducible refine Lk.wF ?_ (by decide) (by decide) (by decide) ?_
    | with_reducible refine Lk.wH ?_ (by assumption) ?_
    | with_reducible refine Lk.wV ?_ (by assumption) ?_
    | with_reducible refine Lk.wM ?_ (by assumption)
    | with_reducible refine Lk.wC ?_ (by assumption)
    | with_reducible refine Lk.w1 ?_ (by assumption)
    | with_reducible refine Lk.w2 ?_ (by assumption)
    | with_reducible refine Lk.w3 ?_ (by assumption)
    | with_reducible refine Lk.wc1 ?_ (by assumption)
    | with_reducible refine Lk.wJ ?_
    | with_reducible refine Lk.wG ?_
    | with_reducible refine Lk.wK ?_
    | with_reducible refine Lk.wFI ?_ (by decide) (by decide) ?_
    | with_reducible refine And.intro ?_ ?_)
  all_goals (try (first | with_reducible assumption | exact trivial | omega | ((try clear ih); (try clear hr); (try clear hq0); (try clear hq1); (try clear hrec); ((try simp only [inB, Rs, Pg, Px, Ps, Pr, Pl, jcl, Rg, cellOK, bF, bA, bH, bV, jlt, jeq, jd4, jd10, jd20, jd24, jd60, jd100, jm4, jm10, jm20, jm24, jm60, jm100, Int32.reduceToInt, jn1, jn2, jn3, jn4, jn5, jn6, jn7, jn8, jn9, jn10, jn11, jn12, jn13, jn14, jn15, jn16, jn17, jn18, jn19, jn20, jn21, jn22, jn23, jn24, jn100, jn2000000000, zS_pS, zS_pI, zS_pJ, zS_pR, zS_pF, zS_pG, zI_pI, zI_pS, zI_pJ, zI_pR, zI_pF, zI_pG, zN_pS, zN_pI, zN_pJ, Nat.reduceEqDiff, Nat.reduceAdd, Nat.reduceMul, ite_true, ite_false, and_true, true_and, and_false, false_and, true_or, or_true, false_or, or_false, not_true_eq_false, not_false_eq_true, reduceIte, reduceCtorEq, eq_self] at *) <;> (first | omega | ((try simp (disch := first | omega | (simp (disch := first | omega | (simp (disch := first | omega | (simp only [jd4, jd10, jd20, jd24, jd60, jd100, jm4, jm10, jm20, jm24, jm60, jm100, Int32.reduceToInt]; omega)) only [i32_add, i32_sub, i32_mul, jd4, jd10, jd20, jd24, jd60, jd100, jm4, jm10, jm20, jm24, jm60, jm100, Int32.reduceToInt]; omega)) only [i32_add, i32_sub, i32_mul, jd4, jd10, jd20, jd24, jd60, jd100, jm4, jm10, jm20, jm24, jm60, jm100, Int32.reduceToInt]; omega)) only [i32_add, i32_sub, i32_mul, jd4, jd10, jd20, jd24, jd60, jd100, jm4, jm10, jm20, jm24, jm60, jm100, Int32.reduceToInt] at *) <;> (first | omega | ((try simp (disch := first | omega | (simp (disch := first | omega | (simp (disch := first | omega | (simp only [jd4, jd10, jd20, jd24, jd60, jd100, jm4, jm10, jm20, jm24, jm60, jm100, Int32.reduceToInt]; omega)) only [i32_add, i32_sub, i32_mul, jd4, jd10, jd20, jd24, jd60, jd100, jm4, jm10, jm20, jm24, jm60, jm100, Int32.reduceToInt]; omega)) only [i32_add, i32_sub, i32_mul, jd4, jd10, jd20, jd24, jd60, jd100, jm4, jm10, jm20, jm24, jm60, jm100, Int32.reduceToInt]; omega)) only [i32_add, i32_sub, i32_mul, jd4, jd10, jd20, jd24, jd60, jd100, jm4, jm10, jm20, jm24, jm60, jm100, Int32.reduceToInt] at *) <;> (first | omega | ((simp only [jadd, jsub, jmul, jneg, Int32.reduceToInt] at *) <;> omega))))))))))
set_option maxRecDepth 4000 in
theorem w_X12_wayBores {b0 : SS} {s0 : SS} {a0 : Int32} {a1 : Int32} (K : Lk b0 s0) (g0 : 0 ≤ a0.toInt ∧ a0.toInt ≤ 119) (g1 : 0 ≤ (zS s0 59 87).toInt ∧ (zS s0 59 87).toInt + 2 ≤ 100000) : Ok (f_X12_wayBores s0 a0 a1) (fun r => Lk b0 r.2 ∧ (0 ≤ (zS r.2 59 87).toInt ∧ (zS r.2 59 87).toInt ≤ (zS s0 59 87).toInt + 2)) := by
  unfold f_X12_wayBores
  repeat' (first
    | with_reducible assumption
    | dsimp only
    | with_reducible refine Ok_some ?_
    | with_reducible refine Lk_g120 (by assumption) ?_ (fun _ _ _ _ _ => ?_)
    | with_reducible refine Lk_g3 (by assumption) ?_ (fun _ _ => ?_)
    | with_reducible refine Lk_g8 (by assumption) ?_ (fun _ _ => ?_)
    | with_reducible refine Lk_g60 (by assumption) ?_ (fun _ _ => ?_)
    | with_reducible refine Lk_g40 (by assumption) ?_ (fun _ _ => ?_)
    | with_reducible refine Lk_g6 (by assumption) ?_ (fun _ _ _ => ?_)
    | with_reducible refine Ok_gd ?_ (fun _ => ?_)
    | with_reducible refine Ok_vl ?_
    | with_reducible refine Ok_wl ?_
    | with_reducible refine Ok_st ?_
    | with_reducible refine Ok_jn ?_
    | with_reducible refine Ok_b1 ?_
    | with_reducible refine Ok_bd ?_
    | with_reducible refine Ok_onN ?_
    | with_reducible refine Ok_onS ?_
    | with_reducible refine Ok_ift (by decide) ?_
    | with_reducible refine Ok_iff (by decide) ?_
    | with_reducible refine Ok_if (fun _ => ?_) (fun _ => ?_)
    | with_reducible refine Lk_onM (b0 := b0) ?_ (by assumption) (fun _ _ _ => ?_)
    | with_reducible refine Lk_onV (b0 := b0) ?_ (by assumption) (fun _ _ _ _ => ?_)
    | with_reducible refine Lk_onH (b0 := b0) ?_ (by assumption) (fun _ => ?_) (fun _ _ _ _ _ _ => ?_)
    | with_reducible refine Lk_onC (b0 := b0) ?_ (by assumption) (fun _ => ?_) (fun _ _ _ _ => ?_)
    | with_reducible refine Lk_onT (b0 := b0) ?_ (by assumption) (fun _ => ?_) (fun _ _ _ _ => ?_)
    | with_reducible refine Ok.mono (w_X12_ran (b0 := b0) ?_ ?_) (fun _ ⟨_, _⟩ => ?_)
    | with_reducible refine Ok.mono (w_X12_plainBores (b0 := b0) ?_ ?_ ?_) (fun _ ⟨_, _⟩ => ?_)
    | with_reducible refine Lk.wI ?_ (by decide) (by decide) ?_
    | with_reducible refine Lk.wF ?_ (by decide) (by decide) (by decide) ?_
    | with_reducible refine Lk.wH ?_ (by assumption) ?_
    | with_reducible refine Lk.wV ?_ (by assumption) ?_
    | with_reducible refine Lk.wM ?_ (by assumption)
    | with_reducible refine Lk.wC ?_ (by assumption)
    | with_reducible refine Lk.w1 ?_ (by assumption)
    | with_reducible refine Lk.w2 ?_ (by assumption)
    | with_reducible refine Lk.w3 ?_ (by assumption)
    | with_reducible refine Lk.wc1 ?_ (by assumption)
    | with_reducible refine Lk.wJ ?_
    | with_reducible refine Lk.wG ?_
    | with_reducible refine Lk.wK ?_
    | with_reducible refine Lk.wFI ?_ (by decide) (by decide) ?_
    | with_reducible refine And.intro ?_ ?_)
  all_goals (try (first | with_reducible assumption | exact trivial | omega | ((try clear ih); (try clear hr); (try clear hq0); (try clear hq1); (try clear hrec); ((try simp only [inB, Rs, Pg, Px, Ps, Pr, Pl, jcl, Rg, cellOK, bF, bA, bH, bV, jlt, jeq, jd4, jd10, jd20, jd24, jd60, jd100, jm4, jm10, jm20, jm24, jm60, jm100, Int32.reduceToInt, jn1, jn2, jn3, jn4, jn5, jn6, jn7, jn8, jn9, jn10, jn11, jn12, jn13, jn14, jn15, jn16, jn17, jn18, jn19, jn20, jn21, jn22, jn23, jn24, jn100, jn2000000000, zS_pS, zS_pI, zS_pJ, zS_pR, zS_pF, zS_pG, zI_pI, zI_pS, zI_pJ, zI_pR, zI_pF, zI_pG, zN_pS, zN_pI, zN_pJ, Nat.reduceEqDiff, Nat.reduceAdd, Nat.reduceMul, ite_true, ite_false, and_true, true_and, and_false, false_and, true_or, or_true, false_or, or_false, not_true_eq_false, not_false_eq_true, reduceIte, reduceCtorEq, eq_self] at *) <;> (first | omega | ((try simp (disch := first | omega | (simp (disch := first | omega | (simp (disch := first | omega | (simp only [jd4, jd10, jd20, jd24, jd60, jd100, jm4, jm10, jm20, jm24, jm60, jm100, Int32.reduceToInt]; omega)) only [i32_add, i32_sub, i32_mul, jd4, jd10, jd20, jd24, jd60, jd100, jm4, jm10, jm20, jm24, jm60, jm100, Int32.reduceToInt]; omega)) only [i32_add, i32_sub, i32_mul, jd4, jd10, jd20, jd24, jd60, jd100, jm4, jm10, jm20, jm24, jm60, jm100, Int32.reduceToInt]; omega)) only [i32_add, i32_sub, i32_mul, jd4, jd10, jd20, jd24, jd60, jd100, jm4, jm10, jm20, jm24, jm60, jm100, Int32.reduceToInt] at *) <;> (first | omega | ((try simp (disch := first | omega | (simp (disch := first | omega | (simp (disch := first | omega | (simp only [jd4, jd10, jd20, jd24, jd60, jd100, jm4, jm10, jm20, jm24, jm60, jm100, Int32.reduceToInt]; omega)) only [i32_add, i32_sub, i32_mul, jd4, jd10, jd20, jd24, jd60, jd100, jm4, jm10, jm20, jm24, jm60, jm100, Int32.reduceToInt]; omega)) only [i32_add, i32_sub, i32_mul, jd4, jd10, jd20, jd24, jd60, jd100, jm4, jm10, jm20, jm24, jm60, jm100, Int32.reduceToInt]; omega)) only [i32_add, i32_sub, i32_mul, jd4, jd10, jd20, jd24, jd60, jd100, jm4, jm10, jm20, jm24, jm60, jm100, Int32.reduceToInt] at *) <;> (first | omega | ((simp only [jadd, jsub, jmul, jneg, Int32.reduceToInt] at *) <;> omega))))))))))
set_option maxRecDepth 4000 in
theorem w_X12_shaftBores {b0 : SS} {s0 : SS} {a0 : Int32} {a1 : Int32} (K : Lk b0 s0) (g0 : 0 ≤ a0.toInt ∧ a0.toInt ≤ 119) (g1 : 0 ≤ (zS s0 59 87).toInt ∧ (zS s0 59 87).toInt + 3 ≤ 100000) : Ok (f_X12_shaftBores s0 a0 a1) (fun r => Lk b0 r.2 ∧ (0 ≤ (zS r.2 59 87).toInt ∧ (zS r.2 59 87).toInt ≤ (zS s0 59 87).toInt + 3)) := by
  unfold f_X12_shaftBores
  repeat' (first
    | with_reducible assumption
    | dsimp only
    | with_reducible refine Ok_some ?_
    | with_reducible refine Lk_g120 (by assumption) ?_ (fun _ _ _ _ _ => ?_)
    | with_reducible refine Lk_g3 (by assumption) ?_ (fun _ _ => ?_)
    | with_reducible refine Lk_g8 (by assumption) ?_ (fun _ _ => ?_)
    | with_reducible refine Lk_g60 (by assumption) ?_ (fun _ _ => ?_)
    | with_reducible refine Lk_g40 (by assumption) ?_ (fun _ _ => ?_)
    | with_reducible refine Lk_g6 (by assumption) ?_ (fun _ _ _ => ?_)
    | with_reducible refine Ok_gd ?_ (fun _ => ?_)
    | with_reducible refine Ok_vl ?_
    | with_reducible refine Ok_wl ?_
    | with_reducible refine Ok_st ?_
    | with_reducible refine Ok_jn ?_
    | with_reducible refine Ok_b1 ?_
    | with_reducible refine Ok_bd ?_
    | with_reducible refine Ok_onN ?_
    | with_reducible refine Ok_onS ?_
    | with_reducible refine Ok_ift (by decide) ?_
    | with_reducible refine Ok_iff (by decide) ?_
    | with_reducible refine Ok_if (fun _ => ?_) (fun _ => ?_)
    | with_reducible refine Lk_onM (b0 := b0) ?_ (by assumption) (fun _ _ _ => ?_)
    | with_reducible refine Lk_onV (b0 := b0) ?_ (by assumption) (fun _ _ _ _ => ?_)
    | with_reducible refine Lk_onH (b0 := b0) ?_ (by assumption) (fun _ => ?_) (fun _ _ _ _ _ _ => ?_)
    | with_reducible refine Lk_onC (b0 := b0) ?_ (by assumption) (fun _ => ?_) (fun _ _ _ _ => ?_)
    | with_reducible refine Lk_onT (b0 := b0) ?_ (by assumption) (fun _ => ?_) (fun _ _ _ _ => ?_)
    | with_reducible refine Ok.mono (w_X12_ran (b0 := b0) ?_ ?_) (fun _ ⟨_, _⟩ => ?_)
    | with_reducible refine Ok.mono (w_X12_wayBores (b0 := b0) ?_ ?_ ?_) (fun _ ⟨_, _⟩ => ?_)
    | with_reducible refine Lk.wI ?_ (by decide) (by decide) ?_
    | with_reducible refine Lk.wF ?_ (by decide) (by decide) (by decide) ?_
    | with_reducible refine Lk.wH ?_ (by assumption) ?_
    | with_reducible refine Lk.wV ?_ (by assumption) ?_
    | with_reducible refine Lk.wM ?_ (by assumption)
    | with_reducible refine Lk.wC ?_ (by assumption)
    | with_reducible refine Lk.w1 ?_ (by assumption)
    | with_reducible refine Lk.w2 ?_ (by assumption)
    | with_reducible refine Lk.w3 ?_ (by assumption)
    | with_reducible refine Lk.wc1 ?_ (by assumption)
    | with_reducible refine Lk.wJ ?_
    | with_reducible refine Lk.wG ?_
    | with_reducible refine Lk.wK ?_
    | with_reducible refine Lk.wFI ?_ (by decide) (by decide) ?_
    | with_reducible refine And.intro ?_ ?_)
  all_goals (try (first | with_reducible assumption | exact trivial | omega | ((try clear ih); (try clear hr); (try clear hq0); (try clear hq1); (try clear hrec); ((try simp only [inB, Rs, Pg, Px, Ps, Pr, Pl, jcl, Rg, cellOK, bF, bA, bH, bV, jlt, jeq, jd4, jd10, jd20, jd24, jd60, jd100, jm4, jm10, jm20, jm24, jm60, jm100, Int32.reduceToInt, jn1, jn2, jn3, jn4, jn5, jn6, jn7, jn8, jn9, jn10, jn11, jn12, jn13, jn14, jn15, jn16, jn17, jn18, jn19, jn20, jn21, jn22, jn23, jn24, jn100, jn2000000000, zS_pS, zS_pI, zS_pJ, zS_pR, zS_pF, zS_pG, zI_pI, zI_pS, zI_pJ, zI_pR, zI_pF, zI_pG, zN_pS, zN_pI, zN_pJ, Nat.reduceEqDiff, Nat.reduceAdd, Nat.reduceMul, ite_true, ite_false, and_true, true_and, and_false, false_and, true_or, or_true, false_or, or_false, not_true_eq_false, not_false_eq_true, reduceIte, reduceCtorEq, eq_self] at *) <;> (first | omega | ((try simp (disch := first | omega | (simp (disch := first | omega | (simp (disch := first | omega | (simp only [jd4, jd10, jd20, jd24, jd60, jd100, jm4, jm10, jm20, jm24, jm60, jm100, Int32.reduceToInt]; omega)) only [i32_add, i32_sub, i32_mul, jd4, jd10, jd20, jd24, jd60, jd100, jm4, jm10, jm20, jm24, jm60, jm100, Int32.reduceToInt]; omega)) only [i32_add, i32_sub, i32_mul, jd4, jd10, jd20, jd24, jd60, jd100, jm4, jm10, jm20, jm24, jm60, jm100, Int32.reduceToInt]; omega)) only [i32_add, i32_sub, i32_mul, jd4, jd10, jd20, jd24, jd60, jd100, jm4, jm10, jm20, jm24, jm60, jm100, Int32.reduceToInt] at *) <;> (first | omega | ((try simp (disch := first | omega | (simp (disch := first | omega | (simp (disch := first | omega | (simp only [jd4, jd10, jd20, jd24, jd60, jd100, jm4, jm10, jm20, jm24, jm60, jm100, Int32.reduceToInt]; omega)) only [i32_add, i32_sub, i32_mul, jd4, jd10, jd20, jd24, jd60, jd100, jm4, jm10, jm20, jm24, jm60, jm100, Int32.reduceToInt]; omega)) only [i32_add, i32_sub, i32_mul, jd4, jd10, jd20, jd24, jd60, jd100, jm4, jm10, jm20, jm24, jm60, jm100, Int32.reduceToInt]; omega)) only [i32_add, i32_sub, i32_mul, jd4, jd10, jd20, jd24, jd60, jd100, jm4, jm10, jm20, jm24, jm60, jm100, Int32.reduceToInt] at *) <;> (first | omega | ((simp only [jadd, jsub, jmul, jneg, Int32.reduceToInt] at *) <;> omega))))))))))
set_option maxRecDepth 4000 in
theorem w_X12_bores {b0 : SS} {s0 : SS} {a0 : Int32} {a1 : Int32} (K : Lk b0 s0) (g0 : 0 ≤ a0.toInt ∧ a0.toInt ≤ 119) (g1 : 0 ≤ (zS s0 59 87).toInt ∧ (zS s0 59 87).toInt + 4 ≤ 100000) : Ok (f_X12_bores s0 a0 a1) (fun r => Lk b0 r.2 ∧ (0 ≤ (zS r.2 59 87).toInt ∧ (zS r.2 59 87).toInt ≤ (zS s0 59 87).toInt + 4)) := by
  unfold f_X12_bores
  repeat' (first
    | with_reducible assumption
    | dsimp only
    | with_reducible refine Ok_some ?_
    | with_reducible refine Lk_g120 (by assumption) ?_ (fun _ _ _ _ _ => ?_)
    | with_reducible refine Lk_g3 (by assumption) ?_ (fun _ _ => ?_)
    | with_reducible refine Lk_g8 (by assumption) ?_ (fun _ _ => ?_)
    | with_reducible refine Lk_g60 (by assumption) ?_ (fun _ _ => ?_)
    | with_reducible refine Lk_g40 (by assumption) ?_ (fun _ _ => ?_)
    | with_reducible refine Lk_g6 (by assumption) ?_ (fun _ _ _ => ?_)
    | with_reducible refine Ok_gd ?_ (fun _ => ?_)
    | with_reducible refine Ok_vl ?_
    | with_reducible refine Ok_wl ?_
    | with_reducible refine Ok_st ?_
    | with_reducible refine Ok_jn ?_
    | with_reducible refine Ok_b1 ?_
    | with_reducible refine Ok_bd ?_
    | with_reducible refine Ok_onN ?_
    | with_reducible refine Ok_onS ?_
    | with_reducible refine Ok_ift (by decide) ?_
    | with_reducible refine Ok_iff (by decide) ?_
    | with_reducible refine Ok_if (fun _ => ?_) (fun _ => ?_)
    | with_reducible refine Lk_onM (b0 := b0) ?_ (by assumption) (fun _ _ _ => ?_)
    | with_reducible refine Lk_onV (b0 := b0) ?_ (by assumption) (fun _ _ _ _ => ?_)
    | with_reducible refine Lk_onH (b0 := b0) ?_ (by assumption) (fun _ => ?_) (fun _ _ _ _ _ _ => ?_)
    | with_reducible refine Lk_onC (b0 := b0) ?_ (by assumption) (fun _ => ?_) (fun _ _ _ _ => ?_)
    | with_reducible refine Lk_onT (b0 := b0) ?_ (by assumption) (fun _ => ?_) (fun _ _ _ _ => ?_)
    | with_reducible refine Ok.mono (w_X12_ran (b0 := b0) ?_ ?_) (fun _ ⟨_, _⟩ => ?_)
    | with_reducible refine Ok.mono (w_X12_shaftBores (b0 := b0) ?_ ?_ ?_) (fun _ ⟨_, _⟩ => ?_)
    | with_reducible refine Ok.mono (w_X12_isUnder ) (fun _ _ => ?_)
    | with_reducible refine Ok.mono (w_X12_plainBores (b0 := b0) ?_ ?_ ?_) (fun _ ⟨_, _⟩ => ?_)
    | with_reducible refine Ok.mono (w_X12_wayBores (b0 := b0) ?_ ?_ ?_) (fun _ ⟨_, _⟩ => ?_)
    | with_reducible refine Lk.wI ?_ (by decide) (by decide) ?_
    | with_reducible refine Lk.wF ?_ (by decide) (by decide) (by decide) ?_
    | with_reducible refine Lk.wH ?_ (by assumption) ?_
    | with_reducible refine Lk.wV ?_ (by assumption) ?_
    | with_reducible refine Lk.wM ?_ (by assumption)
    | with_reducible refine Lk.wC ?_ (by assumption)
    | with_reducible refine Lk.w1 ?_ (by assumption)
    | with_reducible refine Lk.w2 ?_ (by assumption)
    | with_reducible refine Lk.w3 ?_ (by assumption)
    | with_reducible refine Lk.wc1 ?_ (by assumption)
    | with_reducible refine Lk.wJ ?_
    | with_reducible refine Lk.wG ?_
    | with_reducible refine Lk.wK ?_
    | with_reducible refine Lk.wFI ?_ (by decide) (by decide) ?_
    | with_reducible refine And.intro ?_ ?_)
  all_goals (try (first | with_reducible assumption | exact trivial | omega | ((try clear ih); (try clear hr); (try clear hq0); (try clear hq1); (try clear hrec); ((try simp only [inB, Rs, Pg, Px, Ps, Pr, Pl, jcl, Rg, cellOK, bF, bA, bH, bV, jlt, jeq, jd4, jd10, jd20, jd24, jd60, jd100, jm4, jm10, jm20, jm24, jm60, jm100, Int32.reduceToInt, jn1, jn2, jn3, jn4, jn5, jn6, jn7, jn8, jn9, jn10, jn11, jn12, jn13, jn14, jn15, jn16, jn17, jn18, jn19, jn20, jn21, jn22, jn23, jn24, jn100, jn2000000000, zS_pS, zS_pI, zS_pJ, zS_pR, zS_pF, zS_pG, zI_pI, zI_pS, zI_pJ, zI_pR, zI_pF, zI_pG, zN_pS, zN_pI, zN_pJ, Nat.reduceEqDiff, Nat.reduceAdd, Nat.reduceMul, ite_true, ite_false, and_true, true_and, and_false, false_and, true_or, or_true, false_or, or_false, not_true_eq_false, not_false_eq_true, reduceIte, reduceCtorEq, eq_self] at *) <;> (first | omega | ((try simp (disch := first | omega | (simp (disch := first | omega | (simp (disch := first | omega | (simp only [jd4, jd10, jd20, jd24, jd60, jd100, jm4, jm10, jm20, jm24, jm60, jm100, Int32.reduceToInt]; omega)) only [i32_add, i32_sub, i32_mul, jd4, jd10, jd20, jd24, jd60, jd100, jm4, jm10, jm20, jm24, jm60, jm100, Int32.reduceToInt]; omega)) only [i32_add, i32_sub, i32_mul, jd4, jd10, jd20, jd24, jd60, jd100, jm4, jm10, jm20, jm24, jm60, jm100, Int32.reduceToInt]; omega)) only [i32_add, i32_sub, i32_mul, jd4, jd10, jd20, jd24, jd60, jd100, jm4, jm10, jm20, jm24, jm60, jm100, Int32.reduceToInt] at *) <;> (first | omega | ((try simp (disch := first | omega | (simp (disch := first | omega | (simp (disch := first | omega | (simp only [jd4, jd10, jd20, jd24, jd60, jd100, jm4, jm10, jm20, jm24, jm60, jm100, Int32.reduceToInt]; omega)) only [i32_add, i32_sub, i32_mul, jd4, jd10, jd20, jd24, jd60, jd100, jm4, jm10, jm20, jm24, jm60, jm100, Int32.reduceToInt]; omega)) only [i32_add, i32_sub, i32_mul, jd4, jd10, jd20, jd24, jd60, jd100, jm4, jm10, jm20, jm24, jm60, jm100, Int32.reduceToInt]; omega)) only [i32_add, i32_sub, i32_mul, jd4, jd10, jd20, jd24, jd60, jd100, jm4, jm10, jm20, jm24, jm60, jm100, Int32.reduceToInt] at *) <;> (first | omega | ((simp only [jadd, jsub, jmul, jneg, Int32.reduceToInt] at *) <;> omega))))))))))
set_option maxRecDepth 4000 in
theorem w_X12_plainCarries {b0 : SS} {s0 : SS} {a0 : Int32} {a1 : Int32} (K : Lk b0 s0) (g0 : 0 ≤ a0.toInt ∧ a0.toInt ≤ 119) (g1 : 0 ≤ (zS s0 59 87).toInt ∧ (zS s0 59 87).toInt + 5 ≤ 100000) : Ok (f_X12_plainCarries s0 a0 a1) (fun r => Lk b0 r.2 ∧ (0 ≤ (zS r.2 59 87).toInt ∧ (zS r.2 59 87).toInt ≤ (zS s0 59 87).toInt + 5)) := by
  unfold f_X12_plainCarries
  repeat' (first
    | with_reducible assumption
    | dsimp only
    | with_reducible refine Ok_some ?_
    | with_reducible refine Lk_g120 (by assumption) ?_ (fun _ _ _ _ _ => ?_)
    | with_reducible refine Lk_g3 (by assumption) ?_ (fun _ _ => ?_)
    | with_reducible refine Lk_g8 (by assumption) ?_ (fun _ _ => ?_)
    | with_reducible refine Lk_g60 (by assumption) ?_ (fun _ _ => ?_)
    | with_reducible refine Lk_g40 (by assumption) ?_ (fun _ _ => ?_)
    | with_reducible refine Lk_g6 (by assumption) ?_ (fun _ _ _ => ?_)
    | with_reducible refine Ok_gd ?_ (fun _ => ?_)
    | with_reducible refine Ok_vl ?_
    | with_reducible refine Ok_wl ?_
    | with_reducible refine Ok_st ?_
    | with_reducible refine Ok_jn ?_
    | with_reducible refine Ok_b1 ?_
    | with_reducible refine Ok_bd ?_
    | with_reducible refine Ok_onN ?_
    | with_reducible refine Ok_onS ?_
    | with_reducible refine Ok_ift (by decide) ?_
    | with_reducible refine Ok_iff (by decide) ?_
    | with_reducible refine Ok_if (fun _ => ?_) (fun _ => ?_)
    | with_reducible refine Lk_onM (b0 := b0) ?_ (by assumption) (fun _ _ _ => ?_)
    | with_reducible refine Lk_onV (b0 := b0) ?_ (by assumption) (fun _ _ _ _ => ?_)
    | with_reducible refine Lk_onH (b0 := b0) ?_ (by assumption) (fun _ => ?_) (fun _ _ _ _ _ _ => ?_)
    | with_reducible refine Lk_onC (b0 := b0) ?_ (by assumption) (fun _ => ?_) (fun _ _ _ _ => ?_)
    | with_reducible refine Lk_onT (b0 := b0) ?_ (by assumption) (fun _ => ?_) (fun _ _ _ _ => ?_)
    | with_reducible refine Ok.mono (w_X12_ran (b0 := b0) ?_ ?_) (fun _ ⟨_, _⟩ => ?_)
    | with_reducible refine Ok.mono (w_X12_bores (b0 := b0) ?_ ?_ ?_) (fun _ ⟨_, _⟩ => ?_)
    | with_reducible refine Lk.wI ?_ (by decide) (by decide) ?_
    | with_reducible refine Lk.wF ?_ (by decide) (by decide) (by decide) ?_
    | with_reducible refine Lk.wH ?_ (by assumption) ?_
    | with_reducible refine Lk.wV ?_ (by assumption) ?_
    | with_reducible refine Lk.wM ?_ (by assumption)
    | with_reducible refine Lk.wC ?_ (by assumption)
    | with_reducible refine Lk.w1 ?_ (by assumption)
    | with_reducible refine Lk.w2 ?_ (by assumption)
    | with_reducible refine Lk.w3 ?_ (by assumption)
    | with_reducible refine Lk.wc1 ?_ (by assumption)
    | with_reducible refine Lk.wJ ?_
    | with_reducible refine Lk.wG ?_
    | with_reducible refine Lk.wK ?_
    | with_reducible refine Lk.wFI ?_ (by decide) (by decide) ?_
    | with_reducible refine And.intro ?_ ?_)
  all_goals (try (first | with_reducible assumption | exact trivial | omega | ((try clear ih); (try clear hr); (try clear hq0); (try clear hq1); (try clear hrec); ((try simp only [inB, Rs, Pg, Px, Ps, Pr, Pl, jcl, Rg, cellOK, bF, bA, bH, bV, jlt, jeq, jd4, jd10, jd20, jd24, jd60, jd100, jm4, jm10, jm20, jm24, jm60, jm100, Int32.reduceToInt, jn1, jn2, jn3, jn4, jn5, jn6, jn7, jn8, jn9, jn10, jn11, jn12, jn13, jn14, jn15, jn16, jn17, jn18, jn19, jn20, jn21, jn22, jn23, jn24, jn100, jn2000000000, zS_pS, zS_pI, zS_pJ, zS_pR, zS_pF, zS_pG, zI_pI, zI_pS, zI_pJ, zI_pR, zI_pF, zI_pG, zN_pS, zN_pI, zN_pJ, Nat.reduceEqDiff, Nat.reduceAdd, Nat.reduceMul, ite_true, ite_false, and_true, true_and, and_false, false_and, true_or, or_true, false_or, or_false, not_true_eq_false, not_false_eq_true, reduceIte, reduceCtorEq, eq_self] at *) <;> (first | omega | ((try simp (disch := first | omega | (simp (disch := first | omega | (simp (disch := first | omega | (simp only [jd4, jd10, jd20, jd24, jd60, jd100, jm4, jm10, jm20, jm24, jm60, jm100, Int32.reduceToInt]; omega)) only [i32_add, i32_sub, i32_mul, jd4, jd10, jd20, jd24, jd60, jd100, jm4, jm10, jm20, jm24, jm60, jm100, Int32.reduceToInt]; omega)) only [i32_add, i32_sub, i32_mul, jd4, jd10, jd20, jd24, jd60, jd100, jm4, jm10, jm20, jm24, jm60, jm100, Int32.reduceToInt]; omega)) only [i32_add, i32_sub, i32_mul, jd4, jd10, jd20, jd24, jd60, jd100, jm4, jm10, jm20, jm24, jm60, jm100, Int32.reduceToInt] at *) <;> (first | omega | ((try simp (disch := first | omega | (simp (disch := first | omega | (simp (disch := first | omega | (simp only [jd4, jd10, jd20, jd24, jd60, jd100, jm4, jm10, jm20, jm24, jm60, jm100, Int32.reduceToInt]; omega)) only [i32_add, i32_sub, i32_mul, jd4, jd10, jd20, jd24, jd60, jd100, jm4, jm10, jm20, jm24, jm60, jm100, Int32.reduceToInt]; omega)) only [i32_add, i32_sub, i32_mul, jd4, jd10, jd20, jd24, jd60, jd100, jm4, jm10, jm20, jm24, jm60, jm100, Int32.reduceToInt]; omega)) only [i32_add, i32_sub, i32_mul, jd4, jd10, jd20, jd24, jd60, jd100, jm4, jm10, jm20, jm24, jm60, jm100, Int32.reduceToInt] at *) <;> (first | omega | ((simp only [jadd, jsub, jmul, jneg, Int32.reduceToInt] at *) <;> omega))))))))))
set_option maxRecDepth 4000 in
theorem w_X12_carries {b0 : SS} {s0 : SS} {a0 : Int32} {a1 : Int32} (K : Lk b0 s0) (g0 : 0 ≤ a0.toInt ∧ a0.toInt ≤ 119) (g1 : 0 ≤ (zS s0 59 87).toInt ∧ (zS s0 59 87).toInt + 6 ≤ 100000) : Ok (f_X12_carries s0 a0 a1) (fun r => Lk b0 r.2 ∧ (0 ≤ (zS r.2 59 87).toInt ∧ (zS r.2 59 87).toInt ≤ (zS s0 59 87).toInt + 6)) := by
  unfold f_X12_carries
  repeat' (first
    | with_reducible assumption
    | dsimp only
    | with_reducible refine Ok_some ?_
    | with_reducible refine Lk_g120 (by assumption) ?_ (fun _ _ _ _ _ => ?_)
    | with_reducible refine Lk_g3 (by assumption) ?_ (fun _ _ => ?_)
    | with_reducible refine Lk_g8 (by assumption) ?_ (fun _ _ => ?_)
    | with_reducible refine Lk_g60 (by assumption) ?_ (fun _ _ => ?_)
    | with_reducible refine Lk_g40 (by assumption) ?_ (fun _ _ => ?_)
    | with_reducible refine Lk_g6 (by assumption) ?_ (fun _ _ _ => ?_)
    | with_reducible refine Ok_gd ?_ (fun _ => ?_)
    | with_reducible refine Ok_vl ?_
    | with_reducible refine Ok_wl ?_
    | with_reducible refine Ok_st ?_
    | with_reducible refine Ok_jn ?_
    | with_reducible refine Ok_b1 ?_
    | with_reducible refine Ok_bd ?_
    | with_reducible refine Ok_onN ?_
    | with_reducible refine Ok_onS ?_
    | with_reducible refine Ok_ift (by decide) ?_
    | with_reducible refine Ok_iff (by decide) ?_
    | with_reducible refine Ok_if (fun _ => ?_) (fun _ => ?_)
    | with_reducible refine Lk_onM (b0 := b0) ?_ (by assumption) (fun _ _ _ => ?_)
    | with_reducible refine Lk_onV (b0 := b0) ?_ (by assumption) (fun _ _ _ _ => ?_)
    | with_reducible refine Lk_onH (b0 := b0) ?_ (by assumption) (fun _ => ?_) (fun _ _ _ _ _ _ => ?_)
    | with_reducible refine Lk_onC (b0 := b0) ?_ (by assumption) (fun _ => ?_) (fun _ _ _ _ => ?_)
    | with_reducible refine Lk_onT (b0 := b0) ?_ (by assumption) (fun _ => ?_) (fun _ _ _ _ => ?_)
    | with_reducible refine Ok.mono (w_X12_isUnder ) (fun _ _ => ?_)
    | with_reducible refine Ok.mono (w_X12_ran (b0 := b0) ?_ ?_) (fun _ ⟨_, _⟩ => ?_)
    | with_reducible refine Ok.mono (w_X12_plainCarries (b0 := b0) ?_ ?_ ?_) (fun _ ⟨_, _⟩ => ?_)
    | with_reducible refine Lk.wI ?_ (by decide) (by decide) ?_
    | with_reducible refine Lk.wF ?_ (by decide) (by decide) (by decide) ?_
    | with_reducible refine Lk.wH ?_ (by assumption) ?_
    | with_reducible refine Lk.wV ?_ (by assumption) ?_
    | with_reducible refine Lk.wM ?_ (by assumption)
    | with_reducible refine Lk.wC ?_ (by assumption)
    | with_reducible refine Lk.w1 ?_ (by assumption)
    | with_reducible refine Lk.w2 ?_ (by assumption)
    | with_reducible refine Lk.w3 ?_ (by assumption)
    | with_reducible refine Lk.wc1 ?_ (by assumption)
    | with_reducible refine Lk.wJ ?_
    | with_reducible refine Lk.wG ?_
    | with_reducible refine Lk.wK ?_
    | with_reducible refine Lk.wFI ?_ (by decide) (by decide) ?_
    | with_reducible refine And.intro ?_ ?_)
  all_goals (try (first | with_reducible assumption | exact trivial | omega | ((try clear ih); (try clear hr); (try clear hq0); (try clear hq1); (try clear hrec); ((try simp only [inB, Rs, Pg, Px, Ps, Pr, Pl, jcl, Rg, cellOK, bF, bA, bH, bV, jlt, jeq, jd4, jd10, jd20, jd24, jd60, jd100, jm4, jm10, jm20, jm24, jm60, jm100, Int32.reduceToInt, jn1, jn2, jn3, jn4, jn5, jn6, jn7, jn8, jn9, jn10, jn11, jn12, jn13, jn14, jn15, jn16, jn17, jn18, jn19, jn20, jn21, jn22, jn23, jn24, jn100, jn2000000000, zS_pS, zS_pI, zS_pJ, zS_pR, zS_pF, zS_pG, zI_pI, zI_pS, zI_pJ, zI_pR, zI_pF, zI_pG, zN_pS, zN_pI, zN_pJ, Nat.reduceEqDiff, Nat.reduceAdd, Nat.reduceMul, ite_true, ite_false, and_true, true_and, and_false, false_and, true_or, or_true, false_or, or_false, not_true_eq_false, not_false_eq_true, reduceIte, reduceCtorEq, eq_self] at *) <;> (first | omega | ((try simp (disch := first | omega | (simp (disch := first | omega | (simp (disch := first | omega | (simp only [jd4, jd10, jd20, jd24, jd60, jd100, jm4, jm10, jm20, jm24, jm60, jm100, Int32.reduceToInt]; omega)) only [i32_add, i32_sub, i32_mul, jd4, jd10, jd20, jd24, jd60, jd100, jm4, jm10, jm20, jm24, jm60, jm100, Int32.reduceToInt]; omega)) only [i32_add, i32_sub, i32_mul, jd4, jd10, jd20, jd24, jd60, jd100, jm4, jm10, jm20, jm24, jm60, jm100, Int32.reduceToInt]; omega)) only [i32_add, i32_sub, i32_mul, jd4, jd10, jd20, jd24, jd60, jd100, jm4, jm10, jm20, jm24, jm60, jm100, Int32.reduceToInt] at *) <;> (first | omega | ((try simp (disch := first | omega | (simp (disch := first | omega | (simp (disch := first | omega | (simp only [jd4, jd10, jd20, jd24, jd60, jd100, jm4, jm10, jm20, jm24, jm60, jm100, Int32.reduceToInt]; omega)) only [i32_add, i32_sub, i32_mul, jd4, jd10, jd20, jd24, jd60, jd100, jm4, jm10, jm20, jm24, jm60, jm100, Int32.reduceToInt]; omega)) only [i32_add, i32_sub, i32_mul, jd4, jd10, jd20, jd24, jd60, jd100, jm4, jm10, jm20, jm24, jm60, jm100, Int32.reduceToInt]; omega)) only [i32_add, i32_sub, i32_mul, jd4, jd10, jd20, jd24, jd60, jd100, jm4, jm10, jm20, jm24, jm60, jm100, Int32.reduceToInt] at *) <;> (first | omega | ((simp only [jadd, jsub, jmul, jneg, Int32.reduceToInt] at *) <;> omega))))))))))
set_option maxRecDepth 4000 in
theorem w_X12_plainHolds {b0 : SS} {s0 : SS} {a0 : Int32} {a1 : Int32} (K : Lk b0 s0) (g0 : 0 ≤ a0.toInt ∧ a0.toInt ≤ 119) (g1 : 0 ≤ (zS s0 59 87).toInt ∧ (zS s0 59 87).toInt + 1 ≤ 100000) : Ok (f_X12_plainHolds s0 a0 a1) (fun r => Lk b0 r.2 ∧ (0 ≤ (zS r.2 59 87).toInt ∧ (zS r.2 59 87).toInt ≤ (zS s0 59 87).toInt + 1)) := by
  unfold f_X12_plainHolds
  repeat' (first
    | with_reducible assumption
    | dsimp only
    | with_reducible refine Ok_some ?_
    | with_reducible refine Lk_g120 (by assumption) ?_ (fun _ _ _ _ _ => ?_)
    | with_reducible refine Lk_g3 (by assumption) ?_ (fun _ _ => ?_)
    | with_reducible refine Lk_g8 (by assumption) ?_ (fun _ _ => ?_)
    | with_reducible refine Lk_g60 (by assumption) ?_ (fun _ _ => ?_)
    | with_reducible refine Lk_g40 (by assumption) ?_ (fun _ _ => ?_)
    | with_reducible refine Lk_g6 (by assumption) ?_ (fun _ _ _ => ?_)
    | with_reducible refine Ok_gd ?_ (fun _ => ?_)
    | with_reducible refine Ok_vl ?_
    | with_reducible refine Ok_wl ?_
    | with_reducible refine Ok_st ?_
    | with_reducible refine Ok_jn ?_
    | with_reducible refine Ok_b1 ?_
    | with_reducible refine Ok_bd ?_
    | with_reducible refine Ok_onN ?_
    | with_reducible refine Ok_onS ?_
    | with_reducible refine Ok_ift (by decide) ?_
    | with_reducible refine Ok_iff (by decide) ?_
    | with_reducible refine Ok_if (fun _ => ?_) (fun _ => ?_)
    | with_reducible refine Lk_onM (b0 := b0) ?_ (by assumption) (fun _ _ _ => ?_)
    | with_reducible refine Lk_onV (b0 := b0) ?_ (by assumption) (fun _ _ _ _ => ?_)
    | with_reducible refine Lk_onH (b0 := b0) ?_ (by assumption) (fun _ => ?_) (fun _ _ _ _ _ _ => ?_)
    | with_reducible refine Lk_onC (b0 := b0) ?_ (by assumption) (fun _ => ?_) (fun _ _ _ _ => ?_)
    | with_reducible refine Lk_onT (b0 := b0) ?_ (by assumption) (fun _ => ?_) (fun _ _ _ _ => ?_)
    | with_reducible refine Ok.mono (w_X12_ran (b0 := b0) ?_ ?_) (fun _ ⟨_, _⟩ => ?_)
    | with_reducible refine Lk.wI ?_ (by decide) (by decide) ?_
    | with_reducible refine Lk.wF ?_ (by decide) (by decide) (by decide) ?_
    | with_reducible refine Lk.wH ?_ (by assumption) ?_
    | with_reducible refine Lk.wV ?_ (by assumption) ?_
    | with_reducible refine Lk.wM ?_ (by assumption)
    | with_reducible refine Lk.wC ?_ (by assumption)
    | with_reducible refine Lk.w1 ?_ (by assumption)
    | with_reducible refine Lk.w2 ?_ (by assumption)
    | with_reducible refine Lk.w3 ?_ (by assumption)
    | with_reducible refine Lk.wc1 ?_ (by assumption)
    | with_reducible refine Lk.wJ ?_
    | with_reducible refine Lk.wG ?_
    | with_reducible refine Lk.wK ?_
    | with_reducible refine Lk.wFI ?_ (by decide) (by decide) ?_
    | with_reducible refine And.intro ?_ ?_)
  all_goals (try (first | with_reducible assumption | exact trivial | omega | ((try clear ih); (try clear hr); (try clear hq0); (try clear hq1); (try clear hrec); ((try simp only [inB, Rs, Pg, Px, Ps, Pr, Pl, jcl, Rg, cellOK, bF, bA, bH, bV, jlt, jeq, jd4, jd10, jd20, jd24, jd60, jd100, jm4, jm10, jm20, jm24, jm60, jm100, Int32.reduceToInt, jn1, jn2, jn3, jn4, jn5, jn6, jn7, jn8, jn9, jn10, jn11, jn12, jn13, jn14, jn15, jn16, jn17, jn18, jn19, jn20, jn21, jn22, jn23, jn24, jn100, jn2000000000, zS_pS, zS_pI, zS_pJ, zS_pR, zS_pF, zS_pG, zI_pI, zI_pS, zI_pJ, zI_pR, zI_pF, zI_pG, zN_pS, zN_pI, zN_pJ, Nat.reduceEqDiff, Nat.reduceAdd, Nat.reduceMul, ite_true, ite_false, and_true, true_and, and_false, false_and, true_or, or_true, false_or, or_false, not_true_eq_false, not_false_eq_true, reduceIte, reduceCtorEq, eq_self] at *) <;> (first | omega | ((try simp (disch := first | omega | (simp (disch := first | omega | (simp (disch := first | omega | (simp only [jd4, jd10, jd20, jd24, jd60, jd100, jm4, jm10, jm20, jm24, jm60, jm100, Int32.reduceToInt]; omega)) only [i32_add, i32_sub, i32_mul, jd4, jd10, jd20, jd24, jd60, jd100, jm4, jm10, jm20, jm24, jm60, jm100, Int32.reduceToInt]; omega)) only [i32_add, i32_sub, i32_mul, jd4, jd10, jd20, jd24, jd60, jd100, jm4, jm10, jm20, jm24, jm60, jm100, Int32.reduceToInt]; omega)) only [i32_add, i32_sub, i32_mul, jd4, jd10, jd20, jd24, jd60, jd100, jm4, jm10, jm20, jm24, jm60, jm100, Int32.reduceToInt] at *) <;> (first | omega | ((try simp (disch := first | omega | (simp (disch := first | omega | (simp (disch := first | omega | (simp only [jd4, jd10, jd20, jd24, jd60, jd100, jm4, jm10, jm20, jm24, jm60, jm100, Int32.reduceToInt]; omega)) only [i32_add, i32_sub, i32_mul, jd4, jd10, jd20, jd24, jd60, jd100, jm4, jm10, jm20, jm24, jm60, jm100, Int32.reduceToInt]; omega)) only [i32_add, i32_sub, i32_mul, jd4, jd10, jd20, jd24, jd60, jd100, jm4, jm10, jm20, jm24, jm60, jm100, Int32.reduceToInt]; omega)) only [i32_add, i32_sub, i32_mul, jd4, jd10, jd20, jd24, jd60, jd100, jm4, jm10, jm20, jm24, jm60, jm100, Int32.reduceToInt] at *) <;> (first | omega | ((simp only [jadd, jsub, jmul, jneg, Int32.reduceToInt] at *) <;> omega))))))))))
set_option maxRecDepth 4000 in
theorem w_X12_holdsBy {b0 : SS} {s0 : SS} {a0 : Int32} {a1 : Int32} (K : Lk b0 s0) (g0 : 0 ≤ a0.toInt ∧ a0.toInt ≤ 119) (g1 : 0 ≤ (zS s0 59 87).toInt ∧ (zS s0 59 87).toInt + 8 ≤ 100000) : Ok (f_X12_holdsBy s0 a0 a1) (fun r => Lk b0 r.2 ∧ (0 ≤ (zS r.2 59 87).toInt ∧ (zS r.2 59 87).toInt ≤ (zS s0 59 87).toInt + 8)) := by
  unfold f_X12_holdsBy
  repeat' (first
    | with_reducible assumption
    | dsimp only
    | with_reducible refine Ok_some ?_
    | with_reducible refine Lk_g120 (by assumption) ?_ (fun _ _ _ _ _ => ?_)
    | with_reducible refine Lk_g3 (by assumption) ?_ (fun _ _ => ?_)
    | with_reducible refine Lk_g8 (by assumption) ?_ (fun _ _ => ?_)
    | with_reducible refine Lk_g60 (by assumption) ?_ (fun _ _ => ?_)
    | with_reducible refine Lk_g40 (by assumption) ?_ (fun _ _ => ?_)
    | with_reducible refine Lk_g6 (by assumption) ?_ (fun _ _ _ => ?_)
    | with_reducible refine Ok_gd ?_ (fun _ => ?_)
    | with_reducible refine Ok_vl ?_
    | with_reducible refine Ok_wl ?_
    | with_reducible refine Ok_st ?_
    | with_reducible refine Ok_jn ?_
    | with_reducible refine Ok_b1 ?_
    | with_reducible refine Ok_bd ?_
    | with_reducible refine Ok_onN ?_
    | with_reducible refine Ok_onS ?_
    | with_reducible refine Ok_ift (by decide) ?_
    | with_reducible refine Ok_iff (by decide) ?_
    | with_reducible refine Ok_if (fun _ => ?_) (fun _ => ?_)
    | with_reducible refine Lk_onM (b0 := b0) ?_ (by assumption) (fun _ _ _ => ?_)
    | with_reducible refine Lk_onV (b0 := b0) ?_ (by assumption) (fun _ _ _ _ => ?_)
    | with_reducible refine Lk_onH (b0 := b0) ?_ (by assumption) (fun _ => ?_) (fun _ _ _ _ _ _ => ?_)
    | with_reducible refine Lk_onC (b0 := b0) ?_ (by assumption) (fun _ => ?_) (fun _ _ _ _ => ?_)
    | with_reducible refine Lk_onT (b0 := b0) ?_ (by assumption) (fun _ => ?_) (fun _ _ _ _ => ?_)
    | with_reducible refine Ok.mono (w_X12_plainHolds (b0 := b0) ?_ ?_ ?_) (fun _ ⟨_, _⟩ => ?_)
    | with_reducible refine Ok.mono (w_X12_ran (b0 := b0) ?_ ?_) (fun _ ⟨_, _⟩ => ?_)
    | with_reducible refine Ok.mono (w_X12_carries (b0 := b0) ?_ ?_ ?_) (fun _ ⟨_, _⟩ => ?_)
    | with_reducible refine Ok.mono (w_X12_plainCarries (b0 := b0) ?_ ?_ ?_) (fun _ ⟨_, _⟩ => ?_)
    | with_reducible refine Lk.wI ?_ (by decide) (by decide) ?_
    | with_reducible refine Lk.wF ?_ (by decide) (by decide) (by decide) ?_
    | with_reducible refine Lk.wH ?_ (by assumption) ?_
    | with_reducible refine Lk.wV ?_ (by assumption) ?_
    | with_reducible refine Lk.wM ?_ (by assumption)
    | with_reducible refine Lk.wC ?_ (by assumption)
    | with_reducible refine Lk.w1 ?_ (by assumption)
    | with_reducible refine Lk.w2 ?_ (by assumption)
    | with_reducible refine Lk.w3 ?_ (by assumption)
    | with_reducible refine Lk.wc1 ?_ (by assumption)
    | with_reducible refine Lk.wJ ?_
    | with_reducible refine Lk.wG ?_
    | with_reducible refine Lk.wK ?_
    | with_reducible refine Lk.wFI ?_ (by decide) (by decide) ?_
    | with_reducible refine And.intro ?_ ?_)
  all_goals (try (first | with_reducible assumption | exact trivial | omega | ((try clear ih); (try clear hr); (try clear hq0); (try clear hq1); (try clear hrec); ((try simp only [inB, Rs, Pg, Px, Ps, Pr, Pl, jcl, Rg, cellOK, bF, bA, bH, bV, jlt, jeq, jd4, jd10, jd20, jd24, jd60, jd100, jm4, jm10, jm20, jm24, jm60, jm100, Int32.reduceToInt, jn1, jn2, jn3, jn4, jn5, jn6, jn7, jn8, jn9, jn10, jn11, jn12, jn13, jn14, jn15, jn16, jn17, jn18, jn19, jn20, jn21, jn22, jn23, jn24, jn100, jn2000000000, zS_pS, zS_pI, zS_pJ, zS_pR, zS_pF, zS_pG, zI_pI, zI_pS, zI_pJ, zI_pR, zI_pF, zI_pG, zN_pS, zN_pI, zN_pJ, Nat.reduceEqDiff, Nat.reduceAdd, Nat.reduceMul, ite_true, ite_false, and_true, true_and, and_false, false_and, true_or, or_true, false_or, or_false, not_true_eq_false, not_false_eq_true, reduceIte, reduceCtorEq, eq_self] at *) <;> (first | omega | ((try simp (disch := first | omega | (simp (disch := first | omega | (simp (disch := first | omega | (simp only [jd4, jd10, jd20, jd24, jd60, jd100, jm4, jm10, jm20, jm24, jm60, jm100, Int32.reduceToInt]; omega)) only [i32_add, i32_sub, i32_mul, jd4, jd10, jd20, jd24, jd60, jd100, jm4, jm10, jm20, jm24, jm60, jm100, Int32.reduceToInt]; omega)) only [i32_add, i32_sub, i32_mul, jd4, jd10, jd20, jd24, jd60, jd100, jm4, jm10, jm20, jm24, jm60, jm100, Int32.reduceToInt]; omega)) only [i32_add, i32_sub, i32_mul, jd4, jd10, jd20, jd24, jd60, jd100, jm4, jm10, jm20, jm24, jm60, jm100, Int32.reduceToInt] at *) <;> (first | omega | ((try simp (disch := first | omega | (simp (disch := first | omega | (simp (disch := first | omega | (simp only [jd4, jd10, jd20, jd24, jd60, jd100, jm4, jm10, jm20, jm24, jm60, jm100, Int32.reduceToInt]; omega)) only [i32_add, i32_sub, i32_mul, jd4, jd10, jd20, jd24, jd60, jd100, jm4, jm10, jm20, jm24, jm60, jm100, Int32.reduceToInt]; omega)) only [i32_add, i32_sub, i32_mul, jd4, jd10, jd20, jd24, jd60, jd100, jm4, jm10, jm20, jm24, jm60, jm100, Int32.reduceToInt]; omega)) only [i32_add, i32_sub, i32_mul, jd4, jd10, jd20, jd24, jd60, jd100, jm4, jm10, jm20, jm24, jm60, jm100, Int32.reduceToInt] at *) <;> (first | omega | ((simp only [jadd, jsub, jmul, jneg, Int32.reduceToInt] at *) <;> omega))))))))))
set_option maxRecDepth 4000 in
theorem w_X12_plainTells {b0 : SS} {s0 : SS} {a0 : Int32} {a1 : Int32} (K : Lk b0 s0) (g0 : 0 ≤ a0.toInt ∧ a0.toInt ≤ 119) (g1 : 0 ≤ (zS s0 59 87).toInt ∧ (zS s0 59 87).toInt + 15 ≤ 100000) : Ok (f_X12_plainTells s0 a0 a1) (fun r => Lk b0 r.2 ∧ (0 ≤ (zS r.2 59 87).toInt ∧ (zS r.2 59 87).toInt ≤ (zS s0 59 87).toInt + 15)) := by
  unfold f_X12_plainTells
  repeat' (first
    | with_reducible assumption
    | dsimp only
    | with_reducible refine Ok_some ?_
    | with_reducible refine Lk_g120 (by assumption) ?_ (fun _ _ _ _ _ => ?_)
    | with_reducible refine Lk_g3 (by assumption) ?_ (fun _ _ => ?_)
    | with_reducible refine Lk_g8 (by assumption) ?_ (fun _ _ => ?_)
    | with_reducible refine Lk_g60 (by assumption) ?_ (fun _ _ => ?_)
    | with_reducible refine Lk_g40 (by assumption) ?_ (fun _ _ => ?_)
    | with_reducible refine Lk_g6 (by assumption) ?_ (fun _ _ _ => ?_)
    | with_reducible refine Ok_gd ?_ (fun _ => ?_)
    | with_reducible refine Ok_vl ?_
    | with_reducible refine Ok_wl ?_
    | with_reducible refine Ok_st ?_
    | with_reducible refine Ok_jn ?_
    | with_reducible refine Ok_b1 ?_
    | with_reducible refine Ok_bd ?_
    | with_reducible refine Ok_onN ?_
    | with_reducible refine Ok_onS ?_
    | with_reducible refine Ok_ift (by decide) ?_
    | with_reducible refine Ok_iff (by decide) ?_
    | with_reducible refine Ok_if (fun _ => ?_) (fun _ => ?_)
    | with_reducible refine Lk_onM (b0 := b0) ?_ (by assumption) (fun _ _ _ => ?_)
    | with_reducible refine Lk_onV (b0 := b0) ?_ (by assumption) (fun _ _ _ _ => ?_)
    | with_reducible refine Lk_onH (b0 := b0) ?_ (by assumption) (fun _ => ?_) (fun _ _ _ _ _ _ => ?_)
    | with_reducible refine Lk_onC (b0 := b0) ?_ (by assumption) (fun _ => ?_) (fun _ _ _ _ => ?_)
    | with_reducible refine Lk_onT (b0 := b0) ?_ (by assumption) (fun _ => ?_) (fun _ _ _ _ => ?_)
    | with_reducible refine Ok.mono (w_X12_ran (b0 := b0) ?_ ?_) (fun _ ⟨_, _⟩ => ?_)
    | with_reducible refine Ok.mono (w_X12_carries (b0 := b0) ?_ ?_ ?_) (fun _ ⟨_, _⟩ => ?_)
    | with_reducible refine Ok.mono (w_X12_holdsBy (b0 := b0) ?_ ?_ ?_) (fun _ ⟨_, _⟩ => ?_)
    | with_reducible refine Lk.wI ?_ (by decide) (by decide) ?_
    | with_reducible refine Lk.wF ?_ (by decide) (by decide) (by decide) ?_
    | with_reducible refine Lk.wH ?_ (by assumption) ?_
    | with_reducible refine Lk.wV ?_ (by assumption) ?_
    | with_reducible refine Lk.wM ?_ (by assumption)
    | with_reducible refine Lk.wC ?_ (by assumption)
    | with_reducible refine Lk.w1 ?_ (by assumption)
    | with_reducible refine Lk.w2 ?_ (by assumption)
    | with_reducible refine Lk.w3 ?_ (by assumption)
    | with_reducible refine Lk.wc1 ?_ (by assumption)
    | with_reducible refine Lk.wJ ?_
    | with_reducible refine Lk.wG ?_
    | with_reducible refine Lk.wK ?_
    | with_reducible refine Lk.wFI ?_ (by decide) (by decide) ?_
    | with_reducible refine And.intro ?_ ?_)
  all_goals (try (first | with_reducible assumption | exact trivial | omega | ((try clear ih); (try clear hr); (try clear hq0); (try clear hq1); (try clear hrec); ((try simp only [inB, Rs, Pg, Px, Ps, Pr, Pl, jcl, Rg, cellOK, bF, bA, bH, bV, jlt, jeq, jd4, jd10, jd20, jd24, jd60, jd100, jm4, jm10, jm20, jm24, jm60, jm100, Int32.reduceToInt, jn1, jn2, jn3, jn4, jn5, jn6, jn7, jn8, jn9, jn10, jn11, jn12, jn13, jn14, jn15, jn16, jn17, jn18, jn19, jn20, jn21, jn22, jn23, jn24, jn100, jn2000000000, zS_pS, zS_pI, zS_pJ, zS_pR, zS_pF, zS_pG, zI_pI, zI_pS, zI_pJ, zI_pR, zI_pF, zI_pG, zN_pS, zN_pI, zN_pJ, Nat.reduceEqDiff, Nat.reduceAdd, Nat.reduceMul, ite_true, ite_false, and_true, true_and, and_false, false_and, true_or, or_true, false_or, or_false, not_true_eq_false, not_false_eq_true, reduceIte, reduceCtorEq, eq_self] at *) <;> (first | omega | ((try simp (disch := first | omega | (simp (disch := first | omega | (simp (disch := first | omega | (simp only [jd4, jd10, jd20, jd24, jd60, jd100, jm4, jm10, jm20, jm24, jm60, jm100, Int32.reduceToInt]; omega)) only [i32_add, i32_sub, i32_mul, jd4, jd10, jd20, jd24, jd60, jd100, jm4, jm10, jm20, jm24, jm60, jm100, Int32.reduceToInt]; omega)) only [i32_add, i32_sub, i32_mul, jd4, jd10, jd20, jd24, jd60, jd100, jm4, jm10, jm20, jm24, jm60, jm100, Int32.reduceToInt]; omega)) only [i32_add, i32_sub, i32_mul, jd4, jd10, jd20, jd24, jd60, jd100, jm4, jm10, jm20, jm24, jm60, jm100, Int32.reduceToInt] at *) <;> (first | omega | ((try simp (disch := first | omega | (simp (disch := first | omega | (simp (disch := first | omega | (simp only [jd4, jd10, jd20, jd24, jd60, jd100, jm4, jm10, jm20, jm24, jm60, jm100, Int32.reduceToInt]; omega)) only [i32_add, i32_sub, i32_mul, jd4, jd10, jd20, jd24, jd60, jd100, jm4, jm10, jm20, jm24, jm60, jm100, Int32.reduceToInt]; omega)) only [i32_add, i32_sub, i32_mul, jd4, jd10, jd20, jd24, jd60, jd100, jm4, jm10, jm20, jm24, jm60, jm100, Int32.reduceToInt]; omega)) only [i32_add, i32_sub, i32_mul, jd4, jd10, jd20, jd24, jd60, jd100, jm4, jm10, jm20, jm24, jm60, jm100, Int32.reduceToInt] at *) <;> (first | omega | ((simp only [jadd, jsub, jmul, jneg, Int32.reduceToInt] at *) <;> omega))))))))))
set_option maxRecDepth 4000 in
theorem w_X12_tells {b0 : SS} {s0 : SS} {a0 : Int32} {a1 : Int32} (K : Lk b0 s0) (g0 : 0 ≤ a0.toInt ∧ a0.toInt ≤ 119) (g1 : 0 ≤ (zS s0 59 87).toInt ∧ (zS s0 59 87).toInt + 16 ≤ 100000) : Ok (f_X12_tells s0 a0 a1) (fun r => Lk b0 r.2 ∧ (0 ≤ (zS r.2 59 87).toInt ∧ (zS r.2 59 87).toInt ≤ (zS s0 59 87).toInt + 16)) := by
  unfold f_X12_tells
  repeat' (first
    | with_reducible assumption
    | dsimp only
    | with_reducible refine Ok_some ?_
    | with_reducible refine Lk_g120 (by assumption) ?_ (fun _ _ _ _ _ => ?_)
    | with_reducible refine Lk_g3 (by assumption) ?_ (fun _ _ => ?_)
    | with_reducible refine Lk_g8 (by assumption) ?_ (fun _ _ => ?_)
    | with_reducible refine Lk_g60 (by assumption) ?_ (fun _ _ => ?_)
    | with_reducible refine Lk_g40 (by assumption) ?_ (fun _ _ => ?_)
    | with_reducible refine Lk_g6 (by assumption) ?_ (fun _ _ _ => ?_)
    | with_reducible refine Ok_gd ?_ (fun _ => ?_)
    | with_reducible refine Ok_vl ?_
    | with_reducible refine Ok_wl ?_
    | with_reducible refine Ok_st ?_
    | with_reducible refine Ok_jn ?_
    | with_reducible refine Ok_b1 ?_
    | with_reducible refine Ok_bd ?_
    | with_reducible refine Ok_onN ?_
    | with_reducible refine Ok_onS ?_
    | with_reducible refine Ok_ift (by decide) ?_
    | with_reducible refine Ok_iff (by decide) ?_
    | with_reducible refine Ok_if (fun _ => ?_) (fun _ => ?_)
    | with_reducible refine Lk_onM (b0 := b0) ?_ (by assumption) (fun _ _ _ => ?_)
    | with_reducible refine Lk_onV (b0 := b0) ?_ (by assumption) (fun _ _ _ _ => ?_)
    | with_reducible refine Lk_onH (b0 := b0) ?_ (by assumption) (fun _ => ?_) (fun _ _ _ _ _ _ => ?_)
    | with_reducible refine Lk_onC (b0 := b0) ?_ (by assumption) (fun _ => ?_) (fun _ _ _ _ => ?_)
    | with_reducible refine Lk_onT (b0 := b0) ?_ (by assumption) (fun _ => ?_) (fun _ _ _ _ => ?_)
    | with_reducible refine Ok.mono (w_X12_isUnder ) (fun _ _ => ?_)
    | with_reducible refine Ok.mono (w_X12_plainTells (b0 := b0) ?_ ?_ ?_) (fun _ ⟨_, _⟩ => ?_)
    | with_reducible refine Ok.mono (w_X12_ran (b0 := b0) ?_ ?_) (fun _ ⟨_, _⟩ => ?_)
    | with_reducible refine Lk.wI ?_ (by decide) (by decide) ?_
    | with_reducible refine Lk.wF ?_ (by decide) (by decide) (by decide) ?_
    | with_reducible refine Lk.wH ?_ (by assumption) ?_
    | with_reducible refine Lk.wV ?_ (by assumption) ?_
    | with_reducible refine Lk.wM ?_ (by assumption)
    | with_reducible refine Lk.wC ?_ (by assumption)
    | with_reducible refine Lk.w1 ?_ (by assumption)
    | with_reducible refine Lk.w2 ?_ (by assumption)
    | with_reducible refine Lk.w3 ?_ (by assumption)
    | with_reducible refine Lk.wc1 ?_ (by assumption)
    | with_reducible refine Lk.wJ ?_
    | with_reducible refine Lk.wG ?_
    | with_reducible refine Lk.wK ?_
    | with_reducible refine Lk.wFI ?_ (by decide) (by decide) ?_
    | with_reducible refine And.intro ?_ ?_)
  all_goals (try (first | with_reducible assumption | exact trivial | omega | ((try clear ih); (try clear hr); (try clear hq0); (try clear hq1); (try clear hrec); ((try simp only [inB, Rs, Pg, Px, Ps, Pr, Pl, jcl, Rg, cellOK, bF, bA, bH, bV, jlt, jeq, jd4, jd10, jd20, jd24, jd60, jd100, jm4, jm10, jm20, jm24, jm60, jm100, Int32.reduceToInt, jn1, jn2, jn3, jn4, jn5, jn6, jn7, jn8, jn9, jn10, jn11, jn12, jn13, jn14, jn15, jn16, jn17, jn18, jn19, jn20, jn21, jn22, jn23, jn24, jn100, jn2000000000, zS_pS, zS_pI, zS_pJ, zS_pR, zS_pF, zS_pG, zI_pI, zI_pS, zI_pJ, zI_pR, zI_pF, zI_pG, zN_pS, zN_pI, zN_pJ, Nat.reduceEqDiff, Nat.reduceAdd, Nat.reduceMul, ite_true, ite_false, and_true, true_and, and_false, false_and, true_or, or_true, false_or, or_false, not_true_eq_false, not_false_eq_true, reduceIte, reduceCtorEq, eq_self] at *) <;> (first | omega | ((try simp (disch := first | omega | (simp (disch := first | omega | (simp (disch := first | omega | (simp only [jd4, jd10, jd20, jd24, jd60, jd100, jm4, jm10, jm20, jm24, jm60, jm100, Int32.reduceToInt]; omega)) only [i32_add, i32_sub, i32_mul, jd4, jd10, jd20, jd24, jd60, jd100, jm4, jm10, jm20, jm24, jm60, jm100, Int32.reduceToInt]; omega)) only [i32_add, i32_sub, i32_mul, jd4, jd10, jd20, jd24, jd60, jd100, jm4, jm10, jm20, jm24, jm60, jm100, Int32.reduceToInt]; omega)) only [i32_add, i32_sub, i32_mul, jd4, jd10, jd20, jd24, jd60, jd100, jm4, jm10, jm20, jm24, jm60, jm100, Int32.reduceToInt] at *) <;> (first | omega | ((try simp (disch := first | omega | (simp (disch := first | omega | (simp (disch := first | omega | (simp only [jd4, jd10, jd20, jd24, jd60, jd100, jm4, jm10, jm20, jm24, jm60, jm100, Int32.reduceToInt]; omega)) only [i32_add, i32_sub, i32_mul, jd4, jd10, jd20, jd24, jd60, jd100, jm4, jm10, jm20, jm24, jm60, jm100, Int32.reduceToInt]; omega)) only [i32_add, i32_sub, i32_mul, jd4, jd10, jd20, jd24, jd60, jd100, jm4, jm10, jm20, jm24, jm60, jm100, Int32.reduceToInt]; omega)) only [i32_add, i32_sub, i32_mul, jd4, jd10, jd20, jd24, jd60, jd100, jm4, jm10, jm20, jm24, jm60, jm100, Int32.reduceToInt] at *) <;> (first | omega | ((simp only [jadd, jsub, jmul, jneg, Int32.reduceToInt] at *) <;> omega))))))))))
set_option maxRecDepth 4000 in
theorem w_X12_act {b0 : SS} {s0 : SS} {a0 : Int32} {a1 : Int32} {a2 : Int32} (K : Lk b0 s0) : Ok (f_X12_act s0 a0 a1 a2) (fun r => Lk b0 r.2) := by
  unfold f_X12_act
  have f0 := (K.f (q := 59) (k := 4) rfl)
  repeat' (first
    | with_reducible assumption
    | dsimp only
    | with_reducible refine Ok_some ?_
    | with_reducible refine Lk_g120 (by assumption) ?_ (fun _ _ _ _ _ => ?_)
    | with_reducible refine Lk_g3 (by assumption) ?_ (fun _ _ => ?_)
    | with_reducible refine Lk_g8 (by assumption) ?_ (fun _ _ => ?_)
    | with_reducible refine Lk_g60 (by assumption) ?_ (fun _ _ => ?_)
    | with_reducible refine Lk_g40 (by assumption) ?_ (fun _ _ => ?_)
    | with_reducible refine Lk_g6 (by assumption) ?_ (fun _ _ _ => ?_)
    | with_reducible refine Ok_gd ?_ (fun _ => ?_)
    | with_reducible refine Ok_vl ?_
    | with_reducible refine Ok_wl ?_
    | with_reducible refine Ok_st ?_
    | with_reducible refine Ok_jn ?_
    | with_reducible refine Ok_b1 ?_
    | with_reducible refine Ok_bd ?_
    | with_reducible refine Ok_onN ?_
    | with_reducible refine Ok_onS ?_
    | with_reducible refine Ok_ift (by decide) ?_
    | with_reducible refine Ok_iff (by decide) ?_
    | with_reducible refine Ok_if (fun _ => ?_) (fun _ => ?_)
    | with_reducible refine Lk_onM (b0 := b0) ?_ (by assumption) (fun _ _ _ => ?_)
    | with_reducible refine Lk_onV (b0 := b0) ?_ (by assumption) (fun _ _ _ _ => ?_)
    | with_reducible refine Lk_onH (b0 := b0) ?_ (by assumption) (fun _ => ?_) (fun _ _ _ _ _ _ => ?_)
    | with_reducible refine Lk_onC (b0 := b0) ?_ (by assumption) (fun _ => ?_) (fun _ _ _ _ => ?_)
    | with_reducible refine Lk_onT (b0 := b0) ?_ (by assumption) (fun _ => ?_) (fun _ _ _ _ => ?_)
    | with_reducible refine Ok.mono (w_X12_in ) (fun _ _ => ?_)
    | with_reducible refine Ok.mono (w_X12_bores (b0 := b0) ?_ ?_ ?_) (fun _ ⟨_, _⟩ => ?_)
    | with_reducible refine Ok.mono (w_X12_carries (b0 := b0) ?_ ?_ ?_) (fun _ ⟨_, _⟩ => ?_)
    | with_reducible refine Ok.mono (w_X12_holdsBy (b0 := b0) ?_ ?_ ?_) (fun _ ⟨_, _⟩ => ?_)
    | with_reducible refine Ok.mono (w_X12_tells (b0 := b0) ?_ ?_ ?_) (fun _ ⟨_, _⟩ => ?_)
    | with_reducible refine Lk.wI ?_ (by decide) (by decide) ?_
    | with_reducible refine Lk.wF ?_ (by decide) (by decide) (by decide) ?_
    | with_reducible refine Lk.wH ?_ (by assumption) ?_
    | with_reducible refine Lk.wV ?_ (by assumption) ?_
    | with_reducible refine Lk.wM ?_ (by assumption)
    | with_reducible refine Lk.wC ?_ (by assumption)
    | with_reducible refine Lk.w1 ?_ (by assumption)
    | with_reducible refine Lk.w2 ?_ (by assumption)
    | with_reducible refine Lk.w3 ?_ (by assumption)
    | with_reducible refine Lk.wc1 ?_ (by assumption)
    | with_reducible refine Lk.wJ ?_
    | with_reducible refine Lk.wG ?_
    | with_reducible refine Lk.wK ?_
    | with_reducible refine Lk.wFI ?_ (by decide) (by decide) ?_
    | with_reducible refine And.intro ?_ ?_
    | unfold f_X12_isBody)
  all_goals (try (first | with_reducible assumption | exact trivial | omega | ((try clear ih); (try clear hr); (try clear hq0); (try clear hq1); (try clear hrec); ((try simp only [inB, Rs, Pg, Px, Ps, Pr, Pl, jcl, Rg, cellOK, bF, bA, bH, bV, jlt, jeq, jd4, jd10, jd20, jd24, jd60, jd100, jm4, jm10, jm20, jm24, jm60, jm100, Int32.reduceToInt, jn1, jn2, jn3, jn4, jn5, jn6, jn7, jn8, jn9, jn10, jn11, jn12, jn13, jn14, jn15, jn16, jn17, jn18, jn19, jn20, jn21, jn22, jn23, jn24, jn100, jn2000000000, zS_pS, zS_pI, zS_pJ, zS_pR, zS_pF, zS_pG, zI_pI, zI_pS, zI_pJ, zI_pR, zI_pF, zI_pG, zN_pS, zN_pI, zN_pJ, Nat.reduceEqDiff, Nat.reduceAdd, Nat.reduceMul, ite_true, ite_false, and_true, true_and, and_false, false_and, true_or, or_true, false_or, or_false, not_true_eq_false, not_false_eq_true, reduceIte, reduceCtorEq, eq_self] at *) <;> (first | omega | ((try simp (disch := first | omega | (simp (disch := first | omega | (simp (disch := first | omega | (simp only [jd4, jd10, jd20, jd24, jd60, jd100, jm4, jm10, jm20, jm24, jm60, jm100, Int32.reduceToInt]; omega)) only [i32_add, i32_sub, i32_mul, jd4, jd10, jd20, jd24, jd60, jd100, jm4, jm10, jm20, jm24, jm60, jm100, Int32.reduceToInt]; omega)) only [i32_add, i32_sub, i32_mul, jd4, jd10, jd20, jd24, jd60, jd100, jm4, jm10, jm20, jm24, jm60, jm100, Int32.reduceToInt]; omega)) only [i32_add, i32_sub, i32_mul, jd4, jd10, jd20, jd24, jd60, jd100, jm4, jm10, jm20, jm24, jm60, jm100, Int32.reduceToInt] at *) <;> (first | omega | ((try simp (disch := first | omega | (simp (disch := first | omega | (simp (disch := first | omega | (simp only [jd4, jd10, jd20, jd24, jd60, jd100, jm4, jm10, jm20, jm24, jm60, jm100, Int32.reduceToInt]; omega)) only [i32_add, i32_sub, i32_mul, jd4, jd10, jd20, jd24, jd60, jd100, jm4, jm10, jm20, jm24, jm60, jm100, Int32.reduceToInt]; omega)) only [i32_add, i32_sub, i32_mul, jd4, jd10, jd20, jd24, jd60, jd100, jm4, jm10, jm20, jm24, jm60, jm100, Int32.reduceToInt]; omega)) only [i32_add, i32_sub, i32_mul, jd4, jd10, jd20, jd24, jd60, jd100, jm4, jm10, jm20, jm24, jm60, jm100, Int32.reduceToInt] at *) <;> (first | omega | ((simp only [jadd, jsub, jmul, jneg, Int32.reduceToInt] at *) <;> omega))))))))))
set_option maxRecDepth 4000 in
theorem w_X12_trace {b0 : SS} {s0 : SS} {a0 : Int32} (K : Lk b0 s0) : Ok (f_X12_trace s0 a0) (fun _ => True) := by
  unfold f_X12_trace
  repeat' (first
    | with_reducible assumption
    | dsimp only
    | with_reducible refine Ok_some ?_
    | with_reducible refine Lk_g120 (by assumption) ?_ (fun _ _ _ _ _ => ?_)
    | with_reducible refine Lk_g3 (by assumption) ?_ (fun _ _ => ?_)
    | with_reducible refine Lk_g8 (by assumption) ?_ (fun _ _ => ?_)
    | with_reducible refine Lk_g60 (by assumption) ?_ (fun _ _ => ?_)
    | with_reducible refine Lk_g40 (by assumption) ?_ (fun _ _ => ?_)
    | with_reducible refine Lk_g6 (by assumption) ?_ (fun _ _ _ => ?_)
    | with_reducible refine Ok_gd ?_ (fun _ => ?_)
    | with_reducible refine Ok_vl ?_
    | with_reducible refine Ok_wl ?_
    | with_reducible refine Ok_st ?_
    | with_reducible refine Ok_jn ?_
    | with_reducible refine Ok_b1 ?_
    | with_reducible refine Ok_bd ?_
    | with_reducible refine Ok_onN ?_
    | with_reducible refine Ok_onS ?_
    | with_reducible refine Ok_ift (by decide) ?_
    | with_reducible refine Ok_iff (by decide) ?_
    | with_reducible refine Ok_if (fun _ => ?_) (fun _ => ?_)
    | with_reducible refine Lk_onM (b0 := b0) ?_ (by assumption) (fun _ _ _ => ?_)
    | with_reducible refine Lk_onV (b0 := b0) ?_ (by assumption) (fun _ _ _ _ => ?_)
    | with_reducible refine Lk_onH (b0 := b0) ?_ (by assumption) (fun _ => ?_) (fun _ _ _ _ _ _ => ?_)
    | with_reducible refine Lk_onC (b0 := b0) ?_ (by assumption) (fun _ => ?_) (fun _ _ _ _ => ?_)
    | with_reducible refine Lk_onT (b0 := b0) ?_ (by assumption) (fun _ => ?_) (fun _ _ _ _ => ?_)
    | with_reducible refine Lk.wI ?_ (by decide) (by decide) ?_
    | with_reducible refine Lk.wF ?_ (by decide) (by decide) (by decide) ?_
    | with_reducible refine Lk.wH ?_ (by assumption) ?_
    | with_reducible refine Lk.wV ?_ (by assumption) ?_
    | with_reducible refine Lk.wM ?_ (by assumption)
    | with_reducible refine Lk.wC ?_ (by assumption)
    | with_reducible refine Lk.w1 ?_ (by assumption)
    | with_reducible refine Lk.w2 ?_ (by assumption)
    | with_reducible refine Lk.w3 ?_ (by assumption)
    | with_reducible refine Lk.wc1 ?_ (by assumption)
    | with_reducible refine Lk.wJ ?_
    | with_reducible refine Lk.wG ?_
    | with_reducible refine Lk.wK ?_
    | with_reducible refine Lk.wFI ?_ (by decide) (by decide) ?_
    | with_reducible refine And.intro ?_ ?_)
  all_goals (try (first | with_reducible assumption | exact trivial | omega | ((try clear ih); (try clear hr); (try clear hq0); (try clear hq1); (try clear hrec); ((try simp only [inB, Rs, Pg, Px, Ps, Pr, Pl, jcl, Rg, cellOK, bF, bA, bH, bV, jlt, jeq, jd4, jd10, jd20, jd24, jd60, jd100, jm4, jm10, jm20, jm24, jm60, jm100, Int32.reduceToInt, jn1, jn2, jn3, jn4, jn5, jn6, jn7, jn8, jn9, jn10, jn11, jn12, jn13, jn14, jn15, jn16, jn17, jn18, jn19, jn20, jn21, jn22, jn23, jn24, jn100, jn2000000000, zS_pS, zS_pI, zS_pJ, zS_pR, zS_pF, zS_pG, zI_pI, zI_pS, zI_pJ, zI_pR, zI_pF, zI_pG, zN_pS, zN_pI, zN_pJ, Nat.reduceEqDiff, Nat.reduceAdd, Nat.reduceMul, ite_true, ite_false, and_true, true_and, and_false, false_and, true_or, or_true, false_or, or_false, not_true_eq_false, not_false_eq_true, reduceIte, reduceCtorEq, eq_self] at *) <;> (first | omega | ((try simp (disch := first | omega | (simp (disch := first | omega | (simp (disch := first | omega | (simp only [jd4, jd10, jd20, jd24, jd60, jd100, jm4, jm10, jm20, jm24, jm60, jm100, Int32.reduceToInt]; omega)) only [i32_add, i32_sub, i32_mul, jd4, jd10, jd20, jd24, jd60, jd100, jm4, jm10, jm20, jm24, jm60, jm100, Int32.reduceToInt]; omega)) only [i32_add, i32_sub, i32_mul, jd4, jd10, jd20, jd24, jd60, jd100, jm4, jm10, jm20, jm24, jm60, jm100, Int32.reduceToInt]; omega)) only [i32_add, i32_sub, i32_mul, jd4, jd10, jd20, jd24, jd60, jd100, jm4, jm10, jm20, jm24, jm60, jm100, Int32.reduceToInt] at *) <;> (first | omega | ((try simp (disch := first | omega | (simp (disch := first | omega | (simp (disch := first | omega | (simp only [jd4, jd10, jd20, jd24, jd60, jd100, jm4, jm10, jm20, jm24, jm60, jm100, Int32.reduceToInt]; omega)) only [i32_add, i32_sub, i32_mul, jd4, jd10, jd20, jd24, jd60, jd100, jm4, jm10, jm20, jm24, jm60, jm100, Int32.reduceToInt]; omega)) only [i32_add, i32_sub, i32_mul, jd4, jd10, jd20, jd24, jd60, jd100, jm4, jm10, jm20, jm24, jm60, jm100, Int32.reduceToInt]; omega)) only [i32_add, i32_sub, i32_mul, jd4, jd10, jd20, jd24, jd60, jd100, jm4, jm10, jm20, jm24, jm60, jm100, Int32.reduceToInt] at *) <;> (first | omega | ((simp only [jadd, jsub, jmul, jneg, Int32.reduceToInt] at *) <;> omega))))))))))
