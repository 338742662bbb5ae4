set_option maxRecDepth 4000 in
theorem w_X0_kindOf {b0 : SS} {s0 : SS} {a0 : Int32} (K : Lk b0 s0) : Ok (f_X0_kindOf s0 a0) (fun r => (-1 ≤ r.toInt ∧ r.toInt ≤ 7) ∧ (r.toInt = -1 ∨ (0 ≤ a0.toInt ∧ a0.toInt < 120))) := by
  unfold f_X0_kindOf
  have f0 := (K.f (q := 15) (k := 3) rfl)
  repeat' (first
    | with_reducible assumption
    | dsimp only
    | with_reducible refine Ok_some ?_
    | with_reducible refine Lk_g120 (by assumption) ?_ (fun _ _ _ _ _ => ?_)
    | with_reducible refine Lk_g3 (by assumption) ?_ (fun _ _ => ?_)
    | with_reducible refine Lk_g8 (by assumption) ?_ (fun _ _ => ?_)
    | with_reducible refine Lk_g60 (by assumption) ?_ (fun _ _ => ?_)
    | with_reducible refine Lk_g40 (by assumption) ?_ (fun _ _ => ?_)
    | with_reducible refine Lk_g6 (by assumption) ?_ (fun _ _ _ => ?_)
    | with_reducible refine Ok_gd ?_ (fun _ => ?_)
    | with_reducible refine Ok_vl ?_
    | with_reducible refine Ok_wl ?_
    | with_reducible refine Ok_st ?_
    | with_reducible refine Ok_jn ?_
    | with_reducible refine Ok_b1 ?_
    | with_reducible refine Ok_bd ?_
    | with_reducible refine Ok_onN ?_
    | with_reducible refine Ok_onS ?_
    | with_reducible refine Ok_ift (by decide) ?_
    | with_reducible refine Ok_iff (by decide) ?_
    | with_reducible refine Ok_if (fun _ => ?_) (fun _ => ?_)
    | with_reducible refine Lk_onM (b0 := b0) ?_ (by assumption) (fun _ _ _ => ?_)
    | with_reducible refine Lk_onV (b0 := b0) ?_ (by assumption) (fun _ _ _ _ => ?_)
    | with_reducible refine Lk_onH (b0 := b0) ?_ (by assumption) (fun _ => ?_) (fun _ _ _ _ _ _ => ?_)
    | with_reducible refine Lk_onC (b0 := b0) ?_ (by assumption) (fun _ => ?_) (fun _ _ _ _ => ?_)
    | with_reducible refine Lk_onT (b0 := b0) ?_ (by assumption) (fun _ => ?_) (fun _ _ _ _ => ?_)
    | with_reducible refine Lk.wI ?_ (by decide) (by decide) ?_
    | with_reducible refine Lk.wF ?_ (by decide) (by decide) (by decide) ?_
    | with_reducible refine Lk.wH ?_ (by assumption) ?_
    | with_reducible refine Lk.wV ?_ (by assumption) ?_
    | with_reducible refine Lk.wM ?_ (by assumption)
    | with_reducible refine Lk.wC ?_ (by assumption)
    | with_reducible refine Lk.w1 ?_ (by assumption)
    | with_reducible refine Lk.w2 ?_ (by assumption)
    | with_reducible refine Lk.w3 ?_ (by assumption)
    | with_reducible refine Lk.wc1 ?_ (by assumption)
    | with_reducible refine Lk.wJ ?_
    | with_reducible refine Lk.wG ?_
    | with_reducible refine Lk.wK ?_
    | with_reducible refine Lk.wFI ?_ (by decide) (by decide) ?_
    | with_reducible refine And.intro ?_ ?_)
  all_goals (try (first | with_reducible assumption | exact trivial | omega | ((try clear ih); (try clear hr); (try clear hq0); (try clear hq1); (try clear hrec); ((try simp only [inB, Rs, Pg, Px, Ps, Pr, Pl, jcl, Rg, cellOK, bF, bA, bH, bV, jlt, jeq, jd4, jd10, jd20, jd24, jd60, jd100, jm4, jm10, jm20, jm24, jm60, jm100, Int32.reduceToInt, jn1, jn2, jn3, jn4, jn5, jn6, jn7, jn8, jn9, jn10, jn11, jn12, jn13, jn14, jn15, jn16, jn17, jn18, jn19, jn20, jn21, jn22, jn23, jn24, jn100, jn2000000000, zS_pS, zS_pI, zS_pJ, zS_pR, zS_pF, zS_pG, zI_pI, zI_pS, zI_pJ, zI_pR, zI_pF, zI_pG, zN_pS, zN_pI, zN_pJ, Nat.reduceEqDiff, Nat.reduceAdd, Nat.reduceMul, ite_true, ite_false, and_true, true_and, and_false, false_and, true_or, or_true, false_or, or_false, not_true_eq_false, not_false_eq_true, reduceIte, reduceCtorEq, eq_self] at *) <;> (first | omega | ((try simp (disch := first | omega | (simp (disch := first | omega | (simp (disch := first | omega | (simp only [jd4, jd10, jd20, jd24, jd60, jd100, jm4, jm10, jm20, jm24, jm60, jm100, Int32.reduceToInt]; omega)) only [i32_add, i32_sub, i32_mul, jd4, jd10, jd20, jd24, jd60, jd100, jm4, jm10, jm20, jm24, jm60, jm100, Int32.reduceToInt]; omega)) only [i32_add, i32_sub, i32_mul, jd4, jd10, jd20, jd24, jd60, jd100, jm4, jm10, jm20, jm24, jm60, jm100, Int32.reduceToInt]; omega)) only [i32_add, i32_sub, i32_mul, jd4, jd10, jd20, jd24, jd60, jd100, jm4, jm10, jm20, jm24, jm60, jm100, Int32.reduceToInt] at *) <;> (first | omega | ((try simp (disch := first | omega | (simp (disch := first | omega | (simp (disch := first | omega | (simp only [jd4, jd10, jd20, jd24, jd60, jd100, jm4, jm10, jm20, jm24, jm60, jm100, Int32.reduceToInt]; omega)) only [i32_add, i32_sub, i32_mul, jd4, jd10, jd20, jd24, jd60, jd100, jm4, jm10, jm20, jm24, jm60, jm100, Int32.reduceToInt]; omega)) only [i32_add, i32_sub, i32_mul, jd4, jd10, jd20, jd24, jd60, jd100, jm4, jm10, jm20, jm24, jm60, jm100, Int32.reduceToInt]; omega)) only [i32_add, i32_sub, i32_mul, jd4, jd10, jd20, jd24, jd60, jd100, jm4, jm10, jm20, jm24, jm60, jm100, Int32.reduceToInt] at *) <;> (first | omega | ((simp only [jadd, jsub, jmul, jneg, Int32.reduceToInt] at *) <;> omega))))))))))
set_option maxRecDepth 4000 in
theorem w_X0_isUnder_L9 {b0 : SS} {q0 : Int32 → Option Int32} {s0 : SS} {y2 : Int32} {Q : Int32 → Prop} (K : Lk b0 s0) (hq0 : ∀ (z0 : Int32), Ok (q0 z0) Q) : ∀ (n : Nat) (x3 : Int32) (x4 : Int32), (-1 ≤ x3.toInt ∧ x3.toInt ≤ 7) → (0 ≤ x4.toInt ∧ x4.toInt ≤ 8) → 8 - x4.toInt < (n : Int) → Ok (f_X0_isUnder_L9 q0 s0 y2 n x3 x4) Q := by
  intro n
  induction n with
  | zero =>
    intro x3 x4 i0 i1 hm
    exfalso
    have e0 := kAi_le x3.toInt.toNat
    (first | with_reducible assumption | omega | ((try clear ih); (try clear hr); (try clear hq0); (try clear hq1); (try clear hrec); ((try simp only [inB, Rs, Pg, Px, Ps, Pr, Pl, jcl, Rg, cellOK, bF, bA, bH, bV, jlt, jeq, jd4, jd10, jd20, jd24, jd60, jd100, jm4, jm10, jm20, jm24, jm60, jm100, Int32.reduceToInt, jn1, jn2, jn3, jn4, jn5, jn6, jn7, jn8, jn9, jn10, jn11, jn12, jn13, jn14, jn15, jn16, jn17, jn18, jn19, jn20, jn21, jn22, jn23, jn24, jn100, jn2000000000, zS_pS, zS_pI, zS_pJ, zS_pR, zS_pF, zS_pG, zI_pI, zI_pS, zI_pJ, zI_pR, zI_pF, zI_pG, zN_pS, zN_pI, zN_pJ, Nat.reduceEqDiff, Nat.reduceAdd, Nat.reduceMul, ite_true, ite_false, and_true, true_and, and_false, false_and, true_or, or_true, false_or, or_false, not_true_eq_false, not_false_eq_true, reduceIte, reduceCtorEq, eq_self] at *) <;> (first | omega | ((try simp (disch := first | omega | (simp (disch := first | omega | (simp (disch := first | omega | (simp only [jd4, jd10, jd20, jd24, jd60, jd100, jm4, jm10, jm20, jm24, jm60, jm100, Int32.reduceToInt]; omega)) only [i32_add, i32_sub, i32_mul, jd4, jd10, jd20, jd24, jd60, jd100, jm4, jm10, jm20, jm24, jm60, jm100, Int32.reduceToInt]; omega)) only [i32_add, i32_sub, i32_mul, jd4, jd10, jd20, jd24, jd60, jd100, jm4, jm10, jm20, jm24, jm60, jm100, Int32.reduceToInt]; omega)) only [i32_add, i32_sub, i32_mul, jd4, jd10, jd20, jd24, jd60, jd100, jm4, jm10, jm20, jm24, jm60, jm100, Int32.reduceToInt] at *) <;> (first | omega | ((try simp (disch := first | omega | (simp (disch := first | omega | (simp (disch := first | omega | (simp only [jd4, jd10, jd20, jd24, jd60, jd100, jm4, jm10, jm20, jm24, jm60, jm100, Int32.reduceToInt]; omega)) only [i32_add, i32_sub, i32_mul, jd4, jd10, jd20, jd24, jd60, jd100, jm4, jm10, jm20, jm24, jm60, jm100, Int32.reduceToInt]; omega)) only [i32_add, i32_sub, i32_mul, jd4, jd10, jd20, jd24, jd60, jd100, jm4, jm10, jm20, jm24, jm60, jm100, Int32.reduceToInt]; omega)) only [i32_add, i32_sub, i32_mul, jd4, jd10, jd20, jd24, jd60, jd100, jm4, jm10, jm20, jm24, jm60, jm100, Int32.reduceToInt] at *) <;> (first | omega | ((simp only [jadd, jsub, jmul, jneg, Int32.reduceToInt] at *) <;> omega)))))))))
  | succ n ih =>
    intro x3 x4 i0 i1 hm
    show Ok (f_X0_isUnder_L9_b q0 s0 y2 (f_X0_isUnder_L9 q0 s0 y2 n) x3 x4) Q
    unfold f_X0_isUnder_L9_b
    have e0 := kAi_le x3.toInt.toNat
    repeat' (first
      | with_reducible assumption
      | dsimp only
      | with_reducible refine Ok_some ?_
      | with_reducible refine Lk_g120 (by assumption) ?_ (fun _ _ _ _ _ => ?_)
      | with_reducible refine Lk_g3 (by assumption) ?_ (fun _ _ => ?_)
      | with_reducible refine Lk_g8 (by assumption) ?_ (fun _ _ => ?_)
      | with_reducible refine Lk_g60 (by assumption) ?_ (fun _ _ => ?_)
      | with_reducible refine Lk_g40 (by assumption) ?_ (fun _ _ => ?_)
      | with_reducible refine Lk_g6 (by assumption) ?_ (fun _ _ _ => ?_)
      | with_reducible refine Ok_gd ?_ (fun _ => ?_)
      | with_reducible refine Ok_vl ?_
      | with_reducible refine Ok_wl ?_
      | with_reducible refine Ok_st ?_
      | with_reducible refine Ok_jn ?_
      | with_reducible refine Ok_b1 ?_
      | with_reducible refine Ok_bd ?_
      | with_reducible refine Ok_onN ?_
      | with_reducible refine Ok_onS ?_
      | with_reducible refine Ok_ift (by decide) ?_
      | with_reducible refine Ok_iff (by decide) ?_
      | with_reducible refine Ok_if (fun _ => ?_) (fun _ => ?_)
      | with_reducible refine Lk_onM (b0 := b0) ?_ (by assumption) (fun _ _ _ => ?_)
      | with_reducible refine Lk_onV (b0 := b0) ?_ (by assumption) (fun _ _ _ _ => ?_)
      | with_reducible refine Lk_onH (b0 := b0) ?_ (by assumption) (fun _ => ?_) (fun _ _ _ _ _ _ => ?_)
      | with_reducible refine Lk_onC (b0 := b0) ?_ (by assumption) (fun _ => ?_) (fun _ _ _ _ => ?_)
      | with_reducible refine Lk_onT (b0 := b0) ?_ (by assumption) (fun _ => ?_) (fun _ _ _ _ => ?_)
      | with_reducible refine ih _ _  ?_ ?_ ?_ 
      | with_reducible refine hq0 _  
      | with_reducible refine Lk.wI ?_ (by decide) (by decide) ?_
      | with_reducible refine Lk.wF ?_ (by decide) (by decide) (by decide) ?_
      | with_reducible refine Lk.wH ?_ (by assumption) ?_
      | with_reducible refine Lk.wV ?_ (by assumption) ?_
      | with_reducible refine Lk.wM ?_ (by assumption)
      | with_reducible refine Lk.wC ?_ (by assumption)
      | with_reducible refine Lk.w1 ?_ (by assumption)
      | with_reducible refine Lk.w2 ?_ (by assumption)
      | with_reducible refine Lk.w3 ?_ (by assumption)
      | with_reducible refine Lk.wc1 ?_ (by assumption)
      | with_reducible refine Lk.wJ ?_
      | with_reducible refine Lk.wG ?_
      | with_reducible refine Lk.wK ?_
      | with_reducible refine Lk.wFI ?_ (by decide) (by decide) ?_
      | with_reducible refine And.intro ?_ ?_)
    all_goals (try (first | with_reducible assumption | exact trivial | omega | ((try clear ih); (try clear hr); (try clear hq0); (try clear hq1); (try clear hrec); ((try simp only [inB, Rs, Pg, Px, Ps, Pr, Pl, jcl, Rg, cellOK, bF, bA, bH, bV, jlt, jeq, jd4, jd10, jd20, jd24, jd60, jd100, jm4, jm10, jm20, jm24, jm60, jm100, Int32.reduceToInt, jn1, jn2, jn3, jn4, jn5, jn6, jn7, jn8, jn9, jn10, jn11, jn12, jn13, jn14, jn15, jn16, jn17, jn18, jn19, jn20, jn21, jn22, jn23, jn24, jn100, jn2000000000, zS_pS, zS_pI, zS_pJ, zS_pR, zS_pF, zS_pG, zI_pI, zI_pS, zI_pJ, zI_pR, zI_pF, zI_pG, zN_pS, zN_pI, zN_pJ, Nat.reduceEqDiff, Nat.reduceAdd, Nat.reduceMul, ite_true, ite_false, and_true, true_and, and_false, false_and, true_or, or_true, false_or, or_false, not_true_eq_false, not_false_eq_true, reduceIte, reduceCtorEq, eq_self] at *) <;> (first | omega | ((try simp (disch := first | omega | (simp (disch := first | omega | (simp (disch := first | omega | (simp only [jd4, jd10, jd20, jd24, jd60, jd100, jm4, jm10, jm20, jm24, jm60, jm100, Int32.reduceToInt]; omega)) only [i32_add, i32_sub, i32_mul, jd4, jd10, jd20, jd24, jd60, jd100, jm4, jm10, jm20, jm24, jm60, jm100, Int32.reduceToInt]; omega)) only [i32_add, i32_sub, i32_mul, jd4, jd10, jd20, jd24, jd60, jd100, jm4, jm10, jm20, jm24, jm60, jm100, Int32.reduceToInt]; omega)) only [i32_add, i32_sub, i32_mul, jd4, jd10, jd20, jd24, jd60, jd100, jm4, jm10, jm20, jm24, jm60, jm100, Int32.reduceToInt] at *) <;> (first | omega | ((try simp (disch := first | omega | (simp (disch := first | omega | (simp (disch := first | omega | (simp only [jd4, jd10, jd20, jd24, jd60, jd100, jm4, jm10, jm20, jm24, jm60, jm100, Int32.reduceToInt]; omega)) only [i32_add, i32_sub, i32_mul, jd4, jd10, jd20, jd24, jd60, jd100, jm4, jm10, jm20, jm24, jm60, jm100, Int32.reduceToInt]; omega)) only [i32_add, i32_sub, i32_mul, jd4, jd10, jd20, jd24, jd60, jd100, jm4, jm10, jm20, jm24, jm60, jm100, Int32.reduceToInt]; omega)) only [i32_add, i32_sub, i32_mul, jd4, jd10, jd20, jd24, jd60, jd100, jm4, jm10, jm20, jm24, jm60, jm100, Int32.reduceToInt] at *) <;> (first | omega | ((simp only [jadd, jsub, jmul, jneg, Int32.reduceToInt] at *) <;> omega))))))))))
set_option maxRecDepth 4000 in
theorem w_X0_isUnder {b0 : SS} {s0 : SS} {a0 : Int32} {a1 : Int32} (K : Lk b0 s0) : Ok (f_X0_isUnder s0 a0 a1) (fun _ => True) := by
  unfold f_X0_isUnder
  repeat' (first
    | with_reducible assumption
    | dsimp only
    | with_reducible refine Ok_some ?_
    | with_reducible refine Lk_g120 (by assumption) ?_ (fun _ _ _ _ _ => ?_)
    | with_reducible refine Lk_g3 (by assumption) ?_ (fun _ _ => ?_)
    | with_reducible refine Lk_g8 (by assumption) ?_ (fun _ _ => ?_)
    | with_reducible refine Lk_g60 (by assumption) ?_ (fun _ _ => ?_)
    | with_reducible refine Lk_g40 (by assumption) ?_ (fun _ _ => ?_)
    | with_reducible refine Lk_g6 (by assumption) ?_ (fun _ _ _ => ?_)
    | with_reducible refine Ok_gd ?_ (fun _ => ?_)
    | with_reducible refine Ok_vl ?_
    | with_reducible refine Ok_wl ?_
    | with_reducible refine Ok_st ?_
    | with_reducible refine Ok_jn ?_
    | with_reducible refine Ok_b1 ?_
    | with_reducible refine Ok_bd ?_
    | with_reducible refine Ok_onN ?_
    | with_reducible refine Ok_onS ?_
    | with_reducible refine Ok_ift (by decide) ?_
    | with_reducible refine Ok_iff (by decide) ?_
    | with_reducible refine Ok_if (fun _ => ?_) (fun _ => ?_)
    | with_reducible refine Lk_onM (b0 := b0) ?_ (by assumption) (fun _ _ _ => ?_)
    | with_reducible refine Lk_onV (b0 := b0) ?_ (by assumption) (fun _ _ _ _ => ?_)
    | with_reducible refine Lk_onH (b0 := b0) ?_ (by assumption) (fun _ => ?_) (fun _ _ _ _ _ _ => ?_)
    | with_reducible refine Lk_onC (b0 := b0) ?_ (by assumption) (fun _ => ?_) (fun _ _ _ _ => ?_)
    | with_reducible refine Lk_onT (b0 := b0) ?_ (by assumption) (fun _ => ?_) (fun _ _ _ _ => ?_)
    | with_reducible refine Ok.mono (w_X0_kindOf (b0 := b0) ?_) (fun _ _ => ?_)
    | with_reducible refine w_X0_isUnder_L9 (b0 := b0) ?_ (fun _ => ?_) _ _ _  ?_ ?_ ?_ 
    | with_reducible refine Lk.wI ?_ (by decide) (by decide) ?_
    | with_reducible refine Lk.wF ?_ (by decide) (by decide) (by decide) ?_
    | with_reducible refine Lk.wH ?_ (by assumption) ?_
    | with_reducible refine Lk.wV ?_ (by assumption) ?_
    | with_reducible refine Lk.wM ?_ (by assumption)
    | with_reducible refine Lk.wC ?_ (by assumption)
    | with_reducible refine Lk.w1 ?_ (by assumption)
    | with_reducible refine Lk.w2 ?_ (by assumption)
    | with_reducible refine Lk.w3 ?_ (by assumption)
    | with_reducible refine Lk.wc1 ?_ (by assumption)
    | with_reducible refine Lk.wJ ?_
    | with_reducible refine Lk.wG ?_
    | with_reducible refine Lk.wK ?_
    | with_reducible refine Lk.wFI ?_ (by decide) (by decide) ?_
    | with_reducible refine And.intro ?_ ?_)
  all_goals (try (first | with_reducible assumption | exact trivial | omega | ((try clear ih); (try clear hr); (try clear hq0); (try clear hq1); (try clear hrec); ((try simp only [inB, Rs, Pg, Px, Ps, Pr, Pl, jcl, Rg, cellOK, bF, bA, bH, bV, jlt, jeq, jd4, jd10, jd20, jd24, jd60, jd100, jm4, jm10, jm20, jm24, jm60, jm100, Int32.reduceToInt, jn1, jn2, jn3, jn4, jn5, jn6, jn7, jn8, jn9, jn10, jn11, jn12, jn13, jn14, jn15, jn16, jn17, jn18, jn19, jn20, jn21, jn22, jn23, jn24, jn100, jn2000000000, zS_pS, zS_pI, zS_pJ, zS_pR, zS_pF, zS_pG, zI_pI, zI_pS, zI_pJ, zI_pR, zI_pF, zI_pG, zN_pS, zN_pI, zN_pJ, Nat.reduceEqDiff, Nat.reduceAdd, Nat.reduceMul, ite_true, ite_false, and_true, true_and, and_false, false_and, true_or, or_true, false_or, or_false, not_true_eq_false, not_false_eq_true, reduceIte, reduceCtorEq, eq_self] at *) <;> (first | omega | ((try simp (disch := first | omega | (simp (disch := first | omega | (simp (disch := first | omega | (simp only [jd4, jd10, jd20, jd24, jd60, jd100, jm4, jm10, jm20, jm24, jm60, jm100, Int32.reduceToInt]; omega)) only [i32_add, i32_sub, i32_mul, jd4, jd10, jd20, jd24, jd60, jd100, jm4, jm10, jm20, jm24, jm60, jm100, Int32.reduceToInt]; omega)) only [i32_add, i32_sub, i32_mul, jd4, jd10, jd20, jd24, jd60, jd100, jm4, jm10, jm20, jm24, jm60, jm100, Int32.reduceToInt]; omega)) only [i32_add, i32_sub, i32_mul, jd4, jd10, jd20, jd24, jd60, jd100, jm4, jm10, jm20, jm24, jm60, jm100, Int32.reduceToInt] at *) <;> (first | omega | ((try simp (disch := first | omega | (simp (disch := first | omega | (simp (disch := first | omega | (simp only [jd4, jd10, jd20, jd24, jd60, jd100, jm4, jm10, jm20, jm24, jm60, jm100, Int32.reduceToInt]; omega)) only [i32_add, i32_sub, i32_mul, jd4, jd10, jd20, jd24, jd60, jd100, jm4, jm10, jm20, jm24, jm60, jm100, Int32.reduceToInt]; omega)) only [i32_add, i32_sub, i32_mul, jd4, jd10, jd20, jd24, jd60, jd100, jm4, jm10, jm20, jm24, jm60, jm100, Int32.reduceToInt]; omega)) only [i32_add, i32_sub, i32_mul, jd4, jd10, jd20, jd24, jd60, jd100, jm4, jm10, jm20, jm24, jm60, jm100, Int32.reduceToInt] at *) <;> (first | omega | ((simp only [jadd, jsub, jmul, jneg, Int32.reduceToInt] at *) <;> omega))))))))))
set_option maxRecDepth 4000 in
theorem w_X0_isRefuge {b0 : SS} {s0 : SS} {a0 : Int32} {a1 : Int32} (K : Lk b0 s0) : Ok (f_X0_isRefuge s0 a0 a1) (fun _ => True) := by
  unfold f_X0_isRefuge
  repeat' (first
    | with_reducible assumption
    | dsimp only
    | with_reducible refine Ok_some ?_
    | with_reducible refine Lk_g120 (by assumption) ?_ (fun _ _ _ _ _ => ?_)
    | with_reducible refine Lk_g3 (by assumption) ?_ (fun _ _ => ?_)
    | with_reducible refine Lk_g8 (by assumption) ?_ (fun _ _ => ?_)
    | with_reducible refine Lk_g60 (by assumption) ?_ (fun _ _ => ?_)
    | with_reducible refine Lk_g40 (by assumption) ?_ (fun _ _ => ?_)
    | with_reducible refine Lk_g6 (by assumption) ?_ (fun _ _ _ => ?_)
    | with_reducible refine Ok_gd ?_ (fun _ => ?_)
    | with_reducible refine Ok_vl ?_
    | with_reducible refine Ok_wl ?_
    | with_reducible refine Ok_st ?_
    | with_reducible refine Ok_jn ?_
    | with_reducible refine Ok_b1 ?_
    | with_reducible refine Ok_bd ?_
    | with_reducible refine Ok_onN ?_
    | with_reducible refine Ok_onS ?_
    | with_reducible refine Ok_ift (by decide) ?_
    | with_reducible refine Ok_iff (by decide) ?_
    | with_reducible refine Ok_if (fun _ => ?_) (fun _ => ?_)
    | with_reducible refine Lk_onM (b0 := b0) ?_ (by assumption) (fun _ _ _ => ?_)
    | with_reducible refine Lk_onV (b0 := b0) ?_ (by assumption) (fun _ _ _ _ => ?_)
    | with_reducible refine Lk_onH (b0 := b0) ?_ (by assumption) (fun _ => ?_) (fun _ _ _ _ _ _ => ?_)
    | with_reducible refine Lk_onC (b0 := b0) ?_ (by assumption) (fun _ => ?_) (fun _ _ _ _ => ?_)
    | with_reducible refine Lk_onT (b0 := b0) ?_ (by assumption) (fun _ => ?_) (fun _ _ _ _ => ?_)
    | with_reducible refine Lk.wI ?_ (by decide) (by decide) ?_
    | with_reducible refine Lk.wF ?_ (by decide) (by decide) (by decide) ?_
    | with_reducible refine Lk.wH ?_ (by assumption) ?_
    | with_reducible refine Lk.wV ?_ (by assumption) ?_
    | with_reducible refine Lk.wM ?_ (by assumption)
    | with_reducible refine Lk.wC ?_ (by assumption)
    | with_reducible refine Lk.w1 ?_ (by assumption)
    | with_reducible refine Lk.w2 ?_ (by assumption)
    | with_reducible refine Lk.w3 ?_ (by assumption)
    | with_reducible refine Lk.wc1 ?_ (by assumption)
    | with_reducible refine Lk.wJ ?_
    | with_reducible refine Lk.wG ?_
    | with_reducible refine Lk.wK ?_
    | with_reducible refine Lk.wFI ?_ (by decide) (by decide) ?_
    | with_reducible refine And.intro ?_ ?_)
  all_goals (try (first | with_reducible assumption | exact trivial | omega | ((try clear ih); (try clear hr); (try clear hq0); (try clear hq1); (try clear hrec); ((try simp only [inB, Rs, Pg, Px, Ps, Pr, Pl, jcl, Rg, cellOK, bF, bA, bH, bV, jlt, jeq, jd4, jd10, jd20, jd24, jd60, jd100, jm4, jm10, jm20, jm24, jm60, jm100, Int32.reduceToInt, jn1, jn2, jn3, jn4, jn5, jn6, jn7, jn8, jn9, jn10, jn11, jn12, jn13, jn14, jn15, jn16, jn17, jn18, jn19, jn20, jn21, jn22, jn23, jn24, jn100, jn2000000000, zS_pS, zS_pI, zS_pJ, zS_pR, zS_pF, zS_pG, zI_pI, zI_pS, zI_pJ, zI_pR, zI_pF, zI_pG, zN_pS, zN_pI, zN_pJ, Nat.reduceEqDiff, Nat.reduceAdd, Nat.reduceMul, ite_true, ite_false, and_true, true_and, and_false, false_and, true_or, or_true, false_or, or_false, not_true_eq_false, not_false_eq_true, reduceIte, reduceCtorEq, eq_self] at *) <;> (first | omega | ((try simp (disch := first | omega | (simp (disch := first | omega | (simp (disch := first | omega | (simp only [jd4, jd10, jd20, jd24, jd60, jd100, jm4, jm10, jm20, jm24, jm60, jm100, Int32.reduceToInt]; omega)) only [i32_add, i32_sub, i32_mul, jd4, jd10, jd20, jd24, jd60, jd100, jm4, jm10, jm20, jm24, jm60, jm100, Int32.reduceToInt]; omega)) only [i32_add, i32_sub, i32_mul, jd4, jd10, jd20, jd24, jd60, jd100, jm4, jm10, jm20, jm24, jm60, jm100, Int32.reduceToInt]; omega)) only [i32_add, i32_sub, i32_mul, jd4, jd10, jd20, jd24, jd60, jd100, jm4, jm10, jm20, jm24, jm60, jm100, Int32.reduceToInt] at *) <;> (first | omega | ((try simp (disch := first | omega | (simp (disch := first | omega | (simp (disch := first | omega | (simp only [jd4, jd10, jd20, jd24, jd60, jd100, jm4, jm10, jm20, jm24, jm60, jm100, Int32.reduceToInt]; omega)) only [i32_add, i32_sub, i32_mul, jd4, jd10, jd20, jd24, jd60, jd100, jm4, jm10, jm20, jm24, jm60, jm100, Int32.reduceToInt]; omega)) only [i32_add, i32_sub, i32_mul, jd4, jd10, jd20, jd24, jd60, jd100, jm4, jm10, jm20, jm24, jm60, jm100, Int32.reduceToInt]; omega)) only [i32_add, i32_sub, i32_mul, jd4, jd10, jd20, jd24, jd60, jd100, jm4, jm10, jm20, jm24, jm60, jm100, Int32.reduceToInt] at *) <;> (first | omega | ((simp only [jadd, jsub, jmul, jneg, Int32.reduceToInt] at *) <;> omega))))))))))
set_option maxRecDepth 4000 in
theorem w_X0_runs {b0 : SS} {s0 : SS} {a0 : Int32} (K : Lk b0 s0) (g0 : 0 ≤ (zS s0 15 11).toInt ∧ (zS s0 15 11).toInt ≤ 200000) : Ok (f_X0_runs s0 a0) (fun r => Lk b0 r ∧ (0 ≤ (zS r 15 11).toInt ∧ (zS r 15 11).toInt ≤ (zS s0 15 11).toInt + 1)) := by
  unfold f_X0_runs
  repeat' (first
    | with_reducible assumption
    | dsimp only
    | with_reducible refine Ok_some ?_
    | with_reducible refine Lk_g120 (by assumption) ?_ (fun _ _ _ _ _ => ?_)
    | with_reducible refine Lk_g3 (by assumption) ?_ (fun _ _ => ?_)
    | with_reducible refine Lk_g8 (by assumption) ?_ (fun _ _ => ?_)
    | with_reducible refine Lk_g60 (by assumption) ?_ (fun _ _ => ?_)
    | with_reducible refine Lk_g40 (by assumption) ?_ (fun _ _ => ?_)
    | with_reducible refine Lk_g6 (by assumption) ?_ (fun _ _ _ => ?_)
    | with_reducible refine Ok_gd ?_ (fun _ => ?_)
    | with_reducible refine Ok_vl ?_
    | with_reducible refine Ok_wl ?_
    | with_reducible refine Ok_st ?_
    | with_reducible refine Ok_jn ?_
    | with_reducible refine Ok_b1 ?_
    | with_reducible refine Ok_bd ?_
    | with_reducible refine Ok_onN ?_
    | with_reducible refine Ok_onS ?_
    | with_reducible refine Ok_ift (by decide) ?_
    | with_reducible refine Ok_iff (by decide) ?_
    | with_reducible refine Ok_if (fun _ => ?_) (fun _ => ?_)
    | with_reducible refine Lk_onM (b0 := b0) ?_ (by assumption) (fun _ _ _ => ?_)
    | with_reducible refine Lk_onV (b0 := b0) ?_ (by assumption) (fun _ _ _ _ => ?_)
    | with_reducible refine Lk_onH (b0 := b0) ?_ (by assumption) (fun _ => ?_) (fun _ _ _ _ _ _ => ?_)
    | with_reducible refine Lk_onC (b0 := b0) ?_ (by assumption) (fun _ => ?_) (fun _ _ _ _ => ?_)
    | with_reducible refine Lk_onT (b0 := b0) ?_ (by assumption) (fun _ => ?_) (fun _ _ _ _ => ?_)
    | with_reducible refine Lk.wI ?_ (by decide) (by decide) ?_
    | with_reducible refine Lk.wF ?_ (by decide) (by decide) (by decide) ?_
    | with_reducible refine Lk.wH ?_ (by assumption) ?_
    | with_reducible refine Lk.wV ?_ (by assumption) ?_
    | with_reducible refine Lk.wM ?_ (by assumption)
    | with_reducible refine Lk.wC ?_ (by assumption)
    | with_reducible refine Lk.w1 ?_ (by assumption)
    | with_reducible refine Lk.w2 ?_ (by assumption)
    | with_reducible refine Lk.w3 ?_ (by assumption)
    | with_reducible refine Lk.wc1 ?_ (by assumption)
    | with_reducible refine Lk.wJ ?_
    | with_reducible refine Lk.wG ?_
    | with_reducible refine Lk.wK ?_
    | with_reducible refine Lk.wFI ?_ (by decide) (by decide) ?_
    | with_reducible refine And.intro ?_ ?_)
  all_goals (try (first | with_reducible assumption | exact trivial | omega | ((try clear ih); (try clear hr); (try clear hq0); (try clear hq1); (try clear hrec); ((try simp only [inB, Rs, Pg, Px, Ps, Pr, Pl, jcl, Rg, cellOK, bF, bA, bH, bV, jlt, jeq, jd4, jd10, jd20, jd24, jd60, jd100, jm4, jm10, jm20, jm24, jm60, jm100, Int32.reduceToInt, jn1, jn2, jn3, jn4, jn5, jn6, jn7, jn8, jn9, jn10, jn11, jn12, jn13, jn14, jn15, jn16, jn17, jn18, jn19, jn20, jn21, jn22, jn23, jn24, jn100, jn2000000000, zS_pS, zS_pI, zS_pJ, zS_pR, zS_pF, zS_pG, zI_pI, zI_pS, zI_pJ, zI_pR, zI_pF, zI_pG, zN_pS, zN_pI, zN_pJ, Nat.reduceEqDiff, Nat.reduceAdd, Nat.reduceMul, ite_true, ite_false, and_true, true_and, and_false, false_and, true_or, or_true, false_or, or_false, not_true_eq_false, not_false_eq_true, reduceIte, reduceCtorEq, eq_self] at *) <;> (first | omega | ((try simp (disch := first | omega | (simp (disch := first | omega | (simp (disch := first | omega | (simp only [jd4, jd10, jd20, jd24, jd60, jd100, jm4, jm10, jm20, jm24, jm60, jm100, Int32.reduceToInt]; omega)) only [i32_add, i32_sub, i32_mul, jd4, jd10, jd20, jd24, jd60, jd100, jm4, jm10, jm20, jm24, jm60, jm100, Int32.reduceToInt]; omega)) only [i32_add, i32_sub, i32_mul, jd4, jd10, jd20, jd24, jd60, jd100, jm4, jm10, jm20, jm24, jm60, jm100, Int32.reduceToInt]; omega)) only [i32_add, i32_sub, i32_mul, jd4, jd10, jd20, jd24, jd60, jd100, jm4, jm10, jm20, jm24, jm60, jm100, Int32.reduceToInt] at *) <;> (first | omega | ((try simp (disch := first | omega | (simp (disch := first | omega | (simp (disch := first | omega | (simp only [jd4, jd10, jd20, jd24, jd60, jd100, jm4, jm10, jm20, jm24, jm60, jm100, Int32.reduceToInt]; omega)) only [i32_add, i32_sub, i32_mul, jd4, jd10, jd20, jd24, jd60, jd100, jm4, jm10, jm20, jm24, jm60, jm100, Int32.reduceToInt]; omega)) only [i32_add, i32_sub, i32_mul, jd4, jd10, jd20, jd24, jd60, jd100, jm4, jm10, jm20, jm24, jm60, jm100, Int32.reduceToInt]; omega)) only [i32_add, i32_sub, i32_mul, jd4, jd10, jd20, jd24, jd60, jd100, jm4, jm10, jm20, jm24, jm60, jm100, Int32.reduceToInt] at *) <;> (first | omega | ((simp only [jadd, jsub, jmul, jneg, Int32.reduceToInt] at *) <;> omega))))))))))
set_option maxRecDepth 4000 in
theorem w_X0_boresFrom {b0 : SS} : ∀ (n : Nat) (s0 : SS) (a0 : Int32) (a1 : Int32) (a2 : Int32) (a3 : Int32), Lk b0 s0 → (0 ≤ (zS s0 15 11).toInt ∧ (zS s0 15 11).toInt + 1 * (n : Int) ≤ 100000) → ((if a0 = 5 then 4 else if a0 = 4 then 3 else if a0 = 1 ∨ a0 = 2 ∨ a0 = 3 ∨ a0 = 6 then 2 else 1) ≤ (n : Int)) → Ok (f_X0_boresFrom n s0 a0 a1 a2 a3) (fun r => Lk b0 r.2 ∧ (0 ≤ (zS r.2 15 11).toInt ∧ (zS r.2 15 11).toInt ≤ (zS s0 15 11).toInt + 1 * (n : Int))) := by
  intro n
  induction n with
  | zero =>
    intro s0 a0 a1 a2 a3 K i0 i1
    exfalso
    (first | with_reducible assumption | omega | ((try clear ih); (try clear hr); (try clear hq0); (try clear hq1); (try clear hrec); ((try simp only [inB, Rs, Pg, Px, Ps, Pr, Pl, jcl, Rg, cellOK, bF, bA, bH, bV, jlt, jeq, jd4, jd10, jd20, jd24, jd60, jd100, jm4, jm10, jm20, jm24, jm60, jm100, Int32.reduceToInt, jn1, jn2, jn3, jn4, jn5, jn6, jn7, jn8, jn9, jn10, jn11, jn12, jn13, jn14, jn15, jn16, jn17, jn18, jn19, jn20, jn21, jn22, jn23, jn24, jn100, jn2000000000, zS_pS, zS_pI, zS_pJ, zS_pR, zS_pF, zS_pG, zI_pI, zI_pS, zI_pJ, zI_pR, zI_pF, zI_pG, zN_pS, zN_pI, zN_pJ, Nat.reduceEqDiff, Nat.reduceAdd, Nat.reduceMul, ite_true, ite_false, and_true, true_and, and_false, false_and, true_or, or_true, false_or, or_false, not_true_eq_false, not_false_eq_true, reduceIte, reduceCtorEq, eq_self] at *) <;> (first | omega | ((try simp (disch := first | omega | (simp (disch := first | omega | (simp (disch := first | omega | (simp only [jd4, jd10, jd20, jd24, jd60, jd100, jm4, jm10, jm20, jm24, jm60, jm100, Int32.reduceToInt]; omega)) only [i32_add, i32_sub, i32_mul, jd4, jd10, jd20, jd24, jd60, jd100, jm4, jm10, jm20, jm24, jm60, jm100, Int32.reduceToInt]; omega)) only [i32_add, i32_sub, i32_mul, jd4, jd10, jd20, jd24, jd60, jd100, jm4, jm10, jm20, jm24, jm60, jm100, Int32.reduceToInt]; omega)) only [i32_add, i32_sub, i32_mul, jd4, jd10, jd20, jd24, jd60, jd100, jm4, jm10, jm20, jm24, jm60, jm100, Int32.reduceToInt] at *) <;> (first | omega | ((try simp (disch := first | omega | (simp (disch := first | omega | (simp (disch := first | omega | (simp only [jd4, jd10, jd20, jd24, jd60, jd100, jm4, jm10, jm20, jm24, jm60, jm100, Int32.reduceToInt]; omega)) only [i32_add, i32_sub, i32_mul, jd4, jd10, jd20, jd24, jd60, jd100, jm4, jm10, jm20, jm24, jm60, jm100, Int32.reduceToInt]; omega)) only [i32_add, i32_sub, i32_mul, jd4, jd10, jd20, jd24, jd60, jd100, jm4, jm10, jm20, jm24, jm60, jm100, Int32.reduceToInt]; omega)) only [i32_add, i32_sub, i32_mul, jd4, jd10, jd20, jd24, jd60, jd100, jm4, jm10, jm20, jm24, jm60, jm100, Int32.reduceToInt] at *) <;> (first | omega | ((simp only [jadd, jsub, jmul, jneg, Int32.reduceToInt] at *) <;> omega)))))))))
  | succ n ih =>
    intro s0 a0 a1 a2 a3 K i0 i1
    show Ok (f_X0_boresFrom_r (f_X0_boresFrom n) s0 a0 a1 a2 a3) _
    unfold f_X0_boresFrom_r
    repeat' (first
      | with_reducible assumption
      | dsimp only
      | with_reducible refine Ok_some ?_
      | with_reducible refine Lk_g120 (by assumption) ?_ (fun _ _ _ _ _ => ?_)
      | with_reducible refine Lk_g3 (by assumption) ?_ (fun _ _ => ?_)
      | with_reducible refine Lk_g8 (by assumption) ?_ (fun _ _ => ?_)
      | with_reducible refine Lk_g60 (by assumption) ?_ (fun _ _ => ?_)
      | with_reducible refine Lk_g40 (by assumption) ?_ (fun _ _ => ?_)
      | with_reducible refine Lk_g6 (by assumption) ?_ (fun _ _ _ => ?_)
      | with_reducible refine Ok_gd ?_ (fun _ => ?_)
      | with_reducible refine Ok_vl ?_
      | with_reducible refine Ok_wl ?_
      | with_reducible refine Ok_st ?_
      | with_reducible refine Ok_jn ?_
      | with_reducible refine Ok_b1 ?_
      | with_reducible refine Ok_bd ?_
      | with_reducible refine Ok_onN ?_
      | with_reducible refine Ok_onS ?_
      | with_reducible refine Ok_ift (by decide) ?_
      | with_reducible refine Ok_iff (by decide) ?_
      | with_reducible refine Ok_if (fun _ => ?_) (fun _ => ?_)
      | with_reducible refine Lk_onM (b0 := b0) ?_ (by assumption) (fun _ _ _ => ?_)
      | with_reducible refine Lk_onV (b0 := b0) ?_ (by assumption) (fun _ _ _ _ => ?_)
      | with_reducible refine Lk_onH (b0 := b0) ?_ (by assumption) (fun _ => ?_) (fun _ _ _ _ _ _ => ?_)
      | with_reducible refine Lk_onC (b0 := b0) ?_ (by assumption) (fun _ => ?_) (fun _ _ _ _ => ?_)
      | with_reducible refine Lk_onT (b0 := b0) ?_ (by assumption) (fun _ => ?_) (fun _ _ _ _ => ?_)
      | with_reducible refine Ok.mono (ih _ _ _ _ _  ?_ ?_ ?_ ) (fun _ ⟨_, _⟩ => ?_)
      | with_reducible refine Ok.mono (w_X0_runs (b0 := b0) ?_ ?_) (fun _ ⟨_, _⟩ => ?_)
      | with_reducible refine Lk.wI ?_ (by decide) (by decide) ?_
      | with_reducible refine Lk.wF ?_ (by decide) (by decide) (by decide) ?_
      | with_reducible refine Lk.wH ?_ (by assumption) ?_
      | with_reducible refine Lk.wV ?_ (by assumption) ?_
      | with_reducible refine Lk.wM ?_ (by assumption)
      | with_reducible refine Lk.wC ?_ (by assumption)
      | with_reducible refine Lk.w1 ?_ (by assumption)
      | with_reducible refine Lk.w2 ?_ (by assumption)
      | with_reducible refine Lk.w3 ?_ (by assumption)
      | with_reducible refine Lk.wc1 ?_ (by assumption)
      | with_reducible refine Lk.wJ ?_
      | with_reducible refine Lk.wG ?_
      | with_reducible refine Lk.wK ?_
      | with_reducible refine Lk.wFI ?_ (by decide) (by decide) ?_
      | with_reducible refine And.intro ?_ ?_)
    all_goals (try (first | with_reducible assumption | exact trivial | omega | ((try clear ih); (try clear hr); (try clear hq0); (try clear hq1); (try clear hrec); ((try simp only [inB, Rs, Pg, Px, Ps, Pr, Pl, jcl, Rg, cellOK, bF, bA, bH, bV, jlt, jeq, jd4, jd10, jd20, jd24, jd60, jd100, jm4, jm10, jm20, jm24, jm60, jm100, Int32.reduceToInt, jn1, jn2, jn3, jn4, jn5, jn6, jn7, jn8, jn9, jn10, jn11, jn12, jn13, jn14, jn15, jn16, jn17, jn18, jn19, jn20, jn21, jn22, jn23, jn24, jn100, jn2000000000, zS_pS, zS_pI, zS_pJ, zS_pR, zS_pF, zS_pG, zI_pI, zI_pS, zI_pJ, zI_pR, zI_pF, zI_pG, zN_pS, zN_pI, zN_pJ, Nat.reduceEqDiff, Nat.reduceAdd, Nat.reduceMul, ite_true, ite_false, and_true, true_and, and_false, false_and, true_or, or_true, false_or, or_false, not_true_eq_false, not_false_eq_true, reduceIte, reduceCtorEq, eq_self] at *) <;> (first | omega | ((try simp (disch := first | omega | (simp (disch := first | omega | (simp (disch := first | omega | (simp only [jd4, jd10, jd20, jd24, jd60, jd100, jm4, jm10, jm20, jm24, jm60, jm100, Int32.reduceToInt]; omega)) only [i32_add, i32_sub, i32_mul, jd4, jd10, jd20, jd24, jd60, jd100, jm4, jm10, jm20, jm24, jm60, jm100, Int32.reduceToInt]; omega)) only [i32_add, i32_sub, i32_mul, jd4, jd10, jd20, jd24, jd60, jd100, jm4, jm10, jm20, jm24, jm60, jm100, Int32.reduceToInt]; omega)) only [i32_add, i32_sub, i32_mul, jd4, jd10, jd20, jd24, jd60, jd100, jm4, jm10, jm20, jm24, jm60, jm100, Int32.reduceToInt] at *) <;> (first | omega | ((try simp (disch := first | omega | (simp (disch := first | omega | (simp (disch := first | omega | (simp only [jd4, jd10, jd20, jd24, jd60, jd100, jm4, jm10, jm20, jm24, jm60, jm100, Int32.reduceToInt]; omega)) only [i32_add, i32_sub, i32_mul, jd4, jd10, jd20, jd24, jd60, jd100, jm4, jm10, jm20, jm24, jm60, jm100, Int32.reduceToInt]; omega)) only [i32_add, i32_sub, i32_mul, jd4, jd10, jd20, jd24, jd60, jd100, jm4, jm10, jm20, jm24, jm60, jm100, Int32.reduceToInt]; omega)) only [i32_add, i32_sub, i32_mul, jd4, jd10, jd20, jd24, jd60, jd100, jm4, jm10, jm20, jm24, jm60, jm100, Int32.reduceToInt] at *) <;> (first | omega | ((simp only [jadd, jsub, jmul, jneg, Int32.reduceToInt] at *) <;> omega))))))))))
set_option maxRecDepth 4000 in
theorem w_X0_strengthOf {b0 : SS} {s0 : SS} {a0 : Int32} (K : Lk b0 s0) : Ok (f_X0_strengthOf s0 a0) (fun _ => True) := by
  unfold f_X0_strengthOf
  repeat' (first
    | with_reducible assumption
    | dsimp only
    | with_reducible refine Ok_some ?_
    | with_reducible refine Lk_g120 (by assumption) ?_ (fun _ _ _ _ _ => ?_)
    | with_reducible refine Lk_g3 (by assumption) ?_ (fun _ _ => ?_)
    | with_reducible refine Lk_g8 (by assumption) ?_ (fun _ _ => ?_)
    | with_reducible refine Lk_g60 (by assumption) ?_ (fun _ _ => ?_)
    | with_reducible refine Lk_g40 (by assumption) ?_ (fun _ _ => ?_)
    | with_reducible refine Lk_g6 (by assumption) ?_ (fun _ _ _ => ?_)
    | with_reducible refine Ok_gd ?_ (fun _ => ?_)
    | with_reducible refine Ok_vl ?_
    | with_reducible refine Ok_wl ?_
    | with_reducible refine Ok_st ?_
    | with_reducible refine Ok_jn ?_
    | with_reducible refine Ok_b1 ?_
    | with_reducible refine Ok_bd ?_
    | with_reducible refine Ok_onN ?_
    | with_reducible refine Ok_onS ?_
    | with_reducible refine Ok_ift (by decide) ?_
    | with_reducible refine Ok_iff (by decide) ?_
    | with_reducible refine Ok_if (fun _ => ?_) (fun _ => ?_)
    | with_reducible refine Lk_onM (b0 := b0) ?_ (by assumption) (fun _ _ _ => ?_)
    | with_reducible refine Lk_onV (b0 := b0) ?_ (by assumption) (fun _ _ _ _ => ?_)
    | with_reducible refine Lk_onH (b0 := b0) ?_ (by assumption) (fun _ => ?_) (fun _ _ _ _ _ _ => ?_)
    | with_reducible refine Lk_onC (b0 := b0) ?_ (by assumption) (fun _ => ?_) (fun _ _ _ _ => ?_)
    | with_reducible refine Lk_onT (b0 := b0) ?_ (by assumption) (fun _ => ?_) (fun _ _ _ _ => ?_)
    | with_reducible refine Ok.mono (w_X0_kindOf (b0 := b0) ?_) (fun _ _ => ?_)
    | with_reducible refine Lk.wI ?_ (by decide) (by decide) ?_
    | with_reducible refine Lk.wF ?_ (by decide) (by decide) (by decide) ?_
    | with_reducible refine Lk.wH ?_ (by assumption) ?_
    | with_reducible refine Lk.wV ?_ (by assumption) ?_
    | with_reducible refine Lk.wM ?_ (by assumption)
    | with_reducible refine Lk.wC ?_ (by assumption)
    | with_reducible refine Lk.w1 ?_ (by assumption)
    | with_reducible refine Lk.w2 ?_ (by assumption)
    | with_reducible refine Lk.w3 ?_ (by assumption)
    | with_reducible refine Lk.wc1 ?_ (by assumption)
    | with_reducible refine Lk.wJ ?_
    | with_reducible refine Lk.wG ?_
    | with_reducible refine Lk.wK ?_
    | with_reducible refine Lk.wFI ?_ (by decide) (by decide) ?_
    | with_reducible refine And.intro ?_ ?_)
  all_goals (try (first | with_reducible assumption | exact trivial | omega | ((try clear ih); (try clear hr); (try clear hq0); (try clear hq1); (try clear hrec); ((try simp only [inB, Rs, Pg, Px, Ps, Pr, Pl, jcl, Rg, cellOK, bF, bA, bH, bV, jlt, jeq, jd4, jd10, jd20, jd24, jd60, jd100, jm4, jm10, jm20, jm24, jm60, jm100, Int32.reduceToInt, jn1, jn2, jn3, jn4, jn5, jn6, jn7, jn8, jn9, jn10, jn11, jn12, jn13, jn14, jn15, jn16, jn17, jn18, jn19, jn20, jn21, jn22, jn23, jn24, jn100, jn2000000000, zS_pS, zS_pI, zS_pJ, zS_pR, zS_pF, zS_pG, zI_pI, zI_pS, zI_pJ, zI_pR, zI_pF, zI_pG, zN_pS, zN_pI, zN_pJ, Nat.reduceEqDiff, Nat.reduceAdd, Nat.reduceMul, ite_true, ite_false, and_true, true_and, and_false, false_and, true_or, or_true, false_or, or_false, not_true_eq_false, not_false_eq_true, reduceIte, reduceCtorEq, eq_self] at *) <;> (first | omega | ((try simp (disch := first | omega | (simp (disch := first | omega | (simp (disch := first | omega | (simp only [jd4, jd10, jd20, jd24, jd60, jd100, jm4, jm10, jm20, jm24, jm60, jm100, Int32.reduceToInt]; omega)) only [i32_add, i32_sub, i32_mul, jd4, jd10, jd20, jd24, jd60, jd100, jm4, jm10, jm20, jm24, jm60, jm100, Int32.reduceToInt]; omega)) only [i32_add, i32_sub, i32_mul, jd4, jd10, jd20, jd24, jd60, jd100, jm4, jm10, jm20, jm24, jm60, jm100, Int32.reduceToInt]; omega)) only [i32_add, i32_sub, i32_mul, jd4, jd10, jd20, jd24, jd60, jd100, jm4, jm10, jm20, jm24, jm60, jm100, Int32.reduceToInt] at *) <;> (first | omega | ((try simp (disch := first | omega | (simp (disch := first | omega | (simp (disch := first | omega | (simp only [jd4, jd10, jd20, jd24, jd60, jd100, jm4, jm10, jm20, jm24, jm60, jm100, Int32.reduceToInt]; omega)) only [i32_add, i32_sub, i32_mul, jd4, jd10, jd20, jd24, jd60, jd100, jm4, jm10, jm20, jm24, jm60, jm100, Int32.reduceToInt]; omega)) only [i32_add, i32_sub, i32_mul, jd4, jd10, jd20, jd24, jd60, jd100, jm4, jm10, jm20, jm24, jm60, jm100, Int32.reduceToInt]; omega)) only [i32_add, i32_sub, i32_mul, jd4, jd10, jd20, jd24, jd60, jd100, jm4, jm10, jm20, jm24, jm60, jm100, Int32.reduceToInt] at *) <;> (first | omega | ((simp only [jadd, jsub, jmul, jneg, Int32.reduceToInt] at *) <;> omega))))))))))
set_option maxRecDepth 4000 in
theorem w_X0_widthOf {b0 : SS} {s0 : SS} {a0 : Int32} (K : Lk b0 s0) : Ok (f_X0_widthOf s0 a0) (fun _ => True) := by
  unfold f_X0_widthOf
  have f0 := (K.f (q := 15) (k := 3) rfl)
  repeat' (first
    | with_reducible assumption
    | dsimp only
    | with_reducible refine Ok_some ?_
    | with_reducible refine Lk_g120 (by assumption) ?_ (fun _ _ _ _ _ => ?_)
    | with_reducible refine Lk_g3 (by assumption) ?_ (fun _ _ => ?_)
    | with_reducible refine Lk_g8 (by assumption) ?_ (fun _ _ => ?_)
    | with_reducible refine Lk_g60 (by assumption) ?_ (fun _ _ => ?_)
    | with_reducible refine Lk_g40 (by assumption) ?_ (fun _ _ => ?_)
    | with_reducible refine Lk_g6 (by assumption) ?_ (fun _ _ _ => ?_)
    | with_reducible refine Ok_gd ?_ (fun _ => ?_)
    | with_reducible refine Ok_vl ?_
    | with_reducible refine Ok_wl ?_
    | with_reducible refine Ok_st ?_
    | with_reducible refine Ok_jn ?_
    | with_reducible refine Ok_b1 ?_
    | with_reducible refine Ok_bd ?_
    | with_reducible refine Ok_onN ?_
    | with_reducible refine Ok_onS ?_
    | with_reducible refine Ok_ift (by decide) ?_
    | with_reducible refine Ok_iff (by decide) ?_
    | with_reducible refine Ok_if (fun _ => ?_) (fun _ => ?_)
    | with_reducible refine Lk_onM (b0 := b0) ?_ (by assumption) (fun _ _ _ => ?_)
    | with_reducible refine Lk_onV (b0 := b0) ?_ (by assumption) (fun _ _ _ _ => ?_)
    | with_reducible refine Lk_onH (b0 := b0) ?_ (by assumption) (fun _ => ?_) (fun _ _ _ _ _ _ => ?_)
    | with_reducible refine Lk_onC (b0 := b0) ?_ (by assumption) (fun _ => ?_) (fun _ _ _ _ => ?_)
    | with_reducible refine Lk_onT (b0 := b0) ?_ (by assumption) (fun _ => ?_) (fun _ _ _ _ => ?_)
    | with_reducible refine Lk.wI ?_ (by decide) (by decide) ?_
    | with_reducible refine Lk.wF ?_ (by decide) (by decide) (by decide) ?_
    | with_reducible refine Lk.wH ?_ (by assumption) ?_
    | with_reducible refine Lk.wV ?_ (by assumption) ?_
    | with_reducible refine Lk.wM ?_ (by assumption)
    | with_reducible refine Lk.wC ?_ (by assumption)
    | with_reducible refine Lk.w1 ?_ (by assumption)
    | with_reducible refine Lk.w2 ?_ (by assumption)
    | with_reducible refine Lk.w3 ?_ (by assumption)
    | with_reducible refine Lk.wc1 ?_ (by assumption)
    | with_reducible refine Lk.wJ ?_
    | with_reducible refine Lk.wG ?_
    | with_reducible refine Lk.wK ?_
    | with_reducible refine Lk.wFI ?_ (by decide) (by decide) ?_
    | with_reducible refine And.intro ?_ ?_
    | unfold f_X0_holeOf)
  all_goals (try (first | with_reducible assumption | exact trivial | omega | ((try clear ih); (try clear hr); (try clear hq0); (try clear hq1); (try clear hrec); ((try simp only [inB, Rs, Pg, Px, Ps, Pr, Pl, jcl, Rg, cellOK, bF, bA, bH, bV, jlt, jeq, jd4, jd10, jd20, jd24, jd60, jd100, jm4, jm10, jm20, jm24, jm60, jm100, Int32.reduceToInt, jn1, jn2, jn3, jn4, jn5, jn6, jn7, jn8, jn9, jn10, jn11, jn12, jn13, jn14, jn15, jn16, jn17, jn18, jn19, jn20, jn21, jn22, jn23, jn24, jn100, jn2000000000, zS_pS, zS_pI, zS_pJ, zS_pR, zS_pF, zS_pG, zI_pI, zI_pS, zI_pJ, zI_pR, zI_pF, zI_pG, zN_pS, zN_pI, zN_pJ, Nat.reduceEqDiff, Nat.reduceAdd, Nat.reduceMul, ite_true, ite_false, and_true, true_and, and_false, false_and, true_or, or_true, false_or, or_false, not_true_eq_false, not_false_eq_true, reduceIte, reduceCtorEq, eq_self] at *) <;> (first | omega | ((try simp (disch := first | omega | (simp (disch := first | omega | (simp (disch := first | omega | (simp only [jd4, jd10, jd20, jd24, jd60, jd100, jm4, jm10, jm20, jm24, jm60, jm100, Int32.reduceToInt]; omega)) only [i32_add, i32_sub, i32_mul, jd4, jd10, jd20, jd24, jd60, jd100, jm4, jm10, jm20, jm24, jm60, jm100, Int32.reduceToInt]; omega)) only [i32_add, i32_sub, i32_mul, jd4, jd10, jd20, jd24, jd60, jd100, jm4, jm10, jm20, jm24, jm60, jm100, Int32.reduceToInt]; omega)) only [i32_add, i32_sub, i32_mul, jd4, jd10, jd20, jd24, jd60, jd100, jm4, jm10, jm20, jm24, jm60, jm100, Int32.reduceToInt] at *) <;> (first | omega | ((try simp (disch := first | omega | (simp (disch := first | omega | (simp (disch := first | omega | (simp only [jd4, jd10, jd20, jd24, jd60, jd100, jm4, jm10, jm20, jm24, jm60, jm100, Int32.reduceToInt]; omega)) only [i32_add, i32_sub, i32_mul, jd4, jd10, jd20, jd24, jd60, jd100, jm4, jm10, jm20, jm24, jm60, jm100, Int32.reduceToInt]; omega)) only [i32_add, i32_sub, i32_mul, jd4, jd10, jd20, jd24, jd60, jd100, jm4, jm10, jm20, jm24, jm60, jm100, Int32.reduceToInt]; omega)) only [i32_add, i32_sub, i32_mul, jd4, jd10, jd20, jd24, jd60, jd100, jm4, jm10, jm20, jm24, jm60, jm100, Int32.reduceToInt] at *) <;> (first | omega | ((simp only [jadd, jsub, jmul, jneg, Int32.reduceToInt] at *) <;> omega))))))))))
set_option maxRecDepth 4000 in
theorem w_X0_carriesFrom {b0 : SS} : ∀ (n : Nat) (s0 : SS) (a0 : Int32) (a1 : Int32) (a2 : Int32) (a3 : Int32), Lk b0 s0 → (0 ≤ (zS s0 15 11).toInt ∧ (zS s0 15 11).toInt + 10 * (n : Int) ≤ 90000) → ((if a0 = 2 ∨ a0 = 3 ∨ a0 = 4 ∨ a0 = 5 ∨ a0 = 7 then 2 else 1) ≤ (n : Int)) → Ok (f_X0_carriesFrom n s0 a0 a1 a2 a3) (fun r => Lk b0 r.2 ∧ (0 ≤ (zS r.2 15 11).toInt ∧ (zS r.2 15 11).toInt ≤ (zS s0 15 11).toInt + 10 * (n : Int))) := by
  intro n
  induction n with
  | zero =>
    intro s0 a0 a1 a2 a3 K i0 i1
    exfalso
    (first | with_reducible assumption | omega | ((try clear ih); (try clear hr); (try clear hq0); (try clear hq1); (try clear hrec); ((try simp only [inB, Rs, Pg, Px, Ps, Pr, Pl, jcl, Rg, cellOK, bF, bA, bH, bV, jlt, jeq, jd4, jd10, jd20, jd24, jd60, jd100, jm4, jm10, jm20, jm24, jm60, jm100, Int32.reduceToInt, jn1, jn2, jn3, jn4, jn5, jn6, jn7, jn8, jn9, jn10, jn11, jn12, jn13, jn14, jn15, jn16, jn17, jn18, jn19, jn20, jn21, jn22, jn23, jn24, jn100, jn2000000000, zS_pS, zS_pI, zS_pJ, zS_pR, zS_pF, zS_pG, zI_pI, zI_pS, zI_pJ, zI_pR, zI_pF, zI_pG, zN_pS, zN_pI, zN_pJ, Nat.reduceEqDiff, Nat.reduceAdd, Nat.reduceMul, ite_true, ite_false, and_true, true_and, and_false, false_and, true_or, or_true, false_or, or_false, not_true_eq_false, not_false_eq_true, reduceIte, reduceCtorEq, eq_self] at *) <;> (first | omega | ((try simp (disch := first | omega | (simp (disch := first | omega | (simp (disch := first | omega | (simp only [jd4, jd10, jd20, jd24, jd60, jd100, jm4, jm10, jm20, jm24, jm60, jm100, Int32.reduceToInt]; omega)) only [i32_add, i32_sub, i32_mul, jd4, jd10, jd20, jd24, jd60, jd100, jm4, jm10, jm20, jm24, jm60, jm100, Int32.reduceToInt]; omega)) only [i32_add, i32_sub, i32_mul, jd4, jd10, jd20, jd24, jd60, jd100, jm4, jm10, jm20, jm24, jm60, jm100, Int32.reduceToInt]; omega)) only [i32_add, i32_sub, i32_mul, jd4, jd10, jd20, jd24, jd60, jd100, jm4, jm10, jm20, jm24, jm60, jm100, Int32.reduceToInt] at *) <;> (first | omega | ((try simp (disch := first | omega | (simp (disch := first | omega | (simp (disch := first | omega | (simp only [jd4, jd10, jd20, jd24, jd60, jd100, jm4, jm10, jm20, jm24, jm60, jm100, Int32.reduceToInt]; omega)) only [i32_add, i32_sub, i32_mul, jd4, jd10, jd20, jd24, jd60, jd100, jm4, jm10, jm20, jm24, jm60, jm100, Int32.reduceToInt]; omega)) only [i32_add, i32_sub, i32_mul, jd4, jd10, jd20, jd24, jd60, jd100, jm4, jm10, jm20, jm24, jm60, jm100, Int32.reduceToInt]; omega)) only [i32_add, i32_sub, i32_mul, jd4, jd10, jd20, jd24, jd60, jd100, jm4, jm10, jm20, jm24, jm60, jm100, Int32.reduceToInt] at *) <;> (first | omega | ((simp only [jadd, jsub, jmul, jneg, Int32.reduceToInt] at *) <;> omega)))))))))
  | succ n ih =>
    intro s0 a0 a1 a2 a3 K i0 i1
    show Ok (f_X0_carriesFrom_r (f_X0_carriesFrom n) s0 a0 a1 a2 a3) _
    unfold f_X0_carriesFrom_r
    repeat' (first
      | with_reducible assumption
      | dsimp only
      | with_reducible refine Ok_some ?_
      | with_reducible refine Lk_g120 (by assumption) ?_ (fun _ _ _ _ _ => ?_)
      | with_reducible refine Lk_g3 (by assumption) ?_ (fun _ _ => ?_)
      | with_reducible refine Lk_g8 (by assumption) ?_ (fun _ _ => ?_)
      | with_reducible refine Lk_g60 (by assumption) ?_ (fun _ _ => ?_)
      | with_reducible refine Lk_g40 (by assumption) ?_ (fun _ _ => ?_)
      | with_reducible refine Lk_g6 (by assumption) ?_ (fun _ _ _ => ?_)
      | with_reducible refine Ok_gd ?_ (fun _ => ?_)
      | with_reducible refine Ok_vl ?_
      | with_reducible refine Ok_wl ?_
      | with_reducible refine Ok_st ?_
      | with_reducible refine Ok_jn ?_
      | with_reducible refine Ok_b1 ?_
      | with_reducible refine Ok_bd ?_
      | with_reducible refine Ok_onN ?_
      | with_reducible refine Ok_onS ?_
      | with_reducible refine Ok_ift (by decide) ?_
      | with_reducible refine Ok_iff (by decide) ?_
      | with_reducible refine Ok_if (fun _ => ?_) (fun _ => ?_)
      | with_reducible refine Lk_onM (b0 := b0) ?_ (by assumption) (fun _ _ _ => ?_)
      | with_reducible refine Lk_onV (b0 := b0) ?_ (by assumption) (fun _ _ _ _ => ?_)
      | with_reducible refine Lk_onH (b0 := b0) ?_ (by assumption) (fun _ => ?_) (fun _ _ _ _ _ _ => ?_)
      | with_reducible refine Lk_onC (b0 := b0) ?_ (by assumption) (fun _ => ?_) (fun _ _ _ _ => ?_)
      | with_reducible refine Lk_onT (b0 := b0) ?_ (by assumption) (fun _ => ?_) (fun _ _ _ _ => ?_)
      | with_reducible refine Ok.mono (ih _ _ _ _ _  ?_ ?_ ?_ ) (fun _ ⟨_, _⟩ => ?_)
      | with_reducible refine Ok.mono (w_X0_runs (b0 := b0) ?_ ?_) (fun _ ⟨_, _⟩ => ?_)
      | with_reducible refine Ok.mono (w_X0_widthOf (b0 := b0) ?_) (fun _ _ => ?_)
      | with_reducible refine Ok.mono (w_X0_kindOf (b0 := b0) ?_) (fun _ _ => ?_)
      | with_reducible refine Ok.mono (w_X0_boresFrom (b0 := b0) _ _ _ _ _ _  ?_ ?_ ?_ ) (fun _ ⟨_, _⟩ => ?_)
      | with_reducible refine Ok.mono (w_X0_strengthOf (b0 := b0) ?_) (fun _ _ => ?_)
      | with_reducible refine Lk.wI ?_ (by decide) (by decide) ?_
      | with_reducible refine Lk.wF ?_ (by decide) (by decide) (by decide) ?_
      | with_reducible refine Lk.wH ?_ (by assumption) ?_
      | with_reducible refine Lk.wV ?_ (by assumption) ?_
      | with_reducible refine Lk.wM ?_ (by assumption)
      | with_reducible refine Lk.wC ?_ (by assumption)
      | with_reducible refine Lk.w1 ?_ (by assumption)
      | with_reducible refine Lk.w2 ?_ (by assumption)
      | with_reducible refine Lk.w3 ?_ (by assumption)
      | with_reducible refine Lk.wc1 ?_ (by assumption)
      | with_reducible refine Lk.wJ ?_
      | with_reducible refine Lk.wG ?_
      | with_reducible refine Lk.wK ?_
      | with_reducible refine Lk.wFI ?_ (by decide) (by decide) ?_
      | with_reducible refine And.intro ?_ ?_)
    all_goals (try (first | with_reducible assumption | exact trivial | omega | ((try clear ih); (try clear hr); (try clear hq0); (try clear hq1); (try clear hrec); ((try simp only [inB, Rs, Pg, Px, Ps, Pr, Pl, jcl, Rg, cellOK, bF, bA, bH, bV, jlt, jeq, jd4, jd10, jd20, jd24, jd60, jd100, jm4, jm10, jm20, jm24, jm60, jm100, Int32.reduceToInt, jn1, jn2, jn3, jn4, jn5, jn6, jn7, jn8, jn9, jn10, jn11, jn12, jn13, jn14, jn15, jn16, jn17, jn18, jn19, jn20, jn21, jn22, jn23, jn24, jn100, jn2000000000, zS_pS, zS_pI, zS_pJ, zS_pR, zS_pF, zS_pG, zI_pI, zI_pS, zI_pJ, zI_pR, zI_pF, zI_pG, zN_pS, zN_pI, zN_pJ, Nat.reduceEqDiff, Nat.reduceAdd, Nat.reduceMul, ite_true, ite_false, and_true, true_and, and_false, false_and, true_or, or_true, false_or, or_false, not_true_eq_false, not_false_eq_true, reduceIte, reduceCtorEq, eq_self] at *) <;> (first | omega | ((try simp (disch := first | omega | (simp (disch := first | omega | (simp (disch := first | omega | (simp only [jd4, jd10, jd20, jd24, jd60, jd100, jm4, jm10, jm20, jm24, jm60, jm100, Int32.reduceToInt]; omega)) only [i32_add, i32_sub, i32_mul, jd4, jd10, jd20, jd24, jd60, jd100, jm4, jm10, jm20, jm24, jm60, jm100, Int32.reduceToInt]; omega)) only [i32_add, i32_sub, i32_mul, jd4, jd10, jd20, jd24, jd60, jd100, jm4, jm10, jm20, jm24, jm60, jm100, Int32.reduceToInt]; omega)) only [i32_add, i32_sub, i32_mul, jd4, jd10, jd20, jd24, jd60, jd100, jm4, jm10, jm20, jm24, jm60, jm100, Int32.reduceToInt] at *) <;> (first | omega | ((try simp (disch := first | omega | (simp (disch := first | omega | (simp (disch := first | omega | (simp only [jd4, jd10, jd20, jd24, jd60, jd100, jm4, jm10, jm20, jm24, jm60, jm100, Int32.reduceToInt]; omega)) only [i32_add, i32_sub, i32_mul, jd4, jd10, jd20, jd24, jd60, jd100, jm4, jm10, jm20, jm24, jm60, jm100, Int32.reduceToInt]; omega)) only [i32_add, i32_sub, i32_mul, jd4, jd10, jd20, jd24, jd60, jd100, jm4, jm10, jm20, jm24, jm60, jm100, Int32.reduceToInt]; omega)) only [i32_add, i32_sub, i32_mul, jd4, jd10, jd20, jd24, jd60, jd100, jm4, jm10, jm20, jm24, jm60, jm100, Int32.reduceToInt] at *) <;> (first | omega | ((simp only [jadd, jsub, jmul, jneg, Int32.reduceToInt] at *) <;> omega))))))))))
set_option maxRecDepth 4000 in
theorem w_X0_holdsFrom {b0 : SS} : ∀ (n : Nat) (s0 : SS) (a0 : Int32) (a1 : Int32) (a2 : Int32) (a3 : Int32), Lk b0 s0 → (0 ≤ (zS s0 15 11).toInt ∧ (zS s0 15 11).toInt + 100 * (n : Int) ≤ 80000) → ((if a0 = 3 ∨ a0 = 5 ∨ a0 = 6 then 2 else 1) ≤ (n : Int)) → Ok (f_X0_holdsFrom n s0 a0 a1 a2 a3) (fun r => Lk b0 r.2 ∧ (0 ≤ (zS r.2 15 11).toInt ∧ (zS r.2 15 11).toInt ≤ (zS s0 15 11).toInt + 100 * (n : Int))) := by
  intro n
  induction n with
  | zero =>
    intro s0 a0 a1 a2 a3 K i0 i1
    exfalso
    (first | with_reducible assumption | omega | ((try clear ih); (try clear hr); (try clear hq0); (try clear hq1); (try clear hrec); ((try simp only [inB, Rs, Pg, Px, Ps, Pr, Pl, jcl, Rg, cellOK, bF, bA, bH, bV, jlt, jeq, jd4, jd10, jd20, jd24, jd60, jd100, jm4, jm10, jm20, jm24, jm60, jm100, Int32.reduceToInt, jn1, jn2, jn3, jn4, jn5, jn6, jn7, jn8, jn9, jn10, jn11, jn12, jn13, jn14, jn15, jn16, jn17, jn18, jn19, jn20, jn21, jn22, jn23, jn24, jn100, jn2000000000, zS_pS, zS_pI, zS_pJ, zS_pR, zS_pF, zS_pG, zI_pI, zI_pS, zI_pJ, zI_pR, zI_pF, zI_pG, zN_pS, zN_pI, zN_pJ, Nat.reduceEqDiff, Nat.reduceAdd, Nat.reduceMul, ite_true, ite_false, and_true, true_and, and_false, false_and, true_or, or_true, false_or, or_false, not_true_eq_false, not_false_eq_true, reduceIte, reduceCtorEq, eq_self] at *) <;> (first | omega | ((try simp (disch := first | omega | (simp (disch := first | omega | (simp (disch := first | omega | (simp only [jd4, jd10, jd20, jd24, jd60, jd100, jm4, jm10, jm20, jm24, jm60, jm100, Int32.reduceToInt]; omega)) only [i32_add, i32_sub, i32_mul, jd4, jd10, jd20, jd24, jd60, jd100, jm4, jm10, jm20, jm24, jm60, jm100, Int32.reduceToInt]; omega)) only [i32_add, i32_sub, i32_mul, jd4, jd10, jd20, jd24, jd60, jd100, jm4, jm10, jm20, jm24, jm60, jm100, Int32.reduceToInt]; omega)) only [i32_add, i32_sub, i32_mul, jd4, jd10, jd20, jd24, jd60, jd100, jm4, jm10, jm20, jm24, jm60, jm100, Int32.reduceToInt] at *) <;> (first | omega | ((try simp (disch := first | omega | (simp (disch := first | omega | (simp (disch := first | omega | (simp only [jd4, jd10, jd20, jd24, jd60, jd100, jm4, jm10, jm20, jm24, jm60, jm100, Int32.reduceToInt]; omega)) only [i32_add, i32_sub, i32_mul, jd4, jd10, jd20, jd24, jd60, jd100, jm4, jm10, jm20, jm24, jm60, jm100, Int32.reduceToInt]; omega)) only [i32_add, i32_sub, i32_mul, jd4, jd10, jd20, jd24, jd60, jd100, jm4, jm10, jm20, jm24, jm60, jm100, Int32.reduceToInt]; omega)) only [i32_add, i32_sub, i32_mul, jd4, jd10, jd20, jd24, jd60, jd100, jm4, jm10, jm20, jm24, jm60, jm100, Int32.reduceToInt] at *) <;> (first | omega | ((simp only [jadd, jsub, jmul, jneg, Int32.reduceToInt] at *) <;> omega)))))))))
  | succ n ih =>
    intro s0 a0 a1 a2 a3 K i0 i1
    show Ok (f_X0_holdsFrom_r (f_X0_holdsFrom n) s0 a0 a1 a2 a3) _
    unfold f_X0_holdsFrom_r
    repeat' (first
      | with_reducible assumption
      | dsimp only
      | with_reducible refine Ok_some ?_
      | with_reducible refine Lk_g120 (by assumption) ?_ (fun _ _ _ _ _ => ?_)
      | with_reducible refine Lk_g3 (by assumption) ?_ (fun _ _ => ?_)
      | with_reducible refine Lk_g8 (by assumption) ?_ (fun _ _ => ?_)
      | with_reducible refine Lk_g60 (by assumption) ?_ (fun _ _ => ?_)
      | with_reducible refine Lk_g40 (by assumption) ?_ (fun _ _ => ?_)
      | with_reducible refine Lk_g6 (by assumption) ?_ (fun _ _ _ => ?_)
      | with_reducible refine Ok_gd ?_ (fun _ => ?_)
      | with_reducible refine Ok_vl ?_
      | with_reducible refine Ok_wl ?_
      | with_reducible refine Ok_st ?_
      | with_reducible refine Ok_jn ?_
      | with_reducible refine Ok_b1 ?_
      | with_reducible refine Ok_bd ?_
      | with_reducible refine Ok_onN ?_
      | with_reducible refine Ok_onS ?_
      | with_reducible refine Ok_ift (by decide) ?_
      | with_reducible refine Ok_iff (by decide) ?_
      | with_reducible refine Ok_if (fun _ => ?_) (fun _ => ?_)
      | with_reducible refine Lk_onM (b0 := b0) ?_ (by assumption) (fun _ _ _ => ?_)
      | with_reducible refine Lk_onV (b0 := b0) ?_ (by assumption) (fun _ _ _ _ => ?_)
      | with_reducible refine Lk_onH (b0 := b0) ?_ (by assumption) (fun _ => ?_) (fun _ _ _ _ _ _ => ?_)
      | with_reducible refine Lk_onC (b0 := b0) ?_ (by assumption) (fun _ => ?_) (fun _ _ _ _ => ?_)
      | with_reducible refine Lk_onT (b0 := b0) ?_ (by assumption) (fun _ => ?_) (fun _ _ _ _ => ?_)
      | with_reducible refine Ok.mono (ih _ _ _ _ _  ?_ ?_ ?_ ) (fun _ ⟨_, _⟩ => ?_)
      | with_reducible refine Ok.mono (w_X0_runs (b0 := b0) ?_ ?_) (fun _ ⟨_, _⟩ => ?_)
      | with_reducible refine Ok.mono (w_X0_kindOf (b0 := b0) ?_) (fun _ _ => ?_)
      | with_reducible refine Ok.mono (w_X0_carriesFrom (b0 := b0) _ _ _ _ _ _  ?_ ?_ ?_ ) (fun _ ⟨_, _⟩ => ?_)
      | with_reducible refine Lk.wI ?_ (by decide) (by decide) ?_
      | with_reducible refine Lk.wF ?_ (by decide) (by decide) (by decide) ?_
      | with_reducible refine Lk.wH ?_ (by assumption) ?_
      | with_reducible refine Lk.wV ?_ (by assumption) ?_
      | with_reducible refine Lk.wM ?_ (by assumption)
      | with_reducible refine Lk.wC ?_ (by assumption)
      | with_reducible refine Lk.w1 ?_ (by assumption)
      | with_reducible refine Lk.w2 ?_ (by assumption)
      | with_reducible refine Lk.w3 ?_ (by assumption)
      | with_reducible refine Lk.wc1 ?_ (by assumption)
      | with_reducible refine Lk.wJ ?_
      | with_reducible refine Lk.wG ?_
      | with_reducible refine Lk.wK ?_
      | with_reducible refine Lk.wFI ?_ (by decide) (by decide) ?_
      | with_reducible refine And.intro ?_ ?_)
    all_goals (try (first | with_reducible assumption | exact trivial | omega | ((try clear ih); (try clear hr); (try clear hq0); (try clear hq1); (try clear hrec); ((try simp only [inB, Rs, Pg, Px, Ps, Pr, Pl, jcl, Rg, cellOK, bF, bA, bH, bV, jlt, jeq, jd4, jd10, jd20, jd24, jd60, jd100, jm4, jm10, jm20, jm24, jm60, jm100, Int32.reduceToInt, jn1, jn2, jn3, jn4, jn5, jn6, jn7, jn8, jn9, jn10, jn11, jn12, jn13, jn14, jn15, jn16, jn17, jn18, jn19, jn20, jn21, jn22, jn23, jn24, jn100, jn2000000000, zS_pS, zS_pI, zS_pJ, zS_pR, zS_pF, zS_pG, zI_pI, zI_pS, zI_pJ, zI_pR, zI_pF, zI_pG, zN_pS, zN_pI, zN_pJ, Nat.reduceEqDiff, Nat.reduceAdd, Nat.reduceMul, ite_true, ite_false, and_true, true_and, and_false, false_and, true_or, or_true, false_or, or_false, not_true_eq_false, not_false_eq_true, reduceIte, reduceCtorEq, eq_self] at *) <;> (first | omega | ((try simp (disch := first | omega | (simp (disch := first | omega | (simp (disch := first | omega | (simp only [jd4, jd10, jd20, jd24, jd60, jd100, jm4, jm10, jm20, jm24, jm60, jm100, Int32.reduceToInt]; omega)) only [i32_add, i32_sub, i32_mul, jd4, jd10, jd20, jd24, jd60, jd100, jm4, jm10, jm20, jm24, jm60, jm100, Int32.reduceToInt]; omega)) only [i32_add, i32_sub, i32_mul, jd4, jd10, jd20, jd24, jd60, jd100, jm4, jm10, jm20, jm24, jm60, jm100, Int32.reduceToInt]; omega)) only [i32_add, i32_sub, i32_mul, jd4, jd10, jd20, jd24, jd60, jd100, jm4, jm10, jm20, jm24, jm60, jm100, Int32.reduceToInt] at *) <;> (first | omega | ((try simp (disch := first | omega | (simp (disch := first | omega | (simp (disch := first | omega | (simp only [jd4, jd10, jd20, jd24, jd60, jd100, jm4, jm10, jm20, jm24, jm60, jm100, Int32.reduceToInt]; omega)) only [i32_add, i32_sub, i32_mul, jd4, jd10, jd20, jd24, jd60, jd100, jm4, jm10, jm20, jm24, jm60, jm100, Int32.reduceToInt]; omega)) only [i32_add, i32_sub, i32_mul, jd4, jd10, jd20, jd24, jd60, jd100, jm4, jm10, jm20, jm24, jm60, jm100, Int32.reduceToInt]; omega)) only [i32_add, i32_sub, i32_mul, jd4, jd10, jd20, jd24, jd60, jd100, jm4, jm10, jm20, jm24, jm60, jm100, Int32.reduceToInt] at *) <;> (first | omega | ((simp only [jadd, jsub, jmul, jneg, Int32.reduceToInt] at *) <;> omega))))))))))
set_option maxRecDepth 4000 in
theorem w_X0_tellsFrom {b0 : SS} : ∀ (n : Nat) (s0 : SS) (a0 : Int32) (a1 : Int32) (a2 : Int32) (a3 : Int32), Lk b0 s0 → (0 ≤ (zS s0 15 11).toInt ∧ (zS s0 15 11).toInt + 1000 * (n : Int) ≤ 70000) → ((if a0 = 4 ∨ a0 = 5 then 2 else 1) ≤ (n : Int)) → Ok (f_X0_tellsFrom n s0 a0 a1 a2 a3) (fun r => Lk b0 r.2 ∧ (0 ≤ (zS r.2 15 11).toInt ∧ (zS r.2 15 11).toInt ≤ (zS s0 15 11).toInt + 1000 * (n : Int))) := by
  intro n
  induction n with
  | zero =>
    intro s0 a0 a1 a2 a3 K i0 i1
    exfalso
    (first | with_reducible assumption | omega | ((try clear ih); (try clear hr); (try clear hq0); (try clear hq1); (try clear hrec); ((try simp only [inB, Rs, Pg, Px, Ps, Pr, Pl, jcl, Rg, cellOK, bF, bA, bH, bV, jlt, jeq, jd4, jd10, jd20, jd24, jd60, jd100, jm4, jm10, jm20, jm24, jm60, jm100, Int32.reduceToInt, jn1, jn2, jn3, jn4, jn5, jn6, jn7, jn8, jn9, jn10, jn11, jn12, jn13, jn14, jn15, jn16, jn17, jn18, jn19, jn20, jn21, jn22, jn23, jn24, jn100, jn2000000000, zS_pS, zS_pI, zS_pJ, zS_pR, zS_pF, zS_pG, zI_pI, zI_pS, zI_pJ, zI_pR, zI_pF, zI_pG, zN_pS, zN_pI, zN_pJ, Nat.reduceEqDiff, Nat.reduceAdd, Nat.reduceMul, ite_true, ite_false, and_true, true_and, and_false, false_and, true_or, or_true, false_or, or_false, not_true_eq_false, not_false_eq_true, reduceIte, reduceCtorEq, eq_self] at *) <;> (first | omega | ((try simp (disch := first | omega | (simp (disch := first | omega | (simp (disch := first | omega | (simp only [jd4, jd10, jd20, jd24, jd60, jd100, jm4, jm10, jm20, jm24, jm60, jm100, Int32.reduceToInt]; omega)) only [i32_add, i32_sub, i32_mul, jd4, jd10, jd20, jd24, jd60, jd100, jm4, jm10, jm20, jm24, jm60, jm100, Int32.reduceToInt]; omega)) only [i32_add, i32_sub, i32_mul, jd4, jd10, jd20, jd24, jd60, jd100, jm4, jm10, jm20, jm24, jm60, jm100, Int32.reduceToInt]; omega)) only [i32_add, i32_sub, i32_mul, jd4, jd10, jd20, jd24, jd60, jd100, jm4, jm10, jm20, jm24, jm60, jm100, Int32.reduceToInt] at *) <;> (first | omega | ((try simp (disch := first | omega | (simp (disch := first | omega | (simp (disch := first | omega | (simp only [jd4, jd10, jd20, jd24, jd60, jd100, jm4, jm10, jm20, jm24, jm60, jm100, Int32.reduceToInt]; omega)) only [i32_add, i32_sub, i32_mul, jd4, jd10, jd20, jd24, jd60, jd100, jm4, jm10, jm20, jm24, jm60, jm100, Int32.reduceToInt]; omega)) only [i32_add, i32_sub, i32_mul, jd4, jd10, jd20, jd24, jd60, jd100, jm4, jm10, jm20, jm24, jm60, jm100, Int32.reduceToInt]; omega)) only [i32_add, i32_sub, i32_mul, jd4, jd10, jd20, jd24, jd60, jd100, jm4, jm10, jm20, jm24, jm60, jm100, Int32.reduceToInt] at *) <;> (first | omega | ((simp only [jadd, jsub, jmul, jneg, Int32.reduceToInt] at *) <;> omega)))))))))
  | succ n ih =>
    intro s0 a0 a1 a2 a3 K i0 i1
    show Ok (f_X0_tellsFrom_r (f_X0_tellsFrom n) s0 a0 a1 a2 a3) _
    unfold f_X0_tellsFrom_r
    repeat' (first
      | with_reducible assumption
      | dsimp only
      | with_reducible refine Ok_some ?_
      | with_reducible refine Lk_g120 (by assumption) ?_ (fun _ _ _ _ _ => ?_)
      | with_reducible refine Lk_g3 (by assumption) ?_ (fun _ _ => ?_)
      | with_reducible refine Lk_g8 (by assumption) ?_ (fun _ _ => ?_)
      | with_reducible refine Lk_g60 (by assumption) ?_ (fun _ _ => ?_)
      | with_reducible refine Lk_g40 (by assumption) ?_ (fun _ _ => ?_)
      | with_reducible refine Lk_g6 (by assumption) ?_ (fun _ _ _ => ?_)
      | with_reducible refine Ok_gd ?_ (fun _ => ?_)
      | with_reducible refine Ok_vl ?_
      | with_reducible refine Ok_wl ?_
      | with_reducible refine Ok_st ?_
      | with_reducible refine Ok_jn ?_
      | with_reducible refine Ok_b1 ?_
      | with_reducible refine Ok_bd ?_
      | with_reducible refine Ok_onN ?_
      | with_reducible refine Ok_onS ?_
      | with_reducible refine Ok_ift (by decide) ?_
      | with_reducible refine Ok_iff (by decide) ?_
      | with_reducible refine Ok_if (fun _ => ?_) (fun _ => ?_)
      | with_reducible refine Lk_onM (b0 := b0) ?_ (by assumption) (fun _ _ _ => ?_)
      | with_reducible refine Lk_onV (b0 := b0) ?_ (by assumption) (fun _ _ _ _ => ?_)
      | with_reducible refine Lk_onH (b0 := b0) ?_ (by assumption) (fun _ => ?_) (fun _ _ _ _ _ _ => ?_)
      | with_reducible refine Lk_onC (b0 := b0) ?_ (by assumption) (fun _ => ?_) (fun _ _ _ _ => ?_)
      | with_reducible refine Lk_onT (b0 := b0) ?_ (by assumption) (fun _ => ?_) (fun _ _ _ _ => ?_)
      | with_reducible refine Ok.mono (ih _ _ _ _ _  ?_ ?_ ?_ ) (fun _ ⟨_, _⟩ => ?_)
      | with_reducible refine Ok.mono (w_X0_runs (b0 := b0) ?_ ?_) (fun _ ⟨_, _⟩ => ?_)
      | with_reducible refine Ok.mono (w_X0_kindOf (b0 := b0) ?_) (fun _ _ => ?_)
      | with_reducible refine Ok.mono (w_X0_carriesFrom (b0 := b0) _ _ _ _ _ _  ?_ ?_ ?_ ) (fun _ ⟨_, _⟩ => ?_)
      | with_reducible refine Ok.mono (w_X0_holdsFrom (b0 := b0) _ _ _ _ _ _  ?_ ?_ ?_ ) (fun _ ⟨_, _⟩ => ?_)
      | with_reducible refine Lk.wI ?_ (by decide) (by decide) ?_
      | with_reducible refine Lk.wF ?_ (by decide) (by decide) (by decide) ?_
      | with_reducible refine Lk.wH ?_ (by assumption) ?_
      | with_reducible refine Lk.wV ?_ (by assumption) ?_
      | with_reducible refine Lk.wM ?_ (by assumption)
      | with_reducible refine Lk.wC ?_ (by assumption)
      | with_reducible refine Lk.w1 ?_ (by assumption)
      | with_reducible refine Lk.w2 ?_ (by assumption)
      | with_reducible refine Lk.w3 ?_ (by assumption)
      | with_reducible refine Lk.wc1 ?_ (by assumption)
      | with_reducible refine Lk.wJ ?_
      | with_reducible refine Lk.wG ?_
      | with_reducible refine Lk.wK ?_
      | with_reducible refine Lk.wFI ?_ (by decide) (by decide) ?_
      | with_reducible refine And.intro ?_ ?_)
    all_goals (try (first | with_reducible assumption | exact trivial | omega | ((try clear ih); (try clear hr); (try clear hq0); (try clear hq1); (try clear hrec); ((try simp only [inB, Rs, Pg, Px, Ps, Pr, Pl, jcl, Rg, cellOK, bF, bA, bH, bV, jlt, jeq, jd4, jd10, jd20, jd24, jd60, jd100, jm4, jm10, jm20, jm24, jm60, jm100, Int32.reduceToInt, jn1, jn2, jn3, jn4, jn5, jn6, jn7, jn8, jn9, jn10, jn11, jn12, jn13, jn14, jn15, jn16, jn17, jn18, jn19, jn20, jn21, jn22, jn23, jn24, jn100, jn2000000000, zS_pS, zS_pI, zS_pJ, zS_pR, zS_pF, zS_pG, zI_pI, zI_pS, zI_pJ, zI_pR, zI_pF, zI_pG, zN_pS, zN_pI, zN_pJ, Nat.reduceEqDiff, Nat.reduceAdd, Nat.reduceMul, ite_true, ite_false, and_true, true_and, and_false, false_and, true_or, or_true, false_or, or_false, not_true_eq_false, not_false_eq_true, reduceIte, reduceCtorEq, eq_self] at *) <;> (first | omega | ((try simp (disch := first | omega | (simp (disch := first | omega | (simp (disch := first | omega | (simp only [jd4, jd10, jd20, jd24, jd60, jd100, jm4, jm10, jm20, jm24, jm60, jm100, Int32.reduceToInt]; omega)) only [i32_add, i32_sub, i32_mul, jd4, jd10, jd20, jd24, jd60, jd100, jm4, jm10, jm20, jm24, jm60, jm100, Int32.reduceToInt]; omega)) only [i32_add, i32_sub, i32_mul, jd4, jd10, jd20, jd24, jd60, jd100, jm4, jm10, jm20, jm24, jm60, jm100, Int32.reduceToInt]; omega)) only [i32_add, i32_sub, i32_mul, jd4, jd10, jd20, jd24, jd60, jd100, jm4, jm10, jm20, jm24, jm60, jm100, Int32.reduceToInt] at *) <;> (first | omega | ((try simp (disch := first | omega | (simp (disch := first | omega | (simp (disch := first | omega | (simp only [jd4, jd10, jd20, jd24, jd60, jd100, jm4, jm10, jm20, jm24, jm60, jm100, Int32.reduceToInt]; omega)) only [i32_add, i32_sub, i32_mul, jd4, jd10, jd20, jd24, jd60, jd100, jm4, jm10, jm20, jm24, jm60, jm100, Int32.reduceToInt]; omega)) only [i32_add, i32_sub, i32_mul, jd4, jd10, jd20, jd24, jd60, jd100, jm4, jm10, jm20, jm24, jm60, jm100, Int32.reduceToInt]; omega)) only [i32_add, i32_sub, i32_mul, jd4, jd10, jd20, jd24, jd60, jd100, jm4, jm10, jm20, jm24, jm60, jm100, Int32.reduceToInt] at *) <;> (first | omega | ((simp only [jadd, jsub, jmul, jneg, Int32.reduceToInt] at *) <;> omega))))))))))
set_option maxRecDepth 4000 in
theorem w_X0_acted {b0 : SS} {s0 : SS} {a0 : Int32} {a1 : Int32} {a2 : Int32} (K : Lk b0 s0) : Ok (f_X0_acted s0 a0 a1 a2) (fun r => Lk b0 r.2) := by
  unfold f_X0_acted
  repeat' (first
    | with_reducible assumption
    | dsimp only
    | with_reducible refine Ok_some ?_
    | with_reducible refine Lk_g120 (by assumption) ?_ (fun _ _ _ _ _ => ?_)
    | with_reducible refine Lk_g3 (by assumption) ?_ (fun _ _ => ?_)
    | with_reducible refine Lk_g8 (by assumption) ?_ (fun _ _ => ?_)
    | with_reducible refine Lk_g60 (by assumption) ?_ (fun _ _ => ?_)
    | with_reducible refine Lk_g40 (by assumption) ?_ (fun _ _ => ?_)
    | with_reducible refine Lk_g6 (by assumption) ?_ (fun _ _ _ => ?_)
    | with_reducible refine Ok_gd ?_ (fun _ => ?_)
    | with_reducible refine Ok_vl ?_
    | with_reducible refine Ok_wl ?_
    | with_reducible refine Ok_st ?_
    | with_reducible refine Ok_jn ?_
    | with_reducible refine Ok_b1 ?_
    | with_reducible refine Ok_bd ?_
    | with_reducible refine Ok_onN ?_
    | with_reducible refine Ok_onS ?_
    | with_reducible refine Ok_ift (by decide) ?_
    | with_reducible refine Ok_iff (by decide) ?_
    | with_reducible refine Ok_if (fun _ => ?_) (fun _ => ?_)
    | with_reducible refine Lk_onM (b0 := b0) ?_ (by assumption) (fun _ _ _ => ?_)
    | with_reducible refine Lk_onV (b0 := b0) ?_ (by assumption) (fun _ _ _ _ => ?_)
    | with_reducible refine Lk_onH (b0 := b0) ?_ (by assumption) (fun _ => ?_) (fun _ _ _ _ _ _ => ?_)
    | with_reducible refine Lk_onC (b0 := b0) ?_ (by assumption) (fun _ => ?_) (fun _ _ _ _ => ?_)
    | with_reducible refine Lk_onT (b0 := b0) ?_ (by assumption) (fun _ => ?_) (fun _ _ _ _ => ?_)
    | with_reducible refine Ok.mono (w_X0_kindOf (b0 := b0) ?_) (fun _ _ => ?_)
    | with_reducible refine Ok.mono (w_X0_boresFrom (b0 := b0) _ _ _ _ _ _  ?_ ?_ ?_ ) (fun _ ⟨_, _⟩ => ?_)
    | with_reducible refine Ok.mono (w_X0_carriesFrom (b0 := b0) _ _ _ _ _ _  ?_ ?_ ?_ ) (fun _ ⟨_, _⟩ => ?_)
    | with_reducible refine Ok.mono (w_X0_holdsFrom (b0 := b0) _ _ _ _ _ _  ?_ ?_ ?_ ) (fun _ ⟨_, _⟩ => ?_)
    | with_reducible refine Ok.mono (w_X0_tellsFrom (b0 := b0) _ _ _ _ _ _  ?_ ?_ ?_ ) (fun _ ⟨_, _⟩ => ?_)
    | with_reducible refine Lk.wI ?_ (by decide) (by decide) ?_
    | with_reducible refine Lk.wF ?_ (by decide) (by decide) (by decide) ?_
    | with_reducible refine Lk.wH ?_ (by assumption) ?_
    | with_reducible refine Lk.wV ?_ (by assumption) ?_
    | with_reducible refine Lk.wM ?_ (by assumption)
    | with_reducible refine Lk.wC ?_ (by assumption)
    | with_reducible refine Lk.w1 ?_ (by assumption)
    | with_reducible refine Lk.w2 ?_ (by assumption)
    | with_reducible refine Lk.w3 ?_ (by assumption)
    | with_reducible refine Lk.wc1 ?_ (by assumption)
    | with_reducible refine Lk.wJ ?_
    | with_reducible refine Lk.wG ?_
    | with_reducible refine Lk.wK ?_
    | with_reducible refine Lk.wFI ?_ (by decide) (by decide) ?_
    | with_reducible refine And.intro ?_ ?_)
  all_goals (try (first | with_reducible assumption | exact trivial | omega | ((try clear ih); (try clear hr); (try clear hq0); (try clear hq1); (try clear hrec); ((try simp only [inB, Rs, Pg, Px, Ps, Pr, Pl, jcl, Rg, cellOK, bF, bA, bH, bV, jlt, jeq, jd4, jd10, jd20, jd24, jd60, jd100, jm4, jm10, jm20, jm24, jm60, jm100, Int32.reduceToInt, jn1, jn2, jn3, jn4, jn5, jn6, jn7, jn8, jn9, jn10, jn11, jn12, jn13, jn14, jn15, jn16, jn17, jn18, jn19, jn20, jn21, jn22, jn23, jn24, jn100, jn2000000000, zS_pS, zS_pI, zS_pJ, zS_pR, zS_pF, zS_pG, zI_pI, zI_pS, zI_pJ, zI_pR, zI_pF, zI_pG, zN_pS, zN_pI, zN_pJ, Nat.reduceEqDiff, Nat.reduceAdd, Nat.reduceMul, ite_true, ite_false, and_true, true_and, and_false, false_and, true_or, or_true, false_or, or_false, not_true_eq_false, not_false_eq_true, reduceIte, reduceCtorEq, eq_self] at *) <;> (first | omega | ((try simp (disch := first | omega | (simp (disch := first | omega | (simp (disch := first | omega | (simp only [jd4, jd10, jd20, jd24, jd60, jd100, jm4, jm10, jm20, jm24, jm60, jm100, Int32.reduceToInt]; omega)) only [i32_add, i32_sub, i32_mul, jd4, jd10, jd20, jd24, jd60, jd100, jm4, jm10, jm20, jm24, jm60, jm100, Int32.reduceToInt]; omega)) only [i32_add, i32_sub, i32_mul, jd4, jd10, jd20, jd24, jd60, jd100, jm4, jm10, jm20, jm24, jm60, jm100, Int32.reduceToInt]; omega)) only [i32_add, i32_sub, i32_mul, jd4, jd10, jd20, jd24, jd60, jd100, jm4, jm10, jm20, jm24, jm60, jm100, Int32.reduceToInt] at *) <;> (first | omega | ((try simp (disch := first | omega | (simp (disch := first | omega | (simp (disch := first | omega | (simp only [jd4, jd10, jd20, jd24, jd60, jd100, jm4, jm10, jm20, jm24, jm60, jm100, Int32.reduceToInt]; omega)) only [i32_add, i32_sub, i32_mul, jd4, jd10, jd20, jd24, jd60, jd100, jm4, jm10, jm20, jm24, jm60, jm100, Int32.reduceToInt]; omega)) only [i32_add, i32_sub, i32_mul, jd4, jd10, jd20, jd24, jd60, jd100, jm4, jm10, jm20, jm24, jm60, jm100, Int32.reduceToInt]; omega)) only [i32_add, i32_sub, i32_mul, jd4, jd10, jd20, jd24, jd60, jd100, jm4, jm10, jm20, jm24, jm60, jm100, Int32.reduceToInt] at *) <;> (first | omega | ((simp only [jadd, jsub, jmul, jneg, Int32.reduceToInt] at *) <;> omega))))))))))
set_option maxRecDepth 4000 in
theorem w_X1_isUnlike {b0 : SS} {s0 : SS} {pt : Nat} {a0 : Int32} {a1 : Int32} {a2 : Int32} {a3 : Int32} (K : Lk b0 s0) (g0 : okC b0 pt) : Ok (f_X1_isUnlike s0 pt a0 a1 a2 a3) (fun _ => True) := by
  unfold f_X1_isUnlike
  repeat' (first
    | with_reducible assumption
    | dsimp only
    | with_reducible refine Ok_jn0 ?_ (fun _ _ => ?_)
    | with_reducible refine Ok_jn1 (fun _ => ?_) (fun _ _ => ?_)
    | with_reducible refine Ok_jn2 (fun _ _ => ?_) (fun _ _ => ?_)
    | with_reducible refine Ok_jnS (b0 := b0) (fun _ _ => ?_) (fun _ _ => ?_)
    | with_reducible refine Ok_jnS1 (b0 := b0) (fun _ _ _ => ?_) (fun _ _ => ?_)
    | with_reducible refine Ok_jnS2 (b0 := b0) (fun _ _ _ _ => ?_) (fun _ _ => ?_)
    | with_reducible refine Ok_k1 (by assumption) _
    | with_reducible refine Ok_k2 (by assumption) _ _
    | with_reducible refine Ok_kS (b0 := b0) (by assumption) ?_
    | with_reducible refine Ok_kS1 (b0 := b0) (by assumption) ?_
    | with_reducible refine Ok_kS2 (b0 := b0) (by assumption) ?_
    | with_reducible refine Ok_some ?_
    | with_reducible refine Lk_g120 (by assumption) ?_ (fun _ _ _ _ _ => ?_)
    | with_reducible refine Lk_g3 (by assumption) ?_ (fun _ _ => ?_)
    | with_reducible refine Lk_g8 (by assumption) ?_ (fun _ _ => ?_)
    | with_reducible refine Lk_g60 (by assumption) ?_ (fun _ _ => ?_)
    | with_reducible refine Lk_g40 (by assumption) ?_ (fun _ _ => ?_)
    | with_reducible refine Lk_g6 (by assumption) ?_ (fun _ _ _ => ?_)
    | with_reducible refine Ok_gd ?_ (fun _ => ?_)
    | with_reducible refine Ok_vl ?_
    | with_reducible refine Ok_wl ?_
    | with_reducible refine Ok_st ?_
    | with_reducible refine Ok_jn ?_
    | with_reducible refine Ok_b1 ?_
    | with_reducible refine Ok_bd ?_
    | with_reducible refine Ok_onN ?_
    | with_reducible refine Ok_onS ?_
    | with_reducible refine Ok_ift (by decide) ?_
    | with_reducible refine Ok_iff (by decide) ?_
    | with_reducible refine Ok_if (fun _ => ?_) (fun _ => ?_)
    | with_reducible refine Lk_onM (b0 := b0) ?_ (by assumption) (fun _ _ _ => ?_)
    | with_reducible refine Lk_onV (b0 := b0) ?_ (by assumption) (fun _ _ _ _ => ?_)
    | with_reducible refine Lk_onH (b0 := b0) ?_ (by assumption) (fun _ => ?_) (fun _ _ _ _ _ _ => ?_)
    | with_reducible refine Lk_onC (b0 := b0) ?_ (by assumption) (fun _ => ?_) (fun _ _ _ _ => ?_)
    | with_reducible refine Lk_onT (b0 := b0) ?_ (by assumption) (fun _ => ?_) (fun _ _ _ _ => ?_)
    | with_reducible refine Lk.wI ?_ (by decide) (by decide) ?_
    | with_reducible refine Lk.wF ?_ (by decide) (by decide) (by decide) ?_
    | with_reducible refine Lk.wH ?_ (by assumption) ?_
    | with_reducible refine Lk.wV ?_ (by assumption) ?_
    | with_reducible refine Lk.wM ?_ (by assumption)
    | with_reducible refine Lk.wC ?_ (by assumption)
    | with_reducible refine Lk.w1 ?_ (by assumption)
    | with_reducible refine Lk.w2 ?_ (by assumption)
    | with_reducible refine Lk.w3 ?_ (by assumption)
    | with_reducible refine Lk.wc1 ?_ (by assumption)
    | with_reducible refine Lk.wJ ?_
    | with_reducible refine Lk.wG ?_
    | with_reducible refine Lk.wK ?_
    | with_reducible refine Lk.wFI ?_ (by decide) (by decide) ?_
    | with_reducible refine And.intro ?_ ?_
    | unfold f_X1_bits
    | unfold f_X11_isYard)
  all_goals (try (first | with_reducible assumption | exact trivial | omega | ((try clear ih); (try clear hr); (try clear hq0); (try clear hq1); (try clear hrec); ((try simp only [inB, Rs, Pg, Px, Ps, Pr, Pl, jcl, Rg, cellOK, bF, bA, bH, bV, jlt, jeq, jd4, jd10, jd20, jd24, jd60, jd100, jm4, jm10, jm20, jm24, jm60, jm100, Int32.reduceToInt, jn1, jn2, jn3, jn4, jn5, jn6, jn7, jn8, jn9, jn10, jn11, jn12, jn13, jn14, jn15, jn16, jn17, jn18, jn19, jn20, jn21, jn22, jn23, jn24, jn100, jn2000000000, zS_pS, zS_pI, zS_pJ, zS_pR, zS_pF, zS_pG, zI_pI, zI_pS, zI_pJ, zI_pR, zI_pF, zI_pG, zN_pS, zN_pI, zN_pJ, Nat.reduceEqDiff, Nat.reduceAdd, Nat.reduceMul, ite_true, ite_false, and_true, true_and, and_false, false_and, true_or, or_true, false_or, or_false, not_true_eq_false, not_false_eq_true, reduceIte, reduceCtorEq, eq_self] at *) <;> (first | omega | ((try simp (disch := first | omega | (simp (disch := first | omega | (simp (disch := first | omega | (simp only [jd4, jd10, jd20, jd24, jd60, jd100, jm4, jm10, jm20, jm24, jm60, jm100, Int32.reduceToInt]; omega)) only [i32_add, i32_sub, i32_mul, jd4, jd10, jd20, jd24, jd60, jd100, jm4, jm10, jm20, jm24, jm60, jm100, Int32.reduceToInt]; omega)) only [i32_add, i32_sub, i32_mul, jd4, jd10, jd20, jd24, jd60, jd100, jm4, jm10, jm20, jm24, jm60, jm100, Int32.reduceToInt]; omega)) only [i32_add, i32_sub, i32_mul, jd4, jd10, jd20, jd24, jd60, jd100, jm4, jm10, jm20, jm24, jm60, jm100, Int32.reduceToInt] at *) <;> (first | omega | ((try simp (disch := first | omega | (simp (disch := first | omega | (simp (disch := first | omega | (simp only [jd4, jd10, jd20, jd24, jd60, jd100, jm4, jm10, jm20, jm24, jm60, jm100, Int32.reduceToInt]; omega)) only [i32_add, i32_sub, i32_mul, jd4, jd10, jd20, jd24, jd60, jd100, jm4, jm10, jm20, jm24, jm60, jm100, Int32.reduceToInt]; omega)) only [i32_add, i32_sub, i32_mul, jd4, jd10, jd20, jd24, jd60, jd100, jm4, jm10, jm20, jm24, jm60, jm100, Int32.reduceToInt]; omega)) only [i32_add, i32_sub, i32_mul, jd4, jd10, jd20, jd24, jd60, jd100, jm4, jm10, jm20, jm24, jm60, jm100, Int32.reduceToInt] at *) <;> (first | omega | ((simp only [jadd, jsub, jmul, jneg, Int32.reduceToInt] at *) <;> omega))))))))))
set_option maxRecDepth 4000 in
theorem w_X1_edge {b0 : SS} {s0 : SS} {pt : Nat} {a0 : Int32} (K : Lk b0 s0) (g0 : okC b0 pt) : Ok (f_X1_edge s0 pt a0) (fun _ => True) := by
  unfold f_X1_edge
  repeat' (first
    | with_reducible assumption
    | dsimp only
    | with_reducible refine Ok_some ?_
    | with_reducible refine Lk_g120 (by assumption) ?_ (fun _ _ _ _ _ => ?_)
    | with_reducible refine Lk_g3 (by assumption) ?_ (fun _ _ => ?_)
    | with_reducible refine Lk_g8 (by assumption) ?_ (fun _ _ => ?_)
    | with_reducible refine Lk_g60 (by assumption) ?_ (fun _ _ => ?_)
    | with_reducible refine Lk_g40 (by assumption) ?_ (fun _ _ => ?_)
    | with_reducible refine Lk_g6 (by assumption) ?_ (fun _ _ _ => ?_)
    | with_reducible refine Ok_gd ?_ (fun _ => ?_)
    | with_reducible refine Ok_vl ?_
    | with_reducible refine Ok_wl ?_
    | with_reducible refine Ok_st ?_
    | with_reducible refine Ok_jn ?_
    | with_reducible refine Ok_b1 ?_
    | with_reducible refine Ok_bd ?_
    | with_reducible refine Ok_onN ?_
    | with_reducible refine Ok_onS ?_
    | with_reducible refine Ok_ift (by decide) ?_
    | with_reducible refine Ok_iff (by decide) ?_
    | with_reducible refine Ok_if (fun _ => ?_) (fun _ => ?_)
    | with_reducible refine Lk_onM (b0 := b0) ?_ (by assumption) (fun _ _ _ => ?_)
    | with_reducible refine Lk_onV (b0 := b0) ?_ (by assumption) (fun _ _ _ _ => ?_)
    | with_reducible refine Lk_onH (b0 := b0) ?_ (by assumption) (fun _ => ?_) (fun _ _ _ _ _ _ => ?_)
    | with_reducible refine Lk_onC (b0 := b0) ?_ (by assumption) (fun _ => ?_) (fun _ _ _ _ => ?_)
    | with_reducible refine Lk_onT (b0 := b0) ?_ (by assumption) (fun _ => ?_) (fun _ _ _ _ => ?_)
    | with_reducible refine Lk.wI ?_ (by decide) (by decide) ?_
    | with_reducible refine Lk.wF ?_ (by decide) (by decide) (by decide) ?_
    | with_reducible refine Lk.wH ?_ (by assumption) ?_
    | with_reducible refine Lk.wV ?_ (by assumption) ?_
    | with_reducible refine Lk.wM ?_ (by assumption)
    | with_reducible refine Lk.wC ?_ (by assumption)
    | with_reducible refine Lk.w1 ?_ (by assumption)
    | with_reducible refine Lk.w2 ?_ (by assumption)
    | with_reducible refine Lk.w3 ?_ (by assumption)
    | with_reducible refine Lk.wc1 ?_ (by assumption)
    | with_reducible refine Lk.wJ ?_
    | with_reducible refine Lk.wG ?_
    | with_reducible refine Lk.wK ?_
    | with_reducible refine Lk.wFI ?_ (by decide) (by decide) ?_
    | with_reducible refine And.intro ?_ ?_)
  all_goals (try (first | with_reducible assumption | exact trivial | omega | ((try clear ih); (try clear hr); (try clear hq0); (try clear hq1); (try clear hrec); ((try simp only [inB, Rs, Pg, Px, Ps, Pr, Pl, jcl, Rg, cellOK, bF, bA, bH, bV, jlt, jeq, jd4, jd10, jd20, jd24, jd60, jd100, jm4, jm10, jm20, jm24, jm60, jm100, Int32.reduceToInt, jn1, jn2, jn3, jn4, jn5, jn6, jn7, jn8, jn9, jn10, jn11, jn12, jn13, jn14, jn15, jn16, jn17, jn18, jn19, jn20, jn21, jn22, jn23, jn24, jn100, jn2000000000, zS_pS, zS_pI, zS_pJ, zS_pR, zS_pF, zS_pG, zI_pI, zI_pS, zI_pJ, zI_pR, zI_pF, zI_pG, zN_pS, zN_pI, zN_pJ, Nat.reduceEqDiff, Nat.reduceAdd, Nat.reduceMul, ite_true, ite_false, and_true, true_and, and_false, false_and, true_or, or_true, false_or, or_false, not_true_eq_false, not_false_eq_true, reduceIte, reduceCtorEq, eq_self] at *) <;> (first | omega | ((try simp (disch := first | omega | (simp (disch := first | omega | (simp (disch := first | omega | (simp only [jd4, jd10, jd20, jd24, jd60, jd100, jm4, jm10, jm20, jm24, jm60, jm100, Int32.reduceToInt]; omega)) only [i32_add, i32_sub, i32_mul, jd4, jd10, jd20, jd24, jd60, jd100, jm4, jm10, jm20, jm24, jm60, jm100, Int32.reduceToInt]; omega)) only [i32_add, i32_sub, i32_mul, jd4, jd10, jd20, jd24, jd60, jd100, jm4, jm10, jm20, jm24, jm60, jm100, Int32.reduceToInt]; omega)) only [i32_add, i32_sub, i32_mul, jd4, jd10, jd20, jd24, jd60, jd100, jm4, jm10, jm20, jm24, jm60, jm100, Int32.reduceToInt] at *) <;> (first | omega | ((try simp (disch := first | omega | (simp (disch := first | omega | (simp (disch := first | omega | (simp only [jd4, jd10, jd20, jd24, jd60, jd100, jm4, jm10, jm20, jm24, jm60, jm100, Int32.reduceToInt]; omega)) only [i32_add, i32_sub, i32_mul, jd4, jd10, jd20, jd24, jd60, jd100, jm4, jm10, jm20, jm24, jm60, jm100, Int32.reduceToInt]; omega)) only [i32_add, i32_sub, i32_mul, jd4, jd10, jd20, jd24, jd60, jd100, jm4, jm10, jm20, jm24, jm60, jm100, Int32.reduceToInt]; omega)) only [i32_add, i32_sub, i32_mul, jd4, jd10, jd20, jd24, jd60, jd100, jm4, jm10, jm20, jm24, jm60, jm100, Int32.reduceToInt] at *) <;> (first | omega | ((simp only [jadd, jsub, jmul, jneg, Int32.reduceToInt] at *) <;> omega))))))))))
set_option maxRecDepth 4000 in
theorem w_X11_held {a0 : Int32} {a1 : Int32} {a2 : Int32} (g0 : a1.toInt ≤ a2.toInt) : Ok (f_X11_held a0 a1 a2) (fun r => a1.toInt ≤ r.toInt ∧ r.toInt ≤ a2.toInt) := by
  unfold f_X11_held
  repeat' (first
    | with_reducible assumption
    | dsimp only
    | with_reducible refine Ok_some ?_
    | with_reducible refine Lk_g120 (by assumption) ?_ (fun _ _ _ _ _ => ?_)
    | with_reducible refine Lk_g3 (by assumption) ?_ (fun _ _ => ?_)
    | with_reducible refine Lk_g8 (by assumption) ?_ (fun _ _ => ?_)
    | with_reducible refine Lk_g60 (by assumption) ?_ (fun _ _ => ?_)
    | with_reducible refine Lk_g40 (by assumption) ?_ (fun _ _ => ?_)
    | with_reducible refine Lk_g6 (by assumption) ?_ (fun _ _ _ => ?_)
    | with_reducible refine Ok_gd ?_ (fun _ => ?_)
    | with_reducible refine Ok_vl ?_
    | with_reducible refine Ok_wl ?_
    | with_reducible refine Ok_st ?_
    | with_reducible refine Ok_jn ?_
    | with_reducible refine Ok_b1 ?_
    | with_reducible refine Ok_bd ?_
    | with_reducible refine Ok_onN ?_
    | with_reducible refine Ok_onS ?_
    | with_reducible refine Ok_ift (by decide) ?_
    | with_reducible refine Ok_iff (by decide) ?_
    | with_reducible refine Ok_if (fun _ => ?_) (fun _ => ?_)
    | with_reducible refine Lk_onM (b0 := b0) ?_ (by assumption) (fun _ _ _ => ?_)
    | with_reducible refine Lk_onV (b0 := b0) ?_ (by assumption) (fun _ _ _ _ => ?_)
    | with_reducible refine Lk_onH (b0 := b0) ?_ (by assumption) (fun _ => ?_) (fun _ _ _ _ _ _ => ?_)
    | with_reducible refine Lk_onC (b0 := b0) ?_ (by assumption) (fun _ => ?_) (fun _ _ _ _ => ?_)
    | with_reducible refine Lk_onT (b0 := b0) ?_ (by assumption) (fun _ => ?_) (fun _ _ _ _ => ?_)
    | with_reducible refine Lk.wI ?_ (by decide) (by decide) ?_
    | with_reducible refine Lk.wF ?_ (by decide) (by decide) (by decide) ?_
    | with_reducible refine Lk.wH ?_ (by assumption) ?_
    | with_reducible refine Lk.wV ?_ (by assumption) ?_
    | with_reducible refine Lk.wM ?_ (by assumption)
    | with_reducible refine Lk.wC ?_ (by assumption)
    | with_reducible refine Lk.w1 ?_ (by assumption)
    | with_reducible refine Lk.w2 ?_ (by assumption)
    | with_reducible refine Lk.w3 ?_ (by assumption)
    | with_reducible refine Lk.wc1 ?_ (by assumption)
    | with_reducible refine Lk.wJ ?_
    | with_reducible refine Lk.wG ?_
    | with_reducible refine Lk.wK ?_
    | with_reducible refine Lk.wFI ?_ (by decide) (by decide) ?_
    | with_reducible refine And.intro ?_ ?_
    | unfold f_J9_min_7cf53
    | unfold f_J9_max_7cf53)
  all_goals (try (first | with_reducible assumption | exact trivial | omega | ((try clear ih); (try clear hr); (try clear hq0); (try clear hq1); (try clear hrec); ((try simp only [inB, Rs, Pg, Px, Ps, Pr, Pl, jcl, Rg, cellOK, bF, bA, bH, bV, jlt, jeq, jd4, jd10, jd20, jd24, jd60, jd100, jm4, jm10, jm20, jm24, jm60, jm100, Int32.reduceToInt, jn1, jn2, jn3, jn4, jn5, jn6, jn7, jn8, jn9, jn10, jn11, jn12, jn13, jn14, jn15, jn16, jn17, jn18, jn19, jn20, jn21, jn22, jn23, jn24, jn100, jn2000000000, zS_pS, zS_pI, zS_pJ, zS_pR, zS_pF, zS_pG, zI_pI, zI_pS, zI_pJ, zI_pR, zI_pF, zI_pG, zN_pS, zN_pI, zN_pJ, Nat.reduceEqDiff, Nat.reduceAdd, Nat.reduceMul, ite_true, ite_false, and_true, true_and, and_false, false_and, true_or, or_true, false_or, or_false, not_true_eq_false, not_false_eq_true, reduceIte, reduceCtorEq, eq_self] at *) <;> (first | omega | ((try simp (disch := first | omega | (simp (disch := first | omega | (simp (disch := first | omega | (simp only [jd4, jd10, jd20, jd24, jd60, jd100, jm4, jm10, jm20, jm24, jm60, jm100, Int32.reduceToInt]; omega)) only [i32_add, i32_sub, i32_mul, jd4, jd10, jd20, jd24, jd60, jd100, jm4, jm10, jm20, jm24, jm60, jm100, Int32.reduceToInt]; omega)) only [i32_add, i32_sub, i32_mul, jd4, jd10, jd20, jd24, jd60, jd100, jm4, jm10, jm20, jm24, jm60, jm100, Int32.reduceToInt]; omega)) only [i32_add, i32_sub, i32_mul, jd4, jd10, jd20, jd24, jd60, jd100, jm4, jm10, jm20, jm24, jm60, jm100, Int32.reduceToInt] at *) <;> (first | omega | ((try simp (disch := first | omega | (simp (disch := first | omega | (simp (disch := first | omega | (simp only [jd4, jd10, jd20, jd24, jd60, jd100, jm4, jm10, jm20, jm24, jm60, jm100, Int32.reduceToInt]; omega)) only [i32_add, i32_sub, i32_mul, jd4, jd10, jd20, jd24, jd60, jd100, jm4, jm10, jm20, jm24, jm60, jm100, Int32.reduceToInt]; omega)) only [i32_add, i32_sub, i32_mul, jd4, jd10, jd20, jd24, jd60, jd100, jm4, jm10, jm20, jm24, jm60, jm100, Int32.reduceToInt]; omega)) only [i32_add, i32_sub, i32_mul, jd4, jd10, jd20, jd24, jd60, jd100, jm4, jm10, jm20, jm24, jm60, jm100, Int32.reduceToInt] at *) <;> (first | omega | ((simp only [jadd, jsub, jmul, jneg, Int32.reduceToInt] at *) <;> omega))))))))))
