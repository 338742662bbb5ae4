set_option maxRecDepth 4000 in
theorem w_X11_canBe_L52 {b0 : SS} {q0 : Int32 → Option Int32} {s0 : SS} {y2 : Int32} {y3 : Int32} {p4 : Nat} {Q : Int32 → Prop} (K : Lk b0 s0) (g0 : okH b0 p4) (g1 : y2.toInt ≤ 60) (hq0 : ∀ (z0 : Int32), Ok (q0 z0) Q) : ∀ (n : Nat) (x5 : Int32) (x6 : Int32), (1 ≤ x6.toInt ∧ x6.toInt ≤ 61) → 61 - x6.toInt < (n : Int) → Ok (f_X11_canBe_L52 q0 s0 y2 y3 p4 n x5 x6) Q := by
  intro n
  induction n with
  | zero =>
    intro x5 x6 i0 hm
    exfalso
    (first | with_reducible assumption | omega | ((try clear ih); (try clear hr); (try clear hq0); (try clear hq1); (try clear hrec); ((try simp only [inB, Rs, Pg, Px, Ps, Pr, Pl, jcl, Rg, cellOK, bF, bA, bH, bV, jlt, jeq, jd4, jd10, jd20, jd24, jd60, jd100, jm4, jm10, jm20, jm24, jm60, jm100, Int32.reduceToInt, jn1, jn2, jn3, jn4, jn5, jn6, jn7, jn8, jn9, jn10, jn11, jn12, jn13, jn14, jn15, jn16, jn17, jn18, jn19, jn20, jn21, jn22, jn23, jn24, jn100, jn2000000000, zS_pS, zS_pI, zS_pJ, zS_pR, zS_pF, zS_pG, zI_pI, zI_pS, zI_pJ, zI_pR, zI_pF, zI_pG, zN_pS, zN_pI, zN_pJ, Nat.reduceEqDiff, Nat.reduceAdd, Nat.reduceMul, ite_true, ite_false, and_true, true_and, and_false, false_and, true_or, or_true, false_or, or_false, not_true_eq_false, not_false_eq_true, reduceIte, reduceCtorEq, eq_self] at *) <;> (first | omega | ((try simp (disch := first | omega | (simp (disch := first | omega | (simp (disch := first | omega | (simp only [jd4, jd10, jd20, jd24, jd60, jd100, jm4, jm10, jm20, jm24, jm60, jm100, Int32.reduceToInt]; omega)) only [i32_add, i32_sub, i32_mul, jd4, jd10, jd20, jd24, jd60, jd100, jm4, jm10, jm20, jm24, jm60, jm100, Int32.reduceToInt]; omega)) only [i32_add, i32_sub, i32_mul, jd4, jd10, jd20, jd24, jd60, jd100, jm4, jm10, jm20, jm24, jm60, jm100, Int32.reduceToInt]; omega)) only [i32_add, i32_sub, i32_mul, jd4, jd10, jd20, jd24, jd60, jd100, jm4, jm10, jm20, jm24, jm60, jm100, Int32.reduceToInt] at *) <;> (first | omega | ((try simp (disch := first | omega | (simp (disch := first | omega | (simp (disch := first | omega | (simp only [jd4, jd10, jd20, jd24, jd60, jd100, jm4, jm10, jm20, jm24, jm60, jm100, Int32.reduceToInt]; omega)) only [i32_add, i32_sub, i32_mul, jd4, jd10, jd20, jd24, jd60, jd100, jm4, jm10, jm20, jm24, jm60, jm100, Int32.reduceToInt]; omega)) only [i32_add, i32_sub, i32_mul, jd4, jd10, jd20, jd24, jd60, jd100, jm4, jm10, jm20, jm24, jm60, jm100, Int32.reduceToInt]; omega)) only [i32_add, i32_sub, i32_mul, jd4, jd10, jd20, jd24, jd60, jd100, jm4, jm10, jm20, jm24, jm60, jm100, Int32.reduceToInt] at *) <;> (first | omega | ((simp only [jadd, jsub, jmul, jneg, Int32.reduceToInt] at *) <;> omega)))))))))
  | succ n ih =>
    intro x5 x6 i0 hm
    show Ok (f_X11_canBe_L52_b q0 s0 y2 y3 p4 (f_X11_canBe_L52 q0 s0 y2 y3 p4 n) x5 x6) Q
    unfold f_X11_canBe_L52_b
    have o3p4 := K.h3 g0
    have o4p4 := K.h4 g0
    have o5p4 := g0.1
    repeat' (first
      | with_reducible assumption
      | dsimp only
      | with_reducible refine Ok_vl ?_
      | with_reducible refine Ok_jn ?_
      | with_reducible refine Ok_b1 ?_
      | with_reducible refine Ok_ift (by decide) ?_
      | with_reducible refine Ok_iff (by decide) ?_
      | with_reducible refine Ok_if (fun _ => ?_) (fun _ => ?_)
      | with_reducible refine ih _ _  ?_ ?_
      | with_reducible refine hq0 _
      | with_reducible refine Ok.mono (w_X3_leastLean (b0 := b0) ?_ (by assumption)) (fun _ _ => ?_)
      | with_reducible refine Ok.mono (w_X3_mostLean (b0 := b0) ?_ (by assumption)) (fun _ _ => ?_)
      | with_reducible refine And.intro ?_ ?_)
    all_goals (try (first | with_reducible assumption | exact trivial | omega | ((try clear ih); (try clear hr); (try clear hq0); (try clear hq1); (try clear hrec); ((try simp only [inB, Rs, Pg, Px, Ps, Pr, Pl, jcl, Rg, cellOK, bF, bA, bH, bV, jlt, jeq, jd4, jd10, jd20, jd24, jd60, jd100, jm4, jm10, jm20, jm24, jm60, jm100, Int32.reduceToInt, jn1, jn2, jn3, jn4, jn5, jn6, jn7, jn8, jn9, jn10, jn11, jn12, jn13, jn14, jn15, jn16, jn17, jn18, jn19, jn20, jn21, jn22, jn23, jn24, jn100, jn2000000000, zS_pS, zS_pI, zS_pJ, zS_pR, zS_pF, zS_pG, zI_pI, zI_pS, zI_pJ, zI_pR, zI_pF, zI_pG, zN_pS, zN_pI, zN_pJ, Nat.reduceEqDiff, Nat.reduceAdd, Nat.reduceMul, ite_true, ite_false, and_true, true_and, and_false, false_and, true_or, or_true, false_or, or_false, not_true_eq_false, not_false_eq_true, reduceIte, reduceCtorEq, eq_self] at *) <;> (first | omega | ((try simp (disch := first | omega | (simp (disch := first | omega | (simp (disch := first | omega | (simp only [jd4, jd10, jd20, jd24, jd60, jd100, jm4, jm10, jm20, jm24, jm60, jm100, Int32.reduceToInt]; omega)) only [i32_add, i32_sub, i32_mul, jd4, jd10, jd20, jd24, jd60, jd100, jm4, jm10, jm20, jm24, jm60, jm100, Int32.reduceToInt]; omega)) only [i32_add, i32_sub, i32_mul, jd4, jd10, jd20, jd24, jd60, jd100, jm4, jm10, jm20, jm24, jm60, jm100, Int32.reduceToInt]; omega)) only [i32_add, i32_sub, i32_mul, jd4, jd10, jd20, jd24, jd60, jd100, jm4, jm10, jm20, jm24, jm60, jm100, Int32.reduceToInt] at *) <;> (first | omega | ((try simp (disch := first | omega | (simp (disch := first | omega | (simp (disch := first | omega | (simp only [jd4, jd10, jd20, jd24, jd60, jd100, jm4, jm10, jm20, jm24, jm60, jm100, Int32.reduceToInt]; omega)) only [i32_add, i32_sub, i32_mul, jd4, jd10, jd20, jd24, jd60, jd100, jm4, jm10, jm20, jm24, jm60, jm100, Int32.reduceToInt]; omega)) only [i32_add, i32_sub, i32_mul, jd4, jd10, jd20, jd24, jd60, jd100, jm4, jm10, jm20, jm24, jm60, jm100, Int32.reduceToInt]; omega)) only [i32_add, i32_sub, i32_mul, jd4, jd10, jd20, jd24, jd60, jd100, jm4, jm10, jm20, jm24, jm60, jm100, Int32.reduceToInt] at *) <;> (first | omega | ((simp only [jadd, jsub, jmul, jneg, Int32.reduceToInt] at *) <;> omega))))))))))
set_option maxRecDepth 4000 in
theorem w_X11_canBe {b0 : SS} {s0 : SS} {a0 : Int32} {a1 : Int32} {a2 : Int32} (K : Lk b0 s0) : Ok (f_X11_canBe s0 a0 a1 a2) (fun _ => True) := by
  unfold f_X11_canBe
  have f0 := (K.f (q := 15) (k := 3) rfl)
  repeat' (first
    | with_reducible assumption
    | dsimp only
    | with_reducible refine Ok_some ?_
    | with_reducible refine Lk_g120 (by assumption) ?_ (fun _ _ _ _ _ => ?_)
    | with_reducible refine Lk_g3 (by assumption) ?_ (fun _ _ => ?_)
    | with_reducible refine Ok_gd ?_ (fun _ => ?_)
    | with_reducible refine Ok_vl ?_
    | with_reducible refine Ok_b1 ?_
    | with_reducible refine Ok_onN ?_
    | with_reducible refine Ok_onS ?_
    | with_reducible refine Ok_ift (by decide) ?_
    | with_reducible refine Ok_iff (by decide) ?_
    | with_reducible refine Ok_if (fun _ => ?_) (fun _ => ?_)
    | with_reducible refine Lk_onH (b0 := b0) ?_ (by assumption) (fun _ => ?_) (fun _ _ _ _ _ _ => ?_)
    | with_reducible refine w_X11_canBe_L52 (b0 := b0) ?_ (by assumption) ?_ (fun _ => ?_) _ _ _  ?_ ?_
    | with_reducible refine Ok.mono (w_X11_cutDown ) (fun _ _ => ?_)
    | with_reducible refine Ok.mono (w_X11_cutUp ) (fun _ _ => ?_)
    | with_reducible refine And.intro ?_ ?_
    | unfold f_X0_holeOf)
  all_goals (try (first | with_reducible assumption | exact trivial | omega | ((try clear ih); (try clear hr); (try clear hq0); (try clear hq1); (try clear hrec); ((try simp only [inB, Rs, Pg, Px, Ps, Pr, Pl, jcl, Rg, cellOK, bF, bA, bH, bV, jlt, jeq, jd4, jd10, jd20, jd24, jd60, jd100, jm4, jm10, jm20, jm24, jm60, jm100, Int32.reduceToInt, jn1, jn2, jn3, jn4, jn5, jn6, jn7, jn8, jn9, jn10, jn11, jn12, jn13, jn14, jn15, jn16, jn17, jn18, jn19, jn20, jn21, jn22, jn23, jn24, jn100, jn2000000000, zS_pS, zS_pI, zS_pJ, zS_pR, zS_pF, zS_pG, zI_pI, zI_pS, zI_pJ, zI_pR, zI_pF, zI_pG, zN_pS, zN_pI, zN_pJ, Nat.reduceEqDiff, Nat.reduceAdd, Nat.reduceMul, ite_true, ite_false, and_true, true_and, and_false, false_and, true_or, or_true, false_or, or_false, not_true_eq_false, not_false_eq_true, reduceIte, reduceCtorEq, eq_self] at *) <;> (first | omega | ((try simp (disch := first | omega | (simp (disch := first | omega | (simp (disch := first | omega | (simp only [jd4, jd10, jd20, jd24, jd60, jd100, jm4, jm10, jm20, jm24, jm60, jm100, Int32.reduceToInt]; omega)) only [i32_add, i32_sub, i32_mul, jd4, jd10, jd20, jd24, jd60, jd100, jm4, jm10, jm20, jm24, jm60, jm100, Int32.reduceToInt]; omega)) only [i32_add, i32_sub, i32_mul, jd4, jd10, jd20, jd24, jd60, jd100, jm4, jm10, jm20, jm24, jm60, jm100, Int32.reduceToInt]; omega)) only [i32_add, i32_sub, i32_mul, jd4, jd10, jd20, jd24, jd60, jd100, jm4, jm10, jm20, jm24, jm60, jm100, Int32.reduceToInt] at *) <;> (first | omega | ((try simp (disch := first | omega | (simp (disch := first | omega | (simp (disch := first | omega | (simp only [jd4, jd10, jd20, jd24, jd60, jd100, jm4, jm10, jm20, jm24, jm60, jm100, Int32.reduceToInt]; omega)) only [i32_add, i32_sub, i32_mul, jd4, jd10, jd20, jd24, jd60, jd100, jm4, jm10, jm20, jm24, jm60, jm100, Int32.reduceToInt]; omega)) only [i32_add, i32_sub, i32_mul, jd4, jd10, jd20, jd24, jd60, jd100, jm4, jm10, jm20, jm24, jm60, jm100, Int32.reduceToInt]; omega)) only [i32_add, i32_sub, i32_mul, jd4, jd10, jd20, jd24, jd60, jd100, jm4, jm10, jm20, jm24, jm60, jm100, Int32.reduceToInt] at *) <;> (first | omega | ((simp only [jadd, jsub, jmul, jneg, Int32.reduceToInt] at *) <;> omega))))))))))
set_option maxRecDepth 4000 in
theorem w_X11_old {b0 : SS} {s0 : SS} {a0 : Int32} {a1 : Int32} (K : Lk b0 s0) : Ok (f_X11_old s0 a0 a1) (fun r => Lk b0 r.2) := by
  unfold f_X11_old
  have f0 := (K.f (q := 0) (k := 5) rfl)
  repeat' (first
    | with_reducible assumption
    | dsimp only
    | with_reducible refine Ok_some ?_
    | with_reducible refine Lk_g8 (by assumption) ?_ (fun _ _ => ?_)
    | with_reducible refine Ok_gd ?_ (fun _ => ?_)
    | with_reducible refine Ok_vl ?_
    | with_reducible refine Ok_st ?_
    | with_reducible refine Ok_b1 ?_
    | with_reducible refine Ok_bd ?_
    | with_reducible refine Ok_onN ?_
    | with_reducible refine Ok_onS ?_
    | with_reducible refine Ok_ift (by decide) ?_
    | with_reducible refine Ok_iff (by decide) ?_
    | with_reducible refine Ok_if (fun _ => ?_) (fun _ => ?_)
    | with_reducible refine Lk_onC (b0 := b0) ?_ (by assumption) (fun _ => ?_) (fun _ _ _ _ => ?_)
    | with_reducible refine Ok.mono (w_X11_placeOf ) (fun _ _ => ?_)
    | with_reducible refine Lk.wH ?_ (by assumption) ?_
    | with_reducible refine Lk.wM ?_ (by assumption) (by decide)
    | with_reducible refine Lk.wC ?_ (by assumption)
    | with_reducible refine Lk.w1 ?_ (by assumption)
    | with_reducible refine Lk.wc1 ?_ (by assumption)
    | with_reducible refine And.intro ?_ ?_
    | unfold f_X11_chartOf
    | unfold f_X1_lists
    | unfold f_X11_isYard
    | unfold f_X1_bits
    | unfold f_X1_listed)
  all_goals (try (first | with_reducible assumption | exact trivial | omega | ((try clear ih); (try clear hr); (try clear hq0); (try clear hq1); (try clear hrec); ((try simp only [inB, Rs, Pg, Px, Ps, Pr, Pl, jcl, Rg, cellOK, bF, bA, bH, bV, jlt, jeq, jd4, jd10, jd20, jd24, jd60, jd100, jm4, jm10, jm20, jm24, jm60, jm100, Int32.reduceToInt, jn1, jn2, jn3, jn4, jn5, jn6, jn7, jn8, jn9, jn10, jn11, jn12, jn13, jn14, jn15, jn16, jn17, jn18, jn19, jn20, jn21, jn22, jn23, jn24, jn100, jn2000000000, zS_pS, zS_pI, zS_pJ, zS_pR, zS_pF, zS_pG, zI_pI, zI_pS, zI_pJ, zI_pR, zI_pF, zI_pG, zN_pS, zN_pI, zN_pJ, Nat.reduceEqDiff, Nat.reduceAdd, Nat.reduceMul, ite_true, ite_false, and_true, true_and, and_false, false_and, true_or, or_true, false_or, or_false, not_true_eq_false, not_false_eq_true, reduceIte, reduceCtorEq, eq_self] at *) <;> (first | omega | ((try simp (disch := first | omega | (simp (disch := first | omega | (simp (disch := first | omega | (simp only [jd4, jd10, jd20, jd24, jd60, jd100, jm4, jm10, jm20, jm24, jm60, jm100, Int32.reduceToInt]; omega)) only [i32_add, i32_sub, i32_mul, jd4, jd10, jd20, jd24, jd60, jd100, jm4, jm10, jm20, jm24, jm60, jm100, Int32.reduceToInt]; omega)) only [i32_add, i32_sub, i32_mul, jd4, jd10, jd20, jd24, jd60, jd100, jm4, jm10, jm20, jm24, jm60, jm100, Int32.reduceToInt]; omega)) only [i32_add, i32_sub, i32_mul, jd4, jd10, jd20, jd24, jd60, jd100, jm4, jm10, jm20, jm24, jm60, jm100, Int32.reduceToInt] at *) <;> (first | omega | ((try simp (disch := first | omega | (simp (disch := first | omega | (simp (disch := first | omega | (simp only [jd4, jd10, jd20, jd24, jd60, jd100, jm4, jm10, jm20, jm24, jm60, jm100, Int32.reduceToInt]; omega)) only [i32_add, i32_sub, i32_mul, jd4, jd10, jd20, jd24, jd60, jd100, jm4, jm10, jm20, jm24, jm60, jm100, Int32.reduceToInt]; omega)) only [i32_add, i32_sub, i32_mul, jd4, jd10, jd20, jd24, jd60, jd100, jm4, jm10, jm20, jm24, jm60, jm100, Int32.reduceToInt]; omega)) only [i32_add, i32_sub, i32_mul, jd4, jd10, jd20, jd24, jd60, jd100, jm4, jm10, jm20, jm24, jm60, jm100, Int32.reduceToInt] at *) <;> (first | omega | ((simp only [jadd, jsub, jmul, jneg, Int32.reduceToInt] at *) <;> omega))))))))))
set_option maxRecDepth 4000 in
theorem w_X11_firstUnlikeYard_L13 {b0 : SS} {s0 : SS} {p1 : Nat} {p2 : Nat} {Q : Int32 → Prop} (K : Lk b0 s0) (g0 : okC b0 p1) (g1 : okH b0 p2) (hr : ∀ v, Q v) : ∀ (n : Nat) (x3 : Int32) (x4 : Int32) (x5 : Int32), (1 ≤ x5.toInt ∧ x5.toInt ≤ 61) → 61 - x5.toInt < (n : Int) → Ok (f_X11_firstUnlikeYard_L13 s0 p1 p2 n x3 x4 x5) Q := by
  intro n
  induction n with
  | zero =>
    intro x3 x4 x5 i0 hm
    exfalso
    (first | with_reducible assumption | omega | ((try clear ih); (try clear hr); (try clear hq0); (try clear hq1); (try clear hrec); ((try simp only [inB, Rs, Pg, Px, Ps, Pr, Pl, jcl, Rg, cellOK, bF, bA, bH, bV, jlt, jeq, jd4, jd10, jd20, jd24, jd60, jd100, jm4, jm10, jm20, jm24, jm60, jm100, Int32.reduceToInt, jn1, jn2, jn3, jn4, jn5, jn6, jn7, jn8, jn9, jn10, jn11, jn12, jn13, jn14, jn15, jn16, jn17, jn18, jn19, jn20, jn21, jn22, jn23, jn24, jn100, jn2000000000, zS_pS, zS_pI, zS_pJ, zS_pR, zS_pF, zS_pG, zI_pI, zI_pS, zI_pJ, zI_pR, zI_pF, zI_pG, zN_pS, zN_pI, zN_pJ, Nat.reduceEqDiff, Nat.reduceAdd, Nat.reduceMul, ite_true, ite_false, and_true, true_and, and_false, false_and, true_or, or_true, false_or, or_false, not_true_eq_false, not_false_eq_true, reduceIte, reduceCtorEq, eq_self] at *) <;> (first | omega | ((try simp (disch := first | omega | (simp (disch := first | omega | (simp (disch := first | omega | (simp only [jd4, jd10, jd20, jd24, jd60, jd100, jm4, jm10, jm20, jm24, jm60, jm100, Int32.reduceToInt]; omega)) only [i32_add, i32_sub, i32_mul, jd4, jd10, jd20, jd24, jd60, jd100, jm4, jm10, jm20, jm24, jm60, jm100, Int32.reduceToInt]; omega)) only [i32_add, i32_sub, i32_mul, jd4, jd10, jd20, jd24, jd60, jd100, jm4, jm10, jm20, jm24, jm60, jm100, Int32.reduceToInt]; omega)) only [i32_add, i32_sub, i32_mul, jd4, jd10, jd20, jd24, jd60, jd100, jm4, jm10, jm20, jm24, jm60, jm100, Int32.reduceToInt] at *) <;> (first | omega | ((try simp (disch := first | omega | (simp (disch := first | omega | (simp (disch := first | omega | (simp only [jd4, jd10, jd20, jd24, jd60, jd100, jm4, jm10, jm20, jm24, jm60, jm100, Int32.reduceToInt]; omega)) only [i32_add, i32_sub, i32_mul, jd4, jd10, jd20, jd24, jd60, jd100, jm4, jm10, jm20, jm24, jm60, jm100, Int32.reduceToInt]; omega)) only [i32_add, i32_sub, i32_mul, jd4, jd10, jd20, jd24, jd60, jd100, jm4, jm10, jm20, jm24, jm60, jm100, Int32.reduceToInt]; omega)) only [i32_add, i32_sub, i32_mul, jd4, jd10, jd20, jd24, jd60, jd100, jm4, jm10, jm20, jm24, jm60, jm100, Int32.reduceToInt] at *) <;> (first | omega | ((simp only [jadd, jsub, jmul, jneg, Int32.reduceToInt] at *) <;> omega)))))))))
  | succ n ih =>
    intro x3 x4 x5 i0 hm
    show Ok (f_X11_firstUnlikeYard_L13_b s0 p1 p2 (f_X11_firstUnlikeYard_L13 s0 p1 p2 n) x3 x4 x5) Q
    unfold f_X11_firstUnlikeYard_L13_b
    have o3p2 := K.h3 g1
    have o4p2 := K.h4 g1
    have o5p2 := g1.1
    repeat' (first
      | with_reducible assumption
      | dsimp only
      | with_reducible refine Ok_some ?_
      | with_reducible refine Ok_gd ?_ (fun _ => ?_)
      | with_reducible refine Ok_vl ?_
      | with_reducible refine Ok_b1 ?_
      | with_reducible refine Ok_ift (by decide) ?_
      | with_reducible refine Ok_iff (by decide) ?_
      | with_reducible refine Ok_if (fun _ => ?_) (fun _ => ?_)
      | with_reducible refine ih _ _ _  ?_ ?_
      | with_reducible refine hr _
      | with_reducible refine Ok.mono (w_X3_leastLean (b0 := b0) ?_ (by assumption)) (fun _ _ => ?_)
      | with_reducible refine Ok.mono (w_X3_mostLean (b0 := b0) ?_ (by assumption)) (fun _ _ => ?_)
      | with_reducible refine Ok.mono (w_X11_cutDown ) (fun _ _ => ?_)
      | with_reducible refine Ok.mono (w_X11_cutUp ) (fun _ _ => ?_)
      | with_reducible refine Ok.mono (w_X1_isUnlike (b0 := b0) ?_ (by assumption)) (fun _ _ => ?_)
      | with_reducible refine And.intro ?_ ?_)
    all_goals (try (first | with_reducible assumption | exact trivial | omega | ((try clear ih); (try clear hr); (try clear hq0); (try clear hq1); (try clear hrec); ((try simp only [inB, Rs, Pg, Px, Ps, Pr, Pl, jcl, Rg, cellOK, bF, bA, bH, bV, jlt, jeq, jd4, jd10, jd20, jd24, jd60, jd100, jm4, jm10, jm20, jm24, jm60, jm100, Int32.reduceToInt, jn1, jn2, jn3, jn4, jn5, jn6, jn7, jn8, jn9, jn10, jn11, jn12, jn13, jn14, jn15, jn16, jn17, jn18, jn19, jn20, jn21, jn22, jn23, jn24, jn100, jn2000000000, zS_pS, zS_pI, zS_pJ, zS_pR, zS_pF, zS_pG, zI_pI, zI_pS, zI_pJ, zI_pR, zI_pF, zI_pG, zN_pS, zN_pI, zN_pJ, Nat.reduceEqDiff, Nat.reduceAdd, Nat.reduceMul, ite_true, ite_false, and_true, true_and, and_false, false_and, true_or, or_true, false_or, or_false, not_true_eq_false, not_false_eq_true, reduceIte, reduceCtorEq, eq_self] at *) <;> (first | omega | ((try simp (disch := first | omega | (simp (disch := first | omega | (simp (disch := first | omega | (simp only [jd4, jd10, jd20, jd24, jd60, jd100, jm4, jm10, jm20, jm24, jm60, jm100, Int32.reduceToInt]; omega)) only [i32_add, i32_sub, i32_mul, jd4, jd10, jd20, jd24, jd60, jd100, jm4, jm10, jm20, jm24, jm60, jm100, Int32.reduceToInt]; omega)) only [i32_add, i32_sub, i32_mul, jd4, jd10, jd20, jd24, jd60, jd100, jm4, jm10, jm20, jm24, jm60, jm100, Int32.reduceToInt]; omega)) only [i32_add, i32_sub, i32_mul, jd4, jd10, jd20, jd24, jd60, jd100, jm4, jm10, jm20, jm24, jm60, jm100, Int32.reduceToInt] at *) <;> (first | omega | ((try simp (disch := first | omega | (simp (disch := first | omega | (simp (disch := first | omega | (simp only [jd4, jd10, jd20, jd24, jd60, jd100, jm4, jm10, jm20, jm24, jm60, jm100, Int32.reduceToInt]; omega)) only [i32_add, i32_sub, i32_mul, jd4, jd10, jd20, jd24, jd60, jd100, jm4, jm10, jm20, jm24, jm60, jm100, Int32.reduceToInt]; omega)) only [i32_add, i32_sub, i32_mul, jd4, jd10, jd20, jd24, jd60, jd100, jm4, jm10, jm20, jm24, jm60, jm100, Int32.reduceToInt]; omega)) only [i32_add, i32_sub, i32_mul, jd4, jd10, jd20, jd24, jd60, jd100, jm4, jm10, jm20, jm24, jm60, jm100, Int32.reduceToInt] at *) <;> (first | omega | ((simp only [jadd, jsub, jmul, jneg, Int32.reduceToInt] at *) <;> omega))))))))))
