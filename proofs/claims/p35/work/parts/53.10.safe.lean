set_option maxRecDepth 4000 in
theorem w_X12_sum_L4 {b0 : SS} {c0 : SS} {N : Int} {rec : SS → Option SS} {Q : SS → Prop} (hrec : ∀ (s : SS), Lk b0 s → Ps s → 8 - (zS s 59 49).toInt < N → Ok (rec s) (fun r => Lk b0 r ∧ Px s r ∧ Pg s r ∧ Wd 1 s r)) (g0 : 8 - (zS c0 59 49).toInt < N) (hr : ∀ s, Lk b0 s → (Px c0 s ∧ Pg c0 s ∧ Wd 1 c0 s) → Q s) : ∀ (n : Nat) (s : SS), Lk b0 s → (Px c0 s) → (Pg c0 s) → (Wd 1 c0 s) → (zS s 59 37).toInt - (zS s 59 47).toInt < (n : Int) → Ok (f_X12_sum_L4 rec n s) Q := by
  intro n
  induction n with
  | zero =>
    intro s K i0 i1 i2 hm
    exfalso
    (first | with_reducible assumption | omega | ((try clear ih); (try clear hr); (try clear hq0); (try clear hq1); (try clear hrec); ((try simp only [inB, Rs, Pg, Px, Ps, Pr, Pl, jcl, Rg, cellOK, bF, bA, bH, bV, jlt, jeq, jd4, jd10, jd20, jd24, jd60, jd100, jm4, jm10, jm20, jm24, jm60, jm100, Int32.reduceToInt, jn1, jn2, jn3, jn4, jn5, jn6, jn7, jn8, jn9, jn10, jn11, jn12, jn13, jn14, jn15, jn16, jn17, jn18, jn19, jn20, jn21, jn22, jn23, jn24, jn100, jn2000000000, zS_pS, zS_pI, zS_pJ, zS_pR, zS_pF, zS_pG, zI_pI, zI_pS, zI_pJ, zI_pR, zI_pF, zI_pG, zN_pS, zN_pI, zN_pJ, Nat.reduceEqDiff, Nat.reduceAdd, Nat.reduceMul, ite_true, ite_false, and_true, true_and, and_false, false_and, true_or, or_true, false_or, or_false, not_true_eq_false, not_false_eq_true, reduceIte, reduceCtorEq, eq_self] at *) <;> (first | omega | ((try simp (disch := first | omega | (simp (disch := first | omega | (simp (disch := first | omega | (simp only [jd4, jd10, jd20, jd24, jd60, jd100, jm4, jm10, jm20, jm24, jm60, jm100, Int32.reduceToInt]; omega)) only [i32_add, i32_sub, i32_mul, jd4, jd10, jd20, jd24, jd60, jd100, jm4, jm10, jm20, jm24, jm60, jm100, Int32.reduceToInt]; omega)) only [i32_add, i32_sub, i32_mul, jd4, jd10, jd20, jd24, jd60, jd100, jm4, jm10, jm20, jm24, jm60, jm100, Int32.reduceToInt]; omega)) only [i32_add, i32_sub, i32_mul, jd4, jd10, jd20, jd24, jd60, jd100, jm4, jm10, jm20, jm24, jm60, jm100, Int32.reduceToInt] at *) <;> (first | omega | ((try simp (disch := first | omega | (simp (disch := first | omega | (simp (disch := first | omega | (simp only [jd4, jd10, jd20, jd24, jd60, jd100, jm4, jm10, jm20, jm24, jm60, jm100, Int32.reduceToInt]; omega)) only [i32_add, i32_sub, i32_mul, jd4, jd10, jd20, jd24, jd60, jd100, jm4, jm10, jm20, jm24, jm60, jm100, Int32.reduceToInt]; omega)) only [i32_add, i32_sub, i32_mul, jd4, jd10, jd20, jd24, jd60, jd100, jm4, jm10, jm20, jm24, jm60, jm100, Int32.reduceToInt]; omega)) only [i32_add, i32_sub, i32_mul, jd4, jd10, jd20, jd24, jd60, jd100, jm4, jm10, jm20, jm24, jm60, jm100, Int32.reduceToInt] at *) <;> (first | omega | ((simp only [jadd, jsub, jmul, jneg, Int32.reduceToInt] at *) <;> omega)))))))))
  | succ n ih =>
    intro s K i0 i1 i2 hm
    show Ok (f_X12_sum_L4_b rec (f_X12_sum_L4 rec n) s) Q
    unfold f_X12_sum_L4_b
    repeat' (first
      | with_reducible assumption
      | dsimp only
      | with_reducible refine Wd.push1 (by assumption) ?_
      | with_reducible refine Wd.push2 (by assumption) ?_ ?_
      | with_reducible refine Wd.un3 (by assumption) ?_
      | with_reducible refine Wd.un4 (by assumption) ?_
      | with_reducible refine Wd.op (by assumption) ?_ ?_
      | with_reducible refine Wd.pf (by decide) ?_
      | with_reducible exact Wd.rf
      | with_reducible refine Wd.t1 (by assumption) ?_
      | with_reducible refine Wd.t2 (by assumption) ?_
      | with_reducible refine Wd.t0 (by assumption) ?_
      | with_reducible refine Wd.fault ?_
      | with_reducible refine nm2 (by assumption) (by assumption) (by assumption) (by assumption)
      | with_reducible exact sg38
      | with_reducible exact sg124
      | with_reducible exact sge60 (by assumption)
      | with_reducible exact sge61 (by assumption)
      | with_reducible exact sge62 (by assumption)
      | with_reducible exact sgl42 (by assumption) (by assumption) (by assumption)
      | with_reducible exact sgl47 (by assumption) (by assumption) (by assumption)
      | with_reducible exact sgl37 (by assumption) (by assumption) (by assumption)
      | with_reducible exact sgl43 (by assumption) (by assumption) (by assumption)
      | with_reducible exact sgl45 (by assumption) (by assumption) (by assumption)
      | with_reducible refine Ok_some ?_
      | with_reducible refine Ok_vl ?_
      | with_reducible refine Ok_st ?_
      | with_reducible refine Ok_jn ?_
      | with_reducible refine Ok_b1 ?_
      | with_reducible refine Ok_ift (by decide) ?_
      | with_reducible refine Ok_iff (by decide) ?_
      | with_reducible refine Ok_if (fun _ => ?_) (fun _ => ?_)
      | with_reducible refine ih _  ?_ ?_ ?_ ?_ ?_
      | with_reducible refine Ok.mono (hrec _ ?_ ?_ ?_) (fun _ ⟨_, _, _, _⟩ => ?_)
      | with_reducible refine hr _ ?_ ?_
      | with_reducible refine Ok.mono (Ok.self (w_X12_look (b0 := b0) ?_ ?_)) (fun _ ⟨_, _⟩ => ?_)
      | with_reducible refine Ok.mono (w_X12_product (b0 := b0) (N := N) (by assumption) ?_ ?_ ?_) (fun _ ⟨_, _, _, _⟩ => ?_)
      | with_reducible refine Ok.mono (Ok.La (w_X12_lay (b0 := b0) ?_ ?_)) (fun _ ⟨⟨_, _⟩, _⟩ => ?_)
      | with_reducible refine Lk.wF ?_ (by decide) (by decide) (by decide) ?_
      | with_reducible refine And.intro ?_ ?_)
    all_goals (try (first | with_reducible assumption | exact trivial | omega | ((try clear ih); (try clear hr); (try clear hq0); (try clear hq1); (try clear hrec); ((try simp only [inB, Rs, Pg, Px, Ps, Pr, Pl, jcl, Rg, cellOK, bF, bA, bH, bV, jlt, jeq, jd4, jd10, jd20, jd24, jd60, jd100, jm4, jm10, jm20, jm24, jm60, jm100, Int32.reduceToInt, jn1, jn2, jn3, jn4, jn5, jn6, jn7, jn8, jn9, jn10, jn11, jn12, jn13, jn14, jn15, jn16, jn17, jn18, jn19, jn20, jn21, jn22, jn23, jn24, jn100, jn2000000000, zS_pS, zS_pI, zS_pJ, zS_pR, zS_pF, zS_pG, zI_pI, zI_pS, zI_pJ, zI_pR, zI_pF, zI_pG, zN_pS, zN_pI, zN_pJ, Nat.reduceEqDiff, Nat.reduceAdd, Nat.reduceMul, ite_true, ite_false, and_true, true_and, and_false, false_and, true_or, or_true, false_or, or_false, not_true_eq_false, not_false_eq_true, reduceIte, reduceCtorEq, eq_self] at *) <;> (first | omega | ((try simp (disch := first | omega | (simp (disch := first | omega | (simp (disch := first | omega | (simp only [jd4, jd10, jd20, jd24, jd60, jd100, jm4, jm10, jm20, jm24, jm60, jm100, Int32.reduceToInt]; omega)) only [i32_add, i32_sub, i32_mul, jd4, jd10, jd20, jd24, jd60, jd100, jm4, jm10, jm20, jm24, jm60, jm100, Int32.reduceToInt]; omega)) only [i32_add, i32_sub, i32_mul, jd4, jd10, jd20, jd24, jd60, jd100, jm4, jm10, jm20, jm24, jm60, jm100, Int32.reduceToInt]; omega)) only [i32_add, i32_sub, i32_mul, jd4, jd10, jd20, jd24, jd60, jd100, jm4, jm10, jm20, jm24, jm60, jm100, Int32.reduceToInt] at *) <;> (first | omega | ((try simp (disch := first | omega | (simp (disch := first | omega | (simp (disch := first | omega | (simp only [jd4, jd10, jd20, jd24, jd60, jd100, jm4, jm10, jm20, jm24, jm60, jm100, Int32.reduceToInt]; omega)) only [i32_add, i32_sub, i32_mul, jd4, jd10, jd20, jd24, jd60, jd100, jm4, jm10, jm20, jm24, jm60, jm100, Int32.reduceToInt]; omega)) only [i32_add, i32_sub, i32_mul, jd4, jd10, jd20, jd24, jd60, jd100, jm4, jm10, jm20, jm24, jm60, jm100, Int32.reduceToInt]; omega)) only [i32_add, i32_sub, i32_mul, jd4, jd10, jd20, jd24, jd60, jd100, jm4, jm10, jm20, jm24, jm60, jm100, Int32.reduceToInt] at *) <;> (first | omega | ((simp only [jadd, jsub, jmul, jneg, Int32.reduceToInt] at *) <;> omega))))))))))
set_option maxRecDepth 4000 in
theorem w_X12_sum {b0 : SS} {N : Int} {rec : SS → Option SS} {s0 : SS} (hrec : ∀ (s : SS), Lk b0 s → Ps s → 8 - (zS s 59 49).toInt < N → Ok (rec s) (fun r => Lk b0 r ∧ Px s r ∧ Pg s r ∧ Wd 1 s r)) (K : Lk b0 s0) (g0 : Ps s0) (g1 : 8 - (zS s0 59 49).toInt < N) : Ok (f_X12_sum rec s0) (fun r => Lk b0 r ∧ Px s0 r ∧ Pg s0 r ∧ Wd 1 s0 r) := by
  unfold f_X12_sum
  repeat' (first
    | with_reducible assumption
    | dsimp only
    | with_reducible refine Wd.push1 (by assumption) ?_
    | with_reducible refine Wd.push2 (by assumption) ?_ ?_
    | with_reducible refine Wd.un3 (by assumption) ?_
    | with_reducible refine Wd.un4 (by assumption) ?_
    | with_reducible refine Wd.op (by assumption) ?_ ?_
    | with_reducible refine Wd.pf (by decide) ?_
    | with_reducible exact Wd.rf
    | with_reducible refine Wd.t1 (by assumption) ?_
    | with_reducible refine Wd.t2 (by assumption) ?_
    | with_reducible refine Wd.t0 (by assumption) ?_
    | with_reducible refine Wd.fault ?_
    | with_reducible refine nm2 (by assumption) (by assumption) (by assumption) (by assumption)
    | with_reducible exact sg38
    | with_reducible exact sg124
    | with_reducible exact sge60 (by assumption)
    | with_reducible exact sge61 (by assumption)
    | with_reducible exact sge62 (by assumption)
    | with_reducible exact sgl42 (by assumption) (by assumption) (by assumption)
    | with_reducible exact sgl47 (by assumption) (by assumption) (by assumption)
    | with_reducible exact sgl37 (by assumption) (by assumption) (by assumption)
    | with_reducible exact sgl43 (by assumption) (by assumption) (by assumption)
    | with_reducible exact sgl45 (by assumption) (by assumption) (by assumption)
    | with_reducible refine Ok_b1 ?_
    | with_reducible refine Ok.mono (hrec _ ?_ ?_ ?_) (fun _ ⟨_, _, _, _⟩ => ?_)
    | with_reducible refine Ok.mono (w_X12_product (b0 := b0) (N := N) (by assumption) ?_ ?_ ?_) (fun _ ⟨_, _, _, _⟩ => ?_)
    | with_reducible refine w_X12_sum_L4 (b0 := b0) (c0 := s0) (N := N) (by assumption) ?_ (fun _ _ _ => ?_) _ _  ?_ ?_ ?_ ?_ ?_
    | with_reducible refine And.intro ?_ ?_)
  all_goals (try (first | with_reducible assumption | exact trivial | omega | ((try clear ih); (try clear hr); (try clear hq0); (try clear hq1); (try clear hrec); ((try simp only [inB, Rs, Pg, Px, Ps, Pr, Pl, jcl, Rg, cellOK, bF, bA, bH, bV, jlt, jeq, jd4, jd10, jd20, jd24, jd60, jd100, jm4, jm10, jm20, jm24, jm60, jm100, Int32.reduceToInt, jn1, jn2, jn3, jn4, jn5, jn6, jn7, jn8, jn9, jn10, jn11, jn12, jn13, jn14, jn15, jn16, jn17, jn18, jn19, jn20, jn21, jn22, jn23, jn24, jn100, jn2000000000, zS_pS, zS_pI, zS_pJ, zS_pR, zS_pF, zS_pG, zI_pI, zI_pS, zI_pJ, zI_pR, zI_pF, zI_pG, zN_pS, zN_pI, zN_pJ, Nat.reduceEqDiff, Nat.reduceAdd, Nat.reduceMul, ite_true, ite_false, and_true, true_and, and_false, false_and, true_or, or_true, false_or, or_false, not_true_eq_false, not_false_eq_true, reduceIte, reduceCtorEq, eq_self] at *) <;> (first | omega | ((try simp (disch := first | omega | (simp (disch := first | omega | (simp (disch := first | omega | (simp only [jd4, jd10, jd20, jd24, jd60, jd100, jm4, jm10, jm20, jm24, jm60, jm100, Int32.reduceToInt]; omega)) only [i32_add, i32_sub, i32_mul, jd4, jd10, jd20, jd24, jd60, jd100, jm4, jm10, jm20, jm24, jm60, jm100, Int32.reduceToInt]; omega)) only [i32_add, i32_sub, i32_mul, jd4, jd10, jd20, jd24, jd60, jd100, jm4, jm10, jm20, jm24, jm60, jm100, Int32.reduceToInt]; omega)) only [i32_add, i32_sub, i32_mul, jd4, jd10, jd20, jd24, jd60, jd100, jm4, jm10, jm20, jm24, jm60, jm100, Int32.reduceToInt] at *) <;> (first | omega | ((try simp (disch := first | omega | (simp (disch := first | omega | (simp (disch := first | omega | (simp only [jd4, jd10, jd20, jd24, jd60, jd100, jm4, jm10, jm20, jm24, jm60, jm100, Int32.reduceToInt]; omega)) only [i32_add, i32_sub, i32_mul, jd4, jd10, jd20, jd24, jd60, jd100, jm4, jm10, jm20, jm24, jm60, jm100, Int32.reduceToInt]; omega)) only [i32_add, i32_sub, i32_mul, jd4, jd10, jd20, jd24, jd60, jd100, jm4, jm10, jm20, jm24, jm60, jm100, Int32.reduceToInt]; omega)) only [i32_add, i32_sub, i32_mul, jd4, jd10, jd20, jd24, jd60, jd100, jm4, jm10, jm20, jm24, jm60, jm100, Int32.reduceToInt] at *) <;> (first | omega | ((simp only [jadd, jsub, jmul, jneg, Int32.reduceToInt] at *) <;> omega))))))))))
set_option maxRecDepth 4000 in
theorem w_X12_compared {b0 : SS} {N : Int} {rec : SS → Option SS} {s0 : SS} (hrec : ∀ (s : SS), Lk b0 s → Ps s → 8 - (zS s 59 49).toInt < N → Ok (rec s) (fun r => Lk b0 r ∧ Px s r ∧ Pg s r ∧ Wd 1 s r)) (K : Lk b0 s0) (g0 : Ps s0) (g1 : 8 - (zS s0 59 49).toInt < N) : Ok (f_X12_compared rec s0) (fun r => Lk b0 r ∧ Px s0 r ∧ Pg s0 r ∧ Wd 1 s0 r) := by
  unfold f_X12_compared
  repeat' (first
    | with_reducible assumption
    | dsimp only
    | with_reducible refine Wd.push1 (by assumption) ?_
    | with_reducible refine Wd.push2 (by assumption) ?_ ?_
    | with_reducible refine Wd.un3 (by assumption) ?_
    | with_reducible refine Wd.un4 (by assumption) ?_
    | with_reducible refine Wd.op (by assumption) ?_ ?_
    | with_reducible refine Wd.pf (by decide) ?_
    | with_reducible exact Wd.rf
    | with_reducible refine Wd.t1 (by assumption) ?_
    | with_reducible refine Wd.t2 (by assumption) ?_
    | with_reducible refine Wd.t0 (by assumption) ?_
    | with_reducible refine Wd.fault ?_
    | with_reducible refine nm2 (by assumption) (by assumption) (by assumption) (by assumption)
    | with_reducible exact sg38
    | with_reducible exact sg124
    | with_reducible exact sge60 (by assumption)
    | with_reducible exact sge61 (by assumption)
    | with_reducible exact sge62 (by assumption)
    | with_reducible exact sgl42 (by assumption) (by assumption) (by assumption)
    | with_reducible exact sgl47 (by assumption) (by assumption) (by assumption)
    | with_reducible exact sgl37 (by assumption) (by assumption) (by assumption)
    | with_reducible exact sgl43 (by assumption) (by assumption) (by assumption)
    | with_reducible exact sgl45 (by assumption) (by assumption) (by assumption)
    | with_reducible refine Ok_some ?_
    | with_reducible refine Ok_vl ?_
    | with_reducible refine Ok_st ?_
    | with_reducible refine Ok_jn ?_
    | with_reducible refine Ok_b1 ?_
    | with_reducible refine Ok_ift (by decide) ?_
    | with_reducible refine Ok_iff (by decide) ?_
    | with_reducible refine Ok_if (fun _ => ?_) (fun _ => ?_)
    | with_reducible refine Ok.mono (hrec _ ?_ ?_ ?_) (fun _ ⟨_, _, _, _⟩ => ?_)
    | with_reducible refine Ok.mono (w_X12_sum (b0 := b0) (N := N) (by assumption) ?_ ?_ ?_) (fun _ ⟨_, _, _, _⟩ => ?_)
    | with_reducible refine Ok.mono (Ok.self (w_X12_look (b0 := b0) ?_ ?_)) (fun _ ⟨_, _⟩ => ?_)
    | with_reducible refine Ok.mono (Ok.La (w_X12_lay (b0 := b0) ?_ ?_)) (fun _ ⟨⟨_, _⟩, _⟩ => ?_)
    | with_reducible refine Lk.wF ?_ (by decide) (by decide) (by decide) ?_
    | with_reducible refine And.intro ?_ ?_)
  all_goals (try (first | with_reducible assumption | exact trivial | omega | ((try clear ih); (try clear hr); (try clear hq0); (try clear hq1); (try clear hrec); ((try simp only [inB, Rs, Pg, Px, Ps, Pr, Pl, jcl, Rg, cellOK, bF, bA, bH, bV, jlt, jeq, jd4, jd10, jd20, jd24, jd60, jd100, jm4, jm10, jm20, jm24, jm60, jm100, Int32.reduceToInt, jn1, jn2, jn3, jn4, jn5, jn6, jn7, jn8, jn9, jn10, jn11, jn12, jn13, jn14, jn15, jn16, jn17, jn18, jn19, jn20, jn21, jn22, jn23, jn24, jn100, jn2000000000, zS_pS, zS_pI, zS_pJ, zS_pR, zS_pF, zS_pG, zI_pI, zI_pS, zI_pJ, zI_pR, zI_pF, zI_pG, zN_pS, zN_pI, zN_pJ, Nat.reduceEqDiff, Nat.reduceAdd, Nat.reduceMul, ite_true, ite_false, and_true, true_and, and_false, false_and, true_or, or_true, false_or, or_false, not_true_eq_false, not_false_eq_true, reduceIte, reduceCtorEq, eq_self] at *) <;> (first | omega | ((try simp (disch := first | omega | (simp (disch := first | omega | (simp (disch := first | omega | (simp only [jd4, jd10, jd20, jd24, jd60, jd100, jm4, jm10, jm20, jm24, jm60, jm100, Int32.reduceToInt]; omega)) only [i32_add, i32_sub, i32_mul, jd4, jd10, jd20, jd24, jd60, jd100, jm4, jm10, jm20, jm24, jm60, jm100, Int32.reduceToInt]; omega)) only [i32_add, i32_sub, i32_mul, jd4, jd10, jd20, jd24, jd60, jd100, jm4, jm10, jm20, jm24, jm60, jm100, Int32.reduceToInt]; omega)) only [i32_add, i32_sub, i32_mul, jd4, jd10, jd20, jd24, jd60, jd100, jm4, jm10, jm20, jm24, jm60, jm100, Int32.reduceToInt] at *) <;> (first | omega | ((try simp (disch := first | omega | (simp (disch := first | omega | (simp (disch := first | omega | (simp only [jd4, jd10, jd20, jd24, jd60, jd100, jm4, jm10, jm20, jm24, jm60, jm100, Int32.reduceToInt]; omega)) only [i32_add, i32_sub, i32_mul, jd4, jd10, jd20, jd24, jd60, jd100, jm4, jm10, jm20, jm24, jm60, jm100, Int32.reduceToInt]; omega)) only [i32_add, i32_sub, i32_mul, jd4, jd10, jd20, jd24, jd60, jd100, jm4, jm10, jm20, jm24, jm60, jm100, Int32.reduceToInt]; omega)) only [i32_add, i32_sub, i32_mul, jd4, jd10, jd20, jd24, jd60, jd100, jm4, jm10, jm20, jm24, jm60, jm100, Int32.reduceToInt] at *) <;> (first | omega | ((simp only [jadd, jsub, jmul, jneg, Int32.reduceToInt] at *) <;> omega))))))))))
set_option maxRecDepth 4000 in
theorem w_X12_all_L4 {b0 : SS} {c0 : SS} {N : Int} {rec : SS → Option SS} {Q : SS → Prop} (hrec : ∀ (s : SS), Lk b0 s → Ps s → 8 - (zS s 59 49).toInt < N → Ok (rec s) (fun r => Lk b0 r ∧ Px s r ∧ Pg s r ∧ Wd 1 s r)) (g0 : 8 - (zS c0 59 49).toInt < N) (hr : ∀ s, Lk b0 s → (Px c0 s ∧ Pg c0 s ∧ Wd 1 c0 s) → Q s) : ∀ (n : Nat) (s : SS), Lk b0 s → (Px c0 s) → (Pg c0 s) → (Wd 1 c0 s) → (zS s 59 37).toInt - (zS s 59 47).toInt < (n : Int) → Ok (f_X12_all_L4 rec n s) Q := by
  intro n
  induction n with
  | zero =>
    intro s K i0 i1 i2 hm
    exfalso
    (first | with_reducible assumption | omega | ((try clear ih); (try clear hr); (try clear hq0); (try clear hq1); (try clear hrec); ((try simp only [inB, Rs, Pg, Px, Ps, Pr, Pl, jcl, Rg, cellOK, bF, bA, bH, bV, jlt, jeq, jd4, jd10, jd20, jd24, jd60, jd100, jm4, jm10, jm20, jm24, jm60, jm100, Int32.reduceToInt, jn1, jn2, jn3, jn4, jn5, jn6, jn7, jn8, jn9, jn10, jn11, jn12, jn13, jn14, jn15, jn16, jn17, jn18, jn19, jn20, jn21, jn22, jn23, jn24, jn100, jn2000000000, zS_pS, zS_pI, zS_pJ, zS_pR, zS_pF, zS_pG, zI_pI, zI_pS, zI_pJ, zI_pR, zI_pF, zI_pG, zN_pS, zN_pI, zN_pJ, Nat.reduceEqDiff, Nat.reduceAdd, Nat.reduceMul, ite_true, ite_false, and_true, true_and, and_false, false_and, true_or, or_true, false_or, or_false, not_true_eq_false, not_false_eq_true, reduceIte, reduceCtorEq, eq_self] at *) <;> (first | omega | ((try simp (disch := first | omega | (simp (disch := first | omega | (simp (disch := first | omega | (simp only [jd4, jd10, jd20, jd24, jd60, jd100, jm4, jm10, jm20, jm24, jm60, jm100, Int32.reduceToInt]; omega)) only [i32_add, i32_sub, i32_mul, jd4, jd10, jd20, jd24, jd60, jd100, jm4, jm10, jm20, jm24, jm60, jm100, Int32.reduceToInt]; omega)) only [i32_add, i32_sub, i32_mul, jd4, jd10, jd20, jd24, jd60, jd100, jm4, jm10, jm20, jm24, jm60, jm100, Int32.reduceToInt]; omega)) only [i32_add, i32_sub, i32_mul, jd4, jd10, jd20, jd24, jd60, jd100, jm4, jm10, jm20, jm24, jm60, jm100, Int32.reduceToInt] at *) <;> (first | omega | ((try simp (disch := first | omega | (simp (disch := first | omega | (simp (disch := first | omega | (simp only [jd4, jd10, jd20, jd24, jd60, jd100, jm4, jm10, jm20, jm24, jm60, jm100, Int32.reduceToInt]; omega)) only [i32_add, i32_sub, i32_mul, jd4, jd10, jd20, jd24, jd60, jd100, jm4, jm10, jm20, jm24, jm60, jm100, Int32.reduceToInt]; omega)) only [i32_add, i32_sub, i32_mul, jd4, jd10, jd20, jd24, jd60, jd100, jm4, jm10, jm20, jm24, jm60, jm100, Int32.reduceToInt]; omega)) only [i32_add, i32_sub, i32_mul, jd4, jd10, jd20, jd24, jd60, jd100, jm4, jm10, jm20, jm24, jm60, jm100, Int32.reduceToInt] at *) <;> (first | omega | ((simp only [jadd, jsub, jmul, jneg, Int32.reduceToInt] at *) <;> omega)))))))))
  | succ n ih =>
    intro s K i0 i1 i2 hm
    show Ok (f_X12_all_L4_b rec (f_X12_all_L4 rec n) s) Q
    unfold f_X12_all_L4_b
    repeat' (first
      | with_reducible assumption
      | dsimp only
      | with_reducible refine Wd.push1 (by assumption) ?_
      | with_reducible refine Wd.push2 (by assumption) ?_ ?_
      | with_reducible refine Wd.un3 (by assumption) ?_
      | with_reducible refine Wd.un4 (by assumption) ?_
      | with_reducible refine Wd.op (by assumption) ?_ ?_
      | with_reducible refine Wd.pf (by decide) ?_
      | with_reducible exact Wd.rf
      | with_reducible refine Wd.t1 (by assumption) ?_
      | with_reducible refine Wd.t2 (by assumption) ?_
      | with_reducible refine Wd.t0 (by assumption) ?_
      | with_reducible refine Wd.fault ?_
      | with_reducible refine nm2 (by assumption) (by assumption) (by assumption) (by assumption)
      | with_reducible exact sg38
      | with_reducible exact sg124
      | with_reducible exact sge60 (by assumption)
      | with_reducible exact sge61 (by assumption)
      | with_reducible exact sge62 (by assumption)
      | with_reducible exact sgl42 (by assumption) (by assumption) (by assumption)
      | with_reducible exact sgl47 (by assumption) (by assumption) (by assumption)
      | with_reducible exact sgl37 (by assumption) (by assumption) (by assumption)
      | with_reducible exact sgl43 (by assumption) (by assumption) (by assumption)
      | with_reducible exact sgl45 (by assumption) (by assumption) (by assumption)
      | with_reducible refine Ok_some ?_
      | with_reducible refine Ok_vl ?_
      | with_reducible refine Ok_st ?_
      | with_reducible refine Ok_b1 ?_
      | with_reducible refine Ok_ift (by decide) ?_
      | with_reducible refine Ok_iff (by decide) ?_
      | with_reducible refine Ok_if (fun _ => ?_) (fun _ => ?_)
      | with_reducible refine ih _  ?_ ?_ ?_ ?_ ?_
      | with_reducible refine Ok.mono (hrec _ ?_ ?_ ?_) (fun _ ⟨_, _, _, _⟩ => ?_)
      | with_reducible refine hr _ ?_ ?_
      | with_reducible refine Ok.mono (Ok.self (w_X12_look (b0 := b0) ?_ ?_)) (fun _ ⟨_, _⟩ => ?_)
      | with_reducible refine Ok.mono (w_X12_compared (b0 := b0) (N := N) (by assumption) ?_ ?_ ?_) (fun _ ⟨_, _, _, _⟩ => ?_)
      | with_reducible refine Ok.mono (Ok.La (w_X12_lay (b0 := b0) ?_ ?_)) (fun _ ⟨⟨_, _⟩, _⟩ => ?_)
      | with_reducible refine Lk.wF ?_ (by decide) (by decide) (by decide) ?_
      | with_reducible refine And.intro ?_ ?_)
    all_goals (try (first | with_reducible assumption | exact trivial | omega | ((try clear ih); (try clear hr); (try clear hq0); (try clear hq1); (try clear hrec); ((try simp only [inB, Rs, Pg, Px, Ps, Pr, Pl, jcl, Rg, cellOK, bF, bA, bH, bV, jlt, jeq, jd4, jd10, jd20, jd24, jd60, jd100, jm4, jm10, jm20, jm24, jm60, jm100, Int32.reduceToInt, jn1, jn2, jn3, jn4, jn5, jn6, jn7, jn8, jn9, jn10, jn11, jn12, jn13, jn14, jn15, jn16, jn17, jn18, jn19, jn20, jn21, jn22, jn23, jn24, jn100, jn2000000000, zS_pS, zS_pI, zS_pJ, zS_pR, zS_pF, zS_pG, zI_pI, zI_pS, zI_pJ, zI_pR, zI_pF, zI_pG, zN_pS, zN_pI, zN_pJ, Nat.reduceEqDiff, Nat.reduceAdd, Nat.reduceMul, ite_true, ite_false, and_true, true_and, and_false, false_and, true_or, or_true, false_or, or_false, not_true_eq_false, not_false_eq_true, reduceIte, reduceCtorEq, eq_self] at *) <;> (first | omega | ((try simp (disch := first | omega | (simp (disch := first | omega | (simp (disch := first | omega | (simp only [jd4, jd10, jd20, jd24, jd60, jd100, jm4, jm10, jm20, jm24, jm60, jm100, Int32.reduceToInt]; omega)) only [i32_add, i32_sub, i32_mul, jd4, jd10, jd20, jd24, jd60, jd100, jm4, jm10, jm20, jm24, jm60, jm100, Int32.reduceToInt]; omega)) only [i32_add, i32_sub, i32_mul, jd4, jd10, jd20, jd24, jd60, jd100, jm4, jm10, jm20, jm24, jm60, jm100, Int32.reduceToInt]; omega)) only [i32_add, i32_sub, i32_mul, jd4, jd10, jd20, jd24, jd60, jd100, jm4, jm10, jm20, jm24, jm60, jm100, Int32.reduceToInt] at *) <;> (first | omega | ((try simp (disch := first | omega | (simp (disch := first | omega | (simp (disch := first | omega | (simp only [jd4, jd10, jd20, jd24, jd60, jd100, jm4, jm10, jm20, jm24, jm60, jm100, Int32.reduceToInt]; omega)) only [i32_add, i32_sub, i32_mul, jd4, jd10, jd20, jd24, jd60, jd100, jm4, jm10, jm20, jm24, jm60, jm100, Int32.reduceToInt]; omega)) only [i32_add, i32_sub, i32_mul, jd4, jd10, jd20, jd24, jd60, jd100, jm4, jm10, jm20, jm24, jm60, jm100, Int32.reduceToInt]; omega)) only [i32_add, i32_sub, i32_mul, jd4, jd10, jd20, jd24, jd60, jd100, jm4, jm10, jm20, jm24, jm60, jm100, Int32.reduceToInt] at *) <;> (first | omega | ((simp only [jadd, jsub, jmul, jneg, Int32.reduceToInt] at *) <;> omega))))))))))
