set_option maxRecDepth 4000 in
theorem w_X12_sum_L4 {b0 : SS} {c0 : SS} {N : Int} {rec : SS → Option SS} {Q : SS → Prop} (hrec : ∀ (s : SS), Lk b0 s → Ps s → 8 - (zS s 59 49).toInt < N → Ok (rec s) (fun r => Lk b0 r ∧ Px s r ∧ Pg s r ∧ Wd 1 s r)) (g0 : 8 - (zS c0 59 49).toInt < N) (hr : ∀ s, Lk b0 s → (Px c0 s ∧ Pg c0 s ∧ Wd 1 c0 s) → Q s) : ∀ (n : Nat) (s : SS), Lk b0 s → (Px c0 s) → (Pg c0 s) → (Wd 1 c0 s) → (zS s 59 37).toInt - (zS s 59 47).toInt < (n : Int) → Ok (f_X12_sum_L4 rec n s) Q := by
  intro n
  induction n with
  | zero =>
    intro s K i0 i1 i2 hm
    exfalso
    (first | with_reducible assumption | omega | ((try clear ih); (try clear hr); (try clear hq0); (try clear hq1); (try clear hrec); ((try simp only [inB, Px, Ps, Pr, Pl, Rg, bF, jlt, jeq, Int32.reduceToInt, jn1, zS_pS, zI_pS, zN_pS, Nat.reduceEqDiff, Nat.reduceAdd, Nat.reduceMul, ite_true, ite_false, and_true, true_and, and_false, false_and, true_or, or_true, false_or, or_false, not_true_eq_false, not_false_eq_true, reduceIte, reduceCtorEq, eq_self] at *) <;> (first | omega | ((try simp only [inB, Pg, Px, Ps, Pr, Pl, Rg, bF, jlt, jeq, Int32.reduceToInt, jn1, zS_pS, zI_pS, zN_pS, Nat.reduceEqDiff, Nat.reduceAdd, Nat.reduceMul, ite_true, ite_false, and_true, true_and, and_false, false_and, true_or, or_true, false_or, or_false, not_true_eq_false, not_false_eq_true, reduceIte, reduceCtorEq, eq_self] at *) <;> (first | omega | ((try simp (disch := first | omega | (simp (disch := first | omega | (simp (disch := first | omega | (simp only [Int32.reduceToInt]; omega)) only [i32_add, i32_sub, Int32.reduceToInt]; omega)) only [i32_add, i32_sub, Int32.reduceToInt]; omega)) only [i32_add, i32_sub, Int32.reduceToInt] at *) <;> (first | omega | ((try simp (disch := first | omega | (simp (disch := first | omega | (simp (disch := first | omega | (simp only [Int32.reduceToInt]; omega)) only [i32_add, i32_sub, Int32.reduceToInt]; omega)) only [i32_add, i32_sub, Int32.reduceToInt]; omega)) only [i32_add, i32_sub, Int32.reduceToInt] at *) <;> (first | omega | ((simp only [jadd, jsub, jmul, jneg, Int32.reduceToInt] at *) <;> omega)))))))))))
  | succ n ih =>
    intro s K i0 i1 i2 hm
    show Ok (f_X12_sum_L4_b rec (f_X12_sum_L4 rec n) s) Q
    unfold f_X12_sum_L4_b
    repeat' (first
      | with_reducible assumption
      | (with_reducible show Ok _ _; first | dsimp only | with_reducible refine Ok_some ?_ | with_reducible refine Ok_vl ?_ | with_reducible refine Ok_st ?_ | with_reducible refine Ok_jn ?_ | with_reducible refine Ok_b1 ?_ | with_reducible refine Ok_ift (by decide) ?_ | with_reducible refine Ok_iff (by decide) ?_ | with_reducible refine Ok_if (fun _ => ?_) (fun _ => ?_) | with_reducible refine ih _  ?_ ?_ ?_ ?_ ?_ | with_reducible refine Ok.mono (hrec _ ?_ ?_ ?_) (fun _ ⟨_, _, _, _⟩ => ?_) | with_reducible refine Ok.mono (Ok.self (w_X12_look (b0 := b0) ?_ ?_)) (fun _ ⟨_, _⟩ => ?_) | with_reducible refine Ok.mono (w_X12_product (b0 := b0) (N := N) (by assumption) ?_ ?_ ?_) (fun _ ⟨_, _, _, _⟩ => ?_) | with_reducible refine Ok.mono (Ok.La (w_X12_lay (b0 := b0) ?_ ?_)) (fun _ ⟨⟨_, _⟩, _⟩ => ?_))
      | dsimp only
      | (with_reducible show Lk _ _; first | with_reducible refine Lk.wF ?_ (by decide) (by decide) (by decide) ?_)
      | (with_reducible show Wd _ _ _; first | with_reducible refine Wd.push1 (by assumption) ?_ | with_reducible refine Wd.push2 (by assumption) ?_ ?_ | with_reducible refine Wd.un3 (by assumption) ?_ | with_reducible refine Wd.un4 (by assumption) ?_ | with_reducible refine Wd.op (by assumption) ?_ ?_ | with_reducible refine Wd.pf (by decide) ?_ | with_reducible exact Wd.rf | with_reducible refine Wd.t1 (by assumption) ?_ | with_reducible refine Wd.t2 (by assumption) ?_ | with_reducible refine Wd.t0 (by assumption) ?_ | with_reducible refine Wd.fault ?_)
      | with_reducible refine nm2 (by assumption) (by assumption) (by assumption) (by assumption)
      | with_reducible exact sg38
      | with_reducible exact sg124
      | with_reducible exact sge60 (by assumption)
      | with_reducible exact sge61 (by assumption)
      | with_reducible exact sge62 (by assumption)
      | with_reducible exact sgl42 (by assumption) (by assumption) (by assumption)
      | with_reducible exact sgl47 (by assumption) (by assumption) (by assumption)
      | with_reducible exact sgl37 (by assumption) (by assumption) (by assumption)
      | with_reducible exact sgl43 (by assumption) (by assumption) (by assumption)
      | with_reducible exact sgl45 (by assumption) (by assumption) (by assumption)
      | with_reducible refine hr _ ?_ ?_
      | with_reducible refine And.intro ?_ ?_)
    all_goals (try (first | with_reducible assumption | exact trivial | omega | ((try clear ih); (try clear hr); (try clear hq0); (try clear hq1); (try clear hrec); ((try simp only [inB, Px, Ps, Pr, Pl, Rg, bF, jlt, jeq, Int32.reduceToInt, jn1, zS_pS, zI_pS, zN_pS, Nat.reduceEqDiff, Nat.reduceAdd, Nat.reduceMul, ite_true, ite_false, and_true, true_and, and_false, false_and, true_or, or_true, false_or, or_false, not_true_eq_false, not_false_eq_true, reduceIte, reduceCtorEq, eq_self] at *) <;> (first | omega | ((try simp only [inB, Pg, Px, Ps, Pr, Pl, Rg, bF, jlt, jeq, Int32.reduceToInt, jn1, zS_pS, zI_pS, zN_pS, Nat.reduceEqDiff, Nat.reduceAdd, Nat.reduceMul, ite_true, ite_false, and_true, true_and, and_false, false_and, true_or, or_true, false_or, or_false, not_true_eq_false, not_false_eq_true, reduceIte, reduceCtorEq, eq_self] at *) <;> (first | omega | ((try simp (disch := first | omega | (simp (disch := first | omega | (simp (disch := first | omega | (simp only [Int32.reduceToInt]; omega)) only [i32_add, i32_sub, Int32.reduceToInt]; omega)) only [i32_add, i32_sub, Int32.reduceToInt]; omega)) only [i32_add, i32_sub, Int32.reduceToInt] at *) <;> (first | omega | ((try simp (disch := first | omega | (simp (disch := first | omega | (simp (disch := first | omega | (simp only [Int32.reduceToInt]; omega)) only [i32_add, i32_sub, Int32.reduceToInt]; omega)) only [i32_add, i32_sub, Int32.reduceToInt]; omega)) only [i32_add, i32_sub, Int32.reduceToInt] at *) <;> (first | omega | ((simp only [jadd, jsub, jmul, jneg, Int32.reduceToInt] at *) <;> omega))))))))))))
set_option maxRecDepth 4000 in
theorem w_X12_sum {b0 : SS} {N : Int} {rec : SS → Option SS} {s0 : SS} (hrec : ∀ (s : SS), Lk b0 s → Ps s → 8 - (zS s 59 49).toInt < N → Ok (rec s) (fun r => Lk b0 r ∧ Px s r ∧ Pg s r ∧ Wd 1 s r)) (K : Lk b0 s0) (g0 : Ps s0) (g1 : 8 - (zS s0 59 49).toInt < N) : Ok (f_X12_sum rec s0) (fun r => Lk b0 r ∧ Px s0 r ∧ Pg s0 r ∧ Wd 1 s0 r) := by
  unfold f_X12_sum
  repeat' (first
    | with_reducible assumption
    | (with_reducible show Ok _ _; first | dsimp only | with_reducible refine Ok_b1 ?_ | with_reducible refine Ok.mono (hrec _ ?_ ?_ ?_) (fun _ ⟨_, _, _, _⟩ => ?_) | with_reducible refine Ok.mono (w_X12_product (b0 := b0) (N := N) (by assumption) ?_ ?_ ?_) (fun _ ⟨_, _, _, _⟩ => ?_))
    | dsimp only
    | (with_reducible show Wd _ _ _; first | with_reducible refine Wd.push1 (by assumption) ?_ | with_reducible refine Wd.push2 (by assumption) ?_ ?_ | with_reducible refine Wd.un3 (by assumption) ?_ | with_reducible refine Wd.un4 (by assumption) ?_ | with_reducible refine Wd.op (by assumption) ?_ ?_ | with_reducible refine Wd.pf (by decide) ?_ | with_reducible exact Wd.rf | with_reducible refine Wd.t1 (by assumption) ?_ | with_reducible refine Wd.t2 (by assumption) ?_ | with_reducible refine Wd.t0 (by assumption) ?_ | with_reducible refine Wd.fault ?_)
    | with_reducible refine nm2 (by assumption) (by assumption) (by assumption) (by assumption)
    | with_reducible exact sg38
    | with_reducible exact sg124
    | with_reducible exact sge60 (by assumption)
    | with_reducible exact sge61 (by assumption)
    | with_reducible exact sge62 (by assumption)
    | with_reducible exact sgl42 (by assumption) (by assumption) (by assumption)
    | with_reducible exact sgl47 (by assumption) (by assumption) (by assumption)
    | with_reducible exact sgl37 (by assumption) (by assumption) (by assumption)
    | with_reducible exact sgl43 (by assumption) (by assumption) (by assumption)
    | with_reducible exact sgl45 (by assumption) (by assumption) (by assumption)
    | with_reducible refine w_X12_sum_L4 (b0 := b0) (c0 := s0) (N := N) (by assumption) ?_ (fun _ _ _ => ?_) _ _  ?_ ?_ ?_ ?_ ?_
    | with_reducible refine And.intro ?_ ?_)
  all_goals (try (first | with_reducible assumption | exact trivial | omega | ((try clear ih); (try clear hr); (try clear hq0); (try clear hq1); (try clear hrec); ((try simp only [inB, Px, Ps, jlt, jeq, Int32.reduceToInt, Nat.reduceEqDiff, Nat.reduceAdd, Nat.reduceMul, ite_true, ite_false, and_true, true_and, and_false, false_and, true_or, or_true, false_or, or_false, not_true_eq_false, not_false_eq_true, reduceIte, reduceCtorEq, eq_self] at *) <;> (first | omega | ((try simp only [inB, Pg, Px, Ps, jlt, jeq, Int32.reduceToInt, Nat.reduceEqDiff, Nat.reduceAdd, Nat.reduceMul, ite_true, ite_false, and_true, true_and, and_false, false_and, true_or, or_true, false_or, or_false, not_true_eq_false, not_false_eq_true, reduceIte, reduceCtorEq, eq_self] at *) <;> (first | omega | ((try simp (disch := first | omega | (simp (disch := first | omega | (simp (disch := first | omega | (simp only [Int32.reduceToInt]; omega)) only [i32_sub, Int32.reduceToInt]; omega)) only [i32_sub, Int32.reduceToInt]; omega)) only [i32_sub, Int32.reduceToInt] at *) <;> (first | omega | ((try simp (disch := first | omega | (simp (disch := first | omega | (simp (disch := first | omega | (simp only [Int32.reduceToInt]; omega)) only [i32_sub, Int32.reduceToInt]; omega)) only [i32_sub, Int32.reduceToInt]; omega)) only [i32_sub, Int32.reduceToInt] at *) <;> (first | omega | ((simp only [jadd, jsub, jmul, jneg, Int32.reduceToInt] at *) <;> omega))))))))))))
set_option maxRecDepth 4000 in
theorem w_X12_compared {b0 : SS} {N : Int} {rec : SS → Option SS} {s0 : SS} (hrec : ∀ (s : SS), Lk b0 s → Ps s → 8 - (zS s 59 49).toInt < N → Ok (rec s) (fun r => Lk b0 r ∧ Px s r ∧ Pg s r ∧ Wd 1 s r)) (K : Lk b0 s0) (g0 : Ps s0) (g1 : 8 - (zS s0 59 49).toInt < N) : Ok (f_X12_compared rec s0) (fun r => Lk b0 r ∧ Px s0 r ∧ Pg s0 r ∧ Wd 1 s0 r) := by
  unfold f_X12_compared
  repeat' (first
    | with_reducible assumption
    | (with_reducible show Ok _ _; first | dsimp only | with_reducible refine Ok_some ?_ | with_reducible refine Ok_vl ?_ | with_reducible refine Ok_st ?_ | with_reducible refine Ok_jn ?_ | with_reducible refine Ok_b1 ?_ | with_reducible refine Ok_ift (by decide) ?_ | with_reducible refine Ok_iff (by decide) ?_ | with_reducible refine Ok_if (fun _ => ?_) (fun _ => ?_) | with_reducible refine Ok.mono (hrec _ ?_ ?_ ?_) (fun _ ⟨_, _, _, _⟩ => ?_) | with_reducible refine Ok.mono (w_X12_sum (b0 := b0) (N := N) (by assumption) ?_ ?_ ?_) (fun _ ⟨_, _, _, _⟩ => ?_) | with_reducible refine Ok.mono (Ok.self (w_X12_look (b0 := b0) ?_ ?_)) (fun _ ⟨_, _⟩ => ?_) | with_reducible refine Ok.mono (Ok.La (w_X12_lay (b0 := b0) ?_ ?_)) (fun _ ⟨⟨_, _⟩, _⟩ => ?_))
    | dsimp only
    | (with_reducible show Lk _ _; first | with_reducible refine Lk.wF ?_ (by decide) (by decide) (by decide) ?_)
    | (with_reducible show Wd _ _ _; first | with_reducible refine Wd.push1 (by assumption) ?_ | with_reducible refine Wd.push2 (by assumption) ?_ ?_ | with_reducible refine Wd.un3 (by assumption) ?_ | with_reducible refine Wd.un4 (by assumption) ?_ | with_reducible refine Wd.op (by assumption) ?_ ?_ | with_reducible refine Wd.pf (by decide) ?_ | with_reducible exact Wd.rf | with_reducible refine Wd.t1 (by assumption) ?_ | with_reducible refine Wd.t2 (by assumption) ?_ | with_reducible refine Wd.t0 (by assumption) ?_ | with_reducible refine Wd.fault ?_)
    | with_reducible refine nm2 (by assumption) (by assumption) (by assumption) (by assumption)
    | with_reducible exact sg38
    | with_reducible exact sg124
    | with_reducible exact sge60 (by assumption)
    | with_reducible exact sge61 (by assumption)
    | with_reducible exact sge62 (by assumption)
    | with_reducible exact sgl42 (by assumption) (by assumption) (by assumption)
    | with_reducible exact sgl47 (by assumption) (by assumption) (by assumption)
    | with_reducible exact sgl37 (by assumption) (by assumption) (by assumption)
    | with_reducible exact sgl43 (by assumption) (by assumption) (by assumption)
    | with_reducible exact sgl45 (by assumption) (by assumption) (by assumption)
    | with_reducible refine And.intro ?_ ?_)
  all_goals (try (first | with_reducible assumption | exact trivial | omega | ((try clear ih); (try clear hr); (try clear hq0); (try clear hq1); (try clear hrec); ((try simp only [inB, Px, Ps, Pr, Pl, Rg, bF, jlt, jeq, Int32.reduceToInt, jn1, zS_pS, zI_pS, zN_pS, Nat.reduceEqDiff, Nat.reduceAdd, Nat.reduceMul, ite_true, ite_false, and_true, true_and, and_false, false_and, true_or, or_true, false_or, or_false, not_true_eq_false, not_false_eq_true, reduceIte, reduceCtorEq, eq_self] at *) <;> (first | omega | ((try simp only [inB, Pg, Px, Ps, Pr, Pl, Rg, bF, jlt, jeq, Int32.reduceToInt, jn1, zS_pS, zI_pS, zN_pS, Nat.reduceEqDiff, Nat.reduceAdd, Nat.reduceMul, ite_true, ite_false, and_true, true_and, and_false, false_and, true_or, or_true, false_or, or_false, not_true_eq_false, not_false_eq_true, reduceIte, reduceCtorEq, eq_self] at *) <;> (first | omega | ((try simp (disch := first | omega | (simp (disch := first | omega | (simp (disch := first | omega | (simp only [Int32.reduceToInt]; omega)) only [i32_add, i32_sub, Int32.reduceToInt]; omega)) only [i32_add, i32_sub, Int32.reduceToInt]; omega)) only [i32_add, i32_sub, Int32.reduceToInt] at *) <;> (first | omega | ((try simp (disch := first | omega | (simp (disch := first | omega | (simp (disch := first | omega | (simp only [Int32.reduceToInt]; omega)) only [i32_add, i32_sub, Int32.reduceToInt]; omega)) only [i32_add, i32_sub, Int32.reduceToInt]; omega)) only [i32_add, i32_sub, Int32.reduceToInt] at *) <;> (first | omega | ((simp only [jadd, jsub, jmul, jneg, Int32.reduceToInt] at *) <;> omega))))))))))))
set_option maxRecDepth 4000 in
theorem w_X12_all_L4 {b0 : SS} {c0 : SS} {N : Int} {rec : SS → Option SS} {Q : SS → Prop} (hrec : ∀ (s : SS), Lk b0 s → Ps s → 8 - (zS s 59 49).toInt < N → Ok (rec s) (fun r => Lk b0 r ∧ Px s r ∧ Pg s r ∧ Wd 1 s r)) (g0 : 8 - (zS c0 59 49).toInt < N) (hr : ∀ s, Lk b0 s → (Px c0 s ∧ Pg c0 s ∧ Wd 1 c0 s) → Q s) : ∀ (n : Nat) (s : SS), Lk b0 s → (Px c0 s) → (Pg c0 s) → (Wd 1 c0 s) → (zS s 59 37).toInt - (zS s 59 47).toInt < (n : Int) → Ok (f_X12_all_L4 rec n s) Q := by
  intro n
  induction n with
  | zero =>
    intro s K i0 i1 i2 hm
    exfalso
    (first | with_reducible assumption | omega | ((try clear ih); (try clear hr); (try clear hq0); (try clear hq1); (try clear hrec); ((try simp only [inB, Px, Ps, Pr, Pl, Rg, bF, jlt, jeq, Int32.reduceToInt, jn1, zS_pS, zI_pS, zN_pS, Nat.reduceEqDiff, Nat.reduceAdd, Nat.reduceMul, ite_true, ite_false, and_true, true_and, and_false, false_and, true_or, or_true, false_or, or_false, not_true_eq_false, not_false_eq_true, reduceIte, reduceCtorEq, eq_self] at *) <;> (first | omega | ((try simp only [inB, Pg, Px, Ps, Pr, Pl, Rg, bF, jlt, jeq, Int32.reduceToInt, jn1, zS_pS, zI_pS, zN_pS, Nat.reduceEqDiff, Nat.reduceAdd, Nat.reduceMul, ite_true, ite_false, and_true, true_and, and_false, false_and, true_or, or_true, false_or, or_false, not_true_eq_false, not_false_eq_true, reduceIte, reduceCtorEq, eq_self] at *) <;> (first | omega | ((try simp (disch := first | omega | (simp (disch := first | omega | (simp (disch := first | omega | (simp only [Int32.reduceToInt]; omega)) only [i32_add, i32_sub, Int32.reduceToInt]; omega)) only [i32_add, i32_sub, Int32.reduceToInt]; omega)) only [i32_add, i32_sub, Int32.reduceToInt] at *) <;> (first | omega | ((try simp (disch := first | omega | (simp (disch := first | omega | (simp (disch := first | omega | (simp only [Int32.reduceToInt]; omega)) only [i32_add, i32_sub, Int32.reduceToInt]; omega)) only [i32_add, i32_sub, Int32.reduceToInt]; omega)) only [i32_add, i32_sub, Int32.reduceToInt] at *) <;> (first | omega | ((simp only [jadd, jsub, jmul, jneg, Int32.reduceToInt] at *) <;> omega)))))))))))
  | succ n ih =>
    intro s K i0 i1 i2 hm
    show Ok (f_X12_all_L4_b rec (f_X12_all_L4 rec n) s) Q
    unfold f_X12_all_L4_b
    repeat' (first
      | with_reducible assumption
      | (with_reducible show Ok _ _; first | dsimp only | with_reducible refine Ok_some ?_ | with_reducible refine Ok_vl ?_ | with_reducible refine Ok_st ?_ | with_reducible refine Ok_b1 ?_ | with_reducible refine Ok_ift (by decide) ?_ | with_reducible refine Ok_iff (by decide) ?_ | with_reducible refine Ok_if (fun _ => ?_) (fun _ => ?_) | with_reducible refine ih _  ?_ ?_ ?_ ?_ ?_ | with_reducible refine Ok.mono (hrec _ ?_ ?_ ?_) (fun _ ⟨_, _, _, _⟩ => ?_) | with_reducible refine Ok.mono (Ok.self (w_X12_look (b0 := b0) ?_ ?_)) (fun _ ⟨_, _⟩ => ?_) | with_reducible refine Ok.mono (w_X12_compared (b0 := b0) (N := N) (by assumption) ?_ ?_ ?_) (fun _ ⟨_, _, _, _⟩ => ?_) | with_reducible refine Ok.mono (Ok.La (w_X12_lay (b0 := b0) ?_ ?_)) (fun _ ⟨⟨_, _⟩, _⟩ => ?_))
      | dsimp only
      | (with_reducible show Lk _ _; first | with_reducible refine Lk.wF ?_ (by decide) (by decide) (by decide) ?_)
      | (with_reducible show Wd _ _ _; first | with_reducible refine Wd.push1 (by assumption) ?_ | with_reducible refine Wd.push2 (by assumption) ?_ ?_ | with_reducible refine Wd.un3 (by assumption) ?_ | with_reducible refine Wd.un4 (by assumption) ?_ | with_reducible refine Wd.op (by assumption) ?_ ?_ | with_reducible refine Wd.pf (by decide) ?_ | with_reducible exact Wd.rf | with_reducible refine Wd.t1 (by assumption) ?_ | with_reducible refine Wd.t2 (by assumption) ?_ | with_reducible refine Wd.t0 (by assumption) ?_ | with_reducible refine Wd.fault ?_)
      | with_reducible refine nm2 (by assumption) (by assumption) (by assumption) (by assumption)
      | with_reducible exact sg38
      | with_reducible exact sg124
      | with_reducible exact sge60 (by assumption)
      | with_reducible exact sge61 (by assumption)
      | with_reducible exact sge62 (by assumption)
      | with_reducible exact sgl42 (by assumption) (by assumption) (by assumption)
      | with_reducible exact sgl47 (by assumption) (by assumption) (by assumption)
      | with_reducible exact sgl37 (by assumption) (by assumption) (by assumption)
      | with_reducible exact sgl43 (by assumption) (by assumption) (by assumption)
      | with_reducible exact sgl45 (by assumption) (by assumption) (by assumption)
      | with_reducible refine hr _ ?_ ?_
      | with_reducible refine And.intro ?_ ?_)
    all_goals (try (first | with_reducible assumption | exact trivial | omega | ((try clear ih); (try clear hr); (try clear hq0); (try clear hq1); (try clear hrec); ((try simp only [inB, Px, Ps, Pr, Pl, Rg, bF, jlt, jeq, Int32.reduceToInt, jn1, zS_pS, zI_pS, zN_pS, Nat.reduceEqDiff, Nat.reduceAdd, Nat.reduceMul, ite_true, ite_false, and_true, true_and, and_false, false_and, true_or, or_true, false_or, or_false, not_true_eq_false, not_false_eq_true, reduceIte, reduceCtorEq, eq_self] at *) <;> (first | omega | ((try simp only [inB, Pg, Px, Ps, Pr, Pl, Rg, bF, jlt, jeq, Int32.reduceToInt, jn1, zS_pS, zI_pS, zN_pS, Nat.reduceEqDiff, Nat.reduceAdd, Nat.reduceMul, ite_true, ite_false, and_true, true_and, and_false, false_and, true_or, or_true, false_or, or_false, not_true_eq_false, not_false_eq_true, reduceIte, reduceCtorEq, eq_self] at *) <;> (first | omega | ((try simp (disch := first | omega | (simp (disch := first | omega | (simp (disch := first | omega | (simp only [Int32.reduceToInt]; omega)) only [i32_add, i32_sub, Int32.reduceToInt]; omega)) only [i32_add, i32_sub, Int32.reduceToInt]; omega)) only [i32_add, i32_sub, Int32.reduceToInt] at *) <;> (first | omega | ((try simp (disch := first | omega | (simp (disch := first | omega | (simp (disch := first | omega | (simp only [Int32.reduceToInt]; omega)) only [i32_add, i32_sub, Int32.reduceToInt]; omega)) only [i32_add, i32_sub, Int32.reduceToInt]; omega)) only [i32_add, i32_sub, Int32.reduceToInt] at *) <;> (first | omega | ((simp only [jadd, jsub, jmul, jneg, Int32.reduceToInt] at *) <;> omega))))))))))))
set_option maxRecDepth 4000 in
theorem w_X12_all {b0 : SS} {N : Int} {rec : SS → Option SS} {s0 : SS} (hrec : ∀ (s : SS), Lk b0 s → Ps s → 8 - (zS s 59 49).toInt < N → Ok (rec s) (fun r => Lk b0 r ∧ Px s r ∧ Pg s r ∧ Wd 1 s r)) (K : Lk b0 s0) (g0 : Ps s0) (g1 : 8 - (zS s0 59 49).toInt < N) : Ok (f_X12_all rec s0) (fun r => Lk b0 r ∧ Px s0 r ∧ Pg s0 r ∧ Wd 1 s0 r) := by
  unfold f_X12_all
  repeat' (first
    | with_reducible assumption
    | (with_reducible show Ok _ _; first | dsimp only | with_reducible refine Ok_b1 ?_ | with_reducible refine Ok.mono (hrec _ ?_ ?_ ?_) (fun _ ⟨_, _, _, _⟩ => ?_) | with_reducible refine Ok.mono (w_X12_compared (b0 := b0) (N := N) (by assumption) ?_ ?_ ?_) (fun _ ⟨_, _, _, _⟩ => ?_))
    | dsimp only
    | (with_reducible show Wd _ _ _; first | with_reducible refine Wd.push1 (by assumption) ?_ | with_reducible refine Wd.push2 (by assumption) ?_ ?_ | with_reducible refine Wd.un3 (by assumption) ?_ | with_reducible refine Wd.un4 (by assumption) ?_ | with_reducible refine Wd.op (by assumption) ?_ ?_ | with_reducible refine Wd.pf (by decide) ?_ | with_reducible exact Wd.rf | with_reducible refine Wd.t1 (by assumption) ?_ | with_reducible refine Wd.t2 (by assumption) ?_ | with_reducible refine Wd.t0 (by assumption) ?_ | with_reducible refine Wd.fault ?_)
    | with_reducible refine nm2 (by assumption) (by assumption) (by assumption) (by assumption)
    | with_reducible exact sg38
    | with_reducible exact sg124
    | with_reducible exact sge60 (by assumption)
    | with_reducible exact sge61 (by assumption)
    | with_reducible exact sge62 (by assumption)
    | with_reducible exact sgl42 (by assumption) (by assumption) (by assumption)
    | with_reducible exact sgl47 (by assumption) (by assumption) (by assumption)
    | with_reducible exact sgl37 (by assumption) (by assumption) (by assumption)
    | with_reducible exact sgl43 (by assumption) (by assumption) (by assumption)
    | with_reducible exact sgl45 (by assumption) (by assumption) (by assumption)
    | with_reducible refine w_X12_all_L4 (b0 := b0) (c0 := s0) (N := N) (by assumption) ?_ (fun _ _ _ => ?_) _ _  ?_ ?_ ?_ ?_ ?_
    | with_reducible refine And.intro ?_ ?_)
  all_goals (try (first | with_reducible assumption | exact trivial | omega | ((try clear ih); (try clear hr); (try clear hq0); (try clear hq1); (try clear hrec); ((try simp only [inB, Px, Ps, jlt, jeq, Int32.reduceToInt, Nat.reduceEqDiff, Nat.reduceAdd, Nat.reduceMul, ite_true, ite_false, and_true, true_and, and_false, false_and, true_or, or_true, false_or, or_false, not_true_eq_false, not_false_eq_true, reduceIte, reduceCtorEq, eq_self] at *) <;> (first | omega | ((try simp only [inB, Pg, Px, Ps, jlt, jeq, Int32.reduceToInt, Nat.reduceEqDiff, Nat.reduceAdd, Nat.reduceMul, ite_true, ite_false, and_true, true_and, and_false, false_and, true_or, or_true, false_or, or_false, not_true_eq_false, not_false_eq_true, reduceIte, reduceCtorEq, eq_self] at *) <;> (first | omega | ((try simp (disch := first | omega | (simp (disch := first | omega | (simp (disch := first | omega | (simp only [Int32.reduceToInt]; omega)) only [i32_sub, Int32.reduceToInt]; omega)) only [i32_sub, Int32.reduceToInt]; omega)) only [i32_sub, Int32.reduceToInt] at *) <;> (first | omega | ((try simp (disch := first | omega | (simp (disch := first | omega | (simp (disch := first | omega | (simp only [Int32.reduceToInt]; omega)) only [i32_sub, Int32.reduceToInt]; omega)) only [i32_sub, Int32.reduceToInt]; omega)) only [i32_sub, Int32.reduceToInt] at *) <;> (first | omega | ((simp only [jadd, jsub, jmul, jneg, Int32.reduceToInt] at *) <;> omega))))))))))))
set_option maxRecDepth 4000 in
theorem w_X12_either_L4 {b0 : SS} {c0 : SS} {N : Int} {rec : SS → Option SS} {Q : SS → Prop} (hrec : ∀ (s : SS), Lk b0 s → Ps s → 8 - (zS s 59 49).toInt < N → Ok (rec s) (fun r => Lk b0 r ∧ Px s r ∧ Pg s r ∧ Wd 1 s r)) (g0 : 8 - (zS c0 59 49).toInt < N) (hr : ∀ s, Lk b0 s → (Px c0 s ∧ Pg c0 s ∧ Wd 1 c0 s) → Q s) : ∀ (n : Nat) (s : SS), Lk b0 s → (Px c0 s) → (Pg c0 s) → (Wd 1 c0 s) → (zS s 59 37).toInt - (zS s 59 47).toInt < (n : Int) → Ok (f_X12_either_L4 rec n s) Q := by
  intro n
  induction n with
  | zero =>
    intro s K i0 i1 i2 hm
    exfalso
    (first | with_reducible assumption | omega | ((try clear ih); (try clear hr); (try clear hq0); (try clear hq1); (try clear hrec); ((try simp only [inB, Px, Ps, Pr, Pl, Rg, bF, jlt, jeq, Int32.reduceToInt, jn1, zS_pS, zI_pS, zN_pS, Nat.reduceEqDiff, Nat.reduceAdd, Nat.reduceMul, ite_true, ite_false, and_true, true_and, and_false, false_and, true_or, or_true, false_or, or_false, not_true_eq_false, not_false_eq_true, reduceIte, reduceCtorEq, eq_self] at *) <;> (first | omega | ((try simp only [inB, Pg, Px, Ps, Pr, Pl, Rg, bF, jlt, jeq, Int32.reduceToInt, jn1, zS_pS, zI_pS, zN_pS, Nat.reduceEqDiff, Nat.reduceAdd, Nat.reduceMul, ite_true, ite_false, and_true, true_and, and_false, false_and, true_or, or_true, false_or, or_false, not_true_eq_false, not_false_eq_true, reduceIte, reduceCtorEq, eq_self] at *) <;> (first | omega | ((try simp (disch := first | omega | (simp (disch := first | omega | (simp (disch := first | omega | (simp only [Int32.reduceToInt]; omega)) only [i32_add, i32_sub, Int32.reduceToInt]; omega)) only [i32_add, i32_sub, Int32.reduceToInt]; omega)) only [i32_add, i32_sub, Int32.reduceToInt] at *) <;> (first | omega | ((try simp (disch := first | omega | (simp (disch := first | omega | (simp (disch := first | omega | (simp only [Int32.reduceToInt]; omega)) only [i32_add, i32_sub, Int32.reduceToInt]; omega)) only [i32_add, i32_sub, Int32.reduceToInt]; omega)) only [i32_add, i32_sub, Int32.reduceToInt] at *) <;> (first | omega | ((simp only [jadd, jsub, jmul, jneg, Int32.reduceToInt] at *) <;> omega)))))))))))
  | succ n ih =>
    intro s K i0 i1 i2 hm
    show Ok (f_X12_either_L4_b rec (f_X12_either_L4 rec n) s) Q
    unfold f_X12_either_L4_b
    repeat' (first
      | with_reducible assumption
      | (with_reducible show Ok _ _; first | dsimp only | with_reducible refine Ok_some ?_ | with_reducible refine Ok_vl ?_ | with_reducible refine Ok_st ?_ | with_reducible refine Ok_b1 ?_ | with_reducible refine Ok_ift (by decide) ?_ | with_reducible refine Ok_iff (by decide) ?_ | with_reducible refine Ok_if (fun _ => ?_) (fun _ => ?_) | with_reducible refine ih _  ?_ ?_ ?_ ?_ ?_ | with_reducible refine Ok.mono (hrec _ ?_ ?_ ?_) (fun _ ⟨_, _, _, _⟩ => ?_) | with_reducible refine Ok.mono (Ok.self (w_X12_look (b0 := b0) ?_ ?_)) (fun _ ⟨_, _⟩ => ?_) | with_reducible refine Ok.mono (w_X12_all (b0 := b0) (N := N) (by assumption) ?_ ?_ ?_) (fun _ ⟨_, _, _, _⟩ => ?_) | with_reducible refine Ok.mono (Ok.La (w_X12_lay (b0 := b0) ?_ ?_)) (fun _ ⟨⟨_, _⟩, _⟩ => ?_))
      | dsimp only
      | (with_reducible show Lk _ _; first | with_reducible refine Lk.wF ?_ (by decide) (by decide) (by decide) ?_)
      | (with_reducible show Wd _ _ _; first | with_reducible refine Wd.push1 (by assumption) ?_ | with_reducible refine Wd.push2 (by assumption) ?_ ?_ | with_reducible refine Wd.un3 (by assumption) ?_ | with_reducible refine Wd.un4 (by assumption) ?_ | with_reducible refine Wd.op (by assumption) ?_ ?_ | with_reducible refine Wd.pf (by decide) ?_ | with_reducible exact Wd.rf | with_reducible refine Wd.t1 (by assumption) ?_ | with_reducible refine Wd.t2 (by assumption) ?_ | with_reducible refine Wd.t0 (by assumption) ?_ | with_reducible refine Wd.fault ?_)
      | with_reducible refine nm2 (by assumption) (by assumption) (by assumption) (by assumption)
      | with_reducible exact sg38
      | with_reducible exact sg124
      | with_reducible exact sge60 (by assumption)
      | with_reducible exact sge61 (by assumption)
      | with_reducible exact sge62 (by assumption)
      | with_reducible exact sgl42 (by assumption) (by assumption) (by assumption)
      | with_reducible exact sgl47 (by assumption) (by assumption) (by assumption)
      | with_reducible exact sgl37 (by assumption) (by assumption) (by assumption)
      | with_reducible exact sgl43 (by assumption) (by assumption) (by assumption)
      | with_reducible exact sgl45 (by assumption) (by assumption) (by assumption)
      | with_reducible refine hr _ ?_ ?_
      | with_reducible refine And.intro ?_ ?_)
    all_goals (try (first | with_reducible assumption | exact trivial | omega | ((try clear ih); (try clear hr); (try clear hq0); (try clear hq1); (try clear hrec); ((try simp only [inB, Px, Ps, Pr, Pl, Rg, bF, jlt, jeq, Int32.reduceToInt, jn1, zS_pS, zI_pS, zN_pS, Nat.reduceEqDiff, Nat.reduceAdd, Nat.reduceMul, ite_true, ite_false, and_true, true_and, and_false, false_and, true_or, or_true, false_or, or_false, not_true_eq_false, not_false_eq_true, reduceIte, reduceCtorEq, eq_self] at *) <;> (first | omega | ((try simp only [inB, Pg, Px, Ps, Pr, Pl, Rg, bF, jlt, jeq, Int32.reduceToInt, jn1, zS_pS, zI_pS, zN_pS, Nat.reduceEqDiff, Nat.reduceAdd, Nat.reduceMul, ite_true, ite_false, and_true, true_and, and_false, false_and, true_or, or_true, false_or, or_false, not_true_eq_false, not_false_eq_true, reduceIte, reduceCtorEq, eq_self] at *) <;> (first | omega | ((try simp (disch := first | omega | (simp (disch := first | omega | (simp (disch := first | omega | (simp only [Int32.reduceToInt]; omega)) only [i32_add, i32_sub, Int32.reduceToInt]; omega)) only [i32_add, i32_sub, Int32.reduceToInt]; omega)) only [i32_add, i32_sub, Int32.reduceToInt] at *) <;> (first | omega | ((try simp (disch := first | omega | (simp (disch := first | omega | (simp (disch := first | omega | (simp only [Int32.reduceToInt]; omega)) only [i32_add, i32_sub, Int32.reduceToInt]; omega)) only [i32_add, i32_sub, Int32.reduceToInt]; omega)) only [i32_add, i32_sub, Int32.reduceToInt] at *) <;> (first | omega | ((simp only [jadd, jsub, jmul, jneg, Int32.reduceToInt] at *) <;> omega))))))))))))
set_option maxRecDepth 4000 in
theorem w_X12_either {b0 : SS} {N : Int} {rec : SS → Option SS} {s0 : SS} (hrec : ∀ (s : SS), Lk b0 s → Ps s → 8 - (zS s 59 49).toInt < N → Ok (rec s) (fun r => Lk b0 r ∧ Px s r ∧ Pg s r ∧ Wd 1 s r)) (K : Lk b0 s0) (g0 : Ps s0) (g1 : 8 - (zS s0 59 49).toInt < N) : Ok (f_X12_either rec s0) (fun r => Lk b0 r ∧ Px s0 r ∧ Pg s0 r ∧ Wd 1 s0 r) := by
  unfold f_X12_either
  repeat' (first
    | with_reducible assumption
    | (with_reducible show Ok _ _; first | dsimp only | with_reducible refine Ok_b1 ?_ | with_reducible refine Ok.mono (hrec _ ?_ ?_ ?_) (fun _ ⟨_, _, _, _⟩ => ?_) | with_reducible refine Ok.mono (w_X12_all (b0 := b0) (N := N) (by assumption) ?_ ?_ ?_) (fun _ ⟨_, _, _, _⟩ => ?_))
    | dsimp only
    | (with_reducible show Wd _ _ _; first | with_reducible refine Wd.push1 (by assumption) ?_ | with_reducible refine Wd.push2 (by assumption) ?_ ?_ | with_reducible refine Wd.un3 (by assumption) ?_ | with_reducible refine Wd.un4 (by assumption) ?_ | with_reducible refine Wd.op (by assumption) ?_ ?_ | with_reducible refine Wd.pf (by decide) ?_ | with_reducible exact Wd.rf | with_reducible refine Wd.t1 (by assumption) ?_ | with_reducible refine Wd.t2 (by assumption) ?_ | with_reducible refine Wd.t0 (by assumption) ?_ | with_reducible refine Wd.fault ?_)
    | with_reducible refine nm2 (by assumption) (by assumption) (by assumption) (by assumption)
    | with_reducible exact sg38
    | with_reducible exact sg124
    | with_reducible exact sge60 (by assumption)
    | with_reducible exact sge61 (by assumption)
    | with_reducible exact sge62 (by assumption)
    | with_reducible exact sgl42 (by assumption) (by assumption) (by assumption)
    | with_reducible exact sgl47 (by assumption) (by assumption) (by assumption)
    | with_reducible exact sgl37 (by assumption) (by assumption) (by assumption)
    | with_reducible exact sgl43 (by assumption) (by assumption) (by assumption)
    | with_reducible exact sgl45 (by assumption) (by assumption) (by assumption)
    | with_reducible refine w_X12_either_L4 (b0 := b0) (c0 := s0) (N := N) (by assumption) ?_ (fun _ _ _ => ?_) _ _  ?_ ?_ ?_ ?_ ?_
    | with_reducible refine And.intro ?_ ?_)
  all_goals (try (first | with_reducible assumption | exact trivial | omega | ((try clear ih); (try clear hr); (try clear hq0); (try clear hq1); (try clear hrec); ((try simp only [inB, Px, Ps, jlt, jeq, Int32.reduceToInt, Nat.reduceEqDiff, Nat.reduceAdd, Nat.reduceMul, ite_true, ite_false, and_true, true_and, and_false, false_and, true_or, or_true, false_or, or_false, not_true_eq_false, not_false_eq_true, reduceIte, reduceCtorEq, eq_self] at *) <;> (first | omega | ((try simp only [inB, Pg, Px, Ps, jlt, jeq, Int32.reduceToInt, Nat.reduceEqDiff, Nat.reduceAdd, Nat.reduceMul, ite_true, ite_false, and_true, true_and, and_false, false_and, true_or, or_true, false_or, or_false, not_true_eq_false, not_false_eq_true, reduceIte, reduceCtorEq, eq_self] at *) <;> (first | omega | ((try simp (disch := first | omega | (simp (disch := first | omega | (simp (disch := first | omega | (simp only [Int32.reduceToInt]; omega)) only [i32_sub, Int32.reduceToInt]; omega)) only [i32_sub, Int32.reduceToInt]; omega)) only [i32_sub, Int32.reduceToInt] at *) <;> (first | omega | ((try simp (disch := first | omega | (simp (disch := first | omega | (simp (disch := first | omega | (simp only [Int32.reduceToInt]; omega)) only [i32_sub, Int32.reduceToInt]; omega)) only [i32_sub, Int32.reduceToInt]; omega)) only [i32_sub, Int32.reduceToInt] at *) <;> (first | omega | ((simp only [jadd, jsub, jmul, jneg, Int32.reduceToInt] at *) <;> omega))))))))))))
set_option maxRecDepth 4000 in
theorem w_X12_operand_L148 {b0 : SS} {c0 : SS} {N : Int} {rec : SS → Option SS} {q0 : SS → Int32 → Int32 → Option SS} {Q : SS → Prop} (hrec : ∀ (s : SS), Lk b0 s → Ps s → 8 - (zS s 59 49).toInt < N → Ok (rec s) (fun r => Lk b0 r ∧ Px s r ∧ Pg s r ∧ Wd 1 s r)) (hq0 : ∀ (s : SS) (z0 : Int32) (z1 : Int32), Lk b0 s → (Px c0 s) → ((zS c0 59 47).toInt - (zS c0 59 51).toInt + z0.toInt ≤ (zS s 59 47).toInt - (zS s 59 51).toInt) → ((zS s 59 48).toInt = (zS c0 59 48).toInt) → (Wd 0 c0 s) → (0 ≤ z0.toInt ∧ z0.toInt ≤ 5) → Ok (q0 s z0 z1) Q) : ∀ (n : Nat) (s : SS) (x2 : Int32) (x3 : Int32), Lk b0 s → (Px c0 s) → ((zS c0 59 47).toInt - (zS c0 59 51).toInt + x2.toInt ≤ (zS s 59 47).toInt - (zS s 59 51).toInt) → ((zS s 59 48).toInt = (zS c0 59 48).toInt) → (Wd 0 c0 s) → (0 ≤ x2.toInt ∧ x2.toInt ≤ 5) → 5 - x2.toInt < (n : Int) → Ok (f_X12_operand_L148 rec q0 n s x2 x3) Q := by
  intro n
  induction n with
  | zero =>
    intro s x2 x3 K i0 i1 i2 i3 i4 hm
    exfalso
    (first | with_reducible assumption | omega | ((try clear ih); (try clear hr); (try clear hq0); (try clear hq1); (try clear hrec); ((try simp only [inB, Px, Ps, Rg, bF, jlt, jeq, Int32.reduceToInt, jn1, zS_pS, zI_pS, zN_pS, Nat.reduceEqDiff, Nat.reduceAdd, Nat.reduceMul, ite_true, ite_false, and_true, true_and, and_false, false_and, true_or, or_true, false_or, or_false, not_true_eq_false, not_false_eq_true, reduceIte, reduceCtorEq, eq_self] at *) <;> (first | omega | ((try simp only [inB, Pg, Px, Ps, Rg, bF, jlt, jeq, Int32.reduceToInt, jn1, zS_pS, zI_pS, zN_pS, Nat.reduceEqDiff, Nat.reduceAdd, Nat.reduceMul, ite_true, ite_false, and_true, true_and, and_false, false_and, true_or, or_true, false_or, or_false, not_true_eq_false, not_false_eq_true, reduceIte, reduceCtorEq, eq_self] at *) <;> (first | omega | ((try simp (disch := first | omega | (simp (disch := first | omega | (simp (disch := first | omega | (simp only [Int32.reduceToInt]; omega)) only [i32_add, i32_sub, i32_mul, Int32.reduceToInt]; omega)) only [i32_add, i32_sub, i32_mul, Int32.reduceToInt]; omega)) only [i32_add, i32_sub, i32_mul, Int32.reduceToInt] at *) <;> (first | omega | ((try simp (disch := first | omega | (simp (disch := first | omega | (simp (disch := first | omega | (simp only [Int32.reduceToInt]; omega)) only [i32_add, i32_sub, i32_mul, Int32.reduceToInt]; omega)) only [i32_add, i32_sub, i32_mul, Int32.reduceToInt]; omega)) only [i32_add, i32_sub, i32_mul, Int32.reduceToInt] at *) <;> (first | omega | ((simp only [jadd, jsub, jmul, jneg, Int32.reduceToInt] at *) <;> omega)))))))))))
  | succ n ih =>
    intro s x2 x3 K i0 i1 i2 i3 i4 hm
    show Ok (f_X12_operand_L148_b rec q0 (f_X12_operand_L148 rec q0 n) s x2 x3) Q
    unfold f_X12_operand_L148_b
    repeat' (first
      | with_reducible assumption
      | (with_reducible show Ok _ _; first | dsimp only | with_reducible refine Ok_vl ?_ | with_reducible refine Ok_st ?_ | with_reducible refine Ok_b1 ?_ | with_reducible refine Ok_ift (by decide) ?_ | with_reducible refine Ok_iff (by decide) ?_ | with_reducible refine Ok_if (fun _ => ?_) (fun _ => ?_) | with_reducible refine ih _ _ _  ?_ ?_ ?_ ?_ ?_ ?_ ?_ | with_reducible refine Ok.mono (hrec _ ?_ ?_ ?_) (fun _ ⟨_, _, _, _⟩ => ?_) | with_reducible refine hq0 _ _ _  ?_ ?_ ?_ ?_ ?_ ?_ | with_reducible refine Ok.mono (Ok.self (w_X12_look (b0 := b0) ?_ ?_)) (fun _ ⟨_, _⟩ => ?_) | with_reducible refine Ok.mono (w_X12_in ) (fun _ _ => ?_))
      | dsimp only
      | (with_reducible show Lk _ _; first | with_reducible refine Lk.wF ?_ (by decide) (by decide) (by decide) ?_)
      | (with_reducible show Wd _ _ _; first | with_reducible refine Wd.push1 (by assumption) ?_ | with_reducible refine Wd.push2 (by assumption) ?_ ?_ | with_reducible refine Wd.un3 (by assumption) ?_ | with_reducible refine Wd.un4 (by assumption) ?_ | with_reducible refine Wd.op (by assumption) ?_ ?_ | with_reducible refine Wd.pf (by decide) ?_ | with_reducible exact Wd.rf | with_reducible refine Wd.t1 (by assumption) ?_ | with_reducible refine Wd.t2 (by assumption) ?_ | with_reducible refine Wd.t0 (by assumption) ?_ | with_reducible refine Wd.fault ?_)
      | with_reducible refine nm2 (by assumption) (by assumption) (by assumption) (by assumption)
      | with_reducible exact sg38
      | with_reducible exact sg124
      | with_reducible exact sge60 (by assumption)
      | with_reducible exact sge61 (by assumption)
      | with_reducible exact sge62 (by assumption)
      | with_reducible exact sgl42 (by assumption) (by assumption) (by assumption)
      | with_reducible exact sgl47 (by assumption) (by assumption) (by assumption)
      | with_reducible exact sgl37 (by assumption) (by assumption) (by assumption)
      | with_reducible exact sgl43 (by assumption) (by assumption) (by assumption)
      | with_reducible exact sgl45 (by assumption) (by assumption) (by assumption)
      | with_reducible refine And.intro ?_ ?_)
    all_goals (try (first | with_reducible assumption | exact trivial | omega | ((try clear ih); (try clear hr); (try clear hq0); (try clear hq1); (try clear hrec); ((try simp only [inB, Px, Ps, Rg, bF, jlt, jeq, Int32.reduceToInt, jn1, zS_pS, zI_pS, zN_pS, Nat.reduceEqDiff, Nat.reduceAdd, Nat.reduceMul, ite_true, ite_false, and_true, true_and, and_false, false_and, true_or, or_true, false_or, or_false, not_true_eq_false, not_false_eq_true, reduceIte, reduceCtorEq, eq_self] at *) <;> (first | omega | ((try simp only [inB, Pg, Px, Ps, Rg, bF, jlt, jeq, Int32.reduceToInt, jn1, zS_pS, zI_pS, zN_pS, Nat.reduceEqDiff, Nat.reduceAdd, Nat.reduceMul, ite_true, ite_false, and_true, true_and, and_false, false_and, true_or, or_true, false_or, or_false, not_true_eq_false, not_false_eq_true, reduceIte, reduceCtorEq, eq_self] at *) <;> (first | omega | ((try simp (disch := first | omega | (simp (disch := first | omega | (simp (disch := first | omega | (simp only [Int32.reduceToInt]; omega)) only [i32_add, i32_sub, i32_mul, Int32.reduceToInt]; omega)) only [i32_add, i32_sub, i32_mul, Int32.reduceToInt]; omega)) only [i32_add, i32_sub, i32_mul, Int32.reduceToInt] at *) <;> (first | omega | ((try simp (disch := first | omega | (simp (disch := first | omega | (simp (disch := first | omega | (simp only [Int32.reduceToInt]; omega)) only [i32_add, i32_sub, i32_mul, Int32.reduceToInt]; omega)) only [i32_add, i32_sub, i32_mul, Int32.reduceToInt]; omega)) only [i32_add, i32_sub, i32_mul, Int32.reduceToInt] at *) <;> (first | omega | ((simp only [jadd, jsub, jmul, jneg, Int32.reduceToInt] at *) <;> omega))))))))))))
set_option maxRecDepth 4000 in
theorem w_X12_operand {b0 : SS} : ∀ (n : Nat) (s0 : SS), Lk b0 s0 → (Ps s0) → (8 - (zS s0 59 49).toInt < n) → Ok (f_X12_operand n s0) (fun r => Lk b0 r ∧ Px s0 r ∧ Pg s0 r ∧ Wd 1 s0 r) := by
  intro n
  induction n with
  | zero =>
    intro s0 K i0 i1
    exfalso
    (first | with_reducible assumption | omega | ((try clear ih); (try clear hr); (try clear hq0); (try clear hq1); (try clear hrec); ((try simp only [inB, Px, Ps, Pr, Pl, Rg, bF, jlt, jeq, Int32.reduceToInt, jn1, zS_pS, zI_pS, zN_pS, Nat.reduceEqDiff, Nat.reduceAdd, Nat.reduceMul, ite_true, ite_false, and_true, true_and, and_false, false_and, true_or, or_true, false_or, or_false, not_true_eq_false, not_false_eq_true, reduceIte, reduceCtorEq, eq_self] at *) <;> (first | omega | ((try simp only [inB, Pg, Px, Ps, Pr, Pl, Rg, bF, jlt, jeq, Int32.reduceToInt, jn1, zS_pS, zI_pS, zN_pS, Nat.reduceEqDiff, Nat.reduceAdd, Nat.reduceMul, ite_true, ite_false, and_true, true_and, and_false, false_and, true_or, or_true, false_or, or_false, not_true_eq_false, not_false_eq_true, reduceIte, reduceCtorEq, eq_self] at *) <;> (first | omega | ((try simp (disch := first | omega | (simp (disch := first | omega | (simp (disch := first | omega | (simp only [Int32.reduceToInt]; omega)) only [i32_add, i32_sub, Int32.reduceToInt]; omega)) only [i32_add, i32_sub, Int32.reduceToInt]; omega)) only [i32_add, i32_sub, Int32.reduceToInt] at *) <;> (first | omega | ((try simp (disch := first | omega | (simp (disch := first | omega | (simp (disch := first | omega | (simp only [Int32.reduceToInt]; omega)) only [i32_add, i32_sub, Int32.reduceToInt]; omega)) only [i32_add, i32_sub, Int32.reduceToInt]; omega)) only [i32_add, i32_sub, Int32.reduceToInt] at *) <;> (first | omega | ((simp only [jadd, jsub, jmul, jneg, Int32.reduceToInt] at *) <;> omega)))))))))))
  | succ n ih =>
    intro s0 K i0 i1
    show Ok (f_X12_operand_r (f_X12_operand n) s0) _
    unfold f_X12_operand_r
    repeat' (first
      | with_reducible assumption
      | (with_reducible show Ok _ _; first | dsimp only | with_reducible refine Ok_some ?_ | with_reducible refine Lk_G3 (by assumption) ?_ (fun _ _ => ?_) | with_reducible refine Ok_vl ?_ | with_reducible refine Ok_st ?_ | with_reducible refine Ok_jn ?_ | with_reducible refine Ok_b1 ?_ | with_reducible refine Ok_bd ?_ | with_reducible refine Ok_ift (by decide) ?_ | with_reducible refine Ok_iff (by decide) ?_ | with_reducible refine Ok_if (fun _ => ?_) (fun _ => ?_) | with_reducible refine Ok.mono (ih _  ?_ ?_ ?_ ) (fun _ ⟨_, _, _, _⟩ => ?_) | with_reducible refine Ok.mono (Ok.self (w_X12_look (b0 := b0) ?_ ?_)) (fun _ ⟨_, _⟩ => ?_) | with_reducible refine Ok.mono (Ok.self (w_X12_nameOf)) (fun _ ⟨_, _⟩ => ?_) | with_reducible refine Ok.mono (w_X12_opens (b0 := b0) ?_ ?_ ?_) (fun _ ⟨_, _, _⟩ => ?_) | with_reducible refine Ok.mono (Ok.La (w_X12_lay (b0 := b0) ?_ ?_)) (fun _ ⟨⟨_, _⟩, _⟩ => ?_) | with_reducible refine Ok.mono (w_X12_either (b0 := b0) (N := (n : Int)) (fun _ h0 h1 h2 => ih _ h0 h1 h2) ?_ ?_ ?_) (fun _ ⟨_, _, _, _⟩ => ?_) | with_reducible refine Ok.mono (w_X12_faultHere (b0 := b0) ?_ ?_) (fun _ ⟨_, _⟩ => ?_) | with_reducible refine Ok.mono (w_X12_in ) (fun _ _ => ?_))
      | dsimp only
      | (with_reducible show Lk _ _; first | with_reducible refine Lk.wF ?_ (by decide) (by decide) (by decide) ?_)
      | (with_reducible show Wd _ _ _; first | with_reducible refine Wd.push1 (by assumption) ?_ | with_reducible refine Wd.push2 (by assumption) ?_ ?_ | with_reducible refine Wd.un3 (by assumption) ?_ | with_reducible refine Wd.un4 (by assumption) ?_ | with_reducible refine Wd.op (by assumption) ?_ ?_ | with_reducible refine Wd.pf (by decide) ?_ | with_reducible exact Wd.rf | with_reducible refine Wd.t1 (by assumption) ?_ | with_reducible refine Wd.t2 (by assumption) ?_ | with_reducible refine Wd.t0 (by assumption) ?_ | with_reducible refine Wd.fault ?_)
      | with_reducible refine nm2 (by assumption) (by assumption) (by assumption) (by assumption)
      | with_reducible exact sg38
      | with_reducible exact sg124
      | with_reducible exact sge60 (by assumption)
      | with_reducible exact sge61 (by assumption)
      | with_reducible exact sge62 (by assumption)
      | with_reducible exact sgl42 (by assumption) (by assumption) (by assumption)
      | with_reducible exact sgl47 (by assumption) (by assumption) (by assumption)
      | with_reducible exact sgl37 (by assumption) (by assumption) (by assumption)
      | with_reducible exact sgl43 (by assumption) (by assumption) (by assumption)
      | with_reducible exact sgl45 (by assumption) (by assumption) (by assumption)
      | with_reducible refine w_X12_operand_L148 (b0 := b0) (c0 := s0) (N := (n : Int)) (fun _ h0 h1 h2 => ih _ h0 h1 h2) (fun _ _ _ _ _ _ _ _ _ => ?_) _ _ _ _  ?_ ?_ ?_ ?_ ?_ ?_ ?_
      | with_reducible refine And.intro ?_ ?_)
    all_goals (try (first | with_reducible assumption | exact trivial | omega | ((try clear ih); (try clear hr); (try clear hq0); (try clear hq1); (try clear hrec); ((try simp only [inB, Px, Ps, Pr, Pl, Rg, bF, jlt, jeq, Int32.reduceToInt, jn1, zS_pS, zI_pS, zN_pS, Nat.reduceEqDiff, Nat.reduceAdd, Nat.reduceMul, ite_true, ite_false, and_true, true_and, and_false, false_and, true_or, or_true, false_or, or_false, not_true_eq_false, not_false_eq_true, reduceIte, reduceCtorEq, eq_self] at *) <;> (first | omega | ((try simp only [inB, Pg, Px, Ps, Pr, Pl, Rg, bF, jlt, jeq, Int32.reduceToInt, jn1, zS_pS, zI_pS, zN_pS, Nat.reduceEqDiff, Nat.reduceAdd, Nat.reduceMul, ite_true, ite_false, and_true, true_and, and_false, false_and, true_or, or_true, false_or, or_false, not_true_eq_false, not_false_eq_true, reduceIte, reduceCtorEq, eq_self] at *) <;> (first | omega | ((try simp (disch := first | omega | (simp (disch := first | omega | (simp (disch := first | omega | (simp only [Int32.reduceToInt]; omega)) only [i32_add, i32_sub, Int32.reduceToInt]; omega)) only [i32_add, i32_sub, Int32.reduceToInt]; omega)) only [i32_add, i32_sub, Int32.reduceToInt] at *) <;> (first | omega | ((try simp (disch := first | omega | (simp (disch := first | omega | (simp (disch := first | omega | (simp only [Int32.reduceToInt]; omega)) only [i32_add, i32_sub, Int32.reduceToInt]; omega)) only [i32_add, i32_sub, Int32.reduceToInt]; omega)) only [i32_add, i32_sub, Int32.reduceToInt] at *) <;> (first | omega | ((simp only [jadd, jsub, jmul, jneg, Int32.reduceToInt] at *) <;> omega))))))))))))
set_option maxRecDepth 4000 in
theorem w_X12_isWhat {a0 : Int32} : Ok (f_X12_isWhat a0) (fun _ => True) := by
  unfold f_X12_isWhat
  repeat' (first
    | with_reducible assumption
    | (with_reducible show Ok _ _; first | dsimp only | with_reducible refine Ok_some ?_ | with_reducible refine Ok_b1 ?_ | with_reducible refine Ok_ift (by decide) ?_ | with_reducible refine Ok_iff (by decide) ?_ | with_reducible refine Ok_if (fun _ => ?_) (fun _ => ?_) | with_reducible refine Ok.mono (w_X12_in ) (fun _ _ => ?_))
    | dsimp only
    | with_reducible refine And.intro ?_ ?_)
  all_goals (try (first | with_reducible assumption | exact trivial | omega | ((try clear ih); (try clear hr); (try clear hq0); (try clear hq1); (try clear hrec); ((try simp only [inB, jlt, jeq, jm10, Int32.reduceToInt, Nat.reduceEqDiff, Nat.reduceAdd, Nat.reduceMul, ite_true, ite_false, and_true, true_and, and_false, false_and, true_or, or_true, false_or, or_false, not_true_eq_false, not_false_eq_true, reduceIte, reduceCtorEq, eq_self] at *) <;> (first | omega | ((try simp (disch := first | omega | (simp (disch := first | omega | (simp (disch := first | omega | (simp only [jm10, Int32.reduceToInt]; omega)) only [jm10, Int32.reduceToInt]; omega)) only [jm10, Int32.reduceToInt]; omega)) only [jm10, Int32.reduceToInt] at *) <;> (first | omega | ((try simp (disch := first | omega | (simp (disch := first | omega | (simp (disch := first | omega | (simp only [jm10, Int32.reduceToInt]; omega)) only [jm10, Int32.reduceToInt]; omega)) only [jm10, Int32.reduceToInt]; omega)) only [jm10, Int32.reduceToInt] at *) <;> (first | omega | ((simp only [jadd, jsub, jmul, jneg, Int32.reduceToInt] at *) <;> omega))))))))))
/-! THE REFERENCE: a text is read -/
theorem w_X12_readLine {b0 s0 : SS} (K : Lk b0 s0) (P0 : Ps s0) (hM : 0 ≤ (Ml s0).toInt ∧ (Ml s0).toInt ≤ 100) (hR : (zS s0 59 48).toInt < 0 → RI s0) : Ok (f_X12_readLine s0) (fun r => Lk b0 r ∧ Px s0 r ∧ Pg s0 r ∧ ((zS r 59 48).toInt < 0 → RI r ∧ (Ml r).toInt = (Ml s0).toInt + 1)) := by
  unfold f_X12_readLine
  have hp := P0
  unfold Ps at hp
  have EI : ∀ s, Lk b0 s → Ps s → Ok (f_X12_either (f_X12_operand 12) s) (fun r => Lk b0 r ∧ Px s r ∧ Pg s r ∧ Wd 1 s r) := fun s K P => w_X12_either (b0 := b0) (N := ((12 : Nat) : Int)) (fun s h1 h2 h3 => w_X12_operand 12 s h1 h2 h3) K P (by unfold Ps at P; omega)
  with_reducible refine Ok_vl ?_
  with_reducible refine Ok_gd ⟨by omega, by omega⟩ (fun g17 => ?_)
  have m0 : zI s0 90 (zS s0 59 50).toInt.toNat = Ml s0 := rfl
  rw [m0]
  obtain ⟨v, ev, hv⟩ : ∃ v, (90 : Int32) * zS s0 59 50 + Ml s0 = v ∧ v.toInt = 90 * (zS s0 59 50).toInt + (Ml s0).toInt := ⟨_, rfl, by
    have j90 : (90 : Int32).toInt = 90 := rfl
    have m1 : ((90 : Int32) * zS s0 59 50).toInt = 90 * (zS s0 59 50).toInt := by rw [i32_mul (by rw [j90]; omega) (by rw [j90]; omega), j90]
    rw [i32_add (by rw [m1]; omega) (by rw [m1]; omega), m1]⟩
  rw [ev]
  have gv : inB v 1530 := ⟨by omega, by omega⟩
  have iv : v.toInt.toNat = 90 * (zS s0 59 50).toInt.toNat + (Ml s0).toInt.toNat := by omega
  have q0 := Pq_eq P0
  have FL : ∀ s8, Lk b0 s8 → Px s0 s8 → Pg s0 s8 → ((zS s8 59 48).toInt < 0 → (zS s0 59 48).toInt < 0 ∧ RLn s0 s8) → Ok (vl ((zS s8 59 51)) fun v10 => (gd (inB v 1530) (st (pI s8 92 (v.toInt.toNat) v10) fun s12 => (vl ((zS s12 59 50)) fun v13 => (gd (inB v13 17) (vl (((zI s12 90 (v13.toInt.toNat)) + (1 : Int32))) fun v15 => (vl ((zS s12 59 50)) fun v16 => (gd (inB v16 17) (st (pI s12 90 (v16.toInt.toNat) v15) fun s18 => some s18))))))))) (fun r => Lk b0 r ∧ Px s0 r ∧ Pg s0 r ∧ ((zS r 59 48).toInt < 0 → RI r ∧ (Ml r).toInt = (Ml s0).toInt + 1)) := by
    intro s8 K8 X8 G8 H8
    have x8 := X8
    unfold Px Ps at x8
    have g8 : inB (zS s8 59 50) 17 := ⟨by omega, by omega⟩
    have K12 : Lk b0 (pI s8 92 v.toInt.toNat (zS s8 59 51)) := K8.w92 (by omega)
    with_reducible refine Ok_vl ?_
    with_reducible refine Ok_gd gv (fun _ => ?_)
    with_reducible refine Ok_st ?_
    with_reducible refine Ok_vl ?_
    refine Ok_gd g8 (fun _ => ?_)
    with_reducible refine Ok_vl ?_
    with_reducible refine Ok_vl ?_
    refine Ok_gd g8 (fun _ => ?_)
    with_reducible refine Ok_st ?_
    refine Ok_some ⟨K12.w90 (by show (zS s8 59 38).toInt ≤ (((zS s8 59 50).toInt.toNat : Nat) : Int); omega), X8, G8, fun hf => ?_⟩
    obtain ⟨f0, L⟩ := H8 hf
    refine RI.line P0 X8.1 (hR f0) hM L iv (by show (zS s8 59 50).toInt.toNat = _; rw [L.1]) ?_
    show zI (pI s8 92 v.toInt.toNat (zS s8 59 51)) 90 (zS s8 59 50).toInt.toNat + 1 = _
    rw [zI_pI, if_neg (fun z => by omega)]
    rfl
  with_reducible refine Ok_vl ?_
  with_reducible refine Ok_vl ?_
  with_reducible refine Ok_b1 ((EI s0 K P0).mono (fun s5 h5 => ?_))
  obtain ⟨K5, X5, G5, W5⟩ := h5
  have x5 := X5
  unfold Px Ps at x5
  have q5 := Pq_eq X5.1
  have K7 : Lk b0 (pI s5 91 v.toInt.toNat (zS s0 59 51)) := K5.w91 (by omega)
  have a91 : ∀ j, j ≠ v.toInt.toNat → zI (pI s5 91 v.toInt.toNat (zS s0 59 51)) 91 j = zI s5 91 j := fun j hj => by rw [zI_pI, if_neg (fun z => hj z.2)]
  have aq : ∀ q, q ≠ 91 → zI (pI s5 91 v.toInt.toNat (zS s0 59 51)) q = zI s5 q := fun q hq => funext fun j => by rw [zI_pI, if_neg (fun z => hq z.1)]
  have a1 : zI (pI s5 91 v.toInt.toNat (zS s0 59 51)) 91 v.toInt.toNat = zS s0 59 51 := by rw [zI_pI, if_pos ⟨rfl, rfl⟩]
  have X7 : Px s0 (pI s5 91 v.toInt.toNat (zS s0 59 51)) := X5
  have G7 : Pg s0 (pI s5 91 v.toInt.toNat (zS s0 59 51)) := G5
  have s7 : ∀ k, zS (pI s5 91 v.toInt.toNat (zS s0 59 51)) 59 k = zS s5 59 k := fun _ => rfl
  have L7 : (zS (pI s5 91 v.toInt.toNat (zS s0 59 51)) 59 48).toInt < 0 → (zS s0 59 48).toInt < 0 ∧ RLn s0 (pI s5 91 v.toInt.toNat (zS s0 59 51)) := by
    intro hf
    obtain ⟨f0, ⟨w1, w2, w3, w4⟩, w5⟩ := W5 hf
    refine ⟨f0, w4, fun j => ?_, fun j => ?_, fun j hj => ?_, fun j hj => ?_, _, ?_, ⟨Int.le_refl _, ?_⟩, ?_, ?_⟩
    · rw [aq 90 (by decide)]; exact w3 90 j (by decide) (by decide)
    · rw [aq 92 (by decide)]; exact w3 92 j (by decide) (by decide)
    · rw [a91 j (by omega)]; exact w3 91 j (by decide) (by decide)
    · rw [aq 93 (by decide), aq 94 (by decide)]; exact w2 j hj
    · rw [← iv, a1]
    · rw [s7]; omega
    · rw [Int.sub_self]; exact trivial
    · rw [aq 93 (by decide), aq 94 (by decide), s7]
      have c := (w5 _ _ (WF.zero P0)).cd
      rw [show (Pq s5).toInt.toNat - (Pq s0).toInt.toNat = ((zS s5 59 51).toInt - (zS s0 59 51).toInt).toNat by rw [q5, q0, w4]; omega, show (Pq s0).toInt.toNat = 170 * (zS s0 59 50).toInt.toNat + (zS s0 59 51).toInt.toNat by omega] at c
      exact c
  with_reducible refine Ok_gd gv (fun _ => ?_)
  with_reducible refine Ok_st ?_
  generalize pI s5 91 v.toInt.toNat (zS s0 59 51) = t7 at K7 a91 aq a1 X7 G7 s7 L7
  with_reducible refine Ok_jn ?_
  with_reducible refine Ok_if (fun cf => ?_) (fun _ => FL t7 K7 X7 G7 L7)
  rw [Int32.lt_iff_toInt_lt, jl0] at cf
  have P7 : Ps t7 := X7.1
  with_reducible refine Ok_b1 ((w_X12_look K7 P7).mono (fun r20 h20 => ?_))
  with_reducible refine Ok_if (fun c63 => ?_) (fun _ => FL t7 K7 X7 G7 L7)
  rw [c63, show (63 : Int32).toInt = 63 from rfl] at h20
  have h47 : (zS t7 59 47).toInt < (zS t7 59 37).toInt := by omega
  rw [s7, s7] at h47
  have QB : ∀ s26, Lk b0 s26 → (∀ k, k ≠ 47 → zS s26 59 k = zS s5 59 k) → (zS s26 59 47).toInt = (zS s5 59 47).toInt + 1 → (∀ q, q ≠ 91 → zI s26 q = zI s5 q) → (∀ j, j ≠ v.toInt.toNat → zI s26 91 j = zI s5 91 j) → zI s26 91 v.toInt.toNat = zS s5 59 51 → Ok (f_X12_either (f_X12_operand 12) s26) (fun s27 => Lk b0 s27 ∧ Px s0 s27 ∧ Pg s0 s27 ∧ ((zS s27 59 48).toInt < 0 → (zS s0 59 48).toInt < 0 ∧ RLn s0 s27)) := by
    intro s26 K26 e26 e47 b1 b2 b3
    have P26 : Ps s26 := by
      unfold Ps
      rw [e26 37 (by decide), e26 38 (by decide), e26 49 (by decide), e26 50 (by decide), e26 51 (by decide), e47]
      omega
    refine (EI s26 K26 P26).mono (fun s27 h => ?_)
    obtain ⟨K27, X27, G27, W27⟩ := h
    have x27 := X27
    have g27 := G27
    have g5 := G5
    unfold Px Ps at x27
    unfold Pg at g27 g5
    rw [e26 37 (by decide), e26 38 (by decide), e26 49 (by decide), e26 51 (by decide), e47] at x27
    rw [e26 48 (by decide), e47] at g27
    refine ⟨K27, by unfold Px Ps; omega, by unfold Pg; omega, fun hf => ?_⟩
    obtain ⟨f26, ⟨y1, y2, y3, y4⟩, y5⟩ := W27 hf
    have q26 : Pq s26 = Pq s5 := by unfold Pq; rw [e26 50 (by decide), e26 51 (by decide)]
    rw [e26 48 (by decide)] at f26
    obtain ⟨f0, ⟨w1, w2, w3, w4⟩, w5⟩ := W5 f26
    have q27 := Pq_eq X27.1
    rw [e26 50 (by decide)] at y4
    rw [q26] at y2
    refine ⟨f0, y4.trans w4, fun j => ?_, fun j => ?_, fun j hj => ?_, fun j hj => ?_, (zS s5 59 51).toInt, ?_, ⟨?_, ?_⟩, ?_, ?_⟩
    · rw [y3 90 j (by decide) (by decide), b1 90 (by decide)]; exact w3 90 j (by decide) (by decide)
    · rw [y3 92 j (by decide) (by decide), b1 92 (by decide)]; exact w3 92 j (by decide) (by decide)
    · rw [y3 91 j (by decide) (by decide), b2 j (by omega)]; exact w3 91 j (by decide) (by decide)
    · have z1 := y2 j (by omega)
      have z2 := w2 j hj
      rw [b1 93 (by decide), b1 94 (by decide)] at z1
      exact ⟨z1.1.trans z2.1, z1.2.trans z2.2⟩
    · rw [← iv, y3 91 _ (by decide) (by decide), b3]
    · omega
    · omega
    · have c := (w5 _ _ (WF.zero P0)).cd
      rw [show (Pq s5).toInt.toNat - (Pq s0).toInt.toNat = ((zS s5 59 51).toInt - (zS s0 59 51).toInt).toNat by rw [q5, q0, w4]; omega, show (Pq s0).toInt.toNat = 170 * (zS s0 59 50).toInt.toNat + (zS s0 59 51).toInt.toNat by omega] at c
      refine Cd.congr _ _ _ (fun j h1 h2 => ?_) c
      rw [w4] at q5
      have z1 := y2 j (by omega)
      rw [b1 93 (by decide), b1 94 (by decide)] at z1
      exact z1
    · have c := (y5 _ _ (WF.zero P26)).cd
      rw [q26, show (Pq s27).toInt.toNat - (Pq s5).toInt.toNat = ((zS s27 59 51).toInt - (zS s5 59 51).toInt).toNat by rw [q5, q27, y4]; omega, show (Pq s5).toInt.toNat = 170 * (zS s0 59 50).toInt.toNat + (zS s5 59 51).toInt.toNat by rw [q5, w4]; omega] at c
      exact c
  have e1 : (zS t7 59 47 + 1).toInt = (zS s5 59 47).toInt + 1 := by rw [s7, i32_add (by rw [jl1]; omega) (by rw [jl1]; omega), jl1]
  with_reducible refine Ok_vl ?_
  with_reducible refine Ok_st ?_
  with_reducible refine Ok_vl ?_
  with_reducible refine Ok_gd gv (fun _ => ?_)
  with_reducible refine Ok_st ?_
  with_reducible refine Ok_b1 ((QB _ ?_ (fun k hk => ?_) ?_ (fun q hq => ?_) (fun j hj => ?_) ?_).mono (fun s27 h => FL s27 h.1 h.2.1 h.2.2.1 h.2.2.2))
  · refine (K7.wF (q := 59) (k := 47) (by decide) (by decide) (by decide) trivial).w91 ?_
    rw [zS_pS, if_neg (by decide), s7]
    omega
  · rw [zS_pI, zS_pS, if_neg (fun z => hk z.2), s7]
  · rw [zS_pI, zS_pS, if_pos ⟨rfl, rfl⟩]; exact e1
  · rw [← aq q hq]
    funext j
    rw [zI_pI, if_neg (fun z => hq z.1), zI_pS]
  · rw [zI_pI, if_neg (fun z => hj z.2), zI_pS]; exact a91 j hj
  · rw [zI_pI, if_pos ⟨rfl, rfl⟩, zS_pS, if_neg (by decide), s7]
/-- between the lines -/
def TI (s : SS) : Prop := Ps s ∧ ((zS s 59 48).toInt < 0 → RI s ∧ 0 ≤ (Ml s).toInt ∧ 2 * (Ml s).toInt ≤ (zS s 59 47).toInt + 1)
theorem RI.pf {s : SS} {k : Nat} {v : Int32} (hk : k ≠ 50 ∧ k ≠ 51) (R : RI s) : RI (pS s 59 k v) ∧ Ml (pS s 59 k v) = Ml s := by
  have e : ∀ x, x ≠ k → zS (pS s 59 k v) 59 x = zS s 59 x := fun x hx => by rw [zS_pS, if_neg (fun z => hx z.2)]
  have eM : Ml (pS s 59 k v) = Ml s := by unfold Ml; rw [e 50 (by omega)]; rfl
  refine ⟨?_, eM⟩
  unfold RI
  rw [eM, e 50 (by omega), e 51 (by omega)]
  exact R
theorem w_X12_text_L77 {b0 : SS} {q0 : SS → Option (Int32 × SS)} {y1 y2 : Int32} {Q : Int32 × SS → Prop} (hq0 : ∀ s, Lk b0 s → TI s → Ok (q0 s) Q) : ∀ (n : Nat) (s : SS), Lk b0 s → TI s → (zS s 59 37).toInt - (zS s 59 47).toInt < (n : Int) → Ok (f_X12_text_L77 q0 y1 y2 n s) Q := by
  intro n
  induction n with
  | zero =>
    intro s K I hm
    have P := I.1
    unfold Ps at P
    omega
  | succ n ih =>
    intro s K I hm
    show Ok (f_X12_text_L77_b q0 y1 y2 (f_X12_text_L77 q0 y1 y2 n) s) Q
    unfold f_X12_text_L77_b
    have P1 := I.1
    have P := I.1
    unfold Ps at P
    with_reducible refine Ok_if (fun cf => ?_) (fun _ => hq0 s K I)
    rw [Int32.lt_iff_toInt_lt, jl0] at cf
    with_reducible refine Ok_b1 ((w_X12_look K P1).mono (fun r18 h18 => ?_))
    with_reducible refine Ok_if (fun c59 => ?_) (fun _ => hq0 s K I)
    rw [c59, show (59 : Int32).toInt = 59 from rfl] at h18
    obtain ⟨R, hM1, hM2⟩ := I.2 cf
    have e1 : (zS s 59 47 + 1).toInt = (zS s 59 47).toInt + 1 := by rw [i32_add (by rw [jl1]; omega) (by rw [jl1]; omega), jl1]
    obtain ⟨R', eM⟩ := R.pf (k := 47) (v := zS s 59 47 + 1) (by decide)
    have K' : Lk b0 (pS s 59 47 (zS s 59 47 + 1)) := K.wF (q := 59) (k := 47) (by decide) (by decide) (by decide) trivial
    have e47 : (zS (pS s 59 47 (zS s 59 47 + 1)) 59 47).toInt = (zS s 59 47).toInt + 1 := by rw [zS_pS, if_pos ⟨rfl, rfl⟩]; exact e1
    have ek : ∀ x, x ≠ 47 → zS (pS s 59 47 (zS s 59 47 + 1)) 59 x = zS s 59 x := fun x hx => by rw [zS_pS, if_neg (fun z => hx z.2)]
    with_reducible refine Ok_vl ?_
    with_reducible refine Ok_st ?_
    generalize pS s 59 47 (zS s 59 47 + 1) = t at R' eM K' e47 ek
    have P' : Ps t := by
      unfold Ps
      rw [ek 37 (by decide), ek 38 (by decide), ek 49 (by decide), ek 50 (by decide), ek 51 (by decide), e47]
      omega
    with_reducible refine Ok_b1 ((w_X12_readLine K' P' (by rw [eM]; omega) (fun _ => R')).mono (fun s22 h => ?_))
    obtain ⟨K22, X22, G22, H22⟩ := h
    have x22 := X22
    unfold Px Ps at x22
    unfold Pg at G22
    rw [ek 37 (by decide), ek 38 (by decide), ek 49 (by decide), ek 51 (by decide), e47] at x22
    rw [e47] at G22
    by_cases hf : (zS s22 59 48).toInt < 0
    · obtain ⟨R22, M22⟩ := H22 hf
      rw [eM] at M22
      exact ih s22 K22 ⟨X22.1, fun _ => ⟨R22, by omega, by omega⟩⟩ (by omega)
    · exact ih s22 K22 ⟨X22.1, fun z => absurd z hf⟩ (by omega)
theorem Iv.w38 {s : SS} (K : Iv s) (hn : 0 ≤ (zS s 59 38).toInt ∧ (zS s 59 38).toInt < 16) (hM : 0 ≤ (zI s 90 (zS s 59 38).toInt.toNat).toInt ∧ (zI s 90 (zS s 59 38).toInt.toNat).toInt ≤ 90) (hT : TWr (zI s 91) (zI s 92) (zI s 93) (zI s 94) (zS s 59 38).toInt.toNat (zI s 90 (zS s 59 38).toInt.toNat).toInt.toNat) : Iv (pS s 59 38 (zS s 59 38 + 1)) := by
  have e1 : (zS s 59 38 + 1).toInt = (zS s 59 38).toInt + 1 := by rw [i32_add (by rw [jl1]; omega) (by rw [jl1]; omega), jl1]
  refine ⟨K.1.wF (q := 59) (k := 38) (by decide) ⟨by omega, by omega⟩, fun t ht => ?_, K.2.2⟩
  rw [zS_pS, if_pos ⟨rfl, rfl⟩, e1] at ht
  by_cases c : (t : Int) < (zS s 59 38).toInt
  · exact K.2.1 t c
  · have et : t = (zS s 59 38).toInt.toNat := by omega
    rw [et]
    exact ⟨hM, hT⟩
/-- a text of the reference read: the tape's and the texts' counters apart -/
def Tn (b0 r : SS) : Prop := ∃ u, Lk b0 u ∧ Iv r ∧ r.2.2 = u.2.2 ∧ (∀ q k, ¬ (q = 59 ∧ (k = 37 ∨ k = 38)) → zS r q k = zS u q k) ∧ ∀ q i, q ≠ 87 → q ≠ 88 → q ≠ 89 → zI r q i = zI u q i
theorem Tn.rf {b0 s : SS} (K : Lk b0 s) : Tn b0 s := ⟨s, K, K.1, rfl, fun _ _ _ => rfl, fun _ _ _ _ _ => rfl⟩
theorem w_X12_text {b0 s0 : SS} {a0 a1 : Int32} (K : Lk b0 s0) : Ok (f_X12_text s0 a0 a1) (fun r => Tn b0 r.2) := by
  unfold f_X12_text
  with_reducible refine Ok_b1 (w_X12_isWhat.mono (fun r1 _ => ?_))
  with_reducible refine Ok_if (fun _ => Ok_some (Tn.rf K)) (fun _ => ?_)
  with_reducible refine Ok_b1 (w_X12_in.mono (fun r3 _ => ?_))
  with_reducible refine Ok_if (fun _ => Ok_some (Tn.rf K)) (fun _ => ?_)
  with_reducible refine Ok_if (fun _ => Ok_some (Tn.rf K)) (fun c16 => ?_)
  have h38 : 0 ≤ (zS s0 59 38).toInt ∧ (zS s0 59 38).toInt ≤ 16 := K.f (q := 59) (k := 38) rfl
  have h37 : 0 ≤ (zS s0 59 37).toInt ∧ (zS s0 59 37).toInt ≤ 160 := K.f (q := 59) (k := 37) rfl
  have n16 : (zS s0 59 38).toInt ≠ 16 := fun z => c16 (Int32.toInt_inj.1 (by rw [z]; rfl))
  with_reducible refine Ok_vl ?_
  with_reducible refine Ok_st ?_
  with_reducible refine Ok_vl ?_
  with_reducible refine Ok_gd ⟨by rw [zS_pS, if_pos ⟨rfl, rfl⟩]; omega, by rw [zS_pS, if_pos ⟨rfl, rfl⟩]; omega⟩ (fun _ => ?_)
  with_reducible refine Ok_st ?_
  with_reducible refine Ok_st ?_
  with_reducible refine Ok_st ?_
  with_reducible refine Ok_st ?_
  with_reducible refine Ok_st ?_
  have K15 : Lk b0 (pS (pS (pS (pS (pI (pS s0 59 50 (zS s0 59 38)) 90 (zS (pS s0 59 50 (zS s0 59 38)) 59 50).toInt.toNat 0) 59 51 0) 59 47 0) 59 48 (-1)) 59 49 0) := by
    refine Lk.wF (q := 59) (k := 49) (Lk.wF (q := 59) (k := 48) (Lk.wF (q := 59) (k := 47) (Lk.wF (q := 59) (k := 51) (Lk.w90 (Lk.wF (q := 59) (k := 50) K (by decide) (by decide) (by decide) trivial) ?_) (by decide) (by decide) (by decide) trivial) (by decide) (by decide) (by decide) trivial) (by decide) (by decide) (by decide) trivial) (by decide) (by decide) (by decide) trivial
    rw [zS_pS, if_neg (by decide), zS_pS, if_pos ⟨rfl, rfl⟩]
    omega
  have f37 : zS (pS (pS (pS (pS (pI (pS s0 59 50 (zS s0 59 38)) 90 (zS (pS s0 59 50 (zS s0 59 38)) 59 50).toInt.toNat 0) 59 51 0) 59 47 0) 59 48 (-1)) 59 49 0) 59 37 = zS s0 59 37 := rfl
  have f38 : zS (pS (pS (pS (pS (pI (pS s0 59 50 (zS s0 59 38)) 90 (zS (pS s0 59 50 (zS s0 59 38)) 59 50).toInt.toNat 0) 59 51 0) 59 47 0) 59 48 (-1)) 59 49 0) 59 38 = zS s0 59 38 := rfl
  have f50 : zS (pS (pS (pS (pS (pI (pS s0 59 50 (zS s0 59 38)) 90 (zS (pS s0 59 50 (zS s0 59 38)) 59 50).toInt.toNat 0) 59 51 0) 59 47 0) 59 48 (-1)) 59 49 0) 59 50 = zS s0 59 38 := rfl
  have f47 : zS (pS (pS (pS (pS (pI (pS s0 59 50 (zS s0 59 38)) 90 (zS (pS s0 59 50 (zS s0 59 38)) 59 50).toInt.toNat 0) 59 51 0) 59 47 0) 59 48 (-1)) 59 49 0) 59 47 = 0 := rfl
  have f49 : zS (pS (pS (pS (pS (pI (pS s0 59 50 (zS s0 59 38)) 90 (zS (pS s0 59 50 (zS s0 59 38)) 59 50).toInt.toNat 0) 59 51 0) 59 47 0) 59 48 (-1)) 59 49 0) 59 49 = 0 := rfl
  have f51 : zS (pS (pS (pS (pS (pI (pS s0 59 50 (zS s0 59 38)) 90 (zS (pS s0 59 50 (zS s0 59 38)) 59 50).toInt.toNat 0) 59 51 0) 59 47 0) 59 48 (-1)) 59 49 0) 59 51 = 0 := rfl
  have fM : Ml (pS (pS (pS (pS (pI (pS s0 59 50 (zS s0 59 38)) 90 (zS (pS s0 59 50 (zS s0 59 38)) 59 50).toInt.toNat 0) 59 51 0) 59 47 0) 59 48 (-1)) 59 49 0) = 0 := by
    show zI (pI (pS s0 59 50 (zS s0 59 38)) 90 (zS s0 59 38).toInt.toNat 0) 90 (zS s0 59 38).toInt.toNat = 0
    rw [zI_pI, if_pos ⟨rfl, rfl⟩]
  generalize pS (pS (pS (pS (pI (pS s0 59 50 (zS s0 59 38)) 90 (zS (pS s0 59 50 (zS s0 59 38)) 59 50).toInt.toNat 0) 59 51 0) 59 47 0) 59 48 (-1)) 59 49 0 = t at K15 f37 f38 f50 f47 f49 f51 fM
  have Pt : Ps t := by
    unfold Ps
    rw [f37, f38, f50, f47, f49, f51, jl0]
    omega
  have Mt : (Ml t).toInt = 0 := by rw [fM, jl0]
  have Rt : RI t := by
    refine ⟨fun i hi => ?_, ?_, fun i hi => ?_⟩
    · rw [Mt] at hi; exact absurd hi (Nat.not_lt_zero i)
    · rw [Mt, f51]; rfl
    · rw [Mt] at hi; exact absurd hi (Nat.not_lt_zero i)
  with_reducible refine Ok_b1 ((w_X12_readLine K15 Pt (by omega) (fun _ => Rt)).mono (fun s16 h => ?_))
  obtain ⟨K16, X16, G16, H16⟩ := h
  have x16 := X16
  unfold Px Ps at x16
  unfold Pg at G16
  have I16 : TI s16 := ⟨X16.1, fun hf => by
    obtain ⟨R, M⟩ := H16 hf
    have j0 : (zS t 59 47).toInt = 0 := by rw [f47, jl0]
    exact ⟨R, by omega, by omega⟩⟩
  refine w_X12_text_L77 (b0 := b0) (fun s23 K23 I23 => ?_) 4000 s16 K16 I16 (by omega)
  with_reducible refine Ok_jn ?_
  have FT : ∀ s24, Lk b0 s24 → Ps s24 → ((zS s24 59 48).toInt < 0 → RI s24 ∧ 0 ≤ (Ml s24).toInt ∧ (Ml s24).toInt ≤ 90) → Ok (st (pS s24 59 37 0) fun s25 => (if (zS s25 59 48) < (0 : Int32) then (vl ((zS s25 59 38)) fun v27 => (gd (inB v27 16) (st (pI s25 87 (v27.toInt.toNat) a0) fun s29 => (vl ((zS s29 59 1)) fun v30 => (vl ((zS s29 59 38)) fun v31 => (gd (inB v31 16) (st (pI s29 88 (v31.toInt.toNat) v30) fun s33 => (vl ((zS s33 59 38)) fun v34 => (gd (inB v34 16) (st (pI s33 89 (v34.toInt.toNat) a1) fun s36 => (vl (((zS s36 59 38) + (1 : Int32))) fun v37 => (st (pS s36 59 38 v37) fun s38 => some (((zS s38 59 38) - (1 : Int32)), s38))))))))))))) else some ((((-100) : Int32) - (zS s25 59 48)), s25))) (fun r => Tn b0 r.2) := by
    intro s24 K24 P24 H24
    unfold Ps at P24
    have K25 : Iv (pS s24 59 37 0) := K24.1.wF (q := 59) (k := 37) (by decide) (by decide) ⟨by decide, by decide⟩
    have K26 : Tn b0 (pS s24 59 37 0) := ⟨s24, K24, K25, rfl, fun q k z => by rw [zS_pS, if_neg (by omega)], fun _ _ _ _ _ => rfl⟩
    have g16 : inB (zS s24 59 38) 16 := ⟨by omega, by omega⟩
    with_reducible refine Ok_st ?_
    with_reducible refine Ok_if (fun cf => ?_) (fun _ => Ok_some K26)
    rw [Int32.lt_iff_toInt_lt, jl0, zS_pS, if_neg (by decide)] at cf
    obtain ⟨R, hM1, hM2⟩ := H24 cf
    with_reducible refine Ok_vl ?_
    refine Ok_gd g16 (fun _ => ?_)
    with_reducible refine Ok_st ?_
    with_reducible refine Ok_vl ?_
    with_reducible refine Ok_vl ?_
    refine Ok_gd g16 (fun _ => ?_)
    with_reducible refine Ok_st ?_
    with_reducible refine Ok_vl ?_
    refine Ok_gd g16 (fun _ => ?_)
    with_reducible refine Ok_st ?_
    with_reducible refine Ok_vl ?_
    with_reducible refine Ok_st ?_
    have e50 : (zS s24 59 50).toInt.toNat = (zS s24 59 38).toInt.toNat := by omega
    have R1 := R.1
    unfold Ml at R1 hM1 hM2
    rw [e50] at R1 hM1 hM2
    refine Ok_some ⟨s24, K24, Iv.w38 (((K25.wI (q := 87) (by decide) trivial).wI (q := 88) (by decide) trivial).wI (q := 89) (by decide) trivial) ?_ ?_ ?_, rfl, fun q k z => ?_, fun q i h7 h8 h9 => ?_⟩
    · show 0 ≤ (zS s24 59 38).toInt ∧ (zS s24 59 38).toInt < 16
      omega
    · exact ⟨hM1, hM2⟩
    · exact R1
    · rw [zS_pS, if_neg (by omega), zS_pI, zS_pI, zS_pI, zS_pS, if_neg (by omega)]
    · rw [zI_pS, zI_pI, if_neg (by omega), zI_pI, if_neg (by omega), zI_pI, if_neg (by omega), zI_pS]
  have P1 := I23.1
  with_reducible refine Ok_if (fun cf => ?_) (fun cf => FT s23 K23 P1 (fun z => absurd (Int32.lt_iff_toInt_lt.mpr (by rw [jl0]; exact z)) cf))
  rw [Int32.lt_iff_toInt_lt, jl0] at cf
  with_reducible refine Ok_if (fun _ => ?_) (fun _ => ?_)
  · with_reducible refine Ok_b1 ((w_X12_faultHere K23 P1).mono (fun s41 h => ?_))
    exact FT s41 h.1 h.2.1.1 (fun z => absurd z (by have := h.2.2.2.2.2; omega))
  · obtain ⟨R, hM1, hM2⟩ := I23.2 cf
    have P23 := I23.1
    unfold Ps at P23
    exact FT s23 K23 I23.1 (fun _ => ⟨R, hM1, by omega⟩)
set_option maxRecDepth 4000 in
theorem w_X12_forceOf_L23 {b0 : SS} {s0 : SS} {y1 : Int32} {y2 : Int32} {y3 : Int32} {y4 : Int32} {Q : Int32 → Prop} (K : Lk b0 s0) (hr : ∀ v, -2 ≤ v.toInt ∧ v.toInt ≤ 15 ∧ v.toInt < (zS s0 59 38).toInt → Q v) : ∀ (n : Nat) (x5 : Int32), (-1 ≤ x5.toInt ∧ x5.toInt ≤ 15) → (x5.toInt < (zS s0 59 38).toInt) → x5.toInt + 1 < (n : Int) → Ok (f_X12_forceOf_L23 s0 y1 y2 y3 y4 n x5) Q := by
  intro n
  induction n with
  | zero =>
    intro x5 i0 i1 hm
    exfalso
    have e0 := kf_59_38 K
    (first | with_reducible assumption | omega | ((try clear ih); (try clear hr); (try clear hq0); (try clear hq1); (try clear hrec); ((try simp only [inB, jlt, jeq, jd10, jm10, Int32.reduceToInt, jn1, jn2, Nat.reduceEqDiff, Nat.reduceAdd, Nat.reduceMul, ite_true, ite_false, and_true, true_and, and_false, false_and, true_or, or_true, false_or, or_false, not_true_eq_false, not_false_eq_true, reduceIte, reduceCtorEq, eq_self] at *) <;> (first | omega | ((try simp (disch := first | omega | (simp (disch := first | omega | (simp (disch := first | omega | (simp only [jd10, jm10, Int32.reduceToInt]; omega)) only [i32_add, jd10, jm10, Int32.reduceToInt]; omega)) only [i32_add, jd10, jm10, Int32.reduceToInt]; omega)) only [i32_add, jd10, jm10, Int32.reduceToInt] at *) <;> (first | omega | ((try simp (disch := first | omega | (simp (disch := first | omega | (simp (disch := first | omega | (simp only [jd10, jm10, Int32.reduceToInt]; omega)) only [i32_add, jd10, jm10, Int32.reduceToInt]; omega)) only [i32_add, jd10, jm10, Int32.reduceToInt]; omega)) only [i32_add, jd10, jm10, Int32.reduceToInt] at *) <;> (first | omega | ((simp only [jadd, jsub, jmul, jneg, Int32.reduceToInt] at *) <;> omega)))))))))
  | succ n ih =>
    intro x5 i0 i1 hm
    show Ok (f_X12_forceOf_L23_b s0 y1 y2 y3 y4 (f_X12_forceOf_L23 s0 y1 y2 y3 y4 n) x5) Q
    unfold f_X12_forceOf_L23_b
    have e0 := kf_59_38 K
    repeat' (first
      | with_reducible assumption
      | (with_reducible show Ok _ _; first | dsimp only | with_reducible refine Ok_jn0 ?_ (fun _ _ => ?_) | with_reducible refine Ok_jn1 (fun _ => ?_) (fun _ _ => ?_) | with_reducible refine Ok_jn2 (fun _ _ => ?_) (fun _ _ => ?_) | with_reducible refine Ok_jnS (b0 := b0) (fun _ _ => ?_) (fun _ _ => ?_) | with_reducible refine Ok_jnS1 (b0 := b0) (fun _ _ _ => ?_) (fun _ _ => ?_) | with_reducible refine Ok_jnS2 (b0 := b0) (fun _ _ _ _ => ?_) (fun _ _ => ?_) | with_reducible refine Ok_k1 (by assumption) _ | with_reducible refine Ok_k2 (by assumption) _ _ | with_reducible refine Ok_kS (b0 := b0) (by assumption) ?_ | with_reducible refine Ok_kS1 (b0 := b0) (by assumption) ?_ | with_reducible refine Ok_kS2 (b0 := b0) (by assumption) ?_ | with_reducible refine Ok_some ?_ | with_reducible refine Ok_gd ?_ (fun _ => ?_) | with_reducible refine Ok_vl ?_ | with_reducible refine Ok_jn ?_ | with_reducible refine Ok_ift (by decide) ?_ | with_reducible refine Ok_iff (by decide) ?_ | with_reducible refine Ok_if (fun _ => ?_) (fun _ => ?_) | with_reducible refine ih _  ?_ ?_ ?_)
      | dsimp only
      | with_reducible refine hr _ ?_
      | with_reducible refine And.intro ?_ ?_)
    all_goals (try (first | with_reducible assumption | exact trivial | omega | ((try clear ih); (try clear hr); (try clear hq0); (try clear hq1); (try clear hrec); ((try simp only [inB, jlt, jeq, jd10, jm10, Int32.reduceToInt, jn1, jn2, Nat.reduceEqDiff, Nat.reduceAdd, Nat.reduceMul, ite_true, ite_false, and_true, true_and, and_false, false_and, true_or, or_true, false_or, or_false, not_true_eq_false, not_false_eq_true, reduceIte, reduceCtorEq, eq_self] at *) <;> (first | omega | ((try simp (disch := first | omega | (simp (disch := first | omega | (simp (disch := first | omega | (simp only [jd10, jm10, Int32.reduceToInt]; omega)) only [i32_add, jd10, jm10, Int32.reduceToInt]; omega)) only [i32_add, jd10, jm10, Int32.reduceToInt]; omega)) only [i32_add, jd10, jm10, Int32.reduceToInt] at *) <;> (first | omega | ((try simp (disch := first | omega | (simp (disch := first | omega | (simp (disch := first | omega | (simp only [jd10, jm10, Int32.reduceToInt]; omega)) only [i32_add, jd10, jm10, Int32.reduceToInt]; omega)) only [i32_add, jd10, jm10, Int32.reduceToInt]; omega)) only [i32_add, jd10, jm10, Int32.reduceToInt] at *) <;> (first | omega | ((simp only [jadd, jsub, jmul, jneg, Int32.reduceToInt] at *) <;> omega))))))))))
set_option maxRecDepth 4000 in
theorem w_X12_forceOf {b0 : SS} {s0 : SS} {a0 : Int32} {a1 : Int32} {a2 : Int32} (K : Lk b0 s0) : Ok (f_X12_forceOf s0 a0 a1 a2) (fun r => -2 ≤ r.toInt ∧ r.toInt ≤ 15 ∧ r.toInt < (zS s0 59 38).toInt) := by
  unfold f_X12_forceOf
  have f0 := kf_59_38 K
  repeat' (first
    | with_reducible assumption
    | (with_reducible show Ok _ _; first | dsimp only | with_reducible refine Ok_vl ?_ | with_reducible refine Ok_jn ?_ | with_reducible refine Ok_b1 ?_ | with_reducible refine Ok_ift (by decide) ?_ | with_reducible refine Ok_iff (by decide) ?_ | with_reducible refine Ok_if (fun _ => ?_) (fun _ => ?_) | with_reducible refine Ok.mono (w_X12_firstThrough (b0 := b0) ?_) (fun _ _ => ?_))
    | dsimp only
    | with_reducible refine w_X12_forceOf_L23 (b0 := b0) ?_ (fun _ _ => ?_) _ _  ?_ ?_ ?_
    | with_reducible refine And.intro ?_ ?_)
  all_goals (try (first | with_reducible assumption | exact trivial | omega | ((try clear ih); (try clear hr); (try clear hq0); (try clear hq1); (try clear hrec); ((try simp only [inB, jlt, jeq, Int32.reduceToInt, jn1, jn2, Nat.reduceEqDiff, Nat.reduceAdd, Nat.reduceMul, ite_true, ite_false, and_true, true_and, and_false, false_and, true_or, or_true, false_or, or_false, not_true_eq_false, not_false_eq_true, reduceIte, reduceCtorEq, eq_self] at *) <;> (first | omega | ((try simp (disch := first | omega | (simp (disch := first | omega | (simp (disch := first | omega | (simp only [Int32.reduceToInt]; omega)) only [i32_add, i32_sub, Int32.reduceToInt]; omega)) only [i32_add, i32_sub, Int32.reduceToInt]; omega)) only [i32_add, i32_sub, Int32.reduceToInt] at *) <;> (first | omega | ((try simp (disch := first | omega | (simp (disch := first | omega | (simp (disch := first | omega | (simp only [Int32.reduceToInt]; omega)) only [i32_add, i32_sub, Int32.reduceToInt]; omega)) only [i32_add, i32_sub, Int32.reduceToInt]; omega)) only [i32_add, i32_sub, Int32.reduceToInt] at *) <;> (first | omega | ((simp only [jadd, jsub, jmul, jneg, Int32.reduceToInt] at *) <;> omega))))))))))
set_option maxRecDepth 4000 in
theorem w_X12_inForce {b0 : SS} {s0 : SS} {a0 : Int32} {a1 : Int32} {a2 : Int32} (K : Lk b0 s0) : Ok (f_X12_inForce s0 a0 a1 a2) (fun _ => True) := by
  unfold f_X12_inForce
  repeat' (first
    | with_reducible assumption
    | (with_reducible show Ok _ _; first | dsimp only | with_reducible refine Ok_some ?_ | with_reducible refine Ok_b1 ?_ | with_reducible refine Ok_ift (by decide) ?_ | with_reducible refine Ok_iff (by decide) ?_ | with_reducible refine Ok_if (fun _ => ?_) (fun _ => ?_) | with_reducible refine Ok.mono (w_X12_isWhat ) (fun _ _ => ?_) | with_reducible refine Ok.mono (w_X12_forceOf (b0 := b0) ?_) (fun _ _ => ?_) | with_reducible refine Ok.mono (w_X12_in ) (fun _ _ => ?_) | unfold f_X12_isHour)
    | dsimp only
    | with_reducible refine And.intro ?_ ?_)
  all_goals (try (first | with_reducible assumption | exact trivial | omega | ((try clear ih); (try clear hr); (try clear hq0); (try clear hq1); (try clear hrec); ((try simp only [inB, jlt, jeq, Int32.reduceToInt, jn1, jn2, Nat.reduceEqDiff, Nat.reduceAdd, Nat.reduceMul, ite_true, ite_false, and_true, true_and, and_false, false_and, true_or, or_true, false_or, or_false, not_true_eq_false, not_false_eq_true, reduceIte, reduceCtorEq, eq_self] at *) <;> (first | omega | ((try simp (disch := first | omega | (simp (disch := first | omega | (simp (disch := first | omega | (simp only [Int32.reduceToInt]; omega)) only [Int32.reduceToInt]; omega)) only [Int32.reduceToInt]; omega)) only [Int32.reduceToInt] at *) <;> (first | omega | ((try simp (disch := first | omega | (simp (disch := first | omega | (simp (disch := first | omega | (simp only [Int32.reduceToInt]; omega)) only [Int32.reduceToInt]; omega)) only [Int32.reduceToInt]; omega)) only [Int32.reduceToInt] at *) <;> (first | omega | ((simp only [jadd, jsub, jmul, jneg, Int32.reduceToInt] at *) <;> omega))))))))))
set_option maxRecDepth 4000 in
theorem w_X12_both {a0 : Int32} {a1 : Int32} {a2 : Int32} : Ok (f_X12_both a0 a1 a2) (fun _ => True) := by
  unfold f_X12_both
  repeat' (first
    | with_reducible assumption
    | (with_reducible show Ok _ _; first | dsimp only | with_reducible refine Ok_some ?_ | with_reducible refine Ok_gd ?_ (fun _ => ?_) | with_reducible refine Ok_jn ?_ | with_reducible refine Ok_ift (by decide) ?_ | with_reducible refine Ok_iff (by decide) ?_ | with_reducible refine Ok_if (fun _ => ?_) (fun _ => ?_))
    | dsimp only
    | with_reducible refine And.intro ?_ ?_)
  all_goals (try (first | with_reducible assumption | exact trivial | omega | ((try clear ih); (try clear hr); (try clear hq0); (try clear hq1); (try clear hrec); ((try simp only [inB, jlt, jeq, Int32.reduceToInt, jn1, Nat.reduceEqDiff, Nat.reduceAdd, Nat.reduceMul, ite_true, ite_false, and_true, true_and, and_false, false_and, true_or, or_true, false_or, or_false, not_true_eq_false, not_false_eq_true, reduceIte, reduceCtorEq, eq_self] at *) <;> (first | omega | ((try simp (disch := first | omega | (simp (disch := first | omega | (simp (disch := first | omega | (simp only [Int32.reduceToInt]; omega)) only [i32_add, i32_sub, i32_mul, Int32.reduceToInt]; omega)) only [i32_add, i32_sub, i32_mul, Int32.reduceToInt]; omega)) only [i32_add, i32_sub, i32_mul, Int32.reduceToInt] at *) <;> (first | omega | ((try simp (disch := first | omega | (simp (disch := first | omega | (simp (disch := first | omega | (simp only [Int32.reduceToInt]; omega)) only [i32_add, i32_sub, i32_mul, Int32.reduceToInt]; omega)) only [i32_add, i32_sub, i32_mul, Int32.reduceToInt]; omega)) only [i32_add, i32_sub, i32_mul, Int32.reduceToInt] at *) <;> (first | omega | ((simp only [jadd, jsub, jmul, jneg, Int32.reduceToInt] at *) <;> omega))))))))))
/-! THE REFERENCE'S CODE RUNS -/
def Sm5 (c s : SS) : Prop := (∀ q, 90 ≤ q → q ≤ 94 → zI s q = zI c q) ∧ S7 c s
theorem Sm5.p96 {c s : SS} {i : Nat} {v : Int32} (h : Sm5 c s) : Sm5 c (pI s 96 i v) := ⟨fun q h1 h2 => by
  rw [← h.1 q h1 h2]
  funext b
  rw [zI_pI, if_neg (fun z => by omega)], S7.p (by decide) h.2⟩
theorem w_X12_worked_L12 {b0 c0 : SS} {q0 : SS → Option (Int32 × SS)} {y1 y3 : Int32} {Q : Int32 × SS → Prop} (g0 : 0 ≤ y1.toInt ∧ y1.toInt ≤ 15) (g1 : 0 ≤ y3.toInt ∧ y3.toInt ≤ 160) (hq0 : ∀ s, Lk b0 s → Sm5 c0 s → Ok (q0 s) Q) : ∀ (n : Nat) (s : SS) (x4 x5 : Int32), Lk b0 s → Sm5 c0 s → (0 ≤ x4.toInt ∧ x4.toInt ≤ x5.toInt - 170 * y1.toInt) → (170 * y1.toInt ≤ x5.toInt ∧ x5.toInt ≤ 170 * y1.toInt + 160) → Cd (zI c0 93) (zI c0 94) (170 * y1.toInt + y3.toInt - x5.toInt).toNat x5.toInt.toNat x4.toInt.toNat → 170 * y1.toInt + 160 - x5.toInt < (n : Int) → Ok (f_X12_worked_L12 q0 y1 y3 n s x4 x5) Q := by
  intro n
  induction n with
  | zero =>
    intro s x4 x5 K S i0 i1 hC hm
    exfalso
    omega
  | succ n ih =>
    intro s x4 x5 K S i0 i1 hC hm
    show Ok (f_X12_worked_L12_b q0 y1 y3 (f_X12_worked_L12 q0 y1 y3 n) s x4 x5) Q
    unfold f_X12_worked_L12_b
    have j170 : (170 : Int32).toInt = 170 := rfl
    have j1 : (1 : Int32).toInt = 1 := rfl
    have m1 : (170 * y1).toInt = 170 * y1.toInt := by rw [i32_mul (by rw [j170]; omega) (by rw [j170]; omega), j170]
    have m2 : (170 * y1 + y3).toInt = 170 * y1.toInt + y3.toInt := by rw [i32_add (by rw [m1]; omega) (by rw [m1]; omega), m1]
    with_reducible refine Ok_if (fun c => ?_) (fun _ => hq0 s K S)
    rw [Int32.lt_iff_toInt_lt, m2] at c
    have x5n : (x5 + 1).toInt = x5.toInt + 1 := by rw [i32_add (by rw [j1]; omega) (by rw [j1]; omega), j1]
    have x4n : (x4 + 1).toInt = x4.toInt + 1 := by rw [i32_add (by rw [j1]; omega) (by rw [j1]; omega), j1]
    clear m1 m2 j170 j1
    have k1 : 170 * y1.toInt ≤ (x5 + 1).toInt ∧ (x5 + 1).toInt ≤ 170 * y1.toInt + 160 := by clear hC ih; omega
    have k2 : 170 * y1.toInt + 160 - (x5 + 1).toInt < (n : Int) := by clear hC ih; omega
    have k3 : ∀ x : Int32, (0 ≤ x.toInt ∧ x.toInt ≤ x4.toInt + 1) → 0 ≤ x.toInt ∧ x.toInt ≤ (x5 + 1).toInt - 170 * y1.toInt := by clear hC ih; intro x h; omega
    have k4 : inB x5 2890 := by clear hC ih; exact ⟨by omega, by omega⟩
    have k5 : inB x4 170 := by clear hC ih; exact ⟨by omega, by omega⟩
    obtain ⟨m, em⟩ : ∃ m, (170 * y1.toInt + y3.toInt - x5.toInt).toNat = m + 1 := ⟨(170 * y1.toInt + y3.toInt - x5.toInt).toNat - 1, by clear hC ih; omega⟩
    rw [em] at hC
    have em' : (170 * y1.toInt + y3.toInt - (x5 + 1).toInt).toNat = m := by clear hC ih; omega
    have e5 : (x5 + 1).toInt.toNat = x5.toInt.toNat + 1 := by clear hC ih; omega
    have e4 : (x4 + 1).toInt.toNat = x4.toInt.toNat + 1 := by clear hC ih; omega
    unfold Cd at hC
    with_reducible refine Ok_gd k4 (fun gx => ?_)
    with_reducible refine Ok_vl ?_
    have rA : zI s 93 x5.toInt.toNat = zI c0 93 x5.toInt.toNat := by rw [S.1 93 (by omega) (by omega)]
    have rB : zI s 94 x5.toInt.toNat = zI c0 94 x5.toInt.toNat := by rw [S.1 94 (by omega) (by omega)]
    rw [rA, rB]
    have go : ∀ (s' : SS) (x : Int32), Lk b0 s' → Sm5 c0 s' → (0 ≤ x.toInt ∧ x.toInt ≤ x4.toInt + 1) → Cd (zI c0 93) (zI c0 94) m (x5.toInt.toNat + 1) x.toInt.toNat → Ok (f_X12_worked_L12 q0 y1 y3 n s' x (x5 + 1)) Q := fun s' x K' S' h1 h2 => ih s' x (x5 + 1) K' S' (k3 x h1) k1 (by rw [em', e5]; exact h2) k2
    clear em em' k1 k2 k3 hm
    with_reducible refine Ok_jn ?_
    with_reducible refine Ok_jn ?_
    with_reducible refine Ok_if (fun c1 => ?_) (fun c1 => ?_)
    · rw [if_pos c1] at hC
      with_reducible refine Ok_jn ?_
      with_reducible refine Ok_ift c1 ?_
      with_reducible refine Ok_gd gx (fun _ => ?_)
      with_reducible refine Ok_gd k5 (fun _ => ?_)
      with_reducible refine Ok_st ?_
      with_reducible refine Ok_vl ?_
      with_reducible refine Ok_vl ?_
      exact go _ _ (K.wI (by decide) (by decide) trivial) S.p96 (by clear hC go; omega) (by rw [e4]; exact hC)
    rw [if_neg c1] at hC
    with_reducible refine Ok_if (fun c2 => ?_) (fun c2 => ?_)
    · rw [if_pos c2] at hC
      with_reducible refine Ok_jn ?_
      with_reducible refine Ok_iff c1 ?_
      with_reducible refine Ok_gd gx (fun _ => ?_)
      with_reducible refine Ok_vl ?_
      with_reducible refine Ok_gd ⟨hC.1.1, by have h7 := hC.1.2; clear hC go; omega⟩ (fun _ => ?_)
      with_reducible refine Ok_gd k5 (fun _ => ?_)
      with_reducible refine Ok_st ?_
      with_reducible refine Ok_vl ?_
      with_reducible refine Ok_vl ?_
      exact go _ _ (K.wI (by decide) (by decide) trivial) S.p96 (by clear hC go; omega) (by rw [e4]; exact hC.2)
    rw [if_neg c2] at hC
    with_reducible refine Ok_if (fun c3 => ?_) (fun c3 => ?_)
    · rw [if_pos (Or.inl c3)] at hC
      have h4 := hC.1
      clear x4n x5n e4 e5
      obtain ⟨u, eu, hu⟩ : ∃ u, x4 - 1 = u ∧ u.toInt = x4.toInt - 1 := ⟨_, rfl, by clear hC go; rw [i32_sub (by rw [jl1]; omega) (by rw [jl1]; omega), jl1]⟩
      rw [eu]
      with_reducible refine Ok_vl ?_
      with_reducible refine Ok_gd ⟨by clear hC go; omega, by clear hC go; omega⟩ (fun g => ?_)
      with_reducible refine Ok_jn ?_
      with_reducible refine Ok_if (fun _ => ?_) (fun _ => ?_)
      · with_reducible refine Ok_vl ?_
        with_reducible refine Ok_gd g (fun _ => ?_)
        with_reducible refine Ok_st ?_
        with_reducible refine Ok_vl ?_
        exact go _ _ (K.wI (by decide) (by decide) trivial) S.p96 (by clear hC go; omega) hC.2
      · with_reducible refine Ok_vl ?_
        with_reducible refine Ok_gd g (fun _ => ?_)
        with_reducible refine Ok_st ?_
        with_reducible refine Ok_vl ?_
        exact go _ _ (K.wI (by decide) (by decide) trivial) S.p96 (by clear hC go; omega) hC.2
    with_reducible refine Ok_if (fun c4 => ?_) (fun c4 => ?_)
    · rw [if_pos (Or.inr c4)] at hC
      have h4 := hC.1
      clear x4n x5n e4 e5
      obtain ⟨u, eu, hu⟩ : ∃ u, x4 - 1 = u ∧ u.toInt = x4.toInt - 1 := ⟨_, rfl, by clear hC go; rw [i32_sub (by rw [jl1]; omega) (by rw [jl1]; omega), jl1]⟩
      rw [eu]
      with_reducible refine Ok_vl ?_
      with_reducible refine Ok_gd ⟨by clear hC go; omega, by clear hC go; omega⟩ (fun g => ?_)
      with_reducible refine Ok_vl ?_
      with_reducible refine Ok_vl ?_
      with_reducible refine Ok_gd g (fun _ => ?_)
      with_reducible refine Ok_st ?_
      with_reducible refine Ok_vl ?_
      exact go _ _ (K.wI (by decide) (by decide) trivial) S.p96 (by clear hC go; omega) hC.2
    · rw [if_neg (show ¬ (zI c0 93 x5.toInt.toNat = 3 ∨ zI c0 93 x5.toInt.toNat = 4) from fun z => z.elim c3 c4)] at hC
      have h4 := hC.1
      clear x4n x5n e4 e5
      obtain ⟨u, eu, hu⟩ : ∃ u, x4 + (-1) = u ∧ u.toInt = x4.toInt - 1 := ⟨_, rfl, by clear hC go; rw [i32_add (by rw [jn1]; omega) (by rw [jn1]; omega), jn1]; omega⟩
      rw [eu]
      obtain ⟨w, ew, hw⟩ : ∃ w, u - 1 = w ∧ w.toInt = x4.toInt - 2 := ⟨_, rfl, by clear hC go; rw [i32_sub (by rw [jl1]; omega) (by rw [jl1]; omega), jl1]; omega⟩
      with_reducible refine Ok_vl ?_
      rw [ew]
      with_reducible refine Ok_vl ?_
      with_reducible refine Ok_gd ⟨by clear hC go; omega, by clear hC go; omega⟩ (fun g => ?_)
      with_reducible refine Ok_gd ⟨by clear hC go; omega, by clear hC go; omega⟩ (fun _ => ?_)
      with_reducible refine Ok_b1 ((w_X12_both).mono (fun r _ => ?_))
      with_reducible refine Ok_vl ?_
      with_reducible refine Ok_gd g (fun _ => ?_)
      with_reducible refine Ok_st ?_
      with_reducible refine Ok_vl ?_
      exact go _ _ (K.wI (by decide) (by decide) trivial) S.p96 (by clear hC go; omega) (by rw [show u.toInt.toNat = x4.toInt.toNat - 1 by clear hC go; omega]; exact hC.2)
theorem w_X12_worked {b0 s0 : SS} {a0 a1 a2 : Int32} (K : Lk b0 s0) (h0 : 0 ≤ a0.toInt ∧ a0.toInt ≤ 15) (h1 : 0 ≤ a1.toInt ∧ a1.toInt ≤ a2.toInt ∧ a2.toInt ≤ 160) (hC : Cd (zI s0 93) (zI s0 94) (a2.toInt - a1.toInt).toNat (170 * a0.toInt.toNat + a1.toInt.toNat) 0) : Ok (f_X12_worked s0 a0 a1 a2) (fun r => Lk b0 r.2 ∧ Sm5 s0 r.2) := by
  unfold f_X12_worked
  have j170 : (170 : Int32).toInt = 170 := rfl
  have j0 : (0 : Int32).toInt = 0 := rfl
  have m1 : (170 * a0).toInt = 170 * a0.toInt := by rw [i32_mul (by rw [j170]; omega) (by rw [j170]; omega), j170]
  have m2 : (170 * a0 + a1).toInt = 170 * a0.toInt + a1.toInt := by rw [i32_add (by rw [m1]; omega) (by rw [m1]; omega), m1]
  with_reducible refine Ok_vl ?_
  refine w_X12_worked_L12 (c0 := s0) h0 (by omega) (fun s K' S => Ok_some ⟨K', S⟩) 4000 s0 0 _ K ⟨fun _ _ _ => rfl, S7.rf⟩ (by rw [m2, j0]; omega) (by rw [m2]; omega) ?_ (by rw [m2]; omega)
  rw [m2, show (170 * a0.toInt + a2.toInt - (170 * a0.toInt + a1.toInt)).toNat = (a2.toInt - a1.toInt).toNat by omega, show (170 * a0.toInt + a1.toInt).toNat = 170 * a0.toInt.toNat + a1.toInt.toNat by omega]
  exact hC
theorem w_X12_gives_L4 {b0 c0 : SS} {q0 : SS → Int32 → Option (Int32 × SS)} {y1 : Int32} {Q : Int32 × SS → Prop} (g0 : 0 ≤ y1.toInt ∧ y1.toInt ≤ 15) (hM : 0 ≤ (zI c0 90 y1.toInt.toNat).toInt ∧ (zI c0 90 y1.toInt.toNat).toInt ≤ 90) (hT : TWr (zI c0 91) (zI c0 92) (zI c0 93) (zI c0 94) y1.toInt.toNat (zI c0 90 y1.toInt.toNat).toInt.toNat) (hr : ∀ v s, Lk b0 s → Sm5 c0 s → Q (v, s)) (hq0 : ∀ (s : SS) (x : Int32) (i : Nat), Lk b0 s → Sm5 c0 s → i < (zI c0 90 y1.toInt.toNat).toInt.toNat → x.toInt = 90 * y1.toInt + i → Ok (q0 s x) Q) :
    ∀ (n : Nat) (s : SS) (x2 x3 : Int32), Lk b0 s → Sm5 c0 s → (0 ≤ x3.toInt ∧ x3.toInt ≤ 90) → x2.toInt = fromL (zI c0 92) y1.toInt.toNat x3.toInt.toNat → 90 - x3.toInt < (n : Int) → Ok (f_X12_gives_L4 q0 y1 n s x2 x3) Q := by
  intro n
  induction n with
  | zero =>
    intro s x2 x3 K S i0 i1 hm
    exfalso
    omega
  | succ n ih =>
    intro s x2 x3 K S i0 i1 hm
    show Ok (f_X12_gives_L4_b q0 y1 (f_X12_gives_L4 q0 y1 n) s x2 x3) Q
    unfold f_X12_gives_L4_b
    have j90 : (90 : Int32).toInt = 90 := rfl
    have j1 : (1 : Int32).toInt = 1 := rfl
    have m1 : (90 * y1).toInt = 90 * y1.toInt := by rw [i32_mul (by rw [j90]; omega) (by rw [j90]; omega), j90]
    have m2 : (90 * y1 + x3).toInt = 90 * y1.toInt + x3.toInt := by rw [i32_add (by rw [m1]; omega) (by rw [m1]; omega), m1]
    with_reducible refine Ok_gd ⟨by omega, by omega⟩ (fun gy => ?_)
    have r90 : zI s 90 y1.toInt.toNat = zI c0 90 y1.toInt.toNat := by rw [S.1 90 (by omega) (by omega)]
    rw [r90]
    with_reducible refine Ok_if (fun c => ?_) (fun _ => Ok_some (hr _ _ K S))
    rw [Int32.lt_iff_toInt_lt] at c
    obtain ⟨t1, t2, t3⟩ := hT x3.toInt.toNat (by omega)
    have en : (90 * y1 + x3).toInt.toNat = 90 * y1.toInt.toNat + x3.toInt.toNat := by rw [m2]; omega
    with_reducible refine Ok_vl ?_
    with_reducible refine Ok_gd ⟨by rw [m2]; omega, by rw [m2]; omega⟩ (fun gl => ?_)
    have r91 : zI s 91 (90 * y1 + x3).toInt.toNat = zI c0 91 (90 * y1.toInt.toNat + x3.toInt.toNat) := by rw [S.1 91 (by omega) (by omega), en]
    rw [r91]
    with_reducible refine Ok_if (fun _ => hq0 s _ x3.toInt.toNat K S (by omega) (by rw [m2]; omega)) (fun _ => ?_)
    with_reducible refine Ok_gd gl (fun _ => ?_)
    with_reducible refine Ok_bd ((w_X12_worked (a0 := y1) (a1 := x2) (a2 := zI c0 91 (90 * y1.toInt.toNat + x3.toInt.toNat)) K g0 (by rw [i1]; omega) ?_).mono (fun r h => ?_))
    · rw [S.1 93 (by omega) (by omega), S.1 94 (by omega) (by omega), i1]
      exact t2
    · obtain ⟨K', S'⟩ := h
      have S2 : Sm5 c0 r.2 := ⟨fun q h1 h2 => (S'.1 q h1 h2).trans (S.1 q h1 h2), S7.tr S'.2 S.2⟩
      with_reducible refine Ok_if (fun _ => ?_) (fun _ => hq0 r.2 _ x3.toInt.toNat K' S2 (by omega) (by rw [m2]; omega))
      with_reducible refine Ok_gd gl (fun _ => ?_)
      with_reducible refine Ok_vl ?_
      with_reducible refine Ok_vl ?_
      have x3n : (x3 + 1).toInt = x3.toInt + 1 := by rw [i32_add (by rw [j1]; omega) (by rw [j1]; omega), j1]
      refine ih r.2 _ _ K' S2 (by omega) ?_ (by omega)
      have r92 : zI r.2 92 (90 * y1 + x3).toInt.toNat = zI c0 92 (90 * y1.toInt.toNat + x3.toInt.toNat) := by rw [S2.1 92 (by omega) (by omega), en]
      rw [r92, show (x3 + 1).toInt.toNat = x3.toInt.toNat + 1 by omega]
      unfold fromL
      rw [if_neg (by omega), show 90 * y1.toInt.toNat + (x3.toInt.toNat + 1) - 1 = 90 * y1.toInt.toNat + x3.toInt.toNat by omega]
theorem w_X12_gives {b0 s0 : SS} {a0 : Int32} (K : Lk b0 s0) (h : 0 ≤ a0.toInt ∧ a0.toInt ≤ 15 ∧ a0.toInt < (zS s0 59 38).toInt) : Ok (f_X12_gives s0 a0) (fun r => Lk b0 r.2 ∧ S7 s0 r.2) := by
  unfold f_X12_gives
  obtain ⟨hM, hT⟩ := K.1.2.1 a0.toInt.toNat (by omega)
  refine w_X12_gives_L4 (c0 := s0) (by omega) hM hT (fun v s K' S => ⟨K', S.2⟩) (fun s x i K' S hi hx => ?_) 4000 s0 0 0 K ⟨fun _ _ _ => rfl, S7.rf⟩ (by decide) rfl (by decide)
  obtain ⟨t1, t2, t3⟩ := hT i hi
  have ex : x.toInt.toNat = 90 * a0.toInt.toNat + i := by omega
  have gx : inB x 1530 := ⟨by omega, by omega⟩
  with_reducible refine Ok_gd gx (fun _ => ?_)
  with_reducible refine Ok_gd gx (fun _ => ?_)
  have r91 : zI s 91 x.toInt.toNat = zI s0 91 (90 * a0.toInt.toNat + i) := by rw [S.1 91 (by omega) (by omega), ex]
  have r92 : zI s 92 x.toInt.toNat = zI s0 92 (90 * a0.toInt.toNat + i) := by rw [S.1 92 (by omega) (by omega), ex]
  rw [r91, r92]
  have z7 : ∀ r : Int32 × SS, (Lk b0 r.2 ∧ Sm5 s r.2) → Lk b0 r.2 ∧ S7 s0 r.2 := fun r h => ⟨h.1, S7.tr h.2.2 S.2⟩
  with_reducible refine Ok_bd ((w_X12_worked K' (by omega) ⟨by omega, t1.2.2.1, t1.2.2.2⟩ ?_).mono (fun r h => Ok_some (z7 r h)))
  rw [S.1 93 (by omega) (by omega), S.1 94 (by omega) (by omega)]
  exact t3
set_option maxRecDepth 4000 in
theorem w_X12_saysNow_L28 {b0 : SS} {q0 : Int32 → Option (Int32 × SS)} {sb : SS} {y2 : Int32} {y4 : Int32} {Q : Int32 × SS → Prop} (K : Lk b0 sb) (hq0 : ∀ (z0 : Int32), Ok (q0 z0) Q) : ∀ (n : Nat) (x5 : Int32) (x6 : Int32), (0 ≤ x6.toInt ∧ x6.toInt ≤ 120) → 120 - x6.toInt < (n : Int) → Ok (f_X12_saysNow_L28 q0 sb y2 y4 n x5 x6) Q := by
  intro n
  induction n with
  | zero =>
    intro x5 x6 i0 hm
    exfalso
    (first | with_reducible assumption | omega | ((try clear ih); (try clear hr); (try clear hq0); (try clear hq1); (try clear hrec); ((try simp only [inB, jlt, jeq, Int32.reduceToInt, Nat.reduceEqDiff, Nat.reduceAdd, Nat.reduceMul, ite_true, ite_false, and_true, true_and, and_false, false_and, true_or, or_true, false_or, or_false, not_true_eq_false, not_false_eq_true, reduceIte, reduceCtorEq, eq_self] at *) <;> (first | omega | ((try simp (disch := first | omega | (simp (disch := first | omega | (simp (disch := first | omega | (simp only [Int32.reduceToInt]; omega)) only [i32_add, i32_sub, Int32.reduceToInt]; omega)) only [i32_add, i32_sub, Int32.reduceToInt]; omega)) only [i32_add, i32_sub, Int32.reduceToInt] at *) <;> (first | omega | ((try simp (disch := first | omega | (simp (disch := first | omega | (simp (disch := first | omega | (simp only [Int32.reduceToInt]; omega)) only [i32_add, i32_sub, Int32.reduceToInt]; omega)) only [i32_add, i32_sub, Int32.reduceToInt]; omega)) only [i32_add, i32_sub, Int32.reduceToInt] at *) <;> (first | omega | ((simp only [jadd, jsub, jmul, jneg, Int32.reduceToInt] at *) <;> omega)))))))))
  | succ n ih =>
    intro x5 x6 i0 hm
    show Ok (f_X12_saysNow_L28_b q0 sb y2 y4 (f_X12_saysNow_L28 q0 sb y2 y4 n) x5 x6) Q
    unfold f_X12_saysNow_L28_b
    have f0 := kf_59_4 K
    repeat' (first
      | with_reducible assumption
      | (with_reducible show Ok _ _; first | dsimp only | with_reducible refine Lk_G120 (by assumption) ?_ (fun _ _ _ _ _ => ?_) | with_reducible refine Ok_gd ?_ (fun _ => ?_) | with_reducible refine Ok_vl ?_ | with_reducible refine Ok_jn ?_ | with_reducible refine Ok_ift (by decide) ?_ | with_reducible refine Ok_iff (by decide) ?_ | with_reducible refine Ok_if (fun _ => ?_) (fun _ => ?_) | with_reducible refine ih _ _  ?_ ?_ | with_reducible refine hq0 _)
      | dsimp only
      | with_reducible refine And.intro ?_ ?_)
    all_goals (try (first | with_reducible assumption | exact trivial | omega | ((try clear ih); (try clear hr); (try clear hq0); (try clear hq1); (try clear hrec); ((try simp only [inB, jlt, jeq, Int32.reduceToInt, Nat.reduceEqDiff, Nat.reduceAdd, Nat.reduceMul, ite_true, ite_false, and_true, true_and, and_false, false_and, true_or, or_true, false_or, or_false, not_true_eq_false, not_false_eq_true, reduceIte, reduceCtorEq, eq_self] at *) <;> (first | omega | ((try simp (disch := first | omega | (simp (disch := first | omega | (simp (disch := first | omega | (simp only [Int32.reduceToInt]; omega)) only [i32_add, i32_sub, Int32.reduceToInt]; omega)) only [i32_add, i32_sub, Int32.reduceToInt]; omega)) only [i32_add, i32_sub, Int32.reduceToInt] at *) <;> (first | omega | ((try simp (disch := first | omega | (simp (disch := first | omega | (simp (disch := first | omega | (simp only [Int32.reduceToInt]; omega)) only [i32_add, i32_sub, Int32.reduceToInt]; omega)) only [i32_add, i32_sub, Int32.reduceToInt]; omega)) only [i32_add, i32_sub, Int32.reduceToInt] at *) <;> (first | omega | ((simp only [jadd, jsub, jmul, jneg, Int32.reduceToInt] at *) <;> omega))))))))))
set_option maxRecDepth 4000 in
theorem w_X12_saysNow {b0 : SS} {s0 : SS} {a0 : Int32} {a1 : Int32} {a2 : Int32} (K : Lk b0 s0) (g0 : -1 ≤ a1.toInt ∧ a1.toInt ≤ 119) : Ok (f_X12_saysNow s0 a0 a1 a2) (fun r => Lk b0 r.2 ∧ S7 s0 r.2) := by
  unfold f_X12_saysNow
  repeat' (first
    | with_reducible assumption
    | (with_reducible show Ok _ _; first | dsimp only | with_reducible refine Ok_jn0 ?_ (fun _ _ => ?_) | with_reducible refine Ok_jn1 (fun _ => ?_) (fun _ _ => ?_) | with_reducible refine Ok_jn2 (fun _ _ => ?_) (fun _ _ => ?_) | with_reducible refine Ok_jnS (b0 := b0) (fun _ _ => ?_) (fun _ _ => ?_) | with_reducible refine Ok_jnS1 (b0 := b0) (fun _ _ _ => ?_) (fun _ _ => ?_) | with_reducible refine Ok_jnS2 (b0 := b0) (fun _ _ _ _ => ?_) (fun _ _ => ?_) | with_reducible refine Ok_k1 (by assumption) _ | with_reducible refine Ok_k2 (by assumption) _ _ | with_reducible refine Ok_kS (b0 := b0) (by assumption) ?_ | with_reducible refine Ok_kS1 (b0 := b0) (by assumption) ?_ | with_reducible refine Ok_kS2 (b0 := b0) (by assumption) ?_ | with_reducible refine Ok_some ?_ | with_reducible refine Lk_G120 (by assumption) ?_ (fun _ _ _ _ _ => ?_) | with_reducible refine Ok_gd ?_ (fun _ => ?_) | with_reducible refine Ok_vl ?_ | with_reducible refine Ok_st ?_ | with_reducible refine Ok_jn ?_ | with_reducible refine Ok_b1 ?_ | with_reducible refine Ok_bd ?_ | with_reducible refine Ok_ift (by decide) ?_ | with_reducible refine Ok_iff (by decide) ?_ | with_reducible refine Ok_if (fun _ => ?_) (fun _ => ?_) | with_reducible refine Ok.mono (w_X12_forceOf (b0 := b0) ?_) (fun _ _ => ?_) | with_reducible refine Ok.mono (w_X12_menBelow (b0 := b0) ?_) (fun _ _ => ?_) | with_reducible refine Ok.mono (w_X12_gives (b0 := b0) ?_ ?_) (fun _ ⟨_, _⟩ => ?_))
    | dsimp only
    | (with_reducible show Lk _ _; first | with_reducible refine Lk.wI ?_ (by decide) (by decide) ?_)
    | (with_reducible show S7 _ _; first | with_reducible exact S7.rf | with_reducible refine S7.p (by decide) ?_ | with_reducible refine S7.tr (by assumption) ?_)
    | with_reducible exact e7 (by assumption) (by assumption)
    | with_reducible refine w_X12_saysNow_L28 (b0 := b0) ?_ (fun _ => ?_) _ _ _  ?_ ?_
    | with_reducible refine And.intro ?_ ?_)
  all_goals (try (first | with_reducible assumption | exact trivial | omega | ((try clear ih); (try clear hr); (try clear hq0); (try clear hq1); (try clear hrec); ((try simp only [inB, Rg, cellOK, bA, jlt, jeq, jd24, Int32.reduceToInt, jn1, jn2, zS_pI, zI_pI, zN_pI, Nat.reduceEqDiff, Nat.reduceAdd, Nat.reduceMul, ite_true, ite_false, and_true, true_and, and_false, false_and, true_or, or_true, false_or, or_false, not_true_eq_false, not_false_eq_true, reduceIte, reduceCtorEq, eq_self] at *) <;> (first | omega | ((try simp (disch := first | omega | (simp (disch := first | omega | (simp (disch := first | omega | (simp only [jd24, Int32.reduceToInt]; omega)) only [i32_sub, jd24, Int32.reduceToInt]; omega)) only [i32_sub, jd24, Int32.reduceToInt]; omega)) only [i32_sub, jd24, Int32.reduceToInt] at *) <;> (first | omega | ((try simp (disch := first | omega | (simp (disch := first | omega | (simp (disch := first | omega | (simp only [jd24, Int32.reduceToInt]; omega)) only [i32_sub, jd24, Int32.reduceToInt]; omega)) only [i32_sub, jd24, Int32.reduceToInt]; omega)) only [i32_sub, jd24, Int32.reduceToInt] at *) <;> (first | omega | ((simp only [jadd, jsub, jmul, jneg, Int32.reduceToInt] at *) <;> omega))))))))))
set_option maxRecDepth 4000 in
theorem w_X12_says {b0 : SS} {s0 : SS} {a0 : Int32} {a1 : Int32} (K : Lk b0 s0) : Ok (f_X12_says s0 a0 a1) (fun r => Lk b0 r.2) := by
  unfold f_X12_says
  repeat' (first
    | with_reducible assumption
    | (with_reducible show Ok _ _; first | dsimp only | with_reducible refine Ok_some ?_ | with_reducible refine Ok_jn ?_ | with_reducible refine Ok_b1 ?_ | with_reducible refine Ok_bd ?_ | with_reducible refine Ok_ift (by decide) ?_ | with_reducible refine Ok_iff (by decide) ?_ | with_reducible refine Ok_if (fun _ => ?_) (fun _ => ?_) | with_reducible refine Ok.mono (w_X12_isWhat ) (fun _ _ => ?_) | with_reducible refine Ok.mono (w_X12_saysNow (b0 := b0) ?_ ?_) (fun _ ⟨_, _⟩ => ?_) | with_reducible refine Ok.mono (w_X12_isMan (b0 := b0) ?_) (fun _ _ => ?_))
    | dsimp only
    | with_reducible refine And.intro ?_ ?_)
  all_goals (try (first | with_reducible assumption | exact trivial | omega | ((try clear ih); (try clear hr); (try clear hq0); (try clear hq1); (try clear hrec); ((try simp only [inB, jlt, jeq, jm10, Int32.reduceToInt, jn1, jn2000000000, Nat.reduceEqDiff, Nat.reduceAdd, Nat.reduceMul, ite_true, ite_false, and_true, true_and, and_false, false_and, true_or, or_true, false_or, or_false, not_true_eq_false, not_false_eq_true, reduceIte, reduceCtorEq, eq_self] at *) <;> (first | omega | ((try simp (disch := first | omega | (simp (disch := first | omega | (simp (disch := first | omega | (simp only [jm10, Int32.reduceToInt]; omega)) only [jm10, Int32.reduceToInt]; omega)) only [jm10, Int32.reduceToInt]; omega)) only [jm10, Int32.reduceToInt] at *) <;> (first | omega | ((try simp (disch := first | omega | (simp (disch := first | omega | (simp (disch := first | omega | (simp only [jm10, Int32.reduceToInt]; omega)) only [jm10, Int32.reduceToInt]; omega)) only [jm10, Int32.reduceToInt]; omega)) only [jm10, Int32.reduceToInt] at *) <;> (first | omega | ((simp only [jadd, jsub, jmul, jneg, Int32.reduceToInt] at *) <;> omega))))))))))
set_option maxRecDepth 4000 in
theorem w_X12_spoons {b0 : SS} {s0 : SS} {a0 : Int32} (K : Lk b0 s0) : Ok (f_X12_spoons s0 a0) (fun r => Lk b0 r.2) := by
  unfold f_X12_spoons
  repeat' (first
    | with_reducible assumption
    | (with_reducible show Ok _ _; first | dsimp only | with_reducible refine Ok_some ?_ | with_reducible refine Ok_vl ?_ | with_reducible refine Ok_st ?_ | with_reducible refine Ok_b1 ?_ | with_reducible refine Ok_ift (by decide) ?_ | with_reducible refine Ok_iff (by decide) ?_ | with_reducible refine Ok_if (fun _ => ?_) (fun _ => ?_) | with_reducible refine Ok.mono (w_X12_in ) (fun _ _ => ?_))
    | dsimp only
    | (with_reducible show Lk _ _; first | with_reducible refine Lk.wF ?_ (by decide) (by decide) (by decide) ?_)
    | with_reducible refine And.intro ?_ ?_)
  all_goals (try (first | with_reducible assumption | exact trivial | omega | ((try clear ih); (try clear hr); (try clear hq0); (try clear hq1); (try clear hrec); ((try simp only [inB, Rg, bF, jlt, jeq, Int32.reduceToInt, jn1, zS_pS, zI_pS, zN_pS, Nat.reduceEqDiff, Nat.reduceAdd, Nat.reduceMul, ite_true, ite_false, and_true, true_and, and_false, false_and, true_or, or_true, false_or, or_false, not_true_eq_false, not_false_eq_true, reduceIte, reduceCtorEq, eq_self] at *) <;> (first | omega | ((try simp (disch := first | omega | (simp (disch := first | omega | (simp (disch := first | omega | (simp only [Int32.reduceToInt]; omega)) only [Int32.reduceToInt]; omega)) only [Int32.reduceToInt]; omega)) only [Int32.reduceToInt] at *) <;> (first | omega | ((try simp (disch := first | omega | (simp (disch := first | omega | (simp (disch := first | omega | (simp only [Int32.reduceToInt]; omega)) only [Int32.reduceToInt]; omega)) only [Int32.reduceToInt]; omega)) only [Int32.reduceToInt] at *) <;> (first | omega | ((simp only [jadd, jsub, jmul, jneg, Int32.reduceToInt] at *) <;> omega))))))))))
set_option maxRecDepth 4000 in
theorem w_X12_drill_L2 {b0 : SS} {q0 : SS → Option SS} {Q : SS → Prop} (hq0 : ∀ (s : SS), Lk b0 s → Ok (q0 s) Q) : ∀ (n : Nat) (s : SS) (x1 : Int32), Lk b0 s → (0 ≤ x1.toInt ∧ x1.toInt ≤ 120) → 120 - x1.toInt < (n : Int) → Ok (f_X12_drill_L2 q0 n s x1) Q := by
  intro n
  induction n with
  | zero =>
    intro s x1 K i0 hm
    exfalso
    (first | with_reducible assumption | omega | ((try clear ih); (try clear hr); (try clear hq0); (try clear hq1); (try clear hrec); ((try simp only [inB, Rg, cellOK, bA, jlt, jeq, Int32.reduceToInt, zS_pI, zI_pI, zN_pI, Nat.reduceEqDiff, Nat.reduceAdd, Nat.reduceMul, ite_true, ite_false, and_true, true_and, and_false, false_and, true_or, or_true, false_or, or_false, not_true_eq_false, not_false_eq_true, reduceIte, reduceCtorEq, eq_self] at *) <;> (first | omega | ((try simp (disch := first | omega | (simp (disch := first | omega | (simp (disch := first | omega | (simp only [Int32.reduceToInt]; omega)) only [i32_add, i32_sub, Int32.reduceToInt]; omega)) only [i32_add, i32_sub, Int32.reduceToInt]; omega)) only [i32_add, i32_sub, Int32.reduceToInt] at *) <;> (first | omega | ((try simp (disch := first | omega | (simp (disch := first | omega | (simp (disch := first | omega | (simp only [Int32.reduceToInt]; omega)) only [i32_add, i32_sub, Int32.reduceToInt]; omega)) only [i32_add, i32_sub, Int32.reduceToInt]; omega)) only [i32_add, i32_sub, Int32.reduceToInt] at *) <;> (first | omega | ((simp only [jadd, jsub, jmul, jneg, Int32.reduceToInt] at *) <;> omega)))))))))
  | succ n ih =>
    intro s x1 K i0 hm
    show Ok (f_X12_drill_L2_b q0 (f_X12_drill_L2 q0 n) s x1) Q
    unfold f_X12_drill_L2_b
    have f0 := kf_59_4 K
    repeat' (first
      | with_reducible assumption
      | (with_reducible show Ok _ _; first | dsimp only | with_reducible refine Lk_G120 (by assumption) ?_ (fun _ _ _ _ _ => ?_) | with_reducible refine Ok_gd ?_ (fun _ => ?_) | with_reducible refine Ok_vl ?_ | with_reducible refine Ok_st ?_ | with_reducible refine Ok_ift (by decide) ?_ | with_reducible refine Ok_iff (by decide) ?_ | with_reducible refine Ok_if (fun _ => ?_) (fun _ => ?_) | with_reducible refine ih _ _  ?_ ?_ ?_ | with_reducible refine hq0 _  ?_)
      | dsimp only
      | (with_reducible show Lk _ _; first | with_reducible refine Lk.wI ?_ (by decide) (by decide) ?_)
      | with_reducible refine And.intro ?_ ?_)
    all_goals (try (first | with_reducible assumption | exact trivial | omega | ((try clear ih); (try clear hr); (try clear hq0); (try clear hq1); (try clear hrec); ((try simp only [inB, Rg, cellOK, bA, jlt, jeq, Int32.reduceToInt, zS_pI, zI_pI, zN_pI, Nat.reduceEqDiff, Nat.reduceAdd, Nat.reduceMul, ite_true, ite_false, and_true, true_and, and_false, false_and, true_or, or_true, false_or, or_false, not_true_eq_false, not_false_eq_true, reduceIte, reduceCtorEq, eq_self] at *) <;> (first | omega | ((try simp (disch := first | omega | (simp (disch := first | omega | (simp (disch := first | omega | (simp only [Int32.reduceToInt]; omega)) only [i32_add, i32_sub, Int32.reduceToInt]; omega)) only [i32_add, i32_sub, Int32.reduceToInt]; omega)) only [i32_add, i32_sub, Int32.reduceToInt] at *) <;> (first | omega | ((try simp (disch := first | omega | (simp (disch := first | omega | (simp (disch := first | omega | (simp only [Int32.reduceToInt]; omega)) only [i32_add, i32_sub, Int32.reduceToInt]; omega)) only [i32_add, i32_sub, Int32.reduceToInt]; omega)) only [i32_add, i32_sub, Int32.reduceToInt] at *) <;> (first | omega | ((simp only [jadd, jsub, jmul, jneg, Int32.reduceToInt] at *) <;> omega))))))))))
set_option maxRecDepth 4000 in
theorem w_X12_drill_L36 {b0 : SS} {q0 : SS → Option SS} {Q : SS → Prop} (hq0 : ∀ (s : SS), Lk b0 s → Ok (q0 s) Q) : ∀ (n : Nat) (s : SS) (x1 : Int32), Lk b0 s → (0 ≤ x1.toInt ∧ x1.toInt ≤ 3) → 3 - x1.toInt < (n : Int) → Ok (f_X12_drill_L36 q0 n s x1) Q := by
  intro n
  induction n with
  | zero =>
    intro s x1 K i0 hm
    exfalso
    (first | with_reducible assumption | omega | ((try clear ih); (try clear hr); (try clear hq0); (try clear hq1); (try clear hrec); ((try simp only [inB, Rg, cellOK, bA, jlt, jeq, Int32.reduceToInt, zS_pI, zI_pI, zN_pI, Nat.reduceEqDiff, Nat.reduceAdd, Nat.reduceMul, ite_true, ite_false, and_true, true_and, and_false, false_and, true_or, or_true, false_or, or_false, not_true_eq_false, not_false_eq_true, reduceIte, reduceCtorEq, eq_self] at *) <;> (first | omega | ((try simp (disch := first | omega | (simp (disch := first | omega | (simp (disch := first | omega | (simp only [Int32.reduceToInt]; omega)) only [i32_add, i32_sub, Int32.reduceToInt]; omega)) only [i32_add, i32_sub, Int32.reduceToInt]; omega)) only [i32_add, i32_sub, Int32.reduceToInt] at *) <;> (first | omega | ((try simp (disch := first | omega | (simp (disch := first | omega | (simp (disch := first | omega | (simp only [Int32.reduceToInt]; omega)) only [i32_add, i32_sub, Int32.reduceToInt]; omega)) only [i32_add, i32_sub, Int32.reduceToInt]; omega)) only [i32_add, i32_sub, Int32.reduceToInt] at *) <;> (first | omega | ((simp only [jadd, jsub, jmul, jneg, Int32.reduceToInt] at *) <;> omega)))))))))
  | succ n ih =>
    intro s x1 K i0 hm
    show Ok (f_X12_drill_L36_b q0 (f_X12_drill_L36 q0 n) s x1) Q
    unfold f_X12_drill_L36_b
    repeat' (first
      | with_reducible assumption
      | (with_reducible show Ok _ _; first | dsimp only | with_reducible refine Lk_G120 (by assumption) ?_ (fun _ _ _ _ _ => ?_) | with_reducible refine Lk_G3 (by assumption) ?_ (fun _ _ => ?_) | with_reducible refine Ok_gd ?_ (fun _ => ?_) | with_reducible refine Ok_vl ?_ | with_reducible refine Ok_st ?_ | with_reducible refine Ok_jn ?_ | with_reducible refine Ok_ift (by decide) ?_ | with_reducible refine Ok_iff (by decide) ?_ | with_reducible refine Ok_if (fun _ => ?_) (fun _ => ?_) | with_reducible refine ih _ _  ?_ ?_ ?_ | with_reducible refine hq0 _  ?_)
      | dsimp only
      | (with_reducible show Lk _ _; first | with_reducible refine Lk.wI ?_ (by decide) (by decide) ?_)
      | with_reducible refine And.intro ?_ ?_)
    all_goals (try (first | with_reducible assumption | exact trivial | omega | ((try clear ih); (try clear hr); (try clear hq0); (try clear hq1); (try clear hrec); ((try simp only [inB, Rg, cellOK, bA, jlt, jeq, Int32.reduceToInt, zS_pI, zI_pI, zN_pI, Nat.reduceEqDiff, Nat.reduceAdd, Nat.reduceMul, ite_true, ite_false, and_true, true_and, and_false, false_and, true_or, or_true, false_or, or_false, not_true_eq_false, not_false_eq_true, reduceIte, reduceCtorEq, eq_self] at *) <;> (first | omega | ((try simp (disch := first | omega | (simp (disch := first | omega | (simp (disch := first | omega | (simp only [Int32.reduceToInt]; omega)) only [i32_add, i32_sub, Int32.reduceToInt]; omega)) only [i32_add, i32_sub, Int32.reduceToInt]; omega)) only [i32_add, i32_sub, Int32.reduceToInt] at *) <;> (first | omega | ((try simp (disch := first | omega | (simp (disch := first | omega | (simp (disch := first | omega | (simp only [Int32.reduceToInt]; omega)) only [i32_add, i32_sub, Int32.reduceToInt]; omega)) only [i32_add, i32_sub, Int32.reduceToInt]; omega)) only [i32_add, i32_sub, Int32.reduceToInt] at *) <;> (first | omega | ((simp only [jadd, jsub, jmul, jneg, Int32.reduceToInt] at *) <;> omega))))))))))
set_option maxRecDepth 4000 in
theorem w_X12_drill_L119 {b0 : SS}  {Q : SS → Prop} (hr : ∀ s, Lk b0 s → Q s) : ∀ (n : Nat) (s : SS) (x1 : Int32), Lk b0 s → (0 ≤ x1.toInt ∧ x1.toInt ≤ 120) → 120 - x1.toInt < (n : Int) → Ok (f_X12_drill_L119  n s x1) Q := by
  intro n
  induction n with
  | zero =>
    intro s x1 K i0 hm
    exfalso
    (first | with_reducible assumption | omega | ((try clear ih); (try clear hr); (try clear hq0); (try clear hq1); (try clear hrec); ((try simp only [inB, jlt, jeq, Int32.reduceToInt, Nat.reduceEqDiff, Nat.reduceAdd, Nat.reduceMul, ite_true, ite_false, and_true, true_and, and_false, false_and, true_or, or_true, false_or, or_false, not_true_eq_false, not_false_eq_true, reduceIte, reduceCtorEq, eq_self] at *) <;> (first | omega | ((try simp (disch := first | omega | (simp (disch := first | omega | (simp (disch := first | omega | (simp only [Int32.reduceToInt]; omega)) only [i32_add, i32_sub, Int32.reduceToInt]; omega)) only [i32_add, i32_sub, Int32.reduceToInt]; omega)) only [i32_add, i32_sub, Int32.reduceToInt] at *) <;> (first | omega | ((try simp (disch := first | omega | (simp (disch := first | omega | (simp (disch := first | omega | (simp only [Int32.reduceToInt]; omega)) only [i32_add, i32_sub, Int32.reduceToInt]; omega)) only [i32_add, i32_sub, Int32.reduceToInt]; omega)) only [i32_add, i32_sub, Int32.reduceToInt] at *) <;> (first | omega | ((simp only [jadd, jsub, jmul, jneg, Int32.reduceToInt] at *) <;> omega)))))))))
  | succ n ih =>
    intro s x1 K i0 hm
    show Ok (f_X12_drill_L119_b  (f_X12_drill_L119  n) s x1) Q
    unfold f_X12_drill_L119_b
    have f0 := kf_59_4 K
    repeat' (first
      | with_reducible assumption
      | (with_reducible show Ok _ _; first | dsimp only | with_reducible refine Ok_some ?_ | with_reducible refine Lk_G120 (by assumption) ?_ (fun _ _ _ _ _ => ?_) | with_reducible refine Ok_gd ?_ (fun _ => ?_) | with_reducible refine Ok_vl ?_ | with_reducible refine Ok_jn ?_ | with_reducible refine Ok_b1 ?_ | with_reducible refine Ok_ift (by decide) ?_ | with_reducible refine Ok_iff (by decide) ?_ | with_reducible refine Ok_if (fun _ => ?_) (fun _ => ?_) | with_reducible refine ih _ _  ?_ ?_ ?_ | with_reducible refine Ok.mono (w_X12_bore (b0 := b0) ?_ ?_) (fun _ _ => ?_))
      | dsimp only
      | with_reducible refine hr _ ?_
      | with_reducible refine And.intro ?_ ?_)
    all_goals (try (first | with_reducible assumption | exact trivial | omega | ((try clear ih); (try clear hr); (try clear hq0); (try clear hq1); (try clear hrec); ((try simp only [inB, jlt, jeq, Int32.reduceToInt, Nat.reduceEqDiff, Nat.reduceAdd, Nat.reduceMul, ite_true, ite_false, and_true, true_and, and_false, false_and, true_or, or_true, false_or, or_false, not_true_eq_false, not_false_eq_true, reduceIte, reduceCtorEq, eq_self] at *) <;> (first | omega | ((try simp (disch := first | omega | (simp (disch := first | omega | (simp (disch := first | omega | (simp only [Int32.reduceToInt]; omega)) only [i32_add, i32_sub, Int32.reduceToInt]; omega)) only [i32_add, i32_sub, Int32.reduceToInt]; omega)) only [i32_add, i32_sub, Int32.reduceToInt] at *) <;> (first | omega | ((try simp (disch := first | omega | (simp (disch := first | omega | (simp (disch := first | omega | (simp only [Int32.reduceToInt]; omega)) only [i32_add, i32_sub, Int32.reduceToInt]; omega)) only [i32_add, i32_sub, Int32.reduceToInt]; omega)) only [i32_add, i32_sub, Int32.reduceToInt] at *) <;> (first | omega | ((simp only [jadd, jsub, jmul, jneg, Int32.reduceToInt] at *) <;> omega))))))))))
set_option maxRecDepth 4000 in
theorem w_X12_drill {b0 : SS} {s0 : SS} (K : Lk b0 s0) : Ok (f_X12_drill s0) (fun r => Lk b0 r) := by
  unfold f_X12_drill
  repeat' (first
    | with_reducible assumption
    | (with_reducible show Ok _ _; first | dsimp only | with_reducible refine Ok_some ?_ | with_reducible refine Ok_bd ?_ | with_reducible refine Ok_ift (by decide) ?_ | with_reducible refine Ok_iff (by decide) ?_ | with_reducible refine Ok_if (fun _ => ?_) (fun _ => ?_) | with_reducible refine Ok.mono (w_X12_saysNow (b0 := b0) ?_ ?_) (fun _ ⟨_, _⟩ => ?_))
    | dsimp only
    | with_reducible refine w_X12_drill_L2 (b0 := b0) (fun _ _ => ?_) _ _ _  ?_ ?_ ?_
    | with_reducible refine w_X12_drill_L36 (b0 := b0) (fun _ _ => ?_) _ _ _  ?_ ?_ ?_
    | with_reducible refine w_X12_drill_L119 (b0 := b0) (fun _ _ => ?_) _ _ _  ?_ ?_ ?_
    | with_reducible refine And.intro ?_ ?_)
  all_goals (try (first | with_reducible assumption | exact trivial | omega | ((try clear ih); (try clear hr); (try clear hq0); (try clear hq1); (try clear hrec); ((try simp only [inB, jlt, jeq, Int32.reduceToInt, jn1, Nat.reduceEqDiff, Nat.reduceAdd, Nat.reduceMul, ite_true, ite_false, and_true, true_and, and_false, false_and, true_or, or_true, false_or, or_false, not_true_eq_false, not_false_eq_true, reduceIte, reduceCtorEq, eq_self] at *) <;> (first | omega | ((try simp (disch := first | omega | (simp (disch := first | omega | (simp (disch := first | omega | (simp only [Int32.reduceToInt]; omega)) only [i32_sub, Int32.reduceToInt]; omega)) only [i32_sub, Int32.reduceToInt]; omega)) only [i32_sub, Int32.reduceToInt] at *) <;> (first | omega | ((try simp (disch := first | omega | (simp (disch := first | omega | (simp (disch := first | omega | (simp only [Int32.reduceToInt]; omega)) only [i32_sub, Int32.reduceToInt]; omega)) only [i32_sub, Int32.reduceToInt]; omega)) only [i32_sub, Int32.reduceToInt] at *) <;> (first | omega | ((simp only [jadd, jsub, jmul, jneg, Int32.reduceToInt] at *) <;> omega))))))))))
set_option maxRecDepth 4000 in
theorem w_X12_eat_L2 {b0 : SS}  {Q : SS → Prop} (hr : ∀ s, Lk b0 s → Q s) : ∀ (n : Nat) (s : SS) (x1 : Int32), Lk b0 s → (0 ≤ x1.toInt ∧ x1.toInt ≤ 120) → 120 - x1.toInt < (n : Int) → Ok (f_X12_eat_L2  n s x1) Q := by
  intro n
  induction n with
  | zero =>
    intro s x1 K i0 hm
    exfalso
    (first | with_reducible assumption | omega | ((try clear ih); (try clear hr); (try clear hq0); (try clear hq1); (try clear hrec); ((try simp only [inB, Rg, cellOK, bF, bA, jlt, jeq, Int32.reduceToInt, jn1, zS_pS, zS_pI, zI_pI, zI_pS, zN_pS, zN_pI, Nat.reduceEqDiff, Nat.reduceAdd, Nat.reduceMul, ite_true, ite_false, and_true, true_and, and_false, false_and, true_or, or_true, false_or, or_false, not_true_eq_false, not_false_eq_true, reduceIte, reduceCtorEq, eq_self] at *) <;> (first | omega | ((try simp (disch := first | omega | (simp (disch := first | omega | (simp (disch := first | omega | (simp only [Int32.reduceToInt]; omega)) only [i32_add, i32_sub, i32_mul, Int32.reduceToInt]; omega)) only [i32_add, i32_sub, i32_mul, Int32.reduceToInt]; omega)) only [i32_add, i32_sub, i32_mul, Int32.reduceToInt] at *) <;> (first | omega | ((try simp (disch := first | omega | (simp (disch := first | omega | (simp (disch := first | omega | (simp only [Int32.reduceToInt]; omega)) only [i32_add, i32_sub, i32_mul, Int32.reduceToInt]; omega)) only [i32_add, i32_sub, i32_mul, Int32.reduceToInt]; omega)) only [i32_add, i32_sub, i32_mul, Int32.reduceToInt] at *) <;> (first | omega | ((simp only [jadd, jsub, jmul, jneg, Int32.reduceToInt] at *) <;> omega)))))))))
  | succ n ih =>
    intro s x1 K i0 hm
    show Ok (f_X12_eat_L2_b  (f_X12_eat_L2  n) s x1) Q
    unfold f_X12_eat_L2_b
    have f0 := kf_59_4 K
    repeat' (first
      | with_reducible assumption
      | (with_reducible show Ok _ _; first | dsimp only | with_reducible refine Ok_some ?_ | with_reducible refine Lk_G120 (by assumption) ?_ (fun _ _ _ _ _ => ?_) | with_reducible refine Ok_gd ?_ (fun _ => ?_) | with_reducible refine Ok_vl ?_ | with_reducible refine Ok_st ?_ | with_reducible refine Ok_jn ?_ | with_reducible refine Ok_b1 ?_ | with_reducible refine Ok_bd ?_ | with_reducible refine Ok_ift (by decide) ?_ | with_reducible refine Ok_iff (by decide) ?_ | with_reducible refine Ok_if (fun _ => ?_) (fun _ => ?_) | with_reducible refine ih _ _  ?_ ?_ ?_ | with_reducible refine Ok.mono (w_X12_saysNow (b0 := b0) ?_ ?_) (fun _ ⟨_, _⟩ => ?_) | with_reducible refine Ok.mono (w_X12_held ?_) (fun _ _ => ?_))
      | dsimp only
      | (with_reducible show Lk _ _; first | with_reducible refine Lk.wI ?_ (by decide) (by decide) ?_ | with_reducible refine Lk.wF ?_ (by decide) (by decide) (by decide) ?_)
      | with_reducible refine hr _ ?_
      | with_reducible refine And.intro ?_ ?_)
    all_goals (try (first | with_reducible assumption | exact trivial | omega | ((try clear ih); (try clear hr); (try clear hq0); (try clear hq1); (try clear hrec); ((try simp only [inB, Rg, cellOK, bF, bA, jlt, jeq, Int32.reduceToInt, jn1, zS_pS, zS_pI, zI_pI, zI_pS, zN_pS, zN_pI, Nat.reduceEqDiff, Nat.reduceAdd, Nat.reduceMul, ite_true, ite_false, and_true, true_and, and_false, false_and, true_or, or_true, false_or, or_false, not_true_eq_false, not_false_eq_true, reduceIte, reduceCtorEq, eq_self] at *) <;> (first | omega | ((try simp (disch := first | omega | (simp (disch := first | omega | (simp (disch := first | omega | (simp only [Int32.reduceToInt]; omega)) only [i32_add, i32_sub, i32_mul, Int32.reduceToInt]; omega)) only [i32_add, i32_sub, i32_mul, Int32.reduceToInt]; omega)) only [i32_add, i32_sub, i32_mul, Int32.reduceToInt] at *) <;> (first | omega | ((try simp (disch := first | omega | (simp (disch := first | omega | (simp (disch := first | omega | (simp only [Int32.reduceToInt]; omega)) only [i32_add, i32_sub, i32_mul, Int32.reduceToInt]; omega)) only [i32_add, i32_sub, i32_mul, Int32.reduceToInt]; omega)) only [i32_add, i32_sub, i32_mul, Int32.reduceToInt] at *) <;> (first | omega | ((simp only [jadd, jsub, jmul, jneg, Int32.reduceToInt] at *) <;> omega))))))))))
set_option maxRecDepth 4000 in
theorem w_X12_eat {b0 : SS} {s0 : SS} (K : Lk b0 s0) : Ok (f_X12_eat s0) (fun r => Lk b0 r) := by
  unfold f_X12_eat
  repeat' (first
    | with_reducible assumption
    | dsimp only
    | with_reducible refine w_X12_eat_L2 (b0 := b0) (fun _ _ => ?_) _ _ _  ?_ ?_ ?_
    | with_reducible refine And.intro ?_ ?_)
  all_goals (try (first | with_reducible assumption | exact trivial | omega | ((try clear ih); (try clear hr); (try clear hq0); (try clear hq1); (try clear hrec); ((try simp only [inB, jlt, jeq, Int32.reduceToInt, Nat.reduceEqDiff, Nat.reduceAdd, Nat.reduceMul, ite_true, ite_false, and_true, true_and, and_false, false_and, true_or, or_true, false_or, or_false, not_true_eq_false, not_false_eq_true, reduceIte, reduceCtorEq, eq_self] at *) <;> (first | omega | ((try simp (disch := first | omega | (simp (disch := first | omega | (simp (disch := first | omega | (simp only [Int32.reduceToInt]; omega)) only [i32_sub, Int32.reduceToInt]; omega)) only [i32_sub, Int32.reduceToInt]; omega)) only [i32_sub, Int32.reduceToInt] at *) <;> (first | omega | ((try simp (disch := first | omega | (simp (disch := first | omega | (simp (disch := first | omega | (simp only [Int32.reduceToInt]; omega)) only [i32_sub, Int32.reduceToInt]; omega)) only [i32_sub, Int32.reduceToInt]; omega)) only [i32_sub, Int32.reduceToInt] at *) <;> (first | omega | ((simp only [jadd, jsub, jmul, jneg, Int32.reduceToInt] at *) <;> omega))))))))))
set_option maxRecDepth 4000 in
theorem w_X12_comeDown_L4 {b0 : SS} {q0 : SS → Int32 → Option SS} {Q : SS → Prop} (hq0 : ∀ (s : SS) (z0 : Int32), Lk b0 s → (0 ≤ z0.toInt ∧ z0.toInt ≤ 40) → Ok (q0 s z0) Q) : ∀ (n : Nat) (s : SS) (x1 : Int32) (x2 : Int32), Lk b0 s → (0 ≤ x1.toInt ∧ x1.toInt ≤ x2.toInt) → (0 ≤ x2.toInt ∧ x2.toInt ≤ 40) → 40 - x2.toInt < (n : Int) → Ok (f_X12_comeDown_L4 q0 n s x1 x2) Q := by
  intro n
  induction n with
  | zero =>
    intro s x1 x2 K i0 i1 hm
    exfalso
    (first | with_reducible assumption | omega | ((try clear ih); (try clear hr); (try clear hq0); (try clear hq1); (try clear hrec); ((try simp only [inB, Rg, cellOK, bF, bA, jlt, jeq, jd10, jm10, Int32.reduceToInt, zS_pS, zS_pI, zI_pI, zI_pS, zN_pS, zN_pI, Nat.reduceEqDiff, Nat.reduceAdd, Nat.reduceMul, ite_true, ite_false, and_true, true_and, and_false, false_and, true_or, or_true, false_or, or_false, not_true_eq_false, not_false_eq_true, reduceIte, reduceCtorEq, eq_self] at *) <;> (first | omega | ((try simp (disch := first | omega | (simp (disch := first | omega | (simp (disch := first | omega | (simp only [jd10, jm10, Int32.reduceToInt]; omega)) only [i32_add, i32_sub, jd10, jm10, Int32.reduceToInt]; omega)) only [i32_add, i32_sub, jd10, jm10, Int32.reduceToInt]; omega)) only [i32_add, i32_sub, jd10, jm10, Int32.reduceToInt] at *) <;> (first | omega | ((try simp (disch := first | omega | (simp (disch := first | omega | (simp (disch := first | omega | (simp only [jd10, jm10, Int32.reduceToInt]; omega)) only [i32_add, i32_sub, jd10, jm10, Int32.reduceToInt]; omega)) only [i32_add, i32_sub, jd10, jm10, Int32.reduceToInt]; omega)) only [i32_add, i32_sub, jd10, jm10, Int32.reduceToInt] at *) <;> (first | omega | ((simp only [jadd, jsub, jmul, jneg, Int32.reduceToInt] at *) <;> omega)))))))))
  | succ n ih =>
    intro s x1 x2 K i0 i1 hm
    show Ok (f_X12_comeDown_L4_b q0 (f_X12_comeDown_L4 q0 n) s x1 x2) Q
    unfold f_X12_comeDown_L4_b
    have f0 := kf_59_62 K
    repeat' (first
      | with_reducible assumption
      | (with_reducible show Ok _ _; first | dsimp only | with_reducible refine Lk_G40 (by assumption) ?_ (fun _ _ => ?_) | with_reducible refine Ok_gd ?_ (fun _ => ?_) | with_reducible refine Ok_vl ?_ | with_reducible refine Ok_st ?_ | with_reducible refine Ok_jn ?_ | with_reducible refine Ok_ift (by decide) ?_ | with_reducible refine Ok_iff (by decide) ?_ | with_reducible refine Ok_if (fun _ => ?_) (fun _ => ?_) | with_reducible refine ih _ _ _  ?_ ?_ ?_ ?_ | with_reducible refine hq0 _ _  ?_ ?_)
      | dsimp only
      | (with_reducible show Lk _ _; first | with_reducible refine Lk.wI ?_ (by decide) (by decide) ?_ | with_reducible refine Lk.wF ?_ (by decide) (by decide) (by decide) ?_)
      | with_reducible refine And.intro ?_ ?_)
    all_goals (try (first | with_reducible assumption | exact trivial | omega | ((try clear ih); (try clear hr); (try clear hq0); (try clear hq1); (try clear hrec); ((try simp only [inB, Rg, cellOK, bF, bA, jlt, jeq, jd10, jm10, Int32.reduceToInt, zS_pS, zS_pI, zI_pI, zI_pS, zN_pS, zN_pI, Nat.reduceEqDiff, Nat.reduceAdd, Nat.reduceMul, ite_true, ite_false, and_true, true_and, and_false, false_and, true_or, or_true, false_or, or_false, not_true_eq_false, not_false_eq_true, reduceIte, reduceCtorEq, eq_self] at *) <;> (first | omega | ((try simp (disch := first | omega | (simp (disch := first | omega | (simp (disch := first | omega | (simp only [jd10, jm10, Int32.reduceToInt]; omega)) only [i32_add, i32_sub, jd10, jm10, Int32.reduceToInt]; omega)) only [i32_add, i32_sub, jd10, jm10, Int32.reduceToInt]; omega)) only [i32_add, i32_sub, jd10, jm10, Int32.reduceToInt] at *) <;> (first | omega | ((try simp (disch := first | omega | (simp (disch := first | omega | (simp (disch := first | omega | (simp only [jd10, jm10, Int32.reduceToInt]; omega)) only [i32_add, i32_sub, jd10, jm10, Int32.reduceToInt]; omega)) only [i32_add, i32_sub, jd10, jm10, Int32.reduceToInt]; omega)) only [i32_add, i32_sub, jd10, jm10, Int32.reduceToInt] at *) <;> (first | omega | ((simp only [jadd, jsub, jmul, jneg, Int32.reduceToInt] at *) <;> omega))))))))))
set_option maxRecDepth 4000 in
theorem w_X12_comeDown {b0 : SS} {s0 : SS} (K : Lk b0 s0) : Ok (f_X12_comeDown s0) (fun r => Lk b0 r) := by
  unfold f_X12_comeDown
  repeat' (first
    | with_reducible assumption
    | (with_reducible show Ok _ _; first | dsimp only | with_reducible refine Ok_some ?_ | with_reducible refine Ok_st ?_)
    | dsimp only
    | (with_reducible show Lk _ _; first | with_reducible refine Lk.wF ?_ (by decide) (by decide) (by decide) ?_)
    | with_reducible refine w_X12_comeDown_L4 (b0 := b0) (fun _ _ _ _ => ?_) _ _ _ _  ?_ ?_ ?_ ?_
    | with_reducible refine And.intro ?_ ?_)
  all_goals (try (first | with_reducible assumption | exact trivial | omega | ((try clear ih); (try clear hr); (try clear hq0); (try clear hq1); (try clear hrec); ((try simp only [inB, Rg, bF, jlt, jeq, Int32.reduceToInt, zS_pS, zI_pS, zN_pS, Nat.reduceEqDiff, Nat.reduceAdd, Nat.reduceMul, ite_true, ite_false, and_true, true_and, and_false, false_and, true_or, or_true, false_or, or_false, not_true_eq_false, not_false_eq_true, reduceIte, reduceCtorEq, eq_self] at *) <;> (first | omega | ((try simp (disch := first | omega | (simp (disch := first | omega | (simp (disch := first | omega | (simp only [Int32.reduceToInt]; omega)) only [i32_sub, Int32.reduceToInt]; omega)) only [i32_sub, Int32.reduceToInt]; omega)) only [i32_sub, Int32.reduceToInt] at *) <;> (first | omega | ((try simp (disch := first | omega | (simp (disch := first | omega | (simp (disch := first | omega | (simp only [Int32.reduceToInt]; omega)) only [i32_sub, Int32.reduceToInt]; omega)) only [i32_sub, Int32.reduceToInt]; omega)) only [i32_sub, Int32.reduceToInt] at *) <;> (first | omega | ((simp only [jadd, jsub, jmul, jneg, Int32.reduceToInt] at *) <;> omega))))))))))
set_option maxRecDepth 4000 in
theorem w_X12_lastsBy_L2 {b0 : SS} {q0 : SS → Option (Int32 × SS)} {y1 : Int32} {y2 : Int32} {Q : Int32 × SS → Prop} (hq0 : ∀ (s : SS), Lk b0 s → Ok (q0 s) Q) : ∀ (n : Nat) (s : SS) (x3 : Int32), Lk b0 s → (0 ≤ x3.toInt ∧ x3.toInt ≤ 120) → 120 - x3.toInt < (n : Int) → Ok (f_X12_lastsBy_L2 q0 y1 y2 n s x3) Q := by
  intro n
  induction n with
  | zero =>
    intro s x3 K i0 hm
    exfalso
    (first | with_reducible assumption | omega | ((try clear ih); (try clear hr); (try clear hq0); (try clear hq1); (try clear hrec); ((try simp only [inB, Rg, cellOK, bA, jlt, jeq, Int32.reduceToInt, zS_pI, zI_pI, zN_pI, Nat.reduceEqDiff, Nat.reduceAdd, Nat.reduceMul, ite_true, ite_false, and_true, true_and, and_false, false_and, true_or, or_true, false_or, or_false, not_true_eq_false, not_false_eq_true, reduceIte, reduceCtorEq, eq_self] at *) <;> (first | omega | ((try simp (disch := first | omega | (simp (disch := first | omega | (simp (disch := first | omega | (simp only [Int32.reduceToInt]; omega)) only [i32_add, i32_sub, Int32.reduceToInt]; omega)) only [i32_add, i32_sub, Int32.reduceToInt]; omega)) only [i32_add, i32_sub, Int32.reduceToInt] at *) <;> (first | omega | ((try simp (disch := first | omega | (simp (disch := first | omega | (simp (disch := first | omega | (simp only [Int32.reduceToInt]; omega)) only [i32_add, i32_sub, Int32.reduceToInt]; omega)) only [i32_add, i32_sub, Int32.reduceToInt]; omega)) only [i32_add, i32_sub, Int32.reduceToInt] at *) <;> (first | omega | ((simp only [jadd, jsub, jmul, jneg, Int32.reduceToInt] at *) <;> omega)))))))))
  | succ n ih =>
    intro s x3 K i0 hm
    show Ok (f_X12_lastsBy_L2_b q0 y1 y2 (f_X12_lastsBy_L2 q0 y1 y2 n) s x3) Q
    unfold f_X12_lastsBy_L2_b
    have f0 := kf_59_4 K
    repeat' (first
      | with_reducible assumption
      | (with_reducible show Ok _ _; first | dsimp only | with_reducible refine Lk_G120 (by assumption) ?_ (fun _ _ _ _ _ => ?_) | with_reducible refine Ok_gd ?_ (fun _ => ?_) | with_reducible refine Ok_vl ?_ | with_reducible refine Ok_st ?_ | with_reducible refine Ok_ift (by decide) ?_ | with_reducible refine Ok_iff (by decide) ?_ | with_reducible refine Ok_if (fun _ => ?_) (fun _ => ?_) | with_reducible refine ih _ _  ?_ ?_ ?_ | with_reducible refine hq0 _  ?_)
      | dsimp only
      | (with_reducible show Lk _ _; first | with_reducible refine Lk.wI ?_ (by decide) (by decide) ?_)
      | with_reducible refine And.intro ?_ ?_)
    all_goals (try (first | with_reducible assumption | exact trivial | omega | ((try clear ih); (try clear hr); (try clear hq0); (try clear hq1); (try clear hrec); ((try simp only [inB, Rg, cellOK, bA, jlt, jeq, Int32.reduceToInt, zS_pI, zI_pI, zN_pI, Nat.reduceEqDiff, Nat.reduceAdd, Nat.reduceMul, ite_true, ite_false, and_true, true_and, and_false, false_and, true_or, or_true, false_or, or_false, not_true_eq_false, not_false_eq_true, reduceIte, reduceCtorEq, eq_self] at *) <;> (first | omega | ((try simp (disch := first | omega | (simp (disch := first | omega | (simp (disch := first | omega | (simp only [Int32.reduceToInt]; omega)) only [i32_add, i32_sub, Int32.reduceToInt]; omega)) only [i32_add, i32_sub, Int32.reduceToInt]; omega)) only [i32_add, i32_sub, Int32.reduceToInt] at *) <;> (first | omega | ((try simp (disch := first | omega | (simp (disch := first | omega | (simp (disch := first | omega | (simp only [Int32.reduceToInt]; omega)) only [i32_add, i32_sub, Int32.reduceToInt]; omega)) only [i32_add, i32_sub, Int32.reduceToInt]; omega)) only [i32_add, i32_sub, Int32.reduceToInt] at *) <;> (first | omega | ((simp only [jadd, jsub, jmul, jneg, Int32.reduceToInt] at *) <;> omega))))))))))
set_option maxRecDepth 4000 in
theorem w_X12_lastsBy_L49 {b0 : SS} {q0 : SS → Int32 → Int32 → Option (Int32 × SS)} {y1 : Int32} {y2 : Int32} {y4 : Int32} {Q : Int32 × SS → Prop} (hq0 : ∀ (s : SS) (z0 : Int32) (z1 : Int32), Lk b0 s → Ok (q0 s z0 z1) Q) : ∀ (n : Nat) (s : SS) (x3 : Int32) (x5 : Int32) (x6 : Int32), Lk b0 s → (0 ≤ x6.toInt ∧ x6.toInt ≤ 120) → 120 - x6.toInt < (n : Int) → Ok (f_X12_lastsBy_L49 q0 y1 y2 y4 n s x3 x5 x6) Q := by
  intro n
  induction n with
  | zero =>
    intro s x3 x5 x6 K i0 hm
    exfalso
    (first | with_reducible assumption | omega | ((try clear ih); (try clear hr); (try clear hq0); (try clear hq1); (try clear hrec); ((try simp only [inB, Rg, cellOK, bA, jlt, jeq, Int32.reduceToInt, zS_pI, zI_pI, zN_pI, Nat.reduceEqDiff, Nat.reduceAdd, Nat.reduceMul, ite_true, ite_false, and_true, true_and, and_false, false_and, true_or, or_true, false_or, or_false, not_true_eq_false, not_false_eq_true, reduceIte, reduceCtorEq, eq_self] at *) <;> (first | omega | ((try simp (disch := first | omega | (simp (disch := first | omega | (simp (disch := first | omega | (simp only [Int32.reduceToInt]; omega)) only [i32_add, i32_sub, i32_mul, Int32.reduceToInt]; omega)) only [i32_add, i32_sub, i32_mul, Int32.reduceToInt]; omega)) only [i32_add, i32_sub, i32_mul, Int32.reduceToInt] at *) <;> (first | omega | ((try simp (disch := first | omega | (simp (disch := first | omega | (simp (disch := first | omega | (simp only [Int32.reduceToInt]; omega)) only [i32_add, i32_sub, i32_mul, Int32.reduceToInt]; omega)) only [i32_add, i32_sub, i32_mul, Int32.reduceToInt]; omega)) only [i32_add, i32_sub, i32_mul, Int32.reduceToInt] at *) <;> (first | omega | ((simp only [jadd, jsub, jmul, jneg, Int32.reduceToInt] at *) <;> omega)))))))))
  | succ n ih =>
    intro s x3 x5 x6 K i0 hm
    show Ok (f_X12_lastsBy_L49_b q0 y1 y2 y4 (f_X12_lastsBy_L49 q0 y1 y2 y4 n) s x3 x5 x6) Q
    unfold f_X12_lastsBy_L49_b
    have f0 := kf_59_4 K
    repeat' (first
      | with_reducible assumption
      | (with_reducible show Ok _ _; first | dsimp only | with_reducible refine Lk_G120 (by assumption) ?_ (fun _ _ _ _ _ => ?_) | with_reducible refine Ok_gd ?_ (fun _ => ?_) | with_reducible refine Ok_vl ?_ | with_reducible refine Ok_st ?_ | with_reducible refine Ok_jn ?_ | with_reducible refine Ok_b1 ?_ | with_reducible refine Ok_ift (by decide) ?_ | with_reducible refine Ok_iff (by decide) ?_ | with_reducible refine Ok_if (fun _ => ?_) (fun _ => ?_) | with_reducible refine ih _ _ _ _  ?_ ?_ ?_ | with_reducible refine hq0 _ _ _  ?_ | with_reducible refine Ok.mono (w_X12_held ?_) (fun _ _ => ?_))
      | dsimp only
      | (with_reducible show Lk _ _; first | with_reducible refine Lk.wI ?_ (by decide) (by decide) ?_)
      | with_reducible refine And.intro ?_ ?_)
    all_goals (try (first | with_reducible assumption | exact trivial | omega | ((try clear ih); (try clear hr); (try clear hq0); (try clear hq1); (try clear hrec); ((try simp only [inB, Rg, cellOK, bA, jlt, jeq, Int32.reduceToInt, zS_pI, zI_pI, zN_pI, Nat.reduceEqDiff, Nat.reduceAdd, Nat.reduceMul, ite_true, ite_false, and_true, true_and, and_false, false_and, true_or, or_true, false_or, or_false, not_true_eq_false, not_false_eq_true, reduceIte, reduceCtorEq, eq_self] at *) <;> (first | omega | ((try simp (disch := first | omega | (simp (disch := first | omega | (simp (disch := first | omega | (simp only [Int32.reduceToInt]; omega)) only [i32_add, i32_sub, i32_mul, Int32.reduceToInt]; omega)) only [i32_add, i32_sub, i32_mul, Int32.reduceToInt]; omega)) only [i32_add, i32_sub, i32_mul, Int32.reduceToInt] at *) <;> (first | omega | ((try simp (disch := first | omega | (simp (disch := first | omega | (simp (disch := first | omega | (simp only [Int32.reduceToInt]; omega)) only [i32_add, i32_sub, i32_mul, Int32.reduceToInt]; omega)) only [i32_add, i32_sub, i32_mul, Int32.reduceToInt]; omega)) only [i32_add, i32_sub, i32_mul, Int32.reduceToInt] at *) <;> (first | omega | ((simp only [jadd, jsub, jmul, jneg, Int32.reduceToInt] at *) <;> omega))))))))))
set_option maxRecDepth 4000 in
theorem w_X12_lastsBy_L36 {b0 : SS} {y1 : Int32} {y2 : Int32} {Q : Int32 × SS → Prop} (hr : ∀ v s, Lk b0 s → Q (v, s)) : ∀ (n : Nat) (s : SS) (x3 : Int32) (x4 : Int32), Lk b0 s → (1 ≤ x4.toInt ∧ x4.toInt ≤ 61) → 61 - x4.toInt < (n : Int) → Ok (f_X12_lastsBy_L36 y1 y2 n s x3 x4) Q := by
  intro n
  induction n with
  | zero =>
    intro s x3 x4 K i0 hm
    exfalso
    (first | with_reducible assumption | omega | ((try clear ih); (try clear hr); (try clear hq0); (try clear hq1); (try clear hrec); ((try simp only [inB, jlt, jeq, Int32.reduceToInt, Nat.reduceEqDiff, Nat.reduceAdd, Nat.reduceMul, ite_true, ite_false, and_true, true_and, and_false, false_and, true_or, or_true, false_or, or_false, not_true_eq_false, not_false_eq_true, reduceIte, reduceCtorEq, eq_self] at *) <;> (first | omega | ((try simp (disch := first | omega | (simp (disch := first | omega | (simp (disch := first | omega | (simp only [Int32.reduceToInt]; omega)) only [i32_add, i32_sub, Int32.reduceToInt]; omega)) only [i32_add, i32_sub, Int32.reduceToInt]; omega)) only [i32_add, i32_sub, Int32.reduceToInt] at *) <;> (first | omega | ((try simp (disch := first | omega | (simp (disch := first | omega | (simp (disch := first | omega | (simp only [Int32.reduceToInt]; omega)) only [i32_add, i32_sub, Int32.reduceToInt]; omega)) only [i32_add, i32_sub, Int32.reduceToInt]; omega)) only [i32_add, i32_sub, Int32.reduceToInt] at *) <;> (first | omega | ((simp only [jadd, jsub, jmul, jneg, Int32.reduceToInt] at *) <;> omega)))))))))
  | succ n ih =>
    intro s x3 x4 K i0 hm
    show Ok (f_X12_lastsBy_L36_b y1 y2 (f_X12_lastsBy_L36 y1 y2 n) s x3 x4) Q
    unfold f_X12_lastsBy_L36_b
    repeat' (first
      | with_reducible assumption
      | (with_reducible show Ok _ _; first | dsimp only | with_reducible refine Ok_some ?_ | with_reducible refine Ok_vl ?_ | with_reducible refine Ok_ift (by decide) ?_ | with_reducible refine Ok_iff (by decide) ?_ | with_reducible refine Ok_if (fun _ => ?_) (fun _ => ?_) | with_reducible refine ih _ _ _  ?_ ?_ ?_)
      | dsimp only
      | with_reducible refine hr _ _ ?_
      | with_reducible refine w_X12_lastsBy_L49 (b0 := b0) (fun _ _ _ _ => ?_) _ _ _ _ _  ?_ ?_ ?_
      | with_reducible refine And.intro ?_ ?_)
    all_goals (try (first | with_reducible assumption | exact trivial | omega | ((try clear ih); (try clear hr); (try clear hq0); (try clear hq1); (try clear hrec); ((try simp only [inB, jlt, jeq, Int32.reduceToInt, Nat.reduceEqDiff, Nat.reduceAdd, Nat.reduceMul, ite_true, ite_false, and_true, true_and, and_false, false_and, true_or, or_true, false_or, or_false, not_true_eq_false, not_false_eq_true, reduceIte, reduceCtorEq, eq_self] at *) <;> (first | omega | ((try simp (disch := first | omega | (simp (disch := first | omega | (simp (disch := first | omega | (simp only [Int32.reduceToInt]; omega)) only [i32_add, i32_sub, Int32.reduceToInt]; omega)) only [i32_add, i32_sub, Int32.reduceToInt]; omega)) only [i32_add, i32_sub, Int32.reduceToInt] at *) <;> (first | omega | ((try simp (disch := first | omega | (simp (disch := first | omega | (simp (disch := first | omega | (simp only [Int32.reduceToInt]; omega)) only [i32_add, i32_sub, Int32.reduceToInt]; omega)) only [i32_add, i32_sub, Int32.reduceToInt]; omega)) only [i32_add, i32_sub, Int32.reduceToInt] at *) <;> (first | omega | ((simp only [jadd, jsub, jmul, jneg, Int32.reduceToInt] at *) <;> omega))))))))))
set_option maxRecDepth 4000 in
theorem w_X12_lastsBy {b0 : SS} {s0 : SS} {a0 : Int32} {a1 : Int32} (K : Lk b0 s0) : Ok (f_X12_lastsBy s0 a0 a1) (fun r => Lk b0 r.2) := by
  unfold f_X12_lastsBy
  repeat' (first
    | with_reducible assumption
    | (with_reducible show Ok _ _; first | dsimp only | with_reducible refine Ok_vl ?_)
    | dsimp only
    | with_reducible refine w_X12_lastsBy_L2 (b0 := b0) (fun _ _ => ?_) _ _ _  ?_ ?_ ?_
    | with_reducible refine w_X12_lastsBy_L36 (b0 := b0) (fun _ _ _ => ?_) _ _ _ _  ?_ ?_ ?_
    | with_reducible refine And.intro ?_ ?_)
  all_goals (try (first | with_reducible assumption | exact trivial | omega | ((try clear ih); (try clear hr); (try clear hq0); (try clear hq1); (try clear hrec); ((try simp only [inB, jlt, jeq, Int32.reduceToInt, Nat.reduceEqDiff, Nat.reduceAdd, Nat.reduceMul, ite_true, ite_false, and_true, true_and, and_false, false_and, true_or, or_true, false_or, or_false, not_true_eq_false, not_false_eq_true, reduceIte, reduceCtorEq, eq_self] at *) <;> (first | omega | ((try simp (disch := first | omega | (simp (disch := first | omega | (simp (disch := first | omega | (simp only [Int32.reduceToInt]; omega)) only [i32_sub, Int32.reduceToInt]; omega)) only [i32_sub, Int32.reduceToInt]; omega)) only [i32_sub, Int32.reduceToInt] at *) <;> (first | omega | ((try simp (disch := first | omega | (simp (disch := first | omega | (simp (disch := first | omega | (simp only [Int32.reduceToInt]; omega)) only [i32_sub, Int32.reduceToInt]; omega)) only [i32_sub, Int32.reduceToInt]; omega)) only [i32_sub, Int32.reduceToInt] at *) <;> (first | omega | ((simp only [jadd, jsub, jmul, jneg, Int32.reduceToInt] at *) <;> omega))))))))))
set_option maxRecDepth 4000 in
theorem w_X12_last {b0 : SS} {s0 : SS} {a0 : Int32} {a1 : Int32} (K : Lk b0 s0) : Ok (f_X12_last s0 a0 a1) (fun r => Lk b0 r.2) := by
  unfold f_X12_last
  repeat' (first
    | with_reducible assumption
    | (with_reducible show Ok _ _; first | dsimp only | with_reducible refine Ok_some ?_ | with_reducible refine Ok_b1 ?_ | with_reducible refine Ok_bd ?_ | with_reducible refine Ok_ift (by decide) ?_ | with_reducible refine Ok_iff (by decide) ?_ | with_reducible refine Ok_if (fun _ => ?_) (fun _ => ?_) | with_reducible refine Ok.mono (w_X12_in ) (fun _ _ => ?_) | with_reducible refine Ok.mono (w_X12_menBelow (b0 := b0) ?_) (fun _ _ => ?_) | with_reducible refine Ok.mono (w_X12_lastsBy (b0 := b0) ?_) (fun _ _ => ?_))
    | dsimp only
    | with_reducible refine And.intro ?_ ?_)
  all_goals (try (first | with_reducible assumption | exact trivial | omega | ((try clear ih); (try clear hr); (try clear hq0); (try clear hq1); (try clear hrec); ((try simp only [inB, jlt, jeq, Int32.reduceToInt, jn1, jn2, Nat.reduceEqDiff, Nat.reduceAdd, Nat.reduceMul, ite_true, ite_false, and_true, true_and, and_false, false_and, true_or, or_true, false_or, or_false, not_true_eq_false, not_false_eq_true, reduceIte, reduceCtorEq, eq_self] at *) <;> (first | omega | ((try simp (disch := first | omega | (simp (disch := first | omega | (simp (disch := first | omega | (simp only [Int32.reduceToInt]; omega)) only [Int32.reduceToInt]; omega)) only [Int32.reduceToInt]; omega)) only [Int32.reduceToInt] at *) <;> (first | omega | ((try simp (disch := first | omega | (simp (disch := first | omega | (simp (disch := first | omega | (simp only [Int32.reduceToInt]; omega)) only [Int32.reduceToInt]; omega)) only [Int32.reduceToInt]; omega)) only [Int32.reduceToInt] at *) <;> (first | omega | ((simp only [jadd, jsub, jmul, jneg, Int32.reduceToInt] at *) <;> omega))))))))))
set_option maxRecDepth 4000 in
theorem w_X12_best_L27 {b0 : SS} {y1 : Int32} {Q : Int32 × SS → Prop} (hr : ∀ v s, Lk b0 s → Q (v, s)) : ∀ (n : Nat) (s : SS) (x2 : Int32) (x3 : Int32), Lk b0 s → (1 ≤ x3.toInt ∧ x3.toInt ≤ 10) → 10 - x3.toInt < (n : Int) → Ok (f_X12_best_L27 y1 n s x2 x3) Q := by
  intro n
  induction n with
  | zero =>
    intro s x2 x3 K i0 hm
    exfalso
    (first | with_reducible assumption | omega | ((try clear ih); (try clear hr); (try clear hq0); (try clear hq1); (try clear hrec); ((try simp only [inB, jlt, jeq, Int32.reduceToInt, Nat.reduceEqDiff, Nat.reduceAdd, Nat.reduceMul, ite_true, ite_false, and_true, true_and, and_false, false_and, true_or, or_true, false_or, or_false, not_true_eq_false, not_false_eq_true, reduceIte, reduceCtorEq, eq_self] at *) <;> (first | omega | ((try simp (disch := first | omega | (simp (disch := first | omega | (simp (disch := first | omega | (simp only [Int32.reduceToInt]; omega)) only [i32_add, i32_sub, Int32.reduceToInt]; omega)) only [i32_add, i32_sub, Int32.reduceToInt]; omega)) only [i32_add, i32_sub, Int32.reduceToInt] at *) <;> (first | omega | ((try simp (disch := first | omega | (simp (disch := first | omega | (simp (disch := first | omega | (simp only [Int32.reduceToInt]; omega)) only [i32_add, i32_sub, Int32.reduceToInt]; omega)) only [i32_add, i32_sub, Int32.reduceToInt]; omega)) only [i32_add, i32_sub, Int32.reduceToInt] at *) <;> (first | omega | ((simp only [jadd, jsub, jmul, jneg, Int32.reduceToInt] at *) <;> omega)))))))))
  | succ n ih =>
    intro s x2 x3 K i0 hm
    show Ok (f_X12_best_L27_b y1 (f_X12_best_L27 y1 n) s x2 x3) Q
    unfold f_X12_best_L27_b
    repeat' (first
      | with_reducible assumption
      | (with_reducible show Ok _ _; first | dsimp only | with_reducible refine Ok_some ?_ | with_reducible refine Ok_vl ?_ | with_reducible refine Ok_jn ?_ | with_reducible refine Ok_bd ?_ | with_reducible refine Ok_ift (by decide) ?_ | with_reducible refine Ok_iff (by decide) ?_ | with_reducible refine Ok_if (fun _ => ?_) (fun _ => ?_) | with_reducible refine ih _ _ _  ?_ ?_ ?_ | with_reducible refine Ok.mono (w_X12_lastsBy (b0 := b0) ?_) (fun _ _ => ?_))
      | dsimp only
      | with_reducible refine hr _ _ ?_
      | with_reducible refine And.intro ?_ ?_)
    all_goals (try (first | with_reducible assumption | exact trivial | omega | ((try clear ih); (try clear hr); (try clear hq0); (try clear hq1); (try clear hrec); ((try simp only [inB, jlt, jeq, Int32.reduceToInt, Nat.reduceEqDiff, Nat.reduceAdd, Nat.reduceMul, ite_true, ite_false, and_true, true_and, and_false, false_and, true_or, or_true, false_or, or_false, not_true_eq_false, not_false_eq_true, reduceIte, reduceCtorEq, eq_self] at *) <;> (first | omega | ((try simp (disch := first | omega | (simp (disch := first | omega | (simp (disch := first | omega | (simp only [Int32.reduceToInt]; omega)) only [i32_add, i32_sub, Int32.reduceToInt]; omega)) only [i32_add, i32_sub, Int32.reduceToInt]; omega)) only [i32_add, i32_sub, Int32.reduceToInt] at *) <;> (first | omega | ((try simp (disch := first | omega | (simp (disch := first | omega | (simp (disch := first | omega | (simp only [Int32.reduceToInt]; omega)) only [i32_add, i32_sub, Int32.reduceToInt]; omega)) only [i32_add, i32_sub, Int32.reduceToInt]; omega)) only [i32_add, i32_sub, Int32.reduceToInt] at *) <;> (first | omega | ((simp only [jadd, jsub, jmul, jneg, Int32.reduceToInt] at *) <;> omega))))))))))
set_option maxRecDepth 4000 in
theorem w_X12_best {b0 : SS} {s0 : SS} {a0 : Int32} (K : Lk b0 s0) : Ok (f_X12_best s0 a0) (fun r => Lk b0 r.2) := by
  unfold f_X12_best
  repeat' (first
    | with_reducible assumption
    | (with_reducible show Ok _ _; first | dsimp only | with_reducible refine Ok_some ?_ | with_reducible refine Ok_b1 ?_ | with_reducible refine Ok_ift (by decide) ?_ | with_reducible refine Ok_iff (by decide) ?_ | with_reducible refine Ok_if (fun _ => ?_) (fun _ => ?_) | with_reducible refine Ok.mono (w_X12_in ) (fun _ _ => ?_) | with_reducible refine Ok.mono (w_X12_menBelow (b0 := b0) ?_) (fun _ _ => ?_))
    | dsimp only
    | with_reducible refine w_X12_best_L27 (b0 := b0) (fun _ _ _ => ?_) _ _ _ _  ?_ ?_ ?_
    | with_reducible refine And.intro ?_ ?_)
  all_goals (try (first | with_reducible assumption | exact trivial | omega | ((try clear ih); (try clear hr); (try clear hq0); (try clear hq1); (try clear hrec); ((try simp only [inB, jlt, jeq, Int32.reduceToInt, jn1, jn2, Nat.reduceEqDiff, Nat.reduceAdd, Nat.reduceMul, ite_true, ite_false, and_true, true_and, and_false, false_and, true_or, or_true, false_or, or_false, not_true_eq_false, not_false_eq_true, reduceIte, reduceCtorEq, eq_self] at *) <;> (first | omega | ((try simp (disch := first | omega | (simp (disch := first | omega | (simp (disch := first | omega | (simp only [Int32.reduceToInt]; omega)) only [i32_sub, Int32.reduceToInt]; omega)) only [i32_sub, Int32.reduceToInt]; omega)) only [i32_sub, Int32.reduceToInt] at *) <;> (first | omega | ((try simp (disch := first | omega | (simp (disch := first | omega | (simp (disch := first | omega | (simp only [Int32.reduceToInt]; omega)) only [i32_sub, Int32.reduceToInt]; omega)) only [i32_sub, Int32.reduceToInt]; omega)) only [i32_sub, Int32.reduceToInt] at *) <;> (first | omega | ((simp only [jadd, jsub, jmul, jneg, Int32.reduceToInt] at *) <;> omega))))))))))
set_option maxRecDepth 4000 in
theorem w_X12_down {b0 : SS} {s0 : SS} {a0 : Int32} {a1 : Int32} {a2 : Int32} (K : Lk b0 s0) : Ok (f_X12_down s0 a0 a1 a2) (fun r => Lk b0 r.2) := by
  unfold f_X12_down
  have f0 := kf_59_62 K
  have f1 := kf_59_4 K
  repeat' (first
    | with_reducible assumption
    | (with_reducible show Ok _ _; first | dsimp only | with_reducible refine Ok_some ?_ | with_reducible refine Lk_G120 (by assumption) ?_ (fun _ _ _ _ _ => ?_) | with_reducible refine Lk_G40 (by assumption) ?_ (fun _ _ => ?_) | with_reducible refine Ok_gd ?_ (fun _ => ?_) | with_reducible refine Ok_vl ?_ | with_reducible refine Ok_st ?_ | with_reducible refine Ok_jn ?_ | with_reducible refine Ok_b1 ?_ | with_reducible refine Ok_ift (by decide) ?_ | with_reducible refine Ok_iff (by decide) ?_ | with_reducible refine Ok_if (fun _ => ?_) (fun _ => ?_) | with_reducible refine Ok.mono (w_X12_in ) (fun _ _ => ?_) | unfold f_X12_isBody)
    | dsimp only
    | (with_reducible show Lk _ _; first | with_reducible refine Lk.wI ?_ (by decide) (by decide) ?_ | with_reducible refine Lk.wF ?_ (by decide) (by decide) (by decide) ?_)
    | with_reducible refine And.intro ?_ ?_)
  all_goals (try (first | with_reducible assumption | exact trivial | omega | ((try clear ih); (try clear hr); (try clear hq0); (try clear hq1); (try clear hrec); ((try simp only [inB, Rg, cellOK, bF, bA, jlt, jeq, jd10, jm10, Int32.reduceToInt, jn1, jn2, jn3, zS_pS, zS_pI, zI_pI, zI_pS, zN_pS, zN_pI, Nat.reduceEqDiff, Nat.reduceAdd, Nat.reduceMul, ite_true, ite_false, and_true, true_and, and_false, false_and, true_or, or_true, false_or, or_false, not_true_eq_false, not_false_eq_true, reduceIte, reduceCtorEq, eq_self] at *) <;> (first | omega | ((try simp (disch := first | omega | (simp (disch := first | omega | (simp (disch := first | omega | (simp only [jd10, jm10, Int32.reduceToInt]; omega)) only [i32_add, i32_sub, jd10, jm10, Int32.reduceToInt]; omega)) only [i32_add, i32_sub, jd10, jm10, Int32.reduceToInt]; omega)) only [i32_add, i32_sub, jd10, jm10, Int32.reduceToInt] at *) <;> (first | omega | ((try simp (disch := first | omega | (simp (disch := first | omega | (simp (disch := first | omega | (simp only [jd10, jm10, Int32.reduceToInt]; omega)) only [i32_add, i32_sub, jd10, jm10, Int32.reduceToInt]; omega)) only [i32_add, i32_sub, jd10, jm10, Int32.reduceToInt]; omega)) only [i32_add, i32_sub, jd10, jm10, Int32.reduceToInt] at *) <;> (first | omega | ((simp only [jadd, jsub, jmul, jneg, Int32.reduceToInt] at *) <;> omega))))))))))
set_option maxRecDepth 4000 in
theorem w_X12_below {b0 : SS} {s0 : SS} {a0 : Int32} (K : Lk b0 s0) : Ok (f_X12_below s0 a0) (fun _ => True) := by
  unfold f_X12_below
  repeat' (first
    | with_reducible assumption
    | (with_reducible show Ok _ _; first | dsimp only | with_reducible refine Ok_some ?_ | with_reducible refine Ok_gd ?_ (fun _ => ?_) | with_reducible refine Ok_b1 ?_ | with_reducible refine Ok_ift (by decide) ?_ | with_reducible refine Ok_iff (by decide) ?_ | with_reducible refine Ok_if (fun _ => ?_) (fun _ => ?_) | with_reducible refine Ok.mono (w_X12_in ) (fun _ _ => ?_))
    | dsimp only
    | with_reducible refine And.intro ?_ ?_)
  all_goals (try (first | with_reducible assumption | exact trivial | omega | ((try clear ih); (try clear hr); (try clear hq0); (try clear hq1); (try clear hrec); ((try simp only [inB, jlt, jeq, Int32.reduceToInt, jn1, Nat.reduceEqDiff, Nat.reduceAdd, Nat.reduceMul, ite_true, ite_false, and_true, true_and, and_false, false_and, true_or, or_true, false_or, or_false, not_true_eq_false, not_false_eq_true, reduceIte, reduceCtorEq, eq_self] at *) <;> (first | omega | ((try simp (disch := first | omega | (simp (disch := first | omega | (simp (disch := first | omega | (simp only [Int32.reduceToInt]; omega)) only [Int32.reduceToInt]; omega)) only [Int32.reduceToInt]; omega)) only [Int32.reduceToInt] at *) <;> (first | omega | ((try simp (disch := first | omega | (simp (disch := first | omega | (simp (disch := first | omega | (simp only [Int32.reduceToInt]; omega)) only [Int32.reduceToInt]; omega)) only [Int32.reduceToInt]; omega)) only [Int32.reduceToInt] at *) <;> (first | omega | ((simp only [jadd, jsub, jmul, jneg, Int32.reduceToInt] at *) <;> omega))))))))))
set_option maxRecDepth 4000 in
theorem w_X12_costNext_L5 {b0 : SS} {q0 : Int32 → Option Int32} {s0 : SS} {y1 : Int32} {y2 : Int32} {Q : Int32 → Prop} (K : Lk b0 s0) (hq0 : ∀ (z0 : Int32), (0 ≤ z0.toInt ∧ z0.toInt ≤ 90) → Ok (q0 z0) Q) : ∀ (n : Nat) (x3 : Int32) (x4 : Int32), (0 ≤ x4.toInt ∧ x4.toInt ≤ 10) → (0 ≤ x3.toInt ∧ x3.toInt ≤ 9 * x4.toInt) → 10 - x4.toInt < (n : Int) → Ok (f_X12_costNext_L5 q0 s0 y1 y2 n x3 x4) Q := by
  intro n
  induction n with
  | zero =>
    intro x3 x4 i0 i1 hm
    exfalso
    have e0 := ka_106 K x4.toInt.toNat
    (first | with_reducible assumption | omega | ((try clear ih); (try clear hr); (try clear hq0); (try clear hq1); (try clear hrec); ((try simp only [inB, jlt, jeq, Int32.reduceToInt, Nat.reduceEqDiff, Nat.reduceAdd, Nat.reduceMul, ite_true, ite_false, and_true, true_and, and_false, false_and, true_or, or_true, false_or, or_false, not_true_eq_false, not_false_eq_true, reduceIte, reduceCtorEq, eq_self] at *) <;> (first | omega | ((try simp (disch := first | omega | (simp (disch := first | omega | (simp (disch := first | omega | (simp only [Int32.reduceToInt]; omega)) only [i32_add, i32_sub, i32_mul, Int32.reduceToInt]; omega)) only [i32_add, i32_sub, i32_mul, Int32.reduceToInt]; omega)) only [i32_add, i32_sub, i32_mul, Int32.reduceToInt] at *) <;> (first | omega | ((try simp (disch := first | omega | (simp (disch := first | omega | (simp (disch := first | omega | (simp only [Int32.reduceToInt]; omega)) only [i32_add, i32_sub, i32_mul, Int32.reduceToInt]; omega)) only [i32_add, i32_sub, i32_mul, Int32.reduceToInt]; omega)) only [i32_add, i32_sub, i32_mul, Int32.reduceToInt] at *) <;> (first | omega | ((simp only [jadd, jsub, jmul, jneg, Int32.reduceToInt] at *) <;> omega)))))))))
  | succ n ih =>
    intro x3 x4 i0 i1 hm
    show Ok (f_X12_costNext_L5_b q0 s0 y1 y2 (f_X12_costNext_L5 q0 s0 y1 y2 n) x3 x4) Q
    unfold f_X12_costNext_L5_b
    have f0 := kf_59_67 K
    have e0 := ka_106 K x4.toInt.toNat
    repeat' (first
      | with_reducible assumption
      | (with_reducible show Ok _ _; first | dsimp only | with_reducible refine Ok_gd ?_ (fun _ => ?_) | with_reducible refine Ok_vl ?_ | with_reducible refine Ok_jn ?_ | with_reducible refine Ok_ift (by decide) ?_ | with_reducible refine Ok_iff (by decide) ?_ | with_reducible refine Ok_if (fun _ => ?_) (fun _ => ?_) | with_reducible refine ih _ _  ?_ ?_ ?_ | with_reducible refine hq0 _  ?_)
      | dsimp only
      | with_reducible refine And.intro ?_ ?_)
    all_goals (try (first | with_reducible assumption | exact trivial | omega | ((try clear ih); (try clear hr); (try clear hq0); (try clear hq1); (try clear hrec); ((try simp only [inB, jlt, jeq, Int32.reduceToInt, Nat.reduceEqDiff, Nat.reduceAdd, Nat.reduceMul, ite_true, ite_false, and_true, true_and, and_false, false_and, true_or, or_true, false_or, or_false, not_true_eq_false, not_false_eq_true, reduceIte, reduceCtorEq, eq_self] at *) <;> (first | omega | ((try simp (disch := first | omega | (simp (disch := first | omega | (simp (disch := first | omega | (simp only [Int32.reduceToInt]; omega)) only [i32_add, i32_sub, i32_mul, Int32.reduceToInt]; omega)) only [i32_add, i32_sub, i32_mul, Int32.reduceToInt]; omega)) only [i32_add, i32_sub, i32_mul, Int32.reduceToInt] at *) <;> (first | omega | ((try simp (disch := first | omega | (simp (disch := first | omega | (simp (disch := first | omega | (simp only [Int32.reduceToInt]; omega)) only [i32_add, i32_sub, i32_mul, Int32.reduceToInt]; omega)) only [i32_add, i32_sub, i32_mul, Int32.reduceToInt]; omega)) only [i32_add, i32_sub, i32_mul, Int32.reduceToInt] at *) <;> (first | omega | ((simp only [jadd, jsub, jmul, jneg, Int32.reduceToInt] at *) <;> omega))))))))))
set_option maxRecDepth 4000 in
theorem w_X12_costNext {b0 : SS} {s0 : SS} {a0 : Int32} {a1 : Int32} (K : Lk b0 s0) (g0 : 0 ≤ a0.toInt ∧ a0.toInt ≤ 9) : Ok (f_X12_costNext s0 a0 a1) (fun r => 0 ≤ r.toInt ∧ r.toInt ≤ 9801) := by
  unfold f_X12_costNext
  have e0 := ka_106 K a0.toInt.toNat
  have e1 := ka_107 K a0.toInt.toNat
  have e2 := ka_108 K a0.toInt.toNat
  repeat' (first
    | with_reducible assumption
    | (with_reducible show Ok _ _; first | dsimp only | with_reducible refine Ok_some ?_ | with_reducible refine Ok_gd ?_ (fun _ => ?_) | with_reducible refine Ok_vl ?_ | with_reducible refine Ok_ift (by decide) ?_ | with_reducible refine Ok_iff (by decide) ?_ | with_reducible refine Ok_if (fun _ => ?_) (fun _ => ?_))
    | dsimp only
    | with_reducible refine c99 ?_ ?_
    | with_reducible refine w_X12_costNext_L5 (b0 := b0) ?_ (fun _ _ => ?_) _ _ _  ?_ ?_ ?_
    | with_reducible refine And.intro ?_ ?_)
  all_goals (try (first | with_reducible assumption | exact trivial | omega | ((try clear ih); (try clear hr); (try clear hq0); (try clear hq1); (try clear hrec); ((try simp only [inB, jlt, jeq, Int32.reduceToInt, Nat.reduceEqDiff, Nat.reduceAdd, Nat.reduceMul, ite_true, ite_false, and_true, true_and, and_false, false_and, true_or, or_true, false_or, or_false, not_true_eq_false, not_false_eq_true, reduceIte, reduceCtorEq, eq_self] at *) <;> (first | omega | ((try simp (disch := first | omega | (simp (disch := first | omega | (simp (disch := first | omega | (simp only [Int32.reduceToInt]; omega)) only [i32_add, i32_sub, i32_mul, Int32.reduceToInt]; omega)) only [i32_add, i32_sub, i32_mul, Int32.reduceToInt]; omega)) only [i32_add, i32_sub, i32_mul, Int32.reduceToInt] at *) <;> (first | omega | ((try simp (disch := first | omega | (simp (disch := first | omega | (simp (disch := first | omega | (simp only [Int32.reduceToInt]; omega)) only [i32_add, i32_sub, i32_mul, Int32.reduceToInt]; omega)) only [i32_add, i32_sub, i32_mul, Int32.reduceToInt]; omega)) only [i32_add, i32_sub, i32_mul, Int32.reduceToInt] at *) <;> (first | omega | ((simp only [jadd, jsub, jmul, jneg, Int32.reduceToInt] at *) <;> omega))))))))))
/-! THE REFERENCE: in which order -/
theorem ordN {b0 c0 s : SS} (K : Lk b0 s) (S : S8 c0 s) : (zS c0 59 67).toInt.toNat ≤ 10 ∧ (zS s 59 67).toInt = ((zS c0 59 67).toInt.toNat : Int) := by
  have hf : 0 ≤ (zS s 59 67).toInt ∧ (zS s 59 67).toInt ≤ 10 := K.f (q := 59) (k := 67) rfl
  rw [S.2.2.2] at hf ⊢
  omega
theorem w_X12_order_L32 {b0 c0 : SS} {q0 : SS → Option (Int32 × SS)} {m : Nat} {Q : Int32 × SS → Prop} (hm : 1 ≤ m ∧ m < 2 ^ (zS c0 59 67).toInt.toNat) (hq0 : ∀ s, Lk b0 s → S8 c0 s → Ga c0 (zI s 109) (m + 1) → Ok (q0 s) Q) :
    ∀ (n : Nat) (s : SS) (k : Nat), Lk b0 s → S8 c0 s → Ga c0 (zI s 109) m → k ≤ (zS c0 59 67).toInt.toNat → ((zI s 109 m = 2147483647 ∧ ∀ j, j < k → m.testBit j = false) ∨ Gd c0 (zI s 109) m) → 10 - k < n → Ok (f_X12_order_L32 q0 (nI m) n s (nI k)) Q := by
  intro n
  induction n with
  | zero =>
    intro s k K S A i0 i1 hn
    omega
  | succ n ih =>
    intro s k K S A i0 i1 hn
    show Ok (f_X12_order_L32_b q0 (nI m) (f_X12_order_L32 q0 (nI m) n) s (nI k)) Q
    unfold f_X12_order_L32_b
    obtain ⟨hN, eN⟩ := ordN K S
    have hm1 : m < 1024 := Nat.lt_of_lt_of_le hm.2 (p10 hN)
    have tk : (nI k).toInt = (k : Int) := nI_t (by omega)
    have tm : (nI m).toInt = (m : Int) := nI_t (by omega)
    have k1 : nI k + 1 = nI (k + 1) := by
      apply Int32.toInt_inj.1
      rw [i32_add (by rw [tk, jl1]; omega) (by rw [tk, jl1]; omega), tk, jl1, nI_t (by omega)]
      omega
    have gm : inB (nI m) 1024 := ⟨by omega, by omega⟩
    have nm : (nI m).toInt.toNat = m := by omega
    with_reducible refine Ok_if (fun c => ?_) (fun c => ?_)
    · rw [Int32.lt_iff_toInt_lt, tk, eN] at c
      have c' : k < (zS c0 59 67).toInt.toNat := by omega
      with_reducible refine Ok_jn ?_
      with_reducible refine Ok_if (fun c2 => ?_) (fun c2 => ?_)
      · with_reducible refine Ok_vl ?_
        rw [k1]
        refine ih s (k + 1) K S A c' ?_ (by omega)
        have hb := (bt0 hm1 (show k < 11 by omega)).1 c2
        rcases i1 with ⟨h1, h2⟩ | h1
        · refine Or.inl ⟨h1, fun j hj => ?_⟩
          by_cases hjk : j = k
          · rw [hjk]; exact hb
          · exact h2 j (by omega)
        · exact Or.inr h1
      · have hb : m.testBit k = true := by
          cases hbk : m.testBit k with
          | true => rfl
          | false => exact absurd ((bt0 hm1 (show k < 11 by omega)).2 hbk) c2
        obtain ⟨r, er, hr⟩ := w_X12_costNext (a0 := nI k) (a1 := nI m) K ⟨by omega, by omega⟩
        with_reducible refine Ok_e1 er ?_
        rw [cost_congr S] at er
        rw [nx_del (show k < 11 by omega) hb]
        have hl := del_lt hb
        have td : (nI (m ^^^ 2 ^ k)).toInt = ((m ^^^ 2 ^ k : Nat) : Int) := nI_t (by omega)
        have nd : (nI (m ^^^ 2 ^ k)).toInt.toNat = m ^^^ 2 ^ k := by omega
        have hd : 0 ≤ (zI s 109 (m ^^^ 2 ^ k)).toInt ∧ (zI s 109 (m ^^^ 2 ^ k)).toInt ≤ 9801 * ((m ^^^ 2 ^ k : Nat) : Int) := by
          by_cases h0 : m ^^^ 2 ^ k = 0
          · rw [h0, K.1.2.2]
            decide
          · exact (A _ (by omega) hl).1
        with_reducible refine Ok_vl ?_
        with_reducible refine Ok_gd ⟨by omega, by omega⟩ (fun _ => ?_)
        rw [nd, nm]
        obtain ⟨w, ew, hw⟩ : ∃ w, r + zI s 109 (m ^^^ 2 ^ k) = w ∧ w.toInt = r.toInt + (zI s 109 (m ^^^ 2 ^ k)).toInt := ⟨_, rfl, i32_add (by omega) (by omega)⟩
        rw [ew]
        with_reducible refine Ok_vl ?_
        with_reducible refine Ok_gd gm (fun _ => ?_)
        with_reducible refine Ok_if (fun c3 => ?_) (fun c3 => ?_)
        · with_reducible refine Ok_gd gm (fun _ => ?_)
          with_reducible refine Ok_st ?_
          with_reducible refine Ok_vl ?_
          rw [k1]
          refine ih _ (k + 1) (K.w109 (by omega)) (S.p (Or.inl rfl)) A.p c' (Or.inr ⟨?_, k, c', hb, r, er, ?_⟩) (by omega)
          · rw [zI_pI, if_pos ⟨rfl, rfl⟩]
            omega
          · rw [zI_pI, if_neg (fun z => by omega), zI_pI, if_pos ⟨rfl, rfl⟩]
            exact ew
        · with_reducible refine Ok_vl ?_
          rw [k1]
          refine ih s (k + 1) K S A c' (Or.inr ?_) (by omega)
          rcases i1 with ⟨h1, h2⟩ | h1
          · rw [h1, Int32.lt_iff_toInt_lt, show (2147483647 : Int32).toInt = 2147483647 from rfl] at c3
            omega
          · exact h1
    · rw [Int32.lt_iff_toInt_lt, tk, eN] at c
      refine hq0 s K S (fun j h1 h2 => ?_)
      by_cases hj : j = m
      · rw [hj]
        rcases i1 with ⟨_, h3⟩ | h3
        · exact absurd (ex_bit hm.1 hm.2 (fun i hi => h3 i (by omega))) (fun z => z)
        · exact h3
      · exact A j h1 (by omega)
theorem w_X12_order_L11 {b0 c0 : SS} {q0 : SS → Option (Int32 × SS)} {Q : Int32 × SS → Prop} (hq0 : ∀ s, Lk b0 s → S8 c0 s → Ga c0 (zI s 109) (2 ^ (zS c0 59 67).toInt.toNat) → Ok (q0 s) Q) :
    ∀ (n : Nat) (s : SS) (m : Nat), Lk b0 s → S8 c0 s → Ga c0 (zI s 109) m → (1 ≤ m ∧ m ≤ 2 ^ (zS c0 59 67).toInt.toNat) → 1024 - m < n → Ok (f_X12_order_L11 q0 n s (nI m)) Q := by
  intro n
  induction n with
  | zero =>
    intro s m K S A i0 hn
    omega
  | succ n ih =>
    intro s m K S A i0 hn
    show Ok (f_X12_order_L11_b q0 (f_X12_order_L11 q0 n) s (nI m)) Q
    unfold f_X12_order_L11_b
    obtain ⟨hN, eN⟩ := ordN K S
    have h10 := p10 hN
    have tm : (nI m).toInt = (m : Int) := nI_t (by omega)
    have e67 : zS s 59 67 = nI (zS c0 59 67).toInt.toNat := by
      apply Int32.toInt_inj.1
      rw [eN, nI_t (by omega)]
    rw [e67, sh1n _ (by omega)]
    have t2 : (nI (2 ^ (zS c0 59 67).toInt.toNat)).toInt = ((2 ^ (zS c0 59 67).toInt.toNat : Nat) : Int) := nI_t (by omega)
    with_reducible refine Ok_if (fun c => ?_) (fun c => ?_)
    · rw [Int32.lt_iff_toInt_lt, tm, t2] at c
      have c' : m < 2 ^ (zS c0 59 67).toInt.toNat := by omega
      with_reducible refine Ok_gd ⟨by omega, by omega⟩ (fun _ => ?_)
      with_reducible refine Ok_st ?_
      rw [show (nI m).toInt.toNat = m by omega]
      refine w_X12_order_L32 (b0 := b0) (c0 := c0) ⟨i0.1, c'⟩ (fun s2 K2 S2 A2 => ?_) 4000 _ 0 (K.w109 (by omega)) (S.p (Or.inl rfl)) A.p (by omega) (Or.inl ⟨by rw [zI_pI, if_pos ⟨rfl, rfl⟩], fun j hj => by omega⟩) (by omega)
      with_reducible refine Ok_vl ?_
      have k1 : nI m + 1 = nI (m + 1) := by
        apply Int32.toInt_inj.1
        rw [i32_add (by rw [tm, jl1]; omega) (by rw [tm, jl1]; omega), tm, jl1, nI_t (by omega)]
        omega
      rw [k1]
      exact ih s2 (m + 1) K2 S2 A2 (by omega) (by omega)
    · rw [Int32.lt_iff_toInt_lt, tm, t2] at c
      refine hq0 s K S ?_
      rw [show 2 ^ (zS c0 59 67).toInt.toNat = m by omega]
      exact A
theorem w_X12_order_L129 {b0 c0 sb : SS} {q0 : Int32 → Option (Int32 × SS)} {y2 y3 : Int32} {m k : Nat} {Q : Int32 × SS → Prop} (K : Lk b0 sb) (S : S8 c0 sb) (hm : m < 1024) (hw : Gw c0 (zI sb 109) m k) (hq0 : ∀ j, j < (zS c0 59 67).toInt.toNat → m.testBit j = true → Ok (q0 (nI j)) Q) :
    ∀ (n : Nat) (j : Nat), j ≤ k → k - j < n → Ok (f_X12_order_L129 q0 sb (nI m) y2 y3 n (nI j)) Q := by
  intro n
  induction n with
  | zero =>
    intro j i0 hn
    omega
  | succ n ih =>
    intro j i0 hn
    show Ok (f_X12_order_L129_b q0 sb (nI m) y2 y3 (f_X12_order_L129 q0 sb (nI m) y2 y3 n) (nI j)) Q
    unfold f_X12_order_L129_b
    obtain ⟨hN, eN⟩ := ordN K S
    obtain ⟨w1, w2, v, w3, w4⟩ := hw
    have tj : (nI j).toInt = (j : Int) := nI_t (by omega)
    have tm : (nI m).toInt = (m : Int) := nI_t (by omega)
    have k1 : nI j + 1 = nI (j + 1) := by
      apply Int32.toInt_inj.1
      rw [i32_add (by rw [tj, jl1]; omega) (by rw [tj, jl1]; omega), tj, jl1, nI_t (by omega)]
      omega
    with_reducible refine Ok_jn ?_
    have go : j ≠ k → Ok (vl (nI j + 1) fun v26 => f_X12_order_L129 q0 sb (nI m) y2 y3 n v26) Q := fun hjk => by
      with_reducible refine Ok_vl ?_
      rw [k1]
      exact ih (j + 1) (by omega) (by omega)
    with_reducible refine Ok_if (fun c2 => ?_) (fun c2 => ?_)
    · refine go (fun z => ?_)
      have hb := (bt0 hm (show j < 11 by omega)).1 c2
      rw [z, w2] at hb
      cases hb
    · have hb : m.testBit j = true := by
        cases hbk : m.testBit j with
        | true => rfl
        | false => exact absurd ((bt0 hm (show j < 11 by omega)).2 hbk) c2
      obtain ⟨r, er, hr⟩ := w_X12_costNext (a0 := nI j) (a1 := nI m) K ⟨by omega, by omega⟩
      with_reducible refine Ok_e1 er ?_
      rw [cost_congr S] at er
      rw [nx_del (show j < 11 by omega) hb]
      have hl := del_lt hb
      have td : (nI (m ^^^ 2 ^ j)).toInt = ((m ^^^ 2 ^ j : Nat) : Int) := nI_t (by omega)
      with_reducible refine Ok_vl ?_
      with_reducible refine Ok_gd ⟨by omega, by omega⟩ (fun _ => ?_)
      with_reducible refine Ok_gd ⟨by omega, by omega⟩ (fun _ => ?_)
      rw [show (nI (m ^^^ 2 ^ j)).toInt.toNat = m ^^^ 2 ^ j by omega, show (nI m).toInt.toNat = m by omega]
      with_reducible refine Ok_if (fun _ => hq0 j (by omega) hb) (fun c3 => go (fun z => ?_))
      rw [z] at er c3
      rw [w3] at er
      cases er
      exact c3 w4
theorem w_X12_order_L118 {b0 c0 : SS} {q0 : SS → Option (Int32 × SS)} {y2 : Int32} {Q : Int32 × SS → Prop} (hq0 : ∀ s, Lk b0 s → Ok (q0 s) Q) :
    ∀ (n : Nat) (s : SS) (m i : Nat), Lk b0 s → S8 c0 s → Ga c0 (zI s 109) (2 ^ (zS c0 59 67).toInt.toNat) → m < 2 ^ (zS c0 59 67).toInt.toNat → pc m + i = (zS c0 59 67).toInt.toNat → 10 - i < n → Ok (f_X12_order_L118 q0 y2 n s (nI m) (nI i)) Q := by
  intro n
  induction n with
  | zero =>
    intro s m i K S A i0 i1 hn
    omega
  | succ n ih =>
    intro s m i K S A i0 i1 hn
    show Ok (f_X12_order_L118_b q0 y2 (f_X12_order_L118 q0 y2 n) s (nI m) (nI i)) Q
    unfold f_X12_order_L118_b
    obtain ⟨hN, eN⟩ := ordN K S
    have hm1 : m < 1024 := Nat.lt_of_lt_of_le i0 (p10 hN)
    have ti : (nI i).toInt = (i : Int) := nI_t (by omega)
    with_reducible refine Ok_if (fun c => ?_) (fun _ => hq0 s K)
    rw [Int32.lt_iff_toInt_lt, ti, eN] at c
    obtain ⟨_, k, hw⟩ := A m (pc_0 (N := (zS c0 59 67).toInt.toNat - i) (by omega) (by omega)) i0
    refine w_X12_order_L129 (b0 := b0) (c0 := c0) K S hm1 hw (fun j hj hb => ?_) 4000 0 (by omega) (by have := hw.1; omega)
    have hl := del_lt hb
    have hp := pc_del (show j < 10 by omega) hb
    with_reducible refine Ok_gd ⟨by omega, by omega⟩ (fun _ => ?_)
    with_reducible refine Ok_st ?_
    rw [nx_del (show j < 11 by omega) hb]
    with_reducible refine Ok_vl ?_
    with_reducible refine Ok_vl ?_
    have k1 : nI i + 1 = nI (i + 1) := by
      apply Int32.toInt_inj.1
      rw [i32_add (by rw [ti, jl1]; omega) (by rw [ti, jl1]; omega), ti, jl1, nI_t (by omega)]
      omega
    rw [k1]
    refine ih _ _ (i + 1) (K.wI (by decide) (by decide) trivial) (S.p (Or.inr rfl)) ?_ (by omega) (by omega) (by omega)
    intro j2 h1 h2
    exact (A j2 h1 h2).congr (fun a _ => by rw [zI_pI, if_neg (fun z => by omega)])
theorem w_X12_order {b0 s0 : SS} (K : Lk b0 s0) (hn : ¬ zS s0 59 67 = 0) : Ok (f_X12_order s0) (fun r => Zo b0 59 67 r.2) := by
  unfold f_X12_order
  with_reducible refine Ok_iff hn ?_
  refine w_X12_order_L11 (b0 := b0) (c0 := s0) (fun s K1 S A => ?_) 4000 s0 1 K S8.rf (fun m h1 h2 => by omega) ⟨by decide, Nat.one_le_two_pow⟩ (by decide)
  obtain ⟨hN, eN⟩ := ordN K1 S
  have h10 := p10 hN
  have h1 : 1 ≤ 2 ^ (zS s0 59 67).toInt.toNat := Nat.one_le_two_pow
  have e67 : zS s 59 67 = nI (zS s0 59 67).toInt.toNat := by
    apply Int32.toInt_inj.1
    rw [eN, nI_t (by omega)]
  have t2 : (nI (2 ^ (zS s0 59 67).toInt.toNat)).toInt = ((2 ^ (zS s0 59 67).toInt.toNat : Nat) : Int) := nI_t (by omega)
  have e1 : (1 : Int32) <<< (zS s 59 67 &&& 31) - 1 = nI (2 ^ (zS s0 59 67).toInt.toNat - 1) := by
    rw [e67, sh1n _ (by omega)]
    apply Int32.toInt_inj.1
    rw [i32_sub (by rw [t2, jl1]; omega) (by rw [t2, jl1]; omega), t2, jl1, nI_t (by omega)]
    omega
  rw [e1]
  have t3 : (nI (2 ^ (zS s0 59 67).toInt.toNat - 1)).toInt = ((2 ^ (zS s0 59 67).toInt.toNat - 1 : Nat) : Int) := nI_t (by omega)
  with_reducible refine Ok_vl ?_
  with_reducible refine Ok_gd ⟨by omega, by omega⟩ (fun _ => ?_)
  with_reducible refine Ok_vl ?_
  refine w_X12_order_L118 (b0 := b0) (c0 := s0) (fun s2 K2 => ?_) 4000 s _ 0 K1 S A (by omega) (by rw [pc_full _ (by omega)]; rfl) (by decide)
  with_reducible refine Ok_vl ?_
  with_reducible refine Ok_st ?_
  with_reducible refine Ok_st ?_
  have hf : 0 ≤ (zS s2 59 67).toInt ∧ (zS s2 59 67).toInt ≤ 10 := K2.f (q := 59) (k := 67) rfl
  exact Ok_some (Zo.mk (K2.wF (q := 59) (k := 72) (by decide) (by decide) (by decide) ⟨by omega, hf.2⟩))
