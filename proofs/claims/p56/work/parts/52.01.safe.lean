set_option maxRecDepth 4000 in
theorem w_X6_soonestOne {b0 : SS} {s0 : SS} (K : Lk b0 s0) : Ok (f_X6_soonestOne s0) (fun r => Lk b0 r.2) := by
  unfold f_X6_soonestOne
  repeat' (first
    | with_reducible assumption
    | (with_reducible show Ok _ _; first | dsimp only | with_reducible refine Ok_some ?_ | with_reducible refine Ok_st ?_)
    | dsimp only
    | (with_reducible show Lk _ _; first | with_reducible refine Lk.wF ?_ (by decide) (by decide) (by decide) ?_)
    | with_reducible refine w_X6_soonestOne_L5 (b0 := b0) (fun _ _ _ => ?_) _ _ _ _  ?_ ?_ ?_
    | with_reducible refine And.intro ?_ ?_)
  all_goals (try (first | with_reducible assumption | exact trivial | omega | ((try clear ih); (try clear hr); (try clear hq0); (try clear hq1); (try clear hrec); ((try simp only [inB, Rg, bF, jlt, jeq, Int32.reduceToInt, zS_pS, zI_pS, zN_pS, Nat.reduceEqDiff, Nat.reduceAdd, Nat.reduceMul, ite_true, ite_false, and_true, true_and, and_false, false_and, true_or, or_true, false_or, or_false, not_true_eq_false, not_false_eq_true, reduceIte, reduceCtorEq, eq_self] at *) <;> (first | omega | ((try simp (disch := first | omega | (simp (disch := first | omega | (simp (disch := first | omega | (simp only [Int32.reduceToInt]; omega)) only [i32_sub, Int32.reduceToInt]; omega)) only [i32_sub, Int32.reduceToInt]; omega)) only [i32_sub, Int32.reduceToInt] at *) <;> (first | omega | ((try simp (disch := first | omega | (simp (disch := first | omega | (simp (disch := first | omega | (simp only [Int32.reduceToInt]; omega)) only [i32_sub, Int32.reduceToInt]; omega)) only [i32_sub, Int32.reduceToInt]; omega)) only [i32_sub, Int32.reduceToInt] at *) <;> (first | omega | ((simp only [jadd, jsub, jmul, jneg, Int32.reduceToInt] at *) <;> omega))))))))))
set_option maxRecDepth 4000 in
theorem w_X6_soonestPair_L20 {b0 : SS} {q0 : SS → Int32 → Option (Int32 × SS)} {y2 : Int32} {y3 : Int32} {y6 : Int32} {Q : Int32 × SS → Prop} (g0 : 0 ≤ y2.toInt ∧ y2.toInt ≤ 5) (g1 : 0 ≤ y3.toInt ∧ y3.toInt ≤ 5) (g2 : 0 ≤ y6.toInt ∧ y6.toInt ≤ 2) (hq0 : ∀ (s : SS) (z0 : Int32), Lk b0 s → Ok (q0 s z0) Q) : ∀ (n : Nat) (s : SS) (x5 : Int32) (x7 : Int32), Lk b0 s → (0 ≤ x7.toInt ∧ x7.toInt ≤ 3) → 3 - x7.toInt < (n : Int) → Ok (f_X6_soonestPair_L20 q0 y2 y3 y6 n s x5 x7) Q := by
  intro n
  induction n with
  | zero =>
    intro s x5 x7 K i0 hm
    exfalso
    (first | with_reducible assumption | omega | ((try clear ih); (try clear hr); (try clear hq0); (try clear hq1); (try clear hrec); ((try simp only [inB, Rg, cellOK, bA, jlt, jeq, Int32.reduceToInt, zS_pI, zI_pI, zN_pI, Nat.reduceEqDiff, Nat.reduceAdd, Nat.reduceMul, ite_true, ite_false, and_true, true_and, and_false, false_and, true_or, or_true, false_or, or_false, not_true_eq_false, not_false_eq_true, reduceIte, reduceCtorEq, eq_self] at *) <;> (first | omega | ((try simp (disch := first | omega | (simp (disch := first | omega | (simp (disch := first | omega | (simp only [Int32.reduceToInt]; omega)) only [i32_add, i32_sub, i32_mul, Int32.reduceToInt]; omega)) only [i32_add, i32_sub, i32_mul, Int32.reduceToInt]; omega)) only [i32_add, i32_sub, i32_mul, Int32.reduceToInt] at *) <;> (first | omega | ((try simp (disch := first | omega | (simp (disch := first | omega | (simp (disch := first | omega | (simp only [Int32.reduceToInt]; omega)) only [i32_add, i32_sub, i32_mul, Int32.reduceToInt]; omega)) only [i32_add, i32_sub, i32_mul, Int32.reduceToInt]; omega)) only [i32_add, i32_sub, i32_mul, Int32.reduceToInt] at *) <;> (first | omega | ((simp only [jadd, jsub, jmul, jneg, Int32.reduceToInt] at *) <;> omega)))))))))
  | succ n ih =>
    intro s x5 x7 K i0 hm
    show Ok (f_X6_soonestPair_L20_b q0 y2 y3 y6 (f_X6_soonestPair_L20 q0 y2 y3 y6 n) s x5 x7) Q
    unfold f_X6_soonestPair_L20_b
    repeat' (first
      | with_reducible assumption
      | (with_reducible show Ok _ _; first | dsimp only | with_reducible refine Ok_some ?_ | with_reducible refine Lk_G3 (by assumption) ?_ (fun _ _ => ?_) | with_reducible refine Lk_G6 (by assumption) ?_ (fun _ _ _ => ?_) | with_reducible refine Ok_gd ?_ (fun _ => ?_) | with_reducible refine Ok_vl ?_ | with_reducible refine Ok_st ?_ | with_reducible refine Ok_jn ?_ | with_reducible refine Ok_b1 ?_ | with_reducible refine Ok_onN ?_ | with_reducible refine Ok_onS ?_ | with_reducible refine Ok_ift (by decide) ?_ | with_reducible refine Ok_iff (by decide) ?_ | with_reducible refine Ok_if (fun _ => ?_) (fun _ => ?_) | with_reducible refine Lk_onM (b0 := b0) ?_ (by assumption) (fun _ _ _ => ?_) | with_reducible refine ih _ _ _  ?_ ?_ ?_ | with_reducible refine hq0 _ _  ?_ | unfold f_J9_max_7cf53)
      | dsimp only
      | (with_reducible show Lk _ _; first | with_reducible refine Lk.wI ?_ (by decide) (by decide) ?_)
      | with_reducible refine And.intro ?_ ?_)
    all_goals (try (first | with_reducible assumption | exact trivial | omega | ((try clear ih); (try clear hr); (try clear hq0); (try clear hq1); (try clear hrec); ((try simp only [inB, Rg, cellOK, bA, jlt, jeq, Int32.reduceToInt, zS_pI, zI_pI, zN_pI, Nat.reduceEqDiff, Nat.reduceAdd, Nat.reduceMul, ite_true, ite_false, and_true, true_and, and_false, false_and, true_or, or_true, false_or, or_false, not_true_eq_false, not_false_eq_true, reduceIte, reduceCtorEq, eq_self] at *) <;> (first | omega | ((try simp (disch := first | omega | (simp (disch := first | omega | (simp (disch := first | omega | (simp only [Int32.reduceToInt]; omega)) only [i32_add, i32_sub, i32_mul, Int32.reduceToInt]; omega)) only [i32_add, i32_sub, i32_mul, Int32.reduceToInt]; omega)) only [i32_add, i32_sub, i32_mul, Int32.reduceToInt] at *) <;> (first | omega | ((try simp (disch := first | omega | (simp (disch := first | omega | (simp (disch := first | omega | (simp only [Int32.reduceToInt]; omega)) only [i32_add, i32_sub, i32_mul, Int32.reduceToInt]; omega)) only [i32_add, i32_sub, i32_mul, Int32.reduceToInt]; omega)) only [i32_add, i32_sub, i32_mul, Int32.reduceToInt] at *) <;> (first | omega | ((simp only [jadd, jsub, jmul, jneg, Int32.reduceToInt] at *) <;> omega))))))))))
set_option maxRecDepth 4000 in
theorem w_X6_soonestPair_L7 {b0 : SS} {y2 : Int32} {y3 : Int32} {Q : Int32 × SS → Prop} (g0 : 0 ≤ y2.toInt ∧ y2.toInt ≤ 5) (g1 : 0 ≤ y3.toInt ∧ y3.toInt ≤ 5) (hr : ∀ v s, Lk b0 s → Q (v, s)) : ∀ (n : Nat) (s : SS) (x5 : Int32) (x6 : Int32), Lk b0 s → (0 ≤ x6.toInt ∧ x6.toInt ≤ 3) → 3 - x6.toInt < (n : Int) → Ok (f_X6_soonestPair_L7 y2 y3 n s x5 x6) Q := by
  intro n
  induction n with
  | zero =>
    intro s x5 x6 K i0 hm
    exfalso
    (first | with_reducible assumption | omega | ((try clear ih); (try clear hr); (try clear hq0); (try clear hq1); (try clear hrec); ((try simp only [inB, jlt, jeq, Int32.reduceToInt, Nat.reduceEqDiff, Nat.reduceAdd, Nat.reduceMul, ite_true, ite_false, and_true, true_and, and_false, false_and, true_or, or_true, false_or, or_false, not_true_eq_false, not_false_eq_true, reduceIte, reduceCtorEq, eq_self] at *) <;> (first | omega | ((try simp (disch := first | omega | (simp (disch := first | omega | (simp (disch := first | omega | (simp only [Int32.reduceToInt]; omega)) only [i32_add, i32_sub, Int32.reduceToInt]; omega)) only [i32_add, i32_sub, Int32.reduceToInt]; omega)) only [i32_add, i32_sub, Int32.reduceToInt] at *) <;> (first | omega | ((try simp (disch := first | omega | (simp (disch := first | omega | (simp (disch := first | omega | (simp only [Int32.reduceToInt]; omega)) only [i32_add, i32_sub, Int32.reduceToInt]; omega)) only [i32_add, i32_sub, Int32.reduceToInt]; omega)) only [i32_add, i32_sub, Int32.reduceToInt] at *) <;> (first | omega | ((simp only [jadd, jsub, jmul, jneg, Int32.reduceToInt] at *) <;> omega)))))))))
  | succ n ih =>
    intro s x5 x6 K i0 hm
    show Ok (f_X6_soonestPair_L7_b y2 y3 (f_X6_soonestPair_L7 y2 y3 n) s x5 x6) Q
    unfold f_X6_soonestPair_L7_b
    repeat' (first
      | with_reducible assumption
      | (with_reducible show Ok _ _; first | dsimp only | with_reducible refine Ok_some ?_ | with_reducible refine Ok_vl ?_ | with_reducible refine Ok_ift (by decide) ?_ | with_reducible refine Ok_iff (by decide) ?_ | with_reducible refine Ok_if (fun _ => ?_) (fun _ => ?_) | with_reducible refine ih _ _ _  ?_ ?_ ?_)
      | dsimp only
      | with_reducible refine hr _ _ ?_
      | with_reducible refine w_X6_soonestPair_L20 (b0 := b0) ?_ ?_ ?_ (fun _ _ _ => ?_) _ _ _ _  ?_ ?_ ?_
      | with_reducible refine And.intro ?_ ?_)
    all_goals (try (first | with_reducible assumption | exact trivial | omega | ((try clear ih); (try clear hr); (try clear hq0); (try clear hq1); (try clear hrec); ((try simp only [inB, jlt, jeq, Int32.reduceToInt, Nat.reduceEqDiff, Nat.reduceAdd, Nat.reduceMul, ite_true, ite_false, and_true, true_and, and_false, false_and, true_or, or_true, false_or, or_false, not_true_eq_false, not_false_eq_true, reduceIte, reduceCtorEq, eq_self] at *) <;> (first | omega | ((try simp (disch := first | omega | (simp (disch := first | omega | (simp (disch := first | omega | (simp only [Int32.reduceToInt]; omega)) only [i32_add, i32_sub, Int32.reduceToInt]; omega)) only [i32_add, i32_sub, Int32.reduceToInt]; omega)) only [i32_add, i32_sub, Int32.reduceToInt] at *) <;> (first | omega | ((try simp (disch := first | omega | (simp (disch := first | omega | (simp (disch := first | omega | (simp only [Int32.reduceToInt]; omega)) only [i32_add, i32_sub, Int32.reduceToInt]; omega)) only [i32_add, i32_sub, Int32.reduceToInt]; omega)) only [i32_add, i32_sub, Int32.reduceToInt] at *) <;> (first | omega | ((simp only [jadd, jsub, jmul, jneg, Int32.reduceToInt] at *) <;> omega))))))))))
set_option maxRecDepth 4000 in
theorem w_X6_soonestPair {b0 : SS} {s0 : SS} {a1 : Int32} {a2 : Int32} {a3 : Int32} (K : Lk b0 s0) (g0 : 0 ≤ a1.toInt ∧ a1.toInt ≤ 5) (g1 : 0 ≤ a2.toInt ∧ a2.toInt ≤ 5) : Ok (f_X6_soonestPair s0 a1 a2 a3) (fun r => Lk b0 r.2) := by
  unfold f_X6_soonestPair
  repeat' (first
    | with_reducible assumption
    | dsimp only
    | with_reducible refine w_X6_soonestPair_L7 (b0 := b0) ?_ ?_ (fun _ _ _ => ?_) _ _ _ _  ?_ ?_ ?_
    | with_reducible refine And.intro ?_ ?_)
  all_goals (try (first | with_reducible assumption | exact trivial | omega | ((try clear ih); (try clear hr); (try clear hq0); (try clear hq1); (try clear hrec); ((try simp only [inB, jlt, jeq, Int32.reduceToInt, Nat.reduceEqDiff, Nat.reduceAdd, Nat.reduceMul, ite_true, ite_false, and_true, true_and, and_false, false_and, true_or, or_true, false_or, or_false, not_true_eq_false, not_false_eq_true, reduceIte, reduceCtorEq, eq_self] at *) <;> (first | omega | ((try simp (disch := first | omega | (simp (disch := first | omega | (simp (disch := first | omega | (simp only [Int32.reduceToInt]; omega)) only [i32_sub, Int32.reduceToInt]; omega)) only [i32_sub, Int32.reduceToInt]; omega)) only [i32_sub, Int32.reduceToInt] at *) <;> (first | omega | ((try simp (disch := first | omega | (simp (disch := first | omega | (simp (disch := first | omega | (simp only [Int32.reduceToInt]; omega)) only [i32_sub, Int32.reduceToInt]; omega)) only [i32_sub, Int32.reduceToInt]; omega)) only [i32_sub, Int32.reduceToInt] at *) <;> (first | omega | ((simp only [jadd, jsub, jmul, jneg, Int32.reduceToInt] at *) <;> omega))))))))))
set_option maxRecDepth 4000 in
theorem w_X6_soonestTwo_L16 {b0 : SS} {q0 : SS → Int32 → Option (Int32 × SS)} {y3 : Int32} {Q : Int32 × SS → Prop} (g0 : 0 ≤ y3.toInt ∧ y3.toInt ≤ 5) (hq0 : ∀ (s : SS) (z0 : Int32), Lk b0 s → Ok (q0 s z0) Q) : ∀ (n : Nat) (s : SS) (x2 : Int32) (x4 : Int32), Lk b0 s → (0 ≤ x4.toInt ∧ x4.toInt ≤ 6) → 6 - x4.toInt < (n : Int) → Ok (f_X6_soonestTwo_L16 q0 y3 n s x2 x4) Q := by
  intro n
  induction n with
  | zero =>
    intro s x2 x4 K i0 hm
    exfalso
    (first | with_reducible assumption | omega | ((try clear ih); (try clear hr); (try clear hq0); (try clear hq1); (try clear hrec); ((try simp only [inB, jlt, jeq, Int32.reduceToInt, Nat.reduceEqDiff, Nat.reduceAdd, Nat.reduceMul, ite_true, ite_false, and_true, true_and, and_false, false_and, true_or, or_true, false_or, or_false, not_true_eq_false, not_false_eq_true, reduceIte, reduceCtorEq, eq_self] at *) <;> (first | omega | ((try simp (disch := first | omega | (simp (disch := first | omega | (simp (disch := first | omega | (simp only [Int32.reduceToInt]; omega)) only [i32_add, i32_sub, Int32.reduceToInt]; omega)) only [i32_add, i32_sub, Int32.reduceToInt]; omega)) only [i32_add, i32_sub, Int32.reduceToInt] at *) <;> (first | omega | ((try simp (disch := first | omega | (simp (disch := first | omega | (simp (disch := first | omega | (simp only [Int32.reduceToInt]; omega)) only [i32_add, i32_sub, Int32.reduceToInt]; omega)) only [i32_add, i32_sub, Int32.reduceToInt]; omega)) only [i32_add, i32_sub, Int32.reduceToInt] at *) <;> (first | omega | ((simp only [jadd, jsub, jmul, jneg, Int32.reduceToInt] at *) <;> omega)))))))))
  | succ n ih =>
    intro s x2 x4 K i0 hm
    show Ok (f_X6_soonestTwo_L16_b q0 y3 (f_X6_soonestTwo_L16 q0 y3 n) s x2 x4) Q
    unfold f_X6_soonestTwo_L16_b
    have f0 := kf_34_9 K
    repeat' (first
      | with_reducible assumption
      | (with_reducible show Ok _ _; first | dsimp only | with_reducible refine Ok_vl ?_ | with_reducible refine Ok_jn ?_ | with_reducible refine Ok_bd ?_ | with_reducible refine Ok_ift (by decide) ?_ | with_reducible refine Ok_iff (by decide) ?_ | with_reducible refine Ok_if (fun _ => ?_) (fun _ => ?_) | with_reducible refine ih _ _ _  ?_ ?_ ?_ | with_reducible refine hq0 _ _  ?_ | with_reducible refine Ok.mono (w_X6_soonestPair (b0 := b0) ?_ ?_ ?_) (fun _ _ => ?_))
      | dsimp only
      | with_reducible refine And.intro ?_ ?_)
    all_goals (try (first | with_reducible assumption | exact trivial | omega | ((try clear ih); (try clear hr); (try clear hq0); (try clear hq1); (try clear hrec); ((try simp only [inB, jlt, jeq, Int32.reduceToInt, Nat.reduceEqDiff, Nat.reduceAdd, Nat.reduceMul, ite_true, ite_false, and_true, true_and, and_false, false_and, true_or, or_true, false_or, or_false, not_true_eq_false, not_false_eq_true, reduceIte, reduceCtorEq, eq_self] at *) <;> (first | omega | ((try simp (disch := first | omega | (simp (disch := first | omega | (simp (disch := first | omega | (simp only [Int32.reduceToInt]; omega)) only [i32_add, i32_sub, Int32.reduceToInt]; omega)) only [i32_add, i32_sub, Int32.reduceToInt]; omega)) only [i32_add, i32_sub, Int32.reduceToInt] at *) <;> (first | omega | ((try simp (disch := first | omega | (simp (disch := first | omega | (simp (disch := first | omega | (simp only [Int32.reduceToInt]; omega)) only [i32_add, i32_sub, Int32.reduceToInt]; omega)) only [i32_add, i32_sub, Int32.reduceToInt]; omega)) only [i32_add, i32_sub, Int32.reduceToInt] at *) <;> (first | omega | ((simp only [jadd, jsub, jmul, jneg, Int32.reduceToInt] at *) <;> omega))))))))))
set_option maxRecDepth 4000 in
theorem w_X6_soonestTwo_L5 {b0 : SS} {q0 : SS → Int32 → Option (Int32 × SS)} {Q : Int32 × SS → Prop} (hq0 : ∀ (s : SS) (z0 : Int32), Lk b0 s → Ok (q0 s z0) Q) : ∀ (n : Nat) (s : SS) (x2 : Int32) (x3 : Int32), Lk b0 s → (0 ≤ x3.toInt ∧ x3.toInt ≤ 6) → 6 - x3.toInt < (n : Int) → Ok (f_X6_soonestTwo_L5 q0 n s x2 x3) Q := by
  intro n
  induction n with
  | zero =>
    intro s x2 x3 K i0 hm
    exfalso
    (first | with_reducible assumption | omega | ((try clear ih); (try clear hr); (try clear hq0); (try clear hq1); (try clear hrec); ((try simp only [inB, jlt, jeq, Int32.reduceToInt, Nat.reduceEqDiff, Nat.reduceAdd, Nat.reduceMul, ite_true, ite_false, and_true, true_and, and_false, false_and, true_or, or_true, false_or, or_false, not_true_eq_false, not_false_eq_true, reduceIte, reduceCtorEq, eq_self] at *) <;> (first | omega | ((try simp (disch := first | omega | (simp (disch := first | omega | (simp (disch := first | omega | (simp only [Int32.reduceToInt]; omega)) only [i32_add, i32_sub, Int32.reduceToInt]; omega)) only [i32_add, i32_sub, Int32.reduceToInt]; omega)) only [i32_add, i32_sub, Int32.reduceToInt] at *) <;> (first | omega | ((try simp (disch := first | omega | (simp (disch := first | omega | (simp (disch := first | omega | (simp only [Int32.reduceToInt]; omega)) only [i32_add, i32_sub, Int32.reduceToInt]; omega)) only [i32_add, i32_sub, Int32.reduceToInt]; omega)) only [i32_add, i32_sub, Int32.reduceToInt] at *) <;> (first | omega | ((simp only [jadd, jsub, jmul, jneg, Int32.reduceToInt] at *) <;> omega)))))))))
  | succ n ih =>
    intro s x2 x3 K i0 hm
    show Ok (f_X6_soonestTwo_L5_b q0 (f_X6_soonestTwo_L5 q0 n) s x2 x3) Q
    unfold f_X6_soonestTwo_L5_b
    have f0 := kf_34_9 K
    repeat' (first
      | with_reducible assumption
      | (with_reducible show Ok _ _; first | dsimp only | with_reducible refine Ok_vl ?_ | with_reducible refine Ok_ift (by decide) ?_ | with_reducible refine Ok_iff (by decide) ?_ | with_reducible refine Ok_if (fun _ => ?_) (fun _ => ?_) | with_reducible refine ih _ _ _  ?_ ?_ ?_ | with_reducible refine hq0 _ _  ?_)
      | dsimp only
      | with_reducible refine w_X6_soonestTwo_L16 (b0 := b0) ?_ (fun _ _ _ => ?_) _ _ _ _  ?_ ?_ ?_
      | with_reducible refine And.intro ?_ ?_)
    all_goals (try (first | with_reducible assumption | exact trivial | omega | ((try clear ih); (try clear hr); (try clear hq0); (try clear hq1); (try clear hrec); ((try simp only [inB, jlt, jeq, Int32.reduceToInt, Nat.reduceEqDiff, Nat.reduceAdd, Nat.reduceMul, ite_true, ite_false, and_true, true_and, and_false, false_and, true_or, or_true, false_or, or_false, not_true_eq_false, not_false_eq_true, reduceIte, reduceCtorEq, eq_self] at *) <;> (first | omega | ((try simp (disch := first | omega | (simp (disch := first | omega | (simp (disch := first | omega | (simp only [Int32.reduceToInt]; omega)) only [i32_add, i32_sub, Int32.reduceToInt]; omega)) only [i32_add, i32_sub, Int32.reduceToInt]; omega)) only [i32_add, i32_sub, Int32.reduceToInt] at *) <;> (first | omega | ((try simp (disch := first | omega | (simp (disch := first | omega | (simp (disch := first | omega | (simp only [Int32.reduceToInt]; omega)) only [i32_add, i32_sub, Int32.reduceToInt]; omega)) only [i32_add, i32_sub, Int32.reduceToInt]; omega)) only [i32_add, i32_sub, Int32.reduceToInt] at *) <;> (first | omega | ((simp only [jadd, jsub, jmul, jneg, Int32.reduceToInt] at *) <;> omega))))))))))
set_option maxRecDepth 4000 in
theorem w_X6_soonestTwo {b0 : SS} {s0 : SS} (K : Lk b0 s0) : Ok (f_X6_soonestTwo s0) (fun r => Lk b0 r.2) := by
  unfold f_X6_soonestTwo
  repeat' (first
    | with_reducible assumption
    | (with_reducible show Ok _ _; first | dsimp only | with_reducible refine Ok_some ?_ | with_reducible refine Ok_st ?_)
    | dsimp only
    | (with_reducible show Lk _ _; first | with_reducible refine Lk.wF ?_ (by decide) (by decide) (by decide) ?_)
    | with_reducible refine w_X6_soonestTwo_L5 (b0 := b0) (fun _ _ _ => ?_) _ _ _ _  ?_ ?_ ?_
    | with_reducible refine And.intro ?_ ?_)
  all_goals (try (first | with_reducible assumption | exact trivial | omega | ((try clear ih); (try clear hr); (try clear hq0); (try clear hq1); (try clear hrec); ((try simp only [inB, Rg, bF, jlt, jeq, Int32.reduceToInt, zS_pS, zI_pS, zN_pS, Nat.reduceEqDiff, Nat.reduceAdd, Nat.reduceMul, ite_true, ite_false, and_true, true_and, and_false, false_and, true_or, or_true, false_or, or_false, not_true_eq_false, not_false_eq_true, reduceIte, reduceCtorEq, eq_self] at *) <;> (first | omega | ((try simp (disch := first | omega | (simp (disch := first | omega | (simp (disch := first | omega | (simp only [Int32.reduceToInt]; omega)) only [i32_sub, Int32.reduceToInt]; omega)) only [i32_sub, Int32.reduceToInt]; omega)) only [i32_sub, Int32.reduceToInt] at *) <;> (first | omega | ((try simp (disch := first | omega | (simp (disch := first | omega | (simp (disch := first | omega | (simp only [Int32.reduceToInt]; omega)) only [i32_sub, Int32.reduceToInt]; omega)) only [i32_sub, Int32.reduceToInt]; omega)) only [i32_sub, Int32.reduceToInt] at *) <;> (first | omega | ((simp only [jadd, jsub, jmul, jneg, Int32.reduceToInt] at *) <;> omega))))))))))
set_option maxRecDepth 4000 in
theorem w_X7_emit {b0 : SS} {s0 : SS} {a0 : Int32} (K : Lk b0 s0) (g0 : Rs s0) : Ok (f_X7_emit s0 a0) (fun r => Lk b0 r ∧ Rs r) := by
  unfold f_X7_emit
  repeat' (first
    | with_reducible assumption
    | (with_reducible show Ok _ _; first | dsimp only | with_reducible refine Ok_some ?_ | with_reducible refine Lk_G3 (by assumption) ?_ (fun _ _ => ?_) | with_reducible refine Ok_gd ?_ (fun _ => ?_) | with_reducible refine Ok_vl ?_ | with_reducible refine Ok_st ?_ | with_reducible refine Ok_ift (by decide) ?_ | with_reducible refine Ok_iff (by decide) ?_ | with_reducible refine Ok_if (fun _ => ?_) (fun _ => ?_))
    | dsimp only
    | (with_reducible show Lk _ _; first | with_reducible refine Lk.wI ?_ (by decide) (by decide) ?_ | with_reducible refine Lk.wF ?_ (by decide) (by decide) (by decide) ?_)
    | with_reducible refine And.intro ?_ ?_)
  all_goals (try (first | with_reducible assumption | exact trivial | omega | ((try clear ih); (try clear hr); (try clear hq0); (try clear hq1); (try clear hrec); ((try simp only [inB, Rs, Rg, cellOK, bF, bA, jlt, jeq, Int32.reduceToInt, zS_pS, zS_pI, zI_pI, zI_pS, zN_pS, zN_pI, Nat.reduceEqDiff, Nat.reduceAdd, Nat.reduceMul, ite_true, ite_false, and_true, true_and, and_false, false_and, true_or, or_true, false_or, or_false, not_true_eq_false, not_false_eq_true, reduceIte, reduceCtorEq, eq_self] at *) <;> (first | omega | ((try simp (disch := first | omega | (simp (disch := first | omega | (simp (disch := first | omega | (simp only [Int32.reduceToInt]; omega)) only [i32_add, Int32.reduceToInt]; omega)) only [i32_add, Int32.reduceToInt]; omega)) only [i32_add, Int32.reduceToInt] at *) <;> (first | omega | ((try simp (disch := first | omega | (simp (disch := first | omega | (simp (disch := first | omega | (simp only [Int32.reduceToInt]; omega)) only [i32_add, Int32.reduceToInt]; omega)) only [i32_add, Int32.reduceToInt]; omega)) only [i32_add, Int32.reduceToInt] at *) <;> (first | omega | ((simp only [jadd, jsub, jmul, jneg, Int32.reduceToInt] at *) <;> omega))))))))))
set_option maxRecDepth 4000 in
theorem w_X7_takes {b0 : SS} {s0 : SS} {a0 : Int32} (K : Lk b0 s0) (g0 : Rs s0) : Ok (f_X7_takes s0 a0) (fun r => Lk b0 r.2 ∧ Rs r.2) := by
  unfold f_X7_takes
  have f0 := kf_24_1 K
  repeat' (first
    | with_reducible assumption
    | (with_reducible show Ok _ _; first | dsimp only | with_reducible refine Ok_some ?_ | with_reducible refine Ok_gd ?_ (fun _ => ?_) | with_reducible refine Ok_vl ?_ | with_reducible refine Ok_st ?_ | with_reducible refine Ok_ift (by decide) ?_ | with_reducible refine Ok_iff (by decide) ?_ | with_reducible refine Ok_if (fun _ => ?_) (fun _ => ?_))
    | dsimp only
    | (with_reducible show Lk _ _; first | with_reducible refine Lk.wF ?_ (by decide) (by decide) (by decide) ?_)
    | with_reducible refine And.intro ?_ ?_)
  all_goals (try (first | with_reducible assumption | exact trivial | omega | ((try clear ih); (try clear hr); (try clear hq0); (try clear hq1); (try clear hrec); ((try simp only [inB, Rs, Rg, bF, jlt, jeq, Int32.reduceToInt, zS_pS, zI_pS, zN_pS, Nat.reduceEqDiff, Nat.reduceAdd, Nat.reduceMul, ite_true, ite_false, and_true, true_and, and_false, false_and, true_or, or_true, false_or, or_false, not_true_eq_false, not_false_eq_true, reduceIte, reduceCtorEq, eq_self] at *) <;> (first | omega | ((try simp (disch := first | omega | (simp (disch := first | omega | (simp (disch := first | omega | (simp only [Int32.reduceToInt]; omega)) only [i32_add, Int32.reduceToInt]; omega)) only [i32_add, Int32.reduceToInt]; omega)) only [i32_add, Int32.reduceToInt] at *) <;> (first | omega | ((try simp (disch := first | omega | (simp (disch := first | omega | (simp (disch := first | omega | (simp only [Int32.reduceToInt]; omega)) only [i32_add, Int32.reduceToInt]; omega)) only [i32_add, Int32.reduceToInt]; omega)) only [i32_add, Int32.reduceToInt] at *) <;> (first | omega | ((simp only [jadd, jsub, jmul, jneg, Int32.reduceToInt] at *) <;> omega))))))))))
set_option maxRecDepth 4000 in
theorem w_X7_plusOrMinus {b0 : SS} {s0 : SS} (K : Lk b0 s0) (g0 : Rs s0) : Ok (f_X7_plusOrMinus s0) (fun r => Lk b0 r.2 ∧ Rs r.2) := by
  unfold f_X7_plusOrMinus
  repeat' (first
    | with_reducible assumption
    | (with_reducible show Ok _ _; first | dsimp only | with_reducible refine Ok_some ?_ | with_reducible refine Ok_bd ?_ | with_reducible refine Ok_ift (by decide) ?_ | with_reducible refine Ok_iff (by decide) ?_ | with_reducible refine Ok_if (fun _ => ?_) (fun _ => ?_) | with_reducible refine Ok.mono (w_X7_takes (b0 := b0) ?_ ?_) (fun _ ⟨_, _⟩ => ?_))
    | dsimp only
    | with_reducible refine And.intro ?_ ?_)
  all_goals (try (first | with_reducible assumption | exact trivial | omega | ((try clear ih); (try clear hr); (try clear hq0); (try clear hq1); (try clear hrec); ((try simp only [inB, Rs, jlt, jeq, Int32.reduceToInt, jn16, jn17, Nat.reduceEqDiff, Nat.reduceAdd, Nat.reduceMul, ite_true, ite_false, and_true, true_and, and_false, false_and, true_or, or_true, false_or, or_false, not_true_eq_false, not_false_eq_true, reduceIte, reduceCtorEq, eq_self] at *) <;> (first | omega | ((try simp (disch := first | omega | (simp (disch := first | omega | (simp (disch := first | omega | (simp only [Int32.reduceToInt]; omega)) only [Int32.reduceToInt]; omega)) only [Int32.reduceToInt]; omega)) only [Int32.reduceToInt] at *) <;> (first | omega | ((try simp (disch := first | omega | (simp (disch := first | omega | (simp (disch := first | omega | (simp only [Int32.reduceToInt]; omega)) only [Int32.reduceToInt]; omega)) only [Int32.reduceToInt]; omega)) only [Int32.reduceToInt] at *) <;> (first | omega | ((simp only [jadd, jsub, jmul, jneg, Int32.reduceToInt] at *) <;> omega))))))))))
set_option maxRecDepth 4000 in
theorem w_X7_timesOrOver {b0 : SS} {s0 : SS} (K : Lk b0 s0) (g0 : Rs s0) : Ok (f_X7_timesOrOver s0) (fun r => Lk b0 r.2 ∧ Rs r.2) := by
  unfold f_X7_timesOrOver
  repeat' (first
    | with_reducible assumption
    | (with_reducible show Ok _ _; first | dsimp only | with_reducible refine Ok_some ?_ | with_reducible refine Ok_bd ?_ | with_reducible refine Ok_ift (by decide) ?_ | with_reducible refine Ok_iff (by decide) ?_ | with_reducible refine Ok_if (fun _ => ?_) (fun _ => ?_) | with_reducible refine Ok.mono (w_X7_takes (b0 := b0) ?_ ?_) (fun _ ⟨_, _⟩ => ?_))
    | dsimp only
    | with_reducible refine And.intro ?_ ?_)
  all_goals (try (first | with_reducible assumption | exact trivial | omega | ((try clear ih); (try clear hr); (try clear hq0); (try clear hq1); (try clear hrec); ((try simp only [inB, Rs, jlt, jeq, Int32.reduceToInt, jn18, jn19, jn20, Nat.reduceEqDiff, Nat.reduceAdd, Nat.reduceMul, ite_true, ite_false, and_true, true_and, and_false, false_and, true_or, or_true, false_or, or_false, not_true_eq_false, not_false_eq_true, reduceIte, reduceCtorEq, eq_self] at *) <;> (first | omega | ((try simp (disch := first | omega | (simp (disch := first | omega | (simp (disch := first | omega | (simp only [Int32.reduceToInt]; omega)) only [Int32.reduceToInt]; omega)) only [Int32.reduceToInt]; omega)) only [Int32.reduceToInt] at *) <;> (first | omega | ((try simp (disch := first | omega | (simp (disch := first | omega | (simp (disch := first | omega | (simp only [Int32.reduceToInt]; omega)) only [Int32.reduceToInt]; omega)) only [Int32.reduceToInt]; omega)) only [Int32.reduceToInt] at *) <;> (first | omega | ((simp only [jadd, jsub, jmul, jneg, Int32.reduceToInt] at *) <;> omega))))))))))
set_option maxRecDepth 4000 in
theorem w_X7_product_L12 {b0 : SS} {N : Int} {rec : SS → Int32 → Option SS} {y1 : Int32} {Q : SS → Prop} (hrec : ∀ (s : SS) (d : Int32), Lk b0 s → Rs s → (0 ≤ d.toInt ∧ d.toInt ≤ 8 ∧ 8 - d.toInt < N) → Ok (rec s d) (fun r => Lk b0 r ∧ Rs r)) (g0 : 0 ≤ y1.toInt ∧ y1.toInt ≤ 8 ∧ 8 - y1.toInt < N) (hr : ∀ s, Lk b0 s → Rs s → Q s) : ∀ (n : Nat) (s : SS) (x2 : Int32) (x3 : Int32), Lk b0 s → (Rs s) → (0 ≤ x3.toInt ∧ x3.toInt ≤ 160) → 160 - x3.toInt < (n : Int) → Ok (f_X7_product_L12 rec y1 n s x2 x3) Q := by
  intro n
  induction n with
  | zero =>
    intro s x2 x3 K i0 i1 hm
    exfalso
    (first | with_reducible assumption | omega | ((try clear ih); (try clear hr); (try clear hq0); (try clear hq1); (try clear hrec); ((try simp only [inB, Rs, jlt, jeq, Int32.reduceToInt, Nat.reduceEqDiff, Nat.reduceAdd, Nat.reduceMul, ite_true, ite_false, and_true, true_and, and_false, false_and, true_or, or_true, false_or, or_false, not_true_eq_false, not_false_eq_true, reduceIte, reduceCtorEq, eq_self] at *) <;> (first | omega | ((try simp (disch := first | omega | (simp (disch := first | omega | (simp (disch := first | omega | (simp only [Int32.reduceToInt]; omega)) only [i32_add, i32_sub, Int32.reduceToInt]; omega)) only [i32_add, i32_sub, Int32.reduceToInt]; omega)) only [i32_add, i32_sub, Int32.reduceToInt] at *) <;> (first | omega | ((try simp (disch := first | omega | (simp (disch := first | omega | (simp (disch := first | omega | (simp only [Int32.reduceToInt]; omega)) only [i32_add, i32_sub, Int32.reduceToInt]; omega)) only [i32_add, i32_sub, Int32.reduceToInt]; omega)) only [i32_add, i32_sub, Int32.reduceToInt] at *) <;> (first | omega | ((simp only [jadd, jsub, jmul, jneg, Int32.reduceToInt] at *) <;> omega)))))))))
  | succ n ih =>
    intro s x2 x3 K i0 i1 hm
    show Ok (f_X7_product_L12_b rec y1 (f_X7_product_L12 rec y1 n) s x2 x3) Q
    unfold f_X7_product_L12_b
    repeat' (first
      | with_reducible assumption
      | (with_reducible show Ok _ _; first | dsimp only | with_reducible refine Ok_some ?_ | with_reducible refine Ok_vl ?_ | with_reducible refine Ok_b1 ?_ | with_reducible refine Ok_bd ?_ | with_reducible refine Ok_ift (by decide) ?_ | with_reducible refine Ok_iff (by decide) ?_ | with_reducible refine Ok_if (fun _ => ?_) (fun _ => ?_) | with_reducible refine ih _ _ _  ?_ ?_ ?_ ?_ | with_reducible refine Ok.mono (hrec _ _ ?_ ?_ ?_) (fun _ ⟨_, _⟩ => ?_) | with_reducible refine Ok.mono (w_X7_emit (b0 := b0) ?_ ?_) (fun _ ⟨_, _⟩ => ?_) | with_reducible refine Ok.mono (w_X7_timesOrOver (b0 := b0) ?_ ?_) (fun _ ⟨_, _⟩ => ?_))
      | dsimp only
      | with_reducible refine hr _ ?_ ?_
      | with_reducible refine And.intro ?_ ?_)
    all_goals (try (first | with_reducible assumption | exact trivial | omega | ((try clear ih); (try clear hr); (try clear hq0); (try clear hq1); (try clear hrec); ((try simp only [inB, Rs, jlt, jeq, Int32.reduceToInt, Nat.reduceEqDiff, Nat.reduceAdd, Nat.reduceMul, ite_true, ite_false, and_true, true_and, and_false, false_and, true_or, or_true, false_or, or_false, not_true_eq_false, not_false_eq_true, reduceIte, reduceCtorEq, eq_self] at *) <;> (first | omega | ((try simp (disch := first | omega | (simp (disch := first | omega | (simp (disch := first | omega | (simp only [Int32.reduceToInt]; omega)) only [i32_add, i32_sub, Int32.reduceToInt]; omega)) only [i32_add, i32_sub, Int32.reduceToInt]; omega)) only [i32_add, i32_sub, Int32.reduceToInt] at *) <;> (first | omega | ((try simp (disch := first | omega | (simp (disch := first | omega | (simp (disch := first | omega | (simp only [Int32.reduceToInt]; omega)) only [i32_add, i32_sub, Int32.reduceToInt]; omega)) only [i32_add, i32_sub, Int32.reduceToInt]; omega)) only [i32_add, i32_sub, Int32.reduceToInt] at *) <;> (first | omega | ((simp only [jadd, jsub, jmul, jneg, Int32.reduceToInt] at *) <;> omega))))))))))
set_option maxRecDepth 4000 in
theorem w_X7_product {b0 : SS} {N : Int} {rec : SS → Int32 → Option SS} {s0 : SS} {a0 : Int32} (hrec : ∀ (s : SS) (d : Int32), Lk b0 s → Rs s → (0 ≤ d.toInt ∧ d.toInt ≤ 8 ∧ 8 - d.toInt < N) → Ok (rec s d) (fun r => Lk b0 r ∧ Rs r)) (K : Lk b0 s0) (g0 : Rs s0) (g1 : 0 ≤ a0.toInt ∧ a0.toInt ≤ 8 ∧ 8 - a0.toInt < N) : Ok (f_X7_product rec s0 a0) (fun r => Lk b0 r ∧ Rs r) := by
  unfold f_X7_product
  repeat' (first
    | with_reducible assumption
    | (with_reducible show Ok _ _; first | dsimp only | with_reducible refine Ok_b1 ?_ | with_reducible refine Ok_bd ?_ | with_reducible refine Ok.mono (hrec _ _ ?_ ?_ ?_) (fun _ ⟨_, _⟩ => ?_) | with_reducible refine Ok.mono (w_X7_timesOrOver (b0 := b0) ?_ ?_) (fun _ ⟨_, _⟩ => ?_))
    | dsimp only
    | with_reducible refine w_X7_product_L12 (b0 := b0) (N := N) (by assumption) ?_ (fun _ _ _ => ?_) _ _ _ _  ?_ ?_ ?_ ?_
    | with_reducible refine And.intro ?_ ?_)
  all_goals (try (first | with_reducible assumption | exact trivial | omega | ((try clear ih); (try clear hr); (try clear hq0); (try clear hq1); (try clear hrec); ((try simp only [inB, Rs, jlt, jeq, Int32.reduceToInt, Nat.reduceEqDiff, Nat.reduceAdd, Nat.reduceMul, ite_true, ite_false, and_true, true_and, and_false, false_and, true_or, or_true, false_or, or_false, not_true_eq_false, not_false_eq_true, reduceIte, reduceCtorEq, eq_self] at *) <;> (first | omega | ((try simp (disch := first | omega | (simp (disch := first | omega | (simp (disch := first | omega | (simp only [Int32.reduceToInt]; omega)) only [i32_sub, Int32.reduceToInt]; omega)) only [i32_sub, Int32.reduceToInt]; omega)) only [i32_sub, Int32.reduceToInt] at *) <;> (first | omega | ((try simp (disch := first | omega | (simp (disch := first | omega | (simp (disch := first | omega | (simp only [Int32.reduceToInt]; omega)) only [i32_sub, Int32.reduceToInt]; omega)) only [i32_sub, Int32.reduceToInt]; omega)) only [i32_sub, Int32.reduceToInt] at *) <;> (first | omega | ((simp only [jadd, jsub, jmul, jneg, Int32.reduceToInt] at *) <;> omega))))))))))
set_option maxRecDepth 4000 in
theorem w_X7_sum_L12 {b0 : SS} {N : Int} {rec : SS → Int32 → Option SS} {y1 : Int32} {Q : SS → Prop} (hrec : ∀ (s : SS) (d : Int32), Lk b0 s → Rs s → (0 ≤ d.toInt ∧ d.toInt ≤ 8 ∧ 8 - d.toInt < N) → Ok (rec s d) (fun r => Lk b0 r ∧ Rs r)) (g0 : 0 ≤ y1.toInt ∧ y1.toInt ≤ 8 ∧ 8 - y1.toInt < N) (hr : ∀ s, Lk b0 s → Rs s → Q s) : ∀ (n : Nat) (s : SS) (x2 : Int32) (x3 : Int32), Lk b0 s → (Rs s) → (0 ≤ x3.toInt ∧ x3.toInt ≤ 160) → 160 - x3.toInt < (n : Int) → Ok (f_X7_sum_L12 rec y1 n s x2 x3) Q := by
  intro n
  induction n with
  | zero =>
    intro s x2 x3 K i0 i1 hm
    exfalso
    (first | with_reducible assumption | omega | ((try clear ih); (try clear hr); (try clear hq0); (try clear hq1); (try clear hrec); ((try simp only [inB, Rs, jlt, jeq, Int32.reduceToInt, Nat.reduceEqDiff, Nat.reduceAdd, Nat.reduceMul, ite_true, ite_false, and_true, true_and, and_false, false_and, true_or, or_true, false_or, or_false, not_true_eq_false, not_false_eq_true, reduceIte, reduceCtorEq, eq_self] at *) <;> (first | omega | ((try simp (disch := first | omega | (simp (disch := first | omega | (simp (disch := first | omega | (simp only [Int32.reduceToInt]; omega)) only [i32_add, i32_sub, Int32.reduceToInt]; omega)) only [i32_add, i32_sub, Int32.reduceToInt]; omega)) only [i32_add, i32_sub, Int32.reduceToInt] at *) <;> (first | omega | ((try simp (disch := first | omega | (simp (disch := first | omega | (simp (disch := first | omega | (simp only [Int32.reduceToInt]; omega)) only [i32_add, i32_sub, Int32.reduceToInt]; omega)) only [i32_add, i32_sub, Int32.reduceToInt]; omega)) only [i32_add, i32_sub, Int32.reduceToInt] at *) <;> (first | omega | ((simp only [jadd, jsub, jmul, jneg, Int32.reduceToInt] at *) <;> omega)))))))))
  | succ n ih =>
    intro s x2 x3 K i0 i1 hm
    show Ok (f_X7_sum_L12_b rec y1 (f_X7_sum_L12 rec y1 n) s x2 x3) Q
    unfold f_X7_sum_L12_b
    repeat' (first
      | with_reducible assumption
      | (with_reducible show Ok _ _; first | dsimp only | with_reducible refine Ok_some ?_ | with_reducible refine Ok_vl ?_ | with_reducible refine Ok_b1 ?_ | with_reducible refine Ok_bd ?_ | with_reducible refine Ok_ift (by decide) ?_ | with_reducible refine Ok_iff (by decide) ?_ | with_reducible refine Ok_if (fun _ => ?_) (fun _ => ?_) | with_reducible refine ih _ _ _  ?_ ?_ ?_ ?_ | with_reducible refine Ok.mono (hrec _ _ ?_ ?_ ?_) (fun _ ⟨_, _⟩ => ?_) | with_reducible refine Ok.mono (w_X7_product (b0 := b0) (N := N) (by assumption) ?_ ?_ ?_) (fun _ ⟨_, _⟩ => ?_) | with_reducible refine Ok.mono (w_X7_emit (b0 := b0) ?_ ?_) (fun _ ⟨_, _⟩ => ?_) | with_reducible refine Ok.mono (w_X7_plusOrMinus (b0 := b0) ?_ ?_) (fun _ ⟨_, _⟩ => ?_))
      | dsimp only
      | with_reducible refine hr _ ?_ ?_
      | with_reducible refine And.intro ?_ ?_)
    all_goals (try (first | with_reducible assumption | exact trivial | omega | ((try clear ih); (try clear hr); (try clear hq0); (try clear hq1); (try clear hrec); ((try simp only [inB, Rs, jlt, jeq, Int32.reduceToInt, Nat.reduceEqDiff, Nat.reduceAdd, Nat.reduceMul, ite_true, ite_false, and_true, true_and, and_false, false_and, true_or, or_true, false_or, or_false, not_true_eq_false, not_false_eq_true, reduceIte, reduceCtorEq, eq_self] at *) <;> (first | omega | ((try simp (disch := first | omega | (simp (disch := first | omega | (simp (disch := first | omega | (simp only [Int32.reduceToInt]; omega)) only [i32_add, i32_sub, Int32.reduceToInt]; omega)) only [i32_add, i32_sub, Int32.reduceToInt]; omega)) only [i32_add, i32_sub, Int32.reduceToInt] at *) <;> (first | omega | ((try simp (disch := first | omega | (simp (disch := first | omega | (simp (disch := first | omega | (simp only [Int32.reduceToInt]; omega)) only [i32_add, i32_sub, Int32.reduceToInt]; omega)) only [i32_add, i32_sub, Int32.reduceToInt]; omega)) only [i32_add, i32_sub, Int32.reduceToInt] at *) <;> (first | omega | ((simp only [jadd, jsub, jmul, jneg, Int32.reduceToInt] at *) <;> omega))))))))))
set_option maxRecDepth 4000 in
theorem w_X7_sum {b0 : SS} {N : Int} {rec : SS → Int32 → Option SS} {s0 : SS} {a0 : Int32} (hrec : ∀ (s : SS) (d : Int32), Lk b0 s → Rs s → (0 ≤ d.toInt ∧ d.toInt ≤ 8 ∧ 8 - d.toInt < N) → Ok (rec s d) (fun r => Lk b0 r ∧ Rs r)) (K : Lk b0 s0) (g0 : Rs s0) (g1 : 0 ≤ a0.toInt ∧ a0.toInt ≤ 8 ∧ 8 - a0.toInt < N) : Ok (f_X7_sum rec s0 a0) (fun r => Lk b0 r ∧ Rs r) := by
  unfold f_X7_sum
  repeat' (first
    | with_reducible assumption
    | (with_reducible show Ok _ _; first | dsimp only | with_reducible refine Ok_b1 ?_ | with_reducible refine Ok_bd ?_ | with_reducible refine Ok.mono (hrec _ _ ?_ ?_ ?_) (fun _ ⟨_, _⟩ => ?_) | with_reducible refine Ok.mono (w_X7_product (b0 := b0) (N := N) (by assumption) ?_ ?_ ?_) (fun _ ⟨_, _⟩ => ?_) | with_reducible refine Ok.mono (w_X7_plusOrMinus (b0 := b0) ?_ ?_) (fun _ ⟨_, _⟩ => ?_))
    | dsimp only
    | with_reducible refine w_X7_sum_L12 (b0 := b0) (N := N) (by assumption) ?_ (fun _ _ _ => ?_) _ _ _ _  ?_ ?_ ?_ ?_
    | with_reducible refine And.intro ?_ ?_)
  all_goals (try (first | with_reducible assumption | exact trivial | omega | ((try clear ih); (try clear hr); (try clear hq0); (try clear hq1); (try clear hrec); ((try simp only [inB, Rs, jlt, jeq, Int32.reduceToInt, Nat.reduceEqDiff, Nat.reduceAdd, Nat.reduceMul, ite_true, ite_false, and_true, true_and, and_false, false_and, true_or, or_true, false_or, or_false, not_true_eq_false, not_false_eq_true, reduceIte, reduceCtorEq, eq_self] at *) <;> (first | omega | ((try simp (disch := first | omega | (simp (disch := first | omega | (simp (disch := first | omega | (simp only [Int32.reduceToInt]; omega)) only [i32_sub, Int32.reduceToInt]; omega)) only [i32_sub, Int32.reduceToInt]; omega)) only [i32_sub, Int32.reduceToInt] at *) <;> (first | omega | ((try simp (disch := first | omega | (simp (disch := first | omega | (simp (disch := first | omega | (simp only [Int32.reduceToInt]; omega)) only [i32_sub, Int32.reduceToInt]; omega)) only [i32_sub, Int32.reduceToInt]; omega)) only [i32_sub, Int32.reduceToInt] at *) <;> (first | omega | ((simp only [jadd, jsub, jmul, jneg, Int32.reduceToInt] at *) <;> omega))))))))))
set_option maxRecDepth 4000 in
theorem w_X7_compared {b0 : SS} {N : Int} {rec : SS → Int32 → Option SS} {s0 : SS} {a0 : Int32} (hrec : ∀ (s : SS) (d : Int32), Lk b0 s → Rs s → (0 ≤ d.toInt ∧ d.toInt ≤ 8 ∧ 8 - d.toInt < N) → Ok (rec s d) (fun r => Lk b0 r ∧ Rs r)) (K : Lk b0 s0) (g0 : Rs s0) (g1 : 0 ≤ a0.toInt ∧ a0.toInt ≤ 8 ∧ 8 - a0.toInt < N) : Ok (f_X7_compared rec s0 a0) (fun r => Lk b0 r ∧ Rs r) := by
  unfold f_X7_compared
  repeat' (first
    | with_reducible assumption
    | (with_reducible show Ok _ _; first | dsimp only | with_reducible refine Ok_some ?_ | with_reducible refine Lk_G60 (by assumption) ?_ (fun _ _ => ?_) | with_reducible refine Ok_jn ?_ | with_reducible refine Ok_b1 ?_ | with_reducible refine Ok_bd ?_ | with_reducible refine Ok_ift (by decide) ?_ | with_reducible refine Ok_iff (by decide) ?_ | with_reducible refine Ok_if (fun _ => ?_) (fun _ => ?_) | with_reducible refine Ok.mono (hrec _ _ ?_ ?_ ?_) (fun _ ⟨_, _⟩ => ?_) | with_reducible refine Ok.mono (w_X7_sum (b0 := b0) (N := N) (by assumption) ?_ ?_ ?_) (fun _ ⟨_, _⟩ => ?_) | with_reducible refine Ok.mono (w_X7_takes (b0 := b0) ?_ ?_) (fun _ ⟨_, _⟩ => ?_) | with_reducible refine Ok.mono (w_X7_emit (b0 := b0) ?_ ?_) (fun _ ⟨_, _⟩ => ?_))
    | dsimp only
    | with_reducible refine And.intro ?_ ?_)
  all_goals (try (first | with_reducible assumption | exact trivial | omega | ((try clear ih); (try clear hr); (try clear hq0); (try clear hq1); (try clear hrec); ((try simp only [inB, Rs, jlt, jeq, Int32.reduceToInt, jn13, jn14, jn15, Nat.reduceEqDiff, Nat.reduceAdd, Nat.reduceMul, ite_true, ite_false, and_true, true_and, and_false, false_and, true_or, or_true, false_or, or_false, not_true_eq_false, not_false_eq_true, reduceIte, reduceCtorEq, eq_self] at *) <;> (first | omega | ((try simp (disch := first | omega | (simp (disch := first | omega | (simp (disch := first | omega | (simp only [Int32.reduceToInt]; omega)) only [i32_sub, Int32.reduceToInt]; omega)) only [i32_sub, Int32.reduceToInt]; omega)) only [i32_sub, Int32.reduceToInt] at *) <;> (first | omega | ((try simp (disch := first | omega | (simp (disch := first | omega | (simp (disch := first | omega | (simp only [Int32.reduceToInt]; omega)) only [i32_sub, Int32.reduceToInt]; omega)) only [i32_sub, Int32.reduceToInt]; omega)) only [i32_sub, Int32.reduceToInt] at *) <;> (first | omega | ((simp only [jadd, jsub, jmul, jneg, Int32.reduceToInt] at *) <;> omega))))))))))
set_option maxRecDepth 4000 in
theorem w_X7_both_L7 {b0 : SS} {N : Int} {rec : SS → Int32 → Option SS} {y1 : Int32} {Q : SS → Prop} (hrec : ∀ (s : SS) (d : Int32), Lk b0 s → Rs s → (0 ≤ d.toInt ∧ d.toInt ≤ 8 ∧ 8 - d.toInt < N) → Ok (rec s d) (fun r => Lk b0 r ∧ Rs r)) (g0 : 0 ≤ y1.toInt ∧ y1.toInt ≤ 8 ∧ 8 - y1.toInt < N) (hr : ∀ s, Lk b0 s → Rs s → Q s) : ∀ (n : Nat) (s : SS) (x2 : Int32), Lk b0 s → (Rs s) → (0 ≤ x2.toInt ∧ x2.toInt ≤ 160) → 160 - x2.toInt < (n : Int) → Ok (f_X7_both_L7 rec y1 n s x2) Q := by
  intro n
  induction n with
  | zero =>
    intro s x2 K i0 i1 hm
    exfalso
    (first | with_reducible assumption | omega | ((try clear ih); (try clear hr); (try clear hq0); (try clear hq1); (try clear hrec); ((try simp only [inB, Rs, jlt, jeq, Int32.reduceToInt, jn12, Nat.reduceEqDiff, Nat.reduceAdd, Nat.reduceMul, ite_true, ite_false, and_true, true_and, and_false, false_and, true_or, or_true, false_or, or_false, not_true_eq_false, not_false_eq_true, reduceIte, reduceCtorEq, eq_self] at *) <;> (first | omega | ((try simp (disch := first | omega | (simp (disch := first | omega | (simp (disch := first | omega | (simp only [Int32.reduceToInt]; omega)) only [i32_add, i32_sub, Int32.reduceToInt]; omega)) only [i32_add, i32_sub, Int32.reduceToInt]; omega)) only [i32_add, i32_sub, Int32.reduceToInt] at *) <;> (first | omega | ((try simp (disch := first | omega | (simp (disch := first | omega | (simp (disch := first | omega | (simp only [Int32.reduceToInt]; omega)) only [i32_add, i32_sub, Int32.reduceToInt]; omega)) only [i32_add, i32_sub, Int32.reduceToInt]; omega)) only [i32_add, i32_sub, Int32.reduceToInt] at *) <;> (first | omega | ((simp only [jadd, jsub, jmul, jneg, Int32.reduceToInt] at *) <;> omega)))))))))
  | succ n ih =>
    intro s x2 K i0 i1 hm
    show Ok (f_X7_both_L7_b rec y1 (f_X7_both_L7 rec y1 n) s x2) Q
    unfold f_X7_both_L7_b
    repeat' (first
      | with_reducible assumption
      | (with_reducible show Ok _ _; first | dsimp only | with_reducible refine Ok_some ?_ | with_reducible refine Ok_vl ?_ | with_reducible refine Ok_b1 ?_ | with_reducible refine Ok_bd ?_ | with_reducible refine Ok_ift (by decide) ?_ | with_reducible refine Ok_iff (by decide) ?_ | with_reducible refine Ok_if (fun _ => ?_) (fun _ => ?_) | with_reducible refine ih _ _  ?_ ?_ ?_ ?_ | with_reducible refine Ok.mono (hrec _ _ ?_ ?_ ?_) (fun _ ⟨_, _⟩ => ?_) | with_reducible refine Ok.mono (w_X7_takes (b0 := b0) ?_ ?_) (fun _ ⟨_, _⟩ => ?_) | with_reducible refine Ok.mono (w_X7_compared (b0 := b0) (N := N) (by assumption) ?_ ?_ ?_) (fun _ ⟨_, _⟩ => ?_) | with_reducible refine Ok.mono (w_X7_emit (b0 := b0) ?_ ?_) (fun _ ⟨_, _⟩ => ?_))
      | dsimp only
      | with_reducible refine hr _ ?_ ?_
      | with_reducible refine And.intro ?_ ?_)
    all_goals (try (first | with_reducible assumption | exact trivial | omega | ((try clear ih); (try clear hr); (try clear hq0); (try clear hq1); (try clear hrec); ((try simp only [inB, Rs, jlt, jeq, Int32.reduceToInt, jn12, Nat.reduceEqDiff, Nat.reduceAdd, Nat.reduceMul, ite_true, ite_false, and_true, true_and, and_false, false_and, true_or, or_true, false_or, or_false, not_true_eq_false, not_false_eq_true, reduceIte, reduceCtorEq, eq_self] at *) <;> (first | omega | ((try simp (disch := first | omega | (simp (disch := first | omega | (simp (disch := first | omega | (simp only [Int32.reduceToInt]; omega)) only [i32_add, i32_sub, Int32.reduceToInt]; omega)) only [i32_add, i32_sub, Int32.reduceToInt]; omega)) only [i32_add, i32_sub, Int32.reduceToInt] at *) <;> (first | omega | ((try simp (disch := first | omega | (simp (disch := first | omega | (simp (disch := first | omega | (simp only [Int32.reduceToInt]; omega)) only [i32_add, i32_sub, Int32.reduceToInt]; omega)) only [i32_add, i32_sub, Int32.reduceToInt]; omega)) only [i32_add, i32_sub, Int32.reduceToInt] at *) <;> (first | omega | ((simp only [jadd, jsub, jmul, jneg, Int32.reduceToInt] at *) <;> omega))))))))))
set_option maxRecDepth 4000 in
theorem w_X7_both {b0 : SS} {N : Int} {rec : SS → Int32 → Option SS} {s0 : SS} {a0 : Int32} (hrec : ∀ (s : SS) (d : Int32), Lk b0 s → Rs s → (0 ≤ d.toInt ∧ d.toInt ≤ 8 ∧ 8 - d.toInt < N) → Ok (rec s d) (fun r => Lk b0 r ∧ Rs r)) (K : Lk b0 s0) (g0 : Rs s0) (g1 : 0 ≤ a0.toInt ∧ a0.toInt ≤ 8 ∧ 8 - a0.toInt < N) : Ok (f_X7_both rec s0 a0) (fun r => Lk b0 r ∧ Rs r) := by
  unfold f_X7_both
  repeat' (first
    | with_reducible assumption
    | (with_reducible show Ok _ _; first | dsimp only | with_reducible refine Ok_b1 ?_ | with_reducible refine Ok.mono (hrec _ _ ?_ ?_ ?_) (fun _ ⟨_, _⟩ => ?_) | with_reducible refine Ok.mono (w_X7_compared (b0 := b0) (N := N) (by assumption) ?_ ?_ ?_) (fun _ ⟨_, _⟩ => ?_))
    | dsimp only
    | with_reducible refine w_X7_both_L7 (b0 := b0) (N := N) (by assumption) ?_ (fun _ _ _ => ?_) _ _ _  ?_ ?_ ?_ ?_
    | with_reducible refine And.intro ?_ ?_)
  all_goals (try (first | with_reducible assumption | exact trivial | omega | ((try clear ih); (try clear hr); (try clear hq0); (try clear hq1); (try clear hrec); ((try simp only [inB, Rs, jlt, jeq, Int32.reduceToInt, Nat.reduceEqDiff, Nat.reduceAdd, Nat.reduceMul, ite_true, ite_false, and_true, true_and, and_false, false_and, true_or, or_true, false_or, or_false, not_true_eq_false, not_false_eq_true, reduceIte, reduceCtorEq, eq_self] at *) <;> (first | omega | ((try simp (disch := first | omega | (simp (disch := first | omega | (simp (disch := first | omega | (simp only [Int32.reduceToInt]; omega)) only [i32_sub, Int32.reduceToInt]; omega)) only [i32_sub, Int32.reduceToInt]; omega)) only [i32_sub, Int32.reduceToInt] at *) <;> (first | omega | ((try simp (disch := first | omega | (simp (disch := first | omega | (simp (disch := first | omega | (simp only [Int32.reduceToInt]; omega)) only [i32_sub, Int32.reduceToInt]; omega)) only [i32_sub, Int32.reduceToInt]; omega)) only [i32_sub, Int32.reduceToInt] at *) <;> (first | omega | ((simp only [jadd, jsub, jmul, jneg, Int32.reduceToInt] at *) <;> omega))))))))))
set_option maxRecDepth 4000 in
theorem w_X7_either_L7 {b0 : SS} {N : Int} {rec : SS → Int32 → Option SS} {y1 : Int32} {Q : SS → Prop} (hrec : ∀ (s : SS) (d : Int32), Lk b0 s → Rs s → (0 ≤ d.toInt ∧ d.toInt ≤ 8 ∧ 8 - d.toInt < N) → Ok (rec s d) (fun r => Lk b0 r ∧ Rs r)) (g0 : 0 ≤ y1.toInt ∧ y1.toInt ≤ 8 ∧ 8 - y1.toInt < N) (hr : ∀ s, Lk b0 s → Rs s → Q s) : ∀ (n : Nat) (s : SS) (x2 : Int32), Lk b0 s → (Rs s) → (0 ≤ x2.toInt ∧ x2.toInt ≤ 160) → 160 - x2.toInt < (n : Int) → Ok (f_X7_either_L7 rec y1 n s x2) Q := by
  intro n
  induction n with
  | zero =>
    intro s x2 K i0 i1 hm
    exfalso
    (first | with_reducible assumption | omega | ((try clear ih); (try clear hr); (try clear hq0); (try clear hq1); (try clear hrec); ((try simp only [inB, Rs, jlt, jeq, Int32.reduceToInt, jn11, Nat.reduceEqDiff, Nat.reduceAdd, Nat.reduceMul, ite_true, ite_false, and_true, true_and, and_false, false_and, true_or, or_true, false_or, or_false, not_true_eq_false, not_false_eq_true, reduceIte, reduceCtorEq, eq_self] at *) <;> (first | omega | ((try simp (disch := first | omega | (simp (disch := first | omega | (simp (disch := first | omega | (simp only [Int32.reduceToInt]; omega)) only [i32_add, i32_sub, Int32.reduceToInt]; omega)) only [i32_add, i32_sub, Int32.reduceToInt]; omega)) only [i32_add, i32_sub, Int32.reduceToInt] at *) <;> (first | omega | ((try simp (disch := first | omega | (simp (disch := first | omega | (simp (disch := first | omega | (simp only [Int32.reduceToInt]; omega)) only [i32_add, i32_sub, Int32.reduceToInt]; omega)) only [i32_add, i32_sub, Int32.reduceToInt]; omega)) only [i32_add, i32_sub, Int32.reduceToInt] at *) <;> (first | omega | ((simp only [jadd, jsub, jmul, jneg, Int32.reduceToInt] at *) <;> omega)))))))))
  | succ n ih =>
    intro s x2 K i0 i1 hm
    show Ok (f_X7_either_L7_b rec y1 (f_X7_either_L7 rec y1 n) s x2) Q
    unfold f_X7_either_L7_b
    repeat' (first
      | with_reducible assumption
      | (with_reducible show Ok _ _; first | dsimp only | with_reducible refine Ok_some ?_ | with_reducible refine Ok_vl ?_ | with_reducible refine Ok_b1 ?_ | with_reducible refine Ok_bd ?_ | with_reducible refine Ok_ift (by decide) ?_ | with_reducible refine Ok_iff (by decide) ?_ | with_reducible refine Ok_if (fun _ => ?_) (fun _ => ?_) | with_reducible refine ih _ _  ?_ ?_ ?_ ?_ | with_reducible refine Ok.mono (hrec _ _ ?_ ?_ ?_) (fun _ ⟨_, _⟩ => ?_) | with_reducible refine Ok.mono (w_X7_takes (b0 := b0) ?_ ?_) (fun _ ⟨_, _⟩ => ?_) | with_reducible refine Ok.mono (w_X7_both (b0 := b0) (N := N) (by assumption) ?_ ?_ ?_) (fun _ ⟨_, _⟩ => ?_) | with_reducible refine Ok.mono (w_X7_emit (b0 := b0) ?_ ?_) (fun _ ⟨_, _⟩ => ?_))
      | dsimp only
      | with_reducible refine hr _ ?_ ?_
      | with_reducible refine And.intro ?_ ?_)
    all_goals (try (first | with_reducible assumption | exact trivial | omega | ((try clear ih); (try clear hr); (try clear hq0); (try clear hq1); (try clear hrec); ((try simp only [inB, Rs, jlt, jeq, Int32.reduceToInt, jn11, Nat.reduceEqDiff, Nat.reduceAdd, Nat.reduceMul, ite_true, ite_false, and_true, true_and, and_false, false_and, true_or, or_true, false_or, or_false, not_true_eq_false, not_false_eq_true, reduceIte, reduceCtorEq, eq_self] at *) <;> (first | omega | ((try simp (disch := first | omega | (simp (disch := first | omega | (simp (disch := first | omega | (simp only [Int32.reduceToInt]; omega)) only [i32_add, i32_sub, Int32.reduceToInt]; omega)) only [i32_add, i32_sub, Int32.reduceToInt]; omega)) only [i32_add, i32_sub, Int32.reduceToInt] at *) <;> (first | omega | ((try simp (disch := first | omega | (simp (disch := first | omega | (simp (disch := first | omega | (simp only [Int32.reduceToInt]; omega)) only [i32_add, i32_sub, Int32.reduceToInt]; omega)) only [i32_add, i32_sub, Int32.reduceToInt]; omega)) only [i32_add, i32_sub, Int32.reduceToInt] at *) <;> (first | omega | ((simp only [jadd, jsub, jmul, jneg, Int32.reduceToInt] at *) <;> omega))))))))))
set_option maxRecDepth 4000 in
theorem w_X7_either {b0 : SS} {N : Int} {rec : SS → Int32 → Option SS} {s0 : SS} {a0 : Int32} (hrec : ∀ (s : SS) (d : Int32), Lk b0 s → Rs s → (0 ≤ d.toInt ∧ d.toInt ≤ 8 ∧ 8 - d.toInt < N) → Ok (rec s d) (fun r => Lk b0 r ∧ Rs r)) (K : Lk b0 s0) (g0 : Rs s0) (g1 : 0 ≤ a0.toInt ∧ a0.toInt ≤ 8 ∧ 8 - a0.toInt < N) : Ok (f_X7_either rec s0 a0) (fun r => Lk b0 r ∧ Rs r) := by
  unfold f_X7_either
  repeat' (first
    | with_reducible assumption
    | (with_reducible show Ok _ _; first | dsimp only | with_reducible refine Ok_b1 ?_ | with_reducible refine Ok.mono (hrec _ _ ?_ ?_ ?_) (fun _ ⟨_, _⟩ => ?_) | with_reducible refine Ok.mono (w_X7_both (b0 := b0) (N := N) (by assumption) ?_ ?_ ?_) (fun _ ⟨_, _⟩ => ?_))
    | dsimp only
    | with_reducible refine w_X7_either_L7 (b0 := b0) (N := N) (by assumption) ?_ (fun _ _ _ => ?_) _ _ _  ?_ ?_ ?_ ?_
    | with_reducible refine And.intro ?_ ?_)
  all_goals (try (first | with_reducible assumption | exact trivial | omega | ((try clear ih); (try clear hr); (try clear hq0); (try clear hq1); (try clear hrec); ((try simp only [inB, Rs, jlt, jeq, Int32.reduceToInt, Nat.reduceEqDiff, Nat.reduceAdd, Nat.reduceMul, ite_true, ite_false, and_true, true_and, and_false, false_and, true_or, or_true, false_or, or_false, not_true_eq_false, not_false_eq_true, reduceIte, reduceCtorEq, eq_self] at *) <;> (first | omega | ((try simp (disch := first | omega | (simp (disch := first | omega | (simp (disch := first | omega | (simp only [Int32.reduceToInt]; omega)) only [i32_sub, Int32.reduceToInt]; omega)) only [i32_sub, Int32.reduceToInt]; omega)) only [i32_sub, Int32.reduceToInt] at *) <;> (first | omega | ((try simp (disch := first | omega | (simp (disch := first | omega | (simp (disch := first | omega | (simp only [Int32.reduceToInt]; omega)) only [i32_sub, Int32.reduceToInt]; omega)) only [i32_sub, Int32.reduceToInt]; omega)) only [i32_sub, Int32.reduceToInt] at *) <;> (first | omega | ((simp only [jadd, jsub, jmul, jneg, Int32.reduceToInt] at *) <;> omega))))))))))
set_option maxRecDepth 4000 in
theorem w_X7_fails {b0 : SS} {s0 : SS} (K : Lk b0 s0) (g0 : Rs s0) : Ok (f_X7_fails s0) (fun r => Lk b0 r ∧ Rs r) := by
  unfold f_X7_fails
  repeat' (first
    | with_reducible assumption
    | (with_reducible show Ok _ _; first | dsimp only | with_reducible refine Ok_some ?_ | with_reducible refine Ok_vl ?_ | with_reducible refine Ok_st ?_ | with_reducible refine Ok_ift (by decide) ?_ | with_reducible refine Ok_iff (by decide) ?_ | with_reducible refine Ok_if (fun _ => ?_) (fun _ => ?_))
    | dsimp only
    | (with_reducible show Lk _ _; first | with_reducible refine Lk.wF ?_ (by decide) (by decide) (by decide) ?_)
    | with_reducible refine And.intro ?_ ?_)
  all_goals (try (first | with_reducible assumption | exact trivial | omega | ((try clear ih); (try clear hr); (try clear hq0); (try clear hq1); (try clear hrec); ((try simp only [inB, Rs, Rg, bF, jlt, jeq, Int32.reduceToInt, zS_pS, zI_pS, zN_pS, Nat.reduceEqDiff, Nat.reduceAdd, Nat.reduceMul, ite_true, ite_false, and_true, true_and, and_false, false_and, true_or, or_true, false_or, or_false, not_true_eq_false, not_false_eq_true, reduceIte, reduceCtorEq, eq_self] at *) <;> (first | omega | ((try simp (disch := first | omega | (simp (disch := first | omega | (simp (disch := first | omega | (simp only [Int32.reduceToInt]; omega)) only [Int32.reduceToInt]; omega)) only [Int32.reduceToInt]; omega)) only [Int32.reduceToInt] at *) <;> (first | omega | ((try simp (disch := first | omega | (simp (disch := first | omega | (simp (disch := first | omega | (simp only [Int32.reduceToInt]; omega)) only [Int32.reduceToInt]; omega)) only [Int32.reduceToInt]; omega)) only [Int32.reduceToInt] at *) <;> (first | omega | ((simp only [jadd, jsub, jmul, jneg, Int32.reduceToInt] at *) <;> omega))))))))))
set_option maxRecDepth 4000 in
theorem w_X7_isDigit {b0 : SS} {s0 : SS} (K : Lk b0 s0) (g0 : Rs s0) : Ok (f_X7_isDigit s0) (fun r => r.toInt = 0 ∨ (zS s0 24 4).toInt < (zS s0 24 1).toInt) := by
  unfold f_X7_isDigit
  have f0 := kf_24_1 K
  repeat' (first
    | with_reducible assumption
    | (with_reducible show Ok _ _; first | dsimp only | with_reducible refine Ok_some ?_ | with_reducible refine Ok_gd ?_ (fun _ => ?_) | with_reducible refine Ok_vl ?_ | with_reducible refine Ok_ift (by decide) ?_ | with_reducible refine Ok_iff (by decide) ?_ | with_reducible refine Ok_if (fun _ => ?_) (fun _ => ?_))
    | dsimp only
    | with_reducible refine And.intro ?_ ?_)
  all_goals (try (first | with_reducible assumption | exact trivial | omega | ((try clear ih); (try clear hr); (try clear hq0); (try clear hq1); (try clear hrec); ((try simp only [inB, Rs, jlt, jeq, Int32.reduceToInt, Nat.reduceEqDiff, Nat.reduceAdd, Nat.reduceMul, ite_true, ite_false, and_true, true_and, and_false, false_and, true_or, or_true, false_or, or_false, not_true_eq_false, not_false_eq_true, reduceIte, reduceCtorEq, eq_self] at *) <;> (first | omega | ((try simp (disch := first | omega | (simp (disch := first | omega | (simp (disch := first | omega | (simp only [Int32.reduceToInt]; omega)) only [Int32.reduceToInt]; omega)) only [Int32.reduceToInt]; omega)) only [Int32.reduceToInt] at *) <;> (first | omega | ((try simp (disch := first | omega | (simp (disch := first | omega | (simp (disch := first | omega | (simp only [Int32.reduceToInt]; omega)) only [Int32.reduceToInt]; omega)) only [Int32.reduceToInt]; omega)) only [Int32.reduceToInt] at *) <;> (first | omega | ((simp only [jadd, jsub, jmul, jneg, Int32.reduceToInt] at *) <;> omega))))))))))
set_option maxRecDepth 4000 in
theorem w_X7_name {b0 : SS} {s0 : SS} (K : Lk b0 s0) (g0 : Rs s0) : Ok (f_X7_name s0) (fun r => Lk b0 r ∧ Rs r) := by
  unfold f_X7_name
  have f0 := kf_24_1 K
  repeat' (first
    | with_reducible assumption
    | (with_reducible show Ok _ _; first | dsimp only | with_reducible refine Ok_some ?_ | with_reducible refine Ok_gd ?_ (fun _ => ?_) | with_reducible refine Ok_vl ?_ | with_reducible refine Ok_st ?_ | with_reducible refine Ok_jn ?_ | with_reducible refine Ok_b1 ?_ | with_reducible refine Ok_ift (by decide) ?_ | with_reducible refine Ok_iff (by decide) ?_ | with_reducible refine Ok_if (fun _ => ?_) (fun _ => ?_) | with_reducible refine Ok.mono (w_X7_fails (b0 := b0) ?_ ?_) (fun _ ⟨_, _⟩ => ?_) | with_reducible refine Ok.mono (w_X7_emit (b0 := b0) ?_ ?_) (fun _ ⟨_, _⟩ => ?_))
    | dsimp only
    | (with_reducible show Lk _ _; first | with_reducible refine Lk.wF ?_ (by decide) (by decide) (by decide) ?_)
    | with_reducible refine And.intro ?_ ?_)
  all_goals (try (first | with_reducible assumption | exact trivial | omega | ((try clear ih); (try clear hr); (try clear hq0); (try clear hq1); (try clear hrec); ((try simp only [inB, Rs, Rg, bF, jlt, jeq, Int32.reduceToInt, jn1, zS_pS, zI_pS, zN_pS, Nat.reduceEqDiff, Nat.reduceAdd, Nat.reduceMul, ite_true, ite_false, and_true, true_and, and_false, false_and, true_or, or_true, false_or, or_false, not_true_eq_false, not_false_eq_true, reduceIte, reduceCtorEq, eq_self] at *) <;> (first | omega | ((try simp (disch := first | omega | (simp (disch := first | omega | (simp (disch := first | omega | (simp only [Int32.reduceToInt]; omega)) only [i32_add, i32_sub, Int32.reduceToInt]; omega)) only [i32_add, i32_sub, Int32.reduceToInt]; omega)) only [i32_add, i32_sub, Int32.reduceToInt] at *) <;> (first | omega | ((try simp (disch := first | omega | (simp (disch := first | omega | (simp (disch := first | omega | (simp only [Int32.reduceToInt]; omega)) only [i32_add, i32_sub, Int32.reduceToInt]; omega)) only [i32_add, i32_sub, Int32.reduceToInt]; omega)) only [i32_add, i32_sub, Int32.reduceToInt] at *) <;> (first | omega | ((simp only [jadd, jsub, jmul, jneg, Int32.reduceToInt] at *) <;> omega))))))))))
set_option maxRecDepth 4000 in
theorem w_X7_number_L4 {b0 : SS} {q0 : SS → Int32 → Option SS} {Q : SS → Prop} (hq0 : ∀ (s : SS) (z0 : Int32), Lk b0 s → (Rs s) → Ok (q0 s z0) Q) : ∀ (n : Nat) (s : SS) (x1 : Int32) (x2 : Int32), Lk b0 s → (Rs s) → (0 ≤ x2.toInt ∧ x2.toInt ≤ 5) → 5 - x2.toInt < (n : Int) → Ok (f_X7_number_L4 q0 n s x1 x2) Q := by
  intro n
  induction n with
  | zero =>
    intro s x1 x2 K i0 i1 hm
    exfalso
    have e0 := kf_24_1 K
    (first | with_reducible assumption | omega | ((try clear ih); (try clear hr); (try clear hq0); (try clear hq1); (try clear hrec); ((try simp only [inB, Rs, Rg, bF, jlt, jeq, Int32.reduceToInt, zS_pS, zI_pS, zN_pS, Nat.reduceEqDiff, Nat.reduceAdd, Nat.reduceMul, ite_true, ite_false, and_true, true_and, and_false, false_and, true_or, or_true, false_or, or_false, not_true_eq_false, not_false_eq_true, reduceIte, reduceCtorEq, eq_self] at *) <;> (first | omega | ((try simp (disch := first | omega | (simp (disch := first | omega | (simp (disch := first | omega | (simp only [Int32.reduceToInt]; omega)) only [i32_add, i32_sub, i32_mul, Int32.reduceToInt]; omega)) only [i32_add, i32_sub, i32_mul, Int32.reduceToInt]; omega)) only [i32_add, i32_sub, i32_mul, Int32.reduceToInt] at *) <;> (first | omega | ((try simp (disch := first | omega | (simp (disch := first | omega | (simp (disch := first | omega | (simp only [Int32.reduceToInt]; omega)) only [i32_add, i32_sub, i32_mul, Int32.reduceToInt]; omega)) only [i32_add, i32_sub, i32_mul, Int32.reduceToInt]; omega)) only [i32_add, i32_sub, i32_mul, Int32.reduceToInt] at *) <;> (first | omega | ((simp only [jadd, jsub, jmul, jneg, Int32.reduceToInt] at *) <;> omega)))))))))
  | succ n ih =>
    intro s x1 x2 K i0 i1 hm
    show Ok (f_X7_number_L4_b q0 (f_X7_number_L4 q0 n) s x1 x2) Q
    unfold f_X7_number_L4_b
    have e0 := kf_24_1 K
    repeat' (first
      | with_reducible assumption
      | (with_reducible show Ok _ _; first | dsimp only | with_reducible refine Ok_gd ?_ (fun _ => ?_) | with_reducible refine Ok_vl ?_ | with_reducible refine Ok_st ?_ | with_reducible refine Ok_b1 ?_ | with_reducible refine Ok_ift (by decide) ?_ | with_reducible refine Ok_iff (by decide) ?_ | with_reducible refine Ok_if (fun _ => ?_) (fun _ => ?_) | with_reducible refine ih _ _ _  ?_ ?_ ?_ ?_ | with_reducible refine hq0 _ _  ?_ ?_ | with_reducible refine Ok.mono (w_X7_isDigit (b0 := b0) ?_ ?_) (fun _ _ => ?_))
      | dsimp only
      | (with_reducible show Lk _ _; first | with_reducible refine Lk.wF ?_ (by decide) (by decide) (by decide) ?_)
      | with_reducible refine And.intro ?_ ?_)
    all_goals (try (first | with_reducible assumption | exact trivial | omega | ((try clear ih); (try clear hr); (try clear hq0); (try clear hq1); (try clear hrec); ((try simp only [inB, Rs, Rg, bF, jlt, jeq, Int32.reduceToInt, zS_pS, zI_pS, zN_pS, Nat.reduceEqDiff, Nat.reduceAdd, Nat.reduceMul, ite_true, ite_false, and_true, true_and, and_false, false_and, true_or, or_true, false_or, or_false, not_true_eq_false, not_false_eq_true, reduceIte, reduceCtorEq, eq_self] at *) <;> (first | omega | ((try simp (disch := first | omega | (simp (disch := first | omega | (simp (disch := first | omega | (simp only [Int32.reduceToInt]; omega)) only [i32_add, i32_sub, i32_mul, Int32.reduceToInt]; omega)) only [i32_add, i32_sub, i32_mul, Int32.reduceToInt]; omega)) only [i32_add, i32_sub, i32_mul, Int32.reduceToInt] at *) <;> (first | omega | ((try simp (disch := first | omega | (simp (disch := first | omega | (simp (disch := first | omega | (simp only [Int32.reduceToInt]; omega)) only [i32_add, i32_sub, i32_mul, Int32.reduceToInt]; omega)) only [i32_add, i32_sub, i32_mul, Int32.reduceToInt]; omega)) only [i32_add, i32_sub, i32_mul, Int32.reduceToInt] at *) <;> (first | omega | ((simp only [jadd, jsub, jmul, jneg, Int32.reduceToInt] at *) <;> omega))))))))))
set_option maxRecDepth 4000 in
theorem w_X7_number {b0 : SS} {s0 : SS} (K : Lk b0 s0) (g0 : Rs s0) : Ok (f_X7_number s0) (fun r => Lk b0 r ∧ Rs r) := by
  unfold f_X7_number
  repeat' (first
    | with_reducible assumption
    | (with_reducible show Ok _ _; first | dsimp only | with_reducible refine Ok_some ?_ | with_reducible refine Ok_b1 ?_ | with_reducible refine Ok.mono (w_X7_emit (b0 := b0) ?_ ?_) (fun _ ⟨_, _⟩ => ?_))
    | dsimp only
    | with_reducible refine w_X7_number_L4 (b0 := b0) (fun _ _ _ _ => ?_) _ _ _ _  ?_ ?_ ?_ ?_
    | with_reducible refine And.intro ?_ ?_)
  all_goals (try (first | with_reducible assumption | exact trivial | omega | ((try clear ih); (try clear hr); (try clear hq0); (try clear hq1); (try clear hrec); ((try simp only [inB, Rs, jlt, jeq, Int32.reduceToInt, Nat.reduceEqDiff, Nat.reduceAdd, Nat.reduceMul, ite_true, ite_false, and_true, true_and, and_false, false_and, true_or, or_true, false_or, or_false, not_true_eq_false, not_false_eq_true, reduceIte, reduceCtorEq, eq_self] at *) <;> (first | omega | ((try simp (disch := first | omega | (simp (disch := first | omega | (simp (disch := first | omega | (simp only [Int32.reduceToInt]; omega)) only [i32_sub, Int32.reduceToInt]; omega)) only [i32_sub, Int32.reduceToInt]; omega)) only [i32_sub, Int32.reduceToInt] at *) <;> (first | omega | ((try simp (disch := first | omega | (simp (disch := first | omega | (simp (disch := first | omega | (simp only [Int32.reduceToInt]; omega)) only [i32_sub, Int32.reduceToInt]; omega)) only [i32_sub, Int32.reduceToInt]; omega)) only [i32_sub, Int32.reduceToInt] at *) <;> (first | omega | ((simp only [jadd, jsub, jmul, jneg, Int32.reduceToInt] at *) <;> omega))))))))))
set_option maxRecDepth 4000 in
theorem w_X7_single {b0 : SS} : ∀ (n : Nat) (s0 : SS) (a0 : Int32), Lk b0 s0 → (Rs s0) → (0 ≤ a0.toInt ∧ a0.toInt ≤ 8 ∧ 8 - a0.toInt < n) → Ok (f_X7_single n s0 a0) (fun r => Lk b0 r ∧ Rs r) := by
  intro n
  induction n with
  | zero =>
    intro s0 a0 K i0 i1
    exfalso
    (first | with_reducible assumption | omega | ((try clear ih); (try clear hr); (try clear hq0); (try clear hq1); (try clear hrec); ((try simp only [inB, Rs, jlt, jeq, Int32.reduceToInt, jn21, jn22, Nat.reduceEqDiff, Nat.reduceAdd, Nat.reduceMul, ite_true, ite_false, and_true, true_and, and_false, false_and, true_or, or_true, false_or, or_false, not_true_eq_false, not_false_eq_true, reduceIte, reduceCtorEq, eq_self] at *) <;> (first | omega | ((try simp (disch := first | omega | (simp (disch := first | omega | (simp (disch := first | omega | (simp only [Int32.reduceToInt]; omega)) only [i32_add, i32_sub, Int32.reduceToInt]; omega)) only [i32_add, i32_sub, Int32.reduceToInt]; omega)) only [i32_add, i32_sub, Int32.reduceToInt] at *) <;> (first | omega | ((try simp (disch := first | omega | (simp (disch := first | omega | (simp (disch := first | omega | (simp only [Int32.reduceToInt]; omega)) only [i32_add, i32_sub, Int32.reduceToInt]; omega)) only [i32_add, i32_sub, Int32.reduceToInt]; omega)) only [i32_add, i32_sub, Int32.reduceToInt] at *) <;> (first | omega | ((simp only [jadd, jsub, jmul, jneg, Int32.reduceToInt] at *) <;> omega)))))))))
  | succ n ih =>
    intro s0 a0 K i0 i1
    show Ok (f_X7_single_r (f_X7_single n) s0 a0) _
    unfold f_X7_single_r
    repeat' (first
      | with_reducible assumption
      | (with_reducible show Ok _ _; first | dsimp only | with_reducible refine Ok_some ?_ | with_reducible refine Lk_G40 (by assumption) ?_ (fun _ _ => ?_) | with_reducible refine Ok_jn ?_ | with_reducible refine Ok_b1 ?_ | with_reducible refine Ok_bd ?_ | with_reducible refine Ok_ift (by decide) ?_ | with_reducible refine Ok_iff (by decide) ?_ | with_reducible refine Ok_if (fun _ => ?_) (fun _ => ?_) | with_reducible refine Ok.mono (ih _ _  ?_ ?_ ?_ ) (fun _ ⟨_, _⟩ => ?_) | with_reducible refine Ok.mono (w_X7_isDigit (b0 := b0) ?_ ?_) (fun _ _ => ?_) | with_reducible refine Ok.mono (w_X7_name (b0 := b0) ?_ ?_) (fun _ ⟨_, _⟩ => ?_) | with_reducible refine Ok.mono (w_X7_takes (b0 := b0) ?_ ?_) (fun _ ⟨_, _⟩ => ?_) | with_reducible refine Ok.mono (w_X7_emit (b0 := b0) ?_ ?_) (fun _ ⟨_, _⟩ => ?_) | with_reducible refine Ok.mono (w_X7_either (b0 := b0) (N := (n : Int)) (fun _ _ h0 h1 h2 => ih _ _ h0 h1 h2) ?_ ?_ ?_) (fun _ ⟨_, _⟩ => ?_) | with_reducible refine Ok.mono (w_X7_fails (b0 := b0) ?_ ?_) (fun _ ⟨_, _⟩ => ?_) | with_reducible refine Ok.mono (w_X7_number (b0 := b0) ?_ ?_) (fun _ ⟨_, _⟩ => ?_))
      | dsimp only
      | with_reducible refine And.intro ?_ ?_)
    all_goals (try (first | with_reducible assumption | exact trivial | omega | ((try clear ih); (try clear hr); (try clear hq0); (try clear hq1); (try clear hrec); ((try simp only [inB, Rs, jlt, jeq, Int32.reduceToInt, jn21, jn22, Nat.reduceEqDiff, Nat.reduceAdd, Nat.reduceMul, ite_true, ite_false, and_true, true_and, and_false, false_and, true_or, or_true, false_or, or_false, not_true_eq_false, not_false_eq_true, reduceIte, reduceCtorEq, eq_self] at *) <;> (first | omega | ((try simp (disch := first | omega | (simp (disch := first | omega | (simp (disch := first | omega | (simp only [Int32.reduceToInt]; omega)) only [i32_add, i32_sub, Int32.reduceToInt]; omega)) only [i32_add, i32_sub, Int32.reduceToInt]; omega)) only [i32_add, i32_sub, Int32.reduceToInt] at *) <;> (first | omega | ((try simp (disch := first | omega | (simp (disch := first | omega | (simp (disch := first | omega | (simp only [Int32.reduceToInt]; omega)) only [i32_add, i32_sub, Int32.reduceToInt]; omega)) only [i32_add, i32_sub, Int32.reduceToInt]; omega)) only [i32_add, i32_sub, Int32.reduceToInt] at *) <;> (first | omega | ((simp only [jadd, jsub, jmul, jneg, Int32.reduceToInt] at *) <;> omega))))))))))
set_option maxRecDepth 4000 in
theorem w_X7_line {b0 : SS} {s0 : SS} (K : Lk b0 s0) (g0 : Rs s0) : Ok (f_X7_line s0) (fun r => Lk b0 r ∧ Rs r) := by
  unfold f_X7_line
  repeat' (first
    | with_reducible assumption
    | (with_reducible show Ok _ _; first | dsimp only | with_reducible refine Ok.mono (w_X7_either (b0 := b0) (N := ((12 : Nat) : Int)) (fun _ _ h1 h2 h3 => w_X7_single 12 _ _ h1 h2 h3) ?_ ?_ ?_) (fun _ ⟨_, _⟩ => ?_) | with_reducible refine Ok_some ?_ | with_reducible refine Ok_jn ?_ | with_reducible refine Ok_b1 ?_ | with_reducible refine Ok_bd ?_ | with_reducible refine Ok_ift (by decide) ?_ | with_reducible refine Ok_iff (by decide) ?_ | with_reducible refine Ok_if (fun _ => ?_) (fun _ => ?_) | with_reducible refine Ok.mono (w_X7_either (b0 := b0) (N := N) (by assumption) ?_ ?_ ?_) (fun _ ⟨_, _⟩ => ?_) | with_reducible refine Ok.mono (w_X7_single (b0 := b0) _ _ _  ?_ ?_ ?_ ) (fun _ ⟨_, _⟩ => ?_) | with_reducible refine Ok.mono (w_X7_takes (b0 := b0) ?_ ?_) (fun _ ⟨_, _⟩ => ?_) | with_reducible refine Ok.mono (w_X7_emit (b0 := b0) ?_ ?_) (fun _ ⟨_, _⟩ => ?_))
    | dsimp only
    | with_reducible refine And.intro ?_ ?_)
  all_goals (try (first | with_reducible assumption | exact trivial | omega | ((try clear ih); (try clear hr); (try clear hq0); (try clear hq1); (try clear hrec); ((try simp only [inB, Rs, jlt, jeq, Int32.reduceToInt, jn23, jn24, Nat.reduceEqDiff, Nat.reduceAdd, Nat.reduceMul, ite_true, ite_false, and_true, true_and, and_false, false_and, true_or, or_true, false_or, or_false, not_true_eq_false, not_false_eq_true, reduceIte, reduceCtorEq, eq_self] at *) <;> (first | omega | ((try simp (disch := first | omega | (simp (disch := first | omega | (simp (disch := first | omega | (simp only [Int32.reduceToInt]; omega)) only [i32_sub, Int32.reduceToInt]; omega)) only [i32_sub, Int32.reduceToInt]; omega)) only [i32_sub, Int32.reduceToInt] at *) <;> (first | omega | ((try simp (disch := first | omega | (simp (disch := first | omega | (simp (disch := first | omega | (simp only [Int32.reduceToInt]; omega)) only [i32_sub, Int32.reduceToInt]; omega)) only [i32_sub, Int32.reduceToInt]; omega)) only [i32_sub, Int32.reduceToInt] at *) <;> (first | omega | ((simp only [jadd, jsub, jmul, jneg, Int32.reduceToInt] at *) <;> omega))))))))))
set_option maxRecDepth 4000 in
theorem w_X7_compiled_L21 {b0 : SS} {q0 : SS → Option (Int32 × SS)} {Q : Int32 × SS → Prop} (hq0 : ∀ (s : SS), Lk b0 s → (Rs s) → Ok (q0 s) Q) : ∀ (n : Nat) (s : SS) (x1 : Int32), Lk b0 s → (Rs s) → (0 ≤ x1.toInt ∧ x1.toInt ≤ 160) → 160 - x1.toInt < (n : Int) → Ok (f_X7_compiled_L21 q0 n s x1) Q := by
  intro n
  induction n with
  | zero =>
    intro s x1 K i0 i1 hm
    exfalso
    (first | with_reducible assumption | omega | ((try clear ih); (try clear hr); (try clear hq0); (try clear hq1); (try clear hrec); ((try simp only [inB, Rs, jlt, jeq, Int32.reduceToInt, Nat.reduceEqDiff, Nat.reduceAdd, Nat.reduceMul, ite_true, ite_false, and_true, true_and, and_false, false_and, true_or, or_true, false_or, or_false, not_true_eq_false, not_false_eq_true, reduceIte, reduceCtorEq, eq_self] at *) <;> (first | omega | ((try simp (disch := first | omega | (simp (disch := first | omega | (simp (disch := first | omega | (simp only [Int32.reduceToInt]; omega)) only [i32_add, i32_sub, Int32.reduceToInt]; omega)) only [i32_add, i32_sub, Int32.reduceToInt]; omega)) only [i32_add, i32_sub, Int32.reduceToInt] at *) <;> (first | omega | ((try simp (disch := first | omega | (simp (disch := first | omega | (simp (disch := first | omega | (simp only [Int32.reduceToInt]; omega)) only [i32_add, i32_sub, Int32.reduceToInt]; omega)) only [i32_add, i32_sub, Int32.reduceToInt]; omega)) only [i32_add, i32_sub, Int32.reduceToInt] at *) <;> (first | omega | ((simp only [jadd, jsub, jmul, jneg, Int32.reduceToInt] at *) <;> omega)))))))))
  | succ n ih =>
    intro s x1 K i0 i1 hm
    show Ok (f_X7_compiled_L21_b q0 (f_X7_compiled_L21 q0 n) s x1) Q
    unfold f_X7_compiled_L21_b
    repeat' (first
      | with_reducible assumption
      | (with_reducible show Ok _ _; first | dsimp only | with_reducible refine Ok_vl ?_ | with_reducible refine Ok_b1 ?_ | with_reducible refine Ok_bd ?_ | with_reducible refine Ok_ift (by decide) ?_ | with_reducible refine Ok_iff (by decide) ?_ | with_reducible refine Ok_if (fun _ => ?_) (fun _ => ?_) | with_reducible refine ih _ _  ?_ ?_ ?_ ?_ | with_reducible refine hq0 _  ?_ ?_ | with_reducible refine Ok.mono (w_X7_takes (b0 := b0) ?_ ?_) (fun _ ⟨_, _⟩ => ?_) | with_reducible refine Ok.mono (w_X7_line (b0 := b0) ?_ ?_) (fun _ ⟨_, _⟩ => ?_))
      | dsimp only
      | with_reducible refine And.intro ?_ ?_)
    all_goals (try (first | with_reducible assumption | exact trivial | omega | ((try clear ih); (try clear hr); (try clear hq0); (try clear hq1); (try clear hrec); ((try simp only [inB, Rs, jlt, jeq, Int32.reduceToInt, Nat.reduceEqDiff, Nat.reduceAdd, Nat.reduceMul, ite_true, ite_false, and_true, true_and, and_false, false_and, true_or, or_true, false_or, or_false, not_true_eq_false, not_false_eq_true, reduceIte, reduceCtorEq, eq_self] at *) <;> (first | omega | ((try simp (disch := first | omega | (simp (disch := first | omega | (simp (disch := first | omega | (simp only [Int32.reduceToInt]; omega)) only [i32_add, i32_sub, Int32.reduceToInt]; omega)) only [i32_add, i32_sub, Int32.reduceToInt]; omega)) only [i32_add, i32_sub, Int32.reduceToInt] at *) <;> (first | omega | ((try simp (disch := first | omega | (simp (disch := first | omega | (simp (disch := first | omega | (simp only [Int32.reduceToInt]; omega)) only [i32_add, i32_sub, Int32.reduceToInt]; omega)) only [i32_add, i32_sub, Int32.reduceToInt]; omega)) only [i32_add, i32_sub, Int32.reduceToInt] at *) <;> (first | omega | ((simp only [jadd, jsub, jmul, jneg, Int32.reduceToInt] at *) <;> omega))))))))))
set_option maxRecDepth 4000 in
theorem w_X7_compiled {b0 : SS} {s0 : SS} (K : Lk b0 s0) (g0 : 0 ≤ (zS s0 0 8).toInt ∧ (zS s0 0 8).toInt ≤ 15) : Ok (f_X7_compiled s0) (fun r => Lk b0 r.2 ∧ Rs r.2) := by
  unfold f_X7_compiled
  have e0 := kf_24_1 K
  repeat' (first
    | with_reducible assumption
    | (with_reducible show Ok _ _; first | dsimp only | with_reducible refine Ok_some ?_ | with_reducible refine Ok_vl ?_ | with_reducible refine Ok_st ?_ | with_reducible refine Ok_b1 ?_ | with_reducible refine Ok_ift (by decide) ?_ | with_reducible refine Ok_iff (by decide) ?_ | with_reducible refine Ok_if (fun _ => ?_) (fun _ => ?_) | with_reducible refine Ok.mono (w_X7_line (b0 := b0) ?_ ?_) (fun _ ⟨_, _⟩ => ?_))
    | dsimp only
    | (with_reducible show Lk _ _; first | with_reducible refine Lk.wF ?_ (by decide) (by decide) (by decide) ?_)
    | with_reducible refine w_X7_compiled_L21 (b0 := b0) (fun _ _ _ => ?_) _ _ _  ?_ ?_ ?_ ?_
    | with_reducible refine And.intro ?_ ?_)
  all_goals (try (first | with_reducible assumption | exact trivial | omega | ((try clear ih); (try clear hr); (try clear hq0); (try clear hq1); (try clear hrec); ((try simp only [inB, Rs, Rg, bF, jlt, jeq, Int32.reduceToInt, jn1, zS_pS, zI_pS, zN_pS, Nat.reduceEqDiff, Nat.reduceAdd, Nat.reduceMul, ite_true, ite_false, and_true, true_and, and_false, false_and, true_or, or_true, false_or, or_false, not_true_eq_false, not_false_eq_true, reduceIte, reduceCtorEq, eq_self] at *) <;> (first | omega | ((try simp (disch := first | omega | (simp (disch := first | omega | (simp (disch := first | omega | (simp only [Int32.reduceToInt]; omega)) only [i32_sub, Int32.reduceToInt]; omega)) only [i32_sub, Int32.reduceToInt]; omega)) only [i32_sub, Int32.reduceToInt] at *) <;> (first | omega | ((try simp (disch := first | omega | (simp (disch := first | omega | (simp (disch := first | omega | (simp only [Int32.reduceToInt]; omega)) only [i32_sub, Int32.reduceToInt]; omega)) only [i32_sub, Int32.reduceToInt]; omega)) only [i32_sub, Int32.reduceToInt] at *) <;> (first | omega | ((simp only [jadd, jsub, jmul, jneg, Int32.reduceToInt] at *) <;> omega))))))))))
set_option maxRecDepth 4000 in
theorem w_X9_arrivals_L4 {b0 : SS} {q0 : SS → Int32 → Option SS} {y1 : Int32} {Q : SS → Prop} (hq0 : ∀ (s : SS) (z0 : Int32), Lk b0 s → (0 ≤ z0.toInt ∧ z0.toInt ≤ 40) → Ok (q0 s z0) Q) : ∀ (n : Nat) (s : SS) (x2 : Int32) (x3 : Int32), Lk b0 s → (0 ≤ x2.toInt ∧ x2.toInt ≤ x3.toInt) → (0 ≤ x3.toInt ∧ x3.toInt ≤ 40) → 40 - x3.toInt < (n : Int) → Ok (f_X9_arrivals_L4 q0 y1 n s x2 x3) Q := by
  intro n
  induction n with
  | zero =>
    intro s x2 x3 K i0 i1 hm
    exfalso
    (first | with_reducible assumption | omega | ((try clear ih); (try clear hr); (try clear hq0); (try clear hq1); (try clear hrec); ((try simp only [inB, Rg, cellOK, bF, bA, jlt, jeq, jd10, jm10, Int32.reduceToInt, zS_pS, zS_pI, zI_pI, zI_pS, zN_pS, zN_pI, Nat.reduceEqDiff, Nat.reduceAdd, Nat.reduceMul, ite_true, ite_false, and_true, true_and, and_false, false_and, true_or, or_true, false_or, or_false, not_true_eq_false, not_false_eq_true, reduceIte, reduceCtorEq, eq_self] at *) <;> (first | omega | ((try simp (disch := first | omega | (simp (disch := first | omega | (simp (disch := first | omega | (simp only [jd10, jm10, Int32.reduceToInt]; omega)) only [i32_add, i32_sub, jd10, jm10, Int32.reduceToInt]; omega)) only [i32_add, i32_sub, jd10, jm10, Int32.reduceToInt]; omega)) only [i32_add, i32_sub, jd10, jm10, Int32.reduceToInt] at *) <;> (first | omega | ((try simp (disch := first | omega | (simp (disch := first | omega | (simp (disch := first | omega | (simp only [jd10, jm10, Int32.reduceToInt]; omega)) only [i32_add, i32_sub, jd10, jm10, Int32.reduceToInt]; omega)) only [i32_add, i32_sub, jd10, jm10, Int32.reduceToInt]; omega)) only [i32_add, i32_sub, jd10, jm10, Int32.reduceToInt] at *) <;> (first | omega | ((simp only [jadd, jsub, jmul, jneg, Int32.reduceToInt] at *) <;> omega)))))))))
  | succ n ih =>
    intro s x2 x3 K i0 i1 hm
    show Ok (f_X9_arrivals_L4_b q0 y1 (f_X9_arrivals_L4 q0 y1 n) s x2 x3) Q
    unfold f_X9_arrivals_L4_b
    have f0 := kf_30_5 K
    repeat' (first
      | with_reducible assumption
      | (with_reducible show Ok _ _; first | dsimp only | with_reducible refine Ok_some ?_ | with_reducible refine Lk_G40 (by assumption) ?_ (fun _ _ => ?_) | with_reducible refine Ok_gd ?_ (fun _ => ?_) | with_reducible refine Ok_vl ?_ | with_reducible refine Ok_st ?_ | with_reducible refine Ok_jn ?_ | with_reducible refine Ok_b1 ?_ | with_reducible refine Ok_ift (by decide) ?_ | with_reducible refine Ok_iff (by decide) ?_ | with_reducible refine Ok_if (fun _ => ?_) (fun _ => ?_) | with_reducible refine ih _ _ _  ?_ ?_ ?_ ?_ | with_reducible refine hq0 _ _  ?_ ?_ | unfold f_X9_comesBelow)
      | dsimp only
      | (with_reducible show Lk _ _; first | with_reducible refine Lk.wI ?_ (by decide) (by decide) ?_ | with_reducible refine Lk.wF ?_ (by decide) (by decide) (by decide) ?_)
      | with_reducible refine And.intro ?_ ?_)
    all_goals (try (first | with_reducible assumption | exact trivial | omega | ((try clear ih); (try clear hr); (try clear hq0); (try clear hq1); (try clear hrec); ((try simp only [inB, Rg, cellOK, bF, bA, jlt, jeq, jd10, jm10, Int32.reduceToInt, zS_pS, zS_pI, zI_pI, zI_pS, zN_pS, zN_pI, Nat.reduceEqDiff, Nat.reduceAdd, Nat.reduceMul, ite_true, ite_false, and_true, true_and, and_false, false_and, true_or, or_true, false_or, or_false, not_true_eq_false, not_false_eq_true, reduceIte, reduceCtorEq, eq_self] at *) <;> (first | omega | ((try simp (disch := first | omega | (simp (disch := first | omega | (simp (disch := first | omega | (simp only [jd10, jm10, Int32.reduceToInt]; omega)) only [i32_add, i32_sub, jd10, jm10, Int32.reduceToInt]; omega)) only [i32_add, i32_sub, jd10, jm10, Int32.reduceToInt]; omega)) only [i32_add, i32_sub, jd10, jm10, Int32.reduceToInt] at *) <;> (first | omega | ((try simp (disch := first | omega | (simp (disch := first | omega | (simp (disch := first | omega | (simp only [jd10, jm10, Int32.reduceToInt]; omega)) only [i32_add, i32_sub, jd10, jm10, Int32.reduceToInt]; omega)) only [i32_add, i32_sub, jd10, jm10, Int32.reduceToInt]; omega)) only [i32_add, i32_sub, jd10, jm10, Int32.reduceToInt] at *) <;> (first | omega | ((simp only [jadd, jsub, jmul, jneg, Int32.reduceToInt] at *) <;> omega))))))))))
set_option maxRecDepth 4000 in
theorem w_X9_arrivals {b0 : SS} {s0 : SS} {a0 : Int32} (K : Lk b0 s0) : Ok (f_X9_arrivals s0 a0) (fun r => Lk b0 r) := by
  unfold f_X9_arrivals
  repeat' (first
    | with_reducible assumption
    | (with_reducible show Ok _ _; first | dsimp only | with_reducible refine Ok_some ?_ | with_reducible refine Ok_st ?_)
    | dsimp only
    | (with_reducible show Lk _ _; first | with_reducible refine Lk.wF ?_ (by decide) (by decide) (by decide) ?_)
    | with_reducible refine w_X9_arrivals_L4 (b0 := b0) (fun _ _ _ _ => ?_) _ _ _ _  ?_ ?_ ?_ ?_
    | with_reducible refine And.intro ?_ ?_)
  all_goals (try (first | with_reducible assumption | exact trivial | omega | ((try clear ih); (try clear hr); (try clear hq0); (try clear hq1); (try clear hrec); ((try simp only [inB, Rg, bF, jlt, jeq, Int32.reduceToInt, zS_pS, zI_pS, zN_pS, Nat.reduceEqDiff, Nat.reduceAdd, Nat.reduceMul, ite_true, ite_false, and_true, true_and, and_false, false_and, true_or, or_true, false_or, or_false, not_true_eq_false, not_false_eq_true, reduceIte, reduceCtorEq, eq_self] at *) <;> (first | omega | ((try simp (disch := first | omega | (simp (disch := first | omega | (simp (disch := first | omega | (simp only [Int32.reduceToInt]; omega)) only [i32_sub, Int32.reduceToInt]; omega)) only [i32_sub, Int32.reduceToInt]; omega)) only [i32_sub, Int32.reduceToInt] at *) <;> (first | omega | ((try simp (disch := first | omega | (simp (disch := first | omega | (simp (disch := first | omega | (simp only [Int32.reduceToInt]; omega)) only [i32_sub, Int32.reduceToInt]; omega)) only [i32_sub, Int32.reduceToInt]; omega)) only [i32_sub, Int32.reduceToInt] at *) <;> (first | omega | ((simp only [jadd, jsub, jmul, jneg, Int32.reduceToInt] at *) <;> omega))))))))))
set_option maxRecDepth 4000 in
theorem w_X10_joined {a0 : Int32} {a1 : Int32} {a2 : Int32} : Ok (f_X10_joined a0 a1 a2) (fun _ => True) := by
  unfold f_X10_joined
  repeat' (first
    | with_reducible assumption
    | (with_reducible show Ok _ _; first | dsimp only | with_reducible refine Ok_some ?_ | with_reducible refine Ok_gd ?_ (fun _ => ?_) | with_reducible refine Ok_ift (by decide) ?_ | with_reducible refine Ok_iff (by decide) ?_ | with_reducible refine Ok_if (fun _ => ?_) (fun _ => ?_))
    | dsimp only
    | with_reducible refine And.intro ?_ ?_)
  all_goals (try (first | with_reducible assumption | exact trivial | omega | ((try clear ih); (try clear hr); (try clear hq0); (try clear hq1); (try clear hrec); ((try simp only [inB, jlt, jeq, Int32.reduceToInt, jn11, jn12, jn13, jn14, jn15, jn16, jn17, jn18, jn19, jn20, Nat.reduceEqDiff, Nat.reduceAdd, Nat.reduceMul, ite_true, ite_false, and_true, true_and, and_false, false_and, true_or, or_true, false_or, or_false, not_true_eq_false, not_false_eq_true, reduceIte, reduceCtorEq, eq_self] at *) <;> (first | omega | ((try simp (disch := first | omega | (simp (disch := first | omega | (simp (disch := first | omega | (simp only [Int32.reduceToInt]; omega)) only [i32_add, i32_sub, i32_mul, Int32.reduceToInt]; omega)) only [i32_add, i32_sub, i32_mul, Int32.reduceToInt]; omega)) only [i32_add, i32_sub, i32_mul, Int32.reduceToInt] at *) <;> (first | omega | ((try simp (disch := first | omega | (simp (disch := first | omega | (simp (disch := first | omega | (simp only [Int32.reduceToInt]; omega)) only [i32_add, i32_sub, i32_mul, Int32.reduceToInt]; omega)) only [i32_add, i32_sub, i32_mul, Int32.reduceToInt]; omega)) only [i32_add, i32_sub, i32_mul, Int32.reduceToInt] at *) <;> (first | omega | ((simp only [jadd, jsub, jmul, jneg, Int32.reduceToInt] at *) <;> omega))))))))))
set_option maxRecDepth 4000 in
theorem w_X10_nameAt {b0 : SS} {s0 : SS} {a1 : Int32} (K : Lk b0 s0) : Ok (f_X10_nameAt s0 a1) (fun _ => True) := by
  unfold f_X10_nameAt
  repeat' (first
    | with_reducible assumption
    | (with_reducible show Ok _ _; first | dsimp only | with_reducible refine Ok_some ?_ | with_reducible refine Lk_G8 (by assumption) ?_ (fun _ _ => ?_) | with_reducible refine Ok_gd ?_ (fun _ => ?_) | with_reducible refine Ok_ift (by decide) ?_ | with_reducible refine Ok_iff (by decide) ?_ | with_reducible refine Ok_if (fun _ => ?_) (fun _ => ?_))
    | dsimp only
    | with_reducible refine And.intro ?_ ?_)
  all_goals (try (first | with_reducible assumption | exact trivial | omega | ((try clear ih); (try clear hr); (try clear hq0); (try clear hq1); (try clear hrec); ((try simp only [inB, jlt, jeq, Int32.reduceToInt, Nat.reduceEqDiff, Nat.reduceAdd, Nat.reduceMul, ite_true, ite_false, and_true, true_and, and_false, false_and, true_or, or_true, false_or, or_false, not_true_eq_false, not_false_eq_true, reduceIte, reduceCtorEq, eq_self] at *) <;> (first | omega | ((try simp (disch := first | omega | (simp (disch := first | omega | (simp (disch := first | omega | (simp only [Int32.reduceToInt]; omega)) only [Int32.reduceToInt]; omega)) only [Int32.reduceToInt]; omega)) only [Int32.reduceToInt] at *) <;> (first | omega | ((try simp (disch := first | omega | (simp (disch := first | omega | (simp (disch := first | omega | (simp only [Int32.reduceToInt]; omega)) only [Int32.reduceToInt]; omega)) only [Int32.reduceToInt]; omega)) only [Int32.reduceToInt] at *) <;> (first | omega | ((simp only [jadd, jsub, jmul, jneg, Int32.reduceToInt] at *) <;> omega))))))))))
set_option maxRecDepth 4000 in
theorem w_X10_worth_L8 {b0 : SS} {q0 : SS → Int32 → Option (Int32 × SS)} {p0 : Nat} {Q : Int32 × SS → Prop} (g0 : okT b0 p0) (g1 : zN b0 (p0 + 1) ≤ 161) (hr : ∀ v s, Lk b0 s → Q (v, s)) (hq0 : ∀ (s : SS) (z0 : Int32), Lk b0 s → (0 ≤ z0.toInt ∧ z0.toInt ≤ 63) → Ok (q0 s z0) Q) : ∀ (n : Nat) (s : SS) (x3 : Int32) (x4 : Int32) (x5 : Int32), Lk b0 s → (-1 ≤ x3.toInt ∧ x3.toInt ≤ 63) → (0 ≤ x5.toInt ∧ x5.toInt ≤ 161) → 161 - x5.toInt < (n : Int) → Ok (f_X10_worth_L8 q0 p0 n s x3 x4 x5) Q := by
  intro n
  induction n with
  | zero =>
    intro s x3 x4 x5 K i0 i1 hm
    exfalso
    have e0 := K.zN_ (p0 + 1)
    have e1 := ofN_ (n := zN s (p0 + 1)) (by rw [K.zN_]; assumption)
    (first | with_reducible assumption | omega | ((try clear ih); (try clear hr); (try clear hq0); (try clear hq1); (try clear hrec); ((try simp only [inB, Rg, cellOK, bA, jlt, jeq, Int32.reduceToInt, jn1, jn11, jn21, jn22, jn23, jn24, zS_pI, zI_pI, zN_pI, Nat.reduceEqDiff, Nat.reduceAdd, Nat.reduceMul, ite_true, ite_false, and_true, true_and, and_false, false_and, true_or, or_true, false_or, or_false, not_true_eq_false, not_false_eq_true, reduceIte, reduceCtorEq, eq_self] at *) <;> (first | omega | ((try simp (disch := first | omega | (simp (disch := first | omega | (simp (disch := first | omega | (simp only [Int32.reduceToInt]; omega)) only [i32_add, i32_sub, Int32.reduceToInt]; omega)) only [i32_add, i32_sub, Int32.reduceToInt]; omega)) only [i32_add, i32_sub, Int32.reduceToInt] at *) <;> (first | omega | ((try simp (disch := first | omega | (simp (disch := first | omega | (simp (disch := first | omega | (simp only [Int32.reduceToInt]; omega)) only [i32_add, i32_sub, Int32.reduceToInt]; omega)) only [i32_add, i32_sub, Int32.reduceToInt]; omega)) only [i32_add, i32_sub, Int32.reduceToInt] at *) <;> (first | omega | ((simp only [jadd, jsub, jmul, jneg, Int32.reduceToInt] at *) <;> omega)))))))))
  | succ n ih =>
    intro s x3 x4 x5 K i0 i1 hm
    show Ok (f_X10_worth_L8_b q0 p0 (f_X10_worth_L8 q0 p0 n) s x3 x4 x5) Q
    unfold f_X10_worth_L8_b
    have e0 := K.zN_ (p0 + 1)
    have e1 := ofN_ (n := zN s (p0 + 1)) (by rw [K.zN_]; assumption)
    repeat' (first
      | with_reducible assumption
      | (with_reducible show Ok _ _; first | dsimp only | with_reducible refine Ok_some ?_ | with_reducible refine Ok_gd ?_ (fun _ => ?_) | with_reducible refine Ok_vl ?_ | with_reducible refine Ok_st ?_ | with_reducible refine Ok_jn ?_ | with_reducible refine Ok_b1 ?_ | with_reducible refine Ok_ift (by decide) ?_ | with_reducible refine Ok_iff (by decide) ?_ | with_reducible refine Ok_if (fun _ => ?_) (fun _ => ?_) | with_reducible refine ih _ _ _ _  ?_ ?_ ?_ ?_ | with_reducible refine hq0 _ _  ?_ ?_ | with_reducible refine Ok.mono (w_X10_nameAt (b0 := b0) ?_) (fun _ _ => ?_) | with_reducible refine Ok.mono (w_X10_joined ) (fun _ _ => ?_) | unfold f_J9_min_7cf53)
      | dsimp only
      | (with_reducible show Lk _ _; first | with_reducible refine Lk.wI ?_ (by decide) (by decide) ?_)
      | with_reducible refine hr _ _ ?_
      | with_reducible refine And.intro ?_ ?_)
    all_goals (try (first | with_reducible assumption | exact trivial | omega | ((try clear ih); (try clear hr); (try clear hq0); (try clear hq1); (try clear hrec); ((try simp only [inB, Rg, cellOK, bA, jlt, jeq, Int32.reduceToInt, jn1, jn11, jn21, jn22, jn23, jn24, zS_pI, zI_pI, zN_pI, Nat.reduceEqDiff, Nat.reduceAdd, Nat.reduceMul, ite_true, ite_false, and_true, true_and, and_false, false_and, true_or, or_true, false_or, or_false, not_true_eq_false, not_false_eq_true, reduceIte, reduceCtorEq, eq_self] at *) <;> (first | omega | ((try simp (disch := first | omega | (simp (disch := first | omega | (simp (disch := first | omega | (simp only [Int32.reduceToInt]; omega)) only [i32_add, i32_sub, Int32.reduceToInt]; omega)) only [i32_add, i32_sub, Int32.reduceToInt]; omega)) only [i32_add, i32_sub, Int32.reduceToInt] at *) <;> (first | omega | ((try simp (disch := first | omega | (simp (disch := first | omega | (simp (disch := first | omega | (simp only [Int32.reduceToInt]; omega)) only [i32_add, i32_sub, Int32.reduceToInt]; omega)) only [i32_add, i32_sub, Int32.reduceToInt]; omega)) only [i32_add, i32_sub, Int32.reduceToInt] at *) <;> (first | omega | ((simp only [jadd, jsub, jmul, jneg, Int32.reduceToInt] at *) <;> omega))))))))))
set_option maxRecDepth 4000 in
theorem w_X10_worth {b0 : SS} {s0 : SS} {pt : Nat} (K : Lk b0 s0) (g0 : okT b0 pt) (g1 : zN b0 (pt + 1) ≤ 161) : Ok (f_X10_worth s0 pt) (fun r => Lk b0 r.2) := by
  unfold f_X10_worth
  repeat' (first
    | with_reducible assumption
    | (with_reducible show Ok _ _; first | dsimp only | with_reducible refine Ok_some ?_ | with_reducible refine Ok_gd ?_ (fun _ => ?_))
    | dsimp only
    | with_reducible refine w_X10_worth_L8 (b0 := b0) (by assumption) ?_ (fun _ _ _ => ?_) (fun _ _ _ _ => ?_) _ _ _ _ _  ?_ ?_ ?_ ?_
    | with_reducible refine And.intro ?_ ?_)
  all_goals (try (first | with_reducible assumption | exact trivial | omega | ((try clear ih); (try clear hr); (try clear hq0); (try clear hq1); (try clear hrec); ((try simp only [inB, jlt, jeq, Int32.reduceToInt, jn1, Nat.reduceEqDiff, Nat.reduceAdd, Nat.reduceMul, ite_true, ite_false, and_true, true_and, and_false, false_and, true_or, or_true, false_or, or_false, not_true_eq_false, not_false_eq_true, reduceIte, reduceCtorEq, eq_self] at *) <;> (first | omega | ((try simp (disch := first | omega | (simp (disch := first | omega | (simp (disch := first | omega | (simp only [Int32.reduceToInt]; omega)) only [i32_add, i32_sub, Int32.reduceToInt]; omega)) only [i32_add, i32_sub, Int32.reduceToInt]; omega)) only [i32_add, i32_sub, Int32.reduceToInt] at *) <;> (first | omega | ((try simp (disch := first | omega | (simp (disch := first | omega | (simp (disch := first | omega | (simp only [Int32.reduceToInt]; omega)) only [i32_add, i32_sub, Int32.reduceToInt]; omega)) only [i32_add, i32_sub, Int32.reduceToInt]; omega)) only [i32_add, i32_sub, Int32.reduceToInt] at *) <;> (first | omega | ((simp only [jadd, jsub, jmul, jneg, Int32.reduceToInt] at *) <;> omega))))))))))
set_option maxRecDepth 4000 in
theorem w_X11_placeOf {a0 : Int32} : Ok (f_X11_placeOf a0) (fun r => -1 ≤ r.toInt ∧ r.toInt ≤ 1919) := by
  unfold f_X11_placeOf
  repeat' (first
    | with_reducible assumption
    | (with_reducible show Ok _ _; first | dsimp only | with_reducible refine Ok_some ?_ | with_reducible refine Ok_b1 ?_ | with_reducible refine Ok_ift (by decide) ?_ | with_reducible refine Ok_iff (by decide) ?_ | with_reducible refine Ok_if (fun _ => ?_) (fun _ => ?_) | unfold f_X11_isYard)
    | dsimp only
    | with_reducible refine And.intro ?_ ?_)
  all_goals (try (first | with_reducible assumption | exact trivial | omega | ((try clear ih); (try clear hr); (try clear hq0); (try clear hq1); (try clear hrec); ((try simp only [inB, jlt, jeq, jd100, jm100, Int32.reduceToInt, jn1, Nat.reduceEqDiff, Nat.reduceAdd, Nat.reduceMul, ite_true, ite_false, and_true, true_and, and_false, false_and, true_or, or_true, false_or, or_false, not_true_eq_false, not_false_eq_true, reduceIte, reduceCtorEq, eq_self] at *) <;> (first | omega | ((try simp (disch := first | omega | (simp (disch := first | omega | (simp (disch := first | omega | (simp only [jd100, jm100, Int32.reduceToInt]; omega)) only [i32_add, i32_sub, i32_mul, jd100, jm100, Int32.reduceToInt]; omega)) only [i32_add, i32_sub, i32_mul, jd100, jm100, Int32.reduceToInt]; omega)) only [i32_add, i32_sub, i32_mul, jd100, jm100, Int32.reduceToInt] at *) <;> (first | omega | ((try simp (disch := first | omega | (simp (disch := first | omega | (simp (disch := first | omega | (simp only [jd100, jm100, Int32.reduceToInt]; omega)) only [i32_add, i32_sub, i32_mul, jd100, jm100, Int32.reduceToInt]; omega)) only [i32_add, i32_sub, i32_mul, jd100, jm100, Int32.reduceToInt]; omega)) only [i32_add, i32_sub, i32_mul, jd100, jm100, Int32.reduceToInt] at *) <;> (first | omega | ((simp only [jadd, jsub, jmul, jneg, Int32.reduceToInt] at *) <;> omega))))))))))
set_option maxRecDepth 4000 in
theorem w_X11_ofCell {b0 : SS} {s0 : SS} {a0 : Int32} {a1 : Int32} (K : Lk b0 s0) : Ok (f_X11_ofCell s0 a0 a1) (fun _ => True) := by
  unfold f_X11_ofCell
  repeat' (first
    | with_reducible assumption
    | (with_reducible show Ok _ _; first | dsimp only | with_reducible refine Ok_some ?_ | with_reducible refine Ok_gd ?_ (fun _ => ?_) | with_reducible refine Ok_b1 ?_ | with_reducible refine Ok_ift (by decide) ?_ | with_reducible refine Ok_iff (by decide) ?_ | with_reducible refine Ok_if (fun _ => ?_) (fun _ => ?_) | with_reducible refine Ok.mono (w_X11_placeOf ) (fun _ _ => ?_))
    | dsimp only
    | with_reducible refine And.intro ?_ ?_)
  all_goals (try (first | with_reducible assumption | exact trivial | omega | ((try clear ih); (try clear hr); (try clear hq0); (try clear hq1); (try clear hrec); ((try simp only [inB, jlt, jeq, Int32.reduceToInt, jn1, Nat.reduceEqDiff, Nat.reduceAdd, Nat.reduceMul, ite_true, ite_false, and_true, true_and, and_false, false_and, true_or, or_true, false_or, or_false, not_true_eq_false, not_false_eq_true, reduceIte, reduceCtorEq, eq_self] at *) <;> (first | omega | ((try simp (disch := first | omega | (simp (disch := first | omega | (simp (disch := first | omega | (simp only [Int32.reduceToInt]; omega)) only [Int32.reduceToInt]; omega)) only [Int32.reduceToInt]; omega)) only [Int32.reduceToInt] at *) <;> (first | omega | ((try simp (disch := first | omega | (simp (disch := first | omega | (simp (disch := first | omega | (simp only [Int32.reduceToInt]; omega)) only [Int32.reduceToInt]; omega)) only [Int32.reduceToInt]; omega)) only [Int32.reduceToInt] at *) <;> (first | omega | ((simp only [jadd, jsub, jmul, jneg, Int32.reduceToInt] at *) <;> omega))))))))))
set_option maxRecDepth 4000 in
theorem w_X11_ofBody {b0 : SS} {s0 : SS} {a0 : Int32} {a1 : Int32} (K : Lk b0 s0) : Ok (f_X11_ofBody s0 a0 a1) (fun _ => True) := by
  unfold f_X11_ofBody
  have f0 := kf_15_3 K
  repeat' (first
    | with_reducible assumption
    | (with_reducible show Ok _ _; first | dsimp only | with_reducible refine Ok_some ?_ | with_reducible refine Lk_G120 (by assumption) ?_ (fun _ _ _ _ _ => ?_) | with_reducible refine Lk_G3 (by assumption) ?_ (fun _ _ => ?_) | with_reducible refine Lk_G8 (by assumption) ?_ (fun _ _ => ?_) | with_reducible refine Lk_G6 (by assumption) ?_ (fun _ _ _ => ?_) | with_reducible refine Ok_gd ?_ (fun _ => ?_) | with_reducible refine Ok_b1 ?_ | with_reducible refine Ok_onN ?_ | with_reducible refine Ok_onS ?_ | with_reducible refine Ok_ift (by decide) ?_ | with_reducible refine Ok_iff (by decide) ?_ | with_reducible refine Ok_if (fun _ => ?_) (fun _ => ?_) | with_reducible refine Lk_onH (b0 := b0) ?_ (by assumption) (fun _ => ?_) (fun _ _ _ _ _ _ => ?_) | with_reducible refine Ok.mono (w_X0_kindOf (b0 := b0) ?_) (fun _ _ => ?_) | unfold f_X0_holeOf | unfold f_X0_ofRefuge | unfold f_X2_ofMan | unfold f_X3_told)
    | dsimp only
    | with_reducible refine And.intro ?_ ?_)
  all_goals (try (first | with_reducible assumption | exact trivial | omega | ((try clear ih); (try clear hr); (try clear hq0); (try clear hq1); (try clear hrec); ((try simp only [inB, jlt, jeq, Int32.reduceToInt, jn1, jn2000000000, Nat.reduceEqDiff, Nat.reduceAdd, Nat.reduceMul, ite_true, ite_false, and_true, true_and, and_false, false_and, true_or, or_true, false_or, or_false, not_true_eq_false, not_false_eq_true, reduceIte, reduceCtorEq, eq_self] at *) <;> (first | omega | ((try simp (disch := first | omega | (simp (disch := first | omega | (simp (disch := first | omega | (simp only [Int32.reduceToInt]; omega)) only [Int32.reduceToInt]; omega)) only [Int32.reduceToInt]; omega)) only [Int32.reduceToInt] at *) <;> (first | omega | ((try simp (disch := first | omega | (simp (disch := first | omega | (simp (disch := first | omega | (simp only [Int32.reduceToInt]; omega)) only [Int32.reduceToInt]; omega)) only [Int32.reduceToInt]; omega)) only [Int32.reduceToInt] at *) <;> (first | omega | ((simp only [jadd, jsub, jmul, jneg, Int32.reduceToInt] at *) <;> omega))))))))))
set_option maxRecDepth 4000 in
theorem w_X11_breaks {b0 : SS} {s0 : SS} {a0 : Int32} {a1 : Int32} (K : Lk b0 s0) : Ok (f_X11_breaks s0 a0 a1) (fun r => Lk b0 r.2) := by
  unfold f_X11_breaks
  repeat' (first
    | with_reducible assumption
    | (with_reducible show Ok _ _; first | dsimp only | with_reducible refine Ok_some ?_ | with_reducible refine Lk_G3 (by assumption) ?_ (fun _ _ => ?_) | with_reducible refine Ok_gd ?_ (fun _ => ?_) | with_reducible refine Ok_st ?_ | with_reducible refine Ok_b1 ?_ | with_reducible refine Ok_onN ?_ | with_reducible refine Ok_onS ?_ | with_reducible refine Ok_ift (by decide) ?_ | with_reducible refine Ok_iff (by decide) ?_ | with_reducible refine Ok_if (fun _ => ?_) (fun _ => ?_) | with_reducible refine Lk_onM (b0 := b0) ?_ (by assumption) (fun _ _ _ => ?_) | unfold f_X11_machineOf)
    | dsimp only
    | (with_reducible show Lk _ _; first | with_reducible refine Lk.wH ?_ (by assumption) ?_ | with_reducible refine Lk.wM ?_ (by assumption) (by decide) | with_reducible refine Lk.wC ?_ (by assumption))
    | with_reducible refine And.intro ?_ ?_)
  all_goals (try (first | with_reducible assumption | exact trivial | omega | ((try clear ih); (try clear hr); (try clear hq0); (try clear hq1); (try clear hrec); ((try simp only [inB, Rg, bH, jlt, jeq, Int32.reduceToInt, jn1, zS_pS, zI_pS, zN_pS, Nat.reduceEqDiff, Nat.reduceAdd, Nat.reduceMul, ite_true, ite_false, and_true, true_and, and_false, false_and, true_or, or_true, false_or, or_false, not_true_eq_false, not_false_eq_true, reduceIte, reduceCtorEq, eq_self] at *) <;> (first | omega | ((try simp (disch := first | omega | (simp (disch := first | omega | (simp (disch := first | omega | (simp only [Int32.reduceToInt]; omega)) only [Int32.reduceToInt]; omega)) only [Int32.reduceToInt]; omega)) only [Int32.reduceToInt] at *) <;> (first | omega | ((try simp (disch := first | omega | (simp (disch := first | omega | (simp (disch := first | omega | (simp only [Int32.reduceToInt]; omega)) only [Int32.reduceToInt]; omega)) only [Int32.reduceToInt]; omega)) only [Int32.reduceToInt] at *) <;> (first | omega | ((simp only [jadd, jsub, jmul, jneg, Int32.reduceToInt] at *) <;> omega))))))))))
set_option maxRecDepth 4000 in
theorem w_X11_yard {b0 : SS} {s0 : SS} {a0 : Int32} {a1 : Int32} (K : Lk b0 s0) : Ok (f_X11_yard s0 a0 a1) (fun r => Lk b0 r.2) := by
  unfold f_X11_yard
  have f0 := kf_15_3 K
  repeat' (first
    | with_reducible assumption
    | (with_reducible show Ok _ _; first | dsimp only | with_reducible refine Ok_some ?_ | with_reducible refine Lk_G120 (by assumption) ?_ (fun _ _ _ _ _ => ?_) | with_reducible refine Lk_G3 (by assumption) ?_ (fun _ _ => ?_) | with_reducible refine Lk_G6 (by assumption) ?_ (fun _ _ _ => ?_) | with_reducible refine Ok_gd ?_ (fun _ => ?_) | with_reducible refine Ok_vl ?_ | with_reducible refine Ok_st ?_ | with_reducible refine Ok_b1 ?_ | with_reducible refine Ok_onN ?_ | with_reducible refine Ok_onS ?_ | with_reducible refine Ok_ift (by decide) ?_ | with_reducible refine Ok_iff (by decide) ?_ | with_reducible refine Ok_if (fun _ => ?_) (fun _ => ?_) | with_reducible refine Lk_onH (b0 := b0) ?_ (by assumption) (fun _ => ?_) (fun _ _ _ _ _ _ => ?_) | unfold f_X0_holeOf)
    | dsimp only
    | (with_reducible show Lk _ _; first | with_reducible refine Lk.wH ?_ (by assumption) ?_ | with_reducible refine Lk.wM ?_ (by assumption) (by decide) | with_reducible refine Lk.wC ?_ (by assumption) | with_reducible refine Lk.w1 ?_ (by assumption) | with_reducible refine Lk.wc1 ?_ (by assumption))
    | with_reducible refine And.intro ?_ ?_)
  all_goals (try (first | with_reducible assumption | exact trivial | omega | ((try clear ih); (try clear hr); (try clear hq0); (try clear hq1); (try clear hrec); ((try simp only [inB, Rg, bH, jlt, jeq, Int32.reduceToInt, jn1, jn2, jn3, zS_pS, zS_pI, zI_pI, zI_pS, zN_pS, zN_pI, Nat.reduceEqDiff, Nat.reduceAdd, Nat.reduceMul, ite_true, ite_false, and_true, true_and, and_false, false_and, true_or, or_true, false_or, or_false, not_true_eq_false, not_false_eq_true, reduceIte, reduceCtorEq, eq_self] at *) <;> (first | omega | ((try simp (disch := first | omega | (simp (disch := first | omega | (simp (disch := first | omega | (simp only [Int32.reduceToInt]; omega)) only [i32_add, Int32.reduceToInt]; omega)) only [i32_add, Int32.reduceToInt]; omega)) only [i32_add, Int32.reduceToInt] at *) <;> (first | omega | ((try simp (disch := first | omega | (simp (disch := first | omega | (simp (disch := first | omega | (simp only [Int32.reduceToInt]; omega)) only [i32_add, Int32.reduceToInt]; omega)) only [i32_add, Int32.reduceToInt]; omega)) only [i32_add, Int32.reduceToInt] at *) <;> (first | omega | ((simp only [jadd, jsub, jmul, jneg, Int32.reduceToInt] at *) <;> omega))))))))))
