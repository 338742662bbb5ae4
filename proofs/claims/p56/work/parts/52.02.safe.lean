set_option maxRecDepth 4000 in
theorem w_X11_met {b0 : SS} {s0 : SS} {a0 : Int32} {a1 : Int32} (K : Lk b0 s0) : Ok (f_X11_met s0 a0 a1) (fun _ => True) := by
  unfold f_X11_met
  have f0 := kf_15_3 K
  repeat' (first
    | with_reducible assumption
    | (with_reducible show Ok _ _; first | dsimp only | with_reducible refine Ok_some ?_ | with_reducible refine Lk_G120 (by assumption) ?_ (fun _ _ _ _ _ => ?_) | with_reducible refine Lk_G3 (by assumption) ?_ (fun _ _ => ?_) | with_reducible refine Ok_gd ?_ (fun _ => ?_) | with_reducible refine Ok_b1 ?_ | with_reducible refine Ok_onN ?_ | with_reducible refine Ok_onS ?_ | with_reducible refine Ok_ift (by decide) ?_ | with_reducible refine Ok_iff (by decide) ?_ | with_reducible refine Ok_if (fun _ => ?_) (fun _ => ?_) | with_reducible refine Lk_onH (b0 := b0) ?_ (by assumption) (fun _ => ?_) (fun _ _ _ _ _ _ => ?_) | unfold f_X0_holeOf)
    | dsimp only
    | with_reducible refine And.intro ?_ ?_)
  all_goals (try (first | with_reducible assumption | exact trivial | omega | ((try clear ih); (try clear hr); (try clear hq0); (try clear hq1); (try clear hrec); ((try simp only [inB, jlt, jeq, Int32.reduceToInt, jn1, Nat.reduceEqDiff, Nat.reduceAdd, Nat.reduceMul, ite_true, ite_false, and_true, true_and, and_false, false_and, true_or, or_true, false_or, or_false, not_true_eq_false, not_false_eq_true, reduceIte, reduceCtorEq, eq_self] at *) <;> (first | omega | ((try simp (disch := first | omega | (simp (disch := first | omega | (simp (disch := first | omega | (simp only [Int32.reduceToInt]; omega)) only [i32_add, Int32.reduceToInt]; omega)) only [i32_add, Int32.reduceToInt]; omega)) only [i32_add, Int32.reduceToInt] at *) <;> (first | omega | ((try simp (disch := first | omega | (simp (disch := first | omega | (simp (disch := first | omega | (simp only [Int32.reduceToInt]; omega)) only [i32_add, Int32.reduceToInt]; omega)) only [i32_add, Int32.reduceToInt]; omega)) only [i32_add, Int32.reduceToInt] at *) <;> (first | omega | ((simp only [jadd, jsub, jmul, jneg, Int32.reduceToInt] at *) <;> omega))))))))))
set_option maxRecDepth 4000 in
theorem w_X11_log {b0 : SS} {s0 : SS} {a0 : Int32} {a1 : Int32} {a2 : Int32} {a3 : Int32} {a4 : Int32} (K : Lk b0 s0) : Ok (f_X11_log s0 a0 a1 a2 a3 a4) (fun r => Lk b0 r.2) := by
  unfold f_X11_log
  have f0 := kf_15_3 K
  repeat' (first
    | with_reducible assumption
    | (with_reducible show Ok _ _; first | dsimp only | with_reducible refine Ok_some ?_ | with_reducible refine Lk_G120 (by assumption) ?_ (fun _ _ _ _ _ => ?_) | with_reducible refine Lk_G3 (by assumption) ?_ (fun _ _ => ?_) | with_reducible refine Lk_G6 (by assumption) ?_ (fun _ _ _ => ?_) | with_reducible refine Ok_gd ?_ (fun _ => ?_) | with_reducible refine Ok_jn ?_ | with_reducible refine Ok_b1 ?_ | with_reducible refine Ok_bd ?_ | with_reducible refine Ok_onN ?_ | with_reducible refine Ok_onS ?_ | with_reducible refine Ok_ift (by decide) ?_ | with_reducible refine Ok_iff (by decide) ?_ | with_reducible refine Ok_if (fun _ => ?_) (fun _ => ?_) | with_reducible refine Lk_onV (b0 := b0) ?_ (by assumption) (fun _ _ _ _ => ?_) | with_reducible refine Lk_onH (b0 := b0) ?_ (by assumption) (fun _ => ?_) (fun _ _ _ _ _ _ => ?_) | with_reducible refine Ok.mono (w_X3_logged (b0 := b0) ?_ (by assumption) (by assumption) ?_ ?_) (fun _ _ => ?_) | unfold f_X0_holeOf | unfold f_X11_shelfOf | unfold f_X11_isYard | unfold f_X8_isReal)
    | dsimp only
    | with_reducible refine And.intro ?_ ?_)
  all_goals (try (first | with_reducible assumption | exact trivial | omega | ((try clear ih); (try clear hr); (try clear hq0); (try clear hq1); (try clear hrec); ((try simp only [inB, jlt, jeq, Int32.reduceToInt, jn1, jn12, Nat.reduceEqDiff, Nat.reduceAdd, Nat.reduceMul, ite_true, ite_false, and_true, true_and, and_false, false_and, true_or, or_true, false_or, or_false, not_true_eq_false, not_false_eq_true, reduceIte, reduceCtorEq, eq_self] at *) <;> (first | omega | ((try simp (disch := first | omega | (simp (disch := first | omega | (simp (disch := first | omega | (simp only [Int32.reduceToInt]; omega)) only [Int32.reduceToInt]; omega)) only [Int32.reduceToInt]; omega)) only [Int32.reduceToInt] at *) <;> (first | omega | ((try simp (disch := first | omega | (simp (disch := first | omega | (simp (disch := first | omega | (simp only [Int32.reduceToInt]; omega)) only [Int32.reduceToInt]; omega)) only [Int32.reduceToInt]; omega)) only [Int32.reduceToInt] at *) <;> (first | omega | ((simp only [jadd, jsub, jmul, jneg, Int32.reduceToInt] at *) <;> omega))))))))))
set_option maxRecDepth 4000 in
theorem w_X11_cutDown {a0 : Int32} : Ok (f_X11_cutDown a0) (fun r => 0 ≤ r.toInt ∧ r.toInt ≤ 31) := by
  unfold f_X11_cutDown
  repeat' (first
    | with_reducible assumption
    | (with_reducible show Ok _ _; first | dsimp only | with_reducible refine Ok_some ?_ | with_reducible refine Ok_gd ?_ (fun _ => ?_) | with_reducible refine Ok_vl ?_ | with_reducible refine Ok_b1 ?_ | with_reducible refine Ok_ift (by decide) ?_ | with_reducible refine Ok_iff (by decide) ?_ | with_reducible refine Ok_if (fun _ => ?_) (fun _ => ?_) | with_reducible refine Ok.mono (w_X11_held ?_) (fun _ _ => ?_) | unfold f_J9_floorDiv_7cf53)
    | dsimp only
    | with_reducible refine And.intro ?_ ?_)
  all_goals (try (first | with_reducible assumption | exact trivial | omega | ((try clear ih); (try clear hr); (try clear hq0); (try clear hq1); (try clear hrec); ((try simp only [inB, jlt, jeq, Int32.reduceToInt, Nat.reduceEqDiff, Nat.reduceAdd, Nat.reduceMul, ite_true, ite_false, and_true, true_and, and_false, false_and, true_or, or_true, false_or, or_false, not_true_eq_false, not_false_eq_true, reduceIte, reduceCtorEq, eq_self] at *) <;> (first | omega | ((try simp (disch := first | omega | (simp (disch := first | omega | (simp (disch := first | omega | (simp only [Int32.reduceToInt]; omega)) only [i32_sub, i32_mul, Int32.reduceToInt]; omega)) only [i32_sub, i32_mul, Int32.reduceToInt]; omega)) only [i32_sub, i32_mul, Int32.reduceToInt] at *) <;> (first | omega | ((try simp (disch := first | omega | (simp (disch := first | omega | (simp (disch := first | omega | (simp only [Int32.reduceToInt]; omega)) only [i32_sub, i32_mul, Int32.reduceToInt]; omega)) only [i32_sub, i32_mul, Int32.reduceToInt]; omega)) only [i32_sub, i32_mul, Int32.reduceToInt] at *) <;> (first | omega | ((simp only [jadd, jsub, jmul, jneg, Int32.reduceToInt] at *) <;> omega))))))))))
set_option maxRecDepth 4000 in
theorem w_X11_cutUp {a0 : Int32} : Ok (f_X11_cutUp a0) (fun r => 0 ≤ r.toInt ∧ r.toInt ≤ 31) := by
  unfold f_X11_cutUp
  repeat' (first
    | with_reducible assumption
    | (with_reducible show Ok _ _; first | dsimp only | with_reducible refine Ok_some ?_ | with_reducible refine Ok_gd ?_ (fun _ => ?_) | with_reducible refine Ok_vl ?_ | with_reducible refine Ok_b1 ?_ | with_reducible refine Ok_ift (by decide) ?_ | with_reducible refine Ok_iff (by decide) ?_ | with_reducible refine Ok_if (fun _ => ?_) (fun _ => ?_) | with_reducible refine Ok.mono (w_X11_held ?_) (fun _ _ => ?_) | unfold f_J9_floorDiv_7cf53)
    | dsimp only
    | with_reducible refine And.intro ?_ ?_)
  all_goals (try (first | with_reducible assumption | exact trivial | omega | ((try clear ih); (try clear hr); (try clear hq0); (try clear hq1); (try clear hrec); ((try simp only [inB, jlt, jeq, Int32.reduceToInt, Nat.reduceEqDiff, Nat.reduceAdd, Nat.reduceMul, ite_true, ite_false, and_true, true_and, and_false, false_and, true_or, or_true, false_or, or_false, not_true_eq_false, not_false_eq_true, reduceIte, reduceCtorEq, eq_self] at *) <;> (first | omega | ((try simp (disch := first | omega | (simp (disch := first | omega | (simp (disch := first | omega | (simp only [Int32.reduceToInt]; omega)) only [i32_sub, i32_mul, Int32.reduceToInt]; omega)) only [i32_sub, i32_mul, Int32.reduceToInt]; omega)) only [i32_sub, i32_mul, Int32.reduceToInt] at *) <;> (first | omega | ((try simp (disch := first | omega | (simp (disch := first | omega | (simp (disch := first | omega | (simp only [Int32.reduceToInt]; omega)) only [i32_sub, i32_mul, Int32.reduceToInt]; omega)) only [i32_sub, i32_mul, Int32.reduceToInt]; omega)) only [i32_sub, i32_mul, Int32.reduceToInt] at *) <;> (first | omega | ((simp only [jadd, jsub, jmul, jneg, Int32.reduceToInt] at *) <;> omega))))))))))
set_option maxRecDepth 4000 in
theorem w_X11_canBe_L52 {b0 : SS} {q0 : Int32 → Option Int32} {s0 : SS} {y2 : Int32} {y3 : Int32} {p4 : Nat} {Q : Int32 → Prop} (K : Lk b0 s0) (g0 : okH b0 p4) (g1 : y2.toInt ≤ 60) (hq0 : ∀ (z0 : Int32), Ok (q0 z0) Q) : ∀ (n : Nat) (x5 : Int32) (x6 : Int32), (1 ≤ x6.toInt ∧ x6.toInt ≤ 61) → 61 - x6.toInt < (n : Int) → Ok (f_X11_canBe_L52 q0 s0 y2 y3 p4 n x5 x6) Q := by
  intro n
  induction n with
  | zero =>
    intro x5 x6 i0 hm
    exfalso
    (first | with_reducible assumption | omega | ((try clear ih); (try clear hr); (try clear hq0); (try clear hq1); (try clear hrec); ((try simp only [inB, jlt, jeq, Int32.reduceToInt, Nat.reduceEqDiff, Nat.reduceAdd, Nat.reduceMul, ite_true, ite_false, and_true, true_and, and_false, false_and, true_or, or_true, false_or, or_false, not_true_eq_false, not_false_eq_true, reduceIte, reduceCtorEq, eq_self] at *) <;> (first | omega | ((try simp (disch := first | omega | (simp (disch := first | omega | (simp (disch := first | omega | (simp only [Int32.reduceToInt]; omega)) only [i32_add, i32_sub, Int32.reduceToInt]; omega)) only [i32_add, i32_sub, Int32.reduceToInt]; omega)) only [i32_add, i32_sub, Int32.reduceToInt] at *) <;> (first | omega | ((try simp (disch := first | omega | (simp (disch := first | omega | (simp (disch := first | omega | (simp only [Int32.reduceToInt]; omega)) only [i32_add, i32_sub, Int32.reduceToInt]; omega)) only [i32_add, i32_sub, Int32.reduceToInt]; omega)) only [i32_add, i32_sub, Int32.reduceToInt] at *) <;> (first | omega | ((simp only [jadd, jsub, jmul, jneg, Int32.reduceToInt] at *) <;> omega)))))))))
  | succ n ih =>
    intro x5 x6 i0 hm
    show Ok (f_X11_canBe_L52_b q0 s0 y2 y3 p4 (f_X11_canBe_L52 q0 s0 y2 y3 p4 n) x5 x6) Q
    unfold f_X11_canBe_L52_b
    have o3p4 := K.h3 g0
    have o4p4 := K.h4 g0
    have o5p4 := g0.1
    repeat' (first
      | with_reducible assumption
      | (with_reducible show Ok _ _; first | dsimp only | with_reducible refine Ok_vl ?_ | with_reducible refine Ok_jn ?_ | with_reducible refine Ok_b1 ?_ | with_reducible refine Ok_ift (by decide) ?_ | with_reducible refine Ok_iff (by decide) ?_ | with_reducible refine Ok_if (fun _ => ?_) (fun _ => ?_) | with_reducible refine ih _ _  ?_ ?_ | with_reducible refine hq0 _ | with_reducible refine Ok.mono (w_X3_leastLean (b0 := b0) ?_ (by assumption)) (fun _ _ => ?_) | with_reducible refine Ok.mono (w_X3_mostLean (b0 := b0) ?_ (by assumption)) (fun _ _ => ?_))
      | dsimp only
      | with_reducible refine And.intro ?_ ?_)
    all_goals (try (first | with_reducible assumption | exact trivial | omega | ((try clear ih); (try clear hr); (try clear hq0); (try clear hq1); (try clear hrec); ((try simp only [inB, jlt, jeq, Int32.reduceToInt, Nat.reduceEqDiff, Nat.reduceAdd, Nat.reduceMul, ite_true, ite_false, and_true, true_and, and_false, false_and, true_or, or_true, false_or, or_false, not_true_eq_false, not_false_eq_true, reduceIte, reduceCtorEq, eq_self] at *) <;> (first | omega | ((try simp (disch := first | omega | (simp (disch := first | omega | (simp (disch := first | omega | (simp only [Int32.reduceToInt]; omega)) only [i32_add, i32_sub, Int32.reduceToInt]; omega)) only [i32_add, i32_sub, Int32.reduceToInt]; omega)) only [i32_add, i32_sub, Int32.reduceToInt] at *) <;> (first | omega | ((try simp (disch := first | omega | (simp (disch := first | omega | (simp (disch := first | omega | (simp only [Int32.reduceToInt]; omega)) only [i32_add, i32_sub, Int32.reduceToInt]; omega)) only [i32_add, i32_sub, Int32.reduceToInt]; omega)) only [i32_add, i32_sub, Int32.reduceToInt] at *) <;> (first | omega | ((simp only [jadd, jsub, jmul, jneg, Int32.reduceToInt] at *) <;> omega))))))))))
set_option maxRecDepth 4000 in
theorem w_X11_canBe {b0 : SS} {s0 : SS} {a0 : Int32} {a1 : Int32} {a2 : Int32} (K : Lk b0 s0) : Ok (f_X11_canBe s0 a0 a1 a2) (fun _ => True) := by
  unfold f_X11_canBe
  have f0 := kf_15_3 K
  repeat' (first
    | with_reducible assumption
    | (with_reducible show Ok _ _; first | dsimp only | with_reducible refine Ok_some ?_ | with_reducible refine Lk_G120 (by assumption) ?_ (fun _ _ _ _ _ => ?_) | with_reducible refine Lk_G3 (by assumption) ?_ (fun _ _ => ?_) | with_reducible refine Ok_gd ?_ (fun _ => ?_) | with_reducible refine Ok_vl ?_ | with_reducible refine Ok_b1 ?_ | with_reducible refine Ok_onN ?_ | with_reducible refine Ok_onS ?_ | with_reducible refine Ok_ift (by decide) ?_ | with_reducible refine Ok_iff (by decide) ?_ | with_reducible refine Ok_if (fun _ => ?_) (fun _ => ?_) | with_reducible refine Lk_onH (b0 := b0) ?_ (by assumption) (fun _ => ?_) (fun _ _ _ _ _ _ => ?_) | with_reducible refine Ok.mono (w_X11_cutDown ) (fun _ _ => ?_) | with_reducible refine Ok.mono (w_X11_cutUp ) (fun _ _ => ?_) | unfold f_X0_holeOf)
    | dsimp only
    | with_reducible refine w_X11_canBe_L52 (b0 := b0) ?_ (by assumption) ?_ (fun _ => ?_) _ _ _  ?_ ?_
    | with_reducible refine And.intro ?_ ?_)
  all_goals (try (first | with_reducible assumption | exact trivial | omega | ((try clear ih); (try clear hr); (try clear hq0); (try clear hq1); (try clear hrec); ((try simp only [inB, jlt, jeq, Int32.reduceToInt, jn1, Nat.reduceEqDiff, Nat.reduceAdd, Nat.reduceMul, ite_true, ite_false, and_true, true_and, and_false, false_and, true_or, or_true, false_or, or_false, not_true_eq_false, not_false_eq_true, reduceIte, reduceCtorEq, eq_self] at *) <;> (first | omega | ((try simp (disch := first | omega | (simp (disch := first | omega | (simp (disch := first | omega | (simp only [Int32.reduceToInt]; omega)) only [i32_sub, i32_mul, Int32.reduceToInt]; omega)) only [i32_sub, i32_mul, Int32.reduceToInt]; omega)) only [i32_sub, i32_mul, Int32.reduceToInt] at *) <;> (first | omega | ((try simp (disch := first | omega | (simp (disch := first | omega | (simp (disch := first | omega | (simp only [Int32.reduceToInt]; omega)) only [i32_sub, i32_mul, Int32.reduceToInt]; omega)) only [i32_sub, i32_mul, Int32.reduceToInt]; omega)) only [i32_sub, i32_mul, Int32.reduceToInt] at *) <;> (first | omega | ((simp only [jadd, jsub, jmul, jneg, Int32.reduceToInt] at *) <;> omega))))))))))
set_option maxRecDepth 4000 in
theorem w_X11_old {b0 : SS} {s0 : SS} {a0 : Int32} {a1 : Int32} (K : Lk b0 s0) : Ok (f_X11_old s0 a0 a1) (fun r => Lk b0 r.2) := by
  unfold f_X11_old
  have f0 := kf_0_5 K
  repeat' (first
    | with_reducible assumption
    | (with_reducible show Ok _ _; first | dsimp only | with_reducible refine Ok_some ?_ | with_reducible refine Lk_G8 (by assumption) ?_ (fun _ _ => ?_) | with_reducible refine Ok_gd ?_ (fun _ => ?_) | with_reducible refine Ok_vl ?_ | with_reducible refine Ok_st ?_ | with_reducible refine Ok_b1 ?_ | with_reducible refine Ok_bd ?_ | with_reducible refine Ok_onN ?_ | with_reducible refine Ok_onS ?_ | with_reducible refine Ok_ift (by decide) ?_ | with_reducible refine Ok_iff (by decide) ?_ | with_reducible refine Ok_if (fun _ => ?_) (fun _ => ?_) | with_reducible refine Lk_onC (b0 := b0) ?_ (by assumption) (fun _ => ?_) (fun _ _ _ _ => ?_) | with_reducible refine Ok.mono (w_X11_placeOf ) (fun _ _ => ?_) | unfold f_X11_chartOf | unfold f_X1_lists | unfold f_X11_isYard | unfold f_X1_bits | unfold f_X1_listed)
    | dsimp only
    | (with_reducible show Lk _ _; first | with_reducible refine Lk.wH ?_ (by assumption) ?_ | with_reducible refine Lk.wM ?_ (by assumption) (by decide) | with_reducible refine Lk.wC ?_ (by assumption) | with_reducible refine Lk.w1 ?_ (by assumption) | with_reducible refine Lk.wc1 ?_ (by assumption))
    | with_reducible refine And.intro ?_ ?_)
  all_goals (try (first | with_reducible assumption | exact trivial | omega | ((try clear ih); (try clear hr); (try clear hq0); (try clear hq1); (try clear hrec); ((try simp only [inB, Rg, bH, jlt, jeq, jd100, jm100, Int32.reduceToInt, jn1, jn3, zS_pS, zS_pI, zI_pI, zI_pS, zN_pS, zN_pI, Nat.reduceEqDiff, Nat.reduceAdd, Nat.reduceMul, ite_true, ite_false, and_true, true_and, and_false, false_and, true_or, or_true, false_or, or_false, not_true_eq_false, not_false_eq_true, reduceIte, reduceCtorEq, eq_self] at *) <;> (first | omega | ((try simp (disch := first | omega | (simp (disch := first | omega | (simp (disch := first | omega | (simp only [jd100, jm100, Int32.reduceToInt]; omega)) only [i32_add, i32_sub, jd100, jm100, Int32.reduceToInt]; omega)) only [i32_add, i32_sub, jd100, jm100, Int32.reduceToInt]; omega)) only [i32_add, i32_sub, jd100, jm100, Int32.reduceToInt] at *) <;> (first | omega | ((try simp (disch := first | omega | (simp (disch := first | omega | (simp (disch := first | omega | (simp only [jd100, jm100, Int32.reduceToInt]; omega)) only [i32_add, i32_sub, jd100, jm100, Int32.reduceToInt]; omega)) only [i32_add, i32_sub, jd100, jm100, Int32.reduceToInt]; omega)) only [i32_add, i32_sub, jd100, jm100, Int32.reduceToInt] at *) <;> (first | omega | ((simp only [jadd, jsub, jmul, jneg, Int32.reduceToInt] at *) <;> omega))))))))))
set_option maxRecDepth 4000 in
theorem w_X11_firstUnlikeYard_L13 {b0 : SS} {s0 : SS} {p1 : Nat} {p2 : Nat} {Q : Int32 → Prop} (K : Lk b0 s0) (g0 : okC b0 p1) (g1 : okH b0 p2) (hr : ∀ v, Q v) : ∀ (n : Nat) (x3 : Int32) (x4 : Int32) (x5 : Int32), (1 ≤ x5.toInt ∧ x5.toInt ≤ 61) → 61 - x5.toInt < (n : Int) → Ok (f_X11_firstUnlikeYard_L13 s0 p1 p2 n x3 x4 x5) Q := by
  intro n
  induction n with
  | zero =>
    intro x3 x4 x5 i0 hm
    exfalso
    (first | with_reducible assumption | omega | ((try clear ih); (try clear hr); (try clear hq0); (try clear hq1); (try clear hrec); ((try simp only [inB, jlt, jeq, Int32.reduceToInt, Nat.reduceEqDiff, Nat.reduceAdd, Nat.reduceMul, ite_true, ite_false, and_true, true_and, and_false, false_and, true_or, or_true, false_or, or_false, not_true_eq_false, not_false_eq_true, reduceIte, reduceCtorEq, eq_self] at *) <;> (first | omega | ((try simp (disch := first | omega | (simp (disch := first | omega | (simp (disch := first | omega | (simp only [Int32.reduceToInt]; omega)) only [i32_add, i32_sub, Int32.reduceToInt]; omega)) only [i32_add, i32_sub, Int32.reduceToInt]; omega)) only [i32_add, i32_sub, Int32.reduceToInt] at *) <;> (first | omega | ((try simp (disch := first | omega | (simp (disch := first | omega | (simp (disch := first | omega | (simp only [Int32.reduceToInt]; omega)) only [i32_add, i32_sub, Int32.reduceToInt]; omega)) only [i32_add, i32_sub, Int32.reduceToInt]; omega)) only [i32_add, i32_sub, Int32.reduceToInt] at *) <;> (first | omega | ((simp only [jadd, jsub, jmul, jneg, Int32.reduceToInt] at *) <;> omega)))))))))
  | succ n ih =>
    intro x3 x4 x5 i0 hm
    show Ok (f_X11_firstUnlikeYard_L13_b s0 p1 p2 (f_X11_firstUnlikeYard_L13 s0 p1 p2 n) x3 x4 x5) Q
    unfold f_X11_firstUnlikeYard_L13_b
    have o3p2 := K.h3 g1
    have o4p2 := K.h4 g1
    have o5p2 := g1.1
    repeat' (first
      | with_reducible assumption
      | (with_reducible show Ok _ _; first | dsimp only | with_reducible refine Ok_some ?_ | with_reducible refine Ok_gd ?_ (fun _ => ?_) | with_reducible refine Ok_vl ?_ | with_reducible refine Ok_b1 ?_ | with_reducible refine Ok_ift (by decide) ?_ | with_reducible refine Ok_iff (by decide) ?_ | with_reducible refine Ok_if (fun _ => ?_) (fun _ => ?_) | with_reducible refine ih _ _ _  ?_ ?_ | with_reducible refine Ok.mono (w_X3_leastLean (b0 := b0) ?_ (by assumption)) (fun _ _ => ?_) | with_reducible refine Ok.mono (w_X3_mostLean (b0 := b0) ?_ (by assumption)) (fun _ _ => ?_) | with_reducible refine Ok.mono (w_X11_cutDown ) (fun _ _ => ?_) | with_reducible refine Ok.mono (w_X11_cutUp ) (fun _ _ => ?_) | with_reducible refine Ok.mono (w_X1_isUnlike (b0 := b0) ?_ (by assumption)) (fun _ _ => ?_))
      | dsimp only
      | with_reducible refine hr _
      | with_reducible refine And.intro ?_ ?_)
    all_goals (try (first | with_reducible assumption | exact trivial | omega | ((try clear ih); (try clear hr); (try clear hq0); (try clear hq1); (try clear hrec); ((try simp only [inB, jlt, jeq, Int32.reduceToInt, Nat.reduceEqDiff, Nat.reduceAdd, Nat.reduceMul, ite_true, ite_false, and_true, true_and, and_false, false_and, true_or, or_true, false_or, or_false, not_true_eq_false, not_false_eq_true, reduceIte, reduceCtorEq, eq_self] at *) <;> (first | omega | ((try simp (disch := first | omega | (simp (disch := first | omega | (simp (disch := first | omega | (simp only [Int32.reduceToInt]; omega)) only [i32_add, i32_sub, Int32.reduceToInt]; omega)) only [i32_add, i32_sub, Int32.reduceToInt]; omega)) only [i32_add, i32_sub, Int32.reduceToInt] at *) <;> (first | omega | ((try simp (disch := first | omega | (simp (disch := first | omega | (simp (disch := first | omega | (simp only [Int32.reduceToInt]; omega)) only [i32_add, i32_sub, Int32.reduceToInt]; omega)) only [i32_add, i32_sub, Int32.reduceToInt]; omega)) only [i32_add, i32_sub, Int32.reduceToInt] at *) <;> (first | omega | ((simp only [jadd, jsub, jmul, jneg, Int32.reduceToInt] at *) <;> omega))))))))))
set_option maxRecDepth 4000 in
theorem w_X11_firstUnlikeYard {b0 : SS} {s0 : SS} {pa0 : Nat} {pa1 : Nat} (K : Lk b0 s0) (g0 : okC b0 pa0) (g1 : okH b0 pa1) : Ok (f_X11_firstUnlikeYard s0 pa0 pa1) (fun _ => True) := by
  unfold f_X11_firstUnlikeYard
  have o3pa1 := K.h3 g1
  have o4pa1 := K.h4 g1
  have o5pa1 := g1.1
  repeat' (first
    | with_reducible assumption
    | (with_reducible show Ok _ _; first | dsimp only | with_reducible refine Ok_vl ?_)
    | dsimp only
    | with_reducible refine w_X11_firstUnlikeYard_L13 (b0 := b0) ?_ (by assumption) (by assumption) (fun _ => ?_) _ _ _ _  ?_ ?_
    | with_reducible refine And.intro ?_ ?_)
  all_goals (try (first | with_reducible assumption | exact trivial | omega | ((try clear ih); (try clear hr); (try clear hq0); (try clear hq1); (try clear hrec); ((try simp only [inB, jlt, jeq, Int32.reduceToInt, Nat.reduceEqDiff, Nat.reduceAdd, Nat.reduceMul, ite_true, ite_false, and_true, true_and, and_false, false_and, true_or, or_true, false_or, or_false, not_true_eq_false, not_false_eq_true, reduceIte, reduceCtorEq, eq_self] at *) <;> (first | omega | ((try simp (disch := first | omega | (simp (disch := first | omega | (simp (disch := first | omega | (simp only [Int32.reduceToInt]; omega)) only [i32_sub, i32_mul, Int32.reduceToInt]; omega)) only [i32_sub, i32_mul, Int32.reduceToInt]; omega)) only [i32_sub, i32_mul, Int32.reduceToInt] at *) <;> (first | omega | ((try simp (disch := first | omega | (simp (disch := first | omega | (simp (disch := first | omega | (simp only [Int32.reduceToInt]; omega)) only [i32_sub, i32_mul, Int32.reduceToInt]; omega)) only [i32_sub, i32_mul, Int32.reduceToInt]; omega)) only [i32_sub, i32_mul, Int32.reduceToInt] at *) <;> (first | omega | ((simp only [jadd, jsub, jmul, jneg, Int32.reduceToInt] at *) <;> omega))))))))))
set_option maxRecDepth 4000 in
theorem w_X11_firstUnlike_L2 {b0 : SS} {s0 : SS} {p1 : Nat} {Q : Int32 → Prop} (K : Lk b0 s0) (g0 : okC b0 p1) (hr : ∀ v, Q v) : ∀ (n : Nat) (x2 : Int32), (0 ≤ x2.toInt ∧ x2.toInt ≤ 120) → 120 - x2.toInt < (n : Int) → Ok (f_X11_firstUnlike_L2 s0 p1 n x2) Q := by
  intro n
  induction n with
  | zero =>
    intro x2 i0 hm
    exfalso
    (first | with_reducible assumption | omega | ((try clear ih); (try clear hr); (try clear hq0); (try clear hq1); (try clear hrec); ((try simp only [inB, jlt, jeq, Int32.reduceToInt, jn2, Nat.reduceEqDiff, Nat.reduceAdd, Nat.reduceMul, ite_true, ite_false, and_true, true_and, and_false, false_and, true_or, or_true, false_or, or_false, not_true_eq_false, not_false_eq_true, reduceIte, reduceCtorEq, eq_self] at *) <;> (first | omega | ((try simp (disch := first | omega | (simp (disch := first | omega | (simp (disch := first | omega | (simp only [Int32.reduceToInt]; omega)) only [i32_add, i32_sub, i32_mul, Int32.reduceToInt]; omega)) only [i32_add, i32_sub, i32_mul, Int32.reduceToInt]; omega)) only [i32_add, i32_sub, i32_mul, Int32.reduceToInt] at *) <;> (first | omega | ((try simp (disch := first | omega | (simp (disch := first | omega | (simp (disch := first | omega | (simp only [Int32.reduceToInt]; omega)) only [i32_add, i32_sub, i32_mul, Int32.reduceToInt]; omega)) only [i32_add, i32_sub, i32_mul, Int32.reduceToInt]; omega)) only [i32_add, i32_sub, i32_mul, Int32.reduceToInt] at *) <;> (first | omega | ((simp only [jadd, jsub, jmul, jneg, Int32.reduceToInt] at *) <;> omega)))))))))
  | succ n ih =>
    intro x2 i0 hm
    show Ok (f_X11_firstUnlike_L2_b s0 p1 (f_X11_firstUnlike_L2 s0 p1 n) x2) Q
    unfold f_X11_firstUnlike_L2_b
    have f0 := kf_15_3 K
    repeat' (first
      | with_reducible assumption
      | (with_reducible show Ok _ _; first | dsimp only | with_reducible refine Ok_some ?_ | with_reducible refine Lk_G120 (by assumption) ?_ (fun _ _ _ _ _ => ?_) | with_reducible refine Lk_G3 (by assumption) ?_ (fun _ _ => ?_) | with_reducible refine Ok_gd ?_ (fun _ => ?_) | with_reducible refine Ok_vl ?_ | with_reducible refine Ok_b1 ?_ | with_reducible refine Ok_onN ?_ | with_reducible refine Ok_onS ?_ | with_reducible refine Ok_ift (by decide) ?_ | with_reducible refine Ok_iff (by decide) ?_ | with_reducible refine Ok_if (fun _ => ?_) (fun _ => ?_) | with_reducible refine Lk_onH (b0 := b0) ?_ (by assumption) (fun _ => ?_) (fun _ _ _ _ _ _ => ?_) | with_reducible refine ih _  ?_ ?_ | with_reducible refine Ok.mono (w_X11_firstUnlikeYard (b0 := b0) ?_ (by assumption) (by assumption)) (fun _ _ => ?_) | unfold f_X0_holeOf)
      | dsimp only
      | with_reducible refine hr _
      | with_reducible refine And.intro ?_ ?_)
    all_goals (try (first | with_reducible assumption | exact trivial | omega | ((try clear ih); (try clear hr); (try clear hq0); (try clear hq1); (try clear hrec); ((try simp only [inB, jlt, jeq, Int32.reduceToInt, jn2, Nat.reduceEqDiff, Nat.reduceAdd, Nat.reduceMul, ite_true, ite_false, and_true, true_and, and_false, false_and, true_or, or_true, false_or, or_false, not_true_eq_false, not_false_eq_true, reduceIte, reduceCtorEq, eq_self] at *) <;> (first | omega | ((try simp (disch := first | omega | (simp (disch := first | omega | (simp (disch := first | omega | (simp only [Int32.reduceToInt]; omega)) only [i32_add, i32_sub, i32_mul, Int32.reduceToInt]; omega)) only [i32_add, i32_sub, i32_mul, Int32.reduceToInt]; omega)) only [i32_add, i32_sub, i32_mul, Int32.reduceToInt] at *) <;> (first | omega | ((try simp (disch := first | omega | (simp (disch := first | omega | (simp (disch := first | omega | (simp only [Int32.reduceToInt]; omega)) only [i32_add, i32_sub, i32_mul, Int32.reduceToInt]; omega)) only [i32_add, i32_sub, i32_mul, Int32.reduceToInt]; omega)) only [i32_add, i32_sub, i32_mul, Int32.reduceToInt] at *) <;> (first | omega | ((simp only [jadd, jsub, jmul, jneg, Int32.reduceToInt] at *) <;> omega))))))))))
set_option maxRecDepth 4000 in
theorem w_X11_firstUnlike {b0 : SS} {s0 : SS} {pa0 : Nat} (K : Lk b0 s0) (g0 : okC b0 pa0) : Ok (f_X11_firstUnlike s0 pa0) (fun _ => True) := by
  unfold f_X11_firstUnlike
  repeat' (first
    | with_reducible assumption
    | dsimp only
    | with_reducible refine w_X11_firstUnlike_L2 (b0 := b0) ?_ (by assumption) (fun _ => ?_) _ _  ?_ ?_
    | with_reducible refine And.intro ?_ ?_)
  all_goals (try (first | with_reducible assumption | exact trivial | omega | ((try clear ih); (try clear hr); (try clear hq0); (try clear hq1); (try clear hrec); ((try simp only [inB, jlt, jeq, Int32.reduceToInt, Nat.reduceEqDiff, Nat.reduceAdd, Nat.reduceMul, ite_true, ite_false, and_true, true_and, and_false, false_and, true_or, or_true, false_or, or_false, not_true_eq_false, not_false_eq_true, reduceIte, reduceCtorEq, eq_self] at *) <;> (first | omega | ((try simp (disch := first | omega | (simp (disch := first | omega | (simp (disch := first | omega | (simp only [Int32.reduceToInt]; omega)) only [i32_sub, Int32.reduceToInt]; omega)) only [i32_sub, Int32.reduceToInt]; omega)) only [i32_sub, Int32.reduceToInt] at *) <;> (first | omega | ((try simp (disch := first | omega | (simp (disch := first | omega | (simp (disch := first | omega | (simp only [Int32.reduceToInt]; omega)) only [i32_sub, Int32.reduceToInt]; omega)) only [i32_sub, Int32.reduceToInt]; omega)) only [i32_sub, Int32.reduceToInt] at *) <;> (first | omega | ((simp only [jadd, jsub, jmul, jneg, Int32.reduceToInt] at *) <;> omega))))))))))
set_option maxRecDepth 4000 in
theorem w_X11_wrong {b0 : SS} {s0 : SS} {a0 : Int32} (K : Lk b0 s0) : Ok (f_X11_wrong s0 a0) (fun _ => True) := by
  unfold f_X11_wrong
  have f0 := kf_0_5 K
  repeat' (first
    | with_reducible assumption
    | (with_reducible show Ok _ _; first | dsimp only | with_reducible refine Ok_some ?_ | with_reducible refine Lk_G8 (by assumption) ?_ (fun _ _ => ?_) | with_reducible refine Ok_gd ?_ (fun _ => ?_) | with_reducible refine Ok_b1 ?_ | with_reducible refine Ok_onN ?_ | with_reducible refine Ok_onS ?_ | with_reducible refine Ok_ift (by decide) ?_ | with_reducible refine Ok_iff (by decide) ?_ | with_reducible refine Ok_if (fun _ => ?_) (fun _ => ?_) | with_reducible refine Lk_onC (b0 := b0) ?_ (by assumption) (fun _ => ?_) (fun _ _ _ _ => ?_) | with_reducible refine Ok.mono (w_X11_firstUnlike (b0 := b0) ?_ (by assumption)) (fun _ _ => ?_) | unfold f_X11_chartOf)
    | dsimp only
    | with_reducible refine And.intro ?_ ?_)
  all_goals (try (first | with_reducible assumption | exact trivial | omega | ((try clear ih); (try clear hr); (try clear hq0); (try clear hq1); (try clear hrec); ((try simp only [inB, jlt, jeq, Int32.reduceToInt, jn1, Nat.reduceEqDiff, Nat.reduceAdd, Nat.reduceMul, ite_true, ite_false, and_true, true_and, and_false, false_and, true_or, or_true, false_or, or_false, not_true_eq_false, not_false_eq_true, reduceIte, reduceCtorEq, eq_self] at *) <;> (first | omega | ((try simp (disch := first | omega | (simp (disch := first | omega | (simp (disch := first | omega | (simp only [Int32.reduceToInt]; omega)) only [Int32.reduceToInt]; omega)) only [Int32.reduceToInt]; omega)) only [Int32.reduceToInt] at *) <;> (first | omega | ((try simp (disch := first | omega | (simp (disch := first | omega | (simp (disch := first | omega | (simp only [Int32.reduceToInt]; omega)) only [Int32.reduceToInt]; omega)) only [Int32.reduceToInt]; omega)) only [Int32.reduceToInt] at *) <;> (first | omega | ((simp only [jadd, jsub, jmul, jneg, Int32.reduceToInt] at *) <;> omega))))))))))
set_option maxRecDepth 4000 in
theorem w_X11_known_L29 {b0 : SS} {q0 : Int32 → Int32 → Int32 → Int32 → Option Int32} {s0 : SS} {y1 : Int32} {Q : Int32 → Prop} (K : Lk b0 s0) (hq0 : ∀ (z0 : Int32) (z1 : Int32) (z2 : Int32) (z3 : Int32), Ok (q0 z0 z1 z2 z3) Q) : ∀ (n : Nat) (x2 : Int32) (x3 : Int32) (x4 : Int32) (x5 : Int32) (x6 : Int32) (x7 : Int32), (0 ≤ x7.toInt ∧ x7.toInt ≤ 8) → 8 - x7.toInt < (n : Int) → Ok (f_X11_known_L29 q0 s0 y1 n x2 x3 x4 x5 x6 x7) Q := by
  intro n
  induction n with
  | zero =>
    intro x2 x3 x4 x5 x6 x7 i0 hm
    exfalso
    (first | with_reducible assumption | omega | ((try clear ih); (try clear hr); (try clear hq0); (try clear hq1); (try clear hrec); ((try simp only [inB, jlt, jeq, Int32.reduceToInt, jn2, Nat.reduceEqDiff, Nat.reduceAdd, Nat.reduceMul, ite_true, ite_false, and_true, true_and, and_false, false_and, true_or, or_true, false_or, or_false, not_true_eq_false, not_false_eq_true, reduceIte, reduceCtorEq, eq_self] at *) <;> (first | omega | ((try simp (disch := first | omega | (simp (disch := first | omega | (simp (disch := first | omega | (simp only [Int32.reduceToInt]; omega)) only [i32_add, i32_sub, Int32.reduceToInt]; omega)) only [i32_add, i32_sub, Int32.reduceToInt]; omega)) only [i32_add, i32_sub, Int32.reduceToInt] at *) <;> (first | omega | ((try simp (disch := first | omega | (simp (disch := first | omega | (simp (disch := first | omega | (simp only [Int32.reduceToInt]; omega)) only [i32_add, i32_sub, Int32.reduceToInt]; omega)) only [i32_add, i32_sub, Int32.reduceToInt]; omega)) only [i32_add, i32_sub, Int32.reduceToInt] at *) <;> (first | omega | ((simp only [jadd, jsub, jmul, jneg, Int32.reduceToInt] at *) <;> omega)))))))))
  | succ n ih =>
    intro x2 x3 x4 x5 x6 x7 i0 hm
    show Ok (f_X11_known_L29_b q0 s0 y1 (f_X11_known_L29 q0 s0 y1 n) x2 x3 x4 x5 x6 x7) Q
    unfold f_X11_known_L29_b
    have f0 := kf_0_5 K
    repeat' (first
      | with_reducible assumption
      | (with_reducible show Ok _ _; first | dsimp only | with_reducible refine Ok_jn0 ?_ (fun _ _ => ?_) | with_reducible refine Ok_jn1 (fun _ => ?_) (fun _ _ => ?_) | with_reducible refine Ok_jn2 (fun _ _ => ?_) (fun _ _ => ?_) | with_reducible refine Ok_jnS (b0 := b0) (fun _ _ => ?_) (fun _ _ => ?_) | with_reducible refine Ok_jnS1 (b0 := b0) (fun _ _ _ => ?_) (fun _ _ => ?_) | with_reducible refine Ok_jnS2 (b0 := b0) (fun _ _ _ _ => ?_) (fun _ _ => ?_) | with_reducible refine Ok_k1 (by assumption) _ | with_reducible refine Ok_k2 (by assumption) _ _ | with_reducible refine Ok_kS (b0 := b0) (by assumption) ?_ | with_reducible refine Ok_kS1 (b0 := b0) (by assumption) ?_ | with_reducible refine Ok_kS2 (b0 := b0) (by assumption) ?_ | with_reducible refine Ok_some ?_ | with_reducible refine Lk_G8 (by assumption) ?_ (fun _ _ => ?_) | with_reducible refine Ok_gd ?_ (fun _ => ?_) | with_reducible refine Ok_vl ?_ | with_reducible refine Ok_jn ?_ | with_reducible refine Ok_b1 ?_ | with_reducible refine Ok_onN ?_ | with_reducible refine Ok_onS ?_ | with_reducible refine Ok_ift (by decide) ?_ | with_reducible refine Ok_iff (by decide) ?_ | with_reducible refine Ok_if (fun _ => ?_) (fun _ => ?_) | with_reducible refine Lk_onC (b0 := b0) ?_ (by assumption) (fun _ => ?_) (fun _ _ _ _ => ?_) | with_reducible refine ih _ _ _ _ _ _  ?_ ?_ | with_reducible refine hq0 _ _ _ _ | with_reducible refine Ok.mono (w_X11_firstUnlike (b0 := b0) ?_ (by assumption)) (fun _ _ => ?_) | with_reducible refine Ok.mono (w_X1_edge (b0 := b0) ?_ (by assumption)) (fun _ _ => ?_) | unfold f_J9_max_7cf53 | unfold f_J9_min_7cf53)
      | dsimp only
      | with_reducible refine And.intro ?_ ?_)
    all_goals (try (first | with_reducible assumption | exact trivial | omega | ((try clear ih); (try clear hr); (try clear hq0); (try clear hq1); (try clear hrec); ((try simp only [inB, jlt, jeq, Int32.reduceToInt, jn2, Nat.reduceEqDiff, Nat.reduceAdd, Nat.reduceMul, ite_true, ite_false, and_true, true_and, and_false, false_and, true_or, or_true, false_or, or_false, not_true_eq_false, not_false_eq_true, reduceIte, reduceCtorEq, eq_self] at *) <;> (first | omega | ((try simp (disch := first | omega | (simp (disch := first | omega | (simp (disch := first | omega | (simp only [Int32.reduceToInt]; omega)) only [i32_add, i32_sub, Int32.reduceToInt]; omega)) only [i32_add, i32_sub, Int32.reduceToInt]; omega)) only [i32_add, i32_sub, Int32.reduceToInt] at *) <;> (first | omega | ((try simp (disch := first | omega | (simp (disch := first | omega | (simp (disch := first | omega | (simp only [Int32.reduceToInt]; omega)) only [i32_add, i32_sub, Int32.reduceToInt]; omega)) only [i32_add, i32_sub, Int32.reduceToInt]; omega)) only [i32_add, i32_sub, Int32.reduceToInt] at *) <;> (first | omega | ((simp only [jadd, jsub, jmul, jneg, Int32.reduceToInt] at *) <;> omega))))))))))
set_option maxRecDepth 4000 in
theorem w_X11_known {b0 : SS} {s0 : SS} {a0 : Int32} (K : Lk b0 s0) : Ok (f_X11_known s0 a0) (fun _ => True) := by
  unfold f_X11_known
  repeat' (first
    | with_reducible assumption
    | (with_reducible show Ok _ _; first | dsimp only | with_reducible refine Ok_some ?_ | with_reducible refine Ok_ift (by decide) ?_ | with_reducible refine Ok_iff (by decide) ?_ | with_reducible refine Ok_if (fun _ => ?_) (fun _ => ?_))
    | dsimp only
    | with_reducible refine w_X11_known_L29 (b0 := b0) ?_ (fun _ _ _ _ => ?_) _ _ _ _ _ _ _  ?_ ?_
    | with_reducible refine And.intro ?_ ?_)
  all_goals (try (first | with_reducible assumption | exact trivial | omega | ((try clear ih); (try clear hr); (try clear hq0); (try clear hq1); (try clear hrec); ((try simp only [inB, jlt, jeq, Int32.reduceToInt, jn1, jn2, Nat.reduceEqDiff, Nat.reduceAdd, Nat.reduceMul, ite_true, ite_false, and_true, true_and, and_false, false_and, true_or, or_true, false_or, or_false, not_true_eq_false, not_false_eq_true, reduceIte, reduceCtorEq, eq_self] at *) <;> (first | omega | ((try simp (disch := first | omega | (simp (disch := first | omega | (simp (disch := first | omega | (simp only [Int32.reduceToInt]; omega)) only [i32_sub, Int32.reduceToInt]; omega)) only [i32_sub, Int32.reduceToInt]; omega)) only [i32_sub, Int32.reduceToInt] at *) <;> (first | omega | ((try simp (disch := first | omega | (simp (disch := first | omega | (simp (disch := first | omega | (simp only [Int32.reduceToInt]; omega)) only [i32_sub, Int32.reduceToInt]; omega)) only [i32_sub, Int32.reduceToInt]; omega)) only [i32_sub, Int32.reduceToInt] at *) <;> (first | omega | ((simp only [jadd, jsub, jmul, jneg, Int32.reduceToInt] at *) <;> omega))))))))))
set_option maxRecDepth 4000 in
theorem w_X11_latestText_L24 {b0 : SS} {s0 : SS} {y1 : Int32} {y2 : Int32} {y3 : Int32} {y4 : Int32} {y5 : Int32} {Q : Int32 → Prop} (K : Lk b0 s0) (hr : ∀ v, -2 ≤ v.toInt ∧ v.toInt ≤ 15 → Q v) : ∀ (n : Nat) (x6 : Int32), (-1 ≤ x6.toInt ∧ x6.toInt ≤ 15) → x6.toInt + 1 < (n : Int) → Ok (f_X11_latestText_L24 s0 y1 y2 y3 y4 y5 n x6) Q := by
  intro n
  induction n with
  | zero =>
    intro x6 i0 hm
    exfalso
    (first | with_reducible assumption | omega | ((try clear ih); (try clear hr); (try clear hq0); (try clear hq1); (try clear hrec); ((try simp only [inB, jlt, jeq, Int32.reduceToInt, jn1, jn2, Nat.reduceEqDiff, Nat.reduceAdd, Nat.reduceMul, ite_true, ite_false, and_true, true_and, and_false, false_and, true_or, or_true, false_or, or_false, not_true_eq_false, not_false_eq_true, reduceIte, reduceCtorEq, eq_self] at *) <;> (first | omega | ((try simp (disch := first | omega | (simp (disch := first | omega | (simp (disch := first | omega | (simp only [Int32.reduceToInt]; omega)) only [i32_add, Int32.reduceToInt]; omega)) only [i32_add, Int32.reduceToInt]; omega)) only [i32_add, Int32.reduceToInt] at *) <;> (first | omega | ((try simp (disch := first | omega | (simp (disch := first | omega | (simp (disch := first | omega | (simp only [Int32.reduceToInt]; omega)) only [i32_add, Int32.reduceToInt]; omega)) only [i32_add, Int32.reduceToInt]; omega)) only [i32_add, Int32.reduceToInt] at *) <;> (first | omega | ((simp only [jadd, jsub, jmul, jneg, Int32.reduceToInt] at *) <;> omega)))))))))
  | succ n ih =>
    intro x6 i0 hm
    show Ok (f_X11_latestText_L24_b s0 y1 y2 y3 y4 y5 (f_X11_latestText_L24 s0 y1 y2 y3 y4 y5 n) x6) Q
    unfold f_X11_latestText_L24_b
    repeat' (first
      | with_reducible assumption
      | (with_reducible show Ok _ _; first | dsimp only | with_reducible refine Ok_some ?_ | with_reducible refine Lk_G3 (by assumption) ?_ (fun _ _ => ?_) | with_reducible refine Ok_gd ?_ (fun _ => ?_) | with_reducible refine Ok_vl ?_ | with_reducible refine Ok_onN ?_ | with_reducible refine Ok_onS ?_ | with_reducible refine Ok_ift (by decide) ?_ | with_reducible refine Ok_iff (by decide) ?_ | with_reducible refine Ok_if (fun _ => ?_) (fun _ => ?_) | with_reducible refine Lk_onT (b0 := b0) ?_ (by assumption) (fun _ => ?_) (fun _ _ _ _ => ?_) | with_reducible refine ih _  ?_ ?_)
      | dsimp only
      | with_reducible refine hr _ ?_
      | with_reducible refine And.intro ?_ ?_)
    all_goals (try (first | with_reducible assumption | exact trivial | omega | ((try clear ih); (try clear hr); (try clear hq0); (try clear hq1); (try clear hrec); ((try simp only [inB, jlt, jeq, Int32.reduceToInt, jn1, jn2, Nat.reduceEqDiff, Nat.reduceAdd, Nat.reduceMul, ite_true, ite_false, and_true, true_and, and_false, false_and, true_or, or_true, false_or, or_false, not_true_eq_false, not_false_eq_true, reduceIte, reduceCtorEq, eq_self] at *) <;> (first | omega | ((try simp (disch := first | omega | (simp (disch := first | omega | (simp (disch := first | omega | (simp only [Int32.reduceToInt]; omega)) only [i32_add, Int32.reduceToInt]; omega)) only [i32_add, Int32.reduceToInt]; omega)) only [i32_add, Int32.reduceToInt] at *) <;> (first | omega | ((try simp (disch := first | omega | (simp (disch := first | omega | (simp (disch := first | omega | (simp only [Int32.reduceToInt]; omega)) only [i32_add, Int32.reduceToInt]; omega)) only [i32_add, Int32.reduceToInt]; omega)) only [i32_add, Int32.reduceToInt] at *) <;> (first | omega | ((simp only [jadd, jsub, jmul, jneg, Int32.reduceToInt] at *) <;> omega))))))))))
set_option maxRecDepth 4000 in
theorem w_X11_latestText {b0 : SS} {s0 : SS} {a0 : Int32} {a1 : Int32} {a2 : Int32} {a3 : Int32} (K : Lk b0 s0) : Ok (f_X11_latestText s0 a0 a1 a2 a3) (fun r => -2 ≤ r.toInt ∧ r.toInt ≤ 15) := by
  unfold f_X11_latestText
  have f0 := kf_0_8 K
  repeat' (first
    | with_reducible assumption
    | (with_reducible show Ok _ _; first | dsimp only | with_reducible refine Lk_G8 (by assumption) ?_ (fun _ _ => ?_) | with_reducible refine Ok_vl ?_ | with_reducible refine Ok_jn ?_ | with_reducible refine Ok_ift (by decide) ?_ | with_reducible refine Ok_iff (by decide) ?_ | with_reducible refine Ok_if (fun _ => ?_) (fun _ => ?_))
    | dsimp only
    | with_reducible refine w_X11_latestText_L24 (b0 := b0) ?_ (fun _ _ => ?_) _ _  ?_ ?_
    | with_reducible refine And.intro ?_ ?_)
  all_goals (try (first | with_reducible assumption | exact trivial | omega | ((try clear ih); (try clear hr); (try clear hq0); (try clear hq1); (try clear hrec); ((try simp only [inB, jlt, jeq, Int32.reduceToInt, jn1, jn2, Nat.reduceEqDiff, Nat.reduceAdd, Nat.reduceMul, ite_true, ite_false, and_true, true_and, and_false, false_and, true_or, or_true, false_or, or_false, not_true_eq_false, not_false_eq_true, reduceIte, reduceCtorEq, eq_self] at *) <;> (first | omega | ((try simp (disch := first | omega | (simp (disch := first | omega | (simp (disch := first | omega | (simp only [Int32.reduceToInt]; omega)) only [i32_add, i32_sub, Int32.reduceToInt]; omega)) only [i32_add, i32_sub, Int32.reduceToInt]; omega)) only [i32_add, i32_sub, Int32.reduceToInt] at *) <;> (first | omega | ((try simp (disch := first | omega | (simp (disch := first | omega | (simp (disch := first | omega | (simp only [Int32.reduceToInt]; omega)) only [i32_add, i32_sub, Int32.reduceToInt]; omega)) only [i32_add, i32_sub, Int32.reduceToInt]; omega)) only [i32_add, i32_sub, Int32.reduceToInt] at *) <;> (first | omega | ((simp only [jadd, jsub, jmul, jneg, Int32.reduceToInt] at *) <;> omega))))))))))
set_option maxRecDepth 4000 in
theorem w_X11_inForce {b0 : SS} {s0 : SS} {a0 : Int32} {a1 : Int32} {a2 : Int32} (K : Lk b0 s0) : Ok (f_X11_inForce s0 a0 a1 a2) (fun _ => True) := by
  unfold f_X11_inForce
  repeat' (first
    | with_reducible assumption
    | (with_reducible show Ok _ _; first | dsimp only | with_reducible refine Ok_some ?_ | with_reducible refine Ok_b1 ?_ | with_reducible refine Ok_ift (by decide) ?_ | with_reducible refine Ok_iff (by decide) ?_ | with_reducible refine Ok_if (fun _ => ?_) (fun _ => ?_) | with_reducible refine Ok.mono (w_X11_latestText (b0 := b0) ?_) (fun _ _ => ?_) | unfold f_X11_isOrder | unfold f_X11_isHour)
    | dsimp only
    | with_reducible refine And.intro ?_ ?_)
  all_goals (try (first | with_reducible assumption | exact trivial | omega | ((try clear ih); (try clear hr); (try clear hq0); (try clear hq1); (try clear hrec); ((try simp only [inB, jlt, jeq, jd10, jm10, Int32.reduceToInt, jn1, jn2, Nat.reduceEqDiff, Nat.reduceAdd, Nat.reduceMul, ite_true, ite_false, and_true, true_and, and_false, false_and, true_or, or_true, false_or, or_false, not_true_eq_false, not_false_eq_true, reduceIte, reduceCtorEq, eq_self] at *) <;> (first | omega | ((try simp (disch := first | omega | (simp (disch := first | omega | (simp (disch := first | omega | (simp only [jd10, jm10, Int32.reduceToInt]; omega)) only [jd10, jm10, Int32.reduceToInt]; omega)) only [jd10, jm10, Int32.reduceToInt]; omega)) only [jd10, jm10, Int32.reduceToInt] at *) <;> (first | omega | ((try simp (disch := first | omega | (simp (disch := first | omega | (simp (disch := first | omega | (simp only [jd10, jm10, Int32.reduceToInt]; omega)) only [jd10, jm10, Int32.reduceToInt]; omega)) only [jd10, jm10, Int32.reduceToInt]; omega)) only [jd10, jm10, Int32.reduceToInt] at *) <;> (first | omega | ((simp only [jadd, jsub, jmul, jneg, Int32.reduceToInt] at *) <;> omega))))))))))
set_option maxRecDepth 4000 in
theorem w_X11_given {b0 : SS} {s0 : SS} {a0 : Int32} {a1 : Int32} {a2 : Int32} (K : Lk b0 s0) : Ok (f_X11_given s0 a0 a1 a2) (fun r => Lk b0 r.2) := by
  unfold f_X11_given
  have f0 := kf_0_8 K
  repeat' (first
    | with_reducible assumption
    | (with_reducible show Ok _ _; first | dsimp only | with_reducible refine Ok_some ?_ | with_reducible refine Lk_G120 (by assumption) ?_ (fun _ _ _ _ _ => ?_) | with_reducible refine Lk_G8 (by assumption) ?_ (fun _ _ => ?_) | with_reducible refine Ok_gd ?_ (fun _ => ?_) | with_reducible refine Ok_vl ?_ | with_reducible refine Ok_st ?_ | with_reducible refine Ok_jn ?_ | with_reducible refine Ok_b1 ?_ | with_reducible refine Ok_bd ?_ | with_reducible refine Ok_onN ?_ | with_reducible refine Ok_onS ?_ | with_reducible refine Ok_ift (by decide) ?_ | with_reducible refine Ok_iff (by decide) ?_ | with_reducible refine Ok_if (fun _ => ?_) (fun _ => ?_) | with_reducible refine Lk_onT (b0 := b0) ?_ (by assumption) (fun _ => ?_) (fun _ _ _ _ => ?_) | with_reducible refine Ok.mono (w_X0_kindOf (b0 := b0) ?_) (fun _ _ => ?_) | with_reducible refine Ok.mono (w_X10_worth (b0 := b0) ?_ (by assumption) ?_) (fun _ _ => ?_))
    | dsimp only
    | (with_reducible show Lk _ _; first | with_reducible refine Lk.wI ?_ (by decide) (by decide) ?_)
    | with_reducible refine And.intro ?_ ?_)
  all_goals (try (first | with_reducible assumption | exact trivial | omega | ((try clear ih); (try clear hr); (try clear hq0); (try clear hq1); (try clear hrec); ((try simp only [inB, Rg, cellOK, bA, jlt, jeq, jd24, Int32.reduceToInt, jn1, zS_pI, zI_pI, zN_pI, Nat.reduceEqDiff, Nat.reduceAdd, Nat.reduceMul, ite_true, ite_false, and_true, true_and, and_false, false_and, true_or, or_true, false_or, or_false, not_true_eq_false, not_false_eq_true, reduceIte, reduceCtorEq, eq_self] at *) <;> (first | omega | ((try simp (disch := first | omega | (simp (disch := first | omega | (simp (disch := first | omega | (simp only [jd24, Int32.reduceToInt]; omega)) only [i32_add, jd24, Int32.reduceToInt]; omega)) only [i32_add, jd24, Int32.reduceToInt]; omega)) only [i32_add, jd24, Int32.reduceToInt] at *) <;> (first | omega | ((try simp (disch := first | omega | (simp (disch := first | omega | (simp (disch := first | omega | (simp only [jd24, Int32.reduceToInt]; omega)) only [i32_add, jd24, Int32.reduceToInt]; omega)) only [i32_add, jd24, Int32.reduceToInt]; omega)) only [i32_add, jd24, Int32.reduceToInt] at *) <;> (first | omega | ((simp only [jadd, jsub, jmul, jneg, Int32.reduceToInt] at *) <;> omega))))))))))
set_option maxRecDepth 4000 in
theorem w_X11_says {b0 : SS} {s0 : SS} {a0 : Int32} {a1 : Int32} (K : Lk b0 s0) : Ok (f_X11_says s0 a0 a1) (fun r => Lk b0 r.2) := by
  unfold f_X11_says
  repeat' (first
    | with_reducible assumption
    | (with_reducible show Ok _ _; first | dsimp only | with_reducible refine Ok_some ?_ | with_reducible refine Ok_vl ?_ | with_reducible refine Ok_jn ?_ | with_reducible refine Ok_b1 ?_ | with_reducible refine Ok_bd ?_ | with_reducible refine Ok_ift (by decide) ?_ | with_reducible refine Ok_iff (by decide) ?_ | with_reducible refine Ok_if (fun _ => ?_) (fun _ => ?_) | with_reducible refine Ok.mono (w_X11_latestText (b0 := b0) ?_) (fun _ _ => ?_) | with_reducible refine Ok.mono (w_X11_given (b0 := b0) ?_) (fun _ _ => ?_) | with_reducible refine Ok.mono (w_X0_kindOf (b0 := b0) ?_) (fun _ _ => ?_) | unfold f_X11_isOrder)
    | dsimp only
    | with_reducible refine And.intro ?_ ?_)
  all_goals (try (first | with_reducible assumption | exact trivial | omega | ((try clear ih); (try clear hr); (try clear hq0); (try clear hq1); (try clear hrec); ((try simp only [inB, jlt, jeq, jd10, jm10, Int32.reduceToInt, jn1, jn2, jn2000000000, Nat.reduceEqDiff, Nat.reduceAdd, Nat.reduceMul, ite_true, ite_false, and_true, true_and, and_false, false_and, true_or, or_true, false_or, or_false, not_true_eq_false, not_false_eq_true, reduceIte, reduceCtorEq, eq_self] at *) <;> (first | omega | ((try simp (disch := first | omega | (simp (disch := first | omega | (simp (disch := first | omega | (simp only [jd10, jm10, Int32.reduceToInt]; omega)) only [jd10, jm10, Int32.reduceToInt]; omega)) only [jd10, jm10, Int32.reduceToInt]; omega)) only [jd10, jm10, Int32.reduceToInt] at *) <;> (first | omega | ((try simp (disch := first | omega | (simp (disch := first | omega | (simp (disch := first | omega | (simp only [jd10, jm10, Int32.reduceToInt]; omega)) only [jd10, jm10, Int32.reduceToInt]; omega)) only [jd10, jm10, Int32.reduceToInt]; omega)) only [jd10, jm10, Int32.reduceToInt] at *) <;> (first | omega | ((simp only [jadd, jsub, jmul, jneg, Int32.reduceToInt] at *) <;> omega))))))))))
set_option maxRecDepth 4000 in
theorem w_X11_boreOn_L7 {b0 : SS} {p1 : Nat} {y2 : Int32} {Q : SS → Prop} (g0 : okH b0 p1) (hr : ∀ s, Lk b0 s → Q s) : ∀ (n : Nat) (s : SS) (x3 : Int32), Lk b0 s → (1 ≤ x3.toInt ∧ x3.toInt ≤ 61) → 61 - x3.toInt < (n : Int) → Ok (f_X11_boreOn_L7 p1 y2 n s x3) Q := by
  intro n
  induction n with
  | zero =>
    intro s x3 K i0 hm
    exfalso
    (first | with_reducible assumption | omega | ((try clear ih); (try clear hr); (try clear hq0); (try clear hq1); (try clear hrec); ((try simp only [inB, Rg, bF, bH, jlt, jeq, Int32.reduceToInt, zS_pS, zS_pI, zI_pI, zI_pS, zN_pS, zN_pI, Nat.reduceEqDiff, Nat.reduceAdd, Nat.reduceMul, ite_true, ite_false, and_true, true_and, and_false, false_and, true_or, or_true, false_or, or_false, not_true_eq_false, not_false_eq_true, reduceIte, reduceCtorEq, eq_self] at *) <;> (first | omega | ((try simp (disch := first | omega | (simp (disch := first | omega | (simp (disch := first | omega | (simp only [Int32.reduceToInt]; omega)) only [i32_add, i32_sub, i32_mul, Int32.reduceToInt]; omega)) only [i32_add, i32_sub, i32_mul, Int32.reduceToInt]; omega)) only [i32_add, i32_sub, i32_mul, Int32.reduceToInt] at *) <;> (first | omega | ((try simp (disch := first | omega | (simp (disch := first | omega | (simp (disch := first | omega | (simp only [Int32.reduceToInt]; omega)) only [i32_add, i32_sub, i32_mul, Int32.reduceToInt]; omega)) only [i32_add, i32_sub, i32_mul, Int32.reduceToInt]; omega)) only [i32_add, i32_sub, i32_mul, Int32.reduceToInt] at *) <;> (first | omega | ((simp only [jadd, jsub, jmul, jneg, Int32.reduceToInt] at *) <;> omega)))))))))
  | succ n ih =>
    intro s x3 K i0 hm
    show Ok (f_X11_boreOn_L7_b p1 y2 (f_X11_boreOn_L7 p1 y2 n) s x3) Q
    unfold f_X11_boreOn_L7_b
    have o3p1 := K.h3 g0
    have o4p1 := K.h4 g0
    have o5p1 := g0.1
    repeat' (first
      | with_reducible assumption
      | (with_reducible show Ok _ _; first | dsimp only | with_reducible refine Ok_jn0 ?_ (fun _ _ => ?_) | with_reducible refine Ok_jn1 (fun _ => ?_) (fun _ _ => ?_) | with_reducible refine Ok_jn2 (fun _ _ => ?_) (fun _ _ => ?_) | with_reducible refine Ok_jnS (b0 := b0) (fun _ _ => ?_) (fun _ _ => ?_) | with_reducible refine Ok_jnS1 (b0 := b0) (fun _ _ _ => ?_) (fun _ _ => ?_) | with_reducible refine Ok_jnS2 (b0 := b0) (fun _ _ _ _ => ?_) (fun _ _ => ?_) | with_reducible refine Ok_k1 (by assumption) _ | with_reducible refine Ok_k2 (by assumption) _ _ | with_reducible refine Ok_kS (b0 := b0) (by assumption) ?_ | with_reducible refine Ok_kS1 (b0 := b0) (by assumption) ?_ | with_reducible refine Ok_kS2 (b0 := b0) (by assumption) ?_ | with_reducible refine Ok_some ?_ | with_reducible refine Lk_G3 (by assumption) ?_ (fun _ _ => ?_) | with_reducible refine Lk_G6 (by assumption) ?_ (fun _ _ _ => ?_) | with_reducible refine Ok_gd ?_ (fun _ => ?_) | with_reducible refine Ok_vl ?_ | with_reducible refine Ok_st ?_ | with_reducible refine Ok_jn ?_ | with_reducible refine Ok_b1 ?_ | with_reducible refine Ok_ift (by decide) ?_ | with_reducible refine Ok_iff (by decide) ?_ | with_reducible refine Ok_if (fun _ => ?_) (fun _ => ?_) | with_reducible refine ih _ _  ?_ ?_ ?_ | with_reducible refine Ok.mono (w_X11_held ?_) (fun _ _ => ?_) | with_reducible refine Ok.mono (w_X0_isRefuge (b0 := b0) ?_) (fun _ _ => ?_) | unfold f_J9_min_7cf53)
      | dsimp only
      | (with_reducible show Lk _ _; first | with_reducible refine Lk.wF ?_ (by decide) (by decide) (by decide) ?_ | with_reducible refine Lk.wH ?_ (by assumption) ?_ | with_reducible refine Lk.wM ?_ (by assumption) (by decide) | with_reducible refine Lk.wC ?_ (by assumption) | with_reducible refine Lk.w2 ?_ (by assumption))
      | with_reducible refine hr _ ?_
      | with_reducible refine And.intro ?_ ?_)
    all_goals (try (first | with_reducible assumption | exact trivial | omega | ((try clear ih); (try clear hr); (try clear hq0); (try clear hq1); (try clear hrec); ((try simp only [inB, Rg, bF, bH, jlt, jeq, Int32.reduceToInt, zS_pS, zS_pI, zI_pI, zI_pS, zN_pS, zN_pI, Nat.reduceEqDiff, Nat.reduceAdd, Nat.reduceMul, ite_true, ite_false, and_true, true_and, and_false, false_and, true_or, or_true, false_or, or_false, not_true_eq_false, not_false_eq_true, reduceIte, reduceCtorEq, eq_self] at *) <;> (first | omega | ((try simp (disch := first | omega | (simp (disch := first | omega | (simp (disch := first | omega | (simp only [Int32.reduceToInt]; omega)) only [i32_add, i32_sub, i32_mul, Int32.reduceToInt]; omega)) only [i32_add, i32_sub, i32_mul, Int32.reduceToInt]; omega)) only [i32_add, i32_sub, i32_mul, Int32.reduceToInt] at *) <;> (first | omega | ((try simp (disch := first | omega | (simp (disch := first | omega | (simp (disch := first | omega | (simp only [Int32.reduceToInt]; omega)) only [i32_add, i32_sub, i32_mul, Int32.reduceToInt]; omega)) only [i32_add, i32_sub, i32_mul, Int32.reduceToInt]; omega)) only [i32_add, i32_sub, i32_mul, Int32.reduceToInt] at *) <;> (first | omega | ((simp only [jadd, jsub, jmul, jneg, Int32.reduceToInt] at *) <;> omega))))))))))
set_option maxRecDepth 4000 in
theorem w_X11_boreOn {b0 : SS} {s0 : SS} {pa0 : Nat} {a1 : Int32} (K : Lk b0 s0) (g0 : okH b0 pa0) : Ok (f_X11_boreOn s0 pa0 a1) (fun r => Lk b0 r) := by
  unfold f_X11_boreOn
  have o3pa0 := K.h3 g0
  have o4pa0 := K.h4 g0
  have o5pa0 := g0.1
  repeat' (first
    | with_reducible assumption
    | (with_reducible show Ok _ _; first | dsimp only | with_reducible refine Ok_vl ?_)
    | dsimp only
    | with_reducible refine w_X11_boreOn_L7 (b0 := b0) (by assumption) (fun _ _ => ?_) _ _ _  ?_ ?_ ?_
    | with_reducible refine And.intro ?_ ?_)
  all_goals (try (first | with_reducible assumption | exact trivial | omega | ((try clear ih); (try clear hr); (try clear hq0); (try clear hq1); (try clear hrec); ((try simp only [inB, jlt, jeq, Int32.reduceToInt, Nat.reduceEqDiff, Nat.reduceAdd, Nat.reduceMul, ite_true, ite_false, and_true, true_and, and_false, false_and, true_or, or_true, false_or, or_false, not_true_eq_false, not_false_eq_true, reduceIte, reduceCtorEq, eq_self] at *) <;> (first | omega | ((try simp (disch := first | omega | (simp (disch := first | omega | (simp (disch := first | omega | (simp only [Int32.reduceToInt]; omega)) only [i32_add, i32_sub, Int32.reduceToInt]; omega)) only [i32_add, i32_sub, Int32.reduceToInt]; omega)) only [i32_add, i32_sub, Int32.reduceToInt] at *) <;> (first | omega | ((try simp (disch := first | omega | (simp (disch := first | omega | (simp (disch := first | omega | (simp only [Int32.reduceToInt]; omega)) only [i32_add, i32_sub, Int32.reduceToInt]; omega)) only [i32_add, i32_sub, Int32.reduceToInt]; omega)) only [i32_add, i32_sub, Int32.reduceToInt] at *) <;> (first | omega | ((simp only [jadd, jsub, jmul, jneg, Int32.reduceToInt] at *) <;> omega))))))))))
set_option maxRecDepth 4000 in
theorem w_X11_machinesWork_L2 {b0 : SS}  {Q : SS → Prop} (hr : ∀ s, Lk b0 s → Q s) : ∀ (n : Nat) (s : SS) (x1 : Int32), Lk b0 s → (0 ≤ x1.toInt ∧ x1.toInt ≤ 3) → 3 - x1.toInt < (n : Int) → Ok (f_X11_machinesWork_L2  n s x1) Q := by
  intro n
  induction n with
  | zero =>
    intro s x1 K i0 hm
    exfalso
    (first | with_reducible assumption | omega | ((try clear ih); (try clear hr); (try clear hq0); (try clear hq1); (try clear hrec); ((try simp only [inB, Rg, bH, jlt, jeq, Int32.reduceToInt, zS_pS, zI_pS, zN_pS, Nat.reduceEqDiff, Nat.reduceAdd, Nat.reduceMul, ite_true, ite_false, and_true, true_and, and_false, false_and, true_or, or_true, false_or, or_false, not_true_eq_false, not_false_eq_true, reduceIte, reduceCtorEq, eq_self] at *) <;> (first | omega | ((try simp (disch := first | omega | (simp (disch := first | omega | (simp (disch := first | omega | (simp only [Int32.reduceToInt]; omega)) only [i32_add, i32_sub, Int32.reduceToInt]; omega)) only [i32_add, i32_sub, Int32.reduceToInt]; omega)) only [i32_add, i32_sub, Int32.reduceToInt] at *) <;> (first | omega | ((try simp (disch := first | omega | (simp (disch := first | omega | (simp (disch := first | omega | (simp only [Int32.reduceToInt]; omega)) only [i32_add, i32_sub, Int32.reduceToInt]; omega)) only [i32_add, i32_sub, Int32.reduceToInt]; omega)) only [i32_add, i32_sub, Int32.reduceToInt] at *) <;> (first | omega | ((simp only [jadd, jsub, jmul, jneg, Int32.reduceToInt] at *) <;> omega)))))))))
  | succ n ih =>
    intro s x1 K i0 hm
    show Ok (f_X11_machinesWork_L2_b  (f_X11_machinesWork_L2  n) s x1) Q
    unfold f_X11_machinesWork_L2_b
    have f0 := kf_15_3 K
    repeat' (first
      | with_reducible assumption
      | (with_reducible show Ok _ _; first | dsimp only | with_reducible refine Ok_some ?_ | with_reducible refine Lk_G120 (by assumption) ?_ (fun _ _ _ _ _ => ?_) | with_reducible refine Lk_G3 (by assumption) ?_ (fun _ _ => ?_) | with_reducible refine Ok_gd ?_ (fun _ => ?_) | with_reducible refine Ok_vl ?_ | with_reducible refine Ok_st ?_ | with_reducible refine Ok_b1 ?_ | with_reducible refine Ok_onN ?_ | with_reducible refine Ok_onS ?_ | with_reducible refine Ok_ift (by decide) ?_ | with_reducible refine Ok_iff (by decide) ?_ | with_reducible refine Ok_if (fun _ => ?_) (fun _ => ?_) | with_reducible refine Lk_onM (b0 := b0) ?_ (by assumption) (fun _ _ _ => ?_) | with_reducible refine Lk_onH (b0 := b0) ?_ (by assumption) (fun _ => ?_) (fun _ _ _ _ _ _ => ?_) | with_reducible refine ih _ _  ?_ ?_ ?_ | with_reducible refine Ok.mono (w_X11_boreOn (b0 := b0) ?_ (by assumption)) (fun _ _ => ?_) | unfold f_X0_holeOf)
      | dsimp only
      | (with_reducible show Lk _ _; first | with_reducible refine Lk.wH ?_ (by assumption) ?_ | with_reducible refine Lk.wM ?_ (by assumption) (by decide) | with_reducible refine Lk.wC ?_ (by assumption))
      | with_reducible refine hr _ ?_
      | with_reducible refine And.intro ?_ ?_)
    all_goals (try (first | with_reducible assumption | exact trivial | omega | ((try clear ih); (try clear hr); (try clear hq0); (try clear hq1); (try clear hrec); ((try simp only [inB, Rg, bH, jlt, jeq, Int32.reduceToInt, zS_pS, zI_pS, zN_pS, Nat.reduceEqDiff, Nat.reduceAdd, Nat.reduceMul, ite_true, ite_false, and_true, true_and, and_false, false_and, true_or, or_true, false_or, or_false, not_true_eq_false, not_false_eq_true, reduceIte, reduceCtorEq, eq_self] at *) <;> (first | omega | ((try simp (disch := first | omega | (simp (disch := first | omega | (simp (disch := first | omega | (simp only [Int32.reduceToInt]; omega)) only [i32_add, i32_sub, Int32.reduceToInt]; omega)) only [i32_add, i32_sub, Int32.reduceToInt]; omega)) only [i32_add, i32_sub, Int32.reduceToInt] at *) <;> (first | omega | ((try simp (disch := first | omega | (simp (disch := first | omega | (simp (disch := first | omega | (simp only [Int32.reduceToInt]; omega)) only [i32_add, i32_sub, Int32.reduceToInt]; omega)) only [i32_add, i32_sub, Int32.reduceToInt]; omega)) only [i32_add, i32_sub, Int32.reduceToInt] at *) <;> (first | omega | ((simp only [jadd, jsub, jmul, jneg, Int32.reduceToInt] at *) <;> omega))))))))))
set_option maxRecDepth 4000 in
theorem w_X11_machinesWork {b0 : SS} {s0 : SS} (K : Lk b0 s0) : Ok (f_X11_machinesWork s0) (fun r => Lk b0 r) := by
  unfold f_X11_machinesWork
  repeat' (first
    | with_reducible assumption
    | dsimp only
    | with_reducible refine w_X11_machinesWork_L2 (b0 := b0) (fun _ _ => ?_) _ _ _  ?_ ?_ ?_
    | with_reducible refine And.intro ?_ ?_)
  all_goals (try (first | with_reducible assumption | exact trivial | omega | ((try clear ih); (try clear hr); (try clear hq0); (try clear hq1); (try clear hrec); ((try simp only [inB, jlt, jeq, Int32.reduceToInt, Nat.reduceEqDiff, Nat.reduceAdd, Nat.reduceMul, ite_true, ite_false, and_true, true_and, and_false, false_and, true_or, or_true, false_or, or_false, not_true_eq_false, not_false_eq_true, reduceIte, reduceCtorEq, eq_self] at *) <;> (first | omega | ((try simp (disch := first | omega | (simp (disch := first | omega | (simp (disch := first | omega | (simp only [Int32.reduceToInt]; omega)) only [i32_sub, Int32.reduceToInt]; omega)) only [i32_sub, Int32.reduceToInt]; omega)) only [i32_sub, Int32.reduceToInt] at *) <;> (first | omega | ((try simp (disch := first | omega | (simp (disch := first | omega | (simp (disch := first | omega | (simp only [Int32.reduceToInt]; omega)) only [i32_sub, Int32.reduceToInt]; omega)) only [i32_sub, Int32.reduceToInt]; omega)) only [i32_sub, Int32.reduceToInt] at *) <;> (first | omega | ((simp only [jadd, jsub, jmul, jneg, Int32.reduceToInt] at *) <;> omega))))))))))
set_option maxRecDepth 4000 in
theorem w_X11_menEat_L17 {b0 : SS} {y1 : Int32} {Q : SS → Prop} (hr : ∀ s, Lk b0 s → Q s) : ∀ (n : Nat) (s : SS) (x2 : Int32), Lk b0 s → (0 ≤ x2.toInt ∧ x2.toInt ≤ 120) → 120 - x2.toInt < (n : Int) → Ok (f_X11_menEat_L17 y1 n s x2) Q := by
  intro n
  induction n with
  | zero =>
    intro s x2 K i0 hm
    exfalso
    (first | with_reducible assumption | omega | ((try clear ih); (try clear hr); (try clear hq0); (try clear hq1); (try clear hrec); ((try simp only [inB, Rg, cellOK, bF, bA, jlt, jeq, Int32.reduceToInt, zS_pS, zS_pI, zI_pI, zI_pS, zN_pS, zN_pI, Nat.reduceEqDiff, Nat.reduceAdd, Nat.reduceMul, ite_true, ite_false, and_true, true_and, and_false, false_and, true_or, or_true, false_or, or_false, not_true_eq_false, not_false_eq_true, reduceIte, reduceCtorEq, eq_self] at *) <;> (first | omega | ((try simp (disch := first | omega | (simp (disch := first | omega | (simp (disch := first | omega | (simp only [Int32.reduceToInt]; omega)) only [i32_add, i32_sub, i32_mul, Int32.reduceToInt]; omega)) only [i32_add, i32_sub, i32_mul, Int32.reduceToInt]; omega)) only [i32_add, i32_sub, i32_mul, Int32.reduceToInt] at *) <;> (first | omega | ((try simp (disch := first | omega | (simp (disch := first | omega | (simp (disch := first | omega | (simp only [Int32.reduceToInt]; omega)) only [i32_add, i32_sub, i32_mul, Int32.reduceToInt]; omega)) only [i32_add, i32_sub, i32_mul, Int32.reduceToInt]; omega)) only [i32_add, i32_sub, i32_mul, Int32.reduceToInt] at *) <;> (first | omega | ((simp only [jadd, jsub, jmul, jneg, Int32.reduceToInt] at *) <;> omega)))))))))
  | succ n ih =>
    intro s x2 K i0 hm
    show Ok (f_X11_menEat_L17_b y1 (f_X11_menEat_L17 y1 n) s x2) Q
    unfold f_X11_menEat_L17_b
    have f0 := kf_15_3 K
    repeat' (first
      | with_reducible assumption
      | (with_reducible show Ok _ _; first | dsimp only | with_reducible refine Ok_some ?_ | with_reducible refine Lk_G120 (by assumption) ?_ (fun _ _ _ _ _ => ?_) | with_reducible refine Lk_G3 (by assumption) ?_ (fun _ _ => ?_) | with_reducible refine Ok_gd ?_ (fun _ => ?_) | with_reducible refine Ok_vl ?_ | with_reducible refine Ok_st ?_ | with_reducible refine Ok_jn ?_ | with_reducible refine Ok_b1 ?_ | with_reducible refine Ok_bd ?_ | with_reducible refine Ok_ift (by decide) ?_ | with_reducible refine Ok_iff (by decide) ?_ | with_reducible refine Ok_if (fun _ => ?_) (fun _ => ?_) | with_reducible refine ih _ _  ?_ ?_ ?_ | with_reducible refine Ok.mono (w_X11_given (b0 := b0) ?_) (fun _ _ => ?_) | with_reducible refine Ok.mono (w_X11_held ?_) (fun _ _ => ?_) | unfold f_X9_eats | unfold f_J9_min_7cf53 | unfold f_X2_afterDay)
      | dsimp only
      | (with_reducible show Lk _ _; first | with_reducible refine Lk.wI ?_ (by decide) (by decide) ?_ | with_reducible refine Lk.wF ?_ (by decide) (by decide) (by decide) ?_)
      | with_reducible refine hr _ ?_
      | with_reducible refine And.intro ?_ ?_)
    all_goals (try (first | with_reducible assumption | exact trivial | omega | ((try clear ih); (try clear hr); (try clear hq0); (try clear hq1); (try clear hrec); ((try simp only [inB, Rg, cellOK, bF, bA, jlt, jeq, Int32.reduceToInt, zS_pS, zS_pI, zI_pI, zI_pS, zN_pS, zN_pI, Nat.reduceEqDiff, Nat.reduceAdd, Nat.reduceMul, ite_true, ite_false, and_true, true_and, and_false, false_and, true_or, or_true, false_or, or_false, not_true_eq_false, not_false_eq_true, reduceIte, reduceCtorEq, eq_self] at *) <;> (first | omega | ((try simp (disch := first | omega | (simp (disch := first | omega | (simp (disch := first | omega | (simp only [Int32.reduceToInt]; omega)) only [i32_add, i32_sub, i32_mul, Int32.reduceToInt]; omega)) only [i32_add, i32_sub, i32_mul, Int32.reduceToInt]; omega)) only [i32_add, i32_sub, i32_mul, Int32.reduceToInt] at *) <;> (first | omega | ((try simp (disch := first | omega | (simp (disch := first | omega | (simp (disch := first | omega | (simp only [Int32.reduceToInt]; omega)) only [i32_add, i32_sub, i32_mul, Int32.reduceToInt]; omega)) only [i32_add, i32_sub, i32_mul, Int32.reduceToInt]; omega)) only [i32_add, i32_sub, i32_mul, Int32.reduceToInt] at *) <;> (first | omega | ((simp only [jadd, jsub, jmul, jneg, Int32.reduceToInt] at *) <;> omega))))))))))
set_option maxRecDepth 4000 in
theorem w_X11_menEat {b0 : SS} {s0 : SS} (K : Lk b0 s0) : Ok (f_X11_menEat s0) (fun r => Lk b0 r) := by
  unfold f_X11_menEat
  repeat' (first
    | with_reducible assumption
    | (with_reducible show Ok _ _; first | dsimp only | with_reducible refine Ok_b1 ?_ | with_reducible refine Ok.mono (w_X11_latestText (b0 := b0) ?_) (fun _ _ => ?_))
    | dsimp only
    | with_reducible refine w_X11_menEat_L17 (b0 := b0) (fun _ _ => ?_) _ _ _  ?_ ?_ ?_
    | with_reducible refine And.intro ?_ ?_)
  all_goals (try (first | with_reducible assumption | exact trivial | omega | ((try clear ih); (try clear hr); (try clear hq0); (try clear hq1); (try clear hrec); ((try simp only [inB, jlt, jeq, Int32.reduceToInt, jn2, Nat.reduceEqDiff, Nat.reduceAdd, Nat.reduceMul, ite_true, ite_false, and_true, true_and, and_false, false_and, true_or, or_true, false_or, or_false, not_true_eq_false, not_false_eq_true, reduceIte, reduceCtorEq, eq_self] at *) <;> (first | omega | ((try simp (disch := first | omega | (simp (disch := first | omega | (simp (disch := first | omega | (simp only [Int32.reduceToInt]; omega)) only [i32_sub, Int32.reduceToInt]; omega)) only [i32_sub, Int32.reduceToInt]; omega)) only [i32_sub, Int32.reduceToInt] at *) <;> (first | omega | ((try simp (disch := first | omega | (simp (disch := first | omega | (simp (disch := first | omega | (simp only [Int32.reduceToInt]; omega)) only [i32_sub, Int32.reduceToInt]; omega)) only [i32_sub, Int32.reduceToInt]; omega)) only [i32_sub, Int32.reduceToInt] at *) <;> (first | omega | ((simp only [jadd, jsub, jmul, jneg, Int32.reduceToInt] at *) <;> omega))))))))))
set_option maxRecDepth 4000 in
theorem w_X11_spoons {b0 : SS} {s0 : SS} {a0 : Int32} (K : Lk b0 s0) : Ok (f_X11_spoons s0 a0) (fun r => Lk b0 r.2) := by
  unfold f_X11_spoons
  repeat' (first
    | with_reducible assumption
    | (with_reducible show Ok _ _; first | dsimp only | with_reducible refine Ok_some ?_ | with_reducible refine Ok_vl ?_ | with_reducible refine Ok_st ?_ | with_reducible refine Ok_ift (by decide) ?_ | with_reducible refine Ok_iff (by decide) ?_ | with_reducible refine Ok_if (fun _ => ?_) (fun _ => ?_))
    | dsimp only
    | (with_reducible show Lk _ _; first | with_reducible refine Lk.wF ?_ (by decide) (by decide) (by decide) ?_)
    | with_reducible refine And.intro ?_ ?_)
  all_goals (try (first | with_reducible assumption | exact trivial | omega | ((try clear ih); (try clear hr); (try clear hq0); (try clear hq1); (try clear hrec); ((try simp only [inB, Rg, bF, jlt, jeq, Int32.reduceToInt, jn1, zS_pS, zI_pS, zN_pS, Nat.reduceEqDiff, Nat.reduceAdd, Nat.reduceMul, ite_true, ite_false, and_true, true_and, and_false, false_and, true_or, or_true, false_or, or_false, not_true_eq_false, not_false_eq_true, reduceIte, reduceCtorEq, eq_self] at *) <;> (first | omega | ((try simp (disch := first | omega | (simp (disch := first | omega | (simp (disch := first | omega | (simp only [Int32.reduceToInt]; omega)) only [Int32.reduceToInt]; omega)) only [Int32.reduceToInt]; omega)) only [Int32.reduceToInt] at *) <;> (first | omega | ((try simp (disch := first | omega | (simp (disch := first | omega | (simp (disch := first | omega | (simp only [Int32.reduceToInt]; omega)) only [Int32.reduceToInt]; omega)) only [Int32.reduceToInt]; omega)) only [Int32.reduceToInt] at *) <;> (first | omega | ((simp only [jadd, jsub, jmul, jneg, Int32.reduceToInt] at *) <;> omega))))))))))
set_option maxRecDepth 4000 in
theorem w_X11_last {b0 : SS} {s0 : SS} {a0 : Int32} {a1 : Int32} (K : Lk b0 s0) : Ok (f_X11_last s0 a0 a1) (fun r => Lk b0 r.2) := by
  unfold f_X11_last
  repeat' (first
    | with_reducible assumption
    | (with_reducible show Ok _ _; first | dsimp only | with_reducible refine Ok_some ?_ | with_reducible refine Ok_bd ?_ | with_reducible refine Ok_ift (by decide) ?_ | with_reducible refine Ok_iff (by decide) ?_ | with_reducible refine Ok_if (fun _ => ?_) (fun _ => ?_) | with_reducible refine Ok.mono (w_X2_daysKept (b0 := b0) ?_) (fun _ _ => ?_))
    | dsimp only
    | with_reducible refine And.intro ?_ ?_)
  all_goals (try (first | with_reducible assumption | exact trivial | omega | ((try clear ih); (try clear hr); (try clear hq0); (try clear hq1); (try clear hrec); ((try simp only [inB, jlt, jeq, Int32.reduceToInt, jn1, jn2, Nat.reduceEqDiff, Nat.reduceAdd, Nat.reduceMul, ite_true, ite_false, and_true, true_and, and_false, false_and, true_or, or_true, false_or, or_false, not_true_eq_false, not_false_eq_true, reduceIte, reduceCtorEq, eq_self] at *) <;> (first | omega | ((try simp (disch := first | omega | (simp (disch := first | omega | (simp (disch := first | omega | (simp only [Int32.reduceToInt]; omega)) only [Int32.reduceToInt]; omega)) only [Int32.reduceToInt]; omega)) only [Int32.reduceToInt] at *) <;> (first | omega | ((try simp (disch := first | omega | (simp (disch := first | omega | (simp (disch := first | omega | (simp only [Int32.reduceToInt]; omega)) only [Int32.reduceToInt]; omega)) only [Int32.reduceToInt]; omega)) only [Int32.reduceToInt] at *) <;> (first | omega | ((simp only [jadd, jsub, jmul, jneg, Int32.reduceToInt] at *) <;> omega))))))))))
set_option maxRecDepth 4000 in
theorem w_X11_best_L33 {b0 : SS} {y1 : Int32} {Q : Int32 × SS → Prop} (hr : ∀ v s, Lk b0 s → Q (v, s)) : ∀ (n : Nat) (s : SS) (x2 : Int32) (x3 : Int32) (x4 : Int32), Lk b0 s → (0 ≤ x4.toInt ∧ x4.toInt ≤ 10) → 10 - x4.toInt < (n : Int) → Ok (f_X11_best_L33 y1 n s x2 x3 x4) Q := by
  intro n
  induction n with
  | zero =>
    intro s x2 x3 x4 K i0 hm
    exfalso
    (first | with_reducible assumption | omega | ((try clear ih); (try clear hr); (try clear hq0); (try clear hq1); (try clear hrec); ((try simp only [inB, jlt, jeq, Int32.reduceToInt, Nat.reduceEqDiff, Nat.reduceAdd, Nat.reduceMul, ite_true, ite_false, and_true, true_and, and_false, false_and, true_or, or_true, false_or, or_false, not_true_eq_false, not_false_eq_true, reduceIte, reduceCtorEq, eq_self] at *) <;> (first | omega | ((try simp (disch := first | omega | (simp (disch := first | omega | (simp (disch := first | omega | (simp only [Int32.reduceToInt]; omega)) only [i32_add, i32_sub, Int32.reduceToInt]; omega)) only [i32_add, i32_sub, Int32.reduceToInt]; omega)) only [i32_add, i32_sub, Int32.reduceToInt] at *) <;> (first | omega | ((try simp (disch := first | omega | (simp (disch := first | omega | (simp (disch := first | omega | (simp only [Int32.reduceToInt]; omega)) only [i32_add, i32_sub, Int32.reduceToInt]; omega)) only [i32_add, i32_sub, Int32.reduceToInt]; omega)) only [i32_add, i32_sub, Int32.reduceToInt] at *) <;> (first | omega | ((simp only [jadd, jsub, jmul, jneg, Int32.reduceToInt] at *) <;> omega)))))))))
  | succ n ih =>
    intro s x2 x3 x4 K i0 hm
    show Ok (f_X11_best_L33_b y1 (f_X11_best_L33 y1 n) s x2 x3 x4) Q
    unfold f_X11_best_L33_b
    repeat' (first
      | with_reducible assumption
      | (with_reducible show Ok _ _; first | dsimp only | with_reducible refine Ok_some ?_ | with_reducible refine Ok_vl ?_ | with_reducible refine Ok_jn ?_ | with_reducible refine Ok_bd ?_ | with_reducible refine Ok_ift (by decide) ?_ | with_reducible refine Ok_iff (by decide) ?_ | with_reducible refine Ok_if (fun _ => ?_) (fun _ => ?_) | with_reducible refine ih _ _ _ _  ?_ ?_ ?_ | with_reducible refine Ok.mono (w_X2_daysKept (b0 := b0) ?_) (fun _ _ => ?_))
      | dsimp only
      | with_reducible refine hr _ _ ?_
      | with_reducible refine And.intro ?_ ?_)
    all_goals (try (first | with_reducible assumption | exact trivial | omega | ((try clear ih); (try clear hr); (try clear hq0); (try clear hq1); (try clear hrec); ((try simp only [inB, jlt, jeq, Int32.reduceToInt, Nat.reduceEqDiff, Nat.reduceAdd, Nat.reduceMul, ite_true, ite_false, and_true, true_and, and_false, false_and, true_or, or_true, false_or, or_false, not_true_eq_false, not_false_eq_true, reduceIte, reduceCtorEq, eq_self] at *) <;> (first | omega | ((try simp (disch := first | omega | (simp (disch := first | omega | (simp (disch := first | omega | (simp only [Int32.reduceToInt]; omega)) only [i32_add, i32_sub, Int32.reduceToInt]; omega)) only [i32_add, i32_sub, Int32.reduceToInt]; omega)) only [i32_add, i32_sub, Int32.reduceToInt] at *) <;> (first | omega | ((try simp (disch := first | omega | (simp (disch := first | omega | (simp (disch := first | omega | (simp only [Int32.reduceToInt]; omega)) only [i32_add, i32_sub, Int32.reduceToInt]; omega)) only [i32_add, i32_sub, Int32.reduceToInt]; omega)) only [i32_add, i32_sub, Int32.reduceToInt] at *) <;> (first | omega | ((simp only [jadd, jsub, jmul, jneg, Int32.reduceToInt] at *) <;> omega))))))))))
set_option maxRecDepth 4000 in
theorem w_X11_best {b0 : SS} {s0 : SS} {a0 : Int32} (K : Lk b0 s0) : Ok (f_X11_best s0 a0) (fun r => Lk b0 r.2) := by
  unfold f_X11_best
  repeat' (first
    | with_reducible assumption
    | (with_reducible show Ok _ _; first | dsimp only | with_reducible refine Ok_some ?_ | with_reducible refine Ok_ift (by decide) ?_ | with_reducible refine Ok_iff (by decide) ?_ | with_reducible refine Ok_if (fun _ => ?_) (fun _ => ?_))
    | dsimp only
    | with_reducible refine w_X11_best_L33 (b0 := b0) (fun _ _ _ => ?_) _ _ _ _ _  ?_ ?_ ?_
    | with_reducible refine And.intro ?_ ?_)
  all_goals (try (first | with_reducible assumption | exact trivial | omega | ((try clear ih); (try clear hr); (try clear hq0); (try clear hq1); (try clear hrec); ((try simp only [inB, jlt, jeq, Int32.reduceToInt, jn1, jn2, Nat.reduceEqDiff, Nat.reduceAdd, Nat.reduceMul, ite_true, ite_false, and_true, true_and, and_false, false_and, true_or, or_true, false_or, or_false, not_true_eq_false, not_false_eq_true, reduceIte, reduceCtorEq, eq_self] at *) <;> (first | omega | ((try simp (disch := first | omega | (simp (disch := first | omega | (simp (disch := first | omega | (simp only [Int32.reduceToInt]; omega)) only [i32_sub, Int32.reduceToInt]; omega)) only [i32_sub, Int32.reduceToInt]; omega)) only [i32_sub, Int32.reduceToInt] at *) <;> (first | omega | ((try simp (disch := first | omega | (simp (disch := first | omega | (simp (disch := first | omega | (simp only [Int32.reduceToInt]; omega)) only [i32_sub, Int32.reduceToInt]; omega)) only [i32_sub, Int32.reduceToInt]; omega)) only [i32_sub, Int32.reduceToInt] at *) <;> (first | omega | ((simp only [jadd, jsub, jmul, jneg, Int32.reduceToInt] at *) <;> omega))))))))))
set_option maxRecDepth 4000 in
theorem w_X11_down {b0 : SS} {s0 : SS} {a0 : Int32} {a1 : Int32} {a2 : Int32} (K : Lk b0 s0) : Ok (f_X11_down s0 a0 a1 a2) (fun r => Lk b0 r.2) := by
  unfold f_X11_down
  have f0 := kf_30_5 K
  have f1 := kf_15_3 K
  repeat' (first
    | with_reducible assumption
    | (with_reducible show Ok _ _; first | dsimp only | with_reducible refine Ok_some ?_ | with_reducible refine Lk_G120 (by assumption) ?_ (fun _ _ _ _ _ => ?_) | with_reducible refine Lk_G3 (by assumption) ?_ (fun _ _ => ?_) | with_reducible refine Lk_G40 (by assumption) ?_ (fun _ _ => ?_) | with_reducible refine Lk_G6 (by assumption) ?_ (fun _ _ _ => ?_) | with_reducible refine Ok_gd ?_ (fun _ => ?_) | with_reducible refine Ok_vl ?_ | with_reducible refine Ok_st ?_ | with_reducible refine Ok_b1 ?_ | with_reducible refine Ok_onN ?_ | with_reducible refine Ok_onS ?_ | with_reducible refine Ok_ift (by decide) ?_ | with_reducible refine Ok_iff (by decide) ?_ | with_reducible refine Ok_if (fun _ => ?_) (fun _ => ?_) | with_reducible refine Lk_onH (b0 := b0) ?_ (by assumption) (fun _ => ?_) (fun _ _ _ _ _ _ => ?_) | with_reducible refine Ok.mono (w_X0_kindOf (b0 := b0) ?_) (fun _ _ => ?_) | unfold f_X0_holeOf | unfold f_X11_isThing | unfold f_J9_max_7cf53 | unfold f_X9_sends)
    | dsimp only
    | (with_reducible show Lk _ _; first | with_reducible refine Lk.wI ?_ (by decide) (by decide) ?_ | with_reducible refine Lk.wF ?_ (by decide) (by decide) (by decide) ?_ | with_reducible refine Lk.wH ?_ (by assumption) ?_ | with_reducible refine Lk.wM ?_ (by assumption) (by decide) | with_reducible refine Lk.wC ?_ (by assumption))
    | with_reducible refine And.intro ?_ ?_)
  all_goals (try (first | with_reducible assumption | exact trivial | omega | ((try clear ih); (try clear hr); (try clear hq0); (try clear hq1); (try clear hrec); ((try simp only [inB, Rg, cellOK, bF, bA, bH, jlt, jeq, jd10, jm10, Int32.reduceToInt, jn1, jn2, jn3, zS_pS, zS_pI, zI_pI, zI_pS, zN_pS, zN_pI, Nat.reduceEqDiff, Nat.reduceAdd, Nat.reduceMul, ite_true, ite_false, and_true, true_and, and_false, false_and, true_or, or_true, false_or, or_false, not_true_eq_false, not_false_eq_true, reduceIte, reduceCtorEq, eq_self] at *) <;> (first | omega | ((try simp (disch := first | omega | (simp (disch := first | omega | (simp (disch := first | omega | (simp only [jd10, jm10, Int32.reduceToInt]; omega)) only [i32_add, jd10, jm10, Int32.reduceToInt]; omega)) only [i32_add, jd10, jm10, Int32.reduceToInt]; omega)) only [i32_add, jd10, jm10, Int32.reduceToInt] at *) <;> (first | omega | ((try simp (disch := first | omega | (simp (disch := first | omega | (simp (disch := first | omega | (simp only [jd10, jm10, Int32.reduceToInt]; omega)) only [i32_add, jd10, jm10, Int32.reduceToInt]; omega)) only [i32_add, jd10, jm10, Int32.reduceToInt]; omega)) only [i32_add, jd10, jm10, Int32.reduceToInt] at *) <;> (first | omega | ((simp only [jadd, jsub, jmul, jneg, Int32.reduceToInt] at *) <;> omega))))))))))
set_option maxRecDepth 4000 in
theorem w_X11_below {b0 : SS} {s0 : SS} {a0 : Int32} (K : Lk b0 s0) : Ok (f_X11_below s0 a0) (fun _ => True) := by
  unfold f_X11_below
  repeat' (first
    | with_reducible assumption
    | (with_reducible show Ok _ _; first | dsimp only | with_reducible refine Ok_some ?_ | with_reducible refine Ok_gd ?_ (fun _ => ?_) | with_reducible refine Ok_ift (by decide) ?_ | with_reducible refine Ok_iff (by decide) ?_ | with_reducible refine Ok_if (fun _ => ?_) (fun _ => ?_))
    | dsimp only
    | with_reducible refine And.intro ?_ ?_)
  all_goals (try (first | with_reducible assumption | exact trivial | omega | ((try clear ih); (try clear hr); (try clear hq0); (try clear hq1); (try clear hrec); ((try simp only [inB, jlt, jeq, Int32.reduceToInt, jn1, Nat.reduceEqDiff, Nat.reduceAdd, Nat.reduceMul, ite_true, ite_false, and_true, true_and, and_false, false_and, true_or, or_true, false_or, or_false, not_true_eq_false, not_false_eq_true, reduceIte, reduceCtorEq, eq_self] at *) <;> (first | omega | ((try simp (disch := first | omega | (simp (disch := first | omega | (simp (disch := first | omega | (simp only [Int32.reduceToInt]; omega)) only [Int32.reduceToInt]; omega)) only [Int32.reduceToInt]; omega)) only [Int32.reduceToInt] at *) <;> (first | omega | ((try simp (disch := first | omega | (simp (disch := first | omega | (simp (disch := first | omega | (simp only [Int32.reduceToInt]; omega)) only [Int32.reduceToInt]; omega)) only [Int32.reduceToInt]; omega)) only [Int32.reduceToInt] at *) <;> (first | omega | ((simp only [jadd, jsub, jmul, jneg, Int32.reduceToInt] at *) <;> omega))))))))))
set_option maxRecDepth 4000 in
theorem w_X11_ordered {b0 : SS} {s0 : SS} {a0 : Int32} (K : Lk b0 s0) : Ok (f_X11_ordered s0 a0) (fun _ => True) := by
  unfold f_X11_ordered
  have f0 := kf_34_7 K
  repeat' (first
    | with_reducible assumption
    | (with_reducible show Ok _ _; first | dsimp only | with_reducible refine Ok_some ?_ | with_reducible refine Ok_gd ?_ (fun _ => ?_) | with_reducible refine Ok_ift (by decide) ?_ | with_reducible refine Ok_iff (by decide) ?_ | with_reducible refine Ok_if (fun _ => ?_) (fun _ => ?_))
    | dsimp only
    | with_reducible refine And.intro ?_ ?_)
  all_goals (try (first | with_reducible assumption | exact trivial | omega | ((try clear ih); (try clear hr); (try clear hq0); (try clear hq1); (try clear hrec); ((try simp only [inB, jlt, jeq, Int32.reduceToInt, jn1, Nat.reduceEqDiff, Nat.reduceAdd, Nat.reduceMul, ite_true, ite_false, and_true, true_and, and_false, false_and, true_or, or_true, false_or, or_false, not_true_eq_false, not_false_eq_true, reduceIte, reduceCtorEq, eq_self] at *) <;> (first | omega | ((try simp (disch := first | omega | (simp (disch := first | omega | (simp (disch := first | omega | (simp only [Int32.reduceToInt]; omega)) only [Int32.reduceToInt]; omega)) only [Int32.reduceToInt]; omega)) only [Int32.reduceToInt] at *) <;> (first | omega | ((try simp (disch := first | omega | (simp (disch := first | omega | (simp (disch := first | omega | (simp only [Int32.reduceToInt]; omega)) only [Int32.reduceToInt]; omega)) only [Int32.reduceToInt]; omega)) only [Int32.reduceToInt] at *) <;> (first | omega | ((simp only [jadd, jsub, jmul, jneg, Int32.reduceToInt] at *) <;> omega))))))))))
set_option maxRecDepth 4000 in
theorem w_X11_watch {b0 : SS} {s0 : SS} {a0 : Int32} {a1 : Int32} (K : Lk b0 s0) : Ok (f_X11_watch s0 a0 a1) (fun r => Lk b0 r.2) := by
  unfold f_X11_watch
  repeat' (first
    | with_reducible assumption
    | (with_reducible show Ok _ _; first | dsimp only | with_reducible refine Ok_some ?_ | with_reducible refine Ok_bd ?_ | with_reducible refine Ok_ift (by decide) ?_ | with_reducible refine Ok_iff (by decide) ?_ | with_reducible refine Ok_if (fun _ => ?_) (fun _ => ?_) | with_reducible refine Ok.mono (w_X2_watchesMade (b0 := b0) ?_ ?_) (fun _ _ => ?_))
    | dsimp only
    | with_reducible refine And.intro ?_ ?_)
  all_goals (try (first | with_reducible assumption | exact trivial | omega | ((try clear ih); (try clear hr); (try clear hq0); (try clear hq1); (try clear hrec); ((try simp only [inB, jlt, jeq, Int32.reduceToInt, jn1, Nat.reduceEqDiff, Nat.reduceAdd, Nat.reduceMul, ite_true, ite_false, and_true, true_and, and_false, false_and, true_or, or_true, false_or, or_false, not_true_eq_false, not_false_eq_true, reduceIte, reduceCtorEq, eq_self] at *) <;> (first | omega | ((try simp (disch := first | omega | (simp (disch := first | omega | (simp (disch := first | omega | (simp only [Int32.reduceToInt]; omega)) only [Int32.reduceToInt]; omega)) only [Int32.reduceToInt]; omega)) only [Int32.reduceToInt] at *) <;> (first | omega | ((try simp (disch := first | omega | (simp (disch := first | omega | (simp (disch := first | omega | (simp only [Int32.reduceToInt]; omega)) only [Int32.reduceToInt]; omega)) only [Int32.reduceToInt]; omega)) only [Int32.reduceToInt] at *) <;> (first | omega | ((simp only [jadd, jsub, jmul, jneg, Int32.reduceToInt] at *) <;> omega))))))))))
set_option maxRecDepth 4000 in
theorem w_X11_watched {b0 : SS} {s0 : SS} {a0 : Int32} {a1 : Int32} (K : Lk b0 s0) : Ok (f_X11_watched s0 a0 a1) (fun _ => True) := by
  unfold f_X11_watched
  have f0 := kf_6_7 K
  repeat' (first
    | with_reducible assumption
    | (with_reducible show Ok _ _; first | dsimp only | with_reducible refine Ok_some ?_ | with_reducible refine Ok_gd ?_ (fun _ => ?_) | with_reducible refine Ok_vl ?_ | with_reducible refine Ok_ift (by decide) ?_ | with_reducible refine Ok_iff (by decide) ?_ | with_reducible refine Ok_if (fun _ => ?_) (fun _ => ?_))
    | dsimp only
    | with_reducible refine wat ?_ ?_ ?_
    | with_reducible refine And.intro ?_ ?_)
  all_goals (try (first | with_reducible assumption | exact trivial | omega | ((try clear ih); (try clear hr); (try clear hq0); (try clear hq1); (try clear hrec); ((try simp only [inB, jlt, jeq, Int32.reduceToInt, jn1, Nat.reduceEqDiff, Nat.reduceAdd, Nat.reduceMul, ite_true, ite_false, and_true, true_and, and_false, false_and, true_or, or_true, false_or, or_false, not_true_eq_false, not_false_eq_true, reduceIte, reduceCtorEq, eq_self] at *) <;> (first | omega | ((try simp (disch := first | omega | (simp (disch := first | omega | (simp (disch := first | omega | (simp only [Int32.reduceToInt]; omega)) only [i32_add, i32_mul, Int32.reduceToInt]; omega)) only [i32_add, i32_mul, Int32.reduceToInt]; omega)) only [i32_add, i32_mul, Int32.reduceToInt] at *) <;> (first | omega | ((try simp (disch := first | omega | (simp (disch := first | omega | (simp (disch := first | omega | (simp only [Int32.reduceToInt]; omega)) only [i32_add, i32_mul, Int32.reduceToInt]; omega)) only [i32_add, i32_mul, Int32.reduceToInt]; omega)) only [i32_add, i32_mul, Int32.reduceToInt] at *) <;> (first | omega | ((simp only [jadd, jsub, jmul, jneg, Int32.reduceToInt] at *) <;> omega))))))))))
set_option maxRecDepth 4000 in
theorem w_X11_aimedAt {b0 : SS} {s0 : SS} {a0 : Int32} {a1 : Int32} (K : Lk b0 s0) : Ok (f_X11_aimedAt s0 a0 a1) (fun _ => True) := by
  unfold f_X11_aimedAt
  have f0 := kf_34_14 K
  repeat' (first
    | with_reducible assumption
    | (with_reducible show Ok _ _; first | dsimp only | with_reducible refine Ok_some ?_ | with_reducible refine Ok_gd ?_ (fun _ => ?_) | with_reducible refine Ok_ift (by decide) ?_ | with_reducible refine Ok_iff (by decide) ?_ | with_reducible refine Ok_if (fun _ => ?_) (fun _ => ?_))
    | dsimp only
    | with_reducible refine And.intro ?_ ?_)
  all_goals (try (first | with_reducible assumption | exact trivial | omega | ((try clear ih); (try clear hr); (try clear hq0); (try clear hq1); (try clear hrec); ((try simp only [inB, jlt, jeq, Int32.reduceToInt, jn1, Nat.reduceEqDiff, Nat.reduceAdd, Nat.reduceMul, ite_true, ite_false, and_true, true_and, and_false, false_and, true_or, or_true, false_or, or_false, not_true_eq_false, not_false_eq_true, reduceIte, reduceCtorEq, eq_self] at *) <;> (first | omega | ((try simp (disch := first | omega | (simp (disch := first | omega | (simp (disch := first | omega | (simp only [Int32.reduceToInt]; omega)) only [Int32.reduceToInt]; omega)) only [Int32.reduceToInt]; omega)) only [Int32.reduceToInt] at *) <;> (first | omega | ((try simp (disch := first | omega | (simp (disch := first | omega | (simp (disch := first | omega | (simp only [Int32.reduceToInt]; omega)) only [Int32.reduceToInt]; omega)) only [Int32.reduceToInt]; omega)) only [Int32.reduceToInt] at *) <;> (first | omega | ((simp only [jadd, jsub, jmul, jneg, Int32.reduceToInt] at *) <;> omega))))))))))
set_option maxRecDepth 4000 in
theorem w_X11_race {b0 : SS} {s0 : SS} {a0 : Int32} {a1 : Int32} {a2 : Int32} (K : Lk b0 s0) : Ok (f_X11_race s0 a0 a1 a2) (fun _ => True) := by
  unfold f_X11_race
  have f0 := kf_15_3 K
  repeat' (first
    | with_reducible assumption
    | (with_reducible show Ok _ _; first | dsimp only | with_reducible refine Ok_some ?_ | with_reducible refine Lk_G120 (by assumption) ?_ (fun _ _ _ _ _ => ?_) | with_reducible refine Lk_G3 (by assumption) ?_ (fun _ _ => ?_) | with_reducible refine Lk_G6 (by assumption) ?_ (fun _ _ _ => ?_) | with_reducible refine Ok_gd ?_ (fun _ => ?_) | with_reducible refine Ok_b1 ?_ | with_reducible refine Ok_onN ?_ | with_reducible refine Ok_onS ?_ | with_reducible refine Ok_ift (by decide) ?_ | with_reducible refine Ok_iff (by decide) ?_ | with_reducible refine Ok_if (fun _ => ?_) (fun _ => ?_) | with_reducible refine Lk_onM (b0 := b0) ?_ (by assumption) (fun _ _ _ => ?_) | with_reducible refine Lk_onH (b0 := b0) ?_ (by assumption) (fun _ => ?_) (fun _ _ _ _ _ _ => ?_) | unfold f_X11_machineOf | unfold f_X11_isYard | unfold f_X0_holeOf | unfold f_J9_max_7cf53 | unfold f_J9_min_7cf53)
    | dsimp only
    | with_reducible refine And.intro ?_ ?_)
  all_goals (try (first | with_reducible assumption | exact trivial | omega | ((try clear ih); (try clear hr); (try clear hq0); (try clear hq1); (try clear hrec); ((try simp only [inB, jlt, jeq, jd60, Int32.reduceToInt, jn1, jn2, Nat.reduceEqDiff, Nat.reduceAdd, Nat.reduceMul, ite_true, ite_false, and_true, true_and, and_false, false_and, true_or, or_true, false_or, or_false, not_true_eq_false, not_false_eq_true, reduceIte, reduceCtorEq, eq_self] at *) <;> (first | omega | ((try simp (disch := first | omega | (simp (disch := first | omega | (simp (disch := first | omega | (simp only [jd60, Int32.reduceToInt]; omega)) only [i32_add, i32_sub, i32_mul, jd60, Int32.reduceToInt]; omega)) only [i32_add, i32_sub, i32_mul, jd60, Int32.reduceToInt]; omega)) only [i32_add, i32_sub, i32_mul, jd60, Int32.reduceToInt] at *) <;> (first | omega | ((try simp (disch := first | omega | (simp (disch := first | omega | (simp (disch := first | omega | (simp only [jd60, Int32.reduceToInt]; omega)) only [i32_add, i32_sub, i32_mul, jd60, Int32.reduceToInt]; omega)) only [i32_add, i32_sub, i32_mul, jd60, Int32.reduceToInt]; omega)) only [i32_add, i32_sub, i32_mul, jd60, Int32.reduceToInt] at *) <;> (first | omega | ((simp only [jadd, jsub, jmul, jneg, Int32.reduceToInt] at *) <;> omega))))))))))
set_option maxRecDepth 4000 in
theorem w_X11_capsule_L93 {b0 : SS} {q0 : SS → Option (Int32 × SS)} {y4 : Int32} {Q : Int32 × SS → Prop} (hq0 : ∀ (s : SS), Lk b0 s → Ok (q0 s) Q) : ∀ (n : Nat) (s : SS) (x5 : Int32), Lk b0 s → (0 ≤ x5.toInt ∧ x5.toInt ≤ 120) → 120 - x5.toInt < (n : Int) → Ok (f_X11_capsule_L93 q0 y4 n s x5) Q := by
  intro n
  induction n with
  | zero =>
    intro s x5 K i0 hm
    exfalso
    (first | with_reducible assumption | omega | ((try clear ih); (try clear hr); (try clear hq0); (try clear hq1); (try clear hrec); ((try simp only [inB, jlt, jeq, Int32.reduceToInt, Nat.reduceEqDiff, Nat.reduceAdd, Nat.reduceMul, ite_true, ite_false, and_true, true_and, and_false, false_and, true_or, or_true, false_or, or_false, not_true_eq_false, not_false_eq_true, reduceIte, reduceCtorEq, eq_self] at *) <;> (first | omega | ((try simp (disch := first | omega | (simp (disch := first | omega | (simp (disch := first | omega | (simp only [Int32.reduceToInt]; omega)) only [i32_add, i32_sub, Int32.reduceToInt]; omega)) only [i32_add, i32_sub, Int32.reduceToInt]; omega)) only [i32_add, i32_sub, Int32.reduceToInt] at *) <;> (first | omega | ((try simp (disch := first | omega | (simp (disch := first | omega | (simp (disch := first | omega | (simp only [Int32.reduceToInt]; omega)) only [i32_add, i32_sub, Int32.reduceToInt]; omega)) only [i32_add, i32_sub, Int32.reduceToInt]; omega)) only [i32_add, i32_sub, Int32.reduceToInt] at *) <;> (first | omega | ((simp only [jadd, jsub, jmul, jneg, Int32.reduceToInt] at *) <;> omega)))))))))
  | succ n ih =>
    intro s x5 K i0 hm
    show Ok (f_X11_capsule_L93_b q0 y4 (f_X11_capsule_L93 q0 y4 n) s x5) Q
    unfold f_X11_capsule_L93_b
    have f0 := kf_15_3 K
    repeat' (first
      | with_reducible assumption
      | (with_reducible show Ok _ _; first | dsimp only | with_reducible refine Lk_G120 (by assumption) ?_ (fun _ _ _ _ _ => ?_) | with_reducible refine Lk_G3 (by assumption) ?_ (fun _ _ => ?_) | with_reducible refine Ok_gd ?_ (fun _ => ?_) | with_reducible refine Ok_vl ?_ | with_reducible refine Ok_jn ?_ | with_reducible refine Ok_b1 ?_ | with_reducible refine Ok_bd ?_ | with_reducible refine Ok_ift (by decide) ?_ | with_reducible refine Ok_iff (by decide) ?_ | with_reducible refine Ok_if (fun _ => ?_) (fun _ => ?_) | with_reducible refine ih _ _  ?_ ?_ ?_ | with_reducible refine hq0 _  ?_ | with_reducible refine Ok.mono (w_X11_given (b0 := b0) ?_) (fun _ _ => ?_) | with_reducible refine Ok.mono (w_X2_liftTakes (b0 := b0) ?_) (fun _ _ => ?_))
      | dsimp only
      | with_reducible refine And.intro ?_ ?_)
    all_goals (try (first | with_reducible assumption | exact trivial | omega | ((try clear ih); (try clear hr); (try clear hq0); (try clear hq1); (try clear hrec); ((try simp only [inB, jlt, jeq, Int32.reduceToInt, Nat.reduceEqDiff, Nat.reduceAdd, Nat.reduceMul, ite_true, ite_false, and_true, true_and, and_false, false_and, true_or, or_true, false_or, or_false, not_true_eq_false, not_false_eq_true, reduceIte, reduceCtorEq, eq_self] at *) <;> (first | omega | ((try simp (disch := first | omega | (simp (disch := first | omega | (simp (disch := first | omega | (simp only [Int32.reduceToInt]; omega)) only [i32_add, i32_sub, Int32.reduceToInt]; omega)) only [i32_add, i32_sub, Int32.reduceToInt]; omega)) only [i32_add, i32_sub, Int32.reduceToInt] at *) <;> (first | omega | ((try simp (disch := first | omega | (simp (disch := first | omega | (simp (disch := first | omega | (simp only [Int32.reduceToInt]; omega)) only [i32_add, i32_sub, Int32.reduceToInt]; omega)) only [i32_add, i32_sub, Int32.reduceToInt]; omega)) only [i32_add, i32_sub, Int32.reduceToInt] at *) <;> (first | omega | ((simp only [jadd, jsub, jmul, jneg, Int32.reduceToInt] at *) <;> omega))))))))))
set_option maxRecDepth 4000 in
theorem w_X11_capsule {b0 : SS} {s0 : SS} {a0 : Int32} (K : Lk b0 s0) : Ok (f_X11_capsule s0 a0) (fun r => Lk b0 r.2) := by
  unfold f_X11_capsule
  have f0 := kf_15_3 K
  repeat' (first
    | with_reducible assumption
    | (with_reducible show Ok _ _; first | dsimp only | with_reducible refine Ok_some ?_ | with_reducible refine Lk_G120 (by assumption) ?_ (fun _ _ _ _ _ => ?_) | with_reducible refine Lk_G3 (by assumption) ?_ (fun _ _ => ?_) | with_reducible refine Lk_G6 (by assumption) ?_ (fun _ _ _ => ?_) | with_reducible refine Ok_gd ?_ (fun _ => ?_) | with_reducible refine Ok_st ?_ | with_reducible refine Ok_jn ?_ | with_reducible refine Ok_b1 ?_ | with_reducible refine Ok_onN ?_ | with_reducible refine Ok_onS ?_ | with_reducible refine Ok_ift (by decide) ?_ | with_reducible refine Ok_iff (by decide) ?_ | with_reducible refine Ok_if (fun _ => ?_) (fun _ => ?_) | with_reducible refine Lk_onH (b0 := b0) ?_ (by assumption) (fun _ => ?_) (fun _ _ _ _ _ _ => ?_) | with_reducible refine Ok.mono (w_X0_kindOf (b0 := b0) ?_) (fun _ _ => ?_) | with_reducible refine Ok.mono (w_X11_latestText (b0 := b0) ?_) (fun _ _ => ?_) | unfold f_X0_holeOf | unfold f_X2_liftBegins | unfold f_X2_upAt)
    | dsimp only
    | (with_reducible show Lk _ _; first | with_reducible refine Lk.wF ?_ (by decide) (by decide) (by decide) ?_)
    | with_reducible refine w_X11_capsule_L93 (b0 := b0) (fun _ _ => ?_) _ _ _  ?_ ?_ ?_
    | with_reducible refine And.intro ?_ ?_)
  all_goals (try (first | with_reducible assumption | exact trivial | omega | ((try clear ih); (try clear hr); (try clear hq0); (try clear hq1); (try clear hrec); ((try simp only [inB, Rg, bF, jlt, jeq, jd20, Int32.reduceToInt, jn1, jn2, zS_pS, zI_pS, zN_pS, Nat.reduceEqDiff, Nat.reduceAdd, Nat.reduceMul, ite_true, ite_false, and_true, true_and, and_false, false_and, true_or, or_true, false_or, or_false, not_true_eq_false, not_false_eq_true, reduceIte, reduceCtorEq, eq_self] at *) <;> (first | omega | ((try simp (disch := first | omega | (simp (disch := first | omega | (simp (disch := first | omega | (simp only [jd20, Int32.reduceToInt]; omega)) only [i32_add, i32_sub, i32_mul, jd20, Int32.reduceToInt]; omega)) only [i32_add, i32_sub, i32_mul, jd20, Int32.reduceToInt]; omega)) only [i32_add, i32_sub, i32_mul, jd20, Int32.reduceToInt] at *) <;> (first | omega | ((try simp (disch := first | omega | (simp (disch := first | omega | (simp (disch := first | omega | (simp only [jd20, Int32.reduceToInt]; omega)) only [i32_add, i32_sub, i32_mul, jd20, Int32.reduceToInt]; omega)) only [i32_add, i32_sub, i32_mul, jd20, Int32.reduceToInt]; omega)) only [i32_add, i32_sub, i32_mul, jd20, Int32.reduceToInt] at *) <;> (first | omega | ((simp only [jadd, jsub, jmul, jneg, Int32.reduceToInt] at *) <;> omega))))))))))
set_option maxRecDepth 4000 in
theorem w_X11_up {b0 : SS} {s0 : SS} {a0 : Int32} {a1 : Int32} (K : Lk b0 s0) : Ok (f_X11_up s0 a0 a1) (fun _ => True) := by
  unfold f_X11_up
  have f0 := kf_6_10 K
  repeat' (first
    | with_reducible assumption
    | (with_reducible show Ok _ _; first | dsimp only | with_reducible refine Ok_some ?_ | with_reducible refine Lk_G120 (by assumption) ?_ (fun _ _ _ _ _ => ?_) | with_reducible refine Ok_gd ?_ (fun _ => ?_) | with_reducible refine Ok_b1 ?_ | with_reducible refine Ok_ift (by decide) ?_ | with_reducible refine Ok_iff (by decide) ?_ | with_reducible refine Ok_if (fun _ => ?_) (fun _ => ?_) | unfold f_X2_upAt)
    | dsimp only
    | with_reducible refine And.intro ?_ ?_)
  all_goals (try (first | with_reducible assumption | exact trivial | omega | ((try clear ih); (try clear hr); (try clear hq0); (try clear hq1); (try clear hrec); ((try simp only [inB, jlt, jeq, Int32.reduceToInt, jn1, Nat.reduceEqDiff, Nat.reduceAdd, Nat.reduceMul, ite_true, ite_false, and_true, true_and, and_false, false_and, true_or, or_true, false_or, or_false, not_true_eq_false, not_false_eq_true, reduceIte, reduceCtorEq, eq_self] at *) <;> (first | omega | ((try simp (disch := first | omega | (simp (disch := first | omega | (simp (disch := first | omega | (simp only [Int32.reduceToInt]; omega)) only [i32_add, i32_mul, Int32.reduceToInt]; omega)) only [i32_add, i32_mul, Int32.reduceToInt]; omega)) only [i32_add, i32_mul, Int32.reduceToInt] at *) <;> (first | omega | ((try simp (disch := first | omega | (simp (disch := first | omega | (simp (disch := first | omega | (simp only [Int32.reduceToInt]; omega)) only [i32_add, i32_mul, Int32.reduceToInt]; omega)) only [i32_add, i32_mul, Int32.reduceToInt]; omega)) only [i32_add, i32_mul, Int32.reduceToInt] at *) <;> (first | omega | ((simp only [jadd, jsub, jmul, jneg, Int32.reduceToInt] at *) <;> omega))))))))))
set_option maxRecDepth 4000 in
theorem w_X11_raise {b0 : SS} {s0 : SS} {a0 : Int32} (K : Lk b0 s0) : Ok (f_X11_raise s0 a0) (fun r => Lk b0 r.2) := by
  unfold f_X11_raise
  have f0 := kf_6_10 K
  repeat' (first
    | with_reducible assumption
    | (with_reducible show Ok _ _; first | dsimp only | with_reducible refine Ok_some ?_ | with_reducible refine Ok_bd ?_ | with_reducible refine Ok_ift (by decide) ?_ | with_reducible refine Ok_iff (by decide) ?_ | with_reducible refine Ok_if (fun _ => ?_) (fun _ => ?_) | with_reducible refine Ok.mono (w_X2_raisedWithin (b0 := b0) ?_) (fun _ _ => ?_))
    | dsimp only
    | with_reducible refine And.intro ?_ ?_)
  all_goals (try (first | with_reducible assumption | exact trivial | omega | ((try clear ih); (try clear hr); (try clear hq0); (try clear hq1); (try clear hrec); ((try simp only [inB, jlt, jeq, Int32.reduceToInt, jn1, jn2, Nat.reduceEqDiff, Nat.reduceAdd, Nat.reduceMul, ite_true, ite_false, and_true, true_and, and_false, false_and, true_or, or_true, false_or, or_false, not_true_eq_false, not_false_eq_true, reduceIte, reduceCtorEq, eq_self] at *) <;> (first | omega | ((try simp (disch := first | omega | (simp (disch := first | omega | (simp (disch := first | omega | (simp only [Int32.reduceToInt]; omega)) only [Int32.reduceToInt]; omega)) only [Int32.reduceToInt]; omega)) only [Int32.reduceToInt] at *) <;> (first | omega | ((try simp (disch := first | omega | (simp (disch := first | omega | (simp (disch := first | omega | (simp only [Int32.reduceToInt]; omega)) only [Int32.reduceToInt]; omega)) only [Int32.reduceToInt]; omega)) only [Int32.reduceToInt] at *) <;> (first | omega | ((simp only [jadd, jsub, jmul, jneg, Int32.reduceToInt] at *) <;> omega))))))))))
