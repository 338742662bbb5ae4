set_option maxRecDepth 4000 in
theorem w_X12_last {b0 : SS} {s0 : SS} {a0 : Int32} {a1 : Int32} (K : Lk b0 s0) : Ok (f_X12_last s0 a0 a1) (fun r => Lk b0 r.2) := by
  unfold f_X12_last
  repeat' (first
    | with_reducible assumption
    | (with_reducible show Ok _ _; first | dsimp only | with_reducible refine Ok_some ?_ | with_reducible refine Ok_b1 ?_ | with_reducible refine Ok_bd ?_ | with_reducible refine Ok_ift (by decide) ?_ | with_reducible refine Ok_iff (by decide) ?_ | with_reducible refine Ok_if (fun _ => ?_) (fun _ => ?_) | with_reducible refine Ok.mono (w_X12_in ) (fun _ _ => ?_) | with_reducible refine Ok.mono (w_X12_menBelow (b0 := b0) ?_) (fun _ _ => ?_) | with_reducible refine Ok.mono (w_X12_lastsBy (b0 := b0) ?_) (fun _ _ => ?_))
    | dsimp only
    | with_reducible refine And.intro ?_ ?_)
  all_goals (try (first | with_reducible assumption | exact trivial | omega | ((try clear ih); (try clear hr); (try clear hq0); (try clear hq1); (try clear hrec); ((try simp only [inB, jlt, jeq, Int32.reduceToInt, jn1, jn2, Nat.reduceEqDiff, Nat.reduceAdd, Nat.reduceMul, ite_true, ite_false, and_true, true_and, and_false, false_and, true_or, or_true, false_or, or_false, not_true_eq_false, not_false_eq_true, reduceIte, reduceCtorEq, eq_self] at *) <;> (first | omega | ((try simp (disch := first | omega | (simp (disch := first | omega | (simp (disch := first | omega | (simp only [Int32.reduceToInt]; omega)) only [Int32.reduceToInt]; omega)) only [Int32.reduceToInt]; omega)) only [Int32.reduceToInt] at *) <;> (first | omega | ((try simp (disch := first | omega | (simp (disch := first | omega | (simp (disch := first | omega | (simp only [Int32.reduceToInt]; omega)) only [Int32.reduceToInt]; omega)) only [Int32.reduceToInt]; omega)) only [Int32.reduceToInt] at *) <;> (first | omega | ((simp only [jadd, jsub, jmul, jneg, Int32.reduceToInt] at *) <;> omega))))))))))
set_option maxRecDepth 4000 in
theorem w_X12_best_L27 {b0 : SS} {y1 : Int32} {Q : Int32 × SS → Prop} (hr : ∀ v s, Lk b0 s → Q (v, s)) : ∀ (n : Nat) (s : SS) (x2 : Int32) (x3 : Int32), Lk b0 s → (1 ≤ x3.toInt ∧ x3.toInt ≤ 10) → 10 - x3.toInt < (n : Int) → Ok (f_X12_best_L27 y1 n s x2 x3) Q := by
  intro n
  induction n with
  | zero =>
    intro s x2 x3 K i0 hm
    exfalso
    (first | with_reducible assumption | omega | ((try clear ih); (try clear hr); (try clear hq0); (try clear hq1); (try clear hrec); ((try simp only [inB, jlt, jeq, Int32.reduceToInt, Nat.reduceEqDiff, Nat.reduceAdd, Nat.reduceMul, ite_true, ite_false, and_true, true_and, and_false, false_and, true_or, or_true, false_or, or_false, not_true_eq_false, not_false_eq_true, reduceIte, reduceCtorEq, eq_self] at *) <;> (first | omega | ((try simp (disch := first | omega | (simp (disch := first | omega | (simp (disch := first | omega | (simp only [Int32.reduceToInt]; omega)) only [i32_add, i32_sub, Int32.reduceToInt]; omega)) only [i32_add, i32_sub, Int32.reduceToInt]; omega)) only [i32_add, i32_sub, Int32.reduceToInt] at *) <;> (first | omega | ((try simp (disch := first | omega | (simp (disch := first | omega | (simp (disch := first | omega | (simp only [Int32.reduceToInt]; omega)) only [i32_add, i32_sub, Int32.reduceToInt]; omega)) only [i32_add, i32_sub, Int32.reduceToInt]; omega)) only [i32_add, i32_sub, Int32.reduceToInt] at *) <;> (first | omega | ((simp only [jadd, jsub, jmul, jneg, Int32.reduceToInt] at *) <;> omega)))))))))
  | succ n ih =>
    intro s x2 x3 K i0 hm
    show Ok (f_X12_best_L27_b y1 (f_X12_best_L27 y1 n) s x2 x3) Q
    unfold f_X12_best_L27_b
    repeat' (first
      | with_reducible assumption
      | (with_reducible show Ok _ _; first | dsimp only | with_reducible refine Ok_some ?_ | with_reducible refine Ok_vl ?_ | with_reducible refine Ok_jn ?_ | with_reducible refine Ok_bd ?_ | with_reducible refine Ok_ift (by decide) ?_ | with_reducible refine Ok_iff (by decide) ?_ | with_reducible refine Ok_if (fun _ => ?_) (fun _ => ?_) | with_reducible refine ih _ _ _  ?_ ?_ ?_ | with_reducible refine Ok.mono (w_X12_lastsBy (b0 := b0) ?_) (fun _ _ => ?_))
      | dsimp only
      | with_reducible refine hr _ _ ?_
      | with_reducible refine And.intro ?_ ?_)
    all_goals (try (first | with_reducible assumption | exact trivial | omega | ((try clear ih); (try clear hr); (try clear hq0); (try clear hq1); (try clear hrec); ((try simp only [inB, jlt, jeq, Int32.reduceToInt, Nat.reduceEqDiff, Nat.reduceAdd, Nat.reduceMul, ite_true, ite_false, and_true, true_and, and_false, false_and, true_or, or_true, false_or, or_false, not_true_eq_false, not_false_eq_true, reduceIte, reduceCtorEq, eq_self] at *) <;> (first | omega | ((try simp (disch := first | omega | (simp (disch := first | omega | (simp (disch := first | omega | (simp only [Int32.reduceToInt]; omega)) only [i32_add, i32_sub, Int32.reduceToInt]; omega)) only [i32_add, i32_sub, Int32.reduceToInt]; omega)) only [i32_add, i32_sub, Int32.reduceToInt] at *) <;> (first | omega | ((try simp (disch := first | omega | (simp (disch := first | omega | (simp (disch := first | omega | (simp only [Int32.reduceToInt]; omega)) only [i32_add, i32_sub, Int32.reduceToInt]; omega)) only [i32_add, i32_sub, Int32.reduceToInt]; omega)) only [i32_add, i32_sub, Int32.reduceToInt] at *) <;> (first | omega | ((simp only [jadd, jsub, jmul, jneg, Int32.reduceToInt] at *) <;> omega))))))))))
set_option maxRecDepth 4000 in
theorem w_X12_best {b0 : SS} {s0 : SS} {a0 : Int32} (K : Lk b0 s0) : Ok (f_X12_best s0 a0) (fun r => Lk b0 r.2) := by
  unfold f_X12_best
  repeat' (first
    | with_reducible assumption
    | (with_reducible show Ok _ _; first | dsimp only | with_reducible refine Ok_some ?_ | with_reducible refine Ok_b1 ?_ | with_reducible refine Ok_ift (by decide) ?_ | with_reducible refine Ok_iff (by decide) ?_ | with_reducible refine Ok_if (fun _ => ?_) (fun _ => ?_) | with_reducible refine Ok.mono (w_X12_in ) (fun _ _ => ?_) | with_reducible refine Ok.mono (w_X12_menBelow (b0 := b0) ?_) (fun _ _ => ?_))
    | dsimp only
    | with_reducible refine w_X12_best_L27 (b0 := b0) (fun _ _ _ => ?_) _ _ _ _  ?_ ?_ ?_
    | with_reducible refine And.intro ?_ ?_)
  all_goals (try (first | with_reducible assumption | exact trivial | omega | ((try clear ih); (try clear hr); (try clear hq0); (try clear hq1); (try clear hrec); ((try simp only [inB, jlt, jeq, Int32.reduceToInt, jn1, jn2, Nat.reduceEqDiff, Nat.reduceAdd, Nat.reduceMul, ite_true, ite_false, and_true, true_and, and_false, false_and, true_or, or_true, false_or, or_false, not_true_eq_false, not_false_eq_true, reduceIte, reduceCtorEq, eq_self] at *) <;> (first | omega | ((try simp (disch := first | omega | (simp (disch := first | omega | (simp (disch := first | omega | (simp only [Int32.reduceToInt]; omega)) only [i32_sub, Int32.reduceToInt]; omega)) only [i32_sub, Int32.reduceToInt]; omega)) only [i32_sub, Int32.reduceToInt] at *) <;> (first | omega | ((try simp (disch := first | omega | (simp (disch := first | omega | (simp (disch := first | omega | (simp only [Int32.reduceToInt]; omega)) only [i32_sub, Int32.reduceToInt]; omega)) only [i32_sub, Int32.reduceToInt]; omega)) only [i32_sub, Int32.reduceToInt] at *) <;> (first | omega | ((simp only [jadd, jsub, jmul, jneg, Int32.reduceToInt] at *) <;> omega))))))))))
set_option maxRecDepth 4000 in
theorem w_X12_down {b0 : SS} {s0 : SS} {a0 : Int32} {a1 : Int32} {a2 : Int32} (K : Lk b0 s0) : Ok (f_X12_down s0 a0 a1 a2) (fun r => Lk b0 r.2) := by
  unfold f_X12_down
  have f0 := kf_59_62 K
  have f1 := kf_59_4 K
  repeat' (first
    | with_reducible assumption
    | (with_reducible show Ok _ _; first | dsimp only | with_reducible refine Ok_some ?_ | with_reducible refine Lk_G120 (by assumption) ?_ (fun _ _ _ _ _ => ?_) | with_reducible refine Lk_G40 (by assumption) ?_ (fun _ _ => ?_) | with_reducible refine Ok_gd ?_ (fun _ => ?_) | with_reducible refine Ok_vl ?_ | with_reducible refine Ok_st ?_ | with_reducible refine Ok_jn ?_ | with_reducible refine Ok_b1 ?_ | with_reducible refine Ok_ift (by decide) ?_ | with_reducible refine Ok_iff (by decide) ?_ | with_reducible refine Ok_if (fun _ => ?_) (fun _ => ?_) | with_reducible refine Ok.mono (w_X12_in ) (fun _ _ => ?_) | unfold f_X12_isBody)
    | dsimp only
    | (with_reducible show Lk _ _; first | with_reducible refine Lk.wI ?_ (by decide) (by decide) ?_ | with_reducible refine Lk.wF ?_ (by decide) (by decide) (by decide) ?_)
    | with_reducible refine And.intro ?_ ?_)
  all_goals (try (first | with_reducible assumption | exact trivial | omega | ((try clear ih); (try clear hr); (try clear hq0); (try clear hq1); (try clear hrec); ((try simp only [inB, Rg, cellOK, bF, bA, jlt, jeq, jd10, jm10, Int32.reduceToInt, jn1, jn2, jn3, zS_pS, zS_pI, zI_pI, zI_pS, zN_pS, zN_pI, Nat.reduceEqDiff, Nat.reduceAdd, Nat.reduceMul, ite_true, ite_false, and_true, true_and, and_false, false_and, true_or, or_true, false_or, or_false, not_true_eq_false, not_false_eq_true, reduceIte, reduceCtorEq, eq_self] at *) <;> (first | omega | ((try simp (disch := first | omega | (simp (disch := first | omega | (simp (disch := first | omega | (simp only [jd10, jm10, Int32.reduceToInt]; omega)) only [i32_add, i32_sub, jd10, jm10, Int32.reduceToInt]; omega)) only [i32_add, i32_sub, jd10, jm10, Int32.reduceToInt]; omega)) only [i32_add, i32_sub, jd10, jm10, Int32.reduceToInt] at *) <;> (first | omega | ((try simp (disch := first | omega | (simp (disch := first | omega | (simp (disch := first | omega | (simp only [jd10, jm10, Int32.reduceToInt]; omega)) only [i32_add, i32_sub, jd10, jm10, Int32.reduceToInt]; omega)) only [i32_add, i32_sub, jd10, jm10, Int32.reduceToInt]; omega)) only [i32_add, i32_sub, jd10, jm10, Int32.reduceToInt] at *) <;> (first | omega | ((simp only [jadd, jsub, jmul, jneg, Int32.reduceToInt] at *) <;> omega))))))))))
set_option maxRecDepth 4000 in
theorem w_X12_below {b0 : SS} {s0 : SS} {a0 : Int32} (K : Lk b0 s0) : Ok (f_X12_below s0 a0) (fun _ => True) := by
  unfold f_X12_below
  repeat' (first
    | with_reducible assumption
    | (with_reducible show Ok _ _; first | dsimp only | with_reducible refine Ok_some ?_ | with_reducible refine Ok_gd ?_ (fun _ => ?_) | with_reducible refine Ok_b1 ?_ | with_reducible refine Ok_ift (by decide) ?_ | with_reducible refine Ok_iff (by decide) ?_ | with_reducible refine Ok_if (fun _ => ?_) (fun _ => ?_) | with_reducible refine Ok.mono (w_X12_in ) (fun _ _ => ?_))
    | dsimp only
    | with_reducible refine And.intro ?_ ?_)
  all_goals (try (first | with_reducible assumption | exact trivial | omega | ((try clear ih); (try clear hr); (try clear hq0); (try clear hq1); (try clear hrec); ((try simp only [inB, jlt, jeq, Int32.reduceToInt, jn1, Nat.reduceEqDiff, Nat.reduceAdd, Nat.reduceMul, ite_true, ite_false, and_true, true_and, and_false, false_and, true_or, or_true, false_or, or_false, not_true_eq_false, not_false_eq_true, reduceIte, reduceCtorEq, eq_self] at *) <;> (first | omega | ((try simp (disch := first | omega | (simp (disch := first | omega | (simp (disch := first | omega | (simp only [Int32.reduceToInt]; omega)) only [Int32.reduceToInt]; omega)) only [Int32.reduceToInt]; omega)) only [Int32.reduceToInt] at *) <;> (first | omega | ((try simp (disch := first | omega | (simp (disch := first | omega | (simp (disch := first | omega | (simp only [Int32.reduceToInt]; omega)) only [Int32.reduceToInt]; omega)) only [Int32.reduceToInt]; omega)) only [Int32.reduceToInt] at *) <;> (first | omega | ((simp only [jadd, jsub, jmul, jneg, Int32.reduceToInt] at *) <;> omega))))))))))
set_option maxRecDepth 4000 in
theorem w_X12_costNext_L5 {b0 : SS} {q0 : Int32 → Option Int32} {s0 : SS} {y1 : Int32} {y2 : Int32} {Q : Int32 → Prop} (K : Lk b0 s0) (hq0 : ∀ (z0 : Int32), (0 ≤ z0.toInt ∧ z0.toInt ≤ 90) → Ok (q0 z0) Q) : ∀ (n : Nat) (x3 : Int32) (x4 : Int32), (0 ≤ x4.toInt ∧ x4.toInt ≤ 10) → (0 ≤ x3.toInt ∧ x3.toInt ≤ 9 * x4.toInt) → 10 - x4.toInt < (n : Int) → Ok (f_X12_costNext_L5 q0 s0 y1 y2 n x3 x4) Q := by
  intro n
  induction n with
  | zero =>
    intro x3 x4 i0 i1 hm
    exfalso
    have e0 := ka_106 K x4.toInt.toNat
    (first | with_reducible assumption | omega | ((try clear ih); (try clear hr); (try clear hq0); (try clear hq1); (try clear hrec); ((try simp only [inB, jlt, jeq, Int32.reduceToInt, Nat.reduceEqDiff, Nat.reduceAdd, Nat.reduceMul, ite_true, ite_false, and_true, true_and, and_false, false_and, true_or, or_true, false_or, or_false, not_true_eq_false, not_false_eq_true, reduceIte, reduceCtorEq, eq_self] at *) <;> (first | omega | ((try simp (disch := first | omega | (simp (disch := first | omega | (simp (disch := first | omega | (simp only [Int32.reduceToInt]; omega)) only [i32_add, i32_sub, i32_mul, Int32.reduceToInt]; omega)) only [i32_add, i32_sub, i32_mul, Int32.reduceToInt]; omega)) only [i32_add, i32_sub, i32_mul, Int32.reduceToInt] at *) <;> (first | omega | ((try simp (disch := first | omega | (simp (disch := first | omega | (simp (disch := first | omega | (simp only [Int32.reduceToInt]; omega)) only [i32_add, i32_sub, i32_mul, Int32.reduceToInt]; omega)) only [i32_add, i32_sub, i32_mul, Int32.reduceToInt]; omega)) only [i32_add, i32_sub, i32_mul, Int32.reduceToInt] at *) <;> (first | omega | ((simp only [jadd, jsub, jmul, jneg, Int32.reduceToInt] at *) <;> omega)))))))))
  | succ n ih =>
    intro x3 x4 i0 i1 hm
    show Ok (f_X12_costNext_L5_b q0 s0 y1 y2 (f_X12_costNext_L5 q0 s0 y1 y2 n) x3 x4) Q
    unfold f_X12_costNext_L5_b
    have f0 := kf_59_67 K
    have e0 := ka_106 K x4.toInt.toNat
    repeat' (first
      | with_reducible assumption
      | (with_reducible show Ok _ _; first | dsimp only | with_reducible refine Ok_gd ?_ (fun _ => ?_) | with_reducible refine Ok_vl ?_ | with_reducible refine Ok_jn ?_ | with_reducible refine Ok_ift (by decide) ?_ | with_reducible refine Ok_iff (by decide) ?_ | with_reducible refine Ok_if (fun _ => ?_) (fun _ => ?_) | with_reducible refine ih _ _  ?_ ?_ ?_ | with_reducible refine hq0 _  ?_)
      | dsimp only
      | with_reducible refine And.intro ?_ ?_)
    all_goals (try (first | with_reducible assumption | exact trivial | omega | ((try clear ih); (try clear hr); (try clear hq0); (try clear hq1); (try clear hrec); ((try simp only [inB, jlt, jeq, Int32.reduceToInt, Nat.reduceEqDiff, Nat.reduceAdd, Nat.reduceMul, ite_true, ite_false, and_true, true_and, and_false, false_and, true_or, or_true, false_or, or_false, not_true_eq_false, not_false_eq_true, reduceIte, reduceCtorEq, eq_self] at *) <;> (first | omega | ((try simp (disch := first | omega | (simp (disch := first | omega | (simp (disch := first | omega | (simp only [Int32.reduceToInt]; omega)) only [i32_add, i32_sub, i32_mul, Int32.reduceToInt]; omega)) only [i32_add, i32_sub, i32_mul, Int32.reduceToInt]; omega)) only [i32_add, i32_sub, i32_mul, Int32.reduceToInt] at *) <;> (first | omega | ((try simp (disch := first | omega | (simp (disch := first | omega | (simp (disch := first | omega | (simp only [Int32.reduceToInt]; omega)) only [i32_add, i32_sub, i32_mul, Int32.reduceToInt]; omega)) only [i32_add, i32_sub, i32_mul, Int32.reduceToInt]; omega)) only [i32_add, i32_sub, i32_mul, Int32.reduceToInt] at *) <;> (first | omega | ((simp only [jadd, jsub, jmul, jneg, Int32.reduceToInt] at *) <;> omega))))))))))
set_option maxRecDepth 4000 in
theorem w_X12_costNext {b0 : SS} {s0 : SS} {a0 : Int32} {a1 : Int32} (K : Lk b0 s0) (g0 : 0 ≤ a0.toInt ∧ a0.toInt ≤ 9) : Ok (f_X12_costNext s0 a0 a1) (fun r => 0 ≤ r.toInt ∧ r.toInt ≤ 9801) := by
  unfold f_X12_costNext
  have e0 := ka_106 K a0.toInt.toNat
  have e1 := ka_107 K a0.toInt.toNat
  have e2 := ka_108 K a0.toInt.toNat
  repeat' (first
    | with_reducible assumption
    | (with_reducible show Ok _ _; first | dsimp only | with_reducible refine Ok_some ?_ | with_reducible refine Ok_gd ?_ (fun _ => ?_) | with_reducible refine Ok_vl ?_ | with_reducible refine Ok_ift (by decide) ?_ | with_reducible refine Ok_iff (by decide) ?_ | with_reducible refine Ok_if (fun _ => ?_) (fun _ => ?_))
    | dsimp only
    | with_reducible refine c99 ?_ ?_
    | with_reducible refine w_X12_costNext_L5 (b0 := b0) ?_ (fun _ _ => ?_) _ _ _  ?_ ?_ ?_
    | with_reducible refine And.intro ?_ ?_)
  all_goals (try (first | with_reducible assumption | exact trivial | omega | ((try clear ih); (try clear hr); (try clear hq0); (try clear hq1); (try clear hrec); ((try simp only [inB, jlt, jeq, Int32.reduceToInt, Nat.reduceEqDiff, Nat.reduceAdd, Nat.reduceMul, ite_true, ite_false, and_true, true_and, and_false, false_and, true_or, or_true, false_or, or_false, not_true_eq_false, not_false_eq_true, reduceIte, reduceCtorEq, eq_self] at *) <;> (first | omega | ((try simp (disch := first | omega | (simp (disch := first | omega | (simp (disch := first | omega | (simp only [Int32.reduceToInt]; omega)) only [i32_add, i32_sub, i32_mul, Int32.reduceToInt]; omega)) only [i32_add, i32_sub, i32_mul, Int32.reduceToInt]; omega)) only [i32_add, i32_sub, i32_mul, Int32.reduceToInt] at *) <;> (first | omega | ((try simp (disch := first | omega | (simp (disch := first | omega | (simp (disch := first | omega | (simp only [Int32.reduceToInt]; omega)) only [i32_add, i32_sub, i32_mul, Int32.reduceToInt]; omega)) only [i32_add, i32_sub, i32_mul, Int32.reduceToInt]; omega)) only [i32_add, i32_sub, i32_mul, Int32.reduceToInt] at *) <;> (first | omega | ((simp only [jadd, jsub, jmul, jneg, Int32.reduceToInt] at *) <;> omega))))))))))
/-! THE REFERENCE: in which order -/
theorem ordN {b0 c0 s : SS} (K : Lk b0 s) (S : S8 c0 s) : (zS c0 59 67).toInt.toNat ≤ 10 ∧ (zS s 59 67).toInt = ((zS c0 59 67).toInt.toNat : Int) := by
  have hf : 0 ≤ (zS s 59 67).toInt ∧ (zS s 59 67).toInt ≤ 10 := K.f (q := 59) (k := 67) rfl
  rw [S.2.2.2] at hf ⊢
  omega
theorem w_X12_order_L32 {b0 c0 : SS} {q0 : SS → Option (Int32 × SS)} {m : Nat} {Q : Int32 × SS → Prop} (hm : 1 ≤ m ∧ m < 2 ^ (zS c0 59 67).toInt.toNat) (hq0 : ∀ s, Lk b0 s → S8 c0 s → Ga c0 (zI s 109) (m + 1) → Ok (q0 s) Q) :
    ∀ (n : Nat) (s : SS) (k : Nat), Lk b0 s → S8 c0 s → Ga c0 (zI s 109) m → k ≤ (zS c0 59 67).toInt.toNat → ((zI s 109 m = 2147483647 ∧ ∀ j, j < k → m.testBit j = false) ∨ Gd c0 (zI s 109) m) → 10 - k < n → Ok (f_X12_order_L32 q0 (nI m) n s (nI k)) Q := by
  intro n
  induction n with
  | zero =>
    intro s k K S A i0 i1 hn
    omega
  | succ n ih =>
    intro s k K S A i0 i1 hn
    show Ok (f_X12_order_L32_b q0 (nI m) (f_X12_order_L32 q0 (nI m) n) s (nI k)) Q
    unfold f_X12_order_L32_b
    obtain ⟨hN, eN⟩ := ordN K S
    have hm1 : m < 1024 := Nat.lt_of_lt_of_le hm.2 (p10 hN)
    have tk : (nI k).toInt = (k : Int) := nI_t (by omega)
    have tm : (nI m).toInt = (m : Int) := nI_t (by omega)
    have k1 : nI k + 1 = nI (k + 1) := by
      apply Int32.toInt_inj.1
      rw [i32_add (by rw [tk, jl1]; omega) (by rw [tk, jl1]; omega), tk, jl1, nI_t (by omega)]
      omega
    have gm : inB (nI m) 1024 := ⟨by omega, by omega⟩
    have nm : (nI m).toInt.toNat = m := by omega
    with_reducible refine Ok_if (fun c => ?_) (fun c => ?_)
    · rw [Int32.lt_iff_toInt_lt, tk, eN] at c
      have c' : k < (zS c0 59 67).toInt.toNat := by omega
      with_reducible refine Ok_jn ?_
      with_reducible refine Ok_if (fun c2 => ?_) (fun c2 => ?_)
      · with_reducible refine Ok_vl ?_
        rw [k1]
        refine ih s (k + 1) K S A c' ?_ (by omega)
        have hb := (bt0 hm1 (show k < 11 by omega)).1 c2
        rcases i1 with ⟨h1, h2⟩ | h1
        · refine Or.inl ⟨h1, fun j hj => ?_⟩
          by_cases hjk : j = k
          · rw [hjk]; exact hb
          · exact h2 j (by omega)
        · exact Or.inr h1
      · have hb : m.testBit k = true := by
          cases hbk : m.testBit k with
          | true => rfl
          | false => exact absurd ((bt0 hm1 (show k < 11 by omega)).2 hbk) c2
        obtain ⟨r, er, hr⟩ := w_X12_costNext (a0 := nI k) (a1 := nI m) K ⟨by omega, by omega⟩
        with_reducible refine Ok_e1 er ?_
        rw [cost_congr S] at er
        rw [nx_del (show k < 11 by omega) hb]
        have hl := del_lt hb
        have td : (nI (m ^^^ 2 ^ k)).toInt = ((m ^^^ 2 ^ k : Nat) : Int) := nI_t (by omega)
        have nd : (nI (m ^^^ 2 ^ k)).toInt.toNat = m ^^^ 2 ^ k := by omega
        have hd : 0 ≤ (zI s 109 (m ^^^ 2 ^ k)).toInt ∧ (zI s 109 (m ^^^ 2 ^ k)).toInt ≤ 9801 * ((m ^^^ 2 ^ k : Nat) : Int) := by
          by_cases h0 : m ^^^ 2 ^ k = 0
          · rw [h0, K.1.2.2]
            decide
          · exact (A _ (by omega) hl).1
        with_reducible refine Ok_vl ?_
        with_reducible refine Ok_gd ⟨by omega, by omega⟩ (fun _ => ?_)
        rw [nd, nm]
        obtain ⟨w, ew, hw⟩ : ∃ w, r + zI s 109 (m ^^^ 2 ^ k) = w ∧ w.toInt = r.toInt + (zI s 109 (m ^^^ 2 ^ k)).toInt := ⟨_, rfl, i32_add (by omega) (by omega)⟩
        rw [ew]
        with_reducible refine Ok_vl ?_
        with_reducible refine Ok_gd gm (fun _ => ?_)
        with_reducible refine Ok_if (fun c3 => ?_) (fun c3 => ?_)
        · with_reducible refine Ok_gd gm (fun _ => ?_)
          with_reducible refine Ok_st ?_
          with_reducible refine Ok_vl ?_
          rw [k1]
          refine ih _ (k + 1) (K.w109 (by omega)) (S.p (Or.inl rfl)) A.p c' (Or.inr ⟨?_, k, c', hb, r, er, ?_⟩) (by omega)
          · rw [zI_pI, if_pos ⟨rfl, rfl⟩]
            omega
          · rw [zI_pI, if_neg (fun z => by omega), zI_pI, if_pos ⟨rfl, rfl⟩]
            exact ew
        · with_reducible refine Ok_vl ?_
          rw [k1]
          refine ih s (k + 1) K S A c' (Or.inr ?_) (by omega)
          rcases i1 with ⟨h1, h2⟩ | h1
          · rw [h1, Int32.lt_iff_toInt_lt, show (2147483647 : Int32).toInt = 2147483647 from rfl] at c3
            omega
          · exact h1
    · rw [Int32.lt_iff_toInt_lt, tk, eN] at c
      refine hq0 s K S (fun j h1 h2 => ?_)
      by_cases hj : j = m
      · rw [hj]
        rcases i1 with ⟨_, h3⟩ | h3
        · exact absurd (ex_bit hm.1 hm.2 (fun i hi => h3 i (by omega))) (fun z => z)
        · exact h3
      · exact A j h1 (by omega)
theorem w_X12_order_L11 {b0 c0 : SS} {q0 : SS → Option (Int32 × SS)} {Q : Int32 × SS → Prop} (hq0 : ∀ s, Lk b0 s → S8 c0 s → Ga c0 (zI s 109) (2 ^ (zS c0 59 67).toInt.toNat) → Ok (q0 s) Q) :
    ∀ (n : Nat) (s : SS) (m : Nat), Lk b0 s → S8 c0 s → Ga c0 (zI s 109) m → (1 ≤ m ∧ m ≤ 2 ^ (zS c0 59 67).toInt.toNat) → 1024 - m < n → Ok (f_X12_order_L11 q0 n s (nI m)) Q := by
  intro n
  induction n with
  | zero =>
    intro s m K S A i0 hn
    omega
  | succ n ih =>
    intro s m K S A i0 hn
    show Ok (f_X12_order_L11_b q0 (f_X12_order_L11 q0 n) s (nI m)) Q
    unfold f_X12_order_L11_b
    obtain ⟨hN, eN⟩ := ordN K S
    have h10 := p10 hN
    have tm : (nI m).toInt = (m : Int) := nI_t (by omega)
    have e67 : zS s 59 67 = nI (zS c0 59 67).toInt.toNat := by
      apply Int32.toInt_inj.1
      rw [eN, nI_t (by omega)]
    rw [e67, sh1n _ (by omega)]
    have t2 : (nI (2 ^ (zS c0 59 67).toInt.toNat)).toInt = ((2 ^ (zS c0 59 67).toInt.toNat : Nat) : Int) := nI_t (by omega)
    with_reducible refine Ok_if (fun c => ?_) (fun c => ?_)
    · rw [Int32.lt_iff_toInt_lt, tm, t2] at c
      have c' : m < 2 ^ (zS c0 59 67).toInt.toNat := by omega
      with_reducible refine Ok_gd ⟨by omega, by omega⟩ (fun _ => ?_)
      with_reducible refine Ok_st ?_
      rw [show (nI m).toInt.toNat = m by omega]
      refine w_X12_order_L32 (b0 := b0) (c0 := c0) ⟨i0.1, c'⟩ (fun s2 K2 S2 A2 => ?_) 4000 _ 0 (K.w109 (by omega)) (S.p (Or.inl rfl)) A.p (by omega) (Or.inl ⟨by rw [zI_pI, if_pos ⟨rfl, rfl⟩], fun j hj => by omega⟩) (by omega)
      with_reducible refine Ok_vl ?_
      have k1 : nI m + 1 = nI (m + 1) := by
        apply Int32.toInt_inj.1
        rw [i32_add (by rw [tm, jl1]; omega) (by rw [tm, jl1]; omega), tm, jl1, nI_t (by omega)]
        omega
      rw [k1]
      exact ih s2 (m + 1) K2 S2 A2 (by omega) (by omega)
    · rw [Int32.lt_iff_toInt_lt, tm, t2] at c
      refine hq0 s K S ?_
      rw [show 2 ^ (zS c0 59 67).toInt.toNat = m by omega]
      exact A
theorem w_X12_order_L129 {b0 c0 sb : SS} {q0 : Int32 → Option (Int32 × SS)} {y2 y3 : Int32} {m k : Nat} {Q : Int32 × SS → Prop} (K : Lk b0 sb) (S : S8 c0 sb) (hm : m < 1024) (hw : Gw c0 (zI sb 109) m k) (hq0 : ∀ j, j < (zS c0 59 67).toInt.toNat → m.testBit j = true → Ok (q0 (nI j)) Q) :
    ∀ (n : Nat) (j : Nat), j ≤ k → k - j < n → Ok (f_X12_order_L129 q0 sb (nI m) y2 y3 n (nI j)) Q := by
  intro n
  induction n with
  | zero =>
    intro j i0 hn
    omega
  | succ n ih =>
    intro j i0 hn
    show Ok (f_X12_order_L129_b q0 sb (nI m) y2 y3 (f_X12_order_L129 q0 sb (nI m) y2 y3 n) (nI j)) Q
    unfold f_X12_order_L129_b
    obtain ⟨hN, eN⟩ := ordN K S
    obtain ⟨w1, w2, v, w3, w4⟩ := hw
    have tj : (nI j).toInt = (j : Int) := nI_t (by omega)
    have tm : (nI m).toInt = (m : Int) := nI_t (by omega)
    have k1 : nI j + 1 = nI (j + 1) := by
      apply Int32.toInt_inj.1
      rw [i32_add (by rw [tj, jl1]; omega) (by rw [tj, jl1]; omega), tj, jl1, nI_t (by omega)]
      omega
    with_reducible refine Ok_jn ?_
    have go : j ≠ k → Ok (vl (nI j + 1) fun v26 => f_X12_order_L129 q0 sb (nI m) y2 y3 n v26) Q := fun hjk => by
      with_reducible refine Ok_vl ?_
      rw [k1]
      exact ih (j + 1) (by omega) (by omega)
    with_reducible refine Ok_if (fun c2 => ?_) (fun c2 => ?_)
    · refine go (fun z => ?_)
      have hb := (bt0 hm (show j < 11 by omega)).1 c2
      rw [z, w2] at hb
      cases hb
    · have hb : m.testBit j = true := by
        cases hbk : m.testBit j with
        | true => rfl
        | false => exact absurd ((bt0 hm (show j < 11 by omega)).2 hbk) c2
      obtain ⟨r, er, hr⟩ := w_X12_costNext (a0 := nI j) (a1 := nI m) K ⟨by omega, by omega⟩
      with_reducible refine Ok_e1 er ?_
      rw [cost_congr S] at er
      rw [nx_del (show j < 11 by omega) hb]
      have hl := del_lt hb
      have td : (nI (m ^^^ 2 ^ j)).toInt = ((m ^^^ 2 ^ j : Nat) : Int) := nI_t (by omega)
      with_reducible refine Ok_vl ?_
      with_reducible refine Ok_gd ⟨by omega, by omega⟩ (fun _ => ?_)
      with_reducible refine Ok_gd ⟨by omega, by omega⟩ (fun _ => ?_)
      rw [show (nI (m ^^^ 2 ^ j)).toInt.toNat = m ^^^ 2 ^ j by omega, show (nI m).toInt.toNat = m by omega]
      with_reducible refine Ok_if (fun _ => hq0 j (by omega) hb) (fun c3 => go (fun z => ?_))
      rw [z] at er c3
      rw [w3] at er
      cases er
      exact c3 w4
theorem w_X12_order_L118 {b0 c0 : SS} {q0 : SS → Option (Int32 × SS)} {y2 : Int32} {Q : Int32 × SS → Prop} (hq0 : ∀ s, Lk b0 s → Ok (q0 s) Q) :
    ∀ (n : Nat) (s : SS) (m i : Nat), Lk b0 s → S8 c0 s → Ga c0 (zI s 109) (2 ^ (zS c0 59 67).toInt.toNat) → m < 2 ^ (zS c0 59 67).toInt.toNat → pc m + i = (zS c0 59 67).toInt.toNat → 10 - i < n → Ok (f_X12_order_L118 q0 y2 n s (nI m) (nI i)) Q := by
  intro n
  induction n with
  | zero =>
    intro s m i K S A i0 i1 hn
    omega
  | succ n ih =>
    intro s m i K S A i0 i1 hn
    show Ok (f_X12_order_L118_b q0 y2 (f_X12_order_L118 q0 y2 n) s (nI m) (nI i)) Q
    unfold f_X12_order_L118_b
    obtain ⟨hN, eN⟩ := ordN K S
    have hm1 : m < 1024 := Nat.lt_of_lt_of_le i0 (p10 hN)
    have ti : (nI i).toInt = (i : Int) := nI_t (by omega)
    with_reducible refine Ok_if (fun c => ?_) (fun _ => hq0 s K)
    rw [Int32.lt_iff_toInt_lt, ti, eN] at c
    obtain ⟨_, k, hw⟩ := A m (pc_0 (N := (zS c0 59 67).toInt.toNat - i) (by omega) (by omega)) i0
    refine w_X12_order_L129 (b0 := b0) (c0 := c0) K S hm1 hw (fun j hj hb => ?_) 4000 0 (by omega) (by have := hw.1; omega)
    have hl := del_lt hb
    have hp := pc_del (show j < 10 by omega) hb
    with_reducible refine Ok_gd ⟨by omega, by omega⟩ (fun _ => ?_)
    with_reducible refine Ok_st ?_
    rw [nx_del (show j < 11 by omega) hb]
    with_reducible refine Ok_vl ?_
    with_reducible refine Ok_vl ?_
    have k1 : nI i + 1 = nI (i + 1) := by
      apply Int32.toInt_inj.1
      rw [i32_add (by rw [ti, jl1]; omega) (by rw [ti, jl1]; omega), ti, jl1, nI_t (by omega)]
      omega
    rw [k1]
    refine ih _ _ (i + 1) (K.wI (by decide) (by decide) trivial) (S.p (Or.inr rfl)) ?_ (by omega) (by omega) (by omega)
    intro j2 h1 h2
    exact (A j2 h1 h2).congr (fun a _ => by rw [zI_pI, if_neg (fun z => by omega)])
theorem w_X12_order {b0 s0 : SS} (K : Lk b0 s0) (hn : ¬ zS s0 59 67 = 0) : Ok (f_X12_order s0) (fun r => Zo b0 59 67 r.2) := by
  unfold f_X12_order
  with_reducible refine Ok_iff hn ?_
  refine w_X12_order_L11 (b0 := b0) (c0 := s0) (fun s K1 S A => ?_) 4000 s0 1 K S8.rf (fun m h1 h2 => by omega) ⟨by decide, Nat.one_le_two_pow⟩ (by decide)
  obtain ⟨hN, eN⟩ := ordN K1 S
  have h10 := p10 hN
  have h1 : 1 ≤ 2 ^ (zS s0 59 67).toInt.toNat := Nat.one_le_two_pow
  have e67 : zS s 59 67 = nI (zS s0 59 67).toInt.toNat := by
    apply Int32.toInt_inj.1
    rw [eN, nI_t (by omega)]
  have t2 : (nI (2 ^ (zS s0 59 67).toInt.toNat)).toInt = ((2 ^ (zS s0 59 67).toInt.toNat : Nat) : Int) := nI_t (by omega)
  have e1 : (1 : Int32) <<< (zS s 59 67 &&& 31) - 1 = nI (2 ^ (zS s0 59 67).toInt.toNat - 1) := by
    rw [e67, sh1n _ (by omega)]
    apply Int32.toInt_inj.1
    rw [i32_sub (by rw [t2, jl1]; omega) (by rw [t2, jl1]; omega), t2, jl1, nI_t (by omega)]
    omega
  rw [e1]
  have t3 : (nI (2 ^ (zS s0 59 67).toInt.toNat - 1)).toInt = ((2 ^ (zS s0 59 67).toInt.toNat - 1 : Nat) : Int) := nI_t (by omega)
  with_reducible refine Ok_vl ?_
  with_reducible refine Ok_gd ⟨by omega, by omega⟩ (fun _ => ?_)
  with_reducible refine Ok_vl ?_
  refine w_X12_order_L118 (b0 := b0) (c0 := s0) (fun s2 K2 => ?_) 4000 s _ 0 K1 S A (by omega) (by rw [pc_full _ (by omega)]; rfl) (by decide)
  with_reducible refine Ok_vl ?_
  with_reducible refine Ok_st ?_
  with_reducible refine Ok_st ?_
  have hf : 0 ≤ (zS s2 59 67).toInt ∧ (zS s2 59 67).toInt ≤ 10 := K2.f (q := 59) (k := 67) rfl
  exact Ok_some (Zo.mk (K2.wF (q := 59) (k := 72) (by decide) (by decide) (by decide) ⟨by omega, hf.2⟩))
set_option maxRecDepth 4000 in
theorem w_X12_ordered {b0 : SS} {s0 : SS} {a0 : Int32} (K : Lk b0 s0) : Ok (f_X12_ordered s0 a0) (fun _ => True) := by
  unfold f_X12_ordered
  have f0 := kf_59_72 K
  repeat' (first
    | with_reducible assumption
    | (with_reducible show Ok _ _; first | dsimp only | with_reducible refine Ok_some ?_ | with_reducible refine Ok_gd ?_ (fun _ => ?_) | with_reducible refine Ok_b1 ?_ | with_reducible refine Ok_ift (by decide) ?_ | with_reducible refine Ok_iff (by decide) ?_ | with_reducible refine Ok_if (fun _ => ?_) (fun _ => ?_) | with_reducible refine Ok.mono (w_X12_in ) (fun _ _ => ?_))
    | dsimp only
    | with_reducible refine And.intro ?_ ?_)
  all_goals (try (first | with_reducible assumption | exact trivial | omega | ((try clear ih); (try clear hr); (try clear hq0); (try clear hq1); (try clear hrec); ((try simp only [inB, jlt, jeq, Int32.reduceToInt, jn1, Nat.reduceEqDiff, Nat.reduceAdd, Nat.reduceMul, ite_true, ite_false, and_true, true_and, and_false, false_and, true_or, or_true, false_or, or_false, not_true_eq_false, not_false_eq_true, reduceIte, reduceCtorEq, eq_self] at *) <;> (first | omega | ((try simp (disch := first | omega | (simp (disch := first | omega | (simp (disch := first | omega | (simp only [Int32.reduceToInt]; omega)) only [i32_sub, Int32.reduceToInt]; omega)) only [i32_sub, Int32.reduceToInt]; omega)) only [i32_sub, Int32.reduceToInt] at *) <;> (first | omega | ((try simp (disch := first | omega | (simp (disch := first | omega | (simp (disch := first | omega | (simp only [Int32.reduceToInt]; omega)) only [i32_sub, Int32.reduceToInt]; omega)) only [i32_sub, Int32.reduceToInt]; omega)) only [i32_sub, Int32.reduceToInt] at *) <;> (first | omega | ((simp only [jadd, jsub, jmul, jneg, Int32.reduceToInt] at *) <;> omega))))))))))
set_option maxRecDepth 4000 in
theorem w_X12_watch_L29 {b0 : SS} {q0 : SS → Int32 → Option (Int32 × SS)} {y1 : Int32} {y2 : Int32} {Q : Int32 × SS → Prop} (g0 : 1 ≤ y1.toInt ∧ y1.toInt ≤ 3) (hq0 : ∀ (s : SS) (z0 : Int32), Lk b0 s → (0 ≤ z0.toInt ∧ z0.toInt ≤ 9) → Ok (q0 s z0) Q) : ∀ (n : Nat) (s : SS) (x3 : Int32) (x4 : Int32) (x5 : Int32), Lk b0 s → (0 ≤ x3.toInt ∧ x3.toInt ≤ 3 * y1.toInt) → (0 ≤ x5.toInt ∧ x5.toInt ≤ 120) → 120 - x5.toInt < (n : Int) → Ok (f_X12_watch_L29 q0 y1 y2 n s x3 x4 x5) Q := by
  intro n
  induction n with
  | zero =>
    intro s x3 x4 x5 K i0 i1 hm
    exfalso
    have e0 := ms3 g0
    (first | with_reducible assumption | omega | ((try clear ih); (try clear hr); (try clear hq0); (try clear hq1); (try clear hrec); ((try simp only [inB, Rg, cellOK, bA, jlt, jeq, Int32.reduceToInt, zS_pI, zI_pI, zN_pI, Nat.reduceEqDiff, Nat.reduceAdd, Nat.reduceMul, ite_true, ite_false, and_true, true_and, and_false, false_and, true_or, or_true, false_or, or_false, not_true_eq_false, not_false_eq_true, reduceIte, reduceCtorEq, eq_self] at *) <;> (first | omega | ((try simp (disch := first | omega | (simp (disch := first | omega | (simp (disch := first | omega | (simp only [Int32.reduceToInt]; omega)) only [i32_add, i32_sub, i32_mul, Int32.reduceToInt]; omega)) only [i32_add, i32_sub, i32_mul, Int32.reduceToInt]; omega)) only [i32_add, i32_sub, i32_mul, Int32.reduceToInt] at *) <;> (first | omega | ((try simp (disch := first | omega | (simp (disch := first | omega | (simp (disch := first | omega | (simp only [Int32.reduceToInt]; omega)) only [i32_add, i32_sub, i32_mul, Int32.reduceToInt]; omega)) only [i32_add, i32_sub, i32_mul, Int32.reduceToInt]; omega)) only [i32_add, i32_sub, i32_mul, Int32.reduceToInt] at *) <;> (first | omega | ((simp only [jadd, jsub, jmul, jneg, Int32.reduceToInt] at *) <;> omega)))))))))
  | succ n ih =>
    intro s x3 x4 x5 K i0 i1 hm
    show Ok (f_X12_watch_L29_b q0 y1 y2 (f_X12_watch_L29 q0 y1 y2 n) s x3 x4 x5) Q
    unfold f_X12_watch_L29_b
    have f0 := kf_59_4 K
    have e0 := ms3 g0
    repeat' (first
      | with_reducible assumption
      | (with_reducible show Ok _ _; first | dsimp only | with_reducible refine Lk_G120 (by assumption) ?_ (fun _ _ _ _ _ => ?_) | with_reducible refine Ok_gd ?_ (fun _ => ?_) | with_reducible refine Ok_vl ?_ | with_reducible refine Ok_st ?_ | with_reducible refine Ok_jn ?_ | with_reducible refine Ok_ift (by decide) ?_ | with_reducible refine Ok_iff (by decide) ?_ | with_reducible refine Ok_if (fun _ => ?_) (fun _ => ?_) | with_reducible refine ih _ _ _ _  ?_ ?_ ?_ ?_ | with_reducible refine hq0 _ _  ?_ ?_)
      | dsimp only
      | (with_reducible show Lk _ _; first | with_reducible refine Lk.wI ?_ (by decide) (by decide) ?_)
      | with_reducible refine And.intro ?_ ?_)
    all_goals (try (first | with_reducible assumption | exact trivial | omega | ((try clear ih); (try clear hr); (try clear hq0); (try clear hq1); (try clear hrec); ((try simp only [inB, Rg, cellOK, bA, jlt, jeq, Int32.reduceToInt, zS_pI, zI_pI, zN_pI, Nat.reduceEqDiff, Nat.reduceAdd, Nat.reduceMul, ite_true, ite_false, and_true, true_and, and_false, false_and, true_or, or_true, false_or, or_false, not_true_eq_false, not_false_eq_true, reduceIte, reduceCtorEq, eq_self] at *) <;> (first | omega | ((try simp (disch := first | omega | (simp (disch := first | omega | (simp (disch := first | omega | (simp only [Int32.reduceToInt]; omega)) only [i32_add, i32_sub, i32_mul, Int32.reduceToInt]; omega)) only [i32_add, i32_sub, i32_mul, Int32.reduceToInt]; omega)) only [i32_add, i32_sub, i32_mul, Int32.reduceToInt] at *) <;> (first | omega | ((try simp (disch := first | omega | (simp (disch := first | omega | (simp (disch := first | omega | (simp only [Int32.reduceToInt]; omega)) only [i32_add, i32_sub, i32_mul, Int32.reduceToInt]; omega)) only [i32_add, i32_sub, i32_mul, Int32.reduceToInt]; omega)) only [i32_add, i32_sub, i32_mul, Int32.reduceToInt] at *) <;> (first | omega | ((simp only [jadd, jsub, jmul, jneg, Int32.reduceToInt] at *) <;> omega))))))))))
set_option maxRecDepth 4000 in
theorem w_X12_watch_L102 {b0 : SS} {q0 : SS → Option (Int32 × SS)} {y1 : Int32} {y3 : Int32} {Q : Int32 × SS → Prop} (hq0 : ∀ (s : SS), Lk b0 s → Ok (q0 s) Q) : ∀ (n : Nat) (s : SS) (x5 : Int32), Lk b0 s → (0 ≤ x5.toInt ∧ x5.toInt ≤ 9) → 9 - x5.toInt < (n : Int) → Ok (f_X12_watch_L102 q0 y1 y3 n s x5) Q := by
  intro n
  induction n with
  | zero =>
    intro s x5 K i0 hm
    exfalso
    (first | with_reducible assumption | omega | ((try clear ih); (try clear hr); (try clear hq0); (try clear hq1); (try clear hrec); ((try simp only [inB, Rg, cellOK, bA, jlt, jeq, Int32.reduceToInt, jn2, zS_pI, zI_pI, zN_pI, Nat.reduceEqDiff, Nat.reduceAdd, Nat.reduceMul, ite_true, ite_false, and_true, true_and, and_false, false_and, true_or, or_true, false_or, or_false, not_true_eq_false, not_false_eq_true, reduceIte, reduceCtorEq, eq_self] at *) <;> (first | omega | ((try simp (disch := first | omega | (simp (disch := first | omega | (simp (disch := first | omega | (simp only [Int32.reduceToInt]; omega)) only [i32_add, i32_sub, Int32.reduceToInt]; omega)) only [i32_add, i32_sub, Int32.reduceToInt]; omega)) only [i32_add, i32_sub, Int32.reduceToInt] at *) <;> (first | omega | ((try simp (disch := first | omega | (simp (disch := first | omega | (simp (disch := first | omega | (simp only [Int32.reduceToInt]; omega)) only [i32_add, i32_sub, Int32.reduceToInt]; omega)) only [i32_add, i32_sub, Int32.reduceToInt]; omega)) only [i32_add, i32_sub, Int32.reduceToInt] at *) <;> (first | omega | ((simp only [jadd, jsub, jmul, jneg, Int32.reduceToInt] at *) <;> omega)))))))))
  | succ n ih =>
    intro s x5 K i0 hm
    show Ok (f_X12_watch_L102_b q0 y1 y3 (f_X12_watch_L102 q0 y1 y3 n) s x5) Q
    unfold f_X12_watch_L102_b
    repeat' (first
      | with_reducible assumption
      | (with_reducible show Ok _ _; first | dsimp only | with_reducible refine Ok_gd ?_ (fun _ => ?_) | with_reducible refine Ok_vl ?_ | with_reducible refine Ok_st ?_ | with_reducible refine Ok_ift (by decide) ?_ | with_reducible refine Ok_iff (by decide) ?_ | with_reducible refine Ok_if (fun _ => ?_) (fun _ => ?_) | with_reducible refine ih _ _  ?_ ?_ ?_ | with_reducible refine hq0 _  ?_)
      | dsimp only
      | (with_reducible show Lk _ _; first | with_reducible refine Lk.wI ?_ (by decide) (by decide) ?_)
      | with_reducible refine And.intro ?_ ?_)
    all_goals (try (first | with_reducible assumption | exact trivial | omega | ((try clear ih); (try clear hr); (try clear hq0); (try clear hq1); (try clear hrec); ((try simp only [inB, Rg, cellOK, bA, jlt, jeq, Int32.reduceToInt, jn2, zS_pI, zI_pI, zN_pI, Nat.reduceEqDiff, Nat.reduceAdd, Nat.reduceMul, ite_true, ite_false, and_true, true_and, and_false, false_and, true_or, or_true, false_or, or_false, not_true_eq_false, not_false_eq_true, reduceIte, reduceCtorEq, eq_self] at *) <;> (first | omega | ((try simp (disch := first | omega | (simp (disch := first | omega | (simp (disch := first | omega | (simp only [Int32.reduceToInt]; omega)) only [i32_add, i32_sub, Int32.reduceToInt]; omega)) only [i32_add, i32_sub, Int32.reduceToInt]; omega)) only [i32_add, i32_sub, Int32.reduceToInt] at *) <;> (first | omega | ((try simp (disch := first | omega | (simp (disch := first | omega | (simp (disch := first | omega | (simp only [Int32.reduceToInt]; omega)) only [i32_add, i32_sub, Int32.reduceToInt]; omega)) only [i32_add, i32_sub, Int32.reduceToInt]; omega)) only [i32_add, i32_sub, Int32.reduceToInt] at *) <;> (first | omega | ((simp only [jadd, jsub, jmul, jneg, Int32.reduceToInt] at *) <;> omega))))))))))
set_option maxRecDepth 4000 in
theorem w_X12_watch {b0 : SS} {s0 : SS} {a0 : Int32} {a1 : Int32} (K : Lk b0 s0) : Ok (f_X12_watch s0 a0 a1) (fun r => Lk b0 r.2) := by
  unfold f_X12_watch
  repeat' (first
    | with_reducible assumption
    | (with_reducible show Ok _ _; first | dsimp only | with_reducible refine Ok_some ?_ | with_reducible refine Ok_st ?_ | with_reducible refine Ok_b1 ?_ | with_reducible refine Ok_ift (by decide) ?_ | with_reducible refine Ok_iff (by decide) ?_ | with_reducible refine Ok_if (fun _ => ?_) (fun _ => ?_) | with_reducible refine Ok.mono (w_X12_in ) (fun _ _ => ?_))
    | dsimp only
    | (with_reducible show Lk _ _; first | with_reducible refine Lk.wF ?_ (by decide) (by decide) (by decide) ?_)
    | with_reducible refine w_X12_watch_L29 (b0 := b0) ?_ (fun _ _ _ _ => ?_) _ _ _ _ _  ?_ ?_ ?_ ?_
    | with_reducible refine w_X12_watch_L102 (b0 := b0) (fun _ _ => ?_) _ _ _  ?_ ?_ ?_
    | with_reducible refine And.intro ?_ ?_)
  all_goals (try (first | with_reducible assumption | exact trivial | omega | ((try clear ih); (try clear hr); (try clear hq0); (try clear hq1); (try clear hrec); ((try simp only [inB, Rg, bF, jlt, jeq, Int32.reduceToInt, jn1, zS_pS, zI_pS, zN_pS, Nat.reduceEqDiff, Nat.reduceAdd, Nat.reduceMul, ite_true, ite_false, and_true, true_and, and_false, false_and, true_or, or_true, false_or, or_false, not_true_eq_false, not_false_eq_true, reduceIte, reduceCtorEq, eq_self] at *) <;> (first | omega | ((try simp (disch := first | omega | (simp (disch := first | omega | (simp (disch := first | omega | (simp only [Int32.reduceToInt]; omega)) only [i32_sub, i32_mul, Int32.reduceToInt]; omega)) only [i32_sub, i32_mul, Int32.reduceToInt]; omega)) only [i32_sub, i32_mul, Int32.reduceToInt] at *) <;> (first | omega | ((try simp (disch := first | omega | (simp (disch := first | omega | (simp (disch := first | omega | (simp only [Int32.reduceToInt]; omega)) only [i32_sub, i32_mul, Int32.reduceToInt]; omega)) only [i32_sub, i32_mul, Int32.reduceToInt]; omega)) only [i32_sub, i32_mul, Int32.reduceToInt] at *) <;> (first | omega | ((simp only [jadd, jsub, jmul, jneg, Int32.reduceToInt] at *) <;> omega))))))))))
set_option maxRecDepth 4000 in
theorem w_X12_watched {b0 : SS} {s0 : SS} {a0 : Int32} {a1 : Int32} (K : Lk b0 s0) : Ok (f_X12_watched s0 a0 a1) (fun _ => True) := by
  unfold f_X12_watched
  have f0 := kf_59_74 K
  repeat' (first
    | with_reducible assumption
    | (with_reducible show Ok _ _; first | dsimp only | with_reducible refine Ok_some ?_ | with_reducible refine Ok_gd ?_ (fun _ => ?_) | with_reducible refine Ok_vl ?_ | with_reducible refine Ok_b1 ?_ | with_reducible refine Ok_ift (by decide) ?_ | with_reducible refine Ok_iff (by decide) ?_ | with_reducible refine Ok_if (fun _ => ?_) (fun _ => ?_) | with_reducible refine Ok.mono (w_X12_in ) (fun _ _ => ?_))
    | dsimp only
    | with_reducible refine wat2 ?_ ?_ ?_
    | with_reducible refine And.intro ?_ ?_)
  all_goals (try (first | with_reducible assumption | exact trivial | omega | ((try clear ih); (try clear hr); (try clear hq0); (try clear hq1); (try clear hrec); ((try simp only [inB, jlt, jeq, Int32.reduceToInt, jn1, Nat.reduceEqDiff, Nat.reduceAdd, Nat.reduceMul, ite_true, ite_false, and_true, true_and, and_false, false_and, true_or, or_true, false_or, or_false, not_true_eq_false, not_false_eq_true, reduceIte, reduceCtorEq, eq_self] at *) <;> (first | omega | ((try simp (disch := first | omega | (simp (disch := first | omega | (simp (disch := first | omega | (simp only [Int32.reduceToInt]; omega)) only [i32_add, i32_sub, i32_mul, Int32.reduceToInt]; omega)) only [i32_add, i32_sub, i32_mul, Int32.reduceToInt]; omega)) only [i32_add, i32_sub, i32_mul, Int32.reduceToInt] at *) <;> (first | omega | ((try simp (disch := first | omega | (simp (disch := first | omega | (simp (disch := first | omega | (simp only [Int32.reduceToInt]; omega)) only [i32_add, i32_sub, i32_mul, Int32.reduceToInt]; omega)) only [i32_add, i32_sub, i32_mul, Int32.reduceToInt]; omega)) only [i32_add, i32_sub, i32_mul, Int32.reduceToInt] at *) <;> (first | omega | ((simp only [jadd, jsub, jmul, jneg, Int32.reduceToInt] at *) <;> omega))))))))))
set_option maxRecDepth 4000 in
theorem w_X12_minutesAt_L6 {b0 : SS} {s0 : SS} {y1 : Int32} {y2 : Int32} {y3 : Int32} {y4 : Int32} {Q : Int32 → Prop} (K : Lk b0 s0) (g0 : 0 ≤ y1.toInt ∧ y1.toInt ≤ 5) (g1 : 0 ≤ y2.toInt ∧ y2.toInt ≤ 2) (g2 : 1 ≤ y3.toInt ∧ y3.toInt ≤ 4) (hr : ∀ v, Q v) : ∀ (n : Nat) (x5 : Int32) (x6 : Int32), (0 ≤ x6.toInt ∧ x6.toInt ≤ 4) → 4 - x6.toInt < (n : Int) → Ok (f_X12_minutesAt_L6 s0 y1 y2 y3 y4 n x5 x6) Q := by
  intro n
  induction n with
  | zero =>
    intro x5 x6 i0 hm
    exfalso
    (first | with_reducible assumption | omega | ((try clear ih); (try clear hr); (try clear hq0); (try clear hq1); (try clear hrec); ((try simp only [inB, jlt, jeq, Int32.reduceToInt, Nat.reduceEqDiff, Nat.reduceAdd, Nat.reduceMul, ite_true, ite_false, and_true, true_and, and_false, false_and, true_or, or_true, false_or, or_false, not_true_eq_false, not_false_eq_true, reduceIte, reduceCtorEq, eq_self] at *) <;> (first | omega | ((try simp (disch := first | omega | (simp (disch := first | omega | (simp (disch := first | omega | (simp only [Int32.reduceToInt]; omega)) only [i32_add, i32_sub, i32_mul, Int32.reduceToInt]; omega)) only [i32_add, i32_sub, i32_mul, Int32.reduceToInt]; omega)) only [i32_add, i32_sub, i32_mul, Int32.reduceToInt] at *) <;> (first | omega | ((try simp (disch := first | omega | (simp (disch := first | omega | (simp (disch := first | omega | (simp only [Int32.reduceToInt]; omega)) only [i32_add, i32_sub, i32_mul, Int32.reduceToInt]; omega)) only [i32_add, i32_sub, i32_mul, Int32.reduceToInt]; omega)) only [i32_add, i32_sub, i32_mul, Int32.reduceToInt] at *) <;> (first | omega | ((simp only [jadd, jsub, jmul, jneg, Int32.reduceToInt] at *) <;> omega)))))))))
  | succ n ih =>
    intro x5 x6 i0 hm
    show Ok (f_X12_minutesAt_L6_b s0 y1 y2 y3 y4 (f_X12_minutesAt_L6 s0 y1 y2 y3 y4 n) x5 x6) Q
    unfold f_X12_minutesAt_L6_b
    repeat' (first
      | with_reducible assumption
      | (with_reducible show Ok _ _; first | dsimp only | with_reducible refine Ok_some ?_ | with_reducible refine Lk_G3 (by assumption) ?_ (fun _ _ => ?_) | with_reducible refine Lk_G6 (by assumption) ?_ (fun _ _ _ => ?_) | with_reducible refine Ok_gd ?_ (fun _ => ?_) | with_reducible refine Ok_vl ?_ | with_reducible refine Ok_jn ?_ | with_reducible refine Ok_ift (by decide) ?_ | with_reducible refine Ok_iff (by decide) ?_ | with_reducible refine Ok_if (fun _ => ?_) (fun _ => ?_) | with_reducible refine ih _ _  ?_ ?_)
      | dsimp only
      | with_reducible refine hr _
      | with_reducible refine And.intro ?_ ?_)
    all_goals (try (first | with_reducible assumption | exact trivial | omega | ((try clear ih); (try clear hr); (try clear hq0); (try clear hq1); (try clear hrec); ((try simp only [inB, jlt, jeq, Int32.reduceToInt, Nat.reduceEqDiff, Nat.reduceAdd, Nat.reduceMul, ite_true, ite_false, and_true, true_and, and_false, false_and, true_or, or_true, false_or, or_false, not_true_eq_false, not_false_eq_true, reduceIte, reduceCtorEq, eq_self] at *) <;> (first | omega | ((try simp (disch := first | omega | (simp (disch := first | omega | (simp (disch := first | omega | (simp only [Int32.reduceToInt]; omega)) only [i32_add, i32_sub, i32_mul, Int32.reduceToInt]; omega)) only [i32_add, i32_sub, i32_mul, Int32.reduceToInt]; omega)) only [i32_add, i32_sub, i32_mul, Int32.reduceToInt] at *) <;> (first | omega | ((try simp (disch := first | omega | (simp (disch := first | omega | (simp (disch := first | omega | (simp only [Int32.reduceToInt]; omega)) only [i32_add, i32_sub, i32_mul, Int32.reduceToInt]; omega)) only [i32_add, i32_sub, i32_mul, Int32.reduceToInt]; omega)) only [i32_add, i32_sub, i32_mul, Int32.reduceToInt] at *) <;> (first | omega | ((simp only [jadd, jsub, jmul, jneg, Int32.reduceToInt] at *) <;> omega))))))))))
set_option maxRecDepth 4000 in
theorem w_X12_minutesAt {b0 : SS} {s0 : SS} {a0 : Int32} {a1 : Int32} {a2 : Int32} {a3 : Int32} (K : Lk b0 s0) (g0 : 0 ≤ a0.toInt ∧ a0.toInt ≤ 5) (g1 : 0 ≤ a1.toInt ∧ a1.toInt ≤ 2) (g2 : 1 ≤ a2.toInt ∧ a2.toInt ≤ 4) : Ok (f_X12_minutesAt s0 a0 a1 a2 a3) (fun _ => True) := by
  unfold f_X12_minutesAt
  repeat' (first
    | with_reducible assumption
    | dsimp only
    | with_reducible refine w_X12_minutesAt_L6 (b0 := b0) ?_ ?_ ?_ ?_ (fun _ => ?_) _ _ _  ?_ ?_
    | with_reducible refine And.intro ?_ ?_)
  all_goals (try (first | with_reducible assumption | exact trivial | omega | ((try clear ih); (try clear hr); (try clear hq0); (try clear hq1); (try clear hrec); ((try simp only [inB, jlt, jeq, Int32.reduceToInt, Nat.reduceEqDiff, Nat.reduceAdd, Nat.reduceMul, ite_true, ite_false, and_true, true_and, and_false, false_and, true_or, or_true, false_or, or_false, not_true_eq_false, not_false_eq_true, reduceIte, reduceCtorEq, eq_self] at *) <;> (first | omega | ((try simp (disch := first | omega | (simp (disch := first | omega | (simp (disch := first | omega | (simp only [Int32.reduceToInt]; omega)) only [i32_sub, Int32.reduceToInt]; omega)) only [i32_sub, Int32.reduceToInt]; omega)) only [i32_sub, Int32.reduceToInt] at *) <;> (first | omega | ((try simp (disch := first | omega | (simp (disch := first | omega | (simp (disch := first | omega | (simp only [Int32.reduceToInt]; omega)) only [i32_sub, Int32.reduceToInt]; omega)) only [i32_sub, Int32.reduceToInt]; omega)) only [i32_sub, Int32.reduceToInt] at *) <;> (first | omega | ((simp only [jadd, jsub, jmul, jneg, Int32.reduceToInt] at *) <;> omega))))))))))
set_option maxRecDepth 4000 in
theorem w_X12_aimed_L130 {b0 : SS} {q0 : SS → Int32 → Option (Int32 × SS)} {y1 : Int32} {y2 : Int32} {y3 : Int32} {y5 : Int32} {y6 : Int32} {y7 : Int32} {Q : Int32 × SS → Prop} (g0 : 1 ≤ y1.toInt ∧ y1.toInt ≤ 4) (g1 : 0 ≤ y5.toInt ∧ y5.toInt ≤ 5) (g2 : 0 ≤ y6.toInt ∧ y6.toInt ≤ 5) (g3 : 0 ≤ y7.toInt ∧ y7.toInt ≤ 2) (hq0 : ∀ (s : SS) (z0 : Int32), Lk b0 s → Ok (q0 s z0) Q) : ∀ (n : Nat) (s : SS) (x4 : Int32) (x8 : Int32), Lk b0 s → (0 ≤ x8.toInt ∧ x8.toInt ≤ 3) → 3 - x8.toInt < (n : Int) → Ok (f_X12_aimed_L130 q0 y1 y2 y3 y5 y6 y7 n s x4 x8) Q := by
  intro n
  induction n with
  | zero =>
    intro s x4 x8 K i0 hm
    exfalso
    (first | with_reducible assumption | omega | ((try clear ih); (try clear hr); (try clear hq0); (try clear hq1); (try clear hrec); ((try simp only [inB, Rg, cellOK, bA, jlt, jeq, Int32.reduceToInt, zS_pI, zI_pI, zN_pI, Nat.reduceEqDiff, Nat.reduceAdd, Nat.reduceMul, ite_true, ite_false, and_true, true_and, and_false, false_and, true_or, or_true, false_or, or_false, not_true_eq_false, not_false_eq_true, reduceIte, reduceCtorEq, eq_self] at *) <;> (first | omega | ((try simp (disch := first | omega | (simp (disch := first | omega | (simp (disch := first | omega | (simp only [Int32.reduceToInt]; omega)) only [i32_add, i32_sub, Int32.reduceToInt]; omega)) only [i32_add, i32_sub, Int32.reduceToInt]; omega)) only [i32_add, i32_sub, Int32.reduceToInt] at *) <;> (first | omega | ((try simp (disch := first | omega | (simp (disch := first | omega | (simp (disch := first | omega | (simp only [Int32.reduceToInt]; omega)) only [i32_add, i32_sub, Int32.reduceToInt]; omega)) only [i32_add, i32_sub, Int32.reduceToInt]; omega)) only [i32_add, i32_sub, Int32.reduceToInt] at *) <;> (first | omega | ((simp only [jadd, jsub, jmul, jneg, Int32.reduceToInt] at *) <;> omega)))))))))
  | succ n ih =>
    intro s x4 x8 K i0 hm
    show Ok (f_X12_aimed_L130_b q0 y1 y2 y3 y5 y6 y7 (f_X12_aimed_L130 q0 y1 y2 y3 y5 y6 y7 n) s x4 x8) Q
    unfold f_X12_aimed_L130_b
    repeat' (first
      | with_reducible assumption
      | (with_reducible show Ok _ _; first | dsimp only | with_reducible refine Ok_jn0 ?_ (fun _ _ => ?_) | with_reducible refine Ok_jn1 (fun _ => ?_) (fun _ _ => ?_) | with_reducible refine Ok_jn2 (fun _ _ => ?_) (fun _ _ => ?_) | with_reducible refine Ok_jnS (b0 := b0) (fun _ _ => ?_) (fun _ _ => ?_) | with_reducible refine Ok_jnS1 (b0 := b0) (fun _ _ _ => ?_) (fun _ _ => ?_) | with_reducible refine Ok_jnS2 (b0 := b0) (fun _ _ _ _ => ?_) (fun _ _ => ?_) | with_reducible refine Ok_k1 (by assumption) _ | with_reducible refine Ok_k2 (by assumption) _ _ | with_reducible refine Ok_kS (b0 := b0) (by assumption) ?_ | with_reducible refine Ok_kS1 (b0 := b0) (by assumption) ?_ | with_reducible refine Ok_kS2 (b0 := b0) (by assumption) ?_ | with_reducible refine Ok_vl ?_ | with_reducible refine Ok_st ?_ | with_reducible refine Ok_jn ?_ | with_reducible refine Ok_b1 ?_ | with_reducible refine Ok_ift (by decide) ?_ | with_reducible refine Ok_iff (by decide) ?_ | with_reducible refine Ok_if (fun _ => ?_) (fun _ => ?_) | with_reducible refine ih _ _ _  ?_ ?_ ?_ | with_reducible refine hq0 _ _  ?_ | with_reducible refine Ok.mono (w_X12_minutesAt (b0 := b0) ?_ ?_ ?_ ?_) (fun _ _ => ?_))
      | dsimp only
      | (with_reducible show Lk _ _; first | with_reducible refine Lk.wI ?_ (by decide) (by decide) ?_)
      | with_reducible refine And.intro ?_ ?_)
    all_goals (try (first | with_reducible assumption | exact trivial | omega | ((try clear ih); (try clear hr); (try clear hq0); (try clear hq1); (try clear hrec); ((try simp only [inB, Rg, cellOK, bA, jlt, jeq, Int32.reduceToInt, zS_pI, zI_pI, zN_pI, Nat.reduceEqDiff, Nat.reduceAdd, Nat.reduceMul, ite_true, ite_false, and_true, true_and, and_false, false_and, true_or, or_true, false_or, or_false, not_true_eq_false, not_false_eq_true, reduceIte, reduceCtorEq, eq_self] at *) <;> (first | omega | ((try simp (disch := first | omega | (simp (disch := first | omega | (simp (disch := first | omega | (simp only [Int32.reduceToInt]; omega)) only [i32_add, i32_sub, Int32.reduceToInt]; omega)) only [i32_add, i32_sub, Int32.reduceToInt]; omega)) only [i32_add, i32_sub, Int32.reduceToInt] at *) <;> (first | omega | ((try simp (disch := first | omega | (simp (disch := first | omega | (simp (disch := first | omega | (simp only [Int32.reduceToInt]; omega)) only [i32_add, i32_sub, Int32.reduceToInt]; omega)) only [i32_add, i32_sub, Int32.reduceToInt]; omega)) only [i32_add, i32_sub, Int32.reduceToInt] at *) <;> (first | omega | ((simp only [jadd, jsub, jmul, jneg, Int32.reduceToInt] at *) <;> omega))))))))))
set_option maxRecDepth 4000 in
theorem w_X12_aimed_L109 {b0 : SS} {q0 : SS → Int32 → Option (Int32 × SS)} {y1 : Int32} {y2 : Int32} {y3 : Int32} {y5 : Int32} {y6 : Int32} {Q : Int32 × SS → Prop} (g0 : 1 ≤ y1.toInt ∧ y1.toInt ≤ 4) (g1 : 0 ≤ y5.toInt ∧ y5.toInt ≤ 5) (g2 : 0 ≤ y6.toInt ∧ y6.toInt ≤ 5) (hq0 : ∀ (s : SS) (z0 : Int32), Lk b0 s → Ok (q0 s z0) Q) : ∀ (n : Nat) (s : SS) (x4 : Int32) (x7 : Int32), Lk b0 s → (0 ≤ x7.toInt ∧ x7.toInt ≤ 3) → 3 - x7.toInt < (n : Int) → Ok (f_X12_aimed_L109 q0 y1 y2 y3 y5 y6 n s x4 x7) Q := by
  intro n
  induction n with
  | zero =>
    intro s x4 x7 K i0 hm
    exfalso
    (first | with_reducible assumption | omega | ((try clear ih); (try clear hr); (try clear hq0); (try clear hq1); (try clear hrec); ((try simp only [inB, jlt, jeq, Int32.reduceToInt, Nat.reduceEqDiff, Nat.reduceAdd, Nat.reduceMul, ite_true, ite_false, and_true, true_and, and_false, false_and, true_or, or_true, false_or, or_false, not_true_eq_false, not_false_eq_true, reduceIte, reduceCtorEq, eq_self] at *) <;> (first | omega | ((try simp (disch := first | omega | (simp (disch := first | omega | (simp (disch := first | omega | (simp only [Int32.reduceToInt]; omega)) only [i32_add, i32_sub, Int32.reduceToInt]; omega)) only [i32_add, i32_sub, Int32.reduceToInt]; omega)) only [i32_add, i32_sub, Int32.reduceToInt] at *) <;> (first | omega | ((try simp (disch := first | omega | (simp (disch := first | omega | (simp (disch := first | omega | (simp only [Int32.reduceToInt]; omega)) only [i32_add, i32_sub, Int32.reduceToInt]; omega)) only [i32_add, i32_sub, Int32.reduceToInt]; omega)) only [i32_add, i32_sub, Int32.reduceToInt] at *) <;> (first | omega | ((simp only [jadd, jsub, jmul, jneg, Int32.reduceToInt] at *) <;> omega)))))))))
  | succ n ih =>
    intro s x4 x7 K i0 hm
    show Ok (f_X12_aimed_L109_b q0 y1 y2 y3 y5 y6 (f_X12_aimed_L109 q0 y1 y2 y3 y5 y6 n) s x4 x7) Q
    unfold f_X12_aimed_L109_b
    repeat' (first
      | with_reducible assumption
      | (with_reducible show Ok _ _; first | dsimp only | with_reducible refine Ok_vl ?_ | with_reducible refine Ok_jn ?_ | with_reducible refine Ok_ift (by decide) ?_ | with_reducible refine Ok_iff (by decide) ?_ | with_reducible refine Ok_if (fun _ => ?_) (fun _ => ?_) | with_reducible refine ih _ _ _  ?_ ?_ ?_ | with_reducible refine hq0 _ _  ?_)
      | dsimp only
      | with_reducible refine w_X12_aimed_L130 (b0 := b0) ?_ ?_ ?_ ?_ (fun _ _ _ => ?_) _ _ _ _  ?_ ?_ ?_
      | with_reducible refine And.intro ?_ ?_)
    all_goals (try (first | with_reducible assumption | exact trivial | omega | ((try clear ih); (try clear hr); (try clear hq0); (try clear hq1); (try clear hrec); ((try simp only [inB, jlt, jeq, Int32.reduceToInt, Nat.reduceEqDiff, Nat.reduceAdd, Nat.reduceMul, ite_true, ite_false, and_true, true_and, and_false, false_and, true_or, or_true, false_or, or_false, not_true_eq_false, not_false_eq_true, reduceIte, reduceCtorEq, eq_self] at *) <;> (first | omega | ((try simp (disch := first | omega | (simp (disch := first | omega | (simp (disch := first | omega | (simp only [Int32.reduceToInt]; omega)) only [i32_add, i32_sub, Int32.reduceToInt]; omega)) only [i32_add, i32_sub, Int32.reduceToInt]; omega)) only [i32_add, i32_sub, Int32.reduceToInt] at *) <;> (first | omega | ((try simp (disch := first | omega | (simp (disch := first | omega | (simp (disch := first | omega | (simp only [Int32.reduceToInt]; omega)) only [i32_add, i32_sub, Int32.reduceToInt]; omega)) only [i32_add, i32_sub, Int32.reduceToInt]; omega)) only [i32_add, i32_sub, Int32.reduceToInt] at *) <;> (first | omega | ((simp only [jadd, jsub, jmul, jneg, Int32.reduceToInt] at *) <;> omega))))))))))
set_option maxRecDepth 4000 in
theorem w_X12_aimed_L73 {b0 : SS} {q0 : SS → Int32 → Option (Int32 × SS)} {y1 : Int32} {y2 : Int32} {y3 : Int32} {y5 : Int32} {Q : Int32 × SS → Prop} (g0 : 1 ≤ y1.toInt ∧ y1.toInt ≤ 4) (g1 : 0 ≤ y5.toInt ∧ y5.toInt ≤ 5) (hq0 : ∀ (s : SS) (z0 : Int32), Lk b0 s → Ok (q0 s z0) Q) : ∀ (n : Nat) (s : SS) (x4 : Int32) (x6 : Int32), Lk b0 s → (0 ≤ x6.toInt ∧ x6.toInt ≤ 6) → 6 - x6.toInt < (n : Int) → Ok (f_X12_aimed_L73 q0 y1 y2 y3 y5 n s x4 x6) Q := by
  intro n
  induction n with
  | zero =>
    intro s x4 x6 K i0 hm
    exfalso
    (first | with_reducible assumption | omega | ((try clear ih); (try clear hr); (try clear hq0); (try clear hq1); (try clear hrec); ((try simp only [inB, jlt, jeq, Int32.reduceToInt, Nat.reduceEqDiff, Nat.reduceAdd, Nat.reduceMul, ite_true, ite_false, and_true, true_and, and_false, false_and, true_or, or_true, false_or, or_false, not_true_eq_false, not_false_eq_true, reduceIte, reduceCtorEq, eq_self] at *) <;> (first | omega | ((try simp (disch := first | omega | (simp (disch := first | omega | (simp (disch := first | omega | (simp only [Int32.reduceToInt]; omega)) only [i32_add, i32_sub, Int32.reduceToInt]; omega)) only [i32_add, i32_sub, Int32.reduceToInt]; omega)) only [i32_add, i32_sub, Int32.reduceToInt] at *) <;> (first | omega | ((try simp (disch := first | omega | (simp (disch := first | omega | (simp (disch := first | omega | (simp only [Int32.reduceToInt]; omega)) only [i32_add, i32_sub, Int32.reduceToInt]; omega)) only [i32_add, i32_sub, Int32.reduceToInt]; omega)) only [i32_add, i32_sub, Int32.reduceToInt] at *) <;> (first | omega | ((simp only [jadd, jsub, jmul, jneg, Int32.reduceToInt] at *) <;> omega)))))))))
  | succ n ih =>
    intro s x4 x6 K i0 hm
    show Ok (f_X12_aimed_L73_b q0 y1 y2 y3 y5 (f_X12_aimed_L73 q0 y1 y2 y3 y5 n) s x4 x6) Q
    unfold f_X12_aimed_L73_b
    have f0 := kf_59_76 K
    repeat' (first
      | with_reducible assumption
      | (with_reducible show Ok _ _; first | dsimp only | with_reducible refine Ok_vl ?_ | with_reducible refine Ok_jn ?_ | with_reducible refine Ok_ift (by decide) ?_ | with_reducible refine Ok_iff (by decide) ?_ | with_reducible refine Ok_if (fun _ => ?_) (fun _ => ?_) | with_reducible refine ih _ _ _  ?_ ?_ ?_ | with_reducible refine hq0 _ _  ?_)
      | dsimp only
      | with_reducible refine w_X12_aimed_L109 (b0 := b0) ?_ ?_ ?_ (fun _ _ _ => ?_) _ _ _ _  ?_ ?_ ?_
      | with_reducible refine And.intro ?_ ?_)
    all_goals (try (first | with_reducible assumption | exact trivial | omega | ((try clear ih); (try clear hr); (try clear hq0); (try clear hq1); (try clear hrec); ((try simp only [inB, jlt, jeq, Int32.reduceToInt, Nat.reduceEqDiff, Nat.reduceAdd, Nat.reduceMul, ite_true, ite_false, and_true, true_and, and_false, false_and, true_or, or_true, false_or, or_false, not_true_eq_false, not_false_eq_true, reduceIte, reduceCtorEq, eq_self] at *) <;> (first | omega | ((try simp (disch := first | omega | (simp (disch := first | omega | (simp (disch := first | omega | (simp only [Int32.reduceToInt]; omega)) only [i32_add, i32_sub, Int32.reduceToInt]; omega)) only [i32_add, i32_sub, Int32.reduceToInt]; omega)) only [i32_add, i32_sub, Int32.reduceToInt] at *) <;> (first | omega | ((try simp (disch := first | omega | (simp (disch := first | omega | (simp (disch := first | omega | (simp only [Int32.reduceToInt]; omega)) only [i32_add, i32_sub, Int32.reduceToInt]; omega)) only [i32_add, i32_sub, Int32.reduceToInt]; omega)) only [i32_add, i32_sub, Int32.reduceToInt] at *) <;> (first | omega | ((simp only [jadd, jsub, jmul, jneg, Int32.reduceToInt] at *) <;> omega))))))))))
set_option maxRecDepth 4000 in
theorem w_X12_aimed_L61 {b0 : SS} {q0 : SS → Int32 → Option (Int32 × SS)} {y1 : Int32} {y2 : Int32} {y3 : Int32} {Q : Int32 × SS → Prop} (g0 : 1 ≤ y1.toInt ∧ y1.toInt ≤ 4) (hq0 : ∀ (s : SS) (z0 : Int32), Lk b0 s → Ok (q0 s z0) Q) : ∀ (n : Nat) (s : SS) (x4 : Int32) (x5 : Int32), Lk b0 s → (0 ≤ x5.toInt ∧ x5.toInt ≤ 6) → 6 - x5.toInt < (n : Int) → Ok (f_X12_aimed_L61 q0 y1 y2 y3 n s x4 x5) Q := by
  intro n
  induction n with
  | zero =>
    intro s x4 x5 K i0 hm
    exfalso
    (first | with_reducible assumption | omega | ((try clear ih); (try clear hr); (try clear hq0); (try clear hq1); (try clear hrec); ((try simp only [inB, jlt, jeq, Int32.reduceToInt, Nat.reduceEqDiff, Nat.reduceAdd, Nat.reduceMul, ite_true, ite_false, and_true, true_and, and_false, false_and, true_or, or_true, false_or, or_false, not_true_eq_false, not_false_eq_true, reduceIte, reduceCtorEq, eq_self] at *) <;> (first | omega | ((try simp (disch := first | omega | (simp (disch := first | omega | (simp (disch := first | omega | (simp only [Int32.reduceToInt]; omega)) only [i32_add, i32_sub, Int32.reduceToInt]; omega)) only [i32_add, i32_sub, Int32.reduceToInt]; omega)) only [i32_add, i32_sub, Int32.reduceToInt] at *) <;> (first | omega | ((try simp (disch := first | omega | (simp (disch := first | omega | (simp (disch := first | omega | (simp only [Int32.reduceToInt]; omega)) only [i32_add, i32_sub, Int32.reduceToInt]; omega)) only [i32_add, i32_sub, Int32.reduceToInt]; omega)) only [i32_add, i32_sub, Int32.reduceToInt] at *) <;> (first | omega | ((simp only [jadd, jsub, jmul, jneg, Int32.reduceToInt] at *) <;> omega)))))))))
  | succ n ih =>
    intro s x4 x5 K i0 hm
    show Ok (f_X12_aimed_L61_b q0 y1 y2 y3 (f_X12_aimed_L61 q0 y1 y2 y3 n) s x4 x5) Q
    unfold f_X12_aimed_L61_b
    have f0 := kf_59_76 K
    repeat' (first
      | with_reducible assumption
      | (with_reducible show Ok _ _; first | dsimp only | with_reducible refine Ok_vl ?_ | with_reducible refine Ok_ift (by decide) ?_ | with_reducible refine Ok_iff (by decide) ?_ | with_reducible refine Ok_if (fun _ => ?_) (fun _ => ?_) | with_reducible refine ih _ _ _  ?_ ?_ ?_ | with_reducible refine hq0 _ _  ?_)
      | dsimp only
      | with_reducible refine w_X12_aimed_L73 (b0 := b0) ?_ ?_ (fun _ _ _ => ?_) _ _ _ _  ?_ ?_ ?_
      | with_reducible refine And.intro ?_ ?_)
    all_goals (try (first | with_reducible assumption | exact trivial | omega | ((try clear ih); (try clear hr); (try clear hq0); (try clear hq1); (try clear hrec); ((try simp only [inB, jlt, jeq, Int32.reduceToInt, Nat.reduceEqDiff, Nat.reduceAdd, Nat.reduceMul, ite_true, ite_false, and_true, true_and, and_false, false_and, true_or, or_true, false_or, or_false, not_true_eq_false, not_false_eq_true, reduceIte, reduceCtorEq, eq_self] at *) <;> (first | omega | ((try simp (disch := first | omega | (simp (disch := first | omega | (simp (disch := first | omega | (simp only [Int32.reduceToInt]; omega)) only [i32_add, i32_sub, Int32.reduceToInt]; omega)) only [i32_add, i32_sub, Int32.reduceToInt]; omega)) only [i32_add, i32_sub, Int32.reduceToInt] at *) <;> (first | omega | ((try simp (disch := first | omega | (simp (disch := first | omega | (simp (disch := first | omega | (simp only [Int32.reduceToInt]; omega)) only [i32_add, i32_sub, Int32.reduceToInt]; omega)) only [i32_add, i32_sub, Int32.reduceToInt]; omega)) only [i32_add, i32_sub, Int32.reduceToInt] at *) <;> (first | omega | ((simp only [jadd, jsub, jmul, jneg, Int32.reduceToInt] at *) <;> omega))))))))))
set_option maxRecDepth 4000 in
theorem w_X12_aimedAt {b0 : SS} {s0 : SS} {a0 : Int32} {a1 : Int32} (K : Lk b0 s0) : Ok (f_X12_aimedAt s0 a0 a1) (fun _ => True) := by
  unfold f_X12_aimedAt
  have f0 := kf_59_79 K
  repeat' (first
    | with_reducible assumption
    | (with_reducible show Ok _ _; first | dsimp only | with_reducible refine Ok_some ?_ | with_reducible refine Ok_gd ?_ (fun _ => ?_) | with_reducible refine Ok_b1 ?_ | with_reducible refine Ok_ift (by decide) ?_ | with_reducible refine Ok_iff (by decide) ?_ | with_reducible refine Ok_if (fun _ => ?_) (fun _ => ?_) | with_reducible refine Ok.mono (w_X12_in ) (fun _ _ => ?_))
    | dsimp only
    | with_reducible refine And.intro ?_ ?_)
  all_goals (try (first | with_reducible assumption | exact trivial | omega | ((try clear ih); (try clear hr); (try clear hq0); (try clear hq1); (try clear hrec); ((try simp only [inB, jlt, jeq, Int32.reduceToInt, jn1, Nat.reduceEqDiff, Nat.reduceAdd, Nat.reduceMul, ite_true, ite_false, and_true, true_and, and_false, false_and, true_or, or_true, false_or, or_false, not_true_eq_false, not_false_eq_true, reduceIte, reduceCtorEq, eq_self] at *) <;> (first | omega | ((try simp (disch := first | omega | (simp (disch := first | omega | (simp (disch := first | omega | (simp only [Int32.reduceToInt]; omega)) only [i32_sub, Int32.reduceToInt]; omega)) only [i32_sub, Int32.reduceToInt]; omega)) only [i32_sub, Int32.reduceToInt] at *) <;> (first | omega | ((try simp (disch := first | omega | (simp (disch := first | omega | (simp (disch := first | omega | (simp only [Int32.reduceToInt]; omega)) only [i32_sub, Int32.reduceToInt]; omega)) only [i32_sub, Int32.reduceToInt]; omega)) only [i32_sub, Int32.reduceToInt] at *) <;> (first | omega | ((simp only [jadd, jsub, jmul, jneg, Int32.reduceToInt] at *) <;> omega))))))))))
set_option maxRecDepth 4000 in
theorem w_X12_race {b0 : SS} {s0 : SS} {a0 : Int32} {a1 : Int32} {a2 : Int32} (K : Lk b0 s0) : Ok (f_X12_race s0 a0 a1 a2) (fun _ => True) := by
  unfold f_X12_race
  repeat' (first
    | with_reducible assumption
    | (with_reducible show Ok _ _; first | dsimp only | with_reducible refine Ok_some ?_ | with_reducible refine Lk_G120 (by assumption) ?_ (fun _ _ _ _ _ => ?_) | with_reducible refine Lk_G3 (by assumption) ?_ (fun _ _ => ?_) | with_reducible refine Ok_gd ?_ (fun _ => ?_) | with_reducible refine Ok_vl ?_ | with_reducible refine Ok_jn ?_ | with_reducible refine Ok_b1 ?_ | with_reducible refine Ok_ift (by decide) ?_ | with_reducible refine Ok_iff (by decide) ?_ | with_reducible refine Ok_if (fun _ => ?_) (fun _ => ?_) | with_reducible refine Ok.mono (w_X12_in ) (fun _ _ => ?_) | with_reducible refine Ok.mono (w_X12_held ?_) (fun _ _ => ?_) | unfold f_X12_isMachine)
    | dsimp only
    | with_reducible refine And.intro ?_ ?_)
  all_goals (try (first | with_reducible assumption | exact trivial | omega | ((try clear ih); (try clear hr); (try clear hq0); (try clear hq1); (try clear hrec); ((try simp only [inB, jlt, jeq, jd60, Int32.reduceToInt, jn1, jn2, Nat.reduceEqDiff, Nat.reduceAdd, Nat.reduceMul, ite_true, ite_false, and_true, true_and, and_false, false_and, true_or, or_true, false_or, or_false, not_true_eq_false, not_false_eq_true, reduceIte, reduceCtorEq, eq_self] at *) <;> (first | omega | ((try simp (disch := first | omega | (simp (disch := first | omega | (simp (disch := first | omega | (simp only [jd60, Int32.reduceToInt]; omega)) only [i32_add, i32_sub, i32_mul, jd60, Int32.reduceToInt]; omega)) only [i32_add, i32_sub, i32_mul, jd60, Int32.reduceToInt]; omega)) only [i32_add, i32_sub, i32_mul, jd60, Int32.reduceToInt] at *) <;> (first | omega | ((try simp (disch := first | omega | (simp (disch := first | omega | (simp (disch := first | omega | (simp only [jd60, Int32.reduceToInt]; omega)) only [i32_add, i32_sub, i32_mul, jd60, Int32.reduceToInt]; omega)) only [i32_add, i32_sub, i32_mul, jd60, Int32.reduceToInt]; omega)) only [i32_add, i32_sub, i32_mul, jd60, Int32.reduceToInt] at *) <;> (first | omega | ((simp only [jadd, jsub, jmul, jneg, Int32.reduceToInt] at *) <;> omega))))))))))
set_option maxRecDepth 4000 in
theorem w_X12_capsule_L85 {b0 : SS} {c0 : SS} {q0 : SS → Int32 → Option (Int32 × SS)} {y1 : Int32} {y2 : Int32} {y3 : Int32} {y4 : Int32} {Q : Int32 × SS → Prop} (hq0 : ∀ (s : SS) (z0 : Int32), Lk b0 s → (0 ≤ z0.toInt ∧ z0.toInt ≤ 119) → (S7 c0 s) → Ok (q0 s z0) Q) : ∀ (n : Nat) (s : SS) (x5 : Int32), Lk b0 s → (0 ≤ x5.toInt ∧ x5.toInt ≤ 119) → (S7 c0 s) → x5.toInt < (n : Int) → Ok (f_X12_capsule_L85 q0 y1 y2 y3 y4 n s x5) Q := by
  intro n
  induction n with
  | zero =>
    intro s x5 K i0 i1 hm
    exfalso
    (first | with_reducible assumption | omega | ((try clear ih); (try clear hr); (try clear hq0); (try clear hq1); (try clear hrec); ((try simp only [inB, Rg, cellOK, bA, jlt, jeq, Int32.reduceToInt, jn1, zS_pI, zI_pI, zN_pI, Nat.reduceEqDiff, Nat.reduceAdd, Nat.reduceMul, ite_true, ite_false, and_true, true_and, and_false, false_and, true_or, or_true, false_or, or_false, not_true_eq_false, not_false_eq_true, reduceIte, reduceCtorEq, eq_self] at *) <;> (first | omega | ((try simp (disch := first | omega | (simp (disch := first | omega | (simp (disch := first | omega | (simp only [Int32.reduceToInt]; omega)) only [i32_add, i32_sub, Int32.reduceToInt]; omega)) only [i32_add, i32_sub, Int32.reduceToInt]; omega)) only [i32_add, i32_sub, Int32.reduceToInt] at *) <;> (first | omega | ((try simp (disch := first | omega | (simp (disch := first | omega | (simp (disch := first | omega | (simp only [Int32.reduceToInt]; omega)) only [i32_add, i32_sub, Int32.reduceToInt]; omega)) only [i32_add, i32_sub, Int32.reduceToInt]; omega)) only [i32_add, i32_sub, Int32.reduceToInt] at *) <;> (first | omega | ((simp only [jadd, jsub, jmul, jneg, Int32.reduceToInt] at *) <;> omega)))))))))
  | succ n ih =>
    intro s x5 K i0 i1 hm
    show Ok (f_X12_capsule_L85_b q0 y1 y2 y3 y4 (f_X12_capsule_L85 q0 y1 y2 y3 y4 n) s x5) Q
    unfold f_X12_capsule_L85_b
    repeat' (first
      | with_reducible assumption
      | (with_reducible show Ok _ _; first | dsimp only | with_reducible refine Lk_G120 (by assumption) ?_ (fun _ _ _ _ _ => ?_) | with_reducible refine Ok_gd ?_ (fun _ => ?_) | with_reducible refine Ok_vl ?_ | with_reducible refine Ok_st ?_ | with_reducible refine Ok_ift (by decide) ?_ | with_reducible refine Ok_iff (by decide) ?_ | with_reducible refine Ok_if (fun _ => ?_) (fun _ => ?_) | with_reducible refine ih _ _  ?_ ?_ ?_ ?_ | with_reducible refine hq0 _ _  ?_ ?_ ?_)
      | dsimp only
      | (with_reducible show Lk _ _; first | with_reducible refine Lk.wI ?_ (by decide) (by decide) ?_)
      | (with_reducible show S7 _ _; first | with_reducible exact S7.rf | with_reducible refine S7.p (by decide) ?_ | with_reducible refine S7.tr (by assumption) ?_)
      | with_reducible exact e7 (by assumption) (by assumption)
      | with_reducible refine And.intro ?_ ?_)
    all_goals (try (first | with_reducible assumption | exact trivial | omega | ((try clear ih); (try clear hr); (try clear hq0); (try clear hq1); (try clear hrec); ((try simp only [inB, Rg, cellOK, bA, jlt, jeq, Int32.reduceToInt, jn1, zS_pI, zI_pI, zN_pI, Nat.reduceEqDiff, Nat.reduceAdd, Nat.reduceMul, ite_true, ite_false, and_true, true_and, and_false, false_and, true_or, or_true, false_or, or_false, not_true_eq_false, not_false_eq_true, reduceIte, reduceCtorEq, eq_self] at *) <;> (first | omega | ((try simp (disch := first | omega | (simp (disch := first | omega | (simp (disch := first | omega | (simp only [Int32.reduceToInt]; omega)) only [i32_add, i32_sub, Int32.reduceToInt]; omega)) only [i32_add, i32_sub, Int32.reduceToInt]; omega)) only [i32_add, i32_sub, Int32.reduceToInt] at *) <;> (first | omega | ((try simp (disch := first | omega | (simp (disch := first | omega | (simp (disch := first | omega | (simp only [Int32.reduceToInt]; omega)) only [i32_add, i32_sub, Int32.reduceToInt]; omega)) only [i32_add, i32_sub, Int32.reduceToInt]; omega)) only [i32_add, i32_sub, Int32.reduceToInt] at *) <;> (first | omega | ((simp only [jadd, jsub, jmul, jneg, Int32.reduceToInt] at *) <;> omega))))))))))
/-! THE REFERENCE: who comes up when -/
theorem w_X12_capsule_L53 {b0 c0 : SS} {q0 : SS → Int32 → Option (Int32 × SS)} {y1 : Int32} {Q : Int32 × SS → Prop} (hq0 : ∀ (s : SS) (z0 : Int32), Lk b0 s → (1 ≤ z0.toInt ∧ z0.toInt ≤ 120) → Ok (q0 s z0) Q) : ∀ (n : Nat) (s : SS) (x2 x3 : Int32), Lk b0 s → S7 c0 s → (0 ≤ x2.toInt ∧ x2.toInt ≤ x3.toInt) → (0 ≤ x3.toInt ∧ x3.toInt ≤ 120) → (1 ≤ x2.toInt ∨ E7 c0 x3) → 120 - x3.toInt < (n : Int) → Ok (f_X12_capsule_L53 q0 y1 n s x2 x3) Q := by
  intro n
  induction n with
  | zero =>
    intro s x2 x3 K S i0 i1 e hm
    exfalso
    omega
  | succ n ih =>
    intro s x2 x3 K S i0 i1 e hm
    show Ok (f_X12_capsule_L53_b q0 y1 (f_X12_capsule_L53 q0 y1 n) s x2 x3) Q
    unfold f_X12_capsule_L53_b
    have hf : 0 ≤ (zS s 59 4).toInt ∧ (zS s 59 4).toInt ≤ 120 := K.f (q := 59) (k := 4) rfl
    with_reducible refine Ok_if (fun c => ?_) (fun c => ?_)
    · rw [Int32.lt_iff_toInt_lt] at c
      have x2n : (x2 + 1).toInt = x2.toInt + 1 := by rw [i32_add (by rw [jl1]; omega) (by rw [jl1]; omega), jl1]
      have x3n : (x3 + 1).toInt = x3.toInt + 1 := by rw [i32_add (by rw [jl1]; omega) (by rw [jl1]; omega), jl1]
      with_reducible refine Ok_gd ⟨i1.1, by omega⟩ (fun _ => ?_)
      with_reducible refine Ok_jn ?_
      with_reducible refine Ok_if (fun c2 => ?_) (fun _ => ?_)
      · with_reducible refine Ok_vl ?_
        refine ih _ _ _ K S (by omega) (by omega) ?_ (by omega)
        rcases e with e | ⟨i, h1, h2, h3⟩
        · exact Or.inl e
        · refine Or.inr ⟨i, ?_, h2, h3⟩
          have : i ≠ x3.toInt.toNat := fun z => h3 (by rw [z, ← S.1]; exact c2)
          omega
      · with_reducible refine Ok_bd ((w_X12_saysNow (b0 := b0) K (by omega)).mono (fun r h => ?_))
        obtain ⟨K', S'⟩ := h
        refine w_X12_capsule_L85 (b0 := b0) (c0 := c0) (fun s5 z K5 hz S5 => ?_) 4000 _ _ K' (by omega) (S7.tr S' S) (by omega)
        with_reducible refine Ok_gd ⟨hz.1, by omega⟩ (fun g => ?_)
        with_reducible refine Ok_st ?_
        with_reducible refine Ok_gd g (fun _ => ?_)
        with_reducible refine Ok_st ?_
        with_reducible refine Ok_vl ?_
        with_reducible refine Ok_vl ?_
        exact ih _ _ _ ((K5.wI (by decide) (by decide) (show bA 116 x3 from ⟨i1.1, by omega⟩)).wI (by decide) (by decide) trivial) (S7.p rfl (S7.p rfl S5)) (by omega) (by omega) (Or.inl (by omega)) (by omega)
    · rw [Int32.lt_iff_toInt_lt] at c
      refine hq0 s x2 K ⟨?_, by omega⟩
      rcases e with e | ⟨i, h1, h2, h3⟩
      · exact e
      · rw [← S.2] at h2
        omega
set_option maxRecDepth 4000 in
theorem w_X12_capsule_L170 {b0 : SS} {q0 : SS → Option (Int32 × SS)} {y1 : Int32} {y2 : Int32} {Q : Int32 × SS → Prop} (g0 : 0 ≤ y1.toInt ∧ y1.toInt ≤ 119) (g1 : 0 ≤ y2.toInt ∧ y2.toInt ≤ 120) (hq0 : ∀ (s : SS), Lk b0 s → Ok (q0 s) Q) : ∀ (n : Nat) (s : SS) (x3 : Int32), Lk b0 s → (0 ≤ x3.toInt ∧ x3.toInt ≤ 120) → 120 - x3.toInt < (n : Int) → Ok (f_X12_capsule_L170 q0 y1 y2 n s x3) Q := by
  intro n
  induction n with
  | zero =>
    intro s x3 K i0 hm
    exfalso
    (first | with_reducible assumption | omega | ((try clear ih); (try clear hr); (try clear hq0); (try clear hq1); (try clear hrec); ((try simp only [inB, Rg, cellOK, bA, jlt, jeq, jd20, Int32.reduceToInt, zS_pI, zI_pI, zN_pI, Nat.reduceEqDiff, Nat.reduceAdd, Nat.reduceMul, ite_true, ite_false, and_true, true_and, and_false, false_and, true_or, or_true, false_or, or_false, not_true_eq_false, not_false_eq_true, reduceIte, reduceCtorEq, eq_self] at *) <;> (first | omega | ((try simp (disch := first | omega | (simp (disch := first | omega | (simp (disch := first | omega | (simp only [jd20, Int32.reduceToInt]; omega)) only [i32_add, i32_sub, i32_mul, jd20, Int32.reduceToInt]; omega)) only [i32_add, i32_sub, i32_mul, jd20, Int32.reduceToInt]; omega)) only [i32_add, i32_sub, i32_mul, jd20, Int32.reduceToInt] at *) <;> (first | omega | ((try simp (disch := first | omega | (simp (disch := first | omega | (simp (disch := first | omega | (simp only [jd20, Int32.reduceToInt]; omega)) only [i32_add, i32_sub, i32_mul, jd20, Int32.reduceToInt]; omega)) only [i32_add, i32_sub, i32_mul, jd20, Int32.reduceToInt]; omega)) only [i32_add, i32_sub, i32_mul, jd20, Int32.reduceToInt] at *) <;> (first | omega | ((simp only [jadd, jsub, jmul, jneg, Int32.reduceToInt] at *) <;> omega)))))))))
  | succ n ih =>
    intro s x3 K i0 hm
    show Ok (f_X12_capsule_L170_b q0 y1 y2 (f_X12_capsule_L170 q0 y1 y2 n) s x3) Q
    unfold f_X12_capsule_L170_b
    repeat' (first
      | with_reducible assumption
      | (with_reducible show Ok _ _; first | dsimp only | with_reducible refine Lk_G120 (by assumption) ?_ (fun _ _ _ _ _ => ?_) | with_reducible refine Ok_gd ?_ (fun _ => ?_) | with_reducible refine Ok_vl ?_ | with_reducible refine Ok_st ?_ | with_reducible refine Ok_ift (by decide) ?_ | with_reducible refine Ok_iff (by decide) ?_ | with_reducible refine Ok_if (fun _ => ?_) (fun _ => ?_) | with_reducible refine ih _ _  ?_ ?_ ?_ | with_reducible refine hq0 _  ?_)
      | dsimp only
      | (with_reducible show Lk _ _; first | with_reducible refine Lk.wI ?_ (by decide) (by decide) ?_)
      | with_reducible refine And.intro ?_ ?_)
    all_goals (try (first | with_reducible assumption | exact trivial | omega | ((try clear ih); (try clear hr); (try clear hq0); (try clear hq1); (try clear hrec); ((try simp only [inB, Rg, cellOK, bA, jlt, jeq, jd20, Int32.reduceToInt, zS_pI, zI_pI, zN_pI, Nat.reduceEqDiff, Nat.reduceAdd, Nat.reduceMul, ite_true, ite_false, and_true, true_and, and_false, false_and, true_or, or_true, false_or, or_false, not_true_eq_false, not_false_eq_true, reduceIte, reduceCtorEq, eq_self] at *) <;> (first | omega | ((try simp (disch := first | omega | (simp (disch := first | omega | (simp (disch := first | omega | (simp only [jd20, Int32.reduceToInt]; omega)) only [i32_add, i32_sub, i32_mul, jd20, Int32.reduceToInt]; omega)) only [i32_add, i32_sub, i32_mul, jd20, Int32.reduceToInt]; omega)) only [i32_add, i32_sub, i32_mul, jd20, Int32.reduceToInt] at *) <;> (first | omega | ((try simp (disch := first | omega | (simp (disch := first | omega | (simp (disch := first | omega | (simp only [jd20, Int32.reduceToInt]; omega)) only [i32_add, i32_sub, i32_mul, jd20, Int32.reduceToInt]; omega)) only [i32_add, i32_sub, i32_mul, jd20, Int32.reduceToInt]; omega)) only [i32_add, i32_sub, i32_mul, jd20, Int32.reduceToInt] at *) <;> (first | omega | ((simp only [jadd, jsub, jmul, jneg, Int32.reduceToInt] at *) <;> omega))))))))))
set_option maxRecDepth 4000 in
theorem w_X12_capsule {b0 : SS} {s0 : SS} {a0 : Int32} (K : Lk b0 s0) : Ok (f_X12_capsule s0 a0) (fun r => Lk b0 r.2) := by
  unfold f_X12_capsule
  have f0 := kf_59_4 K
  repeat' (first
    | with_reducible assumption
    | (with_reducible show Ok _ _; first | dsimp only | with_reducible refine Ok_some ?_ | with_reducible refine Lk_G120 (by assumption) ?_ (fun _ _ _ _ _ => ?_) | with_reducible refine Ok_gd ?_ (fun _ => ?_) | with_reducible refine Ok_vl ?_ | with_reducible refine Ok_st ?_ | with_reducible refine Ok_jn ?_ | with_reducible refine Ok_b1 ?_ | with_reducible refine Ok_ift (by decide) ?_ | with_reducible refine Ok_iff (by decide) ?_ | with_reducible refine Ok_if (fun _ => ?_) (fun _ => ?_) | with_reducible refine Ok.mono (w_X12_menBelow (b0 := b0) ?_) (fun _ _ => ?_) | with_reducible refine Ok.mono (w_X12_in ) (fun _ _ => ?_) | unfold f_X12_isBody)
    | dsimp only
    | (with_reducible show Lk _ _; first | with_reducible refine Lk.wF ?_ (by decide) (by decide) (by decide) ?_)
    | (with_reducible show S7 _ _; first | with_reducible exact S7.rf | with_reducible refine S7.p (by decide) ?_ | with_reducible refine S7.tr (by assumption) ?_)
    | with_reducible exact e7 (by assumption) (by assumption)
    | with_reducible refine w_X12_capsule_L53 (b0 := b0) (c0 := s0) (fun _ _ _ _ => ?_) _ _ _ _ ?_ ?_ ?_ ?_ ?_ ?_
    | with_reducible refine w_X12_capsule_L170 (b0 := b0) ?_ ?_ (fun _ _ => ?_) _ _ _  ?_ ?_ ?_
    | with_reducible refine And.intro ?_ ?_)
  all_goals (try (first | with_reducible assumption | exact trivial | omega | ((try clear ih); (try clear hr); (try clear hq0); (try clear hq1); (try clear hrec); ((try simp only [inB, Rg, bF, jlt, jeq, Int32.reduceToInt, jn1, jn2, zS_pS, zI_pS, zN_pS, Nat.reduceEqDiff, Nat.reduceAdd, Nat.reduceMul, ite_true, ite_false, and_true, true_and, and_false, false_and, true_or, or_true, false_or, or_false, not_true_eq_false, not_false_eq_true, reduceIte, reduceCtorEq, eq_self] at *) <;> (first | omega | ((try simp (disch := first | omega | (simp (disch := first | omega | (simp (disch := first | omega | (simp only [Int32.reduceToInt]; omega)) only [i32_sub, Int32.reduceToInt]; omega)) only [i32_sub, Int32.reduceToInt]; omega)) only [i32_sub, Int32.reduceToInt] at *) <;> (first | omega | ((try simp (disch := first | omega | (simp (disch := first | omega | (simp (disch := first | omega | (simp only [Int32.reduceToInt]; omega)) only [i32_sub, Int32.reduceToInt]; omega)) only [i32_sub, Int32.reduceToInt]; omega)) only [i32_sub, Int32.reduceToInt] at *) <;> (first | omega | ((simp only [jadd, jsub, jmul, jneg, Int32.reduceToInt] at *) <;> omega))))))))))
set_option maxRecDepth 4000 in
theorem w_X12_up {b0 : SS} {s0 : SS} {a0 : Int32} {a1 : Int32} (K : Lk b0 s0) : Ok (f_X12_up s0 a0 a1) (fun _ => True) := by
  unfold f_X12_up
  have f0 := kf_59_82 K
  repeat' (first
    | with_reducible assumption
    | (with_reducible show Ok _ _; first | dsimp only | with_reducible refine Ok_some ?_ | with_reducible refine Lk_G120 (by assumption) ?_ (fun _ _ _ _ _ => ?_) | with_reducible refine Ok_gd ?_ (fun _ => ?_) | with_reducible refine Ok_b1 ?_ | with_reducible refine Ok_ift (by decide) ?_ | with_reducible refine Ok_iff (by decide) ?_ | with_reducible refine Ok_if (fun _ => ?_) (fun _ => ?_) | with_reducible refine Ok.mono (w_X12_in ) (fun _ _ => ?_))
    | dsimp only
    | with_reducible refine And.intro ?_ ?_)
  all_goals (try (first | with_reducible assumption | exact trivial | omega | ((try clear ih); (try clear hr); (try clear hq0); (try clear hq1); (try clear hrec); ((try simp only [inB, jlt, jeq, Int32.reduceToInt, jn1, Nat.reduceEqDiff, Nat.reduceAdd, Nat.reduceMul, ite_true, ite_false, and_true, true_and, and_false, false_and, true_or, or_true, false_or, or_false, not_true_eq_false, not_false_eq_true, reduceIte, reduceCtorEq, eq_self] at *) <;> (first | omega | ((try simp (disch := first | omega | (simp (disch := first | omega | (simp (disch := first | omega | (simp only [Int32.reduceToInt]; omega)) only [i32_sub, Int32.reduceToInt]; omega)) only [i32_sub, Int32.reduceToInt]; omega)) only [i32_sub, Int32.reduceToInt] at *) <;> (first | omega | ((try simp (disch := first | omega | (simp (disch := first | omega | (simp (disch := first | omega | (simp only [Int32.reduceToInt]; omega)) only [i32_sub, Int32.reduceToInt]; omega)) only [i32_sub, Int32.reduceToInt]; omega)) only [i32_sub, Int32.reduceToInt] at *) <;> (first | omega | ((simp only [jadd, jsub, jmul, jneg, Int32.reduceToInt] at *) <;> omega))))))))))
set_option maxRecDepth 4000 in
theorem w_X12_raise_L27 {b0 : SS} {y1 : Int32} {Q : Int32 × SS → Prop} (hr : ∀ v s, Lk b0 s → Q (v, s)) : ∀ (n : Nat) (s : SS) (x2 : Int32) (x3 : Int32), Lk b0 s → (0 ≤ x3.toInt ∧ x3.toInt ≤ 120) → 120 - x3.toInt < (n : Int) → Ok (f_X12_raise_L27 y1 n s x2 x3) Q := by
  intro n
  induction n with
  | zero =>
    intro s x2 x3 K i0 hm
    exfalso
    (first | with_reducible assumption | omega | ((try clear ih); (try clear hr); (try clear hq0); (try clear hq1); (try clear hrec); ((try simp only [inB, Rg, cellOK, bA, jlt, jeq, Int32.reduceToInt, zS_pI, zI_pI, zN_pI, Nat.reduceEqDiff, Nat.reduceAdd, Nat.reduceMul, ite_true, ite_false, and_true, true_and, and_false, false_and, true_or, or_true, false_or, or_false, not_true_eq_false, not_false_eq_true, reduceIte, reduceCtorEq, eq_self] at *) <;> (first | omega | ((try simp (disch := first | omega | (simp (disch := first | omega | (simp (disch := first | omega | (simp only [Int32.reduceToInt]; omega)) only [i32_add, i32_sub, Int32.reduceToInt]; omega)) only [i32_add, i32_sub, Int32.reduceToInt]; omega)) only [i32_add, i32_sub, Int32.reduceToInt] at *) <;> (first | omega | ((try simp (disch := first | omega | (simp (disch := first | omega | (simp (disch := first | omega | (simp only [Int32.reduceToInt]; omega)) only [i32_add, i32_sub, Int32.reduceToInt]; omega)) only [i32_add, i32_sub, Int32.reduceToInt]; omega)) only [i32_add, i32_sub, Int32.reduceToInt] at *) <;> (first | omega | ((simp only [jadd, jsub, jmul, jneg, Int32.reduceToInt] at *) <;> omega)))))))))
  | succ n ih =>
    intro s x2 x3 K i0 hm
    show Ok (f_X12_raise_L27_b y1 (f_X12_raise_L27 y1 n) s x2 x3) Q
    unfold f_X12_raise_L27_b
    have f0 := kf_59_82 K
    repeat' (first
      | with_reducible assumption
      | (with_reducible show Ok _ _; first | dsimp only | with_reducible refine Ok_some ?_ | with_reducible refine Lk_G120 (by assumption) ?_ (fun _ _ _ _ _ => ?_) | with_reducible refine Ok_gd ?_ (fun _ => ?_) | with_reducible refine Ok_vl ?_ | with_reducible refine Ok_st ?_ | with_reducible refine Ok_jn ?_ | with_reducible refine Ok_ift (by decide) ?_ | with_reducible refine Ok_iff (by decide) ?_ | with_reducible refine Ok_if (fun _ => ?_) (fun _ => ?_) | with_reducible refine ih _ _ _  ?_ ?_ ?_)
      | dsimp only
      | (with_reducible show Lk _ _; first | with_reducible refine Lk.wI ?_ (by decide) (by decide) ?_)
      | with_reducible refine hr _ _ ?_
      | with_reducible refine And.intro ?_ ?_)
    all_goals (try (first | with_reducible assumption | exact trivial | omega | ((try clear ih); (try clear hr); (try clear hq0); (try clear hq1); (try clear hrec); ((try simp only [inB, Rg, cellOK, bA, jlt, jeq, Int32.reduceToInt, zS_pI, zI_pI, zN_pI, Nat.reduceEqDiff, Nat.reduceAdd, Nat.reduceMul, ite_true, ite_false, and_true, true_and, and_false, false_and, true_or, or_true, false_or, or_false, not_true_eq_false, not_false_eq_true, reduceIte, reduceCtorEq, eq_self] at *) <;> (first | omega | ((try simp (disch := first | omega | (simp (disch := first | omega | (simp (disch := first | omega | (simp only [Int32.reduceToInt]; omega)) only [i32_add, i32_sub, Int32.reduceToInt]; omega)) only [i32_add, i32_sub, Int32.reduceToInt]; omega)) only [i32_add, i32_sub, Int32.reduceToInt] at *) <;> (first | omega | ((try simp (disch := first | omega | (simp (disch := first | omega | (simp (disch := first | omega | (simp only [Int32.reduceToInt]; omega)) only [i32_add, i32_sub, Int32.reduceToInt]; omega)) only [i32_add, i32_sub, Int32.reduceToInt]; omega)) only [i32_add, i32_sub, Int32.reduceToInt] at *) <;> (first | omega | ((simp only [jadd, jsub, jmul, jneg, Int32.reduceToInt] at *) <;> omega))))))))))
set_option maxRecDepth 4000 in
theorem w_X12_raise {b0 : SS} {s0 : SS} {a0 : Int32} (K : Lk b0 s0) : Ok (f_X12_raise s0 a0) (fun r => Lk b0 r.2) := by
  unfold f_X12_raise
  have f0 := kf_59_82 K
  repeat' (first
    | with_reducible assumption
    | (with_reducible show Ok _ _; first | dsimp only | with_reducible refine Ok_some ?_ | with_reducible refine Ok_b1 ?_ | with_reducible refine Ok_ift (by decide) ?_ | with_reducible refine Ok_iff (by decide) ?_ | with_reducible refine Ok_if (fun _ => ?_) (fun _ => ?_) | with_reducible refine Ok.mono (w_X12_in ) (fun _ _ => ?_))
    | dsimp only
    | with_reducible refine w_X12_raise_L27 (b0 := b0) (fun _ _ _ => ?_) _ _ _ _  ?_ ?_ ?_
    | with_reducible refine And.intro ?_ ?_)
  all_goals (try (first | with_reducible assumption | exact trivial | omega | ((try clear ih); (try clear hr); (try clear hq0); (try clear hq1); (try clear hrec); ((try simp only [inB, jlt, jeq, Int32.reduceToInt, jn1, jn2, Nat.reduceEqDiff, Nat.reduceAdd, Nat.reduceMul, ite_true, ite_false, and_true, true_and, and_false, false_and, true_or, or_true, false_or, or_false, not_true_eq_false, not_false_eq_true, reduceIte, reduceCtorEq, eq_self] at *) <;> (first | omega | ((try simp (disch := first | omega | (simp (disch := first | omega | (simp (disch := first | omega | (simp only [Int32.reduceToInt]; omega)) only [i32_sub, Int32.reduceToInt]; omega)) only [i32_sub, Int32.reduceToInt]; omega)) only [i32_sub, Int32.reduceToInt] at *) <;> (first | omega | ((try simp (disch := first | omega | (simp (disch := first | omega | (simp (disch := first | omega | (simp only [Int32.reduceToInt]; omega)) only [i32_sub, Int32.reduceToInt]; omega)) only [i32_sub, Int32.reduceToInt]; omega)) only [i32_sub, Int32.reduceToInt] at *) <;> (first | omega | ((simp only [jadd, jsub, jmul, jneg, Int32.reduceToInt] at *) <;> omega))))))))))
set_option maxRecDepth 4000 in
theorem w_X12_ran {b0 : SS} {s0 : SS} {a0 : Int32} (K : Lk b0 s0) (g0 : 0 ≤ (zS s0 59 87).toInt ∧ (zS s0 59 87).toInt + 1 ≤ 100000) : Ok (f_X12_ran s0 a0) (fun r => Lk b0 r ∧ (0 ≤ (zS r 59 87).toInt ∧ (zS r 59 87).toInt ≤ (zS s0 59 87).toInt + 1)) := by
  unfold f_X12_ran
  repeat' (first
    | with_reducible assumption
    | (with_reducible show Ok _ _; first | dsimp only | with_reducible refine Ok_some ?_ | with_reducible refine Ok_gd ?_ (fun _ => ?_) | with_reducible refine Ok_vl ?_ | with_reducible refine Ok_st ?_ | with_reducible refine Ok_jn ?_ | with_reducible refine Ok_ift (by decide) ?_ | with_reducible refine Ok_iff (by decide) ?_ | with_reducible refine Ok_if (fun _ => ?_) (fun _ => ?_))
    | dsimp only
    | (with_reducible show Lk _ _; first | with_reducible refine Lk.wI ?_ (by decide) (by decide) ?_ | with_reducible refine Lk.wF ?_ (by decide) (by decide) (by decide) ?_)
    | with_reducible refine And.intro ?_ ?_)
  all_goals (try (first | with_reducible assumption | exact trivial | omega | ((try clear ih); (try clear hr); (try clear hq0); (try clear hq1); (try clear hrec); ((try simp only [inB, Rg, cellOK, bF, bA, jlt, jeq, Int32.reduceToInt, zS_pS, zS_pI, zI_pI, zI_pS, zN_pS, zN_pI, Nat.reduceEqDiff, Nat.reduceAdd, Nat.reduceMul, ite_true, ite_false, and_true, true_and, and_false, false_and, true_or, or_true, false_or, or_false, not_true_eq_false, not_false_eq_true, reduceIte, reduceCtorEq, eq_self] at *) <;> (first | omega | ((try simp (disch := first | omega | (simp (disch := first | omega | (simp (disch := first | omega | (simp only [Int32.reduceToInt]; omega)) only [i32_add, Int32.reduceToInt]; omega)) only [i32_add, Int32.reduceToInt]; omega)) only [i32_add, Int32.reduceToInt] at *) <;> (first | omega | ((try simp (disch := first | omega | (simp (disch := first | omega | (simp (disch := first | omega | (simp only [Int32.reduceToInt]; omega)) only [i32_add, Int32.reduceToInt]; omega)) only [i32_add, Int32.reduceToInt]; omega)) only [i32_add, Int32.reduceToInt] at *) <;> (first | omega | ((simp only [jadd, jsub, jmul, jneg, Int32.reduceToInt] at *) <;> omega))))))))))
set_option maxRecDepth 4000 in
theorem w_X12_plainBores {b0 : SS} {s0 : SS} {a0 : Int32} {a1 : Int32} (K : Lk b0 s0) (g0 : 0 ≤ a0.toInt ∧ a0.toInt ≤ 119) (g1 : 0 ≤ (zS s0 59 87).toInt ∧ (zS s0 59 87).toInt + 1 ≤ 100000) : Ok (f_X12_plainBores s0 a0 a1) (fun r => Lk b0 r.2 ∧ (0 ≤ (zS r.2 59 87).toInt ∧ (zS r.2 59 87).toInt ≤ (zS s0 59 87).toInt + 1)) := by
  unfold f_X12_plainBores
  repeat' (first
    | with_reducible assumption
    | (with_reducible show Ok _ _; first | dsimp only | with_reducible refine Ok_some ?_ | with_reducible refine Ok_b1 ?_ | with_reducible refine Ok.mono (w_X12_ran (b0 := b0) ?_ ?_) (fun _ ⟨_, _⟩ => ?_))
    | dsimp only
    | with_reducible refine And.intro ?_ ?_)
  all_goals (try (first | with_reducible assumption | exact trivial | omega | ((try clear ih); (try clear hr); (try clear hq0); (try clear hq1); (try clear hrec); ((try simp only [inB, jlt, jeq, Int32.reduceToInt, Nat.reduceEqDiff, Nat.reduceAdd, Nat.reduceMul, ite_true, ite_false, and_true, true_and, and_false, false_and, true_or, or_true, false_or, or_false, not_true_eq_false, not_false_eq_true, reduceIte, reduceCtorEq, eq_self] at *) <;> (first | omega | ((try simp (disch := first | omega | (simp (disch := first | omega | (simp (disch := first | omega | (simp only [Int32.reduceToInt]; omega)) only [i32_add, Int32.reduceToInt]; omega)) only [i32_add, Int32.reduceToInt]; omega)) only [i32_add, Int32.reduceToInt] at *) <;> (first | omega | ((try simp (disch := first | omega | (simp (disch := first | omega | (simp (disch := first | omega | (simp only [Int32.reduceToInt]; omega)) only [i32_add, Int32.reduceToInt]; omega)) only [i32_add, Int32.reduceToInt]; omega)) only [i32_add, Int32.reduceToInt] at *) <;> (first | omega | ((simp only [jadd, jsub, jmul, jneg, Int32.reduceToInt] at *) <;> omega))))))))))
set_option maxRecDepth 4000 in
theorem w_X12_wayBores {b0 : SS} {s0 : SS} {a0 : Int32} {a1 : Int32} (K : Lk b0 s0) (g0 : 0 ≤ a0.toInt ∧ a0.toInt ≤ 119) (g1 : 0 ≤ (zS s0 59 87).toInt ∧ (zS s0 59 87).toInt + 2 ≤ 100000) : Ok (f_X12_wayBores s0 a0 a1) (fun r => Lk b0 r.2 ∧ (0 ≤ (zS r.2 59 87).toInt ∧ (zS r.2 59 87).toInt ≤ (zS s0 59 87).toInt + 2)) := by
  unfold f_X12_wayBores
  repeat' (first
    | with_reducible assumption
    | (with_reducible show Ok _ _; first | dsimp only | with_reducible refine Ok_some ?_ | with_reducible refine Ok_b1 ?_ | with_reducible refine Ok_bd ?_ | with_reducible refine Ok.mono (w_X12_ran (b0 := b0) ?_ ?_) (fun _ ⟨_, _⟩ => ?_) | with_reducible refine Ok.mono (w_X12_plainBores (b0 := b0) ?_ ?_ ?_) (fun _ ⟨_, _⟩ => ?_))
    | dsimp only
    | with_reducible refine And.intro ?_ ?_)
  all_goals (try (first | with_reducible assumption | exact trivial | omega | ((try clear ih); (try clear hr); (try clear hq0); (try clear hq1); (try clear hrec); ((try simp only [inB, jlt, jeq, Int32.reduceToInt, Nat.reduceEqDiff, Nat.reduceAdd, Nat.reduceMul, ite_true, ite_false, and_true, true_and, and_false, false_and, true_or, or_true, false_or, or_false, not_true_eq_false, not_false_eq_true, reduceIte, reduceCtorEq, eq_self] at *) <;> (first | omega | ((try simp (disch := first | omega | (simp (disch := first | omega | (simp (disch := first | omega | (simp only [Int32.reduceToInt]; omega)) only [i32_add, i32_mul, Int32.reduceToInt]; omega)) only [i32_add, i32_mul, Int32.reduceToInt]; omega)) only [i32_add, i32_mul, Int32.reduceToInt] at *) <;> (first | omega | ((try simp (disch := first | omega | (simp (disch := first | omega | (simp (disch := first | omega | (simp only [Int32.reduceToInt]; omega)) only [i32_add, i32_mul, Int32.reduceToInt]; omega)) only [i32_add, i32_mul, Int32.reduceToInt]; omega)) only [i32_add, i32_mul, Int32.reduceToInt] at *) <;> (first | omega | ((simp only [jadd, jsub, jmul, jneg, Int32.reduceToInt] at *) <;> omega))))))))))
set_option maxRecDepth 4000 in
theorem w_X12_shaftBores {b0 : SS} {s0 : SS} {a0 : Int32} {a1 : Int32} (K : Lk b0 s0) (g0 : 0 ≤ a0.toInt ∧ a0.toInt ≤ 119) (g1 : 0 ≤ (zS s0 59 87).toInt ∧ (zS s0 59 87).toInt + 3 ≤ 100000) : Ok (f_X12_shaftBores s0 a0 a1) (fun r => Lk b0 r.2 ∧ (0 ≤ (zS r.2 59 87).toInt ∧ (zS r.2 59 87).toInt ≤ (zS s0 59 87).toInt + 3)) := by
  unfold f_X12_shaftBores
  repeat' (first
    | with_reducible assumption
    | (with_reducible show Ok _ _; first | dsimp only | with_reducible refine Ok_some ?_ | with_reducible refine Ok_b1 ?_ | with_reducible refine Ok_bd ?_ | with_reducible refine Ok.mono (w_X12_ran (b0 := b0) ?_ ?_) (fun _ ⟨_, _⟩ => ?_) | with_reducible refine Ok.mono (w_X12_wayBores (b0 := b0) ?_ ?_ ?_) (fun _ ⟨_, _⟩ => ?_))
    | dsimp only
    | with_reducible refine And.intro ?_ ?_)
  all_goals (try (first | with_reducible assumption | exact trivial | omega | ((try clear ih); (try clear hr); (try clear hq0); (try clear hq1); (try clear hrec); ((try simp only [inB, jlt, jeq, Int32.reduceToInt, Nat.reduceEqDiff, Nat.reduceAdd, Nat.reduceMul, ite_true, ite_false, and_true, true_and, and_false, false_and, true_or, or_true, false_or, or_false, not_true_eq_false, not_false_eq_true, reduceIte, reduceCtorEq, eq_self] at *) <;> (first | omega | ((try simp (disch := first | omega | (simp (disch := first | omega | (simp (disch := first | omega | (simp only [Int32.reduceToInt]; omega)) only [i32_add, Int32.reduceToInt]; omega)) only [i32_add, Int32.reduceToInt]; omega)) only [i32_add, Int32.reduceToInt] at *) <;> (first | omega | ((try simp (disch := first | omega | (simp (disch := first | omega | (simp (disch := first | omega | (simp only [Int32.reduceToInt]; omega)) only [i32_add, Int32.reduceToInt]; omega)) only [i32_add, Int32.reduceToInt]; omega)) only [i32_add, Int32.reduceToInt] at *) <;> (first | omega | ((simp only [jadd, jsub, jmul, jneg, Int32.reduceToInt] at *) <;> omega))))))))))
set_option maxRecDepth 4000 in
theorem w_X12_bores {b0 : SS} {s0 : SS} {a0 : Int32} {a1 : Int32} (K : Lk b0 s0) (g0 : 0 ≤ a0.toInt ∧ a0.toInt ≤ 119) (g1 : 0 ≤ (zS s0 59 87).toInt ∧ (zS s0 59 87).toInt + 4 ≤ 100000) : Ok (f_X12_bores s0 a0 a1) (fun r => Lk b0 r.2 ∧ (0 ≤ (zS r.2 59 87).toInt ∧ (zS r.2 59 87).toInt ≤ (zS s0 59 87).toInt + 4)) := by
  unfold f_X12_bores
  repeat' (first
    | with_reducible assumption
    | (with_reducible show Ok _ _; first | dsimp only | with_reducible refine Ok_some ?_ | with_reducible refine Lk_G120 (by assumption) ?_ (fun _ _ _ _ _ => ?_) | with_reducible refine Ok_gd ?_ (fun _ => ?_) | with_reducible refine Ok_b1 ?_ | with_reducible refine Ok_bd ?_ | with_reducible refine Ok_ift (by decide) ?_ | with_reducible refine Ok_iff (by decide) ?_ | with_reducible refine Ok_if (fun _ => ?_) (fun _ => ?_) | with_reducible refine Ok.mono (w_X12_ran (b0 := b0) ?_ ?_) (fun _ ⟨_, _⟩ => ?_) | with_reducible refine Ok.mono (w_X12_shaftBores (b0 := b0) ?_ ?_ ?_) (fun _ ⟨_, _⟩ => ?_) | with_reducible refine Ok.mono (w_X12_isUnder ) (fun _ _ => ?_) | with_reducible refine Ok.mono (w_X12_plainBores (b0 := b0) ?_ ?_ ?_) (fun _ ⟨_, _⟩ => ?_) | with_reducible refine Ok.mono (w_X12_wayBores (b0 := b0) ?_ ?_ ?_) (fun _ ⟨_, _⟩ => ?_))
    | dsimp only
    | with_reducible refine And.intro ?_ ?_)
  all_goals (try (first | with_reducible assumption | exact trivial | omega | ((try clear ih); (try clear hr); (try clear hq0); (try clear hq1); (try clear hrec); ((try simp only [inB, jlt, jeq, Int32.reduceToInt, Nat.reduceEqDiff, Nat.reduceAdd, Nat.reduceMul, ite_true, ite_false, and_true, true_and, and_false, false_and, true_or, or_true, false_or, or_false, not_true_eq_false, not_false_eq_true, reduceIte, reduceCtorEq, eq_self] at *) <;> (first | omega | ((try simp (disch := first | omega | (simp (disch := first | omega | (simp (disch := first | omega | (simp only [Int32.reduceToInt]; omega)) only [i32_add, Int32.reduceToInt]; omega)) only [i32_add, Int32.reduceToInt]; omega)) only [i32_add, Int32.reduceToInt] at *) <;> (first | omega | ((try simp (disch := first | omega | (simp (disch := first | omega | (simp (disch := first | omega | (simp only [Int32.reduceToInt]; omega)) only [i32_add, Int32.reduceToInt]; omega)) only [i32_add, Int32.reduceToInt]; omega)) only [i32_add, Int32.reduceToInt] at *) <;> (first | omega | ((simp only [jadd, jsub, jmul, jneg, Int32.reduceToInt] at *) <;> omega))))))))))
set_option maxRecDepth 4000 in
theorem w_X12_plainCarries {b0 : SS} {s0 : SS} {a0 : Int32} {a1 : Int32} (K : Lk b0 s0) (g0 : 0 ≤ a0.toInt ∧ a0.toInt ≤ 119) (g1 : 0 ≤ (zS s0 59 87).toInt ∧ (zS s0 59 87).toInt + 5 ≤ 100000) : Ok (f_X12_plainCarries s0 a0 a1) (fun r => Lk b0 r.2 ∧ (0 ≤ (zS r.2 59 87).toInt ∧ (zS r.2 59 87).toInt ≤ (zS s0 59 87).toInt + 5)) := by
  unfold f_X12_plainCarries
  repeat' (first
    | with_reducible assumption
    | (with_reducible show Ok _ _; first | dsimp only | with_reducible refine Ok_some ?_ | with_reducible refine Ok_b1 ?_ | with_reducible refine Ok_bd ?_ | with_reducible refine Ok.mono (w_X12_ran (b0 := b0) ?_ ?_) (fun _ ⟨_, _⟩ => ?_) | with_reducible refine Ok.mono (w_X12_bores (b0 := b0) ?_ ?_ ?_) (fun _ ⟨_, _⟩ => ?_))
    | dsimp only
    | with_reducible refine And.intro ?_ ?_)
  all_goals (try (first | with_reducible assumption | exact trivial | omega | ((try clear ih); (try clear hr); (try clear hq0); (try clear hq1); (try clear hrec); ((try simp only [inB, jlt, jeq, Int32.reduceToInt, Nat.reduceEqDiff, Nat.reduceAdd, Nat.reduceMul, ite_true, ite_false, and_true, true_and, and_false, false_and, true_or, or_true, false_or, or_false, not_true_eq_false, not_false_eq_true, reduceIte, reduceCtorEq, eq_self] at *) <;> (first | omega | ((try simp (disch := first | omega | (simp (disch := first | omega | (simp (disch := first | omega | (simp only [Int32.reduceToInt]; omega)) only [i32_add, i32_sub, Int32.reduceToInt]; omega)) only [i32_add, i32_sub, Int32.reduceToInt]; omega)) only [i32_add, i32_sub, Int32.reduceToInt] at *) <;> (first | omega | ((try simp (disch := first | omega | (simp (disch := first | omega | (simp (disch := first | omega | (simp only [Int32.reduceToInt]; omega)) only [i32_add, i32_sub, Int32.reduceToInt]; omega)) only [i32_add, i32_sub, Int32.reduceToInt]; omega)) only [i32_add, i32_sub, Int32.reduceToInt] at *) <;> (first | omega | ((simp only [jadd, jsub, jmul, jneg, Int32.reduceToInt] at *) <;> omega))))))))))
set_option maxRecDepth 4000 in
theorem w_X12_carries {b0 : SS} {s0 : SS} {a0 : Int32} {a1 : Int32} (K : Lk b0 s0) (g0 : 0 ≤ a0.toInt ∧ a0.toInt ≤ 119) (g1 : 0 ≤ (zS s0 59 87).toInt ∧ (zS s0 59 87).toInt + 6 ≤ 100000) : Ok (f_X12_carries s0 a0 a1) (fun r => Lk b0 r.2 ∧ (0 ≤ (zS r.2 59 87).toInt ∧ (zS r.2 59 87).toInt ≤ (zS s0 59 87).toInt + 6)) := by
  unfold f_X12_carries
  repeat' (first
    | with_reducible assumption
    | (with_reducible show Ok _ _; first | dsimp only | with_reducible refine Ok_some ?_ | with_reducible refine Lk_G120 (by assumption) ?_ (fun _ _ _ _ _ => ?_) | with_reducible refine Ok_gd ?_ (fun _ => ?_) | with_reducible refine Ok_b1 ?_ | with_reducible refine Ok_bd ?_ | with_reducible refine Ok_ift (by decide) ?_ | with_reducible refine Ok_iff (by decide) ?_ | with_reducible refine Ok_if (fun _ => ?_) (fun _ => ?_) | with_reducible refine Ok.mono (w_X12_isUnder ) (fun _ _ => ?_) | with_reducible refine Ok.mono (w_X12_ran (b0 := b0) ?_ ?_) (fun _ ⟨_, _⟩ => ?_) | with_reducible refine Ok.mono (w_X12_plainCarries (b0 := b0) ?_ ?_ ?_) (fun _ ⟨_, _⟩ => ?_))
    | dsimp only
    | with_reducible refine And.intro ?_ ?_)
  all_goals (try (first | with_reducible assumption | exact trivial | omega | ((try clear ih); (try clear hr); (try clear hq0); (try clear hq1); (try clear hrec); ((try simp only [inB, jlt, jeq, Int32.reduceToInt, Nat.reduceEqDiff, Nat.reduceAdd, Nat.reduceMul, ite_true, ite_false, and_true, true_and, and_false, false_and, true_or, or_true, false_or, or_false, not_true_eq_false, not_false_eq_true, reduceIte, reduceCtorEq, eq_self] at *) <;> (first | omega | ((try simp (disch := first | omega | (simp (disch := first | omega | (simp (disch := first | omega | (simp only [Int32.reduceToInt]; omega)) only [i32_add, i32_sub, Int32.reduceToInt]; omega)) only [i32_add, i32_sub, Int32.reduceToInt]; omega)) only [i32_add, i32_sub, Int32.reduceToInt] at *) <;> (first | omega | ((try simp (disch := first | omega | (simp (disch := first | omega | (simp (disch := first | omega | (simp only [Int32.reduceToInt]; omega)) only [i32_add, i32_sub, Int32.reduceToInt]; omega)) only [i32_add, i32_sub, Int32.reduceToInt]; omega)) only [i32_add, i32_sub, Int32.reduceToInt] at *) <;> (first | omega | ((simp only [jadd, jsub, jmul, jneg, Int32.reduceToInt] at *) <;> omega))))))))))
set_option maxRecDepth 4000 in
theorem w_X12_plainHolds {b0 : SS} {s0 : SS} {a0 : Int32} {a1 : Int32} (K : Lk b0 s0) (g0 : 0 ≤ a0.toInt ∧ a0.toInt ≤ 119) (g1 : 0 ≤ (zS s0 59 87).toInt ∧ (zS s0 59 87).toInt + 1 ≤ 100000) : Ok (f_X12_plainHolds s0 a0 a1) (fun r => Lk b0 r.2 ∧ (0 ≤ (zS r.2 59 87).toInt ∧ (zS r.2 59 87).toInt ≤ (zS s0 59 87).toInt + 1)) := by
  unfold f_X12_plainHolds
  repeat' (first
    | with_reducible assumption
    | (with_reducible show Ok _ _; first | dsimp only | with_reducible refine Ok_some ?_ | with_reducible refine Ok_b1 ?_ | with_reducible refine Ok.mono (w_X12_ran (b0 := b0) ?_ ?_) (fun _ ⟨_, _⟩ => ?_))
    | dsimp only
    | with_reducible refine And.intro ?_ ?_)
  all_goals (try (first | with_reducible assumption | exact trivial | omega | ((try clear ih); (try clear hr); (try clear hq0); (try clear hq1); (try clear hrec); ((try simp only [inB, jlt, jeq, Int32.reduceToInt, Nat.reduceEqDiff, Nat.reduceAdd, Nat.reduceMul, ite_true, ite_false, and_true, true_and, and_false, false_and, true_or, or_true, false_or, or_false, not_true_eq_false, not_false_eq_true, reduceIte, reduceCtorEq, eq_self] at *) <;> (first | omega | ((try simp (disch := first | omega | (simp (disch := first | omega | (simp (disch := first | omega | (simp only [Int32.reduceToInt]; omega)) only [i32_add, Int32.reduceToInt]; omega)) only [i32_add, Int32.reduceToInt]; omega)) only [i32_add, Int32.reduceToInt] at *) <;> (first | omega | ((try simp (disch := first | omega | (simp (disch := first | omega | (simp (disch := first | omega | (simp only [Int32.reduceToInt]; omega)) only [i32_add, Int32.reduceToInt]; omega)) only [i32_add, Int32.reduceToInt]; omega)) only [i32_add, Int32.reduceToInt] at *) <;> (first | omega | ((simp only [jadd, jsub, jmul, jneg, Int32.reduceToInt] at *) <;> omega))))))))))
set_option maxRecDepth 4000 in
theorem w_X12_holdsBy {b0 : SS} {s0 : SS} {a0 : Int32} {a1 : Int32} (K : Lk b0 s0) (g0 : 0 ≤ a0.toInt ∧ a0.toInt ≤ 119) (g1 : 0 ≤ (zS s0 59 87).toInt ∧ (zS s0 59 87).toInt + 8 ≤ 100000) : Ok (f_X12_holdsBy s0 a0 a1) (fun r => Lk b0 r.2 ∧ (0 ≤ (zS r.2 59 87).toInt ∧ (zS r.2 59 87).toInt ≤ (zS s0 59 87).toInt + 8)) := by
  unfold f_X12_holdsBy
  repeat' (first
    | with_reducible assumption
    | (with_reducible show Ok _ _; first | dsimp only | with_reducible refine Ok_some ?_ | with_reducible refine Lk_G120 (by assumption) ?_ (fun _ _ _ _ _ => ?_) | with_reducible refine Lk_G60 (by assumption) ?_ (fun _ _ => ?_) | with_reducible refine Lk_G40 (by assumption) ?_ (fun _ _ => ?_) | with_reducible refine Ok_gd ?_ (fun _ => ?_) | with_reducible refine Ok_jn ?_ | with_reducible refine Ok_b1 ?_ | with_reducible refine Ok_bd ?_ | with_reducible refine Ok_ift (by decide) ?_ | with_reducible refine Ok_iff (by decide) ?_ | with_reducible refine Ok_if (fun _ => ?_) (fun _ => ?_) | with_reducible refine Ok.mono (w_X12_plainHolds (b0 := b0) ?_ ?_ ?_) (fun _ ⟨_, _⟩ => ?_) | with_reducible refine Ok.mono (w_X12_ran (b0 := b0) ?_ ?_) (fun _ ⟨_, _⟩ => ?_) | with_reducible refine Ok.mono (w_X12_carries (b0 := b0) ?_ ?_ ?_) (fun _ ⟨_, _⟩ => ?_) | with_reducible refine Ok.mono (w_X12_plainCarries (b0 := b0) ?_ ?_ ?_) (fun _ ⟨_, _⟩ => ?_))
    | dsimp only
    | with_reducible refine And.intro ?_ ?_)
  all_goals (try (first | with_reducible assumption | exact trivial | omega | ((try clear ih); (try clear hr); (try clear hq0); (try clear hq1); (try clear hrec); ((try simp only [inB, jlt, jeq, Int32.reduceToInt, Nat.reduceEqDiff, Nat.reduceAdd, Nat.reduceMul, ite_true, ite_false, and_true, true_and, and_false, false_and, true_or, or_true, false_or, or_false, not_true_eq_false, not_false_eq_true, reduceIte, reduceCtorEq, eq_self] at *) <;> (first | omega | ((try simp (disch := first | omega | (simp (disch := first | omega | (simp (disch := first | omega | (simp only [Int32.reduceToInt]; omega)) only [i32_add, i32_sub, Int32.reduceToInt]; omega)) only [i32_add, i32_sub, Int32.reduceToInt]; omega)) only [i32_add, i32_sub, Int32.reduceToInt] at *) <;> (first | omega | ((try simp (disch := first | omega | (simp (disch := first | omega | (simp (disch := first | omega | (simp only [Int32.reduceToInt]; omega)) only [i32_add, i32_sub, Int32.reduceToInt]; omega)) only [i32_add, i32_sub, Int32.reduceToInt]; omega)) only [i32_add, i32_sub, Int32.reduceToInt] at *) <;> (first | omega | ((simp only [jadd, jsub, jmul, jneg, Int32.reduceToInt] at *) <;> omega))))))))))
set_option maxRecDepth 4000 in
theorem w_X12_plainTells {b0 : SS} {s0 : SS} {a0 : Int32} {a1 : Int32} (K : Lk b0 s0) (g0 : 0 ≤ a0.toInt ∧ a0.toInt ≤ 119) (g1 : 0 ≤ (zS s0 59 87).toInt ∧ (zS s0 59 87).toInt + 15 ≤ 100000) : Ok (f_X12_plainTells s0 a0 a1) (fun r => Lk b0 r.2 ∧ (0 ≤ (zS r.2 59 87).toInt ∧ (zS r.2 59 87).toInt ≤ (zS s0 59 87).toInt + 15)) := by
  unfold f_X12_plainTells
  repeat' (first
    | with_reducible assumption
    | (with_reducible show Ok _ _; first | dsimp only | with_reducible refine Ok_some ?_ | with_reducible refine Ok_b1 ?_ | with_reducible refine Ok_bd ?_ | with_reducible refine Ok.mono (w_X12_ran (b0 := b0) ?_ ?_) (fun _ ⟨_, _⟩ => ?_) | with_reducible refine Ok.mono (w_X12_carries (b0 := b0) ?_ ?_ ?_) (fun _ ⟨_, _⟩ => ?_) | with_reducible refine Ok.mono (w_X12_holdsBy (b0 := b0) ?_ ?_ ?_) (fun _ ⟨_, _⟩ => ?_))
    | dsimp only
    | with_reducible refine And.intro ?_ ?_)
  all_goals (try (first | with_reducible assumption | exact trivial | omega | ((try clear ih); (try clear hr); (try clear hq0); (try clear hq1); (try clear hrec); ((try simp only [inB, jlt, jeq, Int32.reduceToInt, Nat.reduceEqDiff, Nat.reduceAdd, Nat.reduceMul, ite_true, ite_false, and_true, true_and, and_false, false_and, true_or, or_true, false_or, or_false, not_true_eq_false, not_false_eq_true, reduceIte, reduceCtorEq, eq_self] at *) <;> (first | omega | ((try simp (disch := first | omega | (simp (disch := first | omega | (simp (disch := first | omega | (simp only [Int32.reduceToInt]; omega)) only [i32_add, Int32.reduceToInt]; omega)) only [i32_add, Int32.reduceToInt]; omega)) only [i32_add, Int32.reduceToInt] at *) <;> (first | omega | ((try simp (disch := first | omega | (simp (disch := first | omega | (simp (disch := first | omega | (simp only [Int32.reduceToInt]; omega)) only [i32_add, Int32.reduceToInt]; omega)) only [i32_add, Int32.reduceToInt]; omega)) only [i32_add, Int32.reduceToInt] at *) <;> (first | omega | ((simp only [jadd, jsub, jmul, jneg, Int32.reduceToInt] at *) <;> omega))))))))))
set_option maxRecDepth 4000 in
theorem w_X12_tells {b0 : SS} {s0 : SS} {a0 : Int32} {a1 : Int32} (K : Lk b0 s0) (g0 : 0 ≤ a0.toInt ∧ a0.toInt ≤ 119) (g1 : 0 ≤ (zS s0 59 87).toInt ∧ (zS s0 59 87).toInt + 16 ≤ 100000) : Ok (f_X12_tells s0 a0 a1) (fun r => Lk b0 r.2 ∧ (0 ≤ (zS r.2 59 87).toInt ∧ (zS r.2 59 87).toInt ≤ (zS s0 59 87).toInt + 16)) := by
  unfold f_X12_tells
  repeat' (first
    | with_reducible assumption
    | (with_reducible show Ok _ _; first | dsimp only | with_reducible refine Ok_some ?_ | with_reducible refine Lk_G120 (by assumption) ?_ (fun _ _ _ _ _ => ?_) | with_reducible refine Ok_gd ?_ (fun _ => ?_) | with_reducible refine Ok_b1 ?_ | with_reducible refine Ok_bd ?_ | with_reducible refine Ok_ift (by decide) ?_ | with_reducible refine Ok_iff (by decide) ?_ | with_reducible refine Ok_if (fun _ => ?_) (fun _ => ?_) | with_reducible refine Ok.mono (w_X12_isUnder ) (fun _ _ => ?_) | with_reducible refine Ok.mono (w_X12_plainTells (b0 := b0) ?_ ?_ ?_) (fun _ ⟨_, _⟩ => ?_) | with_reducible refine Ok.mono (w_X12_ran (b0 := b0) ?_ ?_) (fun _ ⟨_, _⟩ => ?_))
    | dsimp only
    | with_reducible refine And.intro ?_ ?_)
  all_goals (try (first | with_reducible assumption | exact trivial | omega | ((try clear ih); (try clear hr); (try clear hq0); (try clear hq1); (try clear hrec); ((try simp only [inB, jlt, jeq, Int32.reduceToInt, Nat.reduceEqDiff, Nat.reduceAdd, Nat.reduceMul, ite_true, ite_false, and_true, true_and, and_false, false_and, true_or, or_true, false_or, or_false, not_true_eq_false, not_false_eq_true, reduceIte, reduceCtorEq, eq_self] at *) <;> (first | omega | ((try simp (disch := first | omega | (simp (disch := first | omega | (simp (disch := first | omega | (simp only [Int32.reduceToInt]; omega)) only [i32_add, i32_mul, Int32.reduceToInt]; omega)) only [i32_add, i32_mul, Int32.reduceToInt]; omega)) only [i32_add, i32_mul, Int32.reduceToInt] at *) <;> (first | omega | ((try simp (disch := first | omega | (simp (disch := first | omega | (simp (disch := first | omega | (simp only [Int32.reduceToInt]; omega)) only [i32_add, i32_mul, Int32.reduceToInt]; omega)) only [i32_add, i32_mul, Int32.reduceToInt]; omega)) only [i32_add, i32_mul, Int32.reduceToInt] at *) <;> (first | omega | ((simp only [jadd, jsub, jmul, jneg, Int32.reduceToInt] at *) <;> omega))))))))))
set_option maxRecDepth 4000 in
theorem w_X12_act {b0 : SS} {s0 : SS} {a0 : Int32} {a1 : Int32} {a2 : Int32} (K : Lk b0 s0) : Ok (f_X12_act s0 a0 a1 a2) (fun r => Lk b0 r.2) := by
  unfold f_X12_act
  have f0 := kf_59_4 K
  repeat' (first
    | with_reducible assumption
    | (with_reducible show Ok _ _; first | dsimp only | with_reducible refine Ok_some ?_ | with_reducible refine Ok_st ?_ | with_reducible refine Ok_b1 ?_ | with_reducible refine Ok_bd ?_ | with_reducible refine Ok_ift (by decide) ?_ | with_reducible refine Ok_iff (by decide) ?_ | with_reducible refine Ok_if (fun _ => ?_) (fun _ => ?_) | with_reducible refine Ok.mono (w_X12_in ) (fun _ _ => ?_) | with_reducible refine Ok.mono (w_X12_bores (b0 := b0) ?_ ?_ ?_) (fun _ ⟨_, _⟩ => ?_) | with_reducible refine Ok.mono (w_X12_carries (b0 := b0) ?_ ?_ ?_) (fun _ ⟨_, _⟩ => ?_) | with_reducible refine Ok.mono (w_X12_holdsBy (b0 := b0) ?_ ?_ ?_) (fun _ ⟨_, _⟩ => ?_) | with_reducible refine Ok.mono (w_X12_tells (b0 := b0) ?_ ?_ ?_) (fun _ ⟨_, _⟩ => ?_) | unfold f_X12_isBody)
    | dsimp only
    | (with_reducible show Lk _ _; first | with_reducible refine Lk.wF ?_ (by decide) (by decide) (by decide) ?_)
    | with_reducible refine And.intro ?_ ?_)
  all_goals (try (first | with_reducible assumption | exact trivial | omega | ((try clear ih); (try clear hr); (try clear hq0); (try clear hq1); (try clear hrec); ((try simp only [inB, Rg, bF, jlt, jeq, Int32.reduceToInt, zS_pS, zI_pS, zN_pS, Nat.reduceEqDiff, Nat.reduceAdd, Nat.reduceMul, ite_true, ite_false, and_true, true_and, and_false, false_and, true_or, or_true, false_or, or_false, not_true_eq_false, not_false_eq_true, reduceIte, reduceCtorEq, eq_self] at *) <;> (first | omega | ((try simp (disch := first | omega | (simp (disch := first | omega | (simp (disch := first | omega | (simp only [Int32.reduceToInt]; omega)) only [i32_add, i32_sub, Int32.reduceToInt]; omega)) only [i32_add, i32_sub, Int32.reduceToInt]; omega)) only [i32_add, i32_sub, Int32.reduceToInt] at *) <;> (first | omega | ((try simp (disch := first | omega | (simp (disch := first | omega | (simp (disch := first | omega | (simp only [Int32.reduceToInt]; omega)) only [i32_add, i32_sub, Int32.reduceToInt]; omega)) only [i32_add, i32_sub, Int32.reduceToInt]; omega)) only [i32_add, i32_sub, Int32.reduceToInt] at *) <;> (first | omega | ((simp only [jadd, jsub, jmul, jneg, Int32.reduceToInt] at *) <;> omega))))))))))
