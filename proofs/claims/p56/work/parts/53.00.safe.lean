set_option maxRecDepth 4000 in
theorem w_X12_in {a0 : Int32} {a1 : Int32} {a2 : Int32} : Ok (f_X12_in a0 a1 a2) (fun r => r.toInt = 0 ∨ (a1.toInt ≤ a0.toInt ∧ a0.toInt ≤ a2.toInt)) := by
  unfold f_X12_in
  repeat' (first
    | with_reducible assumption
    | (with_reducible show Ok _ _; first | dsimp only | with_reducible refine Ok_some ?_ | with_reducible refine Ok_ift (by decide) ?_ | with_reducible refine Ok_iff (by decide) ?_ | with_reducible refine Ok_if (fun _ => ?_) (fun _ => ?_))
    | dsimp only
    | with_reducible refine And.intro ?_ ?_)
  all_goals (try (first | with_reducible assumption | exact trivial | omega | ((try clear ih); (try clear hr); (try clear hq0); (try clear hq1); (try clear hrec); ((try simp only [inB, jlt, jeq, Int32.reduceToInt, Nat.reduceEqDiff, Nat.reduceAdd, Nat.reduceMul, ite_true, ite_false, and_true, true_and, and_false, false_and, true_or, or_true, false_or, or_false, not_true_eq_false, not_false_eq_true, reduceIte, reduceCtorEq, eq_self] at *) <;> (first | omega | ((try simp (disch := first | omega | (simp (disch := first | omega | (simp (disch := first | omega | (simp only [Int32.reduceToInt]; omega)) only [Int32.reduceToInt]; omega)) only [Int32.reduceToInt]; omega)) only [Int32.reduceToInt] at *) <;> (first | omega | ((try simp (disch := first | omega | (simp (disch := first | omega | (simp (disch := first | omega | (simp only [Int32.reduceToInt]; omega)) only [Int32.reduceToInt]; omega)) only [Int32.reduceToInt]; omega)) only [Int32.reduceToInt] at *) <;> (first | omega | ((simp only [jadd, jsub, jmul, jneg, Int32.reduceToInt] at *) <;> omega))))))))))
set_option maxRecDepth 4000 in
theorem w_X12_held {a0 : Int32} {a1 : Int32} {a2 : Int32} (g0 : a1.toInt ≤ a2.toInt) : Ok (f_X12_held a0 a1 a2) (fun r => a1.toInt ≤ r.toInt ∧ r.toInt ≤ a2.toInt) := by
  unfold f_X12_held
  repeat' (first
    | with_reducible assumption
    | (with_reducible show Ok _ _; first | dsimp only | with_reducible refine Ok_some ?_ | with_reducible refine Ok_ift (by decide) ?_ | with_reducible refine Ok_iff (by decide) ?_ | with_reducible refine Ok_if (fun _ => ?_) (fun _ => ?_))
    | dsimp only
    | with_reducible refine And.intro ?_ ?_)
  all_goals (try (first | with_reducible assumption | exact trivial | omega | ((try clear ih); (try clear hr); (try clear hq0); (try clear hq1); (try clear hrec); ((try simp only [inB, jlt, jeq, Int32.reduceToInt, Nat.reduceEqDiff, Nat.reduceAdd, Nat.reduceMul, ite_true, ite_false, and_true, true_and, and_false, false_and, true_or, or_true, false_or, or_false, not_true_eq_false, not_false_eq_true, reduceIte, reduceCtorEq, eq_self] at *) <;> (first | omega | ((try simp (disch := first | omega | (simp (disch := first | omega | (simp (disch := first | omega | (simp only [Int32.reduceToInt]; omega)) only [Int32.reduceToInt]; omega)) only [Int32.reduceToInt]; omega)) only [Int32.reduceToInt] at *) <;> (first | omega | ((try simp (disch := first | omega | (simp (disch := first | omega | (simp (disch := first | omega | (simp only [Int32.reduceToInt]; omega)) only [Int32.reduceToInt]; omega)) only [Int32.reduceToInt]; omega)) only [Int32.reduceToInt] at *) <;> (first | omega | ((simp only [jadd, jsub, jmul, jneg, Int32.reduceToInt] at *) <;> omega))))))))))
set_option maxRecDepth 4000 in
theorem w_X12_ofCell {b0 : SS} {s0 : SS} {a0 : Int32} {a1 : Int32} (K : Lk b0 s0) : Ok (f_X12_ofCell s0 a0 a1) (fun _ => True) := by
  unfold f_X12_ofCell
  repeat' (first
    | with_reducible assumption
    | (with_reducible show Ok _ _; first | dsimp only | with_reducible refine Ok_some ?_ | with_reducible refine Ok_gd ?_ (fun _ => ?_) | with_reducible refine Ok_b1 ?_ | with_reducible refine Ok_ift (by decide) ?_ | with_reducible refine Ok_iff (by decide) ?_ | with_reducible refine Ok_if (fun _ => ?_) (fun _ => ?_) | with_reducible refine Ok.mono (w_X12_in ) (fun _ _ => ?_) | unfold f_X12_isCell | unfold f_X12_placeOf)
    | dsimp only
    | with_reducible refine And.intro ?_ ?_)
  all_goals (try (first | with_reducible assumption | exact trivial | omega | ((try clear ih); (try clear hr); (try clear hq0); (try clear hq1); (try clear hrec); ((try simp only [inB, jlt, jeq, jd100, jm100, Int32.reduceToInt, jn1, Nat.reduceEqDiff, Nat.reduceAdd, Nat.reduceMul, ite_true, ite_false, and_true, true_and, and_false, false_and, true_or, or_true, false_or, or_false, not_true_eq_false, not_false_eq_true, reduceIte, reduceCtorEq, eq_self] at *) <;> (first | omega | ((try simp (disch := first | omega | (simp (disch := first | omega | (simp (disch := first | omega | (simp only [jd100, jm100, Int32.reduceToInt]; omega)) only [i32_add, i32_mul, jd100, jm100, Int32.reduceToInt]; omega)) only [i32_add, i32_mul, jd100, jm100, Int32.reduceToInt]; omega)) only [i32_add, i32_mul, jd100, jm100, Int32.reduceToInt] at *) <;> (first | omega | ((try simp (disch := first | omega | (simp (disch := first | omega | (simp (disch := first | omega | (simp only [jd100, jm100, Int32.reduceToInt]; omega)) only [i32_add, i32_mul, jd100, jm100, Int32.reduceToInt]; omega)) only [i32_add, i32_mul, jd100, jm100, Int32.reduceToInt]; omega)) only [i32_add, i32_mul, jd100, jm100, Int32.reduceToInt] at *) <;> (first | omega | ((simp only [jadd, jsub, jmul, jneg, Int32.reduceToInt] at *) <;> omega))))))))))
set_option maxRecDepth 4000 in
theorem w_X12_isUnder {a0 : Int32} {a1 : Int32} : Ok (f_X12_isUnder a0 a1) (fun _ => True) := by
  unfold f_X12_isUnder
  repeat' (first
    | with_reducible assumption
    | (with_reducible show Ok _ _; first | dsimp only | with_reducible refine Ok_some ?_ | with_reducible refine Ok_ift (by decide) ?_ | with_reducible refine Ok_iff (by decide) ?_ | with_reducible refine Ok_if (fun _ => ?_) (fun _ => ?_))
    | dsimp only
    | with_reducible refine And.intro ?_ ?_)
  all_goals (try (first | with_reducible assumption | exact trivial | omega | ((try clear ih); (try clear hr); (try clear hq0); (try clear hq1); (try clear hrec); ((try simp only [inB, jlt, jeq, Int32.reduceToInt, Nat.reduceEqDiff, Nat.reduceAdd, Nat.reduceMul, ite_true, ite_false, and_true, true_and, and_false, false_and, true_or, or_true, false_or, or_false, not_true_eq_false, not_false_eq_true, reduceIte, reduceCtorEq, eq_self] at *) <;> (first | omega | ((try simp (disch := first | omega | (simp (disch := first | omega | (simp (disch := first | omega | (simp only [Int32.reduceToInt]; omega)) only [Int32.reduceToInt]; omega)) only [Int32.reduceToInt]; omega)) only [Int32.reduceToInt] at *) <;> (first | omega | ((try simp (disch := first | omega | (simp (disch := first | omega | (simp (disch := first | omega | (simp only [Int32.reduceToInt]; omega)) only [Int32.reduceToInt]; omega)) only [Int32.reduceToInt]; omega)) only [Int32.reduceToInt] at *) <;> (first | omega | ((simp only [jadd, jsub, jmul, jneg, Int32.reduceToInt] at *) <;> omega))))))))))
set_option maxRecDepth 4000 in
theorem w_X12_isHole {b0 : SS} {s0 : SS} {a0 : Int32} (K : Lk b0 s0) : Ok (f_X12_isHole s0 a0) (fun r => r.toInt = 0 ∨ (0 ≤ a0.toInt ∧ a0.toInt ≤ 119)) := by
  unfold f_X12_isHole
  have f0 := kf_59_4 K
  repeat' (first
    | with_reducible assumption
    | (with_reducible show Ok _ _; first | dsimp only | with_reducible refine Ok_some ?_ | with_reducible refine Lk_G120 (by assumption) ?_ (fun _ _ _ _ _ => ?_) | with_reducible refine Ok_gd ?_ (fun _ => ?_) | with_reducible refine Ok_b1 ?_ | with_reducible refine Ok_ift (by decide) ?_ | with_reducible refine Ok_iff (by decide) ?_ | with_reducible refine Ok_if (fun _ => ?_) (fun _ => ?_) | with_reducible refine Ok.mono (w_X12_isUnder ) (fun _ _ => ?_) | with_reducible refine Ok.mono (w_X12_in ) (fun _ _ => ?_) | unfold f_X12_isBody)
    | dsimp only
    | with_reducible refine And.intro ?_ ?_)
  all_goals (try (first | with_reducible assumption | exact trivial | omega | ((try clear ih); (try clear hr); (try clear hq0); (try clear hq1); (try clear hrec); ((try simp only [inB, jlt, jeq, Int32.reduceToInt, Nat.reduceEqDiff, Nat.reduceAdd, Nat.reduceMul, ite_true, ite_false, and_true, true_and, and_false, false_and, true_or, or_true, false_or, or_false, not_true_eq_false, not_false_eq_true, reduceIte, reduceCtorEq, eq_self] at *) <;> (first | omega | ((try simp (disch := first | omega | (simp (disch := first | omega | (simp (disch := first | omega | (simp only [Int32.reduceToInt]; omega)) only [i32_sub, Int32.reduceToInt]; omega)) only [i32_sub, Int32.reduceToInt]; omega)) only [i32_sub, Int32.reduceToInt] at *) <;> (first | omega | ((try simp (disch := first | omega | (simp (disch := first | omega | (simp (disch := first | omega | (simp only [Int32.reduceToInt]; omega)) only [i32_sub, Int32.reduceToInt]; omega)) only [i32_sub, Int32.reduceToInt]; omega)) only [i32_sub, Int32.reduceToInt] at *) <;> (first | omega | ((simp only [jadd, jsub, jmul, jneg, Int32.reduceToInt] at *) <;> omega))))))))))
set_option maxRecDepth 4000 in
theorem w_X12_isMan {b0 : SS} {s0 : SS} {a0 : Int32} (K : Lk b0 s0) : Ok (f_X12_isMan s0 a0) (fun r => r.toInt = 0 ∨ (0 ≤ a0.toInt ∧ a0.toInt ≤ 119)) := by
  unfold f_X12_isMan
  have f0 := kf_59_4 K
  repeat' (first
    | with_reducible assumption
    | (with_reducible show Ok _ _; first | dsimp only | with_reducible refine Ok_some ?_ | with_reducible refine Lk_G120 (by assumption) ?_ (fun _ _ _ _ _ => ?_) | with_reducible refine Ok_gd ?_ (fun _ => ?_) | with_reducible refine Ok_b1 ?_ | with_reducible refine Ok_ift (by decide) ?_ | with_reducible refine Ok_iff (by decide) ?_ | with_reducible refine Ok_if (fun _ => ?_) (fun _ => ?_) | with_reducible refine Ok.mono (w_X12_in ) (fun _ _ => ?_) | unfold f_X12_isBody)
    | dsimp only
    | with_reducible refine And.intro ?_ ?_)
  all_goals (try (first | with_reducible assumption | exact trivial | omega | ((try clear ih); (try clear hr); (try clear hq0); (try clear hq1); (try clear hrec); ((try simp only [inB, jlt, jeq, Int32.reduceToInt, Nat.reduceEqDiff, Nat.reduceAdd, Nat.reduceMul, ite_true, ite_false, and_true, true_and, and_false, false_and, true_or, or_true, false_or, or_false, not_true_eq_false, not_false_eq_true, reduceIte, reduceCtorEq, eq_self] at *) <;> (first | omega | ((try simp (disch := first | omega | (simp (disch := first | omega | (simp (disch := first | omega | (simp only [Int32.reduceToInt]; omega)) only [i32_sub, Int32.reduceToInt]; omega)) only [i32_sub, Int32.reduceToInt]; omega)) only [i32_sub, Int32.reduceToInt] at *) <;> (first | omega | ((try simp (disch := first | omega | (simp (disch := first | omega | (simp (disch := first | omega | (simp only [Int32.reduceToInt]; omega)) only [i32_sub, Int32.reduceToInt]; omega)) only [i32_sub, Int32.reduceToInt]; omega)) only [i32_sub, Int32.reduceToInt] at *) <;> (first | omega | ((simp only [jadd, jsub, jmul, jneg, Int32.reduceToInt] at *) <;> omega))))))))))
set_option maxRecDepth 4000 in
theorem w_X12_ofBody {b0 : SS} {s0 : SS} {a0 : Int32} {a1 : Int32} (K : Lk b0 s0) : Ok (f_X12_ofBody s0 a0 a1) (fun _ => True) := by
  unfold f_X12_ofBody
  have f0 := kf_59_4 K
  repeat' (first
    | with_reducible assumption
    | (with_reducible show Ok _ _; first | dsimp only | with_reducible refine Ok_some ?_ | with_reducible refine Lk_G120 (by assumption) ?_ (fun _ _ _ _ _ => ?_) | with_reducible refine Ok_gd ?_ (fun _ => ?_) | with_reducible refine Ok_b1 ?_ | with_reducible refine Ok_ift (by decide) ?_ | with_reducible refine Ok_iff (by decide) ?_ | with_reducible refine Ok_if (fun _ => ?_) (fun _ => ?_) | with_reducible refine Ok.mono (w_X12_isHole (b0 := b0) ?_) (fun _ _ => ?_) | with_reducible refine Ok.mono (w_X12_in ) (fun _ _ => ?_) | unfold f_X12_isBody)
    | dsimp only
    | with_reducible refine And.intro ?_ ?_)
  all_goals (try (first | with_reducible assumption | exact trivial | omega | ((try clear ih); (try clear hr); (try clear hq0); (try clear hq1); (try clear hrec); ((try simp only [inB, jlt, jeq, Int32.reduceToInt, jn2000000000, Nat.reduceEqDiff, Nat.reduceAdd, Nat.reduceMul, ite_true, ite_false, and_true, true_and, and_false, false_and, true_or, or_true, false_or, or_false, not_true_eq_false, not_false_eq_true, reduceIte, reduceCtorEq, eq_self] at *) <;> (first | omega | ((try simp (disch := first | omega | (simp (disch := first | omega | (simp (disch := first | omega | (simp only [Int32.reduceToInt]; omega)) only [i32_sub, Int32.reduceToInt]; omega)) only [i32_sub, Int32.reduceToInt]; omega)) only [i32_sub, Int32.reduceToInt] at *) <;> (first | omega | ((try simp (disch := first | omega | (simp (disch := first | omega | (simp (disch := first | omega | (simp only [Int32.reduceToInt]; omega)) only [i32_sub, Int32.reduceToInt]; omega)) only [i32_sub, Int32.reduceToInt]; omega)) only [i32_sub, Int32.reduceToInt] at *) <;> (first | omega | ((simp only [jadd, jsub, jmul, jneg, Int32.reduceToInt] at *) <;> omega))))))))))
/-! THE REFERENCE: the men below -/
theorem w_X12_menBelow_L4 {b0 s0 : SS} {Q : Int32 → Prop} (K : Lk b0 s0) (hr : ∀ v, (v = 0 ∨ E7 s0 0) → Q v) : ∀ (n : Nat) (x1 x2 : Int32), (x1 = 0 ∨ E7 s0 0) → (0 ≤ x2.toInt ∧ x2.toInt ≤ 120) → 120 - x2.toInt < (n : Int) → Ok (f_X12_menBelow_L4 s0 n x1 x2) Q := by
  intro n
  induction n with
  | zero =>
    intro x1 x2 e i0 hm
    exfalso
    omega
  | succ n ih =>
    intro x1 x2 e i0 hm
    show Ok (f_X12_menBelow_L4_b s0 (f_X12_menBelow_L4 s0 n) x1 x2) Q
    unfold f_X12_menBelow_L4_b
    have hf : 0 ≤ (zS s0 59 4).toInt ∧ (zS s0 59 4).toInt ≤ 120 := K.f (q := 59) (k := 4) rfl
    with_reducible refine Ok_if (fun c => ?_) (fun _ => Ok_some (hr _ e))
    rw [Int32.lt_iff_toInt_lt] at c
    have x2n : (x2 + 1).toInt = x2.toInt + 1 := by rw [i32_add (by rw [jl1]; omega) (by rw [jl1]; omega), jl1]
    with_reducible refine Ok_gd ⟨i0.1, by omega⟩ (fun _ => ?_)
    with_reducible refine Ok_jn ?_
    with_reducible refine Ok_if (fun _ => ?_) (fun c2 => ?_)
    · with_reducible refine Ok_vl ?_
      with_reducible refine Ok_vl ?_
      refine ih _ _ ?_ (by omega) (by omega)
      rcases e with e | e
      · left
        rw [e]
        rfl
      · exact Or.inr e
    · with_reducible refine Ok_vl ?_
      with_reducible refine Ok_vl ?_
      exact ih _ _ (Or.inr ⟨x2.toInt.toNat, by rw [jl0]; omega, by omega, c2⟩) (by omega) (by omega)
theorem w_X12_menBelow {b0 s0 : SS} (K : Lk b0 s0) : Ok (f_X12_menBelow s0) (fun r => r = 0 ∨ E7 s0 0) := by
  unfold f_X12_menBelow
  exact w_X12_menBelow_L4 K (fun _ h => h) 4000 0 0 (Or.inl rfl) (by decide) (by decide)
set_option maxRecDepth 4000 in
theorem w_X12_breaks {b0 : SS} {s0 : SS} {a0 : Int32} {a1 : Int32} (K : Lk b0 s0) : Ok (f_X12_breaks s0 a0 a1) (fun r => Lk b0 r.2) := by
  unfold f_X12_breaks
  repeat' (first
    | with_reducible assumption
    | (with_reducible show Ok _ _; first | dsimp only | with_reducible refine Ok_some ?_ | with_reducible refine Lk_G3 (by assumption) ?_ (fun _ _ => ?_) | with_reducible refine Ok_gd ?_ (fun _ => ?_) | with_reducible refine Ok_st ?_ | with_reducible refine Ok_b1 ?_ | with_reducible refine Ok_ift (by decide) ?_ | with_reducible refine Ok_iff (by decide) ?_ | with_reducible refine Ok_if (fun _ => ?_) (fun _ => ?_) | with_reducible refine Ok.mono (w_X12_in ) (fun _ _ => ?_) | unfold f_X12_isMachine)
    | dsimp only
    | (with_reducible show Lk _ _; first | with_reducible refine Lk.wI ?_ (by decide) (by decide) ?_)
    | with_reducible refine And.intro ?_ ?_)
  all_goals (try (first | with_reducible assumption | exact trivial | omega | ((try clear ih); (try clear hr); (try clear hq0); (try clear hq1); (try clear hrec); ((try simp only [inB, Rg, cellOK, bA, jlt, jeq, Int32.reduceToInt, jn1, zS_pI, zI_pI, zN_pI, Nat.reduceEqDiff, Nat.reduceAdd, Nat.reduceMul, ite_true, ite_false, and_true, true_and, and_false, false_and, true_or, or_true, false_or, or_false, not_true_eq_false, not_false_eq_true, reduceIte, reduceCtorEq, eq_self] at *) <;> (first | omega | ((try simp (disch := first | omega | (simp (disch := first | omega | (simp (disch := first | omega | (simp only [Int32.reduceToInt]; omega)) only [Int32.reduceToInt]; omega)) only [Int32.reduceToInt]; omega)) only [Int32.reduceToInt] at *) <;> (first | omega | ((try simp (disch := first | omega | (simp (disch := first | omega | (simp (disch := first | omega | (simp only [Int32.reduceToInt]; omega)) only [Int32.reduceToInt]; omega)) only [Int32.reduceToInt]; omega)) only [Int32.reduceToInt] at *) <;> (first | omega | ((simp only [jadd, jsub, jmul, jneg, Int32.reduceToInt] at *) <;> omega))))))))))
set_option maxRecDepth 4000 in
theorem w_X12_yard {b0 : SS} {s0 : SS} {a0 : Int32} {a1 : Int32} (K : Lk b0 s0) : Ok (f_X12_yard s0 a0 a1) (fun r => Lk b0 r.2) := by
  unfold f_X12_yard
  repeat' (first
    | with_reducible assumption
    | (with_reducible show Ok _ _; first | dsimp only | with_reducible refine Ok_some ?_ | with_reducible refine Lk_G120 (by assumption) ?_ (fun _ _ _ _ _ => ?_) | with_reducible refine Ok_gd ?_ (fun _ => ?_) | with_reducible refine Ok_vl ?_ | with_reducible refine Ok_st ?_ | with_reducible refine Ok_b1 ?_ | with_reducible refine Ok_ift (by decide) ?_ | with_reducible refine Ok_iff (by decide) ?_ | with_reducible refine Ok_if (fun _ => ?_) (fun _ => ?_) | with_reducible refine Ok.mono (w_X12_isHole (b0 := b0) ?_) (fun _ _ => ?_) | with_reducible refine Ok.mono (w_X12_in ) (fun _ _ => ?_))
    | dsimp only
    | (with_reducible show Lk _ _; first | with_reducible refine Lk.wI ?_ (by decide) (by decide) ?_)
    | with_reducible refine And.intro ?_ ?_)
  all_goals (try (first | with_reducible assumption | exact trivial | omega | ((try clear ih); (try clear hr); (try clear hq0); (try clear hq1); (try clear hrec); ((try simp only [inB, Rg, cellOK, bA, jlt, jeq, Int32.reduceToInt, jn1, jn2, jn3, zS_pI, zI_pI, zN_pI, Nat.reduceEqDiff, Nat.reduceAdd, Nat.reduceMul, ite_true, ite_false, and_true, true_and, and_false, false_and, true_or, or_true, false_or, or_false, not_true_eq_false, not_false_eq_true, reduceIte, reduceCtorEq, eq_self] at *) <;> (first | omega | ((try simp (disch := first | omega | (simp (disch := first | omega | (simp (disch := first | omega | (simp only [Int32.reduceToInt]; omega)) only [i32_add, i32_mul, Int32.reduceToInt]; omega)) only [i32_add, i32_mul, Int32.reduceToInt]; omega)) only [i32_add, i32_mul, Int32.reduceToInt] at *) <;> (first | omega | ((try simp (disch := first | omega | (simp (disch := first | omega | (simp (disch := first | omega | (simp only [Int32.reduceToInt]; omega)) only [i32_add, i32_mul, Int32.reduceToInt]; omega)) only [i32_add, i32_mul, Int32.reduceToInt]; omega)) only [i32_add, i32_mul, Int32.reduceToInt] at *) <;> (first | omega | ((simp only [jadd, jsub, jmul, jneg, Int32.reduceToInt] at *) <;> omega))))))))))
set_option maxRecDepth 4000 in
theorem w_X12_met {b0 : SS} {s0 : SS} {a0 : Int32} {a1 : Int32} (K : Lk b0 s0) : Ok (f_X12_met s0 a0 a1) (fun _ => True) := by
  unfold f_X12_met
  repeat' (first
    | with_reducible assumption
    | (with_reducible show Ok _ _; first | dsimp only | with_reducible refine Ok_some ?_ | with_reducible refine Lk_G120 (by assumption) ?_ (fun _ _ _ _ _ => ?_) | with_reducible refine Ok_gd ?_ (fun _ => ?_) | with_reducible refine Ok_vl ?_ | with_reducible refine Ok_b1 ?_ | with_reducible refine Ok_ift (by decide) ?_ | with_reducible refine Ok_iff (by decide) ?_ | with_reducible refine Ok_if (fun _ => ?_) (fun _ => ?_) | with_reducible refine Ok.mono (w_X12_isHole (b0 := b0) ?_) (fun _ _ => ?_) | with_reducible refine Ok.mono (w_X12_in ) (fun _ _ => ?_))
    | dsimp only
    | with_reducible refine And.intro ?_ ?_)
  all_goals (try (first | with_reducible assumption | exact trivial | omega | ((try clear ih); (try clear hr); (try clear hq0); (try clear hq1); (try clear hrec); ((try simp only [inB, jlt, jeq, Int32.reduceToInt, jn1, Nat.reduceEqDiff, Nat.reduceAdd, Nat.reduceMul, ite_true, ite_false, and_true, true_and, and_false, false_and, true_or, or_true, false_or, or_false, not_true_eq_false, not_false_eq_true, reduceIte, reduceCtorEq, eq_self] at *) <;> (first | omega | ((try simp (disch := first | omega | (simp (disch := first | omega | (simp (disch := first | omega | (simp only [Int32.reduceToInt]; omega)) only [i32_add, i32_mul, Int32.reduceToInt]; omega)) only [i32_add, i32_mul, Int32.reduceToInt]; omega)) only [i32_add, i32_mul, Int32.reduceToInt] at *) <;> (first | omega | ((try simp (disch := first | omega | (simp (disch := first | omega | (simp (disch := first | omega | (simp only [Int32.reduceToInt]; omega)) only [i32_add, i32_mul, Int32.reduceToInt]; omega)) only [i32_add, i32_mul, Int32.reduceToInt]; omega)) only [i32_add, i32_mul, Int32.reduceToInt] at *) <;> (first | omega | ((simp only [jadd, jsub, jmul, jneg, Int32.reduceToInt] at *) <;> omega))))))))))
set_option maxRecDepth 4000 in
theorem w_X12_firstThrough_L6 {b0 : SS} {s0 : SS} {Q : Int32 → Prop} (K : Lk b0 s0) (hr : ∀ v, Q v) : ∀ (n : Nat) (x1 : Int32) (x2 : Int32), (0 ≤ x2.toInt ∧ x2.toInt ≤ 120) → 120 - x2.toInt < (n : Int) → Ok (f_X12_firstThrough_L6 s0 n x1 x2) Q := by
  intro n
  induction n with
  | zero =>
    intro x1 x2 i0 hm
    exfalso
    (first | with_reducible assumption | omega | ((try clear ih); (try clear hr); (try clear hq0); (try clear hq1); (try clear hrec); ((try simp only [inB, jlt, jeq, Int32.reduceToInt, Nat.reduceEqDiff, Nat.reduceAdd, Nat.reduceMul, ite_true, ite_false, and_true, true_and, and_false, false_and, true_or, or_true, false_or, or_false, not_true_eq_false, not_false_eq_true, reduceIte, reduceCtorEq, eq_self] at *) <;> (first | omega | ((try simp (disch := first | omega | (simp (disch := first | omega | (simp (disch := first | omega | (simp only [Int32.reduceToInt]; omega)) only [i32_add, i32_sub, Int32.reduceToInt]; omega)) only [i32_add, i32_sub, Int32.reduceToInt]; omega)) only [i32_add, i32_sub, Int32.reduceToInt] at *) <;> (first | omega | ((try simp (disch := first | omega | (simp (disch := first | omega | (simp (disch := first | omega | (simp only [Int32.reduceToInt]; omega)) only [i32_add, i32_sub, Int32.reduceToInt]; omega)) only [i32_add, i32_sub, Int32.reduceToInt]; omega)) only [i32_add, i32_sub, Int32.reduceToInt] at *) <;> (first | omega | ((simp only [jadd, jsub, jmul, jneg, Int32.reduceToInt] at *) <;> omega)))))))))
  | succ n ih =>
    intro x1 x2 i0 hm
    show Ok (f_X12_firstThrough_L6_b s0 (f_X12_firstThrough_L6 s0 n) x1 x2) Q
    unfold f_X12_firstThrough_L6_b
    have f0 := kf_59_4 K
    repeat' (first
      | with_reducible assumption
      | (with_reducible show Ok _ _; first | dsimp only | with_reducible refine Ok_some ?_ | with_reducible refine Lk_G120 (by assumption) ?_ (fun _ _ _ _ _ => ?_) | with_reducible refine Ok_gd ?_ (fun _ => ?_) | with_reducible refine Ok_vl ?_ | with_reducible refine Ok_jn ?_ | with_reducible refine Ok_ift (by decide) ?_ | with_reducible refine Ok_iff (by decide) ?_ | with_reducible refine Ok_if (fun _ => ?_) (fun _ => ?_) | with_reducible refine ih _ _  ?_ ?_)
      | dsimp only
      | with_reducible refine hr _
      | with_reducible refine And.intro ?_ ?_)
    all_goals (try (first | with_reducible assumption | exact trivial | omega | ((try clear ih); (try clear hr); (try clear hq0); (try clear hq1); (try clear hrec); ((try simp only [inB, jlt, jeq, Int32.reduceToInt, Nat.reduceEqDiff, Nat.reduceAdd, Nat.reduceMul, ite_true, ite_false, and_true, true_and, and_false, false_and, true_or, or_true, false_or, or_false, not_true_eq_false, not_false_eq_true, reduceIte, reduceCtorEq, eq_self] at *) <;> (first | omega | ((try simp (disch := first | omega | (simp (disch := first | omega | (simp (disch := first | omega | (simp only [Int32.reduceToInt]; omega)) only [i32_add, i32_sub, Int32.reduceToInt]; omega)) only [i32_add, i32_sub, Int32.reduceToInt]; omega)) only [i32_add, i32_sub, Int32.reduceToInt] at *) <;> (first | omega | ((try simp (disch := first | omega | (simp (disch := first | omega | (simp (disch := first | omega | (simp only [Int32.reduceToInt]; omega)) only [i32_add, i32_sub, Int32.reduceToInt]; omega)) only [i32_add, i32_sub, Int32.reduceToInt]; omega)) only [i32_add, i32_sub, Int32.reduceToInt] at *) <;> (first | omega | ((simp only [jadd, jsub, jmul, jneg, Int32.reduceToInt] at *) <;> omega))))))))))
set_option maxRecDepth 4000 in
theorem w_X12_firstThrough {b0 : SS} {s0 : SS} (K : Lk b0 s0) : Ok (f_X12_firstThrough s0) (fun _ => True) := by
  unfold f_X12_firstThrough
  repeat' (first
    | with_reducible assumption
    | dsimp only
    | with_reducible refine w_X12_firstThrough_L6 (b0 := b0) ?_ (fun _ => ?_) _ _ _  ?_ ?_
    | with_reducible refine And.intro ?_ ?_)
  all_goals (try (first | with_reducible assumption | exact trivial | omega | ((try clear ih); (try clear hr); (try clear hq0); (try clear hq1); (try clear hrec); ((try simp only [inB, jlt, jeq, Int32.reduceToInt, Nat.reduceEqDiff, Nat.reduceAdd, Nat.reduceMul, ite_true, ite_false, and_true, true_and, and_false, false_and, true_or, or_true, false_or, or_false, not_true_eq_false, not_false_eq_true, reduceIte, reduceCtorEq, eq_self] at *) <;> (first | omega | ((try simp (disch := first | omega | (simp (disch := first | omega | (simp (disch := first | omega | (simp only [Int32.reduceToInt]; omega)) only [i32_sub, Int32.reduceToInt]; omega)) only [i32_sub, Int32.reduceToInt]; omega)) only [i32_sub, Int32.reduceToInt] at *) <;> (first | omega | ((try simp (disch := first | omega | (simp (disch := first | omega | (simp (disch := first | omega | (simp only [Int32.reduceToInt]; omega)) only [i32_sub, Int32.reduceToInt]; omega)) only [i32_sub, Int32.reduceToInt]; omega)) only [i32_sub, Int32.reduceToInt] at *) <;> (first | omega | ((simp only [jadd, jsub, jmul, jneg, Int32.reduceToInt] at *) <;> omega))))))))))
set_option maxRecDepth 4000 in
theorem w_X12_bore_L0 {b0 : SS} {y1 : Int32} {y2 : Int32} {Q : SS → Prop} (g0 : 0 ≤ y1.toInt ∧ y1.toInt ≤ 119) (hr : ∀ s, Lk b0 s → Q s) : ∀ (n : Nat) (s : SS), Lk b0 s → 60 - (zI s 67 y1.toInt.toNat).toInt < (n : Int) → Ok (f_X12_bore_L0 y1 y2 n s) Q := by
  intro n
  induction n with
  | zero =>
    intro s K hm
    exfalso
    have e0 := ka_67 K y1.toInt.toNat
    have e1 := ka_66 K y1.toInt.toNat
    (first | with_reducible assumption | omega | ((try clear ih); (try clear hr); (try clear hq0); (try clear hq1); (try clear hrec); ((try simp only [inB, Rg, cellOK, bA, jlt, jeq, Int32.reduceToInt, zS_pI, zI_pI, zN_pI, Nat.reduceEqDiff, Nat.reduceAdd, Nat.reduceMul, ite_true, ite_false, and_true, true_and, and_false, false_and, true_or, or_true, false_or, or_false, not_true_eq_false, not_false_eq_true, reduceIte, reduceCtorEq, eq_self] at *) <;> (first | omega | ((try simp (disch := first | omega | (simp (disch := first | omega | (simp (disch := first | omega | (simp only [Int32.reduceToInt]; omega)) only [i32_add, i32_sub, i32_mul, Int32.reduceToInt]; omega)) only [i32_add, i32_sub, i32_mul, Int32.reduceToInt]; omega)) only [i32_add, i32_sub, i32_mul, Int32.reduceToInt] at *) <;> (first | omega | ((try simp (disch := first | omega | (simp (disch := first | omega | (simp (disch := first | omega | (simp only [Int32.reduceToInt]; omega)) only [i32_add, i32_sub, i32_mul, Int32.reduceToInt]; omega)) only [i32_add, i32_sub, i32_mul, Int32.reduceToInt]; omega)) only [i32_add, i32_sub, i32_mul, Int32.reduceToInt] at *) <;> (first | omega | ((simp only [jadd, jsub, jmul, jneg, Int32.reduceToInt] at *) <;> omega)))))))))
  | succ n ih =>
    intro s K hm
    show Ok (f_X12_bore_L0_b y1 y2 (f_X12_bore_L0 y1 y2 n) s) Q
    unfold f_X12_bore_L0_b
    have e0 := ka_67 K y1.toInt.toNat
    have e1 := ka_66 K y1.toInt.toNat
    repeat' (first
      | with_reducible assumption
      | (with_reducible show Ok _ _; first | dsimp only | with_reducible refine Ok_jn0 ?_ (fun _ _ => ?_) | with_reducible refine Ok_jn1 (fun _ => ?_) (fun _ _ => ?_) | with_reducible refine Ok_k1 (by assumption) _ | with_reducible refine Ok_some ?_ | with_reducible refine Lk_G120 (by assumption) ?_ (fun _ _ _ _ _ => ?_) | with_reducible refine Ok_gd ?_ (fun _ => ?_) | with_reducible refine Ok_vl ?_ | with_reducible refine Ok_st ?_ | with_reducible refine Ok_jn ?_ | with_reducible refine Ok_b1 ?_ | with_reducible refine Ok_ift (by decide) ?_ | with_reducible refine Ok_iff (by decide) ?_ | with_reducible refine Ok_if (fun _ => ?_) (fun _ => ?_) | with_reducible refine ih _  ?_ ?_ | with_reducible refine Ok.mono (w_X12_held ?_) (fun _ _ => ?_) | with_reducible refine Ok.mono (w_X12_in ) (fun _ _ => ?_))
      | dsimp only
      | (with_reducible show Lk _ _; first | with_reducible refine Lk.wI ?_ (by decide) (by decide) ?_)
      | with_reducible refine hr _ ?_
      | with_reducible refine And.intro ?_ ?_)
    all_goals (try (first | with_reducible assumption | exact trivial | omega | ((try clear ih); (try clear hr); (try clear hq0); (try clear hq1); (try clear hrec); ((try simp only [inB, Rg, cellOK, bA, jlt, jeq, Int32.reduceToInt, zS_pI, zI_pI, zN_pI, Nat.reduceEqDiff, Nat.reduceAdd, Nat.reduceMul, ite_true, ite_false, and_true, true_and, and_false, false_and, true_or, or_true, false_or, or_false, not_true_eq_false, not_false_eq_true, reduceIte, reduceCtorEq, eq_self] at *) <;> (first | omega | ((try simp (disch := first | omega | (simp (disch := first | omega | (simp (disch := first | omega | (simp only [Int32.reduceToInt]; omega)) only [i32_add, i32_sub, i32_mul, Int32.reduceToInt]; omega)) only [i32_add, i32_sub, i32_mul, Int32.reduceToInt]; omega)) only [i32_add, i32_sub, i32_mul, Int32.reduceToInt] at *) <;> (first | omega | ((try simp (disch := first | omega | (simp (disch := first | omega | (simp (disch := first | omega | (simp only [Int32.reduceToInt]; omega)) only [i32_add, i32_sub, i32_mul, Int32.reduceToInt]; omega)) only [i32_add, i32_sub, i32_mul, Int32.reduceToInt]; omega)) only [i32_add, i32_sub, i32_mul, Int32.reduceToInt] at *) <;> (first | omega | ((simp only [jadd, jsub, jmul, jneg, Int32.reduceToInt] at *) <;> omega))))))))))
set_option maxRecDepth 4000 in
theorem w_X12_bore {b0 : SS} {s0 : SS} {a0 : Int32} {a1 : Int32} (K : Lk b0 s0) (g0 : 0 ≤ a0.toInt ∧ a0.toInt ≤ 119) : Ok (f_X12_bore s0 a0 a1) (fun r => Lk b0 r) := by
  unfold f_X12_bore
  have e0 := ka_67 K a0.toInt.toNat
  repeat' (first
    | with_reducible assumption
    | dsimp only
    | with_reducible refine w_X12_bore_L0 (b0 := b0) ?_ (fun _ _ => ?_) _ _  ?_ ?_
    | with_reducible refine And.intro ?_ ?_)
  all_goals (try (first | with_reducible assumption | exact trivial | omega | ((try clear ih); (try clear hr); (try clear hq0); (try clear hq1); (try clear hrec); ((try simp only [inB, jlt, jeq, Int32.reduceToInt, Nat.reduceEqDiff, Nat.reduceAdd, Nat.reduceMul, ite_true, ite_false, and_true, true_and, and_false, false_and, true_or, or_true, false_or, or_false, not_true_eq_false, not_false_eq_true, reduceIte, reduceCtorEq, eq_self] at *) <;> (first | omega | ((try simp (disch := first | omega | (simp (disch := first | omega | (simp (disch := first | omega | (simp only [Int32.reduceToInt]; omega)) only [i32_sub, Int32.reduceToInt]; omega)) only [i32_sub, Int32.reduceToInt]; omega)) only [i32_sub, Int32.reduceToInt] at *) <;> (first | omega | ((try simp (disch := first | omega | (simp (disch := first | omega | (simp (disch := first | omega | (simp only [Int32.reduceToInt]; omega)) only [i32_sub, Int32.reduceToInt]; omega)) only [i32_sub, Int32.reduceToInt]; omega)) only [i32_sub, Int32.reduceToInt] at *) <;> (first | omega | ((simp only [jadd, jsub, jmul, jneg, Int32.reduceToInt] at *) <;> omega))))))))))
set_option maxRecDepth 4000 in
theorem w_X12_log_L63 {b0 : SS} {q0 : SS → Int32 → Int32 → Option (Int32 × SS)} {y1 : Int32} {y2 : Int32} {y3 : Int32} {y4 : Int32} {y5 : Int32} {Q : Int32 × SS → Prop} (g0 : 0 ≤ y1.toInt ∧ y1.toInt ≤ 119) (g1 : 0 ≤ y2.toInt ∧ y2.toInt ≤ 5) (g2 : 1 ≤ y4.toInt ∧ y4.toInt ≤ 60) (g3 : 1 ≤ y5.toInt ∧ y5.toInt ≤ 60) (hr : ∀ v s, Lk b0 s → Q (v, s)) (hq0 : ∀ (s : SS) (z0 : Int32) (z1 : Int32), Lk b0 s → (1 ≤ z1.toInt ∧ z1.toInt ≤ 60) → Ok (q0 s z0 z1) Q) : ∀ (n : Nat) (s : SS) (x6 : Int32), Lk b0 s → (0 ≤ x6.toInt ∧ x6.toInt ≤ 60) → 60 - x6.toInt < (n : Int) → Ok (f_X12_log_L63 q0 y1 y2 y3 y4 y5 n s x6) Q := by
  intro n
  induction n with
  | zero =>
    intro s x6 K i0 hm
    exfalso
    (first | with_reducible assumption | omega | ((try clear ih); (try clear hr); (try clear hq0); (try clear hq1); (try clear hrec); ((try simp only [inB, Rg, cellOK, bA, jlt, jeq, Int32.reduceToInt, jn1, zS_pI, zI_pI, zN_pI, Nat.reduceEqDiff, Nat.reduceAdd, Nat.reduceMul, ite_true, ite_false, and_true, true_and, and_false, false_and, true_or, or_true, false_or, or_false, not_true_eq_false, not_false_eq_true, reduceIte, reduceCtorEq, eq_self] at *) <;> (first | omega | ((try simp (disch := first | omega | (simp (disch := first | omega | (simp (disch := first | omega | (simp only [Int32.reduceToInt]; omega)) only [i32_add, i32_sub, i32_mul, Int32.reduceToInt]; omega)) only [i32_add, i32_sub, i32_mul, Int32.reduceToInt]; omega)) only [i32_add, i32_sub, i32_mul, Int32.reduceToInt] at *) <;> (first | omega | ((try simp (disch := first | omega | (simp (disch := first | omega | (simp (disch := first | omega | (simp only [Int32.reduceToInt]; omega)) only [i32_add, i32_sub, i32_mul, Int32.reduceToInt]; omega)) only [i32_add, i32_sub, i32_mul, Int32.reduceToInt]; omega)) only [i32_add, i32_sub, i32_mul, Int32.reduceToInt] at *) <;> (first | omega | ((simp only [jadd, jsub, jmul, jneg, Int32.reduceToInt] at *) <;> omega)))))))))
  | succ n ih =>
    intro s x6 K i0 hm
    show Ok (f_X12_log_L63_b q0 y1 y2 y3 y4 y5 (f_X12_log_L63 q0 y1 y2 y3 y4 y5 n) s x6) Q
    unfold f_X12_log_L63_b
    repeat' (first
      | with_reducible assumption
      | (with_reducible show Ok _ _; first | dsimp only | with_reducible refine Ok_jn0 ?_ (fun _ _ => ?_) | with_reducible refine Ok_jn1 (fun _ => ?_) (fun _ _ => ?_) | with_reducible refine Ok_jn2 (fun _ _ => ?_) (fun _ _ => ?_) | with_reducible refine Ok_jnS (b0 := b0) (fun _ _ => ?_) (fun _ _ => ?_) | with_reducible refine Ok_jnS1 (b0 := b0) (fun _ _ _ => ?_) (fun _ _ => ?_) | with_reducible refine Ok_jnS2 (b0 := b0) (fun _ _ _ _ => ?_) (fun _ _ => ?_) | with_reducible refine Ok_k1 (by assumption) _ | with_reducible refine Ok_k2 (by assumption) _ _ | with_reducible refine Ok_kS (b0 := b0) (by assumption) ?_ | with_reducible refine Ok_kS1 (b0 := b0) (by assumption) ?_ | with_reducible refine Ok_kS2 (b0 := b0) (by assumption) ?_ | with_reducible refine Ok_some ?_ | with_reducible refine Lk_g6 (by assumption) ?_ (fun _ _ _ => ?_) | with_reducible refine Ok_gd ?_ (fun _ => ?_) | with_reducible refine Ok_vl ?_ | with_reducible refine Ok_wl ?_ | with_reducible refine Ok_st ?_ | with_reducible refine Ok_jn ?_ | with_reducible refine Ok_ift (by decide) ?_ | with_reducible refine Ok_iff (by decide) ?_ | with_reducible refine Ok_if (fun _ => ?_) (fun _ => ?_) | with_reducible refine ih _ _  ?_ ?_ ?_ | with_reducible refine hq0 _ _ _  ?_ ?_)
      | dsimp only
      | (with_reducible show Lk _ _; first | with_reducible refine Lk.wI ?_ (by decide) (by decide) ?_)
      | with_reducible refine lgix (by assumption) (by assumption) (by assumption) (by assumption)
      | with_reducible refine hr _ _ ?_
      | with_reducible refine And.intro ?_ ?_)
    all_goals (try (first | with_reducible assumption | exact trivial | omega | ((try clear ih); (try clear hr); (try clear hq0); (try clear hq1); (try clear hrec); ((try simp only [inB, Rg, cellOK, bA, jlt, jeq, Int32.reduceToInt, jn1, zS_pI, zI_pI, zN_pI, Nat.reduceEqDiff, Nat.reduceAdd, Nat.reduceMul, ite_true, ite_false, and_true, true_and, and_false, false_and, true_or, or_true, false_or, or_false, not_true_eq_false, not_false_eq_true, reduceIte, reduceCtorEq, eq_self] at *) <;> (first | omega | ((try simp (disch := first | omega | (simp (disch := first | omega | (simp (disch := first | omega | (simp only [Int32.reduceToInt]; omega)) only [i32_add, i32_sub, i32_mul, Int32.reduceToInt]; omega)) only [i32_add, i32_sub, i32_mul, Int32.reduceToInt]; omega)) only [i32_add, i32_sub, i32_mul, Int32.reduceToInt] at *) <;> (first | omega | ((try simp (disch := first | omega | (simp (disch := first | omega | (simp (disch := first | omega | (simp only [Int32.reduceToInt]; omega)) only [i32_add, i32_sub, i32_mul, Int32.reduceToInt]; omega)) only [i32_add, i32_sub, i32_mul, Int32.reduceToInt]; omega)) only [i32_add, i32_sub, i32_mul, Int32.reduceToInt] at *) <;> (first | omega | ((simp only [jadd, jsub, jmul, jneg, Int32.reduceToInt] at *) <;> omega))))))))))
set_option maxRecDepth 4000 in
theorem w_X12_log_L129 {b0 : SS} {y1 : Int32} {y6 : Int32} {Q : Int32 × SS → Prop} (g0 : 0 ≤ y1.toInt ∧ y1.toInt ≤ 119) (hr : ∀ v s, Lk b0 s → Q (v, s)) : ∀ (n : Nat) (s : SS) (x10 : Int32), Lk b0 s → (1 ≤ x10.toInt ∧ x10.toInt ≤ 61) → 61 - x10.toInt < (n : Int) → Ok (f_X12_log_L129 y1 y6 n s x10) Q := by
  intro n
  induction n with
  | zero =>
    intro s x10 K i0 hm
    exfalso
    (first | with_reducible assumption | omega | ((try clear ih); (try clear hr); (try clear hq0); (try clear hq1); (try clear hrec); ((try simp only [inB, Rg, cellOK, bA, jlt, jeq, Int32.reduceToInt, zS_pI, zI_pI, zN_pI, Nat.reduceEqDiff, Nat.reduceAdd, Nat.reduceMul, ite_true, ite_false, and_true, true_and, and_false, false_and, true_or, or_true, false_or, or_false, not_true_eq_false, not_false_eq_true, reduceIte, reduceCtorEq, eq_self] at *) <;> (first | omega | ((try simp (disch := first | omega | (simp (disch := first | omega | (simp (disch := first | omega | (simp only [Int32.reduceToInt]; omega)) only [i32_add, i32_sub, i32_mul, Int32.reduceToInt]; omega)) only [i32_add, i32_sub, i32_mul, Int32.reduceToInt]; omega)) only [i32_add, i32_sub, i32_mul, Int32.reduceToInt] at *) <;> (first | omega | ((try simp (disch := first | omega | (simp (disch := first | omega | (simp (disch := first | omega | (simp only [Int32.reduceToInt]; omega)) only [i32_add, i32_sub, i32_mul, Int32.reduceToInt]; omega)) only [i32_add, i32_sub, i32_mul, Int32.reduceToInt]; omega)) only [i32_add, i32_sub, i32_mul, Int32.reduceToInt] at *) <;> (first | omega | ((simp only [jadd, jsub, jmul, jneg, Int32.reduceToInt] at *) <;> omega)))))))))
  | succ n ih =>
    intro s x10 K i0 hm
    show Ok (f_X12_log_L129_b y1 y6 (f_X12_log_L129 y1 y6 n) s x10) Q
    unfold f_X12_log_L129_b
    repeat' (first
      | with_reducible assumption
      | (with_reducible show Ok _ _; first | dsimp only | with_reducible refine Ok_some ?_ | with_reducible refine Ok_gd ?_ (fun _ => ?_) | with_reducible refine Ok_vl ?_ | with_reducible refine Ok_st ?_ | with_reducible refine Ok_ift (by decide) ?_ | with_reducible refine Ok_iff (by decide) ?_ | with_reducible refine Ok_if (fun _ => ?_) (fun _ => ?_) | with_reducible refine ih _ _  ?_ ?_ ?_)
      | dsimp only
      | (with_reducible show Lk _ _; first | with_reducible refine Lk.wI ?_ (by decide) (by decide) ?_)
      | with_reducible refine hr _ _ ?_
      | with_reducible refine And.intro ?_ ?_)
    all_goals (try (first | with_reducible assumption | exact trivial | omega | ((try clear ih); (try clear hr); (try clear hq0); (try clear hq1); (try clear hrec); ((try simp only [inB, Rg, cellOK, bA, jlt, jeq, Int32.reduceToInt, zS_pI, zI_pI, zN_pI, Nat.reduceEqDiff, Nat.reduceAdd, Nat.reduceMul, ite_true, ite_false, and_true, true_and, and_false, false_and, true_or, or_true, false_or, or_false, not_true_eq_false, not_false_eq_true, reduceIte, reduceCtorEq, eq_self] at *) <;> (first | omega | ((try simp (disch := first | omega | (simp (disch := first | omega | (simp (disch := first | omega | (simp only [Int32.reduceToInt]; omega)) only [i32_add, i32_sub, i32_mul, Int32.reduceToInt]; omega)) only [i32_add, i32_sub, i32_mul, Int32.reduceToInt]; omega)) only [i32_add, i32_sub, i32_mul, Int32.reduceToInt] at *) <;> (first | omega | ((try simp (disch := first | omega | (simp (disch := first | omega | (simp (disch := first | omega | (simp only [Int32.reduceToInt]; omega)) only [i32_add, i32_sub, i32_mul, Int32.reduceToInt]; omega)) only [i32_add, i32_sub, i32_mul, Int32.reduceToInt]; omega)) only [i32_add, i32_sub, i32_mul, Int32.reduceToInt] at *) <;> (first | omega | ((simp only [jadd, jsub, jmul, jneg, Int32.reduceToInt] at *) <;> omega))))))))))
set_option maxRecDepth 4000 in
theorem w_X12_log {b0 : SS} {s0 : SS} {a0 : Int32} {a1 : Int32} {a2 : Int32} {a3 : Int32} {a4 : Int32} (K : Lk b0 s0) : Ok (f_X12_log s0 a0 a1 a2 a3 a4) (fun r => Lk b0 r.2) := by
  unfold f_X12_log
  repeat' (first
    | with_reducible assumption
    | (with_reducible show Ok _ _; first | dsimp only | with_reducible refine Ok_some ?_ | with_reducible refine Lk_G6 (by assumption) ?_ (fun _ _ _ => ?_) | with_reducible refine Ok_gd ?_ (fun _ => ?_) | with_reducible refine Ok_jn ?_ | with_reducible refine Ok_b1 ?_ | with_reducible refine Ok_ift (by decide) ?_ | with_reducible refine Ok_iff (by decide) ?_ | with_reducible refine Ok_if (fun _ => ?_) (fun _ => ?_) | with_reducible refine Ok.mono (w_X12_isHole (b0 := b0) ?_) (fun _ _ => ?_) | with_reducible refine Ok.mono (w_X12_in ) (fun _ _ => ?_) | unfold f_X12_isShelf | unfold f_X12_isReals)
    | dsimp only
    | with_reducible refine w_X12_log_L63 (b0 := b0) ?_ ?_ ?_ ?_ (fun _ _ _ => ?_) (fun _ _ _ _ _ => ?_) _ _ _  ?_ ?_ ?_
    | with_reducible refine w_X12_log_L129 (b0 := b0) ?_ (fun _ _ _ => ?_) _ _ _  ?_ ?_ ?_
    | with_reducible refine And.intro ?_ ?_)
  all_goals (try (first | with_reducible assumption | exact trivial | omega | ((try clear ih); (try clear hr); (try clear hq0); (try clear hq1); (try clear hrec); ((try simp only [inB, jlt, jeq, Int32.reduceToInt, jn1, jn5, jn6, jn12, Nat.reduceEqDiff, Nat.reduceAdd, Nat.reduceMul, ite_true, ite_false, and_true, true_and, and_false, false_and, true_or, or_true, false_or, or_false, not_true_eq_false, not_false_eq_true, reduceIte, reduceCtorEq, eq_self] at *) <;> (first | omega | ((try simp (disch := first | omega | (simp (disch := first | omega | (simp (disch := first | omega | (simp only [Int32.reduceToInt]; omega)) only [i32_sub, Int32.reduceToInt]; omega)) only [i32_sub, Int32.reduceToInt]; omega)) only [i32_sub, Int32.reduceToInt] at *) <;> (first | omega | ((try simp (disch := first | omega | (simp (disch := first | omega | (simp (disch := first | omega | (simp only [Int32.reduceToInt]; omega)) only [i32_sub, Int32.reduceToInt]; omega)) only [i32_sub, Int32.reduceToInt]; omega)) only [i32_sub, Int32.reduceToInt] at *) <;> (first | omega | ((simp only [jadd, jsub, jmul, jneg, Int32.reduceToInt] at *) <;> omega))))))))))
set_option maxRecDepth 4000 in
theorem w_X12_canBeAt_L13 {b0 : SS} {q0 : Int32 → Option Int32} {s0 : SS} {y1 : Int32} {y2 : Int32} {y3 : Int32} {Q : Int32 → Prop} (K : Lk b0 s0) (g0 : 0 ≤ y1.toInt ∧ y1.toInt ≤ 119) (g1 : 0 ≤ y2.toInt ∧ y2.toInt ≤ 60) (hq0 : ∀ (z0 : Int32), Ok (q0 z0) Q) : ∀ (n : Nat) (x4 : Int32) (x5 : Int32), (1 ≤ x5.toInt ∧ x5.toInt ≤ 61) → 61 - x5.toInt < (n : Int) → Ok (f_X12_canBeAt_L13 q0 s0 y1 y2 y3 n x4 x5) Q := by
  intro n
  induction n with
  | zero =>
    intro x4 x5 i0 hm
    exfalso
    (first | with_reducible assumption | omega | ((try clear ih); (try clear hr); (try clear hq0); (try clear hq1); (try clear hrec); ((try simp only [inB, jlt, jeq, Int32.reduceToInt, jn8, Nat.reduceEqDiff, Nat.reduceAdd, Nat.reduceMul, ite_true, ite_false, and_true, true_and, and_false, false_and, true_or, or_true, false_or, or_false, not_true_eq_false, not_false_eq_true, reduceIte, reduceCtorEq, eq_self] at *) <;> (first | omega | ((try simp (disch := first | omega | (simp (disch := first | omega | (simp (disch := first | omega | (simp only [Int32.reduceToInt]; omega)) only [i32_add, i32_sub, i32_mul, Int32.reduceToInt]; omega)) only [i32_add, i32_sub, i32_mul, Int32.reduceToInt]; omega)) only [i32_add, i32_sub, i32_mul, Int32.reduceToInt] at *) <;> (first | omega | ((try simp (disch := first | omega | (simp (disch := first | omega | (simp (disch := first | omega | (simp only [Int32.reduceToInt]; omega)) only [i32_add, i32_sub, i32_mul, Int32.reduceToInt]; omega)) only [i32_add, i32_sub, i32_mul, Int32.reduceToInt]; omega)) only [i32_add, i32_sub, i32_mul, Int32.reduceToInt] at *) <;> (first | omega | ((simp only [jadd, jsub, jmul, jneg, Int32.reduceToInt] at *) <;> omega)))))))))
  | succ n ih =>
    intro x4 x5 i0 hm
    show Ok (f_X12_canBeAt_L13_b q0 s0 y1 y2 y3 (f_X12_canBeAt_L13 q0 s0 y1 y2 y3 n) x4 x5) Q
    unfold f_X12_canBeAt_L13_b
    repeat' (first
      | with_reducible assumption
      | (with_reducible show Ok _ _; first | dsimp only | with_reducible refine Lk_G8 (by assumption) ?_ (fun _ _ => ?_) | with_reducible refine Ok_gd ?_ (fun _ => ?_) | with_reducible refine Ok_vl ?_ | with_reducible refine Ok_jn ?_ | with_reducible refine Ok_ift (by decide) ?_ | with_reducible refine Ok_iff (by decide) ?_ | with_reducible refine Ok_if (fun _ => ?_) (fun _ => ?_) | with_reducible refine ih _ _  ?_ ?_ | with_reducible refine hq0 _)
      | dsimp only
      | with_reducible refine And.intro ?_ ?_)
    all_goals (try (first | with_reducible assumption | exact trivial | omega | ((try clear ih); (try clear hr); (try clear hq0); (try clear hq1); (try clear hrec); ((try simp only [inB, jlt, jeq, Int32.reduceToInt, jn8, Nat.reduceEqDiff, Nat.reduceAdd, Nat.reduceMul, ite_true, ite_false, and_true, true_and, and_false, false_and, true_or, or_true, false_or, or_false, not_true_eq_false, not_false_eq_true, reduceIte, reduceCtorEq, eq_self] at *) <;> (first | omega | ((try simp (disch := first | omega | (simp (disch := first | omega | (simp (disch := first | omega | (simp only [Int32.reduceToInt]; omega)) only [i32_add, i32_sub, i32_mul, Int32.reduceToInt]; omega)) only [i32_add, i32_sub, i32_mul, Int32.reduceToInt]; omega)) only [i32_add, i32_sub, i32_mul, Int32.reduceToInt] at *) <;> (first | omega | ((try simp (disch := first | omega | (simp (disch := first | omega | (simp (disch := first | omega | (simp only [Int32.reduceToInt]; omega)) only [i32_add, i32_sub, i32_mul, Int32.reduceToInt]; omega)) only [i32_add, i32_sub, i32_mul, Int32.reduceToInt]; omega)) only [i32_add, i32_sub, i32_mul, Int32.reduceToInt] at *) <;> (first | omega | ((simp only [jadd, jsub, jmul, jneg, Int32.reduceToInt] at *) <;> omega))))))))))
set_option maxRecDepth 4000 in
theorem w_X12_canBeAt {b0 : SS} {s0 : SS} {a0 : Int32} {a1 : Int32} {a2 : Int32} (K : Lk b0 s0) (g0 : 0 ≤ a0.toInt ∧ a0.toInt ≤ 119) (g1 : 0 ≤ a1.toInt ∧ a1.toInt ≤ 60) : Ok (f_X12_canBeAt s0 a0 a1 a2) (fun r => 0 ≤ r.toInt ∧ r.toInt ≤ 31) := by
  unfold f_X12_canBeAt
  repeat' (first
    | with_reducible assumption
    | (with_reducible show Ok _ _; first | dsimp only | with_reducible refine Ok_some ?_ | with_reducible refine Lk_G120 (by assumption) ?_ (fun _ _ _ _ _ => ?_) | with_reducible refine Ok_gd ?_ (fun _ => ?_) | with_reducible refine Ok_vl ?_ | with_reducible refine Ok_jn ?_ | with_reducible refine Ok_b1 ?_ | with_reducible refine Ok_ift (by decide) ?_ | with_reducible refine Ok_iff (by decide) ?_ | with_reducible refine Ok_if (fun _ => ?_) (fun _ => ?_) | with_reducible refine Ok.mono (w_X12_held ?_) (fun _ _ => ?_) | unfold f_X12_down4)
    | dsimp only
    | with_reducible refine w_X12_canBeAt_L13 (b0 := b0) ?_ ?_ ?_ (fun _ => ?_) _ _ _  ?_ ?_
    | with_reducible refine And.intro ?_ ?_)
  all_goals (try (first | with_reducible assumption | exact trivial | omega | ((try clear ih); (try clear hr); (try clear hq0); (try clear hq1); (try clear hrec); ((try simp only [inB, jlt, jeq, jd4, Int32.reduceToInt, Nat.reduceEqDiff, Nat.reduceAdd, Nat.reduceMul, ite_true, ite_false, and_true, true_and, and_false, false_and, true_or, or_true, false_or, or_false, not_true_eq_false, not_false_eq_true, reduceIte, reduceCtorEq, eq_self] at *) <;> (first | omega | ((try simp (disch := first | omega | (simp (disch := first | omega | (simp (disch := first | omega | (simp only [jd4, Int32.reduceToInt]; omega)) only [i32_sub, i32_mul, jd4, Int32.reduceToInt]; omega)) only [i32_sub, i32_mul, jd4, Int32.reduceToInt]; omega)) only [i32_sub, i32_mul, jd4, Int32.reduceToInt] at *) <;> (first | omega | ((try simp (disch := first | omega | (simp (disch := first | omega | (simp (disch := first | omega | (simp only [jd4, Int32.reduceToInt]; omega)) only [i32_sub, i32_mul, jd4, Int32.reduceToInt]; omega)) only [i32_sub, i32_mul, jd4, Int32.reduceToInt]; omega)) only [i32_sub, i32_mul, jd4, Int32.reduceToInt] at *) <;> (first | omega | ((simp only [jadd, jsub, jmul, jneg, Int32.reduceToInt] at *) <;> omega))))))))))
set_option maxRecDepth 4000 in
theorem w_X12_canBe {b0 : SS} {s0 : SS} {a0 : Int32} {a1 : Int32} {a2 : Int32} (K : Lk b0 s0) : Ok (f_X12_canBe s0 a0 a1 a2) (fun _ => True) := by
  unfold f_X12_canBe
  repeat' (first
    | with_reducible assumption
    | (with_reducible show Ok _ _; first | dsimp only | with_reducible refine Ok_some ?_ | with_reducible refine Lk_G120 (by assumption) ?_ (fun _ _ _ _ _ => ?_) | with_reducible refine Ok_gd ?_ (fun _ => ?_) | with_reducible refine Ok_jn ?_ | with_reducible refine Ok_b1 ?_ | with_reducible refine Ok_ift (by decide) ?_ | with_reducible refine Ok_iff (by decide) ?_ | with_reducible refine Ok_if (fun _ => ?_) (fun _ => ?_) | with_reducible refine Ok.mono (w_X12_isHole (b0 := b0) ?_) (fun _ _ => ?_) | with_reducible refine Ok.mono (w_X12_in ) (fun _ _ => ?_) | with_reducible refine Ok.mono (w_X12_canBeAt (b0 := b0) ?_ ?_ ?_) (fun _ _ => ?_))
    | dsimp only
    | with_reducible refine And.intro ?_ ?_)
  all_goals (try (first | with_reducible assumption | exact trivial | omega | ((try clear ih); (try clear hr); (try clear hq0); (try clear hq1); (try clear hrec); ((try simp only [inB, jlt, jeq, Int32.reduceToInt, jn1, Nat.reduceEqDiff, Nat.reduceAdd, Nat.reduceMul, ite_true, ite_false, and_true, true_and, and_false, false_and, true_or, or_true, false_or, or_false, not_true_eq_false, not_false_eq_true, reduceIte, reduceCtorEq, eq_self] at *) <;> (first | omega | ((try simp (disch := first | omega | (simp (disch := first | omega | (simp (disch := first | omega | (simp only [Int32.reduceToInt]; omega)) only [Int32.reduceToInt]; omega)) only [Int32.reduceToInt]; omega)) only [Int32.reduceToInt] at *) <;> (first | omega | ((try simp (disch := first | omega | (simp (disch := first | omega | (simp (disch := first | omega | (simp only [Int32.reduceToInt]; omega)) only [Int32.reduceToInt]; omega)) only [Int32.reduceToInt]; omega)) only [Int32.reduceToInt] at *) <;> (first | omega | ((simp only [jadd, jsub, jmul, jneg, Int32.reduceToInt] at *) <;> omega))))))))))
set_option maxRecDepth 4000 in
theorem w_X12_isOldBy_L2 {b0 : SS} {s0 : SS} {y1 : Int32} {y2 : Int32} {Q : Int32 → Prop} (K : Lk b0 s0) (g0 : 0 ≤ y1.toInt ∧ y1.toInt ≤ 7) (hr : ∀ v, Q v) : ∀ (n : Nat) (x3 : Int32), (0 ≤ x3.toInt ∧ x3.toInt ≤ 40) → 40 - x3.toInt < (n : Int) → Ok (f_X12_isOldBy_L2 s0 y1 y2 n x3) Q := by
  intro n
  induction n with
  | zero =>
    intro x3 i0 hm
    exfalso
    (first | with_reducible assumption | omega | ((try clear ih); (try clear hr); (try clear hq0); (try clear hq1); (try clear hrec); ((try simp only [inB, jlt, jeq, Int32.reduceToInt, Nat.reduceEqDiff, Nat.reduceAdd, Nat.reduceMul, ite_true, ite_false, and_true, true_and, and_false, false_and, true_or, or_true, false_or, or_false, not_true_eq_false, not_false_eq_true, reduceIte, reduceCtorEq, eq_self] at *) <;> (first | omega | ((try simp (disch := first | omega | (simp (disch := first | omega | (simp (disch := first | omega | (simp only [Int32.reduceToInt]; omega)) only [i32_add, i32_sub, i32_mul, Int32.reduceToInt]; omega)) only [i32_add, i32_sub, i32_mul, Int32.reduceToInt]; omega)) only [i32_add, i32_sub, i32_mul, Int32.reduceToInt] at *) <;> (first | omega | ((try simp (disch := first | omega | (simp (disch := first | omega | (simp (disch := first | omega | (simp only [Int32.reduceToInt]; omega)) only [i32_add, i32_sub, i32_mul, Int32.reduceToInt]; omega)) only [i32_add, i32_sub, i32_mul, Int32.reduceToInt]; omega)) only [i32_add, i32_sub, i32_mul, Int32.reduceToInt] at *) <;> (first | omega | ((simp only [jadd, jsub, jmul, jneg, Int32.reduceToInt] at *) <;> omega)))))))))
  | succ n ih =>
    intro x3 i0 hm
    show Ok (f_X12_isOldBy_L2_b s0 y1 y2 (f_X12_isOldBy_L2 s0 y1 y2 n) x3) Q
    unfold f_X12_isOldBy_L2_b
    repeat' (first
      | with_reducible assumption
      | (with_reducible show Ok _ _; first | dsimp only | with_reducible refine Ok_some ?_ | with_reducible refine Lk_G8 (by assumption) ?_ (fun _ _ => ?_) | with_reducible refine Ok_gd ?_ (fun _ => ?_) | with_reducible refine Ok_vl ?_ | with_reducible refine Ok_ift (by decide) ?_ | with_reducible refine Ok_iff (by decide) ?_ | with_reducible refine Ok_if (fun _ => ?_) (fun _ => ?_) | with_reducible refine ih _  ?_ ?_)
      | dsimp only
      | with_reducible refine hr _
      | with_reducible refine And.intro ?_ ?_)
    all_goals (try (first | with_reducible assumption | exact trivial | omega | ((try clear ih); (try clear hr); (try clear hq0); (try clear hq1); (try clear hrec); ((try simp only [inB, jlt, jeq, Int32.reduceToInt, Nat.reduceEqDiff, Nat.reduceAdd, Nat.reduceMul, ite_true, ite_false, and_true, true_and, and_false, false_and, true_or, or_true, false_or, or_false, not_true_eq_false, not_false_eq_true, reduceIte, reduceCtorEq, eq_self] at *) <;> (first | omega | ((try simp (disch := first | omega | (simp (disch := first | omega | (simp (disch := first | omega | (simp only [Int32.reduceToInt]; omega)) only [i32_add, i32_sub, i32_mul, Int32.reduceToInt]; omega)) only [i32_add, i32_sub, i32_mul, Int32.reduceToInt]; omega)) only [i32_add, i32_sub, i32_mul, Int32.reduceToInt] at *) <;> (first | omega | ((try simp (disch := first | omega | (simp (disch := first | omega | (simp (disch := first | omega | (simp only [Int32.reduceToInt]; omega)) only [i32_add, i32_sub, i32_mul, Int32.reduceToInt]; omega)) only [i32_add, i32_sub, i32_mul, Int32.reduceToInt]; omega)) only [i32_add, i32_sub, i32_mul, Int32.reduceToInt] at *) <;> (first | omega | ((simp only [jadd, jsub, jmul, jneg, Int32.reduceToInt] at *) <;> omega))))))))))
set_option maxRecDepth 4000 in
theorem w_X12_isOldBy {b0 : SS} {s0 : SS} {a0 : Int32} {a1 : Int32} (K : Lk b0 s0) (g0 : 0 ≤ a0.toInt ∧ a0.toInt ≤ 7) : Ok (f_X12_isOldBy s0 a0 a1) (fun _ => True) := by
  unfold f_X12_isOldBy
  repeat' (first
    | with_reducible assumption
    | dsimp only
    | with_reducible refine w_X12_isOldBy_L2 (b0 := b0) ?_ ?_ (fun _ => ?_) _ _  ?_ ?_
    | with_reducible refine And.intro ?_ ?_)
  all_goals (try (first | with_reducible assumption | exact trivial | omega | ((try clear ih); (try clear hr); (try clear hq0); (try clear hq1); (try clear hrec); ((try simp only [inB, jlt, jeq, Int32.reduceToInt, Nat.reduceEqDiff, Nat.reduceAdd, Nat.reduceMul, ite_true, ite_false, and_true, true_and, and_false, false_and, true_or, or_true, false_or, or_false, not_true_eq_false, not_false_eq_true, reduceIte, reduceCtorEq, eq_self] at *) <;> (first | omega | ((try simp (disch := first | omega | (simp (disch := first | omega | (simp (disch := first | omega | (simp only [Int32.reduceToInt]; omega)) only [i32_sub, Int32.reduceToInt]; omega)) only [i32_sub, Int32.reduceToInt]; omega)) only [i32_sub, Int32.reduceToInt] at *) <;> (first | omega | ((try simp (disch := first | omega | (simp (disch := first | omega | (simp (disch := first | omega | (simp only [Int32.reduceToInt]; omega)) only [i32_sub, Int32.reduceToInt]; omega)) only [i32_sub, Int32.reduceToInt]; omega)) only [i32_sub, Int32.reduceToInt] at *) <;> (first | omega | ((simp only [jadd, jsub, jmul, jneg, Int32.reduceToInt] at *) <;> omega))))))))))
set_option maxRecDepth 4000 in
theorem w_X12_old {b0 : SS} {s0 : SS} {a0 : Int32} {a1 : Int32} (K : Lk b0 s0) : Ok (f_X12_old s0 a0 a1) (fun r => Lk b0 r.2) := by
  unfold f_X12_old
  have f0 := kf_59_30 K
  repeat' (first
    | with_reducible assumption
    | (with_reducible show Ok _ _; first | dsimp only | with_reducible refine Ok_some ?_ | with_reducible refine Lk_G8 (by assumption) ?_ (fun _ _ => ?_) | with_reducible refine Ok_gd ?_ (fun _ => ?_) | with_reducible refine Ok_vl ?_ | with_reducible refine Ok_st ?_ | with_reducible refine Ok_b1 ?_ | with_reducible refine Ok_ift (by decide) ?_ | with_reducible refine Ok_iff (by decide) ?_ | with_reducible refine Ok_if (fun _ => ?_) (fun _ => ?_) | with_reducible refine Ok.mono (w_X12_in ) (fun _ _ => ?_) | with_reducible refine Ok.mono (w_X12_isOldBy (b0 := b0) ?_ ?_) (fun _ _ => ?_) | unfold f_X12_isCell)
    | dsimp only
    | (with_reducible show Lk _ _; first | with_reducible refine Lk.wI ?_ (by decide) (by decide) ?_)
    | with_reducible refine And.intro ?_ ?_)
  all_goals (try (first | with_reducible assumption | exact trivial | omega | ((try clear ih); (try clear hr); (try clear hq0); (try clear hq1); (try clear hrec); ((try simp only [inB, Rg, cellOK, bA, jlt, jeq, jd100, jm100, Int32.reduceToInt, jn1, jn3, zS_pI, zI_pI, zN_pI, Nat.reduceEqDiff, Nat.reduceAdd, Nat.reduceMul, ite_true, ite_false, and_true, true_and, and_false, false_and, true_or, or_true, false_or, or_false, not_true_eq_false, not_false_eq_true, reduceIte, reduceCtorEq, eq_self] at *) <;> (first | omega | ((try simp (disch := first | omega | (simp (disch := first | omega | (simp (disch := first | omega | (simp only [jd100, jm100, Int32.reduceToInt]; omega)) only [i32_add, i32_sub, i32_mul, jd100, jm100, Int32.reduceToInt]; omega)) only [i32_add, i32_sub, i32_mul, jd100, jm100, Int32.reduceToInt]; omega)) only [i32_add, i32_sub, i32_mul, jd100, jm100, Int32.reduceToInt] at *) <;> (first | omega | ((try simp (disch := first | omega | (simp (disch := first | omega | (simp (disch := first | omega | (simp only [jd100, jm100, Int32.reduceToInt]; omega)) only [i32_add, i32_sub, i32_mul, jd100, jm100, Int32.reduceToInt]; omega)) only [i32_add, i32_sub, i32_mul, jd100, jm100, Int32.reduceToInt]; omega)) only [i32_add, i32_sub, i32_mul, jd100, jm100, Int32.reduceToInt] at *) <;> (first | omega | ((simp only [jadd, jsub, jmul, jneg, Int32.reduceToInt] at *) <;> omega))))))))))
set_option maxRecDepth 4000 in
theorem w_X12_isShelterBy {b0 : SS} {s0 : SS} {a0 : Int32} {a1 : Int32} {a2 : Int32} (K : Lk b0 s0) (g0 : 0 ≤ a0.toInt ∧ a0.toInt ≤ 7) : Ok (f_X12_isShelterBy s0 a0 a1 a2) (fun _ => True) := by
  unfold f_X12_isShelterBy
  repeat' (first
    | with_reducible assumption
    | (with_reducible show Ok _ _; first | dsimp only | with_reducible refine Ok_some ?_ | with_reducible refine Lk_G8 (by assumption) ?_ (fun _ _ => ?_) | with_reducible refine Ok_gd ?_ (fun _ => ?_) | with_reducible refine Ok_b1 ?_ | with_reducible refine Ok_ift (by decide) ?_ | with_reducible refine Ok_iff (by decide) ?_ | with_reducible refine Ok_if (fun _ => ?_) (fun _ => ?_) | with_reducible refine Ok.mono (w_X12_in ) (fun _ _ => ?_))
    | dsimp only
    | with_reducible refine And.intro ?_ ?_)
  all_goals (try (first | with_reducible assumption | exact trivial | omega | ((try clear ih); (try clear hr); (try clear hq0); (try clear hq1); (try clear hrec); ((try simp only [inB, jlt, jeq, Int32.reduceToInt, Nat.reduceEqDiff, Nat.reduceAdd, Nat.reduceMul, ite_true, ite_false, and_true, true_and, and_false, false_and, true_or, or_true, false_or, or_false, not_true_eq_false, not_false_eq_true, reduceIte, reduceCtorEq, eq_self] at *) <;> (first | omega | ((try simp (disch := first | omega | (simp (disch := first | omega | (simp (disch := first | omega | (simp only [Int32.reduceToInt]; omega)) only [Int32.reduceToInt]; omega)) only [Int32.reduceToInt]; omega)) only [Int32.reduceToInt] at *) <;> (first | omega | ((try simp (disch := first | omega | (simp (disch := first | omega | (simp (disch := first | omega | (simp only [Int32.reduceToInt]; omega)) only [Int32.reduceToInt]; omega)) only [Int32.reduceToInt]; omega)) only [Int32.reduceToInt] at *) <;> (first | omega | ((simp only [jadd, jsub, jmul, jneg, Int32.reduceToInt] at *) <;> omega))))))))))
set_option maxRecDepth 4000 in
theorem w_X12_isUnlike_L22 {b0 : SS} {s0 : SS} {y1 : Int32} {y2 : Int32} {y3 : Int32} {y4 : Int32} {Q : Int32 → Prop} (K : Lk b0 s0) (g0 : 0 ≤ y1.toInt ∧ y1.toInt ≤ 7) (g1 : 0 ≤ y2.toInt ∧ y2.toInt ≤ 119) (g2 : 1 ≤ y3.toInt ∧ y3.toInt ≤ 60) (hr : ∀ v, Q v) : ∀ (n : Nat) (x5 : Int32), (0 ≤ x5.toInt ∧ x5.toInt ≤ 32) → 32 - x5.toInt < (n : Int) → Ok (f_X12_isUnlike_L22 s0 y1 y2 y3 y4 n x5) Q := by
  intro n
  induction n with
  | zero =>
    intro x5 i0 hm
    exfalso
    (first | with_reducible assumption | omega | ((try clear ih); (try clear hr); (try clear hq0); (try clear hq1); (try clear hrec); ((try simp only [inB, jlt, jeq, Int32.reduceToInt, Nat.reduceEqDiff, Nat.reduceAdd, Nat.reduceMul, ite_true, ite_false, and_true, true_and, and_false, false_and, true_or, or_true, false_or, or_false, not_true_eq_false, not_false_eq_true, reduceIte, reduceCtorEq, eq_self] at *) <;> (first | omega | ((try simp (disch := first | omega | (simp (disch := first | omega | (simp (disch := first | omega | (simp only [Int32.reduceToInt]; omega)) only [i32_add, i32_sub, i32_mul, Int32.reduceToInt]; omega)) only [i32_add, i32_sub, i32_mul, Int32.reduceToInt]; omega)) only [i32_add, i32_sub, i32_mul, Int32.reduceToInt] at *) <;> (first | omega | ((try simp (disch := first | omega | (simp (disch := first | omega | (simp (disch := first | omega | (simp only [Int32.reduceToInt]; omega)) only [i32_add, i32_sub, i32_mul, Int32.reduceToInt]; omega)) only [i32_add, i32_sub, i32_mul, Int32.reduceToInt]; omega)) only [i32_add, i32_sub, i32_mul, Int32.reduceToInt] at *) <;> (first | omega | ((simp only [jadd, jsub, jmul, jneg, Int32.reduceToInt] at *) <;> omega)))))))))
  | succ n ih =>
    intro x5 i0 hm
    show Ok (f_X12_isUnlike_L22_b s0 y1 y2 y3 y4 (f_X12_isUnlike_L22 s0 y1 y2 y3 y4 n) x5) Q
    unfold f_X12_isUnlike_L22_b
    repeat' (first
      | with_reducible assumption
      | (with_reducible show Ok _ _; first | dsimp only | with_reducible refine Ok_jn0 ?_ (fun _ _ => ?_) | with_reducible refine Ok_jn1 (fun _ => ?_) (fun _ _ => ?_) | with_reducible refine Ok_jn2 (fun _ _ => ?_) (fun _ _ => ?_) | with_reducible refine Ok_jnS (b0 := b0) (fun _ _ => ?_) (fun _ _ => ?_) | with_reducible refine Ok_jnS1 (b0 := b0) (fun _ _ _ => ?_) (fun _ _ => ?_) | with_reducible refine Ok_jnS2 (b0 := b0) (fun _ _ _ _ => ?_) (fun _ _ => ?_) | with_reducible refine Ok_k1 (by assumption) _ | with_reducible refine Ok_k2 (by assumption) _ _ | with_reducible refine Ok_kS (b0 := b0) (by assumption) ?_ | with_reducible refine Ok_kS1 (b0 := b0) (by assumption) ?_ | with_reducible refine Ok_kS2 (b0 := b0) (by assumption) ?_ | with_reducible refine Ok_some ?_ | with_reducible refine Ok_vl ?_ | with_reducible refine Ok_jn ?_ | with_reducible refine Ok_b1 ?_ | with_reducible refine Ok_ift (by decide) ?_ | with_reducible refine Ok_iff (by decide) ?_ | with_reducible refine Ok_if (fun _ => ?_) (fun _ => ?_) | with_reducible refine ih _  ?_ ?_ | with_reducible refine Ok.mono (w_X12_canBeAt (b0 := b0) ?_ ?_ ?_) (fun _ _ => ?_) | with_reducible refine Ok.mono (w_X12_isOldBy (b0 := b0) ?_ ?_) (fun _ _ => ?_) | with_reducible refine Ok.mono (w_X12_isShelterBy (b0 := b0) ?_ ?_) (fun _ _ => ?_))
      | dsimp only
      | with_reducible refine hr _
      | with_reducible refine And.intro ?_ ?_)
    all_goals (try (first | with_reducible assumption | exact trivial | omega | ((try clear ih); (try clear hr); (try clear hq0); (try clear hq1); (try clear hrec); ((try simp only [inB, jlt, jeq, Int32.reduceToInt, Nat.reduceEqDiff, Nat.reduceAdd, Nat.reduceMul, ite_true, ite_false, and_true, true_and, and_false, false_and, true_or, or_true, false_or, or_false, not_true_eq_false, not_false_eq_true, reduceIte, reduceCtorEq, eq_self] at *) <;> (first | omega | ((try simp (disch := first | omega | (simp (disch := first | omega | (simp (disch := first | omega | (simp only [Int32.reduceToInt]; omega)) only [i32_add, i32_sub, i32_mul, Int32.reduceToInt]; omega)) only [i32_add, i32_sub, i32_mul, Int32.reduceToInt]; omega)) only [i32_add, i32_sub, i32_mul, Int32.reduceToInt] at *) <;> (first | omega | ((try simp (disch := first | omega | (simp (disch := first | omega | (simp (disch := first | omega | (simp only [Int32.reduceToInt]; omega)) only [i32_add, i32_sub, i32_mul, Int32.reduceToInt]; omega)) only [i32_add, i32_sub, i32_mul, Int32.reduceToInt]; omega)) only [i32_add, i32_sub, i32_mul, Int32.reduceToInt] at *) <;> (first | omega | ((simp only [jadd, jsub, jmul, jneg, Int32.reduceToInt] at *) <;> omega))))))))))
set_option maxRecDepth 4000 in
theorem w_X12_isUnlike {b0 : SS} {s0 : SS} {a0 : Int32} {a1 : Int32} {a2 : Int32} (K : Lk b0 s0) (g0 : 0 ≤ a0.toInt ∧ a0.toInt ≤ 7) (g1 : 0 ≤ a1.toInt ∧ a1.toInt ≤ 119) (g2 : 1 ≤ a2.toInt ∧ a2.toInt ≤ 60) : Ok (f_X12_isUnlike s0 a0 a1 a2) (fun _ => True) := by
  unfold f_X12_isUnlike
  repeat' (first
    | with_reducible assumption
    | (with_reducible show Ok _ _; first | dsimp only | with_reducible refine Ok_gd ?_ (fun _ => ?_) | with_reducible refine Ok_vl ?_ | with_reducible refine Ok_b1 ?_ | with_reducible refine Ok.mono (w_X12_canBeAt (b0 := b0) ?_ ?_ ?_) (fun _ _ => ?_))
    | dsimp only
    | with_reducible refine w_X12_isUnlike_L22 (b0 := b0) ?_ ?_ ?_ ?_ (fun _ => ?_) _ _  ?_ ?_
    | with_reducible refine And.intro ?_ ?_)
  all_goals (try (first | with_reducible assumption | exact trivial | omega | ((try clear ih); (try clear hr); (try clear hq0); (try clear hq1); (try clear hrec); ((try simp only [inB, jlt, jeq, Int32.reduceToInt, Nat.reduceEqDiff, Nat.reduceAdd, Nat.reduceMul, ite_true, ite_false, and_true, true_and, and_false, false_and, true_or, or_true, false_or, or_false, not_true_eq_false, not_false_eq_true, reduceIte, reduceCtorEq, eq_self] at *) <;> (first | omega | ((try simp (disch := first | omega | (simp (disch := first | omega | (simp (disch := first | omega | (simp only [Int32.reduceToInt]; omega)) only [i32_add, i32_sub, i32_mul, Int32.reduceToInt]; omega)) only [i32_add, i32_sub, i32_mul, Int32.reduceToInt]; omega)) only [i32_add, i32_sub, i32_mul, Int32.reduceToInt] at *) <;> (first | omega | ((try simp (disch := first | omega | (simp (disch := first | omega | (simp (disch := first | omega | (simp only [Int32.reduceToInt]; omega)) only [i32_add, i32_sub, i32_mul, Int32.reduceToInt]; omega)) only [i32_add, i32_sub, i32_mul, Int32.reduceToInt]; omega)) only [i32_add, i32_sub, i32_mul, Int32.reduceToInt] at *) <;> (first | omega | ((simp only [jadd, jsub, jmul, jneg, Int32.reduceToInt] at *) <;> omega))))))))))
set_option maxRecDepth 4000 in
theorem w_X12_wrongBy_L23 {b0 : SS} {q0 : Option Int32} {s0 : SS} {y1 : Int32} {y2 : Int32} {Q : Int32 → Prop} (K : Lk b0 s0) (g0 : 0 ≤ y1.toInt ∧ y1.toInt ≤ 7) (g1 : 0 ≤ y2.toInt ∧ y2.toInt ≤ 119) (hr : ∀ v, Q v) (hq0 : Ok (q0) Q) : ∀ (n : Nat) (x3 : Int32), (1 ≤ x3.toInt ∧ x3.toInt ≤ 61) → 61 - x3.toInt < (n : Int) → Ok (f_X12_wrongBy_L23 q0 s0 y1 y2 n x3) Q := by
  intro n
  induction n with
  | zero =>
    intro x3 i0 hm
    exfalso
    (first | with_reducible assumption | omega | ((try clear ih); (try clear hr); (try clear hq0); (try clear hq1); (try clear hrec); ((try simp only [inB, jlt, jeq, Int32.reduceToInt, Nat.reduceEqDiff, Nat.reduceAdd, Nat.reduceMul, ite_true, ite_false, and_true, true_and, and_false, false_and, true_or, or_true, false_or, or_false, not_true_eq_false, not_false_eq_true, reduceIte, reduceCtorEq, eq_self] at *) <;> (first | omega | ((try simp (disch := first | omega | (simp (disch := first | omega | (simp (disch := first | omega | (simp only [Int32.reduceToInt]; omega)) only [i32_add, i32_sub, i32_mul, Int32.reduceToInt]; omega)) only [i32_add, i32_sub, i32_mul, Int32.reduceToInt]; omega)) only [i32_add, i32_sub, i32_mul, Int32.reduceToInt] at *) <;> (first | omega | ((try simp (disch := first | omega | (simp (disch := first | omega | (simp (disch := first | omega | (simp only [Int32.reduceToInt]; omega)) only [i32_add, i32_sub, i32_mul, Int32.reduceToInt]; omega)) only [i32_add, i32_sub, i32_mul, Int32.reduceToInt]; omega)) only [i32_add, i32_sub, i32_mul, Int32.reduceToInt] at *) <;> (first | omega | ((simp only [jadd, jsub, jmul, jneg, Int32.reduceToInt] at *) <;> omega)))))))))
  | succ n ih =>
    intro x3 i0 hm
    show Ok (f_X12_wrongBy_L23_b q0 s0 y1 y2 (f_X12_wrongBy_L23 q0 s0 y1 y2 n) x3) Q
    unfold f_X12_wrongBy_L23_b
    repeat' (first
      | with_reducible assumption
      | (with_reducible show Ok _ _; first | dsimp only | with_reducible refine Ok_some ?_ | with_reducible refine Lk_G120 (by assumption) ?_ (fun _ _ _ _ _ => ?_) | with_reducible refine Ok_gd ?_ (fun _ => ?_) | with_reducible refine Ok_vl ?_ | with_reducible refine Ok_b1 ?_ | with_reducible refine Ok_ift (by decide) ?_ | with_reducible refine Ok_iff (by decide) ?_ | with_reducible refine Ok_if (fun _ => ?_) (fun _ => ?_) | with_reducible refine ih _  ?_ ?_ | with_reducible refine Ok.mono (w_X12_isUnlike (b0 := b0) ?_ ?_ ?_ ?_) (fun _ _ => ?_))
      | dsimp only
      | exact hq0
      | with_reducible refine hr _
      | with_reducible refine And.intro ?_ ?_)
    all_goals (try (first | with_reducible assumption | exact trivial | omega | ((try clear ih); (try clear hr); (try clear hq0); (try clear hq1); (try clear hrec); ((try simp only [inB, jlt, jeq, Int32.reduceToInt, Nat.reduceEqDiff, Nat.reduceAdd, Nat.reduceMul, ite_true, ite_false, and_true, true_and, and_false, false_and, true_or, or_true, false_or, or_false, not_true_eq_false, not_false_eq_true, reduceIte, reduceCtorEq, eq_self] at *) <;> (first | omega | ((try simp (disch := first | omega | (simp (disch := first | omega | (simp (disch := first | omega | (simp only [Int32.reduceToInt]; omega)) only [i32_add, i32_sub, i32_mul, Int32.reduceToInt]; omega)) only [i32_add, i32_sub, i32_mul, Int32.reduceToInt]; omega)) only [i32_add, i32_sub, i32_mul, Int32.reduceToInt] at *) <;> (first | omega | ((try simp (disch := first | omega | (simp (disch := first | omega | (simp (disch := first | omega | (simp only [Int32.reduceToInt]; omega)) only [i32_add, i32_sub, i32_mul, Int32.reduceToInt]; omega)) only [i32_add, i32_sub, i32_mul, Int32.reduceToInt]; omega)) only [i32_add, i32_sub, i32_mul, Int32.reduceToInt] at *) <;> (first | omega | ((simp only [jadd, jsub, jmul, jneg, Int32.reduceToInt] at *) <;> omega))))))))))
set_option maxRecDepth 4000 in
theorem w_X12_wrongBy_L2 {b0 : SS} {s0 : SS} {y1 : Int32} {Q : Int32 → Prop} (K : Lk b0 s0) (g0 : 0 ≤ y1.toInt ∧ y1.toInt ≤ 7) (hr : ∀ v, Q v) : ∀ (n : Nat) (x2 : Int32), (0 ≤ x2.toInt ∧ x2.toInt ≤ 120) → 120 - x2.toInt < (n : Int) → Ok (f_X12_wrongBy_L2 s0 y1 n x2) Q := by
  intro n
  induction n with
  | zero =>
    intro x2 i0 hm
    exfalso
    (first | with_reducible assumption | omega | ((try clear ih); (try clear hr); (try clear hq0); (try clear hq1); (try clear hrec); ((try simp only [inB, jlt, jeq, Int32.reduceToInt, jn2, Nat.reduceEqDiff, Nat.reduceAdd, Nat.reduceMul, ite_true, ite_false, and_true, true_and, and_false, false_and, true_or, or_true, false_or, or_false, not_true_eq_false, not_false_eq_true, reduceIte, reduceCtorEq, eq_self] at *) <;> (first | omega | ((try simp (disch := first | omega | (simp (disch := first | omega | (simp (disch := first | omega | (simp only [Int32.reduceToInt]; omega)) only [i32_add, i32_sub, Int32.reduceToInt]; omega)) only [i32_add, i32_sub, Int32.reduceToInt]; omega)) only [i32_add, i32_sub, Int32.reduceToInt] at *) <;> (first | omega | ((try simp (disch := first | omega | (simp (disch := first | omega | (simp (disch := first | omega | (simp only [Int32.reduceToInt]; omega)) only [i32_add, i32_sub, Int32.reduceToInt]; omega)) only [i32_add, i32_sub, Int32.reduceToInt]; omega)) only [i32_add, i32_sub, Int32.reduceToInt] at *) <;> (first | omega | ((simp only [jadd, jsub, jmul, jneg, Int32.reduceToInt] at *) <;> omega)))))))))
  | succ n ih =>
    intro x2 i0 hm
    show Ok (f_X12_wrongBy_L2_b s0 y1 (f_X12_wrongBy_L2 s0 y1 n) x2) Q
    unfold f_X12_wrongBy_L2_b
    have f0 := kf_59_4 K
    repeat' (first
      | with_reducible assumption
      | (with_reducible show Ok _ _; first | dsimp only | with_reducible refine Ok_jn0 ?_ (fun _ _ => ?_) | with_reducible refine Ok_jn1 (fun _ => ?_) (fun _ _ => ?_) | with_reducible refine Ok_jn2 (fun _ _ => ?_) (fun _ _ => ?_) | with_reducible refine Ok_jnS (b0 := b0) (fun _ _ => ?_) (fun _ _ => ?_) | with_reducible refine Ok_jnS1 (b0 := b0) (fun _ _ _ => ?_) (fun _ _ => ?_) | with_reducible refine Ok_jnS2 (b0 := b0) (fun _ _ _ _ => ?_) (fun _ _ => ?_) | with_reducible refine Ok_k1 (by assumption) _ | with_reducible refine Ok_k2 (by assumption) _ _ | with_reducible refine Ok_kS (b0 := b0) (by assumption) ?_ | with_reducible refine Ok_kS1 (b0 := b0) (by assumption) ?_ | with_reducible refine Ok_kS2 (b0 := b0) (by assumption) ?_ | with_reducible refine Ok_some ?_ | with_reducible refine Ok_vl ?_ | with_reducible refine Ok_jn ?_ | with_reducible refine Ok_b1 ?_ | with_reducible refine Ok_ift (by decide) ?_ | with_reducible refine Ok_iff (by decide) ?_ | with_reducible refine Ok_if (fun _ => ?_) (fun _ => ?_) | with_reducible refine ih _  ?_ ?_ | with_reducible refine Ok.mono (w_X12_isHole (b0 := b0) ?_) (fun _ _ => ?_))
      | dsimp only
      | with_reducible refine hr _
      | with_reducible refine w_X12_wrongBy_L23 (b0 := b0) ?_ ?_ ?_ (fun _ => ?_) ?_ _ _  ?_ ?_
      | with_reducible refine And.intro ?_ ?_)
    all_goals (try (first | with_reducible assumption | exact trivial | omega | ((try clear ih); (try clear hr); (try clear hq0); (try clear hq1); (try clear hrec); ((try simp only [inB, jlt, jeq, Int32.reduceToInt, jn2, Nat.reduceEqDiff, Nat.reduceAdd, Nat.reduceMul, ite_true, ite_false, and_true, true_and, and_false, false_and, true_or, or_true, false_or, or_false, not_true_eq_false, not_false_eq_true, reduceIte, reduceCtorEq, eq_self] at *) <;> (first | omega | ((try simp (disch := first | omega | (simp (disch := first | omega | (simp (disch := first | omega | (simp only [Int32.reduceToInt]; omega)) only [i32_add, i32_sub, Int32.reduceToInt]; omega)) only [i32_add, i32_sub, Int32.reduceToInt]; omega)) only [i32_add, i32_sub, Int32.reduceToInt] at *) <;> (first | omega | ((try simp (disch := first | omega | (simp (disch := first | omega | (simp (disch := first | omega | (simp only [Int32.reduceToInt]; omega)) only [i32_add, i32_sub, Int32.reduceToInt]; omega)) only [i32_add, i32_sub, Int32.reduceToInt]; omega)) only [i32_add, i32_sub, Int32.reduceToInt] at *) <;> (first | omega | ((simp only [jadd, jsub, jmul, jneg, Int32.reduceToInt] at *) <;> omega))))))))))
set_option maxRecDepth 4000 in
theorem w_X12_wrongBy {b0 : SS} {s0 : SS} {a0 : Int32} (K : Lk b0 s0) (g0 : 0 ≤ a0.toInt ∧ a0.toInt ≤ 7) : Ok (f_X12_wrongBy s0 a0) (fun _ => True) := by
  unfold f_X12_wrongBy
  repeat' (first
    | with_reducible assumption
    | dsimp only
    | with_reducible refine w_X12_wrongBy_L2 (b0 := b0) ?_ ?_ (fun _ => ?_) _ _  ?_ ?_
    | with_reducible refine And.intro ?_ ?_)
  all_goals (try (first | with_reducible assumption | exact trivial | omega | ((try clear ih); (try clear hr); (try clear hq0); (try clear hq1); (try clear hrec); ((try simp only [inB, jlt, jeq, Int32.reduceToInt, Nat.reduceEqDiff, Nat.reduceAdd, Nat.reduceMul, ite_true, ite_false, and_true, true_and, and_false, false_and, true_or, or_true, false_or, or_false, not_true_eq_false, not_false_eq_true, reduceIte, reduceCtorEq, eq_self] at *) <;> (first | omega | ((try simp (disch := first | omega | (simp (disch := first | omega | (simp (disch := first | omega | (simp only [Int32.reduceToInt]; omega)) only [i32_sub, Int32.reduceToInt]; omega)) only [i32_sub, Int32.reduceToInt]; omega)) only [i32_sub, Int32.reduceToInt] at *) <;> (first | omega | ((try simp (disch := first | omega | (simp (disch := first | omega | (simp (disch := first | omega | (simp only [Int32.reduceToInt]; omega)) only [i32_sub, Int32.reduceToInt]; omega)) only [i32_sub, Int32.reduceToInt]; omega)) only [i32_sub, Int32.reduceToInt] at *) <;> (first | omega | ((simp only [jadd, jsub, jmul, jneg, Int32.reduceToInt] at *) <;> omega))))))))))
set_option maxRecDepth 4000 in
theorem w_X12_wrong {b0 : SS} {s0 : SS} {a0 : Int32} (K : Lk b0 s0) : Ok (f_X12_wrong s0 a0) (fun _ => True) := by
  unfold f_X12_wrong
  have f0 := kf_59_30 K
  repeat' (first
    | with_reducible assumption
    | (with_reducible show Ok _ _; first | dsimp only | with_reducible refine Ok_some ?_ | with_reducible refine Ok_b1 ?_ | with_reducible refine Ok_ift (by decide) ?_ | with_reducible refine Ok_iff (by decide) ?_ | with_reducible refine Ok_if (fun _ => ?_) (fun _ => ?_) | with_reducible refine Ok.mono (w_X12_in ) (fun _ _ => ?_) | with_reducible refine Ok.mono (w_X12_wrongBy (b0 := b0) ?_ ?_) (fun _ _ => ?_))
    | dsimp only
    | with_reducible refine And.intro ?_ ?_)
  all_goals (try (first | with_reducible assumption | exact trivial | omega | ((try clear ih); (try clear hr); (try clear hq0); (try clear hq1); (try clear hrec); ((try simp only [inB, jlt, jeq, Int32.reduceToInt, jn1, Nat.reduceEqDiff, Nat.reduceAdd, Nat.reduceMul, ite_true, ite_false, and_true, true_and, and_false, false_and, true_or, or_true, false_or, or_false, not_true_eq_false, not_false_eq_true, reduceIte, reduceCtorEq, eq_self] at *) <;> (first | omega | ((try simp (disch := first | omega | (simp (disch := first | omega | (simp (disch := first | omega | (simp only [Int32.reduceToInt]; omega)) only [i32_sub, Int32.reduceToInt]; omega)) only [i32_sub, Int32.reduceToInt]; omega)) only [i32_sub, Int32.reduceToInt] at *) <;> (first | omega | ((try simp (disch := first | omega | (simp (disch := first | omega | (simp (disch := first | omega | (simp only [Int32.reduceToInt]; omega)) only [i32_sub, Int32.reduceToInt]; omega)) only [i32_sub, Int32.reduceToInt]; omega)) only [i32_sub, Int32.reduceToInt] at *) <;> (first | omega | ((simp only [jadd, jsub, jmul, jneg, Int32.reduceToInt] at *) <;> omega))))))))))
set_option maxRecDepth 4000 in
theorem w_X12_known_L33 {b0 : SS} {q0 : Int32 → Int32 → Int32 → Int32 → Int32 → Int32 → Option Int32} {s0 : SS} {y1 : Int32} {Q : Int32 → Prop} (K : Lk b0 s0) (hq0 : ∀ (z0 : Int32) (z1 : Int32) (z2 : Int32) (z3 : Int32) (z4 : Int32) (z5 : Int32), Ok (q0 z0 z1 z2 z3 z4 z5) Q) : ∀ (n : Nat) (x2 : Int32) (x3 : Int32) (x4 : Int32) (x5 : Int32) (x6 : Int32) (x7 : Int32) (x8 : Int32), (0 ≤ x8.toInt ∧ x8.toInt ≤ 8) → 8 - x8.toInt < (n : Int) → Ok (f_X12_known_L33 q0 s0 y1 n x2 x3 x4 x5 x6 x7 x8) Q := by
  intro n
  induction n with
  | zero =>
    intro x2 x3 x4 x5 x6 x7 x8 i0 hm
    exfalso
    (first | with_reducible assumption | omega | ((try clear ih); (try clear hr); (try clear hq0); (try clear hq1); (try clear hrec); ((try simp only [inB, jlt, jeq, Int32.reduceToInt, jn2, Nat.reduceEqDiff, Nat.reduceAdd, Nat.reduceMul, ite_true, ite_false, and_true, true_and, and_false, false_and, true_or, or_true, false_or, or_false, not_true_eq_false, not_false_eq_true, reduceIte, reduceCtorEq, eq_self] at *) <;> (first | omega | ((try simp (disch := first | omega | (simp (disch := first | omega | (simp (disch := first | omega | (simp only [Int32.reduceToInt]; omega)) only [i32_add, i32_sub, Int32.reduceToInt]; omega)) only [i32_add, i32_sub, Int32.reduceToInt]; omega)) only [i32_add, i32_sub, Int32.reduceToInt] at *) <;> (first | omega | ((try simp (disch := first | omega | (simp (disch := first | omega | (simp (disch := first | omega | (simp only [Int32.reduceToInt]; omega)) only [i32_add, i32_sub, Int32.reduceToInt]; omega)) only [i32_add, i32_sub, Int32.reduceToInt]; omega)) only [i32_add, i32_sub, Int32.reduceToInt] at *) <;> (first | omega | ((simp only [jadd, jsub, jmul, jneg, Int32.reduceToInt] at *) <;> omega)))))))))
  | succ n ih =>
    intro x2 x3 x4 x5 x6 x7 x8 i0 hm
    show Ok (f_X12_known_L33_b q0 s0 y1 (f_X12_known_L33 q0 s0 y1 n) x2 x3 x4 x5 x6 x7 x8) Q
    unfold f_X12_known_L33_b
    have f0 := kf_59_30 K
    repeat' (first
      | with_reducible assumption
      | (with_reducible show Ok _ _; first | dsimp only | with_reducible refine Ok_jn0 ?_ (fun _ _ => ?_) | with_reducible refine Ok_jn1 (fun _ => ?_) (fun _ _ => ?_) | with_reducible refine Ok_jn2 (fun _ _ => ?_) (fun _ _ => ?_) | with_reducible refine Ok_jnS (b0 := b0) (fun _ _ => ?_) (fun _ _ => ?_) | with_reducible refine Ok_jnS1 (b0 := b0) (fun _ _ _ => ?_) (fun _ _ => ?_) | with_reducible refine Ok_jnS2 (b0 := b0) (fun _ _ _ _ => ?_) (fun _ _ => ?_) | with_reducible refine Ok_k1 (by assumption) _ | with_reducible refine Ok_k2 (by assumption) _ _ | with_reducible refine Ok_kS (b0 := b0) (by assumption) ?_ | with_reducible refine Ok_kS1 (b0 := b0) (by assumption) ?_ | with_reducible refine Ok_kS2 (b0 := b0) (by assumption) ?_ | with_reducible refine Lk_G8 (by assumption) ?_ (fun _ _ => ?_) | with_reducible refine Ok_gd ?_ (fun _ => ?_) | with_reducible refine Ok_vl ?_ | with_reducible refine Ok_jn ?_ | with_reducible refine Ok_b1 ?_ | with_reducible refine Ok_ift (by decide) ?_ | with_reducible refine Ok_iff (by decide) ?_ | with_reducible refine Ok_if (fun _ => ?_) (fun _ => ?_) | with_reducible refine ih _ _ _ _ _ _ _  ?_ ?_ | with_reducible refine hq0 _ _ _ _ _ _ | with_reducible refine Ok.mono (w_X12_wrongBy (b0 := b0) ?_ ?_) (fun _ _ => ?_))
      | dsimp only
      | with_reducible refine And.intro ?_ ?_)
    all_goals (try (first | with_reducible assumption | exact trivial | omega | ((try clear ih); (try clear hr); (try clear hq0); (try clear hq1); (try clear hrec); ((try simp only [inB, jlt, jeq, Int32.reduceToInt, jn2, Nat.reduceEqDiff, Nat.reduceAdd, Nat.reduceMul, ite_true, ite_false, and_true, true_and, and_false, false_and, true_or, or_true, false_or, or_false, not_true_eq_false, not_false_eq_true, reduceIte, reduceCtorEq, eq_self] at *) <;> (first | omega | ((try simp (disch := first | omega | (simp (disch := first | omega | (simp (disch := first | omega | (simp only [Int32.reduceToInt]; omega)) only [i32_add, i32_sub, Int32.reduceToInt]; omega)) only [i32_add, i32_sub, Int32.reduceToInt]; omega)) only [i32_add, i32_sub, Int32.reduceToInt] at *) <;> (first | omega | ((try simp (disch := first | omega | (simp (disch := first | omega | (simp (disch := first | omega | (simp only [Int32.reduceToInt]; omega)) only [i32_add, i32_sub, Int32.reduceToInt]; omega)) only [i32_add, i32_sub, Int32.reduceToInt]; omega)) only [i32_add, i32_sub, Int32.reduceToInt] at *) <;> (first | omega | ((simp only [jadd, jsub, jmul, jneg, Int32.reduceToInt] at *) <;> omega))))))))))
set_option maxRecDepth 4000 in
theorem w_X12_known {b0 : SS} {s0 : SS} {a0 : Int32} (K : Lk b0 s0) : Ok (f_X12_known s0 a0) (fun _ => True) := by
  unfold f_X12_known
  repeat' (first
    | with_reducible assumption
    | (with_reducible show Ok _ _; first | dsimp only | with_reducible refine Ok_some ?_ | with_reducible refine Ok_b1 ?_ | with_reducible refine Ok_ift (by decide) ?_ | with_reducible refine Ok_iff (by decide) ?_ | with_reducible refine Ok_if (fun _ => ?_) (fun _ => ?_) | with_reducible refine Ok.mono (w_X12_in ) (fun _ _ => ?_))
    | dsimp only
    | with_reducible refine w_X12_known_L33 (b0 := b0) ?_ (fun _ _ _ _ _ _ => ?_) _ _ _ _ _ _ _ _  ?_ ?_
    | with_reducible refine And.intro ?_ ?_)
  all_goals (try (first | with_reducible assumption | exact trivial | omega | ((try clear ih); (try clear hr); (try clear hq0); (try clear hq1); (try clear hrec); ((try simp only [inB, jlt, jeq, Int32.reduceToInt, jn1, jn2, Nat.reduceEqDiff, Nat.reduceAdd, Nat.reduceMul, ite_true, ite_false, and_true, true_and, and_false, false_and, true_or, or_true, false_or, or_false, not_true_eq_false, not_false_eq_true, reduceIte, reduceCtorEq, eq_self] at *) <;> (first | omega | ((try simp (disch := first | omega | (simp (disch := first | omega | (simp (disch := first | omega | (simp only [Int32.reduceToInt]; omega)) only [i32_sub, Int32.reduceToInt]; omega)) only [i32_sub, Int32.reduceToInt]; omega)) only [i32_sub, Int32.reduceToInt] at *) <;> (first | omega | ((try simp (disch := first | omega | (simp (disch := first | omega | (simp (disch := first | omega | (simp only [Int32.reduceToInt]; omega)) only [i32_sub, Int32.reduceToInt]; omega)) only [i32_sub, Int32.reduceToInt]; omega)) only [i32_sub, Int32.reduceToInt] at *) <;> (first | omega | ((simp only [jadd, jsub, jmul, jneg, Int32.reduceToInt] at *) <;> omega))))))))))
set_option maxRecDepth 4000 in
theorem w_X12_look {b0 : SS} {s0 : SS} (K : Lk b0 s0) (g0 : Ps s0) : Ok (f_X12_look s0) (fun r => r.toInt = -1 ∨ (zS s0 59 47).toInt < (zS s0 59 37).toInt) := by
  unfold f_X12_look
  have f0 := kf_59_37 K
  repeat' (first
    | with_reducible assumption
    | (with_reducible show Ok _ _; first | dsimp only | with_reducible refine Ok_some ?_ | with_reducible refine Ok_gd ?_ (fun _ => ?_) | with_reducible refine Ok_vl ?_ | with_reducible refine Ok_ift (by decide) ?_ | with_reducible refine Ok_iff (by decide) ?_ | with_reducible refine Ok_if (fun _ => ?_) (fun _ => ?_))
    | dsimp only
    | with_reducible refine And.intro ?_ ?_)
  all_goals (try (first | with_reducible assumption | exact trivial | omega | ((try clear ih); (try clear hr); (try clear hq0); (try clear hq1); (try clear hrec); ((try simp only [inB, Ps, jlt, jeq, Int32.reduceToInt, jn1, Nat.reduceEqDiff, Nat.reduceAdd, Nat.reduceMul, ite_true, ite_false, and_true, true_and, and_false, false_and, true_or, or_true, false_or, or_false, not_true_eq_false, not_false_eq_true, reduceIte, reduceCtorEq, eq_self] at *) <;> (first | omega | ((try simp (disch := first | omega | (simp (disch := first | omega | (simp (disch := first | omega | (simp only [Int32.reduceToInt]; omega)) only [Int32.reduceToInt]; omega)) only [Int32.reduceToInt]; omega)) only [Int32.reduceToInt] at *) <;> (first | omega | ((try simp (disch := first | omega | (simp (disch := first | omega | (simp (disch := first | omega | (simp only [Int32.reduceToInt]; omega)) only [Int32.reduceToInt]; omega)) only [Int32.reduceToInt]; omega)) only [Int32.reduceToInt] at *) <;> (first | omega | ((simp only [jadd, jsub, jmul, jneg, Int32.reduceToInt] at *) <;> omega))))))))))
set_option maxRecDepth 4000 in
theorem w_X12_faultHere {b0 : SS} {s0 : SS} (K : Lk b0 s0) (g0 : Ps s0) : Ok (f_X12_faultHere s0) (fun r => Lk b0 r ∧ (Px s0 r ∧ (zS r 59 49).toInt = (zS s0 59 49).toInt ∧ (zS r 59 47).toInt = (zS s0 59 47).toInt ∧ (zS r 59 51).toInt = (zS s0 59 51).toInt ∧ 0 ≤ (zS r 59 48).toInt)) := by
  unfold f_X12_faultHere
  repeat' (first
    | with_reducible assumption
    | (with_reducible show Ok _ _; first | dsimp only | with_reducible refine Ok_some ?_ | with_reducible refine Ok_vl ?_ | with_reducible refine Ok_st ?_ | with_reducible refine Ok_ift (by decide) ?_ | with_reducible refine Ok_iff (by decide) ?_ | with_reducible refine Ok_if (fun _ => ?_) (fun _ => ?_))
    | dsimp only
    | (with_reducible show Lk _ _; first | with_reducible refine Lk.wF ?_ (by decide) (by decide) (by decide) ?_)
    | with_reducible refine And.intro ?_ ?_)
  all_goals (try (first | with_reducible assumption | exact trivial | omega | ((try clear ih); (try clear hr); (try clear hq0); (try clear hq1); (try clear hrec); ((try simp only [inB, Px, Ps, Rg, bF, jlt, jeq, Int32.reduceToInt, zS_pS, zI_pS, zN_pS, Nat.reduceEqDiff, Nat.reduceAdd, Nat.reduceMul, ite_true, ite_false, and_true, true_and, and_false, false_and, true_or, or_true, false_or, or_false, not_true_eq_false, not_false_eq_true, reduceIte, reduceCtorEq, eq_self] at *) <;> (first | omega | ((try simp (disch := first | omega | (simp (disch := first | omega | (simp (disch := first | omega | (simp only [Int32.reduceToInt]; omega)) only [Int32.reduceToInt]; omega)) only [Int32.reduceToInt]; omega)) only [Int32.reduceToInt] at *) <;> (first | omega | ((try simp (disch := first | omega | (simp (disch := first | omega | (simp (disch := first | omega | (simp only [Int32.reduceToInt]; omega)) only [Int32.reduceToInt]; omega)) only [Int32.reduceToInt]; omega)) only [Int32.reduceToInt] at *) <;> (first | omega | ((simp only [jadd, jsub, jmul, jneg, Int32.reduceToInt] at *) <;> omega))))))))))
set_option maxRecDepth 4000 in
theorem w_X12_lay {b0 : SS} {s0 : SS} {a0 : Int32} {a1 : Int32} (K : Lk b0 s0) (g0 : Pr s0) : Ok (f_X12_lay s0 a0 a1) (fun r => Lk b0 r ∧ Pl s0 r) := by
  unfold f_X12_lay
  repeat' (first
    | with_reducible assumption
    | (with_reducible show Ok _ _; first | dsimp only | with_reducible refine Ok_some ?_ | with_reducible refine Ok_gd ?_ (fun _ => ?_) | with_reducible refine Ok_vl ?_ | with_reducible refine Ok_st ?_)
    | dsimp only
    | (with_reducible show Lk _ _; first | with_reducible refine Lk.w93 ?_ ?_ | with_reducible refine Lk.w94 ?_ ?_ | with_reducible refine Lk.w91 ?_ ?_ | with_reducible refine Lk.w92 ?_ ?_ | with_reducible refine Lk.w90 ?_ ?_ | with_reducible refine Lk.wI ?_ (by decide) (by decide) ?_ | with_reducible refine Lk.wF ?_ (by decide) (by decide) (by decide) ?_)
    | with_reducible refine And.intro ?_ ?_)
  all_goals (try (first | with_reducible assumption | exact trivial | omega | ((try clear ih); (try clear hr); (try clear hq0); (try clear hq1); (try clear hrec); ((try simp only [inB, Pr, Pl, Rg, cellOK, bF, bA, jlt, jeq, Int32.reduceToInt, zS_pS, zS_pI, zI_pI, zI_pS, zN_pS, zN_pI, Nat.reduceEqDiff, Nat.reduceAdd, Nat.reduceMul, ite_true, ite_false, and_true, true_and, and_false, false_and, true_or, or_true, false_or, or_false, not_true_eq_false, not_false_eq_true, reduceIte, reduceCtorEq, eq_self] at *) <;> (first | omega | ((try simp (disch := first | omega | (simp (disch := first | omega | (simp (disch := first | omega | (simp only [Int32.reduceToInt]; omega)) only [i32_add, i32_mul, Int32.reduceToInt]; omega)) only [i32_add, i32_mul, Int32.reduceToInt]; omega)) only [i32_add, i32_mul, Int32.reduceToInt] at *) <;> (first | omega | ((try simp (disch := first | omega | (simp (disch := first | omega | (simp (disch := first | omega | (simp only [Int32.reduceToInt]; omega)) only [i32_add, i32_mul, Int32.reduceToInt]; omega)) only [i32_add, i32_mul, Int32.reduceToInt]; omega)) only [i32_add, i32_mul, Int32.reduceToInt] at *) <;> (first | omega | ((simp only [jadd, jsub, jmul, jneg, Int32.reduceToInt] at *) <;> omega))))))))))
set_option maxRecDepth 4000 in
theorem w_X12_opens {b0 : SS} {s0 : SS} (K : Lk b0 s0) (g0 : Ps s0) (g1 : (zS s0 59 47).toInt < (zS s0 59 37).toInt) : Ok (f_X12_opens s0) (fun r => Lk b0 r.2 ∧ (Px s0 r.2 ∧ (0 ≤ r.1.toInt ∧ r.1.toInt ≤ 1) ∧ (zS r.2 59 49).toInt = (zS s0 59 49).toInt + r.1.toInt ∧ (zS r.2 59 47).toInt = (zS s0 59 47).toInt + r.1.toInt ∧ (zS r.2 59 51).toInt = (zS s0 59 51).toInt ∧ (0 ≤ (zS r.2 59 48).toInt ∨ 1 ≤ r.1.toInt) ∧ ((zS s0 59 48).toInt < 0 ∨ 0 ≤ (zS r.2 59 48).toInt)) ∧ Wd 0 s0 r.2) := by
  unfold f_X12_opens
  repeat' (first
    | with_reducible assumption
    | (with_reducible show Ok _ _; first | dsimp only | with_reducible refine Ok_some ?_ | with_reducible refine Ok_vl ?_ | with_reducible refine Ok_st ?_ | with_reducible refine Ok_b1 ?_ | with_reducible refine Ok_ift (by decide) ?_ | with_reducible refine Ok_iff (by decide) ?_ | with_reducible refine Ok_if (fun _ => ?_) (fun _ => ?_) | with_reducible refine Ok.mono (w_X12_faultHere (b0 := b0) ?_ ?_) (fun _ ⟨_, _⟩ => ?_))
    | dsimp only
    | (with_reducible show Lk _ _; first | with_reducible refine Lk.wF ?_ (by decide) (by decide) (by decide) ?_)
    | (with_reducible show Wd _ _ _; first | with_reducible refine Wd.push1 (by assumption) ?_ | with_reducible refine Wd.push2 (by assumption) ?_ ?_ | with_reducible refine Wd.un3 (by assumption) ?_ | with_reducible refine Wd.un4 (by assumption) ?_ | with_reducible refine Wd.op (by assumption) ?_ ?_ | with_reducible refine Wd.pf (by decide) ?_ | with_reducible exact Wd.rf | with_reducible refine Wd.t1 (by assumption) ?_ | with_reducible refine Wd.t2 (by assumption) ?_ | with_reducible refine Wd.t0 (by assumption) ?_ | with_reducible refine Wd.fault ?_)
    | with_reducible refine nm2 (by assumption) (by assumption) (by assumption) (by assumption)
    | with_reducible exact sg38
    | with_reducible exact sg124
    | with_reducible exact sge60 (by assumption)
    | with_reducible exact sge61 (by assumption)
    | with_reducible exact sge62 (by assumption)
    | with_reducible exact sgl42 (by assumption) (by assumption) (by assumption)
    | with_reducible exact sgl47 (by assumption) (by assumption) (by assumption)
    | with_reducible exact sgl37 (by assumption) (by assumption) (by assumption)
    | with_reducible exact sgl43 (by assumption) (by assumption) (by assumption)
    | with_reducible exact sgl45 (by assumption) (by assumption) (by assumption)
    | with_reducible refine And.intro ?_ ?_)
  all_goals (try (first | with_reducible assumption | exact trivial | omega | ((try clear ih); (try clear hr); (try clear hq0); (try clear hq1); (try clear hrec); ((try simp only [inB, Px, Ps, Rg, bF, jlt, jeq, Int32.reduceToInt, zS_pS, zI_pS, zN_pS, Nat.reduceEqDiff, Nat.reduceAdd, Nat.reduceMul, ite_true, ite_false, and_true, true_and, and_false, false_and, true_or, or_true, false_or, or_false, not_true_eq_false, not_false_eq_true, reduceIte, reduceCtorEq, eq_self] at *) <;> (first | omega | ((try simp (disch := first | omega | (simp (disch := first | omega | (simp (disch := first | omega | (simp only [Int32.reduceToInt]; omega)) only [i32_add, Int32.reduceToInt]; omega)) only [i32_add, Int32.reduceToInt]; omega)) only [i32_add, Int32.reduceToInt] at *) <;> (first | omega | ((try simp (disch := first | omega | (simp (disch := first | omega | (simp (disch := first | omega | (simp only [Int32.reduceToInt]; omega)) only [i32_add, Int32.reduceToInt]; omega)) only [i32_add, Int32.reduceToInt]; omega)) only [i32_add, Int32.reduceToInt] at *) <;> (first | omega | ((simp only [jadd, jsub, jmul, jneg, Int32.reduceToInt] at *) <;> omega))))))))))
set_option maxRecDepth 4000 in
theorem w_X12_nameOf {a0 : Int32} : Ok (f_X12_nameOf a0) (fun r => (-1 ≤ r.toInt ∧ r.toInt ≤ 7) ∧ (r.toInt = -1 ∨ ¬ a0.toInt = -1)) := by
  unfold f_X12_nameOf
  repeat' (first
    | with_reducible assumption
    | (with_reducible show Ok _ _; first | dsimp only | with_reducible refine Ok_some ?_ | with_reducible refine Ok_ift (by decide) ?_ | with_reducible refine Ok_iff (by decide) ?_ | with_reducible refine Ok_if (fun _ => ?_) (fun _ => ?_))
    | dsimp only
    | with_reducible refine And.intro ?_ ?_)
  all_goals (try (first | with_reducible assumption | exact trivial | omega | ((try clear ih); (try clear hr); (try clear hq0); (try clear hq1); (try clear hrec); ((try simp only [inB, jlt, jeq, Int32.reduceToInt, jn1, Nat.reduceEqDiff, Nat.reduceAdd, Nat.reduceMul, ite_true, ite_false, and_true, true_and, and_false, false_and, true_or, or_true, false_or, or_false, not_true_eq_false, not_false_eq_true, reduceIte, reduceCtorEq, eq_self] at *) <;> (first | omega | ((try simp (disch := first | omega | (simp (disch := first | omega | (simp (disch := first | omega | (simp only [Int32.reduceToInt]; omega)) only [Int32.reduceToInt]; omega)) only [Int32.reduceToInt]; omega)) only [Int32.reduceToInt] at *) <;> (first | omega | ((try simp (disch := first | omega | (simp (disch := first | omega | (simp (disch := first | omega | (simp only [Int32.reduceToInt]; omega)) only [Int32.reduceToInt]; omega)) only [Int32.reduceToInt]; omega)) only [Int32.reduceToInt] at *) <;> (first | omega | ((simp only [jadd, jsub, jmul, jneg, Int32.reduceToInt] at *) <;> omega))))))))))
set_option maxRecDepth 4000 in
theorem w_X12_product_L4 {b0 : SS} {c0 : SS} {N : Int} {rec : SS → Option SS} {Q : SS → Prop} (hrec : ∀ (s : SS), Lk b0 s → Ps s → 8 - (zS s 59 49).toInt < N → Ok (rec s) (fun r => Lk b0 r ∧ Px s r ∧ Pg s r ∧ Wd 1 s r)) (g0 : 8 - (zS c0 59 49).toInt < N) (hr : ∀ s, Lk b0 s → (Px c0 s ∧ Pg c0 s ∧ Wd 1 c0 s) → Q s) : ∀ (n : Nat) (s : SS), Lk b0 s → (Px c0 s) → (Pg c0 s) → (Wd 1 c0 s) → (zS s 59 37).toInt - (zS s 59 47).toInt < (n : Int) → Ok (f_X12_product_L4 rec n s) Q := by
  intro n
  induction n with
  | zero =>
    intro s K i0 i1 i2 hm
    exfalso
    (first | with_reducible assumption | omega | ((try clear ih); (try clear hr); (try clear hq0); (try clear hq1); (try clear hrec); ((try simp only [inB, Px, Ps, Pr, Pl, Rg, bF, jlt, jeq, Int32.reduceToInt, jn1, zS_pS, zI_pS, zN_pS, Nat.reduceEqDiff, Nat.reduceAdd, Nat.reduceMul, ite_true, ite_false, and_true, true_and, and_false, false_and, true_or, or_true, false_or, or_false, not_true_eq_false, not_false_eq_true, reduceIte, reduceCtorEq, eq_self] at *) <;> (first | omega | ((try simp only [inB, Pg, Px, Ps, Pr, Pl, Rg, bF, jlt, jeq, Int32.reduceToInt, jn1, zS_pS, zI_pS, zN_pS, Nat.reduceEqDiff, Nat.reduceAdd, Nat.reduceMul, ite_true, ite_false, and_true, true_and, and_false, false_and, true_or, or_true, false_or, or_false, not_true_eq_false, not_false_eq_true, reduceIte, reduceCtorEq, eq_self] at *) <;> (first | omega | ((try simp (disch := first | omega | (simp (disch := first | omega | (simp (disch := first | omega | (simp only [Int32.reduceToInt]; omega)) only [i32_add, i32_sub, Int32.reduceToInt]; omega)) only [i32_add, i32_sub, Int32.reduceToInt]; omega)) only [i32_add, i32_sub, Int32.reduceToInt] at *) <;> (first | omega | ((try simp (disch := first | omega | (simp (disch := first | omega | (simp (disch := first | omega | (simp only [Int32.reduceToInt]; omega)) only [i32_add, i32_sub, Int32.reduceToInt]; omega)) only [i32_add, i32_sub, Int32.reduceToInt]; omega)) only [i32_add, i32_sub, Int32.reduceToInt] at *) <;> (first | omega | ((simp only [jadd, jsub, jmul, jneg, Int32.reduceToInt] at *) <;> omega)))))))))))
  | succ n ih =>
    intro s K i0 i1 i2 hm
    show Ok (f_X12_product_L4_b rec (f_X12_product_L4 rec n) s) Q
    unfold f_X12_product_L4_b
    repeat' (first
      | with_reducible assumption
      | (with_reducible show Ok _ _; first | dsimp only | with_reducible refine Ok_some ?_ | with_reducible refine Ok_vl ?_ | with_reducible refine Ok_st ?_ | with_reducible refine Ok_jn ?_ | with_reducible refine Ok_b1 ?_ | with_reducible refine Ok_ift (by decide) ?_ | with_reducible refine Ok_iff (by decide) ?_ | with_reducible refine Ok_if (fun _ => ?_) (fun _ => ?_) | with_reducible refine ih _  ?_ ?_ ?_ ?_ ?_ | with_reducible refine Ok.mono (hrec _ ?_ ?_ ?_) (fun _ ⟨_, _, _, _⟩ => ?_) | with_reducible refine Ok.mono (Ok.self (w_X12_look (b0 := b0) ?_ ?_)) (fun _ ⟨_, _⟩ => ?_) | with_reducible refine Ok.mono (Ok.La (w_X12_lay (b0 := b0) ?_ ?_)) (fun _ ⟨⟨_, _⟩, _⟩ => ?_))
      | dsimp only
      | (with_reducible show Lk _ _; first | with_reducible refine Lk.wF ?_ (by decide) (by decide) (by decide) ?_)
      | (with_reducible show Wd _ _ _; first | with_reducible refine Wd.push1 (by assumption) ?_ | with_reducible refine Wd.push2 (by assumption) ?_ ?_ | with_reducible refine Wd.un3 (by assumption) ?_ | with_reducible refine Wd.un4 (by assumption) ?_ | with_reducible refine Wd.op (by assumption) ?_ ?_ | with_reducible refine Wd.pf (by decide) ?_ | with_reducible exact Wd.rf | with_reducible refine Wd.t1 (by assumption) ?_ | with_reducible refine Wd.t2 (by assumption) ?_ | with_reducible refine Wd.t0 (by assumption) ?_ | with_reducible refine Wd.fault ?_)
      | with_reducible refine nm2 (by assumption) (by assumption) (by assumption) (by assumption)
      | with_reducible exact sg38
      | with_reducible exact sg124
      | with_reducible exact sge60 (by assumption)
      | with_reducible exact sge61 (by assumption)
      | with_reducible exact sge62 (by assumption)
      | with_reducible exact sgl42 (by assumption) (by assumption) (by assumption)
      | with_reducible exact sgl47 (by assumption) (by assumption) (by assumption)
      | with_reducible exact sgl37 (by assumption) (by assumption) (by assumption)
      | with_reducible exact sgl43 (by assumption) (by assumption) (by assumption)
      | with_reducible exact sgl45 (by assumption) (by assumption) (by assumption)
      | with_reducible refine hr _ ?_ ?_
      | with_reducible refine And.intro ?_ ?_)
    all_goals (try (first | with_reducible assumption | exact trivial | omega | ((try clear ih); (try clear hr); (try clear hq0); (try clear hq1); (try clear hrec); ((try simp only [inB, Px, Ps, Pr, Pl, Rg, bF, jlt, jeq, Int32.reduceToInt, jn1, zS_pS, zI_pS, zN_pS, Nat.reduceEqDiff, Nat.reduceAdd, Nat.reduceMul, ite_true, ite_false, and_true, true_and, and_false, false_and, true_or, or_true, false_or, or_false, not_true_eq_false, not_false_eq_true, reduceIte, reduceCtorEq, eq_self] at *) <;> (first | omega | ((try simp only [inB, Pg, Px, Ps, Pr, Pl, Rg, bF, jlt, jeq, Int32.reduceToInt, jn1, zS_pS, zI_pS, zN_pS, Nat.reduceEqDiff, Nat.reduceAdd, Nat.reduceMul, ite_true, ite_false, and_true, true_and, and_false, false_and, true_or, or_true, false_or, or_false, not_true_eq_false, not_false_eq_true, reduceIte, reduceCtorEq, eq_self] at *) <;> (first | omega | ((try simp (disch := first | omega | (simp (disch := first | omega | (simp (disch := first | omega | (simp only [Int32.reduceToInt]; omega)) only [i32_add, i32_sub, Int32.reduceToInt]; omega)) only [i32_add, i32_sub, Int32.reduceToInt]; omega)) only [i32_add, i32_sub, Int32.reduceToInt] at *) <;> (first | omega | ((try simp (disch := first | omega | (simp (disch := first | omega | (simp (disch := first | omega | (simp only [Int32.reduceToInt]; omega)) only [i32_add, i32_sub, Int32.reduceToInt]; omega)) only [i32_add, i32_sub, Int32.reduceToInt]; omega)) only [i32_add, i32_sub, Int32.reduceToInt] at *) <;> (first | omega | ((simp only [jadd, jsub, jmul, jneg, Int32.reduceToInt] at *) <;> omega))))))))))))
set_option maxRecDepth 4000 in
theorem w_X12_product {b0 : SS} {N : Int} {rec : SS → Option SS} {s0 : SS} (hrec : ∀ (s : SS), Lk b0 s → Ps s → 8 - (zS s 59 49).toInt < N → Ok (rec s) (fun r => Lk b0 r ∧ Px s r ∧ Pg s r ∧ Wd 1 s r)) (K : Lk b0 s0) (g0 : Ps s0) (g1 : 8 - (zS s0 59 49).toInt < N) : Ok (f_X12_product rec s0) (fun r => Lk b0 r ∧ Px s0 r ∧ Pg s0 r ∧ Wd 1 s0 r) := by
  unfold f_X12_product
  repeat' (first
    | with_reducible assumption
    | (with_reducible show Ok _ _; first | dsimp only | with_reducible refine Ok_b1 ?_ | with_reducible refine Ok.mono (hrec _ ?_ ?_ ?_) (fun _ ⟨_, _, _, _⟩ => ?_))
    | dsimp only
    | (with_reducible show Wd _ _ _; first | with_reducible refine Wd.push1 (by assumption) ?_ | with_reducible refine Wd.push2 (by assumption) ?_ ?_ | with_reducible refine Wd.un3 (by assumption) ?_ | with_reducible refine Wd.un4 (by assumption) ?_ | with_reducible refine Wd.op (by assumption) ?_ ?_ | with_reducible refine Wd.pf (by decide) ?_ | with_reducible exact Wd.rf | with_reducible refine Wd.t1 (by assumption) ?_ | with_reducible refine Wd.t2 (by assumption) ?_ | with_reducible refine Wd.t0 (by assumption) ?_ | with_reducible refine Wd.fault ?_)
    | with_reducible refine nm2 (by assumption) (by assumption) (by assumption) (by assumption)
    | with_reducible exact sg38
    | with_reducible exact sg124
    | with_reducible exact sge60 (by assumption)
    | with_reducible exact sge61 (by assumption)
    | with_reducible exact sge62 (by assumption)
    | with_reducible exact sgl42 (by assumption) (by assumption) (by assumption)
    | with_reducible exact sgl47 (by assumption) (by assumption) (by assumption)
    | with_reducible exact sgl37 (by assumption) (by assumption) (by assumption)
    | with_reducible exact sgl43 (by assumption) (by assumption) (by assumption)
    | with_reducible exact sgl45 (by assumption) (by assumption) (by assumption)
    | with_reducible refine w_X12_product_L4 (b0 := b0) (c0 := s0) (N := N) (by assumption) ?_ (fun _ _ _ => ?_) _ _  ?_ ?_ ?_ ?_ ?_
    | with_reducible refine And.intro ?_ ?_)
  all_goals (try (first | with_reducible assumption | exact trivial | omega | ((try clear ih); (try clear hr); (try clear hq0); (try clear hq1); (try clear hrec); ((try simp only [inB, Px, Ps, jlt, jeq, Int32.reduceToInt, Nat.reduceEqDiff, Nat.reduceAdd, Nat.reduceMul, ite_true, ite_false, and_true, true_and, and_false, false_and, true_or, or_true, false_or, or_false, not_true_eq_false, not_false_eq_true, reduceIte, reduceCtorEq, eq_self] at *) <;> (first | omega | ((try simp only [inB, Pg, Px, Ps, jlt, jeq, Int32.reduceToInt, Nat.reduceEqDiff, Nat.reduceAdd, Nat.reduceMul, ite_true, ite_false, and_true, true_and, and_false, false_and, true_or, or_true, false_or, or_false, not_true_eq_false, not_false_eq_true, reduceIte, reduceCtorEq, eq_self] at *) <;> (first | omega | ((try simp (disch := first | omega | (simp (disch := first | omega | (simp (disch := first | omega | (simp only [Int32.reduceToInt]; omega)) only [i32_sub, Int32.reduceToInt]; omega)) only [i32_sub, Int32.reduceToInt]; omega)) only [i32_sub, Int32.reduceToInt] at *) <;> (first | omega | ((try simp (disch := first | omega | (simp (disch := first | omega | (simp (disch := first | omega | (simp only [Int32.reduceToInt]; omega)) only [i32_sub, Int32.reduceToInt]; omega)) only [i32_sub, Int32.reduceToInt]; omega)) only [i32_sub, Int32.reduceToInt] at *) <;> (first | omega | ((simp only [jadd, jsub, jmul, jneg, Int32.reduceToInt] at *) <;> omega))))))))))))
