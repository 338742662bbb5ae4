set_option maxRecDepth 4000 in
theorem w_X12_below {b0 : SS} {s0 : SS} {a0 : Int32} (K : Lk b0 s0) : Ok (f_X12_below s0 a0) (fun _ => True) := by
  unfold f_X12_below
  repeat' (first
    | with_reducible assumption
    | dsimp only
    | with_reducible refine Ok_some ?_
    | with_reducible refine Ok_gd ?_ (fun _ => ?_)
    | with_reducible refine Ok_b1 ?_
    | with_reducible refine Ok_ift (by decide) ?_
    | with_reducible refine Ok_iff (by decide) ?_
    | with_reducible refine Ok_if (fun _ => ?_) (fun _ => ?_)
    | with_reducible refine Ok.mono (w_X12_in ) (fun _ _ => ?_)
    | with_reducible refine And.intro ?_ ?_)
  all_goals (try (first | with_reducible assumption | exact trivial | omega | ((try clear ih); (try clear hr); (try clear hq0); (try clear hq1); (try clear hrec); ((try simp only [inB, Rs, Pg, Px, Ps, Pr, Pl, jcl, Rg, cellOK, bF, bA, bH, bV, jlt, jeq, jd4, jd10, jd20, jd24, jd60, jd100, jm4, jm10, jm20, jm24, jm60, jm100, Int32.reduceToInt, jn1, jn2, jn3, jn4, jn5, jn6, jn7, jn8, jn9, jn10, jn11, jn12, jn13, jn14, jn15, jn16, jn17, jn18, jn19, jn20, jn21, jn22, jn23, jn24, jn100, jn2000000000, zS_pS, zS_pI, zS_pJ, zS_pR, zS_pF, zS_pG, zI_pI, zI_pS, zI_pJ, zI_pR, zI_pF, zI_pG, zN_pS, zN_pI, zN_pJ, Nat.reduceEqDiff, Nat.reduceAdd, Nat.reduceMul, ite_true, ite_false, and_true, true_and, and_false, false_and, true_or, or_true, false_or, or_false, not_true_eq_false, not_false_eq_true, reduceIte, reduceCtorEq, eq_self] at *) <;> (first | omega | ((try simp (disch := first | omega | (simp (disch := first | omega | (simp (disch := first | omega | (simp only [jd4, jd10, jd20, jd24, jd60, jd100, jm4, jm10, jm20, jm24, jm60, jm100, Int32.reduceToInt]; omega)) only [i32_add, i32_sub, i32_mul, jd4, jd10, jd20, jd24, jd60, jd100, jm4, jm10, jm20, jm24, jm60, jm100, Int32.reduceToInt]; omega)) only [i32_add, i32_sub, i32_mul, jd4, jd10, jd20, jd24, jd60, jd100, jm4, jm10, jm20, jm24, jm60, jm100, Int32.reduceToInt]; omega)) only [i32_add, i32_sub, i32_mul, jd4, jd10, jd20, jd24, jd60, jd100, jm4, jm10, jm20, jm24, jm60, jm100, Int32.reduceToInt] at *) <;> (first | omega | ((try simp (disch := first | omega | (simp (disch := first | omega | (simp (disch := first | omega | (simp only [jd4, jd10, jd20, jd24, jd60, jd100, jm4, jm10, jm20, jm24, jm60, jm100, Int32.reduceToInt]; omega)) only [i32_add, i32_sub, i32_mul, jd4, jd10, jd20, jd24, jd60, jd100, jm4, jm10, jm20, jm24, jm60, jm100, Int32.reduceToInt]; omega)) only [i32_add, i32_sub, i32_mul, jd4, jd10, jd20, jd24, jd60, jd100, jm4, jm10, jm20, jm24, jm60, jm100, Int32.reduceToInt]; omega)) only [i32_add, i32_sub, i32_mul, jd4, jd10, jd20, jd24, jd60, jd100, jm4, jm10, jm20, jm24, jm60, jm100, Int32.reduceToInt] at *) <;> (first | omega | ((simp only [jadd, jsub, jmul, jneg, Int32.reduceToInt] at *) <;> omega))))))))))
set_option maxRecDepth 4000 in
theorem w_X12_costNext_L5 {b0 : SS} {q0 : Int32 → Option Int32} {s0 : SS} {y1 : Int32} {y2 : Int32} {Q : Int32 → Prop} (K : Lk b0 s0) (hq0 : ∀ (z0 : Int32), (0 ≤ z0.toInt ∧ z0.toInt ≤ 90) → Ok (q0 z0) Q) : ∀ (n : Nat) (x3 : Int32) (x4 : Int32), (0 ≤ x4.toInt ∧ x4.toInt ≤ 10) → (0 ≤ x3.toInt ∧ x3.toInt ≤ 9 * x4.toInt) → 10 - x4.toInt < (n : Int) → Ok (f_X12_costNext_L5 q0 s0 y1 y2 n x3 x4) Q := by
  intro n
  induction n with
  | zero =>
    intro x3 x4 i0 i1 hm
    exfalso
    have e0 := (K.a (q := 106) (i := x4.toInt.toNat) rfl)
    (first | with_reducible assumption | omega | ((try clear ih); (try clear hr); (try clear hq0); (try clear hq1); (try clear hrec); ((try simp only [inB, Rs, Pg, Px, Ps, Pr, Pl, jcl, Rg, cellOK, bF, bA, bH, bV, jlt, jeq, jd4, jd10, jd20, jd24, jd60, jd100, jm4, jm10, jm20, jm24, jm60, jm100, Int32.reduceToInt, jn1, jn2, jn3, jn4, jn5, jn6, jn7, jn8, jn9, jn10, jn11, jn12, jn13, jn14, jn15, jn16, jn17, jn18, jn19, jn20, jn21, jn22, jn23, jn24, jn100, jn2000000000, zS_pS, zS_pI, zS_pJ, zS_pR, zS_pF, zS_pG, zI_pI, zI_pS, zI_pJ, zI_pR, zI_pF, zI_pG, zN_pS, zN_pI, zN_pJ, Nat.reduceEqDiff, Nat.reduceAdd, Nat.reduceMul, ite_true, ite_false, and_true, true_and, and_false, false_and, true_or, or_true, false_or, or_false, not_true_eq_false, not_false_eq_true, reduceIte, reduceCtorEq, eq_self] at *) <;> (first | omega | ((try simp (disch := first | omega | (simp (disch := first | omega | (simp (disch := first | omega | (simp only [jd4, jd10, jd20, jd24, jd60, jd100, jm4, jm10, jm20, jm24, jm60, jm100, Int32.reduceToInt]; omega)) only [i32_add, i32_sub, i32_mul, jd4, jd10, jd20, jd24, jd60, jd100, jm4, jm10, jm20, jm24, jm60, jm100, Int32.reduceToInt]; omega)) only [i32_add, i32_sub, i32_mul, jd4, jd10, jd20, jd24, jd60, jd100, jm4, jm10, jm20, jm24, jm60, jm100, Int32.reduceToInt]; omega)) only [i32_add, i32_sub, i32_mul, jd4, jd10, jd20, jd24, jd60, jd100, jm4, jm10, jm20, jm24, jm60, jm100, Int32.reduceToInt] at *) <;> (first | omega | ((try simp (disch := first | omega | (simp (disch := first | omega | (simp (disch := first | omega | (simp only [jd4, jd10, jd20, jd24, jd60, jd100, jm4, jm10, jm20, jm24, jm60, jm100, Int32.reduceToInt]; omega)) only [i32_add, i32_sub, i32_mul, jd4, jd10, jd20, jd24, jd60, jd100, jm4, jm10, jm20, jm24, jm60, jm100, Int32.reduceToInt]; omega)) only [i32_add, i32_sub, i32_mul, jd4, jd10, jd20, jd24, jd60, jd100, jm4, jm10, jm20, jm24, jm60, jm100, Int32.reduceToInt]; omega)) only [i32_add, i32_sub, i32_mul, jd4, jd10, jd20, jd24, jd60, jd100, jm4, jm10, jm20, jm24, jm60, jm100, Int32.reduceToInt] at *) <;> (first | omega | ((simp only [jadd, jsub, jmul, jneg, Int32.reduceToInt] at *) <;> omega)))))))))
  | succ n ih =>
    intro x3 x4 i0 i1 hm
    show Ok (f_X12_costNext_L5_b q0 s0 y1 y2 (f_X12_costNext_L5 q0 s0 y1 y2 n) x3 x4) Q
    unfold f_X12_costNext_L5_b
    have f0 := (K.f (q := 59) (k := 67) rfl)
    have e0 := (K.a (q := 106) (i := x4.toInt.toNat) rfl)
    repeat' (first
      | with_reducible assumption
      | dsimp only
      | with_reducible refine Ok_gd ?_ (fun _ => ?_)
      | with_reducible refine Ok_vl ?_
      | with_reducible refine Ok_jn ?_
      | with_reducible refine Ok_ift (by decide) ?_
      | with_reducible refine Ok_iff (by decide) ?_
      | with_reducible refine Ok_if (fun _ => ?_) (fun _ => ?_)
      | with_reducible refine ih _ _  ?_ ?_ ?_
      | with_reducible refine hq0 _  ?_
      | with_reducible refine And.intro ?_ ?_)
    all_goals (try (first | with_reducible assumption | exact trivial | omega | ((try clear ih); (try clear hr); (try clear hq0); (try clear hq1); (try clear hrec); ((try simp only [inB, Rs, Pg, Px, Ps, Pr, Pl, jcl, Rg, cellOK, bF, bA, bH, bV, jlt, jeq, jd4, jd10, jd20, jd24, jd60, jd100, jm4, jm10, jm20, jm24, jm60, jm100, Int32.reduceToInt, jn1, jn2, jn3, jn4, jn5, jn6, jn7, jn8, jn9, jn10, jn11, jn12, jn13, jn14, jn15, jn16, jn17, jn18, jn19, jn20, jn21, jn22, jn23, jn24, jn100, jn2000000000, zS_pS, zS_pI, zS_pJ, zS_pR, zS_pF, zS_pG, zI_pI, zI_pS, zI_pJ, zI_pR, zI_pF, zI_pG, zN_pS, zN_pI, zN_pJ, Nat.reduceEqDiff, Nat.reduceAdd, Nat.reduceMul, ite_true, ite_false, and_true, true_and, and_false, false_and, true_or, or_true, false_or, or_false, not_true_eq_false, not_false_eq_true, reduceIte, reduceCtorEq, eq_self] at *) <;> (first | omega | ((try simp (disch := first | omega | (simp (disch := first | omega | (simp (disch := first | omega | (simp only [jd4, jd10, jd20, jd24, jd60, jd100, jm4, jm10, jm20, jm24, jm60, jm100, Int32.reduceToInt]; omega)) only [i32_add, i32_sub, i32_mul, jd4, jd10, jd20, jd24, jd60, jd100, jm4, jm10, jm20, jm24, jm60, jm100, Int32.reduceToInt]; omega)) only [i32_add, i32_sub, i32_mul, jd4, jd10, jd20, jd24, jd60, jd100, jm4, jm10, jm20, jm24, jm60, jm100, Int32.reduceToInt]; omega)) only [i32_add, i32_sub, i32_mul, jd4, jd10, jd20, jd24, jd60, jd100, jm4, jm10, jm20, jm24, jm60, jm100, Int32.reduceToInt] at *) <;> (first | omega | ((try simp (disch := first | omega | (simp (disch := first | omega | (simp (disch := first | omega | (simp only [jd4, jd10, jd20, jd24, jd60, jd100, jm4, jm10, jm20, jm24, jm60, jm100, Int32.reduceToInt]; omega)) only [i32_add, i32_sub, i32_mul, jd4, jd10, jd20, jd24, jd60, jd100, jm4, jm10, jm20, jm24, jm60, jm100, Int32.reduceToInt]; omega)) only [i32_add, i32_sub, i32_mul, jd4, jd10, jd20, jd24, jd60, jd100, jm4, jm10, jm20, jm24, jm60, jm100, Int32.reduceToInt]; omega)) only [i32_add, i32_sub, i32_mul, jd4, jd10, jd20, jd24, jd60, jd100, jm4, jm10, jm20, jm24, jm60, jm100, Int32.reduceToInt] at *) <;> (first | omega | ((simp only [jadd, jsub, jmul, jneg, Int32.reduceToInt] at *) <;> omega))))))))))
set_option maxRecDepth 4000 in
theorem w_X12_costNext {b0 : SS} {s0 : SS} {a0 : Int32} {a1 : Int32} (K : Lk b0 s0) (g0 : 0 ≤ a0.toInt ∧ a0.toInt ≤ 9) : Ok (f_X12_costNext s0 a0 a1) (fun r => 0 ≤ r.toInt ∧ r.toInt ≤ 9801) := by
  unfold f_X12_costNext
  have e0 := (K.a (q := 106) (i := a0.toInt.toNat) rfl)
  have e1 := (K.a (q := 107) (i := a0.toInt.toNat) rfl)
  have e2 := (K.a (q := 108) (i := a0.toInt.toNat) rfl)
  repeat' (first
    | with_reducible assumption
    | dsimp only
    | with_reducible refine c99 ?_ ?_
    | with_reducible refine Ok_some ?_
    | with_reducible refine Ok_gd ?_ (fun _ => ?_)
    | with_reducible refine Ok_vl ?_
    | with_reducible refine Ok_ift (by decide) ?_
    | with_reducible refine Ok_iff (by decide) ?_
    | with_reducible refine Ok_if (fun _ => ?_) (fun _ => ?_)
    | with_reducible refine w_X12_costNext_L5 (b0 := b0) ?_ (fun _ _ => ?_) _ _ _  ?_ ?_ ?_
    | with_reducible refine And.intro ?_ ?_)
  all_goals (try (first | with_reducible assumption | exact trivial | omega | ((try clear ih); (try clear hr); (try clear hq0); (try clear hq1); (try clear hrec); ((try simp only [inB, Rs, Pg, Px, Ps, Pr, Pl, jcl, Rg, cellOK, bF, bA, bH, bV, jlt, jeq, jd4, jd10, jd20, jd24, jd60, jd100, jm4, jm10, jm20, jm24, jm60, jm100, Int32.reduceToInt, jn1, jn2, jn3, jn4, jn5, jn6, jn7, jn8, jn9, jn10, jn11, jn12, jn13, jn14, jn15, jn16, jn17, jn18, jn19, jn20, jn21, jn22, jn23, jn24, jn100, jn2000000000, zS_pS, zS_pI, zS_pJ, zS_pR, zS_pF, zS_pG, zI_pI, zI_pS, zI_pJ, zI_pR, zI_pF, zI_pG, zN_pS, zN_pI, zN_pJ, Nat.reduceEqDiff, Nat.reduceAdd, Nat.reduceMul, ite_true, ite_false, and_true, true_and, and_false, false_and, true_or, or_true, false_or, or_false, not_true_eq_false, not_false_eq_true, reduceIte, reduceCtorEq, eq_self] at *) <;> (first | omega | ((try simp (disch := first | omega | (simp (disch := first | omega | (simp (disch := first | omega | (simp only [jd4, jd10, jd20, jd24, jd60, jd100, jm4, jm10, jm20, jm24, jm60, jm100, Int32.reduceToInt]; omega)) only [i32_add, i32_sub, i32_mul, jd4, jd10, jd20, jd24, jd60, jd100, jm4, jm10, jm20, jm24, jm60, jm100, Int32.reduceToInt]; omega)) only [i32_add, i32_sub, i32_mul, jd4, jd10, jd20, jd24, jd60, jd100, jm4, jm10, jm20, jm24, jm60, jm100, Int32.reduceToInt]; omega)) only [i32_add, i32_sub, i32_mul, jd4, jd10, jd20, jd24, jd60, jd100, jm4, jm10, jm20, jm24, jm60, jm100, Int32.reduceToInt] at *) <;> (first | omega | ((try simp (disch := first | omega | (simp (disch := first | omega | (simp (disch := first | omega | (simp only [jd4, jd10, jd20, jd24, jd60, jd100, jm4, jm10, jm20, jm24, jm60, jm100, Int32.reduceToInt]; omega)) only [i32_add, i32_sub, i32_mul, jd4, jd10, jd20, jd24, jd60, jd100, jm4, jm10, jm20, jm24, jm60, jm100, Int32.reduceToInt]; omega)) only [i32_add, i32_sub, i32_mul, jd4, jd10, jd20, jd24, jd60, jd100, jm4, jm10, jm20, jm24, jm60, jm100, Int32.reduceToInt]; omega)) only [i32_add, i32_sub, i32_mul, jd4, jd10, jd20, jd24, jd60, jd100, jm4, jm10, jm20, jm24, jm60, jm100, Int32.reduceToInt] at *) <;> (first | omega | ((simp only [jadd, jsub, jmul, jneg, Int32.reduceToInt] at *) <;> omega))))))))))
/-! THE REFERENCE: in which order -/
theorem ordN {b0 c0 s : SS} (K : Lk b0 s) (S : S8 c0 s) : (zS c0 59 67).toInt.toNat ≤ 10 ∧ (zS s 59 67).toInt = ((zS c0 59 67).toInt.toNat : Int) := by
  have hf : 0 ≤ (zS s 59 67).toInt ∧ (zS s 59 67).toInt ≤ 10 := K.f (q := 59) (k := 67) rfl
  rw [S.2.2.2] at hf ⊢
  omega
theorem w_X12_order_L32 {b0 c0 : SS} {q0 : SS → Option (Int32 × SS)} {m : Nat} {Q : Int32 × SS → Prop} (hm : 1 ≤ m ∧ m < 2 ^ (zS c0 59 67).toInt.toNat) (hq0 : ∀ s, Lk b0 s → S8 c0 s → Ga c0 (zI s 109) (m + 1) → Ok (q0 s) Q) :
    ∀ (n : Nat) (s : SS) (k : Nat), Lk b0 s → S8 c0 s → Ga c0 (zI s 109) m → k ≤ (zS c0 59 67).toInt.toNat → ((zI s 109 m = 2147483647 ∧ ∀ j, j < k → m.testBit j = false) ∨ Gd c0 (zI s 109) m) → 10 - k < n → Ok (f_X12_order_L32 q0 (nI m) n s (nI k)) Q := by
  intro n
  induction n with
  | zero =>
    intro s k K S A i0 i1 hn
    omega
  | succ n ih =>
    intro s k K S A i0 i1 hn
    show Ok (f_X12_order_L32_b q0 (nI m) (f_X12_order_L32 q0 (nI m) n) s (nI k)) Q
    unfold f_X12_order_L32_b
    obtain ⟨hN, eN⟩ := ordN K S
    have hm1 : m < 1024 := Nat.lt_of_lt_of_le hm.2 (p10 hN)
    have tk : (nI k).toInt = (k : Int) := nI_t (by omega)
    have tm : (nI m).toInt = (m : Int) := nI_t (by omega)
    have k1 : nI k + 1 = nI (k + 1) := by
      apply Int32.toInt_inj.1
      rw [i32_add (by rw [tk, jl1]; omega) (by rw [tk, jl1]; omega), tk, jl1, nI_t (by omega)]
      omega
    have gm : inB (nI m) 1024 := ⟨by omega, by omega⟩
    have nm : (nI m).toInt.toNat = m := by omega
    with_reducible refine Ok_if (fun c => ?_) (fun c => ?_)
    · rw [Int32.lt_iff_toInt_lt, tk, eN] at c
      have c' : k < (zS c0 59 67).toInt.toNat := by omega
      with_reducible refine Ok_jn ?_
      with_reducible refine Ok_if (fun c2 => ?_) (fun c2 => ?_)
      · with_reducible refine Ok_vl ?_
        rw [k1]
        refine ih s (k + 1) K S A c' ?_ (by omega)
        have hb := (bt0 hm1 (show k < 11 by omega)).1 c2
        rcases i1 with ⟨h1, h2⟩ | h1
        · refine Or.inl ⟨h1, fun j hj => ?_⟩
          by_cases hjk : j = k
          · rw [hjk]; exact hb
          · exact h2 j (by omega)
        · exact Or.inr h1
      · have hb : m.testBit k = true := by
          cases hbk : m.testBit k with
          | true => rfl
          | false => exact absurd ((bt0 hm1 (show k < 11 by omega)).2 hbk) c2
        obtain ⟨r, er, hr⟩ := w_X12_costNext (a0 := nI k) (a1 := nI m) K ⟨by omega, by omega⟩
        with_reducible refine Ok_e1 er ?_
        rw [cost_congr S] at er
        rw [nx_del (show k < 11 by omega) hb]
        have hl := del_lt hb
        have td : (nI (m ^^^ 2 ^ k)).toInt = ((m ^^^ 2 ^ k : Nat) : Int) := nI_t (by omega)
        have nd : (nI (m ^^^ 2 ^ k)).toInt.toNat = m ^^^ 2 ^ k := by omega
        have hd : 0 ≤ (zI s 109 (m ^^^ 2 ^ k)).toInt ∧ (zI s 109 (m ^^^ 2 ^ k)).toInt ≤ 9801 * ((m ^^^ 2 ^ k : Nat) : Int) := by
          by_cases h0 : m ^^^ 2 ^ k = 0
          · rw [h0, K.1.2.2]
            decide
          · exact (A _ (by omega) hl).1
        with_reducible refine Ok_vl ?_
        with_reducible refine Ok_gd ⟨by omega, by omega⟩ (fun _ => ?_)
        rw [nd, nm]
        obtain ⟨w, ew, hw⟩ : ∃ w, r + zI s 109 (m ^^^ 2 ^ k) = w ∧ w.toInt = r.toInt + (zI s 109 (m ^^^ 2 ^ k)).toInt := ⟨_, rfl, i32_add (by omega) (by omega)⟩
        rw [ew]
        with_reducible refine Ok_vl ?_
        with_reducible refine Ok_gd gm (fun _ => ?_)
        with_reducible refine Ok_if (fun c3 => ?_) (fun c3 => ?_)
        · with_reducible refine Ok_gd gm (fun _ => ?_)
          with_reducible refine Ok_st ?_
          with_reducible refine Ok_vl ?_
          rw [k1]
          refine ih _ (k + 1) (K.w109 (by omega)) (S.p (Or.inl rfl)) A.p c' (Or.inr ⟨?_, k, c', hb, r, er, ?_⟩) (by omega)
          · rw [zI_pI, if_pos ⟨rfl, rfl⟩]
            omega
          · rw [zI_pI, if_neg (fun z => by omega), zI_pI, if_pos ⟨rfl, rfl⟩]
            exact ew
        · with_reducible refine Ok_vl ?_
          rw [k1]
          refine ih s (k + 1) K S A c' (Or.inr ?_) (by omega)
          rcases i1 with ⟨h1, h2⟩ | h1
          · rw [h1, Int32.lt_iff_toInt_lt, show (2147483647 : Int32).toInt = 2147483647 from rfl] at c3
            omega
          · exact h1
    · rw [Int32.lt_iff_toInt_lt, tk, eN] at c
      refine hq0 s K S (fun j h1 h2 => ?_)
      by_cases hj : j = m
      · rw [hj]
        rcases i1 with ⟨_, h3⟩ | h3
        · exact absurd (ex_bit hm.1 hm.2 (fun i hi => h3 i (by omega))) (fun z => z)
        · exact h3
      · exact A j h1 (by omega)
theorem w_X12_order_L11 {b0 c0 : SS} {q0 : SS → Option (Int32 × SS)} {Q : Int32 × SS → Prop} (hq0 : ∀ s, Lk b0 s → S8 c0 s → Ga c0 (zI s 109) (2 ^ (zS c0 59 67).toInt.toNat) → Ok (q0 s) Q) :
    ∀ (n : Nat) (s : SS) (m : Nat), Lk b0 s → S8 c0 s → Ga c0 (zI s 109) m → (1 ≤ m ∧ m ≤ 2 ^ (zS c0 59 67).toInt.toNat) → 1024 - m < n → Ok (f_X12_order_L11 q0 n s (nI m)) Q := by
  intro n
  induction n with
  | zero =>
    intro s m K S A i0 hn
    omega
  | succ n ih =>
    intro s m K S A i0 hn
    show Ok (f_X12_order_L11_b q0 (f_X12_order_L11 q0 n) s (nI m)) Q
    unfold f_X12_order_L11_b
    obtain ⟨hN, eN⟩ := ordN K S
    have h10 := p10 hN
    have tm : (nI m).toInt = (m : Int) := nI_t (by omega)
    have e67 : zS s 59 67 = nI (zS c0 59 67).toInt.toNat := by
      apply Int32.toInt_inj.1
      rw [eN, nI_t (by omega)]
    rw [e67, sh1n _ (by omega)]
    have t2 : (nI (2 ^ (zS c0 59 67).toInt.toNat)).toInt = ((2 ^ (zS c0 59 67).toInt.toNat : Nat) : Int) := nI_t (by omega)
    with_reducible refine Ok_if (fun c => ?_) (fun c => ?_)
    · rw [Int32.lt_iff_toInt_lt, tm, t2] at c
      have c' : m < 2 ^ (zS c0 59 67).toInt.toNat := by omega
      with_reducible refine Ok_gd ⟨by omega, by omega⟩ (fun _ => ?_)
      with_reducible refine Ok_st ?_
      rw [show (nI m).toInt.toNat = m by omega]
      refine w_X12_order_L32 (b0 := b0) (c0 := c0) ⟨i0.1, c'⟩ (fun s2 K2 S2 A2 => ?_) 4000 _ 0 (K.w109 (by omega)) (S.p (Or.inl rfl)) A.p (by omega) (Or.inl ⟨by rw [zI_pI, if_pos ⟨rfl, rfl⟩], fun j hj => by omega⟩) (by omega)
      with_reducible refine Ok_vl ?_
      have k1 : nI m + 1 = nI (m + 1) := by
        apply Int32.toInt_inj.1
        rw [i32_add (by rw [tm, jl1]; omega) (by rw [tm, jl1]; omega), tm, jl1, nI_t (by omega)]
        omega
      rw [k1]
      exact ih s2 (m + 1) K2 S2 A2 (by omega) (by omega)
    · rw [Int32.lt_iff_toInt_lt, tm, t2] at c
      refine hq0 s K S ?_
      rw [show 2 ^ (zS c0 59 67).toInt.toNat = m by omega]
      exact A
theorem w_X12_order_L129 {b0 c0 sb : SS} {q0 : Int32 → Option (Int32 × SS)} {y2 y3 : Int32} {m k : Nat} {Q : Int32 × SS → Prop} (K : Lk b0 sb) (S : S8 c0 sb) (hm : m < 1024) (hw : Gw c0 (zI sb 109) m k) (hq0 : ∀ j, j < (zS c0 59 67).toInt.toNat → m.testBit j = true → Ok (q0 (nI j)) Q) :
    ∀ (n : Nat) (j : Nat), j ≤ k → k - j < n → Ok (f_X12_order_L129 q0 sb (nI m) y2 y3 n (nI j)) Q := by
  intro n
  induction n with
  | zero =>
    intro j i0 hn
    omega
  | succ n ih =>
    intro j i0 hn
    show Ok (f_X12_order_L129_b q0 sb (nI m) y2 y3 (f_X12_order_L129 q0 sb (nI m) y2 y3 n) (nI j)) Q
    unfold f_X12_order_L129_b
    obtain ⟨hN, eN⟩ := ordN K S
    obtain ⟨w1, w2, v, w3, w4⟩ := hw
    have tj : (nI j).toInt = (j : Int) := nI_t (by omega)
    have tm : (nI m).toInt = (m : Int) := nI_t (by omega)
    have k1 : nI j + 1 = nI (j + 1) := by
      apply Int32.toInt_inj.1
      rw [i32_add (by rw [tj, jl1]; omega) (by rw [tj, jl1]; omega), tj, jl1, nI_t (by omega)]
      omega
    with_reducible refine Ok_jn ?_
    have go : j ≠ k → Ok (vl (nI j + 1) fun v26 => f_X12_order_L129 q0 sb (nI m) y2 y3 n v26) Q := fun hjk => by
      with_reducible refine Ok_vl ?_
      rw [k1]
      exact ih (j + 1) (by omega) (by omega)
    with_reducible refine Ok_if (fun c2 => ?_) (fun c2 => ?_)
    · refine go (fun z => ?_)
      have hb := (bt0 hm (show j < 11 by omega)).1 c2
      rw [z, w2] at hb
      cases hb
    · have hb : m.testBit j = true := by
        cases hbk : m.testBit j with
        | true => rfl
        | false => exact absurd ((bt0 hm (show j < 11 by omega)).2 hbk) c2
      obtain ⟨r, er, hr⟩ := w_X12_costNext (a0 := nI j) (a1 := nI m) K ⟨by omega, by omega⟩
      with_reducible refine Ok_e1 er ?_
      rw [cost_congr S] at er
      rw [nx_del (show j < 11 by omega) hb]
      have hl := del_lt hb
      have td : (nI (m ^^^ 2 ^ j)).toInt = ((m ^^^ 2 ^ j : Nat) : Int) := nI_t (by omega)
      with_reducible refine Ok_vl ?_
      with_reducible refine Ok_gd ⟨by omega, by omega⟩ (fun _ => ?_)
      with_reducible refine Ok_gd ⟨by omega, by omega⟩ (fun _ => ?_)
      rw [show (nI (m ^^^ 2 ^ j)).toInt.toNat = m ^^^ 2 ^ j by omega, show (nI m).toInt.toNat = m by omega]
      with_reducible refine Ok_if (fun _ => hq0 j (by omega) hb) (fun c3 => go (fun z => ?_))
      rw [z] at er c3
      rw [w3] at er
      cases er
      exact c3 w4
theorem w_X12_order_L118 {b0 c0 : SS} {q0 : SS → Option (Int32 × SS)} {y2 : Int32} {Q : Int32 × SS → Prop} (hq0 : ∀ s, Lk b0 s → Ok (q0 s) Q) :
    ∀ (n : Nat) (s : SS) (m i : Nat), Lk b0 s → S8 c0 s → Ga c0 (zI s 109) (2 ^ (zS c0 59 67).toInt.toNat) → m < 2 ^ (zS c0 59 67).toInt.toNat → pc m + i = (zS c0 59 67).toInt.toNat → 10 - i < n → Ok (f_X12_order_L118 q0 y2 n s (nI m) (nI i)) Q := by
  intro n
  induction n with
  | zero =>
    intro s m i K S A i0 i1 hn
    omega
  | succ n ih =>
    intro s m i K S A i0 i1 hn
    show Ok (f_X12_order_L118_b q0 y2 (f_X12_order_L118 q0 y2 n) s (nI m) (nI i)) Q
    unfold f_X12_order_L118_b
    obtain ⟨hN, eN⟩ := ordN K S
    have hm1 : m < 1024 := Nat.lt_of_lt_of_le i0 (p10 hN)
    have ti : (nI i).toInt = (i : Int) := nI_t (by omega)
    with_reducible refine Ok_if (fun c => ?_) (fun _ => hq0 s K)
    rw [Int32.lt_iff_toInt_lt, ti, eN] at c
    obtain ⟨_, k, hw⟩ := A m (pc_0 (N := (zS c0 59 67).toInt.toNat - i) (by omega) (by omega)) i0
    refine w_X12_order_L129 (b0 := b0) (c0 := c0) K S hm1 hw (fun j hj hb => ?_) 4000 0 (by omega) (by have := hw.1; omega)
    have hl := del_lt hb
    have hp := pc_del (show j < 10 by omega) hb
    with_reducible refine Ok_gd ⟨by omega, by omega⟩ (fun _ => ?_)
    with_reducible refine Ok_st ?_
    rw [nx_del (show j < 11 by omega) hb]
    with_reducible refine Ok_vl ?_
    with_reducible refine Ok_vl ?_
    have k1 : nI i + 1 = nI (i + 1) := by
      apply Int32.toInt_inj.1
      rw [i32_add (by rw [ti, jl1]; omega) (by rw [ti, jl1]; omega), ti, jl1, nI_t (by omega)]
      omega
    rw [k1]
    refine ih _ _ (i + 1) (K.wI (by decide) (by decide) trivial) (S.p (Or.inr rfl)) ?_ (by omega) (by omega) (by omega)
    intro j2 h1 h2
    exact (A j2 h1 h2).congr (fun a _ => by rw [zI_pI, if_neg (fun z => by omega)])
theorem w_X12_order {b0 s0 : SS} (K : Lk b0 s0) (hn : ¬ zS s0 59 67 = 0) : Ok (f_X12_order s0) (fun r => Zo b0 59 67 r.2) := by
  unfold f_X12_order
  with_reducible refine Ok_iff hn ?_
  refine w_X12_order_L11 (b0 := b0) (c0 := s0) (fun s K1 S A => ?_) 4000 s0 1 K S8.rf (fun m h1 h2 => by omega) ⟨by decide, Nat.one_le_two_pow⟩ (by decide)
  obtain ⟨hN, eN⟩ := ordN K1 S
  have h10 := p10 hN
  have h1 : 1 ≤ 2 ^ (zS s0 59 67).toInt.toNat := Nat.one_le_two_pow
  have e67 : zS s 59 67 = nI (zS s0 59 67).toInt.toNat := by
    apply Int32.toInt_inj.1
    rw [eN, nI_t (by omega)]
  have t2 : (nI (2 ^ (zS s0 59 67).toInt.toNat)).toInt = ((2 ^ (zS s0 59 67).toInt.toNat : Nat) : Int) := nI_t (by omega)
  have e1 : (1 : Int32) <<< (zS s 59 67 &&& 31) - 1 = nI (2 ^ (zS s0 59 67).toInt.toNat - 1) := by
    rw [e67, sh1n _ (by omega)]
    apply Int32.toInt_inj.1
    rw [i32_sub (by rw [t2, jl1]; omega) (by rw [t2, jl1]; omega), t2, jl1, nI_t (by omega)]
    omega
  rw [e1]
  have t3 : (nI (2 ^ (zS s0 59 67).toInt.toNat - 1)).toInt = ((2 ^ (zS s0 59 67).toInt.toNat - 1 : Nat) : Int) := nI_t (by omega)
  with_reducible refine Ok_vl ?_
  with_reducible refine Ok_gd ⟨by omega, by omega⟩ (fun _ => ?_)
  with_reducible refine Ok_vl ?_
  refine w_X12_order_L118 (b0 := b0) (c0 := s0) (fun s2 K2 => ?_) 4000 s _ 0 K1 S A (by omega) (by rw [pc_full _ (by omega)]; rfl) (by decide)
  with_reducible refine Ok_vl ?_
  with_reducible refine Ok_st ?_
  with_reducible refine Ok_st ?_
  have hf : 0 ≤ (zS s2 59 67).toInt ∧ (zS s2 59 67).toInt ≤ 10 := K2.f (q := 59) (k := 67) rfl
  exact Ok_some (Zo.mk (K2.wF (q := 59) (k := 72) (by decide) (by decide) (by decide) ⟨by omega, hf.2⟩))
