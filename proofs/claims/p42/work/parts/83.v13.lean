/-! ORDERS -/
theorem nI_n {k : Nat} (h : k < 2147483648) : (nI k).toInt.toNat = k := by rw [nI_t h]; omega
theorem nI1 {k : Nat} (h : k < 5000) : nI k + 1 = nI (k + 1) := by
  apply Int32.toInt_inj.1
  rw [i32_add (by rw [nI_t (by omega), jl1]; omega) (by rw [nI_t (by omega), jl1]; omega), nI_t (by omega), nI_t (by omega), jl1]
  omega
theorem nIm {k : Nat} (h : k < 5000) (h1 : 1 ≤ k) : nI k - 1 = nI (k - 1) := by
  apply Int32.toInt_inj.1
  rw [i32_sub (by rw [nI_t (by omega), jl1]; omega) (by rw [nI_t (by omega), jl1]; omega), nI_t (by omega), nI_t (by omega), jl1]
  omega
theorem nI0 {w : Nat} (h : w < 1024) (e : nI w = 0) : w = 0 := by
  have h2 := congrArg Int32.toInt e
  rw [nI_t (by omega), jl0] at h2
  omega
theorem nIlt {a b : Nat} (ha : a < 5000) (hb : b < 5000) : nI a < nI b ↔ a < b := by
  rw [jlt, nI_t (by omega), nI_t (by omega)]
  omega
theorem an0 {m k : Nat} (hm : m < 1024) (hk : k < 11) : (nI m &&& ((1 : Int32) <<< (nI k &&& 31))) = 0 ↔ m.testBit k = false := by
  rw [sh1n k hk, nx_an]
  have tk : (m &&& 2 ^ k).testBit k = m.testBit k := by rw [Nat.testBit_and, Nat.testBit_two_pow_self, Bool.and_true]
  constructor
  · intro h
    have h3 : m &&& 2 ^ k = 0 := nI0 (Nat.lt_of_le_of_lt Nat.and_le_left hm) h
    rw [← tk, h3, Nat.zero_testBit]
  · intro h
    have h3 : m &&& 2 ^ k = 0 := by
      apply Nat.eq_of_testBit_eq
      intro j
      rw [Nat.zero_testBit, Nat.testBit_and, Nat.testBit_two_pow]
      by_cases z : k = j
      · rw [← z, h, Bool.false_and]
      · rw [decide_eq_false z, Bool.and_false]
    rw [h3]
    rfl
theorem or_add {j k : Nat} (h : j < 2 ^ k) : j ||| 2 ^ k = 2 ^ k + j := by
  apply Nat.eq_of_testBit_eq
  intro i
  rw [Nat.testBit_or, Nat.testBit_two_pow]
  rcases Nat.lt_trichotomy i k with l | l | l
  · rw [Nat.testBit_two_pow_add_gt l, decide_eq_false (by omega), Bool.or_false]
  · subst l
    rw [Nat.testBit_two_pow_add_eq, Nat.testBit_lt_two_pow h, decide_eq_true rfl]
    rfl
  · have p : 2 ^ (k + 1) ≤ 2 ^ i := Nat.pow_le_pow_right (n := 2) (by decide) l
    have p2 : 2 ^ k + j < 2 ^ i := by
      rw [Nat.pow_succ] at p
      generalize 2 ^ k = A at *
      generalize 2 ^ i = B at *
      omega
    have p3 : j < 2 ^ i := Nat.lt_of_le_of_lt (Nat.le_add_left _ _) p2
    rw [Nat.testBit_lt_two_pow p2, Nat.testBit_lt_two_pow p3, decide_eq_false (by omega)]
    rfl
/-- what is left of all -/
def cpl (N S : Nat) : Nat := 2 ^ N - (S + 1)
theorem cp_tb {N S : Nat} (h : S < 2 ^ N) (i : Nat) : (cpl N S).testBit i = (decide (i < N) && !S.testBit i) := Nat.testBit_two_pow_sub_succ h i
theorem cp_t {N S k : Nat} (h : S < 2 ^ N) (hk : k < N) : (cpl N S).testBit k = !S.testBit k := by rw [cp_tb h, decide_eq_true hk, Bool.true_and]
theorem cp_lt {N S : Nat} (h : S < 2 ^ N) : cpl N S < 2 ^ N := by
  unfold cpl
  generalize 2 ^ N = M at *
  omega
theorem cp_cp {N S : Nat} (h : S < 2 ^ N) : cpl N (cpl N S) = S := by
  unfold cpl
  generalize 2 ^ N = M at *
  omega
theorem cp_lt2 {N S S' : Nat} (h : S' < 2 ^ N) (l : S < S') : cpl N S' < cpl N S := by
  unfold cpl
  generalize 2 ^ N = M at *
  omega
theorem cp_add {N S k : Nat} (h : S < 2 ^ N) (hk : k < N) (hb : S.testBit k = false) : S ||| 2 ^ k < 2 ^ N ∧ S < (S ||| 2 ^ k) ∧ cpl N (S ||| 2 ^ k) = cpl N S ^^^ 2 ^ k := by
  have l : S ||| 2 ^ k < 2 ^ N := Nat.or_lt_two_pow h (Nat.pow_lt_pow_right (by decide) hk)
  have tb : (cpl N S).testBit k = true := by rw [cp_t h hk, hb]; rfl
  have e : cpl N (S ||| 2 ^ k) = cpl N S ^^^ 2 ^ k := by
    apply Nat.eq_of_testBit_eq
    intro j
    rw [del_tb tb, cp_tb l, cp_tb h, Nat.testBit_or, Nat.testBit_two_pow]
    by_cases z : k = j
    · rw [if_pos z, decide_eq_true z, Bool.or_true, Bool.not_true, Bool.and_false]
    · rw [if_neg z, decide_eq_false z, Bool.or_false]
  have d := del_lt tb
  rw [← e] at d
  refine ⟨l, ?_, e⟩
  unfold cpl at d
  generalize S ||| 2 ^ k = S' at *
  generalize 2 ^ N = M at *
  omega
/-- hours of the needs in S, below k -/
def psm (a : Nat → Int32) (S : Nat) : Nat → Int32
  | 0 => 0
  | k + 1 => psm a S k + (if S.testBit k then a k else 0)
theorem psm_c {a : Nat → Int32} {S S' : Nat} : ∀ k, (∀ j, j < k → S.testBit j = S'.testBit j) → psm a S k = psm a S' k
  | 0, _ => rfl
  | k + 1, h => by
    show psm a S k + (if S.testBit k then a k else 0) = psm a S' k + (if S'.testBit k then a k else 0)
    rw [psm_c k (fun j hj => h j (by omega)), h k (by omega)]
theorem psm_b {a : Nat → Int32} {S N : Nat} (hN : N ≤ 10) (h : ∀ j, j < N → 0 ≤ (a j).toInt ∧ (a j).toInt ≤ 9) : ∀ k, k ≤ N → 0 ≤ (psm a S k).toInt ∧ (psm a S k).toInt ≤ 9 * (k : Int)
  | 0, _ => by
    show 0 ≤ (0 : Int32).toInt ∧ (0 : Int32).toInt ≤ 9 * ((0 : Nat) : Int)
    rw [jl0]
    omega
  | k + 1, hk => by
    have ih := psm_b (S := S) hN h k (by omega)
    have b : 0 ≤ (if S.testBit k then a k else 0).toInt ∧ (if S.testBit k then a k else 0).toInt ≤ 9 := by
      by_cases z : S.testBit k = true
      · rw [if_pos z]; exact h k (by omega)
      · rw [if_neg z, jl0]; omega
    show 0 ≤ (psm a S k + (if S.testBit k then a k else 0)).toInt ∧ (psm a S k + (if S.testBit k then a k else 0)).toInt ≤ 9 * ((k + 1 : Nat) : Int)
    rw [i32_add (by omega) (by omega)]
    omega
section ORs
variable {s t s0 t0 s1 t1 : SS}
def sumX (s0 s : SS) (N : Nat) : Prop := ∀ S, S < 2 ^ N → zI s 39 S = psm (zI s0 35) S N
theorem sum_i {q0 : SS → Option (Int32 × SS)} {y1 : Int32} {Q : Int32 × SS → Prop} {k : Nat} (hk : k < 10) (hq : ∀ s, Frm [] [38, 39, 40] [] s0 s → sumX s0 s (k + 1) → Pc (q0 s) Q) : ∀ (n : Nat) (s : SS) (j : Nat), Frm [] [38, 39, 40] [] s0 s → sumX s0 s k → (∀ S, S < j → zI s 39 (2 ^ k + S) = psm (zI s0 35) (2 ^ k + S) (k + 1)) → j ≤ 2 ^ k → Pc (f_X6_leastLateness_L28 q0 y1 (nI k) n s (nI j)) Q
  | 0, _, _, _, _, _, _ => Pc_none
  | n + 1, s, j, F, A, B, hj => by
    have hk2 : 2 ^ k ≤ 512 := Nat.pow_le_pow_right (n := 2) (by decide) (show k ≤ 9 by omega)
    have hp : 2 ^ (k + 1) = 2 ^ k + 2 ^ k := by rw [Nat.pow_succ]; omega
    show Pc (f_X6_leastLateness_L28_b q0 y1 (nI k) (f_X6_leastLateness_L28 q0 y1 (nI k) n) s (nI j)) Q
    unfold f_X6_leastLateness_L28_b
    rw [sh1n k (by omega), nx_or, nI_n (k := j) (by omega), nI_n (k := k) (by omega)]
    by_cases c : j < 2 ^ k
    · refine Pc_ift ((nIlt (by omega) (by omega)).mpr c) (Pc_gd (fun _ => Pc_gd (fun _ => Pc_vl (Pc_vl (Pc_gd (fun _ => Pc_st (Pc_vl ?_)))))))
      rw [or_add c, nI_n (k := 2 ^ k + j) (by omega), nI1 (by omega)]
      refine sum_i hk hq n _ (j + 1) (F.pI rfl) (fun S hS => ?_) (fun S hS => ?_) (by omega)
      · rw [zI_pI, if_neg (by omega)]; exact A S hS
      · rw [zI_pI]
        by_cases z : S = j
        · rw [if_pos ⟨rfl, by omega⟩, z, A j c, F.2.1 35 k rfl]
          show _ = psm (zI s0 35) (2 ^ k + j) k + (if (2 ^ k + j).testBit k then zI s0 35 k else 0)
          rw [Nat.testBit_two_pow_add_eq, Nat.testBit_lt_two_pow c, psm_c (S := 2 ^ k + j) (S' := j) k (fun i hi => Nat.testBit_two_pow_add_gt hi j)]
          rfl
        · rw [if_neg (by omega)]; exact B S (by omega)
    · refine Pc_iff (fun z => c ((nIlt (by omega) (by omega)).mp z)) (hq s F (fun S hS => ?_))
      by_cases z : S < 2 ^ k
      · rw [A S z]
        show _ = psm (zI s0 35) S k + (if S.testBit k then zI s0 35 k else 0)
        rw [Nat.testBit_lt_two_pow z]
        exact (Int32.add_zero _).symm
      · have := B (S - 2 ^ k) (by omega)
        rw [show 2 ^ k + (S - 2 ^ k) = S by omega] at this
        exact this
theorem sum_k {q0 : SS → Option (Int32 × SS)} {y1 : Int32} {Q : Int32 × SS → Prop} {N : Nat} (hN : N ≤ 10) (e3 : zS s0 34 3 = nI N) (hq : ∀ s, Frm [] [38, 39, 40] [] s0 s → sumX s0 s N → Pc (q0 s) Q) : ∀ (n : Nat) (s : SS) (k : Nat), k ≤ N → Frm [] [38, 39, 40] [] s0 s → sumX s0 s k → Pc (f_X6_leastLateness_L18 q0 y1 n s (nI k)) Q
  | 0, _, _, _, _, _ => Pc_none
  | n + 1, s, k, hk, F, A => by
    show Pc (f_X6_leastLateness_L18_b q0 y1 (f_X6_leastLateness_L18 q0 y1 n) s (nI k)) Q
    unfold f_X6_leastLateness_L18_b
    rw [show zS s 34 3 = nI N from (F.1 34 3 rfl).trans e3]
    by_cases c : k < N
    · refine Pc_ift ((nIlt (by omega) (by omega)).mpr c) ?_
      refine sum_i (s0 := s0) (by omega) (fun s' F' A' => Pc_vl ?_) 4000 s 0 F A (fun S hS => absurd hS (Nat.not_lt_zero S)) (Nat.zero_le _)
      rw [nI1 (by omega)]
      exact sum_k hN e3 hq n s' (k + 1) (by omega) F' A'
    · refine Pc_iff (fun z => c ((nIlt (by omega) (by omega)).mp z)) (hq s F ?_)
      rw [show N = k by omega]
      exact A
/-- what a need costs that comes behind those in S -/
def cst (s0 : SS) (N S x : Nat) : Int32 := zI s0 36 x * (if (0 : Int32) < psm (zI s0 35) S N + zI s0 35 x - zI s0 37 x then psm (zI s0 35) S N + zI s0 35 x - zI s0 37 x else 0)
def NB (s0 : SS) (N : Nat) : Prop := ∀ i, i < N → (0 ≤ (zI s0 35 i).toInt ∧ (zI s0 35 i).toInt ≤ 9) ∧ (0 ≤ (zI s0 36 i).toInt ∧ (zI s0 36 i).toInt ≤ 99) ∧ (0 ≤ (zI s0 37 i).toInt ∧ (zI s0 37 i).toInt ≤ 99)
def NA (s0 t0 : SS) (N : Nat) : Prop := ∀ i, i < N → zI s0 35 i = zI t0 106 i ∧ zI s0 36 i = zI t0 107 i ∧ zI s0 37 i = zI t0 108 i
theorem cst_b {N S x : Nat} (hN : N ≤ 10) (hb : NB s0 N) (hx : x < N) : 0 ≤ (cst s0 N S x).toInt ∧ (cst s0 N S x).toInt ≤ 9801 := by
  obtain ⟨b1, b2, b3⟩ := hb x hx
  have p := psm_b (a := zI s0 35) (S := S) hN (fun j hj => (hb j hj).1) N (Nat.le_refl N)
  have e1 : (psm (zI s0 35) S N + zI s0 35 x).toInt = (psm (zI s0 35) S N).toInt + (zI s0 35 x).toInt := i32_add (by omega) (by omega)
  have e2 : (psm (zI s0 35) S N + zI s0 35 x - zI s0 37 x).toInt = (psm (zI s0 35) S N).toInt + (zI s0 35 x).toInt - (zI s0 37 x).toInt := by rw [i32_sub (by omega) (by omega), e1]
  unfold cst
  refine c99 b2 ?_
  by_cases z : (0 : Int32) < psm (zI s0 35) S N + zI s0 35 x - zI s0 37 x
  · rw [if_pos z, e2]
    rw [jlt, jl0, e2] at z
    omega
  · rw [if_neg z, jl0]
    omega
theorem swX {N S x : Nat} (hN : N ≤ 10) (hS : S < 2 ^ N) (hx : x < N) (F : Frm [] [38, 39, 40] [] s0 s) (A : sumX s0 s N) : Pc (f_X6_sumWith s (nI S) (nI x)) (fun v => v = cst s0 N S x + zI s 38 (S ||| 2 ^ x)) := by
  have h10 := p10 hN
  have l : S ||| 2 ^ x < 2 ^ N := Nat.or_lt_two_pow hS (Nat.pow_lt_pow_right (by decide) hx)
  unfold f_X6_sumWith
  rw [sh1n x (by omega), nx_or, nI_n (k := S) (by omega), nI_n (k := x) (by omega), maxJ, A S hS, F.2.1 35 x rfl, F.2.1 37 x rfl, F.2.1 36 x rfl]
  refine Pc_gd (fun _ => Pc_gd (fun _ => Pc_gd (fun _ => Pc_b1S (Pc_gd (fun _ => Pc_vl (Pc_gd (fun _ => Pc_some ?_)))))))
  rw [nI_n (k := S ||| 2 ^ x) (by omega)]
  rfl
theorem csL {N S : Nat} {y1 : Int32} {q0 : Int32 → Option Int32} {Q : Int32 → Prop} (hN : N ≤ 10) (hS : S < 2 ^ N) (e67 : zS t 59 67 = nI N) (al : NA s0 t N) (hq : Pc (q0 (psm (zI s0 35) S N)) Q) : ∀ (n k : Nat), k ≤ N → Pc (f_X12_costNext_L5 q0 t y1 (nI (cpl N S)) n (psm (zI s0 35) S k) (nI k)) Q
  | 0, _, _ => Pc_none
  | n + 1, k, hk => by
    have h10 := p10 hN
    have lT := cp_lt hS
    show Pc (f_X12_costNext_L5_b q0 t y1 (nI (cpl N S)) (f_X12_costNext_L5 q0 t y1 (nI (cpl N S)) n) (psm (zI s0 35) S k) (nI k)) Q
    unfold f_X12_costNext_L5_b
    rw [e67]
    by_cases c : k < N
    · refine Pc_ift ((nIlt (by omega) (by omega)).mpr c) (Pc_jn ?_)
      have ih := csL (y1 := y1) (q0 := q0) hN hS e67 al hq n (k + 1) (by omega)
      have ct := cp_t hS c
      rw [nI_n (k := k) (by omega)]
      cases b : S.testBit k with
      | true =>
        rw [b] at ct
        refine Pc_ift ((bt0 (by omega) (by omega)).mpr ct) (Pc_gd (fun _ => Pc_vl (Pc_vl ?_)))
        have e : psm (zI s0 35) S (k + 1) = psm (zI s0 35) S k + zI t 106 k := by
          show psm (zI s0 35) S k + (if S.testBit k then zI s0 35 k else 0) = _
          rw [if_pos b, (al k c).1]
        rw [nI1 (by omega), ← e]
        exact ih
      | false =>
        rw [b] at ct
        refine Pc_iff (fun z => ?_) (Pc_vl (Pc_vl ?_))
        · have := (bt0 (m := cpl N S) (k := k) (by omega) (by omega)).mp z
          rw [ct] at this
          cases this
        · have e : psm (zI s0 35) S (k + 1) = psm (zI s0 35) S k + 0 := by
            show psm (zI s0 35) S k + (if S.testBit k then zI s0 35 k else 0) = _
            rw [if_neg (by rw [b]; decide)]
          rw [nI1 (by omega), ← e]
          exact ih
    · refine Pc_iff (fun z => c ((nIlt (by omega) (by omega)).mp z)) ?_
      rw [show k = N by omega]
      exact hq
theorem cnM {N S x : Nat} (hN : N ≤ 10) (hS : S < 2 ^ N) (hx : x < N) (e67 : zS t 59 67 = nI N) (al : NA s0 t N) : Pc (f_X12_costNext t (nI x) (nI (cpl N S))) (fun v => v = cst s0 N S x) := by
  unfold f_X12_costNext
  refine csL (s0 := s0) (S := S) hN hS e67 al ?_ 4000 0 (Nat.zero_le _)
  obtain ⟨a1, a2, a3⟩ := al x hx
  rw [nI_n (k := x) (by omega), ← a1, ← a2, ← a3]
  refine Pc_gd (fun _ => Pc_gd (fun _ => Pc_vl (Pc_if (fun z => Pc_gd (fun _ => Pc_some ?_)) (fun z => Pc_some ?_))))
  · unfold cst
    rw [if_pos z]
    exact Int32.mul_comm _ _
  · unfold cst
    rw [if_neg z]
    exact (Int32.mul_zero).symm
/-- a set, both ways -/
def OK1 (s0 : SS) (N : Nat) (s t : SS) (S : Nat) : Prop := zI s 38 S = zI t 109 (cpl N S) ∧ (0 ≤ (zI s 38 S).toInt ∧ (zI s 38 S).toInt ≤ 9801 * ((cpl N S : Nat) : Int)) ∧ (S + 1 < 2 ^ N → ∃ x, x < N ∧ S.testBit x = false ∧ zI s 38 S = cst s0 N S x + zI s 38 (S ||| 2 ^ x))
/-- what all the loops know -/
def OB (s0 t0 : SS) (N : Nat) : Prop := (1 ≤ N ∧ N ≤ 10) ∧ zS s0 34 3 = nI N ∧ zS t0 59 67 = nI N ∧ NA s0 t0 N ∧ NB s0 N
def OR (s0 t0 : SS) (N T : Nat) (s t : SS) : Prop := Frm [] [38, 39, 40] [] s0 s ∧ Frm [] [109, 110] [] t0 t ∧ sumX s0 s N ∧ ∀ S, 2 ^ N ≤ S + T → S < 2 ^ N → OK1 s0 N s t S
theorem NA.f {N : Nat} (h : NA s0 t0 N) (F : Frm [] [109, 110] [] t0 t) : NA s0 t N := fun i hi => by rw [F.2.1 106 i rfl, F.2.1 107 i rfl, F.2.1 108 i rfl]; exact h i hi
def PCg {α : Type} (P : α → Option (Int32 × SS) → Prop) : Prop := (∀ a, P a none) ∧ ∀ a K K', (∀ R : Int32 × SS → Prop, Pc K R → Pc K' R) → P a K → P a K'
def Inn (s0 : SS) (N S : Nat) (s : SS) (x3 y : Int32) (k : Nat) : Prop := (x3 = 1000000000 ∧ y = 2147483647 ∧ ∀ j, j < k → S.testBit j = true) ∨ (x3 = y ∧ (0 ≤ x3.toInt ∧ x3.toInt ≤ 9801 * ((cpl N S : Nat) : Int)) ∧ ∃ x, x < N ∧ S.testBit x = false ∧ x3 = cst s0 N S x + zI s 38 (S ||| 2 ^ x))
theorem ord_i {qX : Int32 → Option (Int32 × SS)} {qM : SS → Option (Int32 × SS)} {P : Int32 × SS → Option (Int32 × SS) → Prop} {N S : Nat} (HP : PCg P) (B : OB s0 t0 N) (hS : S + 1 < 2 ^ N) (F : Frm [] [38, 39, 40] [] s0 s) (A : sumX s0 s N) (F1 : Frm [] [109, 110] [] t0 t1) (O : ∀ S', S < S' → S' < 2 ^ N → OK1 s0 N s t1 S') (hq : ∀ t x3, Frm [] [109, 110] [] t1 t → (∀ j, j ≠ cpl N S → zI t 109 j = zI t1 109 j) → Inn s0 N S s x3 (zI t 109 (cpl N S)) N → Pc (qX x3) (fun a => P a (qM t))) : ∀ (n m : Nat) (t : SS) (x3 : Int32) (k : Nat), k ≤ N → Frm [] [109, 110] [] t1 t → (∀ j, j ≠ cpl N S → zI t 109 j = zI t1 109 j) → Inn s0 N S s x3 (zI t 109 (cpl N S)) k → Pc (f_X6_leastLateness_L91 qX s (nI S) n x3 (nI k)) (fun a => P a (f_X12_order_L32 qM (nI (cpl N S)) m t (nI k)))
  | 0, _, _, _, _, _, _, _, _ => Pc_none
  | n + 1, 0, _, _, _, _, _, _, _ => fun a _ => HP.1 a
  | n + 1, m + 1, t, x3, k, hk, Ft, G, I => by
    obtain ⟨⟨n1, hN⟩, e3, e67, al, hb⟩ := id B
    have h10 := p10 hN
    have hS' : S < 2 ^ N := by omega
    have lT := cp_lt hS'
    have Ft0 : Frm [] [109, 110] [] t0 t := F1.tr Ft
    have e67' : zS t 59 67 = nI N := (Ft0.1 59 67 rfl).trans e67
    show Pc (f_X6_leastLateness_L91_b qX s (nI S) (f_X6_leastLateness_L91 qX s (nI S) n) x3 (nI k)) (fun a => P a (f_X12_order_L32_b qM (nI (cpl N S)) (f_X12_order_L32 qM (nI (cpl N S)) m) t (nI k)))
    unfold f_X6_leastLateness_L91_b f_X12_order_L32_b
    rw [show zS s 34 3 = nI N from (F.1 34 3 rfl).trans e3, e67', nI_n (k := cpl N S) (by omega)]
    by_cases c : k < N
    · have ck : nI k < nI N := (nIlt (by omega) (by omega)).mpr c
      have ct := cp_t hS' c
      refine Pc_ift ck (Pc_jn ?_)
      cases b : S.testBit k with
      | true =>
        rw [b] at ct
        refine Pc_iff (fun z => ?_) (Pc_vl ?_)
        · have := (an0 (m := S) (k := k) (by omega) (by omega)).mp z
          rw [b] at this
          cases this
        · rw [nI1 (by omega)]
          refine Pc.mono (ord_i HP B hS F A F1 O hq n m t x3 (k + 1) (by omega) Ft G ?_) (fun a ha => HP.2 a _ _ (fun R h => Pc_ift ck (Pc_jn (Pc_ift ((bt0 (by omega) (by omega)).mpr ct) (Pc_vl h)))) ha)
          rcases I with ⟨i1, i2, i3⟩ | i
          · refine Or.inl ⟨i1, i2, fun j hj => ?_⟩
            by_cases z : j = k
            · rw [z]; exact b
            · exact i3 j (by omega)
          · exact Or.inr i
      | false =>
        rw [b] at ct
        have ct : (cpl N S).testBit k = true := ct
        obtain ⟨d1, d2, d3⟩ := cp_add hS' c b
        obtain ⟨o1, o2, _⟩ := O _ d2 d1
        have cb := cst_b (S := S) hN hb c
        have dl := del_lt ct
        have e9 : zI t 109 (cpl N S ^^^ 2 ^ k) = zI s 38 (S ||| 2 ^ k) := by
          rw [G _ (by omega), ← d3]
          exact o1.symm
        have lt2 := cp_lt2 d1 d2
        have Ve : (cst s0 N S k + zI s 38 (S ||| 2 ^ k)).toInt = (cst s0 N S k).toInt + (zI s 38 (S ||| 2 ^ k)).toInt := i32_add (by omega) (by omega)
        -- the reference, this need
        have md : ∀ R : Int32 × SS → Prop, Pc (f_X12_order_L32 qM (nI (cpl N S)) m (if cst s0 N S k + zI s 38 (S ||| 2 ^ k) < zI t 109 (cpl N S) then pI t 109 (cpl N S) (cst s0 N S k + zI s 38 (S ||| 2 ^ k)) else t) (nI (k + 1))) R → Pc (if nI k < nI N then (jn (fun (s6 : SS) => (vl (nI k + 1) fun v7 => (f_X12_order_L32 qM (nI (cpl N S)) m s6 v7))) fun k6 => (if ((nI (cpl N S) >>> (nI k &&& 31)) &&& (1 : Int32)) = (0 : Int32) then (k6 t) else (b1 (f_X12_costNext t (nI k) (nI (cpl N S))) fun r10 => (vl ((nI (cpl N S) &&& (((1 : Int32) <<< (nI k &&& 31)) ^^^ ((-1) : Int32)))) fun v11 => (gd (inB v11 1024) (vl ((r10 + (zI t 109 (v11.toInt.toNat)))) fun v13 => (gd (inB (nI (cpl N S)) 1024) (if v13 < (zI t 109 (cpl N S)) then (gd (inB (nI (cpl N S)) 1024) (st (pI t 109 (cpl N S) v13) fun s17 => (k6 s17))) else (k6 t))))))))) else (qM t)) R := by
          intro R g
          refine Pc_ift ck (Pc_jn (Pc_iff (fun z => ?_) (Pc_b1 (Pc.mono (cnM (s0 := s0) (x := k) hN hS' c e67' (al.f Ft0)) (fun v hv => ?_)))))
          · have := (bt0 (m := cpl N S) (k := k) (by omega) (by omega)).mp z
            rw [ct] at this
            cases this
          · rw [nx_del (by omega) ct, hv]
            refine Pc_vl (Pc_gd (fun _ => Pc_vl (Pc_gd (fun _ => ?_))))
            rw [nI_n (k := cpl N S ^^^ 2 ^ k) (by omega), e9]
            refine Pc_if (fun z => Pc_gd (fun _ => Pc_st (Pc_vl ?_))) (fun z => Pc_vl ?_)
            · rw [if_pos z] at g
              rw [nI1 (by omega)]
              exact g
            · rw [if_neg z] at g
              rw [nI1 (by omega)]
              exact g
        refine Pc_ift ((an0 (by omega) (by omega)).mpr b) (Pc_b1 (Pc.mono (swX hN hS' c F A) (fun v hv => ?_)))
        rw [hv, minJ]
        generalize hV : cst s0 N S k + zI s 38 (S ||| 2 ^ k) = V at Ve md ⊢
        refine Pc_b1S (Pc_vl ?_)
        rw [nI1 (k := k) (by omega)] at md ⊢
        have Vb : 0 ≤ V.toInt ∧ V.toInt ≤ 9801 * ((cpl N S : Nat) : Int) := by rw [Ve]; omega
        have W : V < x3 ↔ V < zI t 109 (cpl N S) := by
          rcases I with ⟨i1, i2, _⟩ | ⟨i1, _⟩
          · rw [i1, i2, jlt, jlt, show (1000000000 : Int32).toInt = 1000000000 from rfl, show (2147483647 : Int32).toInt = 2147483647 from rfl]
            omega
          · rw [i1]
        by_cases z : V < x3
        · rw [if_pos z]
          rw [if_pos (W.mp z)] at md
          refine Pc.mono (ord_i HP B hS F A F1 O hq n m (pI t 109 (cpl N S) V) V (k + 1) (by omega) (Ft.pI rfl) (fun j hj => ?_) ?_) (fun a ha => HP.2 a _ _ md ha)
          · rw [zI_pI, if_neg (fun w => hj w.2)]
            exact G j hj
          · rw [zI_pI, if_pos ⟨rfl, rfl⟩]
            exact Or.inr ⟨rfl, Vb, k, c, b, hV.symm⟩
        · rw [if_neg z]
          rw [if_neg (fun w => z (W.mpr w))] at md
          refine Pc.mono (ord_i HP B hS F A F1 O hq n m t x3 (k + 1) (by omega) Ft G ?_) (fun a ha => HP.2 a _ _ md ha)
          rcases I with ⟨i1, _, _⟩ | i
          · exfalso
            apply z
            rw [i1, jlt, show (1000000000 : Int32).toInt = 1000000000 from rfl]
            omega
          · exact Or.inr i
    · have ck : ¬ nI k < nI N := fun z => c ((nIlt (by omega) (by omega)).mp z)
      have kN : k = N := by omega
      refine Pc_iff ck (Pc.mono (hq t x3 Ft G (by have I' := I; rw [kN] at I'; exact I')) (fun a ha => HP.2 a _ _ (fun R h => Pc_iff ck h) ha))
theorem ord_s {qX : SS → Option (Int32 × SS)} {qM : SS → Option (Int32 × SS)} {P : Int32 × SS → Option (Int32 × SS) → Prop} {N : Nat} (HP : PCg P) (B : OB s0 t0 N) (hq : ∀ s t, OR s0 t0 N (2 ^ N) s t → Pc (qX s) (fun a => P a (qM t))) : ∀ (n m : Nat) (s t : SS) (T : Nat) (x : Int32), 1 ≤ T → T ≤ 2 ^ N → x.toInt = ((2 ^ N : Nat) : Int) - 1 - (T : Int) → OR s0 t0 N T s t → Pc (f_X6_leastLateness_L81 qX n s x) (fun a => P a (f_X12_order_L11 qM m t (nI T)))
  | 0, _, _, _, _, _, _, _, _, _ => Pc_none
  | n + 1, 0, _, _, _, _, _, _, _, _ => fun a _ => HP.1 a
  | n + 1, m + 1, s, t, T, x, t1, t2, hx, O => by
    obtain ⟨⟨n1, hN⟩, e3, e67, al, hb⟩ := id B
    have h10 := p10 hN
    obtain ⟨F, Ft, A, Ok⟩ := id O
    have e67' : zS t 59 67 = nI N := (Ft.1 59 67 rfl).trans e67
    show Pc (f_X6_leastLateness_L81_b qX (f_X6_leastLateness_L81 qX n) s x) (fun a => P a (f_X12_order_L11_b qM (f_X12_order_L11 qM m) t (nI T)))
    unfold f_X6_leastLateness_L81_b f_X12_order_L11_b
    rw [e67', sh1n N (by omega), nI_n (k := T) (by omega)]
    by_cases c : T < 2 ^ N
    · obtain ⟨S, hS⟩ : ∃ S : Nat, S = 2 ^ N - 1 - T := ⟨_, rfl⟩
      have lS : S + 1 < 2 ^ N := by omega
      have eT : cpl N S = T := by unfold cpl; omega
      have ex : x = nI S := Int32.toInt_inj.1 (by rw [nI_t (by omega)]; omega)
      have ck : nI T < nI (2 ^ N) := (nIlt (by omega) (by omega)).mpr c
      rw [ex, nI_n (k := S) (by omega)]
      refine Pc_iff (by rw [jlt, nI_t (by omega), jl0]; omega) ?_
      have md : ∀ a, P a (f_X12_order_L32 (fun (s18 : SS) => (vl (nI T + 1) fun v19 => (f_X12_order_L11 qM m s18 v19))) (nI T) 4000 (pI t 109 T 2147483647) 0) → P a (if nI T < nI (2 ^ N) then (gd (inB (nI T) 1024) (st (pI t 109 T 2147483647) fun s4 => (f_X12_order_L32 (fun (s18 : SS) => (vl (nI T + 1) fun v19 => (f_X12_order_L11 qM m s18 v19))) (nI T) 4000 s4 0))) else (qM t)) := fun a ha => HP.2 a _ _ (fun R h => Pc_ift ck (Pc_gd (fun _ => Pc_st h))) ha
      refine Pc.mono ?_ md
      have key := ord_i (s := s) (t1 := pI t 109 T 2147483647) (S := S) (qX := fun (x26_3 : Int32) => (gd (inB (nI S) 1024) (st (pI s 38 S x26_3) fun s28 => (vl (nI S + (-1)) fun v29 => (f_X6_leastLateness_L81 qX n s28 v29))))) (qM := fun (s18 : SS) => (vl (nI T + 1) fun v19 => (f_X12_order_L11 qM m s18 v19))) (P := P) HP B lS F A (Ft.pI rfl) (fun S' l1 l2 => ?_) (fun t' x3 Ft' G I => Pc_gd (fun _ => Pc_st (Pc_vl ?_))) 4000 4000 (pI t 109 T 2147483647) 1000000000 0 (Nat.zero_le _) Frm.rf (fun _ _ => rfl) (Or.inl ⟨rfl, by rw [eT, zI_pI, if_pos ⟨rfl, rfl⟩], fun j hj => absurd hj (Nat.not_lt_zero j)⟩)
      · rw [eT] at key
        exact key
      · obtain ⟨o1, o2, o3⟩ := Ok S' (by omega) l2
        have := cp_lt2 l2 l1
        exact ⟨by rw [zI_pI, if_neg (by omega)]; exact o1, o2, o3⟩
      · -- this set is done
        have nx : (nI S + (-1)).toInt = ((2 ^ N : Nat) : Int) - 1 - ((T + 1 : Nat) : Int) := by
          have jm1 : (-1 : Int32).toInt = -1 := rfl
          have es : (nI S).toInt = (S : Int) := nI_t (by omega)
          rw [i32_add (by rw [jm1]; omega) (by rw [jm1]; omega), jm1]
          omega
        rw [eT] at G I
        have tT : zI t' 109 T = x3 ∧ (0 ≤ x3.toInt ∧ x3.toInt ≤ 9801 * ((cpl N S : Nat) : Int)) ∧ ∃ y, y < N ∧ S.testBit y = false ∧ x3 = cst s0 N S y + zI s 38 (S ||| 2 ^ y) := by
          rcases I with ⟨_, _, i3⟩ | ⟨i1, i2, i3⟩
          · exfalso
            refine ex_bit (m := T) (N := N) t1 c (fun k hk => ?_)
            rw [← eT, cp_t (by omega) hk, i3 k hk]
            rfl
          · exact ⟨i1.symm, i2, i3⟩
        have O' : OR s0 t0 N (T + 1) (pI s 38 S x3) t' := by
          have up : ∀ S', S < S' → zI (pI s 38 S x3) 38 S' = zI s 38 S' := fun S' h => by rw [zI_pI, if_neg (by omega)]
          refine ⟨F.pI rfl, (Ft.pI rfl).tr Ft', A, fun S' h1 h2 => ?_⟩
          by_cases z : S' = S
          · subst z
            obtain ⟨u1, u2, y, u3, u4, u5⟩ := tT
            have ev : zI (pI s 38 S' x3) 38 S' = x3 := by rw [zI_pI, if_pos ⟨rfl, rfl⟩]
            refine ⟨by rw [ev, eT]; exact u1.symm, by rw [ev]; exact u2, fun _ => ⟨y, u3, u4, ?_⟩⟩
            rw [ev, up _ (cp_add (by omega) u3 u4).2.1]
            exact u5
          · obtain ⟨o1, o2, o3⟩ := Ok S' (by omega) h2
            have ll := cp_lt2 h2 (show S < S' by omega)
            refine ⟨?_, by rw [up S' (by omega)]; exact o2, fun h => ?_⟩
            · rw [up S' (by omega), G _ (by omega), zI_pI, if_neg (by omega)]
              exact o1
            · obtain ⟨y, v1, v2, v3⟩ := o3 h
              refine ⟨y, v1, v2, ?_⟩
              rw [up S' (by omega), up _ (Nat.lt_trans (show S < S' by omega) (cp_add h2 v1 v2).2.1)]
              exact v3
        refine Pc.mono (ord_s HP B hq n m (pI s 38 S x3) t' (T + 1) (nI S + (-1)) (by omega) (by omega) nx O') (fun a ha => HP.2 a _ _ (fun R h => Pc_vl ?_) ha)
        rw [nI1 (by omega)]
        exact h
    · have eT : T = 2 ^ N := by omega
      have ck : ¬ nI T < nI (2 ^ N) := fun z => c ((nIlt (by omega) (by omega)).mp z)
      refine Pc_ift (by rw [jlt, jl0]; omega) (Pc.mono (hq s t (by rw [← eT]; exact O)) (fun a ha => HP.2 a _ _ (fun R h => Pc_iff ck h) ha))
/-- the first that is least, both ways -/
theorem ord_f {qX : Int32 → Option SS} {qM : Int32 → Option (Int32 × SS)} {P : SS → Option (Int32 × SS) → Prop} {N S : Nat} {y2 z2 z3 : Int32} (HP : PCg P) (B : OB s0 t0 N) (hS : S + 1 < 2 ^ N) (O : OR s0 t0 N (2 ^ N) s t) (hq : ∀ x, x < N → S.testBit x = false → Pc (qX (nI x)) (fun a => P a (qM (nI x)))) : ∀ (n m k : Nat), k < N → (∀ j, j < k → S.testBit j = false → ¬ cst s0 N S j + zI s 38 (S ||| 2 ^ j) = zI s 38 S) → Pc (f_X6_placesFollow_L14 qX s (nI S) y2 n (nI k)) (fun a => P a (f_X12_order_L129 qM t (nI (cpl N S)) z2 z3 m (nI k)))
  | 0, _, _, _, _ => Pc_none
  | n + 1, 0, _, _, _ => fun a _ => HP.1 a
  | n + 1, m + 1, k, hk, I => by
    obtain ⟨⟨n1, hN⟩, e3, e67, al, hb⟩ := id B
    have h10 := p10 hN
    obtain ⟨F, Ft, A, Ok⟩ := id O
    have hS' : S < 2 ^ N := by omega
    have lT := cp_lt hS'
    have e67' : zS t 59 67 = nI N := (Ft.1 59 67 rfl).trans e67
    have ct := cp_t hS' hk
    obtain ⟨o1, o2, o3⟩ := Ok S (by omega) hS'
    show Pc (f_X6_placesFollow_L14_b qX s (nI S) y2 (f_X6_placesFollow_L14 qX s (nI S) y2 n) (nI k)) (fun a => P a (f_X12_order_L129_b qM t (nI (cpl N S)) z2 z3 (f_X12_order_L129 qM t (nI (cpl N S)) z2 z3 m) (nI k)))
    unfold f_X6_placesFollow_L14_b f_X12_order_L129_b
    rw [show zS s 34 3 = nI N from (F.1 34 3 rfl).trans e3, nIm (by omega) n1, nI_n (k := cpl N S) (by omega), nI_n (k := S) (by omega), ← o1]
    -- the reference, this need
    have md : ∀ R : Int32 × SS → Prop, (S.testBit k = true → Pc (f_X12_order_L129 qM t (nI (cpl N S)) z2 z3 m (nI (k + 1))) R) → (S.testBit k = false → cst s0 N S k + zI s 38 (S ||| 2 ^ k) = zI s 38 S → Pc (qM (nI k)) R) → (S.testBit k = false → ¬ cst s0 N S k + zI s 38 (S ||| 2 ^ k) = zI s 38 S → Pc (f_X12_order_L129 qM t (nI (cpl N S)) z2 z3 m (nI (k + 1))) R) → Pc (jn ((vl (nI k + 1) fun v26 => (f_X12_order_L129 qM t (nI (cpl N S)) z2 z3 m v26))) fun k25 => (if ((nI (cpl N S) >>> (nI k &&& 31)) &&& (1 : Int32)) = (0 : Int32) then k25 else (b1 (f_X12_costNext t (nI k) (nI (cpl N S))) fun r28 => (vl ((nI (cpl N S) &&& (((1 : Int32) <<< (nI k &&& 31)) ^^^ ((-1) : Int32)))) fun v29 => (gd (inB v29 1024) (gd (inB (nI (cpl N S)) 1024) (if (r28 + (zI t 109 (v29.toInt.toNat))) = (zI s 38 S) then (qM (nI k)) else k25))))))) R := by
      intro R g1 g2 g3
      rw [nI1 (by omega)]
      refine Pc_jn ?_
      cases b : S.testBit k with
      | true =>
        rw [b] at ct
        exact Pc_ift ((bt0 (by omega) (by omega)).mpr ct) (Pc_vl (g1 b))
      | false =>
        rw [b] at ct
        have ct : (cpl N S).testBit k = true := ct
        obtain ⟨d1, d2, d3⟩ := cp_add hS' hk b
        have dl := del_lt ct
        have e9 : zI t 109 (cpl N S ^^^ 2 ^ k) = zI s 38 (S ||| 2 ^ k) := by
          rw [← d3]
          exact (Ok _ (by omega) d1).1.symm
        refine Pc_iff (fun z => ?_) (Pc_b1 (Pc.mono (cnM (s0 := s0) (x := k) hN hS' hk e67' (al.f Ft)) (fun v hv => ?_)))
        · have := (bt0 (m := cpl N S) (k := k) (by omega) (by omega)).mp z
          rw [ct] at this
          cases this
        · rw [nx_del (by omega) ct, hv]
          refine Pc_vl (Pc_gd (fun _ => Pc_gd (fun _ => ?_)))
          rw [nI_n (k := cpl N S ^^^ 2 ^ k) (by omega), e9]
          exact Pc_if (fun z => g2 b z) (fun z => Pc_vl (g3 b z))
    by_cases c : k + 1 < N
    · refine Pc_ift ((nIlt (by omega) (by omega)).mpr (by omega)) (Pc_jn ?_)
      rw [nI1 (k := k) (by omega)] at md ⊢
      cases b : S.testBit k with
      | true =>
        refine Pc_iff (fun z => ?_) (Pc_vl ?_)
        · have := (an0 (m := S) (k := k) (by omega) (by omega)).mp z
          rw [b] at this
          cases this
        · refine Pc.mono (ord_f HP B hS O hq n m (k + 1) (by omega) (fun j hj hb => ?_)) (fun a ha => HP.2 a _ _ (fun R h => md R (fun _ => h) (fun w => absurd (b.symm.trans w) (by decide)) (fun w => absurd (b.symm.trans w) (by decide))) ha)
          by_cases z : j = k
          · rw [z, b] at hb
            cases hb
          · exact I j (by omega) hb
      | false =>
        refine Pc_ift ((an0 (by omega) (by omega)).mpr b) (Pc_b1 (Pc.mono (swX hN hS' hk F A) (fun v hv => Pc_gd (fun _ => ?_))))
        rw [hv]
        by_cases e : cst s0 N S k + zI s 38 (S ||| 2 ^ k) = zI s 38 S
        · exact Pc_ift e (Pc.mono (hq k hk b) (fun a ha => HP.2 a _ _ (fun R h => md R (fun w => absurd (b.symm.trans w) (by decide)) (fun _ _ => h) (fun _ w => absurd e w)) ha))
        · refine Pc_iff e (Pc_vl (Pc.mono (ord_f HP B hS O hq n m (k + 1) (by omega) (fun j hj hb => ?_)) (fun a ha => HP.2 a _ _ (fun R h => md R (fun w => absurd (b.symm.trans w) (by decide)) (fun _ w => absurd w e) (fun _ _ => h)) ha)))
          by_cases z : j = k
          · rw [z]; exact e
          · exact I j (by omega) hb
    · obtain ⟨y, y1, y3, y4⟩ := o3 hS
      have yk : y = k := by
        by_cases z : y < k
        · exact absurd y4.symm (I y z y3)
        · omega
      subst yk
      refine Pc_iff (fun z => ?_) (Pc.mono (hq y hk y3) (fun a ha => HP.2 a _ _ (fun R h => md R (fun w => absurd (y3.symm.trans w) (by decide)) (fun _ _ => h) (fun _ w => absurd y4.symm w)) ha))
      have := (nIlt (by omega) (by omega)).mp z
      omega
theorem OR.w {N i : Nat} {v : Int32} (O : OR s0 t0 N (2 ^ N) s t) : OR s0 t0 N (2 ^ N) (pI s 40 i v) (pI t 110 i v) := ⟨O.1.pI rfl, O.2.1.pI rfl, O.2.2.1, O.2.2.2⟩
theorem ord_p {qX : SS → Option SS} {qM : SS → Option (Int32 × SS)} {P : SS → Option (Int32 × SS) → Prop} {N : Nat} {y2 : Int32} (HP : PCg P) (B : OB s0 t0 N) (hq : ∀ s t, OR s0 t0 N (2 ^ N) s t → (∀ j, j < N → zI s 40 j = zI t 110 j) → zI s 38 0 = y2 → Pc (qX s) (fun a => P a (qM t))) : ∀ (n m : Nat) (s t : SS) (S i : Nat), i ≤ N → S < 2 ^ N → pc (cpl N S) + i = N → OR s0 t0 N (2 ^ N) s t → (∀ j, j < i → zI s 40 j = zI t 110 j) → zI s 38 0 = y2 → Pc (f_X6_placesFollow_L4 qX n s (nI S) (nI i)) (fun a => P a (f_X12_order_L118 qM y2 m t (nI (cpl N S)) (nI i)))
  | 0, _, _, _, _, _, _, _, _, _, _, _ => Pc_none
  | n + 1, 0, _, _, _, _, _, _, _, _, _, _ => fun a _ => HP.1 a
  | n + 1, m + 1, s, t, S, i, hi, hS, hp, O, E, e0 => by
    obtain ⟨⟨n1, hN⟩, e3, e67, al, hb⟩ := id B
    have h10 := p10 hN
    have lT := cp_lt hS
    show Pc (f_X6_placesFollow_L4_b qX (f_X6_placesFollow_L4 qX n) s (nI S) (nI i)) (fun a => P a (f_X12_order_L118_b qM y2 (f_X12_order_L118 qM y2 m) t (nI (cpl N S)) (nI i)))
    unfold f_X6_placesFollow_L4_b f_X12_order_L118_b
    rw [show zS s 34 3 = nI N from (O.1.1 34 3 rfl).trans e3, show zS t 59 67 = nI N from (O.2.1.1 59 67 rfl).trans e67, nI_n (k := i) (by omega)]
    by_cases c : i < N
    · have ck : nI i < nI N := (nIlt (by omega) (by omega)).mpr c
      have T1 : 1 ≤ cpl N S := pc_0 (N := N - i) (by omega) (by omega)
      have lS : S + 1 < 2 ^ N := by unfold cpl at T1; omega
      refine Pc_ift ck (Pc.mono ?_ (fun a ha => HP.2 a _ _ (fun R h => Pc_ift ck h) ha))
      refine ord_f (s0 := s0) (t0 := t0) (P := P) HP B lS O (fun x hx hb => ?_) 4000 4000 0 (by omega) (fun j hj => absurd hj (Nat.not_lt_zero j))
      have tb : (cpl N S).testBit x = true := by rw [cp_t hS hx, hb]; rfl
      obtain ⟨d1, d2, d3⟩ := cp_add hS hx hb
      have pd := pc_del (by omega) tb
      rw [sh1n x (by omega), nx_or, nI1 (by omega)]
      refine Pc_gd (fun _ => Pc_st (Pc_vl (Pc_vl ?_)))
      refine Pc.mono (ord_p HP B hq n m (pI s 40 i (nI x)) (pI t 110 i (nI x)) (S ||| 2 ^ x) (i + 1) (by omega) d1 (by rw [d3]; omega) O.w (fun j hj => ?_) e0) (fun a ha => HP.2 a _ _ (fun R h => Pc_gd (fun _ => Pc_st (Pc_vl (Pc_vl ?_)))) ha)
      · rw [zI_pI, zI_pI]
        by_cases z : j = i
        · rw [if_pos ⟨rfl, z⟩, if_pos ⟨rfl, z⟩]
        · rw [if_neg (fun w => z w.2), if_neg (fun w => z w.2)]
          exact E j (by omega)
      · rw [← sh1n x (by omega), nx_del (by omega) tb, ← d3]
        exact h
    · have ck : ¬ nI i < nI N := fun z => c ((nIlt (by omega) (by omega)).mp z)
      refine Pc_iff ck (Pc.mono (hq s t O (fun j hj => E j (by omega)) e0) (fun a ha => HP.2 a _ _ (fun R h => Pc_iff ck h) ha))
/-- needs told, and the last order -/
def QNed (s t : SS) : Prop := zS s 34 3 = zS t 59 67 ∧ (0 ≤ (zS s 34 3).toInt ∧ (zS s 34 3).toInt ≤ 10) ∧ ∀ i : Nat, (i : Int) < (zS s 34 3).toInt → (zI s 35 i = zI t 106 i ∧ zI s 36 i = zI t 107 i ∧ zI s 37 i = zI t 108 i) ∧ (0 ≤ (zI s 35 i).toInt ∧ (zI s 35 i).toInt ≤ 9) ∧ (0 ≤ (zI s 36 i).toInt ∧ (zI s 36 i).toInt ≤ 99) ∧ (0 ≤ (zI s 37 i).toInt ∧ (zI s 37 i).toInt ≤ 99)
def QOrd (s t : SS) : Prop := (zS s 34 7 = 0 ∧ zS t 59 72 = -1) ∨ (zS s 34 7 = zS t 59 72 ∧ (0 ≤ (zS s 34 7).toInt ∧ (zS s 34 7).toInt ≤ 10) ∧ ∀ i : Nat, (i : Int) < (zS s 34 7).toInt → zI s 40 i = zI t 110 i)
theorem V_ordered (Q : QOrd s t) (a0 : Int32) : Pc (f_X11_ordered s a0) fun x => Pc (f_X12_ordered t a0) fun m => x = m := by
  unfold f_X11_ordered f_X12_ordered
  have M0 : ∀ K : Option Int32, ¬ ((0 : Int32).toInt ≤ a0.toInt ∧ a0.toInt ≤ (zS t 59 72 - 1).toInt) → Pc (b1 (f_X12_in a0 0 (zS t 59 72 - 1)) fun r1 => if r1 = 0 then some (-1) else K) (fun m => (-1 : Int32) = m) := fun K h => by
    rw [in_f h]
    exact Pc_b1S (Pc_if00 (Pc_some rfl))
  rcases Q with ⟨w1, w2⟩ | ⟨w1, w2, w3⟩
  · have e : (zS t 59 72 - 1).toInt = -2 := by rw [w2]; rfl
    refine Pc_lt (fun z => Pc_some (M0 _ (by rw [jl0] at z ⊢; omega))) (fun z => Pc_lt (fun w => ?_) (fun w => Pc_some (M0 _ (by rw [e, jl0]; omega))))
    rw [w1, jl0] at w
    rw [jl0] at z
    omega
  · have e : (zS t 59 72 - 1).toInt = (zS s 34 7).toInt - 1 := by rw [← w1, i32_sub (by rw [jl1]; omega) (by rw [jl1]; omega), jl1]
    refine Pc_lt (fun z => Pc_some (M0 _ (by rw [jl0] at z ⊢; omega))) (fun z => Pc_lt (fun w => ?_) (fun w => Pc_some (M0 _ (by rw [e]; omega))))
    rw [jl0] at z
    rw [in_t (a := a0) (by rw [jl0, e]; omega)]
    refine Pc_gd (fun g => Pc_some (Pc_b1S (Pc_if10 (Pc_gd (fun _ => Pc_some (w3 _ (by omega)))))))
theorem L_need (Q : QNed s t) (a0 a1 : Int32) : Pc (f_X11_need s a0 a1) fun x => Pc (f_X12_need t a0 a1) fun m => x.1 = m.1 ∧ QNed x.2 m.2 := by
  have j100 : (100 : Int32).toInt = 100 := rfl
  have j999 : (999 : Int32).toInt = 999 := rfl
  have j99 : (99 : Int32).toInt = 99 := rfl
  have j9 : (9 : Int32).toInt = 9 := rfl
  have j10 : (10 : Int32).toInt = 10 := rfl
  obtain ⟨e3, h3, al⟩ := id Q
  unfold f_X11_need f_X12_need f_X6_needTold
  have D : ∀ K : Option (Int32 × SS), ¬ (100 ≤ a0.toInt ∧ a0.toInt ≤ 999) → Pc (if a0 < (0 : Int32) then some ((-1), t) else (b1 (f_X12_in (a0 / (100 : Int32)) (1 : Int32) (9 : Int32)) fun r2 => (if r2 = (0 : Int32) then some ((-1), t) else K))) (fun m => (-1 : Int32) = m.1 ∧ QNed s m.2) := fun K h => by
    refine Pc_lt (fun _ => Pc_some ⟨rfl, Q⟩) (fun z => ?_)
    rw [jl0] at z
    rw [in_f (a := a0 / 100) (by rw [jl1, j9, d100 z]; omega)]
    exact Pc_b1S (Pc_if00 (Pc_some ⟨rfl, Q⟩))
  refine Pc_lt (fun z => Pc_some (D _ (by rw [j100] at z; omega))) (fun l1 => Pc_lt (fun z => Pc_some (D _ (by rw [j999] at z; omega))) (fun l2 => ?_))
  rw [j100] at l1
  rw [j999] at l2
  have p0 : 0 ≤ a0.toInt := by omega
  have dd := d100 p0
  have mm := m100 p0
  rw [in_t (a := a0 / 100) (by rw [jl1, j9, dd]; omega)]
  have D2 : ∀ (K : Option (Int32 × SS)) (R : Int32 × SS → Prop), Pc K R → Pc (if a0 < (0 : Int32) then some ((-1), t) else (b1 (some (1 : Int32)) fun r2 => (if r2 = (0 : Int32) then some ((-1), t) else K))) R := fun K R h => Pc_iff (by rw [jlt, jl0]; omega) (Pc_b1S (Pc_if10 h))
  refine Pc_if (fun z => Pc_some (D2 _ _ (Pc_ift z (Pc_some ⟨rfl, Q⟩)))) (fun z => ?_)
  by_cases d : 0 ≤ a1.toInt ∧ a1.toInt ≤ 99
  · rw [in_t (a := a1) (by rw [jl0, j99]; exact d)]
    refine Pc_iff (by rw [jlt, jl0]; omega) (Pc_iff (by rw [jlt, j99]; omega) ?_)
    by_cases g : (zS s 34 3).toInt < 10
    · rw [if_pos (show zS s 34 3 < 10 by rw [jlt, j10]; exact g)]
      refine Pc_bd (Pc_vl (Pc_gd (fun _ => Pc_st (Pc_vl (Pc_gd (fun _ => Pc_st (Pc_vl (Pc_gd (fun _ => Pc_st (Pc_vl (Pc_st (Pc_some (Pc_some (D2 _ _ (Pc_iff z (Pc_b1S (Pc_if10 (Pc_iff ?_ (Pc_vl (Pc_vl (Pc_gd (fun _ => Pc_st (Pc_vl (Pc_vl (Pc_gd (fun _ => Pc_st (Pc_vl (Pc_gd (fun _ => Pc_st (Pc_vl (Pc_st (Pc_some ?_))))))))))))))))))))))))))))))))
      · rw [← e3]
        intro w
        rw [w, j10] at g
        omega
      · have n1 : (zS s 34 3 + 1).toInt = (zS s 34 3).toInt + 1 := by rw [i32_add (by rw [jl1]; omega) (by rw [jl1]; omega), jl1]
        have E3 : zS s 34 3 + 1 = zS t 59 67 + 1 := by rw [e3]
        refine ⟨E3, E3, ?_, fun i h => ?_⟩
        · show 0 ≤ (zS s 34 3 + 1).toInt ∧ (zS s 34 3 + 1).toInt ≤ 10
          omega
        · have h' : (i : Int) < (zS s 34 3 + 1).toInt := h
          have r1 : ∀ v w u : Int32, zI (pI (pI (pI s 35 (zS s 34 3).toInt.toNat v) 36 (zS s 34 3).toInt.toNat w) 37 (zS s 34 3).toInt.toNat u) 35 i = if i = (zS s 34 3).toInt.toNat then v else zI s 35 i := fun v w u => by
            rw [zI_pI, if_neg (by omega), zI_pI, if_neg (by omega), zI_pI]
            by_cases q : i = (zS s 34 3).toInt.toNat
            · rw [if_pos ⟨rfl, q⟩, if_pos q]
            · rw [if_neg (fun k => q k.2), if_neg q]
          have r2 : ∀ v w u : Int32, zI (pI (pI (pI s 35 (zS s 34 3).toInt.toNat v) 36 (zS s 34 3).toInt.toNat w) 37 (zS s 34 3).toInt.toNat u) 36 i = if i = (zS s 34 3).toInt.toNat then w else zI s 36 i := fun v w u => by
            rw [zI_pI, if_neg (by omega), zI_pI]
            by_cases q : i = (zS s 34 3).toInt.toNat
            · rw [if_pos ⟨rfl, q⟩, if_pos q]
            · rw [if_neg (fun k => q k.2), if_neg q, zI_pI, if_neg (by omega)]
          have r3 : ∀ v w u : Int32, zI (pI (pI (pI s 35 (zS s 34 3).toInt.toNat v) 36 (zS s 34 3).toInt.toNat w) 37 (zS s 34 3).toInt.toNat u) 37 i = if i = (zS s 34 3).toInt.toNat then u else zI s 37 i := fun v w u => by
            rw [zI_pI]
            by_cases q : i = (zS s 34 3).toInt.toNat
            · rw [if_pos ⟨rfl, q⟩, if_pos q]
            · rw [if_neg (fun k => q k.2), if_neg q, zI_pI, if_neg (by omega), zI_pI, if_neg (by omega)]
          have m1 : ∀ v w u : Int32, zI (pI (pI (pI t 106 (zS t 59 67).toInt.toNat v) 107 (zS t 59 67).toInt.toNat w) 108 (zS t 59 67).toInt.toNat u) 106 i = if i = (zS t 59 67).toInt.toNat then v else zI t 106 i := fun v w u => by
            rw [zI_pI, if_neg (by omega), zI_pI, if_neg (by omega), zI_pI]
            by_cases q : i = (zS t 59 67).toInt.toNat
            · rw [if_pos ⟨rfl, q⟩, if_pos q]
            · rw [if_neg (fun k => q k.2), if_neg q]
          have m2 : ∀ v w u : Int32, zI (pI (pI (pI t 106 (zS t 59 67).toInt.toNat v) 107 (zS t 59 67).toInt.toNat w) 108 (zS t 59 67).toInt.toNat u) 107 i = if i = (zS t 59 67).toInt.toNat then w else zI t 107 i := fun v w u => by
            rw [zI_pI, if_neg (by omega), zI_pI]
            by_cases q : i = (zS t 59 67).toInt.toNat
            · rw [if_pos ⟨rfl, q⟩, if_pos q]
            · rw [if_neg (fun k => q k.2), if_neg q, zI_pI, if_neg (by omega)]
          have m3 : ∀ v w u : Int32, zI (pI (pI (pI t 106 (zS t 59 67).toInt.toNat v) 107 (zS t 59 67).toInt.toNat w) 108 (zS t 59 67).toInt.toNat u) 108 i = if i = (zS t 59 67).toInt.toNat then u else zI t 108 i := fun v w u => by
            rw [zI_pI]
            by_cases q : i = (zS t 59 67).toInt.toNat
            · rw [if_pos ⟨rfl, q⟩, if_pos q]
            · rw [if_neg (fun k => q k.2), if_neg q, zI_pI, if_neg (by omega), zI_pI, if_neg (by omega)]
          have G1 := r1 (a0 / 100) (a0 % 100) a1
          have G2 := r2 (a0 / 100) (a0 % 100) a1
          have G3 := r3 (a0 / 100) (a0 % 100) a1
          have H1 := m1 (a0 / 100) (a0 % 100) a1
          have H2 := m2 (a0 / 100) (a0 % 100) a1
          have H3 := m3 (a0 / 100) (a0 % 100) a1
          rw [← e3] at H1 H2 H3
          show (zI (pI (pI (pI s 35 (zS s 34 3).toInt.toNat (a0 / 100)) 36 (zS s 34 3).toInt.toNat (a0 % 100)) 37 (zS s 34 3).toInt.toNat a1) 35 i = zI (pI (pI (pI t 106 (zS t 59 67).toInt.toNat (a0 / 100)) 107 (zS t 59 67).toInt.toNat (a0 % 100)) 108 (zS t 59 67).toInt.toNat a1) 106 i ∧ zI (pI (pI (pI s 35 (zS s 34 3).toInt.toNat (a0 / 100)) 36 (zS s 34 3).toInt.toNat (a0 % 100)) 37 (zS s 34 3).toInt.toNat a1) 36 i = zI (pI (pI (pI t 106 (zS t 59 67).toInt.toNat (a0 / 100)) 107 (zS t 59 67).toInt.toNat (a0 % 100)) 108 (zS t 59 67).toInt.toNat a1) 107 i ∧ zI (pI (pI (pI s 35 (zS s 34 3).toInt.toNat (a0 / 100)) 36 (zS s 34 3).toInt.toNat (a0 % 100)) 37 (zS s 34 3).toInt.toNat a1) 37 i = zI (pI (pI (pI t 106 (zS t 59 67).toInt.toNat (a0 / 100)) 107 (zS t 59 67).toInt.toNat (a0 % 100)) 108 (zS t 59 67).toInt.toNat a1) 108 i) ∧ (0 ≤ (zI (pI (pI (pI s 35 (zS s 34 3).toInt.toNat (a0 / 100)) 36 (zS s 34 3).toInt.toNat (a0 % 100)) 37 (zS s 34 3).toInt.toNat a1) 35 i).toInt ∧ (zI (pI (pI (pI s 35 (zS s 34 3).toInt.toNat (a0 / 100)) 36 (zS s 34 3).toInt.toNat (a0 % 100)) 37 (zS s 34 3).toInt.toNat a1) 35 i).toInt ≤ 9) ∧ (0 ≤ (zI (pI (pI (pI s 35 (zS s 34 3).toInt.toNat (a0 / 100)) 36 (zS s 34 3).toInt.toNat (a0 % 100)) 37 (zS s 34 3).toInt.toNat a1) 36 i).toInt ∧ (zI (pI (pI (pI s 35 (zS s 34 3).toInt.toNat (a0 / 100)) 36 (zS s 34 3).toInt.toNat (a0 % 100)) 37 (zS s 34 3).toInt.toNat a1) 36 i).toInt ≤ 99) ∧ (0 ≤ (zI (pI (pI (pI s 35 (zS s 34 3).toInt.toNat (a0 / 100)) 36 (zS s 34 3).toInt.toNat (a0 % 100)) 37 (zS s 34 3).toInt.toNat a1) 37 i).toInt ∧ (zI (pI (pI (pI s 35 (zS s 34 3).toInt.toNat (a0 / 100)) 36 (zS s 34 3).toInt.toNat (a0 % 100)) 37 (zS s 34 3).toInt.toNat a1) 37 i).toInt ≤ 99)
          rw [← e3, G1, G2, G3, H1, H2, H3]
          by_cases q : i = (zS s 34 3).toInt.toNat
          · rw [if_pos q, if_pos q, if_pos q, if_pos q, if_pos q, if_pos q, dd, mm]
            exact ⟨⟨rfl, rfl, rfl⟩, by omega, by omega, d⟩
          · rw [if_neg q, if_neg q, if_neg q, if_neg q, if_neg q, if_neg q]
            exact al i (by omega)
    · rw [if_neg (show ¬ zS s 34 3 < 10 by rw [jlt, j10]; exact g)]
      refine Pc_bdS (Pc_some (D2 _ _ (Pc_iff z (Pc_b1S (Pc_if10 (Pc_ift ?_ (Pc_some ⟨rfl, Q⟩)))))))
      rw [← e3]
      exact Int32.toInt_inj.1 (by rw [j10]; omega)
  · rw [in_f (a := a1) (by rw [jl0, j99]; exact d)]
    refine Pc_lt (fun _ => Pc_some (D2 _ _ (Pc_iff z (Pc_b1S (Pc_if00 (Pc_some ⟨rfl, Q⟩)))))) (fun l => Pc_lt (fun _ => Pc_some (D2 _ _ (Pc_iff z (Pc_b1S (Pc_if00 (Pc_some ⟨rfl, Q⟩)))))) (fun w => ?_))
    rw [jl0] at l
    rw [j99] at w
    exact absurd ⟨l, w⟩ d
def OEnd (a : Int32 × SS) (K : Option (Int32 × SS)) : Prop := Pc K (fun m => a.1 = m.1 ∧ QNed a.2 m.2 ∧ QOrd a.2 m.2)
theorem OEnd_cl : PCg OEnd := ⟨fun _ => Pc_none, fun _ _ _ h hK => h _ hK⟩
theorem L_order (h0 : zI t 109 0 = 0) (Q : QNed s t) (Qo : QOrd s t) : Pc (f_X11_order s) fun x => Pc (f_X12_order t) fun m => x.1 = m.1 ∧ QNed x.2 m.2 ∧ QOrd x.2 m.2 := by
  obtain ⟨e3, h3, al⟩ := id Q
  unfold f_X11_order f_X12_order
  rw [← e3]
  refine Pc_if (fun z => Pc_some (Pc_ift z (Pc_some ⟨rfl, Q, Qo⟩))) (fun z => Pc_bd ?_)
  obtain ⟨N, hN⟩ : ∃ N : Nat, (zS s 34 3).toInt = (N : Int) := ⟨_, (Int.toNat_of_nonneg h3.1).symm⟩
  have eN : zS s 34 3 = nI N := Int32.toInt_inj.1 (by rw [nI_t (by omega)]; exact hN)
  have N1 : 1 ≤ N := by
    cases N with
    | zero => exact absurd eN z
    | succ n => omega
  have N10 : N ≤ 10 := by omega
  have h10 := p10 N10
  have hp1 : 2 ^ 1 ≤ 2 ^ N := Nat.pow_le_pow_right (n := 2) (by decide) N1
  have B : OB s t N := ⟨⟨N1, N10⟩, eN, e3.symm.trans eN, fun i hi => (al i (by omega)).1, fun i hi => (al i (by omega)).2⟩
  suffices h : Pc (f_X6_leastLateness s) (fun a => OEnd a (f_X12_order_L11 (fun (s20 : SS) => (vl ((((1 : Int32) <<< ((zS s20 59 67) &&& 31)) - (1 : Int32))) fun v21 => (gd (inB v21 1024) (vl ((zI s20 109 (v21.toInt.toNat))) fun v23 => (f_X12_order_L118 (fun (s38 : SS) => (vl ((zS s38 59 67)) fun v39 => (st (pS s38 59 72 v39) fun s40 => (st (pS s40 59 67 0) fun s41 => some (v23, s41))))) v23 4000 s20 v21 0))))) 4000 t 1)) from
    Pc.mono h (fun a ha => Pc_some (Pc_iff z ha))
  unfold f_X6_leastLateness
  rw [eN, sh1n N (by omega), nIm (k := 2 ^ N) (by omega) (by omega)]
  refine Pc_vl (Pc_st ?_)
  refine sum_k (s0 := s) N10 eN (fun s15 F A => Pc_gd (fun _ => Pc_st (Pc_vl ?_))) 4000 _ 0 (Nat.zero_le _) (Frm.rf.pI rfl) (fun S hS => ?_)
  · rw [nI_n (k := 2 ^ N - 1) (by omega)]
    refine ord_s (s0 := s) (t0 := t) (N := N) (P := OEnd) OEnd_cl B (fun s30 t20 O => ?_) 4000 4000 (pI s15 38 (2 ^ N - 1) 0) t 1 _ (by omega) (by omega) ?_ ⟨F.pI rfl, Frm.rf, A, fun S h1 h2 => ?_⟩
    · -- the places
      have o0 := (O.2.2.2 0 (by omega) (by omega)).1
      have c0 : cpl N 0 = 2 ^ N - 1 := by unfold cpl; omega
      rw [show zS t20 59 67 = nI N from (O.2.1.1 59 67 rfl).trans B.2.2.1, sh1n N (by omega), nIm (k := 2 ^ N) (by omega) (by omega)]
      have md : ∀ (a : Int32 × SS), OEnd a (f_X12_order_L118 (fun (s38 : SS) => (vl ((zS s38 59 67)) fun v39 => (st (pS s38 59 72 v39) fun s40 => (st (pS s40 59 67 0) fun s41 => some (zI s30 38 0, s41))))) (zI s30 38 0) 4000 t20 (nI (cpl N 0)) (nI 0)) → OEnd a (vl (nI (2 ^ N - 1)) fun v21 => (gd (inB v21 1024) (vl ((zI t20 109 (v21.toInt.toNat))) fun v23 => (f_X12_order_L118 (fun (s38 : SS) => (vl ((zS s38 59 67)) fun v39 => (st (pS s38 59 72 v39) fun s40 => (st (pS s40 59 67 0) fun s41 => some (v23, s41))))) v23 4000 t20 v21 0)))) := fun a ha => OEnd_cl.2 a _ _ (fun R h => Pc_vl (Pc_gd (fun _ => Pc_vl (by
        rw [nI_n (k := 2 ^ N - 1) (by omega), ← c0, ← o0]
        exact h)))) ha
      refine Pc.mono ?_ md
      unfold f_X6_placesFollow
      refine Pc_b1 ?_
      refine Pc.mono (ord_p (s0 := s) (t0 := t) (N := N) (y2 := zI s30 38 0) (qM := fun (s38 : SS) => (vl ((zS s38 59 67)) fun v39 => (st (pS s38 59 72 v39) fun s40 => (st (pS s40 59 67 0) fun s41 => some (zI s30 38 0, s41))))) (P := fun u K => OEnd (zI (pS u 34 3 0) 38 0, pS u 34 3 0) K) ⟨fun _ => OEnd_cl.1 _, fun _ => OEnd_cl.2 _⟩ B (fun s' t' O' E e0 => Pc_vl (Pc_st (Pc_some (Q := fun u => OEnd (zI (pS u 34 3 0) 38 0, pS u 34 3 0) (vl ((zS t' 59 67)) fun v39 => (st (pS t' 59 72 v39) fun s40 => (st (pS s40 59 67 0) fun s41 => some (zI s30 38 0, s41))))) (Pc_vl (Pc_st (Pc_st (Pc_some ?_))))))) 4000 4000 s30 t20 0 0 (Nat.zero_le _) (by omega) (by rw [c0, pc_full N (by omega)]; rfl) O (fun j hj => absurd hj (Nat.not_lt_zero j)) rfl) (fun u hu => Pc_st (Pc_some hu))
      have f3 : zS s' 34 3 = nI N := (O'.1.1 34 3 rfl).trans eN
      have f67 : zS t' 59 67 = nI N := (O'.2.1.1 59 67 rfl).trans B.2.2.1
      have tN : (nI N).toInt = (N : Int) := nI_t (by omega)
      refine ⟨e0, ⟨rfl, ⟨by show (0 : Int) ≤ (0 : Int32).toInt; rw [jl0]; omega, by show (0 : Int32).toInt ≤ (10 : Int); rw [jl0]; omega⟩, fun i h => ?_⟩, Or.inr ⟨?_, ?_, fun i h => ?_⟩⟩
      · exfalso
        have h' : (i : Int) < (0 : Int32).toInt := h
        rw [jl0] at h'
        omega
      · show zS s' 34 3 = zS t' 59 67
        rw [f3, f67]
      · show 0 ≤ (zS s' 34 3).toInt ∧ (zS s' 34 3).toInt ≤ 10
        rw [f3]
        omega
      · have h' : (i : Int) < (zS s' 34 3).toInt := h
        rw [f3] at h'
        exact E i (by omega)
    · rw [nIm (by omega) (by omega), nI_t (by omega)]
      omega
    · have e : S = 2 ^ N - 1 := by omega
      have ce : cpl N S = 0 := by unfold cpl; omega
      have e38 : zI (pI s15 38 (2 ^ N - 1) 0) 38 S = 0 := by rw [zI_pI, if_pos ⟨rfl, e⟩]
      refine ⟨by rw [e38, ce, h0], by rw [e38, ce, jl0]; omega, fun h => ?_⟩
      exfalso
      omega
  · have e : S = 0 := by
      rw [Nat.pow_zero] at hS
      omega
    rw [e]
    rfl
end ORs
