/-! THE MEN BELOW: array 77 and field (59, 4) as in c -/
def S7 (c s : SS) : Prop := zI s 77 = zI c 77 ∧ zS s 59 4 = zS c 59 4
theorem S7.rf {s : SS} : S7 s s := ⟨rfl, rfl⟩
theorem S7.tr {a b c : SS} (h1 : S7 b c) (h2 : S7 a b) : S7 a c := ⟨h1.1.trans h2.1, h1.2.trans h2.2⟩
theorem S7.p {c s : SS} {q i : Nat} {v : Int32} (hq : Nat.beq q 77 = false) (h : S7 c s) : S7 c (pI s q i v) := ⟨by
  rw [← h.1]
  funext b
  rw [zI_pI, if_neg (fun z => by rw [← z.1] at hq; exact absurd hq (by decide))], h.2⟩
/-- a man below at x or behind it -/
def E7 (c : SS) (x : Int32) : Prop := ∃ i : Nat, x.toInt ≤ (i : Int) ∧ (i : Int) < (zS c 59 4).toInt ∧ zI c 77 i ≠ 0
theorem e7 {c : SS} {x r : Int32} (h : r = 0 ∨ E7 c 0) (hn : ¬ r = 0) : 1 ≤ x.toInt ∨ E7 c 0 := Or.inr (h.resolve_left hn)
/-! SETS OF NEEDS -/
theorem nI31 : ∀ k, k < 11 → nI k &&& 31 = nI k := by decide
theorem sm31 : ∀ k, k < 11 → ((BitVec.ofNat 32 k).smod 32).toNat = k := by decide
theorem nx_sr {m k : Nat} (hm : m < 1024) (hk : k < 11) : nI m >>> (nI k &&& 31) = nI (m >>> k) := by
  rw [nI31 k hk]
  apply Int32.toBitVec_inj.1
  show (BitVec.ofNat 32 m).sshiftRight ((BitVec.ofNat 32 k).smod 32).toNat = BitVec.ofNat 32 (m >>> k)
  rw [sm31 k hk]
  have hmsb : (BitVec.ofNat 32 m).msb = false := by
    rw [BitVec.msb_eq_decide, BitVec.toNat_ofNat, Nat.mod_eq_of_lt (by omega)]
    simp only [decide_eq_false_iff_not]
    omega
  rw [BitVec.sshiftRight_eq_of_msb_false hmsb]
  apply BitVec.eq_of_toNat_eq
  have h2 : m >>> k ≤ m := by rw [Nat.shiftRight_eq_div_pow]; exact Nat.div_le_self _ _
  rw [BitVec.toNat_ushiftRight, BitVec.toNat_ofNat, BitVec.toNat_ofNat, Nat.mod_eq_of_lt (by omega), Nat.mod_eq_of_lt (by omega)]
theorem bt0 {m k : Nat} (hm : m < 1024) (hk : k < 11) : ((nI m >>> (nI k &&& 31)) &&& (1 : Int32)) = 0 ↔ m.testBit k = false := by
  rw [nx_sr hm hk, show (1 : Int32) = nI 1 from rfl, nx_an, Nat.and_one_is_mod, Nat.shiftRight_eq_div_pow, Nat.testBit_eq_decide_div_mod_eq, decide_eq_false_iff_not]
  have h : m / 2 ^ k % 2 = 0 ∨ m / 2 ^ k % 2 = 1 := by omega
  rcases h with h | h <;> rw [h] <;> decide
theorem nx_del {m k : Nat} (hk : k < 11) (hb : m.testBit k = true) : nI m &&& (((1 : Int32) <<< (nI k &&& 31)) ^^^ (-1)) = nI (m ^^^ 2 ^ k) := by
  rw [sh1n k hk]
  apply Int32.toBitVec_inj.1
  show BitVec.ofNat 32 m &&& (BitVec.ofNat 32 (2 ^ k) ^^^ BitVec.allOnes 32) = BitVec.ofNat 32 (m ^^^ 2 ^ k)
  apply BitVec.eq_of_getLsbD_eq
  intro i hi
  simp only [BitVec.getLsbD_and, BitVec.getLsbD_xor, BitVec.getLsbD_ofNat, BitVec.getLsbD_allOnes, hi, decide_true, Bool.true_and, Nat.testBit_xor, Nat.testBit_two_pow]
  by_cases h : k = i
  · subst h
    rw [hb]
    simp
  · simp [h]
theorem del_tb {m k : Nat} (hb : m.testBit k = true) (j : Nat) : (m ^^^ 2 ^ k).testBit j = if k = j then false else m.testBit j := by
  rw [Nat.testBit_xor, Nat.testBit_two_pow]
  by_cases h : k = j
  · subst h; rw [hb]; simp
  · simp [h]
theorem del_lt {m k : Nat} (hb : m.testBit k = true) : m ^^^ 2 ^ k < m := by
  have e : m ^^^ 2 ^ k = m &&& (m ^^^ 2 ^ k) := by
    apply Nat.eq_of_testBit_eq
    intro j
    rw [Nat.testBit_and, del_tb hb]
    split <;> simp
  have h1 : m ^^^ 2 ^ k ≤ m := by
    rw [e]
    exact Nat.and_le_left
  have h2 : m ^^^ 2 ^ k ≠ m := fun z => by
    have h3 := del_tb hb k
    rw [z, hb, if_pos rfl] at h3
    cases h3
  omega
theorem ex_bit {m N : Nat} (h1 : 1 ≤ m) (h2 : m < 2 ^ N) (h : ∀ k, k < N → m.testBit k = false) : False := by
  have : m = 0 := by
    apply Nat.eq_of_testBit_eq
    intro i
    rw [Nat.zero_testBit]
    by_cases hi : i < N
    · exact h i hi
    · exact Nat.testBit_lt_two_pow (Nat.lt_of_lt_of_le h2 (Nat.pow_le_pow_right (by decide) (by omega)))
  omega
def pc (m : Nat) : Nat := (m.testBit 0).toNat + (m.testBit 1).toNat + (m.testBit 2).toNat + (m.testBit 3).toNat + (m.testBit 4).toNat + (m.testBit 5).toNat + (m.testBit 6).toNat + (m.testBit 7).toNat + (m.testBit 8).toNat + (m.testBit 9).toNat
theorem pc_del {m k : Nat} (hk : k < 10) (hb : m.testBit k = true) : pc (m ^^^ 2 ^ k) + 1 = pc m := by
  have e := del_tb hb
  unfold pc
  simp only [e]
  have : k = 0 ∨ k = 1 ∨ k = 2 ∨ k = 3 ∨ k = 4 ∨ k = 5 ∨ k = 6 ∨ k = 7 ∨ k = 8 ∨ k = 9 := by omega
  rcases this with rfl | rfl | rfl | rfl | rfl | rfl | rfl | rfl | rfl | rfl <;> simp [hb] <;> omega
theorem pc_full : ∀ N, N < 11 → pc (2 ^ N - 1) = N := by decide
theorem pc_0 {m N : Nat} (h : pc m = N) (hN : 1 ≤ N) : 1 ≤ m := by
  cases m with
  | zero => exact absurd h (by rw [show pc 0 = 0 from rfl]; omega)
  | succ m => omega
theorem p10 {N : Nat} (h : N ≤ 10) : 2 ^ N ≤ 1024 := Nat.pow_le_pow_right (n := 2) (by decide) h
theorem c99 {a b : Int32} (ha : 0 ≤ a.toInt ∧ a.toInt ≤ 99) (hb : 0 ≤ b.toInt ∧ b.toInt ≤ 99) : 0 ≤ (a * b).toInt ∧ (a * b).toInt ≤ 9801 := by
  have h1 : 0 ≤ a.toInt * b.toInt := Int.mul_nonneg ha.1 hb.1
  have h2 : a.toInt * b.toInt ≤ 99 * 99 := Int.mul_le_mul ha.2 hb.2 hb.1 (by decide)
  rw [i32_mul (by omega) (by omega)]
  exact ⟨h1, by omega⟩
/-- what the costs are made of is as in c -/
def S8 (c s : SS) : Prop := zI s 106 = zI c 106 ∧ zI s 107 = zI c 107 ∧ zI s 108 = zI c 108 ∧ zS s 59 67 = zS c 59 67
theorem S8.rf {s : SS} : S8 s s := ⟨rfl, rfl, rfl, rfl⟩
theorem S8.p {c s : SS} {q i : Nat} {v : Int32} (hq : q = 109 ∨ q = 110) (h : S8 c s) : S8 c (pI s q i v) := by
  have e : ∀ a, a ≠ 109 → a ≠ 110 → zI (pI s q i v) a = zI s a := fun a h1 h2 => by
    funext b
    rw [zI_pI, if_neg (fun z => by omega)]
  exact ⟨(e 106 (by decide) (by decide)).trans h.1, (e 107 (by decide) (by decide)).trans h.2.1, (e 108 (by decide) (by decide)).trans h.2.2.1, h.2.2.2⟩
theorem cost_L5_congr {c s : SS} (S : S8 c s) {q0 q1 : Int32 → Option Int32} (hq : q0 = q1) {y1 y2 : Int32} : ∀ n, f_X12_costNext_L5 q0 s y1 y2 n = f_X12_costNext_L5 q1 c y1 y2 n := by
  intro n
  induction n with
  | zero => rfl
  | succ n ih =>
    funext x3 x4
    show f_X12_costNext_L5_b q0 s y1 y2 (f_X12_costNext_L5 q0 s y1 y2 n) x3 x4 = f_X12_costNext_L5_b q1 c y1 y2 (f_X12_costNext_L5 q1 c y1 y2 n) x3 x4
    unfold f_X12_costNext_L5_b
    rw [ih, hq, S.1, S.2.2.2]
theorem cost_congr {c s : SS} (S : S8 c s) (k y : Int32) : f_X12_costNext s k y = f_X12_costNext c k y := by
  unfold f_X12_costNext
  rw [cost_L5_congr S rfl]
  rw [S.1, S.2.1, S.2.2.1]
/-- the least cost of the set m, by its first -/
def Gw (c : SS) (a : Nat → Int32) (m k : Nat) : Prop := k < (zS c 59 67).toInt.toNat ∧ m.testBit k = true ∧ ∃ v, f_X12_costNext c (nI k) (nI m) = some v ∧ v + a (m ^^^ 2 ^ k) = a m
def Gd (c : SS) (a : Nat → Int32) (m : Nat) : Prop := (0 ≤ (a m).toInt ∧ (a m).toInt ≤ 9801 * (m : Int)) ∧ ∃ k, Gw c a m k
def Ga (c : SS) (a : Nat → Int32) (x : Nat) : Prop := ∀ m, 1 ≤ m → m < x → Gd c a m
theorem Gd.congr {c : SS} {a b : Nat → Int32} {m : Nat} (h : Gd c a m) (e : ∀ j, j ≤ m → b j = a j) : Gd c b m := by
  obtain ⟨h1, k, h2, h3, v, h4, h5⟩ := h
  refine ⟨by rw [e m (Nat.le_refl m)]; exact h1, k, h2, h3, v, h4, ?_⟩
  rw [e m (Nat.le_refl m), e _ (Nat.le_of_lt (del_lt h3))]
  exact h5
theorem Ga.p {c s : SS} {m : Nat} {v : Int32} (h : Ga c (zI s 109) m) : Ga c (zI (pI s 109 m v) 109) m := fun j h1 h2 => (h j h1 h2).congr (fun i hi => by rw [zI_pI, if_neg (fun z => by omega)])
theorem Ok_e1 {α ρ : Type} {Q : ρ → Prop} {a : Option α} {k : α → Option ρ} {x : α} (e : a = some x) (h : Ok (k x) Q) : Ok (b1 a k) Q := by
  rw [e]
  exact h
theorem Ok.self {ρ : Type} {o : Option ρ} {Q : ρ → Prop} (h : Ok o Q) : Ok o (fun r => Q r ∧ o = some r) := by
  obtain ⟨r, e, q⟩ := h
  exact ⟨r, e, q, e⟩
/-- a counter goes back to 0 at the end -/
def Zo (b0 : SS) (q k : Nat) (r : SS) : Prop := ∃ t, Lk b0 t ∧ r = pS t q k 0
theorem Zo.mk {b0 t : SS} {q k : Nat} (h : Lk b0 t) : Zo b0 q k (pS t q k 0) := ⟨t, h, rfl⟩
/-! THE PARSER'S CODE RUNS -/
def Ce (A B : Nat → Int32) : Nat → Nat → Nat → Nat → Prop
  | 0, _, n, n' => n = n'
  | m + 1, k, n, n' => if A k = 1 then Ce A B m (k + 1) (n + 1) n' else if A k = 2 then (0 ≤ (B k).toInt ∧ (B k).toInt ≤ 7) ∧ Ce A B m (k + 1) (n + 1) n' else if A k = 3 ∨ A k = 4 then 1 ≤ n ∧ Ce A B m (k + 1) n n' else 2 ≤ n ∧ Ce A B m (k + 1) (n - 1) n'
def stp (a b : Int32) (n n' : Nat) : Prop := if a = 1 then n + 1 = n' else if a = 2 then (0 ≤ b.toInt ∧ b.toInt ≤ 7) ∧ n + 1 = n' else if a = 3 ∨ a = 4 then 1 ≤ n ∧ n = n' else 2 ≤ n ∧ n - 1 = n'
theorem Ce.cd {A B : Nat → Int32} : ∀ (m k n n' : Nat), Ce A B m k n n' → Cd A B m k n
  | 0, _, _, _, _ => trivial
  | m + 1, k, n, n', c => by
    unfold Ce at c
    unfold Cd
    split
    · rename_i z; rw [if_pos z] at c; exact Ce.cd m _ _ _ c
    · rename_i z; rw [if_neg z] at c
      split
      · rename_i z2; rw [if_pos z2] at c; exact ⟨c.1, Ce.cd m _ _ _ c.2⟩
      · rename_i z2; rw [if_neg z2] at c
        split
        · rename_i z3; rw [if_pos z3] at c; exact ⟨c.1, Ce.cd m _ _ _ c.2⟩
        · rename_i z3; rw [if_neg z3] at c; exact ⟨c.1, Ce.cd m _ _ _ c.2⟩
theorem Ce.congr {A B A' B' : Nat → Int32} : ∀ (m k n n' : Nat), (∀ j, k ≤ j → j < k + m → A' j = A j ∧ B' j = B j) → Ce A B m k n n' → Ce A' B' m k n n'
  | 0, _, _, _, _, c => c
  | m + 1, k, n, n', h, c => by
    have e := h k (Nat.le_refl _) (by omega)
    have h' : ∀ j, k + 1 ≤ j → j < k + 1 + m → A' j = A j ∧ B' j = B j := fun j h1 h2 => h j (by omega) (by omega)
    unfold Ce at c ⊢
    rw [e.1, e.2]
    split
    · rename_i z; rw [if_pos z] at c; exact Ce.congr m _ _ _ h' c
    · rename_i z; rw [if_neg z] at c
      split
      · rename_i z2; rw [if_pos z2] at c; exact ⟨c.1, Ce.congr m _ _ _ h' c.2⟩
      · rename_i z2; rw [if_neg z2] at c
        split
        · rename_i z3; rw [if_pos z3] at c; exact ⟨c.1, Ce.congr m _ _ _ h' c.2⟩
        · rename_i z3; rw [if_neg z3] at c; exact ⟨c.1, Ce.congr m _ _ _ h' c.2⟩
theorem Ce.snoc {A B : Nat → Int32} : ∀ (m k n n' n'' : Nat), Ce A B m k n n' → stp (A (k + m)) (B (k + m)) n' n'' → Ce A B (m + 1) k n n''
  | 0, k, n, n', n'', c, s => by
    have e : n = n' := c
    subst e
    unfold stp at s
    unfold Ce
    exact s
  | m + 1, k, n, n', n'', c, s => by
    have s' : stp (A (k + 1 + m)) (B (k + 1 + m)) n' n'' := by rw [show k + 1 + m = k + (m + 1) by omega]; exact s
    unfold Ce at c
    unfold Ce
    split
    · rename_i z; rw [if_pos z] at c; exact Ce.snoc m _ _ _ _ c s'
    · rename_i z; rw [if_neg z] at c
      split
      · rename_i z2; rw [if_pos z2] at c; exact ⟨c.1, Ce.snoc m _ _ _ _ c.2 s'⟩
      · rename_i z2; rw [if_neg z2] at c
        split
        · rename_i z3; rw [if_pos z3] at c; exact ⟨c.1, Ce.snoc m _ _ _ _ c.2 s'⟩
        · rename_i z3; rw [if_neg z3] at c; exact ⟨c.1, Ce.snoc m _ _ _ _ c.2 s'⟩
/-- where the next piece of code goes -/
def Pq (s : SS) : Int32 := ((170 : Int32) * (zS s 59 50)) + (zS s 59 51)
/-- the code from p0 on runs from height 0 to height k -/
def WF (s : SS) (p0 k : Nat) : Prop := ((p0 : Int) ≤ (Pq s).toInt ∧ (Pq s).toInt ≤ 2890) ∧ Ce (zI s 93) (zI s 94) ((Pq s).toInt.toNat - p0) p0 0 k
theorem WF.same {s r : SS} {p0 k : Nat} (h : WF s p0 k) (h1 : zS r 59 50 = zS s 59 50) (h2 : zS r 59 51 = zS s 59 51) (h3 : zI r = zI s) : WF r p0 k := by
  unfold WF Pq
  rw [h1, h2, h3]
  exact h
def La (s : SS) (a b : Int32) (r : SS) : Prop := inB (Pq s) 2890 ∧ r = pS (pI (pI s 93 (Pq s).toInt.toNat a) 94 (Pq s).toInt.toNat b) 59 51 (zS s 59 51 + 1)
theorem lay_La {s r : SS} {a b : Int32} (h : f_X12_lay s a b = some r) : La s a b r := by
  unfold f_X12_lay at h
  by_cases c : inB (Pq s) 2890
  · refine ⟨c, ?_⟩
    have e : f_X12_lay s a b = some (pS (pI (pI s 93 (Pq s).toInt.toNat a) 94 (Pq s).toInt.toNat b) 59 51 (zS s 59 51 + 1)) := by
      unfold f_X12_lay
      show gd (inB (Pq s) 2890) (gd (inB (Pq s) 2890) _) = _
      unfold gd
      rw [if_pos c, if_pos c]
      rfl
    unfold f_X12_lay at e
    rw [h] at e
    exact Option.some.inj e
  · have e : f_X12_lay s a b = none := by
      unfold f_X12_lay
      show gd (inB (Pq s) 2890) _ = _
      unfold gd
      rw [if_neg c]
    unfold f_X12_lay at e
    rw [h] at e
    cases e
theorem Ok.La {s : SS} {a b : Int32} {Q : SS → Prop} (h : Ok (f_X12_lay s a b) Q) : Ok (f_X12_lay s a b) (fun r => Q r ∧ La s a b r) := h.self.mono (fun _ z => ⟨z.1, lay_La z.2⟩)
theorem La.next {s r : SS} {a b : Int32} (h : La s a b r) : (Pq r).toInt = (Pq s).toInt + 1 := by
  obtain ⟨c, e⟩ := h
  have e2 : Pq r = Pq s + 1 := by
    rw [e]
    show (170 : Int32) * zS s 59 50 + (zS s 59 51 + 1) = (170 : Int32) * zS s 59 50 + zS s 59 51 + 1
    rw [Int32.add_assoc]
  rw [e2, i32_add (by rw [jl1]; omega) (by rw [jl1]; omega), jl1]
theorem La.A {s r : SS} {a b : Int32} (h : La s a b r) (j : Nat) : zI r 93 j = if j = (Pq s).toInt.toNat then a else zI s 93 j := by
  rw [h.2, zI_pS, zI_pI, if_neg (fun z => by omega), zI_pI]
  by_cases c : j = (Pq s).toInt.toNat
  · rw [if_pos c, if_pos ⟨rfl, c⟩]
  · rw [if_neg c, if_neg (fun z => c z.2)]
theorem La.B {s r : SS} {a b : Int32} (h : La s a b r) (j : Nat) : zI r 94 j = if j = (Pq s).toInt.toNat then b else zI s 94 j := by
  rw [h.2, zI_pS, zI_pI, zI_pI]
  by_cases c : j = (Pq s).toInt.toNat
  · rw [if_pos c, if_pos ⟨rfl, c⟩]
  · rw [if_neg c, if_neg (fun z => c z.2), if_neg (fun z => by omega)]
theorem La.q {s r : SS} {a b : Int32} (h : La s a b r) {q : Nat} (hq : q ≠ 93 ∧ q ≠ 94) (j : Nat) : zI r q j = zI s q j := by
  rw [h.2, zI_pS, zI_pI, if_neg (fun z => by omega), zI_pI, if_neg (fun z => by omega)]
theorem La.f {s r : SS} {a b : Int32} (h : La s a b r) {k : Nat} (hk : k ≠ 51) : zS r 59 k = zS s 59 k := by
  rw [h.2, zS_pS, if_neg (fun z => by omega), zS_pI, zS_pI]
theorem WF.lay {s r : SS} {a b : Int32} {p0 n n' : Nat} (h : La s a b r) (w : WF s p0 n) (hs : stp a b n n') : WF r p0 n' := by
  have hn := h.next
  have hc := h.1
  obtain ⟨w1, w2⟩ := w
  refine ⟨by omega, ?_⟩
  rw [show (Pq r).toInt.toNat - p0 = ((Pq s).toInt.toNat - p0) + 1 by omega]
  refine Ce.snoc _ _ _ n _ (Ce.congr _ _ _ _ (fun j h1 h2 => ?_) w2) ?_
  · rw [h.A, h.B, if_neg (by omega), if_neg (by omega)]
    exact ⟨rfl, rfl⟩
  · rw [h.A, h.B, if_pos (by omega), if_pos (by omega)]
    exact hs
/-- what lies before stays -/
def Wk (s r : SS) : Prop := (Pq s).toInt ≤ (Pq r).toInt ∧ (∀ j : Nat, (j : Int) < (Pq s).toInt → zI r 93 j = zI s 93 j ∧ zI r 94 j = zI s 94 j) ∧ (∀ q j, 90 ≤ q → q ≤ 92 → zI r q j = zI s q j) ∧ zS r 59 50 = zS s 59 50
theorem Wk.rf (s : SS) : Wk s s := ⟨Int.le_refl _, fun _ _ => ⟨rfl, rfl⟩, fun _ _ _ _ => rfl, rfl⟩
theorem Wk.tr {s t r : SS} (h1 : Wk s t) (h2 : Wk t r) : Wk s r := by
  obtain ⟨a1, a2, a3, a4⟩ := h1
  obtain ⟨b1, b2, b3, b4⟩ := h2
  refine ⟨by omega, fun j hj => ⟨(b2 j (by omega)).1.trans (a2 j hj).1, (b2 j (by omega)).2.trans (a2 j hj).2⟩, fun q j h1 h2 => (b3 q j h1 h2).trans (a3 q j h1 h2), b4.trans a4⟩
theorem Wk.lay {s r : SS} {a b : Int32} (h : La s a b r) : Wk s r := by
  have hn := h.next
  have hc := h.1
  exact ⟨by omega, fun j hj => ⟨by rw [h.A, if_neg (by omega)], by rw [h.B, if_neg (by omega)]⟩, fun q j h1 h2 => h.q (by omega) j, h.f (by decide)⟩
def Wd (d : Nat) (s r : SS) : Prop := (zS r 59 48).toInt < 0 → (zS s 59 48).toInt < 0 ∧ Wk s r ∧ ∀ p0 k, WF s p0 k → WF r p0 (k + d)
section WDs
variable {d : Nat} {s t r : SS} {a b v : Int32}
theorem Wd.rf : Wd 0 s s := fun h => ⟨h, Wk.rf s, fun _ _ w => w⟩
theorem Wd.tr {d1 d2 : Nat} (h1 : Wd d1 s t) (h2 : Wd d2 t r) : Wd (d1 + d2) s r := fun h => by
  obtain ⟨b1, b2, b3⟩ := h2 h
  obtain ⟨a1, a2, a3⟩ := h1 b1
  refine ⟨a1, a2.tr b2, fun p0 k w => ?_⟩
  rw [← Nat.add_assoc]
  exact b3 p0 _ (a3 p0 k w)
theorem Wd.t1 (h2 : Wd 1 t r) (h1 : Wd 0 s t) : Wd 1 s r := h1.tr h2
theorem Wd.t2 (h2 : Wd 1 t r) (h1 : Wd 1 s t) : Wd 2 s r := h1.tr h2
theorem Wd.t0 (h2 : Wd 0 t r) (h1 : Wd 0 s t) : Wd 0 s r := h1.tr h2
theorem Wd.fault (h : 0 ≤ (zS r 59 48).toInt) : Wd d s r := fun z => absurd z (by omega)
theorem Wd.pf {k : Nat} (hk : (Nat.beq k 48 || Nat.beq k 50 || Nat.beq k 51) = false) (h : Wd d s t) : Wd d s (pS t 59 k v) := by
  have hn : k ≠ 48 ∧ k ≠ 50 ∧ k ≠ 51 := by
    refine ⟨?_, ?_, ?_⟩ <;> · intro z; rw [z] at hk; exact absurd hk (by decide)
  have e : ∀ x, x ≠ k → zS (pS t 59 k v) 59 x = zS t 59 x := fun x hx => by rw [zS_pS, if_neg (fun z => hx z.2)]
  have eq : Pq (pS t 59 k v) = Pq t := by unfold Pq; rw [e 50 (by omega), e 51 (by omega)]
  intro hf
  rw [e 48 (by omega)] at hf
  obtain ⟨a1, ⟨a2, a3, a4, a5⟩, a6⟩ := h hf
  exact ⟨a1, ⟨by rw [eq]; exact a2, a3, a4, by rw [e 50 (by omega)]; exact a5⟩, fun p0 k w => (a6 p0 k w).same (e 50 (by omega)) (e 51 (by omega)) rfl⟩
theorem Wd.lay {d' : Nat} (h : La t a b r) (hs : ∀ k, stp a b (k + d) (k + d')) (w : Wd d s t) : Wd d' s r := fun hf => by
  rw [h.f (by decide)] at hf
  obtain ⟨a1, a2, a3⟩ := w hf
  exact ⟨a1, a2.tr (Wk.lay h), fun p0 k z => WF.lay h (a3 p0 k z) (hs k)⟩
theorem Wd.push1 (h : La t 1 b r) (w : Wd 0 s t) : Wd 1 s r := w.lay h (fun k => by unfold stp; rw [if_pos rfl])
theorem Wd.push2 (h : La t 2 b r) (hb : 0 ≤ b.toInt ∧ b.toInt ≤ 7) (w : Wd 0 s t) : Wd 1 s r := w.lay h (fun k => by unfold stp; rw [if_neg (by decide), if_pos rfl]; exact ⟨hb, rfl⟩)
theorem Wd.un3 (h : La t 3 b r) (w : Wd 1 s t) : Wd 1 s r := w.lay h (fun k => by unfold stp; rw [if_neg (by decide), if_neg (by decide), if_pos (Or.inl rfl)]; exact ⟨by omega, rfl⟩)
theorem Wd.un4 (h : La t 4 b r) (w : Wd 1 s t) : Wd 1 s r := w.lay h (fun k => by unfold stp; rw [if_neg (by decide), if_neg (by decide), if_pos (Or.inr rfl)]; exact ⟨by omega, rfl⟩)
/-- a sign that takes two -/
def sg (a : Int32) : Prop := ¬ a = 1 ∧ ¬ a = 2 ∧ ¬ (a = 3 ∨ a = 4)
theorem Wd.op (h : La t a b r) (ha : sg a) (w : Wd 2 s t) : Wd 1 s r := w.lay h (fun k => by unfold stp; rw [if_neg ha.1, if_neg ha.2.1, if_neg ha.2.2]; exact ⟨by omega, by omega⟩)
end WDs
theorem sg38 : sg 38 := ⟨by decide, by decide, by decide⟩
theorem sg124 : sg 124 := ⟨by decide, by decide, by decide⟩
theorem sg42 : sg 42 := ⟨by decide, by decide, by decide⟩
theorem sge42 {a : Int32} (e : a = 42) : sg a := e ▸ sg42
theorem sgl42 {s : SS} {a x : Int32} (h2 : f_X12_look s = some a) (e : x = 42) (h1 : f_X12_look s = some x) : sg a := by
  rw [h1] at h2
  cases h2
  exact sge42 e
theorem sg47 : sg 47 := ⟨by decide, by decide, by decide⟩
theorem sge47 {a : Int32} (e : a = 47) : sg a := e ▸ sg47
theorem sgl47 {s : SS} {a x : Int32} (h2 : f_X12_look s = some a) (e : x = 47) (h1 : f_X12_look s = some x) : sg a := by
  rw [h1] at h2
  cases h2
  exact sge47 e
theorem sg37 : sg 37 := ⟨by decide, by decide, by decide⟩
theorem sge37 {a : Int32} (e : a = 37) : sg a := e ▸ sg37
theorem sgl37 {s : SS} {a x : Int32} (h2 : f_X12_look s = some a) (e : x = 37) (h1 : f_X12_look s = some x) : sg a := by
  rw [h1] at h2
  cases h2
  exact sge37 e
theorem sg43 : sg 43 := ⟨by decide, by decide, by decide⟩
theorem sge43 {a : Int32} (e : a = 43) : sg a := e ▸ sg43
theorem sgl43 {s : SS} {a x : Int32} (h2 : f_X12_look s = some a) (e : x = 43) (h1 : f_X12_look s = some x) : sg a := by
  rw [h1] at h2
  cases h2
  exact sge43 e
theorem sg45 : sg 45 := ⟨by decide, by decide, by decide⟩
theorem sge45 {a : Int32} (e : a = 45) : sg a := e ▸ sg45
theorem sgl45 {s : SS} {a x : Int32} (h2 : f_X12_look s = some a) (e : x = 45) (h1 : f_X12_look s = some x) : sg a := by
  rw [h1] at h2
  cases h2
  exact sge45 e
theorem sg60 : sg 60 := ⟨by decide, by decide, by decide⟩
theorem sge60 {a : Int32} (e : a = 60) : sg a := e ▸ sg60
theorem sgl60 {s : SS} {a x : Int32} (h2 : f_X12_look s = some a) (e : x = 60) (h1 : f_X12_look s = some x) : sg a := by
  rw [h1] at h2
  cases h2
  exact sge60 e
theorem sg61 : sg 61 := ⟨by decide, by decide, by decide⟩
theorem sge61 {a : Int32} (e : a = 61) : sg a := e ▸ sg61
theorem sgl61 {s : SS} {a x : Int32} (h2 : f_X12_look s = some a) (e : x = 61) (h1 : f_X12_look s = some x) : sg a := by
  rw [h1] at h2
  cases h2
  exact sge61 e
theorem sg62 : sg 62 := ⟨by decide, by decide, by decide⟩
theorem sge62 {a : Int32} (e : a = 62) : sg a := e ▸ sg62
theorem sgl62 {s : SS} {a x : Int32} (h2 : f_X12_look s = some a) (e : x = 62) (h1 : f_X12_look s = some x) : sg a := by
  rw [h1] at h2
  cases h2
  exact sge62 e
theorem nm2 {a x y : Int32} (h2 : f_X12_nameOf a = some y) (h : ¬ x < 0) (h1 : f_X12_nameOf a = some x) (hy : (-1 ≤ y.toInt ∧ y.toInt ≤ 7) ∧ (y.toInt = -1 ∨ ¬ a.toInt = -1)) : 0 ≤ y.toInt ∧ y.toInt ≤ 7 := by
  rw [h1] at h2
  cases h2
  rw [Int32.lt_iff_toInt_lt, jl0] at h
  omega
/-- the fault stays, and the reader goes on -/
def Pg (s r : SS) : Prop := ((zS s 59 48).toInt < 0 ∨ 0 ≤ (zS r 59 48).toInt) ∧ (0 ≤ (zS r 59 48).toInt ∨ (zS s 59 47).toInt + 1 ≤ (zS r 59 47).toInt)
/-! A LINE OF THE ROW AT WORK -/
def Ml (s : SS) : Int32 := zI s 90 (zS s 59 50).toInt.toNat
def RI (s : SS) : Prop := TWr (zI s 91) (zI s 92) (zI s 93) (zI s 94) (zS s 59 50).toInt.toNat (Ml s).toInt.toNat ∧ fromL (zI s 92) (zS s 59 50).toInt.toNat (Ml s).toInt.toNat = (zS s 59 51).toInt ∧ ∀ i, i < (Ml s).toInt.toNat → (zI s 92 (90 * (zS s 59 50).toInt.toNat + i)).toInt ≤ (zS s 59 51).toInt
theorem Pq_eq {s : SS} (P : Ps s) : (Pq s).toInt = 170 * (zS s 59 50).toInt + (zS s 59 51).toInt := by
  unfold Ps at P
  have j170 : (170 : Int32).toInt = 170 := rfl
  have m1 : ((170 : Int32) * zS s 59 50).toInt = 170 * (zS s 59 50).toInt := by rw [i32_mul (by rw [j170]; omega) (by rw [j170]; omega), j170]
  unfold Pq
  rw [i32_add (by rw [m1]; omega) (by rw [m1]; omega), m1]
theorem WF.zero {s : SS} (P : Ps s) : WF s (Pq s).toInt.toNat 0 := by
  have e := Pq_eq P
  unfold Ps at P
  refine ⟨⟨by omega, by omega⟩, ?_⟩
  rw [Nat.sub_self]
  rfl
theorem WF.cd {s : SS} {p0 k : Nat} (w : WF s p0 k) : Cd (zI s 93) (zI s 94) ((Pq s).toInt.toNat - p0) p0 0 := Ce.cd _ _ _ _ w.2
/-- s8: a line is read, but not yet counted -/
def RLn (s0 s8 : SS) : Prop := zS s8 59 50 = zS s0 59 50 ∧ (∀ j, zI s8 90 j = zI s0 90 j) ∧ (∀ j, zI s8 92 j = zI s0 92 j) ∧ (∀ j, j ≠ 90 * (zS s0 59 50).toInt.toNat + (Ml s0).toInt.toNat → zI s8 91 j = zI s0 91 j) ∧ (∀ j : Nat, (j : Int) < (Pq s0).toInt → zI s8 93 j = zI s0 93 j ∧ zI s8 94 j = zI s0 94 j) ∧
  ∃ τ : Int, (zI s8 91 (90 * (zS s0 59 50).toInt.toNat + (Ml s0).toInt.toNat)).toInt = τ ∧ ((zS s0 59 51).toInt ≤ τ ∧ τ ≤ (zS s8 59 51).toInt) ∧ Cd (zI s8 93) (zI s8 94) (τ - (zS s0 59 51).toInt).toNat (170 * (zS s0 59 50).toInt.toNat + (zS s0 59 51).toInt.toNat) 0 ∧ Cd (zI s8 93) (zI s8 94) ((zS s8 59 51).toInt - τ).toNat (170 * (zS s0 59 50).toInt.toNat + τ.toNat) 0
theorem RI.line {s0 s8 : SS} (P0 : Ps s0) (P8 : Ps s8) (R : RI s0) (hM : 0 ≤ (Ml s0).toInt ∧ (Ml s0).toInt ≤ 100) (L : RLn s0 s8) {i1 i2 : Nat} (e1 : i1 = 90 * (zS s0 59 50).toInt.toNat + (Ml s0).toInt.toNat) (e2 : i2 = (zS s0 59 50).toInt.toNat) {w : Int32} (hw : w = Ml s8 + 1) : RI (pI (pI s8 92 i1 (zS s8 59 51)) 90 i2 w) ∧ (Ml (pI (pI s8 92 i1 (zS s8 59 51)) 90 i2 w)).toInt = (Ml s0).toInt + 1 := by
  obtain ⟨l1, l2, l3, l4, l5, τ, l6, l7, l8, l9⟩ := L
  obtain ⟨r1, r2, r3⟩ := R
  have hq := Pq_eq P0
  unfold Ps at P0 P8
  have m8 : Ml s8 = Ml s0 := by
    unfold Ml
    rw [l1, l2]
  obtain ⟨t, et⟩ : ∃ t, t = (zS s0 59 50).toInt.toNat := ⟨_, rfl⟩
  obtain ⟨m, em⟩ : ∃ m, m = (Ml s0).toInt.toNat := ⟨_, rfl⟩
  rw [← et, ← em] at r1 r2 r3 l4 l6 e1
  rw [← et] at l8 l9 e2
  subst e1
  have e3 := e2.symm
  subst e3
  have es : ∀ k, zS (pI (pI s8 92 (90 * t + m) (zS s8 59 51)) 90 t w) 59 k = zS s8 59 k := fun _ => rfl
  have e50 : (zS (pI (pI s8 92 (90 * t + m) (zS s8 59 51)) 90 t w) 59 50).toInt.toNat = t := by rw [es, l1, et]
  have eM : Ml (pI (pI s8 92 (90 * t + m) (zS s8 59 51)) 90 t w) = w := by
    unfold Ml
    rw [e50, zI_pI, if_pos ⟨rfl, rfl⟩]
  have tw : w.toInt = (Ml s0).toInt + 1 := by
    rw [hw, m8, i32_add (by rw [jl1]; omega) (by rw [jl1]; omega), jl1]
  have nw : w.toInt.toNat = m + 1 := by omega
  have a91 : ∀ j, zI (pI (pI s8 92 (90 * t + m) (zS s8 59 51)) 90 t w) 91 j = zI s8 91 j := fun j => by rw [zI_pI, if_neg (fun z => by omega), zI_pI, if_neg (fun z => by omega)]
  have a93 : zI (pI (pI s8 92 (90 * t + m) (zS s8 59 51)) 90 t w) 93 = zI s8 93 := funext fun j => by rw [zI_pI, if_neg (fun z => by omega), zI_pI, if_neg (fun z => by omega)]
  have a94 : zI (pI (pI s8 92 (90 * t + m) (zS s8 59 51)) 90 t w) 94 = zI s8 94 := funext fun j => by rw [zI_pI, if_neg (fun z => by omega), zI_pI, if_neg (fun z => by omega)]
  have a92 : ∀ j, zI (pI (pI s8 92 (90 * t + m) (zS s8 59 51)) 90 t w) 92 j = if j = 90 * t + m then zS s8 59 51 else zI s0 92 j := fun j => by
    rw [zI_pI, if_neg (fun z => by omega), zI_pI]
    by_cases c : j = 90 * t + m
    · rw [if_pos c, if_pos ⟨rfl, c⟩]
    · rw [if_neg c, if_neg (fun z => c z.2), l3]
  refine ⟨?_, by rw [eM]; exact tw⟩
  unfold RI
  rw [e50, eM, nw, a93, a94, es]
  clear e50 eM hw
  generalize pI (pI s8 92 (90 * t + m) (zS s8 59 51)) 90 t w = r at a91 a92 es
  have fr : ∀ i, i ≤ m → fromL (zI r 92) t i = fromL (zI s0 92) t i := fun i hi => by
    unfold fromL
    by_cases c : i = 0
    · rw [if_pos c, if_pos c]
    · rw [if_neg c, if_neg c, a92, if_neg (by omega)]
  refine ⟨fun i hi => ?_, ?_, fun i hi => ?_⟩
  · rw [fr i (by omega), a91, a92]
    by_cases c : i = m
    · rw [if_pos (by omega), c, r2, l6]
      exact ⟨⟨by omega, l7.1, l7.2, by omega⟩, l8, l9⟩
    · obtain ⟨b1, b2, b3⟩ := r1 i (by omega)
      have b4 := r3 i (by omega)
      rw [if_neg (by omega), l4 _ (by omega)]
      exact ⟨b1, Cd.congr _ _ _ (fun j h1 h2 => l5 j (by omega)) b2, Cd.congr _ _ _ (fun j h1 h2 => l5 j (by omega)) b3⟩
  · unfold fromL
    rw [if_neg (by omega), show 90 * t + (m + 1) - 1 = 90 * t + m by omega, a92, if_pos rfl]
  · rw [a92]
    by_cases c : i = m
    · rw [if_pos (by omega)]
      exact Int.le_refl _
    · rw [if_neg (by omega)]
      have b4 := r3 i (by omega)
      omega
