/-! ONE HOLE IS WRITTEN -/
section HWs
variable {s t s' t' : SS}
/-- maps and texts lie apart from holes -/
def dSm (s s' : SS) : Prop := (∀ q k, 126 ≤ q → zT s q = 1 ∨ zT s q = 10 → zS s' q k = zS s q k) ∧ ∀ q j, 126 ≤ q → zT s q = 1 ∨ zT s q = 10 → zI s' (q + 1) j = zI s (q + 1) j
theorem QCha.d (R : QCha s t) (S : Sh s) (h5 : zS s' 0 5 = zS s 0 5) (h : dSm s s') (h3 : ∀ i, zR s' 23 i = zR s 23 i) (m : ∀ q j, 81 ≤ q → q ≤ 85 → zI t' q j = zI t q j) : QCha s' t' := by
  obtain ⟨a, a0, b⟩ := R
  refine ⟨fun i hi hc => ?_, fun i hi hc => by rw [m 84 _ (by omega) (by omega)]; exact a0 i hi (by rw [← h5]; exact hc), fun i j p hi hj e f => b i j p hi hj ((h3 i).symm.trans e) ((h3 j).symm.trans f)⟩
  obtain ⟨p, e, r⟩ := a i hi (by rw [← h5]; exact hc)
  have o := S.2.2.2.2.1 i p hi e
  exact ⟨p, (h3 i).trans e, r.c (fun k => h.1 p k o.1 (Or.inl o.2.2.1)) (fun y => h.2 p y o.1 (Or.inl o.2.2.1)) m⟩
theorem QTxt.d (R : QTxt s t) (S : Sh s) (h8 : zS s' 0 8 = zS s 0 8) (h : dSm s s') (h3 : ∀ i, zR s' 27 i = zR s 27 i) (hN : ∀ q, 126 ≤ q → zN s' q = zN s q) (m : ∀ q j, 87 ≤ q → q ≤ 94 → zI t' q j = zI t q j) : QTxt s' t' := fun i hi hc => by
  obtain ⟨p, e, r⟩ := R i hi (by rw [← h8]; exact hc)
  have o := S.2.2.2.2.2.1 i p hi e
  exact ⟨p, (h3 i).trans e, r.c (fun k => h.1 p k o.1 (Or.inr o.2.2.1)) (fun y => h.2 p y o.1 (Or.inr o.2.2.1)) (hN _ (by have := o.1; omega)) m⟩
/-- the cells of the hole at p alone have changed, behind 126 -/
def hW (p : Nat) (s s' : SS) : Prop := (∀ q k, 126 ≤ q → q ≠ p → zS s' q k = zS s q k) ∧ (∀ q j, 126 ≤ q → q ≠ p + 1 → q ≠ p + 2 → q ≠ p + 3 → zI s' q j = zI s q j) ∧ s'.2.2.2 = s.2.2.2
theorem hW.d {p : Nat} (h : hW p s s') (o : okH s p) : dSm s s' := by
  obtain ⟨o1, o2, o3, ⟨o4, _⟩, ⟨o6, _⟩, o8, _⟩ := o
  refine ⟨fun q k hq ht => h.1 q k hq (fun z => by rw [z, o3] at ht; omega), fun q j hq ht => h.2.1 (q + 1) j (by omega) (fun z => ?_) (fun z => ?_) (fun z => ?_)⟩
  · have : q = p := by omega
    rw [this, o3] at ht; omega
  · have : q = p + 1 := by omega
    rw [this, o4] at ht; omega
  · have : q = p + 2 := by omega
    rw [this, o6] at ht; omega
theorem hW.R {p : Nat} (h : hW p s s') (a i : Nat) : zR s' a i = zR s a i := by unfold zR; rw [h.2.2]
theorem hW.N {p : Nat} (h : hW p s s') (a : Nat) : zN s' a = zN s a := by unfold zN; rw [h.2.2]
theorem hW.S {p : Nat} (h : hW p s s') (S : Sh s) : Sh s' := S.same (by rw [h.2.2]) (by rw [h.2.2])
theorem hW.rf {p : Nat} : hW p s s := ⟨fun _ _ _ _ => rfl, fun _ _ _ _ _ _ => rfl, rfl⟩
theorem hW.wS {p k : Nat} {v : Int32} (h : hW p s s') : hW p s (pS s' p k v) := ⟨fun q k hq hn => by rw [zS_pS, if_neg (by omega)]; exact h.1 q k hq hn, h.2⟩
theorem hW.wI {p c i : Nat} {v : Int32} (h : hW p s s') (hc : c = 1 ∨ c = 2 ∨ c = 3) : hW p s (pI s' (p + c) i v) := ⟨h.1, fun q j hq h1 h2 h3 => by rw [zI_pI, if_neg (by omega)]; exact h.2.1 q j hq h1 h2 h3, h.2.2⟩
theorem hW.sS {p q k : Nat} {v : Int32} (h : hW p s s') (hq : q < 126) : hW p s (pS s' q k v) := ⟨fun a b ha hn => by rw [zS_pS, if_neg (by omega)]; exact h.1 a b ha hn, h.2⟩
theorem hW.sI {p q i : Nat} {v : Int32} (h : hW p s s') (hq : q < 126) : hW p s (pI s' q i v) := ⟨h.1, fun a b ha h1 h2 h3 => by rw [zI_pI, if_neg (by omega)]; exact h.2.1 a b ha h1 h2 h3, h.2.2⟩
theorem hW.tr {p : Nat} {r : SS} (h : hW p s s') (g : hW p s' r) : hW p s r := ⟨fun q k a b => (g.1 q k a b).trans (h.1 q k a b), fun q j a b c d => (g.2.1 q j a b c d).trans (h.2.1 q j a b c d), g.2.2.trans h.2.2⟩
/-- the reference's rows of hole n alone -/
def mW (n : Nat) (t t' : SS) : Prop := (∀ q i, 63 ≤ q → q ≤ 69 ∨ q = 104 → i ≠ n → zI t' q i = zI t q i) ∧ (∀ q i y, 70 ≤ q → q ≤ 73 → i ≠ n → 1 ≤ y → y ≤ 60 → zI t' q (61 * i + y) = zI t q (61 * i + y)) ∧ (∀ q j, q < 63 ∨ 73 < q → q ≠ 104 → zI t' q j = zI t q j)
theorem mW.rf {n : Nat} : mW n t t := ⟨fun _ _ _ _ _ => rfl, fun _ _ _ _ _ _ _ _ => rfl, fun _ _ _ _ => rfl⟩
theorem mW.tr {n : Nat} {r : SS} (h : mW n t t') (g : mW n t' r) : mW n t r := ⟨fun q i a b c => (g.1 q i a b c).trans (h.1 q i a b c), fun q i y a b c d e => (g.2.1 q i y a b c d e).trans (h.2.1 q i y a b c d e), fun q j a b => (g.2.2 q j a b).trans (h.2.2 q j a b)⟩
theorem mW.wS {n q k : Nat} {v : Int32} (h : mW n t t') : mW n t (pS t' q k v) := h
theorem mW.wI {n q : Nat} {v : Int32} (h : mW n t t') (hq : 63 ≤ q) (hq2 : q ≤ 69 ∨ q = 104) : mW n t (pI t' q n v) := ⟨fun a i h1 h2 h3 => by rw [zI_pI, if_neg (by omega)]; exact h.1 a i h1 h2 h3, fun a i y h1 h2 h3 h4 h5 => by rw [zI_pI, if_neg (by omega)]; exact h.2.1 a i y h1 h2 h3 h4 h5, fun a j h1 h2 => by rw [zI_pI, if_neg (by omega)]; exact h.2.2 a j h1 h2⟩
theorem mW.wY {n q y : Nat} {v : Int32} (h : mW n t t') (hq : 70 ≤ q) (hq2 : q ≤ 73) (hy : y ≤ 60) : mW n t (pI t' q (61 * n + y) v) := ⟨fun a i h1 h2 h3 => by rw [zI_pI, if_neg (by omega)]; exact h.1 a i h1 h2 h3, fun a i z h1 h2 h3 h4 h5 => by rw [zI_pI, if_neg (by omega)]; exact h.2.1 a i z h1 h2 h3 h4 h5, fun a j h1 h2 => by rw [zI_pI, if_neg (by omega)]; exact h.2.2 a j h1 h2⟩
def mV (n : Nat) (t t' : SS) : Prop := (∀ q i, 63 ≤ q → q ≤ 69 ∨ q = 104 → i ≠ n → zI t' q i = zI t q i) ∧ ∀ q i y, 70 ≤ q → q ≤ 73 → i ≠ n → 1 ≤ y → y ≤ 60 → zI t' q (61 * i + y) = zI t q (61 * i + y)
theorem mW.v {n : Nat} (h : mW n t t') : mV n t t' := ⟨h.1, h.2.1⟩
theorem QHol.up (R : QHol s t) (S : Sh s) {n p : Nat} (hn : n < 120) (hp : zR s 17 n = some p) (h : hW p s s') (m : mV n t t') (new : HX s' p t' n) (th : 0 ≤ (zI t' 69 n).toInt ∧ (zI t' 69 n).toInt ≤ 1700) : QHol s' t' := by
  obtain ⟨a, b, c, d⟩ := R
  have o := S.2.2.1 n p hn hp
  refine ⟨fun i p' hi e => ?_, fun i hi e => ?_, fun i j p' hi hj e f => c i j p' hi hj ((h.R 17 i).symm.trans e) ((h.R 17 j).symm.trans f), fun i hi => ?_⟩
  · have e' := (h.R 17 i).symm.trans e
    by_cases z : i = n
    · rw [z] at e' ⊢
      have : p' = p := Option.some.inj (e'.symm.trans hp)
      rw [this]; exact new
    · have o' := S.2.2.1 i p' hi e'
      have ne : p' ≠ p := fun w => z (c i n p hi hn (w ▸ e') hp)
      have n1 : p' ≠ p + 1 ∧ p' ≠ p + 2 ∧ p' ≠ p + 3 := ⟨fun w => by have := o'.2.2.1; rw [w, o.2.2.2.1.1] at this; omega, fun w => by have := o'.2.2.1; rw [w, o.2.2.2.2.1.1] at this; omega, fun w => by have := o'.2.2.1; rw [w, o.2.2.2.2.2.1] at this; omega⟩
      have n2 : p ≠ p' + 1 ∧ p ≠ p' + 2 ∧ p ≠ p' + 3 := ⟨fun w => by have := o.2.2.1; rw [w, o'.2.2.2.1.1] at this; omega, fun w => by have := o.2.2.1; rw [w, o'.2.2.2.2.1.1] at this; omega, fun w => by have := o.2.2.1; rw [w, o'.2.2.2.2.2.1] at this; omega⟩
      have r := a i p' hi e'
      have o1 := o'.1
      unfold HX at r ⊢
      obtain ⟨r0, r1, r2, r3, r4, r5, r6, r7, r8⟩ := r
      have u : ∀ k, zS s' p' k = zS s p' k := fun k => h.1 p' k o1 ne
      rw [u, u, u, u, u, u, u, u, m.1 63 i (by omega) (by omega) z, m.1 64 i (by omega) (by omega) z, m.1 65 i (by omega) (by omega) z, m.1 66 i (by omega) (by omega) z, m.1 67 i (by omega) (by omega) z, m.1 68 i (by omega) (by omega) z, m.1 69 i (by omega) (by omega) z, m.1 104 i (by omega) (by omega) z]
      refine ⟨r0, r1, r2, r3, r4, r5, r6, r7, fun y y1 y2 => ?_⟩
      rw [h.2.1 (p' + 1) y (by omega) (by omega) (by omega) (by omega), h.2.1 (p' + 2) y (by omega) (by omega) (by omega) (by omega), h.2.1 (p' + 3) y (by omega) (by omega) (by omega) (by omega), m.2 70 i y (by omega) (by omega) z y1 y2, m.2 71 i y (by omega) (by omega) z y1 y2, m.2 72 i y (by omega) (by omega) z y1 y2, m.2 73 i y (by omega) (by omega) z y1 y2]
      exact r8 y y1 y2
  · have e' := (h.R 17 i).symm.trans e
    have z : i ≠ n := fun w => by rw [w, hp] at e'; cases e'
    obtain ⟨z1, z2, z3, z4, z5, z6⟩ := b i hi e'
    refine ⟨by rw [m.1 66 i (by omega) (by omega) z]; exact z1, by rw [m.1 67 i (by omega) (by omega) z]; exact z2, by rw [m.1 68 i (by omega) (by omega) z]; exact z3, by rw [m.1 69 i (by omega) (by omega) z]; exact z4, by rw [m.1 104 i (by omega) (by omega) z]; exact z5, fun y y1 y2 => ?_⟩
    rw [m.2 70 i y (by omega) (by omega) z y1 y2, m.2 71 i y (by omega) (by omega) z y1 y2, m.2 72 i y (by omega) (by omega) z y1 y2, m.2 73 i y (by omega) (by omega) z y1 y2]
    exact z6 y y1 y2
  · by_cases z : i = n
    · rw [z]; exact th
    · rw [m.1 69 i (by omega) (by omega) z]
      exact d i hi
/-- a yard is told -/
theorem L_yard (B : B1 s t) (Q : Q4 s t) (a0 a1 : Int32) : Pc (f_X11_yard s a0 a1) fun x => Pc (f_X12_yard t a0 a1) fun m => x.1 = m.1 ∧ Q4 x.2 m.2 := by
  unfold f_X11_yard f_X12_yard
  rw [holeOfX B, isHoleO B]
  have b := B.1.tot
  by_cases c : hO s a0 = none
  · rw [c]
    exact Pc_b1S (Pc_onN (Pc_some (Pc_b1S (by rw [if_pos rfl]; exact Pc_if00 (Pc_some ⟨rfl, Q⟩)))))
  rw [if_neg c]
  unfold hO at c ⊢
  by_cases d : 0 ≤ a0.toInt ∧ a0.toInt < (zS s 15 3).toInt
  · rw [if_pos d] at c ⊢
    cases hp : zR s 17 a0.toInt.toNat with
    | none => exact absurd hp c
    | some p =>
    have hn : a0.toInt.toNat < 120 := by omega
    have S := B.1.sh
    have o := S.2.2.1 _ _ hn hp
    have hx := Q.1.1 _ _ hn hp
    obtain ⟨x0, x1, x2, x3, x4, x5, x6, x7, x8⟩ := hx
    have b3 := B.1.h3 o
    refine Pc_b1S (Pc_onS ?_)
    by_cases e : -2 ≤ a1.toInt ∧ a1.toInt ≤ 2
    · rw [in_t (a := a1) (by rw [jn2, jl2]; exact e)]
      refine Pc_lt (fun z => by rw [jn2] at z; omega) (fun _ => Pc_lt (fun z => by rw [jl2] at z; omega) (fun _ => ?_))
      rw [x6]
      by_cases th : 0 < (zI t 69 a0.toInt.toNat).toInt
      · rw [if_pos th, if_neg n10]
        exact Pc_some (Pc_b1S (Pc_if10 (Pc_b1S (Pc_if10 (Pc_gd (fun _ => Pc_ift (by rw [jlt, jl0]; exact th) (Pc_some ⟨rfl, Q⟩)))))))
      · rw [if_neg th, if_pos rfl]
        by_cases f : (zS s p 3).toInt < 60
        · refine Pc_ift (by rw [jlt, jl60]; exact f) (Pc_vl (Pc_st (Pc_vl (Pc_gd (fun _ => Pc_st (Pc_some ?_))))))
          refine Pc_b1S (Pc_if10 (Pc_b1S (Pc_if10 (Pc_gd (fun _ => Pc_iff (by rw [jlt, jl0]; exact th) ?_)))))
          refine Pc_gd (fun _ => Pc_iff (fun z => by rw [x3, z, jl60] at f; omega) ?_)
          refine Pc_gd (fun _ => Pc_vl (Pc_gd (fun _ => Pc_st (Pc_gd (fun _ => Pc_vl ?_)))))
          refine Pc_gd (fun _ => Pc_st (Pc_gd (fun _ => Pc_some ?_)))
          have e1 : (zS s p 3 + 1).toInt = (zS s p 3).toInt + 1 := by rw [i32_add (by rw [jl1]; omega) (by rw [jl1]; omega), jl1]
          rw [← x3]
          have v1 : zS (pS s p 3 (zS s p 3 + 1)) p 3 = zS s p 3 + 1 := by rw [zS_pS, if_pos ⟨rfl, rfl⟩]
          have v2 : zI (pI t 66 a0.toInt.toNat (zS s p 3 + 1)) 66 a0.toInt.toNat = zS s p 3 + 1 := by rw [zI_pI, if_pos ⟨rfl, rfl⟩]
          rw [v1, v2]
          generalize hv : zS s p 3 + 1 = v at e1 ⊢
          generalize hm : a0.toInt.toNat = n at *
          have e2 : ((61 : Int32) * a0 + v).toInt.toNat = 61 * n + v.toInt.toNat := by
            have m1 : ((61 : Int32) * a0).toInt = 61 * a0.toInt := by rw [i32_mul (by rw [jl61]; omega) (by rw [jl61]; omega), jl61]
            rw [i32_add (by rw [m1]; omega) (by rw [m1]; omega), m1]
            omega
          rw [e2]
          have hy : v.toInt.toNat ≤ 60 ∧ 1 ≤ v.toInt.toNat := by omega
          generalize v.toInt.toNat = y at hy ⊢
          have W : hW p s (pI (pS s p 3 v) (p + 1) y a1) := hW.rf.wS.wI (Or.inl rfl)
          have M : mW n t (pI (pI t 66 n v) 70 (61 * n + y) a1) := (mW.rf.wI (by omega) (by omega)).wY (by omega) (by omega) hy.1
          have sS : ∀ q k, q < 126 → zS (pI (pS s p 3 v) (p + 1) y a1) q k = zS s q k := fun q k hq => by rw [zS_pI, zS_pS, if_neg (by have := o.1; omega)]
          have sI : ∀ q j, q < 126 → zI (pI (pS s p 3 v) (p + 1) y a1) q j = zI s q j := fun q j hq => by rw [zI_pI, if_neg (by have := o.1; omega), zI_pS]
          refine ⟨?_, ?_⟩
          · show zS (pI (pS s p 3 v) (p + 1) y a1) p 3 = zI (pI (pI t 66 n v) 70 (61 * n + y) a1) 66 n
            rw [zS_pI, zS_pS, if_pos ⟨rfl, rfl⟩, zI_pI, if_neg (by omega), zI_pI, if_pos ⟨rfl, rfl⟩]
          · obtain ⟨Q1, Q2, Q3, Q5, Q6, Q7, Q8, Q9, Q10, Q11, Q12, Q13, Q14⟩ := Q
            refine ⟨Q1.up S hn hp W M.v ?_ (Q1.2.2.2 n hn), Q2.c (fun i => sI 7 i (by omega)) (fun i => sI 8 i (by omega)) (fun i => sI 10 i (by omega)) (fun i => sI 16 i (by omega)) (sS 15 3 (by omega)) (sS 6 4 (by omega)) (fun _ => rfl) (fun _ => rfl) (fun _ => rfl), Q3.c (fun k _ => sS 0 k (by omega)) (sS 15 4 (by omega)) (fun _ => rfl) (fun _ => rfl) (fun _ => rfl), Q5.c (sS 0 18 (by omega)) (sS 0 14 (by omega)) (fun _ => rfl), Q6.c (fun k => sS 30 k (by omega)) (sS 0 14 (by omega)) (fun q i _ _ => sI q i (by omega)) (fun _ _ => rfl) (fun q i h1 h2 => M.2.2 q i (by omega) (by omega)), Q7.c (fun k _ _ => sS 15 k (by omega)) (fun _ _ _ => rfl), Q8.c (fun i hi => sS _ _ (by omega)) (fun _ => rfl), Q9.c (fun k _ _ => sS 6 k (by omega)) (fun i => sI 13 i (by omega)) (fun _ _ => rfl) (fun _ => rfl) (fun _ => rfl), Q10.c (by rw [sS 15 3 (by omega)]; exact Int.le_refl _) (fun _ _ h => h) b.2.2 (fun _ => rfl), Q11.d S (sS 0 5 (by omega)) (W.d o) (fun _ => rfl) (fun q j h1 h2 => M.2.2 q j (by omega) (by omega)), Q12.d S (sS 0 8 (by omega)) (W.d o) (fun _ => rfl) (fun _ _ => rfl) (fun q j h1 h2 => M.2.2 q j (by omega) (by omega)), Q13.c (fun q i h => M.2.2 q i (by omega) (by omega)) (fun _ => rfl), Q14.c (sS 0 14 (by omega)) (fun _ => rfl)⟩
            have zp : ∀ k, k ≠ 3 → zS (pI (pS s p 3 v) (p + 1) y a1) p k = zS s p k := fun k hk => by rw [zS_pI, zS_pS, if_neg (by omega)]
            have tm : ∀ q j, q ≠ 66 → q ≠ 70 → zI (pI (pI t 66 n v) 70 (61 * n + y) a1) q j = zI t q j := fun q j h1 h2 => by rw [zI_pI, if_neg (by omega), zI_pI, if_neg (by omega)]
            refine ⟨by rw [zp 0 (by omega), tm 63 _ (by omega) (by omega)]; exact x0, by rw [zp 1 (by omega), tm 64 _ (by omega) (by omega)]; exact x1, by rw [zp 2 (by omega), tm 65 _ (by omega) (by omega)]; exact x2, ?_, by rw [zp 4 (by omega), tm 67 _ (by omega) (by omega)]; exact x4, by rw [zp 5 (by omega), tm 68 _ (by omega) (by omega)]; exact x5, by rw [zp 6 (by omega), tm 69 _ (by omega) (by omega)]; exact x6, by rw [zp 7 (by omega), tm 104 _ (by omega) (by omega)]; exact x7, fun z z1 z2 => ?_⟩
            · rw [zS_pI, zS_pS, if_pos ⟨rfl, rfl⟩, zI_pI, if_neg (by omega), zI_pI, if_pos ⟨rfl, rfl⟩]
            · obtain ⟨w1, w2, w3, w4⟩ := x8 z z1 z2
              refine ⟨?_, ?_, ?_, by rw [tm 73 _ (by omega) (by omega)]; exact w4⟩
              · rw [zI_pI, zI_pI]
                by_cases zy : z = y
                · rw [if_pos ⟨rfl, zy⟩, if_pos ⟨rfl, by omega⟩]
                · rw [if_neg (by omega), if_neg (by omega), zI_pI, if_neg (by omega)]; exact w1
              · rw [tm 71 _ (by omega) (by omega), zI_pI, if_neg (by omega)]; exact w2
              · rw [tm 72 _ (by omega) (by omega), tm 73 _ (by omega) (by omega), zI_pI, if_neg (by omega)]; exact w3
        · refine Pc_iff (by rw [jlt, jl60]; exact f) (Pc_some ?_)
          refine Pc_b1S (Pc_if10 (Pc_b1S (Pc_if10 (Pc_gd (fun _ => Pc_iff (by rw [jlt, jl0]; exact th) ?_)))))
          exact Pc_gd (fun _ => Pc_ift (Int32.toInt_inj.1 (by rw [← x3, jl60]; omega)) (Pc_some ⟨rfl, Q⟩))
    · rw [in_f (a := a1) (by rw [jn2, jl2]; exact e)]
      refine Pc_lt (fun z => Pc_some (Pc_b1S (Pc_if10 (Pc_b1S (Pc_if00 (Pc_some ⟨rfl, Q⟩)))))) (fun z => Pc_lt (fun z => Pc_some (Pc_b1S (Pc_if10 (Pc_b1S (Pc_if00 (Pc_some ⟨rfl, Q⟩)))))) (fun w => absurd ⟨by rw [jn2] at z; exact z, by rw [jl2] at w; exact w⟩ e))
  · rw [if_neg d] at c
    exact absurd rfl c
end HWs
