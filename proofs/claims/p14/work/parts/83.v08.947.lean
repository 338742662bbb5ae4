/-! TEXTS -/
section TXs
variable {s t s' t' : SS}
theorem QCha.e (R : QCha s t) (S : Sh s) (h5 : zS s' 0 5 = zS s 0 5) (h1 : ∀ q k, 126 ≤ q → q < zL s → zS s' q k = zS s q k) (h2 : ∀ q j, 126 ≤ q → q < zL s → zI s' q j = zI s q j) (h3 : ∀ i, zR s' 23 i = zR s 23 i) (m : ∀ q j, 81 ≤ q → q ≤ 85 → zI t' q j = zI t q j) : QCha s' t' := by
  obtain ⟨a, a0, b⟩ := R
  refine ⟨fun i hi hc => ?_, fun i hi hc => by rw [m 84 _ (by omega) (by omega)]; exact a0 i hi (by rw [← h5]; exact hc), fun i j p hi hj e f => b i j p hi hj ((h3 i).symm.trans e) ((h3 j).symm.trans f)⟩
  obtain ⟨p, e, r⟩ := a i hi (by rw [← h5]; exact hc)
  obtain ⟨o1, o2, _⟩ := S.2.2.2.2.1 i p hi e
  exact ⟨p, (h3 i).trans e, r.c (fun k => h1 p k o1 (by omega)) (fun y => h2 _ y (by omega) (by omega)) m⟩
/-- texts apart, all is as it was -/
theorem Q4.gr (Q : Q4 s t) (S : Sh s) (b3 : (zS s 15 3).toInt ≤ 120) (sS : ∀ q k, q < 59 → vS q k = true → ¬ (q = 0 ∧ k = 8) → zS s' q k = zS s q k) (dS : ∀ q k, 126 ≤ q → q < zL s → zS s' q k = zS s q k) (sI : ∀ q j, q < 59 → vI q = true → zI s' q j = zI s q j) (dI : ∀ q j, 126 ≤ q → q < zL s → zI s' q j = zI s q j) (r17 : ∀ i, zR s' 17 i = zR s 17 i) (r23 : ∀ i, zR s' 23 i = zR s 23 i) (mS : ∀ k, vS 59 k = true → zS t' 59 k = zS t 59 k) (mI : ∀ q j, vI q = true → 59 ≤ q → q < 126 → q < 87 ∨ 94 < q → zI t' q j = zI t q j) (mJ : ∀ i, zJ t' 122 i = zJ t 122 i) (T : QTxt s' t') : Q4 s' t' := by
  obtain ⟨Q1, Q2, Q3, Q5, Q6, Q7, Q8, Q9, Q10, Q11, Q12, Q13, Q14⟩ := Q
  refine ⟨Q1.e S dS dI r17 (fun q j h1 h2 => mI q j ?_ (by omega) (by omega) (by omega)), Q2.c (fun i => sI 7 i (by omega) rfl) (fun i => sI 8 i (by omega) rfl) (fun i => sI 10 i (by omega) rfl) (fun i => sI 16 i (by omega) rfl) (sS 15 3 (by omega) rfl (by omega)) (sS 6 4 (by omega) rfl (by omega)) (fun i => mI 74 i rfl (by omega) (by omega) (by omega)) (fun i => mI 75 i rfl (by omega) (by omega) (by omega)) (fun i => mI 77 i rfl (by omega) (by omega) (by omega)), Q3.c (fun k h => sS 0 k (by omega) (by rcases h with rfl | rfl <;> rfl) (by omega)) (sS 15 4 (by omega) rfl (by omega)) r17 (fun i => mI 67 i rfl (by omega) (by omega) (by omega)) (fun i => mI 69 i rfl (by omega) (by omega) (by omega)), Q5.c (sS 0 18 (by omega) rfl (by omega)) (sS 0 14 (by omega) rfl (by omega)) (fun i => mI 69 i rfl (by omega) (by omega) (by omega)), Q6.c (fun k => sS 30 k (by omega) rfl (by omega)) (sS 0 14 (by omega) rfl (by omega)) (fun q i h1 h2 => sI q i (by omega) ?_) (fun k h => mS k (by rcases h with rfl | rfl | rfl <;> rfl)) (fun q i h1 h2 => mI q i ?_ (by omega) (by omega) (by omega)), Q7.c (fun k h1 h2 => sS 15 k (by omega) (Nat.ble_eq.mpr h2) (by omega)) (fun k h1 h2 => mS k ?_), Q8.c (fun i hi => sS _ 2 (by omega) ?_ (by omega)) (fun i => mI 80 i rfl (by omega) (by omega) (by omega)), Q9.c (fun k h1 h2 => sS 6 k (by omega) ?_ (by omega)) (fun i => sI 13 i (by omega) rfl) (fun k h => mS k (by rcases h with rfl | rfl <;> rfl)) (fun i => mI 116 i rfl (by omega) (by omega) (by omega)) (fun i => mI 118 i rfl (by omega) (by omega) (by omega)), Q10.c (by rw [sS 15 3 (by omega) rfl (by omega)]; exact Int.le_refl _) (fun i _ h => by rw [r17]; exact h) b3 (fun i => mI 79 i rfl (by omega) (by omega) (by omega)), Q11.e S (sS 0 5 (by omega) rfl (by omega)) dS dI r23 (fun q j h1 h2 => mI q j ?_ (by omega) (by omega) (by omega)), T, Q13.c (fun q i h => mI q i (by rcases h with rfl | rfl <;> rfl) (by omega) (by omega) (by omega)) mJ, Q14.c (sS 0 14 (by omega) rfl (by omega)) (fun i => mI 68 i rfl (by omega) (by omega) (by omega))⟩
  · have h : q = 63 ∨ q = 64 ∨ q = 65 ∨ q = 66 ∨ q = 67 ∨ q = 68 ∨ q = 69 ∨ q = 70 ∨ q = 71 ∨ q = 72 ∨ q = 73 ∨ q = 104 := by omega
    rcases h with rfl | rfl | rfl | rfl | rfl | rfl | rfl | rfl | rfl | rfl | rfl | rfl <;> rfl
  · have h : q = 31 ∨ q = 32 ∨ q = 33 := by omega
    rcases h with rfl | rfl | rfl <;> rfl
  · have h : q = 102 ∨ q = 103 ∨ q = 105 := by omega
    rcases h with rfl | rfl | rfl <;> rfl
  · have h : k = 22 ∨ k = 23 ∨ k = 24 ∨ k = 25 := by omega
    rcases h with rfl | rfl | rfl | rfl <;> rfl
  · have h : i = 0 ∨ i = 1 ∨ i = 2 := by omega
    rcases h with rfl | rfl | rfl <;> rfl
  · have h : k = 10 ∨ k = 11 ∨ k = 12 := by omega
    rcases h with rfl | rfl | rfl <;> rfl
  · have h : q = 81 ∨ q = 82 ∨ q = 83 ∨ q = 84 ∨ q = 85 := by omega
    rcases h with rfl | rfl | rfl | rfl | rfl <;> rfl
/-- a text below the row that is written -/
theorem TX.k {p i : Nat} {r : Int} (R : TX s p t i) (hi : (i : Int) < r) (h1 : ∀ k, zS s' p k = zS s p k) (h2 : ∀ y, zI s' (p + 1) y = zI s (p + 1) y) (h3 : zN s' (p + 1) = zN s (p + 1)) (m : ∀ q, q = 87 ∨ q = 88 ∨ q = 89 → zI t' q i = zI t q i) (m90 : zI t' 90 i = zI t 90 i) (m9 : ∀ j : Nat, (j : Int) < 90 * r → zI t' 91 j = zI t 91 j ∧ zI t' 92 j = zI t 92 j) (m17 : ∀ j : Nat, (j : Int) < 170 * r → zI t' 93 j = zI t 93 j ∧ zI t' 94 j = zI t 94 j) : TX s' p t' i := by
  obtain ⟨a, b, c, d, e, ls, t1, t2, t3, t4, t5, t6, t7, t8, t9⟩ := R
  refine ⟨by rw [m 87 (by omega)]; exact a, by rw [h1, m 87 (by omega)]; exact b, by rw [h1, m 87 (by omega)]; exact c, by rw [h1, m 88 (by omega)]; exact d, by rw [h1, m 89 (by omega)]; exact e, ls, by rw [h3]; exact t1, t2, t3, fun j c h => by rw [h2]; exact t4 j c h, fun j c h => ?_, by rw [m90]; exact t6, t7, t8, fun k pr h => ?_⟩
  · have hj : j < (mlL ls).length := (List.getElem?_eq_some_iff.mp h).1
    rw [(m17 (170 * i + j) (by omega)).1, (m17 (170 * i + j) (by omega)).2]
    exact t5 j c h
  · have hk : k < ls.length := (List.getElem?_eq_some_iff.mp h).1
    rw [(m9 (90 * i + k) (by omega)).1, (m9 (90 * i + k) (by omega)).2]
    exact t9 k pr h
theorem ord_b {a : Int32} (h : f_X11_isOrder a = some 1) : 0 ≤ a.toInt ∧ a.toInt ≤ 12 ∧ a.toInt % 10 ≤ 2 := by
  unfold f_X11_isOrder at h
  by_cases h0 : a < 0
  · rw [if_pos h0] at h; cases h
  have h0' := h0
  rw [jlt, jl0] at h0'
  have e1 : (a / 10).toInt = a.toInt / 10 := by rw [jd10, if_pos (by omega)]
  have e2 : (a % 10).toInt = a.toInt % 10 := by rw [jm10, if_pos (by omega)]
  rw [if_neg h0] at h
  by_cases h1 : (1 : Int32) < a / 10
  · rw [if_pos h1] at h; cases h
  have h1' := h1
  rw [jlt, jl1, e1] at h1'
  rw [if_neg h1] at h
  by_cases h2 : (2 : Int32) < a % 10
  · rw [if_pos h2] at h; cases h
  have h2' := h2
  rw [jlt, jl2, e2] at h2'
  omega
theorem clampN {v : Int32} : v.toNatClampNeg = v.toInt.toNat := rfl
theorem L_text (T : TP s t) (B : B1 s t) (Q : Q4 s t) (a0 a1 : Int32) : Pc (f_X11_text s a0 a1) fun x => Pc (f_X12_text t a0 a1) fun m => Q4 x.2 m.2 := by
  have eh : zS s 0 14 = zS t 59 1 := B.2.1.1
  have e8 : zS s 0 8 = zS t 59 38 := B.1.1.2.2.2.1
  have h8 : 0 ≤ (zS s 0 8).toInt ∧ (zS s 0 8).toInt ≤ 16 := B.1.fx (q := 0) (k := 8) (by omega)
  have j16 : (16 : Int32).toInt = 16 := rfl
  have S := B.1.sh
  have hL := S.1
  have b3 := B.1.tot.2.2
  have T0 := Q.2.2.2.2.2.2.2.2.2.2.1
  unfold f_X11_text
  rcases ord_l (a := a0) with ⟨o1, o2⟩ | ⟨o1, o2⟩
  · rw [o1]
    refine Pc_b1S (Pc_if10 ?_)
    by_cases d : (zS s 0 14).toInt ≤ a1.toInt ∧ a1.toInt ≤ 1699
    · refine Pc_iff (by rw [jlt]; omega) (Pc_iff (by rw [jlt, jl1699]; omega) ?_)
      by_cases f : (zS s 0 8).toInt < 16
      · have hr : 0 ≤ (zS t 59 38).toInt ∧ (zS t 59 38).toInt ≤ 15 := by rw [← e8]; omega
        obtain ⟨fx, s6, t', ec, eQ, PX, PR, O⟩ := comp_l WoE T hr a0 a1 (fun u => some (0, u))
        obtain ⟨r, er⟩ : ∃ r : Nat, (zS t 59 38).toInt = r := ⟨_, (Int.toNat_of_nonneg hr.1).symm⟩
        have ern : (zS t 59 38).toInt.toNat = r := by omega
        have e50 : zS (m0T t) 59 50 = zS t 59 38 := by unfold m0T; rw [zS_pS, if_neg (by omega), zS_pS, if_neg (by omega), zS_pS, if_neg (by omega), zS_pS, if_neg (by omega), zS_pI, zS_pS, if_pos ⟨rfl, rfl⟩]
        have e51 : zS (m0T t) 59 51 = 0 := by unfold m0T; rw [zS_pS, if_neg (by omega), zS_pS, if_neg (by omega), zS_pS, if_neg (by omega), zS_pS, if_pos ⟨rfl, rfl⟩]
        have e90 : ∀ j, j ≠ r → zI (m0T t) 90 j = zI t 90 j := fun j hj => by unfold m0T; rw [zI_pS, zI_pS, zI_pS, zI_pS, zI_pI, if_neg (by omega), zI_pS]
        have e90r : zI (m0T t) 90 r = 0 := by unfold m0T; rw [zI_pS, zI_pS, zI_pS, zI_pS, zI_pI, if_pos ⟨rfl, ern.symm⟩]
        have K0 : K2 (r : Int) (m0T t) (m0T t) := ⟨by rw [e50, er], by rw [e51]; decide, by rw [show ((r : Nat) : Int).toNat = r by omega, e90r]; decide, fun _ _ => ⟨rfl, rfl⟩, fun _ _ => ⟨rfl, rfl⟩, fun _ _ => rfl⟩
        have KT : K2 (r : Int) (m0T t) t' := (Pc_b1 (Pc.mono (K_line (by omega) K0) (fun u hu => K_text (by omega) 4000 u hu)) : Pc (b1 (f_X12_readLine (m0T t)) fun s16 => f_X12_text_L77 (fun u => some (0, u)) a0 a1 4000 s16) (fun x => K2 (r : Int) (m0T t) x.2)) (0, t') eQ
        obtain ⟨_, _, _, k93, k91, k90⟩ := KT
        -- the reference's text is its end at t'
        have em0 : f_X12_text t a0 a1 = qT a0 a1 t' := by
          have e : f_X12_text t a0 a1 = (b1 (f_X12_readLine (m0T t)) fun s16 => f_X12_text_L77 (qT a0 a1) a0 a1 4000 s16) := by
            have e50' : zS (pS t 59 50 (zS t 59 38)) 59 50 = zS t 59 38 := by rw [zS_pS, if_pos ⟨rfl, rfl⟩]
            unfold f_X12_text
            rw [o2, b1_some, if_neg (by decide), in_t (by rw [← eh, jl1699]; exact d), b1_some, if_neg (by decide), if_neg (fun z => by rw [z, j16] at hr; omega), vl, st, vl, e50', gd_t ⟨hr.1, by omega⟩, st, st, st, st, st]
            rfl
          rw [e]
          cases hl : f_X12_readLine (m0T t) with
          | none => rw [hl] at eQ; cases eQ
          | some s16 =>
            rw [hl, b1_some] at eQ
            rw [b1_some, tx77, eQ]
            rfl
        rw [em0]
        have n38 : zS t' 59 38 = zS t 59 38 := (PR.1 59 38 (by omega)).trans (m0T_S (by omega))
        have n1 : zS t' 59 1 = zS t 59 1 := (PR.1 59 1 (by omega)).trans (m0T_S (by omega))
        have vmS : ∀ k, vS 59 k = true → k ≠ 37 ∧ k ≠ 38 ∧ k ≠ 47 ∧ k ≠ 48 ∧ k ≠ 49 ∧ k ≠ 50 ∧ k ≠ 51 := fun k h => by
          refine ⟨?_, ?_, ?_, ?_, ?_, ?_, ?_⟩ <;> (intro z; rw [z] at h; cases h)
        have vcI : ∀ q, q < 59 → vI q = true → q ≠ 26 := fun q _ h z => by rw [z] at h; cases h
        have vcS : ∀ q k, vS q k = true → q < 59 → q ≠ 24 := fun q k h _ z => by rw [z] at h; cases h
        refine Pc_ift (by rw [jlt, j16]; exact f) ?_
        rw [ec]
        refine Pc_bdS (Pc_st ?_)
        -- what the class keeps up to here
        have x7S : ∀ q k, q ≠ 24 → zS (pS s6 24 1 0) q k = zS s q k := fun q k z => by rw [zS_pS, if_neg (by omega)]; exact PX.1 q k (by omega)
        have x7I : ∀ q j, q ≠ 26 → zI (pS s6 24 1 0) q j = zI s q j := fun q j z => PX.2.1 q j z
        have x7L : (pS s6 24 1 0).2.2.2 = s.2.2.2 := congrArg Prod.snd PX.2.2
        have x26 : ∀ j, zI (pS s6 24 1 0) 26 j = zI s6 26 j := fun _ => rfl
        have x243 : zS (pS s6 24 1 0) 24 3 = zS s6 24 3 := rfl
        generalize pS s6 24 1 0 = s7 at x7S x7I x7L x26 x243 ⊢
        have l7 : zL s7 = zL s := by unfold zL; rw [x7L]
        have r7 : ∀ a i, zR s7 a i = zR s a i := fun a i => by unfold zR; rw [x7L]
        have N7 : ∀ a, zN s7 a = zN s a := fun a => by unfold zN; rw [x7L]
        have t7 : ∀ a, zT s7 a = zT s a := fun a => by unfold zT; rw [x7L]
        -- the reference's cells, whatever marks are set
        have tI : ∀ q j, q ≠ 90 → q ≠ 91 → q ≠ 92 → q ≠ 93 → q ≠ 94 → zI t' q j = zI t q j := fun q j h1 h2 h3 h4 h5 => (PR.2.1 q j h1 h2 h3 h4 h5).trans (m0T_I h1)
        have tJ : ∀ i, zJ t' 122 i = zJ t 122 i := fun i => by unfold zJ; rw [PR.2.2]; rfl
        have tS : ∀ k, vS 59 k = true → zS t' 59 k = zS t 59 k := fun k h => by
          obtain ⟨v1, v2, v3, v4, v5, v6, v7⟩ := vmS k h
          exact (PR.1 59 k (by omega)).trans (m0T_S (by omega))
        have old : ∀ i p : Nat, i < 16 → (i : Int) < (zS s 0 8).toInt → zR s 27 i = some p → TX s p t i → ∀ x y, (∀ k, zS x p k = zS s p k) → (∀ j, zI x (p + 1) j = zI s (p + 1) j) → zN x (p + 1) = zN s (p + 1) → (∀ q, q = 87 ∨ q = 88 ∨ q = 89 → zI y q i = zI t q i) → (∀ q j, 90 ≤ q → q ≤ 94 → zI y q j = zI t' q j) → TX x p y i := by
          intro i p hi hc hp X x y c1 c2 c3 c4 c5
          rw [e8, er] at hc
          refine X.k (r := r) hc c1 c2 c3 c4 ?_ (fun j hj => ?_) (fun j hj => ?_)
          · rw [c5 90 i (by omega) (by omega), k90 i hc, e90 i (by omega)]
          · rw [c5 91 j (by omega) (by omega), c5 92 j (by omega) (by omega), (k91 j hj).1, (k91 j hj).2, m0T_I (by omega), m0T_I (by omega)]
            exact ⟨rfl, rfl⟩
          · rw [c5 93 j (by omega) (by omega), c5 94 j (by omega) (by omega), (k93 j hj).1, (k93 j hj).2, m0T_I (by omega), m0T_I (by omega)]
            exact ⟨rfl, rfl⟩
        -- a fault: nothing but the tape
        have flt : ∀ w, (∀ q k, ¬ (q = 59 ∧ k = 48) → zS w q k = zS t' q k) → w.2 = t'.2 → Q4 s7 (pS w 59 37 0) := by
          intro w w1 w2
          have wI : ∀ q j, zI (pS w 59 37 0) q j = zI t' q j := fun q j => by rw [zI_pS]; unfold zI; rw [w2]
          refine Q.gr S b3 (fun q k h1 h2 _ => x7S q k (vcS q k h2 h1)) (fun q k h1 _ => x7S q k (by omega)) (fun q j h1 h2 => x7I q j (vcI q h1 h2)) (fun q j h1 _ => x7I q j (by omega)) (r7 17) (r7 23) (fun k h => ?_) (fun q j _ _ _ h => ?_) (fun i => ?_) (fun i hi hc => ?_)
          · obtain ⟨v1, v2, v3, v4, v5, v6, v7⟩ := vmS k h
            rw [zS_pS, if_neg (by omega), w1 59 k (by omega)]
            exact tS k h
          · rw [wI]
            exact tI q j (by omega) (by omega) (by omega) (by omega) (by omega)
          · have : zJ (pS w 59 37 0) 122 i = zJ t' 122 i := by
              show w.2.2.1 122 i = t'.2.2.1 122 i
              rw [w2]
            rw [this]; exact tJ i
          · rw [x7S 0 8 (by omega)] at hc
            obtain ⟨p, hp, X⟩ := T0 i hi hc
            have op := S.2.2.2.2.2.1 i p hi hp
            exact ⟨p, by rw [r7]; exact hp, old i p hi hc hp X _ _ (fun k => x7S p k (by have := op.1; omega)) (fun j => x7I _ j (by have := op.1; omega)) (N7 _) (fun q hq => by rw [wI]; exact tI q i (by omega) (by omega) (by omega) (by omega) (by omega)) (fun q j _ _ => wI q j)⟩
        unfold qT
        rcases O with ⟨q1, q2, q3, ls, TI⟩ | ⟨q1, O2⟩
        · -- a new text
          have e48 : zS (pS t' 59 37 0) 59 48 = -1 := by rw [zS_pS, if_neg (by omega)]; exact q2
          refine Pc_ift (by rw [q1]; decide) (Pc_vl (Pc_gd (fun _ => Pc_gd (fun gz => Pc_st (Pc_vl (Pc_st (Pc_some ?_)))))))
          refine Pc_jn (Pc_ift (by rw [q2]; decide) (Pc_iff q3 (Pc_st (Pc_ift (by rw [e48]; decide) ?_))))
          have p38 : zS (pS t' 59 37 0) 59 38 = zS t 59 38 := by rw [zS_pS, if_neg (by omega)]; exact n38
          refine Pc_vl (Pc_gd (fun _ => Pc_st (Pc_vl (Pc_vl (Pc_gd (fun _ => Pc_st (Pc_vl (Pc_gd (fun _ => Pc_st (Pc_vl (Pc_st (Pc_some ?_))))))))))))
          have y37 : ∀ k, k ≠ 37 → zS (pS t' 59 37 0) 59 k = zS t' 59 k := fun k h => by rw [zS_pS, if_neg (by omega)]
          have yI : ∀ q j, zI (pS t' 59 37 0) q j = zI t' q j := fun _ _ => rfl
          have yJ : ∀ q j, zJ (pS t' 59 37 0) q j = zJ t' q j := fun _ _ => rfl
          have z8 : zS s7 0 8 = zS t 59 38 := (x7S 0 8 (by omega)).trans e8
          have z14 : zS s7 0 14 = zS s 0 14 := x7S 0 14 (by omega)
          show Q4 (pS (pR (pText s7 (a0 / 10) (a0 % 10) (zS s7 0 14) a1 (zS s7 24 3).toNatClampNeg) 27 (zS s7 0 8).toInt.toNat (some (zL s7))) 0 8 (zS (pR (pText s7 (a0 / 10) (a0 % 10) (zS s7 0 14) a1 (zS s7 24 3).toNatClampNeg) 27 (zS s7 0 8).toInt.toNat (some (zL s7))) 0 8 + 1)) (pS (pI (pI (pI (pS t' 59 37 0) 87 (zS (pS t' 59 37 0) 59 38).toInt.toNat a0) 88 (zS (pS t' 59 37 0) 59 38).toInt.toNat (zS (pS t' 59 37 0) 59 1)) 89 (zS (pS t' 59 37 0) 59 38).toInt.toNat a1) 59 38 (zS (pS t' 59 37 0) 59 38 + 1))
          rw [p38, y37 1 (by omega), z8, ern, l7, z14]
          generalize pS t' 59 37 0 = y at y37 yI yJ
          have v8 : zS (pR (pText s7 (a0 / 10) (a0 % 10) (zS s 0 14) a1 (zS s7 24 3).toNatClampNeg) 27 r (some (zL s))) 0 8 = zS t 59 38 := by
            show (if 0 = zL s7 then textF (a0 / 10) (a0 % 10) (zS s 0 14) a1 8 else zS s7 0 8) = _
            rw [if_neg (by omega), z8]
          rw [v8]
          obtain ⟨u, hu⟩ : ∃ u, u = pS (pR (pText s7 (a0 / 10) (a0 % 10) (zS s 0 14) a1 (zS s7 24 3).toNatClampNeg) 27 r (some (zL s))) 0 8 (zS t 59 38 + 1) := ⟨_, rfl⟩
          have uS : ∀ q k, q ≠ zL s → ¬ (q = 0 ∧ k = 8) → zS u q k = zS s7 q k := fun q k h1 h2 => by
            rw [hu, zS_pS, if_neg h2]
            show (if q = zL s7 then textF (a0 / 10) (a0 % 10) (zS s 0 14) a1 k else zS s7 q k) = _
            rw [if_neg (by omega)]
          have uF : ∀ k, zS u (zL s) k = textF (a0 / 10) (a0 % 10) (zS s 0 14) a1 k := fun k => by
            rw [hu, zS_pS, if_neg (by omega)]
            show (if zL s = zL s7 then textF (a0 / 10) (a0 % 10) (zS s 0 14) a1 k else zS s7 (zL s) k) = _
            rw [if_pos l7.symm]
          have u8 : zS u 0 8 = zS t 59 38 + 1 := by rw [hu, zS_pS, if_pos ⟨rfl, rfl⟩]
          have uI : ∀ q j, q ≠ zL s + 1 → zI u q j = zI s7 q j := fun q j h1 => by
            rw [hu]
            show (if q = zL s7 + 1 then zI s7 26 j else zI s7 q j) = _
            rw [if_neg (by omega)]
          have uC : ∀ j, zI u (zL s + 1) j = zI s6 26 j := fun j => by
            rw [hu]
            show (if zL s + 1 = zL s7 + 1 then zI s7 26 j else zI s7 (zL s + 1) j) = _
            rw [if_pos (by omega), x26]
          have uR : ∀ q i, zR u q i = if q = 27 ∧ i = r then some (zL s) else zR s q i := fun q i => by
            rw [hu]
            show (if q = 27 ∧ i = r then some (zL s) else zR s7 q i) = _
            rw [r7]
          have uN : ∀ q, q ≠ zL s + 1 → zN u q = zN s q := fun q h1 => by
            rw [hu]
            show (if q = zL s7 + 1 then (zS s7 24 3).toNatClampNeg else zN s7 q) = _
            rw [if_neg (by omega), N7]
          have uN1 : zN u (zL s + 1) = (zS s6 24 3).toInt.toNat := by
            rw [hu]
            show (if zL s + 1 = zL s7 + 1 then (zS s7 24 3).toNatClampNeg else zN s7 (zL s + 1)) = _
            rw [if_pos (by omega), x243]
            rfl
          rw [← hu]
          have n8 : (zS t 59 38 + 1).toInt = (r : Int) + 1 := by rw [i32_add (by rw [jl1]; omega) (by rw [jl1]; omega), jl1, er]
          have wI : ∀ q j, q ≠ 87 → q ≠ 88 → q ≠ 89 → zI (pS (pI (pI (pI y 87 r a0) 88 r (zS t' 59 1)) 89 r a1) 59 38 (zS t 59 38 + 1)) q j = zI t' q j := fun q j h1 h2 h3 => by
            rw [zI_pS, zI_pI, if_neg (by omega), zI_pI, if_neg (by omega), zI_pI, if_neg (by omega), yI]
          have wJ : ∀ q j, j ≠ r → zI (pS (pI (pI (pI y 87 r a0) 88 r (zS t' 59 1)) 89 r a1) 59 38 (zS t 59 38 + 1)) q j = zI t' q j := fun q j h1 => by
            rw [zI_pS, zI_pI, if_neg (by omega), zI_pI, if_neg (by omega), zI_pI, if_neg (by omega), yI]
          refine Q.gr S b3 (fun q k h1 h2 h3 => ?_) (fun q k h1 h2 => ?_) (fun q j h1 h2 => ?_) (fun q j h1 h2 => ?_) (fun i => by rw [uR, if_neg (by omega)]) (fun i => by rw [uR, if_neg (by omega)]) (fun k h => ?_) (fun q j _ _ _ h => ?_) (fun i => ?_) (fun i hi hc => ?_)
          · rw [uS q k (by omega) h3]; exact x7S q k (vcS q k h2 h1)
          · rw [uS q k (by omega) (by omega)]; exact x7S q k (by omega)
          · rw [uI q j (by omega)]; exact x7I q j (vcI q h1 h2)
          · rw [uI q j (by omega)]; exact x7I q j (by omega)
          · obtain ⟨v1, v2, v3, v4, v5, v6, v7⟩ := vmS k h
            rw [zS_pS, if_neg (by omega), zS_pI, zS_pI, zS_pI, y37 k v1]
            exact tS k h
          · rw [wI q j (by omega) (by omega) (by omega)]
            exact tI q j (by omega) (by omega) (by omega) (by omega) (by omega)
          · show zJ y 122 i = zJ t 122 i
            rw [yJ]; exact tJ i
          · rw [u8, n8] at hc
            by_cases z : i = r
            · refine ⟨zL s, by rw [uR, if_pos ⟨rfl, z⟩], ?_⟩
              subst z
              obtain ⟨o3, o4, o5⟩ := ord_b o1
              have ed : (a0 / 10).toInt = a0.toInt / 10 := by rw [jd10, if_pos o3]
              have emm : (a0 % 10).toInt = a0.toInt % 10 := by rw [jm10, if_pos o3]
              have w87 : zI (pS (pI (pI (pI y 87 i a0) 88 i (zS t' 59 1)) 89 i a1) 59 38 (zS t 59 38 + 1)) 87 i = a0 := by rw [zI_pS, zI_pI, if_neg (by omega), zI_pI, if_neg (by omega), zI_pI, if_pos ⟨rfl, rfl⟩]
              have w88 : zI (pS (pI (pI (pI y 87 i a0) 88 i (zS t' 59 1)) 89 i a1) 59 38 (zS t 59 38 + 1)) 88 i = zS t' 59 1 := by rw [zI_pS, zI_pI, if_neg (by omega), zI_pI, if_pos ⟨rfl, rfl⟩]
              have w89 : zI (pS (pI (pI (pI y 87 i a0) 88 i (zS t' 59 1)) 89 i a1) 59 38 (zS t 59 38 + 1)) 89 i = a1 := by rw [zI_pS, zI_pI, if_pos ⟨rfl, rfl⟩]
              obtain ⟨⟨s2, es2, Rd2, hk2⟩, Em1, Ly1, h90, h1l, hW, h9, _⟩ := TI
              have emr : mr (m0T t) = (i : Int) := by unfold mr; rw [e50, er]
              have eml : ml (m0T t) = 0 := by unfold ml; rw [e51]; rfl
              have exz : xz (x0T s) = 0 := by unfold xz x0T; rw [zS_pS, if_neg (by omega), zS_pS, if_neg (by omega), zS_pS, if_pos ⟨rfl, rfl⟩]; rfl
              have cz : (zS s6 24 3).toInt = (clL ls).length := by
                have := Em1.1
                rw [exz] at this
                unfold xz at this
                omega
              obtain ⟨⟨_, xn2, _⟩, _, _, _, xa2, _, _, ml2, _⟩ := Rd2
              have lm : ml t' = (mlL ls).length := by rw [Ly1.1, eml]; omega
              refine ⟨?_, ?_, ?_, ?_, ?_, ls, ?_, ?_, ?_, ?_, ?_, ?_, ?_, hW, ?_⟩
              · rw [w87]; exact ⟨o3, o4, o5⟩
              · rw [uF, w87]; exact ed
              · rw [uF, w87]; exact emm
              · rw [uF, w88, n1, ← eh]; rfl
              · rw [uF, w89]; rfl
              · rw [uN1, cz]; omega
              · have := gz.2
                rw [x243, jlt, cz, show (161 : Int32).toInt = 161 from rfl] at this
                omega
              · omega
              · intro j c hj
                rw [uC]
                have := Em1.2.2 j c hj
                rw [exz] at this
                rw [← this]
                congr 1
                omega
              · intro j c hj
                rw [wI 93 _ (by omega) (by omega) (by omega), wI 94 _ (by omega) (by omega) (by omega)]
                have := Ly1.2.2 j c hj
                rw [emr, eml, show (170 * (i : Int) + 0).toNat + j = 170 * i + j by omega] at this
                exact this
              · rw [wI 90 _ (by omega) (by omega) (by omega)]
                rw [emr, show ((i : Nat) : Int).toNat = i by omega] at h90
                exact h90
              · omega
              · intro k pr hk
                rw [wI 91 _ (by omega) (by omega) (by omega), wI 92 _ (by omega) (by omega) (by omega)]
                have := h9 k pr hk
                rw [emr, show (90 * (i : Int) + (k : Int)).toNat = 90 * i + k by omega] at this
                exact this
            · have hc' : (i : Int) < (zS s 0 8).toInt := by rw [e8, er]; omega
              obtain ⟨p, hp, X⟩ := T0 i hi hc'
              have op := S.2.2.2.2.2.1 i p hi hp
              have op1 := op.1
              have op2 := op.2.1
              refine ⟨p, by rw [uR, if_neg (fun w => z w.2)]; exact hp, old i p hi hc' hp X _ _ (fun k => ?_) (fun j => ?_) (uN _ (by omega)) (fun q hq => ?_) (fun q j h1 h2 => wI q j (by omega) (by omega) (by omega))⟩
              · rw [uS p k (by omega) (by omega)]; exact x7S p k (by omega)
              · rw [uI _ j (by omega)]; exact x7I _ j (by omega)
              · rw [wJ q i z]
                exact tI q i (by omega) (by omega) (by omega) (by omega) (by omega)
        · -- a fault
          refine Pc_iff (by rw [jlt, jl0]; omega) (Pc_some (Pc_jn ?_))
          have bad : ∀ w, (∀ q k, ¬ (q = 59 ∧ k = 48) → zS w q k = zS t' q k) → w.2 = t'.2 → zS w 59 48 = fx → Pc (st (pS w 59 37 0) fun s25 => (if (zS s25 59 48) < (0 : Int32) then (vl ((zS s25 59 38)) fun v27 => (gd (inB v27 16) (st (pI s25 87 (v27.toInt.toNat) a0) fun s29 => (vl ((zS s29 59 1)) fun v30 => (vl ((zS s29 59 38)) fun v31 => (gd (inB v31 16) (st (pI s29 88 (v31.toInt.toNat) v30) fun s33 => (vl ((zS s33 59 38)) fun v34 => (gd (inB v34 16) (st (pI s33 89 (v34.toInt.toNat) a1) fun s36 => (vl (((zS s36 59 38) + (1 : Int32))) fun v37 => (st (pS s36 59 38 v37) fun s38 => some (((zS s38 59 38) - (1 : Int32)), s38))))))))))))) else some ((((-100) : Int32) - (zS s25 59 48)), s25))) (fun m => Q4 s7 m.2) := by
            intro w w1 w2 w3
            have e48 : zS (pS w 59 37 0) 59 48 = fx := by rw [zS_pS, if_neg (by omega)]; exact w3
            refine Pc_st (Pc_iff (by rw [e48, jlt, jl0]; omega) (Pc_some (flt w w1 w2)))
          rcases O2 with q2 | ⟨q2, q3, q4⟩
          · exact Pc_iff (by rw [q2, jlt, jl0]; omega) (bad t' (fun _ _ _ => rfl) rfl q2)
          · refine Pc_ift (by rw [q2]; decide) (Pc_ift q3 (Pc_b1 ?_))
            unfold f_X12_faultHere
            refine Pc_ift (by rw [q2]; decide) (Pc_vl (Pc_st (Pc_some ?_)))
            exact bad (pS t' 59 48 (zS t' 59 47)) (fun q k h => by rw [zS_pS, if_neg h]) rfl (by rw [zS_pS, if_pos ⟨rfl, rfl⟩]; exact q4)
      · refine Pc_iff (by rw [jlt, j16]; exact f) (Pc_some ?_)
        have e : f_X12_text t a0 a1 = some (-3, t) := by
          unfold f_X12_text
          rw [o2, b1_some, if_neg (by decide), in_t (by rw [← eh, jl1699]; exact d), b1_some, if_neg (by decide), if_pos (by rw [← e8]; exact Int32.toInt_inj.1 (by rw [j16]; omega))]
        rw [e]
        exact Pc_some Q
    · have e : f_X12_text t a0 a1 = some (-1, t) := by
        unfold f_X12_text
        rw [o2, b1_some, if_neg (by decide), in_f (by rw [← eh, jl1699]; exact d), b1_some, if_pos rfl]
      rw [e]
      refine Pc_lt (fun _ => Pc_some (Pc_some Q)) (fun z => Pc_lt (fun _ => Pc_some (Pc_some Q)) (fun w => ?_))
      rw [jl1699] at w
      exact absurd ⟨z, w⟩ d
  · have e : f_X12_text t a0 a1 = some (-1, t) := by
      unfold f_X12_text
      rw [o2, b1_some, if_pos rfl]
    rw [o1, e]
    exact Pc_b1S (Pc_if00 (Pc_some (Pc_some Q)))
end TXs
