/-! OLD WORKINGS BY A MAP -/
theorem shlB : ∀ i : Fin 32, (((-1 : Int32) <<< (nI i.val &&& 31)).toBitVec) = BitVec.allOnes 32 <<< i.val := by decide +kernel
theorem shrB : ∀ i : Fin 32, ((((((-1) : Int32).toUInt32 >>> (((31 : Int32) - nI i.val).toUInt32 &&& Int32.toUInt32 31)).toInt32)).toBitVec) = BitVec.allOnes 32 >>> (31 - i.val) := by decide +kernel
theorem bits_b {a b m : Int32} (ha : 0 ≤ a.toInt ∧ a.toInt < 32) (hb : 0 ≤ b.toInt ∧ b.toInt < 32) (h : f_X1_bits a b = some m) (x : Nat) (hx : x < 32) : m.toBitVec.getLsbD x = true ↔ a.toInt ≤ x ∧ (x : Int) ≤ b.toInt := by
  unfold f_X1_bits at h
  have e := Option.some.inj h
  obtain ⟨i, ei⟩ : ∃ i, i = a.toInt.toNat := ⟨_, rfl⟩
  obtain ⟨j, ej⟩ : ∃ j, j = b.toInt.toNat := ⟨_, rfl⟩
  have ea : a = nI i := by rw [ei]; exact toN_ ha.1
  have eb : b = nI j := by rw [ej]; exact toN_ hb.1
  rw [ea, eb] at e
  have e1 := shlB ⟨i, by omega⟩
  have e2 := shrB ⟨j, by omega⟩
  dsimp only at e1 e2
  rw [← e, Int32.toBitVec_and, BitVec.getLsbD_and, e1, e2, BitVec.getLsbD_shiftLeft, BitVec.getLsbD_ushiftRight, BitVec.getLsbD_allOnes, BitVec.getLsbD_allOnes]
  simp only [Bool.and_eq_true, Bool.not_eq_true', decide_eq_true_eq, decide_eq_false_iff_not]
  omega
theorem bits_ex (a b : Int32) : ∃ m, f_X1_bits a b = some m := ⟨_, rfl⟩
theorem and0_b {v m : Int32} (P : Nat → Prop) (h : ∀ k, k < 32 → (m.toBitVec.getLsbD k = true ↔ P k)) : (v &&& m) = 0 ↔ ∀ k, k < 32 → P k → ¬ v.toBitVec.getLsbD k = true := by
  constructor
  · intro e k hk hp hv
    have : (v &&& m).toBitVec.getLsbD k = true := by
      rw [Int32.toBitVec_and, BitVec.getLsbD_and, hv, (h k hk).mpr hp]
      rfl
    rw [e] at this
    have z : (0 : Int32).toBitVec = 0#32 := rfl
    rw [z, BitVec.getLsbD_zero] at this
    cases this
  · intro hv
    refine Int32.toBitVec_inj.1 (BitVec.eq_of_getLsbD_eq (fun k hk => ?_))
    have z : (0 : Int32).toBitVec = 0#32 := rfl
    rw [Int32.toBitVec_and, BitVec.getLsbD_and, z, BitVec.getLsbD_zero]
    cases e1 : v.toBitVec.getLsbD k with
    | false => rfl
    | true =>
      cases e2 : m.toBitVec.getLsbD k with
      | false => rfl
      | true => exact absurd e1 (hv k hk ((h k hk).mp e2))
section OLs
variable {s t s' t' : SS} {p i : Nat}
/-- the reference's list -/
def inL (t : SS) (i : Nat) (v : Int) : Prop := ∃ k : Nat, (k : Int) < (zI t 84 i).toInt ∧ (zI t 85 (40 * i + k)).toInt = v
theorem old_l {y1 y2 : Int32} (hy : y1.toInt = i) (hi : i < 8) (h84 : (zI t 84 i).toInt ≤ 40) : ∀ (n : Nat) (x : Int32), 0 ≤ x.toInt → (∀ k : Nat, (k : Int) < x.toInt → (k : Int) < (zI t 84 i).toInt → (zI t 85 (40 * i + k)).toInt ≠ y2.toInt) → Pc (f_X12_isOldBy_L2 t y1 y2 n x) (fun r => (r = 1 ∧ inL t i y2.toInt) ∨ (r = 0 ∧ ¬ inL t i y2.toInt))
  | 0, _, _, _ => Pc_none
  | n + 1, x, h0, h => by
    show Pc (f_X12_isOldBy_L2_b t y1 y2 (f_X12_isOldBy_L2 t y1 y2 n) x) _
    unfold f_X12_isOldBy_L2_b
    have ey : y1.toInt.toNat = i := by omega
    have j40 : (40 : Int32).toInt = 40 := rfl
    rw [ey]
    refine Pc_gd (fun _ => Pc_lt (fun c => Pc_vl (Pc_gd (fun _ => ?_))) (fun c => Pc_some (Or.inr ⟨rfl, fun ⟨k, k1, k2⟩ => h k (by omega) k1 k2⟩)))
    have m1 : ((40 : Int32) * y1).toInt = 40 * i := by rw [i32_mul (by rw [j40]; omega) (by rw [j40]; omega), j40, hy]
    have m2 : ((40 : Int32) * y1 + x).toInt.toNat = 40 * i + x.toInt.toNat := by
      rw [i32_add (by rw [m1]; omega) (by rw [m1]; omega), m1]
      omega
    have n1 : (x + 1).toInt = x.toInt + 1 := by rw [i32_add (by rw [jl1]; omega) (by rw [jl1]; omega), jl1]
    rw [m2]
    refine Pc_if (fun z => Pc_some (Or.inl ⟨rfl, x.toInt.toNat, by omega, by rw [z]⟩)) (fun z => Pc_vl (old_l hy hi h84 n (x + 1) (by omega) (fun k k1 k2 => ?_)))
    by_cases e : k = x.toInt.toNat
    · rw [e]
      exact fun w => z (Int32.toInt_inj.1 w)
    · exact h k (by omega) k2
theorem oldM {y1 y2 : Int32} (hy : y1.toInt = i) (hi : i < 8) (h84 : (zI t 84 i).toInt ≤ 40) : Pc (f_X12_isOldBy t y1 y2) (fun r => (r = 1 ∧ inL t i y2.toInt) ∨ (r = 0 ∧ ¬ inL t i y2.toInt)) := by
  unfold f_X12_isOldBy
  exact old_l hy hi h84 4000 0 (by decide) (fun k w => by rw [jl0] at w; omega)
theorem QHol.g (R : QHol s t) (S : Sh s) (h : ∀ p, okH s p → sHp p s s') (hR : ∀ i, zR s' 17 i = zR s 17 i) (m : ∀ q j, 63 ≤ q → q ≤ 73 ∨ q = 104 → zI t' q j = zI t q j) : QHol s' t' := by
  obtain ⟨r1, r2, r3, r4⟩ := R
  have g : ∀ i, sRw i t t' := fun i => ⟨fun q a b => m q i a (by omega), fun q y a b _ _ => m q _ (by omega) (by omega)⟩
  exact ⟨fun i p hi e => (r1 i p hi ((hR i).symm.trans e)).h (h p (S.2.2.1 i p hi ((hR i).symm.trans e))) (g i), fun i hi e => (r2 i hi ((hR i).symm.trans e)).w (g i), fun i j p hi hj e f => r3 i j p hi hj ((hR i).symm.trans e) ((hR j).symm.trans f), fun i hi => by rw [m 69 i (by omega) (by omega)]; exact r4 i hi⟩
theorem QTxt.g (R : QTxt s t) (S : Sh s) (h8 : zS s' 0 8 = zS s 0 8) (h : ∀ p, okT s p → (∀ k, zS s' p k = zS s p k) ∧ ∀ j, zI s' (p + 1) j = zI s (p + 1) j) (h3 : ∀ i, zR s' 27 i = zR s 27 i) (hN : ∀ q, zN s' q = zN s q) (m : ∀ q j, 87 ≤ q → q ≤ 94 → zI t' q j = zI t q j) : QTxt s' t' := fun i hi hc => by
  obtain ⟨p, e, r⟩ := R i hi (by rw [← h8]; exact hc)
  have o := S.2.2.2.2.2.1 i p hi e
  exact ⟨p, (h3 i).trans e, r.c (h p o).1 (h p o).2 (hN _) m⟩
/-- a cell more in a map -/
theorem Q4.ol {y : Nat} {x : Nat} {v w c : Int32} (Q : Q4 s t) (S : Sh s) (b3 : (zS s 15 3).toInt ≤ 120) (hi : i < 8) (h5 : (i : Int) < (zS s 0 5).toInt) (hp : zR s 23 i = some p) (hx : x < 32) (hy : 1 ≤ y ∧ y ≤ 60) (hcv : c.toInt = 100 * (x : Int) + y) (h84 : 0 ≤ (zI t 84 i).toInt ∧ (zI t 84 i).toInt < 40) (h40 : ∀ j, (zI t 84 j).toInt ≤ 40) (hw : w.toInt = (zI t 84 i).toInt + 1) (hv : ∀ k, k < 32 → (v.toBitVec.getLsbD k = true ↔ (zI s (p + 1) y).toBitVec.getLsbD k = true ∨ k = x)) : Q4 (pS (pI s (p + 1) y v) p 4 w) (pI (pI t 85 (40 * i + (zI t 84 i).toInt.toNat) c) 84 i w) := by
  have o := S.2.2.2.2.1 i p hi hp
  obtain ⟨o1, o2, o3, o4, o5⟩ := id o
  have eS : ∀ q k, ¬ (q = p ∧ k = 4) → zS (pS (pI s (p + 1) y v) p 4 w) q k = zS s q k := fun q k z => by rw [zS_pS, if_neg z, zS_pI]
  have eI : ∀ q j, ¬ (q = p + 1 ∧ j = y) → zI (pS (pI s (p + 1) y v) p 4 w) q j = zI s q j := fun q j z => by rw [zI_pS, zI_pI, if_neg z]
  have gI : ∀ q j, q ≠ 84 → q ≠ 85 → zI (pI (pI t 85 (40 * i + (zI t 84 i).toInt.toNat) c) 84 i w) q j = zI t q j := fun q j z1 z2 => by rw [zI_pI, if_neg (by omega), zI_pI, if_neg (by omega)]
  have hol : ∀ q, okH s q → sHp q s (pS (pI s (p + 1) y v) p 4 w) := fun q oq => by
    obtain ⟨q1, q2, q3, ⟨q4, _⟩, ⟨q5, _⟩, q6, _⟩ := oq
    have n0 : q ≠ p := fun z => by rw [z, o3] at q3; cases q3
    have n1 : q + 1 ≠ p := fun z => by rw [z, o3] at q4; cases q4
    have n2 : q + 2 ≠ p := fun z => by rw [z, o3] at q5; cases q5
    exact ⟨fun k => eS q k (fun z => n0 z.1), fun j => eI _ j (by omega), fun j => eI _ j (by omega), fun j => eI _ j (by omega)⟩
  have txt : ∀ q, okT s q → (∀ k, zS (pS (pI s (p + 1) y v) p 4 w) q k = zS s q k) ∧ ∀ j, zI (pS (pI s (p + 1) y v) p 4 w) (q + 1) j = zI s (q + 1) j := fun q oq => by
    obtain ⟨q1, q2, q3, q4⟩ := oq
    have n0 : q ≠ p := fun z => by rw [z, o3] at q3; cases q3
    exact ⟨fun k => eS q k (fun z => n0 z.1), fun j => eI _ j (by omega)⟩
  obtain ⟨Q1, Q2, Q3, Q5, Q6, Q7, Q8, Q9, Q10, ⟨c1, c2, c3⟩, Q12, Q13, Q14⟩ := Q
  refine ⟨Q1.g S hol (fun _ => rfl) (fun q j w1 w2 => gI q j (by omega) (by omega)), Q2.c (fun i => eI 7 i (by omega)) (fun i => eI 8 i (by omega)) (fun i => eI 10 i (by omega)) (fun i => eI 16 i (by omega)) (eS 15 3 (by omega)) (eS 6 4 (by omega)) (fun i => gI 74 i (by omega) (by omega)) (fun i => gI 75 i (by omega) (by omega)) (fun i => gI 77 i (by omega) (by omega)), Q3.c (fun k _ => eS 0 k (by omega)) (eS 15 4 (by omega)) (fun _ => rfl) (fun i => gI 67 i (by omega) (by omega)) (fun i => gI 69 i (by omega) (by omega)), Q5.c (eS 0 18 (by omega)) (eS 0 14 (by omega)) (fun i => gI 69 i (by omega) (by omega)), Q6.c (fun k => eS 30 k (by omega)) (eS 0 14 (by omega)) (fun q i w1 w2 => eI q i (by omega)) (fun _ _ => rfl) (fun q i w1 w2 => gI q i (by omega) (by omega)), Q7.c (fun k _ _ => eS 15 k (by omega)) (fun _ _ _ => rfl), Q8.c (fun i hi => eS _ _ (by omega)) (fun i => gI 80 i (by omega) (by omega)), Q9.c (fun k w1 w2 => eS 6 k (by omega)) (fun i => eI 13 i (by omega)) (fun _ _ => rfl) (fun i => gI 116 i (by omega) (by omega)) (fun i => gI 118 i (by omega) (by omega)), Q10.c (by rw [eS 15 3 (by omega)]; exact Int.le_refl _) (fun i _ h => h) b3 (fun i => gI 79 i (by omega) (by omega)), ⟨fun j hj hc => ?_, fun j hj hc => ?_, c3⟩, Q12.g S (eS 0 8 (by omega)) txt (fun _ => rfl) (fun _ => rfl) (fun q j w1 w2 => gI q j (by omega) (by omega)), Q13.c (fun q i w => gI q i (by omega) (by omega)) (fun _ => rfl), Q14.c (eS 0 14 (by omega)) (fun i => gI 68 i (by omega) (by omega))⟩
  · rw [eS 0 5 (by omega)] at hc
    obtain ⟨q, hq, x0, x1, x2, x4, xr, yr, xb⟩ := c1 j hj hc
    by_cases e : j = i
    · subst e
      have epq : q = p := Option.some.inj (hq.symm.trans hp)
      subst epq
      refine ⟨q, hp, by rw [eS _ _ (by omega), gI 81 _ (by omega) (by omega)]; exact x0, by rw [eS _ _ (by omega), gI 82 _ (by omega) (by omega)]; exact x1, by rw [eS _ _ (by omega), gI 83 _ (by omega) (by omega)]; exact x2, ?_, by rw [eS _ _ (by omega), eS _ _ (by omega)]; exact xr, by rw [eS _ _ (by omega)]; exact yr, fun a b ha hb1 hb2 => ?_⟩
      · rw [zS_pS, if_pos ⟨rfl, rfl⟩, zI_pI, if_pos ⟨rfl, rfl⟩]
      · have e84 : zI (pI (pI t 85 (40 * j + (zI t 84 j).toInt.toNat) c) 84 j w) 84 j = w := by rw [zI_pI, if_pos ⟨rfl, rfl⟩]
        have e85 : ∀ k, zI (pI (pI t 85 (40 * j + (zI t 84 j).toInt.toNat) c) 84 j w) 85 (40 * j + k) = if k = (zI t 84 j).toInt.toNat then c else zI t 85 (40 * j + k) := fun k => by
          rw [zI_pI, if_neg (by omega), zI_pI]
          by_cases z : k = (zI t 84 j).toInt.toNat
          · rw [if_pos ⟨rfl, by omega⟩, if_pos z]
          · rw [if_neg (by omega), if_neg z]
        rw [e84, hw]
        have B := xb a b ha hb1 hb2
        by_cases zy : b = y
        · subst zy
          rw [zI_pS, zI_pI, if_pos ⟨rfl, rfl⟩, hv a ha, B]
          constructor
          · rintro (⟨k, k1, k2⟩ | z)
            · exact ⟨k, by omega, by rw [e85, if_neg (by omega)]; exact k2⟩
            · exact ⟨(zI t 84 j).toInt.toNat, by omega, by rw [e85, if_pos rfl, hcv, z]⟩
          · rintro ⟨k, k1, k2⟩
            rw [e85] at k2
            by_cases z : k = (zI t 84 j).toInt.toNat
            · rw [if_pos z, hcv] at k2
              exact Or.inr (by omega)
            · rw [if_neg z] at k2
              exact Or.inl ⟨k, by omega, k2⟩
        · rw [eI _ _ (by omega), B]
          constructor
          · rintro ⟨k, k1, k2⟩
            exact ⟨k, by omega, by rw [e85, if_neg (by omega)]; exact k2⟩
          · rintro ⟨k, k1, k2⟩
            rw [e85] at k2
            by_cases z : k = (zI t 84 j).toInt.toNat
            · rw [if_pos z, hcv] at k2
              omega
            · rw [if_neg z] at k2
              exact ⟨k, by omega, k2⟩
    · have oq := S.2.2.2.2.1 j q hj hq
      have npq : q ≠ p := fun z => e (c3 j i q hj hi hq (by rw [z]; exact hp))
      have nq1 : q ≠ p + 1 := fun z => by have := oq.2.2.1; rw [z, o4] at this; cases this
      refine ⟨q, hq, by rw [eS _ _ (by omega), gI 81 _ (by omega) (by omega)]; exact x0, by rw [eS _ _ (by omega), gI 82 _ (by omega) (by omega)]; exact x1, by rw [eS _ _ (by omega), gI 83 _ (by omega) (by omega)]; exact x2, ?_, by rw [eS _ _ (by omega), eS _ _ (by omega)]; exact xr, by rw [eS _ _ (by omega)]; exact yr, fun a b ha hb1 hb2 => ?_⟩
      · rw [eS _ _ (by omega), zI_pI, if_neg (by omega), zI_pI, if_neg (by omega)]
        exact x4
      · have e84 : zI (pI (pI t 85 (40 * i + (zI t 84 i).toInt.toNat) c) 84 i w) 84 j = zI t 84 j := by rw [zI_pI, if_neg (by omega), zI_pI, if_neg (by omega)]
        rw [eI _ _ (by omega), xb a b ha hb1 hb2, e84]
        have k40 : ∀ k : Nat, (k : Int) < (zI t 84 j).toInt → (zI t 84 j).toInt ≤ 40 → zI (pI (pI t 85 (40 * i + (zI t 84 i).toInt.toNat) c) 84 i w) 85 (40 * j + k) = zI t 85 (40 * j + k) := fun k k1 k2 => by rw [zI_pI, if_neg (by omega), zI_pI, if_neg (by omega)]
        have b40 : (zI t 84 j).toInt ≤ 40 := h40 j
        constructor
        · rintro ⟨k, k1, k2⟩
          exact ⟨k, k1, by rw [k40 k k1 b40]; exact k2⟩
        · rintro ⟨k, k1, k2⟩
          exact ⟨k, k1, by rw [← k40 k k1 b40]; exact k2⟩
  · rw [eS 0 5 (by omega)] at hc
    rw [zI_pI, if_neg (by omega), zI_pI, if_neg (by omega)]
    exact c2 j hj hc
theorem L_old (J : Iv t) (B : B1 s t) (Q : Q4 s t) (a0 a1 : Int32) : Pc (f_X11_old s a0 a1) fun x => Pc (f_X12_old t a0 a1) fun m => x.1 = m.1 ∧ Q4 x.2 m.2 := by
  have b5 : zS s 0 5 = zS t 59 30 := B.1.1.2.2.1
  have r5 : 0 ≤ (zS s 0 5).toInt ∧ (zS s 0 5).toInt ≤ 8 := B.1.fx (q := 0) (k := 5) (by omega)
  have S := B.1.sh
  have j40 : (40 : Int32).toInt = 40 := rfl
  have h40 : ∀ j, 0 ≤ (zI t 84 j).toInt ∧ (zI t 84 j).toInt ≤ 40 := fun j => J.1.a (q := 84) rfl
  have e5 : (zS t 59 30 - 1).toInt = (zS s 0 5).toInt - 1 := by rw [← b5, i32_sub (by rw [jl1]; omega) (by rw [jl1]; omega), jl1]
  unfold f_X11_old f_X12_old f_X11_chartOf
  by_cases d : 0 ≤ a0.toInt ∧ a0.toInt < (zS s 0 5).toInt
  · obtain ⟨i, ei⟩ : ∃ i, i = a0.toInt.toNat := ⟨_, rfl⟩
    have hi : i < 8 := by omega
    obtain ⟨p, hp, x0, x1, x2, x4, xr, yr, xb⟩ := Q.2.2.2.2.2.2.2.2.2.1.1 i hi (by omega)
    have o := S.2.2.2.2.1 i p hi hp
    rw [in_t (a := a0) (by rw [jl0, e5]; omega), ← ei, hp]
    refine Pc_b1 (Pc_iff (by rw [jlt, jl0]; omega) (Pc_ift (by rw [jlt]; exact d.2) (Pc_gd (fun _ => Pc_onS (Pc_some (Pc_onS ?_))))))
    by_cases c : Vc a1
    · have cb := c.b
      obtain ⟨c1, c2, c3, c4⟩ := id c
      have exy : a1.toInt = 100 * (cC a1 : Int) + cY a1 := by unfold cC cY; omega
      have ed : (a1 / 100).toInt = cC a1 := by rw [d100 c1]; unfold cC; omega
      have em : (a1 % 100).toInt = cY a1 := by rw [m100 c1]; unfold cY; omega
      have emn : (a1 % 100).toInt.toNat = cY a1 := by omega
      obtain ⟨m, hm⟩ := bits_ex (a1 / 100) (a1 / 100)
      have mb : ∀ k, k < 32 → (m.toBitVec.getLsbD k = true ↔ k = cC a1) := fun k hk => by
        rw [bits_b (by omega) (by omega) hm k hk, ed]
        omega
      have m1 : ((40 : Int32) * a0).toInt = 40 * i := by rw [i32_mul (by rw [j40]; omega) (by rw [j40]; omega), j40]; omega
      have h4i := h40 i
      have m2 : ((40 : Int32) * a0 + zI t 84 i).toInt.toNat = 40 * i + (zI t 84 i).toInt.toNat := by
        rw [i32_add (by rw [m1]; omega) (by rw [m1]; omega), m1]
        omega
      have w1 : (zI t 84 i + 1).toInt = (zI t 84 i).toInt + 1 := by rw [i32_add (by rw [jl1]; omega) (by rw [jl1]; omega), jl1]
      have hi5 : (i : Int) < (zS s 0 5).toInt := by omega
      have ha0 : a0.toInt = i := by omega
      have f40 : ¬ (zI t 84 i).toInt < 40 → zI t 84 i = 40 := fun z => Int32.toInt_inj.1 (by rw [j40]; omega)
      have g40 : (zI t 84 i).toInt < 40 → ¬ zI t 84 i = 40 := fun z w => by rw [w, j40] at z; omega
      rw [plX_t c, cel_t c]
      have hpl : ¬ nI (60 * cC a1 + cY a1 - 1) < 0 := by rw [jlt, jl0, nI_t (by omega)]; omega
      refine Pc_b1S (Pc_iff hpl (Pc_b1 ?_))
      unfold f_X1_lists f_X1_listed
      rw [yard_t (by omega), hm, emn]
      -- the reference's head
      have hd : ∀ R : Int32 × SS → Prop, (inL t i a1.toInt → R (-1, t)) → (¬ inL t i a1.toInt → Pc (gd (inB a0 8) (if (zI t 84 (i)) = (40 : Int32) then some ((-3), t) else (gd (inB a0 8) (vl ((((40 : Int32) * a0) + (zI t 84 (i)))) fun v11 => (gd (inB v11 320) (st (pI t 85 (v11.toInt.toNat) a1) fun s13 => (gd (inB a0 8) (vl (((zI s13 84 (i)) + (1 : Int32))) fun v15 => (gd (inB a0 8) (st (pI s13 84 (i) v15) fun s17 => (gd (inB a0 8) (some ((zI s17 84 (i)), s17))))))))))))) R) → Pc (b1 (some (1 : Int32)) fun r1 => (if r1 = (0 : Int32) then some ((-1), t) else (b1 (some (1 : Int32)) fun r3 => (if r3 = (0 : Int32) then some ((-1), t) else (b1 (f_X12_isOldBy t a0 a1) fun r5 => (if r5 = (0 : Int32) then (gd (inB a0 8) (if (zI t 84 (i)) = (40 : Int32) then some ((-3), t) else (gd (inB a0 8) (vl ((((40 : Int32) * a0) + (zI t 84 (i)))) fun v11 => (gd (inB v11 320) (st (pI t 85 (v11.toInt.toNat) a1) fun s13 => (gd (inB a0 8) (vl (((zI s13 84 (i)) + (1 : Int32))) fun v15 => (gd (inB a0 8) (st (pI s13 84 (i) v15) fun s17 => (gd (inB a0 8) (some ((zI s17 84 (i)), s17))))))))))))) else some ((-1), t))))))) R := fun R k1 k2 => Pc_b1S (Pc_if10 (Pc_b1S (Pc_if10 (Pc_b1 (Pc.mono (oldM (i := i) ha0 hi (h40 i).2) (fun r hr => by
        rcases hr with ⟨e, z⟩ | ⟨e, z⟩
        · rw [e]; exact Pc_if10 (Pc_some (k1 z))
        · rw [e]; exact Pc_if00 (k2 z)))))))
      have B0 := and0_b (v := zI s (p + 1) (cY a1)) _ mb
      refine Pc_b1S (Pc_if10 (Pc_gd (fun _ => Pc_b1S (Pc_if (fun z => Pc_some (Pc_if00 ?_)) (fun z => Pc_some (Pc_if10 (Pc_some (hd _ (fun _ => ⟨rfl, Q⟩) (fun w => ?_)))))))))
      · -- it is not on the list
        have nl : ¬ inL t i a1.toInt := fun w => B0.mp z (cC a1) cb.1 rfl ((xb (cC a1) (cY a1) cb.1 cb.2.1 cb.2.2).mpr (by rw [← exy]; exact w))
        refine Pc_bd (Pc_lt (fun c40 => ?_) (fun c40 => Pc_some (Pc_some (hd _ (fun w => absurd w nl) (fun _ => ?_)))))
        · rw [j40] at c40
          refine Pc_b1S (Pc_if10 (Pc_gd (fun _ => Pc_b1S (Pc_vl (Pc_gd (fun _ => Pc_st (Pc_vl (Pc_st (Pc_some (Pc_some (hd _ (fun w => absurd w nl) (fun _ => ?_))))))))))))
          have e4 : zS (pI s (p + 1) (cY a1) (zI s (p + 1) (cY a1) ||| m)) p 4 = zI t 84 i := x4
          have e84 : zI (pI t 85 (40 * i + (zI t 84 i).toInt.toNat) a1) 84 i = zI t 84 i := by rw [zI_pI, if_neg (by omega)]
          rw [x4] at c40
          refine Pc_gd (fun _ => Pc_iff (g40 c40) (Pc_gd (fun _ => Pc_vl (Pc_gd (fun _ => Pc_st (Pc_gd (fun _ => Pc_vl (Pc_gd (fun _ => Pc_st (Pc_gd (fun _ => Pc_some ?_)))))))))))
          rw [m2, e84, e4]
          refine ⟨?_, Q.ol S B.1.tot.2.2 hi hi5 hp cb.1 ⟨cb.2.1, cb.2.2⟩ exy ⟨h4i.1, c40⟩ (fun j => (h40 j).2) w1 (fun k hk => ?_)⟩
          · show zS (pS (pI s (p + 1) (cY a1) (zI s (p + 1) (cY a1) ||| m)) p 4 (zI t 84 i + 1)) p 4 = zI (pI (pI t 85 (40 * i + (zI t 84 i).toInt.toNat) a1) 84 i (zI t 84 i + 1)) 84 i
            rw [zS_pS, if_pos ⟨rfl, rfl⟩, zI_pI, if_pos ⟨rfl, rfl⟩]
          · rw [Int32.toBitVec_or, BitVec.getLsbD_or, Bool.or_eq_true, mb k hk]
        · rw [j40, x4] at c40
          exact Pc_gd (fun _ => Pc_ift (f40 (Int.not_lt.mpr c40)) (Pc_some ⟨rfl, Q⟩))
      · exfalso
        refine z (B0.mpr (fun k hk e hb => w ?_))
        rw [e] at hb
        have := (xb (cC a1) (cY a1) cb.1 cb.2.1 cb.2.2).mp hb
        rw [← exy] at this
        exact this
    · rw [plX_f c, cel_f c]
      exact Pc_b1S (Pc_ift (by decide) (Pc_some (Pc_b1S (Pc_if10 (Pc_b1S (Pc_if00 (Pc_some ⟨rfl, Q⟩)))))))
  · rw [in_f (a := a0) (by rw [jl0, e5]; omega)]
    have M : ∀ K : Option (Int32 × SS), Pc (b1 (some (0 : Int32)) fun r1 => (if r1 = (0 : Int32) then some ((-1), t) else K)) (fun m => (-1 : Int32) = m.1 ∧ Q4 s m.2) := fun K => Pc_b1S (Pc_if00 (Pc_some ⟨rfl, Q⟩))
    refine Pc_b1 (Pc_lt (fun _ => Pc_some (Pc_onN (Pc_some (M _)))) (fun z => Pc_lt (fun w => ?_) (fun _ => Pc_some (Pc_onN (Pc_some (M _))))))
    rw [jl0] at z
    exact absurd ⟨z, w⟩ d
end OLs
