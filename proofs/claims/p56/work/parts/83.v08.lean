/-! OLD WORKINGS BY A MAP -/
theorem shlB : ∀ i : Fin 32, (((-1 : Int32) <<< (nI i.val &&& 31)).toBitVec) = BitVec.allOnes 32 <<< i.val := by decide +kernel
theorem shrB : ∀ i : Fin 32, ((((((-1) : Int32).toUInt32 >>> (((31 : Int32) - nI i.val).toUInt32 &&& Int32.toUInt32 31)).toInt32)).toBitVec) = BitVec.allOnes 32 >>> (31 - i.val) := by decide +kernel
theorem bits_b {a b m : Int32} (ha : 0 ≤ a.toInt ∧ a.toInt < 32) (hb : 0 ≤ b.toInt ∧ b.toInt < 32) (h : f_X1_bits a b = some m) (x : Nat) (hx : x < 32) : m.toBitVec.getLsbD x = true ↔ a.toInt ≤ x ∧ (x : Int) ≤ b.toInt := by
  unfold f_X1_bits at h
  have e := Option.some.inj h
  obtain ⟨i, ei⟩ : ∃ i, i = a.toInt.toNat := ⟨_, rfl⟩
  obtain ⟨j, ej⟩ : ∃ j, j = b.toInt.toNat := ⟨_, rfl⟩
  have ea : a = nI i := by rw [ei]; exact toN_ ha.1
  have eb : b = nI j := by rw [ej]; exact toN_ hb.1
  rw [ea, eb] at e
  have e1 := shlB ⟨i, by omega⟩
  have e2 := shrB ⟨j, by omega⟩
  dsimp only at e1 e2
  rw [← e, Int32.toBitVec_and, BitVec.getLsbD_and, e1, e2, BitVec.getLsbD_shiftLeft, BitVec.getLsbD_ushiftRight, BitVec.getLsbD_allOnes, BitVec.getLsbD_allOnes]
  simp only [Bool.and_eq_true, Bool.not_eq_true', decide_eq_true_eq, decide_eq_false_iff_not]
  omega
theorem bits_ex (a b : Int32) : ∃ m, f_X1_bits a b = some m := ⟨_, rfl⟩
theorem and0_b {v m : Int32} (P : Nat → Prop) (h : ∀ k, k < 32 → (m.toBitVec.getLsbD k = true ↔ P k)) : (v &&& m) = 0 ↔ ∀ k, k < 32 → P k → ¬ v.toBitVec.getLsbD k = true := by
  constructor
  · intro e k hk hp hv
    have : (v &&& m).toBitVec.getLsbD k = true := by
      rw [Int32.toBitVec_and, BitVec.getLsbD_and, hv, (h k hk).mpr hp]
      rfl
    rw [e] at this
    have z : (0 : Int32).toBitVec = 0#32 := rfl
    rw [z, BitVec.getLsbD_zero] at this
    cases this
  · intro hv
    refine Int32.toBitVec_inj.1 (BitVec.eq_of_getLsbD_eq (fun k hk => ?_))
    have z : (0 : Int32).toBitVec = 0#32 := rfl
    rw [Int32.toBitVec_and, BitVec.getLsbD_and, z, BitVec.getLsbD_zero]
    cases e1 : v.toBitVec.getLsbD k with
    | false => rfl
    | true =>
      cases e2 : m.toBitVec.getLsbD k with
      | false => rfl
      | true => exact absurd e1 (hv k hk ((h k hk).mp e2))
section OLs
variable {s t s' t' : SS} {p i : Nat}
/-- the reference's list -/
def inL (t : SS) (i : Nat) (v : Int) : Prop := ∃ k : Nat, (k : Int) < (zI t 84 i).toInt ∧ (zI t 85 (40 * i + k)).toInt = v
theorem old_l {y1 y2 : Int32} (hy : y1.toInt = i) (hi : i < 8) (h84 : (zI t 84 i).toInt ≤ 40) : ∀ (n : Nat) (x : Int32), 0 ≤ x.toInt → (∀ k : Nat, (k : Int) < x.toInt → (k : Int) < (zI t 84 i).toInt → (zI t 85 (40 * i + k)).toInt ≠ y2.toInt) → Pc (f_X12_isOldBy_L2 t y1 y2 n x) (fun r => (r = 1 ∧ inL t i y2.toInt) ∨ (r = 0 ∧ ¬ inL t i y2.toInt))
  | 0, _, _, _ => Pc_none
  | n + 1, x, h0, h => by
    show Pc (f_X12_isOldBy_L2_b t y1 y2 (f_X12_isOldBy_L2 t y1 y2 n) x) _
    unfold f_X12_isOldBy_L2_b
    have ey : y1.toInt.toNat = i := by omega
    have j40 : (40 : Int32).toInt = 40 := rfl
    rw [ey]
    refine Pc_gd (fun _ => Pc_lt (fun c => Pc_vl (Pc_gd (fun _ => ?_))) (fun c => Pc_some (Or.inr ⟨rfl, fun ⟨k, k1, k2⟩ => h k (by omega) k1 k2⟩)))
    have m1 : ((40 : Int32) * y1).toInt = 40 * i := by rw [i32_mul (by rw [j40]; omega) (by rw [j40]; omega), j40, hy]
    have m2 : ((40 : Int32) * y1 + x).toInt.toNat = 40 * i + x.toInt.toNat := by
      rw [i32_add (by rw [m1]; omega) (by rw [m1]; omega), m1]
      omega
    have n1 : (x + 1).toInt = x.toInt + 1 := by rw [i32_add (by rw [jl1]; omega) (by rw [jl1]; omega), jl1]
    rw [m2]
    refine Pc_if (fun z => Pc_some (Or.inl ⟨rfl, x.toInt.toNat, by omega, by rw [z]⟩)) (fun z => Pc_vl (old_l hy hi h84 n (x + 1) (by omega) (fun k k1 k2 => ?_)))
    by_cases e : k = x.toInt.toNat
    · rw [e]
      exact fun w => z (Int32.toInt_inj.1 w)
    · exact h k (by omega) k2
theorem oldM {y1 y2 : Int32} (hy : y1.toInt = i) (hi : i < 8) (h84 : (zI t 84 i).toInt ≤ 40) : Pc (f_X12_isOldBy t y1 y2) (fun r => (r = 1 ∧ inL t i y2.toInt) ∨ (r = 0 ∧ ¬ inL t i y2.toInt)) := by
  unfold f_X12_isOldBy
  exact old_l hy hi h84 4000 0 (by decide) (fun k w => by rw [jl0] at w; omega)
theorem QHol.g (R : QHol s t) (S : Sh s) (h : ∀ p, okH s p → sHp p s s') (hR : ∀ i, zR s' 17 i = zR s 17 i) (m : ∀ q j, 63 ≤ q → q ≤ 73 ∨ q = 104 → zI t' q j = zI t q j) : QHol s' t' := by
  obtain ⟨r1, r2, r3, r4⟩ := R
  have g : ∀ i, sRw i t t' := fun i => ⟨fun q a b => m q i a (by omega), fun q y a b _ _ => m q _ (by omega) (by omega)⟩
  exact ⟨fun i p hi e => (r1 i p hi ((hR i).symm.trans e)).h (h p (S.2.2.1 i p hi ((hR i).symm.trans e))) (g i), fun i hi e => (r2 i hi ((hR i).symm.trans e)).w (g i), fun i j p hi hj e f => r3 i j p hi hj ((hR i).symm.trans e) ((hR j).symm.trans f), fun i hi => by rw [m 69 i (by omega) (by omega)]; exact r4 i hi⟩
theorem QTxt.g (R : QTxt s t) (S : Sh s) (h8 : zS s' 0 8 = zS s 0 8) (h : ∀ p, okT s p → (∀ k, zS s' p k = zS s p k) ∧ ∀ j, zI s' (p + 1) j = zI s (p + 1) j) (h3 : ∀ i, zR s' 27 i = zR s 27 i) (hN : ∀ q, zN s' q = zN s q) (m : ∀ q j, 87 ≤ q → q ≤ 94 → zI t' q j = zI t q j) : QTxt s' t' := fun i hi hc => by
  obtain ⟨p, e, r⟩ := R i hi (by rw [← h8]; exact hc)
  have o := S.2.2.2.2.2.1 i p hi e
  exact ⟨p, (h3 i).trans e, r.c (h p o).1 (h p o).2 (hN _) m⟩
/-- a cell more in a map -/
theorem Q4.ol {y : Nat} {x : Nat} {v w c : Int32} (Q : Q4 s t) (S : Sh s) (b3 : (zS s 15 3).toInt ≤ 120) (hi : i < 8) (h5 : (i : Int) < (zS s 0 5).toInt) (hp : zR s 23 i = some p) (hx : x < 32) (hy : 1 ≤ y ∧ y ≤ 60) (hcv : c.toInt = 100 * (x : Int) + y) (h84 : 0 ≤ (zI t 84 i).toInt ∧ (zI t 84 i).toInt < 40) (h40 : ∀ j, (zI t 84 j).toInt ≤ 40) (hw : w.toInt = (zI t 84 i).toInt + 1) (hv : ∀ k, k < 32 → (v.toBitVec.getLsbD k = true ↔ (zI s (p + 1) y).toBitVec.getLsbD k = true ∨ k = x)) : Q4 (pS (pI s (p + 1) y v) p 4 w) (pI (pI t 85 (40 * i + (zI t 84 i).toInt.toNat) c) 84 i w) := by
  have o := S.2.2.2.2.1 i p hi hp
  obtain ⟨o1, o2, o3, o4, o5⟩ := id o
  have eS : ∀ q k, ¬ (q = p ∧ k = 4) → zS (pS (pI s (p + 1) y v) p 4 w) q k = zS s q k := fun q k z => by rw [zS_pS, if_neg z, zS_pI]
  have eI : ∀ q j, ¬ (q = p + 1 ∧ j = y) → zI (pS (pI s (p + 1) y v) p 4 w) q j = zI s q j := fun q j z => by rw [zI_pS, zI_pI, if_neg z]
  have gI : ∀ q j, q ≠ 84 → q ≠ 85 → zI (pI (pI t 85 (40 * i + (zI t 84 i).toInt.toNat) c) 84 i w) q j = zI t q j := fun q j z1 z2 => by rw [zI_pI, if_neg (by omega), zI_pI, if_neg (by omega)]
  have hol : ∀ q, okH s q → sHp q s (pS (pI s (p + 1) y v) p 4 w) := fun q oq => by
    obtain ⟨q1, q2, q3, ⟨q4, _⟩, ⟨q5, _⟩, q6, _⟩ := oq
    have n0 : q ≠ p := fun z => by rw [z, o3] at q3; cases q3
    have n1 : q + 1 ≠ p := fun z => by rw [z, o3] at q4; cases q4
    have n2 : q + 2 ≠ p := fun z => by rw [z, o3] at q5; cases q5
    exact ⟨fun k => eS q k (fun z => n0 z.1), fun j => eI _ j (by omega), fun j => eI _ j (by omega), fun j => eI _ j (by omega)⟩
  have txt : ∀ q, okT s q → (∀ k, zS (pS (pI s (p + 1) y v) p 4 w) q k = zS s q k) ∧ ∀ j, zI (pS (pI s (p + 1) y v) p 4 w) (q + 1) j = zI s (q + 1) j := fun q oq => by
    obtain ⟨q1, q2, q3, q4⟩ := oq
    have n0 : q ≠ p := fun z => by rw [z, o3] at q3; cases q3
    exact ⟨fun k => eS q k (fun z => n0 z.1), fun j => eI _ j (by omega)⟩
  obtain ⟨Q1, Q2, Q3, Q5, Q6, Q7, Q8, Q9, Q10, ⟨c1, c2, c3⟩, Q12, Q13, Q14⟩ := Q
  refine ⟨Q1.g S hol (fun _ => rfl) (fun q j w1 w2 => gI q j (by omega) (by omega)), Q2.c (fun i => eI 7 i (by omega)) (fun i => eI 8 i (by omega)) (fun i => eI 10 i (by omega)) (fun i => eI 16 i (by omega)) (eS 15 3 (by omega)) (eS 6 4 (by omega)) (fun i => gI 74 i (by omega) (by omega)) (fun i => gI 75 i (by omega) (by omega)) (fun i => gI 77 i (by omega) (by omega)), Q3.c (fun k _ => eS 0 k (by omega)) (eS 15 4 (by omega)) (fun _ => rfl) (fun i => gI 67 i (by omega) (by omega)) (fun i => gI 69 i (by omega) (by omega)), Q5.c (eS 0 18 (by omega)) (eS 0 14 (by omega)) (fun i => gI 69 i (by omega) (by omega)), Q6.c (fun k => eS 30 k (by omega)) (eS 0 14 (by omega)) (fun q i w1 w2 => eI q i (by omega)) (fun _ _ => rfl) (fun q i w1 w2 => gI q i (by omega) (by omega)), Q7.c (fun k _ _ => eS 15 k (by omega)) (fun _ _ _ => rfl), Q8.c (fun i hi => eS _ _ (by omega)) (fun i => gI 80 i (by omega) (by omega)), Q9.c (fun k w1 w2 => eS 6 k (by omega)) (fun i => eI 13 i (by omega)) (fun _ _ => rfl) (fun i => gI 116 i (by omega) (by omega)) (fun i => gI 118 i (by omega) (by omega)), Q10.c (by rw [eS 15 3 (by omega)]; exact Int.le_refl _) (fun i _ h => h) b3 (fun i => gI 79 i (by omega) (by omega)), ⟨fun j hj hc => ?_, fun j hj hc => ?_, c3⟩, Q12.g S (eS 0 8 (by omega)) txt (fun _ => rfl) (fun _ => rfl) (fun q j w1 w2 => gI q j (by omega) (by omega)), Q13.c (fun q i w => gI q i (by omega) (by omega)) (fun _ => rfl), Q14.c (eS 0 14 (by omega)) (fun i => gI 68 i (by omega) (by omega))⟩
  · rw [eS 0 5 (by omega)] at hc
    obtain ⟨q, hq, x0, x1, x2, x4, xr, yr, xb⟩ := c1 j hj hc
    by_cases e : j = i
    · subst e
      have epq : q = p := Option.some.inj (hq.symm.trans hp)
      subst epq
      refine ⟨q, hp, by rw [eS _ _ (by omega), gI 81 _ (by omega) (by omega)]; exact x0, by rw [eS _ _ (by omega), gI 82 _ (by omega) (by omega)]; exact x1, by rw [eS _ _ (by omega), gI 83 _ (by omega) (by omega)]; exact x2, ?_, by rw [eS _ _ (by omega), eS _ _ (by omega)]; exact xr, by rw [eS _ _ (by omega)]; exact yr, fun a b ha hb1 hb2 => ?_⟩
      · rw [zS_pS, if_pos ⟨rfl, rfl⟩, zI_pI, if_pos ⟨rfl, rfl⟩]
      · have e84 : zI (pI (pI t 85 (40 * j + (zI t 84 j).toInt.toNat) c) 84 j w) 84 j = w := by rw [zI_pI, if_pos ⟨rfl, rfl⟩]
        have e85 : ∀ k, zI (pI (pI t 85 (40 * j + (zI t 84 j).toInt.toNat) c) 84 j w) 85 (40 * j + k) = if k = (zI t 84 j).toInt.toNat then c else zI t 85 (40 * j + k) := fun k => by
          rw [zI_pI, if_neg (by omega), zI_pI]
          by_cases z : k = (zI t 84 j).toInt.toNat
          · rw [if_pos ⟨rfl, by omega⟩, if_pos z]
          · rw [if_neg (by omega), if_neg z]
        rw [e84, hw]
        have B := xb a b ha hb1 hb2
        by_cases zy : b = y
        · subst zy
          rw [zI_pS, zI_pI, if_pos ⟨rfl, rfl⟩, hv a ha, B]
          constructor
          · rintro (⟨k, k1, k2⟩ | z)
            · exact ⟨k, by omega, by rw [e85, if_neg (by omega)]; exact k2⟩
            · exact ⟨(zI t 84 j).toInt.toNat, by omega, by rw [e85, if_pos rfl, hcv, z]⟩
          · rintro ⟨k, k1, k2⟩
            rw [e85] at k2
            by_cases z : k = (zI t 84 j).toInt.toNat
            · rw [if_pos z, hcv] at k2
              exact Or.inr (by omega)
            · rw [if_neg z] at k2
              exact Or.inl ⟨k, by omega, k2⟩
        · rw [eI _ _ (by omega), B]
          constructor
          · rintro ⟨k, k1, k2⟩
            exact ⟨k, by omega, by rw [e85, if_neg (by omega)]; exact k2⟩
          · rintro ⟨k, k1, k2⟩
            rw [e85] at k2
            by_cases z : k = (zI t 84 j).toInt.toNat
            · rw [if_pos z, hcv] at k2
              omega
            · rw [if_neg z] at k2
              exact ⟨k, by omega, k2⟩
    · have oq := S.2.2.2.2.1 j q hj hq
      have npq : q ≠ p := fun z => e (c3 j i q hj hi hq (by rw [z]; exact hp))
      have nq1 : q ≠ p + 1 := fun z => by have := oq.2.2.1; rw [z, o4] at this; cases this
      refine ⟨q, hq, by rw [eS _ _ (by omega), gI 81 _ (by omega) (by omega)]; exact x0, by rw [eS _ _ (by omega), gI 82 _ (by omega) (by omega)]; exact x1, by rw [eS _ _ (by omega), gI 83 _ (by omega) (by omega)]; exact x2, ?_, by rw [eS _ _ (by omega), eS _ _ (by omega)]; exact xr, by rw [eS _ _ (by omega)]; exact yr, fun a b ha hb1 hb2 => ?_⟩
      · rw [eS _ _ (by omega), zI_pI, if_neg (by omega), zI_pI, if_neg (by omega)]
        exact x4
      · have e84 : zI (pI (pI t 85 (40 * i + (zI t 84 i).toInt.toNat) c) 84 i w) 84 j = zI t 84 j := by rw [zI_pI, if_neg (by omega), zI_pI, if_neg (by omega)]
        rw [eI _ _ (by omega), xb a b ha hb1 hb2, e84]
        have k40 : ∀ k : Nat, (k : Int) < (zI t 84 j).toInt → (zI t 84 j).toInt ≤ 40 → zI (pI (pI t 85 (40 * i + (zI t 84 i).toInt.toNat) c) 84 i w) 85 (40 * j + k) = zI t 85 (40 * j + k) := fun k k1 k2 => by rw [zI_pI, if_neg (by omega), zI_pI, if_neg (by omega)]
        have b40 : (zI t 84 j).toInt ≤ 40 := h40 j
        constructor
        · rintro ⟨k, k1, k2⟩
          exact ⟨k, k1, by rw [k40 k k1 b40]; exact k2⟩
        · rintro ⟨k, k1, k2⟩
          exact ⟨k, k1, by rw [← k40 k k1 b40]; exact k2⟩
  · rw [eS 0 5 (by omega)] at hc
    rw [zI_pI, if_neg (by omega), zI_pI, if_neg (by omega)]
    exact c2 j hj hc
theorem L_old (J : Iv t) (B : B1 s t) (Q : Q4 s t) (a0 a1 : Int32) : Pc (f_X11_old s a0 a1) fun x => Pc (f_X12_old t a0 a1) fun m => x.1 = m.1 ∧ Q4 x.2 m.2 := by
  have b5 : zS s 0 5 = zS t 59 30 := B.1.1.2.2.1
  have r5 : 0 ≤ (zS s 0 5).toInt ∧ (zS s 0 5).toInt ≤ 8 := B.1.fx (q := 0) (k := 5) (by omega)
  have S := B.1.sh
  have j40 : (40 : Int32).toInt = 40 := rfl
  have h40 : ∀ j, 0 ≤ (zI t 84 j).toInt ∧ (zI t 84 j).toInt ≤ 40 := fun j => J.1.a (q := 84) rfl
  have e5 : (zS t 59 30 - 1).toInt = (zS s 0 5).toInt - 1 := by rw [← b5, i32_sub (by rw [jl1]; omega) (by rw [jl1]; omega), jl1]
  unfold f_X11_old f_X12_old f_X11_chartOf
  by_cases d : 0 ≤ a0.toInt ∧ a0.toInt < (zS s 0 5).toInt
  · obtain ⟨i, ei⟩ : ∃ i, i = a0.toInt.toNat := ⟨_, rfl⟩
    have hi : i < 8 := by omega
    obtain ⟨p, hp, x0, x1, x2, x4, xr, yr, xb⟩ := Q.2.2.2.2.2.2.2.2.2.1.1 i hi (by omega)
    have o := S.2.2.2.2.1 i p hi hp
    rw [in_t (a := a0) (by rw [jl0, e5]; omega), ← ei, hp]
    refine Pc_b1 (Pc_iff (by rw [jlt, jl0]; omega) (Pc_ift (by rw [jlt]; exact d.2) (Pc_gd (fun _ => Pc_onS (Pc_some (Pc_onS ?_))))))
    by_cases c : Vc a1
    · have cb := c.b
      obtain ⟨c1, c2, c3, c4⟩ := id c
      have exy : a1.toInt = 100 * (cC a1 : Int) + cY a1 := by unfold cC cY; omega
      have ed : (a1 / 100).toInt = cC a1 := by rw [d100 c1]; unfold cC; omega
      have em : (a1 % 100).toInt = cY a1 := by rw [m100 c1]; unfold cY; omega
      have emn : (a1 % 100).toInt.toNat = cY a1 := by omega
      obtain ⟨m, hm⟩ := bits_ex (a1 / 100) (a1 / 100)
      have mb : ∀ k, k < 32 → (m.toBitVec.getLsbD k = true ↔ k = cC a1) := fun k hk => by
        rw [bits_b (by omega) (by omega) hm k hk, ed]
        omega
      have m1 : ((40 : Int32) * a0).toInt = 40 * i := by rw [i32_mul (by rw [j40]; omega) (by rw [j40]; omega), j40]; omega
      have h4i := h40 i
      have m2 : ((40 : Int32) * a0 + zI t 84 i).toInt.toNat = 40 * i + (zI t 84 i).toInt.toNat := by
        rw [i32_add (by rw [m1]; omega) (by rw [m1]; omega), m1]
        omega
      have w1 : (zI t 84 i + 1).toInt = (zI t 84 i).toInt + 1 := by rw [i32_add (by rw [jl1]; omega) (by rw [jl1]; omega), jl1]
      have hi5 : (i : Int) < (zS s 0 5).toInt := by omega
      have ha0 : a0.toInt = i := by omega
      have f40 : ¬ (zI t 84 i).toInt < 40 → zI t 84 i = 40 := fun z => Int32.toInt_inj.1 (by rw [j40]; omega)
      have g40 : (zI t 84 i).toInt < 40 → ¬ zI t 84 i = 40 := fun z w => by rw [w, j40] at z; omega
      rw [plX_t c, cel_t c]
      have hpl : ¬ nI (60 * cC a1 + cY a1 - 1) < 0 := by rw [jlt, jl0, nI_t (by omega)]; omega
      refine Pc_b1S (Pc_iff hpl (Pc_b1 ?_))
      unfold f_X1_lists f_X1_listed
      rw [yard_t (by omega), hm, emn]
      -- the reference's head
      have hd : ∀ R : Int32 × SS → Prop, (inL t i a1.toInt → R (-1, t)) → (¬ inL t i a1.toInt → Pc (gd (inB a0 8) (if (zI t 84 (i)) = (40 : Int32) then some ((-3), t) else (gd (inB a0 8) (vl ((((40 : Int32) * a0) + (zI t 84 (i)))) fun v11 => (gd (inB v11 320) (st (pI t 85 (v11.toInt.toNat) a1) fun s13 => (gd (inB a0 8) (vl (((zI s13 84 (i)) + (1 : Int32))) fun v15 => (gd (inB a0 8) (st (pI s13 84 (i) v15) fun s17 => (gd (inB a0 8) (some ((zI s17 84 (i)), s17))))))))))))) R) → Pc (b1 (some (1 : Int32)) fun r1 => (if r1 = (0 : Int32) then some ((-1), t) else (b1 (some (1 : Int32)) fun r3 => (if r3 = (0 : Int32) then some ((-1), t) else (b1 (f_X12_isOldBy t a0 a1) fun r5 => (if r5 = (0 : Int32) then (gd (inB a0 8) (if (zI t 84 (i)) = (40 : Int32) then some ((-3), t) else (gd (inB a0 8) (vl ((((40 : Int32) * a0) + (zI t 84 (i)))) fun v11 => (gd (inB v11 320) (st (pI t 85 (v11.toInt.toNat) a1) fun s13 => (gd (inB a0 8) (vl (((zI s13 84 (i)) + (1 : Int32))) fun v15 => (gd (inB a0 8) (st (pI s13 84 (i) v15) fun s17 => (gd (inB a0 8) (some ((zI s17 84 (i)), s17))))))))))))) else some ((-1), t))))))) R := fun R k1 k2 => Pc_b1S (Pc_if10 (Pc_b1S (Pc_if10 (Pc_b1 (Pc.mono (oldM (i := i) ha0 hi (h40 i).2) (fun r hr => by
        rcases hr with ⟨e, z⟩ | ⟨e, z⟩
        · rw [e]; exact Pc_if10 (Pc_some (k1 z))
        · rw [e]; exact Pc_if00 (k2 z)))))))
      have B0 := and0_b (v := zI s (p + 1) (cY a1)) _ mb
      refine Pc_b1S (Pc_if10 (Pc_gd (fun _ => Pc_b1S (Pc_if (fun z => Pc_some (Pc_if00 ?_)) (fun z => Pc_some (Pc_if10 (Pc_some (hd _ (fun _ => ⟨rfl, Q⟩) (fun w => ?_)))))))))
      · -- it is not on the list
        have nl : ¬ inL t i a1.toInt := fun w => B0.mp z (cC a1) cb.1 rfl ((xb (cC a1) (cY a1) cb.1 cb.2.1 cb.2.2).mpr (by rw [← exy]; exact w))
        refine Pc_bd (Pc_lt (fun c40 => ?_) (fun c40 => Pc_some (Pc_some (hd _ (fun w => absurd w nl) (fun _ => ?_)))))
        · rw [j40] at c40
          refine Pc_b1S (Pc_if10 (Pc_gd (fun _ => Pc_b1S (Pc_vl (Pc_gd (fun _ => Pc_st (Pc_vl (Pc_st (Pc_some (Pc_some (hd _ (fun w => absurd w nl) (fun _ => ?_))))))))))))
          have e4 : zS (pI s (p + 1) (cY a1) (zI s (p + 1) (cY a1) ||| m)) p 4 = zI t 84 i := x4
          have e84 : zI (pI t 85 (40 * i + (zI t 84 i).toInt.toNat) a1) 84 i = zI t 84 i := by rw [zI_pI, if_neg (by omega)]
          rw [x4] at c40
          refine Pc_gd (fun _ => Pc_iff (g40 c40) (Pc_gd (fun _ => Pc_vl (Pc_gd (fun _ => Pc_st (Pc_gd (fun _ => Pc_vl (Pc_gd (fun _ => Pc_st (Pc_gd (fun _ => Pc_some ?_)))))))))))
          rw [m2, e84, e4]
          refine ⟨?_, Q.ol S B.1.tot.2.2 hi hi5 hp cb.1 ⟨cb.2.1, cb.2.2⟩ exy ⟨h4i.1, c40⟩ (fun j => (h40 j).2) w1 (fun k hk => ?_)⟩
          · show zS (pS (pI s (p + 1) (cY a1) (zI s (p + 1) (cY a1) ||| m)) p 4 (zI t 84 i + 1)) p 4 = zI (pI (pI t 85 (40 * i + (zI t 84 i).toInt.toNat) a1) 84 i (zI t 84 i + 1)) 84 i
            rw [zS_pS, if_pos ⟨rfl, rfl⟩, zI_pI, if_pos ⟨rfl, rfl⟩]
          · rw [Int32.toBitVec_or, BitVec.getLsbD_or, Bool.or_eq_true, mb k hk]
        · rw [j40, x4] at c40
          exact Pc_gd (fun _ => Pc_ift (f40 (Int.not_lt.mpr c40)) (Pc_some ⟨rfl, Q⟩))
      · exfalso
        refine z (B0.mpr (fun k hk e hb => w ?_))
        rw [e] at hb
        have := (xb (cC a1) (cY a1) cb.1 cb.2.1 cb.2.2).mp hb
        rw [← exy] at this
        exact this
    · rw [plX_f c, cel_f c]
      exact Pc_b1S (Pc_ift (by decide) (Pc_some (Pc_b1S (Pc_if10 (Pc_b1S (Pc_if00 (Pc_some ⟨rfl, Q⟩)))))))
  · rw [in_f (a := a0) (by rw [jl0, e5]; omega)]
    have M : ∀ K : Option (Int32 × SS), Pc (b1 (some (0 : Int32)) fun r1 => (if r1 = (0 : Int32) then some ((-1), t) else K)) (fun m => (-1 : Int32) = m.1 ∧ Q4 s m.2) := fun K => Pc_b1S (Pc_if00 (Pc_some ⟨rfl, Q⟩))
    refine Pc_b1 (Pc_lt (fun _ => Pc_some (Pc_onN (Pc_some (M _)))) (fun z => Pc_lt (fun w => ?_) (fun _ => Pc_some (Pc_onN (Pc_some (M _))))))
    rw [jl0] at z
    exact absurd ⟨z, w⟩ d
end OLs
/-! WHAT THE REFERENCE'S READER WRITES: behind the stored texts alone -/
section KRs
variable {P : SS → Prop}
/-- kept by the marks, and by what is laid -/
def rdK (P : SS → Prop) : Prop := (∀ s k v, k = 47 ∨ k = 48 ∨ k = 49 → P s → P (pS s 59 k v)) ∧ ∀ s a b, P s → Pc (f_X12_lay s a b) P
theorem K_fault (H : rdK P) {s : SS} (h : P s) : Pc (f_X12_faultHere s) P := by
  unfold f_X12_faultHere
  exact Pc_if (fun _ => Pc_vl (Pc_st (Pc_some (H.1 _ _ _ (by omega) h)))) (fun _ => Pc_some h)
theorem K_opens (H : rdK P) {s : SS} (h : P s) : Pc (f_X12_opens s) (fun x => P x.2) := by
  unfold f_X12_opens
  exact Pc_if (fun _ => Pc_b1 (Pc.mono (K_fault H h) (fun _ h1 => Pc_some h1))) (fun _ => Pc_vl (Pc_st (Pc_vl (Pc_st (Pc_some (H.1 _ _ _ (by omega) (H.1 _ _ _ (by omega) h)))))))
section RCs
variable {rec : SS → Option SS}
theorem K_prodL (H : rdK P) (hr : ∀ s, P s → Pc (rec s) P) : ∀ (n : Nat) (s : SS), P s → Pc (f_X12_product_L4 rec n s) P
  | 0, _, _ => Pc_none
  | n + 1, s, h => by
    show Pc (f_X12_product_L4_b rec (f_X12_product_L4 rec n) s) P
    unfold f_X12_product_L4_b
    refine Pc_if (fun _ => Pc_b1x (fun _ => Pc_jn0 ?_ (fun k hk => Pc_if (fun _ => hk) (fun _ => Pc_b1x (fun _ => Pc_if (fun _ => hk) (fun _ => Pc_b1x (fun _ => Pc_if (fun _ => hk) (fun _ => Pc_some h)))))))) (fun _ => Pc_some h)
    exact Pc_b1x (fun _ => Pc_vl (Pc_st (Pc_b1 (Pc.mono (hr _ (H.1 _ _ _ (by omega) h)) (fun u hu => Pc_b1 (Pc.mono (H.2 _ _ _ hu) (fun w hw => K_prodL H hr n w hw)))))))
theorem K_prod (H : rdK P) (hr : ∀ s, P s → Pc (rec s) P) {s : SS} (h : P s) : Pc (f_X12_product rec s) P := by
  unfold f_X12_product
  exact Pc_b1 (Pc.mono (hr s h) (fun u hu => K_prodL H hr 4000 u hu))
theorem K_sumL (H : rdK P) (hr : ∀ s, P s → Pc (rec s) P) : ∀ (n : Nat) (s : SS), P s → Pc (f_X12_sum_L4 rec n s) P
  | 0, _, _ => Pc_none
  | n + 1, s, h => by
    show Pc (f_X12_sum_L4_b rec (f_X12_sum_L4 rec n) s) P
    unfold f_X12_sum_L4_b
    refine Pc_if (fun _ => Pc_b1x (fun _ => Pc_jn0 ?_ (fun k hk => Pc_if (fun _ => hk) (fun _ => Pc_b1x (fun _ => Pc_if (fun _ => hk) (fun _ => Pc_some h)))))) (fun _ => Pc_some h)
    exact Pc_b1x (fun _ => Pc_vl (Pc_st (Pc_b1 (Pc.mono (K_prod H hr (H.1 _ _ _ (by omega) h)) (fun u hu => Pc_b1 (Pc.mono (H.2 _ _ _ hu) (fun w hw => K_sumL H hr n w hw)))))))
theorem K_sum (H : rdK P) (hr : ∀ s, P s → Pc (rec s) P) {s : SS} (h : P s) : Pc (f_X12_sum rec s) P := by
  unfold f_X12_sum
  exact Pc_b1 (Pc.mono (K_prod H hr h) (fun u hu => K_sumL H hr 4000 u hu))
theorem K_comp (H : rdK P) (hr : ∀ s, P s → Pc (rec s) P) {s : SS} (h : P s) : Pc (f_X12_compared rec s) P := by
  unfold f_X12_compared
  refine Pc_b1 (Pc.mono (K_sum H hr h) (fun u hu => Pc_b1x (fun _ => Pc_if (fun _ => Pc_jn0 ?_ (fun k hk => Pc_if (fun _ => hk) (fun _ => Pc_if (fun _ => hk) (fun _ => Pc_if (fun _ => hk) (fun _ => Pc_some hu))))) (fun _ => Pc_some hu))))
  exact Pc_vl (Pc_st (Pc_b1 (Pc.mono (K_sum H hr (H.1 _ _ _ (by omega) hu)) (fun w hw => Pc_b1 (Pc.mono (H.2 _ _ _ hw) (fun v hv => Pc_some hv))))))
theorem K_allL (H : rdK P) (hr : ∀ s, P s → Pc (rec s) P) : ∀ (n : Nat) (s : SS), P s → Pc (f_X12_all_L4 rec n s) P
  | 0, _, _ => Pc_none
  | n + 1, s, h => by
    show Pc (f_X12_all_L4_b rec (f_X12_all_L4 rec n) s) P
    unfold f_X12_all_L4_b
    exact Pc_if (fun _ => Pc_b1x (fun _ => Pc_if (fun _ => Pc_vl (Pc_st (Pc_b1 (Pc.mono (K_comp H hr (H.1 _ _ _ (by omega) h)) (fun u hu => Pc_b1 (Pc.mono (H.2 _ _ _ hu) (fun w hw => K_allL H hr n w hw))))))) (fun _ => Pc_some h))) (fun _ => Pc_some h)
theorem K_all (H : rdK P) (hr : ∀ s, P s → Pc (rec s) P) {s : SS} (h : P s) : Pc (f_X12_all rec s) P := by
  unfold f_X12_all
  exact Pc_b1 (Pc.mono (K_comp H hr h) (fun u hu => K_allL H hr 4000 u hu))
theorem K_eithL (H : rdK P) (hr : ∀ s, P s → Pc (rec s) P) : ∀ (n : Nat) (s : SS), P s → Pc (f_X12_either_L4 rec n s) P
  | 0, _, _ => Pc_none
  | n + 1, s, h => by
    show Pc (f_X12_either_L4_b rec (f_X12_either_L4 rec n) s) P
    unfold f_X12_either_L4_b
    exact Pc_if (fun _ => Pc_b1x (fun _ => Pc_if (fun _ => Pc_vl (Pc_st (Pc_b1 (Pc.mono (K_all H hr (H.1 _ _ _ (by omega) h)) (fun u hu => Pc_b1 (Pc.mono (H.2 _ _ _ hu) (fun w hw => K_eithL H hr n w hw))))))) (fun _ => Pc_some h))) (fun _ => Pc_some h)
theorem K_eith (H : rdK P) (hr : ∀ s, P s → Pc (rec s) P) {s : SS} (h : P s) : Pc (f_X12_either rec s) P := by
  unfold f_X12_either
  exact Pc_b1 (Pc.mono (K_all H hr h) (fun u hu => K_eithL H hr 4000 u hu))
theorem K_numL (H : rdK P) {q0 : SS → Int32 → Int32 → Option SS} (hq : ∀ s a b, P s → Pc (q0 s a b) P) : ∀ (n : Nat) (s : SS) (x2 x3 : Int32), P s → Pc (f_X12_operand_L148 rec q0 n s x2 x3) P
  | 0, _, _, _, _ => Pc_none
  | n + 1, s, x2, x3, h => by
    show Pc (f_X12_operand_L148_b rec q0 (f_X12_operand_L148 rec q0 n) s x2 x3) P
    unfold f_X12_operand_L148_b
    exact Pc_if (fun _ => Pc_b1x (fun _ => Pc_b1x (fun _ => Pc_if (fun _ => hq _ _ _ h) (fun _ => Pc_b1x (fun _ => Pc_vl (Pc_vl (Pc_vl (Pc_st (K_numL H hq n _ _ _ (H.1 _ _ _ (by omega) h))))))))) ) (fun _ => hq _ _ _ h)
end RCs
theorem K_operand (H : rdK P) : ∀ (n : Nat) (s : SS), P s → Pc (f_X12_operand n s) P
  | 0, _, _ => Pc_none
  | n + 1, s, h => by
    have hr := K_operand H n
    show Pc (f_X12_operand_r (f_X12_operand n) s) P
    unfold f_X12_operand_r
    refine Pc_b1x (fun r1 => Pc_b1x (fun r2 => Pc_if (fun _ => Pc_jn0 ?_ (fun k hk => Pc_if (fun _ => hk) (fun _ => Pc_if (fun _ => hk) (fun _ => Pc_if (fun _ => ?_) (fun _ => ?_))))) (fun _ => ?_)))
    · refine Pc_bd (Pc.mono (K_opens H h) (fun x hx => Pc_if (fun _ => Pc_some hx) (fun _ => Pc_b1 (Pc.mono (hr _ hx) (fun u hu => Pc_vl (Pc_st (Pc_jn1 (fun t => Pc_b1 (Pc.mono (H.2 _ _ _ (H.1 _ _ _ (by omega) hu)) (fun w hw => Pc_some hw))) (fun k hk => Pc_if (fun _ => hk _) (fun _ => hk _)))))))))
    · refine Pc_bd (Pc.mono (K_opens H h) (fun x hx => Pc_if (fun _ => Pc_some hx) (fun _ => Pc_b1 (Pc.mono (K_eith H hr hx) (fun u hu => Pc_if (fun _ => Pc_b1x (fun _ => Pc_if (fun _ => Pc_vl (Pc_st (Pc_vl (Pc_st (Pc_some (H.1 _ _ _ (by omega) (H.1 _ _ _ (by omega) hu))))))) (fun _ => Pc_b1 (Pc.mono (K_fault H hu) (fun w hw => Pc_some hw))))) (fun _ => Pc_some hu))))))
    · refine K_numL H (fun u a b hu => Pc_jn0 (Pc_b1 (Pc.mono (K_fault H hu) (fun w hw => Pc_some hw))) (fun k hk => Pc_if (fun _ => hk) (fun _ => Pc_b1x (fun _ => Pc_b1x (fun _ => Pc_if (fun _ => Pc_b1 (Pc.mono (H.2 _ _ _ hu) (fun w hw => Pc_some hw))) (fun _ => hk)))))) 4000 s 0 0 h
    · exact Pc_b1x (fun _ => Pc_b1 (Pc.mono (H.2 _ _ _ h) (fun u hu => Pc_vl (Pc_st (Pc_some (H.1 _ _ _ (by omega) hu))))))
/-- the reader's frame within a line; r: the row that is written -/
def K1 (r : Int) (b s : SS) : Prop := (zS s 59 50).toInt = r ∧ 0 ≤ (zS s 59 51).toInt ∧ (∀ j : Nat, (j : Int) < 170 * r → zI s 93 j = zI b 93 j ∧ zI s 94 j = zI b 94 j) ∧ ∀ q j, q = 90 ∨ q = 91 ∨ q = 92 → zI s q j = zI b q j
theorem ixge {a x : Int32} {r c : Int} {N : Nat} (hx : x.toInt = r) (hr : 0 ≤ r ∧ r ≤ 15) (hc : 0 ≤ c ∧ c ≤ 170) (y : Int32) (hy : 0 ≤ y.toInt) (hk : a.toInt = c) (hN : N ≤ 2890) (g : inB (a * x + y) N) : (a * x + y).toInt = c * r + y.toInt ∧ y.toInt < 2890 := by
  have pb : 0 ≤ c * r ∧ c * r ≤ 2550 := by
    refine ⟨Int.mul_nonneg hc.1 hr.1, ?_⟩
    have : c * r ≤ 170 * r := Int.mul_le_mul_of_nonneg_right hc.2 hr.1
    omega
  have m : (a * x).toInt = c * r := by rw [i32_mul (by rw [hk, hx]; omega) (by rw [hk, hx]; omega), hk, hx]
  by_cases ov : c * r + y.toInt < 2147483648
  · have e : (a * x + y).toInt = c * r + y.toInt := by rw [i32_add (by rw [m]; omega) (by rw [m]; omega), m]
    refine ⟨e, ?_⟩
    have := g.2
    omega
  · exfalso
    have : (a * x + y).toInt < 0 := by
      have hb := jlo y
      rw [Int32.toInt_add, m, Int.bmod_def]
      omega
    have := g.1
    omega
theorem K1.k {r : Int} {b : SS} (hr : 0 ≤ r ∧ r ≤ 15) : rdK (K1 r b) := by
  refine ⟨fun s k v hk ⟨h1, h2, h3, h4⟩ => ⟨?_, ?_, h3, h4⟩, fun s a c ⟨h1, h2, h3, h4⟩ => ?_⟩
  · rw [zS_pS, if_neg (by omega)]; exact h1
  · rw [zS_pS, if_neg (by omega)]; exact h2
  · have j170 : (170 : Int32).toInt = 170 := rfl
    unfold f_X12_lay
    refine Pc_vl (Pc_gd (fun g => Pc_st (Pc_vl (Pc_gd (fun _ => Pc_st (Pc_vl (Pc_st (Pc_some ⟨?_, ?_, fun j hj => ?_, fun q j hq => ?_⟩))))))))
    · rw [zS_pS, if_neg (by omega)]; exact h1
    · obtain ⟨e1, e2⟩ := ixge (c := 170) h1 hr (by omega) _ h2 j170 (Nat.le_refl _) g
      rw [zS_pS, if_pos ⟨rfl, rfl⟩]
      show 0 ≤ (zS s 59 51 + 1).toInt
      rw [i32_add (by rw [jl1]; omega) (by rw [jl1]; omega), jl1]
      omega
    · obtain ⟨e1, e2⟩ := ixge (c := 170) h1 hr (by omega) _ h2 j170 (Nat.le_refl _) g
      have ne : j ≠ ((170 : Int32) * zS s 59 50 + zS s 59 51).toInt.toNat := by omega
      rw [zI_pS, zI_pI, if_neg (by omega), zI_pI, if_neg (fun z => ne z.2), zI_pS, zI_pI, if_neg (fun z => ne z.2), zI_pI, if_neg (by omega)]
      exact h3 j hj
    · rw [zI_pS, zI_pI, if_neg (by omega), zI_pI, if_neg (by omega)]
      exact h4 q j hq
/-- .. and over lines -/
def K2 (r : Int) (b s : SS) : Prop := (zS s 59 50).toInt = r ∧ 0 ≤ (zS s 59 51).toInt ∧ 0 ≤ (zI s 90 r.toNat).toInt ∧ (∀ j : Nat, (j : Int) < 170 * r → zI s 93 j = zI b 93 j ∧ zI s 94 j = zI b 94 j) ∧ (∀ j : Nat, (j : Int) < 90 * r → zI s 91 j = zI b 91 j ∧ zI s 92 j = zI b 92 j) ∧ ∀ j : Nat, (j : Int) < r → zI s 90 j = zI b 90 j
theorem K2.m {r : Int} {b s : SS} {k : Nat} {v : Int32} (h : K2 r b s) (hk : k = 47 ∨ k = 48 ∨ k = 49) : K2 r b (pS s 59 k v) := ⟨by rw [zS_pS, if_neg (by omega)]; exact h.1, by rw [zS_pS, if_neg (by omega)]; exact h.2.1, h.2.2⟩
theorem K2.l {r : Int} {b s u : SS} (h : K2 r b s) (k : K1 r s u) : K2 r b u := by
  obtain ⟨h1, h2, h3, h4, h5, h6⟩ := h
  obtain ⟨k1, k2, k3, k4⟩ := k
  refine ⟨k1, k2, by rw [k4 90 _ (by omega)]; exact h3, fun j hj => ?_, fun j hj => ?_, fun j hj => ?_⟩
  · rw [(k3 j hj).1, (k3 j hj).2]; exact h4 j hj
  · rw [k4 91 j (by omega), k4 92 j (by omega)]; exact h5 j hj
  · rw [k4 90 j (by omega)]; exact h6 j hj
theorem K_line {r : Int} {b s : SS} (hr : 0 ≤ r ∧ r ≤ 15) (h : K2 r b s) : Pc (f_X12_readLine s) (K2 r b) := by
  have j90 : (90 : Int32).toInt = 90 := rfl
  unfold f_X12_readLine
  refine Pc_vl (Pc_gd (fun g1 => Pc_vl (Pc_vl ?_)))
  obtain ⟨h1, h2, h3, h4, h5, h6⟩ := id h
  have er : (zS s 59 50).toInt.toNat = r.toNat := by rw [h1]
  rw [er]
  have S1 : K1 r s s := ⟨h1, h2, fun _ _ => ⟨rfl, rfl⟩, fun _ _ _ => rfl⟩
  refine Pc_b1 (Pc.mono (K_eith (K1.k hr) (K_operand (K1.k hr) 12) S1) (fun s5 k5 => Pc_gd (fun g3 => Pc_st ?_)))
  obtain ⟨e3, b3⟩ := ixge (c := 90) h1 hr (by omega) _ h3 j90 (by omega) g3
  -- a write at this line's place
  have wr : ∀ q u v, q = 91 ∨ q = 92 → K2 r b u → zI u 90 r.toNat = zI s 90 r.toNat → K2 r b (pI u q ((90 : Int32) * zS s 59 50 + zI s 90 r.toNat).toInt.toNat v) ∧ zI (pI u q ((90 : Int32) * zS s 59 50 + zI s 90 r.toNat).toInt.toNat v) 90 r.toNat = zI s 90 r.toNat := by
    intro q u v hq ⟨u1, u2, u3, u4, u5, u6⟩ e
    have e90 : ∀ j, zI (pI u q ((90 : Int32) * zS s 59 50 + zI s 90 r.toNat).toInt.toNat v) 90 j = zI u 90 j := fun j => by rw [zI_pI, if_neg (by omega)]
    refine ⟨⟨u1, u2, by rw [e90]; exact u3, fun j hj => ?_, fun j hj => ?_, fun j hj => by rw [e90]; exact u6 j hj⟩, by rw [e90]; exact e⟩
    · rw [zI_pI, if_neg (by omega), zI_pI, if_neg (by omega)]; exact u4 j hj
    · have ne : j ≠ ((90 : Int32) * zS s 59 50 + zI s 90 r.toNat).toInt.toNat := by omega
      rw [zI_pI, if_neg (fun z => ne z.2), zI_pI, if_neg (fun z => ne z.2)]; exact u5 j hj
  have a5 : zI s5 90 r.toNat = zI s 90 r.toNat := k5.2.2.2 90 _ (by omega)
  obtain ⟨w7, a7⟩ := wr 91 s5 (zS s 59 51) (by omega) (h.l k5) a5
  generalize pI s5 91 ((90 : Int32) * zS s 59 50 + zI s 90 r.toNat).toInt.toNat (zS s 59 51) = s7 at w7 a7 ⊢
  refine Pc_jnS (P := fun u => K2 r b u ∧ zI u 90 r.toNat = zI s 90 r.toNat) (fun s8 ⟨w8, a8⟩ => ?_) (fun k hk => Pc_if (fun _ => Pc_b1x (fun _ => Pc_if (fun _ => Pc_vl (Pc_st (Pc_vl (Pc_gd (fun _ => Pc_st ?_))))) (fun _ => hk _ ⟨w7, a7⟩))) (fun _ => hk _ ⟨w7, a7⟩))
  · refine Pc_vl (Pc_gd (fun _ => Pc_st ?_))
    obtain ⟨w12, a12⟩ := wr 92 s8 (zS s8 59 51) (by omega) w8 a8
    generalize pI s8 92 ((90 : Int32) * zS s 59 50 + zI s 90 r.toNat).toInt.toNat (zS s8 59 51) = s12 at w12 a12 ⊢
    have er2 : (zS s12 59 50).toInt.toNat = r.toNat := by rw [w12.1]
    refine Pc_vl (Pc_gd (fun _ => Pc_vl (Pc_vl (Pc_gd (fun _ => Pc_st (Pc_some ?_))))))
    rw [er2, a12]
    obtain ⟨u1, u2, u3, u4, u5, u6⟩ := w12
    have n1 : (zI s 90 r.toNat + 1).toInt = (zI s 90 r.toNat).toInt + 1 := by rw [i32_add (by rw [jl1]; omega) (by rw [jl1]; omega), jl1]
    refine ⟨u1, u2, ?_, fun j hj => ?_, fun j hj => ?_, fun j hj => ?_⟩
    · rw [zI_pI, if_pos ⟨rfl, rfl⟩, n1]; omega
    · rw [zI_pI, if_neg (by omega), zI_pI, if_neg (by omega)]; exact u4 j hj
    · rw [zI_pI, if_neg (by omega), zI_pI, if_neg (by omega)]; exact u5 j hj
    · rw [zI_pI, if_neg (by omega)]; exact u6 j hj
  · have w23 : K2 r b (pS s7 59 47 (zS s7 59 47 + 1)) := w7.m (by omega)
    have a23 : zI (pS s7 59 47 (zS s7 59 47 + 1)) 90 r.toNat = zI s 90 r.toNat := a7
    obtain ⟨w26, a26⟩ := wr 91 (pS s7 59 47 (zS s7 59 47 + 1)) (zS (pS s7 59 47 (zS s7 59 47 + 1)) 59 51) (by omega) w23 a23
    generalize pI (pS s7 59 47 (zS s7 59 47 + 1)) 91 ((90 : Int32) * zS s 59 50 + zI s 90 r.toNat).toInt.toNat (zS (pS s7 59 47 (zS s7 59 47 + 1)) 59 51) = s26 at w26 a26 ⊢
    refine Pc_b1 (Pc.mono (K_eith (P := K1 r s26) (K1.k hr) (K_operand (K1.k hr) 12) ⟨w26.1, w26.2.1, fun _ _ => ⟨rfl, rfl⟩, fun _ _ _ => rfl⟩) (fun s27 k27 => hk _ ⟨w26.l k27, ?_⟩))
    rw [k27.2.2.2 90 _ (by omega)]
    exact a26
theorem K_text {r : Int} {b : SS} {y1 y2 : Int32} (hr : 0 ≤ r ∧ r ≤ 15) : ∀ (n : Nat) (s : SS), K2 r b s → Pc (f_X12_text_L77 (fun u => some (0, u)) y1 y2 n s) (fun x => K2 r b x.2)
  | 0, _, _ => Pc_none
  | n + 1, s, h => by
    show Pc (f_X12_text_L77_b (fun u => some (0, u)) y1 y2 (f_X12_text_L77 (fun u => some (0, u)) y1 y2 n) s) _
    unfold f_X12_text_L77_b
    exact Pc_if (fun _ => Pc_b1x (fun _ => Pc_if (fun _ => Pc_vl (Pc_st (Pc_b1 (Pc.mono (K_line hr (h.m (by omega))) (fun u hu => K_text hr n u hu))))) (fun _ => Pc_some h))) (fun _ => Pc_some h)
/-- what follows the lines, apart -/
theorem tx77 {q : SS → Option (Int32 × SS)} {y1 y2 : Int32} : ∀ (n : Nat) (s : SS), f_X12_text_L77 q y1 y2 n s = (f_X12_text_L77 (fun u => some (0, u)) y1 y2 n s).bind (fun x => q x.2)
  | 0, _ => rfl
  | n + 1, s => by
    show f_X12_text_L77_b q y1 y2 (f_X12_text_L77 q y1 y2 n) s = (f_X12_text_L77_b (fun u => some (0, u)) y1 y2 (f_X12_text_L77 (fun u => some (0, u)) y1 y2 n) s).bind (fun x => q x.2)
    unfold f_X12_text_L77_b
    by_cases c : zS s 59 48 < 0
    · rw [if_pos c, if_pos c]
      cases f_X12_look s with
      | none => rfl
      | some r18 =>
        rw [b1_some, b1_some]
        by_cases d : r18 = 59
        · rw [if_pos d, if_pos d, vl, vl, st, st]
          cases f_X12_readLine (pS s 59 47 (zS s 59 47 + 1)) with
          | none => rfl
          | some s22 =>
            rw [b1_some, b1_some]
            exact tx77 n s22
        · rw [if_neg d, if_neg d]
          rfl
    · rw [if_neg c, if_neg c]
      rfl
end KRs
/-! TEXTS -/
section TXs
variable {s t s' t' : SS}
theorem QCha.e (R : QCha s t) (S : Sh s) (h5 : zS s' 0 5 = zS s 0 5) (h1 : ∀ q k, 126 ≤ q → q < zL s → zS s' q k = zS s q k) (h2 : ∀ q j, 126 ≤ q → q < zL s → zI s' q j = zI s q j) (h3 : ∀ i, zR s' 23 i = zR s 23 i) (m : ∀ q j, 81 ≤ q → q ≤ 85 → zI t' q j = zI t q j) : QCha s' t' := by
  obtain ⟨a, a0, b⟩ := R
  refine ⟨fun i hi hc => ?_, fun i hi hc => by rw [m 84 _ (by omega) (by omega)]; exact a0 i hi (by rw [← h5]; exact hc), fun i j p hi hj e f => b i j p hi hj ((h3 i).symm.trans e) ((h3 j).symm.trans f)⟩
  obtain ⟨p, e, r⟩ := a i hi (by rw [← h5]; exact hc)
  obtain ⟨o1, o2, _⟩ := S.2.2.2.2.1 i p hi e
  exact ⟨p, (h3 i).trans e, r.c (fun k => h1 p k o1 (by omega)) (fun y => h2 _ y (by omega) (by omega)) m⟩
/-- texts apart, all is as it was -/
theorem Q4.gr (Q : Q4 s t) (S : Sh s) (b3 : (zS s 15 3).toInt ≤ 120) (sS : ∀ q k, q < 59 → vS q k = true → ¬ (q = 0 ∧ k = 8) → zS s' q k = zS s q k) (dS : ∀ q k, 126 ≤ q → q < zL s → zS s' q k = zS s q k) (sI : ∀ q j, q < 59 → vI q = true → zI s' q j = zI s q j) (dI : ∀ q j, 126 ≤ q → q < zL s → zI s' q j = zI s q j) (r17 : ∀ i, zR s' 17 i = zR s 17 i) (r23 : ∀ i, zR s' 23 i = zR s 23 i) (mS : ∀ k, vS 59 k = true → zS t' 59 k = zS t 59 k) (mI : ∀ q j, vI q = true → 59 ≤ q → q < 126 → q < 87 ∨ 94 < q → zI t' q j = zI t q j) (mJ : ∀ i, zJ t' 122 i = zJ t 122 i) (T : QTxt s' t') : Q4 s' t' := by
  obtain ⟨Q1, Q2, Q3, Q5, Q6, Q7, Q8, Q9, Q10, Q11, Q12, Q13, Q14⟩ := Q
  refine ⟨Q1.e S dS dI r17 (fun q j h1 h2 => mI q j ?_ (by omega) (by omega) (by omega)), Q2.c (fun i => sI 7 i (by omega) rfl) (fun i => sI 8 i (by omega) rfl) (fun i => sI 10 i (by omega) rfl) (fun i => sI 16 i (by omega) rfl) (sS 15 3 (by omega) rfl (by omega)) (sS 6 4 (by omega) rfl (by omega)) (fun i => mI 74 i rfl (by omega) (by omega) (by omega)) (fun i => mI 75 i rfl (by omega) (by omega) (by omega)) (fun i => mI 77 i rfl (by omega) (by omega) (by omega)), Q3.c (fun k h => sS 0 k (by omega) (by rcases h with rfl | rfl <;> rfl) (by omega)) (sS 15 4 (by omega) rfl (by omega)) r17 (fun i => mI 67 i rfl (by omega) (by omega) (by omega)) (fun i => mI 69 i rfl (by omega) (by omega) (by omega)), Q5.c (sS 0 18 (by omega) rfl (by omega)) (sS 0 14 (by omega) rfl (by omega)) (fun i => mI 69 i rfl (by omega) (by omega) (by omega)), Q6.c (fun k => sS 30 k (by omega) rfl (by omega)) (sS 0 14 (by omega) rfl (by omega)) (fun q i h1 h2 => sI q i (by omega) ?_) (fun k h => mS k (by rcases h with rfl | rfl | rfl <;> rfl)) (fun q i h1 h2 => mI q i ?_ (by omega) (by omega) (by omega)), Q7.c (fun k h1 h2 => sS 15 k (by omega) (Nat.ble_eq.mpr h2) (by omega)) (fun k h1 h2 => mS k ?_), Q8.c (fun i hi => sS _ 2 (by omega) ?_ (by omega)) (fun i => mI 80 i rfl (by omega) (by omega) (by omega)), Q9.c (fun k h1 h2 => sS 6 k (by omega) ?_ (by omega)) (fun i => sI 13 i (by omega) rfl) (fun k h => mS k (by rcases h with rfl | rfl <;> rfl)) (fun i => mI 116 i rfl (by omega) (by omega) (by omega)) (fun i => mI 118 i rfl (by omega) (by omega) (by omega)), Q10.c (by rw [sS 15 3 (by omega) rfl (by omega)]; exact Int.le_refl _) (fun i _ h => by rw [r17]; exact h) b3 (fun i => mI 79 i rfl (by omega) (by omega) (by omega)), Q11.e S (sS 0 5 (by omega) rfl (by omega)) dS dI r23 (fun q j h1 h2 => mI q j ?_ (by omega) (by omega) (by omega)), T, Q13.c (fun q i h => mI q i (by rcases h with rfl | rfl <;> rfl) (by omega) (by omega) (by omega)) mJ, Q14.c (sS 0 14 (by omega) rfl (by omega)) (fun i => mI 68 i rfl (by omega) (by omega) (by omega))⟩
  · have h : q = 63 ∨ q = 64 ∨ q = 65 ∨ q = 66 ∨ q = 67 ∨ q = 68 ∨ q = 69 ∨ q = 70 ∨ q = 71 ∨ q = 72 ∨ q = 73 ∨ q = 104 := by omega
    rcases h with rfl | rfl | rfl | rfl | rfl | rfl | rfl | rfl | rfl | rfl | rfl | rfl <;> rfl
  · have h : q = 31 ∨ q = 32 ∨ q = 33 := by omega
    rcases h with rfl | rfl | rfl <;> rfl
  · have h : q = 102 ∨ q = 103 ∨ q = 105 := by omega
    rcases h with rfl | rfl | rfl <;> rfl
  · have h : k = 22 ∨ k = 23 ∨ k = 24 ∨ k = 25 := by omega
    rcases h with rfl | rfl | rfl | rfl <;> rfl
  · have h : i = 0 ∨ i = 1 ∨ i = 2 := by omega
    rcases h with rfl | rfl | rfl <;> rfl
  · have h : k = 10 ∨ k = 11 ∨ k = 12 := by omega
    rcases h with rfl | rfl | rfl <;> rfl
  · have h : q = 81 ∨ q = 82 ∨ q = 83 ∨ q = 84 ∨ q = 85 := by omega
    rcases h with rfl | rfl | rfl | rfl | rfl <;> rfl
/-- a text below the row that is written -/
theorem TX.k {p i : Nat} {r : Int} (R : TX s p t i) (hi : (i : Int) < r) (h1 : ∀ k, zS s' p k = zS s p k) (h2 : ∀ y, zI s' (p + 1) y = zI s (p + 1) y) (h3 : zN s' (p + 1) = zN s (p + 1)) (m : ∀ q, q = 87 ∨ q = 88 ∨ q = 89 → zI t' q i = zI t q i) (m90 : zI t' 90 i = zI t 90 i) (m9 : ∀ j : Nat, (j : Int) < 90 * r → zI t' 91 j = zI t 91 j ∧ zI t' 92 j = zI t 92 j) (m17 : ∀ j : Nat, (j : Int) < 170 * r → zI t' 93 j = zI t 93 j ∧ zI t' 94 j = zI t 94 j) : TX s' p t' i := by
  obtain ⟨a, b, c, d, e, ls, t1, t2, t3, t4, t5, t6, t7, t8, t9⟩ := R
  refine ⟨by rw [m 87 (by omega)]; exact a, by rw [h1, m 87 (by omega)]; exact b, by rw [h1, m 87 (by omega)]; exact c, by rw [h1, m 88 (by omega)]; exact d, by rw [h1, m 89 (by omega)]; exact e, ls, by rw [h3]; exact t1, t2, t3, fun j c h => by rw [h2]; exact t4 j c h, fun j c h => ?_, by rw [m90]; exact t6, t7, t8, fun k pr h => ?_⟩
  · have hj : j < (mlL ls).length := (List.getElem?_eq_some_iff.mp h).1
    rw [(m17 (170 * i + j) (by omega)).1, (m17 (170 * i + j) (by omega)).2]
    exact t5 j c h
  · have hk : k < ls.length := (List.getElem?_eq_some_iff.mp h).1
    rw [(m9 (90 * i + k) (by omega)).1, (m9 (90 * i + k) (by omega)).2]
    exact t9 k pr h
theorem ord_b {a : Int32} (h : f_X11_isOrder a = some 1) : 0 ≤ a.toInt ∧ a.toInt ≤ 12 ∧ a.toInt % 10 ≤ 2 := by
  unfold f_X11_isOrder at h
  by_cases h0 : a < 0
  · rw [if_pos h0] at h; cases h
  have h0' := h0
  rw [jlt, jl0] at h0'
  have e1 : (a / 10).toInt = a.toInt / 10 := by rw [jd10, if_pos (by omega)]
  have e2 : (a % 10).toInt = a.toInt % 10 := by rw [jm10, if_pos (by omega)]
  rw [if_neg h0] at h
  by_cases h1 : (1 : Int32) < a / 10
  · rw [if_pos h1] at h; cases h
  have h1' := h1
  rw [jlt, jl1, e1] at h1'
  rw [if_neg h1] at h
  by_cases h2 : (2 : Int32) < a % 10
  · rw [if_pos h2] at h; cases h
  have h2' := h2
  rw [jlt, jl2, e2] at h2'
  omega
theorem clampN {v : Int32} : v.toNatClampNeg = v.toInt.toNat := rfl
theorem L_text (T : TP s t) (B : B1 s t) (Q : Q4 s t) (a0 a1 : Int32) : Pc (f_X11_text s a0 a1) fun x => Pc (f_X12_text t a0 a1) fun m => Q4 x.2 m.2 := by
  have eh : zS s 0 14 = zS t 59 1 := B.2.1.1
  have e8 : zS s 0 8 = zS t 59 38 := B.1.1.2.2.2.1
  have h8 : 0 ≤ (zS s 0 8).toInt ∧ (zS s 0 8).toInt ≤ 16 := B.1.fx (q := 0) (k := 8) (by omega)
  have j16 : (16 : Int32).toInt = 16 := rfl
  have S := B.1.sh
  have hL := S.1
  have b3 := B.1.tot.2.2
  have T0 := Q.2.2.2.2.2.2.2.2.2.2.1
  unfold f_X11_text
  rcases ord_l (a := a0) with ⟨o1, o2⟩ | ⟨o1, o2⟩
  · rw [o1]
    refine Pc_b1S (Pc_if10 ?_)
    by_cases d : (zS s 0 14).toInt ≤ a1.toInt ∧ a1.toInt ≤ 1699
    · refine Pc_iff (by rw [jlt]; omega) (Pc_iff (by rw [jlt, jl1699]; omega) ?_)
      by_cases f : (zS s 0 8).toInt < 16
      · have hr : 0 ≤ (zS t 59 38).toInt ∧ (zS t 59 38).toInt ≤ 15 := by rw [← e8]; omega
        obtain ⟨fx, s6, t', ec, eQ, PX, PR, O⟩ := comp_l WoE T hr a0 a1 (fun u => some (0, u))
        obtain ⟨r, er⟩ : ∃ r : Nat, (zS t 59 38).toInt = r := ⟨_, (Int.toNat_of_nonneg hr.1).symm⟩
        have ern : (zS t 59 38).toInt.toNat = r := by omega
        have e50 : zS (m0T t) 59 50 = zS t 59 38 := by unfold m0T; rw [zS_pS, if_neg (by omega), zS_pS, if_neg (by omega), zS_pS, if_neg (by omega), zS_pS, if_neg (by omega), zS_pI, zS_pS, if_pos ⟨rfl, rfl⟩]
        have e51 : zS (m0T t) 59 51 = 0 := by unfold m0T; rw [zS_pS, if_neg (by omega), zS_pS, if_neg (by omega), zS_pS, if_neg (by omega), zS_pS, if_pos ⟨rfl, rfl⟩]
        have e90 : ∀ j, j ≠ r → zI (m0T t) 90 j = zI t 90 j := fun j hj => by unfold m0T; rw [zI_pS, zI_pS, zI_pS, zI_pS, zI_pI, if_neg (by omega), zI_pS]
        have e90r : zI (m0T t) 90 r = 0 := by unfold m0T; rw [zI_pS, zI_pS, zI_pS, zI_pS, zI_pI, if_pos ⟨rfl, ern.symm⟩]
        have K0 : K2 (r : Int) (m0T t) (m0T t) := ⟨by rw [e50, er], by rw [e51]; decide, by rw [show ((r : Nat) : Int).toNat = r by omega, e90r]; decide, fun _ _ => ⟨rfl, rfl⟩, fun _ _ => ⟨rfl, rfl⟩, fun _ _ => rfl⟩
        have KT : K2 (r : Int) (m0T t) t' := (Pc_b1 (Pc.mono (K_line (by omega) K0) (fun u hu => K_text (by omega) 4000 u hu)) : Pc (b1 (f_X12_readLine (m0T t)) fun s16 => f_X12_text_L77 (fun u => some (0, u)) a0 a1 4000 s16) (fun x => K2 (r : Int) (m0T t) x.2)) (0, t') eQ
        obtain ⟨_, _, _, k93, k91, k90⟩ := KT
        -- the reference's text is its end at t'
        have em0 : f_X12_text t a0 a1 = qT a0 a1 t' := by
          have e : f_X12_text t a0 a1 = (b1 (f_X12_readLine (m0T t)) fun s16 => f_X12_text_L77 (qT a0 a1) a0 a1 4000 s16) := by
            have e50' : zS (pS t 59 50 (zS t 59 38)) 59 50 = zS t 59 38 := by rw [zS_pS, if_pos ⟨rfl, rfl⟩]
            unfold f_X12_text
            rw [o2, b1_some, if_neg (by decide), in_t (by rw [← eh, jl1699]; exact d), b1_some, if_neg (by decide), if_neg (fun z => by rw [z, j16] at hr; omega), vl, st, vl, e50', gd_t ⟨hr.1, by omega⟩, st, st, st, st, st]
            rfl
          rw [e]
          cases hl : f_X12_readLine (m0T t) with
          | none => rw [hl] at eQ; cases eQ
          | some s16 =>
            rw [hl, b1_some] at eQ
            rw [b1_some, tx77, eQ]
            rfl
        rw [em0]
        have n38 : zS t' 59 38 = zS t 59 38 := (PR.1 59 38 (by omega)).trans (m0T_S (by omega))
        have n1 : zS t' 59 1 = zS t 59 1 := (PR.1 59 1 (by omega)).trans (m0T_S (by omega))
        have vmS : ∀ k, vS 59 k = true → k ≠ 37 ∧ k ≠ 38 ∧ k ≠ 47 ∧ k ≠ 48 ∧ k ≠ 49 ∧ k ≠ 50 ∧ k ≠ 51 := fun k h => by
          refine ⟨?_, ?_, ?_, ?_, ?_, ?_, ?_⟩ <;> (intro z; rw [z] at h; cases h)
        have vcI : ∀ q, q < 59 → vI q = true → q ≠ 26 := fun q _ h z => by rw [z] at h; cases h
        have vcS : ∀ q k, vS q k = true → q < 59 → q ≠ 24 := fun q k h _ z => by rw [z] at h; cases h
        refine Pc_ift (by rw [jlt, j16]; exact f) ?_
        rw [ec]
        refine Pc_bdS (Pc_st ?_)
        -- what the class keeps up to here
        have x7S : ∀ q k, q ≠ 24 → zS (pS s6 24 1 0) q k = zS s q k := fun q k z => by rw [zS_pS, if_neg (by omega)]; exact PX.1 q k (by omega)
        have x7I : ∀ q j, q ≠ 26 → zI (pS s6 24 1 0) q j = zI s q j := fun q j z => PX.2.1 q j z
        have x7L : (pS s6 24 1 0).2.2.2 = s.2.2.2 := congrArg Prod.snd PX.2.2
        have x26 : ∀ j, zI (pS s6 24 1 0) 26 j = zI s6 26 j := fun _ => rfl
        have x243 : zS (pS s6 24 1 0) 24 3 = zS s6 24 3 := rfl
        generalize pS s6 24 1 0 = s7 at x7S x7I x7L x26 x243 ⊢
        have l7 : zL s7 = zL s := by unfold zL; rw [x7L]
        have r7 : ∀ a i, zR s7 a i = zR s a i := fun a i => by unfold zR; rw [x7L]
        have N7 : ∀ a, zN s7 a = zN s a := fun a => by unfold zN; rw [x7L]
        have t7 : ∀ a, zT s7 a = zT s a := fun a => by unfold zT; rw [x7L]
        -- the reference's cells, whatever marks are set
        have tI : ∀ q j, q ≠ 90 → q ≠ 91 → q ≠ 92 → q ≠ 93 → q ≠ 94 → zI t' q j = zI t q j := fun q j h1 h2 h3 h4 h5 => (PR.2.1 q j h1 h2 h3 h4 h5).trans (m0T_I h1)
        have tJ : ∀ i, zJ t' 122 i = zJ t 122 i := fun i => by unfold zJ; rw [PR.2.2]; rfl
        have tS : ∀ k, vS 59 k = true → zS t' 59 k = zS t 59 k := fun k h => by
          obtain ⟨v1, v2, v3, v4, v5, v6, v7⟩ := vmS k h
          exact (PR.1 59 k (by omega)).trans (m0T_S (by omega))
        have old : ∀ i p : Nat, i < 16 → (i : Int) < (zS s 0 8).toInt → zR s 27 i = some p → TX s p t i → ∀ x y, (∀ k, zS x p k = zS s p k) → (∀ j, zI x (p + 1) j = zI s (p + 1) j) → zN x (p + 1) = zN s (p + 1) → (∀ q, q = 87 ∨ q = 88 ∨ q = 89 → zI y q i = zI t q i) → (∀ q j, 90 ≤ q → q ≤ 94 → zI y q j = zI t' q j) → TX x p y i := by
          intro i p hi hc hp X x y c1 c2 c3 c4 c5
          rw [e8, er] at hc
          refine X.k (r := r) hc c1 c2 c3 c4 ?_ (fun j hj => ?_) (fun j hj => ?_)
          · rw [c5 90 i (by omega) (by omega), k90 i hc, e90 i (by omega)]
          · rw [c5 91 j (by omega) (by omega), c5 92 j (by omega) (by omega), (k91 j hj).1, (k91 j hj).2, m0T_I (by omega), m0T_I (by omega)]
            exact ⟨rfl, rfl⟩
          · rw [c5 93 j (by omega) (by omega), c5 94 j (by omega) (by omega), (k93 j hj).1, (k93 j hj).2, m0T_I (by omega), m0T_I (by omega)]
            exact ⟨rfl, rfl⟩
        -- a fault: nothing but the tape
        have flt : ∀ w, (∀ q k, ¬ (q = 59 ∧ k = 48) → zS w q k = zS t' q k) → w.2 = t'.2 → Q4 s7 (pS w 59 37 0) := by
          intro w w1 w2
          have wI : ∀ q j, zI (pS w 59 37 0) q j = zI t' q j := fun q j => by rw [zI_pS]; unfold zI; rw [w2]
          refine Q.gr S b3 (fun q k h1 h2 _ => x7S q k (vcS q k h2 h1)) (fun q k h1 _ => x7S q k (by omega)) (fun q j h1 h2 => x7I q j (vcI q h1 h2)) (fun q j h1 _ => x7I q j (by omega)) (r7 17) (r7 23) (fun k h => ?_) (fun q j _ _ _ h => ?_) (fun i => ?_) (fun i hi hc => ?_)
          · obtain ⟨v1, v2, v3, v4, v5, v6, v7⟩ := vmS k h
            rw [zS_pS, if_neg (by omega), w1 59 k (by omega)]
            exact tS k h
          · rw [wI]
            exact tI q j (by omega) (by omega) (by omega) (by omega) (by omega)
          · have : zJ (pS w 59 37 0) 122 i = zJ t' 122 i := by
              show w.2.2.1 122 i = t'.2.2.1 122 i
              rw [w2]
            rw [this]; exact tJ i
          · rw [x7S 0 8 (by omega)] at hc
            obtain ⟨p, hp, X⟩ := T0 i hi hc
            have op := S.2.2.2.2.2.1 i p hi hp
            exact ⟨p, by rw [r7]; exact hp, old i p hi hc hp X _ _ (fun k => x7S p k (by have := op.1; omega)) (fun j => x7I _ j (by have := op.1; omega)) (N7 _) (fun q hq => by rw [wI]; exact tI q i (by omega) (by omega) (by omega) (by omega) (by omega)) (fun q j _ _ => wI q j)⟩
        unfold qT
        rcases O with ⟨q1, q2, q3, ls, TI⟩ | ⟨q1, O2⟩
        · -- a new text
          have e48 : zS (pS t' 59 37 0) 59 48 = -1 := by rw [zS_pS, if_neg (by omega)]; exact q2
          refine Pc_ift (by rw [q1]; decide) (Pc_vl (Pc_gd (fun _ => Pc_gd (fun gz => Pc_st (Pc_vl (Pc_st (Pc_some ?_)))))))
          refine Pc_jn (Pc_ift (by rw [q2]; decide) (Pc_iff q3 (Pc_st (Pc_ift (by rw [e48]; decide) ?_))))
          have p38 : zS (pS t' 59 37 0) 59 38 = zS t 59 38 := by rw [zS_pS, if_neg (by omega)]; exact n38
          refine Pc_vl (Pc_gd (fun _ => Pc_st (Pc_vl (Pc_vl (Pc_gd (fun _ => Pc_st (Pc_vl (Pc_gd (fun _ => Pc_st (Pc_vl (Pc_st (Pc_some ?_))))))))))))
          have y37 : ∀ k, k ≠ 37 → zS (pS t' 59 37 0) 59 k = zS t' 59 k := fun k h => by rw [zS_pS, if_neg (by omega)]
          have yI : ∀ q j, zI (pS t' 59 37 0) q j = zI t' q j := fun _ _ => rfl
          have yJ : ∀ q j, zJ (pS t' 59 37 0) q j = zJ t' q j := fun _ _ => rfl
          have z8 : zS s7 0 8 = zS t 59 38 := (x7S 0 8 (by omega)).trans e8
          have z14 : zS s7 0 14 = zS s 0 14 := x7S 0 14 (by omega)
          show Q4 (pS (pR (pText s7 (a0 / 10) (a0 % 10) (zS s7 0 14) a1 (zS s7 24 3).toNatClampNeg) 27 (zS s7 0 8).toInt.toNat (some (zL s7))) 0 8 (zS (pR (pText s7 (a0 / 10) (a0 % 10) (zS s7 0 14) a1 (zS s7 24 3).toNatClampNeg) 27 (zS s7 0 8).toInt.toNat (some (zL s7))) 0 8 + 1)) (pS (pI (pI (pI (pS t' 59 37 0) 87 (zS (pS t' 59 37 0) 59 38).toInt.toNat a0) 88 (zS (pS t' 59 37 0) 59 38).toInt.toNat (zS (pS t' 59 37 0) 59 1)) 89 (zS (pS t' 59 37 0) 59 38).toInt.toNat a1) 59 38 (zS (pS t' 59 37 0) 59 38 + 1))
          rw [p38, y37 1 (by omega), z8, ern, l7, z14]
          generalize pS t' 59 37 0 = y at y37 yI yJ
          have v8 : zS (pR (pText s7 (a0 / 10) (a0 % 10) (zS s 0 14) a1 (zS s7 24 3).toNatClampNeg) 27 r (some (zL s))) 0 8 = zS t 59 38 := by
            show (if 0 = zL s7 then textF (a0 / 10) (a0 % 10) (zS s 0 14) a1 8 else zS s7 0 8) = _
            rw [if_neg (by omega), z8]
          rw [v8]
          obtain ⟨u, hu⟩ : ∃ u, u = pS (pR (pText s7 (a0 / 10) (a0 % 10) (zS s 0 14) a1 (zS s7 24 3).toNatClampNeg) 27 r (some (zL s))) 0 8 (zS t 59 38 + 1) := ⟨_, rfl⟩
          have uS : ∀ q k, q ≠ zL s → ¬ (q = 0 ∧ k = 8) → zS u q k = zS s7 q k := fun q k h1 h2 => by
            rw [hu, zS_pS, if_neg h2]
            show (if q = zL s7 then textF (a0 / 10) (a0 % 10) (zS s 0 14) a1 k else zS s7 q k) = _
            rw [if_neg (by omega)]
          have uF : ∀ k, zS u (zL s) k = textF (a0 / 10) (a0 % 10) (zS s 0 14) a1 k := fun k => by
            rw [hu, zS_pS, if_neg (by omega)]
            show (if zL s = zL s7 then textF (a0 / 10) (a0 % 10) (zS s 0 14) a1 k else zS s7 (zL s) k) = _
            rw [if_pos l7.symm]
          have u8 : zS u 0 8 = zS t 59 38 + 1 := by rw [hu, zS_pS, if_pos ⟨rfl, rfl⟩]
          have uI : ∀ q j, q ≠ zL s + 1 → zI u q j = zI s7 q j := fun q j h1 => by
            rw [hu]
            show (if q = zL s7 + 1 then zI s7 26 j else zI s7 q j) = _
            rw [if_neg (by omega)]
          have uC : ∀ j, zI u (zL s + 1) j = zI s6 26 j := fun j => by
            rw [hu]
            show (if zL s + 1 = zL s7 + 1 then zI s7 26 j else zI s7 (zL s + 1) j) = _
            rw [if_pos (by omega), x26]
          have uR : ∀ q i, zR u q i = if q = 27 ∧ i = r then some (zL s) else zR s q i := fun q i => by
            rw [hu]
            show (if q = 27 ∧ i = r then some (zL s) else zR s7 q i) = _
            rw [r7]
          have uN : ∀ q, q ≠ zL s + 1 → zN u q = zN s q := fun q h1 => by
            rw [hu]
            show (if q = zL s7 + 1 then (zS s7 24 3).toNatClampNeg else zN s7 q) = _
            rw [if_neg (by omega), N7]
          have uN1 : zN u (zL s + 1) = (zS s6 24 3).toInt.toNat := by
            rw [hu]
            show (if zL s + 1 = zL s7 + 1 then (zS s7 24 3).toNatClampNeg else zN s7 (zL s + 1)) = _
            rw [if_pos (by omega), x243]
            rfl
          rw [← hu]
          have n8 : (zS t 59 38 + 1).toInt = (r : Int) + 1 := by rw [i32_add (by rw [jl1]; omega) (by rw [jl1]; omega), jl1, er]
          have wI : ∀ q j, q ≠ 87 → q ≠ 88 → q ≠ 89 → zI (pS (pI (pI (pI y 87 r a0) 88 r (zS t' 59 1)) 89 r a1) 59 38 (zS t 59 38 + 1)) q j = zI t' q j := fun q j h1 h2 h3 => by
            rw [zI_pS, zI_pI, if_neg (by omega), zI_pI, if_neg (by omega), zI_pI, if_neg (by omega), yI]
          have wJ : ∀ q j, j ≠ r → zI (pS (pI (pI (pI y 87 r a0) 88 r (zS t' 59 1)) 89 r a1) 59 38 (zS t 59 38 + 1)) q j = zI t' q j := fun q j h1 => by
            rw [zI_pS, zI_pI, if_neg (by omega), zI_pI, if_neg (by omega), zI_pI, if_neg (by omega), yI]
          refine Q.gr S b3 (fun q k h1 h2 h3 => ?_) (fun q k h1 h2 => ?_) (fun q j h1 h2 => ?_) (fun q j h1 h2 => ?_) (fun i => by rw [uR, if_neg (by omega)]) (fun i => by rw [uR, if_neg (by omega)]) (fun k h => ?_) (fun q j _ _ _ h => ?_) (fun i => ?_) (fun i hi hc => ?_)
          · rw [uS q k (by omega) h3]; exact x7S q k (vcS q k h2 h1)
          · rw [uS q k (by omega) (by omega)]; exact x7S q k (by omega)
          · rw [uI q j (by omega)]; exact x7I q j (vcI q h1 h2)
          · rw [uI q j (by omega)]; exact x7I q j (by omega)
          · obtain ⟨v1, v2, v3, v4, v5, v6, v7⟩ := vmS k h
            rw [zS_pS, if_neg (by omega), zS_pI, zS_pI, zS_pI, y37 k v1]
            exact tS k h
          · rw [wI q j (by omega) (by omega) (by omega)]
            exact tI q j (by omega) (by omega) (by omega) (by omega) (by omega)
          · show zJ y 122 i = zJ t 122 i
            rw [yJ]; exact tJ i
          · rw [u8, n8] at hc
            by_cases z : i = r
            · refine ⟨zL s, by rw [uR, if_pos ⟨rfl, z⟩], ?_⟩
              subst z
              obtain ⟨o3, o4, o5⟩ := ord_b o1
              have ed : (a0 / 10).toInt = a0.toInt / 10 := by rw [jd10, if_pos o3]
              have emm : (a0 % 10).toInt = a0.toInt % 10 := by rw [jm10, if_pos o3]
              have w87 : zI (pS (pI (pI (pI y 87 i a0) 88 i (zS t' 59 1)) 89 i a1) 59 38 (zS t 59 38 + 1)) 87 i = a0 := by rw [zI_pS, zI_pI, if_neg (by omega), zI_pI, if_neg (by omega), zI_pI, if_pos ⟨rfl, rfl⟩]
              have w88 : zI (pS (pI (pI (pI y 87 i a0) 88 i (zS t' 59 1)) 89 i a1) 59 38 (zS t 59 38 + 1)) 88 i = zS t' 59 1 := by rw [zI_pS, zI_pI, if_neg (by omega), zI_pI, if_pos ⟨rfl, rfl⟩]
              have w89 : zI (pS (pI (pI (pI y 87 i a0) 88 i (zS t' 59 1)) 89 i a1) 59 38 (zS t 59 38 + 1)) 89 i = a1 := by rw [zI_pS, zI_pI, if_pos ⟨rfl, rfl⟩]
              obtain ⟨⟨s2, es2, Rd2, hk2⟩, Em1, Ly1, h90, h1l, hW, h9, _⟩ := TI
              have emr : mr (m0T t) = (i : Int) := by unfold mr; rw [e50, er]
              have eml : ml (m0T t) = 0 := by unfold ml; rw [e51]; rfl
              have exz : xz (x0T s) = 0 := by unfold xz x0T; rw [zS_pS, if_neg (by omega), zS_pS, if_neg (by omega), zS_pS, if_pos ⟨rfl, rfl⟩]; rfl
              have cz : (zS s6 24 3).toInt = (clL ls).length := by
                have := Em1.1
                rw [exz] at this
                unfold xz at this
                omega
              obtain ⟨⟨_, xn2, _⟩, _, _, _, xa2, _, _, ml2, _⟩ := Rd2
              have lm : ml t' = (mlL ls).length := by rw [Ly1.1, eml]; omega
              refine ⟨?_, ?_, ?_, ?_, ?_, ls, ?_, ?_, ?_, ?_, ?_, ?_, ?_, hW, ?_⟩
              · rw [w87]; exact ⟨o3, o4, o5⟩
              · rw [uF, w87]; exact ed
              · rw [uF, w87]; exact emm
              · rw [uF, w88, n1, ← eh]; rfl
              · rw [uF, w89]; rfl
              · rw [uN1, cz]; omega
              · have := gz.2
                rw [x243, jlt, cz, show (161 : Int32).toInt = 161 from rfl] at this
                omega
              · omega
              · intro j c hj
                rw [uC]
                have := Em1.2.2 j c hj
                rw [exz] at this
                rw [← this]
                congr 1
                omega
              · intro j c hj
                rw [wI 93 _ (by omega) (by omega) (by omega), wI 94 _ (by omega) (by omega) (by omega)]
                have := Ly1.2.2 j c hj
                rw [emr, eml, show (170 * (i : Int) + 0).toNat + j = 170 * i + j by omega] at this
                exact this
              · rw [wI 90 _ (by omega) (by omega) (by omega)]
                rw [emr, show ((i : Nat) : Int).toNat = i by omega] at h90
                exact h90
              · omega
              · intro k pr hk
                rw [wI 91 _ (by omega) (by omega) (by omega), wI 92 _ (by omega) (by omega) (by omega)]
                have := h9 k pr hk
                rw [emr, show (90 * (i : Int) + (k : Int)).toNat = 90 * i + k by omega] at this
                exact this
            · have hc' : (i : Int) < (zS s 0 8).toInt := by rw [e8, er]; omega
              obtain ⟨p, hp, X⟩ := T0 i hi hc'
              have op := S.2.2.2.2.2.1 i p hi hp
              have op1 := op.1
              have op2 := op.2.1
              refine ⟨p, by rw [uR, if_neg (fun w => z w.2)]; exact hp, old i p hi hc' hp X _ _ (fun k => ?_) (fun j => ?_) (uN _ (by omega)) (fun q hq => ?_) (fun q j h1 h2 => wI q j (by omega) (by omega) (by omega))⟩
              · rw [uS p k (by omega) (by omega)]; exact x7S p k (by omega)
              · rw [uI _ j (by omega)]; exact x7I _ j (by omega)
              · rw [wJ q i z]
                exact tI q i (by omega) (by omega) (by omega) (by omega) (by omega)
        · -- a fault
          refine Pc_iff (by rw [jlt, jl0]; omega) (Pc_some (Pc_jn ?_))
          have bad : ∀ w, (∀ q k, ¬ (q = 59 ∧ k = 48) → zS w q k = zS t' q k) → w.2 = t'.2 → zS w 59 48 = fx → Pc (st (pS w 59 37 0) fun s25 => (if (zS s25 59 48) < (0 : Int32) then (vl ((zS s25 59 38)) fun v27 => (gd (inB v27 16) (st (pI s25 87 (v27.toInt.toNat) a0) fun s29 => (vl ((zS s29 59 1)) fun v30 => (vl ((zS s29 59 38)) fun v31 => (gd (inB v31 16) (st (pI s29 88 (v31.toInt.toNat) v30) fun s33 => (vl ((zS s33 59 38)) fun v34 => (gd (inB v34 16) (st (pI s33 89 (v34.toInt.toNat) a1) fun s36 => (vl (((zS s36 59 38) + (1 : Int32))) fun v37 => (st (pS s36 59 38 v37) fun s38 => some (((zS s38 59 38) - (1 : Int32)), s38))))))))))))) else some ((((-100) : Int32) - (zS s25 59 48)), s25))) (fun m => Q4 s7 m.2) := by
            intro w w1 w2 w3
            have e48 : zS (pS w 59 37 0) 59 48 = fx := by rw [zS_pS, if_neg (by omega)]; exact w3
            refine Pc_st (Pc_iff (by rw [e48, jlt, jl0]; omega) (Pc_some (flt w w1 w2)))
          rcases O2 with q2 | ⟨q2, q3, q4⟩
          · exact Pc_iff (by rw [q2, jlt, jl0]; omega) (bad t' (fun _ _ _ => rfl) rfl q2)
          · refine Pc_ift (by rw [q2]; decide) (Pc_ift q3 (Pc_b1 ?_))
            unfold f_X12_faultHere
            refine Pc_ift (by rw [q2]; decide) (Pc_vl (Pc_st (Pc_some ?_)))
            exact bad (pS t' 59 48 (zS t' 59 47)) (fun q k h => by rw [zS_pS, if_neg h]) rfl (by rw [zS_pS, if_pos ⟨rfl, rfl⟩]; exact q4)
      · refine Pc_iff (by rw [jlt, j16]; exact f) (Pc_some ?_)
        have e : f_X12_text t a0 a1 = some (-3, t) := by
          unfold f_X12_text
          rw [o2, b1_some, if_neg (by decide), in_t (by rw [← eh, jl1699]; exact d), b1_some, if_neg (by decide), if_pos (by rw [← e8]; exact Int32.toInt_inj.1 (by rw [j16]; omega))]
        rw [e]
        exact Pc_some Q
    · have e : f_X12_text t a0 a1 = some (-1, t) := by
        unfold f_X12_text
        rw [o2, b1_some, if_neg (by decide), in_f (by rw [← eh, jl1699]; exact d), b1_some, if_pos rfl]
      rw [e]
      refine Pc_lt (fun _ => Pc_some (Pc_some Q)) (fun z => Pc_lt (fun _ => Pc_some (Pc_some Q)) (fun w => ?_))
      rw [jl1699] at w
      exact absurd ⟨z, w⟩ d
  · have e : f_X12_text t a0 a1 = some (-1, t) := by
      unfold f_X12_text
      rw [o2, b1_some, if_pos rfl]
    rw [o1, e]
    exact Pc_b1S (Pc_if00 (Pc_some (Pc_some Q)))
end TXs
/-! WHAT THE READERS ANSWER -/
section VLs
variable {s t : SS}
theorem hsp (B : B1 s t) (a : Int32) : hO s a = none ∨ ∃ n p, a.toInt = (n : Nat) ∧ n < 120 ∧ zR s 17 n = some p ∧ hO s a = some p ∧ (n : Int) < (zS s 15 3).toInt := by
  have b := B.1.tot
  unfold hO
  by_cases d : 0 ≤ a.toInt ∧ a.toInt < (zS s 15 3).toInt
  · rw [if_pos d]
    cases hp : zR s 17 a.toInt.toNat with
    | none => exact Or.inl rfl
    | some p => exact Or.inr ⟨a.toInt.toNat, p, by omega, by omega, hp, rfl, by omega⟩
  · rw [if_neg d]
    exact Or.inl rfl
theorem snn {p : Nat} : ¬ (some p : Option Nat) = none := fun z => by cases z
theorem V_below (Q : Q4 s t) (a0 : Int32) : Pc (f_X11_below s a0) fun x => Pc (f_X12_below t a0) fun m => x = m := by
  have j9 : (9 : Int32).toInt = 9 := rfl
  unfold f_X11_below f_X12_below
  by_cases c : 0 ≤ a0.toInt ∧ a0.toInt ≤ 9
  · rw [in_t (by rw [jl0, j9]; exact c)]
    exact Pc_iff (by rw [jlt, jl0]; omega) (Pc_iff (by rw [jlt, j9]; omega) (Pc_if (fun z => Pc_some (Pc_b1S (Pc_if10 (Pc_ift z (Pc_some Q.2.2.2.2.1.1))))) (fun z => Pc_gd (fun _ => Pc_some (Pc_b1S (Pc_if10 (Pc_iff z (Pc_gd (fun _ => Pc_some (Q.2.2.2.2.1.2.2.2.1 _))))))))))
  · rw [in_f (by rw [jl0, j9]; exact c)]
    refine Pc_lt (fun _ => Pc_some (Pc_b1S (Pc_if00 (Pc_some rfl)))) (fun z => Pc_lt (fun _ => Pc_some (Pc_b1S (Pc_if00 (Pc_some rfl)))) (fun w => ?_))
    rw [jl0] at z
    rw [j9] at w
    exact absurd ⟨z, w⟩ c
theorem V_up (B : B1 s t) (Q : Q4 s t) (a0 a1 : Int32) : Pc (f_X11_up s a0 a1) fun x => Pc (f_X12_up t a0 a1) fun m => x = m := by
  have h10 : (zS s 6 10).toInt ≤ 120 := (B.1.fx (q := 6) (k := 10) (by omega) : 0 ≤ (zS s 6 10).toInt ∧ (zS s 6 10).toInt ≤ 120).2
  unfold f_X11_up f_X12_up
  have M0 : ∀ K : Option Int32, ¬ ((0 : Int32).toInt ≤ a0.toInt ∧ a0.toInt ≤ (zS t 59 82 - 1).toInt) → Pc (b1 (f_X12_in a0 0 (zS t 59 82 - 1)) fun r1 => if r1 = 0 then some (-1) else K) (fun m => (-1 : Int32) = m) := fun K h => by
    rw [in_f h]
    exact Pc_b1S (Pc_if00 (Pc_some rfl))
  rcases Q.2.2.2.2.2.2.2.1 with ⟨l1, l2⟩ | ⟨l1, l2, l3, l4, l5, l6⟩
  · have e : (zS t 59 82 - 1).toInt = -2 := by rw [l2]; rfl
    refine Pc_lt (fun z => Pc_some (M0 _ (by rw [jl0] at z ⊢; omega))) (fun z => Pc_lt (fun w => ?_) (fun w => Pc_some (M0 _ (by rw [e, jl0]; omega))))
    rw [l1, jl0] at w
    rw [jl0] at z
    omega
  · have e : (zS t 59 82 - 1).toInt = (zS s 6 10).toInt - 1 := by rw [← l2, i32_sub (by rw [jl1]; omega) (by rw [jl1]; omega), jl1]
    refine Pc_lt (fun z => Pc_some (M0 _ (by rw [jl0] at z ⊢; omega))) (fun z => Pc_lt (fun w => ?_) (fun w => Pc_some (M0 _ (by rw [e]; omega))))
    rw [jl0] at z
    rw [in_t (a := a0) (by rw [jl0, e]; omega)]
    by_cases c : 0 ≤ a1.toInt ∧ a1.toInt ≤ 1
    · rw [in_t (a := a1) (by rw [jl0, jl1]; exact c)]
      obtain ⟨m1, m2⟩ := l6 a0.toInt.toNat (by omega) (by omega)
      refine Pc_iff (by rw [jlt, jl0]; omega) (Pc_iff (by rw [jlt, jl1]; omega) (Pc_if (fun y => Pc_gd (fun _ => Pc_some (Pc_b1S (Pc_if10 (Pc_b1S (Pc_if10 (Pc_ift y (Pc_gd (fun _ => Pc_some m1))))))))) (fun y => ?_)))
      unfold f_X2_upAt
      refine Pc_b1S (Pc_some (Pc_b1S (Pc_if10 (Pc_b1S (Pc_if10 (Pc_iff y (Pc_gd (fun _ => Pc_some (Int32.toInt_inj.1 ?_)))))))))
      have n1 : (a0 + 1).toInt = a0.toInt + 1 := by rw [i32_add (by rw [jl1]; omega) (by rw [jl1]; omega), jl1]
      have pb : 0 ≤ (a0.toInt + 1) * (zS s 6 12).toInt ∧ (a0.toInt + 1) * (zS s 6 12).toInt ≤ 480 := by
        have h12 : (zS s 6 12).toInt = 1 ∨ (zS s 6 12).toInt = 2 ∨ (zS s 6 12).toInt = 3 ∨ (zS s 6 12).toInt = 4 := by omega
        rcases h12 with w | w | w | w <;> rw [w] <;> omega
      have mu : ((a0 + 1) * zS s 6 12).toInt = (a0.toInt + 1) * (zS s 6 12).toInt := by rw [i32_mul (by rw [n1]; omega) (by rw [n1]; omega), n1]
      rw [i32_add (by rw [mu]; omega) (by rw [mu]; omega), mu, m2, show ((a0.toInt.toNat : Nat) : Int) = a0.toInt by omega]
    · rw [in_f (a := a1) (by rw [jl0, jl1]; exact c)]
      refine Pc_lt (fun _ => Pc_some (Pc_b1S (Pc_if10 (Pc_b1S (Pc_if00 (Pc_some rfl)))))) (fun y => Pc_lt (fun _ => Pc_some (Pc_b1S (Pc_if10 (Pc_b1S (Pc_if00 (Pc_some rfl)))))) (fun x => ?_))
      rw [jl0] at y
      rw [jl1] at x
      exact absurd ⟨y, x⟩ c
theorem V_met (B : B1 s t) (Q : Q4 s t) (a0 a1 : Int32) : Pc (f_X11_met s a0 a1) fun x => Pc (f_X12_met t a0 a1) fun m => x = m := by
  unfold f_X11_met f_X12_met
  rw [holeOfX B, isHoleO B]
  rcases hsp B a0 with c | ⟨n, p, ha, hn, hp, ho, hl⟩
  · rw [c, if_pos rfl]
    exact Pc_b1S (Pc_onN (Pc_some (Pc_b1S (Pc_if00 (Pc_some rfl)))))
  · rw [ho, if_neg snn]
    obtain ⟨x0, x1, x2, x3, x4, x5, x6, x7, x8⟩ := Q.1.1 n p hn hp
    have en : a0.toInt.toNat = n := by omega
    have b4 := B.1.h4 (B.1.sh.2.2.1 _ _ hn hp)
    rw [en, ← x4]
    refine Pc_b1S (Pc_onS ?_)
    by_cases c : 1 ≤ a1.toInt ∧ a1.toInt ≤ (zS s p 4).toInt
    · rw [in_t (a := a1) (by rw [jl1]; exact c)]
      refine Pc_iff (by rw [jlt, jl1]; omega) (Pc_iff (by rw [jlt]; omega) (Pc_gd (fun _ => Pc_some (Pc_b1S (Pc_if10 (Pc_gd (fun _ => Pc_b1S (Pc_if10 (Pc_vl (Pc_gd (fun _ => Pc_some ?_)))))))))))
      have e : ((61 : Int32) * a0 + a1).toInt.toNat = 61 * n + a1.toInt.toNat := by rw [ix61 ha hn (by omega)]; omega
      rw [e]
      exact (x8 a1.toInt.toNat (by omega) (by omega)).2.1
    · rw [in_f (a := a1) (by rw [jl1]; exact c)]
      refine Pc_lt (fun _ => Pc_some (Pc_b1S (Pc_if10 (Pc_gd (fun _ => Pc_b1S (Pc_if00 (Pc_some rfl))))))) (fun z => Pc_lt (fun _ => Pc_some (Pc_b1S (Pc_if10 (Pc_gd (fun _ => Pc_b1S (Pc_if00 (Pc_some rfl))))))) (fun w => ?_))
      rw [jl1] at z
      exact absurd ⟨z, w⟩ c
theorem hourXM (a : Int32) : f_X11_isHour a = f_X12_isHour a := by
  unfold f_X11_isHour f_X12_isHour
  by_cases c : 0 ≤ a.toInt ∧ a.toInt ≤ 1699
  · rw [in_t (by rw [jl0, jl1699]; exact c), if_neg (by rw [jlt, jl0]; omega), if_neg (by rw [jlt, jl1699]; omega), b1_some]
  · rw [in_f (by rw [jl0, jl1699]; exact c), b1_some]
    by_cases d : a < 0
    · rw [if_pos d]
    · rw [if_neg d, if_pos (by rw [jlt, jl1699]; rw [jlt, jl0] at d; omega)]
theorem V_inForce (B : B1 s t) (Q : Q4 s t) (a0 a1 a2 : Int32) : Pc (f_X11_inForce s a0 a1 a2) fun x => Pc (f_X12_inForce t a0 a1 a2) fun m => x = m := by
  unfold f_X11_inForce f_X12_inForce
  rw [hourXM, hourXM]
  rcases ord_l (a := a0) with ⟨o1, o2⟩ | ⟨o1, o2⟩
  · rw [o1, o2]
    obtain ⟨o3, o4, o5⟩ := ord_b o1
    refine Pc_b1S (Pc_if10 (Pc_b1 (fun r3 e3 => ?_)))
    rw [e3]
    refine Pc_if (fun z => Pc_some (Pc_b1S (Pc_if10 (Pc_b1S (Pc_ift z (Pc_some rfl)))))) (fun z => Pc_b1 (fun r5 e5 => ?_))
    rw [e5]
    refine Pc_if (fun y => Pc_some (Pc_b1S (Pc_if10 (Pc_b1S (Pc_iff z (Pc_b1S (Pc_ift y (Pc_some rfl)))))))) (fun y => Pc_b1 ?_)
    refine Pc.mono (frc_p (w := a0) B (Q4h.w Q) ⟨o3, o4⟩ (by rw [jd10, if_pos o3]) (by rw [jm10, if_pos o3])) (fun r hr => Pc_some ?_)
    exact Pc_b1S (Pc_if10 (Pc_b1S (Pc_iff z (Pc_b1S (Pc_iff y (Pc_b1 (Pc.mono hr (fun r' h => Pc_some h.1.symm))))))))
  · rw [o1, o2]
    exact Pc_b1S (Pc_if00 (Pc_some (Pc_b1S (Pc_if00 (Pc_some rfl)))))
theorem manMM (B : B1 s t) (a : Int32) : f_X12_isMan t a = some (if (0 ≤ a.toInt ∧ a.toInt < (zS s 15 3).toInt) ∧ zI s 16 a.toInt.toNat = 7 then 1 else 0) := by
  have b := B.1.tot
  unfold f_X12_isMan
  rw [bodyM B]
  by_cases c : 0 ≤ a.toInt ∧ a.toInt < (zS s 15 3).toInt
  · rw [if_pos c, b1_some, if_neg n10, gd_t ⟨c.1, by omega⟩, ← B.1.kd]
    by_cases d : zI s 16 a.toInt.toNat = 7
    · rw [if_pos d, if_pos ⟨c, d⟩]
    · rw [if_neg d, if_neg (fun z => d z.2)]
  · rw [if_neg c, b1_some, if_pos rfl, if_neg (fun z => c z.1)]
theorem V_says (J : Iv t) (B : B1 s t) (Q : Q4 s t) (a0 a1 : Int32) : Pc (f_X11_says s a0 a1) fun x => Pc (f_X12_says t a0 a1) fun m => x.1 = m.1 := by
  unfold f_X11_says f_X12_says
  rcases ord_l (a := a0) with ⟨o1, o2⟩ | ⟨o1, o2⟩
  · rw [o1, o2]
    obtain ⟨o3, o4, o5⟩ := ord_b o1
    have em : (a0 % 10).toInt = a0.toInt % 10 := by rw [jm10, if_pos o3]
    refine Pc_b1S (Pc_if10 (Pc_vl ?_))
    -- what is said, where it may be asked
    have key : (a1.toInt < 0 ∨ (0 ≤ a1.toInt ∧ a1.toInt < (zS s 15 3).toInt ∧ zI s 16 a1.toInt.toNat = 7)) → ∀ K : Option (Int32 × SS) → Option (Int32 × SS), (∀ k R, Pc k R → Pc (K k) R) → Pc (b1 (f_X11_latestText s (a0 / 10) (a0 % 10) (zS s 0 14) (zS s 0 14)) fun r5 => (bd (f_X11_given s r5 (a0 % 10) a1) fun r6 s6 => some (r6, s6))) (fun x => Pc (b1 (some (1 : Int32)) fun r1 => (if r1 = (0 : Int32) then some ((-2000000000), t) else (jn ((jn (fun (t4_0 : Int32) => (bd (f_X12_saysNow t a0 a1 t4_0) fun r5 s5 => some (r5, s5))) fun k4 => (if (a0 % (10 : Int32)) = (0 : Int32) then (k4 1) else (k4 0)))) fun k3 => K k3))) (fun m => x.1 = m.1)) := by
      intro hm K hK
      refine Pc_b1 (fun r5 e5 => Pc_bd ?_)
      obtain ⟨r', ef, -⟩ := w_X12_forceOf (a0 := a0) (a1 := zS s 0 14) (a2 := zS s 0 14) (Lk.rf J)
      obtain ⟨g1, g2⟩ := frc_p (w := a0) B (Q4h.w Q) ⟨o3, o4⟩ (by rw [jd10, if_pos o3]) em r5 e5 r' ef
      refine Pc.mono (gv_p (w := a0) (wo := if a0 % 10 = 0 then 1 else 0) B (Q4h.w Q) rfl hm g2 (fun r'' er => by rw [← B.2.1.1, ef] at er; exact (Option.some.inj er).symm.trans g1)) (fun x hx => Pc_some (Pc_b1S (Pc_if10 (Pc_jn (hK _ _ (Pc_jn ?_))))))
      by_cases z : a0 % 10 = 0
      · rw [if_pos z] at hx
        exact Pc_ift z (Pc_bd (Pc.mono hx (fun m hm => Pc_some hm.symm)))
      · rw [if_neg z] at hx
        exact Pc_iff z (Pc_bd (Pc.mono hx (fun m hm => Pc_some hm.symm)))
    rw [manMM B]
    refine Pc_jn (Pc_if (fun z2 => Pc_if (fun z1 => ?_) (fun z1 => Pc_some (Pc_b1S (Pc_if10 (Pc_jn (Pc_ift z2 (Pc_iff z1 (Pc_some rfl)))))))) (fun z2 => ?_))
    · exact key (Or.inl (by rw [z1]; decide)) (fun k3 => if a0 % 10 = 2 then (if a1 = -1 then k3 else some (-2000000000, t)) else b1 (some (if (0 ≤ a1.toInt ∧ a1.toInt < (zS s 15 3).toInt) ∧ zI s 16 a1.toInt.toNat = 7 then (1 : Int32) else 0)) fun r8 => if r8 = 0 then some (-2000000000, t) else k3) (fun k R hk => Pc_ift z2 (Pc_ift z1 hk))
    · by_cases d : 0 ≤ a1.toInt ∧ a1.toInt < (zS s 15 3).toInt
      · rw [kindX B d]
        refine Pc_b1S (Pc_if (fun z7 => ?_) (fun z7 => ?_))
        · exact key (Or.inr ⟨d.1, d.2, z7⟩) (fun k3 => if a0 % 10 = 2 then (if a1 = -1 then k3 else some (-2000000000, t)) else b1 (some (if (0 ≤ a1.toInt ∧ a1.toInt < (zS s 15 3).toInt) ∧ zI s 16 a1.toInt.toNat = 7 then (1 : Int32) else 0)) fun r8 => if r8 = 0 then some (-2000000000, t) else k3) (fun k R hk => by
            refine Pc_iff z2 ?_
            rw [if_pos ⟨d, z7⟩]
            exact Pc_b1S (Pc_if10 hk))
        · rw [if_neg (fun z => z7 z.2)]
          exact Pc_some (Pc_b1S (Pc_if10 (Pc_jn (Pc_iff z2 (Pc_b1S (Pc_if00 (Pc_some rfl)))))))
      · rw [kindXf d, if_neg (fun z => d z.1)]
        exact Pc_b1S (Pc_iff (by decide) (Pc_some (Pc_b1S (Pc_if10 (Pc_jn (Pc_iff z2 (Pc_b1S (Pc_if00 (Pc_some rfl)))))))))
  · rw [o1, o2]
    exact Pc_b1S (Pc_if00 (Pc_some (Pc_b1S (Pc_if00 (Pc_some rfl)))))
theorem V_ofBody (I : Iv s) (B : B1 s t) (Q : Q4 s t) (h9 : zS t 59 25 = 0 ∨ zS t 59 25 = 1) (a0 a1 : Int32) : Pc (f_X11_ofBody s a0 a1) fun x => Pc (f_X12_ofBody t a0 a1) fun m => x = m := by
  have b := B.1.tot
  unfold f_X11_ofBody f_X12_ofBody
  rw [holeOfX B, isHoleO B, bodyM B]
  by_cases d : 0 ≤ a0.toInt ∧ a0.toInt < (zS s 15 3).toInt
  · rw [kindX B d, if_pos d]
    have hn : a0.toInt.toNat < 120 := by omega
    have ek : zI s 16 a0.toInt.toNat = zI t 62 a0.toInt.toNat := B.1.kd _
    have k7 : 0 ≤ (zI s 16 a0.toInt.toNat).toInt ∧ (zI s 16 a0.toInt.toNat).toInt ≤ 7 := I.1.a (q := 16) rfl
    rw [← ek]
    refine Pc_b1S (Pc_iff (by rw [jlt, jl0]; omega) ?_)
    by_cases z : a1 = 0
    · exact Pc_ift z (Pc_some (Pc_b1S (Pc_if10 (Pc_ift z (Pc_gd (fun _ => Pc_some rfl))))))
    refine Pc_iff z (Pc_b1S ?_)
    rcases hsp B a0 with c | ⟨n, p, ha, hn', hp, ho, hl⟩
    · rw [c, if_pos rfl]
      refine Pc_onN ?_
      by_cases k6 : zI s 16 a0.toInt.toNat = 6
      · obtain ⟨r1, r2, r3, r4, _⟩ := Q.2.2.2.2.2.1
        unfold f_X0_ofRefuge
        by_cases y1 : a1 = 1
        · subst y1
          repeat' (first
            | with_reducible refine Pc_bdS ?_
            | with_reducible refine Pc_b1S ?_
            | with_reducible refine Pc_onS ?_
            | with_reducible refine Pc_onN ?_
            | with_reducible refine Pc_ift (by assumption) ?_
            | with_reducible refine Pc_iff (by assumption) ?_
            | with_reducible refine Pc_ift (by decide) ?_
            | with_reducible refine Pc_iff (by decide) ?_
            | with_reducible refine Pc_gd (fun _ => ?_)
            | with_reducible refine Pc_vl ?_
            | with_reducible refine Pc_b1 ?_
            | with_reducible refine Pc_some ?_)
          exact r1
        by_cases y2 : a1 = 2
        · subst y2
          repeat' (first
            | with_reducible refine Pc_bdS ?_
            | with_reducible refine Pc_b1S ?_
            | with_reducible refine Pc_onS ?_
            | with_reducible refine Pc_onN ?_
            | with_reducible refine Pc_ift (by assumption) ?_
            | with_reducible refine Pc_iff (by assumption) ?_
            | with_reducible refine Pc_ift (by decide) ?_
            | with_reducible refine Pc_iff (by decide) ?_
            | with_reducible refine Pc_gd (fun _ => ?_)
            | with_reducible refine Pc_vl ?_
            | with_reducible refine Pc_b1 ?_
            | with_reducible refine Pc_some ?_)
          exact r2
        by_cases y3 : a1 = 3
        · subst y3
          repeat' (first
            | with_reducible refine Pc_bdS ?_
            | with_reducible refine Pc_b1S ?_
            | with_reducible refine Pc_onS ?_
            | with_reducible refine Pc_onN ?_
            | with_reducible refine Pc_ift (by assumption) ?_
            | with_reducible refine Pc_iff (by assumption) ?_
            | with_reducible refine Pc_ift (by decide) ?_
            | with_reducible refine Pc_iff (by decide) ?_
            | with_reducible refine Pc_gd (fun _ => ?_)
            | with_reducible refine Pc_vl ?_
            | with_reducible refine Pc_b1 ?_
            | with_reducible refine Pc_some ?_)
          exact r3
        by_cases y4 : a1 = 4
        · subst y4
          rcases h9 with w | w
          · rw [w] at r4 ⊢
            repeat' (first
              | with_reducible refine Pc_bdS ?_
              | with_reducible refine Pc_b1S ?_
              | with_reducible refine Pc_onS ?_
              | with_reducible refine Pc_onN ?_
              | with_reducible refine Pc_ift (by assumption) ?_
              | with_reducible refine Pc_iff (by assumption) ?_
              | with_reducible refine Pc_ift (by decide) ?_
              | with_reducible refine Pc_iff (by decide) ?_
              | with_reducible refine Pc_gd (fun _ => ?_)
              | with_reducible refine Pc_vl ?_
              | with_reducible refine Pc_b1 ?_
              | with_reducible refine Pc_some ?_)
            exact r4
          · rw [w] at r4 ⊢
            repeat' (first
              | with_reducible refine Pc_bdS ?_
              | with_reducible refine Pc_b1S ?_
              | with_reducible refine Pc_onS ?_
              | with_reducible refine Pc_onN ?_
              | with_reducible refine Pc_ift (by assumption) ?_
              | with_reducible refine Pc_iff (by assumption) ?_
              | with_reducible refine Pc_ift (by decide) ?_
              | with_reducible refine Pc_iff (by decide) ?_
              | with_reducible refine Pc_gd (fun _ => ?_)
              | with_reducible refine Pc_vl ?_
              | with_reducible refine Pc_b1 ?_
              | with_reducible refine Pc_some ?_)
            exact r4
        repeat' (first
          | with_reducible refine Pc_bdS ?_
          | with_reducible refine Pc_b1S ?_
          | with_reducible refine Pc_onS ?_
          | with_reducible refine Pc_onN ?_
          | with_reducible refine Pc_ift (by assumption) ?_
          | with_reducible refine Pc_iff (by assumption) ?_
          | with_reducible refine Pc_ift (by decide) ?_
          | with_reducible refine Pc_iff (by decide) ?_
          | with_reducible refine Pc_gd (fun _ => ?_)
          | with_reducible refine Pc_vl ?_
          | with_reducible refine Pc_b1 ?_
          | with_reducible refine Pc_some ?_)
        exact rfl
      · by_cases k7 : zI s 16 a0.toInt.toNat = 7
        · obtain ⟨m1, m2, m3, m4, _⟩ := Q.2.1.1 _ hn
          have m9 : zI s 9 a0.toInt.toNat = zI t 76 a0.toInt.toNat := B.1.2.2.1 _
          have j120 : (120 : Int32).toInt = 120 := rfl
          have lt0 : ¬ a0 < 0 := by rw [jlt, jl0]; omega
          have lt1 : a0 < 120 := by rw [jlt, j120]; omega
          unfold f_X2_ofMan
          by_cases y1 : a1 = 1
          · subst y1
            repeat' (first
              | with_reducible refine Pc_bdS ?_
              | with_reducible refine Pc_b1S ?_
              | with_reducible refine Pc_onS ?_
              | with_reducible refine Pc_onN ?_
              | with_reducible refine Pc_ift (by assumption) ?_
              | with_reducible refine Pc_iff (by assumption) ?_
              | with_reducible refine Pc_ift (by decide) ?_
              | with_reducible refine Pc_iff (by decide) ?_
              | with_reducible refine Pc_gd (fun _ => ?_)
              | with_reducible refine Pc_vl ?_
              | with_reducible refine Pc_b1 ?_
              | with_reducible refine Pc_some ?_)
            exact m1
          by_cases y2 : a1 = 2
          · subst y2
            repeat' (first
              | with_reducible refine Pc_bdS ?_
              | with_reducible refine Pc_b1S ?_
              | with_reducible refine Pc_onS ?_
              | with_reducible refine Pc_onN ?_
              | with_reducible refine Pc_ift (by assumption) ?_
              | with_reducible refine Pc_iff (by assumption) ?_
              | with_reducible refine Pc_ift (by decide) ?_
              | with_reducible refine Pc_iff (by decide) ?_
              | with_reducible refine Pc_gd (fun _ => ?_)
              | with_reducible refine Pc_vl ?_
              | with_reducible refine Pc_b1 ?_
              | with_reducible refine Pc_some ?_)
            exact m2
          by_cases y3 : a1 = 3
          · subst y3
            repeat' (first
              | with_reducible refine Pc_bdS ?_
              | with_reducible refine Pc_b1S ?_
              | with_reducible refine Pc_onS ?_
              | with_reducible refine Pc_onN ?_
              | with_reducible refine Pc_ift (by assumption) ?_
              | with_reducible refine Pc_iff (by assumption) ?_
              | with_reducible refine Pc_ift (by decide) ?_
              | with_reducible refine Pc_iff (by decide) ?_
              | with_reducible refine Pc_gd (fun _ => ?_)
              | with_reducible refine Pc_vl ?_
              | with_reducible refine Pc_b1 ?_
              | with_reducible refine Pc_some ?_)
            exact m9
          by_cases y4 : a1 = 4
          · subst y4
            rw [← m3]
            rcases m4 with w | w
            · rw [w]
              repeat' (first
                | with_reducible refine Pc_bdS ?_
                | with_reducible refine Pc_b1S ?_
                | with_reducible refine Pc_onS ?_
                | with_reducible refine Pc_onN ?_
                | with_reducible refine Pc_ift (by assumption) ?_
                | with_reducible refine Pc_iff (by assumption) ?_
                | with_reducible refine Pc_ift (by decide) ?_
                | with_reducible refine Pc_iff (by decide) ?_
                | with_reducible refine Pc_gd (fun _ => ?_)
                | with_reducible refine Pc_vl ?_
                | with_reducible refine Pc_b1 ?_
                | with_reducible refine Pc_some ?_)
              exact rfl
            · rw [w]
              repeat' (first
                | with_reducible refine Pc_bdS ?_
                | with_reducible refine Pc_b1S ?_
                | with_reducible refine Pc_onS ?_
                | with_reducible refine Pc_onN ?_
                | with_reducible refine Pc_ift (by assumption) ?_
                | with_reducible refine Pc_iff (by assumption) ?_
                | with_reducible refine Pc_ift (by decide) ?_
                | with_reducible refine Pc_iff (by decide) ?_
                | with_reducible refine Pc_gd (fun _ => ?_)
                | with_reducible refine Pc_vl ?_
                | with_reducible refine Pc_b1 ?_
                | with_reducible refine Pc_some ?_)
              exact rfl
          repeat' (first
            | with_reducible refine Pc_bdS ?_
            | with_reducible refine Pc_b1S ?_
            | with_reducible refine Pc_onS ?_
            | with_reducible refine Pc_onN ?_
            | with_reducible refine Pc_ift (by assumption) ?_
            | with_reducible refine Pc_iff (by assumption) ?_
            | with_reducible refine Pc_ift (by decide) ?_
            | with_reducible refine Pc_iff (by decide) ?_
            | with_reducible refine Pc_gd (fun _ => ?_)
            | with_reducible refine Pc_vl ?_
            | with_reducible refine Pc_b1 ?_
            | with_reducible refine Pc_some ?_)
          exact rfl
        · skip
          repeat' (first
            | with_reducible refine Pc_bdS ?_
            | with_reducible refine Pc_b1S ?_
            | with_reducible refine Pc_onS ?_
            | with_reducible refine Pc_onN ?_
            | with_reducible refine Pc_ift (by assumption) ?_
            | with_reducible refine Pc_iff (by assumption) ?_
            | with_reducible refine Pc_ift (by decide) ?_
            | with_reducible refine Pc_iff (by decide) ?_
            | with_reducible refine Pc_gd (fun _ => ?_)
            | with_reducible refine Pc_vl ?_
            | with_reducible refine Pc_b1 ?_
            | with_reducible refine Pc_some ?_)
          exact rfl
    · rw [ho, if_neg snn]
      have en : a0.toInt.toNat = n := by omega
      obtain ⟨x0, x1, x2, x3, x4, x5, x6, x7, x8⟩ := Q.1.1 n p hn' hp
      rw [en]
      refine Pc_onS ?_
      unfold f_X3_told
      by_cases y1 : a1 = 1
      · subst y1
        repeat' (first
          | with_reducible refine Pc_bdS ?_
          | with_reducible refine Pc_b1S ?_
          | with_reducible refine Pc_onS ?_
          | with_reducible refine Pc_onN ?_
          | with_reducible refine Pc_ift (by assumption) ?_
          | with_reducible refine Pc_iff (by assumption) ?_
          | with_reducible refine Pc_ift (by decide) ?_
          | with_reducible refine Pc_iff (by decide) ?_
          | with_reducible refine Pc_gd (fun _ => ?_)
          | with_reducible refine Pc_vl ?_
          | with_reducible refine Pc_b1 ?_
          | with_reducible refine Pc_some ?_)
        exact x0
      by_cases y2 : a1 = 2
      · subst y2
        repeat' (first
          | with_reducible refine Pc_bdS ?_
          | with_reducible refine Pc_b1S ?_
          | with_reducible refine Pc_onS ?_
          | with_reducible refine Pc_onN ?_
          | with_reducible refine Pc_ift (by assumption) ?_
          | with_reducible refine Pc_iff (by assumption) ?_
          | with_reducible refine Pc_ift (by decide) ?_
          | with_reducible refine Pc_iff (by decide) ?_
          | with_reducible refine Pc_gd (fun _ => ?_)
          | with_reducible refine Pc_vl ?_
          | with_reducible refine Pc_b1 ?_
          | with_reducible refine Pc_some ?_)
        exact x1
      by_cases y3 : a1 = 3
      · subst y3
        repeat' (first
          | with_reducible refine Pc_bdS ?_
          | with_reducible refine Pc_b1S ?_
          | with_reducible refine Pc_onS ?_
          | with_reducible refine Pc_onN ?_
          | with_reducible refine Pc_ift (by assumption) ?_
          | with_reducible refine Pc_iff (by assumption) ?_
          | with_reducible refine Pc_ift (by decide) ?_
          | with_reducible refine Pc_iff (by decide) ?_
          | with_reducible refine Pc_gd (fun _ => ?_)
          | with_reducible refine Pc_vl ?_
          | with_reducible refine Pc_b1 ?_
          | with_reducible refine Pc_some ?_)
        exact x4
      by_cases y4 : a1 = 4
      · subst y4
        repeat' (first
          | with_reducible refine Pc_bdS ?_
          | with_reducible refine Pc_b1S ?_
          | with_reducible refine Pc_onS ?_
          | with_reducible refine Pc_onN ?_
          | with_reducible refine Pc_ift (by assumption) ?_
          | with_reducible refine Pc_iff (by assumption) ?_
          | with_reducible refine Pc_ift (by decide) ?_
          | with_reducible refine Pc_iff (by decide) ?_
          | with_reducible refine Pc_gd (fun _ => ?_)
          | with_reducible refine Pc_vl ?_
          | with_reducible refine Pc_b1 ?_
          | with_reducible refine Pc_some ?_)
        exact x2
      by_cases y5 : a1 = 5
      · subst y5
        rw [x6]
        by_cases th : 0 < (zI t 69 n).toInt
        · have th' : (0 : Int32) < zI t 69 n := by rw [jlt, jl0]; exact th
          rw [if_pos th]
          repeat' (first
            | with_reducible refine Pc_bdS ?_
            | with_reducible refine Pc_b1S ?_
            | with_reducible refine Pc_onS ?_
            | with_reducible refine Pc_onN ?_
            | with_reducible refine Pc_ift (by assumption) ?_
            | with_reducible refine Pc_iff (by assumption) ?_
            | with_reducible refine Pc_ift (by decide) ?_
            | with_reducible refine Pc_iff (by decide) ?_
            | with_reducible refine Pc_gd (fun _ => ?_)
            | with_reducible refine Pc_vl ?_
            | with_reducible refine Pc_b1 ?_
            | with_reducible refine Pc_some ?_)
          exact rfl
        · have th' : ¬ (0 : Int32) < zI t 69 n := by rw [jlt, jl0]; exact th
          rw [if_neg th]
          repeat' (first
            | with_reducible refine Pc_bdS ?_
            | with_reducible refine Pc_b1S ?_
            | with_reducible refine Pc_onS ?_
            | with_reducible refine Pc_onN ?_
            | with_reducible refine Pc_ift (by assumption) ?_
            | with_reducible refine Pc_iff (by assumption) ?_
            | with_reducible refine Pc_ift (by decide) ?_
            | with_reducible refine Pc_iff (by decide) ?_
            | with_reducible refine Pc_gd (fun _ => ?_)
            | with_reducible refine Pc_vl ?_
            | with_reducible refine Pc_b1 ?_
            | with_reducible refine Pc_some ?_)
          exact rfl
      by_cases y6 : a1 = 6
      · subst y6
        repeat' (first
          | with_reducible refine Pc_bdS ?_
          | with_reducible refine Pc_b1S ?_
          | with_reducible refine Pc_onS ?_
          | with_reducible refine Pc_onN ?_
          | with_reducible refine Pc_ift (by assumption) ?_
          | with_reducible refine Pc_iff (by assumption) ?_
          | with_reducible refine Pc_ift (by decide) ?_
          | with_reducible refine Pc_iff (by decide) ?_
          | with_reducible refine Pc_gd (fun _ => ?_)
          | with_reducible refine Pc_vl ?_
          | with_reducible refine Pc_b1 ?_
          | with_reducible refine Pc_some ?_)
        exact x5
      by_cases y7 : a1 = 7
      · subst y7
        repeat' (first
          | with_reducible refine Pc_bdS ?_
          | with_reducible refine Pc_b1S ?_
          | with_reducible refine Pc_onS ?_
          | with_reducible refine Pc_onN ?_
          | with_reducible refine Pc_ift (by assumption) ?_
          | with_reducible refine Pc_iff (by assumption) ?_
          | with_reducible refine Pc_ift (by decide) ?_
          | with_reducible refine Pc_iff (by decide) ?_
          | with_reducible refine Pc_gd (fun _ => ?_)
          | with_reducible refine Pc_vl ?_
          | with_reducible refine Pc_b1 ?_
          | with_reducible refine Pc_some ?_)
        exact x3
      repeat' (first
        | with_reducible refine Pc_bdS ?_
        | with_reducible refine Pc_b1S ?_
        | with_reducible refine Pc_onS ?_
        | with_reducible refine Pc_onN ?_
        | with_reducible refine Pc_ift (by assumption) ?_
        | with_reducible refine Pc_iff (by assumption) ?_
        | with_reducible refine Pc_ift (by decide) ?_
        | with_reducible refine Pc_iff (by decide) ?_
        | with_reducible refine Pc_gd (fun _ => ?_)
        | with_reducible refine Pc_vl ?_
        | with_reducible refine Pc_b1 ?_
        | with_reducible refine Pc_some ?_)
      exact rfl
  · rw [kindXf d, if_neg d]
    exact Pc_b1S (Pc_ift (by decide) (Pc_some (Pc_b1S (Pc_if00 (Pc_some rfl)))))
end VLs
