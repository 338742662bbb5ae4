/-! RAISE -/
section RSs
variable {s t s0 t0 : SS}
theorem QMen.dn {m : Nat} {b : Int32} (R : QMen s t) (hm : m < 120) (h : zI s 10 m = 1) (hb : b = 0) : QMen (pS (pI s 10 m 0) 6 4 (zS (pI s 10 m 0) 6 4 - 1)) (pI t 77 m b) := by
  obtain ⟨R1, R2⟩ := R
  refine ⟨fun i hi => ?_, ?_⟩
  · obtain ⟨m1, m2, m3, m4, m5⟩ := R1 i hi
    have e7 : ∀ q, q ≠ 10 → zI (pS (pI s 10 m 0) 6 4 (zS (pI s 10 m 0) 6 4 - 1)) q i = zI s q i := fun q hq => by rw [zI_pS, zI_pI, if_neg (by omega)]
    have f7 : ∀ q, q ≠ 77 → zI (pI t 77 m b) q i = zI t q i := fun q hq => by rw [zI_pI, if_neg (by omega)]
    have e3 : zS (pS (pI s 10 m 0) 6 4 (zS (pI s 10 m 0) 6 4 - 1)) 15 3 = zS s 15 3 := rfl
    rw [e7 7 (by omega), e7 8 (by omega), e7 16 (by omega), f7 74 (by omega), f7 75 (by omega), e3]
    rw [zI_pS, zI_pI, zI_pI]
    by_cases z : i = m
    · rw [if_pos ⟨rfl, z⟩, if_pos ⟨rfl, z⟩]
      exact ⟨m1, m2, hb.symm, Or.inl rfl, fun w => absurd w (by decide)⟩
    · rw [if_neg (fun w => z w.2), if_neg (fun w => z w.2)]
      exact ⟨m1, m2, m3, m4, m5⟩
  · have hb := ySum_b (f := fun i => if i < 120 then (zI s 10 i).toInt else 0) (c := 1) (fun i => by
      by_cases z : i < 120
      · rw [if_pos z]
        rcases (R1 i z).2.2.2.1 with y | y <;> rw [y] <;> decide
      · rw [if_neg z]; decide) 120
    have hb2 : ySum (fun i => if i < 120 then (zI s 10 i).toInt else 0) 120 = ySum (fun i => (zI s 10 i).toInt) 120 := ySum_c (fun i hi => by rw [if_pos hi])
    have e4 : (zS s 6 4 - 1).toInt = (zS s 6 4).toInt - 1 := by
      rw [i32_sub (by rw [jl1]; omega) (by rw [jl1]; omega), jl1]
    show (zS s 6 4 - 1).toInt = ySum (fun i => (if 10 = 10 ∧ i = m then (0 : Int32) else zI s 10 i).toInt) 120
    rw [ySum_up (f := fun i => (zI s 10 i).toInt) (j := m) (fun i hi => by rw [if_neg (by omega)]), if_pos hm, if_pos ⟨rfl, rfl⟩, h, e4, R2, jl1, jl0]
    omega
/-- when the hour is past, the reference goes on and takes nobody -/
theorem rai_t {y1 x2 : Int32} (h83 : 0 ≤ (zS t 59 83).toInt ∧ (zS t 59 83).toInt ≤ 1699) (hy : 0 ≤ y1.toInt ∧ y1.toInt ≤ 199) (h82 : (zS t 59 82).toInt ≤ 120) {R : Int32 × SS → Prop} (r : R (x2, t)) : ∀ (m : Nat) (x3 : Int32), 0 ≤ x3.toInt → (∀ i : Nat, x3.toInt ≤ i → (i : Int) < (zS t 59 82).toInt → (zS t 59 83).toInt + y1.toInt < (zI t 118 i).toInt) → Pc (f_X12_raise_L27 y1 m t x2 x3) R
  | 0, _, _, _ => Pc_none
  | m + 1, x3, h0, h => by
    show Pc (f_X12_raise_L27_b y1 (f_X12_raise_L27 y1 m) t x2 x3) R
    unfold f_X12_raise_L27_b
    have e : (zS t 59 83 + y1).toInt = (zS t 59 83).toInt + y1.toInt := i32_add (by omega) (by omega)
    refine Pc_lt (fun c => Pc_gd (fun _ => Pc_jn (Pc_ift ?_ (Pc_vl ?_)))) (fun _ => Pc_some r)
    · have := h x3.toInt.toNat (by omega) (by omega)
      rw [jlt, e]
      exact this
    · have n1 : (x3 + 1).toInt = x3.toInt + 1 := by rw [i32_add (by rw [jl1]; omega) (by rw [jl1]; omega), jl1]
      exact rai_t h83 hy h82 r m (x3 + 1) (by omega) (fun i h1 h2 => h i (by omega) h2)
def RZ (s0 t0 s t : SS) : Prop := Frm [(6, 4)] [10] [] s0 s ∧ Frm [] [77] [] t0 t ∧ QMen s t
theorem rai_l {y1 : Int32} (hy : 0 ≤ y1.toInt ∧ y1.toInt ≤ 199) (h10 : (zS s0 6 10).toInt ≤ 120) (e10 : zS s0 6 10 = zS t0 59 82) (e11 : zS s0 6 11 = zS t0 59 83) (b11 : 0 ≤ (zS s0 6 11).toInt ∧ (zS s0 6 11).toInt ≤ 1699) (b12 : 1 ≤ (zS s0 6 12).toInt ∧ (zS s0 6 12).toInt ≤ 4) (hm : ∀ i : Nat, i < 120 → (i : Int) < (zS s0 6 10).toInt → zI s0 13 i = zI t0 116 i ∧ (zI t0 118 i).toInt = (zS s0 6 11).toInt + ((i : Int) + 1) * (zS s0 6 12).toInt) : ∀ (n m : Nat) (s t : SS) (x2 x3 : Int32), RZ s0 t0 s t → 0 ≤ x3.toInt → Pc (f_X2_raisedWithin_L4 y1 n s x2 x3) (fun a => Pc (f_X12_raise_L27 y1 m t x2 x3) (fun b => a.1 = b.1 ∧ RZ s0 t0 a.2 b.2))
  | 0, _, _, _, _, _, _, _ => Pc_none
  | n + 1, 0, _, _, _, _, _, _ => fun _ _ => Pc_none
  | n + 1, m + 1, s, t, x2, x3, Z, h0 => by
    obtain ⟨F, F', M⟩ := id Z
    have f10 : zS s 6 10 = zS s0 6 10 := F.1 6 10 rfl
    have f12 : zS s 6 12 = zS s0 6 12 := F.1 6 12 rfl
    have f13 : ∀ i, zI s 13 i = zI s0 13 i := fun i => F.2.1 13 i rfl
    have g82 : zS t 59 82 = zS t0 59 82 := F'.1 59 82 rfl
    have g83 : zS t 59 83 = zS t0 59 83 := F'.1 59 83 rfl
    have g116 : ∀ i, zI t 116 i = zI t0 116 i := fun i => F'.2.1 116 i rfl
    have g118 : ∀ i, zI t 118 i = zI t0 118 i := fun i => F'.2.1 118 i rfl
    show Pc (f_X2_raisedWithin_L4_b y1 (f_X2_raisedWithin_L4 y1 n) s x2 x3) _
    unfold f_X2_raisedWithin_L4_b
    rw [f10, f12]
    refine Pc_lt (fun c => ?_) (fun c => Pc_some ?_)
    · have n1 : (x3 + 1).toInt = x3.toInt + 1 := by rw [i32_add (by rw [jl1]; omega) (by rw [jl1]; omega), jl1]
      have hx : x3.toInt.toNat < 120 := by omega
      obtain ⟨m1, m2⟩ := hm x3.toInt.toNat hx (by omega)
      have hxn : ((x3.toInt.toNat : Nat) : Int) = x3.toInt := by omega
      rw [hxn] at m2
      have pb : 0 ≤ (x3.toInt + 1) * (zS s0 6 12).toInt ∧ (x3.toInt + 1) * (zS s0 6 12).toInt ≤ 480 := by
        have h12 : (zS s0 6 12).toInt = 1 ∨ (zS s0 6 12).toInt = 2 ∨ (zS s0 6 12).toInt = 3 ∨ (zS s0 6 12).toInt = 4 := by omega
        rcases h12 with w | w | w | w <;> rw [w] <;> omega
      have mu : ((x3 + 1) * zS s0 6 12).toInt = (x3.toInt + 1) * (zS s0 6 12).toInt := by rw [i32_mul (by rw [n1]; omega) (by rw [n1]; omega), n1]
      have ad : (zS t 59 83 + y1).toInt = (zS s0 6 11).toInt + y1.toInt := by rw [g83, ← e11, i32_add (by omega) (by omega)]
      refine Pc_if (fun z => Pc_some ?_) (fun z => Pc_gd (fun g => Pc_vl (Pc_jn ?_)))
      · -- past the hours
        rw [jlt, mu] at z
        refine rai_t (by rw [g83, ← e11]; exact b11) hy (by rw [g82, ← e10]; exact h10) ⟨rfl, Z⟩ (m + 1) x3 h0 (fun i h1 h2 => ?_)
        rw [g82, ← e10] at h2
        rw [g83, ← e11, g118, (hm i (by omega) h2).2]
        have : (x3.toInt + 1) * (zS s0 6 12).toInt ≤ ((i : Int) + 1) * (zS s0 6 12).toInt := Int.mul_le_mul_of_nonneg_right (by omega) (by omega)
        omega
      · rw [jlt, mu] at z
        -- the reference, one man
        have skp : ∀ R : Int32 × SS → Prop, (∀ v, v = zI t 116 x3.toInt.toNat → inB v 120 → zI t 77 v.toInt.toNat = 0) → Pc (f_X12_raise_L27 y1 m t x2 (x3 + 1)) R → Pc (f_X12_raise_L27 y1 (m + 1) t x2 x3) R := by
          intro R hz k
          show Pc (f_X12_raise_L27_b y1 (f_X12_raise_L27 y1 m) t x2 x3) R
          unfold f_X12_raise_L27_b
          rw [g82, ← e10]
          refine Pc_ift (by rw [jlt]; exact c) (Pc_gd (fun _ => Pc_jn (Pc_iff (by rw [jlt, ad, g118, m2]; omega) (Pc_gd (fun _ => Pc_vl (Pc_gd (fun gv => ?_)))))))
          exact Pc_ift (hz _ rfl gv) (Pc_vl k)
        have tak : ∀ R : Int32 × SS → Prop, (∀ v, v = zI t 116 x3.toInt.toNat → inB v 120 → ¬ zI t 77 v.toInt.toNat = 0 ∧ Pc (f_X12_raise_L27 y1 m (pI t 77 v.toInt.toNat ((0 : Int32) &&& 1)) (x2 + 1) (x3 + 1)) R) → Pc (f_X12_raise_L27 y1 (m + 1) t x2 x3) R := by
          intro R hz
          show Pc (f_X12_raise_L27_b y1 (f_X12_raise_L27 y1 m) t x2 x3) R
          unfold f_X12_raise_L27_b
          rw [g82, ← e10]
          refine Pc_ift (by rw [jlt]; exact c) (Pc_gd (fun _ => Pc_jn (Pc_iff (by rw [jlt, ad, g118, m2]; omega) (Pc_gd (fun _ => Pc_vl (Pc_gd (fun gv => ?_)))))))
          obtain ⟨h1, h2⟩ := hz _ rfl gv
          exact Pc_iff h1 (Pc_gd (fun _ => Pc_vl (Pc_gd (fun _ => Pc_st (Pc_vl (Pc_vl h2))))))
        have ev : zI s 13 x3.toInt.toNat = zI t 116 x3.toInt.toNat := by rw [f13, g116]; exact m1
        have go : (∀ v, v = zI t 116 x3.toInt.toNat → inB v 120 → zI t 77 v.toInt.toNat = 0) → Pc (vl (x3 + 1) fun v6 => f_X2_raisedWithin_L4 y1 n s x2 v6) (fun a => Pc (f_X12_raise_L27 y1 (m + 1) t x2 x3) (fun b => a.1 = b.1 ∧ RZ s0 t0 a.2 b.2)) := fun hz => Pc_vl (Pc.mono (rai_l hy h10 e10 e11 b11 b12 hm n m s t x2 (x3 + 1) Z (by omega)) (fun a ha => skp _ hz ha))
        rw [ev]
        have j120 : (120 : Int32).toInt = 120 := rfl
        refine Pc_lt (fun w => go (fun v e gv => ?_)) (fun w => Pc_lt (fun w2 => Pc_gd (fun gv => Pc_if (fun e1 => Pc_gd (fun _ => Pc_st (Pc_vl (Pc_st (Pc_vl (Pc_vl ?_)))))) (fun e1 => go (fun v e gv => ?_)))) (fun w2 => go (fun v e gv => ?_)))
        · rw [e] at gv
          have := gv.1
          rw [jl0] at w
          omega
        · have hv : (zI t 116 x3.toInt.toNat).toInt.toNat < 120 := by have := gv.1; have := gv.2; omega
          have Z1 : RZ s0 t0 (pS (pI s 10 (zI t 116 x3.toInt.toNat).toInt.toNat 0) 6 4 (zS (pI s 10 (zI t 116 x3.toInt.toNat).toInt.toNat 0) 6 4 - 1)) (pI t 77 (zI t 116 x3.toInt.toNat).toInt.toNat ((0 : Int32) &&& 1)) := ⟨(F.pI rfl).pS rfl, F'.pI rfl, M.dn hv e1 (by decide)⟩
          refine Pc.mono (rai_l hy h10 e10 e11 b11 b12 hm n m _ _ (x2 + 1) (x3 + 1) Z1 (by omega)) (fun a ha => tak _ (fun v e gv => ?_))
          rw [e]
          refine ⟨?_, ha⟩
          rw [← (M.1 _ hv).2.2.1, e1]
          decide
        · have hv : (zI t 116 x3.toInt.toNat).toInt.toNat < 120 := by rw [e] at gv; have := gv.1; have := gv.2; omega
          rw [e, ← (M.1 _ hv).2.2.1]
          rcases (M.1 _ hv).2.2.2.1 with y | y
          · exact y
          · exact absurd y e1
        · rw [e] at gv
          have := gv.2
          rw [j120] at w2
          omega
    · show Pc (f_X12_raise_L27_b y1 (f_X12_raise_L27 y1 m) t x2 x3) _
      unfold f_X12_raise_L27_b
      rw [g82, ← e10]
      exact Pc_iff (by rw [jlt]; omega) (Pc_some ⟨rfl, Z⟩)
theorem L_raise (B : B1 s t) (Q : Q4 s t) (a0 : Int32) : Pc (f_X11_raise s a0) fun x => Pc (f_X12_raise t a0) fun m => x.1 = m.1 ∧ Q4 x.2 m.2 := by
  have j199 : (199 : Int32).toInt = 199 := rfl
  unfold f_X11_raise f_X12_raise
  by_cases c : 0 ≤ a0.toInt ∧ a0.toInt ≤ 199
  · rw [in_t (by rw [jl0, j199]; exact c)]
    refine Pc_iff (by rw [jlt, jl0]; omega) (Pc_iff (by rw [jlt, j199]; omega) ?_)
    rcases Q.2.2.2.2.2.2.2.1 with ⟨l1, l2⟩ | ⟨l1, l2, l3, l4, l5, l6⟩
    · exact Pc_ift l1 (Pc_some (Pc_b1S (Pc_if10 (Pc_ift (by rw [l2]; decide) (Pc_some ⟨rfl, Q⟩)))))
    · refine Pc_iff (fun z => by rw [z, jl0] at l1; omega) (Pc_bd ?_)
      have h10 : (zS s 6 10).toInt ≤ 120 := (B.1.fx (q := 6) (k := 10) (by omega) : 0 ≤ (zS s 6 10).toInt ∧ (zS s 6 10).toInt ≤ 120).2
      refine Pc.mono (rai_l c h10 l2 l3 l4 l5 l6 4000 4000 s t 0 0 ⟨Frm.rf, Frm.rf, Q.2.1⟩ (by decide)) (fun a ha => Pc_some (Pc_b1S (Pc_if10 (Pc_iff (by rw [← l2, jlt, jl0]; omega) (Pc.mono ha (fun b hb => ?_))))))
      obtain ⟨v, F, F', M⟩ := hb
      refine ⟨v, ?_⟩
      obtain ⟨Q1, Q2, Q3, Q5, Q6, Q7, Q8, Q9, Q10, Q11, Q12, Q13, Q14⟩ := Q
      have eS : ∀ q k, ¬ (q = 6 ∧ k = 4) → zS a.2 q k = zS s q k := fun q k w => F.1 q k (by
        cases z : ([(6, 4)] : List (Nat × Nat)).contains (q, k) with
        | false => rfl
        | true =>
          have : (q, k) = (6, 4) := by simpa using z
          exact absurd ⟨congrArg Prod.fst this, congrArg Prod.snd this⟩ w)
      have eI : ∀ q j, q ≠ 10 → zI a.2 q j = zI s q j := fun q j w => F.2.1 q j (by simp [w])
      have gS : ∀ k, zS b.2 59 k = zS t 59 k := fun k => F'.1 59 k rfl
      have gI : ∀ q j, q ≠ 77 → zI b.2 q j = zI t q j := fun q j w => F'.2.1 q j (by simp [w])
      have S := B.1.sh
      exact ⟨Q1.c S (fun q k w => eS q k (by omega)) (fun q j w => eI q j (by omega)) (fun i => F.zR_ 17 i) (fun q j w1 w2 => gI q j (by omega)), M, Q3.c (fun k _ => eS 0 k (by omega)) (eS 15 4 (by omega)) (fun i => F.zR_ 17 i) (fun i => gI 67 i (by omega)) (fun i => gI 69 i (by omega)), Q5.c (eS 0 18 (by omega)) (eS 0 14 (by omega)) (fun i => gI 69 i (by omega)), Q6.c (fun k => eS 30 k (by omega)) (eS 0 14 (by omega)) (fun q i w1 w2 => eI q i (by omega)) (fun k _ => gS k) (fun q i w1 w2 => gI q i (by omega)), Q7.c (fun k _ _ => eS 15 k (by omega)) (fun k _ _ => gS k), Q8.c (fun i hi => eS _ _ (by omega)) (fun i => gI 80 i (by omega)), Q9.c (fun k w1 w2 => eS 6 k (by omega)) (fun i => eI 13 i (by omega)) (fun k _ => gS k) (fun i => gI 116 i (by omega)) (fun i => gI 118 i (by omega)), Q10.c (by rw [eS 15 3 (by omega)]; exact Int.le_refl _) (fun i _ h => by rw [F.zR_]; exact h) B.1.tot.2.2 (fun i => gI 79 i (by omega)), Q11.c S (eS 0 5 (by omega)) (fun q k w => eS q k (by omega)) (fun q j w => eI q j (by omega)) (fun i => F.zR_ 23 i) (fun q j w1 w2 => gI q j (by omega)), Q12.c S (eS 0 8 (by omega)) (fun q k w => eS q k (by omega)) (fun q j w => eI q j (by omega)) (fun i => F.zR_ 27 i) (fun q _ => F.zN_ q) (fun q j w1 w2 => gI q j (by omega)), Q13.c (fun q i w => gI q i (by omega)) (fun i => F'.2.2.1 122 i rfl), Q14.c (eS 0 14 (by omega)) (fun i => gI 68 i (by omega))⟩
  · rw [in_f (by rw [jl0, j199]; exact c)]
    refine Pc_lt (fun _ => Pc_some (Pc_b1S (Pc_if00 (Pc_some ⟨rfl, Q⟩)))) (fun z => Pc_lt (fun _ => Pc_some (Pc_b1S (Pc_if00 (Pc_some ⟨rfl, Q⟩)))) (fun w => ?_))
    rw [jl0] at z
    rw [j199] at w
    exact absurd ⟨z, w⟩ c
end RSs
