/-! THE CAPSULE -/
section CPs
variable {s t s0 t0 : SS}
theorem nS1 {q k : Nat} {x y : Nat} (w : ¬ (q = x ∧ k = y)) : ([(x, y)] : List (Nat × Nat)).contains (q, k) = false := by
  cases z : ([(x, y)] : List (Nat × Nat)).contains (q, k) with
  | false => rfl
  | true =>
    have : (q, k) = (x, y) := by simpa using z
    exact absurd ⟨congrArg Prod.fst this, congrArg Prod.snd this⟩ w
theorem Q4w.cp {h : Int} (Q : Q4w h s t) (S : Sh s) (b3 : (zS s 15 3).toInt ≤ 120) {s' t' : SS} (F : Frm [(6, 10), (6, 11), (6, 12)] [13, 14, 28, 29] [] s s') (G : Frm [(59, 82), (59, 83)] [95, 96, 116, 117, 118] [] t t') : Q4w h s' t' := by
  obtain ⟨Q1, Q2, Q3, Q5, Q6, Q7, Q8, Q9, Q10, Q11, Q12, Q13, Q14⟩ := Q
  have eS : ∀ q k, ¬ (q = 6 ∧ 10 ≤ k ∧ k ≤ 12) → zS s' q k = zS s q k := fun q k w => F.1 q k (by
    cases z : ([(6, 10), (6, 11), (6, 12)] : List (Nat × Nat)).contains (q, k) with
    | false => rfl
    | true =>
      have : (q, k) = (6, 10) ∨ (q, k) = (6, 11) ∨ (q, k) = (6, 12) := by simpa using z
      rcases this with e | e | e <;> exact absurd ⟨congrArg Prod.fst e, by have := congrArg Prod.snd e; dsimp only at this; omega⟩ w)
  have eI : ∀ q j, q < 13 ∨ q = 16 ∨ (30 ≤ q) → zI s' q j = zI s q j := fun q j w => F.2.1 q j (by
    cases z : ([13, 14, 28, 29] : List Nat).contains q with
    | false => rfl
    | true =>
      have : q = 13 ∨ q = 14 ∨ q = 28 ∨ q = 29 := by simpa using z
      omega)
  have gS : ∀ k, k < 82 → zS t' 59 k = zS t 59 k := fun k w => G.1 59 k (by
    cases z : ([(59, 82), (59, 83)] : List (Nat × Nat)).contains (59, k) with
    | false => rfl
    | true =>
      have : (59, k) = (59, 82) ∨ (59, k) = (59, 83) := by simpa using z
      rcases this with e | e <;> (have := congrArg Prod.snd e; dsimp only at this; omega))
  have gI : ∀ q j, q < 95 ∨ (97 ≤ q ∧ q < 116) ∨ 119 ≤ q → zI t' q j = zI t q j := fun q j w => G.2.1 q j (by
    cases z : ([95, 96, 116, 117, 118] : List Nat).contains q with
    | false => rfl
    | true =>
      have : q = 95 ∨ q = 96 ∨ q = 116 ∨ q = 117 ∨ q = 118 := by simpa using z
      omega)
  exact ⟨Q1.c S (fun q k w => eS q k (by omega)) (fun q j w => eI q j (by omega)) (fun i => F.zR_ 17 i) (fun q j w1 w2 => gI q j (by omega)), Q2.c (fun i => eI 7 i (by omega)) (fun i => eI 8 i (by omega)) (fun i => eI 10 i (by omega)) (fun i => eI 16 i (by omega)) (eS 15 3 (by omega)) (eS 6 4 (by omega)) (fun i => gI 74 i (by omega)) (fun i => gI 75 i (by omega)) (fun i => gI 77 i (by omega)), Q3.c (fun k _ => eS 0 k (by omega)) (eS 15 4 (by omega)) (fun i => F.zR_ 17 i) (fun i => gI 67 i (by omega)) (fun i => gI 69 i (by omega)), Q5.c (eS 0 18 (by omega)) (eS 0 14 (by omega)) (fun i => gI 69 i (by omega)), Q6.d (fun k => eS 30 k (by omega)) (fun q i w1 w2 => eI q i (by omega)) (fun k w => gS k (by omega)) (fun q i w1 w2 => gI q i (by omega)), Q7.c (fun k _ _ => eS 15 k (by omega)) (fun k w1 w2 => gS k (by omega)), Q8.c (fun i hi => eS _ _ (by omega)) (fun i => gI 80 i (by omega)), trivial, Q10.c (by rw [eS 15 3 (by omega)]; exact Int.le_refl _) (fun i _ h => by rw [F.zR_]; exact h) b3 (fun i => gI 79 i (by omega)), Q11.c S (eS 0 5 (by omega)) (fun q k w => eS q k (by omega)) (fun q j w => eI q j (by omega)) (fun i => F.zR_ 23 i) (fun q j w1 w2 => gI q j (by omega)), Q12.c S (eS 0 8 (by omega)) (fun q k w => eS q k (by omega)) (fun q j w => eI q j (by omega)) (fun i => F.zR_ 27 i) (fun q _ => F.zN_ q) (fun q j w1 w2 => gI q j (by omega)), Q13.c (fun q i w => gI q i (by omega)) (fun i => G.2.2.1 122 i rfl), Q14.d (fun i => gI 68 i (by omega))⟩
/-- frames while they are taken -/
def CP (s0 t0 s t : SS) : Prop := Frm [(6, 10)] [13, 14, 28, 29] [] s0 s ∧ Frm [] [95, 96, 116, 117] [] t0 t
def LLx (s t : SS) (c x : Int) : Prop := ∀ i : Nat, (i : Int) ≤ c → (i : Int) ≠ x → zI s 13 i = zI t 116 i ∧ zI s 14 i = zI t 117 i
def qLx (man first : Int32) : SS → Int32 → Option SS := fun (s19 : SS) (x19_3 : Int32) => (gd (inB x19_3 120) (st (pI s19 13 (x19_3.toInt.toNat) man) fun s21 => (gd (inB x19_3 120) (st (pI s21 14 (x19_3.toInt.toNat) first) fun s23 => (vl (((zS s23 6 10) + (1 : Int32))) fun v24 => (st (pS s23 6 10 v24) fun s25 => some s25))))))
def qLm (kM : SS → Option (Int32 × SS)) (man first : Int32) : SS → Int32 → Option (Int32 × SS) := fun (s31 : SS) (x31_5 : Int32) => (gd (inB x31_5 120) (st (pI s31 116 (x31_5.toInt.toNat) man) fun s33 => (gd (inB x31_5 120) (st (pI s33 117 (x31_5.toInt.toNat) first) fun s35 => kM s35))))
theorem ins_l {kM : SS → Option (Int32 × SS)} {man first y1 y2 y3 : Int32} {c : Int} (hc : 0 ≤ c ∧ c < 120) : ∀ (n m : Nat) (s t : SS) (x : Int32), CP s0 t0 s t → (zS s 6 10).toInt = c → 0 ≤ x.toInt → x.toInt ≤ c → LLx s t c x.toInt → Pc (f_X2_liftTakes_L15 (qLx man first) man first n s x) (fun r => ∀ R : Int32 × SS → Prop, (∀ u, CP s0 t0 r u → (zS r 6 10).toInt = c + 1 → LLx r u c (c + 1) → Pc (kM u) R) → Pc (f_X12_capsule_L85 (qLm kM man first) y1 y2 y3 first m t x) R)
  | 0, _, _, _, _, _, _, _, _, _ => Pc_none
  | n + 1, 0, _, _, _, _, _, _, _, _ => fun _ _ _ _ => Pc_none
  | n + 1, m + 1, s, t, x, C, h10, h0, h1, L => by
    show Pc (f_X2_liftTakes_L15_b (qLx man first) man first (f_X2_liftTakes_L15 (qLx man first) man first n) s x) _
    unfold f_X2_liftTakes_L15_b
    -- the place is found
    have put : (¬ ((0 : Int32) < x) ∨ ((0 : Int32) < x ∧ ¬ zI t 117 (x - 1).toInt.toNat < first)) → Pc (qLx man first s x) (fun r => ∀ R : Int32 × SS → Prop, (∀ u, CP s0 t0 r u → (zS r 6 10).toInt = c + 1 → LLx r u c (c + 1) → Pc (kM u) R) → Pc (f_X12_capsule_L85 (qLm kM man first) y1 y2 y3 first (m + 1) t x) R) := by
      intro hp
      unfold qLx
      refine Pc_gd (fun _ => Pc_st (Pc_gd (fun _ => Pc_st (Pc_vl (Pc_st (Pc_some (fun R hk => ?_)))))))
      show Pc (f_X12_capsule_L85_b (qLm kM man first) y1 y2 y3 first (f_X12_capsule_L85 (qLm kM man first) y1 y2 y3 first m) t x) R
      have fin : Pc (qLm kM man first t x) R := by
        unfold qLm
        refine Pc_gd (fun _ => Pc_st (Pc_gd (fun _ => Pc_st (hk _ ⟨((C.1.pI rfl).pI rfl).pS rfl, (C.2.pI rfl).pI rfl⟩ ?_ ?_))))
        · have e : zS (pI (pI s 13 x.toInt.toNat man) 14 x.toInt.toNat first) 6 10 = zS s 6 10 := rfl
          rw [zS_pS, if_pos ⟨rfl, rfl⟩, e, i32_add (by rw [jl1]; omega) (by rw [jl1]; omega), jl1, h10]
        · intro i hi _
          by_cases z : i = x.toInt.toNat
          · rw [zI_pS, zI_pS, zI_pI, if_neg (by omega), zI_pI, if_pos ⟨rfl, z⟩, zI_pI, if_neg (by omega), zI_pI, if_pos ⟨rfl, z⟩, zI_pI, if_pos ⟨rfl, z⟩, zI_pI, if_pos ⟨rfl, z⟩]
            exact ⟨rfl, rfl⟩
          · rw [zI_pS, zI_pS, zI_pI, if_neg (by omega), zI_pI, if_neg (by omega), zI_pI, if_neg (by omega), zI_pI, if_neg (by omega), zI_pI, if_neg (by omega), zI_pI, if_neg (by omega), zI_pI, if_neg (by omega), zI_pI, if_neg (by omega)]
            exact L i hi (by omega)
      unfold f_X12_capsule_L85_b
      rcases hp with hp | ⟨hp, hq⟩
      · exact Pc_iff hp fin
      · exact Pc_ift hp (Pc_vl (Pc_gd (fun _ => Pc_iff hq fin)))
    refine Pc_if (fun z => ?_) (fun z => put (Or.inl z))
    have z' := z
    rw [jlt, jl0] at z'
    have e1 : (x - 1).toInt = x.toInt - 1 := by rw [i32_sub (by rw [jl1]; omega) (by rw [jl1]; omega), jl1]
    have e2 : (x + -1).toInt = x.toInt - 1 := by
      have jn1 : (-1 : Int32).toInt = -1 := rfl
      rw [i32_add (by rw [jn1]; omega) (by rw [jn1]; omega), jn1]
      omega
    obtain ⟨l1, l2⟩ := L (x - 1).toInt.toNat (by omega) (by omega)
    refine Pc_vl (Pc_gd (fun _ => ?_))
    rw [l2]
    refine Pc_if (fun w => Pc_vl (Pc_gd (fun _ => Pc_vl (Pc_gd (fun _ => Pc_st (Pc_vl (Pc_gd (fun _ => Pc_vl (Pc_gd (fun _ => Pc_st (Pc_vl ?_))))))))))) (fun w => put (Or.inr ⟨z, w⟩))
    have s14 : zI (pI s 13 x.toInt.toNat (zI s 13 (x - 1).toInt.toNat)) 14 (x - 1).toInt.toNat = zI s 14 (x - 1).toInt.toNat := by rw [zI_pI, if_neg (by omega)]
    have t17 : zI (pI t 116 x.toInt.toNat (zI t 116 (x - 1).toInt.toNat)) 117 (x - 1).toInt.toNat = zI t 117 (x - 1).toInt.toNat := by rw [zI_pI, if_neg (by omega)]
    rw [s14, l1, l2]
    refine Pc.mono (ins_l (kM := kM) (y1 := y1) (y2 := y2) (y3 := y3) hc n m _ (pI (pI t 116 x.toInt.toNat (zI t 116 (x - 1).toInt.toNat)) 117 x.toInt.toNat (zI t 117 (x - 1).toInt.toNat)) (x + -1) ⟨(C.1.pI rfl).pI rfl, (C.2.pI rfl).pI rfl⟩ h10 (by omega) (by omega) ?_) (fun r hr R hk => ?_)
    · intro i hi hn
      by_cases zx : i = x.toInt.toNat
      · rw [zI_pI, if_neg (by omega), zI_pI, if_pos ⟨rfl, zx⟩, zI_pI, if_neg (by omega), zI_pI, if_pos ⟨rfl, zx⟩, zI_pI, if_pos ⟨rfl, zx⟩, zI_pI, if_pos ⟨rfl, zx⟩]
        exact ⟨rfl, rfl⟩
      · rw [zI_pI, if_neg (by omega), zI_pI, if_neg (by omega), zI_pI, if_neg (by omega), zI_pI, if_neg (by omega), zI_pI, if_neg (by omega), zI_pI, if_neg (by omega), zI_pI, if_neg (by omega), zI_pI, if_neg (by omega)]
        exact L i hi (by omega)
    · show Pc (f_X12_capsule_L85_b (qLm kM man first) y1 y2 y3 first (f_X12_capsule_L85 (qLm kM man first) y1 y2 y3 first m) t x) R
      unfold f_X12_capsule_L85_b
      refine Pc_ift z (Pc_vl (Pc_gd (fun _ => Pc_ift w (Pc_vl (Pc_gd (fun _ => Pc_vl (Pc_gd (fun _ => Pc_st (Pc_vl (Pc_gd (fun _ => Pc_vl (Pc_gd (fun _ => Pc_st (Pc_vl ?_))))))))))))))
      rw [t17]
      exact hr R hk
/-- all who are below, one by one -/
theorem cap_l {h : Int} {y4 y1 : Int32} {qX : SS → Option (Int32 × SS)} {qM : SS → Int32 → Option (Int32 × SS)} {P : Int32 × SS → Int32 × SS → Prop} (B : B1 s0 t0) (Q : Q4w h s0 t0) (hy : y4 = -2 ∨ (0 ≤ y4.toInt ∧ y4.toInt < (zS s0 0 8).toInt)) (hf : ∀ r', f_X12_forceOf t0 1 (zS t0 59 1) (zS t0 59 1) = some r' → r' = y4) (hq : ∀ s t x2, CP s0 t0 s t → (zS s 6 10).toInt = x2.toInt → x2.toInt = (zS s0 6 4).toInt → LLx s t (x2.toInt - 1) x2.toInt → Pc (qX s) (fun a => Pc (qM t x2) (P a))) : ∀ (n m : Nat) (s t : SS) (x2 x3 : Int32), Iv s → CP s0 t0 s t → (zS s 6 10).toInt = x2.toInt → x2.toInt = ySum (fun i => (zI s0 10 i).toInt) x3.toInt.toNat → 0 ≤ x3.toInt → x3.toInt ≤ (zS s0 15 3).toInt → LLx s t (x2.toInt - 1) x2.toInt → Pc (f_X11_capsule_L93 qX y4 n s x3) (fun a => Pc (f_X12_capsule_L53 qM y1 m t x2 x3) (P a))
  | 0, _, _, _, _, _, _, _, _, _, _, _, _ => Pc_none
  | n + 1, 0, _, _, _, _, _, _, _, _, _, _, _ => fun _ _ => Pc_none
  | n + 1, m + 1, s, t, x2, x3, I, C, h10, hs, h0, h1, L => by
    obtain ⟨b1, b2, b3⟩ := B.1.tot
    have F : Frm [(6, 10), (6, 11), (6, 12)] [13, 14, 28, 29] [] s0 s := C.1.mo rfl rfl rfl
    have G : Frm [(59, 82), (59, 83)] [95, 96, 116, 117, 118] [] t0 t := C.2.mo rfl rfl rfl
    have e3 : zS s 15 3 = zS s0 15 3 := C.1.1 15 3 rfl
    have e4 : zS t 59 4 = zS s0 15 3 := (C.2.1 59 4 rfl).trans b1.symm
    have e10 : ∀ i, zI s 10 i = zI s0 10 i := fun i => C.1.2.1 10 i rfl
    have e77 : ∀ i, i < 120 → zI t 77 i = zI s0 10 i := fun i hi => (C.2.2.1 77 i rfl).trans (Q.2.1.1 i hi).2.2.1.symm
    have sb : 0 ≤ x2.toInt ∧ x2.toInt ≤ x3.toInt := by
      have hb := ySum_b (f := fun i => if i < 120 then (zI s0 10 i).toInt else 0) (c := 1) (fun i => by
        by_cases z : i < 120
        · rw [if_pos z]
          rcases (Q.2.1.1 i z).2.2.2.1 with y | y <;> rw [y] <;> decide
        · rw [if_neg z]; decide) x3.toInt.toNat
      have hb2 : ySum (fun i => if i < 120 then (zI s0 10 i).toInt else 0) x3.toInt.toNat = ySum (fun i => (zI s0 10 i).toInt) x3.toInt.toNat := ySum_c (fun i hi => by rw [if_pos (by omega)])
      omega
    show Pc (f_X11_capsule_L93_b qX y4 (f_X11_capsule_L93 qX y4 n) s x3) _
    unfold f_X11_capsule_L93_b
    rw [e3]
    refine Pc_lt (fun c => Pc_gd (fun _ => Pc_jn ?_)) (fun c => ?_)
    · have n1 : (x3 + 1).toInt = x3.toInt + 1 := by rw [i32_add (by rw [jl1]; omega) (by rw [jl1]; omega), jl1]
      have hx : x3.toInt.toNat < 120 := by omega
      have et : (x3 + 1).toInt.toNat = x3.toInt.toNat + 1 := by omega
      rw [e10]
      refine Pc_if (fun z => ?_) (fun z => Pc_vl ?_)
      · -- he is below
        have kd := (Q.2.1.1 _ hx).2.2.2.2 z
        have hs' : x2.toInt + 1 = ySum (fun i => (zI s0 10 i).toInt) (x3 + 1).toInt.toNat := by
          rw [et]
          show x2.toInt + 1 = ySum (fun i => (zI s0 10 i).toInt) x3.toInt.toNat + (zI s0 10 x3.toInt.toNat).toInt
          rw [z, ← hs, jl1]
        have n2 : (x2 + 1).toInt = x2.toInt + 1 := by rw [i32_add (by rw [jl1]; omega) (by rw [jl1]; omega), jl1]
        have Qs : Q4w h s t := Q.cp B.1.sh b3 F G
        have Bs : B1 s t := B.fi I F G rfl rfl rfl rfl
        have gv := gv_p (w := 1) (use := 1) (man := x3) (wo := 0) (r := y4) Bs Qs rfl (Or.inr ⟨h0, by rw [e3]; exact c, by rw [C.1.2.1 16 _ rfl]; exact kd.2⟩) (by rw [C.1.1 0 8 rfl]; exact hy) (fun r' er => hf r' (by
          rw [C.2.1 59 1 rfl] at er
          rw [← er]
          exact (frc_c (C.2.1 59 4 rfl) (C.2.1 59 38 rfl) (fun i => C.2.2.1 69 i rfl) (fun q i w1 w2 => C.2.2.1 q i (by
            cases z : ([95, 96, 116, 117] : List Nat).contains q with
            | false => rfl
            | true =>
              have : q = 95 ∨ q = 96 ∨ q = 116 ∨ q = 117 := by simpa using z
              omega))).symm))
        refine Pc_bd (fun x15 ex => ?_)
        have F15 : Frm [(6, 10)] [13, 14, 28, 29] [] s0 x15.2 := v_X11_given (b := s0) B.1.sh rfl rfl C.1 _ ex
        have F15' : Frm [] [28, 29] [] s x15.2 := v_X11_given (b := s) (F.Sh_ B.1.sh) rfl rfl Frm.rf _ ex
        have I15 : Iv x15.2 := ((w_X11_given (a0 := y4) (a1 := 1) (a2 := x3) (Lk.rf I)).at ex).1
        have h15 : zS x15.2 6 10 = zS s 6 10 := F15'.1 6 10 rfl
        -- the reference, this man
        have mdl : ∀ R : Int32 × SS → Prop, (∀ t15, CP s0 t0 x15.2 t15 → LLx x15.2 t15 x2.toInt x2.toInt → Pc (f_X12_capsule_L85 (qLm (fun s35 => (vl (x2 + 1) fun v36 => (vl (x3 + 1) fun v13 => (f_X12_capsule_L53 qM y1 m s35 v36 v13)))) x3 x15.1) y1 x2 x3 x15.1 4000 t15 x2) R) → Pc (f_X12_capsule_L53 qM y1 (m + 1) t x2 x3) R := by
          intro R hk
          show Pc (f_X12_capsule_L53_b qM y1 (f_X12_capsule_L53 qM y1 m) t x2 x3) R
          unfold f_X12_capsule_L53_b
          rw [e4]
          refine Pc_ift (by rw [jlt]; exact c) (Pc_gd (fun _ => Pc_jn (Pc_iff (by rw [e77 _ hx, z]; decide) (Pc_bd (fun y15 ey => ?_)))))
          have ev := gv x15 ex y15 ey
          show Pc _ R
          rw [ev]
          have G15 : Frm [] [95, 96, 116, 117] [] t0 y15.2 := v_X12_saysNow (b := t0) rfl rfl C.2 _ ey
          have G15' : Frm [] [95, 96] [] t y15.2 := v_X12_saysNow (b := t) rfl rfl Frm.rf _ ey
          refine hk y15.2 ⟨F15, G15⟩ (fun i hi hn => ?_)
          rw [F15'.2.1 13 i rfl, F15'.2.1 14 i rfl, G15'.2.1 116 i rfl, G15'.2.1 117 i rfl]
          exact L i (by omega) (by omega)
        have j120 : (120 : Int32).toInt = 120 := rfl
        unfold f_X2_liftTakes
        show Pc _ (fun a => Pc (f_X12_capsule_L53 qM y1 (m + 1) t x2 x3) (P a))
        rw [h15]
        refine Pc_b1 (Pc_ift (by rw [jlt, j120, h10]; omega) (Pc_vl ?_))
        intro r16 e16
        have I16 : Iv r16 := by
          have W := (w_X2_liftTakes (a0 := x3) (a1 := x15.1) (Lk.rf I15))
          refine (W.at (r := r16) ?_).1
          unfold f_X2_liftTakes
          rw [h15, if_pos (by rw [jlt, j120, h10]; omega), vl]
          exact e16
        refine Pc_vl (fun a ea => mdl _ (fun t15 C15 L15 => ?_))
        have ix : zS s 6 10 = x2 := Int32.toInt_inj.1 h10
        rw [ix] at e16
        refine ins_l (s0 := s0) (t0 := t0) (c := x2.toInt) ⟨sb.1, by omega⟩ 4000 4000 x15.2 t15 x2 C15 (by rw [h15]; exact h10) sb.1 (Int.le_refl _) L15 r16 e16 (P a) (fun u Cu h10u Lu => ?_)
        refine Pc_vl (Pc_vl ?_)
        exact cap_l B Q hy hf hq n m r16 u (x2 + 1) (x3 + 1) I16 Cu (by rw [n2]; exact h10u) (by rw [n2]; exact hs') (by omega) (by omega) (by rw [n2]; intro i hi hn; exact Lu i (by omega) hn) a ea
      · -- he is not
        have z0 : zI s0 10 x3.toInt.toNat = 0 := by
          rcases (Q.2.1.1 _ hx).2.2.2.1 with w | w
          · exact w
          · exact absurd w z
        have hs' : x2.toInt = ySum (fun i => (zI s0 10 i).toInt) (x3 + 1).toInt.toNat := by
          rw [et]
          show x2.toInt = ySum (fun i => (zI s0 10 i).toInt) x3.toInt.toNat + (zI s0 10 x3.toInt.toNat).toInt
          rw [z0, ← hs, jl0]
          omega
        refine Pc.mono (cap_l (y1 := y1) B Q hy hf hq n m s t x2 (x3 + 1) I C h10 hs' (by omega) (by omega) L) (fun a ha => ?_)
        show Pc (f_X12_capsule_L53_b qM y1 (f_X12_capsule_L53 qM y1 m) t x2 x3) _
        unfold f_X12_capsule_L53_b
        rw [e4]
        exact Pc_ift (by rw [jlt]; exact c) (Pc_gd (fun _ => Pc_jn (Pc_ift (by rw [e77 _ hx, z0]) (Pc_vl ha))))
    · have ex : x3.toInt.toNat = (zS s0 15 3).toInt.toNat := by omega
      have all : x2.toInt = (zS s0 6 4).toInt := by
        rw [hs, ex, Q.2.1.2]
        exact (ySum_z (by omega) (fun i w1 w2 => by
          rcases (Q.2.1.1 i w2).2.2.2.1 with z | z
          · rw [z]; rfl
          · have := (Q.2.1.1 i w2).2.2.2.2 z
            omega)).symm
      refine Pc.mono (hq s t x2 C h10 all L) (fun a ha => ?_)
      show Pc (f_X12_capsule_L53_b qM y1 (f_X12_capsule_L53 qM y1 m) t x2 x3) _
      unfold f_X12_capsule_L53_b
      rw [e4]
      exact Pc_iff (by rw [jlt]; omega) ha
/-- the hours of the reference's list -/
theorem l170 {t1 : SS} {y1 y2 : Int32} {k : Int} {qM : SS → Option (Int32 × SS)} {R : Int32 × SS → Prop} (hh : 0 ≤ (zS t1 59 1).toInt ∧ (zS t1 59 1).toInt ≤ 1699) (hk : k = 1 + (zI t1 67 y1.toInt.toNat).toInt / 20) (h67 : 0 ≤ (zI t1 67 y1.toInt.toNat).toInt ∧ (zI t1 67 y1.toInt.toNat).toInt ≤ 60) (hy : y2.toInt ≤ 120) (hq : ∀ u, Frm [] [118] [] t1 u → (∀ i : Nat, (i : Int) < y2.toInt → (zI u 118 i).toInt = (zS t1 59 1).toInt + ((i : Int) + 1) * k) → Pc (qM u) R) : ∀ (m : Nat) (t : SS) (x3 : Int32), 0 ≤ x3.toInt → Frm [] [118] [] t1 t → (∀ i : Nat, (i : Int) < x3.toInt → (i : Int) < y2.toInt → (zI t 118 i).toInt = (zS t1 59 1).toInt + ((i : Int) + 1) * k) → Pc (f_X12_capsule_L170 qM y1 y2 m t x3) R
  | 0, _, _, _, _, _ => Pc_none
  | m + 1, t, x3, h0, F, hi => by
    show Pc (f_X12_capsule_L170_b qM y1 y2 (f_X12_capsule_L170 qM y1 y2 m) t x3) R
    unfold f_X12_capsule_L170_b
    refine Pc_lt (fun c => Pc_gd (fun _ => Pc_vl (Pc_gd (fun _ => Pc_st (Pc_vl ?_))))) (fun c => hq t F (fun i w => hi i (by omega) w))
    have n1 : (x3 + 1).toInt = x3.toInt + 1 := by rw [i32_add (by rw [jl1]; omega) (by rw [jl1]; omega), jl1]
    have e1 : zS t 59 1 = zS t1 59 1 := F.1 59 1 rfl
    have e67 : zI t 67 y1.toInt.toNat = zI t1 67 y1.toInt.toNat := F.2.1 67 _ rfl
    have d20 : (zI t1 67 y1.toInt.toNat / 20).toInt = (zI t1 67 y1.toInt.toNat).toInt / 20 := by rw [jd20, if_pos h67.1]
    have k4 : 1 ≤ k ∧ k ≤ 4 := by omega
    have ek : ((1 : Int32) + zI t1 67 y1.toInt.toNat / 20).toInt = k := by rw [i32_add (by rw [jl1, d20]; omega) (by rw [jl1, d20]; omega), jl1, d20, hk]
    have pb : 0 ≤ (x3.toInt + 1) * k ∧ (x3.toInt + 1) * k ≤ 480 := by
      have h12 : k = 1 ∨ k = 2 ∨ k = 3 ∨ k = 4 := by omega
      rcases h12 with w | w | w | w <;> rw [w] <;> omega
    have em : ((x3 + 1) * ((1 : Int32) + zI t1 67 y1.toInt.toNat / 20)).toInt = (x3.toInt + 1) * k := by rw [i32_mul (by rw [ek, n1]; omega) (by rw [ek, n1]; omega), ek, n1]
    have ea : (zS t1 59 1 + (x3 + 1) * ((1 : Int32) + zI t1 67 y1.toInt.toNat / 20)).toInt = (zS t1 59 1).toInt + (x3.toInt + 1) * k := by rw [i32_add (by rw [em]; omega) (by rw [em]; omega), em]
    rw [e1, e67]
    refine l170 hh hk h67 hy hq m _ (x3 + 1) (by omega) (F.pI rfl) (fun i w1 w2 => ?_)
    rw [zI_pI]
    by_cases z : i = x3.toInt.toNat
    · rw [if_pos ⟨rfl, z⟩, ea, show (i : Int) = x3.toInt by omega]
    · rw [if_neg (fun w => z w.2)]
      exact hi i (by omega) w2
end CPs
