/-! BODIES, THE SHELTER, MEN -/
section BDs
variable {s t : SS}
theorem tot1 (B : B1 s t) (h : (zS s 15 3).toInt < 120) : (zS s 15 3 + 1).toInt = (zS s 15 3).toInt + 1 := by
  have := B.1.tot
  rw [i32_add (by rw [jl1]; omega) (by rw [jl1]; omega), jl1]
theorem noH (B : B1 s t) {i : Nat} (h : (zS s 15 3).toInt ≤ i) (hi : i < 120) : zR s 17 i = none := (B.1.rh i hi).mpr (fun z => by omega)
theorem Q4.ad {v : Int32} (B : B1 s t) (Q : Q4 s t) (h : (zS s 15 3).toInt < 120) : Q4 (adX s v) (adM t v) := by
  have b := B.1.tot
  have e1 := tot1 B h
  have e3 : zS (adX s v) 15 3 = zS s 15 3 + 1 := rfl
  obtain ⟨Q1, Q2, Q3, Q5, Q6, Q7, Q8, Q9, Q10, Q11, Q12, Q13, Q14⟩ := Q
  have d : ∀ q k, 126 ≤ q → zS (adX s v) q k = zS s q k := fun q k hq => by
    unfold adX
    rw [zS_pS, if_neg (by omega), zS_pI]
  have dI : ∀ q j, q ≠ 16 → zI (adX s v) q j = zI s q j := fun q j hq => by
    unfold adX
    rw [zI_pS, zI_pI, if_neg (by omega)]
  have mI : ∀ q j, q ≠ 62 → zI (adM t v) q j = zI t q j := fun q j hq => by
    unfold adM
    rw [zI_pS, zI_pI, if_neg (by omega)]
  refine ⟨Q1.c B.1.sh d (fun q j hq => dI q j (by omega)) (fun _ => rfl) (fun q j h1 h2 => mI q j (by omega)), ⟨fun i hi => ?_, Q2.2⟩, Q3, Q5, Q6, Q7, Q8.c (fun i hi => ?_) (fun _ => rfl), Q9, Q10.c (by rw [e3]; omega) (fun _ _ h => h) b.2.2 (fun _ => rfl), Q11.c B.1.sh rfl d (fun q j hq => dI q j (by omega)) (fun _ => rfl) (fun q j h1 h2 => mI q j (by omega)), Q12.c B.1.sh rfl d (fun q j hq => dI q j (by omega)) (fun _ => rfl) (fun _ _ => rfl) (fun q j h1 h2 => mI q j (by omega)), Q13, Q14⟩
  · obtain ⟨m1, m2, m3, m4, m5⟩ := Q2.1 i hi
    refine ⟨m1, m2, m3, m4, fun z => ?_⟩
    obtain ⟨n1, n2⟩ := m5 z
    refine ⟨by rw [e3]; omega, ?_⟩
    show (if 16 = 16 ∧ i = (zS s 15 3).toInt.toNat then v else zI s 16 i) = 7
    rw [if_neg (by omega)]
    exact n2
  · unfold adX
    rw [zS_pS, if_neg (by omega), zS_pI]
theorem addX {v : Int32} (B : B1 s t) (h : (zS s 15 3).toInt < 120) : f_X0_added s v = some (zS s 15 3, adX s v) := by
  have b := B.1.tot
  unfold f_X0_added
  rw [if_pos (by rw [jlt, jl120]; exact h), vl, gd_t ⟨b.2.1, h⟩]
  show some (zS s 15 3 + 1 - 1, adX s v) = _
  rw [s11]
theorem addXf {v : Int32} (h : ¬ (zS s 15 3).toInt < 120) : f_X0_added s v = some (-3, s) := by
  unfold f_X0_added
  rw [if_neg (by rw [jlt, jl120]; exact h)]
theorem addM {v : Int32} (B : B1 s t) (h : (zS s 15 3).toInt < 120) : f_X12_add t v = some (zS s 15 3, adM t v) := by
  have b := B.1.tot
  have e := b.1
  unfold f_X12_add
  rw [vl, gd_t ⟨by rw [← e]; exact b.2.1, by rw [← e]; exact h⟩]
  show some (zS t 59 4 + 1 - 1, adM t v) = _
  rw [s11, e]
theorem full (B : B1 s t) (h : ¬ (zS s 15 3).toInt < 120) : zS t 59 4 = 120 := Int32.toInt_inj.1 (by have b := B.1.tot; rw [← b.1, jl120]; omega)
theorem nfull (B : B1 s t) (h : (zS s 15 3).toInt < 120) : ¬ zS t 59 4 = 120 := fun z => by rw [B.1.tot.1, z, jl120] at h; omega
theorem L_body (B : B1 s t) (Q : Q4 s t) (a0 : Int32) : Pc (f_X11_body s a0) fun x => Pc (f_X12_body t a0) fun m => x.1 = m.1 ∧ Q4 x.2 m.2 := by
  unfold f_X11_body f_X12_body f_X12_in
  by_cases h : (zS s 15 3).toInt < 120
  · have key := Q.ad (v := a0) B h
    rw [addX B h, addM B h, if_neg (nfull B h)]
    repeat' (first
      | with_reducible refine Pc_bdS ?_
      | with_reducible refine Pc_b1S ?_
      | with_reducible refine Pc_if00 ?_
      | with_reducible refine Pc_if10 ?_
      | with_reducible refine Pc_lt (fun _ => ?_) (fun _ => ?_)
      | with_reducible refine Pc_if (fun _ => ?_) (fun _ => ?_)
      | with_reducible refine Pc_gd (fun _ => ?_)
      | with_reducible refine Pc_vl ?_
      | with_reducible refine Pc_wl ?_
      | with_reducible refine Pc_st ?_
      | with_reducible refine Pc_jn ?_
      | with_reducible refine Pc_b1 ?_
      | with_reducible refine Pc_bd ?_
      | with_reducible refine Pc_onS ?_
      | with_reducible refine Pc_onN ?_
      | with_reducible refine Pc_on (fun _ => ?_) (fun _ _ => ?_)
      | with_reducible refine Pc_some ?_
      | with_reducible refine Pc_none)
    all_goals first | exact ⟨rfl, Q⟩ | exact ⟨rfl, key⟩ | (exfalso; simp only [jeq] at *; (simp only [jlt, jd4, jd10, jd20, jd24, jd60, jd100, jm4, jm10, jm20, jm24, jm60, jm100, Int32.reduceToInt] at *; omega))
  · rw [addXf h, if_pos (full B h)]
    repeat' (first
      | with_reducible refine Pc_bdS ?_
      | with_reducible refine Pc_b1S ?_
      | with_reducible refine Pc_if00 ?_
      | with_reducible refine Pc_if10 ?_
      | with_reducible refine Pc_lt (fun _ => ?_) (fun _ => ?_)
      | with_reducible refine Pc_if (fun _ => ?_) (fun _ => ?_)
      | with_reducible refine Pc_gd (fun _ => ?_)
      | with_reducible refine Pc_vl ?_
      | with_reducible refine Pc_wl ?_
      | with_reducible refine Pc_st ?_
      | with_reducible refine Pc_jn ?_
      | with_reducible refine Pc_b1 ?_
      | with_reducible refine Pc_bd ?_
      | with_reducible refine Pc_onS ?_
      | with_reducible refine Pc_onN ?_
      | with_reducible refine Pc_on (fun _ => ?_) (fun _ _ => ?_)
      | with_reducible refine Pc_some ?_
      | with_reducible refine Pc_none)
    all_goals first | exact ⟨rfl, Q⟩ | (exfalso; simp only [jeq] at *; (simp only [jlt, jd4, jd10, jd20, jd24, jd60, jd100, jm4, jm10, jm20, jm24, jm60, jm100, Int32.reduceToInt] at *; omega))
theorem L_shelter (B : B1 s t) (Q : Q4 s t) (a0 a1 : Int32) : Pc (f_X11_shelter s a0 a1) fun x => Pc (f_X12_shelter t a0 a1) fun m => x.1 = m.1 ∧ Q4 x.2 m.2 := by
  have b := B.1.tot
  have b5 : zS s 15 5 = zS t 59 21 := B.1.1.2.1
  unfold f_X11_shelter f_X12_shelter f_X11_isSpan f_X12_isSpan f_X11_isYard f_X12_in f_X0_addedRefuge
  rw [← b5]
  by_cases h : (zS s 15 3).toInt < 120
  · have key : ∀ u v w : Int32, 1 ≤ w.toInt → Q4 (pS (pS (pS (pS (adX s 6) 15 5 (zS s 15 3)) 15 6 u) 15 7 v) 15 8 w) (pS (pS (pS (pS (adM t 6) 59 21 (zS s 15 3)) 59 22 u) 59 23 v) 59 24 w) := by
      intro u v w hw
      have K := Q.ad (v := 6) B h
      have S : Sh (adX s 6) := B.1.sh.same rfl rfl
      generalize hs : adX s 6 = s' at K S ⊢
      generalize ht : adM t 6 = t' at K ⊢
      obtain ⟨Q1, Q2, Q3, Q5, Q6, Q7, Q8, Q9, Q10, Q11, Q12, Q13, Q14⟩ := K
      have d : ∀ q k, q < 15 ∨ 15 < q → zS (pS (pS (pS (pS s' 15 5 (zS s 15 3)) 15 6 u) 15 7 v) 15 8 w) q k = zS s' q k := fun q k hq => by
        rw [zS_pS, if_neg (by omega), zS_pS, if_neg (by omega), zS_pS, if_neg (by omega), zS_pS, if_neg (by omega)]
      exact ⟨Q1.c S (fun q k h => d q k (by omega)) (fun _ _ _ => rfl) (fun _ => rfl) (fun _ _ _ _ => rfl), Q2, Q3, Q5, Q6, ⟨rfl, rfl, rfl, Q7.2.2.2.1, fun _ => hw⟩, Q8.c (fun i hi => d _ _ (by omega)) (fun _ => rfl), Q9, Q10, Q11.c S rfl (fun q k h => d q k (by omega)) (fun _ _ _ => rfl) (fun _ => rfl) (fun _ _ _ _ => rfl), Q12.c S rfl (fun q k h => d q k (by omega)) (fun _ _ _ => rfl) (fun _ => rfl) (fun _ _ => rfl) (fun _ _ _ _ => rfl), Q13, Q14⟩
    rw [addX B h, addM B h, if_neg (nfull B h)]
    repeat' (first
      | with_reducible refine Pc_bdS ?_
      | with_reducible refine Pc_b1S ?_
      | with_reducible refine Pc_if00 ?_
      | with_reducible refine Pc_if10 ?_
      | with_reducible refine Pc_lt (fun _ => ?_) (fun _ => ?_)
      | with_reducible refine Pc_if (fun _ => ?_) (fun _ => ?_)
      | with_reducible refine Pc_gd (fun _ => ?_)
      | with_reducible refine Pc_vl ?_
      | with_reducible refine Pc_wl ?_
      | with_reducible refine Pc_st ?_
      | with_reducible refine Pc_jn ?_
      | with_reducible refine Pc_b1 ?_
      | with_reducible refine Pc_bd ?_
      | with_reducible refine Pc_onS ?_
      | with_reducible refine Pc_onN ?_
      | with_reducible refine Pc_on (fun _ => ?_) (fun _ _ => ?_)
      | with_reducible refine Pc_some ?_
      | with_reducible refine Pc_none)
    all_goals first | exact ⟨rfl, Q⟩ | exact ⟨rfl, key _ _ _ (by assumption)⟩ | (exfalso; (simp only [jlt, jd4, jd10, jd20, jd24, jd60, jd100, jm4, jm10, jm20, jm24, jm60, jm100, Int32.reduceToInt] at *; omega))
  · rw [addXf h, if_pos (full B h)]
    repeat' (first
      | with_reducible refine Pc_bdS ?_
      | with_reducible refine Pc_b1S ?_
      | with_reducible refine Pc_if00 ?_
      | with_reducible refine Pc_if10 ?_
      | with_reducible refine Pc_lt (fun _ => ?_) (fun _ => ?_)
      | with_reducible refine Pc_if (fun _ => ?_) (fun _ => ?_)
      | with_reducible refine Pc_gd (fun _ => ?_)
      | with_reducible refine Pc_vl ?_
      | with_reducible refine Pc_wl ?_
      | with_reducible refine Pc_st ?_
      | with_reducible refine Pc_jn ?_
      | with_reducible refine Pc_b1 ?_
      | with_reducible refine Pc_bd ?_
      | with_reducible refine Pc_onS ?_
      | with_reducible refine Pc_onN ?_
      | with_reducible refine Pc_on (fun _ => ?_) (fun _ _ => ?_)
      | with_reducible refine Pc_some ?_
      | with_reducible refine Pc_none)
    all_goals first | exact ⟨rfl, Q⟩ | (exfalso; (simp only [jlt, jd4, jd10, jd20, jd24, jd60, jd100, jm4, jm10, jm20, jm24, jm60, jm100, Int32.reduceToInt] at *; omega))
theorem L_man (B : B1 s t) (Q : Q4 s t) (a0 a1 : Int32) : Pc (f_X11_man s a0 a1) fun x => Pc (f_X12_man t a0 a1) fun m => x.1 = m.1 ∧ Q4 x.2 m.2 := by
  have b := B.1.tot
  unfold f_X11_man f_X12_man f_X12_in f_X2_comes
  by_cases h : (zS s 15 3).toInt < 120
  · have key : ∀ u v w c : Int32, c = 1 → Q4 (pS (pI (pI (pI (pI (adX s 7) 7 (zS s 15 3).toInt.toNat u) 8 (zS s 15 3).toInt.toNat v) 9 (zS s 15 3).toInt.toNat w) 10 (zS s 15 3).toInt.toNat 1) 6 4 (zS s 6 4 + 1)) (pI (pI (pI (pI (adM t 7) 74 (zS s 15 3).toInt.toNat u) 75 (zS s 15 3).toInt.toNat v) 76 (zS s 15 3).toInt.toNat w) 77 (zS s 15 3).toInt.toNat c) := by
      intro u v w c hc
      have K := Q.ad (v := 7) B h
      have S : Sh (adX s 7) := B.1.sh.same rfl rfl
      have h64 : zS (adX s 7) 6 4 = zS s 6 4 := rfl
      have k16 : zI (adX s 7) 16 (zS s 15 3).toInt.toNat = 7 := by
        show (if 16 = 16 ∧ (zS s 15 3).toInt.toNat = (zS s 15 3).toInt.toNat then 7 else _) = 7
        rw [if_pos ⟨rfl, rfl⟩]
      have k3 : (zS (adX s 7) 15 3).toInt = (zS s 15 3).toInt + 1 := tot1 B h
      have z10 : zI (adX s 7) 10 (zS s 15 3).toInt.toNat = 0 := by
        rcases (Q.2.1.1 (zS s 15 3).toInt.toNat (by omega)).2.2.2.1 with z | z
        · exact z
        · have := (Q.2.1.1 (zS s 15 3).toInt.toNat (by omega)).2.2.2.2 z
          omega
      rw [← h64]
      generalize hs : adX s 7 = s' at K S k16 k3 z10 ⊢
      generalize ht : adM t 7 = t' at K ⊢
      have hn : (zS s 15 3).toInt.toNat < 120 := by omega
      have hn' : ((zS s 15 3).toInt.toNat : Int) = (zS s 15 3).toInt := by omega
      generalize (zS s 15 3).toInt.toNat = n at k16 z10 hn hn' ⊢
      obtain ⟨Q1, Q2, Q3, Q5, Q6, Q7, Q8, Q9, Q10, Q11, Q12, Q13, Q14⟩ := K
      have dS : ∀ q k, q < 6 ∨ 6 < q → zS (pS (pI (pI (pI (pI s' 7 n u) 8 n v) 9 n w) 10 n 1) 6 4 (zS s' 6 4 + 1)) q k = zS s' q k := fun q k hq => by
        rw [zS_pS, if_neg (by omega)]; rfl
      have dI : ∀ q j, q < 7 ∨ 10 < q → zI (pS (pI (pI (pI (pI s' 7 n u) 8 n v) 9 n w) 10 n 1) 6 4 (zS s' 6 4 + 1)) q j = zI s' q j := fun q j hq => by
        rw [zI_pS, zI_pI, if_neg (by omega), zI_pI, if_neg (by omega), zI_pI, if_neg (by omega), zI_pI, if_neg (by omega)]
      have mI : ∀ q j, q < 74 ∨ 77 < q → zI (pI (pI (pI (pI t' 74 n u) 75 n v) 76 n w) 77 n c) q j = zI t' q j := fun q j hq => by
        rw [zI_pI, if_neg (by omega), zI_pI, if_neg (by omega), zI_pI, if_neg (by omega), zI_pI, if_neg (by omega)]
      refine ⟨Q1.c S (fun q k h => dS q k (by omega)) (fun q j h => dI q j (by omega)) (fun _ => rfl) (fun q j h1 h2 => mI q j (by omega)), ⟨fun i hi => ?_, ?_⟩, Q3, Q5, Q6, Q7, Q8.c (fun i hi => dS _ _ (by omega)) (fun _ => rfl), Q9, Q10, Q11.c S rfl (fun q k h => dS q k (by omega)) (fun q j h => dI q j (by omega)) (fun _ => rfl) (fun q j h1 h2 => mI q j (by omega)), Q12.c S rfl (fun q k h => dS q k (by omega)) (fun q j h => dI q j (by omega)) (fun _ => rfl) (fun _ _ => rfl) (fun q j h1 h2 => mI q j (by omega)), Q13, Q14⟩
      · obtain ⟨m1, m2, m3, m4, m5⟩ := Q2.1 i hi
        have e7 : zI (pS (pI (pI (pI (pI s' 7 n u) 8 n v) 9 n w) 10 n 1) 6 4 (zS s' 6 4 + 1)) 7 i = if i = n then u else zI s' 7 i := by
          rw [zI_pS, zI_pI, if_neg (by omega), zI_pI, if_neg (by omega), zI_pI, if_neg (by omega), zI_pI]
          by_cases z : i = n
          · rw [if_pos ⟨rfl, z⟩, if_pos z]
          · rw [if_neg (by omega), if_neg z]
        have e8 : zI (pS (pI (pI (pI (pI s' 7 n u) 8 n v) 9 n w) 10 n 1) 6 4 (zS s' 6 4 + 1)) 8 i = if i = n then v else zI s' 8 i := by
          rw [zI_pS, zI_pI, if_neg (by omega), zI_pI, if_neg (by omega), zI_pI]
          by_cases z : i = n
          · rw [if_pos ⟨rfl, z⟩, if_pos z]
          · rw [if_neg (by omega), if_neg z, zI_pI, if_neg (by omega)]
        have e10 : zI (pS (pI (pI (pI (pI s' 7 n u) 8 n v) 9 n w) 10 n 1) 6 4 (zS s' 6 4 + 1)) 10 i = if i = n then 1 else zI s' 10 i := by
          rw [zI_pS, zI_pI]
          by_cases z : i = n
          · rw [if_pos ⟨rfl, z⟩, if_pos z]
          · rw [if_neg (by omega), if_neg z, zI_pI, if_neg (by omega), zI_pI, if_neg (by omega), zI_pI, if_neg (by omega)]
        have f74 : zI (pI (pI (pI (pI t' 74 n u) 75 n v) 76 n w) 77 n c) 74 i = if i = n then u else zI t' 74 i := by
          rw [zI_pI, if_neg (by omega), zI_pI, if_neg (by omega), zI_pI, if_neg (by omega), zI_pI]
          by_cases z : i = n
          · rw [if_pos ⟨rfl, z⟩, if_pos z]
          · rw [if_neg (by omega), if_neg z]
        have f75 : zI (pI (pI (pI (pI t' 74 n u) 75 n v) 76 n w) 77 n c) 75 i = if i = n then v else zI t' 75 i := by
          rw [zI_pI, if_neg (by omega), zI_pI, if_neg (by omega), zI_pI]
          by_cases z : i = n
          · rw [if_pos ⟨rfl, z⟩, if_pos z]
          · rw [if_neg (by omega), if_neg z, zI_pI, if_neg (by omega)]
        have f77 : zI (pI (pI (pI (pI t' 74 n u) 75 n v) 76 n w) 77 n c) 77 i = if i = n then 1 else zI t' 77 i := by
          rw [zI_pI]
          by_cases z : i = n
          · rw [if_pos ⟨rfl, z⟩, if_pos z]; exact hc
          · rw [if_neg (by omega), if_neg z, zI_pI, if_neg (by omega), zI_pI, if_neg (by omega), zI_pI, if_neg (by omega)]
        rw [e7, e8, e10, f74, f75, f77, dI 16 i (by omega), dS 15 3 (by omega)]
        by_cases z : i = n
        · rw [if_pos z, if_pos z, if_pos z, if_pos z, if_pos z, if_pos z]
          exact ⟨rfl, rfl, rfl, Or.inr rfl, fun _ => ⟨by omega, by rw [z]; exact k16⟩⟩
        · rw [if_neg z, if_neg z, if_neg z, if_neg z, if_neg z, if_neg z]
          exact ⟨m1, m2, m3, m4, m5⟩
      · have hb := ySum_b (f := fun i => if i < 120 then (zI s' 10 i).toInt else 0) (c := 1) (fun i => by
          by_cases z : i < 120
          · rw [if_pos z]
            rcases (Q2.1 i z).2.2.2.1 with y | y <;> rw [y] <;> decide
          · rw [if_neg z]; decide) 120
        have hb2 : ySum (fun i => if i < 120 then (zI s' 10 i).toInt else 0) 120 = ySum (fun i => (zI s' 10 i).toInt) 120 := ySum_c (fun i hi => by rw [if_pos hi])
        have e4 : (zS s' 6 4 + 1).toInt = (zS s' 6 4).toInt + 1 := by
          have := Q2.2
          rw [i32_add (by rw [jl1]; omega) (by rw [jl1]; omega), jl1]
        show (zS s' 6 4 + 1).toInt = ySum (fun i => (if 10 = 10 ∧ i = n then (1 : Int32) else zI s' 10 i).toInt) 120
        rw [ySum_up (f := fun i => (zI s' 10 i).toInt) (j := n) (fun i hi => by rw [if_neg (by omega)]), if_pos hn, if_pos ⟨rfl, rfl⟩, z10, e4, Q2.2, jl1, jl0]
        omega
    rw [addX B h, addM B h, if_neg (nfull B h)]
    repeat' (first
      | with_reducible refine Pc_bdS ?_
      | with_reducible refine Pc_b1S ?_
      | with_reducible refine Pc_if00 ?_
      | with_reducible refine Pc_if10 ?_
      | with_reducible refine Pc_lt (fun _ => ?_) (fun _ => ?_)
      | with_reducible refine Pc_if (fun _ => ?_) (fun _ => ?_)
      | with_reducible refine Pc_gd (fun _ => ?_)
      | with_reducible refine Pc_vl ?_
      | with_reducible refine Pc_wl ?_
      | with_reducible refine Pc_st ?_
      | with_reducible refine Pc_jn ?_
      | with_reducible refine Pc_b1 ?_
      | with_reducible refine Pc_bd ?_
      | with_reducible refine Pc_onS ?_
      | with_reducible refine Pc_onN ?_
      | with_reducible refine Pc_on (fun _ => ?_) (fun _ _ => ?_)
      | with_reducible refine Pc_some ?_
      | with_reducible refine Pc_none)
    all_goals first | exact ⟨rfl, Q⟩ | exact ⟨rfl, key _ _ _ _ (by decide)⟩ | (exfalso; (simp only [jlt, jd4, jd10, jd20, jd24, jd60, jd100, jm4, jm10, jm20, jm24, jm60, jm100, Int32.reduceToInt] at *; omega))
  · rw [addXf h, if_pos (full B h)]
    repeat' (first
      | with_reducible refine Pc_bdS ?_
      | with_reducible refine Pc_b1S ?_
      | with_reducible refine Pc_if00 ?_
      | with_reducible refine Pc_if10 ?_
      | with_reducible refine Pc_lt (fun _ => ?_) (fun _ => ?_)
      | with_reducible refine Pc_if (fun _ => ?_) (fun _ => ?_)
      | with_reducible refine Pc_gd (fun _ => ?_)
      | with_reducible refine Pc_vl ?_
      | with_reducible refine Pc_wl ?_
      | with_reducible refine Pc_st ?_
      | with_reducible refine Pc_jn ?_
      | with_reducible refine Pc_b1 ?_
      | with_reducible refine Pc_bd ?_
      | with_reducible refine Pc_onS ?_
      | with_reducible refine Pc_onN ?_
      | with_reducible refine Pc_on (fun _ => ?_) (fun _ _ => ?_)
      | with_reducible refine Pc_some ?_
      | with_reducible refine Pc_none)
    all_goals first | exact ⟨rfl, Q⟩ | (exfalso; (simp only [jlt, jd4, jd10, jd20, jd24, jd60, jd100, jm4, jm10, jm20, jm24, jm60, jm100, Int32.reduceToInt] at *; omega))
end BDs
