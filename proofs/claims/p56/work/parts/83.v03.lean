/-! ifs by numbers -/
theorem n10 : ¬ (1 : Int32) = 0 := by decide
section PIs
theorem Pc_bdS {α ρ : Type} {Q : ρ → Prop} {x : α} {s : SS} {k : α → SS → Option ρ} (h : Pc (k x s) Q) : Pc (bd (some (x, s)) k) Q := h
theorem Pc_b1S {α ρ : Type} {Q : ρ → Prop} {x : α} {k : α → Option ρ} (h : Pc (k x) Q) : Pc (b1 (some x) k) Q := h
variable {ρ : Type} {Q : ρ → Prop} {A B : Option ρ}
theorem Pc_lt {a b : Int32} {i : Decidable (a < b)} (h1 : a.toInt < b.toInt → Pc A Q) (h2 : b.toInt ≤ a.toInt → Pc B Q) : Pc (@ite _ (a < b) i A B) Q := Pc_if (fun h => h1 (Int32.lt_iff_toInt_lt.mp h)) (fun h => h2 (by rw [jlt] at h; omega))
theorem Pc_ltt {a b : Int32} {i : Decidable (a < b)} (h : a.toInt < b.toInt) (k : Pc A Q) : Pc (@ite _ (a < b) i A B) Q := Pc_ift (Int32.lt_iff_toInt_lt.mpr h) k
theorem Pc_ltf {a b : Int32} {i : Decidable (a < b)} (h : b.toInt ≤ a.toInt) (k : Pc B Q) : Pc (@ite _ (a < b) i A B) Q := Pc_iff (fun z => by rw [jlt] at z; omega) k
theorem Pc_if00 {i : Decidable ((0 : Int32) = 0)} (h : Pc A Q) : Pc (@ite _ ((0 : Int32) = 0) i A B) Q := Pc_ift rfl h
theorem Pc_if10 {i : Decidable ((1 : Int32) = 0)} (h : Pc B Q) : Pc (@ite _ ((1 : Int32) = 0) i A B) Q := Pc_iff n10 h
end PIs
/-! SPOONS, BREAKS -/
section SPs
variable {s t : SS}
theorem dSs {k a : Nat} {v : Int32} (h : a < 126) : ∀ q k', 126 ≤ q → zS (pS s a k v) q k' = zS s q k' := fun q k' hq => by rw [zS_pS, if_neg (by omega)]
theorem dIs {i a : Nat} {v : Int32} (h : a < 126) : ∀ q j, 126 ≤ q → zI (pI s a i v) q j = zI s q j := fun q j hq => by rw [zI_pI, if_neg (by omega)]
theorem L_spoons (B : B1 s t) (Q : Q4 s t) (a0 : Int32) : Pc (f_X11_spoons s a0) fun x => Pc (f_X12_spoons t a0) fun m => x.1 = m.1 ∧ Q4 x.2 m.2 := by
  have e : zS s 30 0 = zS t 59 54 := Q.2.2.2.2.1.1
  have key : Q4 (pS s 30 0 a0) (pS t 59 54 a0) := by
    obtain ⟨Q1, Q2, Q3, Q5, Q6, Q7, Q8, Q9, Q10, Q11, Q12, Q13, Q14⟩ := Q
    exact ⟨Q1.c B.1.sh (dSs (by omega)) (fun _ _ _ => rfl) (fun _ => rfl) (fun _ _ _ _ => rfl), Q2, Q3, Q5, ⟨rfl, Q6.2⟩, Q7, Q8.c (fun i hi => by rw [zS_pS, if_neg (by omega)]) (fun _ => rfl), Q9, Q10, Q11.c B.1.sh rfl (dSs (by omega)) (fun _ _ _ => rfl) (fun _ => rfl) (fun _ _ _ _ => rfl), Q12.c B.1.sh rfl (dSs (by omega)) (fun _ _ _ => rfl) (fun _ => rfl) (fun _ _ => rfl) (fun _ _ _ _ => rfl), Q13, Q14⟩
  unfold f_X11_spoons f_X12_spoons f_X12_in
  repeat' (first
    | with_reducible refine Pc_bdS ?_
    | with_reducible refine Pc_b1S ?_
    | with_reducible refine Pc_if00 ?_
    | with_reducible refine Pc_if10 ?_
    | with_reducible refine Pc_lt (fun _ => ?_) (fun _ => ?_)
    | with_reducible refine Pc_if (fun _ => ?_) (fun _ => ?_)
    | with_reducible refine Pc_gd (fun _ => ?_)
    | with_reducible refine Pc_vl ?_
    | with_reducible refine Pc_wl ?_
    | with_reducible refine Pc_st ?_
    | with_reducible refine Pc_jn ?_
    | with_reducible refine Pc_b1 ?_
    | with_reducible refine Pc_bd ?_
    | with_reducible refine Pc_onS ?_
    | with_reducible refine Pc_onN ?_
    | with_reducible refine Pc_on (fun _ => ?_) (fun _ _ => ?_)
    | with_reducible refine Pc_some ?_
    | with_reducible refine Pc_none)
  all_goals first | exact ⟨rfl, Q⟩ | exact ⟨e, key⟩ | (exfalso; (simp only [jlt, jd4, jd10, jd20, jd24, jd60, jd100, jm4, jm10, jm20, jm24, jm60, jm100, Int32.reduceToInt] at *; omega))
theorem L_breaks (B : B1 s t) (Q : Q4 s t) (a0 a1 : Int32) : Pc (f_X11_breaks s a0 a1) fun x => Pc (f_X12_breaks t a0 a1) fun m => x.1 = m.1 ∧ Q4 x.2 m.2 := by
  have key : ∀ n, n < 3 → Q4 (pS s (20 + n) 2 a1) (pI t 80 n a1) := by
    intro n hn
    obtain ⟨Q1, Q2, Q3, Q5, Q6, Q7, Q8, Q9, Q10, Q11, Q12, Q13, Q14⟩ := Q
    have u : ∀ q k, q < 20 ∨ 23 ≤ q → zS (pS s (20 + n) 2 a1) q k = zS s q k := fun q k h => by rw [zS_pS, if_neg (by omega)]
    have d : ∀ q k', 126 ≤ q → zS (pS s (20 + n) 2 a1) q k' = zS s q k' := fun q k' hq => u q k' (by omega)
    refine ⟨Q1.c B.1.sh d (fun _ _ _ => rfl) (fun _ => rfl) (fun q j h1 h2 => by rw [zI_pI, if_neg (by omega)]), Q2.c (fun _ => rfl) (fun _ => rfl) (fun _ => rfl) (fun _ => rfl) (u 15 3 (by omega)) (u 6 4 (by omega)) (fun _ => rfl) (fun _ => rfl) (fun _ => rfl), Q3.c (fun k _ => u 0 k (by omega)) (u 15 4 (by omega)) (fun _ => rfl) (fun _ => rfl) (fun _ => rfl), Q5.c (u 0 18 (by omega)) (u 0 14 (by omega)) (fun _ => rfl), Q6.c (fun k => u 30 k (by omega)) (u 0 14 (by omega)) (fun _ _ _ _ => rfl) (fun _ _ => rfl) (fun q j h1 h2 => by rw [zI_pI, if_neg (by omega)]), Q7.c (fun k _ _ => u 15 k (by omega)) (fun _ _ _ => rfl), fun i hi => ?_, Q9.c (fun k _ _ => u 6 k (by omega)) (fun _ => rfl) (fun _ _ => rfl) (fun _ => rfl) (fun _ => rfl), Q10.c (by rw [u 15 3 (by omega)]; exact Int.le_refl _) (fun _ _ h => h) B.1.tot.2.2 (fun _ => rfl), Q11.c B.1.sh (u 0 5 (by omega)) d (fun _ _ _ => rfl) (fun _ => rfl) (fun q j h1 h2 => by rw [zI_pI, if_neg (by omega)]), Q12.c B.1.sh (u 0 8 (by omega)) d (fun _ _ _ => rfl) (fun _ => rfl) (fun _ _ => rfl) (fun q j h1 h2 => by rw [zI_pI, if_neg (by omega)]), Q13.c (fun q i h => by rw [zI_pI, if_neg (by omega)]) (fun _ => rfl), Q14.c (u 0 14 (by omega)) (fun _ => rfl)⟩
    rw [zS_pS, zI_pI]
    by_cases c : i = n
    · rw [if_pos ⟨by omega, rfl⟩, if_pos ⟨rfl, c⟩]
    · rw [if_neg (by omega), if_neg (by omega)]; exact Q8 i hi
  have eh : zS s 0 14 = zS t 59 1 := B.2.1.1
  have er : ∀ i, i < 3 → zR s 19 i = some (20 + i) := B.1.sh.2.2.2.1
  unfold f_X11_breaks f_X12_breaks f_X12_isMachine f_X12_in f_X11_machineOf
  by_cases c : 0 ≤ a0.toInt ∧ a0.toInt < 3
  · rw [er _ (by omega)]
    have := key a0.toInt.toNat (by omega)
    rw [← eh]
    repeat' (first
      | with_reducible refine Pc_bdS ?_
      | with_reducible refine Pc_b1S ?_
      | with_reducible refine Pc_if00 ?_
      | with_reducible refine Pc_if10 ?_
      | with_reducible refine Pc_lt (fun _ => ?_) (fun _ => ?_)
      | with_reducible refine Pc_if (fun _ => ?_) (fun _ => ?_)
      | with_reducible refine Pc_gd (fun _ => ?_)
      | with_reducible refine Pc_vl ?_
      | with_reducible refine Pc_wl ?_
      | with_reducible refine Pc_st ?_
      | with_reducible refine Pc_jn ?_
      | with_reducible refine Pc_b1 ?_
      | with_reducible refine Pc_bd ?_
      | with_reducible refine Pc_onS ?_
      | with_reducible refine Pc_onN ?_
      | with_reducible refine Pc_on (fun _ => ?_) (fun _ _ => ?_)
      | with_reducible refine Pc_some ?_
      | with_reducible refine Pc_none)
    all_goals first | exact ⟨rfl, Q⟩ | exact ⟨rfl, this⟩ | (exfalso; (simp only [jlt, jd4, jd10, jd20, jd24, jd60, jd100, jm4, jm10, jm20, jm24, jm60, jm100, Int32.reduceToInt] at *; omega))
  · skip
    repeat' (first
      | with_reducible refine Pc_bdS ?_
      | with_reducible refine Pc_b1S ?_
      | with_reducible refine Pc_if00 ?_
      | with_reducible refine Pc_if10 ?_
      | with_reducible refine Pc_lt (fun _ => ?_) (fun _ => ?_)
      | with_reducible refine Pc_if (fun _ => ?_) (fun _ => ?_)
      | with_reducible refine Pc_gd (fun _ => ?_)
      | with_reducible refine Pc_vl ?_
      | with_reducible refine Pc_wl ?_
      | with_reducible refine Pc_st ?_
      | with_reducible refine Pc_jn ?_
      | with_reducible refine Pc_b1 ?_
      | with_reducible refine Pc_bd ?_
      | with_reducible refine Pc_onS ?_
      | with_reducible refine Pc_onN ?_
      | with_reducible refine Pc_on (fun _ => ?_) (fun _ _ => ?_)
      | with_reducible refine Pc_some ?_
      | with_reducible refine Pc_none)
    all_goals first | exact ⟨rfl, Q⟩ | (exfalso; (simp only [jlt, jd4, jd10, jd20, jd24, jd60, jd100, jm4, jm10, jm20, jm24, jm60, jm100, Int32.reduceToInt] at *; omega))
end SPs
/-! BODIES, THE SHELTER, MEN -/
section BDs
variable {s t : SS}
theorem tot1 (B : B1 s t) (h : (zS s 15 3).toInt < 120) : (zS s 15 3 + 1).toInt = (zS s 15 3).toInt + 1 := by
  have := B.1.tot
  rw [i32_add (by rw [jl1]; omega) (by rw [jl1]; omega), jl1]
theorem noH (B : B1 s t) {i : Nat} (h : (zS s 15 3).toInt ≤ i) (hi : i < 120) : zR s 17 i = none := (B.1.rh i hi).mpr (fun z => by omega)
theorem Q4.ad {v : Int32} (B : B1 s t) (Q : Q4 s t) (h : (zS s 15 3).toInt < 120) : Q4 (adX s v) (adM t v) := by
  have b := B.1.tot
  have e1 := tot1 B h
  have e3 : zS (adX s v) 15 3 = zS s 15 3 + 1 := rfl
  obtain ⟨Q1, Q2, Q3, Q5, Q6, Q7, Q8, Q9, Q10, Q11, Q12, Q13, Q14⟩ := Q
  have d : ∀ q k, 126 ≤ q → zS (adX s v) q k = zS s q k := fun q k hq => by
    unfold adX
    rw [zS_pS, if_neg (by omega), zS_pI]
  have dI : ∀ q j, q ≠ 16 → zI (adX s v) q j = zI s q j := fun q j hq => by
    unfold adX
    rw [zI_pS, zI_pI, if_neg (by omega)]
  have mI : ∀ q j, q ≠ 62 → zI (adM t v) q j = zI t q j := fun q j hq => by
    unfold adM
    rw [zI_pS, zI_pI, if_neg (by omega)]
  refine ⟨Q1.c B.1.sh d (fun q j hq => dI q j (by omega)) (fun _ => rfl) (fun q j h1 h2 => mI q j (by omega)), ⟨fun i hi => ?_, Q2.2⟩, Q3, Q5, Q6, Q7, Q8.c (fun i hi => ?_) (fun _ => rfl), Q9, Q10.c (by rw [e3]; omega) (fun _ _ h => h) b.2.2 (fun _ => rfl), Q11.c B.1.sh rfl d (fun q j hq => dI q j (by omega)) (fun _ => rfl) (fun q j h1 h2 => mI q j (by omega)), Q12.c B.1.sh rfl d (fun q j hq => dI q j (by omega)) (fun _ => rfl) (fun _ _ => rfl) (fun q j h1 h2 => mI q j (by omega)), Q13, Q14⟩
  · obtain ⟨m1, m2, m3, m4, m5⟩ := Q2.1 i hi
    refine ⟨m1, m2, m3, m4, fun z => ?_⟩
    obtain ⟨n1, n2⟩ := m5 z
    refine ⟨by rw [e3]; omega, ?_⟩
    show (if 16 = 16 ∧ i = (zS s 15 3).toInt.toNat then v else zI s 16 i) = 7
    rw [if_neg (by omega)]
    exact n2
  · unfold adX
    rw [zS_pS, if_neg (by omega), zS_pI]
theorem addX {v : Int32} (B : B1 s t) (h : (zS s 15 3).toInt < 120) : f_X0_added s v = some (zS s 15 3, adX s v) := by
  have b := B.1.tot
  unfold f_X0_added
  rw [if_pos (by rw [jlt, jl120]; exact h), vl, gd_t ⟨b.2.1, h⟩]
  show some (zS s 15 3 + 1 - 1, adX s v) = _
  rw [s11]
theorem addXf {v : Int32} (h : ¬ (zS s 15 3).toInt < 120) : f_X0_added s v = some (-3, s) := by
  unfold f_X0_added
  rw [if_neg (by rw [jlt, jl120]; exact h)]
theorem addM {v : Int32} (B : B1 s t) (h : (zS s 15 3).toInt < 120) : f_X12_add t v = some (zS s 15 3, adM t v) := by
  have b := B.1.tot
  have e := b.1
  unfold f_X12_add
  rw [vl, gd_t ⟨by rw [← e]; exact b.2.1, by rw [← e]; exact h⟩]
  show some (zS t 59 4 + 1 - 1, adM t v) = _
  rw [s11, e]
theorem full (B : B1 s t) (h : ¬ (zS s 15 3).toInt < 120) : zS t 59 4 = 120 := Int32.toInt_inj.1 (by have b := B.1.tot; rw [← b.1, jl120]; omega)
theorem nfull (B : B1 s t) (h : (zS s 15 3).toInt < 120) : ¬ zS t 59 4 = 120 := fun z => by rw [B.1.tot.1, z, jl120] at h; omega
theorem L_body (B : B1 s t) (Q : Q4 s t) (a0 : Int32) : Pc (f_X11_body s a0) fun x => Pc (f_X12_body t a0) fun m => x.1 = m.1 ∧ Q4 x.2 m.2 := by
  unfold f_X11_body f_X12_body f_X12_in
  by_cases h : (zS s 15 3).toInt < 120
  · have key := Q.ad (v := a0) B h
    rw [addX B h, addM B h, if_neg (nfull B h)]
    repeat' (first
      | with_reducible refine Pc_bdS ?_
      | with_reducible refine Pc_b1S ?_
      | with_reducible refine Pc_if00 ?_
      | with_reducible refine Pc_if10 ?_
      | with_reducible refine Pc_ltt (by assumption) ?_
      | with_reducible refine Pc_ltf (by assumption) ?_
      | with_reducible refine Pc_lt (fun _ => ?_) (fun _ => ?_)
      | with_reducible refine Pc_ift (by assumption) ?_
      | with_reducible refine Pc_iff (by assumption) ?_
      | with_reducible refine Pc_if (fun _ => ?_) (fun _ => ?_)
      | with_reducible refine Pc_gd (fun _ => ?_)
      | with_reducible refine Pc_vl ?_
      | with_reducible refine Pc_wl ?_
      | with_reducible refine Pc_st ?_
      | with_reducible refine Pc_jn ?_
      | with_reducible refine Pc_b1 ?_
      | with_reducible refine Pc_bd ?_
      | with_reducible refine Pc_onS ?_
      | with_reducible refine Pc_onN ?_
      | with_reducible refine Pc_on (fun _ => ?_) (fun _ _ => ?_)
      | with_reducible refine Pc_some ?_
      | with_reducible refine Pc_none)
    all_goals first | with_reducible exact ⟨rfl, Q⟩ | with_reducible exact ⟨rfl, key⟩ | (exfalso; simp only [jeq] at *; (simp only [jlt, jd4, jd10, jd20, jd24, jd60, jd100, jm4, jm10, jm20, jm24, jm60, jm100, Int32.reduceToInt] at *; omega)) | exact ⟨rfl, Q⟩ | exact ⟨rfl, key⟩
  · rw [addXf h, if_pos (full B h)]
    repeat' (first
      | with_reducible refine Pc_bdS ?_
      | with_reducible refine Pc_b1S ?_
      | with_reducible refine Pc_if00 ?_
      | with_reducible refine Pc_if10 ?_
      | with_reducible refine Pc_ltt (by assumption) ?_
      | with_reducible refine Pc_ltf (by assumption) ?_
      | with_reducible refine Pc_lt (fun _ => ?_) (fun _ => ?_)
      | with_reducible refine Pc_ift (by assumption) ?_
      | with_reducible refine Pc_iff (by assumption) ?_
      | with_reducible refine Pc_if (fun _ => ?_) (fun _ => ?_)
      | with_reducible refine Pc_gd (fun _ => ?_)
      | with_reducible refine Pc_vl ?_
      | with_reducible refine Pc_wl ?_
      | with_reducible refine Pc_st ?_
      | with_reducible refine Pc_jn ?_
      | with_reducible refine Pc_b1 ?_
      | with_reducible refine Pc_bd ?_
      | with_reducible refine Pc_onS ?_
      | with_reducible refine Pc_onN ?_
      | with_reducible refine Pc_on (fun _ => ?_) (fun _ _ => ?_)
      | with_reducible refine Pc_some ?_
      | with_reducible refine Pc_none)
    all_goals first | with_reducible exact ⟨rfl, Q⟩ | (exfalso; simp only [jeq] at *; (simp only [jlt, jd4, jd10, jd20, jd24, jd60, jd100, jm4, jm10, jm20, jm24, jm60, jm100, Int32.reduceToInt] at *; omega)) | exact ⟨rfl, Q⟩
theorem L_shelter (B : B1 s t) (Q : Q4 s t) (a0 a1 : Int32) : Pc (f_X11_shelter s a0 a1) fun x => Pc (f_X12_shelter t a0 a1) fun m => x.1 = m.1 ∧ Q4 x.2 m.2 := by
  have b := B.1.tot
  have b5 : zS s 15 5 = zS t 59 21 := B.1.1.2.1
  unfold f_X11_shelter f_X12_shelter f_X11_isSpan f_X12_isSpan f_X11_isYard f_X12_in f_X0_addedRefuge
  rw [← b5]
  by_cases h : (zS s 15 3).toInt < 120
  · have key : ∀ u v w : Int32, 1 ≤ w.toInt → Q4 (pS (pS (pS (pS (adX s 6) 15 5 (zS s 15 3)) 15 6 u) 15 7 v) 15 8 w) (pS (pS (pS (pS (adM t 6) 59 21 (zS s 15 3)) 59 22 u) 59 23 v) 59 24 w) := by
      intro u v w hw
      have K := Q.ad (v := 6) B h
      have S : Sh (adX s 6) := B.1.sh.same rfl rfl
      generalize hs : adX s 6 = s' at K S ⊢
      generalize ht : adM t 6 = t' at K ⊢
      obtain ⟨Q1, Q2, Q3, Q5, Q6, Q7, Q8, Q9, Q10, Q11, Q12, Q13, Q14⟩ := K
      have d : ∀ q k, q < 15 ∨ 15 < q → zS (pS (pS (pS (pS s' 15 5 (zS s 15 3)) 15 6 u) 15 7 v) 15 8 w) q k = zS s' q k := fun q k hq => by
        rw [zS_pS, if_neg (by omega), zS_pS, if_neg (by omega), zS_pS, if_neg (by omega), zS_pS, if_neg (by omega)]
      exact ⟨Q1.c S (fun q k h => d q k (by omega)) (fun _ _ _ => rfl) (fun _ => rfl) (fun _ _ _ _ => rfl), Q2, Q3, Q5, Q6, ⟨rfl, rfl, rfl, Q7.2.2.2.1, fun _ => hw⟩, Q8.c (fun i hi => d _ _ (by omega)) (fun _ => rfl), Q9, Q10, Q11.c S rfl (fun q k h => d q k (by omega)) (fun _ _ _ => rfl) (fun _ => rfl) (fun _ _ _ _ => rfl), Q12.c S rfl (fun q k h => d q k (by omega)) (fun _ _ _ => rfl) (fun _ => rfl) (fun _ _ => rfl) (fun _ _ _ _ => rfl), Q13, Q14⟩
    rw [addX B h, addM B h, if_neg (nfull B h)]
    repeat' (first
      | with_reducible refine Pc_bdS ?_
      | with_reducible refine Pc_b1S ?_
      | with_reducible refine Pc_if00 ?_
      | with_reducible refine Pc_if10 ?_
      | with_reducible refine Pc_ltt (by assumption) ?_
      | with_reducible refine Pc_ltf (by assumption) ?_
      | with_reducible refine Pc_lt (fun _ => ?_) (fun _ => ?_)
      | with_reducible refine Pc_ift (by assumption) ?_
      | with_reducible refine Pc_iff (by assumption) ?_
      | with_reducible refine Pc_if (fun _ => ?_) (fun _ => ?_)
      | with_reducible refine Pc_gd (fun _ => ?_)
      | with_reducible refine Pc_vl ?_
      | with_reducible refine Pc_wl ?_
      | with_reducible refine Pc_st ?_
      | with_reducible refine Pc_jn ?_
      | with_reducible refine Pc_b1 ?_
      | with_reducible refine Pc_bd ?_
      | with_reducible refine Pc_onS ?_
      | with_reducible refine Pc_onN ?_
      | with_reducible refine Pc_on (fun _ => ?_) (fun _ _ => ?_)
      | with_reducible refine Pc_some ?_
      | with_reducible refine Pc_none)
    all_goals first | with_reducible exact ⟨rfl, Q⟩ | with_reducible exact ⟨rfl, key _ _ _ (by assumption)⟩ | (exfalso; (simp only [jlt, jd4, jd10, jd20, jd24, jd60, jd100, jm4, jm10, jm20, jm24, jm60, jm100, Int32.reduceToInt] at *; omega)) | exact ⟨rfl, Q⟩ | exact ⟨rfl, key _ _ _ (by assumption)⟩
  · rw [addXf h, if_pos (full B h)]
    repeat' (first
      | with_reducible refine Pc_bdS ?_
      | with_reducible refine Pc_b1S ?_
      | with_reducible refine Pc_if00 ?_
      | with_reducible refine Pc_if10 ?_
      | with_reducible refine Pc_ltt (by assumption) ?_
      | with_reducible refine Pc_ltf (by assumption) ?_
      | with_reducible refine Pc_lt (fun _ => ?_) (fun _ => ?_)
      | with_reducible refine Pc_ift (by assumption) ?_
      | with_reducible refine Pc_iff (by assumption) ?_
      | with_reducible refine Pc_if (fun _ => ?_) (fun _ => ?_)
      | with_reducible refine Pc_gd (fun _ => ?_)
      | with_reducible refine Pc_vl ?_
      | with_reducible refine Pc_wl ?_
      | with_reducible refine Pc_st ?_
      | with_reducible refine Pc_jn ?_
      | with_reducible refine Pc_b1 ?_
      | with_reducible refine Pc_bd ?_
      | with_reducible refine Pc_onS ?_
      | with_reducible refine Pc_onN ?_
      | with_reducible refine Pc_on (fun _ => ?_) (fun _ _ => ?_)
      | with_reducible refine Pc_some ?_
      | with_reducible refine Pc_none)
    all_goals first | with_reducible exact ⟨rfl, Q⟩ | (exfalso; (simp only [jlt, jd4, jd10, jd20, jd24, jd60, jd100, jm4, jm10, jm20, jm24, jm60, jm100, Int32.reduceToInt] at *; omega)) | exact ⟨rfl, Q⟩
theorem L_man (B : B1 s t) (Q : Q4 s t) (a0 a1 : Int32) : Pc (f_X11_man s a0 a1) fun x => Pc (f_X12_man t a0 a1) fun m => x.1 = m.1 ∧ Q4 x.2 m.2 := by
  have b := B.1.tot
  unfold f_X11_man f_X12_man f_X12_in f_X2_comes
  by_cases h : (zS s 15 3).toInt < 120
  · have key : ∀ u v w c : Int32, c = 1 → Q4 (pS (pI (pI (pI (pI (adX s 7) 7 (zS s 15 3).toInt.toNat u) 8 (zS s 15 3).toInt.toNat v) 9 (zS s 15 3).toInt.toNat w) 10 (zS s 15 3).toInt.toNat 1) 6 4 (zS s 6 4 + 1)) (pI (pI (pI (pI (adM t 7) 74 (zS s 15 3).toInt.toNat u) 75 (zS s 15 3).toInt.toNat v) 76 (zS s 15 3).toInt.toNat w) 77 (zS s 15 3).toInt.toNat c) := by
      intro u v w c hc
      have K := Q.ad (v := 7) B h
      have S : Sh (adX s 7) := B.1.sh.same rfl rfl
      have h64 : zS (adX s 7) 6 4 = zS s 6 4 := rfl
      have k16 : zI (adX s 7) 16 (zS s 15 3).toInt.toNat = 7 := by
        show (if 16 = 16 ∧ (zS s 15 3).toInt.toNat = (zS s 15 3).toInt.toNat then 7 else _) = 7
        rw [if_pos ⟨rfl, rfl⟩]
      have k3 : (zS (adX s 7) 15 3).toInt = (zS s 15 3).toInt + 1 := tot1 B h
      have z10 : zI (adX s 7) 10 (zS s 15 3).toInt.toNat = 0 := by
        rcases (Q.2.1.1 (zS s 15 3).toInt.toNat (by omega)).2.2.2.1 with z | z
        · exact z
        · have := (Q.2.1.1 (zS s 15 3).toInt.toNat (by omega)).2.2.2.2 z
          omega
      rw [← h64]
      generalize hs : adX s 7 = s' at K S k16 k3 z10 ⊢
      generalize ht : adM t 7 = t' at K ⊢
      have hn : (zS s 15 3).toInt.toNat < 120 := by omega
      have hn' : ((zS s 15 3).toInt.toNat : Int) = (zS s 15 3).toInt := by omega
      generalize (zS s 15 3).toInt.toNat = n at k16 z10 hn hn' ⊢
      obtain ⟨Q1, Q2, Q3, Q5, Q6, Q7, Q8, Q9, Q10, Q11, Q12, Q13, Q14⟩ := K
      have dS : ∀ q k, q < 6 ∨ 6 < q → zS (pS (pI (pI (pI (pI s' 7 n u) 8 n v) 9 n w) 10 n 1) 6 4 (zS s' 6 4 + 1)) q k = zS s' q k := fun q k hq => by
        rw [zS_pS, if_neg (by omega)]; rfl
      have dI : ∀ q j, q < 7 ∨ 10 < q → zI (pS (pI (pI (pI (pI s' 7 n u) 8 n v) 9 n w) 10 n 1) 6 4 (zS s' 6 4 + 1)) q j = zI s' q j := fun q j hq => by
        rw [zI_pS, zI_pI, if_neg (by omega), zI_pI, if_neg (by omega), zI_pI, if_neg (by omega), zI_pI, if_neg (by omega)]
      have mI : ∀ q j, q < 74 ∨ 77 < q → zI (pI (pI (pI (pI t' 74 n u) 75 n v) 76 n w) 77 n c) q j = zI t' q j := fun q j hq => by
        rw [zI_pI, if_neg (by omega), zI_pI, if_neg (by omega), zI_pI, if_neg (by omega), zI_pI, if_neg (by omega)]
      refine ⟨Q1.c S (fun q k h => dS q k (by omega)) (fun q j h => dI q j (by omega)) (fun _ => rfl) (fun q j h1 h2 => mI q j (by omega)), ⟨fun i hi => ?_, ?_⟩, Q3, Q5, Q6, Q7, Q8.c (fun i hi => dS _ _ (by omega)) (fun _ => rfl), Q9, Q10, Q11.c S rfl (fun q k h => dS q k (by omega)) (fun q j h => dI q j (by omega)) (fun _ => rfl) (fun q j h1 h2 => mI q j (by omega)), Q12.c S rfl (fun q k h => dS q k (by omega)) (fun q j h => dI q j (by omega)) (fun _ => rfl) (fun _ _ => rfl) (fun q j h1 h2 => mI q j (by omega)), Q13, Q14⟩
      · obtain ⟨m1, m2, m3, m4, m5⟩ := Q2.1 i hi
        have e7 : zI (pS (pI (pI (pI (pI s' 7 n u) 8 n v) 9 n w) 10 n 1) 6 4 (zS s' 6 4 + 1)) 7 i = if i = n then u else zI s' 7 i := by
          rw [zI_pS, zI_pI, if_neg (by omega), zI_pI, if_neg (by omega), zI_pI, if_neg (by omega), zI_pI]
          by_cases z : i = n
          · rw [if_pos ⟨rfl, z⟩, if_pos z]
          · rw [if_neg (by omega), if_neg z]
        have e8 : zI (pS (pI (pI (pI (pI s' 7 n u) 8 n v) 9 n w) 10 n 1) 6 4 (zS s' 6 4 + 1)) 8 i = if i = n then v else zI s' 8 i := by
          rw [zI_pS, zI_pI, if_neg (by omega), zI_pI, if_neg (by omega), zI_pI]
          by_cases z : i = n
          · rw [if_pos ⟨rfl, z⟩, if_pos z]
          · rw [if_neg (by omega), if_neg z, zI_pI, if_neg (by omega)]
        have e10 : zI (pS (pI (pI (pI (pI s' 7 n u) 8 n v) 9 n w) 10 n 1) 6 4 (zS s' 6 4 + 1)) 10 i = if i = n then 1 else zI s' 10 i := by
          rw [zI_pS, zI_pI]
          by_cases z : i = n
          · rw [if_pos ⟨rfl, z⟩, if_pos z]
          · rw [if_neg (by omega), if_neg z, zI_pI, if_neg (by omega), zI_pI, if_neg (by omega), zI_pI, if_neg (by omega)]
        have f74 : zI (pI (pI (pI (pI t' 74 n u) 75 n v) 76 n w) 77 n c) 74 i = if i = n then u else zI t' 74 i := by
          rw [zI_pI, if_neg (by omega), zI_pI, if_neg (by omega), zI_pI, if_neg (by omega), zI_pI]
          by_cases z : i = n
          · rw [if_pos ⟨rfl, z⟩, if_pos z]
          · rw [if_neg (by omega), if_neg z]
        have f75 : zI (pI (pI (pI (pI t' 74 n u) 75 n v) 76 n w) 77 n c) 75 i = if i = n then v else zI t' 75 i := by
          rw [zI_pI, if_neg (by omega), zI_pI, if_neg (by omega), zI_pI]
          by_cases z : i = n
          · rw [if_pos ⟨rfl, z⟩, if_pos z]
          · rw [if_neg (by omega), if_neg z, zI_pI, if_neg (by omega)]
        have f77 : zI (pI (pI (pI (pI t' 74 n u) 75 n v) 76 n w) 77 n c) 77 i = if i = n then 1 else zI t' 77 i := by
          rw [zI_pI]
          by_cases z : i = n
          · rw [if_pos ⟨rfl, z⟩, if_pos z]; exact hc
          · rw [if_neg (by omega), if_neg z, zI_pI, if_neg (by omega), zI_pI, if_neg (by omega), zI_pI, if_neg (by omega)]
        rw [e7, e8, e10, f74, f75, f77, dI 16 i (by omega), dS 15 3 (by omega)]
        by_cases z : i = n
        · rw [if_pos z, if_pos z, if_pos z, if_pos z, if_pos z, if_pos z]
          exact ⟨rfl, rfl, rfl, Or.inr rfl, fun _ => ⟨by omega, by rw [z]; exact k16⟩⟩
        · rw [if_neg z, if_neg z, if_neg z, if_neg z, if_neg z, if_neg z]
          exact ⟨m1, m2, m3, m4, m5⟩
      · have hb := ySum_b (f := fun i => if i < 120 then (zI s' 10 i).toInt else 0) (c := 1) (fun i => by
          by_cases z : i < 120
          · rw [if_pos z]
            rcases (Q2.1 i z).2.2.2.1 with y | y <;> rw [y] <;> decide
          · rw [if_neg z]; decide) 120
        have hb2 : ySum (fun i => if i < 120 then (zI s' 10 i).toInt else 0) 120 = ySum (fun i => (zI s' 10 i).toInt) 120 := ySum_c (fun i hi => by rw [if_pos hi])
        have e4 : (zS s' 6 4 + 1).toInt = (zS s' 6 4).toInt + 1 := by
          have := Q2.2
          rw [i32_add (by rw [jl1]; omega) (by rw [jl1]; omega), jl1]
        show (zS s' 6 4 + 1).toInt = ySum (fun i => (if 10 = 10 ∧ i = n then (1 : Int32) else zI s' 10 i).toInt) 120
        rw [ySum_up (f := fun i => (zI s' 10 i).toInt) (j := n) (fun i hi => by rw [if_neg (by omega)]), if_pos hn, if_pos ⟨rfl, rfl⟩, z10, e4, Q2.2, jl1, jl0]
        omega
    rw [addX B h, addM B h, if_neg (nfull B h)]
    repeat' (first
      | with_reducible refine Pc_bdS ?_
      | with_reducible refine Pc_b1S ?_
      | with_reducible refine Pc_if00 ?_
      | with_reducible refine Pc_if10 ?_
      | with_reducible refine Pc_ltt (by assumption) ?_
      | with_reducible refine Pc_ltf (by assumption) ?_
      | with_reducible refine Pc_lt (fun _ => ?_) (fun _ => ?_)
      | with_reducible refine Pc_ift (by assumption) ?_
      | with_reducible refine Pc_iff (by assumption) ?_
      | with_reducible refine Pc_if (fun _ => ?_) (fun _ => ?_)
      | with_reducible refine Pc_gd (fun _ => ?_)
      | with_reducible refine Pc_vl ?_
      | with_reducible refine Pc_wl ?_
      | with_reducible refine Pc_st ?_
      | with_reducible refine Pc_jn ?_
      | with_reducible refine Pc_b1 ?_
      | with_reducible refine Pc_bd ?_
      | with_reducible refine Pc_onS ?_
      | with_reducible refine Pc_onN ?_
      | with_reducible refine Pc_on (fun _ => ?_) (fun _ _ => ?_)
      | with_reducible refine Pc_some ?_
      | with_reducible refine Pc_none)
    all_goals first | with_reducible exact ⟨rfl, Q⟩ | with_reducible exact ⟨rfl, key _ _ _ _ (by decide)⟩ | (exfalso; (simp only [jlt, jd4, jd10, jd20, jd24, jd60, jd100, jm4, jm10, jm20, jm24, jm60, jm100, Int32.reduceToInt] at *; omega)) | exact ⟨rfl, Q⟩ | exact ⟨rfl, key _ _ _ _ (by decide)⟩
  · rw [addXf h, if_pos (full B h)]
    repeat' (first
      | with_reducible refine Pc_bdS ?_
      | with_reducible refine Pc_b1S ?_
      | with_reducible refine Pc_if00 ?_
      | with_reducible refine Pc_if10 ?_
      | with_reducible refine Pc_ltt (by assumption) ?_
      | with_reducible refine Pc_ltf (by assumption) ?_
      | with_reducible refine Pc_lt (fun _ => ?_) (fun _ => ?_)
      | with_reducible refine Pc_ift (by assumption) ?_
      | with_reducible refine Pc_iff (by assumption) ?_
      | with_reducible refine Pc_if (fun _ => ?_) (fun _ => ?_)
      | with_reducible refine Pc_gd (fun _ => ?_)
      | with_reducible refine Pc_vl ?_
      | with_reducible refine Pc_wl ?_
      | with_reducible refine Pc_st ?_
      | with_reducible refine Pc_jn ?_
      | with_reducible refine Pc_b1 ?_
      | with_reducible refine Pc_bd ?_
      | with_reducible refine Pc_onS ?_
      | with_reducible refine Pc_onN ?_
      | with_reducible refine Pc_on (fun _ => ?_) (fun _ _ => ?_)
      | with_reducible refine Pc_some ?_
      | with_reducible refine Pc_none)
    all_goals first | with_reducible exact ⟨rfl, Q⟩ | (exfalso; (simp only [jlt, jd4, jd10, jd20, jd24, jd60, jd100, jm4, jm10, jm20, jm24, jm60, jm100, Int32.reduceToInt] at *; omega)) | exact ⟨rfl, Q⟩
end BDs
/-! ROWS OF FLOATS AND DOUBLES HOLD SMALL NUMBERS -/
section RWs
variable {t : SS}
theorem and1 (v : Int32) : v &&& 1 = 0 ∨ v &&& 1 = 1 := by
  obtain ⟨j, hj, e⟩ := pk_andE v (m := 1) 1 (by decide)
  rw [e]
  match j, hj with
  | 0, _ => exact Or.inl rfl
  | 1, _ => exact Or.inr rfl
def rwI (t : SS) (i : Nat) : Prop := (zI t 120 i = -5 ∨ zI t 120 i = -6) → ∀ j, j < 60 → zI t 123 (60 * i + j) = 0 → -9999 ≤ (zJ t 122 (60 * i + j)).toInt ∧ (zJ t 122 (60 * i + j)).toInt ≤ 9999
theorem R_keep (R : QRow t) (a0 a1 : Int32) : Pc (f_X12_keep t a0 a1) (fun m => QRow m.2) := by
  unfold f_X12_keep f_X12_isShelf f_X12_isBody f_X12_in
  have key : -1 ≤ a1.toInt → QRow (pI t 120 a0.toInt.toNat a1) := fun h => by
    refine ⟨R.1, fun i hi z => ?_⟩
    rw [zI_pI] at z
    by_cases c : 120 = 120 ∧ i = a0.toInt.toNat
    · rw [if_pos c] at z
      rcases z with z | z <;> rw [z] at h <;> exact absurd h (by decide)
    · rw [if_neg c] at z
      exact R.2 i hi z
  repeat' (first
    | with_reducible refine Pc_bdS ?_
    | with_reducible refine Pc_b1S ?_
    | with_reducible refine Pc_if00 ?_
    | with_reducible refine Pc_if10 ?_
    | with_reducible refine Pc_lt (fun _ => ?_) (fun _ => ?_)
    | with_reducible refine Pc_if (fun _ => ?_) (fun _ => ?_)
    | with_reducible refine Pc_gd (fun _ => ?_)
    | with_reducible refine Pc_vl ?_
    | with_reducible refine Pc_wl ?_
    | with_reducible refine Pc_st ?_
    | with_reducible refine Pc_jn ?_
    | with_reducible refine Pc_b1 ?_
    | with_reducible refine Pc_bd ?_
    | with_reducible refine Pc_onS ?_
    | with_reducible refine Pc_onN ?_
    | with_reducible refine Pc_on (fun _ => ?_) (fun _ _ => ?_)
    | with_reducible refine Pc_some ?_
    | with_reducible refine Pc_none)
  all_goals first | exact R | (refine key ?_; simp only [jeq] at *; (simp only [jlt, jd4, jd10, jd20, jd24, jd60, jd100, jm4, jm10, jm20, jm24, jm60, jm100, Int32.reduceToInt] at *; omega))
theorem row_l {y1 : Int32} (hy : 0 ≤ y1.toInt ∧ y1.toInt ≤ 5) : ∀ (n : Nat) (s : SS) (x4 : Int32), 60 * y1.toInt ≤ x4.toInt → x4.toInt ≤ 60 * y1.toInt + 60 → (∀ j, zI s 123 j = 0 ∨ zI s 123 j = 1) → (∀ i : Nat, i < 6 → (i : Int) ≠ y1.toInt → rwI s i) → (∀ j : Nat, 60 * y1.toInt ≤ j → (j : Int) < x4.toInt → zJ s 122 j = 0) → Pc (f_X12_row_L54 y1 n s x4) (fun m => QRow m.2)
  | 0, s, x4, _, _, _, _, _ => Pc_none
  | n + 1, s, x4, h1, h2, h3, h4, h5 => by
    show Pc (f_X12_row_L54_b y1 (f_X12_row_L54 y1 n) s x4) _
    unfold f_X12_row_L54_b
    have e60 : ((60 : Int32) * y1 + 60).toInt = 60 * y1.toInt + 60 := by
      have m : ((60 : Int32) * y1).toInt = 60 * y1.toInt := by rw [i32_mul (by rw [jl60]; omega) (by rw [jl60]; omega), jl60]
      rw [i32_add (by rw [m, jl60]; omega) (by rw [m, jl60]; omega), m, jl60]
    refine Pc_lt (fun c => Pc_gd (fun g => Pc_st (Pc_gd (fun g' => Pc_st (Pc_vl ?_))))) (fun c => Pc_some ?_)
    · rw [e60] at c
      have e1 : (x4 + 1).toInt = x4.toInt + 1 := by rw [i32_add (by rw [jl1]; omega) (by rw [jl1]; omega), jl1]
      refine row_l hy n _ _ (by omega) (by omega) (fun j => ?_) (fun i hi ne => ?_) (fun j j1 j2 => ?_)
      · rw [zI_pI]
        by_cases z : 123 = 123 ∧ j = x4.toInt.toNat
        · rw [if_pos z]; exact Or.inl (by decide)
        · rw [if_neg z]; exact h3 j
      · intro z j hj y
        have hne : 60 * i + j ≠ x4.toInt.toNat := by omega
        have z' : zI s 120 i = -5 ∨ zI s 120 i = -6 := z
        rw [zI_pI, if_neg (by omega)] at y
        show -9999 ≤ (if 122 = 122 ∧ 60 * i + j = x4.toInt.toNat then (0 : Int64) else zJ s 122 (60 * i + j)).toInt ∧ _
        rw [show zJ (pI (pJ s 122 x4.toInt.toNat 0) 123 x4.toInt.toNat (0 &&& 1)) 122 (60 * i + j) = (if 122 = 122 ∧ 60 * i + j = x4.toInt.toNat then (0 : Int64) else zJ s 122 (60 * i + j)) from rfl, if_neg (by omega)]
        exact h4 i hi ne z' j hj y
      · show (if 122 = 122 ∧ j = x4.toInt.toNat then (0 : Int64) else zJ s 122 j) = 0
        by_cases z : j = x4.toInt.toNat
        · rw [if_pos ⟨rfl, z⟩]
        · rw [if_neg (fun w => z w.2)]
          exact h5 j j1 (by omega)
    · rw [e60] at c
      refine ⟨h3, fun i hi z j hj y => ?_⟩
      by_cases e : (i : Int) = y1.toInt
      · rw [h5 (60 * i + j) (by omega) (by omega)]
        exact ⟨by decide, by decide⟩
      · exact h4 i hi e z j hj y
theorem R_row (R : QRow t) (a0 a1 a2 : Int32) : Pc (f_X12_row t a0 a1 a2) (fun m => QRow m.2) := by
  unfold f_X12_row f_X12_isShelf
  by_cases c : 0 ≤ a0.toInt ∧ a0.toInt ≤ 5
  · rw [in_t (by rw [jl0, jl5]; exact c)]
    have m : ((60 : Int32) * a0).toInt = 60 * a0.toInt := by rw [i32_mul (by rw [jl60]; omega) (by rw [jl60]; omega), jl60]
    have key : ∀ v w : Int32, Pc (f_X12_row_L54 a0 4000 (pI (pI t 120 a0.toInt.toNat v) 121 a0.toInt.toNat w) ((60 : Int32) * a0)) (fun m => QRow m.2) := fun v w => row_l c 4000 _ _ (by rw [m]; omega) (by rw [m]; omega) R.1 (fun i hi ne z j hj y => by
      have z' : zI t 120 i = -5 ∨ zI t 120 i = -6 := by
        rw [zI_pI, if_neg (by omega), zI_pI, if_neg (by omega)] at z
        exact z
      exact R.2 i hi z' j hj y) (fun j j1 j2 => by rw [m] at j2; omega)
    unfold f_X12_in
    repeat' (first
      | with_reducible refine Pc_bdS ?_
      | with_reducible refine Pc_b1S ?_
      | with_reducible refine Pc_if00 ?_
      | with_reducible refine Pc_if10 ?_
      | with_reducible refine Pc_lt (fun _ => ?_) (fun _ => ?_)
      | with_reducible refine Pc_if (fun _ => ?_) (fun _ => ?_)
      | with_reducible refine Pc_gd (fun _ => ?_)
      | with_reducible refine Pc_vl ?_
      | with_reducible refine Pc_wl ?_
      | with_reducible refine Pc_st ?_
      | with_reducible refine Pc_jn ?_
      | with_reducible refine Pc_b1 ?_
      | with_reducible refine Pc_bd ?_
      | with_reducible refine Pc_onS ?_
      | with_reducible refine Pc_onN ?_
      | with_reducible refine Pc_on (fun _ => ?_) (fun _ _ => ?_)
      | with_reducible refine Pc_some ?_
      | with_reducible refine Pc_none)
    all_goals first | exact R | exact key _ _
  · rw [in_f (by rw [jl0, jl5]; exact c)]
    repeat' (first
      | with_reducible refine Pc_bdS ?_
      | with_reducible refine Pc_b1S ?_
      | with_reducible refine Pc_if00 ?_
      | with_reducible refine Pc_if10 ?_
      | with_reducible refine Pc_lt (fun _ => ?_) (fun _ => ?_)
      | with_reducible refine Pc_if (fun _ => ?_) (fun _ => ?_)
      | with_reducible refine Pc_gd (fun _ => ?_)
      | with_reducible refine Pc_vl ?_
      | with_reducible refine Pc_wl ?_
      | with_reducible refine Pc_st ?_
      | with_reducible refine Pc_jn ?_
      | with_reducible refine Pc_b1 ?_
      | with_reducible refine Pc_bd ?_
      | with_reducible refine Pc_onS ?_
      | with_reducible refine Pc_onN ?_
      | with_reducible refine Pc_on (fun _ => ?_) (fun _ _ => ?_)
      | with_reducible refine Pc_some ?_
      | with_reducible refine Pc_none)
    all_goals exact R
theorem R_blank (R : QRow t) (a0 a1 : Int32) : Pc (f_X12_blank t a0 a1) (fun m => QRow m.2) := by
  unfold f_X12_blank f_X12_isShelf f_X12_isReals f_X12_in
  have key : ∀ k, QRow (pI t 123 k (1 &&& 1)) := fun k => by
    refine ⟨fun j => ?_, fun i hi z j hj y => ?_⟩
    · rw [zI_pI]
      by_cases z : 123 = 123 ∧ j = k
      · rw [if_pos z]; exact Or.inr (by decide)
      · rw [if_neg z]; exact R.1 j
    · rw [zI_pI] at y
      by_cases w : 123 = 123 ∧ 60 * i + j = k
      · rw [if_pos w] at y; exact absurd y (by decide)
      · rw [if_neg w] at y
        exact R.2 i hi z j hj y
  repeat' (first
    | with_reducible refine Pc_bdS ?_
    | with_reducible refine Pc_b1S ?_
    | with_reducible refine Pc_if00 ?_
    | with_reducible refine Pc_if10 ?_
    | with_reducible refine Pc_lt (fun _ => ?_) (fun _ => ?_)
    | with_reducible refine Pc_if (fun _ => ?_) (fun _ => ?_)
    | with_reducible refine Pc_gd (fun _ => ?_)
    | with_reducible refine Pc_vl ?_
    | with_reducible refine Pc_wl ?_
    | with_reducible refine Pc_st ?_
    | with_reducible refine Pc_jn ?_
    | with_reducible refine Pc_b1 ?_
    | with_reducible refine Pc_bd ?_
    | with_reducible refine Pc_onS ?_
    | with_reducible refine Pc_onN ?_
    | with_reducible refine Pc_on (fun _ => ?_) (fun _ _ => ?_)
    | with_reducible refine Pc_some ?_
    | with_reducible refine Pc_none)
  all_goals first | exact R | exact key _
theorem lgc_le {x y : Int64} (h : ¬ 0 < lg_cmp x y) : x.toInt ≤ y.toInt := by
  unfold lg_cmp at h
  split at h
  · exact absurd (by decide) h
  · rename_i h1
    have : ¬ y.toInt < x.toInt := fun z => h1 (Int64.lt_iff_toInt_lt.mpr z)
    omega
theorem reals_p (a0 : Int32) : Pc (f_X12_isReals t a0) (fun r => (r = 1 ∧ (zI t 120 a0.toInt.toNat = -5 ∨ zI t 120 a0.toInt.toNat = -6)) ∨ (r = 0 ∧ ¬ (zI t 120 a0.toInt.toNat = -5 ∨ zI t 120 a0.toInt.toNat = -6))) := by
  unfold f_X12_isReals
  exact Pc_gd (fun _ => Pc_if (fun h => Pc_some (Or.inl ⟨rfl, Or.inl h⟩)) (fun h => Pc_gd (fun _ => Pc_if (fun h' => Pc_some (Or.inl ⟨rfl, Or.inr h'⟩)) (fun h' => Pc_some (Or.inr ⟨rfl, fun z => z.elim h h'⟩)))))
theorem why_p (hb1 : ∀ i, 0 ≤ (zI t 121 i).toInt ∧ (zI t 121 i).toInt ≤ 60) (a0 a1 : Int32) : Pc (f_X12_whyNoPlace t a0 a1) (fun r => r.toInt < 0 ∨ (0 ≤ a0.toInt ∧ a0.toInt ≤ 5 ∧ 0 ≤ a1.toInt ∧ a1.toInt < 60 ∧ (zI t 120 a0.toInt.toNat).toInt < 0)) := by
  have b := hb1 a0.toInt.toNat
  have e : (zI t 121 a0.toInt.toNat - 1).toInt = (zI t 121 a0.toInt.toNat).toInt - 1 := by rw [i32_sub (by rw [jl1]; omega) (by rw [jl1]; omega), jl1]
  unfold f_X12_whyNoPlace f_X12_isShelf
  by_cases c : 0 ≤ a0.toInt ∧ a0.toInt ≤ 5
  · rw [in_t (by rw [jl0, jl5]; exact c)]
    refine Pc_b1 (Pc_b1S (Pc_some (Pc_if10 (Pc_gd (fun _ => Pc_if (fun _ => Pc_some (Or.inl (by decide))) (fun _ => Pc_gd (fun _ => Pc_lt (fun h => Pc_gd (fun _ => ?_)) (fun _ => Pc_some (Or.inl (by decide))))))))))
    by_cases d : 0 ≤ a1.toInt ∧ a1.toInt ≤ (zI t 121 a0.toInt.toNat - 1).toInt
    · rw [in_t (by rw [jl0]; exact d)]
      exact Pc_b1S (Pc_if10 (Pc_some (Or.inr ⟨c.1, c.2, d.1, by omega, h⟩)))
    · rw [in_f (by rw [jl0]; exact d)]
      exact Pc_b1S (Pc_if00 (Pc_some (Or.inl (by decide))))
  · rw [in_f (by rw [jl0, jl5]; exact c)]
    exact Pc_b1 (Pc_b1S (Pc_some (Pc_if00 (Pc_some (Or.inl (by decide))))))
theorem put_k (R : QRow t) {a0 a1 : Int32} (c : 0 ≤ a0.toInt ∧ a0.toInt ≤ 5) (h1 : 0 ≤ a1.toInt ∧ a1.toInt < 60) (w : Int64) (hw : (zI t 120 a0.toInt.toNat = -5 ∨ zI t 120 a0.toInt.toNat = -6) → -9999 ≤ w.toInt ∧ w.toInt ≤ 9999) : QRow (pI (pJ t 122 (60 * a0 + a1).toInt.toNat w) 123 (60 * a0 + a1).toInt.toNat (0 &&& 1)) := by
  have ek : ((60 : Int32) * a0 + a1).toInt = 60 * a0.toInt + a1.toInt := by
    have m : ((60 : Int32) * a0).toInt = 60 * a0.toInt := by rw [i32_mul (by rw [jl60]; omega) (by rw [jl60]; omega), jl60]
    rw [i32_add (by rw [m]; omega) (by rw [m]; omega), m]
  generalize ((60 : Int32) * a0 + a1) = k at ek ⊢
  refine ⟨fun j => ?_, fun i hi z j hj y => ?_⟩
  · rw [zI_pI]
    by_cases z : 123 = 123 ∧ j = k.toInt.toNat
    · rw [if_pos z]; exact Or.inl (by decide)
    · rw [if_neg z]; exact R.1 j
  · rw [show zJ (pI (pJ t 122 k.toInt.toNat w) 123 k.toInt.toNat (0 &&& 1)) 122 (60 * i + j) = (if 122 = 122 ∧ 60 * i + j = k.toInt.toNat then w else zJ t 122 (60 * i + j)) from rfl]
    have z' : zI t 120 i = -5 ∨ zI t 120 i = -6 := z
    by_cases e : 60 * i + j = k.toInt.toNat
    · rw [if_pos ⟨rfl, e⟩]
      have : i = a0.toInt.toNat := by omega
      rw [this] at z'
      exact hw z'
    · rw [if_neg (fun u => e u.2)]
      rw [zI_pI, if_neg (fun u => e u.2)] at y
      exact R.2 i hi z' j hj y
theorem R_put (R : QRow t) (hb1 : ∀ i, 0 ≤ (zI t 121 i).toInt ∧ (zI t 121 i).toInt ≤ 60) (a0 a1 : Int32) (a2 : Int64) : Pc (f_X12_put t a0 a1 a2) (fun m => QRow m.2) := by
  unfold f_X12_put
  refine Pc_b1x (fun r1 => Pc_if (fun _ => Pc_some R) (fun _ => Pc_b1 (Pc.mono (reals_p a0) (fun r3 hr => Pc_jn ?_))))
  have K : ((zI t 120 a0.toInt.toNat = -5 ∨ zI t 120 a0.toInt.toNat = -6) → -9999 ≤ a2.toInt ∧ a2.toInt ≤ 9999) → Pc (b1 (f_X12_whyNoPlace t a0 a1) fun r5 => (if r5 < (0 : Int32) then some (r5, t) else (gd (inB a0 6) (vl ((((-2) : Int32) - (zI t 120 (a0.toInt.toNat)))) fun v8 => (jn (fun (t10_0 : Int64) => (vl ((((60 : Int32) * a0) + a1)) fun v11 => (gd (inB v11 360) (st (pJ t 122 (v11.toInt.toNat) t10_0) fun s13 => (vl ((((60 : Int32) * a0) + a1)) fun v14 => (gd (inB v14 360) (st (pI s13 123 (v14.toInt.toNat) ((0 : Int32) &&& 1)) fun s16 => some (1, s16)))))))) fun k10 => (if v8 = (0 : Int32) then (k10 a2.toInt32.toInt8.toInt32.toInt64) else (if v8 = (1 : Int32) then (k10 (a2 &&& 65535)) else (if v8 = (2 : Int32) then (k10 a2.toInt32.toInt64) else (k10 a2))))))))) (fun m => QRow m.2) := by
    intro hw
    refine Pc_b1 (Pc.mono (why_p hb1 a0 a1) (fun r5 h5 => Pc_lt (fun _ => Pc_some R) (fun h0 => Pc_gd (fun _ => Pc_vl (Pc_jn ?_)))))
    rw [jl0] at h0
    rcases h5 with h5 | ⟨c1, c2, d1, d2, _⟩
    · omega
    have fin : ∀ w : Int64, ((zI t 120 a0.toInt.toNat = -5 ∨ zI t 120 a0.toInt.toNat = -6) → -9999 ≤ w.toInt ∧ w.toInt ≤ 9999) → Pc (vl ((((60 : Int32) * a0) + a1)) fun v11 => (gd (inB v11 360) (st (pJ t 122 (v11.toInt.toNat) w) fun s13 => (vl ((((60 : Int32) * a0) + a1)) fun v14 => (gd (inB v14 360) (st (pI s13 123 (v14.toInt.toNat) ((0 : Int32) &&& 1)) fun s16 => some ((1 : Int32), s16)))))) ) (fun m => QRow m.2) := fun w h => Pc_vl (Pc_gd (fun _ => Pc_st (Pc_vl (Pc_gd (fun _ => Pc_st (Pc_some (put_k R ⟨c1, c2⟩ ⟨d1, d2⟩ w h)))))))
    have nr : ∀ k : Int32, -2 - zI t 120 a0.toInt.toNat = k → (k = 0 ∨ k = 1 ∨ k = 2) → ¬ (zI t 120 a0.toInt.toNat = -5 ∨ zI t 120 a0.toInt.toNat = -6) := by
      rintro k rfl h (z | z) <;> rw [z] at h <;> revert h <;> decide
    refine Pc_if (fun z => fin _ (fun w => absurd w (nr _ z (Or.inl rfl)))) (fun _ => Pc_if (fun z => fin _ (fun w => absurd w (nr _ z (Or.inr (Or.inl rfl))))) (fun _ => Pc_if (fun z => fin _ (fun w => absurd w (nr _ z (Or.inr (Or.inr rfl))))) (fun _ => fin _ hw)))
  rcases hr with ⟨rfl, hr⟩ | ⟨rfl, hr⟩
  · exact Pc_if10 (Pc_if (fun _ => Pc_some R) (fun h1 => Pc_if (fun _ => Pc_some R) (fun h2 => K (fun _ => ⟨by have := lgc_ge h1; rw [show (-9999 : Int64).toInt = -9999 from rfl] at this; exact this, by have := lgc_le h2; rw [show (9999 : Int64).toInt = 9999 from rfl] at this; exact this⟩))))
  · exact Pc_if00 (K (fun z => absurd z hr))
/-- shift: first a copy, then back -/
theorem sh1 {y1 y2 y3 y4 y5 : Int32} {q0 : SS → Option (Int32 × SS)} {C : Int64 → Prop} (hq : ∀ s, (∀ q j, q ≠ 125 → zI s q j = zI t q j) → (∀ j, zJ s 122 j = zJ t 122 j) → (∀ k : Nat, (k : Int) < y5.toInt → (zI s 125 k = 0 ∨ zI s 125 k = 1) ∧ (zI s 125 k = 0 → C (zJ s 124 k))) → Pc (q0 s) (fun m => QRow m.2)) (R : QRow t) (hC : ∀ j : Nat, 60 * y1.toInt + y2.toInt ≤ j → (j : Int) < 60 * y1.toInt + y2.toInt + y5.toInt → zI t 123 j = 0 → C (zJ t 122 j)) (b : 0 ≤ y1.toInt ∧ y1.toInt ≤ 5 ∧ 0 ≤ y2.toInt ∧ y5.toInt ≤ 60 ∧ y2.toInt + y5.toInt ≤ 60) : ∀ (n : Nat) (s : SS) (x6 : Int32), 0 ≤ x6.toInt → x6.toInt ≤ 60 → (∀ q j, q ≠ 125 → zI s q j = zI t q j) → (∀ j, zJ s 122 j = zJ t 122 j) → (∀ k : Nat, (k : Int) < x6.toInt → (zI s 125 k = 0 ∨ zI s 125 k = 1) ∧ (zI s 125 k = 0 → C (zJ s 124 k))) → Pc (f_X12_shift_L113 q0 y1 y2 y3 y4 y5 n s x6) (fun m => QRow m.2)
  | 0, s, x6, _, _, _, _, _ => Pc_none
  | n + 1, s, x6, h0, h6, hI, hJ, hk => by
    show Pc (f_X12_shift_L113_b q0 y1 y2 y3 y4 y5 (f_X12_shift_L113 q0 y1 y2 y3 y4 y5 n) s x6) _
    unfold f_X12_shift_L113_b
    refine Pc_lt (fun c => Pc_vl (Pc_gd (fun _ => Pc_wl (Pc_gd (fun _ => Pc_st (Pc_vl (Pc_gd (fun _ => Pc_vl (Pc_gd (fun _ => Pc_st (Pc_vl ?_))))))))))) (fun c => hq s hI hJ (fun k z => hk k (by omega)))
    have m : ((60 : Int32) * y1).toInt = 60 * y1.toInt := by rw [i32_mul (by rw [jl60]; omega) (by rw [jl60]; omega), jl60]
    have m2 : ((60 : Int32) * y1 + y2).toInt = 60 * y1.toInt + y2.toInt := by rw [i32_add (by rw [m]; omega) (by rw [m]; omega), m]
    have m3 : ((60 : Int32) * y1 + y2 + x6).toInt = 60 * y1.toInt + y2.toInt + x6.toInt := by rw [i32_add (by rw [m2]; omega) (by rw [m2]; omega), m2]
    have e1 : (x6 + 1).toInt = x6.toInt + 1 := by rw [i32_add (by rw [jl1]; omega) (by rw [jl1]; omega), jl1]
    generalize ((60 : Int32) * y1 + y2 + x6) = v at m3 ⊢
    refine sh1 hq R hC b n _ _ (by omega) (by omega) (fun q j hq' => by rw [zI_pI, if_neg (by omega)]; exact hI q j hq') (fun j => hJ j) (fun k k1 => ?_)
    rw [zI_pI, show zJ (pI (pJ s 124 x6.toInt.toNat (zJ s 122 v.toInt.toNat)) 125 x6.toInt.toNat (zI (pJ s 124 x6.toInt.toNat (zJ s 122 v.toInt.toNat)) 123 v.toInt.toNat &&& 1)) 124 k = (if 124 = 124 ∧ k = x6.toInt.toNat then zJ s 122 v.toInt.toNat else zJ s 124 k) from rfl]
    by_cases z : k = x6.toInt.toNat
    · rw [if_pos ⟨rfl, z⟩, if_pos ⟨rfl, z⟩]
      refine ⟨and1 _, fun k2 => ?_⟩
      have k3 : zI s 123 v.toInt.toNat &&& 1 = 0 := k2
      rw [hI 123 _ (by omega)] at k3
      have k4 : zI t 123 v.toInt.toNat = 0 := by
        rcases R.1 v.toInt.toNat with w | w
        · exact w
        · rw [w] at k3; exact absurd k3 (by decide)
      rw [hJ]
      exact hC _ (by omega) (by omega) k4
    · rw [if_neg (fun w => z w.2), if_neg (fun w => z w.2)]
      exact hk k (by omega)
theorem sh2 {y3 y4 y5 : Int32} (b : 0 ≤ y3.toInt ∧ y3.toInt ≤ 5 ∧ 0 ≤ y4.toInt ∧ y5.toInt ≤ 60 ∧ y4.toInt + y5.toInt ≤ 60) : ∀ (n : Nat) (s : SS) (x6 : Int32), 0 ≤ x6.toInt → x6.toInt ≤ 60 → QRow s → (∀ k : Nat, (k : Int) < y5.toInt → zI s 125 k = 0 → (zI s 120 y3.toInt.toNat = -5 ∨ zI s 120 y3.toInt.toNat = -6) → -9999 ≤ (zJ s 124 k).toInt ∧ (zJ s 124 k).toInt ≤ 9999) → (∀ k : Nat, (k : Int) < y5.toInt → zI s 125 k = 0 ∨ zI s 125 k = 1) → Pc (f_X12_shift_L171 y3 y4 y5 n s x6) (fun m => QRow m.2)
  | 0, s, x6, _, _, _, _, _ => Pc_none
  | n + 1, s, x6, h0, h6, R, hk, hb => by
    show Pc (f_X12_shift_L171_b y3 y4 y5 (f_X12_shift_L171 y3 y4 y5 n) s x6) _
    unfold f_X12_shift_L171_b
    refine Pc_lt (fun c => Pc_gd (fun _ => Pc_wl (Pc_vl (Pc_gd (fun _ => Pc_st (Pc_gd (fun _ => Pc_vl (Pc_vl (Pc_gd (fun _ => Pc_st (Pc_vl ?_))))))))))) (fun c => Pc_some R)
    have m : ((60 : Int32) * y3).toInt = 60 * y3.toInt := by rw [i32_mul (by rw [jl60]; omega) (by rw [jl60]; omega), jl60]
    have m2 : ((60 : Int32) * y3 + y4).toInt = 60 * y3.toInt + y4.toInt := by rw [i32_add (by rw [m]; omega) (by rw [m]; omega), m]
    have m3 : ((60 : Int32) * y3 + y4 + x6).toInt = 60 * y3.toInt + y4.toInt + x6.toInt := by rw [i32_add (by rw [m2]; omega) (by rw [m2]; omega), m2]
    have e1 : (x6 + 1).toInt = x6.toInt + 1 := by rw [i32_add (by rw [jl1]; omega) (by rw [jl1]; omega), jl1]
    generalize ((60 : Int32) * y3 + y4 + x6) = v at m3 ⊢
    have hx : (x6.toInt.toNat : Int) = x6.toInt := by omega
    refine sh2 b n _ _ (by omega) (by omega) ⟨fun j => ?_, fun i hi z j hj y => ?_⟩ (fun k k1 k2 k3 => hk k k1 k2 k3) (fun k k1 => hb k k1)
    · rw [zI_pI]
      by_cases z : 123 = 123 ∧ j = v.toInt.toNat
      · rw [if_pos z]; exact and1 _
      · rw [if_neg z]; exact R.1 j
    · rw [show zJ (pI (pJ s 122 v.toInt.toNat (zJ s 124 x6.toInt.toNat)) 123 v.toInt.toNat (zI (pJ s 122 v.toInt.toNat (zJ s 124 x6.toInt.toNat)) 125 x6.toInt.toNat &&& 1)) 122 (60 * i + j) = (if 122 = 122 ∧ 60 * i + j = v.toInt.toNat then zJ s 124 x6.toInt.toNat else zJ s 122 (60 * i + j)) from rfl]
      have z' : zI s 120 i = -5 ∨ zI s 120 i = -6 := z
      rw [zI_pI] at y
      by_cases e : 60 * i + j = v.toInt.toNat
      · rw [if_pos ⟨rfl, e⟩] at y ⊢
        have y1 : zI s 125 x6.toInt.toNat &&& 1 = 0 := y
        have y2 : zI s 125 x6.toInt.toNat = 0 := by
          rcases hb x6.toInt.toNat (by omega) with w | w
          · exact w
          · rw [w] at y1; exact absurd y1 (by decide)
        have : i = y3.toInt.toNat := by omega
        rw [this] at z'
        exact hk _ (by omega) y2 z'
      · rw [if_neg (fun w => e w.2)] at y ⊢
        exact R.2 i hi z' j hj y
theorem R_shift (R : QRow t) (hb1 : ∀ i, 0 ≤ (zI t 121 i).toInt ∧ (zI t 121 i).toInt ≤ 60) (a0 a1 a2 a3 a4 : Int32) : Pc (f_X12_shift t a0 a1 a2 a3 a4) (fun m => QRow m.2) := by
  unfold f_X12_shift f_X12_isShelf
  by_cases c : 0 ≤ a0.toInt ∧ a0.toInt ≤ 5
  · rw [in_t (by rw [jl0, jl5]; exact c)]
    by_cases d : 0 ≤ a2.toInt ∧ a2.toInt ≤ 5
    · rw [in_t (by rw [jl0, jl5]; exact d)]
      have b0 := hb1 a0.toInt.toNat
      have b2 := hb1 a2.toInt.toNat
      refine Pc_b1 (Pc_b1S (Pc_some (Pc_if10 (Pc_b1 (Pc_b1S (Pc_some (Pc_if10 (Pc_gd (fun _ => Pc_if (fun _ => Pc_some R) (fun _ => Pc_gd (fun _ => Pc_if (fun _ => Pc_some R) (fun _ => Pc_gd (fun _ => Pc_if (fun _ => Pc_gd (fun _ => Pc_gd (fun _ => Pc_if (fun eh => Pc_lt (fun _ => Pc_some R) (fun g4 => Pc_lt (fun _ => Pc_some R) (fun g1 => Pc_lt (fun _ => Pc_some R) (fun g3 => Pc_gd (fun _ => Pc_lt (fun _ => Pc_some R) (fun g5 => Pc_gd (fun _ => Pc_lt (fun _ => Pc_some R) (fun g6 => ?_))))))) ) (fun _ => Pc_some R)))) (fun _ => Pc_some R))))))))))))))
      rw [jl0] at g4 g1 g3
      have e5 : (zI t 121 a0.toInt.toNat - a4).toInt = (zI t 121 a0.toInt.toNat).toInt - a4.toInt := by rw [i32_sub (by have := jlo a4; omega) (by have := jlo a4; omega)]
      have e6 : (zI t 121 a2.toInt.toNat - a4).toInt = (zI t 121 a2.toInt.toNat).toInt - a4.toInt := by rw [i32_sub (by have := jlo a4; omega) (by have := jlo a4; omega)]
      rw [e5] at g5
      rw [e6] at g6
      refine sh1 (t := t) (C := fun w => (zI t 120 a2.toInt.toNat = -5 ∨ zI t 120 a2.toInt.toNat = -6) → -9999 ≤ w.toInt ∧ w.toInt ≤ 9999) (fun s hI hJ hk => ?_) R (fun j j1 j2 j3 z => ?_) ⟨c.1, c.2, g1, by omega, by omega⟩ 4000 t 0 (by decide) (by decide) (fun _ _ _ => rfl) (fun _ => rfl) (fun k k1 => by rw [jl0] at k1; omega)
      · refine sh2 ⟨d.1, d.2, g3, by omega, by omega⟩ 4000 s 0 (by decide) (by decide) ⟨fun j => by rw [hI 123 j (by omega)]; exact R.1 j, fun i hi z j hj y => ?_⟩ (fun k k1 k2 z => (hk k k1).2 k2 (by rw [hI 120 _ (by omega)] at z; exact z)) (fun k k1 => (hk k k1).1)
        rw [hI 120 _ (by omega)] at z
        rw [hI 123 _ (by omega)] at y
        rw [hJ]
        exact R.2 i hi z j hj y
      · rw [← eh] at z
        have := R.2 a0.toInt.toNat (by omega) z (j - 60 * a0.toInt.toNat) (by omega)
        rw [show 60 * a0.toInt.toNat + (j - 60 * a0.toInt.toNat) = j by omega] at this
        exact this j3
    · rw [in_f (by rw [jl0, jl5]; exact d)]
      exact Pc_b1 (Pc_b1S (Pc_some (Pc_if10 (Pc_b1 (Pc_b1S (Pc_some (Pc_if00 (Pc_some R))))))))
  · rw [in_f (by rw [jl0, jl5]; exact c)]
    exact Pc_b1 (Pc_b1S (Pc_some (Pc_if00 (Pc_some R))))
end RWs
/-! MACHINES GO TO HOLES -/
section STs
variable {s t : SS}
theorem isUnd2 (k : Int32) (h : isH k) : f_X12_isUnder k 2 = some 1 := by
  unfold f_X12_isUnder
  rcases h with rfl | rfl | rfl | rfl <;> decide
theorem isUnd2f (k : Int32) (h : ¬ isH k) : f_X12_isUnder k 2 = some 0 := by
  unfold f_X12_isUnder
  rw [if_neg (by decide), if_neg (fun z => h (Or.inl z)), if_neg (by decide), if_pos rfl, if_neg (fun z => h (Or.inr (Or.inl z))), if_neg (fun z => h (Or.inr (Or.inr (Or.inl z)))), if_neg (fun z => h (Or.inr (Or.inr (Or.inr z))))]
/-- a body's hole -/
def hO (s : SS) (a : Int32) : Option Nat := if 0 ≤ a.toInt ∧ a.toInt < (zS s 15 3).toInt then zR s 17 a.toInt.toNat else none
theorem holeOfX (B : B1 s t) (a : Int32) : f_X0_holeOf s a = some (hO s a) := by
  have b := B.1.tot
  unfold f_X0_holeOf hO
  by_cases c : a < 0
  · rw [if_pos c, if_neg (by rw [jlt, jl0] at c; omega)]
  rw [if_neg c]
  rw [jlt, jl0] at c
  by_cases d : a < zS s 15 3
  · rw [if_pos d]
    rw [jlt] at d
    rw [gd_t ⟨by omega, by omega⟩, if_pos ⟨by omega, d⟩]
    cases zR s 17 a.toInt.toNat <;> rfl
  · rw [if_neg d]
    rw [jlt] at d
    rw [if_neg (fun z => d z.2)]
theorem isHoleO (B : B1 s t) (a : Int32) : f_X12_isHole t a = some (if hO s a = none then 0 else 1) := by
  have b := B.1.tot
  have e := b.1
  have e1 : (zS t 59 4 - 1).toInt = (zS s 15 3).toInt - 1 := by rw [← e, i32_sub (by rw [jl1]; omega) (by rw [jl1]; omega), jl1]
  unfold f_X12_isHole f_X12_isBody hO
  by_cases c : 0 ≤ a.toInt ∧ a.toInt < (zS s 15 3).toInt
  · have h := B.1.rh a.toInt.toNat (by omega)
    rw [in_t (by rw [jl0, e1]; omega), b1_some, b1_some, if_neg n10, gd_t ⟨c.1, by omega⟩, ← B.1.kd, if_pos c]
    by_cases w : isH (zI s 16 a.toInt.toNat)
    · rw [isUnd2 _ w, b1_some, if_neg n10, if_neg (fun z => h.mp z ⟨by omega, w⟩)]
    · rw [isUnd2f _ w, b1_some, if_pos rfl, if_pos (h.mpr (fun z => w z.2))]
  · rw [in_f (by rw [jl0, e1]; omega), b1_some, b1_some, if_pos rfl, if_neg c, if_pos rfl]
/-- the reference's loop: no other machine is there -/
theorem set_l {sb : SS} {y1 y2 : Int32} {q0 : Option (Int32 × SS)} {Q : Int32 × SS → Prop} (hr : ∀ v, Q (v, sb)) (hq : (∀ j : Nat, j < 3 → (j : Int) ≠ y1.toInt → 0 ≤ y2.toInt → zI sb 79 j ≠ y2) → Pc q0 Q) : ∀ (n : Nat) (x3 : Int32), 0 ≤ x3.toInt → x3.toInt ≤ 3 → (∀ j : Nat, (j : Int) < x3.toInt → (j : Int) ≠ y1.toInt → 0 ≤ y2.toInt → zI sb 79 j ≠ y2) → Pc (f_X12_set_L26 q0 sb y1 y2 n x3) Q
  | 0, x3, _, _, _ => Pc_none
  | n + 1, x3, h0, h3, hk => by
    show Pc (f_X12_set_L26_b q0 sb y1 y2 (f_X12_set_L26 q0 sb y1 y2 n) x3) Q
    unfold f_X12_set_L26_b
    refine Pc_lt (fun c => ?_) (fun c => hq (fun j hj => hk j (by rw [jl3] at c; omega)))
    rw [jl3] at c
    have e1 : (x3 + 1).toInt = x3.toInt + 1 := by rw [i32_add (by rw [jl1]; omega) (by rw [jl1]; omega), jl1]
    have go : ((x3.toInt ≠ y1.toInt → 0 ≤ y2.toInt → zI sb 79 x3.toInt.toNat ≠ y2)) → Pc (f_X12_set_L26 q0 sb y1 y2 n (x3 + 1)) Q := fun h => set_l hr hq n _ (by omega) (by omega) (fun j hj j1 j2 => by
      by_cases z : (j : Int) = x3.toInt
      · rw [show j = x3.toInt.toNat by omega]
        exact h (by omega) j2
      · exact hk j (by omega) j1 j2)
    refine Pc_jn (Pc_if (fun z => Pc_vl (go (fun w => absurd (congrArg Int32.toInt z) w))) (fun _ => Pc_lt (fun z => Pc_vl (go (fun _ w => by rw [jl0] at z; omega))) (fun _ => Pc_gd (fun _ => Pc_if (fun _ => Pc_some (hr _)) (fun z => Pc_vl (go (fun _ _ => z)))))))
theorem R_set (B : B1 s t) (R : QSet s t) (a0 a1 : Int32) : Pc (f_X12_set t a0 a1) (fun m => QSet s m.2) := by
  unfold f_X12_set
  refine Pc_b1 ?_
  by_cases c : 0 ≤ a0.toInt ∧ a0.toInt < 3
  · rw [ismach_t c]
    have key : (a1 = -1 ∨ hO s a1 ≠ none) → (∀ j : Nat, j < 3 → (j : Int) ≠ a0.toInt → 0 ≤ a1.toInt → zI t 79 j ≠ a1) → QSet s (pI t 79 a0.toInt.toNat a1) := by
      intro h1 h2
      have e79 : ∀ i, zI (pI t 79 a0.toInt.toNat a1) 79 i = if i = a0.toInt.toNat then a1 else zI t 79 i := fun i => by
        rw [zI_pI]
        by_cases z : i = a0.toInt.toNat
        · rw [if_pos ⟨rfl, z⟩, if_pos z]
        · rw [if_neg (fun w => z w.2), if_neg z]
      refine ⟨fun i hi => ?_, fun i j hi hj ne h => ?_⟩
      · rw [e79]
        by_cases z : i = a0.toInt.toNat
        · rw [if_pos z]
          rcases h1 with h1 | h1
          · exact Or.inl (by rw [h1]; rfl)
          · unfold hO at h1
            by_cases d : 0 ≤ a1.toInt ∧ a1.toInt < (zS s 15 3).toInt
            · rw [if_pos d] at h1
              exact Or.inr ⟨d.1, d.2, h1⟩
            · rw [if_neg d] at h1
              exact absurd rfl h1
        · rw [if_neg z]
          exact R.1 i hi
      · rw [e79] at h ⊢
        rw [e79]
        by_cases z : i = a0.toInt.toNat
        · rw [if_pos z] at h ⊢
          rw [if_neg (by omega)]
          exact fun w => h2 j hj (by omega) h w.symm
        · rw [if_neg z] at h ⊢
          by_cases y : j = a0.toInt.toNat
          · rw [if_pos y]
            intro w
            rw [w] at h
            exact h2 i hi (by omega) h w
          · rw [if_neg y]
            exact R.2 i j hi hj ne h
    have K : (a1 = -1 ∨ hO s a1 ≠ none) → Pc (f_X12_set_L26 (gd (inB a0 3) (vl ((zI t 79 (a0.toInt.toNat))) fun v14 => (gd (inB a0 3) (st (pI t 79 (a0.toInt.toNat) a1) fun s16 => some (v14, s16))))) t a0 a1 4000 0) (fun m => QSet s m.2) := fun h1 => set_l (fun _ => R) (fun h2 => by exact Pc_gd (fun _ => Pc_vl (Pc_gd (fun _ => Pc_st (Pc_some (key h1 h2)))))) 4000 0 (by decide) (by decide) (fun j hj => by rw [jl0] at hj; omega)
    rw [isHoleO B]
    refine Pc_some (Pc_if10 (Pc_jn (Pc_if (fun z => K (Or.inl z)) (fun _ => Pc_b1S ?_))))
    by_cases d : hO s a1 = none
    · rw [if_pos d]
      exact Pc_if00 (Pc_some R)
    · rw [if_neg d]
      exact Pc_if10 (K (Or.inr d))
  · rw [ismach_f c]
    exact Pc_some (Pc_if00 (Pc_some R))
end STs
/-! ONE HOLE IS WRITTEN -/
section HWs
variable {s t s' t' : SS}
/-- maps and texts lie apart from holes -/
def dSm (s s' : SS) : Prop := (∀ q k, 126 ≤ q → zT s q = 1 ∨ zT s q = 10 → zS s' q k = zS s q k) ∧ ∀ q j, 126 ≤ q → zT s q = 1 ∨ zT s q = 10 → zI s' (q + 1) j = zI s (q + 1) j
theorem QCha.d (R : QCha s t) (S : Sh s) (h5 : zS s' 0 5 = zS s 0 5) (h : dSm s s') (h3 : ∀ i, zR s' 23 i = zR s 23 i) (m : ∀ q j, 81 ≤ q → q ≤ 85 → zI t' q j = zI t q j) : QCha s' t' := by
  obtain ⟨a, a0, b⟩ := R
  refine ⟨fun i hi hc => ?_, fun i hi hc => by rw [m 84 _ (by omega) (by omega)]; exact a0 i hi (by rw [← h5]; exact hc), fun i j p hi hj e f => b i j p hi hj ((h3 i).symm.trans e) ((h3 j).symm.trans f)⟩
  obtain ⟨p, e, r⟩ := a i hi (by rw [← h5]; exact hc)
  have o := S.2.2.2.2.1 i p hi e
  exact ⟨p, (h3 i).trans e, r.c (fun k => h.1 p k o.1 (Or.inl o.2.2.1)) (fun y => h.2 p y o.1 (Or.inl o.2.2.1)) m⟩
theorem QTxt.d (R : QTxt s t) (S : Sh s) (h8 : zS s' 0 8 = zS s 0 8) (h : dSm s s') (h3 : ∀ i, zR s' 27 i = zR s 27 i) (hN : ∀ q, 126 ≤ q → zN s' q = zN s q) (m : ∀ q j, 87 ≤ q → q ≤ 94 → zI t' q j = zI t q j) : QTxt s' t' := fun i hi hc => by
  obtain ⟨p, e, r⟩ := R i hi (by rw [← h8]; exact hc)
  have o := S.2.2.2.2.2.1 i p hi e
  exact ⟨p, (h3 i).trans e, r.c (fun k => h.1 p k o.1 (Or.inr o.2.2.1)) (fun y => h.2 p y o.1 (Or.inr o.2.2.1)) (hN _ (by have := o.1; omega)) m⟩
/-- the cells of the hole at p alone have changed, behind 126 -/
def hW (p : Nat) (s s' : SS) : Prop := (∀ q k, 126 ≤ q → q ≠ p → zS s' q k = zS s q k) ∧ (∀ q j, 126 ≤ q → q ≠ p + 1 → q ≠ p + 2 → q ≠ p + 3 → zI s' q j = zI s q j) ∧ s'.2.2.2 = s.2.2.2
theorem hW.d {p : Nat} (h : hW p s s') (o : okH s p) : dSm s s' := by
  obtain ⟨o1, o2, o3, ⟨o4, _⟩, ⟨o6, _⟩, o8, _⟩ := o
  refine ⟨fun q k hq ht => h.1 q k hq (fun z => by rw [z, o3] at ht; omega), fun q j hq ht => h.2.1 (q + 1) j (by omega) (fun z => ?_) (fun z => ?_) (fun z => ?_)⟩
  · have : q = p := by omega
    rw [this, o3] at ht; omega
  · have : q = p + 1 := by omega
    rw [this, o4] at ht; omega
  · have : q = p + 2 := by omega
    rw [this, o6] at ht; omega
theorem hW.R {p : Nat} (h : hW p s s') (a i : Nat) : zR s' a i = zR s a i := by unfold zR; rw [h.2.2]
theorem hW.N {p : Nat} (h : hW p s s') (a : Nat) : zN s' a = zN s a := by unfold zN; rw [h.2.2]
theorem hW.S {p : Nat} (h : hW p s s') (S : Sh s) : Sh s' := S.same (by rw [h.2.2]) (by rw [h.2.2])
theorem hW.rf {p : Nat} : hW p s s := ⟨fun _ _ _ _ => rfl, fun _ _ _ _ _ _ => rfl, rfl⟩
theorem hW.wS {p k : Nat} {v : Int32} (h : hW p s s') : hW p s (pS s' p k v) := ⟨fun q k hq hn => by rw [zS_pS, if_neg (by omega)]; exact h.1 q k hq hn, h.2⟩
theorem hW.wI {p c i : Nat} {v : Int32} (h : hW p s s') (hc : c = 1 ∨ c = 2 ∨ c = 3) : hW p s (pI s' (p + c) i v) := ⟨h.1, fun q j hq h1 h2 h3 => by rw [zI_pI, if_neg (by omega)]; exact h.2.1 q j hq h1 h2 h3, h.2.2⟩
theorem hW.sS {p q k : Nat} {v : Int32} (h : hW p s s') (hq : q < 126) : hW p s (pS s' q k v) := ⟨fun a b ha hn => by rw [zS_pS, if_neg (by omega)]; exact h.1 a b ha hn, h.2⟩
theorem hW.sI {p q i : Nat} {v : Int32} (h : hW p s s') (hq : q < 126) : hW p s (pI s' q i v) := ⟨h.1, fun a b ha h1 h2 h3 => by rw [zI_pI, if_neg (by omega)]; exact h.2.1 a b ha h1 h2 h3, h.2.2⟩
theorem hW.tr {p : Nat} {r : SS} (h : hW p s s') (g : hW p s' r) : hW p s r := ⟨fun q k a b => (g.1 q k a b).trans (h.1 q k a b), fun q j a b c d => (g.2.1 q j a b c d).trans (h.2.1 q j a b c d), g.2.2.trans h.2.2⟩
/-- the reference's rows of hole n alone -/
def mW (n : Nat) (t t' : SS) : Prop := (∀ q i, 63 ≤ q → q ≤ 69 ∨ q = 104 → i ≠ n → zI t' q i = zI t q i) ∧ (∀ q i y, 70 ≤ q → q ≤ 73 → i ≠ n → 1 ≤ y → y ≤ 60 → zI t' q (61 * i + y) = zI t q (61 * i + y)) ∧ (∀ q j, q < 63 ∨ 73 < q → q ≠ 104 → zI t' q j = zI t q j)
theorem mW.rf {n : Nat} : mW n t t := ⟨fun _ _ _ _ _ => rfl, fun _ _ _ _ _ _ _ _ => rfl, fun _ _ _ _ => rfl⟩
theorem mW.tr {n : Nat} {r : SS} (h : mW n t t') (g : mW n t' r) : mW n t r := ⟨fun q i a b c => (g.1 q i a b c).trans (h.1 q i a b c), fun q i y a b c d e => (g.2.1 q i y a b c d e).trans (h.2.1 q i y a b c d e), fun q j a b => (g.2.2 q j a b).trans (h.2.2 q j a b)⟩
theorem mW.wS {n q k : Nat} {v : Int32} (h : mW n t t') : mW n t (pS t' q k v) := h
theorem mW.wI {n q : Nat} {v : Int32} (h : mW n t t') (hq : 63 ≤ q) (hq2 : q ≤ 69 ∨ q = 104) : mW n t (pI t' q n v) := ⟨fun a i h1 h2 h3 => by rw [zI_pI, if_neg (by omega)]; exact h.1 a i h1 h2 h3, fun a i y h1 h2 h3 h4 h5 => by rw [zI_pI, if_neg (by omega)]; exact h.2.1 a i y h1 h2 h3 h4 h5, fun a j h1 h2 => by rw [zI_pI, if_neg (by omega)]; exact h.2.2 a j h1 h2⟩
theorem mW.wY {n q y : Nat} {v : Int32} (h : mW n t t') (hq : 70 ≤ q) (hq2 : q ≤ 73) (hy : y ≤ 60) : mW n t (pI t' q (61 * n + y) v) := ⟨fun a i h1 h2 h3 => by rw [zI_pI, if_neg (by omega)]; exact h.1 a i h1 h2 h3, fun a i z h1 h2 h3 h4 h5 => by rw [zI_pI, if_neg (by omega)]; exact h.2.1 a i z h1 h2 h3 h4 h5, fun a j h1 h2 => by rw [zI_pI, if_neg (by omega)]; exact h.2.2 a j h1 h2⟩
def mV (n : Nat) (t t' : SS) : Prop := (∀ q i, 63 ≤ q → q ≤ 69 ∨ q = 104 → i ≠ n → zI t' q i = zI t q i) ∧ ∀ q i y, 70 ≤ q → q ≤ 73 → i ≠ n → 1 ≤ y → y ≤ 60 → zI t' q (61 * i + y) = zI t q (61 * i + y)
theorem mW.v {n : Nat} (h : mW n t t') : mV n t t' := ⟨h.1, h.2.1⟩
theorem QHol.up (R : QHol s t) (S : Sh s) {n p : Nat} (hn : n < 120) (hp : zR s 17 n = some p) (h : hW p s s') (m : mV n t t') (new : HX s' p t' n) (th : 0 ≤ (zI t' 69 n).toInt ∧ (zI t' 69 n).toInt ≤ 1700) : QHol s' t' := by
  obtain ⟨a, b, c, d⟩ := R
  have o := S.2.2.1 n p hn hp
  refine ⟨fun i p' hi e => ?_, fun i hi e => ?_, fun i j p' hi hj e f => c i j p' hi hj ((h.R 17 i).symm.trans e) ((h.R 17 j).symm.trans f), fun i hi => ?_⟩
  · have e' := (h.R 17 i).symm.trans e
    by_cases z : i = n
    · rw [z] at e' ⊢
      have : p' = p := Option.some.inj (e'.symm.trans hp)
      rw [this]; exact new
    · have o' := S.2.2.1 i p' hi e'
      have ne : p' ≠ p := fun w => z (c i n p hi hn (w ▸ e') hp)
      have n1 : p' ≠ p + 1 ∧ p' ≠ p + 2 ∧ p' ≠ p + 3 := ⟨fun w => by have := o'.2.2.1; rw [w, o.2.2.2.1.1] at this; omega, fun w => by have := o'.2.2.1; rw [w, o.2.2.2.2.1.1] at this; omega, fun w => by have := o'.2.2.1; rw [w, o.2.2.2.2.2.1] at this; omega⟩
      have n2 : p ≠ p' + 1 ∧ p ≠ p' + 2 ∧ p ≠ p' + 3 := ⟨fun w => by have := o.2.2.1; rw [w, o'.2.2.2.1.1] at this; omega, fun w => by have := o.2.2.1; rw [w, o'.2.2.2.2.1.1] at this; omega, fun w => by have := o.2.2.1; rw [w, o'.2.2.2.2.2.1] at this; omega⟩
      have r := a i p' hi e'
      have o1 := o'.1
      unfold HX at r ⊢
      obtain ⟨r0, r1, r2, r3, r4, r5, r6, r7, r8⟩ := r
      have u : ∀ k, zS s' p' k = zS s p' k := fun k => h.1 p' k o1 ne
      rw [u, u, u, u, u, u, u, u, m.1 63 i (by omega) (by omega) z, m.1 64 i (by omega) (by omega) z, m.1 65 i (by omega) (by omega) z, m.1 66 i (by omega) (by omega) z, m.1 67 i (by omega) (by omega) z, m.1 68 i (by omega) (by omega) z, m.1 69 i (by omega) (by omega) z, m.1 104 i (by omega) (by omega) z]
      refine ⟨r0, r1, r2, r3, r4, r5, r6, r7, fun y y1 y2 => ?_⟩
      rw [h.2.1 (p' + 1) y (by omega) (by omega) (by omega) (by omega), h.2.1 (p' + 2) y (by omega) (by omega) (by omega) (by omega), h.2.1 (p' + 3) y (by omega) (by omega) (by omega) (by omega), m.2 70 i y (by omega) (by omega) z y1 y2, m.2 71 i y (by omega) (by omega) z y1 y2, m.2 72 i y (by omega) (by omega) z y1 y2, m.2 73 i y (by omega) (by omega) z y1 y2]
      exact r8 y y1 y2
  · have e' := (h.R 17 i).symm.trans e
    have z : i ≠ n := fun w => by rw [w, hp] at e'; cases e'
    obtain ⟨z1, z2, z3, z4, z5, z6⟩ := b i hi e'
    refine ⟨by rw [m.1 66 i (by omega) (by omega) z]; exact z1, by rw [m.1 67 i (by omega) (by omega) z]; exact z2, by rw [m.1 68 i (by omega) (by omega) z]; exact z3, by rw [m.1 69 i (by omega) (by omega) z]; exact z4, by rw [m.1 104 i (by omega) (by omega) z]; exact z5, fun y y1 y2 => ?_⟩
    rw [m.2 70 i y (by omega) (by omega) z y1 y2, m.2 71 i y (by omega) (by omega) z y1 y2, m.2 72 i y (by omega) (by omega) z y1 y2, m.2 73 i y (by omega) (by omega) z y1 y2]
    exact z6 y y1 y2
  · by_cases z : i = n
    · rw [z]; exact th
    · rw [m.1 69 i (by omega) (by omega) z]
      exact d i hi
/-- a yard is told -/
theorem L_yard (B : B1 s t) (Q : Q4 s t) (a0 a1 : Int32) : Pc (f_X11_yard s a0 a1) fun x => Pc (f_X12_yard t a0 a1) fun m => x.1 = m.1 ∧ Q4 x.2 m.2 := by
  unfold f_X11_yard f_X12_yard
  rw [holeOfX B, isHoleO B]
  have b := B.1.tot
  by_cases c : hO s a0 = none
  · rw [c]
    exact Pc_b1S (Pc_onN (Pc_some (Pc_b1S (by rw [if_pos rfl]; exact Pc_if00 (Pc_some ⟨rfl, Q⟩)))))
  rw [if_neg c]
  unfold hO at c ⊢
  by_cases d : 0 ≤ a0.toInt ∧ a0.toInt < (zS s 15 3).toInt
  · rw [if_pos d] at c ⊢
    cases hp : zR s 17 a0.toInt.toNat with
    | none => exact absurd hp c
    | some p =>
    have hn : a0.toInt.toNat < 120 := by omega
    have S := B.1.sh
    have o := S.2.2.1 _ _ hn hp
    have hx := Q.1.1 _ _ hn hp
    obtain ⟨x0, x1, x2, x3, x4, x5, x6, x7, x8⟩ := hx
    have b3 := B.1.h3 o
    refine Pc_b1S (Pc_onS ?_)
    by_cases e : -2 ≤ a1.toInt ∧ a1.toInt ≤ 2
    · rw [in_t (a := a1) (by rw [jn2, jl2]; exact e)]
      refine Pc_lt (fun z => by rw [jn2] at z; omega) (fun _ => Pc_lt (fun z => by rw [jl2] at z; omega) (fun _ => ?_))
      rw [x6]
      by_cases th : 0 < (zI t 69 a0.toInt.toNat).toInt
      · rw [if_pos th, if_neg n10]
        exact Pc_some (Pc_b1S (Pc_if10 (Pc_b1S (Pc_if10 (Pc_gd (fun _ => Pc_ift (by rw [jlt, jl0]; exact th) (Pc_some ⟨rfl, Q⟩)))))))
      · rw [if_neg th, if_pos rfl]
        by_cases f : (zS s p 3).toInt < 60
        · refine Pc_ift (by rw [jlt, jl60]; exact f) (Pc_vl (Pc_st (Pc_vl (Pc_gd (fun _ => Pc_st (Pc_some ?_))))))
          refine Pc_b1S (Pc_if10 (Pc_b1S (Pc_if10 (Pc_gd (fun _ => Pc_iff (by rw [jlt, jl0]; exact th) ?_)))))
          refine Pc_gd (fun _ => Pc_iff (fun z => by rw [x3, z, jl60] at f; omega) ?_)
          refine Pc_gd (fun _ => Pc_vl (Pc_gd (fun _ => Pc_st (Pc_gd (fun _ => Pc_vl ?_)))))
          refine Pc_gd (fun _ => Pc_st (Pc_gd (fun _ => Pc_some ?_)))
          have e1 : (zS s p 3 + 1).toInt = (zS s p 3).toInt + 1 := by rw [i32_add (by rw [jl1]; omega) (by rw [jl1]; omega), jl1]
          rw [← x3]
          have v1 : zS (pS s p 3 (zS s p 3 + 1)) p 3 = zS s p 3 + 1 := by rw [zS_pS, if_pos ⟨rfl, rfl⟩]
          have v2 : zI (pI t 66 a0.toInt.toNat (zS s p 3 + 1)) 66 a0.toInt.toNat = zS s p 3 + 1 := by rw [zI_pI, if_pos ⟨rfl, rfl⟩]
          rw [v1, v2]
          generalize hv : zS s p 3 + 1 = v at e1 ⊢
          generalize hm : a0.toInt.toNat = n at *
          have e2 : ((61 : Int32) * a0 + v).toInt.toNat = 61 * n + v.toInt.toNat := by
            have m1 : ((61 : Int32) * a0).toInt = 61 * a0.toInt := by rw [i32_mul (by rw [jl61]; omega) (by rw [jl61]; omega), jl61]
            rw [i32_add (by rw [m1]; omega) (by rw [m1]; omega), m1]
            omega
          rw [e2]
          have hy : v.toInt.toNat ≤ 60 ∧ 1 ≤ v.toInt.toNat := by omega
          generalize v.toInt.toNat = y at hy ⊢
          have W : hW p s (pI (pS s p 3 v) (p + 1) y a1) := hW.rf.wS.wI (Or.inl rfl)
          have M : mW n t (pI (pI t 66 n v) 70 (61 * n + y) a1) := (mW.rf.wI (by omega) (by omega)).wY (by omega) (by omega) hy.1
          have sS : ∀ q k, q < 126 → zS (pI (pS s p 3 v) (p + 1) y a1) q k = zS s q k := fun q k hq => by rw [zS_pI, zS_pS, if_neg (by have := o.1; omega)]
          have sI : ∀ q j, q < 126 → zI (pI (pS s p 3 v) (p + 1) y a1) q j = zI s q j := fun q j hq => by rw [zI_pI, if_neg (by have := o.1; omega), zI_pS]
          refine ⟨?_, ?_⟩
          · show zS (pI (pS s p 3 v) (p + 1) y a1) p 3 = zI (pI (pI t 66 n v) 70 (61 * n + y) a1) 66 n
            rw [zS_pI, zS_pS, if_pos ⟨rfl, rfl⟩, zI_pI, if_neg (by omega), zI_pI, if_pos ⟨rfl, rfl⟩]
          · obtain ⟨Q1, Q2, Q3, Q5, Q6, Q7, Q8, Q9, Q10, Q11, Q12, Q13, Q14⟩ := Q
            refine ⟨Q1.up S hn hp W M.v ?_ (Q1.2.2.2 n hn), Q2.c (fun i => sI 7 i (by omega)) (fun i => sI 8 i (by omega)) (fun i => sI 10 i (by omega)) (fun i => sI 16 i (by omega)) (sS 15 3 (by omega)) (sS 6 4 (by omega)) (fun _ => rfl) (fun _ => rfl) (fun _ => rfl), Q3.c (fun k _ => sS 0 k (by omega)) (sS 15 4 (by omega)) (fun _ => rfl) (fun _ => rfl) (fun _ => rfl), Q5.c (sS 0 18 (by omega)) (sS 0 14 (by omega)) (fun _ => rfl), Q6.c (fun k => sS 30 k (by omega)) (sS 0 14 (by omega)) (fun q i _ _ => sI q i (by omega)) (fun _ _ => rfl) (fun q i h1 h2 => M.2.2 q i (by omega) (by omega)), Q7.c (fun k _ _ => sS 15 k (by omega)) (fun _ _ _ => rfl), Q8.c (fun i hi => sS _ _ (by omega)) (fun _ => rfl), Q9.c (fun k _ _ => sS 6 k (by omega)) (fun i => sI 13 i (by omega)) (fun _ _ => rfl) (fun _ => rfl) (fun _ => rfl), Q10.c (by rw [sS 15 3 (by omega)]; exact Int.le_refl _) (fun _ _ h => h) b.2.2 (fun _ => rfl), Q11.d S (sS 0 5 (by omega)) (W.d o) (fun _ => rfl) (fun q j h1 h2 => M.2.2 q j (by omega) (by omega)), Q12.d S (sS 0 8 (by omega)) (W.d o) (fun _ => rfl) (fun _ _ => rfl) (fun q j h1 h2 => M.2.2 q j (by omega) (by omega)), Q13.c (fun q i h => M.2.2 q i (by omega) (by omega)) (fun _ => rfl), Q14.c (sS 0 14 (by omega)) (fun _ => rfl)⟩
            have zp : ∀ k, k ≠ 3 → zS (pI (pS s p 3 v) (p + 1) y a1) p k = zS s p k := fun k hk => by rw [zS_pI, zS_pS, if_neg (by omega)]
            have tm : ∀ q j, q ≠ 66 → q ≠ 70 → zI (pI (pI t 66 n v) 70 (61 * n + y) a1) q j = zI t q j := fun q j h1 h2 => by rw [zI_pI, if_neg (by omega), zI_pI, if_neg (by omega)]
            refine ⟨by rw [zp 0 (by omega), tm 63 _ (by omega) (by omega)]; exact x0, by rw [zp 1 (by omega), tm 64 _ (by omega) (by omega)]; exact x1, by rw [zp 2 (by omega), tm 65 _ (by omega) (by omega)]; exact x2, ?_, by rw [zp 4 (by omega), tm 67 _ (by omega) (by omega)]; exact x4, by rw [zp 5 (by omega), tm 68 _ (by omega) (by omega)]; exact x5, by rw [zp 6 (by omega), tm 69 _ (by omega) (by omega)]; exact x6, by rw [zp 7 (by omega), tm 104 _ (by omega) (by omega)]; exact x7, fun z z1 z2 => ?_⟩
            · rw [zS_pI, zS_pS, if_pos ⟨rfl, rfl⟩, zI_pI, if_neg (by omega), zI_pI, if_pos ⟨rfl, rfl⟩]
            · obtain ⟨w1, w2, w3, w4⟩ := x8 z z1 z2
              refine ⟨?_, ?_, ?_, by rw [tm 73 _ (by omega) (by omega)]; exact w4⟩
              · rw [zI_pI, zI_pI]
                by_cases zy : z = y
                · rw [if_pos ⟨rfl, zy⟩, if_pos ⟨rfl, by omega⟩]
                · rw [if_neg (by omega), if_neg (by omega), zI_pI, if_neg (by omega)]; exact w1
              · rw [tm 71 _ (by omega) (by omega), zI_pI, if_neg (by omega)]; exact w2
              · rw [tm 72 _ (by omega) (by omega), tm 73 _ (by omega) (by omega), zI_pI, if_neg (by omega)]; exact w3
        · refine Pc_iff (by rw [jlt, jl60]; exact f) (Pc_some ?_)
          refine Pc_b1S (Pc_if10 (Pc_b1S (Pc_if10 (Pc_gd (fun _ => Pc_iff (by rw [jlt, jl0]; exact th) ?_)))))
          exact Pc_gd (fun _ => Pc_ift (Int32.toInt_inj.1 (by rw [← x3, jl60]; omega)) (Pc_some ⟨rfl, Q⟩))
    · rw [in_f (a := a1) (by rw [jn2, jl2]; exact e)]
      refine Pc_lt (fun z => Pc_some (Pc_b1S (Pc_if10 (Pc_b1S (Pc_if00 (Pc_some ⟨rfl, Q⟩)))))) (fun z => Pc_lt (fun z => Pc_some (Pc_b1S (Pc_if10 (Pc_b1S (Pc_if00 (Pc_some ⟨rfl, Q⟩)))))) (fun w => absurd ⟨by rw [jn2] at z; exact z, by rw [jl2] at w; exact w⟩ e))
  · rw [if_neg d] at c
    exact absurd rfl c
end HWs
/-! A NEW HOLE, A NEW MAP -/
section NHs
variable {s t : SS}
def nwX (s : SS) (c w : Int32) (n : Nat) (v : Int32) : SS := pS (pR (pHole s c w) 17 n (some (zL s))) 15 4 v
def nwM (t : SS) (c w : Int32) (n : Nat) : SS := pI (pI (pI t 63 n c) 65 n c) 64 n w
theorem Q4.nw {c w : Int32} {n : Nat} (S : Sh s) (b3 : (zS s 15 3).toInt ≤ 120) (Q : Q4 s t) (hn : n < 120) (hz : zR s 17 n = none) : Q4 (nwX s c w n (zS s 15 4 + 1)) (nwM t c w n) := by
  obtain ⟨Q1, Q2, Q3, Q5, Q6, Q7, Q8, Q9, Q10, Q11, Q12, Q13, Q14⟩ := Q
  have hL := S.1
  have sS : ∀ q k, q ≠ zL s → ¬ (q = 15 ∧ k = 4) → zS (nwX s c w n (zS s 15 4 + 1)) q k = zS s q k := fun q k h1 h2 => by
    unfold nwX
    rw [zS_pS, if_neg h2]
    show (if q = zL s then holeF c w k else zS s q k) = _
    rw [if_neg h1]
  have sI : ∀ q j, q ≠ zL s + 1 → q ≠ zL s + 2 → q ≠ zL s + 3 → zI (nwX s c w n (zS s 15 4 + 1)) q j = zI s q j := fun q j h1 h2 h3 => by
    show (if q = zL s + 1 then 0 else if q = zL s + 2 then 0 else if q = zL s + 3 then (-2000000000) else zI s q j) = _
    rw [if_neg h1, if_neg h2, if_neg h3]
  have sR : ∀ q i, zR (nwX s c w n (zS s 15 4 + 1)) q i = if q = 17 ∧ i = n then some (zL s) else zR s q i := fun q i => rfl
  have sN : ∀ q, q < zL s → zN (nwX s c w n (zS s 15 4 + 1)) q = zN s q := fun q h => by
    show (if q = zL s + 1 then 61 else if q = zL s + 2 then 61 else if q = zL s + 3 then 61 else zN s q) = _
    rw [if_neg (by omega), if_neg (by omega), if_neg (by omega)]
  have mI : ∀ q j, q < 63 ∨ 65 < q → zI (nwM t c w n) q j = zI t q j := fun q j h => by
    unfold nwM
    rw [zI_pI, if_neg (by omega), zI_pI, if_neg (by omega), zI_pI, if_neg (by omega)]
  have lo : ∀ {q : Nat}, q < 126 → q ≠ zL s := fun h => by omega
  refine ⟨⟨fun i p hi e => ?_, fun i hi e => ?_, fun i j p hi hj e f => ?_, fun i hi => by rw [mI 69 _ (by omega)]; exact Q1.2.2.2 i hi⟩, Q2.c (fun i => sI 7 i (by omega) (by omega) (by omega)) (fun i => sI 8 i (by omega) (by omega) (by omega)) (fun i => sI 10 i (by omega) (by omega) (by omega)) (fun i => sI 16 i (by omega) (by omega) (by omega)) (sS 15 3 (by omega) (by omega)) (sS 6 4 (by omega) (by omega)) (fun i => mI 74 i (by omega)) (fun i => mI 75 i (by omega)) (fun i => mI 77 i (by omega)), ⟨?_, ?_, ?_⟩, Q5.c (sS 0 18 (by omega) (by omega)) (sS 0 14 (by omega) (by omega)) (fun i => mI 69 i (by omega)), Q6.c (fun k => sS 30 k (by omega) (by omega)) (sS 0 14 (by omega) (by omega)) (fun q i h1 h2 => sI q i (by omega) (by omega) (by omega)) (fun _ _ => rfl) (fun q i h1 h2 => mI q i (by omega)), Q7.c (fun k h1 h2 => sS 15 k (by omega) (by omega)) (fun _ _ _ => rfl), Q8.c (fun i hi => sS _ _ (by omega) (by omega)) (fun i => mI 80 i (by omega)), Q9.c (fun k h1 h2 => sS 6 k (by omega) (by omega)) (fun i => sI 13 i (by omega) (by omega) (by omega)) (fun _ _ => rfl) (fun i => mI 116 i (by omega)) (fun i => mI 118 i (by omega)), Q10.c (by rw [sS 15 3 (by omega) (by omega)]; exact Int.le_refl _) (fun i hi h => ?_) b3 (fun i => mI 79 i (by omega)), ⟨fun i hi hc => ?_, fun i hi hc => by rw [mI 84 _ (by omega)]; exact Q11.2.1 i hi (by rw [sS 0 5 (by omega) (by omega)] at hc; exact hc), fun i j p hi hj e f => Q11.2.2 i j p hi hj (by rw [sR, if_neg (by omega)] at e; exact e) (by rw [sR, if_neg (by omega)] at f; exact f)⟩, fun i hi hc => ?_, Q13.c (fun q i h => mI q i (by omega)) (fun _ => rfl), Q14.c (sS 0 14 (by omega) (by omega)) (fun i => mI 68 i (by omega))⟩
  · rw [sR] at e
    by_cases z : i = n
    · rw [if_pos ⟨rfl, z⟩] at e
      have ep : zL s = p := Option.some.inj e
      obtain ⟨z1, z2, z3, z4, z5, z6⟩ := Q1.2.1 n hn hz
      have hF : ∀ k, zS (nwX s c w n (zS s 15 4 + 1)) (zL s) k = holeF c w k := fun k => by
        unfold nwX
        rw [zS_pS, if_neg (by omega)]
        show (if zL s = zL s then holeF c w k else zS s (zL s) k) = _
        rw [if_pos rfl]
      have m63 : zI (nwM t c w n) 63 n = c := by
        unfold nwM
        rw [zI_pI, if_neg (by omega), zI_pI, if_neg (by omega), zI_pI, if_pos ⟨rfl, rfl⟩]
      have m65 : zI (nwM t c w n) 65 n = c := by
        unfold nwM
        rw [zI_pI, if_neg (by omega), zI_pI, if_pos ⟨rfl, rfl⟩]
      have m64 : zI (nwM t c w n) 64 n = w := by
        unfold nwM
        rw [zI_pI, if_pos ⟨rfl, rfl⟩]
      rw [← ep, z]
      refine ⟨by rw [hF, m63]; rfl, by rw [hF, m64]; rfl, by rw [hF, m65]; rfl, by rw [hF, mI 66 _ (by omega), z1]; rfl, by rw [hF, mI 67 _ (by omega), z2]; rfl, by rw [hF, mI 68 _ (by omega), z3]; rfl, by rw [hF, mI 69 _ (by omega), z4]; rfl, by rw [hF, mI 104 _ (by omega), z5]; rfl, fun y y1 y2 => ?_⟩
      obtain ⟨w1, w2, w3, w4⟩ := z6 y y1 y2
      rw [mI 70 _ (by omega), mI 71 _ (by omega), mI 72 _ (by omega), mI 73 _ (by omega), w1, w2, w3]
      refine ⟨?_, ?_, ?_, w4⟩
      · show (if zL s + 1 = zL s + 1 then (0 : Int32) else _) = 0
        rw [if_pos rfl]
      · show (if zL s + 2 = zL s + 1 then (0 : Int32) else if zL s + 2 = zL s + 2 then 0 else _) = 0
        rw [if_neg (by omega), if_pos rfl]
      · show (if zL s + 3 = zL s + 1 then (0 : Int32) else if zL s + 3 = zL s + 2 then 0 else if zL s + 3 = zL s + 3 then -2000000000 else _) = _
        rw [if_neg (by omega), if_neg (by omega), if_pos rfl]
        rfl
    · rw [if_neg (by omega)] at e
      have o := S.2.2.1 i p hi e
      have o1 := o.1
      have o2 := o.2.1
      have r := Q1.1 i p hi e
      obtain ⟨r0, r1, r2, r3, r4, r5, r6, r7, r8⟩ := r
      have u : ∀ k, zS (nwX s c w n (zS s 15 4 + 1)) p k = zS s p k := fun k => sS p k (by omega) (by omega)
      have m3 : ∀ q, 63 ≤ q → q ≤ 65 → zI (nwM t c w n) q i = zI t q i := fun q h1 h2 => by
        unfold nwM
        rw [zI_pI, if_neg (by omega), zI_pI, if_neg (by omega), zI_pI, if_neg (by omega)]
      refine ⟨by rw [u, m3 63 (by omega) (by omega)]; exact r0, by rw [u, m3 64 (by omega) (by omega)]; exact r1, by rw [u, m3 65 (by omega) (by omega)]; exact r2, by rw [u, mI 66 _ (by omega)]; exact r3, by rw [u, mI 67 _ (by omega)]; exact r4, by rw [u, mI 68 _ (by omega)]; exact r5, by rw [u, mI 69 _ (by omega)]; exact r6, by rw [u, mI 104 _ (by omega)]; exact r7, fun y y1 y2 => ?_⟩
      rw [sI (p + 1) y (by omega) (by omega) (by omega), sI (p + 2) y (by omega) (by omega) (by omega), sI (p + 3) y (by omega) (by omega) (by omega), mI 70 _ (by omega), mI 71 _ (by omega), mI 72 _ (by omega), mI 73 _ (by omega)]
      exact r8 y y1 y2
  · rw [sR] at e
    have z : i ≠ n := fun z => by rw [if_pos ⟨rfl, z⟩] at e; cases e
    rw [if_neg (by omega)] at e
    obtain ⟨z1, z2, z3, z4, z5, z6⟩ := Q1.2.1 i hi e
    unfold HZ
    simp only [mI 66 _ (by omega), mI 67 _ (by omega), mI 68 _ (by omega), mI 69 _ (by omega), mI 104 _ (by omega), mI 70 _ (by omega), mI 71 _ (by omega), mI 72 _ (by omega), mI 73 _ (by omega)]
    exact ⟨z1, z2, z3, z4, z5, z6⟩
  · rw [sR] at e f
    by_cases z : i = n
    · by_cases y : j = n
      · rw [z, y]
      · rw [if_pos ⟨rfl, z⟩] at e
        rw [if_neg (by omega)] at f
        have := (S.2.2.1 j p hj f).2.1
        have := Option.some.inj e
        omega
    · rw [if_neg (by omega)] at e
      by_cases y : j = n
      · rw [if_pos ⟨rfl, y⟩] at f
        have := (S.2.2.1 i p hi e).2.1
        have := Option.some.inj f
        omega
      · rw [if_neg (by omega)] at f
        exact Q1.2.2.1 i j p hi hj e f
  · rw [sS 0 16 (by omega) (by omega), Q3.1]
    exact ySum_c (fun i _ => by rw [mI 67 _ (by omega)])
  · rw [sS 0 17 (by omega) (by omega), Q3.2.1]
    exact ySum_c (fun i _ => by rw [mI 69 _ (by omega)])
  · have hb := ySum_b (f := fun i => if zR s 17 i = none then 0 else 1) (c := 1) (fun i => by
      by_cases z : zR s 17 i = none
      · rw [if_pos z]; decide
      · rw [if_neg z]; decide) 120
    have e4 : (zS s 15 4 + 1).toInt = (zS s 15 4).toInt + 1 := by
      have := Q3.2.2
      rw [i32_add (by rw [jl1]; omega) (by rw [jl1]; omega), jl1]
    have e5 : zS (nwX s c w n (zS s 15 4 + 1)) 15 4 = zS s 15 4 + 1 := by
      unfold nwX
      rw [zS_pS, if_pos ⟨rfl, rfl⟩]
    have gi : ∀ i, i ≠ n → (fun i => if zR (nwX s c w n (zS s 15 4 + 1)) 17 i = none then (0 : Int) else 1) i = (fun i => if zR s 17 i = none then (0 : Int) else 1) i := fun i hi => by
      show (if zR (nwX s c w n (zS s 15 4 + 1)) 17 i = none then (0 : Int) else 1) = if zR s 17 i = none then 0 else 1
      rw [show zR (nwX s c w n (zS s 15 4 + 1)) 17 i = zR s 17 i from (sR 17 i).trans (if_neg (fun w => hi w.2))]
    have gn : (if zR (nwX s c w n (zS s 15 4 + 1)) 17 n = none then (0 : Int) else 1) = 1 := if_neg (by
      rw [(sR 17 n).trans (if_pos ⟨rfl, rfl⟩)]
      intro z; cases z)
    have fn : (if zR s 17 n = none then (0 : Int) else 1) = 0 := if_pos hz
    have up := ySum_up gi 120
    rw [if_pos hn] at up
    rw [e5, e4, Q3.2.2, up]
    show _ = _ + ((if zR (nwX s c w n (zS s 15 4 + 1)) 17 n = none then (0 : Int) else 1) - (if zR s 17 n = none then (0 : Int) else 1))
    rw [gn, fn]
    omega
  · rw [sR]
    by_cases z : i = n
    · rw [if_pos ⟨rfl, z⟩]
      intro y; cases y
    · rw [if_neg (by omega)]; exact h
  · rw [sS 0 5 (by omega) (by omega)] at hc
    obtain ⟨p, e, r⟩ := Q11.1 i hi hc
    have o := S.2.2.2.2.1 i p hi e
    have o1 := o.1
    have o2 := o.2.1
    exact ⟨p, by rw [sR, if_neg (by omega)]; exact e, r.c (fun k => sS p k (by omega) (by omega)) (fun y => sI _ y (by omega) (by omega) (by omega)) (fun q j h1 h2 => mI q j (by omega))⟩
  · rw [sS 0 8 (by omega) (by omega)] at hc
    obtain ⟨p, e, r⟩ := Q12 i hi hc
    have o := S.2.2.2.2.2.1 i p hi e
    have o1 := o.1
    have o2 := o.2.1
    exact ⟨p, by rw [sR, if_neg (by omega)]; exact e, r.c (fun k => sS p k (by omega) (by omega)) (fun y => sI _ y (by omega) (by omega) (by omega)) (sN _ o2) (fun q j h1 h2 => mI q j (by omega))⟩
theorem L_hole (B : B1 s t) (Q : Q4 s t) (a0 a1 : Int32) : Pc (f_X11_hole s a0 a1) fun x => Pc (f_X12_hole t a0 a1) fun m => x.1 = m.1 ∧ Q4 x.2 m.2 := by
  have b := B.1.tot
  unfold f_X11_hole f_X12_hole f_X12_in f_X0_addedHole
  by_cases h : (zS s 15 3).toInt < 120
  · have S : Sh (adX s a0) := B.1.sh.same rfl rfl
    have key : ∀ c w : Int32, Q4 (nwX (adX s a0) c w (zS s 15 3).toInt.toNat (zS (adX s a0) 15 4 + 1)) (nwM (adM t a0) c w (zS s 15 3).toInt.toNat) := fun c w => by
      have e1 := tot1 B h
      exact (Q.ad (v := a0) B h).nw S (by show (zS s 15 3 + 1).toInt ≤ 120; omega) (by omega) (noH B (by omega) (by omega))
    have e4 : ∀ c w, zS (pR (pHole (adX s a0) c w) 17 (zS s 15 3).toInt.toNat (some (zL (adX s a0)))) 15 4 = zS (adX s a0) 15 4 := fun c w => by
      show (if 15 = zL (adX s a0) then holeF c w 4 else zS (adX s a0) 15 4) = _
      rw [if_neg (by have := S.1; omega)]
    rw [addX B h, addM B h, if_neg (nfull B h)]
    have fin : ∀ c w : Int32, zS s 15 3 = zS s 15 3 ∧ Q4 (pS (pR (pHole (adX s a0) c w) 17 (zS s 15 3).toInt.toNat (some (zL (adX s a0)))) 15 4 (zS (pR (pHole (adX s a0) c w) 17 (zS s 15 3).toInt.toNat (some (zL (adX s a0)))) 15 4 + 1)) (pI (pI (pI (adM t a0) 63 (zS s 15 3).toInt.toNat c) 65 (zS s 15 3).toInt.toNat c) 64 (zS s 15 3).toInt.toNat w) := fun c w => by
      rw [e4]
      exact ⟨rfl, key c w⟩
    repeat' (first
      | with_reducible refine Pc_bdS ?_
      | with_reducible refine Pc_b1S ?_
      | with_reducible refine Pc_if00 ?_
      | with_reducible refine Pc_if10 ?_
      | with_reducible refine Pc_ltt (by assumption) ?_
      | with_reducible refine Pc_ltf (by assumption) ?_
      | with_reducible refine Pc_lt (fun _ => ?_) (fun _ => ?_)
      | with_reducible refine Pc_ift (by assumption) ?_
      | with_reducible refine Pc_iff (by assumption) ?_
      | with_reducible refine Pc_if (fun _ => ?_) (fun _ => ?_)
      | with_reducible refine Pc_gd (fun _ => ?_)
      | with_reducible refine Pc_vl ?_
      | with_reducible refine Pc_wl ?_
      | with_reducible refine Pc_st ?_
      | with_reducible refine Pc_jn ?_
      | with_reducible refine Pc_b1 ?_
      | with_reducible refine Pc_bd ?_
      | with_reducible refine Pc_onS ?_
      | with_reducible refine Pc_onN ?_
      | with_reducible refine Pc_on (fun _ => ?_) (fun _ _ => ?_)
      | with_reducible refine Pc_some ?_
      | with_reducible refine Pc_none)
    all_goals first | with_reducible exact ⟨rfl, Q⟩ | with_reducible exact fin _ _ | (exfalso; simp only [jeq] at *; (simp only [jlt, jd4, jd10, jd20, jd24, jd60, jd100, jm4, jm10, jm20, jm24, jm60, jm100, Int32.reduceToInt] at *; omega)) | exact ⟨rfl, Q⟩ | exact fin _ _
  · rw [addXf h, if_pos (full B h)]
    repeat' (first
      | with_reducible refine Pc_bdS ?_
      | with_reducible refine Pc_b1S ?_
      | with_reducible refine Pc_if00 ?_
      | with_reducible refine Pc_if10 ?_
      | with_reducible refine Pc_ltt (by assumption) ?_
      | with_reducible refine Pc_ltf (by assumption) ?_
      | with_reducible refine Pc_lt (fun _ => ?_) (fun _ => ?_)
      | with_reducible refine Pc_ift (by assumption) ?_
      | with_reducible refine Pc_iff (by assumption) ?_
      | with_reducible refine Pc_if (fun _ => ?_) (fun _ => ?_)
      | with_reducible refine Pc_gd (fun _ => ?_)
      | with_reducible refine Pc_vl ?_
      | with_reducible refine Pc_wl ?_
      | with_reducible refine Pc_st ?_
      | with_reducible refine Pc_jn ?_
      | with_reducible refine Pc_b1 ?_
      | with_reducible refine Pc_bd ?_
      | with_reducible refine Pc_onS ?_
      | with_reducible refine Pc_onN ?_
      | with_reducible refine Pc_on (fun _ => ?_) (fun _ _ => ?_)
      | with_reducible refine Pc_some ?_
      | with_reducible refine Pc_none)
    all_goals first | with_reducible exact ⟨rfl, Q⟩ | (exfalso; simp only [jeq] at *; (simp only [jlt, jd4, jd10, jd20, jd24, jd60, jd100, jm4, jm10, jm20, jm24, jm60, jm100, Int32.reduceToInt] at *; omega)) | exact ⟨rfl, Q⟩
end NHs
/-! A NEW MAP -/
section NMs
variable {s t s' t' : SS}
theorem QHol.e (R : QHol s t) (S : Sh s) (h1 : ∀ q k, 126 ≤ q → q < zL s → zS s' q k = zS s q k) (h2 : ∀ q j, 126 ≤ q → q < zL s → zI s' q j = zI s q j) (h3 : ∀ i, zR s' 17 i = zR s 17 i) (m : ∀ q j, 63 ≤ q → q ≤ 73 ∨ q = 104 → zI t' q j = zI t q j) : QHol s' t' := by
  obtain ⟨a, b, c, d⟩ := R
  refine ⟨fun i p hi e => ?_, fun i hi e => ?_, fun i j p hi hj e f => c i j p hi hj ((h3 i).symm.trans e) ((h3 j).symm.trans f), fun i hi => ?_⟩
  · have e' := (h3 i).symm.trans e
    have o := (S.2.2.1 i p hi e').1
    have o2 := (S.2.2.1 i p hi e').2.1
    exact (a i p hi e').c (fun k => h1 p k o (by omega)) (fun y => h2 _ y (by omega) (by omega)) (fun y => h2 _ y (by omega) (by omega)) (fun y => h2 _ y (by omega) (by omega)) m
  · exact (b i hi ((h3 i).symm.trans e)).c m
  · rw [m 69 _ (by omega) (by omega)]
    exact d i hi
def mkX (s : SS) (c w y : Int32) (n : Nat) (v : Int32) : SS := pS (pR (pMap s c w y) 23 n (some (zL s))) 0 5 v
def mkM (t : SS) (c w y : Int32) (n : Nat) (v : Int32) : SS := pS (pI (pI (pI t 81 n c) 82 n w) 83 n y) 59 30 v
theorem Q4.mk {c w y v : Int32} {n : Nat} (S : Sh s) (b3 : (zS s 15 3).toInt ≤ 120) (Q : Q4 s t) (hn : n < 8) (h5 : (zS s 0 5).toInt = n) (hv : v.toInt = n + 1) (hc : 0 ≤ c.toInt ∧ c.toInt ≤ w.toInt ∧ w.toInt ≤ 31) (hy : 1 ≤ y.toInt ∧ y.toInt ≤ 60) : Q4 (mkX s c w y n v) (mkM t c w y n v) := by
  obtain ⟨Q1, Q2, Q3, Q5, Q6, Q7, Q8, Q9, Q10, Q11, Q12, Q13, Q14⟩ := Q
  have hL := S.1
  have sS : ∀ q k, q ≠ zL s → ¬ (q = 0 ∧ k = 5) → zS (mkX s c w y n v) q k = zS s q k := fun q k h1 h2 => by
    unfold mkX
    rw [zS_pS, if_neg h2]
    show (if q = zL s then mapF c w y k else zS s q k) = _
    rw [if_neg h1]
  have s5 : zS (mkX s c w y n v) 0 5 = v := by
    unfold mkX
    rw [zS_pS, if_pos ⟨rfl, rfl⟩]
  have sI : ∀ q j, q ≠ zL s + 1 → zI (mkX s c w y n v) q j = zI s q j := fun q j h1 => by
    show (if q = zL s + 1 then 0 else zI s q j) = _
    rw [if_neg h1]
  have sR : ∀ q i, zR (mkX s c w y n v) q i = if q = 23 ∧ i = n then some (zL s) else zR s q i := fun q i => rfl
  have sN : ∀ q, q < zL s → zN (mkX s c w y n v) q = zN s q := fun q h => by
    show (if q = zL s + 1 then 61 else zN s q) = _
    rw [if_neg (by omega)]
  have mI : ∀ q j, q < 81 ∨ 83 < q → zI (mkM t c w y n v) q j = zI t q j := fun q j h => by
    unfold mkM
    rw [zI_pS, zI_pI, if_neg (by omega), zI_pI, if_neg (by omega), zI_pI, if_neg (by omega)]
  refine ⟨Q1.e S (fun q k h1 h2 => sS q k (by omega) (by omega)) (fun q j h1 h2 => sI q j (by omega)) (fun i => by rw [sR, if_neg (by omega)]) (fun q j h1 h2 => mI q j (by omega)), Q2.c (fun i => sI 7 i (by omega)) (fun i => sI 8 i (by omega)) (fun i => sI 10 i (by omega)) (fun i => sI 16 i (by omega)) (sS 15 3 (by omega) (by omega)) (sS 6 4 (by omega) (by omega)) (fun i => mI 74 i (by omega)) (fun i => mI 75 i (by omega)) (fun i => mI 77 i (by omega)), Q3.c (fun k h => sS 0 k (by omega) (by omega)) (sS 15 4 (by omega) (by omega)) (fun i => by rw [sR, if_neg (by omega)]) (fun i => mI 67 i (by omega)) (fun i => mI 69 i (by omega)), Q5.c (sS 0 18 (by omega) (by omega)) (sS 0 14 (by omega) (by omega)) (fun i => mI 69 i (by omega)), Q6.c (fun k => sS 30 k (by omega) (by omega)) (sS 0 14 (by omega) (by omega)) (fun q i h1 h2 => sI q i (by omega)) (fun k h => ?_) (fun q i h1 h2 => mI q i (by omega)), Q7.c (fun k h1 h2 => sS 15 k (by omega) (by omega)) (fun k h1 h2 => ?_), Q8.c (fun i hi => sS _ _ (by omega) (by omega)) (fun i => mI 80 i (by omega)), Q9.c (fun k h1 h2 => sS 6 k (by omega) (by omega)) (fun i => sI 13 i (by omega)) (fun k h => ?_) (fun i => mI 116 i (by omega)) (fun i => mI 118 i (by omega)), Q10.c (by rw [sS 15 3 (by omega) (by omega)]; exact Int.le_refl _) (fun i hi h => by rw [sR, if_neg (by omega)]; exact h) b3 (fun i => mI 79 i (by omega)), ⟨fun i hi hcc => ?_, fun i hi hcc => ?_, fun i j p hi hj e f => ?_⟩, fun i hi hcc => ?_, Q13.c (fun q i h => mI q i (by omega)) (fun _ => rfl), Q14.c (sS 0 14 (by omega) (by omega)) (fun i => mI 68 i (by omega))⟩
  · show (if 59 = 59 ∧ k = 30 then v else zS t 59 k) = _
    rw [if_neg (by omega)]
  · show (if 59 = 59 ∧ k = 30 then v else zS t 59 k) = _
    rw [if_neg (by omega)]
  · show (if 59 = 59 ∧ k = 30 then v else zS t 59 k) = _
    rw [if_neg (by omega)]
  · rw [s5] at hcc
    by_cases z : i = n
    · have hF : ∀ k, zS (mkX s c w y n v) (zL s) k = mapF c w y k := fun k => by
        unfold mkX
        rw [zS_pS, if_neg (by omega)]
        show (if zL s = zL s then mapF c w y k else zS s (zL s) k) = _
        rw [if_pos rfl]
      have m81 : zI (mkM t c w y n v) 81 n = c := by
        unfold mkM
        rw [zI_pS, zI_pI, if_neg (by omega), zI_pI, if_neg (by omega), zI_pI, if_pos ⟨rfl, rfl⟩]
      have m82 : zI (mkM t c w y n v) 82 n = w := by
        unfold mkM
        rw [zI_pS, zI_pI, if_neg (by omega), zI_pI, if_pos ⟨rfl, rfl⟩]
      have m83 : zI (mkM t c w y n v) 83 n = y := by
        unfold mkM
        rw [zI_pS, zI_pI, if_pos ⟨rfl, rfl⟩]
      have m84 : zI (mkM t c w y n v) 84 n = 0 := (mI 84 n (by omega)).trans (Q11.2.1 n hn (by omega))
      refine ⟨zL s, by rw [sR, if_pos ⟨rfl, z⟩], ?_⟩
      rw [z]
      refine ⟨by rw [hF, m81]; rfl, by rw [hF, m82]; rfl, by rw [hF, m83]; rfl, by rw [hF, m84]; rfl, by rw [hF, hF]; exact hc, by rw [hF]; exact hy, fun a b _ _ _ => ?_⟩
      have e0 : zI (mkX s c w y n v) (zL s + 1) b = 0 := by
        show (if zL s + 1 = zL s + 1 then (0 : Int32) else _) = 0
        rw [if_pos rfl]
      rw [e0, m84, jl0]
      constructor
      · intro z
        exact absurd z (by rw [show (0 : Int32).toBitVec = 0#32 from rfl, BitVec.getLsbD_zero]; decide)
      · rintro ⟨k, hk, _⟩
        omega
    · obtain ⟨p, e, r⟩ := Q11.1 i hi (by omega)
      have o := S.2.2.2.2.1 i p hi e
      have o1 := o.1
      have o2 := o.2.1
      have m3 : ∀ q, 81 ≤ q → q ≤ 83 → zI (mkM t c w y n v) q i = zI t q i := fun q h1 h2 => by
        unfold mkM
        rw [zI_pS, zI_pI, if_neg (by omega), zI_pI, if_neg (by omega), zI_pI, if_neg (by omega)]
      refine ⟨p, by rw [sR, if_neg (by omega)]; exact e, ?_⟩
      obtain ⟨r0, r1, r2, r3, r4, r5, r6⟩ := r
      have u : ∀ k, zS (mkX s c w y n v) p k = zS s p k := fun k => sS p k (by omega) (by omega)
      refine ⟨by rw [u, m3 81 (by omega) (by omega)]; exact r0, by rw [u, m3 82 (by omega) (by omega)]; exact r1, by rw [u, m3 83 (by omega) (by omega)]; exact r2, by rw [u, mI 84 _ (by omega)]; exact r3, by rw [u, u]; exact r4, by rw [u]; exact r5, fun a b h1 h2 h3 => ?_⟩
      rw [sI _ _ (by omega), mI 84 _ (by omega)]
      simp only [mI 85 _ (show 85 < 81 ∨ 83 < 85 by omega)]
      exact r6 a b h1 h2 h3
  · rw [s5] at hcc
    rw [mI 84 _ (by omega)]
    exact Q11.2.1 i hi (by omega)
  · rw [sR] at e f
    by_cases z : i = n
    · by_cases y' : j = n
      · rw [z, y']
      · rw [if_pos ⟨rfl, z⟩] at e
        rw [if_neg (by omega)] at f
        have := (S.2.2.2.2.1 j p hj f).2.1
        have := Option.some.inj e
        omega
    · rw [if_neg (by omega)] at e
      by_cases y' : j = n
      · rw [if_pos ⟨rfl, y'⟩] at f
        have := (S.2.2.2.2.1 i p hi e).2.1
        have := Option.some.inj f
        omega
      · rw [if_neg (by omega)] at f
        exact Q11.2.2 i j p hi hj e f
  · rw [sS 0 8 (by omega) (by omega)] at hcc
    obtain ⟨p, e, r⟩ := Q12 i hi hcc
    have o := S.2.2.2.2.2.1 i p hi e
    have o1 := o.1
    have o2 := o.2.1
    exact ⟨p, by rw [sR, if_neg (by omega)]; exact e, r.c (fun k => sS p k (by omega) (by omega)) (fun y => sI _ y (by omega)) (sN _ o2) (fun q j h1 h2 => mI q j (by omega))⟩
theorem L_map (B : B1 s t) (Q : Q4 s t) (a0 a1 : Int32) : Pc (f_X11_map s a0 a1) fun x => Pc (f_X12_map t a0 a1) fun m => x.1 = m.1 ∧ Q4 x.2 m.2 := by
  have b5 : zS s 0 5 = zS t 59 30 := B.1.1.2.2.1
  have r5 : 0 ≤ (zS s 0 5).toInt ∧ (zS s 0 5).toInt ≤ 8 := B.1.fx (q := 0) (k := 5) (by omega)
  unfold f_X11_map f_X12_map f_X11_isSpan f_X12_isSpan f_X11_isYard f_X12_in
  by_cases h : (zS s 0 5).toInt < 8
  · have n8 : ¬ zS t 59 30 = 8 := fun z => by rw [b5, z, show (8 : Int32).toInt = 8 from rfl] at h; omega
    have e1 : (zS s 0 5 + 1).toInt = (zS s 0 5).toInt + 1 := by rw [i32_add (by rw [jl1]; omega) (by rw [jl1]; omega), jl1]
    have e4 : ∀ c w y, zS (pR (pMap s c w y) 23 (zS s 0 5).toInt.toNat (some (zL s))) 0 5 = zS s 0 5 := fun c w y => by
      show (if 0 = zL s then mapF c w y 5 else zS s 0 5) = _
      rw [if_neg (by have := B.1.sh.1; omega)]
    have fin : (0 : Int32).toInt ≤ a0.toInt → (a0 / 100).toInt ≤ (a0 % 100).toInt → (a0 % 100).toInt < (32 : Int32).toInt → (1 : Int32).toInt ≤ a1.toInt → a1.toInt ≤ (60 : Int32).toInt → zS (pS (pR (pMap s (a0 / 100) (a0 % 100) a1) 23 (zS s 0 5).toInt.toNat (some (zL s))) 0 5 (zS (pR (pMap s (a0 / 100) (a0 % 100) a1) 23 (zS s 0 5).toInt.toNat (some (zL s))) 0 5 + 1)) 0 5 - 1 = zS t 59 30 + 1 - 1 ∧ Q4 (pS (pR (pMap s (a0 / 100) (a0 % 100) a1) 23 (zS s 0 5).toInt.toNat (some (zL s))) 0 5 (zS (pR (pMap s (a0 / 100) (a0 % 100) a1) 23 (zS s 0 5).toInt.toNat (some (zL s))) 0 5 + 1)) (pS (pI (pI (pI t 81 (zS t 59 30).toInt.toNat (a0 / 100)) 82 (zS t 59 30).toInt.toNat (a0 % 100)) 83 (zS t 59 30).toInt.toNat a1) 59 30 (zS t 59 30 + 1)) := fun h0 h1 h2 h3 h4 => by
      rw [e4, ← b5]
      refine ⟨by rw [zS_pS, if_pos ⟨rfl, rfl⟩], Q.mk B.1.sh B.1.tot.2.2 (by omega) (by omega) (by omega) ⟨?_, h1, by rw [show (32 : Int32).toInt = 32 from rfl] at h2; omega⟩ ⟨h3, h4⟩⟩
      rw [jl0] at h0
      rw [d100 h0]
      omega
    repeat' (first
      | with_reducible refine Pc_bdS ?_
      | with_reducible refine Pc_b1S ?_
      | with_reducible refine Pc_if00 ?_
      | with_reducible refine Pc_if10 ?_
      | with_reducible refine Pc_ltt (by assumption) ?_
      | with_reducible refine Pc_ltf (by assumption) ?_
      | with_reducible refine Pc_lt (fun _ => ?_) (fun _ => ?_)
      | with_reducible refine Pc_ift (by assumption) ?_
      | with_reducible refine Pc_iff (by assumption) ?_
      | with_reducible refine Pc_if (fun _ => ?_) (fun _ => ?_)
      | with_reducible refine Pc_gd (fun _ => ?_)
      | with_reducible refine Pc_vl ?_
      | with_reducible refine Pc_wl ?_
      | with_reducible refine Pc_st ?_
      | with_reducible refine Pc_jn ?_
      | with_reducible refine Pc_b1 ?_
      | with_reducible refine Pc_bd ?_
      | with_reducible refine Pc_onS ?_
      | with_reducible refine Pc_onN ?_
      | with_reducible refine Pc_on (fun _ => ?_) (fun _ _ => ?_)
      | with_reducible refine Pc_some ?_
      | with_reducible refine Pc_none)
    all_goals first | with_reducible exact ⟨rfl, Q⟩ | with_reducible exact fin (by assumption) (by assumption) (by assumption) (by assumption) (by assumption) | (exfalso; simp only [jeq] at *; (simp only [jlt, jd4, jd10, jd20, jd24, jd60, jd100, jm4, jm10, jm20, jm24, jm60, jm100, Int32.reduceToInt] at *; omega)) | exact ⟨rfl, Q⟩ | exact fin (by assumption) (by assumption) (by assumption) (by assumption) (by assumption)
  · have n8 : zS t 59 30 = 8 := Int32.toInt_inj.1 (by rw [← b5, show (8 : Int32).toInt = 8 from rfl]; omega)
    repeat' (first
      | with_reducible refine Pc_bdS ?_
      | with_reducible refine Pc_b1S ?_
      | with_reducible refine Pc_if00 ?_
      | with_reducible refine Pc_if10 ?_
      | with_reducible refine Pc_ltt (by assumption) ?_
      | with_reducible refine Pc_ltf (by assumption) ?_
      | with_reducible refine Pc_lt (fun _ => ?_) (fun _ => ?_)
      | with_reducible refine Pc_ift (by assumption) ?_
      | with_reducible refine Pc_iff (by assumption) ?_
      | with_reducible refine Pc_if (fun _ => ?_) (fun _ => ?_)
      | with_reducible refine Pc_gd (fun _ => ?_)
      | with_reducible refine Pc_vl ?_
      | with_reducible refine Pc_wl ?_
      | with_reducible refine Pc_st ?_
      | with_reducible refine Pc_jn ?_
      | with_reducible refine Pc_b1 ?_
      | with_reducible refine Pc_bd ?_
      | with_reducible refine Pc_onS ?_
      | with_reducible refine Pc_onN ?_
      | with_reducible refine Pc_on (fun _ => ?_) (fun _ _ => ?_)
      | with_reducible refine Pc_some ?_
      | with_reducible refine Pc_none)
    all_goals first | with_reducible exact ⟨rfl, Q⟩ | (exfalso; simp only [jeq] at *; (simp only [jlt, jd4, jd10, jd20, jd24, jd60, jd100, jm4, jm10, jm20, jm24, jm60, jm100, Int32.reduceToInt] at *; omega)) | exact ⟨rfl, Q⟩
end NMs
/-! LET DOWN BY A TUBE -/
section DNs
variable {s t : SS}
theorem maxJ (a b : Int32) : f_J9_max_7cf53 a b = some (if a < b then b else a) := by
  unfold f_J9_max_7cf53
  by_cases h : a < b
  · rw [if_pos h, if_pos h]
  · rw [if_neg h, if_neg h]
theorem minJ (a b : Int32) : f_J9_min_7cf53 a b = some (if b < a then b else a) := by
  unfold f_J9_min_7cf53
  by_cases h : b < a
  · rw [if_pos h, if_pos h]
  · rw [if_neg h, if_neg h]
def QTub (t : SS) (c : Int) : Prop := ∀ i, i < 120 → (zI t 104 i).toInt ≤ c
/-- one more thing on its way, by the tube n at p -/
theorem Q4.dn {n p : Nat} {v a : Int32} (S : Sh s) (b3 : (zS s 15 3).toInt ≤ 120) (Q : Q4 s t) (hn : n < 120) (hp : zR s 17 n = some p) (h5 : 0 ≤ (zS s 30 5).toInt ∧ (zS s 30 5).toInt < 40) (hv : (zS s 0 14).toInt < v.toInt) : Q4 (pS (pI (pI (pS s p 7 v) 32 (zS s 30 5).toInt.toNat a) 33 (zS s 30 5).toInt.toNat v) 30 5 (zS s 30 5 + 1)) (pS (pI (pI (pI t 104 n v) 102 (zS s 30 5).toInt.toNat a) 103 (zS s 30 5).toInt.toNat v) 59 62 (zS s 30 5 + 1)) := by
  obtain ⟨Q1, Q2, Q3, Q5, Q6, Q7, Q8, Q9, Q10, Q11, Q12, Q13, Q14⟩ := Q
  have o := S.2.2.1 n p hn hp
  have o1 := o.1
  have e1 : (zS s 30 5 + 1).toInt = (zS s 30 5).toInt + 1 := by rw [i32_add (by rw [jl1]; omega) (by rw [jl1]; omega), jl1]
  have hm : ((zS s 30 5).toInt.toNat : Int) = (zS s 30 5).toInt := by omega
  generalize hw : zS s 30 5 + 1 = w at e1 ⊢
  generalize hk : (zS s 30 5).toInt.toNat = m at hm ⊢
  have W : hW p s (pS (pI (pI (pS s p 7 v) 32 m a) 33 m v) 30 5 w) := ((hW.rf.wS.sI (by omega)).sI (by omega)).sS (by omega)
  have sS : ∀ q k, q ≠ p → ¬ (q = 30 ∧ k = 5) → zS (pS (pI (pI (pS s p 7 v) 32 m a) 33 m v) 30 5 w) q k = zS s q k := fun q k h1 h2 => by rw [zS_pS, if_neg h2, zS_pI, zS_pI, zS_pS, if_neg (fun z => h1 z.1)]
  have sI : ∀ q j, q ≠ 32 → q ≠ 33 → zI (pS (pI (pI (pS s p 7 v) 32 m a) 33 m v) 30 5 w) q j = zI s q j := fun q j h1 h2 => by rw [zI_pS, zI_pI, if_neg (by omega), zI_pI, if_neg (by omega), zI_pS]
  have mI : ∀ q j, q ≠ 102 → q ≠ 103 → q ≠ 104 → zI (pS (pI (pI (pI t 104 n v) 102 m a) 103 m v) 59 62 w) q j = zI t q j := fun q j h1 h2 h3 => by rw [zI_pS, zI_pI, if_neg (by omega), zI_pI, if_neg (by omega), zI_pI, if_neg (by omega)]
  have mS : ∀ k, k ≠ 62 → zS (pS (pI (pI (pI t 104 n v) 102 m a) 103 m v) 59 62 w) 59 k = zS t 59 k := fun k h => by
    rw [zS_pS, if_neg (by omega)]; rfl
  have M : mV n t (pS (pI (pI (pI t 104 n v) 102 m a) 103 m v) 59 62 w) := ⟨fun q i h1 h2 h3 => by rw [zI_pS, zI_pI, if_neg (by omega), zI_pI, if_neg (by omega), zI_pI, if_neg (by omega)], fun q i y h1 h2 _ _ _ => mI q _ (by omega) (by omega) (by omega)⟩
  refine ⟨Q1.up S hn hp W M ?_ (by rw [mI 69 _ (by omega) (by omega) (by omega)]; exact Q1.2.2.2 n hn), Q2.c (fun i => sI 7 i (by omega) (by omega)) (fun i => sI 8 i (by omega) (by omega)) (fun i => sI 10 i (by omega) (by omega)) (fun i => sI 16 i (by omega) (by omega)) (sS 15 3 (by omega) (by omega)) (sS 6 4 (by omega) (by omega)) (fun i => mI 74 i (by omega) (by omega) (by omega)) (fun i => mI 75 i (by omega) (by omega) (by omega)) (fun i => mI 77 i (by omega) (by omega) (by omega)), Q3.c (fun k _ => sS 0 k (by omega) (by omega)) (sS 15 4 (by omega) (by omega)) (fun _ => rfl) (fun i => mI 67 i (by omega) (by omega) (by omega)) (fun i => mI 69 i (by omega) (by omega) (by omega)), Q5.c (sS 0 18 (by omega) (by omega)) (sS 0 14 (by omega) (by omega)) (fun i => mI 69 i (by omega) (by omega) (by omega)), ⟨?_, ?_, ?_, fun i => ?_, fun i hi hc => ?_⟩, Q7.c (fun k _ _ => sS 15 k (by omega) (by omega)) (fun k h1 h2 => mS k (by omega)), Q8.c (fun i hi => sS _ _ (by omega) (by omega)) (fun i => mI 80 i (by omega) (by omega) (by omega)), Q9.c (fun k _ _ => sS 6 k (by omega) (by omega)) (fun i => sI 13 i (by omega) (by omega)) (fun k h => mS k (by omega)) (fun i => mI 116 i (by omega) (by omega) (by omega)) (fun i => mI 118 i (by omega) (by omega) (by omega)), Q10.c (by rw [sS 15 3 (by omega) (by omega)]; exact Int.le_refl _) (fun _ _ h => h) b3 (fun i => mI 79 i (by omega) (by omega) (by omega)), Q11.d S (sS 0 5 (by omega) (by omega)) (W.d o) (fun _ => rfl) (fun q j h1 h2 => mI q j (by omega) (by omega) (by omega)), Q12.d S (sS 0 8 (by omega) (by omega)) (W.d o) (fun _ => rfl) (fun _ _ => rfl) (fun q j h1 h2 => mI q j (by omega) (by omega) (by omega)), Q13.c (fun q i h => mI q i (by omega) (by omega) (by omega)) (fun _ => rfl), Q14.c (sS 0 14 (by omega) (by omega)) (fun i => mI 68 i (by omega) (by omega) (by omega))⟩
  · obtain ⟨x0, x1, x2, x3, x4, x5, x6, x7, x8⟩ := Q1.1 n p hn hp
    have zp : ∀ k, k ≠ 7 → zS (pS (pI (pI (pS s p 7 v) 32 m a) 33 m v) 30 5 w) p k = zS s p k := fun k hk => by rw [zS_pS, if_neg (by omega), zS_pI, zS_pI, zS_pS, if_neg (by omega)]
    refine ⟨by rw [zp 0 (by omega), mI 63 _ (by omega) (by omega) (by omega)]; exact x0, by rw [zp 1 (by omega), mI 64 _ (by omega) (by omega) (by omega)]; exact x1, by rw [zp 2 (by omega), mI 65 _ (by omega) (by omega) (by omega)]; exact x2, by rw [zp 3 (by omega), mI 66 _ (by omega) (by omega) (by omega)]; exact x3, by rw [zp 4 (by omega), mI 67 _ (by omega) (by omega) (by omega)]; exact x4, by rw [zp 5 (by omega), mI 68 _ (by omega) (by omega) (by omega)]; exact x5, by rw [zp 6 (by omega), mI 69 _ (by omega) (by omega) (by omega)]; exact x6, ?_, fun y y1 y2 => ?_⟩
    · rw [zS_pS, if_neg (by omega), zS_pI, zS_pI, zS_pS, if_pos ⟨rfl, rfl⟩, zI_pS, zI_pI, if_neg (by omega), zI_pI, if_neg (by omega), zI_pI, if_pos ⟨rfl, rfl⟩]
    · rw [sI (p + 1) y (by omega) (by omega), sI (p + 2) y (by omega) (by omega), sI (p + 3) y (by omega) (by omega), mI 70 _ (by omega) (by omega) (by omega), mI 71 _ (by omega) (by omega) (by omega), mI 72 _ (by omega) (by omega) (by omega), mI 73 _ (by omega) (by omega) (by omega)]
      exact x8 y y1 y2
  · rw [sS 30 0 (by omega) (by omega), mS 54 (by omega)]; exact Q6.1
  · rw [sS 30 1 (by omega) (by omega), mS 55 (by omega)]; exact Q6.2.1
  · rw [zS_pS, if_pos ⟨rfl, rfl⟩, zS_pS, if_pos ⟨rfl, rfl⟩]
  · rw [sI 31 i (by omega) (by omega), mI 105 i (by omega) (by omega) (by omega)]; exact Q6.2.2.2.1 i
  · rw [zS_pS, if_pos ⟨rfl, rfl⟩] at hc
    rw [sS 0 14 (by omega) (by omega)]
    have c32 : zI (pS (pI (pI (pS s p 7 v) 32 m a) 33 m v) 30 5 w) 32 i = if i = m then a else zI s 32 i := by
      rw [zI_pS, zI_pI, if_neg (by omega), zI_pI]
      by_cases z : i = m
      · rw [if_pos ⟨rfl, z⟩, if_pos z]
      · rw [if_neg (by omega), if_neg z, zI_pS]
    have c33 : zI (pS (pI (pI (pS s p 7 v) 32 m a) 33 m v) 30 5 w) 33 i = if i = m then v else zI s 33 i := by
      rw [zI_pS, zI_pI]
      by_cases z : i = m
      · rw [if_pos ⟨rfl, z⟩, if_pos z]
      · rw [if_neg (by omega), if_neg z, zI_pI, if_neg (by omega), zI_pS]
    have d102 : zI (pS (pI (pI (pI t 104 n v) 102 m a) 103 m v) 59 62 w) 102 i = if i = m then a else zI t 102 i := by
      rw [zI_pS, zI_pI, if_neg (by omega), zI_pI]
      by_cases z : i = m
      · rw [if_pos ⟨rfl, z⟩, if_pos z]
      · rw [if_neg (by omega), if_neg z, zI_pI, if_neg (by omega)]
    have d103 : zI (pS (pI (pI (pI t 104 n v) 102 m a) 103 m v) 59 62 w) 103 i = if i = m then v else zI t 103 i := by
      rw [zI_pS, zI_pI]
      by_cases z : i = m
      · rw [if_pos ⟨rfl, z⟩, if_pos z]
      · rw [if_neg (by omega), if_neg z, zI_pI, if_neg (by omega), zI_pI, if_neg (by omega)]
    rw [c32, c33, d102, d103]
    by_cases z : i = m
    · rw [if_pos z, if_pos z, if_pos z, if_pos z]
      exact ⟨rfl, rfl, hv⟩
    · rw [if_neg z, if_neg z, if_neg z, if_neg z]
      exact Q6.2.2.2.2 i hi (by omega)
theorem thingX (a : Int32) : f_X11_isThing a = some (if (10 ≤ a.toInt ∧ a.toInt % 10 = 0 ∧ a.toInt / 10 ≤ 999) ∨ (11 ≤ a.toInt ∧ a.toInt ≤ 19) then 1 else 0) := by
  unfold f_X11_isThing
  by_cases c : a < 10
  · rw [if_pos c]
    rw [jlt, jl10] at c
    rw [if_neg (by omega)]
  rw [if_neg c]
  rw [jlt, jl10] at c
  have e1 := jd10 a
  have e2 := jm10 a
  rw [if_pos (by omega)] at e1 e2
  by_cases d : a % 10 = 0
  · rw [if_pos d]
    have d' : a.toInt % 10 = 0 := by rw [← e2, d]; rfl
    by_cases f : (999 : Int32) < a / 10
    · rw [if_pos f]
      rw [jlt, jl999, e1] at f
      rw [if_neg (by omega)]
    · rw [if_neg f]
      rw [jlt, jl999, e1] at f
      rw [if_pos (Or.inl ⟨by omega, d', by omega⟩)]
  · rw [if_neg d]
    have d' : a.toInt % 10 ≠ 0 := fun z => d (Int32.toInt_inj.1 (by rw [e2, z]; rfl))
    by_cases f : a / 10 = 1
    · rw [if_pos f]
      have f' : a.toInt / 10 = 1 := by rw [← e1, f]; rfl
      rw [if_pos (Or.inr ⟨by omega, by omega⟩)]
    · rw [if_neg f]
      have f' : a.toInt / 10 ≠ 1 := fun z => f (Int32.toInt_inj.1 (by rw [e1, z]; rfl))
      rw [if_neg (by omega)]
def thg (a : Int32) : Prop := (10 ≤ a.toInt ∧ a.toInt % 10 = 0 ∧ a.toInt / 10 ≤ 999) ∨ (11 ≤ a.toInt ∧ a.toInt ≤ 19)
theorem thingM {k : Option (Int32 × SS)} {Q : Int32 × SS → Prop} {a1 : Int32} {t : SS} (h1 : thg a1 → Pc k Q) (h2 : ¬ thg a1 → Q (-1, t)) : Pc (jn (fun (t7_0 : Int32) => (jn k fun k8 => (if t7_0 = (0 : Int32) then (b1 (f_X12_in a1 (11 : Int32) (19 : Int32)) fun r30 => (if r30 = (0 : Int32) then some ((-1), t) else k8)) else k8))) fun k7 => (jn ((k7 0)) fun k32 => (if (0 : Int32) < a1 then (if (a1 % (10 : Int32)) = (0 : Int32) then (if (999 : Int32) < (a1 / (10 : Int32)) then k32 else (k7 1)) else k32) else k32))) Q := by
  have e1 := jd10 a1
  have e2 := jm10 a1
  have K0 : ¬ (10 ≤ a1.toInt ∧ a1.toInt % 10 = 0 ∧ a1.toInt / 10 ≤ 999) → Pc (jn k fun k8 => (if (0 : Int32) = (0 : Int32) then (b1 (f_X12_in a1 (11 : Int32) (19 : Int32)) fun r30 => (if r30 = (0 : Int32) then some ((-1), t) else k8)) else k8)) Q := fun n => by
    refine Pc_jn (Pc_if00 ?_)
    by_cases d : 11 ≤ a1.toInt ∧ a1.toInt ≤ 19
    · rw [in_t (by rw [jl11, jl19]; exact d)]
      exact Pc_b1S (Pc_if10 (h1 (Or.inr d)))
    · rw [in_f (by rw [jl11, jl19]; exact d)]
      exact Pc_b1S (Pc_if00 (Pc_some (h2 (fun z => z.elim n d))))
  refine Pc_jn (Pc_jn (Pc_lt (fun c => Pc_if (fun d => Pc_lt (fun f => K0 (fun z => ?_)) (fun f => Pc_jn (Pc_if10 (h1 (Or.inl ?_))))) (fun d => K0 (fun z => d ?_))) (fun c => K0 (fun z => by rw [jl0] at c; omega))))
  · rw [jl0] at c
    rw [if_pos (by omega)] at e1
    rw [jl999, e1] at f
    omega
  · rw [jl0] at c
    rw [if_pos (by omega)] at e1 e2
    rw [jl999, e1] at f
    rw [d, jl0] at e2
    omega
  · rw [if_pos (by omega)] at e2
    exact Int32.toInt_inj.1 (by rw [e2, z.2.1]; rfl)
theorem thing_t {a : Int32} (h : thg a) : f_X11_isThing a = some 1 := by rw [thingX]; exact congrArg some (if_pos h)
theorem thing_f {a : Int32} (h : ¬ thg a) : f_X11_isThing a = some 0 := by rw [thingX]; exact congrArg some (if_neg h)
theorem kindX (B : B1 s t) {a : Int32} (d : 0 ≤ a.toInt ∧ a.toInt < (zS s 15 3).toInt) : f_X0_kindOf s a = some (zI s 16 a.toInt.toNat) := by
  have b := B.1.tot
  unfold f_X0_kindOf
  rw [if_neg (by rw [jlt, jl0]; omega), if_pos (by rw [jlt]; exact d.2), gd_t ⟨d.1, by omega⟩]
theorem kindXf {a : Int32} (d : ¬ (0 ≤ a.toInt ∧ a.toInt < (zS s 15 3).toInt)) : f_X0_kindOf s a = some (-1) := by
  unfold f_X0_kindOf
  by_cases c : a < 0
  · rw [if_pos c]
  · rw [if_neg c, if_neg (by rw [jlt]; rw [jlt, jl0] at c; omega)]
theorem bodyM (B : B1 s t) (a : Int32) : f_X12_isBody t a = some (if 0 ≤ a.toInt ∧ a.toInt < (zS s 15 3).toInt then 1 else 0) := by
  have b := B.1.tot
  have e1 : (zS t 59 4 - 1).toInt = (zS s 15 3).toInt - 1 := by rw [← b.1, i32_sub (by rw [jl1]; omega) (by rw [jl1]; omega), jl1]
  unfold f_X12_isBody
  by_cases c : 0 ≤ a.toInt ∧ a.toInt < (zS s 15 3).toInt
  · rw [in_t (by rw [jl0, e1]; omega), b1_some, if_pos c]
  · rw [in_f (by rw [jl0, e1]; omega), b1_some, if_neg c]
set_option maxRecDepth 4000 in
theorem L_down (B : B1 s t) (Q : Q4 s t) (hT : QTub t 7000) (a0 a1 a2 : Int32) : Pc (f_X11_down s a0 a1 a2) fun x => Pc (f_X12_down t a0 a1 a2) fun m => (x.1 = m.1 ∧ Q4 x.2 m.2) ∧ ∀ c, 1699 ≤ c → QTub t c → QTub m.2 (c + 9) := by
  have b := B.1.tot
  have same : ((-1 : Int32) = -1 ∧ Q4 s t) ∧ ∀ c, 1699 ≤ c → QTub t c → QTub t (c + 9) := ⟨⟨rfl, Q⟩, fun c _ h i hi => by have := h i hi; omega⟩
  have sm : ∀ c, 1699 ≤ c → QTub t c → QTub t (c + 9) := same.2
  unfold f_X11_down f_X12_down
  rw [holeOfX B, bodyM B]
  by_cases d : ¬ (0 ≤ a0.toInt ∧ a0.toInt < (zS s 15 3).toInt)
  · unfold hO
    rw [if_neg d, if_neg d]
    exact Pc_b1S (Pc_onN (Pc_some (Pc_b1S (Pc_if00 (Pc_some same)))))
  have d : 0 ≤ a0.toInt ∧ a0.toInt < (zS s 15 3).toInt := Classical.not_not.mp d
  rw [if_pos d]
  have hn : a0.toInt.toNat < 120 := by omega
  have S := B.1.sh
  have hR := B.1.rh a0.toInt.toNat hn
  have hh : hO s a0 = zR s 17 a0.toInt.toNat := if_pos d
  rw [hh]
  cases hp : zR s 17 a0.toInt.toNat with
  | none =>
    have nk : ¬ zI t 62 a0.toInt.toNat = 3 := fun z => hR.mp hp ⟨by omega, Or.inr (Or.inl (by rw [B.1.kd]; exact z))⟩
    exact Pc_b1S (Pc_onN (Pc_some (Pc_b1S (Pc_if10 (Pc_gd (fun _ => Pc_iff nk (Pc_some same)))))))
  | some p =>
  have o := S.2.2.1 _ _ hn hp
  obtain ⟨x0, x1, x2, x3, x4, x5, x6, x7, x8⟩ := Q.1.1 _ _ hn hp
  refine Pc_b1S (Pc_onS ?_)
  rw [kindX B d, B.1.kd]
  refine Pc_b1S (Pc_if (fun k3 => ?_) (fun k3 => Pc_some (Pc_b1S (Pc_if10 (Pc_gd (fun _ => Pc_iff k3 (Pc_some same)))))))
  by_cases h2 : ¬ (1 ≤ a2.toInt ∧ a2.toInt ≤ 9)
  · rw [in_f (a := a2) (by rw [jl1, jl9]; exact h2)]
    rw [thingX]
    refine Pc_b1S (Pc_if (fun _ => Pc_some (Pc_b1S (Pc_if10 (Pc_gd (fun _ => Pc_ift k3 (Pc_b1S (Pc_if00 (Pc_some same)))))))) (fun _ => Pc_lt (fun _ => Pc_some (Pc_b1S (Pc_if10 (Pc_gd (fun _ => Pc_ift k3 (Pc_b1S (Pc_if00 (Pc_some same)))))))) (fun z1 => Pc_lt (fun _ => Pc_some (Pc_b1S (Pc_if10 (Pc_gd (fun _ => Pc_ift k3 (Pc_b1S (Pc_if00 (Pc_some same)))))))) (fun z2 => absurd ⟨by rw [jl1] at z1; exact z1, by rw [jl9] at z2; exact z2⟩ h2))))
  have h2 : 1 ≤ a2.toInt ∧ a2.toInt ≤ 9 := Classical.not_not.mp h2
  rw [in_t (a := a2) (by rw [jl1, jl9]; exact h2)]
  by_cases tg : ¬ (thg a1)
  · rw [thing_f tg]
    refine Pc_b1S (Pc_if00 (Pc_some (Pc_b1S (Pc_if10 (Pc_gd (fun _ => Pc_ift k3 (Pc_b1S (Pc_if10 (thingM (fun z => absurd z tg) (fun _ => same))))))))))
  have tg : thg a1 := Classical.not_not.mp tg
  rw [thing_t tg]
  refine Pc_b1S (Pc_if10 (Pc_lt (fun z => by rw [jl1] at z; omega) (fun _ => Pc_lt (fun z => by rw [jl9] at z; omega) (fun _ => ?_))))
  rw [x6]
  have b62 : zS s 30 5 = zS t 59 62 := Q.2.2.2.2.1.2.2.1
  have r5 : 0 ≤ (zS s 30 5).toInt ∧ (zS s 30 5).toInt ≤ 40 := B.1.fx (q := 30) (k := 5) (by omega)
  have eh : zS s 0 14 = zS t 59 1 := B.2.1.1
  have rh := B.2.1.2.2.2.2
  by_cases th : ¬ (0 < (zI t 69 a0.toInt.toNat).toInt)
  · have z69 : zI t 69 a0.toInt.toNat = 0 := Int32.toInt_inj.1 (by have := (Q.1.2.2.2 _ hn).1; rw [jl0]; omega)
    rw [if_neg th]
    refine Pc_ift rfl (Pc_some (Pc_b1S (Pc_if10 (Pc_gd (fun _ => Pc_ift k3 (Pc_b1S (Pc_if10 (thingM (fun _ => Pc_gd (fun _ => Pc_ift z69 (Pc_some ⟨⟨rfl, Q⟩, sm⟩))) (fun z => absurd tg z)))))))))
  have th : 0 < (zI t 69 a0.toInt.toNat).toInt := Classical.not_not.mp th
  have n69 : ¬ zI t 69 a0.toInt.toNat = 0 := fun z => by rw [z, jl0] at th; omega
  rw [if_pos th]
  refine Pc_iff n10 (Pc_lt (fun f => ?_) (fun f => Pc_some (Pc_b1S (Pc_if10 (Pc_gd (fun _ => Pc_ift k3 (Pc_b1S (Pc_if10 (thingM (fun _ => Pc_gd (fun _ => Pc_iff n69 (Pc_ift (Int32.toInt_inj.1 (by rw [← b62]; rw [jl40] at f ⊢; omega)) (Pc_some ⟨⟨rfl, Q⟩, sm⟩)))) (fun z => absurd tg z))))))))))
  rw [jl40] at f
  rw [maxJ]
  have hcmp : (if zS s 0 14 < zS s p 7 then zS s p 7 else zS s 0 14) = (if zS t 59 1 < zI t 104 a0.toInt.toNat then zI t 104 a0.toInt.toNat else zS t 59 1) := by rw [eh, x7]
  rw [hcmp]
  have hfr : (zS s 0 14).toInt ≤ (if zS t 59 1 < zI t 104 a0.toInt.toNat then zI t 104 a0.toInt.toNat else zS t 59 1).toInt ∧ (if zS t 59 1 < zI t 104 a0.toInt.toNat then zI t 104 a0.toInt.toNat else zS t 59 1).toInt ≤ 7000 ∧ ∀ c, 1699 ≤ c → QTub t c → (if zS t 59 1 < zI t 104 a0.toInt.toNat then zI t 104 a0.toInt.toNat else zS t 59 1).toInt ≤ c := by
    rw [eh] at rh ⊢
    by_cases z : zS t 59 1 < zI t 104 a0.toInt.toNat
    · rw [if_pos z]
      rw [jlt] at z
      exact ⟨by omega, hT _ hn, fun c _ h => h _ hn⟩
    · rw [if_neg z]
      exact ⟨by omega, by omega, fun c h _ => by omega⟩
  have hk : ∀ k14 : Int32 → Option (Int32 × SS), ∀ R, Pc (k14 (if zS t 59 1 < zI t 104 a0.toInt.toNat then zI t 104 a0.toInt.toNat else zS t 59 1)) R → Pc (jn k14 fun k14 => (if (zS t 59 1) < (zI t 104 (a0.toInt.toNat)) then (gd (inB a0 120) (k14 (zI t 104 (a0.toInt.toNat)))) else (k14 (zS t 59 1)))) R := fun k14 R h => by
    refine Pc_jn ?_
    by_cases z : zS t 59 1 < zI t 104 a0.toInt.toNat
    · rw [if_pos z] at h ⊢
      exact Pc_gd (fun _ => h)
    · rw [if_neg z] at h ⊢
      exact h
  generalize (if zS t 59 1 < zI t 104 a0.toInt.toNat then zI t 104 a0.toInt.toNat else zS t 59 1) = fr at hfr hk ⊢
  refine Pc_b1S (Pc_vl (Pc_st (Pc_b1 ?_)))
  have ev : (fr + a2).toInt = fr.toInt + a2.toInt := by rw [i32_add (by omega) (by omega)]
  have sp7 : zS (pS s p 7 (fr + a2)) p 7 = fr + a2 := by rw [zS_pS, if_pos ⟨rfl, rfl⟩]
  have sp5 : zS (pS s p 7 (fr + a2)) 30 5 = zS s 30 5 := by rw [zS_pS, if_neg (by have := o.1; omega)]
  have K := Q.dn (v := fr + a2) (a := a1) S b.2.2 hn hp ⟨r5.1, f⟩ (by omega)
  unfold f_X9_sends
  rw [sp7]
  refine Pc_ift (by rw [sp5, jlt, jl40]; exact f) (Pc_vl (Pc_gd (fun _ => Pc_st (Pc_vl (Pc_gd (fun _ => Pc_st (Pc_vl (Pc_st (Pc_some (Pc_some ?_))))))))))
  have w5 : zS (pI (pS s p 7 (fr + a2)) 32 (zS (pS s p 7 (fr + a2)) 30 5).toInt.toNat a1) 30 5 = zS s 30 5 := by rw [zS_pI]; exact sp5
  have w6 : zS (pI (pI (pS s p 7 (fr + a2)) 32 (zS (pS s p 7 (fr + a2)) 30 5).toInt.toNat a1) 33 (zS s 30 5).toInt.toNat (fr + a2)) 30 5 = zS s 30 5 := by rw [zS_pI, zS_pI]; exact sp5
  rw [w5, w6, sp5]
  refine Pc_b1S (Pc_if10 (Pc_gd (fun _ => Pc_ift k3 (Pc_b1S (Pc_if10 (thingM (fun _ => ?_) (fun z => absurd tg z)))))))
  refine Pc_gd (fun _ => Pc_iff n69 (Pc_iff (fun z => by rw [b62, z, jl40] at f; omega) (Pc_gd (fun _ => hk _ _ ?_))))
  refine Pc_vl (Pc_gd (fun _ => Pc_st (Pc_vl (Pc_gd (fun _ => Pc_st (Pc_vl (Pc_vl (Pc_gd (fun _ => Pc_st (Pc_vl (Pc_st (Pc_some ?_))))))))))))
  refine ⟨⟨?_, ?_⟩, fun c hc h i hi => ?_⟩
  · show zS (pS (pI (pI (pS s p 7 (fr + a2)) 32 (zS s 30 5).toInt.toNat a1) 33 (zS s 30 5).toInt.toNat (fr + a2)) 30 5 (zS s 30 5 + 1)) p 7 = fr + a2
    rw [zS_pS, if_neg (by have := o.1; omega)]
    exact sp7
  · have e62 : zS (pI t 104 a0.toInt.toNat (fr + a2)) 59 62 = zS s 30 5 := by rw [zS_pI]; exact b62.symm
    have e63 : zS (pI (pI t 104 a0.toInt.toNat (fr + a2)) 102 (zS s 30 5).toInt.toNat a1) 59 62 = zS s 30 5 := by rw [zS_pI, zS_pI]; exact b62.symm
    have e64 : zS (pI (pI (pI t 104 a0.toInt.toNat (fr + a2)) 102 (zS s 30 5).toInt.toNat a1) 103 (zS s 30 5).toInt.toNat (fr + a2)) 59 62 = zS s 30 5 := by rw [zS_pI, zS_pI, zS_pI]; exact b62.symm
    rw [e62, e63, e64]
    exact K
  · rw [zI_pS, zI_pI, if_neg (by omega), zI_pI, if_neg (by omega), zI_pI]
    by_cases z : i = a0.toInt.toNat
    · rw [if_pos ⟨rfl, z⟩, ev]
      have := hfr.2.2 c hc h
      omega
    · rw [if_neg (fun w => z w.2)]
      have := h i hi
      omega
end DNs
