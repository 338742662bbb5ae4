/-! ifs by numbers -/
theorem n10 : ¬ (1 : Int32) = 0 := by decide
section PIs
theorem Pc_bdS {α ρ : Type} {Q : ρ → Prop} {x : α} {s : SS} {k : α → SS → Option ρ} (h : Pc (k x s) Q) : Pc (bd (some (x, s)) k) Q := h
theorem Pc_b1S {α ρ : Type} {Q : ρ → Prop} {x : α} {k : α → Option ρ} (h : Pc (k x) Q) : Pc (b1 (some x) k) Q := h
variable {ρ : Type} {Q : ρ → Prop} {A B : Option ρ}
theorem Pc_lt {a b : Int32} {i : Decidable (a < b)} (h1 : a.toInt < b.toInt → Pc A Q) (h2 : b.toInt ≤ a.toInt → Pc B Q) : Pc (@ite _ (a < b) i A B) Q := Pc_if (fun h => h1 (Int32.lt_iff_toInt_lt.mp h)) (fun h => h2 (by rw [jlt] at h; omega))
theorem Pc_if00 {i : Decidable ((0 : Int32) = 0)} (h : Pc A Q) : Pc (@ite _ ((0 : Int32) = 0) i A B) Q := Pc_ift rfl h
theorem Pc_if10 {i : Decidable ((1 : Int32) = 0)} (h : Pc B Q) : Pc (@ite _ ((1 : Int32) = 0) i A B) Q := Pc_iff n10 h
end PIs
/-! SPOONS, BREAKS -/
section SPs
variable {s t : SS}
theorem dSs {k a : Nat} {v : Int32} (h : a < 126) : ∀ q k', 126 ≤ q → zS (pS s a k v) q k' = zS s q k' := fun q k' hq => by rw [zS_pS, if_neg (by omega)]
theorem dIs {i a : Nat} {v : Int32} (h : a < 126) : ∀ q j, 126 ≤ q → zI (pI s a i v) q j = zI s q j := fun q j hq => by rw [zI_pI, if_neg (by omega)]
theorem L_spoons (B : B1 s t) (Q : Q4 s t) (a0 : Int32) : Pc (f_X11_spoons s a0) fun x => Pc (f_X12_spoons t a0) fun m => x.1 = m.1 ∧ Q4 x.2 m.2 := by
  have e : zS s 30 0 = zS t 59 54 := Q.2.2.2.2.1.1
  have key : Q4 (pS s 30 0 a0) (pS t 59 54 a0) := by
    obtain ⟨Q1, Q2, Q3, Q5, Q6, Q7, Q8, Q9, Q10, Q11, Q12, Q13, Q14⟩ := Q
    exact ⟨Q1.c B.1.sh (dSs (by omega)) (fun _ _ _ => rfl) (fun _ => rfl) (fun _ _ _ _ => rfl), Q2, Q3, Q5, ⟨rfl, Q6.2⟩, Q7, Q8.c (fun i hi => by rw [zS_pS, if_neg (by omega)]) (fun _ => rfl), Q9, Q10, Q11.c B.1.sh rfl (dSs (by omega)) (fun _ _ _ => rfl) (fun _ => rfl) (fun _ _ _ _ => rfl), Q12.c B.1.sh rfl (dSs (by omega)) (fun _ _ _ => rfl) (fun _ => rfl) (fun _ _ => rfl) (fun _ _ _ _ => rfl), Q13, Q14⟩
  unfold f_X11_spoons f_X12_spoons f_X12_in
  repeat' (first
    | with_reducible refine Pc_bdS ?_
    | with_reducible refine Pc_b1S ?_
    | with_reducible refine Pc_if00 ?_
    | with_reducible refine Pc_if10 ?_
    | with_reducible refine Pc_lt (fun _ => ?_) (fun _ => ?_)
    | with_reducible refine Pc_if (fun _ => ?_) (fun _ => ?_)
    | with_reducible refine Pc_gd (fun _ => ?_)
    | with_reducible refine Pc_vl ?_
    | with_reducible refine Pc_wl ?_
    | with_reducible refine Pc_st ?_
    | with_reducible refine Pc_jn ?_
    | with_reducible refine Pc_b1 ?_
    | with_reducible refine Pc_bd ?_
    | with_reducible refine Pc_onS ?_
    | with_reducible refine Pc_onN ?_
    | with_reducible refine Pc_on (fun _ => ?_) (fun _ _ => ?_)
    | with_reducible refine Pc_some ?_
    | with_reducible refine Pc_none)
  all_goals first | exact ⟨rfl, Q⟩ | exact ⟨e, key⟩ | (exfalso; (simp only [jlt, jd4, jd10, jd20, jd24, jd60, jd100, jm4, jm10, jm20, jm24, jm60, jm100, Int32.reduceToInt] at *; omega))
theorem L_breaks (B : B1 s t) (Q : Q4 s t) (a0 a1 : Int32) : Pc (f_X11_breaks s a0 a1) fun x => Pc (f_X12_breaks t a0 a1) fun m => x.1 = m.1 ∧ Q4 x.2 m.2 := by
  have key : ∀ n, n < 3 → Q4 (pS s (20 + n) 2 a1) (pI t 80 n a1) := by
    intro n hn
    obtain ⟨Q1, Q2, Q3, Q5, Q6, Q7, Q8, Q9, Q10, Q11, Q12, Q13, Q14⟩ := Q
    have u : ∀ q k, q < 20 ∨ 23 ≤ q → zS (pS s (20 + n) 2 a1) q k = zS s q k := fun q k h => by rw [zS_pS, if_neg (by omega)]
    have d : ∀ q k', 126 ≤ q → zS (pS s (20 + n) 2 a1) q k' = zS s q k' := fun q k' hq => u q k' (by omega)
    refine ⟨Q1.c B.1.sh d (fun _ _ _ => rfl) (fun _ => rfl) (fun q j h1 h2 => by rw [zI_pI, if_neg (by omega)]), Q2.c (fun _ => rfl) (fun _ => rfl) (fun _ => rfl) (fun _ => rfl) (u 15 3 (by omega)) (u 6 4 (by omega)) (fun _ => rfl) (fun _ => rfl) (fun _ => rfl), Q3.c (fun k _ => u 0 k (by omega)) (u 15 4 (by omega)) (fun _ => rfl) (fun _ => rfl) (fun _ => rfl), Q5.c (u 0 18 (by omega)) (u 0 14 (by omega)) (fun _ => rfl), Q6.c (fun k => u 30 k (by omega)) (u 0 14 (by omega)) (fun _ _ _ _ => rfl) (fun _ _ => rfl) (fun q j h1 h2 => by rw [zI_pI, if_neg (by omega)]), Q7.c (fun k _ _ => u 15 k (by omega)) (fun _ _ _ => rfl), fun i hi => ?_, Q9.c (fun k _ _ => u 6 k (by omega)) (fun _ => rfl) (fun _ _ => rfl) (fun _ => rfl) (fun _ => rfl), Q10.c (by rw [u 15 3 (by omega)]; exact Int.le_refl _) (fun _ _ h => h) B.1.tot.2.2 (fun _ => rfl), Q11.c B.1.sh (u 0 5 (by omega)) d (fun _ _ _ => rfl) (fun _ => rfl) (fun q j h1 h2 => by rw [zI_pI, if_neg (by omega)]), Q12.c B.1.sh (u 0 8 (by omega)) d (fun _ _ _ => rfl) (fun _ => rfl) (fun _ _ => rfl) (fun q j h1 h2 => by rw [zI_pI, if_neg (by omega)]), Q13.c (fun q i h => by rw [zI_pI, if_neg (by omega)]) (fun _ => rfl), Q14.c (u 0 14 (by omega)) (fun _ => rfl)⟩
    rw [zS_pS, zI_pI]
    by_cases c : i = n
    · rw [if_pos ⟨by omega, rfl⟩, if_pos ⟨rfl, c⟩]
    · rw [if_neg (by omega), if_neg (by omega)]; exact Q8 i hi
  have eh : zS s 0 14 = zS t 59 1 := B.2.1.1
  have er : ∀ i, i < 3 → zR s 19 i = some (20 + i) := B.1.sh.2.2.2.1
  unfold f_X11_breaks f_X12_breaks f_X12_isMachine f_X12_in f_X11_machineOf
  by_cases c : 0 ≤ a0.toInt ∧ a0.toInt < 3
  · rw [er _ (by omega)]
    have := key a0.toInt.toNat (by omega)
    rw [← eh]
    repeat' (first
      | with_reducible refine Pc_bdS ?_
      | with_reducible refine Pc_b1S ?_
      | with_reducible refine Pc_if00 ?_
      | with_reducible refine Pc_if10 ?_
      | with_reducible refine Pc_lt (fun _ => ?_) (fun _ => ?_)
      | with_reducible refine Pc_if (fun _ => ?_) (fun _ => ?_)
      | with_reducible refine Pc_gd (fun _ => ?_)
      | with_reducible refine Pc_vl ?_
      | with_reducible refine Pc_wl ?_
      | with_reducible refine Pc_st ?_
      | with_reducible refine Pc_jn ?_
      | with_reducible refine Pc_b1 ?_
      | with_reducible refine Pc_bd ?_
      | with_reducible refine Pc_onS ?_
      | with_reducible refine Pc_onN ?_
      | with_reducible refine Pc_on (fun _ => ?_) (fun _ _ => ?_)
      | with_reducible refine Pc_some ?_
      | with_reducible refine Pc_none)
    all_goals first | exact ⟨rfl, Q⟩ | exact ⟨rfl, this⟩ | (exfalso; (simp only [jlt, jd4, jd10, jd20, jd24, jd60, jd100, jm4, jm10, jm20, jm24, jm60, jm100, Int32.reduceToInt] at *; omega))
  · skip
    repeat' (first
      | with_reducible refine Pc_bdS ?_
      | with_reducible refine Pc_b1S ?_
      | with_reducible refine Pc_if00 ?_
      | with_reducible refine Pc_if10 ?_
      | with_reducible refine Pc_lt (fun _ => ?_) (fun _ => ?_)
      | with_reducible refine Pc_if (fun _ => ?_) (fun _ => ?_)
      | with_reducible refine Pc_gd (fun _ => ?_)
      | with_reducible refine Pc_vl ?_
      | with_reducible refine Pc_wl ?_
      | with_reducible refine Pc_st ?_
      | with_reducible refine Pc_jn ?_
      | with_reducible refine Pc_b1 ?_
      | with_reducible refine Pc_bd ?_
      | with_reducible refine Pc_onS ?_
      | with_reducible refine Pc_onN ?_
      | with_reducible refine Pc_on (fun _ => ?_) (fun _ _ => ?_)
      | with_reducible refine Pc_some ?_
      | with_reducible refine Pc_none)
    all_goals first | exact ⟨rfl, Q⟩ | (exfalso; (simp only [jlt, jd4, jd10, jd20, jd24, jd60, jd100, jm4, jm10, jm20, jm24, jm60, jm100, Int32.reduceToInt] at *; omega))
end SPs
