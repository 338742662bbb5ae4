/-! THE HOUR'S SECOND PART: arrivals -/
section ARs
variable {s s' t t' : SS}
theorem B1.fi {WS WS' : List (Nat × Nat)} {WI WJ WI' WJ' : List Nat} (B : B1 s t) (I : Iv s') (F : Frm WS WI WJ s s') (G : Frm WS' WI' WJ' t t') (h1 : WS.all (fun p => !bS p.1 p.2) = true) (h2 : WI.all (fun q => !bI q) = true) (h3 : WS'.all (fun p => !bS p.1 p.2) = true) (h4 : WI'.all (fun q => !bI q) = true) : B1 s' t' := by
  obtain ⟨⟨⟨a1, a2, a3, a4, a5⟩, b, c, d, e, f, g, k⟩, ⟨t1, t2, t3, t4, t5⟩, kx, cx⟩ := B
  have l : ∀ q k, bS q k = true → zS s' q k = zS s q k := fun q k e => F.1 q k (nct h1 (by show (!bS q k) = false; rw [e]; rfl))
  have li : ∀ q j, bI q = true → zI s' q j = zI s q j := fun q j e => F.2.1 q j (nct h2 (by show (!bI q) = false; rw [e]; rfl))
  have m : ∀ q k, bS q k = true → zS t' q k = zS t q k := fun q k e => G.1 q k (nct h3 (by show (!bS q k) = false; rw [e]; rfl))
  have mi : ∀ q j, bI q = true → zI t' q j = zI t q j := fun q j e => G.2.1 q j (nct h4 (by show (!bI q) = false; rw [e]; rfl))
  have R : ∀ i, zR s' 17 i = zR s 17 i := fun i => by unfold zR; rw [F.2.2.2]
  have mm : ∀ i, i < 3 → bS (20 + i) 0 = true ∧ bS (20 + i) 1 = true := fun i hi => by
    have : i = 0 ∨ i = 1 ∨ i = 2 := by omega
    rcases this with w | w | w <;> subst w <;> exact ⟨rfl, rfl⟩
  refine ⟨⟨⟨?_, ?_, ?_, ?_, ?_⟩, fun i => ?_, fun i => ?_, fun i hi => ?_, fun i hi => ?_, I.1.1, fun q k h => I.1.2.1 q k (by omega), I.1.2.2.2.1⟩, ⟨?_, ?_, fun i => ?_, fun i => ?_, ?_⟩, fun x y h1 h2 h3 => ?_, fun i => ?_⟩
  · rw [l 15 3 rfl, m 59 4 rfl]; exact a1
  · rw [l 15 5 rfl, m 59 21 rfl]; exact a2
  · rw [l 0 5 rfl, m 59 30 rfl]; exact a3
  · rw [l 0 8 rfl, m 59 38 rfl]; exact a4
  · rw [l 0 15 rfl, m 59 29 rfl]; exact a5
  · rw [li 16 i rfl, mi 62 i rfl]; exact b i
  · rw [li 9 i rfl, mi 76 i rfl]; exact c i
  · rw [l (20 + i) 0 (mm i hi).1, l (20 + i) 1 (mm i hi).2, mi 78 i rfl, mi 79 i rfl]; exact d i hi
  · rw [R, l 15 3 rfl, li 16 i rfl]; exact e i hi
  · rw [l 0 14 rfl, m 59 1 rfl]; exact t1
  · rw [l 1 4 rfl, m 59 56 rfl]; exact t2
  · rw [li 4 i rfl, mi 97 i rfl]; exact t3 i
  · rw [li 5 i rfl, mi 98 i rfl]; exact t4 i
  · rw [l 0 14 rfl]; exact t5
  · rw [li 2 _ rfl, li 3 _ rfl, mi 60 _ rfl, mi 61 _ rfl]; exact kx x y h1 h2 h3
  · rw [mi 97 i rfl]; exact cx i
theorem ar_p {h : Int} (hh : h = (zS s 0 14).toInt) (Q : Q4k (h - 1) h s t) (B : B1 s t) : Pc (f_X9_arrivals s (zS s 0 14)) (fun r => Iv r → Pc (f_X12_comeDown t) (fun u => Q4h h r u ∧ B1 r u ∧ Frm [(30, 0), (30, 5)] [31, 32, 33] [] s r ∧ Frm [(59, 54), (59, 62)] [102, 103, 105] [] t u)) := by
  have h40 : 0 ≤ (zS s 30 5).toInt ∧ (zS s 30 5).toInt ≤ 40 := B.1.fx (q := 30) (k := 5) (by omega)
  refine Pc.mono (arr_p (y := zS s 0 14) (by rw [← hh]; exact Q.2.2.2.2.1) B.2.1.1.symm h40) (fun r hr I => Pc.mono hr (fun u hu => ?_))
  obtain ⟨T, F, G⟩ := hu
  rw [← hh] at T
  have S := B.1.sh
  obtain ⟨q1, q2, q3, q4, _, q6, q7, q8, q9, q10, q11, q12, q13⟩ := Q
  have fS : ∀ q k, q ≠ 30 → zS r q k = zS s q k := fun q k w => F.1 q k (by simp [w])
  have fI : ∀ q j, ¬ (31 ≤ q ∧ q ≤ 33) → zI r q j = zI s q j := fun q j w => F.2.1 q j (by
    have w1 : q ≠ 31 := by omega
    have w2 : q ≠ 32 := by omega
    have w3 : q ≠ 33 := by omega
    simp [w1, w2, w3])
  have fR : ∀ a i, zR r a i = zR s a i := fun a i => by unfold zR; rw [F.2.2.2]
  have fN : ∀ q, 126 ≤ q → zN r q = zN s q := fun q _ => by unfold zN; rw [F.2.2.2]
  have gS : ∀ k, k ≠ 54 → k ≠ 62 → zS u 59 k = zS t 59 k := fun k w1 w2 => G.1 59 k (by simp [w1, w2])
  have gI : ∀ q j, ¬ (102 ≤ q ∧ q ≤ 103) → q ≠ 105 → zI u q j = zI t q j := fun q j w w3 => G.2.1 q j (by
    have w1 : q ≠ 102 := by omega
    have w2 : q ≠ 103 := by omega
    simp [w1, w2, w3])
  refine ⟨⟨q1.c S (fun q k w => fS q k (by omega)) (fun q j w => fI q j (by omega)) (fun i => fR 17 i) (fun q j w1 w2 => gI q j (by omega) (by omega)), q2.c (fun i => fI 7 i (by omega)) (fun i => fI 8 i (by omega)) (fun i => fI 10 i (by omega)) (fun i => fI 16 i (by omega)) (fS 15 3 (by omega)) (fS 6 4 (by omega)) (fun i => gI 74 i (by omega) (by omega)) (fun i => gI 75 i (by omega) (by omega)) (fun i => gI 77 i (by omega) (by omega)), q3.c (fun k _ => fS 0 k (by omega)) (fS 15 4 (by omega)) (fun i => fR 17 i) (fun i => gI 67 i (by omega) (by omega)) (fun i => gI 69 i (by omega) (by omega)), q4.c (fS 0 18 (by omega)) (fS 0 14 (by omega)) (fun i => gI 69 i (by omega) (by omega)), T, q6.c (fun k _ _ => fS 15 k (by omega)) (fun k w1 w2 => gS k (by omega) (by omega)), q7.c (fun i hi => fS (20 + i) 2 (by omega)) (fun i => gI 80 i (by omega) (by omega)), q8.c (fun k _ _ => fS 6 k (by omega)) (fun i => fI 13 i (by omega)) (fun k w => gS k (by omega) (by omega)) (fun i => gI 116 i (by omega) (by omega)) (fun i => gI 118 i (by omega) (by omega)), q9.c (by rw [fS 15 3 (by omega)]; exact Int.le_refl _) (fun i _ w => by rw [fR]; exact w) B.1.tot.2.2 (fun i => gI 79 i (by omega) (by omega)), q10.c S (fS 0 5 (by omega)) (fun q k w => fS q k (by omega)) (fun q j w => fI q j (by omega)) (fun i => fR 23 i) (fun q j w1 w2 => gI q j (by omega) (by omega)), q11.c S (fS 0 8 (by omega)) (fun q k w => fS q k (by omega)) (fun q j w => fI q j (by omega)) (fun i => fR 27 i) fN (fun q j w1 w2 => gI q j (by omega) (by omega)), q12.c (fun q i w => gI q i (by omega) (by omega)) (fun i => G.2.2.1 122 i rfl), fun i hi => by rw [gI 68 i (by omega) (by omega)]; exact q13 i hi⟩, B.fi I F G (by decide) (by decide) (by decide) (by decide), F, G⟩
/-- the hour's third part: a day's meal -/
theorem ea_p {h : Int} (It : Iv t) (Q : Q4h h s t) (B : B1 s t) : Pc (f_X11_menEat s) (fun r => Pc (f_X12_eat t) (fun u => ER h s t r u)) := by
  unfold f_X11_menEat f_X12_eat
  refine Pc_b1 (fun r1 e1 => ?_)
  obtain ⟨r', ef, -⟩ := w_X12_forceOf (a0 := 10) (a1 := zS s 0 14) (a2 := zS s 0 14) (Lk.rf It)
  obtain ⟨g1, g2⟩ := frc_p (w := 10) (side := 1) (use := 0) (h := zS s 0 14) (k := zS s 0 14) B Q.w (by decide) (by decide) (by decide) r1 e1 r' ef
  exact eat_l g2 (fun r'' er => by rw [← B.2.1.1, ef] at er; exact (Option.some.inj er).symm.trans g1) 4000 4000 s t 0 (by decide) ⟨Q, B, Frm.rf, Frm.rf⟩
end ARs
