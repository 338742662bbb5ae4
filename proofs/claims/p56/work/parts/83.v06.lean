/-! THE HOUR'S FIRST PART: the text in force, drilling -/
section DLs
variable {s s' t t' : SS}
/-- the relation with the things' hours above h, the minutes up to k hours -/
def Q4k (h k : Int) (s t : SS) : Prop := QHol s t ∧ QMen s t ∧ QCnt s t ∧ QFst s t ∧ QStoH h s t ∧ QRef s t ∧ QBrk s t ∧ QLif s t ∧ QSet s t ∧ QCha s t ∧ QTxt s t ∧ QRow t ∧ QKep k t
theorem Q4h.ci {h : Int} (Q : Q4h h s t) (B : B1 s t) : CI s := by
  obtain ⟨H, _, C, _⟩ := Q
  refine ⟨B.1.sh, B.1.tot.2.2, H.2.2.1, fun i p hi hp => ?_, C.1.trans (ySum_c fun i hi => ?_), C.2.1.trans (ySum_c fun i hi => ?_)⟩
  · have o := B.1.sh.2.2.1 i p hi hp
    refine ⟨B.1.h4 o, (B.1.h3 o).2, ?_⟩
    rw [(H.1 i p hi hp).2.2.2.2.2.2.1]
    by_cases z : 0 < (zI t 69 i).toInt
    · rw [if_pos z]; exact Or.inr rfl
    · rw [if_neg z]; exact Or.inl rfl
  · cases e : zR s 17 i with
    | none =>
      have := (H.2.1 i hi e).2.1
      unfold cb
      rw [e, this]
      rfl
    | some p => rw [cb_t e, (H.1 i p hi e).2.2.2.2.1]
  · cases e : zR s 17 i with
    | none =>
      have := (H.2.1 i hi e).2.2.2.1
      unfold ct
      rw [e, this]
      rfl
    | some p =>
      rw [ct_t e, (H.1 i p hi e).2.2.2.2.2.2.1]
      by_cases z : 0 < (zI t 69 i).toInt
      · rw [if_pos z, if_pos z]; rfl
      · rw [if_neg z, if_neg z]; rfl
theorem dSm.rf : dSm s s := ⟨fun _ _ _ _ => rfl, fun _ _ _ _ => rfl⟩
theorem cL.T (h : cL s s') (a : Nat) : zT s' a = zT s a := by unfold zT; rw [h.2.2]
theorem dSm.tr {r : SS} (L : cL s s') (h : dSm s s') (g : dSm s' r) : dSm s r := ⟨fun q k a b => (g.1 q k a (by rw [L.T]; exact b)).trans (h.1 q k a b), fun q j a b => (g.2 q j a (by rw [L.T]; exact b)).trans (h.2 q j a b)⟩
theorem mSt.d {m : Nat} (C : CI s) (h : mSt m s s') : dSm s s' := by
  obtain ⟨_, d⟩ := h.ci C
  rcases d with ⟨_, e⟩ | ⟨p, ha, M⟩
  · rw [e]; exact dSm.rf
  · exact M.1.d (act_o C ha)
theorem mw_d (C : CI s) : Pc (f_X11_machinesWork s) (fun s3 => dSm s s3) := by
  refine Pc.mono (mw_p C) (fun s3 h => ?_)
  obtain ⟨s1, s2, h0, h1, h2⟩ := h
  obtain ⟨C1, L1, _⟩ := h0.o C
  obtain ⟨C2, L2, _⟩ := h1.o C1
  exact dSm.tr (L1.tr L2) (dSm.tr L1 (h0.d C) (h1.d C1)) (h2.d C2)
/-- the others, behind a drilling hour -/
theorem Q4k.dr {h k k' : Int} (Q : Q4k h k s t) (S : Sh s) (b : (zS s 15 3).toInt ≤ 120) (L : cL s s') (d : dSm s s') (F : Frm [] [65, 67, 68, 69, 71, 95, 96, 99, 100] [] t t') (q1 : QHol s' t') (q2 : QCnt s' t') (q3 : QFst s' t') (q4 : QKep k' t') : Q4k h k' s' t' := by
  obtain ⟨_, M, _, _, T, R, K, Li, Se, Ch, Tx, Ro, _⟩ := Q
  have m : ∀ k, zS t' 59 k = zS t 59 k := fun k => F.1 59 k rfl
  have hN : ∀ q, 126 ≤ q → zN s' q = zN s q := fun q _ => by unfold zN; rw [L.2.2]
  refine ⟨q1, M.c (fun i => L.2.1 7 i (by omega)) (fun i => L.2.1 8 i (by omega)) (fun i => L.2.1 10 i (by omega)) (fun i => L.2.1 16 i (by omega)) (L.1 15 3 (by omega) (by omega)) (L.1 6 4 (by omega) (by omega)) (fun i => F.2.1 74 i rfl) (fun i => F.2.1 75 i rfl) (fun i => F.2.1 77 i rfl), q2, q3, T.d (fun k => L.1 30 k (by omega) (by omega)) (fun q i h1 h2 => L.2.1 q i (by omega)) (fun k _ => m k) (fun q i h1 h2 => F.2.1 q i ?_), R.c (fun k h1 h2 => L.1 15 k (by omega) (by omega)) (fun k _ _ => m k), K.c (fun i hi => L.1 (20 + i) 2 (by omega) (by omega)) (fun i => F.2.1 80 i rfl), Li.c (fun k h1 h2 => L.1 6 k (by omega) (by omega)) (fun i => L.2.1 13 i (by omega)) (fun k _ => m k) (fun i => F.2.1 116 i rfl) (fun i => F.2.1 118 i rfl), Se.c (by rw [L.1 15 3 (by omega) (by omega)]; exact Int.le_refl _) (fun i _ h => by rw [L.R]; exact h) b (fun i => F.2.1 79 i rfl), Ch.d S (L.1 0 5 (by omega) (by omega)) d (fun i => L.R 23 i) (fun q j h1 h2 => F.2.1 q j ?_), Tx.d S (L.1 0 8 (by omega) (by omega)) d (fun i => L.R 27 i) hN (fun q j h1 h2 => F.2.1 q j ?_), Ro.c (fun q i h => F.2.1 q i ?_) (fun i => F.2.2.1 122 i rfl), q4⟩
  · have : q = 102 ∨ q = 103 ∨ q = 105 := by omega
    rcases this with w | w | w <;> subst w <;> rfl
  · have : q = 81 ∨ q = 82 ∨ q = 83 ∨ q = 84 ∨ q = 85 := by omega
    rcases this with w | w | w | w | w <;> subst w <;> rfl
  · have : q = 87 ∨ q = 88 ∨ q = 89 ∨ q = 90 ∨ q = 91 ∨ q = 92 ∨ q = 93 ∨ q = 94 := by omega
    rcases this with w | w | w | w | w | w | w | w <;> subst w <;> rfl
  · rcases h with w | w <;> subst w <;> rfl
theorem B1.dr (B : B1 s t) (I : Iv s') (L : cL s s') (F : Frm [] [65, 67, 68, 69, 71, 95, 96, 99, 100] [] t t') : B1 s' t' := by
  obtain ⟨⟨⟨a1, a2, a3, a4, a5⟩, b, c, d, e, f, g, k⟩, ⟨t1, t2, t3, t4, t5⟩, kx, cx⟩ := B
  have m : ∀ k, zS t' 59 k = zS t 59 k := fun k => F.1 59 k rfl
  have l : ∀ q k, q < 126 → ¬ (q = 0 ∧ 16 ≤ k ∧ k ≤ 18) → zS s' q k = zS s q k := L.1
  refine ⟨⟨⟨?_, ?_, ?_, ?_, ?_⟩, fun i => ?_, fun i => ?_, fun i hi => ?_, fun i hi => ?_, I.1.1, fun q k h => I.1.2.1 q k (by omega), I.1.2.2.2.1⟩, ⟨?_, ?_, fun i => ?_, fun i => ?_, ?_⟩, fun x y h1 h2 h3 => ?_, fun i => ?_⟩
  · rw [l 15 3 (by omega) (by omega), m]; exact a1
  · rw [l 15 5 (by omega) (by omega), m]; exact a2
  · rw [l 0 5 (by omega) (by omega), m]; exact a3
  · rw [l 0 8 (by omega) (by omega), m]; exact a4
  · rw [l 0 15 (by omega) (by omega), m]; exact a5
  · rw [L.2.1 16 i (by omega), F.2.1 62 i rfl]; exact b i
  · rw [L.2.1 9 i (by omega), F.2.1 76 i rfl]; exact c i
  · rw [l (20 + i) 0 (by omega) (by omega), l (20 + i) 1 (by omega) (by omega), F.2.1 78 i rfl, F.2.1 79 i rfl]; exact d i hi
  · rw [L.R, l 15 3 (by omega) (by omega), L.2.1 16 i (by omega)]; exact e i hi
  · rw [l 0 14 (by omega) (by omega), m]; exact t1
  · rw [l 1 4 (by omega) (by omega), m]; exact t2
  · rw [L.2.1 4 i (by omega), F.2.1 97 i rfl]; exact t3 i
  · rw [L.2.1 5 i (by omega), F.2.1 98 i rfl]; exact t4 i
  · rw [l 0 14 (by omega) (by omega)]; exact t5
  · rw [L.2.1 2 _ (by omega), L.2.1 3 _ (by omega), F.2.1 60 _ rfl, F.2.1 61 _ rfl]; exact kx x y h1 h2 h3
  · rw [F.2.1 97 i rfl]; exact cx i
end DLs
/-! THE HOUR'S FIRST PART, both sides -/
section DPs
variable {s s' t : SS}
/-- what stands behind the hour's first part -/
def HQ (s t s' t' : SS) : Prop := Q4k ((zS s 0 14).toInt - 1) (zS s 0 14).toInt s' t' ∧ B1 s' t' ∧ zS s' 0 14 = zS s 0 14 ∧ (∀ j, zI s' 2 j = zI s 2 j) ∧ ∀ j, zI t' 78 j = zI t 78 j
theorem dl_p {r3 x1 : Int32} {s4 : SS} (I' : Iv s') (B : B1 s t) (Q : Q4h ((zS s 0 14).toInt - 1) s t) (hp : ∀ m, m < 3 → 0 ≤ (zI t 78 m).toInt ∧ (zI t 78 m).toInt ≤ 60) (hd : ∀ j, 0 ≤ (zI s 2 j).toInt ∧ (zI s 2 j).toInt ≤ 9) (e3 : f_X11_latestText s 0 2 (zS s 0 14) (zS s 0 14) = some r3) (e4 : f_X11_given s r3 2 (-1) = some (x1, s4)) (e5 : (x1 = 0 ∧ f_X11_machinesWork s4 = some s') ∨ (¬ x1 = 0 ∧ s' = s4)) : Pc (f_X12_drill t) (fun t' => HQ s t s' t') := by
  have S := B.1.sh
  have b := B.1.tot
  have e14 : zS s 0 14 = zS t 59 1 := B.2.1.1
  have fx : Frm [] [28, 29] [] s s4 := v_X11_given (WS := []) (WI := [28, 29]) (WJ := []) (b := s) (s0 := s) (a0 := r3) (a1 := 2) (a2 := -1) S (by decide) (by decide) Frm.rf (x1, s4) e4
  unfold f_X12_drill
  refine dr2_l (by rw [← b.1]; exact b.2) (fun t5 F5 z5 => Pc_bd ?_) 4000 t 0 (by rw [jl0]; omega) (by rw [jl0, ← b.1]; exact b.2.1) Frm.rf (fun i hi => by rw [jl0] at hi; omega)
  have B5 : B1 s t5 := B.f (Frm.rf : Frm [] [] [] s s) F5 (by decide) (by decide) (by decide) (by decide) (fun q k v hc => by cases hc)
  have Q5 : Q4h ((zS s 0 14).toInt - 1) s t5 := Q.f S b.2.2 (Frm.rf : Frm [] [] [] s s) F5 (by decide) (by decide) (by decide) (by decide) (by decide)
  have h5 : zS t5 59 1 = zS s 0 14 := (F5.1 59 1 rfl).trans e14.symm
  cases ef : f_X12_forceOf t5 2 (zS s 0 14) (zS s 0 14) with
  | none =>
    unfold f_X12_saysNow
    exact Pc_b1 (fun r' er => by rw [h5, ef] at er; cases er)
  | some r' =>
    obtain ⟨g1, g2⟩ := frc_p (w := 2) (side := 0) (use := 2) (h := zS s 0 14) (k := zS s 0 14) B5 Q5.w (by decide) (by decide) (by decide) r3 e3 r' ef
    have gv := gv_p (w := 2) (use := 2) (man := -1) (wo := 0) (r := r3) B5 Q5.w (by decide) (Or.inl (by decide)) g2 (fun r'' er => by rw [h5, ef] at er; exact (Option.some.inj er).symm.trans g1) (x1, s4) e4
    have mx := v_X12_saysNow (WS := []) (WI := [95, 96]) (WJ := []) (b := t5) (s0 := t5) (a0 := 2) (a1 := -1) (a2 := 0) (by decide) (by decide) Frm.rf
    refine Pc.mono (gv.and mx) (fun m6 h6 => ?_)
    obtain ⟨e6, f6⟩ := h6
    have e6' : m6.1 = x1 := e6
    generalize m6.2 = t6 at f6 ⊢
    rw [e6']
    have Q6 : Q4h ((zS s 0 14).toInt - 1) s4 t6 := Q5.f S b.2.2 fx f6 (by decide) (by decide) (by decide) (by decide) (by decide)
    have B6 : B1 s4 t6 := B5.f fx f6 (by decide) (by decide) (by decide) (by decide) (fun q k v hc => by cases hc)
    have E14 : zS s4 0 14 = zS s 0 14 := fx.1 0 14 rfl
    have k6 : zS t6 59 1 = zS s 0 14 := (f6.1 59 1 rfl).trans h5
    have k78 : ∀ j, zI t6 78 j = zI t 78 j := fun j => (f6.2.1 78 j rfl).trans (F5.2.1 78 j rfl)
    have k4 : zS t6 59 4 = zS t 59 4 := (f6.1 59 4 rfl).trans (F5.1 59 4 rfl)
    have Qk : Q4k ((zS s 0 14).toInt - 1) ((zS s 0 14).toInt - 1) s4 t6 := Q6
    rcases e5 with ⟨z, e5⟩ | ⟨z, e5⟩
    · refine Pc_ift z ?_
      have C6 := Q6.ci B6
      have dd := mw_d C6 s' e5
      have A6 : MA s4 t6 := fun m hm => ⟨(B6.1.2.2.2.1 m hm).1, (B6.1.2.2.2.1 m hm).2, Q6.2.2.2.2.2.2.1 m hm⟩
      have E6 : BE s4 t6 := ⟨B6.2.2.1, B6.2.1.1, B6.2.1.2.2.2.2, B6.1.1.2.1, Q6.2.2.2.2.2.1.1, Q6.2.2.2.2.2.1.2.1, Q6.2.2.2.2.2.1.2.2.1⟩
      have K6 : QKep ((zS t6 59 1).toInt - 1) t6 := by rw [k6]; exact Q6.2.2.2.2.2.2.2.2.2.2.2.2
      have de := dr_e C6 A6 E6 Q6.1 Q6.2.2.1 Q6.2.2.2.1 Q6.2.2.2.2.2.2.2.2.1 K6 (fun m hm => by rw [k78]; exact hp m hm) (fun j => by rw [fx.2.1 2 j rfl]; exact hd j) B6.1.1.1 B6.1.tot.2.1 (fun i hi => by rw [f6.2.1 99 i rfl]; exact z5 i (by rw [← k4]; exact hi)) s' e5
      have vf : Pc (f_X12_drill_L36 (fun (s33 : SS) => (f_X12_drill_L119 4000 s33 0)) 4000 t6 0) (fun r => Frm [] [65, 67, 68, 69, 71, 95, 96, 99, 100] [] t6 r) := v_X12_drill_L36 (WS := []) (WI := [65, 67, 68, 69, 71, 95, 96, 99, 100]) (WJ := []) (b := t6) rfl rfl rfl (fun z0 F3 => v_X12_drill_L119 rfl rfl rfl rfl rfl (fun _ h => h) _ _ _ F3) 4000 t6 0 Frm.rf
      refine Pc.mono (de.and vf) (fun t' h => ?_)
      obtain ⟨⟨d1, d2, d3, d4, L, _, _, _⟩, Ft⟩ := h
      rw [k6] at d4
      exact ⟨Qk.dr B6.1.sh B6.1.tot.2.2 L dd Ft d1 d2 d3 d4, B6.dr I' L Ft, (L.1 0 14 (by omega) (by omega)).trans E14, fun j => (L.2.1 2 j (by omega)).trans (fx.2.1 2 j rfl), fun j => (Ft.2.1 78 j rfl).trans (k78 j)⟩
    · refine Pc_iff z (Pc_some ?_)
      rw [e5]
      obtain ⟨a1, a2, a3, a4, a5, a6, a7, a8, a9, a10, a11, a12, a13⟩ := Qk
      exact ⟨⟨a1, a2, a3, a4, a5, a6, a7, a8, a9, a10, a11, a12, fun i hi => ⟨(a13 i hi).1, by have := (a13 i hi).2; omega⟩⟩, B6, E14, fun j => fx.2.1 2 j rfl, k78⟩
end DPs
/-! THE HOUR'S SECOND PART: arrivals -/
section ARs
variable {s s' t t' : SS}
theorem B1.fi {WS WS' : List (Nat × Nat)} {WI WJ WI' WJ' : List Nat} (B : B1 s t) (I : Iv s') (F : Frm WS WI WJ s s') (G : Frm WS' WI' WJ' t t') (h1 : WS.all (fun p => !bS p.1 p.2) = true) (h2 : WI.all (fun q => !bI q) = true) (h3 : WS'.all (fun p => !bS p.1 p.2) = true) (h4 : WI'.all (fun q => !bI q) = true) : B1 s' t' := by
  obtain ⟨⟨⟨a1, a2, a3, a4, a5⟩, b, c, d, e, f, g, k⟩, ⟨t1, t2, t3, t4, t5⟩, kx, cx⟩ := B
  have l : ∀ q k, bS q k = true → zS s' q k = zS s q k := fun q k e => F.1 q k (nct h1 (by show (!bS q k) = false; rw [e]; rfl))
  have li : ∀ q j, bI q = true → zI s' q j = zI s q j := fun q j e => F.2.1 q j (nct h2 (by show (!bI q) = false; rw [e]; rfl))
  have m : ∀ q k, bS q k = true → zS t' q k = zS t q k := fun q k e => G.1 q k (nct h3 (by show (!bS q k) = false; rw [e]; rfl))
  have mi : ∀ q j, bI q = true → zI t' q j = zI t q j := fun q j e => G.2.1 q j (nct h4 (by show (!bI q) = false; rw [e]; rfl))
  have R : ∀ i, zR s' 17 i = zR s 17 i := fun i => by unfold zR; rw [F.2.2.2]
  have mm : ∀ i, i < 3 → bS (20 + i) 0 = true ∧ bS (20 + i) 1 = true := fun i hi => by
    have : i = 0 ∨ i = 1 ∨ i = 2 := by omega
    rcases this with w | w | w <;> subst w <;> exact ⟨rfl, rfl⟩
  refine ⟨⟨⟨?_, ?_, ?_, ?_, ?_⟩, fun i => ?_, fun i => ?_, fun i hi => ?_, fun i hi => ?_, I.1.1, fun q k h => I.1.2.1 q k (by omega), I.1.2.2.2.1⟩, ⟨?_, ?_, fun i => ?_, fun i => ?_, ?_⟩, fun x y h1 h2 h3 => ?_, fun i => ?_⟩
  · rw [l 15 3 rfl, m 59 4 rfl]; exact a1
  · rw [l 15 5 rfl, m 59 21 rfl]; exact a2
  · rw [l 0 5 rfl, m 59 30 rfl]; exact a3
  · rw [l 0 8 rfl, m 59 38 rfl]; exact a4
  · rw [l 0 15 rfl, m 59 29 rfl]; exact a5
  · rw [li 16 i rfl, mi 62 i rfl]; exact b i
  · rw [li 9 i rfl, mi 76 i rfl]; exact c i
  · rw [l (20 + i) 0 (mm i hi).1, l (20 + i) 1 (mm i hi).2, mi 78 i rfl, mi 79 i rfl]; exact d i hi
  · rw [R, l 15 3 rfl, li 16 i rfl]; exact e i hi
  · rw [l 0 14 rfl, m 59 1 rfl]; exact t1
  · rw [l 1 4 rfl, m 59 56 rfl]; exact t2
  · rw [li 4 i rfl, mi 97 i rfl]; exact t3 i
  · rw [li 5 i rfl, mi 98 i rfl]; exact t4 i
  · rw [l 0 14 rfl]; exact t5
  · rw [li 2 _ rfl, li 3 _ rfl, mi 60 _ rfl, mi 61 _ rfl]; exact kx x y h1 h2 h3
  · rw [mi 97 i rfl]; exact cx i
theorem ar_p {h : Int} (hh : h = (zS s 0 14).toInt) (Q : Q4k (h - 1) h s t) (B : B1 s t) : Pc (f_X9_arrivals s (zS s 0 14)) (fun r => Iv r → Pc (f_X12_comeDown t) (fun u => Q4h h r u ∧ B1 r u ∧ Frm [(30, 0), (30, 5)] [31, 32, 33] [] s r ∧ Frm [(59, 54), (59, 62)] [102, 103, 105] [] t u)) := by
  have h40 : 0 ≤ (zS s 30 5).toInt ∧ (zS s 30 5).toInt ≤ 40 := B.1.fx (q := 30) (k := 5) (by omega)
  refine Pc.mono (arr_p (y := zS s 0 14) (by rw [← hh]; exact Q.2.2.2.2.1) B.2.1.1.symm h40) (fun r hr I => Pc.mono hr (fun u hu => ?_))
  obtain ⟨T, F, G⟩ := hu
  rw [← hh] at T
  have S := B.1.sh
  obtain ⟨q1, q2, q3, q4, _, q6, q7, q8, q9, q10, q11, q12, q13⟩ := Q
  have fS : ∀ q k, q ≠ 30 → zS r q k = zS s q k := fun q k w => F.1 q k (by simp [w])
  have fI : ∀ q j, ¬ (31 ≤ q ∧ q ≤ 33) → zI r q j = zI s q j := fun q j w => F.2.1 q j (by
    have w1 : q ≠ 31 := by omega
    have w2 : q ≠ 32 := by omega
    have w3 : q ≠ 33 := by omega
    simp [w1, w2, w3])
  have fR : ∀ a i, zR r a i = zR s a i := fun a i => by unfold zR; rw [F.2.2.2]
  have fN : ∀ q, 126 ≤ q → zN r q = zN s q := fun q _ => by unfold zN; rw [F.2.2.2]
  have gS : ∀ k, k ≠ 54 → k ≠ 62 → zS u 59 k = zS t 59 k := fun k w1 w2 => G.1 59 k (by simp [w1, w2])
  have gI : ∀ q j, ¬ (102 ≤ q ∧ q ≤ 103) → q ≠ 105 → zI u q j = zI t q j := fun q j w w3 => G.2.1 q j (by
    have w1 : q ≠ 102 := by omega
    have w2 : q ≠ 103 := by omega
    simp [w1, w2, w3])
  refine ⟨⟨q1.c S (fun q k w => fS q k (by omega)) (fun q j w => fI q j (by omega)) (fun i => fR 17 i) (fun q j w1 w2 => gI q j (by omega) (by omega)), q2.c (fun i => fI 7 i (by omega)) (fun i => fI 8 i (by omega)) (fun i => fI 10 i (by omega)) (fun i => fI 16 i (by omega)) (fS 15 3 (by omega)) (fS 6 4 (by omega)) (fun i => gI 74 i (by omega) (by omega)) (fun i => gI 75 i (by omega) (by omega)) (fun i => gI 77 i (by omega) (by omega)), q3.c (fun k _ => fS 0 k (by omega)) (fS 15 4 (by omega)) (fun i => fR 17 i) (fun i => gI 67 i (by omega) (by omega)) (fun i => gI 69 i (by omega) (by omega)), q4.c (fS 0 18 (by omega)) (fS 0 14 (by omega)) (fun i => gI 69 i (by omega) (by omega)), T, q6.c (fun k _ _ => fS 15 k (by omega)) (fun k w1 w2 => gS k (by omega) (by omega)), q7.c (fun i hi => fS (20 + i) 2 (by omega)) (fun i => gI 80 i (by omega) (by omega)), q8.c (fun k _ _ => fS 6 k (by omega)) (fun i => fI 13 i (by omega)) (fun k w => gS k (by omega) (by omega)) (fun i => gI 116 i (by omega) (by omega)) (fun i => gI 118 i (by omega) (by omega)), q9.c (by rw [fS 15 3 (by omega)]; exact Int.le_refl _) (fun i _ w => by rw [fR]; exact w) B.1.tot.2.2 (fun i => gI 79 i (by omega) (by omega)), q10.c S (fS 0 5 (by omega)) (fun q k w => fS q k (by omega)) (fun q j w => fI q j (by omega)) (fun i => fR 23 i) (fun q j w1 w2 => gI q j (by omega) (by omega)), q11.c S (fS 0 8 (by omega)) (fun q k w => fS q k (by omega)) (fun q j w => fI q j (by omega)) (fun i => fR 27 i) fN (fun q j w1 w2 => gI q j (by omega) (by omega)), q12.c (fun q i w => gI q i (by omega) (by omega)) (fun i => G.2.2.1 122 i rfl), fun i hi => by rw [gI 68 i (by omega) (by omega)]; exact q13 i hi⟩, B.fi I F G (by decide) (by decide) (by decide) (by decide), F, G⟩
/-- the hour's third part: a day's meal -/
theorem ea_p {h : Int} (It : Iv t) (Q : Q4h h s t) (B : B1 s t) : Pc (f_X11_menEat s) (fun r => Pc (f_X12_eat t) (fun u => ER h s t r u)) := by
  unfold f_X11_menEat f_X12_eat
  refine Pc_b1 (fun r1 e1 => ?_)
  obtain ⟨r', ef, -⟩ := w_X12_forceOf (a0 := 10) (a1 := zS s 0 14) (a2 := zS s 0 14) (Lk.rf It)
  obtain ⟨g1, g2⟩ := frc_p (w := 10) (side := 1) (use := 0) (h := zS s 0 14) (k := zS s 0 14) B Q.w (by decide) (by decide) (by decide) r1 e1 r' ef
  exact eat_l g2 (fun r'' er => by rw [← B.2.1.1, ef] at er; exact (Option.some.inj er).symm.trans g1) 4000 4000 s t 0 (by decide) ⟨Q, B, Frm.rf, Frm.rf⟩
end ARs
/-! THE HOUR'S LAST PART: the rock moves, both sides in lockstep -/
section MVs
variable {s t s0 t0 : SS} {a : Int32}
def s2v (s : SS) (a : Int32) : SS := pI (pI s 3 (60 * cC a + cY a - 1) 0) 2 (60 * cC a + cY a - 1) 9
def t2v (t : SS) (a : Int32) : SS := pI (pI t 61 (61 * cC a + cY a) ((0 : Int32) &&& 1)) 60 (61 * cC a + cY a) 6
def hitX (s : SS) (a : Int32) : Prop := ¬ zS s 15 5 < 0 ∧ a % 100 = zS s 15 8 ∧ ¬ a / 100 < zS s 15 6 ∧ ¬ zS s 15 7 < a / 100
def hitM (t : SS) (a : Int32) : Prop := ¬ zS t 59 21 < 0 ∧ a % 100 = zS t 59 24 ∧ ¬ a / 100 < zS t 59 22 ∧ ¬ zS t 59 23 < a / 100
theorem mvM {q0 : SS → Option (Int32 × SS)} {y1 y2 x : Int32} {m : Nat} {R : Int32 × SS → Prop} (cm : x < zS t 59 56) (ea : zI t 97 x.toInt.toNat = a) (hh : zI t 98 x.toInt.toNat = zS t 59 1) (ok : cellOK a) (h1 : hitM t a → Pc (f_X12_hours_L65 q0 y1 y2 m (pS (t2v t a) 59 25 1) (x + 1)) R) (h2 : ¬ hitM t a → Pc (f_X12_hours_L65 q0 y1 y2 m (t2v t a) (x + 1)) R) : Pc (f_X12_hours_L65 q0 y1 y2 (m + 1) t x) R := by
  obtain ⟨v1, v2, v3⟩ := ok
  have u : cC a < 32 ∧ cY a ≤ 60 := by unfold cC cY; omega
  have nm := nnI (k := 61 * cC a + cY a) (by omega)
  show Pc (f_X12_hours_L65_b q0 y1 y2 (f_X12_hours_L65 q0 y1 y2 m) t x) R
  unfold f_X12_hours_L65_b
  refine Pc_ift cm (Pc_gd fun _ => Pc_jn (Pc_ift hh (Pc_gd fun _ => ?_)))
  rw [ea, plM v1 v2]
  refine Pc_b1S (Pc_gd fun _ => Pc_st (Pc_gd fun _ => Pc_st ?_))
  rw [nm.2]
  have e97 : zI (t2v t a) 97 x.toInt.toNat = a := by unfold t2v; rw [zI_pI, if_neg (by omega), zI_pI, if_neg (by omega)]; exact ea
  have et : pI (pI t 61 (61 * cC a + cY a) ((0 : Int32) &&& 1)) 60 (61 * cC a + cY a) 6 = t2v t a := rfl
  rw [et]
  have z : ∀ k, zS (t2v t a) 59 k = zS t 59 k := fun _ => rfl
  rw [e97, z, z, z, z]
  refine Pc_if (fun c => Pc_vl (h2 (fun w => w.1 c))) (fun c => Pc_gd fun _ => Pc_if (fun d => Pc_gd fun _ => ?_) (fun d => Pc_vl (h2 (fun w => d w.2.1))))
  by_cases e : (zS t 59 22).toInt ≤ (a / 100).toInt ∧ (a / 100).toInt ≤ (zS t 59 23).toInt
  · rw [in_t e]
    exact Pc_b1S (Pc_iff (by decide) (Pc_st (Pc_vl (h1 ⟨c, d, by rw [jlt]; omega, by rw [jlt]; omega⟩))))
  · rw [in_f e]
    refine Pc_b1S (Pc_ift rfl (Pc_vl (h2 (fun w => e ?_))))
    have w1 := w.2.2.1
    have w2 := w.2.2.2
    rw [jlt] at w1 w2
    omega
theorem mvX {x : Int32} {n : Nat} {P : SS → Prop} (c : x < zS s 1 4) (ea : zI s 4 x.toInt.toNat = a) (hh : zI s 5 x.toInt.toNat = zS s 0 14) (hv : Vc a) (h1 : hitX s a → Pc (f_X11_rockMoves_L2 n (pS (s2v s a) 15 9 1) (x + 1)) P) (h2 : ¬ hitX s a → Pc (f_X11_rockMoves_L2 n (s2v s a) (x + 1)) P) : Pc (f_X11_rockMoves_L2 (n + 1) s x) P := by
  obtain ⟨u1, u2, u3⟩ := hv.b
  have nx := nnI (k := 60 * cC a + cY a - 1) (by omega)
  show Pc (f_X11_rockMoves_L2_b (f_X11_rockMoves_L2 n) s x) P
  unfold f_X11_rockMoves_L2_b
  refine Pc_ift c (Pc_gd fun _ => Pc_vl ?_)
  rw [ea, plX_t hv]
  refine Pc_b1S (Pc_gd fun _ => Pc_jn (Pc_ift hh (Pc_iff (by rw [jlt, jl0]; omega) (Pc_gd fun _ => Pc_st (Pc_gd fun _ => Pc_st ?_)))))
  rw [nx.2]
  have es : pI (pI s 3 (60 * cC a + cY a - 1) 0) 2 (60 * cC a + cY a - 1) 9 = s2v s a := rfl
  rw [es]
  by_cases z : hitX s a
  · have rr : f_X0_isRefuge (s2v s a) (a / 100) (a % 100) = some 1 := by
      rw [refX, if_pos (show ¬ zS (s2v s a) 15 5 < 0 ∧ a % 100 = zS (s2v s a) 15 8 ∧ ¬ a / 100 < zS (s2v s a) 15 6 ∧ ¬ zS (s2v s a) 15 7 < a / 100 from z)]
    rw [rr]
    exact Pc_b1S (Pc_iff (by decide) (Pc_st (Pc_vl (h1 z))))
  · have rr : f_X0_isRefuge (s2v s a) (a / 100) (a % 100) = some 0 := by
      rw [refX, if_neg (show ¬ (¬ zS (s2v s a) 15 5 < 0 ∧ a % 100 = zS (s2v s a) 15 8 ∧ ¬ a / 100 < zS (s2v s a) 15 6 ∧ ¬ zS (s2v s a) 15 7 < a / 100) from z)]
    rw [rr]
    exact Pc_b1S (Pc_ift rfl (Pc_vl (h2 z)))
/-- where the moves have come to -/
def MVq (s0 t0 s t : SS) : Prop := RKx s t ∧ zS s 15 9 = zS t 59 25 ∧ Frm [(15, 9)] [2, 3] [] s0 s ∧ Frm [(59, 25)] [60, 61] [] t0 t ∧ (∀ j, zI s 2 j = zI s0 2 j ∨ zI s 2 j = 9) ∧ Iv s ∧ Iv t
theorem MVq.b (M : MVq s0 t0 s t) (hv : Vc a) : MVq s0 t0 (s2v s a) (t2v t a) := by
  obtain ⟨rk, e, F, G, h9, I1, I2⟩ := M
  obtain ⟨u1, u2, u3⟩ := hv.b
  refine ⟨fun c y h1 h2 h3 => ?_, e, (F.pI (by decide)).pI (by decide), (G.pI (by decide)).pI (by decide), fun j => ?_, (I1.wI (q := 3) (by decide) trivial).wI (q := 2) (by decide) trivial, (I2.wI (q := 61) (by decide) trivial).wI (q := 60) (by decide) trivial⟩
  · unfold s2v t2v
    by_cases z : c = cC a ∧ y = cY a
    · rw [z.1, z.2, zI_pI, if_pos ⟨rfl, rfl⟩, zI_pI, if_pos ⟨rfl, rfl⟩, zI_pI, if_neg (by omega), zI_pI, if_pos ⟨rfl, rfl⟩, zI_pI, if_neg (by omega), zI_pI, if_pos ⟨rfl, rfl⟩]
      exact ⟨by decide, by decide, Or.inl (by decide)⟩
    · rw [zI_pI, if_neg (by omega), zI_pI, if_neg (by omega), zI_pI, if_neg (by omega), zI_pI, if_neg (by omega), zI_pI, if_neg (by omega), zI_pI, if_neg (by omega), zI_pI, if_neg (by omega), zI_pI, if_neg (by omega)]
      exact rk c y h1 h2 h3
  · unfold s2v
    rw [zI_pI]
    by_cases z : j = 60 * cC a + cY a - 1
    · rw [if_pos ⟨rfl, z⟩]; exact Or.inr rfl
    · rw [if_neg (fun w => z w.2), zI_pI, if_neg (by omega)]; exact h9 j
theorem MVq.m (M : MVq s0 t0 s t) (h0 : cY a = 0) : MVq s0 t0 s (t2v t a) := by
  obtain ⟨rk, e, F, G, h9, I1, I2⟩ := M
  refine ⟨fun c y h1 h2 h3 => ?_, e, F, (G.pI (by decide)).pI (by decide), h9, I1, (I2.wI (q := 61) (by decide) trivial).wI (q := 60) (by decide) trivial⟩
  unfold t2v
  rw [zI_pI, if_neg (by omega), zI_pI, if_neg (by omega), zI_pI, if_neg (by omega), zI_pI, if_neg (by omega)]
  exact rk c y h1 h2 h3
theorem MVq.h (M : MVq s0 t0 s t) : MVq s0 t0 (pS s 15 9 1) (pS t 59 25 1) := by
  obtain ⟨rk, e, F, G, h9, I1, I2⟩ := M
  exact ⟨rk, by rw [zS_pS, if_pos ⟨rfl, rfl⟩, zS_pS, if_pos ⟨rfl, rfl⟩], F.pS (by decide), G.pS (by decide), h9, I1.wF (q := 15) (k := 9) (by decide) (by decide) trivial, I2.wF (q := 59) (k := 25) (by decide) (by decide) trivial⟩
theorem mv_l {q0 : SS → Option (Int32 × SS)} {y1 y2 : Int32} (B : B1 s0 t0) (hR : QRef s0 t0) : ∀ (n m : Nat) (s t : SS) (x : Int32), 0 ≤ x.toInt → MVq s0 t0 s t → Pc (f_X11_rockMoves_L2 n s x) (fun r => ∀ R : Int32 × SS → Prop, (∀ u, MVq s0 t0 r u → Pc (q0 u) R) → Pc (f_X12_hours_L65 q0 y1 y2 m t x) R)
  | 0, _, _, _, _, _, _ => Pc_none
  | n + 1, 0, _, _, _, _, _ => fun _ _ _ _ => Pc_none
  | n + 1, m + 1, s, t, x, hx, M => by
    obtain ⟨rk, e25, F, G, h9, _, _⟩ := id M
    have bf : 0 ≤ (zS s 1 4).toInt ∧ (zS s 1 4).toInt ≤ 60 := by rw [F.1 1 4 rfl]; exact B.1.fx (q := 1) (k := 4) (by omega)
    have c1 : zS s 1 4 = zS t 59 56 := (F.1 1 4 rfl).trans (B.2.1.2.1.trans (G.1 59 56 rfl).symm)
    have ca : zI s 4 x.toInt.toNat = zI t 97 x.toInt.toNat := (F.2.1 4 _ rfl).trans ((B.2.1.2.2.1 _).trans (G.2.1 97 _ rfl).symm)
    have c5 : zI s 5 x.toInt.toNat = zI t 98 x.toInt.toNat := (F.2.1 5 _ rfl).trans ((B.2.1.2.2.2.1 _).trans (G.2.1 98 _ rfl).symm)
    have ch : zS s 0 14 = zS t 59 1 := (F.1 0 14 rfl).trans (B.2.1.1.trans (G.1 59 1 rfl).symm)
    have ok : cellOK (zI t 97 x.toInt.toNat) := by rw [G.2.1 97 _ rfl]; exact B.2.2.2 _
    have k5 : zS s 15 5 = zS t 59 21 := (F.1 15 5 rfl).trans (B.1.1.2.1.trans (G.1 59 21 rfl).symm)
    have k6 : zS s 15 6 = zS t 59 22 := (F.1 15 6 rfl).trans (hR.1.trans (G.1 59 22 rfl).symm)
    have k7 : zS s 15 7 = zS t 59 23 := (F.1 15 7 rfl).trans (hR.2.1.trans (G.1 59 23 rfl).symm)
    have k8 : zS s 15 8 = zS t 59 24 := (F.1 15 8 rfl).trans (hR.2.2.1.trans (G.1 59 24 rfl).symm)
    have r8 : 0 ≤ (zS s 15 5).toInt → 1 ≤ (zS s 15 8).toInt := by rw [F.1 15 5 rfl, F.1 15 8 rfl]; exact hR.2.2.2.2
    by_cases c : x < zS s 1 4
    case neg =>
      show Pc (f_X11_rockMoves_L2_b (f_X11_rockMoves_L2 n) s x) _
      unfold f_X11_rockMoves_L2_b
      refine Pc_iff c (Pc_some (fun R h => ?_))
      show Pc (f_X12_hours_L65_b q0 y1 y2 (f_X12_hours_L65 q0 y1 y2 m) t x) R
      unfold f_X12_hours_L65_b
      exact Pc_iff (by rw [← c1]; exact c) (h t M)
    have cm : x < zS t 59 56 := by rw [← c1]; exact c
    have c' := c
    rw [jlt] at c'
    have n1 : (x + 1).toInt = x.toInt + 1 := by rw [i32_add (by rw [jl1]; omega) (by rw [jl1]; omega), jl1]
    have nxt : ∀ s' t', MVq s0 t0 s' t' → Pc (f_X11_rockMoves_L2 n s' (x + 1)) (fun r => ∀ R : Int32 × SS → Prop, (∀ u, MVq s0 t0 r u → Pc (q0 u) R) → Pc (f_X12_hours_L65 q0 y1 y2 m t' (x + 1)) R) := fun s' t' M' => mv_l B hR n m s' t' (x + 1) (by omega) M'
    by_cases hh : zI s 5 x.toInt.toNat = zS s 0 14
    case neg =>
      show Pc (f_X11_rockMoves_L2_b (f_X11_rockMoves_L2 n) s x) _
      unfold f_X11_rockMoves_L2_b
      refine Pc_ift c (Pc_gd fun _ => Pc_vl (Pc_b1x (fun r4 => Pc_gd fun _ => Pc_jn (Pc_iff hh (Pc_vl ?_)))))
      refine Pc.mono (nxt s t M) (fun r h R hq => ?_)
      show Pc (f_X12_hours_L65_b q0 y1 y2 (f_X12_hours_L65 q0 y1 y2 m) t x) R
      unfold f_X12_hours_L65_b
      exact Pc_ift cm (Pc_gd fun _ => Pc_jn (Pc_iff (by rw [← c5, ← ch]; exact hh) (Pc_vl (h R hq))))
    have hh' : zI t 98 x.toInt.toNat = zS t 59 1 := by rw [← c5, ← ch]; exact hh
    generalize ea : zI t 97 x.toInt.toNat = a at ca ok
    have hx' : hitX s a ↔ hitM t a := by unfold hitX hitM; rw [k5, k6, k7, k8]
    by_cases hv : Vc a
    · have M2 := M.b hv
      refine mvX c ca hh hv (fun z => ?_) (fun z => ?_)
      · exact Pc.mono (nxt _ _ M2.h) (fun r h R hq => mvM cm ea hh' ok (fun _ => h R hq) (fun w => absurd (hx'.1 z) w))
      · exact Pc.mono (nxt _ _ M2) (fun r h R hq => mvM cm ea hh' ok (fun w => absurd (hx'.2 w) z) (fun _ => h R hq))
    · obtain ⟨v1, v2, v3⟩ := id ok
      have y0 : a.toInt % 100 = 0 := by
        by_cases w : a.toInt % 100 = 0
        · exact w
        · exact absurd ⟨v1, by omega, by omega, v3⟩ hv
      have M2 := M.m (a := a) (by unfold cY; omega)
      show Pc (f_X11_rockMoves_L2_b (f_X11_rockMoves_L2 n) s x) _
      unfold f_X11_rockMoves_L2_b
      refine Pc_ift c (Pc_gd fun _ => Pc_vl ?_)
      rw [ca, plX_f hv]
      refine Pc_b1S (Pc_gd fun _ => Pc_jn (Pc_ift hh (Pc_ift (by decide) (Pc_vl ?_))))
      refine Pc.mono (nxt _ _ M2) (fun r h R hq => mvM cm ea hh' ok (fun w => ?_) (fun _ => h R hq))
      have w1 := w.1
      rw [← k5, jlt, jl0] at w1
      have w3 := r8 (by omega)
      rw [k8, ← w.2.1, m100 v1] at w3
      omega
end MVs
/-! THE HOUR: what stands when the clock has gone on by one; what stands behind the moves -/
section HRs
variable {s t r u : SS}
theorem Ok.at {ρ : Type} {o : Option ρ} {Q : ρ → Prop} {r : ρ} (h : Ok o Q) (e : o = some r) : Q r := by
  obtain ⟨r', e', q⟩ := h
  rw [e] at e'
  rw [Option.some.inj e']
  exact q
/-- pace and hardness within their bounds -/
def QRng (s t : SS) : Prop := (∀ m, m < 3 → 0 ≤ (zI t 78 m).toInt ∧ (zI t 78 m).toInt ≤ 60) ∧ ∀ j, 0 ≤ (zI s 2 j).toInt ∧ (zI s 2 j).toInt ≤ 9
theorem Q4h.hr {h : Int} (Q : Q4h h s t) (S : Sh s) (hh : (zS s 0 14).toInt ≤ (zS s 0 14 + 1).toInt) {v : Int32} : Q4h h (pS s 0 14 (zS s 0 14 + 1)) (pS t 59 1 v) := by
  obtain ⟨q1, q2, q3, q4, q5, q6, q7, q8, q9, q10, q11, q12, q13⟩ := Q
  have fS : ∀ q k, ¬ (q = 0 ∧ k = 14) → zS (pS s 0 14 (zS s 0 14 + 1)) q k = zS s q k := fun q k w => by rw [zS_pS, if_neg w]
  have gS : ∀ k, k ≠ 1 → zS (pS t 59 1 v) 59 k = zS t 59 k := fun k w => by rw [zS_pS, if_neg (by omega)]
  refine ⟨q1.c S (fun q k w => fS q k (by omega)) (fun _ _ _ => rfl) (fun _ => rfl) (fun _ _ _ _ => rfl), q2, q3.c (fun k w => fS 0 k (by omega)) (fS 15 4 (by omega)) (fun _ => rfl) (fun _ => rfl) (fun _ => rfl), ?_, q5.d (fun k => fS 30 k (by omega)) (fun _ _ _ _ => rfl) (fun k w => gS k (by omega)) (fun _ _ _ _ => rfl), q6.c (fun k _ _ => fS 15 k (by omega)) (fun k w1 w2 => gS k (by omega)), q7.c (fun i _ => fS (20 + i) 2 (by omega)) (fun _ => rfl), q8.c (fun k _ _ => fS 6 k (by omega)) (fun _ => rfl) (fun k w => gS k (by omega)) (fun _ => rfl) (fun _ => rfl), q9, q10.c S (fS 0 5 (by omega)) (fun q k w => fS q k (by omega)) (fun _ _ _ => rfl) (fun _ => rfl) (fun _ _ _ _ => rfl), q11.c S (fS 0 8 (by omega)) (fun q k w => fS q k (by omega)) (fun _ _ _ => rfl) (fun _ => rfl) (fun _ _ => rfl) (fun _ _ _ _ => rfl), q12, q13⟩
  have e14 : zS (pS s 0 14 (zS s 0 14 + 1)) 0 14 = zS s 0 14 + 1 := by rw [zS_pS, if_pos ⟨rfl, rfl⟩]
  rcases q4 with ⟨a, b⟩ | ⟨a, b, c⟩
  · exact Or.inl ⟨by rw [fS 0 18 (by omega)]; exact a, b⟩
  · refine Or.inr ⟨?_, fun i hi h => ?_, ?_⟩
    · rw [e14, fS 0 18 (by omega)]
      omega
    · rw [fS 0 18 (by omega)]
      exact b i hi h
    · obtain ⟨i, hi, c1, c2⟩ := c
      exact ⟨i, hi, c1, by rw [fS 0 18 (by omega)]; exact c2⟩
/-- behind the moves -/
theorem Q4h.mv {h : Int} (Q : Q4h h s t) (S : Sh s) (M : MVq s t r u) : Q4h h r u := by
  obtain ⟨_, e, F, G, _⟩ := M
  obtain ⟨q1, q2, q3, q4, q5, q6, q7, q8, q9, q10, q11, q12, q13⟩ := Q
  have fS : ∀ q k, ¬ (q = 15 ∧ k = 9) → zS r q k = zS s q k := fun q k w => F.1 q k (by
    cases c : ([(15, 9)] : List (Nat × Nat)).contains (q, k) with
    | false => rfl
    | true =>
      have : (q, k) = (15, 9) := by simpa using c
      exact absurd ⟨congrArg Prod.fst this, congrArg Prod.snd this⟩ w)
  have fI : ∀ q j, q ≠ 2 → q ≠ 3 → zI r q j = zI s q j := fun q j w1 w2 => F.2.1 q j (by simp [w1, w2])
  have fR : ∀ a i, zR r a i = zR s a i := fun a i => by unfold zR; rw [F.2.2.2]
  have fN : ∀ q, 126 ≤ q → zN r q = zN s q := fun q _ => by unfold zN; rw [F.2.2.2]
  have gS : ∀ k, k ≠ 25 → zS u 59 k = zS t 59 k := fun k w => G.1 59 k (by simp [w])
  have gI : ∀ q j, q ≠ 60 → q ≠ 61 → zI u q j = zI t q j := fun q j w1 w2 => G.2.1 q j (by simp [w1, w2])
  refine ⟨q1.c S (fun q k w => fS q k (by omega)) (fun q j w => fI q j (by omega) (by omega)) (fun i => fR 17 i) (fun q j w1 w2 => gI q j (by omega) (by omega)), q2.c (fun i => fI 7 i (by omega) (by omega)) (fun i => fI 8 i (by omega) (by omega)) (fun i => fI 10 i (by omega) (by omega)) (fun i => fI 16 i (by omega) (by omega)) (fS 15 3 (by omega)) (fS 6 4 (by omega)) (fun i => gI 74 i (by omega) (by omega)) (fun i => gI 75 i (by omega) (by omega)) (fun i => gI 77 i (by omega) (by omega)), q3.c (fun k _ => fS 0 k (by omega)) (fS 15 4 (by omega)) (fun i => fR 17 i) (fun i => gI 67 i (by omega) (by omega)) (fun i => gI 69 i (by omega) (by omega)), q4.c (fS 0 18 (by omega)) (fS 0 14 (by omega)) (fun i => gI 69 i (by omega) (by omega)), q5.d (fun k => fS 30 k (by omega)) (fun q i w1 w2 => fI q i (by omega) (by omega)) (fun k w => gS k (by omega)) (fun q i w1 w2 => gI q i (by omega) (by omega)), ?_, q7.c (fun i hi => fS (20 + i) 2 (by omega)) (fun i => gI 80 i (by omega) (by omega)), q8.c (fun k _ _ => fS 6 k (by omega)) (fun i => fI 13 i (by omega) (by omega)) (fun k w => gS k (by omega)) (fun i => gI 116 i (by omega) (by omega)) (fun i => gI 118 i (by omega) (by omega)), ?_, q10.c S (fS 0 5 (by omega)) (fun q k w => fS q k (by omega)) (fun q j w => fI q j (by omega) (by omega)) (fun i => fR 23 i) (fun q j w1 w2 => gI q j (by omega) (by omega)), q11.c S (fS 0 8 (by omega)) (fun q k w => fS q k (by omega)) (fun q j w => fI q j (by omega) (by omega)) (fun i => fR 27 i) fN (fun q j w1 w2 => gI q j (by omega) (by omega)), q12.c (fun q i w => gI q i (by omega) (by omega)) (fun i => G.2.2.1 122 i rfl), fun i hi => by rw [gI 68 i (by omega) (by omega)]; exact q13 i hi⟩
  · obtain ⟨a, b, c, d, f⟩ := q6
    refine ⟨?_, ?_, ?_, e, ?_⟩
    · rw [fS 15 6 (by omega), gS 22 (by omega)]; exact a
    · rw [fS 15 7 (by omega), gS 23 (by omega)]; exact b
    · rw [fS 15 8 (by omega), gS 24 (by omega)]; exact c
    · rw [fS 15 5 (by omega), fS 15 8 (by omega)]; exact f
  · refine ⟨fun i hi => ?_, fun i j hi hj ne => ?_⟩
    · rw [gI 79 i (by omega) (by omega), fS 15 3 (by omega), fR]
      exact q9.1 i hi
    · rw [gI 79 i (by omega) (by omega), gI 79 j (by omega) (by omega)]
      exact q9.2 i j hi hj ne
end HRs
/-! THE OTHER RELATIONS when the clock has gone on; behind the moves -/
section BGs
variable {s t r u : SS}
theorem B1.g (B : B1 s t) (I : Iv r) (R : ∀ i, zR r 17 i = zR s 17 i) (l : ∀ q k, bS q k = true → q < 59 → ¬ (q = 0 ∧ k = 14) → zS r q k = zS s q k) (m : ∀ k, bS 59 k = true → k ≠ 1 → zS u 59 k = zS t 59 k) (li : ∀ q j, q ≠ 2 → q ≠ 3 → bI q = true → zI r q j = zI s q j) (mi : ∀ q j, q ≠ 60 → q ≠ 61 → bI q = true → zI u q j = zI t q j) (h14 : zS r 0 14 = zS u 59 1) (hr : 0 ≤ (zS r 0 14).toInt ∧ (zS r 0 14).toInt ≤ 1699) (rk : RKx r u) : B1 r u := by
  obtain ⟨⟨⟨a1, a2, a3, a4, a5⟩, b, c, d, e, f, g, k⟩, ⟨t1, t2, t3, t4, t5⟩, kx, cx⟩ := B
  have mm : ∀ i, i < 3 → bS (20 + i) 0 = true ∧ bS (20 + i) 1 = true := fun i hi => by
    have : i = 0 ∨ i = 1 ∨ i = 2 := by omega
    rcases this with w | w | w <;> subst w <;> exact ⟨rfl, rfl⟩
  refine ⟨⟨⟨?_, ?_, ?_, ?_, ?_⟩, fun i => ?_, fun i => ?_, fun i hi => ?_, fun i hi => ?_, I.1.1, fun q k h => I.1.2.1 q k (by omega), I.1.2.2.2.1⟩, ⟨h14, ?_, fun i => ?_, fun i => ?_, hr⟩, rk, fun i => ?_⟩
  · rw [l 15 3 rfl (by omega) (by omega), m 4 rfl (by omega)]; exact a1
  · rw [l 15 5 rfl (by omega) (by omega), m 21 rfl (by omega)]; exact a2
  · rw [l 0 5 rfl (by omega) (by omega), m 30 rfl (by omega)]; exact a3
  · rw [l 0 8 rfl (by omega) (by omega), m 38 rfl (by omega)]; exact a4
  · rw [l 0 15 rfl (by omega) (by omega), m 29 rfl (by omega)]; exact a5
  · rw [li 16 i (by omega) (by omega) rfl, mi 62 i (by omega) (by omega) rfl]; exact b i
  · rw [li 9 i (by omega) (by omega) rfl, mi 76 i (by omega) (by omega) rfl]; exact c i
  · rw [l (20 + i) 0 (mm i hi).1 (by omega) (by omega), l (20 + i) 1 (mm i hi).2 (by omega) (by omega), mi 78 i (by omega) (by omega) rfl, mi 79 i (by omega) (by omega) rfl]; exact d i hi
  · rw [R, l 15 3 rfl (by omega) (by omega), li 16 i (by omega) (by omega) rfl]; exact e i hi
  · rw [l 1 4 rfl (by omega) (by omega), m 56 rfl (by omega)]; exact t2
  · rw [li 4 i (by omega) (by omega) rfl, mi 97 i (by omega) (by omega) rfl]; exact t3 i
  · rw [li 5 i (by omega) (by omega) rfl, mi 98 i (by omega) (by omega) rfl]; exact t4 i
  · rw [mi 97 i (by omega) (by omega) rfl]; exact cx i
theorem B1.hr (B : B1 s t) (I : Iv (pS s 0 14 (zS s 0 14 + 1))) (hr : (zS s 0 14).toInt + 1 ≤ 1699) : B1 (pS s 0 14 (zS s 0 14 + 1)) (pS t 59 1 (zS t 59 1 + 1)) := by
  have b := B.2.1.2.2.2.2
  have n1 : (zS s 0 14 + 1).toInt = (zS s 0 14).toInt + 1 := by rw [i32_add (by rw [jl1]; omega) (by rw [jl1]; omega), jl1]
  have e14 : zS (pS s 0 14 (zS s 0 14 + 1)) 0 14 = zS s 0 14 + 1 := by rw [zS_pS, if_pos ⟨rfl, rfl⟩]
  have e1 : zS (pS t 59 1 (zS t 59 1 + 1)) 59 1 = zS t 59 1 + 1 := by rw [zS_pS, if_pos ⟨rfl, rfl⟩]
  exact B.g I (fun _ => rfl) (fun q k _ _ w => by rw [zS_pS, if_neg w]) (fun k _ w => by rw [zS_pS, if_neg (by omega)]) (fun _ _ _ _ _ => rfl) (fun _ _ _ _ _ => rfl) (by rw [e14, e1, B.2.1.1]) (by rw [e14, n1]; omega) B.2.2.1
theorem B1.mv (B : B1 s t) (I : Iv r) (M : MVq s t r u) : B1 r u := by
  obtain ⟨rk, e, F, G, _⟩ := M
  have fS : ∀ q k, bS q k = true → zS r q k = zS s q k := fun q k w => F.1 q k (nct (f := fun p => !bS p.1 p.2) (by decide) (by show (!bS q k) = false; rw [w]; rfl))
  have gS : ∀ k, bS 59 k = true → zS u 59 k = zS t 59 k := fun k w => G.1 59 k (nct (f := fun p => !bS p.1 p.2) (by decide) (by show (!bS 59 k) = false; rw [w]; rfl))
  exact B.g I (fun i => by unfold zR; rw [F.2.2.2]) (fun q k w _ _ => fS q k w) (fun k w _ => gS k w) (fun q j w1 w2 _ => F.2.1 q j (by simp [w1, w2])) (fun q j w1 w2 _ => G.2.1 q j (by simp [w1, w2])) (by rw [fS 0 14 rfl, gS 1 rfl]; exact B.2.1.1) (by rw [fS 0 14 rfl]; exact B.2.1.2.2.2.2) rk
end BGs
/-! THE HOUR, both sides -/
section HGs
variable {s t : SS}
def HR (h : Int) (s t : SS) : Prop := Q4h h s t ∧ B1 s t ∧ QRng s t ∧ Iv s ∧ Iv t ∧ (zS s 0 14).toInt = h
theorem hr_tail {q0 : SS → Option (Int32 × SS)} {y1 y2 : Int32} {h : Int} (hh : h = (zS s 0 14).toInt) (Q : Q4k (h - 1) h s t) (B : B1 s t) (N : QRng s t) (I : Iv s) (J : Iv t) : Pc (b1 (f_X9_arrivals s (zS s 0 14)) fun s6 => (jn (fun (s7 : SS)  => (b1 (f_X11_rockMoves s7) fun s8 => some s8)) fun k7 => (if ((zS s6 0 14) % (24 : Int32)) = (0 : Int32) then (b1 (f_X11_menEat s6) fun s11 => (k7 s11)) else (k7 s6)))) (fun r => ∀ R : Int32 × SS → Prop, (∀ u, HR h r u → Pc (q0 u) R) → Pc (b1 (f_X12_comeDown t) fun s8 => (jn (fun (s10 : SS)  => (f_X12_hours_L65 q0 y1 y2 4000 s10 0)) fun k10 => (if ((zS s8 59 1) % (24 : Int32)) = (0 : Int32) then (b1 (f_X12_eat s8) fun s32 => (k10 s32)) else (k10 s8)))) R) := by
  -- the moves, from any two states
  have mvs : ∀ s7 t7, Q4h h s7 t7 → B1 s7 t7 → QRng s7 t7 → Iv s7 → Iv t7 → zS s7 0 14 = zS s 0 14 → Pc (b1 (f_X11_rockMoves s7) fun s8 => some s8) (fun r => ∀ R : Int32 × SS → Prop, (∀ u, HR h r u → Pc (q0 u) R) → Pc (f_X12_hours_L65 q0 y1 y2 4000 t7 0) R) := by
    intro s7 t7 Q7 B7 N7 I7 J7 h7
    have M0 : MVq s7 t7 s7 t7 := ⟨B7.2.2.1, Q7.2.2.2.2.2.1.2.2.2.1, Frm.rf, Frm.rf, fun _ => Or.inl rfl, I7, J7⟩
    refine Pc_b1 (Pc.mono (mv_l B7 Q7.2.2.2.2.2.1 4000 4000 s7 t7 0 (by decide) M0) (fun r hr => Pc_some (fun R hq => hr R (fun u M => hq u ?_))))
    obtain ⟨m1, m2, m3, m4, m5, m6, m7⟩ := id M
    refine ⟨Q7.mv B7.1.sh M, B7.mv m6 M, ⟨fun m hm => ?_, fun j => ?_⟩, m6, m7, ?_⟩
    · rw [m4.2.1 78 m rfl]; exact N7.1 m hm
    · rcases m5 j with w | w
      · rw [w]; exact N7.2 j
      · rw [w]; decide
    · rw [m3.1 0 14 rfl, h7, hh]
  refine Pc_b1 (fun s6 e6 => ?_)
  have I6 : Iv s6 := ((w_X9_arrivals (a0 := zS s 0 14) (Lk.rf I)).at e6).1
  have A := ar_p hh Q B s6 e6 I6
  have h6 : zS s6 0 14 = zS s 0 14 := ((w_X9_arrivals (a0 := zS s 0 14) (Lk.rf I)).at e6).2.2.1 0 14 rfl
  refine Pc_jn ?_
  by_cases z : zS s6 0 14 % 24 = 0
  · refine Pc_ift z (Pc_b1 (fun s11 e11 => ?_))
    have K11 := (w_X11_menEat (Lk.rf I6)).at e11
    intro r er R hq
    refine Pc_b1 (fun t8 e8 => ?_)
    obtain ⟨Q8, B8, F8, G8⟩ := A t8 e8
    have J8 : Iv t8 := ((w_X12_comeDown (Lk.rf J)).at e8).1
    refine Pc_jn (Pc_ift (by rw [← B8.2.1.1]; exact z) (Pc_b1 (fun t9 e9 => ?_)))
    obtain ⟨Q9, B9, F9, G9⟩ := ea_p J8 Q8 B8 s11 e11 t9 e9
    have J9 : Iv t9 := ((w_X12_eat (Lk.rf J8)).at e9).1
    exact mvs s11 t9 Q9 B9 ⟨fun m hm => by rw [G9.2.1 78 m rfl, G8.2.1 78 m rfl]; exact N.1 m hm, fun j => by rw [F9.2.1 2 j rfl, F8.2.1 2 j rfl]; exact N.2 j⟩ K11.1 J9 ((F9.1 0 14 rfl).trans h6) r er R hq
  · refine Pc_iff z ?_
    intro r er R hq
    refine Pc_b1 (fun t8 e8 => ?_)
    obtain ⟨Q8, B8, F8, G8⟩ := A t8 e8
    have J8 : Iv t8 := ((w_X12_comeDown (Lk.rf J)).at e8).1
    refine Pc_jn (Pc_iff (by rw [← B8.2.1.1]; exact z) ?_)
    exact mvs s6 t8 Q8 B8 ⟨fun m hm => by rw [G8.2.1 78 m rfl]; exact N.1 m hm, fun j => by rw [F8.2.1 2 j rfl]; exact N.2 j⟩ I6 J8 h6 r er R hq
end HGs
/-! AN HOUR GOES BY, both sides -/
section HQs
variable {s t : SS}
theorem hour_q {y1 x : Int32} {n : Nat} {h : Int} (K : HR h s t) (hl : h + 1 ≤ 1699) (hx : x < y1) : Pc (f_X11_hourGoesBy s) (fun r => ∀ R : Int32 × SS → Prop, (∀ u, HR (h + 1) r u → Pc (f_X12_hours_L26 y1 n u (x + 1)) R) → Pc (f_X12_hours_L26 y1 (n + 1) t x) R) := by
  obtain ⟨Q, B, N, I, J, hh⟩ := K
  have b := B.2.1.2.2.2.2
  have n1 : (zS s 0 14 + 1).toInt = h + 1 := by rw [i32_add (by rw [jl1]; omega) (by rw [jl1]; omega), jl1, hh]
  have I2 : Iv (pS s 0 14 (zS s 0 14 + 1)) := I.wF (q := 0) (k := 14) (by decide) (by decide) trivial
  have J2 : Iv (pS t 59 1 (zS t 59 1 + 1)) := J.wF (q := 59) (k := 1) (by decide) (by decide) trivial
  have B2 := B.hr I2 (by omega)
  have Q2 : Q4h h (pS s 0 14 (zS s 0 14 + 1)) (pS t 59 1 (zS t 59 1 + 1)) := Q.hr B.1.sh (by omega)
  have h2 : (zS (pS s 0 14 (zS s 0 14 + 1)) 0 14).toInt = h + 1 := by rw [zS_pS, if_pos ⟨rfl, rfl⟩]; exact n1
  have N2 : QRng (pS s 0 14 (zS s 0 14 + 1)) (pS t 59 1 (zS t 59 1 + 1)) := N
  unfold f_X11_hourGoesBy
  refine Pc_vl (Pc_st ?_)
  generalize pS s 0 14 (zS s 0 14 + 1) = s2 at I2 B2 Q2 h2 N2 ⊢
  have Q2' : Q4h ((zS s2 0 14).toInt - 1) s2 (pS t 59 1 (zS t 59 1 + 1)) := by rw [h2, Int.add_sub_cancel]; exact Q2
  refine Pc_b1 (fun r3 e3 => Pc_bd (fun x4 e4 => Pc_jn ?_))
  have K4 := (w_X11_given (a0 := r3) (a1 := 2) (a2 := -1) (Lk.rf I2)).at e4
  obtain ⟨r4, s4⟩ := x4
  have go : ∀ s5, Iv s5 → ((r4 = 0 ∧ f_X11_machinesWork s4 = some s5) ∨ (¬ r4 = 0 ∧ s5 = s4)) → Pc (b1 (f_X9_arrivals s5 (zS s5 0 14)) fun s6 => (jn (fun (s7 : SS)  => (b1 (f_X11_rockMoves s7) fun s8 => some s8)) fun k7 => (if ((zS s6 0 14) % (24 : Int32)) = (0 : Int32) then (b1 (f_X11_menEat s6) fun s11 => (k7 s11)) else (k7 s6)))) (fun r => ∀ R : Int32 × SS → Prop, (∀ u, HR (h + 1) r u → Pc (f_X12_hours_L26 y1 n u (x + 1)) R) → Pc (f_X12_hours_L26 y1 (n + 1) t x) R) := by
    intro s5 I5 h5
    have D := dl_p I5 B2 Q2' N2.1 N2.2 e3 e4 h5
    intro r er R hq
    show Pc (f_X12_hours_L26_b y1 (f_X12_hours_L26 y1 n) t x) R
    unfold f_X12_hours_L26_b
    refine Pc_ift hx (Pc_vl (Pc_st (Pc_b1 (fun t7 e7 => ?_))))
    obtain ⟨q, b7, c1, c2, c3⟩ := D t7 e7
    have J7 : Iv t7 := ((w_X12_drill (Lk.rf J2)).at e7).1
    rw [h2] at q
    exact hr_tail (q0 := fun s29 => vl (x + 1) fun v30 => f_X12_hours_L26 y1 n s29 v30) (y1 := y1) (y2 := x) (h := h + 1) (by rw [c1, h2]) q b7 ⟨fun m hm => by rw [c3]; exact N2.1 m hm, fun j => by rw [c2]; exact N2.2 j⟩ I5 J7 r er R (fun u hu => Pc_vl (hq u hu))
  by_cases z : r4 = 0
  · refine Pc_ift z (Pc_b1 (fun s13 e13 => ?_))
    exact go s13 ((w_X11_machinesWork K4).at e13).1 (Or.inl ⟨z, e13⟩)
  · exact Pc_iff z (go s4 K4.1 (Or.inr ⟨z, rfl⟩))
end HQs
/-! HOURS, both sides -/
section HSs
variable {s t : SS}
theorem hrs_l {y1 : Int32} (hy : y1.toInt ≤ 48) : ∀ (n m : Nat) (s t : SS) (x : Int32) (h : Int), HR h s t → 0 ≤ x.toInt → h + (y1.toInt - x.toInt) ≤ 1699 → Pc (f_X11_hours_L27 y1 n s x) (fun r => Pc (f_X12_hours_L26 y1 m t x) (fun v => v.1 = r.1 ∧ ∃ h', HR h' r.2 v.2))
  | 0, _, _, _, _, _, _, _, _ => Pc_none
  | n + 1, 0, _, _, _, _, _, _, _ => fun _ _ => Pc_none
  | n + 1, m + 1, s, t, x, h, K, hx, hh => by
    show Pc (f_X11_hours_L27_b y1 (f_X11_hours_L27 y1 n) s x) _
    unfold f_X11_hours_L27_b
    refine Pc_if (fun c => Pc_b1 ?_) (fun c => Pc_some ?_)
    · have c' := c
      rw [jlt] at c'
      have n1 : (x + 1).toInt = x.toInt + 1 := by rw [i32_add (by rw [jl1]; omega) (by rw [jl1]; omega), jl1]
      refine Pc.mono (hour_q (n := m) K (by omega) c) (fun s5 h5 => Pc_vl ?_)
      intro r er
      exact h5 _ (fun u hu => hrs_l hy n m s5 u (x + 1) (h + 1) hu (by omega) (by omega) r er)
    · show Pc (f_X12_hours_L26_b y1 (f_X12_hours_L26 y1 m) t x) _
      unfold f_X12_hours_L26_b
      exact Pc_iff c (Pc_some ⟨K.2.1.2.1.1.symm, h, K⟩)
theorem hrs_p {a : Int32} {h : Int} (K : HR h s t) : Pc (f_X11_hours s a) (fun r => Pc (f_X12_hours t a) (fun v => v.1 = r.1 ∧ ∃ h', HR h' r.2 v.2)) := by
  obtain ⟨Q, B, N, I, J, hh⟩ := id K
  have e : zS s 0 14 = zS t 59 1 := B.2.1.1
  have b := B.2.1.2.2.2.2
  have j48 : (48 : Int32).toInt = 48 := rfl
  have j16 : (1699 : Int32).toInt = 1699 := rfl
  unfold f_X11_hours f_X12_hours
  by_cases c : (1 : Int32).toInt ≤ a.toInt ∧ a.toInt ≤ (48 : Int32).toInt
  · rw [in_t c]
    rw [jl1, j48] at c
    have n1 : (zS s 0 14 + a).toInt = (zS s 0 14).toInt + a.toInt := by rw [i32_add (by omega) (by omega)]
    refine Pc_iff (by rw [jlt, jl1]; omega) (Pc_iff (by rw [jlt, j48]; omega) ?_)
    rw [← e]
    refine Pc_if (fun d => Pc_some (Pc_b1S (Pc_iff (by decide) (Pc_ift d (Pc_some ⟨rfl, h, K⟩))))) (fun d => ?_)
    have d' := d
    rw [jlt, j16, n1] at d'
    refine Pc.mono (hrs_l (y1 := a) (by omega) 4000 4000 s t 0 h K (by decide) (by rw [jl0]; omega)) (fun r hr => Pc_b1S (Pc_iff (by decide) (Pc_iff d hr)))
  · rw [in_f c]
    rw [jl1, j48] at c
    refine Pc_if (fun _ => Pc_some (Pc_b1S (Pc_ift rfl (Pc_some ⟨rfl, h, K⟩)))) (fun d => Pc_if (fun _ => Pc_some (Pc_b1S (Pc_ift rfl (Pc_some ⟨rfl, h, K⟩)))) (fun d2 => ?_))
    rw [jlt, jl1] at d
    rw [jlt, j48] at d2
    omega
end HSs
