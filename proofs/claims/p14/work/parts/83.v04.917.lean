/-! EATING -/
theorem QStoH.d {h : Int} {s t s' t' : SS} (R : QStoH h s t) (h30 : ∀ k, zS s' 30 k = zS s 30 k) (h1 : ∀ q i, 31 ≤ q → q ≤ 33 → zI s' q i = zI s q i) (m : ∀ k, k = 54 ∨ k = 55 ∨ k = 62 → zS t' 59 k = zS t 59 k) (n : ∀ q i, 102 ≤ q → q ≤ 103 ∨ q = 105 → zI t' q i = zI t q i) : QStoH h s' t' := by
  unfold QStoH
  simp only [h30, h1 31 _ (by omega) (by omega), h1 32 _ (by omega) (by omega), h1 33 _ (by omega) (by omega), m 54 (by omega), m 55 (by omega), m 62 (by omega), n 102 _ (by omega) (by omega), n 103 _ (by omega) (by omega), n 105 _ (by omega) (by omega)]
  exact R
/-- nothing that the relation reads has changed -/
theorem Q4h.c {h : Int} {s t s' t' : SS} (Q : Q4h h s t) (S : Sh s) (hL : s'.2.2.2 = s.2.2.2) (b3 : (zS s 15 3).toInt ≤ 120) (hS : ∀ q k, vS q k = true → q < 59 ∨ 126 ≤ q → zS s' q k = zS s q k) (hI : ∀ q i, vI q = true → q < 59 ∨ 126 ≤ q → zI s' q i = zI s q i) (mS : ∀ k, vS 59 k = true → zS t' 59 k = zS t 59 k) (mI : ∀ q i, vI q = true → 59 ≤ q → q < 126 → zI t' q i = zI t q i) (mJ : ∀ i, zJ t' 122 i = zJ t 122 i) : Q4h h s' t' := by
  obtain ⟨Q1, Q2, Q3, Q5, Q6, Q7, Q8, Q9, Q10, Q11, Q12, Q13, Q14⟩ := Q
  have eR : ∀ q i, zR s' q i = zR s q i := fun q i => by unfold zR; rw [hL]
  have eN : ∀ q, zN s' q = zN s q := fun q => by unfold zN; rw [hL]
  have dS : ∀ q k, 126 ≤ q → zS s' q k = zS s q k := fun q k h => hS q k (vS_d h) (Or.inr h)
  have dI : ∀ q j, 126 ≤ q → zI s' q j = zI s q j := fun q j h => hI q j (vI_d h) (Or.inr h)
  have sS : ∀ q k, q < 59 → vS q k = true → zS s' q k = zS s q k := fun q k h1 h2 => hS q k h2 (Or.inl h1)
  have sI : ∀ q k, q < 59 → vI q = true → zI s' q k = zI s q k := fun q k h1 h2 => hI q k h2 (Or.inl h1)
  refine ⟨Q1.c S dS dI (eR 17) (fun q j h1 h2 => mI q j ?_ (by omega) (by omega)), Q2.c (fun i => sI 7 i (by omega) rfl) (fun i => sI 8 i (by omega) rfl) (fun i => sI 10 i (by omega) rfl) (fun i => sI 16 i (by omega) rfl) (sS 15 3 (by omega) rfl) (sS 6 4 (by omega) rfl) (fun i => mI 74 i rfl (by omega) (by omega)) (fun i => mI 75 i rfl (by omega) (by omega)) (fun i => mI 77 i rfl (by omega) (by omega)), Q3.c (fun k h => sS 0 k (by omega) (by rcases h with rfl | rfl <;> rfl)) (sS 15 4 (by omega) rfl) (eR 17) (fun i => mI 67 i rfl (by omega) (by omega)) (fun i => mI 69 i rfl (by omega) (by omega)), Q5.c (sS 0 18 (by omega) rfl) (sS 0 14 (by omega) rfl) (fun i => mI 69 i rfl (by omega) (by omega)), Q6.d (fun k => sS 30 k (by omega) rfl) (fun q i h1 h2 => sI q i (by omega) ?_) (fun k h => mS k (by rcases h with rfl | rfl | rfl <;> rfl)) (fun q i h1 h2 => mI q i ?_ (by omega) (by omega)), Q7.c (fun k h1 h2 => sS 15 k (by omega) (Nat.ble_eq.mpr h2)) (fun k h1 h2 => mS k ?_), Q8.c (fun i hi => sS _ 2 (by omega) ?_) (fun i => mI 80 i rfl (by omega) (by omega)), Q9.c (fun k h1 h2 => sS 6 k (by omega) ?_) (fun i => sI 13 i (by omega) rfl) (fun k h => mS k (by rcases h with rfl | rfl <;> rfl)) (fun i => mI 116 i rfl (by omega) (by omega)) (fun i => mI 118 i rfl (by omega) (by omega)), Q10.c (by rw [sS 15 3 (by omega) rfl]; exact Int.le_refl _) (fun i _ h => by rw [eR]; exact h) b3 (fun i => mI 79 i rfl (by omega) (by omega)), Q11.c S (sS 0 5 (by omega) rfl) dS dI (eR 23) (fun q j h1 h2 => mI q j ?_ (by omega) (by omega)), Q12.c S (sS 0 8 (by omega) rfl) dS dI (eR 27) (fun q _ => eN q) (fun q j h1 h2 => mI q j ?_ (by omega) (by omega)), Q13.c (fun q i h => mI q i (by rcases h with rfl | rfl <;> rfl) (by omega) (by omega)) mJ, Q14.d (fun i => mI 68 i rfl (by omega) (by omega))⟩
  · have h : q = 63 ∨ q = 64 ∨ q = 65 ∨ q = 66 ∨ q = 67 ∨ q = 68 ∨ q = 69 ∨ q = 70 ∨ q = 71 ∨ q = 72 ∨ q = 73 ∨ q = 104 := by omega
    rcases h with rfl | rfl | rfl | rfl | rfl | rfl | rfl | rfl | rfl | rfl | rfl | rfl <;> rfl
  · have h : q = 31 ∨ q = 32 ∨ q = 33 := by omega
    rcases h with rfl | rfl | rfl <;> rfl
  · have h : q = 102 ∨ q = 103 ∨ q = 105 := by omega
    rcases h with rfl | rfl | rfl <;> rfl
  · have h : k = 22 ∨ k = 23 ∨ k = 24 ∨ k = 25 := by omega
    rcases h with rfl | rfl | rfl | rfl <;> rfl
  · have h : i = 0 ∨ i = 1 ∨ i = 2 := by omega
    rcases h with rfl | rfl | rfl <;> rfl
  · have h : k = 10 ∨ k = 11 ∨ k = 12 := by omega
    rcases h with rfl | rfl | rfl <;> rfl
  · have h : q = 81 ∨ q = 82 ∨ q = 83 ∨ q = 84 ∨ q = 85 := by omega
    rcases h with rfl | rfl | rfl | rfl | rfl <;> rfl
  · have h : q = 87 ∨ q = 88 ∨ q = 89 ∨ q = 90 ∨ q = 91 ∨ q = 92 ∨ q = 93 ∨ q = 94 := by omega
    rcases h with rfl | rfl | rfl | rfl | rfl | rfl | rfl | rfl <;> rfl
/-- by frames -/
theorem Q4h.f {h : Int} {WS WS' : List (Nat × Nat)} {WI WJ WI' WJ' : List Nat} {s t s' t' : SS} (Q : Q4h h s t) (S : Sh s) (b3 : (zS s 15 3).toInt ≤ 120) (F : Frm WS WI WJ s s') (G : Frm WS' WI' WJ' t t') (h1 : WS.all (fun p => !vS p.1 p.2) = true) (h2 : WI.all (fun q => !vI q) = true) (h3 : WS'.all (fun p => !vS p.1 p.2) = true) (h4 : WI'.all (fun q => !vI q) = true) (h5 : WJ'.contains 122 = false) : Q4h h s' t' := by
  refine Q.c S F.2.2.2 b3 (fun q k e _ => F.1 q k (nct h1 ?_)) (fun q i e _ => F.2.1 q i (nct h2 ?_)) (fun k e => G.1 59 k (nct h3 ?_)) (fun q i e _ _ => G.2.1 q i (nct h4 ?_)) (fun i => G.2.2.1 122 i h5)
  · show (!vS q k) = false
    rw [e]; rfl
  · show (!vI q) = false
    rw [e]; rfl
  · show (!vS 59 k) = false
    rw [e]; rfl
  · show (!vI q) = false
    rw [e]; rfl
def bS (q k : Nat) : Bool := match q with
  | 0 => Nat.beq k 5 || Nat.beq k 8 || Nat.beq k 14 || Nat.beq k 15
  | 1 => Nat.beq k 4
  | 15 => Nat.beq k 3 || Nat.beq k 5
  | 20 => Nat.ble k 1
  | 21 => Nat.ble k 1
  | 22 => Nat.ble k 1
  | 59 => Nat.beq k 1 || Nat.beq k 4 || Nat.beq k 21 || Nat.beq k 29 || Nat.beq k 30 || Nat.beq k 38 || Nat.beq k 56
  | _ => Nat.ble 126 q
def bI (q : Nat) : Bool := match q with
  | 2 => true
  | 3 => true
  | 4 => true
  | 5 => true
  | 9 => true
  | 16 => true
  | 60 => true
  | 61 => true
  | 62 => true
  | 76 => true
  | 78 => true
  | 79 => true
  | 97 => true
  | 98 => true
  | _ => false
theorem bS_d {q k : Nat} (h : 126 ≤ q) : bS q k = true := by
  unfold bS
  split <;> first | omega | exact Nat.ble_eq.mpr h
theorem B1.f {WS WS' : List (Nat × Nat)} {WI WJ WI' WJ' : List Nat} {s t s' t' : SS} (B : B1 s t) (F : Frm WS WI WJ s s') (G : Frm WS' WI' WJ' t t') (h1 : WS.all (fun p => !bS p.1 p.2) = true) (h2 : WI.all (fun q => !bI q) = true) (h3 : WS'.all (fun p => !bS p.1 p.2) = true) (h4 : WI'.all (fun q => !bI q) = true) (hb : ∀ q k v, WS.contains (q, k) = true → bF q k v) : B1 s' t' := by
  have eS : ∀ q k, bS q k = true → zS s' q k = zS s q k := fun q k e => F.1 q k (nct h1 (by show (!bS q k) = false; rw [e]; rfl))
  have eI : ∀ q i, bI q = true → zI s' q i = zI s q i := fun q i e => F.2.1 q i (nct h2 (by show (!bI q) = false; rw [e]; rfl))
  have mS : ∀ k, bS 59 k = true → zS t' 59 k = zS t 59 k := fun k e => G.1 59 k (nct h3 (by show (!bS 59 k) = false; rw [e]; rfl))
  have mI : ∀ q i, bI q = true → zI t' q i = zI t q i := fun q i e => G.2.1 q i (nct h4 (by show (!bI q) = false; rw [e]; rfl))
  obtain ⟨⟨⟨a1, a2, a3, a4, a5⟩, b, c, d, e, f, g, k⟩, ⟨t1, t2, t3, t4, t5⟩, kx, cx⟩ := B
  refine ⟨⟨⟨by rw [eS 15 3 rfl, mS 4 rfl]; exact a1, by rw [eS 15 5 rfl, mS 21 rfl]; exact a2, by rw [eS 0 5 rfl, mS 30 rfl]; exact a3, by rw [eS 0 8 rfl, mS 38 rfl]; exact a4, by rw [eS 0 15 rfl, mS 29 rfl]; exact a5⟩, fun x => by rw [eI 16 x rfl, mI 62 x rfl]; exact b x, fun x => by rw [eI 9 x rfl, mI 76 x rfl]; exact c x, fun x hx => ?_, e.c (eS 15 3 rfl) (fun i => eI 16 i rfl) (fun i => F.zR_ 17 i), F.Sh_ f, fun q k' hq => ?_, fun q k' hT => ?_⟩, ⟨by rw [eS 0 14 rfl, mS 1 rfl]; exact t1, by rw [eS 1 4 rfl, mS 56 rfl]; exact t2, fun x => by rw [eI 4 x rfl, mI 97 x rfl]; exact t3 x, fun x => by rw [eI 5 x rfl, mI 98 x rfl]; exact t4 x, by rw [eS 0 14 rfl]; exact t5⟩, fun x y h1 h2 h3 => by rw [eI 2 _ rfl, eI 3 _ rfl, mI 60 _ rfl, mI 61 _ rfl]; exact kx x y h1 h2 h3, fun x => by rw [mI 97 x rfl]; exact cx x⟩
  · have h : x = 0 ∨ x = 1 ∨ x = 2 := by omega
    have u0 : zS s' (20 + x) 0 = zS s (20 + x) 0 := eS _ _ (by rcases h with rfl | rfl | rfl <;> rfl)
    have u1 : zS s' (20 + x) 1 = zS s (20 + x) 1 := eS _ _ (by rcases h with rfl | rfl | rfl <;> rfl)
    rw [u0, u1, mI 78 x rfl, mI 79 x rfl]
    exact d x hx
  · cases ec : WS.contains (q, k') with
    | true => exact hb q k' _ ec
    | false => rw [F.1 q k' ec]; exact g q k' hq
  · have hT' : zT s q = 3 := by
      have : zT s' q = zT s q := by unfold zT; rw [F.2.2.2]
      rw [← this]; exact hT
    by_cases hq : 126 ≤ q
    · rw [eS q k' (bS_d hq)]; exact k q k' hT'
    · exfalso
      have := (f.2.1 q (by omega)).1
      rw [hT'] at this
      have h126 : ∀ q, q < 126 → T0 q ≠ 3 := by decide +kernel
      exact h126 q (by omega) this.symm
/-- the text in force does not change by what is eaten -/
theorem fst_c {t t' : SS} (h4 : zS t' 59 4 = zS t 59 4) (h69 : ∀ i, zI t' 69 i = zI t 69 i) : ∀ (n : Nat) (x1 x2 : Int32), f_X12_firstThrough_L6 t' n x1 x2 = f_X12_firstThrough_L6 t n x1 x2
  | 0, _, _ => rfl
  | n + 1, x1, x2 => by
    show f_X12_firstThrough_L6_b t' (f_X12_firstThrough_L6 t' n) x1 x2 = f_X12_firstThrough_L6_b t (f_X12_firstThrough_L6 t n) x1 x2
    unfold f_X12_firstThrough_L6_b
    simp only [h4, h69, fst_c h4 h69 n]
theorem frc_c1 {t t' : SS} {y1 y2 y3 y4 : Int32} (h : ∀ q i, 87 ≤ q → q ≤ 89 → zI t' q i = zI t q i) : ∀ (n : Nat) (x : Int32), f_X12_forceOf_L23 t' y1 y2 y3 y4 n x = f_X12_forceOf_L23 t y1 y2 y3 y4 n x
  | 0, _ => rfl
  | n + 1, x => by
    show f_X12_forceOf_L23_b t' y1 y2 y3 y4 (f_X12_forceOf_L23 t' y1 y2 y3 y4 n) x = f_X12_forceOf_L23_b t y1 y2 y3 y4 (f_X12_forceOf_L23 t y1 y2 y3 y4 n) x
    unfold f_X12_forceOf_L23_b
    simp only [h 87 _ (by omega) (by omega), h 88 _ (by omega) (by omega), h 89 _ (by omega) (by omega), frc_c1 h n]
theorem frc_c {t t' : SS} {w a b : Int32} (h4 : zS t' 59 4 = zS t 59 4) (h38 : zS t' 59 38 = zS t 59 38) (h69 : ∀ i, zI t' 69 i = zI t 69 i) (h : ∀ q i, 87 ≤ q → q ≤ 89 → zI t' q i = zI t q i) : f_X12_forceOf t' w a b = f_X12_forceOf t w a b := by
  unfold f_X12_forceOf f_X12_firstThrough
  simp only [fst_c h4 h69, frc_c1 h, h38]
