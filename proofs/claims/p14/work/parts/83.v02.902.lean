/-! what the third relation reads -/
def vS (q k : Nat) : Bool := match q with
  | 0 => Nat.beq k 5 || Nat.beq k 8 || Nat.beq k 14 || Nat.beq k 16 || Nat.beq k 17 || Nat.beq k 18
  | 6 => Nat.beq k 4 || Nat.beq k 10 || Nat.beq k 11 || Nat.beq k 12
  | 15 => Nat.ble k 9
  | 20 => Nat.beq k 2
  | 21 => Nat.beq k 2
  | 22 => Nat.beq k 2
  | 30 => true
  | 59 => Nat.beq k 22 || Nat.beq k 23 || Nat.beq k 24 || Nat.beq k 25 || Nat.beq k 54 || Nat.beq k 55 || Nat.beq k 62 || Nat.beq k 82 || Nat.beq k 83
  | _ => Nat.ble 126 q
def vI (q : Nat) : Bool := match q with
  | 7 => true
  | 8 => true
  | 10 => true
  | 13 => true
  | 16 => true
  | 31 => true
  | 32 => true
  | 33 => true
  | 63 => true
  | 64 => true
  | 65 => true
  | 66 => true
  | 67 => true
  | 68 => true
  | 69 => true
  | 70 => true
  | 71 => true
  | 72 => true
  | 73 => true
  | 74 => true
  | 75 => true
  | 77 => true
  | 79 => true
  | 80 => true
  | 81 => true
  | 82 => true
  | 83 => true
  | 84 => true
  | 85 => true
  | 87 => true
  | 88 => true
  | 89 => true
  | 90 => true
  | 91 => true
  | 92 => true
  | 93 => true
  | 94 => true
  | 102 => true
  | 103 => true
  | 104 => true
  | 105 => true
  | 116 => true
  | 118 => true
  | 120 => true
  | 123 => true
  | _ => Nat.ble 126 q
theorem vS_d {q k : Nat} (h : 126 ≤ q) : vS q k = true := by
  unfold vS
  split <;> first | omega | exact Nat.ble_eq.mpr h
theorem vI_d {q : Nat} (h : 126 ≤ q) : vI q = true := by
  unfold vI
  split <;> first | rfl | exact Nat.ble_eq.mpr h
section QCs
variable {s t s' t' : SS}
theorem HX.c {p i : Nat} (R : HX s p t i) (h1 : ∀ k, zS s' p k = zS s p k) (h2 : ∀ y, zI s' (p + 1) y = zI s (p + 1) y) (h3 : ∀ y, zI s' (p + 2) y = zI s (p + 2) y) (h4 : ∀ y, zI s' (p + 3) y = zI s (p + 3) y) (m : ∀ q j, 63 ≤ q → q ≤ 73 ∨ q = 104 → zI t' q j = zI t q j) : HX s' p t' i := by
  unfold HX
  simp only [h1, h2, h3, h4, m 63 _ (by omega) (by omega), m 64 _ (by omega) (by omega), m 65 _ (by omega) (by omega), m 66 _ (by omega) (by omega), m 67 _ (by omega) (by omega), m 68 _ (by omega) (by omega), m 69 _ (by omega) (by omega), m 70 _ (by omega) (by omega), m 71 _ (by omega) (by omega), m 72 _ (by omega) (by omega), m 73 _ (by omega) (by omega), m 104 _ (by omega) (by omega)]
  exact R
theorem HZ.c {i : Nat} (R : HZ t i) (m : ∀ q j, 63 ≤ q → q ≤ 73 ∨ q = 104 → zI t' q j = zI t q j) : HZ t' i := by
  unfold HZ
  simp only [m 66 _ (by omega) (by omega), m 67 _ (by omega) (by omega), m 68 _ (by omega) (by omega), m 69 _ (by omega) (by omega), m 70 _ (by omega) (by omega), m 71 _ (by omega) (by omega), m 72 _ (by omega) (by omega), m 73 _ (by omega) (by omega), m 104 _ (by omega) (by omega)]
  exact R
theorem QHol.c (R : QHol s t) (S : Sh s) (h1 : ∀ q k, 126 ≤ q → zS s' q k = zS s q k) (h2 : ∀ q j, 126 ≤ q → zI s' q j = zI s q j) (h3 : ∀ i, zR s' 17 i = zR s 17 i) (m : ∀ q j, 63 ≤ q → q ≤ 73 ∨ q = 104 → zI t' q j = zI t q j) : QHol s' t' := by
  obtain ⟨a, b, c, d⟩ := R
  refine ⟨fun i p hi e => ?_, fun i hi e => ?_, fun i j p hi hj e f => c i j p hi hj ((h3 i).symm.trans e) ((h3 j).symm.trans f), fun i hi => ?_⟩
  · have e' := (h3 i).symm.trans e
    have o := (S.2.2.1 i p hi e').1
    exact (a i p hi e').c (fun k => h1 p k o) (fun y => h2 _ y (by omega)) (fun y => h2 _ y (by omega)) (fun y => h2 _ y (by omega)) m
  · exact (b i hi ((h3 i).symm.trans e)).c m
  · rw [m 69 _ (by omega) (by omega)]
    exact d i hi
theorem QMen.c (R : QMen s t) (h7 : ∀ i, zI s' 7 i = zI s 7 i) (h8 : ∀ i, zI s' 8 i = zI s 8 i) (h10 : ∀ i, zI s' 10 i = zI s 10 i) (h16 : ∀ i, zI s' 16 i = zI s 16 i) (h3 : zS s' 15 3 = zS s 15 3) (h4 : zS s' 6 4 = zS s 6 4) (m74 : ∀ i, zI t' 74 i = zI t 74 i) (m75 : ∀ i, zI t' 75 i = zI t 75 i) (m77 : ∀ i, zI t' 77 i = zI t 77 i) : QMen s' t' := by
  unfold QMen
  simp only [h7, h8, h10, h16, h3, h4, m74, m75, m77]
  exact R
theorem QCnt.c (R : QCnt s t) (h0 : ∀ k, k = 16 ∨ k = 17 → zS s' 0 k = zS s 0 k) (h4 : zS s' 15 4 = zS s 15 4) (h3 : ∀ i, zR s' 17 i = zR s 17 i) (m67 : ∀ i, zI t' 67 i = zI t 67 i) (m69 : ∀ i, zI t' 69 i = zI t 69 i) : QCnt s' t' := by
  unfold QCnt
  simp only [h0 16 (by omega), h0 17 (by omega), h4, h3, m67, m69]
  exact R
theorem QFst.c (R : QFst s t) (h18 : zS s' 0 18 = zS s 0 18) (h14 : zS s' 0 14 = zS s 0 14) (m69 : ∀ i, zI t' 69 i = zI t 69 i) : QFst s' t' := by
  unfold QFst
  simp only [h18, h14, m69]
  exact R
theorem QStoH.c (R : QStoH (zS s 0 14).toInt s t) (h30 : ∀ k, zS s' 30 k = zS s 30 k) (h14 : zS s' 0 14 = zS s 0 14) (h : ∀ q i, 31 ≤ q → q ≤ 33 → zI s' q i = zI s q i) (m : ∀ k, k = 54 ∨ k = 55 ∨ k = 62 → zS t' 59 k = zS t 59 k) (n : ∀ q i, 102 ≤ q → q ≤ 103 ∨ q = 105 → zI t' q i = zI t q i) : QStoH (zS s' 0 14).toInt s' t' := by
  unfold QStoH
  simp only [h30, h14, h 31 _ (by omega) (by omega), h 32 _ (by omega) (by omega), h 33 _ (by omega) (by omega), m 54 (by omega), m 55 (by omega), m 62 (by omega), n 102 _ (by omega) (by omega), n 103 _ (by omega) (by omega), n 105 _ (by omega) (by omega)]
  exact R
theorem QRef.c (R : QRef s t) (h : ∀ k, 5 ≤ k → k ≤ 9 → zS s' 15 k = zS s 15 k) (m : ∀ k, 22 ≤ k → k ≤ 25 → zS t' 59 k = zS t 59 k) : QRef s' t' := by
  unfold QRef
  rw [h 5 (by omega) (by omega), h 6 (by omega) (by omega), h 7 (by omega) (by omega), h 8 (by omega) (by omega), h 9 (by omega) (by omega), m 22 (by omega) (by omega), m 23 (by omega) (by omega), m 24 (by omega) (by omega), m 25 (by omega) (by omega)]
  exact R
theorem QBrk.c (R : QBrk s t) (h : ∀ i, i < 3 → zS s' (20 + i) 2 = zS s (20 + i) 2) (m : ∀ i, zI t' 80 i = zI t 80 i) : QBrk s' t' := fun i hi => by
  rw [h i hi, m]
  exact R i hi
theorem QLif.c (R : QLif s t) (h : ∀ k, 10 ≤ k → k ≤ 12 → zS s' 6 k = zS s 6 k) (h13 : ∀ i, zI s' 13 i = zI s 13 i) (m : ∀ k, k = 82 ∨ k = 83 → zS t' 59 k = zS t 59 k) (m116 : ∀ i, zI t' 116 i = zI t 116 i) (m118 : ∀ i, zI t' 118 i = zI t 118 i) : QLif s' t' := by
  unfold QLif
  simp only [h 10 (by omega) (by omega), h 11 (by omega) (by omega), h 12 (by omega) (by omega), h13, m 82 (by omega), m 83 (by omega), m116, m118]
  exact R
theorem QSet.c (R : QSet s t) (h3 : (zS s 15 3).toInt ≤ (zS s' 15 3).toInt) (hR : ∀ i, i < 120 → zR s 17 i ≠ none → zR s' 17 i ≠ none) (b3 : (zS s 15 3).toInt ≤ 120) (m : ∀ i, zI t' 79 i = zI t 79 i) : QSet s' t' := by
  unfold QSet
  simp only [m]
  exact ⟨fun i hi => (R.1 i hi).imp (fun z => z) (fun ⟨z1, z2, z3⟩ => ⟨z1, by omega, hR _ (by omega) z3⟩), R.2⟩
theorem MX.c {p i : Nat} (R : MX s p t i) (h1 : ∀ k, zS s' p k = zS s p k) (h2 : ∀ y, zI s' (p + 1) y = zI s (p + 1) y) (m : ∀ q j, 81 ≤ q → q ≤ 85 → zI t' q j = zI t q j) : MX s' p t' i := by
  unfold MX MXb
  simp only [h1, h2, m 81 _ (by omega) (by omega), m 82 _ (by omega) (by omega), m 83 _ (by omega) (by omega), m 84 _ (by omega) (by omega), m 85 _ (by omega) (by omega)]
  exact R
theorem QCha.c (R : QCha s t) (S : Sh s) (h5 : zS s' 0 5 = zS s 0 5) (h1 : ∀ q k, 126 ≤ q → zS s' q k = zS s q k) (h2 : ∀ q j, 126 ≤ q → zI s' q j = zI s q j) (h3 : ∀ i, zR s' 23 i = zR s 23 i) (m : ∀ q j, 81 ≤ q → q ≤ 85 → zI t' q j = zI t q j) : QCha s' t' := by
  obtain ⟨a, a0, b⟩ := R
  refine ⟨fun i hi hc => ?_, fun i hi hc => by rw [m 84 _ (by omega) (by omega)]; exact a0 i hi (by rw [← h5]; exact hc), fun i j p hi hj e f => b i j p hi hj ((h3 i).symm.trans e) ((h3 j).symm.trans f)⟩
  obtain ⟨p, e, r⟩ := a i hi (by rw [← h5]; exact hc)
  have o := (S.2.2.2.2.1 i p hi e).1
  exact ⟨p, (h3 i).trans e, r.c (fun k => h1 p k o) (fun y => h2 _ y (by omega)) m⟩
theorem TX.c {p i : Nat} (R : TX s p t i) (h1 : ∀ k, zS s' p k = zS s p k) (h2 : ∀ y, zI s' (p + 1) y = zI s (p + 1) y) (h3 : zN s' (p + 1) = zN s (p + 1)) (m : ∀ q j, 87 ≤ q → q ≤ 94 → zI t' q j = zI t q j) : TX s' p t' i := by
  unfold TX TXr
  simp only [h1, h2, h3, m 87 _ (by omega) (by omega), m 88 _ (by omega) (by omega), m 89 _ (by omega) (by omega), m 90 _ (by omega) (by omega), m 91 _ (by omega) (by omega), m 92 _ (by omega) (by omega), m 93 _ (by omega) (by omega), m 94 _ (by omega) (by omega)]
  exact R
theorem QTxt.c (R : QTxt s t) (S : Sh s) (h8 : zS s' 0 8 = zS s 0 8) (h1 : ∀ q k, 126 ≤ q → zS s' q k = zS s q k) (h2 : ∀ q j, 126 ≤ q → zI s' q j = zI s q j) (h3 : ∀ i, zR s' 27 i = zR s 27 i) (hN : ∀ q, 126 ≤ q → zN s' q = zN s q) (m : ∀ q j, 87 ≤ q → q ≤ 94 → zI t' q j = zI t q j) : QTxt s' t' := fun i hi hc => by
  obtain ⟨p, e, r⟩ := R i hi (by rw [← h8]; exact hc)
  have o := (S.2.2.2.2.2.1 i p hi e).1
  exact ⟨p, (h3 i).trans e, r.c (fun k => h1 p k o) (fun y => h2 _ y (by omega)) (hN _ (by omega)) m⟩
theorem QRow.c (R : QRow t) (m : ∀ q i, q = 120 ∨ q = 123 → zI t' q i = zI t q i) (mJ : ∀ i, zJ t' 122 i = zJ t 122 i) : QRow t' := by
  unfold QRow
  simp only [m 120 _ (by omega), m 123 _ (by omega), mJ]
  exact R
theorem QKep.d {h : Int} (R : QKep h t) (m : ∀ i, zI t' 68 i = zI t 68 i) : QKep h t' := fun i hi => by
  rw [m]
  exact R i hi
theorem QKep.c (R : QKep (zS s 0 14).toInt t) (h14 : zS s' 0 14 = zS s 0 14) (m : ∀ i, zI t' 68 i = zI t 68 i) : QKep (zS s' 0 14).toInt t' := fun i hi => by
  rw [h14, m]
  exact R i hi
end QCs
/-- nothing that the relation reads has changed -/
theorem Q4.c {s t s' t' : SS} (Q : Q4 s t) (S : Sh s) (hL : s'.2.2.2 = s.2.2.2) (b3 : (zS s 15 3).toInt ≤ 120) (hS : ∀ q k, vS q k = true → q < 59 ∨ 126 ≤ q → zS s' q k = zS s q k) (hI : ∀ q i, vI q = true → q < 59 ∨ 126 ≤ q → zI s' q i = zI s q i) (mS : ∀ k, vS 59 k = true → zS t' 59 k = zS t 59 k) (mI : ∀ q i, vI q = true → 59 ≤ q → q < 126 → zI t' q i = zI t q i) (mJ : ∀ i, zJ t' 122 i = zJ t 122 i) : Q4 s' t' := by
  obtain ⟨Q1, Q2, Q3, Q5, Q6, Q7, Q8, Q9, Q10, Q11, Q12, Q13, Q14⟩ := Q
  have eR : ∀ q i, zR s' q i = zR s q i := fun q i => by unfold zR; rw [hL]
  have eN : ∀ q, zN s' q = zN s q := fun q => by unfold zN; rw [hL]
  have dS : ∀ q k, 126 ≤ q → zS s' q k = zS s q k := fun q k h => hS q k (vS_d h) (Or.inr h)
  have dI : ∀ q j, 126 ≤ q → zI s' q j = zI s q j := fun q j h => hI q j (vI_d h) (Or.inr h)
  have sS : ∀ q k, q < 59 → vS q k = true → zS s' q k = zS s q k := fun q k h1 h2 => hS q k h2 (Or.inl h1)
  have sI : ∀ q k, q < 59 → vI q = true → zI s' q k = zI s q k := fun q k h1 h2 => hI q k h2 (Or.inl h1)
  refine ⟨Q1.c S dS dI (eR 17) (fun q j h1 h2 => mI q j ?_ (by omega) (by omega)), Q2.c (fun i => sI 7 i (by omega) rfl) (fun i => sI 8 i (by omega) rfl) (fun i => sI 10 i (by omega) rfl) (fun i => sI 16 i (by omega) rfl) (sS 15 3 (by omega) rfl) (sS 6 4 (by omega) rfl) (fun i => mI 74 i rfl (by omega) (by omega)) (fun i => mI 75 i rfl (by omega) (by omega)) (fun i => mI 77 i rfl (by omega) (by omega)), Q3.c (fun k h => sS 0 k (by omega) (by rcases h with rfl | rfl <;> rfl)) (sS 15 4 (by omega) rfl) (eR 17) (fun i => mI 67 i rfl (by omega) (by omega)) (fun i => mI 69 i rfl (by omega) (by omega)), Q5.c (sS 0 18 (by omega) rfl) (sS 0 14 (by omega) rfl) (fun i => mI 69 i rfl (by omega) (by omega)), Q6.c (fun k => sS 30 k (by omega) rfl) (sS 0 14 (by omega) rfl) (fun q i h1 h2 => sI q i (by omega) ?_) (fun k h => mS k (by rcases h with rfl | rfl | rfl <;> rfl)) (fun q i h1 h2 => mI q i ?_ (by omega) (by omega)), Q7.c (fun k h1 h2 => sS 15 k (by omega) (Nat.ble_eq.mpr h2)) (fun k h1 h2 => mS k ?_), Q8.c (fun i hi => sS _ 2 (by omega) ?_) (fun i => mI 80 i rfl (by omega) (by omega)), Q9.c (fun k h1 h2 => sS 6 k (by omega) ?_) (fun i => sI 13 i (by omega) rfl) (fun k h => mS k (by rcases h with rfl | rfl <;> rfl)) (fun i => mI 116 i rfl (by omega) (by omega)) (fun i => mI 118 i rfl (by omega) (by omega)), Q10.c (by rw [sS 15 3 (by omega) rfl]; exact Int.le_refl _) (fun i _ h => by rw [eR]; exact h) b3 (fun i => mI 79 i rfl (by omega) (by omega)), Q11.c S (sS 0 5 (by omega) rfl) dS dI (eR 23) (fun q j h1 h2 => mI q j ?_ (by omega) (by omega)), Q12.c S (sS 0 8 (by omega) rfl) dS dI (eR 27) (fun q _ => eN q) (fun q j h1 h2 => mI q j ?_ (by omega) (by omega)), Q13.c (fun q i h => mI q i (by rcases h with rfl | rfl <;> rfl) (by omega) (by omega)) mJ, Q14.c (sS 0 14 (by omega) rfl) (fun i => mI 68 i rfl (by omega) (by omega))⟩
  · have h : q = 63 ∨ q = 64 ∨ q = 65 ∨ q = 66 ∨ q = 67 ∨ q = 68 ∨ q = 69 ∨ q = 70 ∨ q = 71 ∨ q = 72 ∨ q = 73 ∨ q = 104 := by omega
    rcases h with rfl | rfl | rfl | rfl | rfl | rfl | rfl | rfl | rfl | rfl | rfl | rfl <;> rfl
  · have h : q = 31 ∨ q = 32 ∨ q = 33 := by omega
    rcases h with rfl | rfl | rfl <;> rfl
  · have h : q = 102 ∨ q = 103 ∨ q = 105 := by omega
    rcases h with rfl | rfl | rfl <;> rfl
  · have h : k = 22 ∨ k = 23 ∨ k = 24 ∨ k = 25 := by omega
    rcases h with rfl | rfl | rfl | rfl <;> rfl
  · have h : i = 0 ∨ i = 1 ∨ i = 2 := by omega
    rcases h with rfl | rfl | rfl <;> rfl
  · have h : k = 10 ∨ k = 11 ∨ k = 12 := by omega
    rcases h with rfl | rfl | rfl <;> rfl
  · have h : q = 81 ∨ q = 82 ∨ q = 83 ∨ q = 84 ∨ q = 85 := by omega
    rcases h with rfl | rfl | rfl | rfl | rfl <;> rfl
  · have h : q = 87 ∨ q = 88 ∨ q = 89 ∨ q = 90 ∨ q = 91 ∨ q = 92 ∨ q = 93 ∨ q = 94 := by omega
    rcases h with rfl | rfl | rfl | rfl | rfl | rfl | rfl | rfl <;> rfl
def GQ (s : SS) : Prop := GI s ∧ Q4 s s
theorem GQ.sh {s : SS} (G : GQ s) : Sh s := G.1.1.1.1.1
theorem GQ.b3 {s : SS} (G : GQ s) : 0 ≤ (zS s 15 3).toInt ∧ (zS s 15 3).toInt ≤ 120 := G.1.1.1.f (q := 15) (k := 3) rfl
/-- a method that touches nothing of it -/
theorem GQ.go {WS : List (Nat × Nat)} {WI WJ : List Nat} {s r : SS} (G : GQ s) (G2 : GI r) (F : Frm WS WI WJ s r) (h1 : WS.all (fun p => !vS p.1 p.2) = true) (h2 : WI.all (fun q => !vI q) = true) (h3 : WJ.contains 122 = false) : GQ r := by
  have c1 : ∀ q k, vS q k = true → zS r q k = zS s q k := fun q k h => F.1 q k (by
    cases e : WS.contains (q, k) with
    | false => rfl
    | true =>
      have := List.all_eq_true.mp h1 (q, k) (by simpa using e)
      simp [h] at this)
  have c2 : ∀ q i, vI q = true → zI r q i = zI s q i := fun q i h => F.2.1 q i (by
    cases e : WI.contains q with
    | false => rfl
    | true =>
      have := List.all_eq_true.mp h2 q (by simpa using e)
      simp [h] at this)
  exact ⟨G2, G.2.c G.sh F.2.2.2 G.b3.2 (fun q k h _ => c1 q k h) (fun q i h _ => c2 q i h) (fun k h => c1 59 k h) (fun q i h _ _ => c2 q i h) (fun i => F.2.2.1 122 i h3)⟩
