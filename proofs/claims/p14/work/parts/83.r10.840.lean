/-! SHIFT -/
theorem ix3 {a b : Int32} {x i p : Nat} (ha : a.toInt = (i : Int)) (hb : b.toInt = (p : Int)) (hi : i < 6) (hp : p + x < 60) : ((60 : Int32) * a + b + nI x).toInt = ((60 * i + p + x : Nat) : Int) := by
  have j60 : (60 : Int32).toInt = 60 := rfl
  have tx : (nI x).toInt = (x : Int) := nI_t (by omega)
  have m1 : ((60 : Int32) * a).toInt = 60 * a.toInt := by rw [i32_mul (by rw [j60]; omega) (by rw [j60]; omega), j60]
  have m2 : ((60 : Int32) * a + b).toInt = 60 * a.toInt + b.toInt := by rw [i32_add (by rw [m1]; omega) (by rw [m1]; omega), m1]
  rw [i32_add (by rw [m2, tx]; omega) (by rw [m2, tx]; omega), m2, tx]
  omega
theorem shA {a0 a1 a2 a3 a4 : Int32} {i p m : Nat} {q0 : SS → Option (Int32 × SS)} (ha : a0.toInt = (i : Int)) (hp : a1.toInt = (p : Int)) (hm : a4.toInt = (m : Int)) (hi : i < 6) (hpm : p + m ≤ 60) : ∀ (n : Nat) (t : SS) (j : Nat), j ≤ m → m - j < n → ∃ u, f_X12_shift_L113 q0 a0 a1 a2 a3 a4 n t (nI j) = q0 u ∧ u.1 = t.1 ∧ u.2.2.2 = t.2.2.2 ∧ (∀ q b, zI u q b = if q = 125 ∧ j ≤ b ∧ b < m then zI t 123 (60 * i + p + b) &&& 1 else zI t q b) ∧ (∀ q b, zJ u q b = if q = 124 ∧ j ≤ b ∧ b < m then zJ t 122 (60 * i + p + b) else zJ t q b) ∧ (Iv t → Iv u) := by
  intro n
  induction n with
  | zero => intro t j h1 h2; omega
  | succ n ih =>
    intro t j h1 h2
    have tj : (nI j).toInt = (j : Int) := nI_t (by omega)
    have un : f_X12_shift_L113 q0 a0 a1 a2 a3 a4 (n + 1) t (nI j) = f_X12_shift_L113_b q0 a0 a1 a2 a3 a4 (f_X12_shift_L113 q0 a0 a1 a2 a3 a4 n) t (nI j) := rfl
    rw [un]
    unfold f_X12_shift_L113_b
    by_cases c : j < m
    · have ex := ix3 ha hp hi (x := j) (by omega)
      have gx : inB ((60 : Int32) * a0 + a1 + nI j) 360 := ⟨by omega, by omega⟩
      have gj : inB (nI j) 60 := ⟨by omega, by omega⟩
      have nx : ((60 : Int32) * a0 + a1 + nI j).toInt.toNat = 60 * i + p + j := by omega
      have k1 : nI j + 1 = nI (j + 1) := by
        apply Int32.toInt_inj.1
        rw [i32_add (by rw [tj, jl1]; omega) (by rw [tj, jl1]; omega), tj, jl1, nI_t (by omega)]
        omega
      rw [if_pos (by rw [jlt]; omega), vl, gd_t gx, wl, gd_t gj, st, vl, gd_t gx, vl, gd_t gj, st, vl, k1, nx, show (nI j).toInt.toNat = j by omega]
      obtain ⟨u, h3, h4, h5, h6, h7, h8⟩ := ih (pI (pJ t 124 j (zJ t 122 (60 * i + p + j))) 125 j (zI (pJ t 124 j (zJ t 122 (60 * i + p + j))) 123 (60 * i + p + j) &&& 1)) (j + 1) (by omega) (by omega)
      refine ⟨u, h3, h4, h5, fun q b => ?_, fun q b => ?_, fun I => h8 ((I.wJ).wI (q := 125) (by decide) trivial)⟩
      · rw [h6, zI_pI, if_neg (show ¬ (123 = 125 ∧ 60 * i + p + b = j) by omega), zI_pI]
        by_cases d : q = 125 ∧ j + 1 ≤ b ∧ b < m
        · rw [if_pos d, if_pos ⟨d.1, by omega, d.2.2⟩]; rfl
        · rw [if_neg d]
          by_cases d2 : q = 125 ∧ b = j
          · rw [if_pos d2, if_pos ⟨d2.1, by omega, by omega⟩, d2.2]; rfl
          · rw [if_neg d2, if_neg (by omega)]; rfl
      · rw [h7]
        have e1 : ∀ a b', zJ (pI (pJ t 124 j (zJ t 122 (60 * i + p + j))) 125 j (zI (pJ t 124 j (zJ t 122 (60 * i + p + j))) 123 (60 * i + p + j) &&& 1)) a b' = if a = 124 ∧ b' = j then zJ t 122 (60 * i + p + j) else zJ t a b' := fun _ _ => rfl
        rw [e1, e1, if_neg (show ¬ (122 = 124 ∧ 60 * i + p + b = j) by omega)]
        by_cases d : q = 124 ∧ j + 1 ≤ b ∧ b < m
        · rw [if_pos d, if_pos ⟨d.1, by omega, d.2.2⟩]
        · rw [if_neg d]
          by_cases d2 : q = 124 ∧ b = j
          · rw [if_pos d2, if_pos ⟨d2.1, by omega, by omega⟩, d2.2]
          · rw [if_neg d2, if_neg (by omega)]
    · rw [if_neg (by rw [jlt]; omega)]
      refine ⟨t, rfl, rfl, rfl, fun q b => ?_, fun q b => ?_, fun I => I⟩
      · rw [if_neg (by omega)]
      · rw [if_neg (by omega)]
theorem shB {a2 a3 a4 : Int32} {i p m : Nat} (ha : a2.toInt = (i : Int)) (hp : a3.toInt = (p : Int)) (hm : a4.toInt = (m : Int)) (hi : i < 6) (hpm : p + m ≤ 60) : ∀ (n : Nat) (t : SS) (j : Nat), j ≤ m → m - j < n → ∃ u, f_X12_shift_L171 a2 a3 a4 n t (nI j) = some (a4, u) ∧ u.1 = t.1 ∧ u.2.2.2 = t.2.2.2 ∧ (∀ q b, zI u q b = if q = 123 ∧ 60 * i + p + j ≤ b ∧ b < 60 * i + p + m then zI t 125 (b - (60 * i + p)) &&& 1 else zI t q b) ∧ (∀ q b, zJ u q b = if q = 122 ∧ 60 * i + p + j ≤ b ∧ b < 60 * i + p + m then zJ t 124 (b - (60 * i + p)) else zJ t q b) ∧ (Iv t → Iv u) := by
  intro n
  induction n with
  | zero => intro t j h1 h2; omega
  | succ n ih =>
    intro t j h1 h2
    have tj : (nI j).toInt = (j : Int) := nI_t (by omega)
    have un : f_X12_shift_L171 a2 a3 a4 (n + 1) t (nI j) = f_X12_shift_L171_b a2 a3 a4 (f_X12_shift_L171 a2 a3 a4 n) t (nI j) := rfl
    rw [un]
    unfold f_X12_shift_L171_b
    by_cases c : j < m
    · have ex := ix3 ha hp hi (x := j) (by omega)
      have gx : inB ((60 : Int32) * a2 + a3 + nI j) 360 := ⟨by omega, by omega⟩
      have gj : inB (nI j) 60 := ⟨by omega, by omega⟩
      have nx : ((60 : Int32) * a2 + a3 + nI j).toInt.toNat = 60 * i + p + j := by omega
      have k1 : nI j + 1 = nI (j + 1) := by
        apply Int32.toInt_inj.1
        rw [i32_add (by rw [tj, jl1]; omega) (by rw [tj, jl1]; omega), tj, jl1, nI_t (by omega)]
        omega
      rw [if_pos (by rw [jlt]; omega), gd_t gj, wl, vl, gd_t gx, st, gd_t gj, vl, vl, gd_t gx, st, vl, k1, nx, show (nI j).toInt.toNat = j by omega]
      obtain ⟨u, h3, h4, h5, h6, h7, h8⟩ := ih (pI (pJ t 122 (60 * i + p + j) (zJ t 124 j)) 123 (60 * i + p + j) (zI (pJ t 122 (60 * i + p + j) (zJ t 124 j)) 125 j &&& 1)) (j + 1) (by omega) (by omega)
      refine ⟨u, h3, h4, h5, fun q b => ?_, fun q b => ?_, fun I => h8 ((I.wJ).wI (q := 123) (by decide) trivial)⟩
      · rw [h6, zI_pI, if_neg (show ¬ (125 = 123 ∧ b - (60 * i + p) = 60 * i + p + j) by omega), zI_pI]
        by_cases d : q = 123 ∧ 60 * i + p + (j + 1) ≤ b ∧ b < 60 * i + p + m
        · rw [if_pos d, if_pos ⟨d.1, by omega, d.2.2⟩]; rfl
        · rw [if_neg d]
          by_cases d2 : q = 123 ∧ b = 60 * i + p + j
          · rw [if_pos d2, if_pos ⟨d2.1, by omega, by omega⟩, d2.2, show 60 * i + p + j - (60 * i + p) = j by omega]; rfl
          · rw [if_neg d2, if_neg (by omega)]; rfl
      · rw [h7]
        have e1 : ∀ a b', zJ (pI (pJ t 122 (60 * i + p + j) (zJ t 124 j)) 123 (60 * i + p + j) (zI (pJ t 122 (60 * i + p + j) (zJ t 124 j)) 125 j &&& 1)) a b' = if a = 122 ∧ b' = 60 * i + p + j then zJ t 124 j else zJ t a b' := fun _ _ => rfl
        rw [e1, e1, if_neg (show ¬ (124 = 122 ∧ b - (60 * i + p) = 60 * i + p + j) by omega)]
        by_cases d : q = 122 ∧ 60 * i + p + (j + 1) ≤ b ∧ b < 60 * i + p + m
        · rw [if_pos d, if_pos ⟨d.1, by omega, d.2.2⟩]
        · rw [if_neg d]
          by_cases d2 : q = 122 ∧ b = 60 * i + p + j
          · rw [if_pos d2, if_pos ⟨d2.1, by omega, by omega⟩, d2.2, show 60 * i + p + j - (60 * i + p) = j by omega]
          · rw [if_neg d2, if_neg (by omega)]
    · rw [if_neg (by rw [jlt]; omega)]
      refine ⟨t, rfl, rfl, rfl, fun q b => ?_, fun q b => ?_, fun I => I⟩
      · rw [if_neg (by omega)]
      · rw [if_neg (by omega)]
def HP (s : SS) (i : Nat) (a c : Int32) : Prop := 0 ≤ a.toInt ∧ 0 ≤ c.toInt ∧ a.toInt + c.toInt ≤ (zS s (47 + 2 * i) 3).toInt
theorem hp_t {s : SS} {i : Nat} {a c : Int32} (I : Iv s) (hi : i < 6) (h : HP s i a c) : f_X8_hasPlaces s (47 + 2 * i) a c = some 1 := by
  have hv := I.v3 (okVi hi)
  obtain ⟨h1, h2, h3⟩ := h
  unfold f_X8_hasPlaces
  rw [if_neg (by rw [jlt, jl0]; omega), if_neg (by rw [jlt, jl0]; omega), if_neg (by rw [jlt]; omega), if_neg (by rw [jlt, i32_sub (by omega) (by omega)]; omega)]
theorem hp_f {s : SS} {i : Nat} {a c : Int32} (I : Iv s) (hi : i < 6) (h : ¬ HP s i a c) : f_X8_hasPlaces s (47 + 2 * i) a c = some 0 := by
  have hv := I.v3 (okVi hi)
  unfold HP at h
  unfold f_X8_hasPlaces
  by_cases c1 : a < 0
  · rw [if_pos c1]
  rw [if_neg c1]
  by_cases c2 : c < 0
  · rw [if_pos c2]
  rw [if_neg c2]
  by_cases c3 : zS s (47 + 2 * i) 3 < c
  · rw [if_pos c3]
  rw [jlt, jl0] at c1 c2
  rw [if_neg c3, if_pos]
  rw [jlt] at c3
  rw [jlt, i32_sub (by omega) (by omega)]
  omega
theorem fl1 {f : Int32} (h : f = 0 ∨ f = 1) : (f &&& 1) &&& 1 = f := by
  rcases h with rfl | rfl <;> decide
theorem sa_shift {s : SS} (G : GA s) (a0 : Int32) (a1 : Int32) (a2 : Int32) (a3 : Int32) (a4 : Int32) : ∃ (rx : Int32) (s1 : SS) (rm : Int32) (s2 : SS), f_X11_shift s a0 a1 a2 a3 a4 = some (rx, s1) ∧ f_X12_shift s1 a0 a1 a2 a3 a4 = some (rm, s2) ∧ GA s2 ∧ FrB s s2 ∧ rx = rm := by
  by_cases c : 0 ≤ a0.toInt ∧ a0.toInt < 6
  · by_cases b : 0 ≤ a2.toInt ∧ a2.toInt < 6
    · obtain ⟨i, ei⟩ : ∃ i, i = a0.toInt.toNat := ⟨_, rfl⟩
      obtain ⟨k, ek⟩ : ∃ k, k = a2.toInt.toNat := ⟨_, rfl⟩
      have hi : i < 6 := by omega
      have hk : k < 6 := by omega
      have Ri := G.2.2.2.2.2 i hi
      have Rk := G.2.2.2.2.2 k hk
      have vi := G.1.v3 (okVi hi)
      have vk := G.1.v3 (okVi hk)
      have g0 : inB a0 6 := ⟨c.1, c.2⟩
      have g2 : inB a2 6 := ⟨b.1, b.2⟩
      have X : f_X11_shift s a0 a1 a2 a3 a4 = (if (zS s (47 + 2 * i) 0) = (0 : Int32) then some ((-11), s) else (if (zS s (47 + 2 * k) 0) = (0 : Int32) then some ((-11), s) else (if (zS s (47 + 2 * i) 0) = (2 : Int32) then (if (zS s (47 + 2 * k) 0) = (2 : Int32) then (if (zS s (47 + 2 * i) 2) = (zS s (47 + 2 * k) 2) then (b1 (f_X8_hasPlaces s (47 + 2 * i) a1 a4) fun r10 => (if r10 = (0 : Int32) then some ((-13), s) else (b1 (f_X8_hasPlaces s (47 + 2 * k) a3 a4) fun r12 => (if r12 = (0 : Int32) then some ((-13), s) else (gd (¬ a1 < 0 ∧ ¬ a3 < 0 ∧ ¬ a4 < 0 ∧ a1.toNatClampNeg + a4.toNatClampNeg ≤ 60 ∧ a3.toNatClampNeg + a4.toNatClampNeg ≤ 60) (st (pK s (47 + 2 * i + 1) (47 + 2 * k + 1) a1.toNatClampNeg a3.toNatClampNeg a4.toNatClampNeg) fun s14 => some (a4, s14))))))) else some ((-12), s)) else some ((-12), s)) else some ((-12), s)))) := by
        unfold f_X11_shift
        rw [shelf_t G.1 c, b1_some, on_some, shelf_t G.1 b, b1_some, on_some, ← ei, ← ek]
      have M : ∀ t, f_X12_shift t a0 a1 a2 a3 a4 = (if (zI t 120 i) = ((-1) : Int32) then some ((-11), t) else (if (zI t 120 k) = ((-1) : Int32) then some ((-11), t) else (if (zI t 120 i) < (0 : Int32) then (if (zI t 120 i) = (zI t 120 k) then (if a4 < (0 : Int32) then some ((-13), t) else (if a1 < (0 : Int32) then some ((-13), t) else (if a3 < (0 : Int32) then some ((-13), t) else (if ((zI t 121 i) - a4) < a1 then some ((-13), t) else (if ((zI t 121 k) - a4) < a3 then some ((-13), t) else (f_X12_shift_L113 (fun (s34 : SS)  => (f_X12_shift_L171 a2 a3 a4 4000 s34 0)) a0 a1 a2 a3 a4 4000 t 0)))))) else some ((-12), t)) else some ((-12), t)))) := by
        intro t
        unfold f_X12_shift
        rw [issh_t c, b1_some, if_neg (by decide), issh_t b, b1_some, if_neg (by decide), gd_t g0, gd_t g2, gd_t g0, gd_t g0, gd_t g2, gd_t g0, gd_t g2, ← ei, ← ek]
      rcases Ri.case with R1 | R1 | R1
      · refine ⟨-11, s, -11, s, ?_, ?_, G, FrB.rf, rfl⟩
        · rw [X, if_pos R1.1]
        · rw [M, if_pos R1.2]
      · have n1 : ¬ zI s 120 i = -1 := fun z => by rw [z, jn1] at R1; omega
        rcases Rk.case with Q1 | Q1 | Q1
        · refine ⟨-11, s, -11, s, ?_, ?_, G, FrB.rf, rfl⟩
          · rw [X, if_neg (by rw [R1.1]; decide), if_pos Q1.1]
          · rw [M, if_neg n1, if_pos Q1.2]
        · refine ⟨-12, s, -12, s, ?_, ?_, G, FrB.rf, rfl⟩
          · rw [X, if_neg (by rw [R1.1]; decide), if_neg (by rw [Q1.1]; decide), if_neg (by rw [R1.1]; decide)]
          · rw [M, if_neg n1, if_neg (fun z => by rw [z, jn1] at Q1; omega), if_neg (by rw [jlt, jl0]; omega)]
        · have hn := Rk.neg Q1
          have r2 := (Rk.row Q1).2.1
          refine ⟨-12, s, -12, s, ?_, ?_, G, FrB.rf, rfl⟩
          · rw [X, if_neg (by rw [R1.1]; decide), if_neg (by rw [Q1]; decide), if_neg (by rw [R1.1]; decide)]
          · rw [M, if_neg n1, if_neg (fun z => by rw [z, jn1] at hn; omega), if_neg (by rw [jlt, jl0]; omega)]
      · have hn := Ri.neg R1
        obtain ⟨r1, r2, r3, r4⟩ := Ri.row R1
        have n1 : ¬ zI s 120 i = -1 := fun z => by rw [z, jn1] at hn; omega
        have n2 : zI s 120 i < 0 := by rw [jlt, jl0]; omega
        have nz : ¬ zS s (47 + 2 * i) 0 = 0 := by rw [R1]; decide
        rcases Rk.case with Q1 | Q1 | Q1
        · refine ⟨-11, s, -11, s, ?_, ?_, G, FrB.rf, rfl⟩
          · rw [X, if_neg nz, if_pos Q1.1]
          · rw [M, if_neg n1, if_pos Q1.2]
        · refine ⟨-12, s, -12, s, ?_, ?_, G, FrB.rf, rfl⟩
          · rw [X, if_neg nz, if_neg (by rw [Q1.1]; decide), if_pos R1, if_neg (by rw [Q1.1]; decide)]
          · rw [M, if_neg n1, if_neg (fun z => by rw [z, jn1] at Q1; omega), if_pos n2, if_neg (fun z => by rw [z] at n2; rw [jlt, jl0] at n2; omega)]
        · have hq := Rk.neg Q1
          obtain ⟨q1, q2, q3, q4⟩ := Rk.row Q1
          have m1 : ¬ zI s 120 k = -1 := fun z => by rw [z, jn1] at hq; omega
          have mz : ¬ zS s (47 + 2 * k) 0 = 0 := by rw [Q1]; decide
          by_cases d : zS s (47 + 2 * i) 2 = zS s (47 + 2 * k) 2
          · have d' : zI s 120 i = zI s 120 k := by rw [r1, q1, d]
            by_cases h1 : HP s i a1 a4 ∧ HP s k a3 a4
            · obtain ⟨⟨p1, p2, p3⟩, ⟨p4, p5, p6⟩⟩ := h1
              obtain ⟨sp, esp⟩ : ∃ x, x = a1.toInt.toNat := ⟨_, rfl⟩
              obtain ⟨dp, edp⟩ : ∃ x, x = a3.toInt.toNat := ⟨_, rfl⟩
              obtain ⟨m, em⟩ : ∃ x, x = a4.toInt.toNat := ⟨_, rfl⟩
              obtain ⟨t, et⟩ : ∃ t, t = pK s (47 + 2 * i + 1) (47 + 2 * k + 1) sp dp m := ⟨_, rfl⟩
              have tI : ∀ q, zI t q = zI s q := fun q => by rw [et]; rfl
              have tS : ∀ q x, zS t q x = zS s q x := fun q x => by rw [et]; rfl
              have tR : t.2.2.2 = s.2.2.2 := by rw [et]; rfl
              have tJ : ∀ q x, zJ t q x = if q = 47 + 2 * k + 1 then va_cpy (zJ s (47 + 2 * i + 1)) (zJ s (47 + 2 * k + 1)) sp dp m x else zJ s q x := fun q x => by rw [et]; rfl
              have It : Iv t := by rw [et]; exact G.1.wK
              obtain ⟨u, h3, h4, h5, h6, h7, h8⟩ := shA (a0 := a0) (a1 := a1) (a2 := a2) (a3 := a3) (a4 := a4) (i := i) (p := sp) (m := m) (q0 := fun (s34 : SS)  => (f_X12_shift_L171 a2 a3 a4 4000 s34 0)) (by omega) (by omega) (by omega) hi (by omega) 4000 t 0 (by omega) (by omega)
              obtain ⟨w, k3, k4, k5, k6, k7, k8⟩ := shB (a2 := a2) (a3 := a3) (a4 := a4) (i := k) (p := dp) (m := m) (by omega) (by omega) (by omega) hk (by omega) 4000 u 0 (by omega) (by omega)
              refine ⟨a4, t, a4, w, ?_, ?_, ⟨k8 (h8 It), ?_⟩, ?_, rfl⟩
              · rw [X, if_neg nz, if_neg mz, if_pos R1, if_pos Q1, if_pos d, hp_t G.1 hi ⟨p1, p2, p3⟩, b1_some, if_neg (by decide), hp_t G.1 hk ⟨p4, p5, p6⟩, b1_some, if_neg (by decide), gd_t ⟨by rw [jlt, jl0]; omega, by rw [jlt, jl0]; omega, by rw [jlt, jl0]; omega, by rw [jcl, jcl]; omega, by rw [jcl, jcl]; omega⟩, et, esp, edp, em]
                rfl
              · rw [M, tI, tI, if_neg n1, if_neg m1, if_pos n2, if_pos d', if_neg (by rw [jlt, jl0]; omega), if_neg (by rw [jlt, jl0]; omega), if_neg (by rw [jlt, jl0]; omega), if_neg (by rw [← r3, jlt, i32_sub (by omega) (by omega)]; omega), if_neg (by rw [← q3, jlt, i32_sub (by omega) (by omega)]; omega)]
                exact h3.trans k3
              · have wS : ∀ q x, zS w q x = zS s q x := fun q x => by
                  show w.1 q x = _
                  rw [k4, h4]
                  exact tS q x
                have wI : ∀ q x, q ≠ 123 → q ≠ 125 → zI w q x = zI s q x := fun q x z1 z2 => by rw [k6, if_neg (by omega), h6, if_neg (by omega), tI]
                refine RG.sh (i0 := k) G.2 (fun q x _ _ => wS q x) (fun q j hq _ _ h123 => wI q j h123 (fun z => by rw [z] at hq; exact absurd hq (by decide))) (fun j _ => wI 120 j (by decide) (by decide)) (fun j _ => wI 121 j (by decide) (by decide)) (fun j l hj hl => ?_) (fun j l hj hl => ?_) (fun j l hj hl => ?_) (fun j => ?_) hk ?_
                · rw [k6, if_neg (by omega), h6, if_neg (by omega), tI]
                · rw [k7, if_neg (by omega), h7, if_neg (by omega), tJ, if_neg (by omega)]
                · rw [k7, if_neg (by omega), h7, if_neg (by omega), tJ, if_neg (by omega)]
                · show w.2.2.2.1 17 j = _
                  rw [k5, h5, tR]
                  rfl
                · refine Or.inr (Or.inr ⟨?_, ?_, ?_, ?_, fun j hj => ?_⟩)
                  · rw [wS]; exact Q1
                  · rw [wS, wI 120 k (by decide) (by decide)]; exact q1
                  · rw [wS]; exact q2
                  · rw [wS, wI 121 k (by decide) (by decide)]; exact q3
                  · have E2 : zJ w (48 + 2 * k) j = if dp ≤ j ∧ j < dp + m then zJ s (48 + 2 * i) (sp + (j - dp)) else zJ s (48 + 2 * k) j := by
                      rw [k7, if_neg (by omega), h7, if_neg (by omega), tJ, if_pos (by omega), show 47 + 2 * i + 1 = 48 + 2 * i by omega, show 47 + 2 * k + 1 = 48 + 2 * k by omega]
                      rfl
                    by_cases z : dp ≤ j ∧ j < dp + m
                    · have y := r4 (sp + (j - dp)) (by omega)
                      have E1 : zI w 123 (60 * k + j) = zI s 123 (60 * i + (sp + (j - dp))) := by
                        rw [k6, if_pos ⟨rfl, by omega, by omega⟩, h6, if_pos ⟨rfl, by omega, by omega⟩, tI, show 60 * i + sp + (60 * k + j - (60 * k + dp)) = 60 * i + (sp + (j - dp)) by omega]
                        exact fl1 (y.imp (fun z => z.1) (fun z => z.1))
                      have E3 : zJ w 122 (60 * k + j) = zJ s 122 (60 * i + (sp + (j - dp))) := by
                        rw [k7, if_pos ⟨rfl, by omega, by omega⟩, h7, if_pos ⟨rfl, by omega, by omega⟩, tJ, if_neg (by omega), show 60 * i + sp + (60 * k + j - (60 * k + dp)) = 60 * i + (sp + (j - dp)) by omega]
                      rw [if_pos z] at E2
                      rw [E1, E2, E3]
                      exact y
                    · have E1 : zI w 123 (60 * k + j) = zI s 123 (60 * k + j) := by rw [k6, if_neg (by omega), h6, if_neg (by omega), tI]
                      have E3 : zJ w 122 (60 * k + j) = zJ s 122 (60 * k + j) := by rw [k7, if_neg (by omega), h7, if_neg (by omega), tJ, if_neg (by omega)]
                      rw [if_neg z] at E2
                      rw [E1, E2, E3]
                      exact q4 j hj
              · refine ⟨fun q x e => ?_, fun q x e => ?_⟩
                · show w.1 q x = _
                  rw [k4, h4]
                  exact tS q x
                · rw [k6, if_neg (fun z => by rw [z.1] at e; exact absurd e (by decide)), h6, if_neg (fun z => by rw [z.1] at e; exact absurd e (by decide)), tI]
            · refine ⟨-13, s, -13, s, ?_, ?_, G, FrB.rf, rfl⟩
              · rw [X, if_neg nz, if_neg mz, if_pos R1, if_pos Q1, if_pos d]
                by_cases h2 : HP s i a1 a4
                · rw [hp_t G.1 hi h2, b1_some, if_neg (by decide), hp_f G.1 hk (fun z => h1 ⟨h2, z⟩), b1_some, if_pos rfl]
                · rw [hp_f G.1 hi h2, b1_some, if_pos rfl]
              · rw [M, if_neg n1, if_neg m1, if_pos n2, if_pos d']
                unfold HP at h1
                by_cases y1 : a4 < 0
                · rw [if_pos y1]
                rw [if_neg y1]
                by_cases y2 : a1 < 0
                · rw [if_pos y2]
                rw [if_neg y2]
                by_cases y3 : a3 < 0
                · rw [if_pos y3]
                rw [if_neg y3]
                rw [jlt, jl0] at y1 y2 y3
                have l4 := jlo a4
                by_cases y4 : zI s 121 i - a4 < a1
                · rw [if_pos y4]
                rw [if_neg y4, if_pos]
                rw [← r3, jlt, i32_sub (by omega) (by omega)] at y4
                rw [← q3, jlt, i32_sub (by omega) (by omega)]
                omega
          · refine ⟨-12, s, -12, s, ?_, ?_, G, FrB.rf, rfl⟩
            · rw [X, if_neg nz, if_neg mz, if_pos R1, if_pos Q1, if_neg d]
            · rw [M, if_neg n1, if_neg m1, if_pos n2, if_neg]
              intro z
              apply d
              apply Int32.toInt_inj.1
              rw [z] at hn
              omega
    · refine ⟨-1, s, -1, s, ?_, ?_, G, FrB.rf, rfl⟩
      · unfold f_X11_shift
        rw [shelf_t G.1 c, b1_some, on_some, shelf_f b, b1_some, on_none]
      · unfold f_X12_shift
        rw [issh_t c, b1_some, if_neg (by decide), issh_f b, b1_some, if_pos rfl]
  · refine ⟨-1, s, -1, s, ?_, ?_, G, FrB.rf, rfl⟩
    · unfold f_X11_shift
      rw [shelf_f c, b1_some, on_none]
      by_cases b : 0 ≤ a2.toInt ∧ a2.toInt < 6
      · rw [shelf_t G.1 b, b1_some, on_some]
      · rw [shelf_f b, b1_some, on_none]
    · unfold f_X12_shift
      rw [issh_f c, b1_some, if_pos rfl]
