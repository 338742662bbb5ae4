/-! MACHINES ON HOLES -/
theorem body_t {s : SS} {a : Int32} (I : Iv s) (h : 0 ≤ a.toInt ∧ a.toInt < (zS s 59 4).toInt) : f_X12_isBody s a = some 1 := by
  have hf : 0 ≤ (zS s 59 4).toInt ∧ (zS s 59 4).toInt ≤ 120 := I.f (q := 59) (k := 4) rfl
  unfold f_X12_isBody
  rw [in_t (by rw [jl0, i32_sub (by rw [jl1]; omega) (by rw [jl1]; omega), jl1]; omega)]
  rfl
theorem body_f {s : SS} {a : Int32} (I : Iv s) (h : ¬ (0 ≤ a.toInt ∧ a.toInt < (zS s 59 4).toInt)) : f_X12_isBody s a = some 0 := by
  have hf : 0 ≤ (zS s 59 4).toInt ∧ (zS s 59 4).toInt ≤ 120 := I.f (q := 59) (k := 4) rfl
  unfold f_X12_isBody
  rw [in_f (by rw [jl0, i32_sub (by rw [jl1]; omega) (by rw [jl1]; omega), jl1]; omega)]
  rfl
theorem kind_t {s : SS} {a : Int32} (I : Iv s) (h : 0 ≤ a.toInt ∧ a.toInt < (zS s 15 3).toInt) : f_X0_kindOf s a = some (zI s 16 a.toInt.toNat) := by
  have hf : 0 ≤ (zS s 15 3).toInt ∧ (zS s 15 3).toInt ≤ 120 := I.f (q := 15) (k := 3) rfl
  unfold f_X0_kindOf
  rw [if_neg (by rw [jlt, jl0]; omega), if_pos (by rw [jlt]; omega), gd_t ⟨by omega, by omega⟩]
theorem kind_f {s : SS} {a : Int32} (h : ¬ (0 ≤ a.toInt ∧ a.toInt < (zS s 15 3).toInt)) : f_X0_kindOf s a = some (-1) := by
  unfold f_X0_kindOf
  by_cases c : a < 0
  · rw [if_pos c]
  · rw [if_neg c, if_neg (by rw [jlt]; rw [jlt, jl0] at c; omega)]
def HB (s : SS) (a : Int32) : Prop := (0 ≤ a.toInt ∧ a.toInt < (zS s 15 3).toInt) ∧ isH (zI s 16 a.toInt.toNat)
theorem under2_t {v : Int32} (h : isH v) : f_X12_isUnder v 2 = some 1 := by
  rcases h with rfl | rfl | rfl | rfl <;> decide
theorem under2_f {v : Int32} (h : ¬ isH v) : f_X12_isUnder v 2 = some 0 := by
  unfold f_X12_isUnder
  have h2 : ¬ v = 2 := fun z => h (Or.inl z)
  have h3 : ¬ v = 3 := fun z => h (Or.inr (Or.inl z))
  have h4 : ¬ v = 4 := fun z => h (Or.inr (Or.inr (Or.inl z)))
  have h5 : ¬ v = 5 := fun z => h (Or.inr (Or.inr (Or.inr z)))
  rw [if_neg (by decide), if_neg h2, if_neg (by decide), if_pos rfl, if_neg h3, if_neg h4, if_neg h5]
theorem hole_t {s : SS} {a : Int32} (G : GA s) (h : HB s a) : (∃ p, f_X0_holeOf s a = some (some p)) ∧ f_X12_isHole s a = some 1 := by
  have hf : 0 ≤ (zS s 15 3).toInt ∧ (zS s 15 3).toInt ≤ 120 := G.1.f (q := 15) (k := 3) rfl
  obtain ⟨h1, h2⟩ := h
  have e := G.2.1.2.2.1
  refine ⟨?_, ?_⟩
  · unfold f_X0_holeOf
    rw [if_neg (by rw [jlt, jl0]; omega), if_pos (by rw [jlt]; omega), gd_t ⟨by omega, by omega⟩]
    cases hz : zR s 17 a.toInt.toNat with
    | none => exact absurd ⟨by omega, h2⟩ ((G.2.2.2.2.1 _ (by omega)).1 hz)
    | some p => exact ⟨p, rfl⟩
  · unfold f_X12_isHole
    rw [body_t G.1 (by rw [← e]; exact h1), b1_some, if_neg (by decide), gd_t ⟨by omega, by omega⟩, under2_t (by rw [← G.2.2.1.2.1]; exact h2), b1_some, if_neg (by decide)]
theorem hole_f {s : SS} {a : Int32} (G : GA s) (h : ¬ HB s a) : f_X0_holeOf s a = some none ∧ f_X12_isHole s a = some 0 := by
  have hf : 0 ≤ (zS s 15 3).toInt ∧ (zS s 15 3).toInt ≤ 120 := G.1.f (q := 15) (k := 3) rfl
  have e := G.2.1.2.2.1
  by_cases c : 0 ≤ a.toInt ∧ a.toInt < (zS s 15 3).toInt
  · have h2 : ¬ isH (zI s 16 a.toInt.toNat) := fun z => h ⟨c, z⟩
    refine ⟨?_, ?_⟩
    · unfold f_X0_holeOf
      rw [if_neg (by rw [jlt, jl0]; omega), if_pos (by rw [jlt]; omega), gd_t ⟨by omega, by omega⟩, (G.2.2.2.2.1 _ (by omega)).2 (fun z => h2 z.2)]
      rfl
    · unfold f_X12_isHole
      rw [body_t G.1 (by rw [← e]; exact c), b1_some, if_neg (by decide), gd_t ⟨by omega, by omega⟩, under2_f (by rw [← G.2.2.1.2.1]; exact h2), b1_some, if_pos rfl]
  · refine ⟨?_, ?_⟩
    · unfold f_X0_holeOf
      by_cases d : a < 0
      · rw [if_pos d]
      · rw [if_neg d, if_neg (by rw [jlt]; rw [jlt, jl0] at d; omega)]
    · unfold f_X12_isHole
      rw [body_f G.1 (by rw [← e]; exact c), b1_some, if_pos rfl]
/-- another machine stands there -/
def Bz (s : SS) (a0 a1 : Int32) (j : Nat) : Prop := ∃ x, j ≤ x ∧ x < 3 ∧ nI x ≠ a0 ∧ a1 ≠ -1 ∧ zS s (20 + x) 1 = a1
theorem Bz.step {s : SS} {a0 a1 : Int32} {j : Nat} (h : ¬ (nI j ≠ a0 ∧ a1 ≠ -1 ∧ zS s (20 + j) 1 = a1)) : Bz s a0 a1 j ↔ Bz s a0 a1 (j + 1) := by
  constructor
  · rintro ⟨x, h1, h2, h3⟩
    by_cases c : x = j
    · rw [c] at h3; exact absurd h3 h
    · exact ⟨x, by omega, h2, h3⟩
  · rintro ⟨x, h1, h2, h3⟩
    exact ⟨x, by omega, h2, h3⟩
theorem setx {s : SS} (I : Iv s) {q0 : Option (Int32 × SS)} {a0 a1 : Int32} {p : Nat} : ∀ (n j : Nat), j ≤ 3 → 3 - j < n → (Bz s a0 a1 j → f_X11_set_L32 q0 s a0 a1 p n (nI j) = some (-2000000000, s)) ∧ (¬ Bz s a0 a1 j → f_X11_set_L32 q0 s a0 a1 p n (nI j) = q0) := by
  intro n
  induction n with
  | zero => intro j h1 h2; omega
  | succ n ih =>
    intro j h1 h2
    have tj : (nI j).toInt = (j : Int) := nI_t (by omega)
    have un : f_X11_set_L32 q0 s a0 a1 p (n + 1) (nI j) = f_X11_set_L32_b q0 s a0 a1 p (f_X11_set_L32 q0 s a0 a1 p n) (nI j) := rfl
    rw [un]
    unfold f_X11_set_L32_b
    by_cases c : j = 3
    · rw [if_neg (by rw [jlt, jl3]; omega)]
      exact ⟨fun ⟨x, h3, h4, _⟩ => by omega, fun _ => rfl⟩
    · rw [if_pos (by rw [jlt, jl3]; omega)]
      have k1 : nI j + 1 = nI (j + 1) := by
        apply Int32.toInt_inj.1
        rw [i32_add (by rw [tj, jl1]; omega) (by rw [tj, jl1]; omega), tj, jl1, nI_t (by omega)]
        omega
      have ihj := ih (j + 1) (by omega) (by omega)
      have sk : ¬ (nI j ≠ a0 ∧ a1 ≠ -1 ∧ zS s (20 + j) 1 = a1) → (Bz s a0 a1 j → f_X11_set_L32 q0 s a0 a1 p n (nI j + 1) = some (-2000000000, s)) ∧ (¬ Bz s a0 a1 j → f_X11_set_L32 q0 s a0 a1 p n (nI j + 1) = q0) := fun h => by
        rw [k1, Bz.step h]
        exact ihj
      dsimp only [jn, vl]
      by_cases d : nI j = a0
      · rw [if_pos d]
        exact sk (fun z => z.1 d)
      rw [if_neg d]
      by_cases e : a1 = -1
      · rw [if_pos e]
        exact sk (fun z => z.2.1 e)
      rw [if_neg e, gd_t ⟨by omega, by omega⟩, show (nI j).toInt.toNat = j by omega, I.1.1.2.2.2.1 j (by omega), on_some]
      by_cases f : zS s (20 + j) 1 = a1
      · rw [if_pos f]
        exact ⟨fun _ => rfl, fun z => absurd ⟨j, Nat.le_refl _, by omega, d, e, f⟩ z⟩
      · rw [if_neg f]
        exact sk (fun z => f z.2.2)
theorem setm {s t : SS} (R : ∀ j, j < 3 → zI t 79 j = zS s (20 + j) 1) {q0 : Option (Int32 × SS)} {a0 a1 : Int32} (ha : a1 = -1 ∨ 0 ≤ a1.toInt) : ∀ (n j : Nat), j ≤ 3 → 3 - j < n → (Bz s a0 a1 j → f_X12_set_L26 q0 t a0 a1 n (nI j) = some (-2000000000, t)) ∧ (¬ Bz s a0 a1 j → f_X12_set_L26 q0 t a0 a1 n (nI j) = q0) := by
  intro n
  induction n with
  | zero => intro j h1 h2; omega
  | succ n ih =>
    intro j h1 h2
    have tj : (nI j).toInt = (j : Int) := nI_t (by omega)
    have un : f_X12_set_L26 q0 t a0 a1 (n + 1) (nI j) = f_X12_set_L26_b q0 t a0 a1 (f_X12_set_L26 q0 t a0 a1 n) (nI j) := rfl
    rw [un]
    unfold f_X12_set_L26_b
    by_cases c : j = 3
    · rw [if_neg (by rw [jlt, jl3]; omega)]
      exact ⟨fun ⟨x, h3, h4, _⟩ => by omega, fun _ => rfl⟩
    · rw [if_pos (by rw [jlt, jl3]; omega)]
      have k1 : nI j + 1 = nI (j + 1) := by
        apply Int32.toInt_inj.1
        rw [i32_add (by rw [tj, jl1]; omega) (by rw [tj, jl1]; omega), tj, jl1, nI_t (by omega)]
        omega
      have ihj := ih (j + 1) (by omega) (by omega)
      have sk : ¬ (nI j ≠ a0 ∧ a1 ≠ -1 ∧ zS s (20 + j) 1 = a1) → (Bz s a0 a1 j → f_X12_set_L26 q0 t a0 a1 n (nI j + 1) = some (-2000000000, t)) ∧ (¬ Bz s a0 a1 j → f_X12_set_L26 q0 t a0 a1 n (nI j + 1) = q0) := fun h => by
        rw [k1, Bz.step h]
        exact ihj
      dsimp only [jn, vl]
      by_cases d : nI j = a0
      · rw [if_pos d]
        exact sk (fun z => z.1 d)
      rw [if_neg d]
      by_cases e : a1 < 0
      · rw [if_pos e]
        refine sk (fun z => z.2.1 ?_)
        rw [jlt, jl0] at e
        exact ha.resolve_right (by omega)
      have e' : a1 ≠ -1 := fun z => e (by rw [z]; decide)
      rw [if_neg e, gd_t ⟨by omega, by omega⟩, show (nI j).toInt.toNat = j by omega, R j (by omega)]
      by_cases f : zS s (20 + j) 1 = a1
      · rw [if_pos f]
        exact ⟨fun _ => rfl, fun z => absurd ⟨j, Nat.le_refl _, by omega, d, e', f⟩ z⟩
      · rw [if_neg f]
        exact sk (fun z => f z.2.2)
theorem sa_set {s : SS} (G : GA s) (a0 : Int32) (a1 : Int32) : ∃ (rx : Int32) (s1 : SS) (rm : Int32) (s2 : SS), f_X11_set s a0 a1 = some (rx, s1) ∧ f_X12_set s1 a0 a1 = some (rm, s2) ∧ GA s2 ∧ FrB s s2 ∧ rx = rm := by
  by_cases c : 0 ≤ a0.toInt ∧ a0.toInt < 3
  · by_cases d : a1 = -1 ∨ HB s a1
    · have hf : 0 ≤ (zS s 15 3).toInt ∧ (zS s 15 3).toInt ≤ 120 := G.1.f (q := 15) (k := 3) rfl
      have hr : -1 ≤ a1.toInt ∧ a1.toInt ≤ 119 := by
        rcases d with d | d
        · rw [d]; decide
        · have := d.1; omega
      have ha : a1 = -1 ∨ 0 ≤ a1.toInt := d.imp id (fun z => z.1.1)
      have ex : f_X11_set s a0 a1 = f_X11_set_L32 (some (zS s (20 + a0.toInt.toNat) 1, pS s (20 + a0.toInt.toNat) 1 a1)) s a0 a1 (20 + a0.toInt.toNat) 4000 (nI 0) := by
        unfold f_X11_set
        rw [mach_t G.1 c, b1_some, on_some]
        dsimp only [jn]
        rcases d with d | d
        · rw [if_pos d]; rfl
        · obtain ⟨p, hp⟩ := (hole_t G d).1
          by_cases e : a1 = -1
          · rw [if_pos e]; rfl
          · rw [if_neg e, hp, b1_some, on_some]; rfl
      have em : ∀ s1, Iv s1 → f_X12_isHole s1 a1 = f_X12_isHole s a1 → f_X12_set s1 a0 a1 = f_X12_set_L26 (some (zI s1 79 a0.toInt.toNat, pI s1 79 a0.toInt.toNat a1)) s1 a0 a1 4000 (nI 0) := by
        intro s1 I1 e1
        unfold f_X12_set
        rw [ismach_t c, b1_some, if_neg (by decide)]
        dsimp only [jn]
        have g : (gd (inB a0 3) (vl (zI s1 79 a0.toInt.toNat) fun v14 => gd (inB a0 3) (st (pI s1 79 a0.toInt.toNat a1) fun s16 => some (v14, s16)))) = some (zI s1 79 a0.toInt.toNat, pI s1 79 a0.toInt.toNat a1) := by
          rw [gd_t ⟨c.1, c.2⟩]
          dsimp only [vl]
          rw [gd_t ⟨c.1, c.2⟩]
          rfl
        rw [g]
        rcases d with d | d
        · rw [if_pos d]; rfl
        · by_cases e : a1 = -1
          · rw [if_pos e]; rfl
          · rw [if_neg e, e1, (hole_t G d).2, b1_some, if_neg (by decide)]; rfl
      by_cases b : Bz s a0 a1 0
      · refine ⟨-2000000000, s, -2000000000, s, ?_, ?_, G, FrB.rf, rfl⟩
        · rw [ex]; exact (setx G.1 4000 0 (by decide) (by decide)).1 b
        · rw [em s G.1 rfl]; exact (setm (s := s) (fun j hj => (G.2.2.2.1 j hj).2.symm) ha 4000 0 (by decide) (by decide)).1 b
      · have I1 : Iv (pS s (20 + a0.toInt.toNat) 1 a1) := G.1.wM ⟨by omega, by omega⟩
        have R3 := G.2.2.2.1
        have e : ∀ q k, ¬ (q = 20 + a0.toInt.toNat ∧ k = 1) → zS (pS s (20 + a0.toInt.toNat) 1 a1) q k = zS s q k := fun q k h => by rw [zS_pS, if_neg h]
        have e1 : f_X12_isHole (pS s (20 + a0.toInt.toNat) 1 a1) a1 = f_X12_isHole s a1 := by
          unfold f_X12_isHole f_X12_isBody
          rw [e 59 4 (by omega)]
          rfl
        refine ⟨zS s (20 + a0.toInt.toNat) 1, pS s (20 + a0.toInt.toNat) 1 a1, zI s 79 a0.toInt.toNat, pI (pS s (20 + a0.toInt.toNat) 1 a1) 79 a0.toInt.toNat a1, ?_, ?_, ⟨?_, ?_⟩, (FrB.rf.pS (fSB_d (by omega))).pI (by decide), (R3 _ (by omega)).2⟩
        · rw [ex]; exact (setx G.1 4000 0 (by decide) (by decide)).2 b
        · rw [em _ I1 e1]
          have hk := (setm (s := s) (t := pS s (20 + a0.toInt.toNat) 1 a1) (q0 := some (zI (pS s (20 + a0.toInt.toNat) 1 a1) 79 a0.toInt.toNat, pI (pS s (20 + a0.toInt.toNat) 1 a1) 79 a0.toInt.toNat a1)) (a0 := a0) (a1 := a1) (fun j hj => (R3 j hj).2.symm) ha 4000 0 (by decide) (by decide)).2 b
          rw [hk]
          rfl
        · exact I1.wI (q := 79) (by decide) ⟨hr.1, hr.2⟩
        · obtain ⟨R1, R2, _, R4, R5⟩ := G.2
          have e' : ∀ q k, ¬ (q = 20 + a0.toInt.toNat ∧ k = 1) → zS (pI (pS s (20 + a0.toInt.toNat) 1 a1) 79 a0.toInt.toNat a1) q k = zS s q k := fun q k h => by rw [zS_pI, zS_pS, if_neg h]
          have f : ∀ q j, q ≠ 79 → zI (pI (pS s (20 + a0.toInt.toNat) 1 a1) 79 a0.toInt.toNat a1) q j = zI s q j := fun q j h => by rw [zI_pI, if_neg (fun z => h z.1), zI_pS]
          refine ⟨R1.c (fun k => e' _ _ (by omega)) (fun k => e' _ _ (by omega)) (fun k => e' _ _ (by omega)) (fun k => e' _ _ (by omega)), R2.c (fun q i h => f q i (by omega)), fun i hi => ?_, R4.c (e' _ _ (by omega)) (fun i => f _ _ (by decide)) (fun _ => rfl), R5.c (fun i k hi hk => e' _ _ (by omega)) (fun q j h => f q j (by omega)) (fun _ _ => rfl) (by rw [e' _ _ (by omega)]; exact Int.le_refl _)⟩
          rw [e' _ 0 (by omega), f 78 _ (by decide)]
          refine ⟨(R3 i hi).1, ?_⟩
          rw [zS_pI, zS_pS, zI_pI, zI_pS]
          by_cases h : i = a0.toInt.toNat
          · rw [if_pos ⟨by omega, rfl⟩, if_pos ⟨rfl, h⟩]
          · rw [if_neg (by omega), if_neg (by omega)]
            exact (R3 i hi).2
    · have d1 : ¬ a1 = -1 := fun z => d (Or.inl z)
      have d2 := hole_f G (fun z => d (Or.inr z))
      refine ⟨-2000000000, s, -2000000000, s, ?_, ?_, G, FrB.rf, rfl⟩
      · unfold f_X11_set
        rw [mach_t G.1 c, b1_some, on_some]
        dsimp only [jn]
        rw [if_neg d1, d2.1, b1_some, on_none]
      · unfold f_X12_set
        rw [ismach_t c, b1_some, if_neg (by decide)]
        dsimp only [jn]
        rw [if_neg d1, d2.2, b1_some, if_pos rfl]
  · refine ⟨-2000000000, s, -2000000000, s, ?_, ?_, G, FrB.rf, rfl⟩
    · unfold f_X11_set
      rw [mach_f c, b1_some, on_none]
    · unfold f_X12_set
      rw [ismach_f c, b1_some, if_pos rfl]
