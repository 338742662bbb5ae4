/-! SHELVES -/
theorem RG.sh {s r : SS} {i0 : Nat} (R : RG s) (hS : ∀ q k, fSA q k = true → q ≠ 47 + 2 * i0 → zS r q k = zS s q k) (hI : ∀ q j, fIA q = true → q ≠ 120 → q ≠ 121 → q ≠ 123 → zI r q j = zI s q j) (h120 : ∀ i, i ≠ i0 → zI r 120 i = zI s 120 i) (h121 : ∀ i, i ≠ i0 → zI r 121 i = zI s 121 i) (h123 : ∀ i j, i ≠ i0 → j < 60 → zI r 123 (60 * i + j) = zI s 123 (60 * i + j)) (hJ : ∀ i j, i ≠ i0 → i < 6 → zJ r (48 + 2 * i) j = zJ s (48 + 2 * i) j) (h122 : ∀ i j, i ≠ i0 → j < 60 → zJ r 122 (60 * i + j) = zJ s 122 (60 * i + j)) (hR : ∀ j, zR r 17 j = zR s 17 j) (hi0 : i0 < 6) (hN : SR r i0) : RG r := by
  obtain ⟨R1, R2, R3, R4, R5⟩ := R
  have e3 : zS r 15 3 = zS s 15 3 := hS 15 3 rfl (by omega)
  refine ⟨?_, ?_, ?_, ?_, ?_⟩
  · unfold RC
    rw [hS 0 15 rfl (by omega), hS 0 5 rfl (by omega), e3, hS 15 5 rfl (by omega), hS 34 3 rfl (by omega), hS 34 9 rfl (by omega), hS 59 29 rfl (by omega), hS 59 30 rfl (by omega), hS 59 4 rfl (by omega), hS 59 21 rfl (by omega), hS 59 67 rfl (by omega), hS 59 76 rfl (by omega)]
    exact R1
  · exact R2.c (fun q i h => hI q i (by rcases h with rfl | rfl | rfl | rfl | rfl | rfl <;> rfl) (by omega) (by omega) (by omega))
  · refine R3.c (fun i k hi hk => hS _ _ ?_ (by omega)) (fun i => hI 78 i rfl (by decide) (by decide) (by decide)) (fun i => hI 79 i rfl (by decide) (by decide) (by decide))
    have h : i = 0 ∨ i = 1 ∨ i = 2 := by omega
    have h' : k = 0 ∨ k = 1 := by omega
    rcases h with rfl | rfl | rfl <;> rcases h' with rfl | rfl <;> rfl
  · exact R4.c e3 (fun i => hI 16 i rfl (by decide) (by decide) (by decide)) hR
  · intro i hi
    by_cases c : i = i0
    · rw [c]; exact hN
    · have h : i = 0 ∨ i = 1 ∨ i = 2 ∨ i = 3 ∨ i = 4 ∨ i = 5 := by omega
      refine (R5 i hi).c (fun k hk => hS _ _ ?_ (by omega)) (h120 i c) (h121 i c) (fun j hj => h123 i j c hj) (fun j _ => hJ i j c hi) (fun j hj => h122 i j c hj) (by rw [e3]; exact Int.le_refl _)
      have h' : k = 0 ∨ k = 1 ∨ k = 2 ∨ k = 3 := by omega
      rcases h with rfl | rfl | rfl | rfl | rfl | rfl <;> rcases h' with rfl | rfl | rfl | rfl <;> rfl
theorem shelf_t {s : SS} {a : Int32} (I : Iv s) (h : 0 ≤ a.toInt ∧ a.toInt < 6) : f_X11_shelfOf s a = some (some (47 + 2 * a.toInt.toNat)) := by
  unfold f_X11_shelfOf
  rw [if_neg (by rw [jlt, jl0]; omega), if_pos (by rw [jlt, jl6]; omega), gd_t ⟨h.1, h.2⟩, I.1.1.2.2.2.2.2.2 _ (by omega)]
  rfl
theorem shelf_f {s : SS} {a : Int32} (h : ¬ (0 ≤ a.toInt ∧ a.toInt < 6)) : f_X11_shelfOf s a = some none := by
  unfold f_X11_shelfOf
  by_cases c : a < 0
  · rw [if_pos c]
  · rw [if_neg c, if_neg (by rw [jlt, jl6]; rw [jlt, jl0] at c; omega)]
theorem issh_t {a : Int32} (h : 0 ≤ a.toInt ∧ a.toInt < 6) : f_X12_isShelf a = some 1 := by
  unfold f_X12_isShelf
  rw [in_t (by rw [jl0, jl5]; omega)]
  rfl
theorem issh_f {a : Int32} (h : ¬ (0 ≤ a.toInt ∧ a.toInt < 6)) : f_X12_isShelf a = some 0 := by
  unfold f_X12_isShelf
  rw [in_f (by rw [jl0, jl5]; omega)]
  rfl
theorem okVi {i : Nat} (h : i < 6) : okV (47 + 2 * i) := ⟨by omega, by omega, by omega⟩
theorem fS_vk {q k i : Nat} (h : fSA q k = true) (hq : q ≠ 47 + 2 * i) {s : SS} {v : Int32} {k' : Nat} : zS (pS s (47 + 2 * i) k' v) q k = zS s q k := by rw [zS_pS, if_neg (fun z => hq z.1)]
theorem keepM {t : SS} {a0 a1 : Int32} (I : Iv t) (c : 0 ≤ a0.toInt ∧ a0.toInt < 6) (h : a1 = -1 ∨ (0 ≤ a1.toInt ∧ a1.toInt < (zS t 59 4).toInt)) : f_X12_keep t a0 a1 = some (1, pI t 120 a0.toInt.toNat a1) := by
  unfold f_X12_keep
  rw [issh_t c, b1_some, if_neg (by decide)]
  dsimp only [jn, st]
  by_cases d : a1 = -1
  · rw [if_pos d, gd_t ⟨c.1, c.2⟩]
  · rw [if_neg d, body_t I (h.resolve_left d), b1_some, if_neg (by decide), gd_t ⟨c.1, c.2⟩]
theorem sa_keep {s : SS} (G : GA s) (a0 : Int32) (a1 : Int32) : ∃ (rx : Int32) (s1 : SS) (rm : Int32) (s2 : SS), f_X11_keep s a0 a1 = some (rx, s1) ∧ f_X12_keep s1 a0 a1 = some (rm, s2) ∧ GA s2 ∧ FrB s s2 ∧ rx = rm := by
  have e := G.2.1.2.2.1
  have hf : 0 ≤ (zS s 15 3).toInt ∧ (zS s 15 3).toInt ≤ 120 := G.1.f (q := 15) (k := 3) rfl
  by_cases c : 0 ≤ a0.toInt ∧ a0.toInt < 6
  · obtain ⟨i, ei⟩ : ∃ i, i = a0.toInt.toNat := ⟨_, rfl⟩
    have hi : i < 6 := by omega
    by_cases d : a1 = -1 ∨ (0 ≤ a1.toInt ∧ a1.toInt < (zS s 15 3).toInt)
    · obtain ⟨w, ew⟩ : ∃ w : Int32, w = if a1 = -1 then 0 else 1 := ⟨_, rfl⟩
      have I1 : Iv (pS (pS s (47 + 2 * i) 0 w) (47 + 2 * i) 1 a1) := (G.1.wV (okVi hi) (k := 0) trivial).wV (okVi hi) (k := 1) trivial
      have f4 : ∀ q k, q ≠ 47 + 2 * i → zS (pS (pS s (47 + 2 * i) 0 w) (47 + 2 * i) 1 a1) q k = zS s q k := fun q k h => by rw [zS_pS, if_neg (fun z => h z.1), zS_pS, if_neg (fun z => h z.1)]
      refine ⟨1, pS (pS s (47 + 2 * i) 0 w) (47 + 2 * i) 1 a1, 1, pI (pS (pS s (47 + 2 * i) 0 w) (47 + 2 * i) 1 a1) 120 i a1, ?_, ?_, ⟨?_, ?_⟩, ((FrB.rf.pS (fSB_d (by omega))).pS (fSB_d (by omega))).pI (by decide), rfl⟩
      · unfold f_X11_keep
        rw [shelf_t G.1 c, b1_some, on_some, ← ei]
        dsimp only [jn, st]
        by_cases h : a1 = -1
        · rw [if_pos h] at ew
          rw [if_pos h, if_pos h, ew]
        · rw [if_neg h] at ew
          have b := G.1.a (q := 16) (i := a1.toInt.toNat) rfl
          rw [if_neg h, kind_t G.1 (d.resolve_left h), b1_some, if_neg (by rw [jlt, jl0]; have := b.1; omega), if_neg h, ew]
      · have := keepM I1 c (a1 := a1) (by rw [f4 59 4 (by omega), ← e]; exact d)
        rw [ei] at this ⊢
        exact this
      · refine I1.wI (q := 120) (by decide) ?_
        rcases d with d | d
        · rw [d]; exact ⟨by decide, by decide⟩
        · exact ⟨by omega, by omega⟩
      · refine RG.sh (i0 := i) G.2 (fun q k _ h => ?_) (fun q j _ h _ _ => ?_) (fun j h => ?_) (fun _ _ => rfl) (fun _ _ _ _ => rfl) (fun _ _ _ _ => rfl) (fun _ _ _ _ => rfl) (fun _ => rfl) hi ?_
        · rw [zS_pI, f4 q k h]
        · rw [zI_pI, if_neg (fun z => h z.1)]; rfl
        · rw [zI_pI, if_neg (fun z => h z.2)]; rfl
        · have z0 : zS (pI (pS (pS s (47 + 2 * i) 0 w) (47 + 2 * i) 1 a1) 120 i a1) (47 + 2 * i) 0 = w := by rw [zS_pI, zS_pS, if_neg (fun z => absurd z.2 (by decide)), zS_pS, if_pos ⟨rfl, rfl⟩]
          have z1 : zS (pI (pS (pS s (47 + 2 * i) 0 w) (47 + 2 * i) 1 a1) 120 i a1) (47 + 2 * i) 1 = a1 := by rw [zS_pI, zS_pS, if_pos ⟨rfl, rfl⟩]
          have z2 : zI (pI (pS (pS s (47 + 2 * i) 0 w) (47 + 2 * i) 1 a1) 120 i a1) 120 i = a1 := by rw [zI_pI, if_pos ⟨rfl, rfl⟩]
          have z3 : zS (pI (pS (pS s (47 + 2 * i) 0 w) (47 + 2 * i) 1 a1) 120 i a1) 15 3 = zS s 15 3 := by rw [zS_pI, f4 15 3 (by omega)]
          unfold SR
          rw [z0, z1, z2, z3]
          by_cases h : a1 = -1
          · rw [if_pos h] at ew
            exact Or.inl ⟨ew, h⟩
          · rw [if_neg h] at ew
            have := d.resolve_left h
            exact Or.inr (Or.inl ⟨ew, rfl, this.1, this.2⟩)
    · have d1 : ¬ a1 = -1 := fun z => d (Or.inl z)
      refine ⟨-1, s, -1, s, ?_, ?_, G, FrB.rf, rfl⟩
      · unfold f_X11_keep
        rw [shelf_t G.1 c, b1_some, on_some]
        dsimp only [jn, st]
        rw [if_neg d1, kind_f (fun z => d (Or.inr z)), b1_some, if_pos (by decide)]
      · unfold f_X12_keep
        rw [issh_t c, b1_some, if_neg (by decide)]
        dsimp only [jn, st]
        rw [if_neg d1, body_f G.1 (by rw [← e]; exact fun z => d (Or.inr z)), b1_some, if_pos rfl]
  · refine ⟨-1, s, -1, s, ?_, ?_, G, FrB.rf, rfl⟩
    · unfold f_X11_keep
      rw [shelf_f c, b1_some, on_none]
    · unfold f_X12_keep
      rw [issh_f c, b1_some, if_pos rfl]
/-- the reference's row is made empty -/
theorem rowL {a : Int32} {i : Nat} (ha : a = nI i) (hi : i < 6) : ∀ (n : Nat) (t : SS) (j : Nat), j ≤ 60 → 60 - j < n → ∃ u, f_X12_row_L54 a n t (nI (60 * i + j)) = some (1, u) ∧ u.1 = t.1 ∧ u.2.2.2 = t.2.2.2 ∧ (∀ q b, zI u q b = if q = 123 ∧ 60 * i + j ≤ b ∧ b < 60 * i + 60 then 0 else zI t q b) ∧ (∀ q b, zJ u q b = if q = 122 ∧ 60 * i + j ≤ b ∧ b < 60 * i + 60 then 0 else zJ t q b) ∧ (Iv t → Iv u) := by
  intro n
  induction n with
  | zero => intro t j h1 h2; omega
  | succ n ih =>
    intro t j h1 h2
    have tj : (nI (60 * i + j)).toInt = ((60 * i + j : Nat) : Int) := nI_t (by omega)
    have e60 : ((60 : Int32) * a + 60).toInt = ((60 * i + 60 : Nat) : Int) := by
      have j60 : (60 : Int32).toInt = 60 := rfl
      have ti : a.toInt = (i : Int) := by rw [ha]; exact nI_t (by omega)
      have m1 : ((60 : Int32) * a).toInt = 60 * a.toInt := by rw [i32_mul (by rw [j60]; omega) (by rw [j60]; omega), j60]
      rw [i32_add (by rw [m1, j60]; omega) (by rw [m1, j60]; omega), m1, j60]
      omega
    have un : f_X12_row_L54 a (n + 1) t (nI (60 * i + j)) = f_X12_row_L54_b a (f_X12_row_L54 a n) t (nI (60 * i + j)) := rfl
    rw [un]
    unfold f_X12_row_L54_b
    by_cases c : j < 60
    · rw [if_pos (by rw [jlt, tj, e60]; omega), gd_t ⟨by omega, by omega⟩]
      dsimp only [st, vl]
      rw [gd_t ⟨by omega, by omega⟩]
      have k1 : nI (60 * i + j) + 1 = nI (60 * i + (j + 1)) := by
        apply Int32.toInt_inj.1
        rw [i32_add (by rw [tj, jl1]; omega) (by rw [tj, jl1]; omega), tj, jl1, nI_t (by omega)]
        omega
      rw [k1, show (nI (60 * i + j)).toInt.toNat = 60 * i + j by omega]
      obtain ⟨u, h3, h4, h5, h6, h7, h8⟩ := ih (pI (pJ t 122 (60 * i + j) 0) 123 (60 * i + j) (0 &&& 1)) (j + 1) (by omega) (by omega)
      refine ⟨u, h3, h4, h5, fun q b => ?_, fun q b => ?_, fun I => h8 ((I.wJ).wI (q := 123) (by decide) trivial)⟩
      · rw [h6, zI_pI]
        by_cases d : q = 123 ∧ 60 * i + (j + 1) ≤ b ∧ b < 60 * i + 60
        · rw [if_pos d, if_pos ⟨d.1, by omega, d.2.2⟩]
        · rw [if_neg d]
          by_cases d2 : q = 123 ∧ b = 60 * i + j
          · rw [if_pos d2, if_pos ⟨d2.1, by omega, by omega⟩]
            decide
          · rw [if_neg d2, if_neg (by omega)]
            rfl
      · rw [h7]
        show (if q = 122 ∧ 60 * i + (j + 1) ≤ b ∧ b < 60 * i + 60 then 0 else (if q = 122 ∧ b = 60 * i + j then 0 else zJ t q b)) = _
        by_cases d : q = 122 ∧ 60 * i + (j + 1) ≤ b ∧ b < 60 * i + 60
        · rw [if_pos d, if_pos ⟨d.1, by omega, d.2.2⟩]
        · rw [if_neg d]
          by_cases d2 : q = 122 ∧ b = 60 * i + j
          · rw [if_pos d2, if_pos ⟨d2.1, by omega, by omega⟩]
          · rw [if_neg d2, if_neg (by omega)]
    · rw [if_neg (by rw [jlt, tj, e60]; omega)]
      refine ⟨t, rfl, rfl, rfl, fun q b => ?_, fun q b => ?_, fun I => I⟩
      · rw [if_neg (by omega)]
      · rw [if_neg (by omega)]
theorem sa_row {s : SS} (G : GA s) (a0 : Int32) (a1 : Int32) (a2 : Int32) : ∃ (rx : Int32) (s1 : SS) (rm : Int32) (s2 : SS), f_X11_row s a0 a1 a2 = some (rx, s1) ∧ f_X12_row s1 a0 a1 a2 = some (rm, s2) ∧ GA s2 ∧ FrB s s2 ∧ rx = rm := by
  by_cases c : 0 ≤ a0.toInt ∧ a0.toInt < 6
  · by_cases b : 0 ≤ a1.toInt ∧ a1.toInt ≤ 4
    · have bx : ¬ a1 < 0 ∧ ¬ 4 < a1 := ⟨by rw [jlt, jl0]; omega, by rw [jlt, jl4]; omega⟩
      by_cases d : 60 < a2
      · refine ⟨-1, s, -1, s, ?_, ?_, G, FrB.rf, rfl⟩
        · unfold f_X11_row
          rw [shelf_t G.1 c, b1_some, on_some, if_neg bx.1, if_neg bx.2, if_pos d]
        · unfold f_X12_row
          rw [issh_t c, b1_some, if_neg (by decide), in_t (by rw [jl0, jl4]; omega), b1_some, if_neg (by decide), if_pos d]
      by_cases d2 : a2 < 0
      · refine ⟨-14, s, -14, s, ?_, ?_, G, FrB.rf, rfl⟩
        · unfold f_X11_row
          rw [shelf_t G.1 c, b1_some, on_some, if_neg bx.1, if_neg bx.2, if_neg d, if_pos d2]
        · unfold f_X12_row
          rw [issh_t c, b1_some, if_neg (by decide), in_t (by rw [jl0, jl4]; omega), b1_some, if_neg (by decide), if_neg d, if_pos d2]
      have hl : 0 ≤ a2.toInt ∧ a2.toInt ≤ 60 := by rw [jlt, jl60] at d; rw [jlt, jl0] at d2; omega
      obtain ⟨i, ei⟩ : ∃ i, i = a0.toInt.toNat := ⟨_, rfl⟩
      have hi : i < 6 := by omega
      have ha : a0 = nI i := by rw [ei]; exact toN_ c.1
      have I1 : Iv (pG (pS (pS (pS s (47 + 2 * i) 0 2) (47 + 2 * i) 2 a1) (47 + 2 * i) 3 a2) (47 + 2 * i + 1) 0) := (((G.1.wV (okVi hi) (k := 0) trivial).wV (okVi hi) (k := 2) trivial).wV (okVi hi) (k := 3) ⟨hl.1, hl.2⟩).wG
      have n2 : (-2 - a1).toInt = -2 - a1.toInt := by rw [i32_sub (by rw [jn2]; omega) (by rw [jn2]; omega), jn2]
      have I2 := (I1.wI (q := 120) (i := i) (v := -2 - a1) (by decide) ⟨by omega, by omega⟩).wI (q := 121) (i := i) (v := a2) (by decide) ⟨hl.1, hl.2⟩
      obtain ⟨u, h3, h4, h5, h6, h7, h8⟩ := rowL ha hi 4000 (pI (pI (pG (pS (pS (pS s (47 + 2 * i) 0 2) (47 + 2 * i) 2 a1) (47 + 2 * i) 3 a2) (47 + 2 * i + 1) 0) 120 i (-2 - a1)) 121 i a2) 0 (by decide) (by decide)
      refine ⟨1, pG (pS (pS (pS s (47 + 2 * i) 0 2) (47 + 2 * i) 2 a1) (47 + 2 * i) 3 a2) (47 + 2 * i + 1) 0, 1, u, ?_, ?_, ⟨h8 I2, ?_⟩, ?_, rfl⟩
      · unfold f_X11_row f_X8_becomesRow
        rw [shelf_t G.1 c, b1_some, on_some, if_neg bx.1, if_neg bx.2, if_neg d, if_neg d2, ← ei]
        rfl
      · unfold f_X12_row
        rw [issh_t c, b1_some, if_neg (by decide), in_t (by rw [jl0, jl4]; omega), b1_some, if_neg (by decide), if_neg d, if_neg d2]
        dsimp only [vl, st]
        rw [gd_t ⟨c.1, c.2⟩, gd_t ⟨c.1, c.2⟩, ← ei]
        have e60 : (60 : Int32) * a0 = nI (60 * i + 0) := by
          apply Int32.toInt_inj.1
          have j60 : (60 : Int32).toInt = 60 := rfl
          rw [i32_mul (by rw [j60]; omega) (by rw [j60]; omega), j60, nI_t (by omega)]
          omega
        rw [e60]
        exact h3
      · have z : ∀ q k, zS u q k = zS (pS (pS (pS s (47 + 2 * i) 0 2) (47 + 2 * i) 2 a1) (47 + 2 * i) 3 a2) q k := fun q k => by
          show u.1 q k = _
          rw [h4]
          rfl
        have hJ : ∀ q b, zJ (pI (pI (pG (pS (pS (pS s (47 + 2 * i) 0 2) (47 + 2 * i) 2 a1) (47 + 2 * i) 3 a2) (47 + 2 * i + 1) 0) 120 i (-2 - a1)) 121 i a2) q b = if q = 47 + 2 * i + 1 then 0 else zJ s q b := fun _ _ => rfl
        refine RG.sh (i0 := i) G.2 (fun q k _ h => ?_) (fun q j _ h h' h'' => ?_) (fun j h => ?_) (fun j h => ?_) (fun j l h hl => ?_) (fun j l h hj => ?_) (fun j l h hl => ?_) (fun j => ?_) hi ?_
        · rw [z, zS_pS, if_neg (fun y => h y.1), zS_pS, if_neg (fun y => h y.1), zS_pS, if_neg (fun y => h y.1)]
        · rw [h6, if_neg (by omega), zI_pI, if_neg (by omega), zI_pI, if_neg (by omega)]; rfl
        · rw [h6, if_neg (by omega), zI_pI, if_neg (by omega), zI_pI, if_neg (by omega)]; rfl
        · rw [h6, if_neg (by omega), zI_pI, if_neg (by omega), zI_pI, if_neg (by omega)]; rfl
        · rw [h6, if_neg (by omega), zI_pI, if_neg (by omega), zI_pI, if_neg (by omega)]; rfl
        · rw [h7, if_neg (by omega), hJ, if_neg (by omega)]
        · rw [h7, if_neg (by omega), hJ, if_neg (by omega)]
        · show u.2.2.2.1 17 j = _
          rw [h5]
          rfl
        · refine Or.inr (Or.inr ⟨?_, ?_, ?_, ?_, fun j hj => Or.inl ⟨?_, ?_⟩⟩)
          · rw [z, zS_pS, if_neg (fun y => absurd y.2 (by decide)), zS_pS, if_neg (fun y => absurd y.2 (by decide)), zS_pS, if_pos ⟨rfl, rfl⟩]
          · rw [h6, if_neg (by omega), zI_pI, if_neg (by omega), zI_pI, if_pos ⟨rfl, rfl⟩, z, zS_pS, if_neg (fun y => absurd y.2 (by decide)), zS_pS, if_pos ⟨rfl, rfl⟩]
          · rw [z, zS_pS, if_neg (fun y => absurd y.2 (by decide)), zS_pS, if_pos ⟨rfl, rfl⟩]
            exact b
          · rw [h6, if_neg (by omega), zI_pI, if_pos ⟨rfl, rfl⟩, z, zS_pS, if_pos ⟨rfl, rfl⟩]
          · rw [h6, if_pos ⟨rfl, by omega, by omega⟩]
          · rw [h7, if_neg (by omega), hJ, if_pos (by omega), h7, if_pos ⟨rfl, by omega, by omega⟩]
      · have F1 : FrB s (pI (pI (pG (pS (pS (pS s (47 + 2 * i) 0 2) (47 + 2 * i) 2 a1) (47 + 2 * i) 3 a2) (47 + 2 * i + 1) 0) 120 i (-2 - a1)) 121 i a2) := FrB.pI (FrB.pI (show FrB s (pG _ _ _) from ((FrB.rf.pS (fSB_d (by omega))).pS (fSB_d (by omega))).pS (fSB_d (by omega))) (by decide)) (by decide)
        refine ⟨fun q k e => ?_, fun q j e => ?_⟩
        · show u.1 q k = _
          rw [h4]
          exact F1.1 q k e
        · rw [h6, if_neg (fun z => by rw [z.1] at e; exact absurd e (by decide))]
          exact F1.2 q j e
    · refine ⟨-1, s, -1, s, ?_, ?_, G, FrB.rf, rfl⟩
      · unfold f_X11_row
        rw [shelf_t G.1 c, b1_some, on_some]
        by_cases h : a1 < 0
        · rw [if_pos h]
        · rw [if_neg h, if_pos (by rw [jlt, jl4]; rw [jlt, jl0] at h; omega)]
      · unfold f_X12_row
        rw [issh_t c, b1_some, if_neg (by decide), in_f (by rw [jl0, jl4]; omega), b1_some, if_pos rfl]
  · refine ⟨-1, s, -1, s, ?_, ?_, G, FrB.rf, rfl⟩
    · unfold f_X11_row
      rw [shelf_f c, b1_some, on_none]
    · unfold f_X12_row
      rw [issh_f c, b1_some, if_pos rfl]
