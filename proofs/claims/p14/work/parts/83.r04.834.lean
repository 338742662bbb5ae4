/-! THE SHELTER, MEN, HOLES, ILLNESS -/
section ZF
variable {s : SS} {q k q0 k0 j i : Nat} {v : Int32}
theorem zSf (h : fSA q k = true) (h0 : fSA q0 k0 = false) : zS (pS s q0 k0 v) q k = zS s q k := by
  rw [zS_pS, if_neg (fun z => by rw [z.1, z.2, h0] at h; cases h)]
theorem zIf (h : fIA q = true) (h0 : fIA q0 = false) : zI (pI s q0 i v) q j = zI s q j := by
  rw [zI_pI, if_neg (fun z => by rw [z.1, h0] at h; cases h)]
theorem ad16 {s : SS} (j : Nat) (e4 : zS (adX s v) 59 4 = zS s 15 3) : zI (adM (adX s v) v) 16 j = if j = (zS s 15 3).toInt.toNat then v else zI s 16 j := by
  rw [adM_I, if_neg (by omega), adX_I]
  by_cases h : j = (zS s 15 3).toInt.toNat
  · rw [if_pos ⟨rfl, h⟩, if_pos h]
  · rw [if_neg (by omega), if_neg h]
theorem fr4 {s : SS} {v : Int32} (G : GA s) : zS (adX s v) 59 4 = zS s 15 3 := by
  rw [adX_S _ _ (by decide)]
  exact G.2.1.2.2.1.symm
theorem frn {s : SS} (G : GA s) (h : (zS s 15 3).toInt < 120) : zR s 17 (zS s 15 3).toInt.toNat = none := by
  have hf : 0 ≤ (zS s 15 3).toInt ∧ (zS s 15 3).toInt ≤ 120 := G.1.f (q := 15) (k := 3) rfl
  exact (G.2.2.2.2.1 _ (by omega)).2 (fun z => by have := z.1; omega)
end ZF
theorem nH {v : Int32} (h : v = 6 ∨ v = 7) : ¬ isH v := by
  rcases h with rfl | rfl <;> (intro z; rcases z with z | z | z | z <;> exact absurd z (by decide))
theorem yard_t {a : Int32} (h : 1 ≤ a.toInt ∧ a.toInt ≤ 60) : f_X11_isYard a = some 1 := by
  unfold f_X11_isYard
  rw [if_neg (by rw [jlt, jl1]; omega), if_neg (by rw [jlt, jl60]; omega)]
theorem yard_f {a : Int32} (h : ¬ (1 ≤ a.toInt ∧ a.toInt ≤ 60)) : f_X11_isYard a = some 0 := by
  unfold f_X11_isYard
  by_cases c : a < 1
  · rw [if_pos c]
  · rw [if_neg c, if_pos (by rw [jlt, jl60]; rw [jlt, jl1] at c; omega)]
theorem span_01 (a : Int32) : f_X12_isSpan a = some 0 ∨ f_X12_isSpan a = some 1 := by
  unfold f_X12_isSpan
  split
  · exact Or.inl rfl
  · split
    · exact Or.inl rfl
    · split
      · exact Or.inr rfl
      · exact Or.inl rfl
theorem span_e (a : Int32) : f_X11_isSpan a = f_X12_isSpan a := rfl
theorem shelterM {t : SS} {a0 a1 : Int32} (hs : f_X12_isSpan a0 = some 1) (c : 1 ≤ a1.toInt ∧ a1.toInt ≤ 60) (h1 : zS t 59 21 < 0) (h2 : ¬ zS t 59 4 = 120) (h3 : 0 ≤ (zS t 59 4).toInt ∧ (zS t 59 4).toInt < 120) : f_X12_shelter t a0 a1 = some (zS t 59 4, pS (pS (pS (pS (adM t 6) 59 21 (zS t 59 4)) 59 22 (a0 / 100)) 59 23 (a0 % 100)) 59 24 a1) := by
  unfold f_X12_shelter
  rw [hs, b1_some, if_neg (by decide), in_t (by rw [jl1, jl60]; omega), b1_some, if_neg (by decide), if_pos h1, if_neg h2, add_t h3]
  rfl
theorem manM {t : SS} {a0 a1 : Int32} {n : Nat} (c : 0 ≤ a0.toInt ∧ a0.toInt ≤ 999) (b : 0 ≤ a1.toInt ∧ a1.toInt ≤ 99) (h2 : ¬ zS t 59 4 = 120) (h3 : 0 ≤ (zS t 59 4).toInt ∧ (zS t 59 4).toInt < 120) (en : n = (zS t 59 4).toInt.toNat) : f_X12_man t a0 a1 = some (zS t 59 4, pI (pI (pI (pI (adM t 7) 74 n a0) 75 n (a1 / 10)) 76 n (a1 % 10)) 77 n ((1 : Int32) &&& 1)) := by
  have gn : inB (zS t 59 4) 120 := ⟨by omega, by omega⟩
  unfold f_X12_man
  rw [in_t (by rw [jl0, jl999]; omega), b1_some, if_neg (by decide), in_t (by rw [jl0, jl99]; omega), b1_some, if_neg (by decide), if_neg h2, add_t h3, bd_some]
  dsimp only [st, vl]
  rw [gd_t gn, gd_t gn, gd_t gn, gd_t gn, ← en]
theorem sa_shelter {s : SS} (G : GA s) (a0 : Int32) (a1 : Int32) : ∃ (rx : Int32) (s1 : SS) (rm : Int32) (s2 : SS), f_X11_shelter s a0 a1 = some (rx, s1) ∧ f_X12_shelter s1 a0 a1 = some (rm, s2) ∧ GA s2 ∧ FrB s s2 ∧ rx = rm := by
  rcases span_01 a0 with hs | hs
  · refine ⟨-1, s, -1, s, ?_, ?_, G, FrB.rf, rfl⟩
    · unfold f_X11_shelter
      rw [span_e, hs, b1_some, if_pos rfl]
    · unfold f_X12_shelter
      rw [hs, b1_some, if_pos rfl]
  by_cases c : 1 ≤ a1.toInt ∧ a1.toInt ≤ 60
  · have e5 := G.2.1.2.2.2.1
    by_cases b : zS s 15 5 < 0
    · by_cases d : (zS s 15 3).toInt < 120
      · have hf : 0 ≤ (zS s 15 3).toInt ∧ (zS s 15 3).toInt ≤ 120 := G.1.f (q := 15) (k := 3) rfl
        have e4 : zS (adX s 6) 59 4 = zS s 15 3 := fr4 G
        have IX := G.1.adX d (v := 6) (by decide)
        have I1 : Iv (pS (pS (pS (pS (adX s 6) 15 5 (zS s 15 3)) 15 6 (a0 / 100)) 15 7 (a0 % 100)) 15 8 a1) := (((IX.wF (q := 15) (k := 5) (by decide) (by decide) trivial).wF (q := 15) (k := 6) (by decide) (by decide) trivial).wF (q := 15) (k := 7) (by decide) (by decide) trivial).wF (q := 15) (k := 8) (by decide) (by decide) trivial
        refine ⟨zS s 15 3, pS (pS (pS (pS (adX s 6) 15 5 (zS s 15 3)) 15 6 (a0 / 100)) 15 7 (a0 % 100)) 15 8 a1, zS (adX s 6) 59 4, pS (pS (pS (pS (adM (pS (pS (pS (pS (adX s 6) 15 5 (zS s 15 3)) 15 6 (a0 / 100)) 15 7 (a0 % 100)) 15 8 a1) 6) 59 21 (zS (adX s 6) 59 4)) 59 22 (a0 / 100)) 59 23 (a0 % 100)) 59 24 a1, ?_, ?_, ⟨?_, ?_⟩, (((((((((FrB.rf.adX).pS (by decide)).pS (by decide)).pS (by decide)).pS (by decide)).adM).pS (by decide)).pS (by decide)).pS (by decide)).pS (by decide), e4.symm⟩
        · unfold f_X11_shelter f_X0_addedRefuge
          rw [span_e, hs, b1_some, if_neg (by decide), yard_t c, b1_some, if_neg (by decide), if_pos b, added_t G.1 d, bd_some, if_neg (by rw [jlt, jl0]; omega)]
          rfl
        · exact shelterM hs c (show zS (adX s 6) 59 21 < 0 by rw [adX_S _ _ (by decide), ← e5]; exact b) (show ¬ zS (adX s 6) 59 4 = 120 by rw [adX_S _ _ (by decide)]; exact ne120 G d) (show 0 ≤ (zS (adX s 6) 59 4).toInt ∧ (zS (adX s 6) 59 4).toInt < 120 by rw [e4]; omega)
        · have I2 := I1.adM (v := 6) (show (zS (adX s 6) 59 4).toInt < 120 by rw [e4]; exact d)
          exact (((I2.wF (q := 59) (k := 21) (by decide) (by decide) trivial).wF (q := 59) (k := 22) (by decide) (by decide) trivial).wF (q := 59) (k := 23) (by decide) (by decide) trivial).wF (q := 59) (k := 24) (by decide) (by decide) trivial
        · refine RG.add G d (v := 6) (fun q k h h1 h2 h3 h4 => ?_) ?_ ?_ ?_ (fun q j h h1 h2 h3 h4 => ?_) (fun j => ?_) (fun j => ?_) (fun j => ?_) (fun _ _ _ => rfl) (fun _ _ => rfl) ?_
          · rw [zSf h (by decide), zSf h (by decide), zSf h (by decide), zS_pS, if_neg h4, adM_S _ _ h2, zSf h (by decide), zSf h (by decide), zSf h (by decide), zS_pS, if_neg h3, adX_S _ _ h1]
          · rfl
          · show zS (adX s 6) 59 4 + 1 = _
            rw [adX_S _ _ (by decide)]
          · show zS s 15 3 = zS (adX s 6) 59 4
            rw [e4]
          · show zI (adM (adX s 6) 6) q j = _
            rw [adM_I, if_neg (by omega), adX_I, if_neg (by omega)]
          · exact ad16 j e4
          · show zI (adM (adX s 6) 6) 62 j = _
            rw [adM_I, e4, adX_I]
            by_cases h : j = (zS s 15 3).toInt.toNat
            · rw [if_pos ⟨rfl, h⟩, if_pos h]
            · rw [if_neg (by omega), if_neg (by omega), if_neg h]
          · show zI (adM (adX s 6) 6) 9 j = zI (adM (adX s 6) 6) 76 j
            rw [adM_I, if_neg (by omega), adX_I, if_neg (by omega), adM_I, if_neg (by omega), adX_I, if_neg (by omega)]
            exact G.2.2.1.2.2 j
          · exact ⟨fun _ => nH (Or.inl rfl), fun _ => frn G d⟩
      · refine ⟨-3, s, -3, s, ?_, ?_, G, FrB.rf, rfl⟩
        · unfold f_X11_shelter f_X0_addedRefuge
          rw [span_e, hs, b1_some, if_neg (by decide), yard_t c, b1_some, if_neg (by decide), if_pos b, added_f d, bd_some, if_pos (by decide)]
          rfl
        · unfold f_X12_shelter
          rw [hs, b1_some, if_neg (by decide), in_t (by rw [jl1, jl60]; omega), b1_some, if_neg (by decide), if_pos (by rw [← e5]; exact b), if_pos (eq120 G d)]
    · refine ⟨-2, s, -2, s, ?_, ?_, G, FrB.rf, rfl⟩
      · unfold f_X11_shelter
        rw [span_e, hs, b1_some, if_neg (by decide), yard_t c, b1_some, if_neg (by decide), if_neg b]
      · unfold f_X12_shelter
        rw [hs, b1_some, if_neg (by decide), in_t (by rw [jl1, jl60]; omega), b1_some, if_neg (by decide), if_neg (by rw [← e5]; exact b)]
  · refine ⟨-1, s, -1, s, ?_, ?_, G, FrB.rf, rfl⟩
    · unfold f_X11_shelter
      rw [span_e, hs, b1_some, if_neg (by decide), yard_f c, b1_some, if_pos rfl]
    · unfold f_X12_shelter
      rw [hs, b1_some, if_neg (by decide), in_f (by rw [jl1, jl60]; omega), b1_some, if_pos rfl]
theorem sa_man {s : SS} (G : GA s) (a0 : Int32) (a1 : Int32) : ∃ (rx : Int32) (s1 : SS) (rm : Int32) (s2 : SS), f_X11_man s a0 a1 = some (rx, s1) ∧ f_X12_man s1 a0 a1 = some (rm, s2) ∧ GA s2 ∧ FrB s s2 ∧ rx = rm := by
  by_cases c : 0 ≤ a0.toInt ∧ a0.toInt ≤ 999
  · by_cases b : 0 ≤ a1.toInt ∧ a1.toInt ≤ 99
    · by_cases d : (zS s 15 3).toInt < 120
      · have hf : 0 ≤ (zS s 15 3).toInt ∧ (zS s 15 3).toInt ≤ 120 := G.1.f (q := 15) (k := 3) rfl
        have e4 : zS (adX s 7) 59 4 = zS s 15 3 := fr4 G
        have IX := G.1.adX d (v := 7) (by decide)
        have gn : inB (zS s 15 3) 120 := ⟨by omega, by omega⟩
        obtain ⟨n, en⟩ : ∃ n, n = (zS s 15 3).toInt.toNat := ⟨_, rfl⟩
        have I1 : Iv (pS (pI (pI (pI (pI (adX s 7) 7 n a0) 8 n (a1 / 10)) 9 n (a1 % 10)) 10 n 1) 6 4 (zS (adX s 7) 6 4 + 1)) := ((((IX.wI (q := 7) (by decide) trivial).wI (q := 8) (by decide) trivial).wI (q := 9) (by decide) trivial).wI (q := 10) (by decide) trivial).wF (q := 6) (k := 4) (by decide) (by decide) trivial
        refine ⟨zS s 15 3, pS (pI (pI (pI (pI (adX s 7) 7 n a0) 8 n (a1 / 10)) 9 n (a1 % 10)) 10 n 1) 6 4 (zS (adX s 7) 6 4 + 1), zS (adX s 7) 59 4, pI (pI (pI (pI (adM (pS (pI (pI (pI (pI (adX s 7) 7 n a0) 8 n (a1 / 10)) 9 n (a1 % 10)) 10 n 1) 6 4 (zS (adX s 7) 6 4 + 1)) 7) 74 n a0) 75 n (a1 / 10)) 76 n (a1 % 10)) 77 n ((1 : Int32) &&& 1), ?_, ?_, ⟨?_, ?_⟩, ((((((((((FrB.rf.adX).pI (by decide)).pI (by decide)).pI (by decide)).pI (by decide)).pS (by decide)).adM).pI (by decide)).pI (by decide)).pI (by decide)).pI (by decide), e4.symm⟩
        · unfold f_X11_man f_X2_comes
          rw [if_neg (by rw [jlt, jl0]; omega), if_neg (by rw [jlt, jl999]; omega), if_neg (by rw [jlt, jl0]; omega), if_neg (by rw [jlt, jl99]; omega), added_t G.1 d, bd_some, if_neg (by rw [jlt, jl0]; omega), if_neg (by rw [jlt, jl0]; omega), if_pos (by rw [jlt, jl120]; omega), gd_t gn]
          dsimp only [st, vl]
          rw [gd_t gn, gd_t gn, gd_t gn, ← en]
          rfl
        · exact manM c b (show ¬ zS (adX s 7) 59 4 = 120 by rw [adX_S _ _ (by decide)]; exact ne120 G d) (show 0 ≤ (zS (adX s 7) 59 4).toInt ∧ (zS (adX s 7) 59 4).toInt < 120 by rw [e4]; omega) (show n = (zS (adX s 7) 59 4).toInt.toNat by rw [e4]; exact en)
        · have I2 := I1.adM (v := 7) (show (zS (adX s 7) 59 4).toInt < 120 by rw [e4]; exact d)
          exact (((I2.wI (q := 74) (by decide) trivial).wI (q := 75) (by decide) trivial).wI (q := 76) (by decide) trivial).wI (q := 77) (by decide) trivial
        · have hA : ∀ q j, q ≠ 7 → q ≠ 8 → q ≠ 9 → q ≠ 10 → q ≠ 74 → q ≠ 75 → q ≠ 76 → q ≠ 77 → zI (pI (pI (pI (pI (adM (pS (pI (pI (pI (pI (adX s 7) 7 n a0) 8 n (a1 / 10)) 9 n (a1 % 10)) 10 n 1) 6 4 (zS (adX s 7) 6 4 + 1)) 7) 74 n a0) 75 n (a1 / 10)) 76 n (a1 % 10)) 77 n ((1 : Int32) &&& 1)) q j = zI (adM (adX s 7) 7) q j := by
            intro q j h1 h2 h3 h4 h5 h6 h7 h8
            rw [zI_pI, if_neg (by omega), zI_pI, if_neg (by omega), zI_pI, if_neg (by omega), zI_pI, if_neg (by omega), adM_I, adM_I, zI_pS, zI_pI _ 10, if_neg (show ¬ (q = 10 ∧ j = n) by omega), zI_pI _ 9, if_neg (show ¬ (q = 9 ∧ j = n) by omega), zI_pI _ 8, if_neg (show ¬ (q = 8 ∧ j = n) by omega), zI_pI _ 7, if_neg (show ¬ (q = 7 ∧ j = n) by omega)]
            rfl
          refine RG.add G d (v := 7) (fun q k h h1 h2 h3 h4 => ?_) ?_ ?_ ?_ (fun q j h h1 h2 h3 h4 => ?_) (fun j => ?_) (fun j => ?_) (fun j => ?_) (fun _ _ _ => rfl) (fun _ _ => rfl) ?_
          · rw [zS_pI, zS_pI, zS_pI, zS_pI, adM_S _ _ h2, zSf h (by decide), zS_pI, zS_pI, zS_pI, zS_pI, adX_S _ _ h1]
          · rfl
          · show zS (adX s 7) 59 4 + 1 = _
            rw [adX_S _ _ (by decide)]
          · show zS (adX s 7) 15 5 = zS (adX s 7) 59 21
            rw [adX_S _ _ (by decide), adX_S _ _ (by decide)]
            exact G.2.1.2.2.2.1
          · have hq : q ≠ 7 ∧ q ≠ 8 ∧ q ≠ 10 ∧ q ≠ 74 ∧ q ≠ 75 ∧ q ≠ 77 := by
              refine ⟨?_, ?_, ?_, ?_, ?_, ?_⟩ <;> (intro z; rw [z] at h; exact absurd h (by decide))
            rw [hA q j (by omega) (by omega) h3 (by omega) (by omega) (by omega) h4 (by omega), adM_I, if_neg (by omega), adX_I, if_neg (by omega)]
          · rw [hA 16 j (by decide) (by decide) (by decide) (by decide) (by decide) (by decide) (by decide) (by decide)]
            exact ad16 j e4
          · rw [hA 62 j (by decide) (by decide) (by decide) (by decide) (by decide) (by decide) (by decide) (by decide), adM_I, e4, adX_I]
            by_cases h : j = (zS s 15 3).toInt.toNat
            · rw [if_pos ⟨rfl, h⟩, if_pos h]
            · rw [if_neg (by omega), if_neg (by omega), if_neg h]
          · have h9 : zI (pI (pI (pI (pI (adM (pS (pI (pI (pI (pI (adX s 7) 7 n a0) 8 n (a1 / 10)) 9 n (a1 % 10)) 10 n 1) 6 4 (zS (adX s 7) 6 4 + 1)) 7) 74 n a0) 75 n (a1 / 10)) 76 n (a1 % 10)) 77 n ((1 : Int32) &&& 1)) 9 j = if j = n then a1 % 10 else zI s 9 j := by
              rw [zI_pI, if_neg (by omega), zI_pI, if_neg (by omega), zI_pI, if_neg (by omega), zI_pI, if_neg (by omega), adM_I, if_neg (by omega), zI_pS, zI_pI, if_neg (by omega), zI_pI]
              by_cases h : j = n
              · rw [if_pos ⟨rfl, h⟩, if_pos h]
              · rw [if_neg (by omega), if_neg h, zI_pI, if_neg (by omega), zI_pI, if_neg (by omega), adX_I, if_neg (by omega)]
            have h76 : zI (pI (pI (pI (pI (adM (pS (pI (pI (pI (pI (adX s 7) 7 n a0) 8 n (a1 / 10)) 9 n (a1 % 10)) 10 n 1) 6 4 (zS (adX s 7) 6 4 + 1)) 7) 74 n a0) 75 n (a1 / 10)) 76 n (a1 % 10)) 77 n ((1 : Int32) &&& 1)) 76 j = if j = n then a1 % 10 else zI s 76 j := by
              rw [zI_pI, if_neg (by omega), zI_pI]
              by_cases h : j = n
              · rw [if_pos ⟨rfl, h⟩, if_pos h]
              · rw [if_neg (by omega), if_neg h, zI_pI, if_neg (by omega), zI_pI, if_neg (by omega), adM_I, if_neg (by omega), zI_pS, zI_pI, if_neg (by omega), zI_pI, if_neg (by omega), zI_pI, if_neg (by omega), zI_pI, if_neg (by omega), adX_I, if_neg (by omega)]
            rw [h9, h76, G.2.2.1.2.2 j]
          · exact ⟨fun _ => nH (Or.inr rfl), fun _ => frn G d⟩
      · refine ⟨-3, s, -3, s, ?_, ?_, G, FrB.rf, rfl⟩
        · unfold f_X11_man
          rw [if_neg (by rw [jlt, jl0]; omega), if_neg (by rw [jlt, jl999]; omega), if_neg (by rw [jlt, jl0]; omega), if_neg (by rw [jlt, jl99]; omega), added_f d, bd_some, if_pos (by decide)]
        · unfold f_X12_man
          rw [in_t (by rw [jl0, jl999]; omega), b1_some, if_neg (by decide), in_t (by rw [jl0, jl99]; omega), b1_some, if_neg (by decide), if_pos (eq120 G d)]
    · refine ⟨-1, s, -1, s, ?_, ?_, G, FrB.rf, rfl⟩
      · unfold f_X11_man
        rw [if_neg (by rw [jlt, jl0]; omega), if_neg (by rw [jlt, jl999]; omega)]
        by_cases h : a1 < 0
        · rw [if_pos h]
        · rw [if_neg h, if_pos (by rw [jlt, jl99]; rw [jlt, jl0] at h; omega)]
      · unfold f_X12_man
        rw [in_t (by rw [jl0, jl999]; omega), b1_some, if_neg (by decide), in_f (by rw [jl0, jl99]; omega), b1_some, if_pos rfl]
  · refine ⟨-1, s, -1, s, ?_, ?_, G, FrB.rf, rfl⟩
    · unfold f_X11_man
      by_cases h : a0 < 0
      · rw [if_pos h]
      · rw [if_neg h, if_pos (by rw [jlt, jl999]; rw [jlt, jl0] at h; omega)]
    · unfold f_X12_man
      rw [in_f (by rw [jl0, jl999]; omega), b1_some, if_pos rfl]
theorem sa_ill {s : SS} (G : GA s) (a0 : Int32) (a1 : Int32) : ∃ (rx : Int32) (s1 : SS) (rm : Int32) (s2 : SS), f_X11_ill s a0 a1 = some (rx, s1) ∧ f_X12_ill s1 a0 a1 = some (rm, s2) ∧ GA s2 ∧ FrB s s2 ∧ rx = rm := by
  have e := G.2.1.2.2.1
  have k7 := G.2.2.1.2.1
  have hf : 0 ≤ (zS s 15 3).toInt ∧ (zS s 15 3).toInt ≤ 120 := G.1.f (q := 15) (k := 3) rfl
  by_cases c : (0 ≤ a0.toInt ∧ a0.toInt < (zS s 15 3).toInt) ∧ zI s 16 a0.toInt.toNat = 7
  · have g : inB a0 120 := ⟨by omega, by omega⟩
    have mn : ∀ s1, Iv s1 → zS s1 59 4 = zS s 59 4 → zI s1 62 a0.toInt.toNat = zI s 62 a0.toInt.toNat → f_X12_isMan s1 a0 = some 1 := by
      intro s1 I1 h1 h2
      unfold f_X12_isMan
      rw [body_t I1 (by rw [h1, ← e]; exact c.1), b1_some, if_neg (by decide), gd_t g, h2, ← k7, c.2, if_pos rfl]
    by_cases d : 0 ≤ a1.toInt ∧ a1.toInt ≤ 9
    · have I1 : Iv (pI s 9 a0.toInt.toNat a1) := G.1.wI (q := 9) (by decide) trivial
      refine ⟨zI s 9 a0.toInt.toNat, pI s 9 a0.toInt.toNat a1, zI s 76 a0.toInt.toNat, pI (pI s 9 a0.toInt.toNat a1) 76 a0.toInt.toNat a1, ?_, ?_, ⟨I1.wI (q := 76) (by decide) trivial, ?_⟩, (FrB.rf.pI (by decide)).pI (by decide), G.2.2.1.2.2 _⟩
      · unfold f_X11_ill
        rw [kind_t G.1 c.1, b1_some, if_pos c.2, if_neg (by rw [jlt, jl0]; omega), if_neg (by rw [jlt, jl9]; omega), gd_t g]
        dsimp only [vl, st]
        rw [gd_t g]
      · unfold f_X12_ill
        rw [mn _ I1 rfl rfl, b1_some, if_neg (by decide), in_t (by rw [jl0, jl9]; omega), b1_some, if_neg (by decide), gd_t g]
        dsimp only [vl, st]
        rw [gd_t g]
        rfl
      · obtain ⟨R1, R2, R3, R4, R5⟩ := G.2
        refine ⟨R1, ⟨fun i => ?_, fun i => ?_, fun i => ?_⟩, (R3.pI (by decide)).pI (by decide), (R4.pI (by decide)).pI (by decide), (R5.pI (by decide)).pI (by decide)⟩
        · exact R2.1 i
        · exact R2.2.1 i
        · rw [zI_pI, if_neg (by omega), zI_pI, zI_pI]
          by_cases h : i = a0.toInt.toNat
          · rw [if_pos ⟨rfl, h⟩, if_pos ⟨rfl, h⟩]
          · rw [if_neg (by omega), if_neg (by omega), zI_pI, if_neg (by omega)]
            exact R2.2.2 i
    · refine ⟨-1, s, -1, s, ?_, ?_, G, FrB.rf, rfl⟩
      · unfold f_X11_ill
        rw [kind_t G.1 c.1, b1_some, if_pos c.2]
        by_cases h : a1 < 0
        · rw [if_pos h]
        · rw [if_neg h, if_pos (by rw [jlt, jl9]; rw [jlt, jl0] at h; omega)]
      · unfold f_X12_ill
        rw [mn s G.1 rfl rfl, b1_some, if_neg (by decide), in_f (by rw [jl0, jl9]; omega), b1_some, if_pos rfl]
  · refine ⟨-1, s, -1, s, ?_, ?_, G, FrB.rf, rfl⟩
    · unfold f_X11_ill
      by_cases d : 0 ≤ a0.toInt ∧ a0.toInt < (zS s 15 3).toInt
      · rw [kind_t G.1 d, b1_some, if_neg (fun z => c ⟨d, z⟩)]
      · rw [kind_f d, b1_some, if_neg (by decide)]
    · unfold f_X12_ill f_X12_isMan
      by_cases d : 0 ≤ a0.toInt ∧ a0.toInt < (zS s 15 3).toInt
      · rw [body_t G.1 (by rw [← e]; exact d), b1_some, if_neg (by decide), gd_t ⟨by omega, by omega⟩, if_neg (by rw [← k7]; exact fun z => c ⟨d, z⟩), b1_some, if_pos rfl]
      · rw [body_f G.1 (by rw [← e]; exact d), b1_some, if_pos rfl, b1_some, if_pos rfl]
