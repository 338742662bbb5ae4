/-! HOLES, MAPS, NEEDS, AIMS -/
def nhX (s : SS) (c w : Int32) (i : Nat) (v : Int32) : SS := pS (pR (pHole s c w) 17 i (some (zL s))) 15 4 v
section HX
variable {s : SS} {c w v : Int32} {i : Nat}
theorem nhX_S (I : Iv s) {q k : Nat} (h : fSA q k = true) : zS (nhX s c w i v) q k = zS s q k := by
  have h1 := I.1.1.1
  have h2 := fSA_lt h
  unfold nhX
  rw [zSf h (by decide)]
  show (if q = zL s then holeF c w k else zS s q k) = _
  rw [if_neg (by omega)]
theorem nhX_I (I : Iv s) {q j : Nat} (h : q < 126) : zI (nhX s c w i v) q j = zI s q j := by
  have h1 := I.1.1.1
  show (if q = zL s + 1 then 0 else if q = zL s + 2 then 0 else if q = zL s + 3 then (-2000000000) else zI s q j) = _
  rw [if_neg (by omega), if_neg (by omega), if_neg (by omega)]
theorem nhX_B {b : SS} (I : Iv s) (F : FrB b s) : FrB b (nhX s c w i v) := by
  have h1 := I.1.1.1
  refine FrB.pS ⟨fun q k e => ?_, fun q j e => ?_⟩ (by decide)
  · have h2 := fSB_lt e
    show (if q = zL s then holeF c w k else zS s q k) = _
    rw [if_neg (by omega)]
    exact F.1 q k e
  · have h2 := fIB_lt e
    show zI (nhX s c w i v) q j = _
    rw [nhX_I I h2]
    exact F.2 q j e
theorem nhX_R (j : Nat) : zR (nhX s c w i v) 17 j = if j = i then some (zL s) else zR s 17 j := by
  show (if 17 = 17 ∧ j = i then some (zL s) else zR s 17 j) = _
  by_cases h : j = i
  · rw [if_pos ⟨rfl, h⟩, if_pos h]
  · rw [if_neg (fun z => h z.2), if_neg h]
end HX
theorem holeM {t : SS} {a0 a1 : Int32} {n : Nat} (c : 2 ≤ a0.toInt ∧ a0.toInt ≤ 5) (b : ¬ a1 < 0) (b2 : a1 / 100 < 32) (b3 : ¬ a1 % 100 = 0) (h2 : ¬ zS t 59 4 = 120) (h3 : 0 ≤ (zS t 59 4).toInt ∧ (zS t 59 4).toInt < 120) (en : n = (zS t 59 4).toInt.toNat) : f_X12_hole t a0 a1 = some (zS t 59 4, pI (pI (pI (adM t a0) 63 n (a1 / 100)) 65 n (a1 / 100)) 64 n (a1 % 100)) := by
  have gn : inB (zS t 59 4) 120 := ⟨by omega, by omega⟩
  unfold f_X12_hole
  rw [in_t (by rw [jl2, jl5]; omega), b1_some, if_neg (by decide), if_neg b, if_pos b2, if_neg b3, if_neg h2, add_t h3, bd_some]
  dsimp only [st, vl]
  rw [gd_t gn, gd_t gn, gd_t gn, ← en]
theorem sa_hole {s : SS} (G : GA s) (a0 : Int32) (a1 : Int32) : ∃ (rx : Int32) (s1 : SS) (rm : Int32) (s2 : SS), f_X11_hole s a0 a1 = some (rx, s1) ∧ f_X12_hole s1 a0 a1 = some (rm, s2) ∧ GA s2 ∧ FrB s s2 ∧ rx = rm := by
  by_cases c : 2 ≤ a0.toInt ∧ a0.toInt ≤ 5
  · have cx : ¬ a0 < 2 ∧ ¬ 5 < a0 := ⟨by rw [jlt, jl2]; omega, by rw [jlt, jl5]; omega⟩
    by_cases b : a1 < 0
    · refine ⟨-1, s, -1, s, ?_, ?_, G, FrB.rf, rfl⟩
      · unfold f_X11_hole
        rw [if_neg cx.1, if_neg cx.2, if_pos b]
      · unfold f_X12_hole
        rw [in_t (by rw [jl2, jl5]; omega), b1_some, if_neg (by decide), if_pos b]
    by_cases b2 : a1 / 100 < 32
    · have hp : 0 ≤ a1.toInt := by rw [jlt, jl0] at b; omega
      have em : (a1 % 100).toInt = a1.toInt % 100 := by rw [jm100, if_pos hp]
      by_cases b3 : a1 % 100 = 0
      · refine ⟨-1, s, -1, s, ?_, ?_, G, FrB.rf, rfl⟩
        · unfold f_X11_hole
          dsimp only [vl]
          rw [if_neg cx.1, if_neg cx.2, if_neg b, if_pos b2, if_pos (by rw [b3]; decide)]
        · unfold f_X12_hole
          rw [in_t (by rw [jl2, jl5]; omega), b1_some, if_neg (by decide), if_neg b, if_pos b2, if_pos b3]
      · have b4 : ¬ a1 % 100 < 1 := by
          rw [jlt, jl1]
          intro z
          apply b3
          apply Int32.toInt_inj.1
          rw [jl0]
          omega
        by_cases d : (zS s 15 3).toInt < 120
        · have hf : 0 ≤ (zS s 15 3).toInt ∧ (zS s 15 3).toInt ≤ 120 := G.1.f (q := 15) (k := 3) rfl
          have e4 : zS (adX s a0) 59 4 = zS s 15 3 := fr4 G
          have IX := G.1.adX d (v := a0) (by omega)
          have gn : inB (zS s 15 3) 120 := ⟨by omega, by omega⟩
          obtain ⟨n, en⟩ : ∃ n, n = (zS s 15 3).toInt.toNat := ⟨_, rfl⟩
          obtain ⟨w, ew⟩ : ∃ w, w = zS (pR (pHole (adX s a0) (a1 / 100) (a1 % 100)) 17 n (some (zL (adX s a0)))) 15 4 + 1 := ⟨_, rfl⟩
          have I1 : Iv (nhX (adX s a0) (a1 / 100) (a1 % 100) n w) := IX.holeF
          have f4 : zS (nhX (adX s a0) (a1 / 100) (a1 % 100) n w) 59 4 = zS s 15 3 := by rw [nhX_S IX rfl]; exact e4
          refine ⟨zS s 15 3, nhX (adX s a0) (a1 / 100) (a1 % 100) n w, zS (nhX (adX s a0) (a1 / 100) (a1 % 100) n w) 59 4, pI (pI (pI (adM (nhX (adX s a0) (a1 / 100) (a1 % 100) n w) a0) 63 n (a1 / 100)) 65 n (a1 / 100)) 64 n (a1 % 100), ?_, ?_, ⟨?_, ?_⟩, ((((nhX_B IX FrB.rf.adX).adM).pI (by decide)).pI (by decide)).pI (by decide), f4.symm⟩
          · unfold f_X11_hole f_X0_addedHole
            dsimp only [vl]
            rw [if_neg cx.1, if_neg cx.2, if_neg b, if_pos b2, if_neg b4, added_t G.1 d, bd_some, if_neg (by rw [jlt, jl0]; omega), gd_t gn, ← en]
            dsimp only [st]
            rw [← ew]
            rfl
          · exact holeM c b b2 b3 (by rw [f4, ← e4, adX_S _ _ (by decide)]; exact ne120 G d) (by rw [f4]; omega) (by rw [f4]; exact en)
          · have I2 := I1.adM (v := a0) (by rw [f4]; exact d)
            exact ((I2.wI (q := 63) (by decide) trivial).wI (q := 65) (by decide) trivial).wI (q := 64) (by decide) trivial
          · have hA : ∀ q j, q < 126 → q ≠ 63 → q ≠ 65 → q ≠ 64 → zI (pI (pI (pI (adM (nhX (adX s a0) (a1 / 100) (a1 % 100) n w) a0) 63 n (a1 / 100)) 65 n (a1 / 100)) 64 n (a1 % 100)) q j = if q = 62 ∧ j = n then a0 else zI (adX s a0) q j := by
              intro q j h0 h1 h2 h3
              rw [zI_pI, if_neg (by omega), zI_pI, if_neg (by omega), zI_pI, if_neg (by omega), adM_I, f4, ← en, nhX_I IX h0]
            refine RG.add G d (v := a0) (fun q k h h1 h2 h3 h4 => ?_) ?_ ?_ ?_ (fun q j h h1 h2 h3 h4 => ?_) (fun j => ?_) (fun j => ?_) (fun j => ?_) (fun _ _ _ => rfl) (fun j hj => ?_) ?_
            · rw [zS_pI, zS_pI, zS_pI, adM_S _ _ h2, nhX_S IX h, adX_S _ _ h1]
            · rw [zS_pI, zS_pI, zS_pI, adM_S _ _ (by decide), nhX_S IX rfl]; rfl
            · rw [zS_pI, zS_pI, zS_pI, adM_4, nhX_S IX rfl, adX_S _ _ (by decide)]
            · rw [zS_pI, zS_pI, zS_pI, zS_pI, zS_pI, zS_pI, adM_S _ _ (by decide), adM_S _ _ (by decide), nhX_S IX rfl, nhX_S IX rfl, adX_S _ _ (by decide), adX_S _ _ (by decide)]
              exact G.2.1.2.2.2.1
            · have hq : q ≠ 63 ∧ q ≠ 65 ∧ q ≠ 64 := by
                refine ⟨?_, ?_, ?_⟩ <;> (intro z; rw [z] at h; exact absurd h (by decide))
              rw [hA q j (fIA_lt h) hq.1 hq.2.1 hq.2.2, if_neg (by omega), adX_I, if_neg (by omega)]
            · rw [hA 16 j (by decide) (by decide) (by decide) (by decide), if_neg (by omega), adX_I, ← en]
              by_cases h : j = n
              · rw [if_pos ⟨rfl, h⟩, if_pos h]
              · rw [if_neg (by omega), if_neg h]
            · rw [hA 62 j (by decide) (by decide) (by decide) (by decide), adX_I, ← en]
              by_cases h : j = n
              · rw [if_pos ⟨rfl, h⟩, if_pos h]
              · rw [if_neg (by omega), if_neg (by omega), if_neg h]
            · rw [hA 9 j (by decide) (by decide) (by decide) (by decide), if_neg (by omega), hA 76 j (by decide) (by decide) (by decide) (by decide), if_neg (by omega), adX_I, if_neg (by omega), adX_I, if_neg (by omega)]
              exact G.2.2.1.2.2 j
            · show zR (nhX (adX s a0) (a1 / 100) (a1 % 100) n w) 17 j = zR (adX s a0) 17 j
              rw [nhX_R, if_neg (by omega)]
            · show zR (nhX (adX s a0) (a1 / 100) (a1 % 100) n w) 17 _ = none ↔ _
              rw [nhX_R, if_pos en.symm]
              refine ⟨(fun z => by cases z), (fun z => absurd ?_ z)⟩
              have h : a0.toInt = 2 ∨ a0.toInt = 3 ∨ a0.toInt = 4 ∨ a0.toInt = 5 := by omega
              rcases h with h | h | h | h
              · exact Or.inl (Int32.toInt_inj.1 h)
              · exact Or.inr (Or.inl (Int32.toInt_inj.1 h))
              · exact Or.inr (Or.inr (Or.inl (Int32.toInt_inj.1 h)))
              · exact Or.inr (Or.inr (Or.inr (Int32.toInt_inj.1 h)))
        · refine ⟨-3, s, -3, s, ?_, ?_, G, FrB.rf, rfl⟩
          · unfold f_X11_hole f_X0_addedHole
            dsimp only [vl]
            rw [if_neg cx.1, if_neg cx.2, if_neg b, if_pos b2, if_neg b4, added_f d, bd_some, if_pos (by decide)]
            rfl
          · unfold f_X12_hole
            rw [in_t (by rw [jl2, jl5]; omega), b1_some, if_neg (by decide), if_neg b, if_pos b2, if_neg b3, if_pos (eq120 G d)]
    · refine ⟨-1, s, -1, s, ?_, ?_, G, FrB.rf, rfl⟩
      · unfold f_X11_hole
        dsimp only [vl]
        rw [if_neg cx.1, if_neg cx.2, if_neg b, if_neg b2]
      · unfold f_X12_hole
        rw [in_t (by rw [jl2, jl5]; omega), b1_some, if_neg (by decide), if_neg b, if_neg b2]
  · refine ⟨-1, s, -1, s, ?_, ?_, G, FrB.rf, rfl⟩
    · unfold f_X11_hole
      by_cases h : a0 < 2
      · rw [if_pos h]
      · rw [if_neg h, if_pos (by rw [jlt, jl5]; rw [jlt, jl2] at h; omega)]
    · unfold f_X12_hole
      rw [in_f (by rw [jl2, jl5]; omega), b1_some, if_pos rfl]
/-- counters that go up or back together -/
theorem RG.cnt {s r : SS} (R : RG s) (hS : ∀ q k, fSA q k = true → ¬ (q = 0 ∧ k = 5) → ¬ (q = 59 ∧ k = 30) → ¬ (q = 34 ∧ k = 3) → ¬ (q = 59 ∧ k = 67) → ¬ (q = 34 ∧ k = 9) → ¬ (q = 59 ∧ k = 76) → zS r q k = zS s q k)
    (h1 : zS r 0 5 = zS r 59 30) (h2 : zS r 34 3 = zS r 59 67) (h3 : zS r 34 9 = zS r 59 76) (hI : ∀ q j, fIA q = true → zI r q j = zI s q j) (hJ : ∀ q j, fJ q = true → zJ r q j = zJ s q j) (hR : ∀ j, zR r 17 j = zR s 17 j) : RG r := by
  obtain ⟨R1, R2, R3, R4, R5⟩ := R
  have e3 : zS r 15 3 = zS s 15 3 := hS 15 3 rfl (by decide) (by decide) (by decide) (by decide) (by decide) (by decide)
  refine ⟨?_, ?_, ?_, ?_, ?_⟩
  · unfold RC
    rw [hS 0 15 rfl (by decide) (by decide) (by decide) (by decide) (by decide) (by decide), hS 59 29 rfl (by decide) (by decide) (by decide) (by decide) (by decide) (by decide), e3, hS 59 4 rfl (by decide) (by decide) (by decide) (by decide) (by decide) (by decide), hS 15 5 rfl (by decide) (by decide) (by decide) (by decide) (by decide) (by decide), hS 59 21 rfl (by decide) (by decide) (by decide) (by decide) (by decide) (by decide)]
    exact ⟨R1.1, h1, R1.2.2.1, R1.2.2.2.1, h2, h3⟩
  · exact R2.c (fun q i h => hI q i (by rcases h with rfl | rfl | rfl | rfl | rfl | rfl <;> rfl))
  · refine R3.c (fun i k hi hk => hS _ _ ?_ (by omega) (by omega) (by omega) (by omega) (by omega) (by omega)) (fun i => hI 78 i rfl) (fun i => hI 79 i rfl)
    have h : i = 0 ∨ i = 1 ∨ i = 2 := by omega
    have h' : k = 0 ∨ k = 1 := by omega
    rcases h with rfl | rfl | rfl <;> rcases h' with rfl | rfl <;> rfl
  · exact R4.c e3 (fun i => hI 16 i rfl) hR
  · intro i hi
    have h : i = 0 ∨ i = 1 ∨ i = 2 ∨ i = 3 ∨ i = 4 ∨ i = 5 := by omega
    refine (R5 i hi).c (fun k hk => hS _ _ ?_ (by omega) (by omega) (by omega) (by omega) (by omega) (by omega)) (hI 120 i rfl) (hI 121 i rfl) (fun j _ => hI 123 _ rfl) (fun j _ => hJ _ _ ?_) (fun j _ => hJ 122 _ rfl) (by rw [e3]; exact Int.le_refl _)
    · have h' : k = 0 ∨ k = 1 ∨ k = 2 ∨ k = 3 := by omega
      rcases h with rfl | rfl | rfl | rfl | rfl | rfl <;> rcases h' with rfl | rfl | rfl | rfl <;> rfl
    · rcases h with rfl | rfl | rfl | rfl | rfl | rfl <;> rfl
def nmX (s : SS) (c w y : Int32) (i : Nat) (v : Int32) : SS := pS (pR (pMap s c w y) 23 i (some (zL s))) 0 5 v
section MX
variable {s : SS} {c w y v : Int32} {i : Nat}
theorem nmX_S (I : Iv s) {q k : Nat} (h : fSA q k = true) (h5 : ¬ (q = 0 ∧ k = 5)) : zS (nmX s c w y i v) q k = zS s q k := by
  have h1 := I.1.1.1
  have h2 := fSA_lt h
  unfold nmX
  rw [zS_pS, if_neg h5]
  show (if q = zL s then mapF c w y k else zS s q k) = _
  rw [if_neg (by omega)]
theorem nmX_I (I : Iv s) {q j : Nat} (h : q < 126) : zI (nmX s c w y i v) q j = zI s q j := by
  have h1 := I.1.1.1
  show (if q = zL s + 1 then 0 else zI s q j) = _
  rw [if_neg (by omega)]
theorem nmX_B {b : SS} (I : Iv s) (F : FrB b s) : FrB b (nmX s c w y i v) := by
  have h1 := I.1.1.1
  refine FrB.pS ⟨fun q k e => ?_, fun q j e => ?_⟩ (by decide)
  · have h2 := fSB_lt e
    show (if q = zL s then mapF c w y k else zS s q k) = _
    rw [if_neg (by omega)]
    exact F.1 q k e
  · have h2 := fIB_lt e
    show zI (nmX s c w y i v) q j = _
    rw [nmX_I I h2]
    exact F.2 q j e
theorem nmX_R (j : Nat) : zR (nmX s c w y i v) 17 j = zR s 17 j := by
  show (if 17 = 23 ∧ j = i then some (zL s) else zR s 17 j) = _
  rw [if_neg (fun z => absurd z.1 (by decide))]
end MX
theorem mapM {t : SS} {a0 a1 : Int32} {n : Nat} (hs : f_X12_isSpan a0 = some 1) (c : 1 ≤ a1.toInt ∧ a1.toInt ≤ 60) (h2 : ¬ zS t 59 30 = 8) (h3 : 0 ≤ (zS t 59 30).toInt ∧ (zS t 59 30).toInt < 8) (en : n = (zS t 59 30).toInt.toNat) : f_X12_map t a0 a1 = some (zS t 59 30, pS (pI (pI (pI t 81 n (a0 / 100)) 82 n (a0 % 100)) 83 n a1) 59 30 (zS t 59 30 + 1)) := by
  have gn : inB (zS t 59 30) 8 := ⟨by omega, by omega⟩
  unfold f_X12_map
  rw [hs, b1_some, if_neg (by decide), in_t (by rw [jl1, jl60]; omega), b1_some, if_neg (by decide), if_neg h2]
  dsimp only [st, vl]
  rw [gd_t gn, gd_t (show inB (zS (pI t 81 (zS t 59 30).toInt.toNat (a0 / 100)) 59 30) 8 from gn), gd_t (show inB (zS (pI (pI t 81 (zS t 59 30).toInt.toNat (a0 / 100)) 82 (zS (pI t 81 (zS t 59 30).toInt.toNat (a0 / 100)) 59 30).toInt.toNat (a0 % 100)) 59 30) 8 from gn)]
  rw [en]
  show some (zS t 59 30 + 1 - 1, _) = _
  rw [s11]
  rfl
theorem sa_map {s : SS} (G : GA s) (a0 : Int32) (a1 : Int32) : ∃ (rx : Int32) (s1 : SS) (rm : Int32) (s2 : SS), f_X11_map s a0 a1 = some (rx, s1) ∧ f_X12_map s1 a0 a1 = some (rm, s2) ∧ GA s2 ∧ FrB s s2 ∧ rx = rm := by
  rcases span_01 a0 with hs | hs
  · refine ⟨-1, s, -1, s, ?_, ?_, G, FrB.rf, rfl⟩
    · unfold f_X11_map
      rw [span_e, hs, b1_some, if_pos rfl]
    · unfold f_X12_map
      rw [hs, b1_some, if_pos rfl]
  by_cases c : 1 ≤ a1.toInt ∧ a1.toInt ≤ 60
  · have e5 := G.2.1.2.1
    have hf : 0 ≤ (zS s 0 5).toInt ∧ (zS s 0 5).toInt ≤ 8 := G.1.f (q := 0) (k := 5) rfl
    by_cases b : (zS s 0 5).toInt < 8
    · obtain ⟨n, en⟩ : ∃ n, n = (zS s 0 5).toInt.toNat := ⟨_, rfl⟩
      have ew : zS (pR (pMap s (a0 / 100) (a0 % 100) a1) 23 n (some (zL s))) 0 5 = zS s 0 5 := by
        have h1 := G.1.1.1.1
        show (if 0 = zL s then mapF (a0 / 100) (a0 % 100) a1 5 else zS s 0 5) = _
        rw [if_neg (by omega)]
      have I1 : Iv (nmX s (a0 / 100) (a0 % 100) a1 n (zS s 0 5 + 1)) := by
        have := G.1.mapF (c := a0 / 100) (w := a0 % 100) (y := a1) (i := n) ⟨hf.1, b⟩
        rw [ew] at this
        exact this
      have f30 : zS (nmX s (a0 / 100) (a0 % 100) a1 n (zS s 0 5 + 1)) 59 30 = zS s 0 5 := by
        rw [nmX_S G.1 rfl (by decide)]
        exact e5.symm
      have n1 : (zS s 0 5 + 1).toInt = (zS s 0 5).toInt + 1 := by rw [i32_add (by rw [jl1]; omega) (by rw [jl1]; omega), jl1]
      refine ⟨zS s 0 5, nmX s (a0 / 100) (a0 % 100) a1 n (zS s 0 5 + 1), zS (nmX s (a0 / 100) (a0 % 100) a1 n (zS s 0 5 + 1)) 59 30, pS (pI (pI (pI (nmX s (a0 / 100) (a0 % 100) a1 n (zS s 0 5 + 1)) 81 n (a0 / 100)) 82 n (a0 % 100)) 83 n a1) 59 30 (zS (nmX s (a0 / 100) (a0 % 100) a1 n (zS s 0 5 + 1)) 59 30 + 1), ?_, ?_, ⟨?_, ?_⟩, ((((nmX_B G.1 FrB.rf).pI (by decide)).pI (by decide)).pI (by decide)).pS (by decide), f30.symm⟩
      · unfold f_X11_map
        rw [span_e, hs, b1_some, if_neg (by decide), yard_t c, b1_some, if_neg (by decide), if_pos (by rw [jlt, jl8]; exact b)]
        dsimp only [vl, st]
        rw [gd_t ⟨by omega, by omega⟩, ← en, ew]
        show some (zS s 0 5 + 1 - 1, _) = _
        rw [s11]
        rfl
      · exact mapM hs c (fun z => by rw [f30] at z; rw [z, jl8] at b; omega) (by rw [f30]; omega) (by rw [f30]; exact en)
      · rw [f30]
        exact (((I1.wI (q := 81) (by decide) trivial).wI (q := 82) (by decide) trivial).wI (q := 83) (by decide) trivial).wF (q := 59) (k := 30) (by decide) (by decide) ⟨by omega, by omega⟩
      · rw [f30]
        refine RG.cnt G.2 (fun q k h h1 h2 h3 h4 h5 h6 => ?_) rfl ?_ ?_ (fun q j h => ?_) (fun _ _ _ => rfl) (fun j => nmX_R (c := a0 / 100) (w := a0 % 100) (y := a1) (i := n) (v := zS s 0 5 + 1) j)
        · rw [zS_pS, if_neg h2, zS_pI, zS_pI, zS_pI, nmX_S G.1 h h1]
        · rw [zS_pS, if_neg (by decide), zS_pS, if_neg (by decide), zS_pI, zS_pI, zS_pI, zS_pI, zS_pI, zS_pI, nmX_S G.1 rfl (by decide), nmX_S G.1 rfl (by decide)]
          exact G.2.1.2.2.2.2.1
        · rw [zS_pS, if_neg (by decide), zS_pS, if_neg (by decide), zS_pI, zS_pI, zS_pI, zS_pI, zS_pI, zS_pI, nmX_S G.1 rfl (by decide), nmX_S G.1 rfl (by decide)]
          exact G.2.1.2.2.2.2.2
        · rw [zI_pS, zIf h (by decide), zIf h (by decide), zIf h (by decide), nmX_I G.1 (fIA_lt h)]
    · refine ⟨-3, s, -3, s, ?_, ?_, G, FrB.rf, rfl⟩
      · unfold f_X11_map
        rw [span_e, hs, b1_some, if_neg (by decide), yard_t c, b1_some, if_neg (by decide), if_neg (by rw [jlt, jl8]; exact b)]
      · unfold f_X12_map
        rw [hs, b1_some, if_neg (by decide), in_t (by rw [jl1, jl60]; omega), b1_some, if_neg (by decide), if_pos (by rw [← e5]; exact Int32.toInt_inj.1 (by rw [jl8]; omega))]
  · refine ⟨-1, s, -1, s, ?_, ?_, G, FrB.rf, rfl⟩
    · unfold f_X11_map
      rw [span_e, hs, b1_some, if_neg (by decide), yard_f c, b1_some, if_pos rfl]
    · unfold f_X12_map
      rw [hs, b1_some, if_neg (by decide), in_f (by rw [jl1, jl60]; omega), b1_some, if_pos rfl]
