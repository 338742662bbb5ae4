/-! BODIES -/
theorem RG.add {s r : SS} {v : Int32} (G : GA s) (hn : (zS s 15 3).toInt < 120)
    (hS : ∀ q k, fSA q k = true → ¬ (q = 15 ∧ k = 3) → ¬ (q = 59 ∧ k = 4) → ¬ (q = 15 ∧ k = 5) → ¬ (q = 59 ∧ k = 21) → zS r q k = zS s q k)
    (h3 : zS r 15 3 = zS s 15 3 + 1) (h4 : zS r 59 4 = zS s 59 4 + 1) (h5 : zS r 15 5 = zS r 59 21)
    (hI : ∀ q j, fIA q = true → q ≠ 16 → q ≠ 62 → q ≠ 9 → q ≠ 76 → zI r q j = zI s q j)
    (h16 : ∀ j, zI r 16 j = if j = (zS s 15 3).toInt.toNat then v else zI s 16 j) (h62 : ∀ j, zI r 62 j = if j = (zS s 15 3).toInt.toNat then v else zI s 62 j) (h9 : ∀ j, zI r 9 j = zI r 76 j)
    (hJ : ∀ q j, fJ q = true → zJ r q j = zJ s q j) (hR : ∀ j, j ≠ (zS s 15 3).toInt.toNat → zR r 17 j = zR s 17 j) (hc : zR r 17 (zS s 15 3).toInt.toNat = none ↔ ¬ isH v) : RG r := by
  have hf : 0 ≤ (zS s 15 3).toInt ∧ (zS s 15 3).toInt ≤ 120 := G.1.f (q := 15) (k := 3) rfl
  have n1 : (zS s 15 3 + 1).toInt = (zS s 15 3).toInt + 1 := by rw [i32_add (by rw [jl1]; omega) (by rw [jl1]; omega), jl1]
  obtain ⟨_, R1, R2, R3, R4, R5⟩ := G
  refine ⟨?_, ⟨fun i => ?_, fun i => ?_, h9⟩, ?_, fun i hi => ?_, fun i hi => ?_⟩
  · unfold RC
    rw [hS 0 15 rfl (by decide) (by decide) (by decide) (by decide), hS 0 5 rfl (by decide) (by decide) (by decide) (by decide), h3, h4, hS 34 3 rfl (by decide) (by decide) (by decide) (by decide), hS 34 9 rfl (by decide) (by decide) (by decide) (by decide), hS 59 29 rfl (by decide) (by decide) (by decide) (by decide), hS 59 30 rfl (by decide) (by decide) (by decide) (by decide), hS 59 67 rfl (by decide) (by decide) (by decide) (by decide), hS 59 76 rfl (by decide) (by decide) (by decide) (by decide)]
    exact ⟨R1.1, R1.2.1, by rw [R1.2.2.1], h5, R1.2.2.2.2⟩
  · rw [hI 42 i rfl (by decide) (by decide) (by decide) (by decide), hI 113 i rfl (by decide) (by decide) (by decide) (by decide)]
    exact R2.1 i
  · rw [h16, h62]
    by_cases c : i = (zS s 15 3).toInt.toNat
    · rw [if_pos c, if_pos c]
    · rw [if_neg c, if_neg c]; exact R2.2.1 i
  · refine R3.c (fun i k hi hk => hS _ _ ?_ (by omega) (by omega) (by omega) (by omega)) (fun i => hI 78 i rfl (by decide) (by decide) (by decide) (by decide)) (fun i => hI 79 i rfl (by decide) (by decide) (by decide) (by decide))
    have h : i = 0 ∨ i = 1 ∨ i = 2 := by omega
    have h' : k = 0 ∨ k = 1 := by omega
    rcases h with rfl | rfl | rfl <;> rcases h' with rfl | rfl <;> rfl
  · rw [h3, n1, h16]
    by_cases c : i = (zS s 15 3).toInt.toNat
    · rw [if_pos c, c, hc]
      constructor
      · intro h z; exact h z.2
      · intro h z; exact h ⟨by omega, z⟩
    · rw [if_neg c, hR i c, R4 i hi]
      constructor
      · intro h z; exact h ⟨by omega, z.2⟩
      · intro h z; exact h ⟨by omega, z.2⟩
  · have h : i = 0 ∨ i = 1 ∨ i = 2 ∨ i = 3 ∨ i = 4 ∨ i = 5 := by omega
    refine (R5 i hi).c (fun k hk => hS _ _ ?_ (by omega) (by omega) (by omega) (by omega)) (hI 120 i rfl (by decide) (by decide) (by decide) (by decide)) (hI 121 i rfl (by decide) (by decide) (by decide) (by decide)) (fun j _ => hI 123 _ rfl (by decide) (by decide) (by decide) (by decide)) (fun j _ => hJ _ _ ?_) (fun j _ => hJ 122 _ rfl) (by rw [h3, n1]; omega)
    · have h' : k = 0 ∨ k = 1 ∨ k = 2 ∨ k = 3 := by omega
      rcases h with rfl | rfl | rfl | rfl | rfl | rfl <;> rcases h' with rfl | rfl | rfl | rfl <;> rfl
    · rcases h with rfl | rfl | rfl | rfl | rfl | rfl <;> rfl
def adX (s : SS) (v : Int32) : SS := pS (pI s 16 (zS s 15 3).toInt.toNat v) 15 3 (zS s 15 3 + 1)
def adM (s : SS) (v : Int32) : SS := pS (pI s 62 (zS s 59 4).toInt.toNat v) 59 4 (zS s 59 4 + 1)
theorem s11 (x : Int32) : x + 1 - 1 = x := Int32.add_sub_cancel x 1
theorem added_t {s : SS} {v : Int32} (I : Iv s) (h : (zS s 15 3).toInt < 120) : f_X0_added s v = some (zS s 15 3, adX s v) := by
  have hf : 0 ≤ (zS s 15 3).toInt ∧ (zS s 15 3).toInt ≤ 120 := I.f (q := 15) (k := 3) rfl
  unfold f_X0_added
  rw [if_pos (by rw [jlt, jl120]; omega)]
  dsimp only [vl, st]
  rw [gd_t ⟨by omega, by omega⟩]
  show some (zS s 15 3 + 1 - 1, adX s v) = _
  rw [s11]
theorem added_f {s : SS} {v : Int32} (h : ¬ (zS s 15 3).toInt < 120) : f_X0_added s v = some (-3, s) := by
  unfold f_X0_added
  rw [if_neg (by rw [jlt, jl120]; exact h)]
theorem add_t {s : SS} {v : Int32} (h : 0 ≤ (zS s 59 4).toInt ∧ (zS s 59 4).toInt < 120) : f_X12_add s v = some (zS s 59 4, adM s v) := by
  unfold f_X12_add
  dsimp only [vl, st]
  rw [gd_t ⟨by omega, by omega⟩]
  show some (zS s 59 4 + 1 - 1, adM s v) = _
  rw [s11]
theorem Iv.adX {s : SS} {v : Int32} (I : Iv s) (h : (zS s 15 3).toInt < 120) (hv : 0 ≤ v.toInt ∧ v.toInt ≤ 7) : Iv (adX s v) := by
  have hf : 0 ≤ (zS s 15 3).toInt ∧ (zS s 15 3).toInt ≤ 120 := I.f (q := 15) (k := 3) rfl
  have n1 : (zS s 15 3 + 1).toInt = (zS s 15 3).toInt + 1 := by rw [i32_add (by rw [jl1]; omega) (by rw [jl1]; omega), jl1]
  exact (I.wI (q := 16) (by decide) hv).wF (q := 15) (k := 3) (by decide) (by decide) ⟨by omega, by omega⟩
theorem Iv.adM {s : SS} {v : Int32} (I : Iv s) (h : (zS s 59 4).toInt < 120) : Iv (adM s v) := by
  have hf : 0 ≤ (zS s 59 4).toInt ∧ (zS s 59 4).toInt ≤ 120 := I.f (q := 59) (k := 4) rfl
  have n1 : (zS s 59 4 + 1).toInt = (zS s 59 4).toInt + 1 := by rw [i32_add (by rw [jl1]; omega) (by rw [jl1]; omega), jl1]
  exact (I.wI (q := 62) (by decide) trivial).wF (q := 59) (k := 4) (by decide) (by decide) ⟨by omega, by omega⟩
theorem ne120 {s : SS} (G : GA s) (h : (zS s 15 3).toInt < 120) : ¬ zS s 59 4 = 120 := fun z => by
  rw [G.2.1.2.2.1, z, jl120] at h
  omega
theorem eq120 {s : SS} (G : GA s) (h : ¬ (zS s 15 3).toInt < 120) : zS s 59 4 = 120 := by
  have hf : 0 ≤ (zS s 15 3).toInt ∧ (zS s 15 3).toInt ≤ 120 := G.1.f (q := 15) (k := 3) rfl
  apply Int32.toInt_inj.1
  rw [← G.2.1.2.2.1, jl120]
  omega
theorem FrB.adX {b s : SS} {v : Int32} (F : FrB b s) : FrB b (adX s v) := (F.pI (by decide)).pS (by decide)
theorem FrB.adM {b s : SS} {v : Int32} (F : FrB b s) : FrB b (adM s v) := (F.pI (by decide)).pS (by decide)
section BD
variable {s : SS} {v : Int32}
theorem adX_S (q k : Nat) (h : ¬ (q = 15 ∧ k = 3)) : zS (adX s v) q k = zS s q k := by
  unfold adX
  rw [zS_pS, if_neg h, zS_pI]
theorem adM_S (q k : Nat) (h : ¬ (q = 59 ∧ k = 4)) : zS (adM s v) q k = zS s q k := by
  unfold adM
  rw [zS_pS, if_neg h, zS_pI]
theorem adX_3 : zS (adX s v) 15 3 = zS s 15 3 + 1 := rfl
theorem adM_4 : zS (adM s v) 59 4 = zS s 59 4 + 1 := rfl
theorem adX_I (q j : Nat) : zI (adX s v) q j = if q = 16 ∧ j = (zS s 15 3).toInt.toNat then v else zI s q j := rfl
theorem adM_I (q j : Nat) : zI (adM s v) q j = if q = 62 ∧ j = (zS s 59 4).toInt.toNat then v else zI s q j := rfl
end BD
theorem sa_body {s : SS} (G : GA s) (a0 : Int32) : ∃ (rx : Int32) (s1 : SS) (rm : Int32) (s2 : SS), f_X11_body s a0 = some (rx, s1) ∧ f_X12_body s1 a0 = some (rm, s2) ∧ GA s2 ∧ FrB s s2 ∧ rx = rm := by
  by_cases c : 0 ≤ a0.toInt ∧ a0.toInt ≤ 1
  · have hx : f_X11_body s a0 = bd (f_X0_added s a0) fun r2 s2 => some (r2, s2) := by
      unfold f_X11_body
      dsimp only [jn]
      by_cases h : a0 = 0
      · rw [if_pos h]
      · rw [if_neg h, if_pos (Int32.toInt_inj.1 (by rw [jl1]; rw [jeq, jl0] at h; omega))]
    by_cases d : (zS s 15 3).toInt < 120
    · have e4 : zS (adX s a0) 59 4 = zS s 15 3 := by rw [adX_S _ _ (by decide)]; exact G.2.1.2.2.1.symm
      have hf : 0 ≤ (zS s 15 3).toInt ∧ (zS s 15 3).toInt ≤ 120 := G.1.f (q := 15) (k := 3) rfl
      refine ⟨zS s 15 3, adX s a0, zS (adX s a0) 59 4, adM (adX s a0) a0, ?_, ?_, ⟨?_, ?_⟩, FrB.rf.adX.adM, e4.symm⟩
      · rw [hx, added_t G.1 d]; rfl
      · unfold f_X12_body
        rw [in_t (by rw [jl0, jl1]; omega), b1_some, if_neg (by decide), if_neg (by rw [adX_S _ _ (by decide)]; exact ne120 G d), add_t (by rw [e4]; omega)]
        rfl
      · exact (G.1.adX d (by omega)).adM (by rw [e4]; exact d)
      · refine RG.add G d (v := a0) (fun q k _ h1 h2 _ _ => ?_) ?_ ?_ ?_ (fun q j _ h1 h2 _ _ => ?_) (fun j => ?_) (fun j => ?_) (fun j => ?_) (fun _ _ _ => rfl) (fun _ _ => rfl) ?_
        · rw [adM_S _ _ h2, adX_S _ _ h1]
        · rw [adM_S _ _ (by decide)]; rfl
        · rw [adM_4, adX_S _ _ (by decide)]
        · rw [adM_S _ _ (by decide), adM_S _ _ (by decide), adX_S _ _ (by decide), adX_S _ _ (by decide)]; exact G.2.1.2.2.2.1
        · rw [adM_I, if_neg (by omega), adX_I, if_neg (by omega)]
        · rw [adM_I, if_neg (by omega), adX_I]
          by_cases h : j = (zS s 15 3).toInt.toNat
          · rw [if_pos ⟨rfl, h⟩, if_pos h]
          · rw [if_neg (by omega), if_neg h]
        · rw [adM_I, e4, adX_I]
          by_cases h : j = (zS s 15 3).toInt.toNat
          · rw [if_pos ⟨rfl, h⟩, if_pos h]
          · rw [if_neg (by omega), if_neg (by omega), if_neg h]
        · rw [adM_I, if_neg (by omega), adX_I, if_neg (by omega), adM_I, if_neg (by omega), adX_I, if_neg (by omega)]; exact G.2.2.1.2.2 j
        · have hz : zR (adM (adX s a0) a0) 17 (zS s 15 3).toInt.toNat = none := (G.2.2.2.2.1 _ (by omega)).2 (fun z => by have := z.1; omega)
          rw [hz]
          refine ⟨fun _ z => ?_, fun _ => rfl⟩
          rcases z with z | z | z | z <;> rw [z] at c <;> exact absurd c.2 (by decide)
    · refine ⟨-3, s, -3, s, ?_, ?_, G, FrB.rf, rfl⟩
      · rw [hx, added_f d]; rfl
      · unfold f_X12_body
        rw [in_t (by rw [jl0, jl1]; omega), b1_some, if_neg (by decide), if_pos (eq120 G d)]
  · refine ⟨-1, s, -1, s, ?_, ?_, G, FrB.rf, rfl⟩
    · unfold f_X11_body
      dsimp only [jn]
      rw [if_neg (fun z => c (by rw [z]; decide)), if_neg (fun z => c (by rw [z]; decide))]
    · unfold f_X12_body
      rw [in_f (by rw [jl0, jl1]; omega), b1_some, if_pos rfl]
