section RGw
variable {s : SS} {q k i : Nat} {v : Int32}
theorem RC.pI (R : RC s) : RC (pI s q i v) := R
theorem RC.pSo (h : fSA q k = false) (R : RC s) : RC (pS s q k v) := by
  have e : ∀ a b, fSA a b = true → zS (pS s q k v) a b = zS s a b := fun a b f => by rw [zS_pS, if_neg (fun z => by rw [z.1, z.2, h] at f; cases f)]
  unfold RC
  rw [e 0 15 rfl, e 0 5 rfl, e 15 3 rfl, e 15 5 rfl, e 34 3 rfl, e 34 9 rfl, e 59 29 rfl, e 59 30 rfl, e 59 4 rfl, e 59 21 rfl, e 59 67 rfl, e 59 76 rfl]
  exact R
theorem RA.pS (R : RA s) : RA (pS s q k v) := R
theorem RA.pI (h : q ≠ 42 ∧ q ≠ 113 ∧ q ≠ 16 ∧ q ≠ 62 ∧ q ≠ 9 ∧ q ≠ 76) (R : RA s) : RA (pI s q i v) := R.c (fun a b z => by rw [zI_pI, if_neg (by omega)])
theorem RM.pS (h : q < 20 ∨ 22 < q) (R : RM s) : RM (pS s q k v) := R.c (fun a b h1 h2 => by rw [zS_pS, if_neg (by omega)]) (fun _ => rfl) (fun _ => rfl)
theorem RM.pI (h : q ≠ 78 ∧ q ≠ 79) (R : RM s) : RM (pI s q i v) := R.c (fun _ _ _ _ => rfl) (fun a => by rw [zI_pI, if_neg (by omega)]) (fun a => by rw [zI_pI, if_neg (by omega)])
theorem RH.pS (h : ¬ (q = 15 ∧ k = 3)) (R : RH s) : RH (pS s q k v) := R.c (by rw [zS_pS, if_neg (by omega)]) (fun _ => rfl) (fun _ => rfl)
theorem RH.pI (h : q ≠ 16) (R : RH s) : RH (pI s q i v) := R.c rfl (fun a => by rw [zI_pI, if_neg (by omega)]) (fun _ => rfl)
theorem RV.pS (h : q < 47 ∨ 57 < q) (h3 : ¬ (q = 15 ∧ k = 3)) (R : RV s) : RV (pS s q k v) := R.c (fun a b h1 h2 => by rw [zS_pS, if_neg (by omega)]) (fun _ _ _ => rfl) (fun _ _ => rfl) (by rw [zS_pS, if_neg (by omega)]; exact Int.le_refl _)
theorem RV.pI (h : q ≠ 120 ∧ q ≠ 121 ∧ q ≠ 123) (R : RV s) : RV (pI s q i v) := R.c (fun _ _ _ _ => rfl) (fun a b z => by rw [zI_pI, if_neg (by omega)]) (fun _ _ => rfl) (Int.le_refl _)
end RGw
theorem sa_spread {s : SS} (G : GA s) (a0 : Int32) : ∃ (rx : Int32) (s1 : SS) (rm : Int32) (s2 : SS), f_X11_spread s a0 = some (rx, s1) ∧ f_X12_spread s1 a0 = some (rm, s2) ∧ GA s2 ∧ FrB s s2 ∧ rx = rm := by
  by_cases h1 : a0 < 0
  · refine ⟨-1, s, -1, s, ?_, ?_, G, FrB.rf, rfl⟩
    · unfold f_X11_spread
      rw [if_pos h1]
    · unfold f_X12_spread f_X12_in
      rw [if_pos h1]
      rfl
  by_cases h2 : 8 < a0
  · refine ⟨-1, s, -1, s, ?_, ?_, G, FrB.rf, rfl⟩
    · unfold f_X11_spread
      rw [if_neg h1, if_pos h2]
    · unfold f_X12_spread f_X12_in
      rw [if_neg h1, if_pos h2]
      rfl
  refine ⟨zS s 0 15, pS s 0 15 a0, zS s 59 29, pS (pS s 0 15 a0) 59 29 a0, ?_, ?_, ⟨?_, ?_⟩, (FrB.rf.pS (by decide)).pS (by decide), G.2.1.1⟩
  · unfold f_X11_spread
    rw [if_neg h1, if_neg h2]
    rfl
  · unfold f_X12_spread f_X12_in
    rw [if_neg h1, if_neg h2]
    rfl
  · exact Iv.wF (q := 59) (k := 29) (Iv.wF (q := 0) (k := 15) G.1 (by decide) (by decide) trivial) (by decide) (by decide) trivial
  · obtain ⟨R1, R2, R3, R4, R5⟩ := G.2
    exact ⟨⟨rfl, R1.2⟩, R2, (R3.pS (by decide)).pS (by decide), (R4.pS (by decide)).pS (by decide), (R5.pS (by decide) (by decide)).pS (by decide) (by decide)⟩
theorem ix6 {a b : Int32} (ha : 0 ≤ a.toInt ∧ a.toInt ≤ 3) (hb : 0 ≤ b.toInt ∧ b.toInt ≤ 5) : (6 * a + b).toInt = 6 * a.toInt + b.toInt := by
  have j6 : (6 : Int32).toInt = 6 := rfl
  have m1 : ((6 : Int32) * a).toInt = 6 * a.toInt := by rw [i32_mul (by rw [j6]; omega) (by rw [j6]; omega), j6]
  rw [i32_add (by rw [m1]; omega) (by rw [m1]; omega), m1]
theorem sa_rock {s : SS} (G : GA s) (a0 : Int32) (a1 : Int32) (a2 : Int32) : ∃ (rx : Int32) (s1 : SS) (rm : Int32) (s2 : SS), f_X11_rock s a0 a1 a2 = some (rx, s1) ∧ f_X12_rock s1 a0 a1 a2 = some (rm, s2) ∧ GA s2 ∧ FrB s s2 ∧ rx = rm := by
  by_cases c : 0 ≤ a0.toInt ∧ a0.toInt ≤ 3
  · by_cases d : 0 ≤ a1.toInt ∧ a1.toInt ≤ 5
    · by_cases e : 1 ≤ a2.toInt ∧ a2.toInt ≤ 9
      · have hx := ix6 c d
        have gx : inB (6 * a0 + a1) 24 := ⟨by omega, by omega⟩
        refine ⟨zI s 42 (6 * a0 + a1).toInt.toNat, pI s 42 (6 * a0 + a1).toInt.toNat a2, zI s 113 (6 * a0 + a1).toInt.toNat, pI (pI s 42 (6 * a0 + a1).toInt.toNat a2) 113 (6 * a0 + a1).toInt.toNat a2, ?_, ?_, ⟨?_, ?_⟩, (FrB.rf.pI (by decide)).pI (by decide), G.2.2.1.1 _⟩
        · unfold f_X11_rock
          rw [if_neg (by rw [jlt, jl0]; omega), if_pos (by rw [jlt, jl4]; omega), if_neg (by rw [jlt, jl0]; omega), if_pos (by rw [jlt, jl6]; omega), if_neg (by rw [jlt, jl1]; omega), if_neg (by rw [jlt, jl9]; omega), Int32.mul_comm a0 6]
          show gd _ _ = _
          rw [gd_t gx]
          show gd _ _ = _
          rw [gd_t gx]
          rfl
        · unfold f_X12_rock
          rw [in_t (by rw [jl0, jl3]; omega), b1_some, if_neg (by decide), in_t (by rw [jl0, jl5]; omega), b1_some, if_neg (by decide), in_t (by rw [jl1, jl9]; omega), b1_some, if_neg (by decide)]
          show gd _ _ = _
          rw [gd_t gx]
          show gd _ _ = _
          rw [gd_t gx]
          rfl
        · exact (G.1.wI (q := 42) (by decide) trivial).wI (q := 113) (by decide) trivial
        · obtain ⟨R1, R2, R3, R4, R5⟩ := G.2
          refine ⟨R1, ⟨fun i => ?_, R2.2.1, R2.2.2⟩, (R3.pI (by decide)).pI (by decide), (R4.pI (by decide)).pI (by decide), (R5.pI (by decide)).pI (by decide)⟩
          rw [zI_pI, if_neg (by omega), zI_pI, zI_pI]
          by_cases h : i = (6 * a0 + a1).toInt.toNat
          · rw [if_pos ⟨rfl, h⟩, if_pos ⟨rfl, h⟩]
          · rw [if_neg (by omega), if_neg (by omega), zI_pI, if_neg (by omega)]
            exact R2.1 i
      · refine ⟨-1, s, -1, s, ?_, ?_, G, FrB.rf, rfl⟩
        · unfold f_X11_rock
          rw [if_neg (by rw [jlt, jl0]; omega), if_pos (by rw [jlt, jl4]; omega), if_neg (by rw [jlt, jl0]; omega), if_pos (by rw [jlt, jl6]; omega)]
          by_cases h : a2 < 1
          · rw [if_pos h]
          · rw [if_neg h, if_pos (by rw [jlt, jl9]; rw [jlt, jl1] at h; omega)]
        · unfold f_X12_rock
          rw [in_t (by rw [jl0, jl3]; omega), b1_some, if_neg (by decide), in_t (by rw [jl0, jl5]; omega), b1_some, if_neg (by decide), in_f (by rw [jl1, jl9]; omega), b1_some, if_pos rfl]
    · refine ⟨-1, s, -1, s, ?_, ?_, G, FrB.rf, rfl⟩
      · unfold f_X11_rock
        rw [if_neg (by rw [jlt, jl0]; omega), if_pos (by rw [jlt, jl4]; omega)]
        by_cases h : a1 < 0
        · rw [if_pos h]
        · rw [if_neg h, if_neg (by rw [jlt, jl6]; rw [jlt, jl0] at h; omega)]
      · unfold f_X12_rock
        rw [in_t (by rw [jl0, jl3]; omega), b1_some, if_neg (by decide), in_f (by rw [jl0, jl5]; omega), b1_some, if_pos rfl]
  · refine ⟨-1, s, -1, s, ?_, ?_, G, FrB.rf, rfl⟩
    · unfold f_X11_rock
      by_cases h : a0 < 0
      · rw [if_pos h]
      · rw [if_neg h, if_neg (by rw [jlt, jl4]; rw [jlt, jl0] at h; omega)]
    · unfold f_X12_rock
      rw [in_f (by rw [jl0, jl3]; omega), b1_some, if_pos rfl]
