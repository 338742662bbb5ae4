/-! TAKEN -/
theorem under_L {s : SS} {a : Int32} (n : Nat) : ∀ k : Nat, k < 8 → ∀ m : Nat, m < 8 → a = nI m → f_X0_isUnder_L9 (fun x => if x = a then some 1 else some 0) s a (n + 9) (nI k) 0 = f_X12_isUnder (nI k) (nI m) := by
  intro k hk m hm ha
  subst ha
  have h1 : k = 0 ∨ k = 1 ∨ k = 2 ∨ k = 3 ∨ k = 4 ∨ k = 5 ∨ k = 6 ∨ k = 7 := by omega
  have h2 : m = 0 ∨ m = 1 ∨ m = 2 ∨ m = 3 ∨ m = 4 ∨ m = 5 ∨ m = 6 ∨ m = 7 := by omega
  rcases h1 with rfl | rfl | rfl | rfl | rfl | rfl | rfl | rfl <;> rcases h2 with rfl | rfl | rfl | rfl | rfl | rfl | rfl | rfl <;> rfl
theorem under_e {s : SS} {k a : Int32} (hk : 0 ≤ k.toInt ∧ k.toInt ≤ 7) (ha : 0 ≤ a.toInt ∧ a.toInt ≤ 7) : f_X0_isUnder_L9 (fun x => if x = a then some 1 else some 0) s a 4000 k 0 = f_X12_isUnder k a := by
  have h := under_L (s := s) (a := a) 3991 k.toInt.toNat (by omega) a.toInt.toNat (by omega) (toN_ ha.1)
  rw [← toN_ hk.1, ← toN_ ha.1] at h
  exact h
theorem under_01 (k a : Int32) : f_X12_isUnder k a = some 0 ∨ f_X12_isUnder k a = some 1 := by
  unfold f_X12_isUnder
  by_cases h1 : a = 0
  · rw [if_pos h1]; exact Or.inr rfl
  rw [if_neg h1]
  by_cases h2 : k = a
  · rw [if_pos h2]; exact Or.inr rfl
  rw [if_neg h2]
  split
  · split
    · exact Or.inr rfl
    · split
      · exact Or.inr rfl
      · split
        · exact Or.inr rfl
        · split
          · exact Or.inr rfl
          · split
            · exact Or.inr rfl
            · exact Or.inl rfl
  · split
    · split
      · exact Or.inr rfl
      · split
        · exact Or.inr rfl
        · split
          · exact Or.inr rfl
          · exact Or.inl rfl
    · split
      · split
        · exact Or.inr rfl
        · exact Or.inl rfl
      · exact Or.inl rfl
theorem sa_taken {s : SS} (G : GA s) (a0 : Int32) (a1 : Int32) : ∃ (rx : Int32) (s1 : SS) (rm : Int32) (s2 : SS), f_X11_taken s a0 a1 = some rx ∧ f_X12_taken s a0 a1 = some rm ∧ GA s ∧ rx = rm := by
  have hf : 0 ≤ (zS s 15 3).toInt ∧ (zS s 15 3).toInt ≤ 120 := G.1.f (q := 15) (k := 3) rfl
  by_cases c : 0 ≤ a0.toInt ∧ a0.toInt < 6
  · by_cases b : 0 ≤ a1.toInt ∧ a1.toInt ≤ 7
    · have bx : ¬ a1 < 0 ∧ ¬ 7 < a1 := ⟨by rw [jlt, jl0]; omega, by rw [jlt, jl7]; omega⟩
      obtain ⟨i, ei⟩ : ∃ i, i = a0.toInt.toNat := ⟨_, rfl⟩
      have hi : i < 6 := by omega
      have R := G.2.2.2.2.2 i hi
      have g0 : inB a0 6 := ⟨c.1, c.2⟩
      rcases R with R1 | R1 | R1
      · refine ⟨-11, s, -11, s, ?_, ?_, G, rfl⟩
        · unfold f_X11_taken
          rw [shelf_t G.1 c, b1_some, on_some, if_neg bx.1, if_neg bx.2, ← ei, if_pos R1.1]
        · unfold f_X12_taken
          rw [issh_t c, b1_some, if_neg (by decide), in_t (by rw [jl0, jl7]; omega), b1_some, if_neg (by decide), gd_t g0, ← ei, if_pos R1.2]
      · obtain ⟨f0, f1, f2, f3⟩ := R1
        have gk : inB (zI s 120 i) 120 := ⟨f2, by omega⟩
        have kk : f_X0_kindOf s (zS s (47 + 2 * i) 1) = some (zI s 16 (zI s 120 i).toInt.toNat) := by
          rw [← f1]
          exact kind_t G.1 ⟨f2, f3⟩
        have kr : 0 ≤ (zI s 16 (zI s 120 i).toInt.toNat).toInt ∧ (zI s 16 (zI s 120 i).toInt.toNat).toInt ≤ 7 := G.1.a (q := 16) (i := (zI s 120 i).toInt.toNat) rfl
        have ek : zI s 16 (zI s 120 i).toInt.toNat = zI s 62 (zI s 120 i).toInt.toNat := G.2.2.1.2.1 _
        have uu : f_X0_isUnder s (zS s (47 + 2 * i) 1) a1 = f_X12_isUnder (zI s 16 (zI s 120 i).toInt.toNat) a1 := by
          unfold f_X0_isUnder
          rw [kk, b1_some]
          exact under_e kr b
        have nn : ¬ zI s 120 i = -1 ∧ ¬ zI s 120 i < 0 := ⟨fun z => by rw [z, jn1] at f2; omega, by rw [jlt, jl0]; omega⟩
        rcases under_01 (zI s 16 (zI s 120 i).toInt.toNat) a1 with u | u
        · refine ⟨-12, s, -12, s, ?_, ?_, G, rfl⟩
          · unfold f_X11_taken
            rw [shelf_t G.1 c, b1_some, on_some, if_neg bx.1, if_neg bx.2, ← ei, if_neg (by rw [f0]; decide), if_neg (by rw [f0]; decide), uu, u, b1_some, if_pos rfl]
          · unfold f_X12_taken
            rw [issh_t c, b1_some, if_neg (by decide), in_t (by rw [jl0, jl7]; omega), b1_some, if_neg (by decide), gd_t g0, ← ei, if_neg nn.1, gd_t g0, if_neg nn.2, gd_t g0, vl, gd_t gk, ← ek, u, b1_some, if_pos rfl]
        · refine ⟨zI s 16 (zI s 120 i).toInt.toNat, s, zI s 62 (zI s 120 i).toInt.toNat, s, ?_, ?_, G, ek⟩
          · unfold f_X11_taken
            rw [shelf_t G.1 c, b1_some, on_some, if_neg bx.1, if_neg bx.2, ← ei, if_neg (by rw [f0]; decide), if_neg (by rw [f0]; decide), uu, u, b1_some, if_neg (by decide), kk, b1_some]
          · unfold f_X12_taken
            rw [issh_t c, b1_some, if_neg (by decide), in_t (by rw [jl0, jl7]; omega), b1_some, if_neg (by decide), gd_t g0, ← ei, if_neg nn.1, gd_t g0, if_neg nn.2, gd_t g0, vl, gd_t gk, ← ek, u, b1_some, if_neg (by decide), gd_t g0, vl, gd_t gk, ek]
      · have hn := SR.neg (Or.inr (Or.inr R1)) R1.1
        have r2 := R1.2.2.1
        refine ⟨-12, s, -12, s, ?_, ?_, G, rfl⟩
        · unfold f_X11_taken
          rw [shelf_t G.1 c, b1_some, on_some, if_neg bx.1, if_neg bx.2, ← ei, if_neg (by rw [R1.1]; decide), if_pos R1.1]
        · unfold f_X12_taken
          rw [issh_t c, b1_some, if_neg (by decide), in_t (by rw [jl0, jl7]; omega), b1_some, if_neg (by decide), gd_t g0, ← ei, if_neg (fun z => by rw [z, jn1] at hn; omega), gd_t g0, if_pos (by rw [jlt, jl0]; omega)]
    · refine ⟨-1, s, -1, s, ?_, ?_, G, rfl⟩
      · unfold f_X11_taken
        rw [shelf_t G.1 c, b1_some, on_some]
        by_cases h : a1 < 0
        · rw [if_pos h]
        · rw [if_neg h, if_pos (by rw [jlt, jl7]; rw [jlt, jl0] at h; omega)]
      · unfold f_X12_taken
        rw [issh_t c, b1_some, if_neg (by decide), in_f (by rw [jl0, jl7]; omega), b1_some, if_pos rfl]
  · refine ⟨-1, s, -1, s, ?_, ?_, G, rfl⟩
    · unfold f_X11_taken
      rw [shelf_f c, b1_some, on_none]
    · unfold f_X12_taken
      rw [issh_f c, b1_some, if_pos rfl]
