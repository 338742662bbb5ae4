/-! PUT, BLANK, ELEMENT, TAKEN -/
/-- what shelf i says, in both -/
theorem SR.row {s : SS} {i : Nat} (R : SR s i) (h : zS s (47 + 2 * i) 0 = 2) : zI s 120 i = -2 - zS s (47 + 2 * i) 2 ∧ (0 ≤ (zS s (47 + 2 * i) 2).toInt ∧ (zS s (47 + 2 * i) 2).toInt ≤ 4) ∧ zS s (47 + 2 * i) 3 = zI s 121 i ∧ ∀ j, j < 60 → (zI s 123 (60 * i + j) = 0 ∧ zJ s (48 + 2 * i) j = zJ s 122 (60 * i + j)) ∨ (zI s 123 (60 * i + j) = 1 ∧ zJ s (48 + 2 * i) j = 9223372036854775807) := by
  rcases R with R | R | R
  · rw [R.1] at h; exact absurd h (by decide)
  · rw [R.1] at h; exact absurd h (by decide)
  · exact R.2
theorem SR.neg {s : SS} {i : Nat} (R : SR s i) (h : zS s (47 + 2 * i) 0 = 2) : (zI s 120 i).toInt = -2 - (zS s (47 + 2 * i) 2).toInt := by
  obtain ⟨r1, r2, _⟩ := R.row h
  rw [r1, i32_sub (by rw [jn2]; omega) (by rw [jn2]; omega), jn2]
theorem SR.case {s : SS} {i : Nat} (R : SR s i) : (zS s (47 + 2 * i) 0 = 0 ∧ zI s 120 i = -1) ∨ (zS s (47 + 2 * i) 0 = 1 ∧ 0 ≤ (zI s 120 i).toInt) ∨ zS s (47 + 2 * i) 0 = 2 := by
  rcases R with R | R | R
  · exact Or.inl R
  · exact Or.inr (Or.inl ⟨R.1, R.2.2.1⟩)
  · exact Or.inr (Or.inr R.1)
def RPl (s : SS) (i : Nat) (a : Int32) : Prop := 0 ≤ a.toInt ∧ a.toInt < (zS s (47 + 2 * i) 3).toInt
theorem why_t {s : SS} {a0 a1 : Int32} {i : Nat} (I : Iv s) (R : SR s i) (c : 0 ≤ a0.toInt ∧ a0.toInt < 6) (ei : i = a0.toInt.toNat) (h2 : zS s (47 + 2 * i) 0 = 2) (h : RPl s i a1) : f_X12_whyNoPlace s a0 a1 = some 0 ∧ f_X8_refusal s (47 + 2 * i) a1 = some 0 := by
  have hv := I.v3 (okVi (show i < 6 by omega))
  have hn := R.neg h2
  obtain ⟨r1, r2, r3, _⟩ := R.row h2
  obtain ⟨p1, p2⟩ := h
  refine ⟨?_, ?_⟩
  · unfold f_X12_whyNoPlace
    rw [issh_t c, b1_some, if_neg (by decide), gd_t ⟨c.1, c.2⟩, ← ei, if_neg (fun z => by rw [z, jn1] at hn; omega), gd_t ⟨c.1, c.2⟩, if_pos (by rw [jlt, jl0]; omega), gd_t ⟨c.1, c.2⟩, in_t (by rw [jl0, ← r3, i32_sub (by rw [jl1]; omega) (by rw [jl1]; omega), jl1]; omega), b1_some, if_neg (by decide)]
  · unfold f_X8_refusal
    rw [if_neg (by rw [h2]; decide), if_pos h2, if_neg (by rw [jlt, jl0]; omega), if_pos (by rw [jlt]; omega)]
theorem why_f {s : SS} {a0 a1 : Int32} {i : Nat} (I : Iv s) (R : SR s i) (c : 0 ≤ a0.toInt ∧ a0.toInt < 6) (ei : i = a0.toInt.toNat) (h : ¬ (zS s (47 + 2 * i) 0 = 2 ∧ RPl s i a1)) : ∃ v : Int32, v < 0 ∧ ¬ v = 0 ∧ f_X12_whyNoPlace s a0 a1 = some v ∧ f_X8_refusal s (47 + 2 * i) a1 = some v := by
  have hv := I.v3 (okVi (show i < 6 by omega))
  rcases R.case with R1 | R1 | R1
  · refine ⟨-11, by decide, by decide, ?_, ?_⟩
    · unfold f_X12_whyNoPlace
      rw [issh_t c, b1_some, if_neg (by decide), gd_t ⟨c.1, c.2⟩, ← ei, if_pos R1.2]
    · unfold f_X8_refusal
      rw [if_pos R1.1]
  · refine ⟨-12, by decide, by decide, ?_, ?_⟩
    · unfold f_X12_whyNoPlace
      rw [issh_t c, b1_some, if_neg (by decide), gd_t ⟨c.1, c.2⟩, ← ei, if_neg (fun z => by rw [z, jn1] at R1; omega), gd_t ⟨c.1, c.2⟩, if_neg (by rw [jlt, jl0]; omega)]
    · unfold f_X8_refusal
      rw [if_neg (by rw [R1.1]; decide), if_neg (by rw [R1.1]; decide)]
  · have hp : ¬ RPl s i a1 := fun z => h ⟨R1, z⟩
    have hn := R.neg R1
    obtain ⟨r1, r2, r3, _⟩ := R.row R1
    unfold RPl at hp
    refine ⟨-13, by decide, by decide, ?_, ?_⟩
    · unfold f_X12_whyNoPlace
      rw [issh_t c, b1_some, if_neg (by decide), gd_t ⟨c.1, c.2⟩, ← ei, if_neg (fun z => by rw [z, jn1] at hn; omega), gd_t ⟨c.1, c.2⟩, if_pos (by rw [jlt, jl0]; omega), gd_t ⟨c.1, c.2⟩, in_f (by rw [jl0, ← r3, i32_sub (by rw [jl1]; omega) (by rw [jl1]; omega), jl1]; omega), b1_some, if_pos rfl]
    · unfold f_X8_refusal
      rw [if_neg (by rw [R1]; decide), if_pos R1]
      by_cases d : a1 < 0
      · rw [if_pos d]
      · rw [if_neg d, if_neg (by rw [jlt]; rw [jlt, jl0] at d; omega)]
theorem sa_element {s : SS} (G : GA s) (a0 : Int32) (a1 : Int32) : ∃ (rx : Int64) (s1 : SS) (rm : Int64) (s2 : SS), f_X11_element s a0 a1 = some rx ∧ f_X12_element s a0 a1 = some rm ∧ GA s ∧ rx = rm := by
  by_cases c : 0 ≤ a0.toInt ∧ a0.toInt < 6
  · obtain ⟨i, ei⟩ : ∃ i, i = a0.toInt.toNat := ⟨_, rfl⟩
    have hi : i < 6 := by omega
    have R := G.2.2.2.2.2 i hi
    have hv := G.1.v3 (okVi hi)
    by_cases d : zS s (47 + 2 * i) 0 = 2 ∧ RPl s i a1
    · obtain ⟨w1, w2⟩ := why_t G.1 R c ei d.1 d.2
      obtain ⟨p1, p2⟩ := d.2
      have ex : ((60 : Int32) * a0 + a1).toInt = 60 * a0.toInt + a1.toInt := by
        have j60 : (60 : Int32).toInt = 60 := rfl
        have m1 : ((60 : Int32) * a0).toInt = 60 * a0.toInt := by rw [i32_mul (by rw [j60]; omega) (by rw [j60]; omega), j60]
        rw [i32_add (by rw [m1]; omega) (by rw [m1]; omega), m1]
      have nx : ((60 : Int32) * a0 + a1).toInt.toNat = 60 * i + a1.toInt.toNat := by omega
      have gx : inB ((60 : Int32) * a0 + a1) 360 := ⟨by omega, by omega⟩
      obtain ⟨_, _, _, r4⟩ := R.row d.1
      have hx : f_X11_element s a0 a1 = some (zJ s (48 + 2 * i) a1.toInt.toNat) := by
        unfold f_X11_element
        rw [shelf_t G.1 c, b1_some, on_some, ← ei, w2, b1_some, if_pos rfl, gd_t ⟨by omega, by omega⟩, show 47 + 2 * i + 1 = 48 + 2 * i by omega]
      rcases r4 a1.toInt.toNat (by omega) with z | z
      · refine ⟨_, s, _, s, hx, ?_, G, z.2⟩
        unfold f_X12_element
        rw [w1, b1_some, if_neg (by decide)]
        dsimp only [vl]
        rw [gd_t gx, nx, if_pos z.1, gd_t gx]
      · refine ⟨_, s, 9223372036854775807, s, hx, ?_, G, z.2⟩
        unfold f_X12_element
        rw [w1, b1_some, if_neg (by decide)]
        dsimp only [vl]
        rw [gd_t gx, nx, if_neg (by rw [z.1]; decide)]
    · obtain ⟨v, v1, v2, v3, v4⟩ := why_f G.1 R c ei d
      refine ⟨-9223372036854775808, s, -9223372036854775808, s, ?_, ?_, G, rfl⟩
      · unfold f_X11_element
        rw [shelf_t G.1 c, b1_some, on_some, ← ei, v4, b1_some, if_neg v2]
      · unfold f_X12_element
        rw [v3, b1_some, if_pos v1]
  · refine ⟨-9223372036854775808, s, -9223372036854775808, s, ?_, ?_, G, rfl⟩
    · unfold f_X11_element
      rw [shelf_f c, b1_some, on_none]
    · unfold f_X12_element f_X12_whyNoPlace
      rw [issh_f c, b1_some, if_pos rfl, b1_some, if_pos (by decide)]
theorem ch16 (a : Int64) : ((a.toInt32.toUInt32 % 65536).toInt32).toInt64 = a &&& 65535 := by
  apply Int64.toBitVec_inj.1
  have e1 : (a.toInt32.toUInt32 % 65536).toInt32.toBitVec = (a.toBitVec.setWidth 32) % 65536#32 := by
    show (a.toInt32.toUInt32 % 65536).toBitVec = _
    rw [UInt32.toBitVec_mod]
    show a.toInt32.toBitVec % _ = _
    rw [Int64.toBitVec_toInt32, BitVec.signExtend_eq_setWidth_of_le _ (by decide)]
    rfl
  have e2 : ((a.toInt32.toUInt32 % 65536).toInt32).toInt64.toBitVec = ((a.toInt32.toUInt32 % 65536).toInt32.toBitVec).signExtend 64 := rfl
  have e3 : (a &&& 65535).toBitVec = a.toBitVec &&& 65535#64 := by rw [Int64.toBitVec_and]; rfl
  rw [e2, e1, e3]
  have hm : ((a.toBitVec.setWidth 32) % 65536#32).msb = false := by
    rw [BitVec.msb_eq_decide, BitVec.toNat_umod]
    simp only [decide_eq_false_iff_not]
    have : (BitVec.setWidth 32 a.toBitVec).toNat % (65536#32).toNat < 65536 := Nat.mod_lt _ (by decide)
    omega
  rw [BitVec.signExtend_eq_setWidth_of_msb_false hm]
  apply BitVec.eq_of_toNat_eq
  rw [BitVec.toNat_setWidth, BitVec.toNat_umod, BitVec.toNat_setWidth, BitVec.toNat_and]
  show a.toBitVec.toNat % 4294967296 % 65536 % 18446744073709551616 = a.toBitVec.toNat &&& (2 ^ 16 - 1)
  rw [Nat.and_two_pow_sub_one_eq_mod]
  omega
theorem real_e {s : SS} {a0 : Int32} {i : Nat} (R : SR s i) (c : 0 ≤ a0.toInt ∧ a0.toInt < 6) (ei : i = a0.toInt.toNat) : ∃ v, f_X8_isReal s (47 + 2 * i) = some v ∧ f_X12_isReals s a0 = some v ∧ (v = 0 ∨ (v = 1 ∧ zS s (47 + 2 * i) 0 = 2)) := by
  unfold f_X8_isReal f_X12_isReals
  rcases R.case with R1 | R1 | R1
  · refine ⟨0, ?_, ?_, Or.inl rfl⟩
    · rw [if_neg (by rw [R1.1]; decide)]
    · rw [gd_t ⟨c.1, c.2⟩, ← ei, if_neg (by rw [R1.2]; decide), gd_t ⟨c.1, c.2⟩, if_neg (by rw [R1.2]; decide)]
  · refine ⟨0, ?_, ?_, Or.inl rfl⟩
    · rw [if_neg (by rw [R1.1]; decide)]
    · rw [gd_t ⟨c.1, c.2⟩, ← ei, if_neg (fun z => by rw [z, jn5] at R1; omega), gd_t ⟨c.1, c.2⟩, if_neg (fun z => by rw [z, jn6] at R1; omega)]
  · have hn := R.neg R1
    obtain ⟨r1, r2, _⟩ := R.row R1
    rw [if_pos R1, gd_t ⟨c.1, c.2⟩, ← ei, gd_t ⟨c.1, c.2⟩]
    by_cases d : zS s (47 + 2 * i) 2 = 3
    · refine ⟨1, by rw [if_pos d], ?_, Or.inr ⟨rfl, R1⟩⟩
      rw [if_pos (by rw [r1, d]; decide)]
    · by_cases d2 : zS s (47 + 2 * i) 2 = 4
      · refine ⟨1, by rw [if_neg d, if_pos d2], ?_, Or.inr ⟨rfl, R1⟩⟩
        rw [if_neg (by rw [r1, d2]; decide), if_pos (by rw [r1, d2]; decide)]
      · rw [jeq, show (3 : Int32).toInt = 3 from rfl] at d
        rw [jeq, show (4 : Int32).toInt = 4 from rfl] at d2
        refine ⟨0, ?_, ?_, Or.inl rfl⟩
        · rw [if_neg (by rw [jeq]; exact d), if_neg (by rw [jeq]; exact d2)]
        · rw [if_neg (fun z => by rw [z, jn5] at hn; omega), if_neg (fun z => by rw [z, jn6] at hn; omega)]
theorem nar {s : SS} {i : Nat} {a : Int64} (R : SR s i) (h : zS s (47 + 2 * i) 0 = 2) : ∃ v, f_X8_narrowed s (47 + 2 * i) a = some v ∧ ∀ (ρ : Type) (k : Int64 → Option ρ), (if -2 - zI s 120 i = (0 : Int32) then k a.toInt32.toInt8.toInt32.toInt64 else (if -2 - zI s 120 i = (1 : Int32) then k (a &&& 65535) else (if -2 - zI s 120 i = (2 : Int32) then k a.toInt32.toInt64 else k a))) = k v := by
  obtain ⟨r1, r2, _⟩ := R.row h
  have e : -2 - zI s 120 i = zS s (47 + 2 * i) 2 := by
    rw [r1]
    apply Int32.toInt_inj.1
    have n2 : (-2 - zS s (47 + 2 * i) 2).toInt = -2 - (zS s (47 + 2 * i) 2).toInt := by rw [i32_sub (by rw [jn2]; omega) (by rw [jn2]; omega), jn2]
    rw [i32_sub (by rw [jn2, n2]; omega) (by rw [jn2, n2]; omega), n2, jn2]
    omega
  unfold f_X8_narrowed
  by_cases c0 : zS s (47 + 2 * i) 2 = 0
  · exact ⟨_, by rw [if_pos c0], fun ρ k => by rw [if_pos (by rw [e]; exact c0)]⟩
  by_cases c1 : zS s (47 + 2 * i) 2 = 1
  · exact ⟨_, by rw [if_neg c0, if_pos c1, ch16], fun ρ k => by rw [if_neg (by rw [e]; exact c0), if_pos (by rw [e]; exact c1)]⟩
  by_cases c2 : zS s (47 + 2 * i) 2 = 2
  · exact ⟨_, by rw [if_neg c0, if_neg c1, if_pos c2], fun ρ k => by rw [if_neg (by rw [e]; exact c0), if_neg (by rw [e]; exact c1), if_pos (by rw [e]; exact c2)]⟩
  · exact ⟨_, by rw [if_neg c0, if_neg c1, if_neg c2], fun ρ k => by rw [if_neg (by rw [e]; exact c0), if_neg (by rw [e]; exact c1), if_neg (by rw [e]; exact c2)]⟩
