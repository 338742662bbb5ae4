theorem ix60 {a b : Int32} (ha : 0 ≤ a.toInt ∧ a.toInt < 6) (hb : 0 ≤ b.toInt ∧ b.toInt ≤ 60) : ((60 : Int32) * a + b).toInt = 60 * a.toInt + b.toInt := by
  have j60 : (60 : Int32).toInt = 60 := rfl
  have m1 : ((60 : Int32) * a).toInt = 60 * a.toInt := by rw [i32_mul (by rw [j60]; omega) (by rw [j60]; omega), j60]
  rw [i32_add (by rw [m1]; omega) (by rw [m1]; omega), m1]
theorem zJ_pJ (s : SS) (q k a b : Nat) (w : Int64) : zJ (pJ s q k w) a b = if a = q ∧ b = k then w else zJ s a b := rfl
theorem zI_J (s : SS) (q i : Nat) (w : Int64) (a : Nat) : zI (pJ s q i w) a = zI s a := rfl
theorem reals_c {s t : SS} (h : zI t 120 = zI s 120) (a : Int32) : f_X12_isReals t a = f_X12_isReals s a := by
  unfold f_X12_isReals
  rw [h]
theorem why_c {s t : SS} (h : zI t 120 = zI s 120) (h' : zI t 121 = zI s 121) (a b : Int32) : f_X12_whyNoPlace t a b = f_X12_whyNoPlace s a b := by
  unfold f_X12_whyNoPlace
  rw [h, h']
/-- an element of a row is written in both -/
theorem RG.elt {s : SS} {i m : Nat} {w w' : Int64} {f : Int32} (G : GA s) (hi : i < 6) (h2 : zS s (47 + 2 * i) 0 = 2) (hm : m < 60) (hf : (f = 0 ∧ w = w') ∨ (f = 1 ∧ w = 9223372036854775807)) : RG (pI (pJ (pJ s (48 + 2 * i) m w) 122 (60 * i + m) w') 123 (60 * i + m) f) := by
  obtain ⟨r1, r2, r3, r4⟩ := (G.2.2.2.2.2 i hi).row h2
  refine RG.sh (i0 := i) G.2 (fun q k _ _ => rfl) (fun q j _ h h' h'' => ?_) (fun j h => rfl) (fun j h => rfl) (fun j l h hl => ?_) (fun j l h hj => ?_) (fun j l h hl => ?_) (fun j => rfl) hi ?_
  · rw [zI_pI, if_neg (by omega)]; rfl
  · rw [zI_pI, if_neg (by omega)]; rfl
  · show zJ (pJ (pJ s (48 + 2 * i) m w) 122 (60 * i + m) w') (48 + 2 * j) l = _
    rw [zJ_pJ, if_neg (by omega), zJ_pJ, if_neg (by omega)]
  · show zJ (pJ (pJ s (48 + 2 * i) m w) 122 (60 * i + m) w') 122 (60 * j + l) = _
    rw [zJ_pJ, if_neg (by omega), zJ_pJ, if_neg (by omega)]
  · refine Or.inr (Or.inr ⟨h2, r1, r2, r3, fun j hj => ?_⟩)
    have e1 : zI (pI (pJ (pJ s (48 + 2 * i) m w) 122 (60 * i + m) w') 123 (60 * i + m) f) 123 (60 * i + j) = if j = m then f else zI s 123 (60 * i + j) := by
      rw [zI_pI]
      by_cases c : j = m
      · rw [if_pos ⟨rfl, by omega⟩, if_pos c]
      · rw [if_neg (by omega), if_neg c]; rfl
    have e2 : zJ (pI (pJ (pJ s (48 + 2 * i) m w) 122 (60 * i + m) w') 123 (60 * i + m) f) (48 + 2 * i) j = if j = m then w else zJ s (48 + 2 * i) j := by
      show zJ (pJ (pJ s (48 + 2 * i) m w) 122 (60 * i + m) w') (48 + 2 * i) j = _
      rw [zJ_pJ, if_neg (by omega), zJ_pJ]
      by_cases c : j = m
      · rw [if_pos ⟨rfl, c⟩, if_pos c]
      · rw [if_neg (by omega), if_neg c]
    have e3 : zJ (pI (pJ (pJ s (48 + 2 * i) m w) 122 (60 * i + m) w') 123 (60 * i + m) f) 122 (60 * i + j) = if j = m then w' else zJ s 122 (60 * i + j) := by
      show zJ (pJ (pJ s (48 + 2 * i) m w) 122 (60 * i + m) w') 122 (60 * i + j) = _
      rw [zJ_pJ]
      by_cases c : j = m
      · rw [if_pos ⟨rfl, by omega⟩, if_pos c]
      · rw [if_neg (by omega), if_neg c, zJ_pJ, if_neg (by omega)]
    rw [e1, e2, e3]
    by_cases c : j = m
    · rw [if_pos c, if_pos c, if_pos c]
      exact hf
    · rw [if_neg c, if_neg c, if_neg c]
      exact r4 j hj
theorem sa_put {s : SS} (G : GA s) (a0 : Int32) (a1 : Int32) (a2 : Int64) : ∃ (rx : Int32) (s1 : SS) (rm : Int32) (s2 : SS), f_X11_put s a0 a1 a2 = some (rx, s1) ∧ f_X12_put s1 a0 a1 a2 = some (rm, s2) ∧ GA s2 ∧ FrB s s2 ∧ rx = rm := by
  by_cases c : 0 ≤ a0.toInt ∧ a0.toInt < 6
  · obtain ⟨i, ei⟩ : ∃ i, i = a0.toInt.toNat := ⟨_, rfl⟩
    have hi : i < 6 := by omega
    have R := G.2.2.2.2.2 i hi
    have hv := G.1.v3 (okVi hi)
    obtain ⟨v, v1, v2, v3⟩ := real_e R c ei
    by_cases b : v = 0 ∨ (¬ lg_cmp a2 (-9999) < 0 ∧ ¬ 0 < lg_cmp a2 9999)
    · have bx : ∀ (ρ : Type) (A k : Option ρ), (if v = 0 then k else (if lg_cmp a2 (-9999) < 0 then A else (if 0 < lg_cmp a2 9999 then A else k))) = k := fun ρ A k => by
        rcases b with b | b
        · rw [if_pos b]
        · by_cases z : v = 0
          · rw [if_pos z]
          · rw [if_neg z, if_neg b.1, if_neg b.2]
      by_cases d : zS s (47 + 2 * i) 0 = 2 ∧ RPl s i a1
      · obtain ⟨w1, w2⟩ := why_t G.1 R c ei d.1 d.2
        obtain ⟨p1, p2⟩ := d.2
        obtain ⟨x, x1, x2⟩ := nar (a := a2) R d.1
        have ex := ix60 c (b := a1) (by omega)
        have nx : ((60 : Int32) * a0 + a1).toInt.toNat = 60 * i + a1.toInt.toNat := by omega
        have gx : inB ((60 : Int32) * a0 + a1) 360 := ⟨by omega, by omega⟩
        have hx : f_X11_put s a0 a1 a2 = some (1, pJ s (48 + 2 * i) a1.toInt.toNat x) := by
          unfold f_X11_put
          rw [shelf_t G.1 c, b1_some, on_some, ← ei, v1, b1_some]
          dsimp only [jn, st]
          rw [bx, w2, b1_some, if_pos rfl, x1, b1_some, gd_t ⟨by omega, by omega⟩, if_pos rfl, show 47 + 2 * i + 1 = 48 + 2 * i by omega]
        have hM : ∀ t, zI t 120 = zI s 120 → f_X12_isReals t a0 = some v → f_X12_whyNoPlace t a0 a1 = some 0 → f_X12_put t a0 a1 a2 = some (1, pI (pJ t 122 (60 * i + a1.toInt.toNat) x) 123 (60 * i + a1.toInt.toNat) (0 &&& 1)) := by
          intro t e1 e2 e3
          have bj : ∀ K A : Option (Int32 × SS), (jn K fun k4 => if v = 0 then k4 else (if lg_cmp a2 (-9999) < 0 then A else (if 0 < lg_cmp a2 9999 then A else k4))) = K := fun K A => bx _ A K
          have xj : ∀ K : Int64 → Option (Int32 × SS), (vl (-2 - zI s 120 i) fun v8 => jn K fun k10 => (if v8 = (0 : Int32) then (k10 a2.toInt32.toInt8.toInt32.toInt64) else (if v8 = (1 : Int32) then (k10 (a2 &&& 65535)) else (if v8 = (2 : Int32) then (k10 a2.toInt32.toInt64) else (k10 a2))))) = K x := fun K => by
            rw [vl, jn]
            exact x2 _ K
          unfold f_X12_put
          rw [issh_t c, b1_some, if_neg (by decide), e2, b1_some, bj, e3, b1_some, if_neg (by decide), gd_t ⟨c.1, c.2⟩, ← ei, e1, xj]
          show gd _ _ = _
          rw [gd_t gx]
          show gd _ _ = _
          rw [gd_t gx, nx]
          rfl
        refine ⟨1, pJ s (48 + 2 * i) a1.toInt.toNat x, 1, pI (pJ (pJ s (48 + 2 * i) a1.toInt.toNat x) 122 (60 * i + a1.toInt.toNat) x) 123 (60 * i + a1.toInt.toNat) (0 &&& 1), hx, ?_, ⟨?_, ?_⟩, FrB.pI (show FrB s (pJ _ _ _ _) from FrB.rf) (by decide), rfl⟩
        · exact hM _ (zI_J s _ _ _ 120) (by rw [reals_c (zI_J s _ _ _ 120)]; exact v2) (by rw [why_c (zI_J s _ _ _ 120) (zI_J s _ _ _ 121)]; exact w1)
        · exact (G.1.wJ.wJ).wI (q := 123) (by decide) trivial
        · exact RG.elt G hi d.1 (by omega) (Or.inl ⟨by decide, rfl⟩)
      · obtain ⟨y, y1, y2, y3, y4⟩ := why_f G.1 R c ei d
        refine ⟨y, s, y, s, ?_, ?_, G, FrB.rf, rfl⟩
        · unfold f_X11_put
          rw [shelf_t G.1 c, b1_some, on_some, ← ei, v1, b1_some]
          dsimp only [jn, st]
          rw [bx, y4, b1_some, if_neg y2, if_neg y2]
        · unfold f_X12_put
          rw [issh_t c, b1_some, if_neg (by decide), v2, b1_some]
          dsimp only [jn]
          rw [bx, y3, b1_some, if_pos y1]
    · have b0 : ¬ v = 0 := fun z => b (Or.inl z)
      have b1' : ¬ (¬ lg_cmp a2 (-9999) < 0 ∧ ¬ 0 < lg_cmp a2 9999) := fun z => b (Or.inr z)
      refine ⟨-1, s, -1, s, ?_, ?_, G, FrB.rf, rfl⟩
      · unfold f_X11_put
        rw [shelf_t G.1 c, b1_some, on_some, ← ei, v1, b1_some]
        dsimp only [jn]
        rw [if_neg b0]
        by_cases z : lg_cmp a2 (-9999) < 0
        · rw [if_pos z]
        · rw [if_neg z, if_pos (Classical.byContradiction fun y => b1' ⟨z, y⟩)]
      · unfold f_X12_put
        rw [issh_t c, b1_some, if_neg (by decide), v2, b1_some]
        dsimp only [jn]
        rw [if_neg b0]
        by_cases z : lg_cmp a2 (-9999) < 0
        · rw [if_pos z]
        · rw [if_neg z, if_pos (Classical.byContradiction fun y => b1' ⟨z, y⟩)]
  · refine ⟨-1, s, -1, s, ?_, ?_, G, FrB.rf, rfl⟩
    · unfold f_X11_put
      rw [shelf_f c, b1_some, on_none]
    · unfold f_X12_put
      rw [issh_f c, b1_some, if_pos rfl]
theorem sa_blank {s : SS} (G : GA s) (a0 : Int32) (a1 : Int32) : ∃ (rx : Int32) (s1 : SS) (rm : Int32) (s2 : SS), f_X11_blank s a0 a1 = some (rx, s1) ∧ f_X12_blank s1 a0 a1 = some (rm, s2) ∧ GA s2 ∧ FrB s s2 ∧ rx = rm := by
  by_cases c : 0 ≤ a0.toInt ∧ a0.toInt < 6
  · obtain ⟨i, ei⟩ : ∃ i, i = a0.toInt.toNat := ⟨_, rfl⟩
    have hi : i < 6 := by omega
    have R := G.2.2.2.2.2 i hi
    have hv := G.1.v3 (okVi hi)
    obtain ⟨v, v1, v2, v3⟩ := real_e R c ei
    rcases R.case with R1 | R1 | R1
    · refine ⟨-11, s, -11, s, ?_, ?_, G, FrB.rf, rfl⟩
      · unfold f_X11_blank f_X8_refusal
        rw [shelf_t G.1 c, b1_some, on_some, ← ei]
        dsimp only [jn, st]
        rw [if_neg (by rw [R1.1]; decide), if_pos R1.1, b1_some, if_neg (by decide), if_neg (by decide)]
      · unfold f_X12_blank
        rw [issh_t c, b1_some, if_neg (by decide), gd_t ⟨c.1, c.2⟩, ← ei, if_pos R1.2]
    · refine ⟨-12, s, -12, s, ?_, ?_, G, FrB.rf, rfl⟩
      · unfold f_X11_blank f_X8_refusal
        rw [shelf_t G.1 c, b1_some, on_some, ← ei]
        dsimp only [jn, st]
        rw [if_neg (by rw [R1.1]; decide), if_neg (by rw [R1.1]; decide), if_neg (by rw [R1.1]; decide), b1_some, if_neg (by decide), if_neg (by decide)]
      · have v0 : v = 0 := v3.resolve_right (fun z => by rw [R1.1] at z; exact absurd z.2 (by decide))
        unfold f_X12_blank
        rw [issh_t c, b1_some, if_neg (by decide), gd_t ⟨c.1, c.2⟩, ← ei, if_neg (fun z => by rw [z, jn1] at R1; omega), v2, b1_some, if_pos v0]
    · have hn := R.neg R1
      obtain ⟨r1, r2, r3, _⟩ := R.row R1
      have n1 : ¬ zI s 120 i = -1 := fun z => by rw [z, jn1] at hn; omega
      by_cases b : v = 0
      · refine ⟨-12, s, -12, s, ?_, ?_, G, FrB.rf, rfl⟩
        · unfold f_X11_blank
          rw [shelf_t G.1 c, b1_some, on_some, ← ei]
          dsimp only [jn, st]
          rw [if_pos R1, v1, b1_some, if_pos b]
        · unfold f_X12_blank
          rw [issh_t c, b1_some, if_neg (by decide), gd_t ⟨c.1, c.2⟩, ← ei, if_neg n1, v2, b1_some, if_pos b]
      by_cases d : RPl s i a1
      · obtain ⟨w1, w2⟩ := why_t G.1 R c ei R1 d
        obtain ⟨p1, p2⟩ := d
        have ex := ix60 c (b := a1) (by omega)
        have nx : ((60 : Int32) * a0 + a1).toInt.toNat = 60 * i + a1.toInt.toNat := by omega
        have gx : inB ((60 : Int32) * a0 + a1) 360 := ⟨by omega, by omega⟩
        have hM : ∀ t, zI t = zI s → f_X12_isReals t a0 = some v → f_X12_blank t a0 a1 = some (1, pI t 123 (60 * i + a1.toInt.toNat) (1 &&& 1)) := by
          intro t e1 e2
          unfold f_X12_blank
          rw [issh_t c, b1_some, if_neg (by decide), gd_t ⟨c.1, c.2⟩, ← ei, e1, if_neg n1, e2, b1_some, if_neg b, gd_t ⟨c.1, c.2⟩, in_t (by rw [jl0, ← r3, i32_sub (by rw [jl1]; omega) (by rw [jl1]; omega), jl1]; omega), b1_some, if_neg (by decide)]
          dsimp only [vl, st]
          rw [gd_t gx, nx]
        refine ⟨1, pJ s (48 + 2 * i) a1.toInt.toNat 9223372036854775807, 1, pI (pJ s (48 + 2 * i) a1.toInt.toNat 9223372036854775807) 123 (60 * i + a1.toInt.toNat) (1 &&& 1), ?_, hM _ rfl (by rw [reals_c (zI_J s _ _ _ 120)]; exact v2), ⟨?_, ?_⟩, FrB.pI (show FrB s (pJ _ _ _ _) from FrB.rf) (by decide), rfl⟩
        · unfold f_X11_blank
          rw [shelf_t G.1 c, b1_some, on_some, ← ei]
          dsimp only [jn, st]
          rw [if_pos R1, v1, b1_some, if_neg b, w2, b1_some, if_pos rfl, gd_t ⟨by omega, by omega⟩, if_pos rfl, show 47 + 2 * i + 1 = 48 + 2 * i by omega]
        · exact (G.1.wJ).wI (q := 123) (by decide) trivial
        · have e := RG.elt G hi R1 (m := a1.toInt.toNat) (by omega) (w := 9223372036854775807) (w' := zJ s 122 (60 * i + a1.toInt.toNat)) (f := 1 &&& 1) (Or.inr ⟨by decide, rfl⟩)
          have es : pJ (pJ s (48 + 2 * i) a1.toInt.toNat 9223372036854775807) 122 (60 * i + a1.toInt.toNat) (zJ s 122 (60 * i + a1.toInt.toNat)) = pJ s (48 + 2 * i) a1.toInt.toNat 9223372036854775807 := by
            have hz : up2 (up2 s.2.2.1 (48 + 2 * i) a1.toInt.toNat 9223372036854775807) 122 (60 * i + a1.toInt.toNat) (zJ s 122 (60 * i + a1.toInt.toNat)) = up2 s.2.2.1 (48 + 2 * i) a1.toInt.toNat 9223372036854775807 := by
              funext q b
              unfold up2
              by_cases z : q = 122 ∧ b = 60 * i + a1.toInt.toNat
              · rw [if_pos z, if_neg (by omega), z.1, z.2]
                rfl
              · rw [if_neg z]
            show (s.1, s.2.1, up2 (up2 s.2.2.1 (48 + 2 * i) a1.toInt.toNat 9223372036854775807) 122 (60 * i + a1.toInt.toNat) (zJ s 122 (60 * i + a1.toInt.toNat)), s.2.2.2) = _
            rw [hz]
            rfl
          rw [es] at e
          exact e
      · obtain ⟨y, y1, y2, y3, y4⟩ := why_f G.1 R c ei (fun z => d z.2)
        refine ⟨-13, s, -13, s, ?_, ?_, G, FrB.rf, rfl⟩
        · unfold RPl at d
          unfold f_X11_blank f_X8_refusal
          rw [shelf_t G.1 c, b1_some, on_some, ← ei]
          dsimp only [jn, st]
          rw [if_pos R1, v1, b1_some, if_neg b, if_neg (by rw [R1]; decide), if_pos R1]
          by_cases z : a1 < 0
          · rw [if_pos z, b1_some, if_neg (by decide), if_neg (by decide)]
          · rw [if_neg z, if_neg (by rw [jlt]; rw [jlt, jl0] at z; omega), b1_some, if_neg (by decide), if_neg (by decide)]
        · unfold RPl at d
          unfold f_X12_blank
          rw [issh_t c, b1_some, if_neg (by decide), gd_t ⟨c.1, c.2⟩, ← ei, if_neg n1, v2, b1_some, if_neg b, gd_t ⟨c.1, c.2⟩, in_f (by rw [jl0, ← r3, i32_sub (by rw [jl1]; omega) (by rw [jl1]; omega), jl1]; omega), b1_some, if_pos rfl]
  · refine ⟨-1, s, -1, s, ?_, ?_, G, FrB.rf, rfl⟩
    · unfold f_X11_blank
      rw [shelf_f c, b1_some, on_none]
    · unfold f_X12_blank
      rw [issh_f c, b1_some, if_pos rfl]
