/-! ACT, TRACE: the step -/
theorem Iv.tx {s : SS} {v : Int32} (I : Iv s) : Iv (tX1 s v) := by
  rw [show tX1 s v = pS (if zS s 15 11 < 24 then pI s 18 (zS s 15 11).toInt.toNat v else s) 15 11 (zS s 15 11 + 1) from rfl]
  by_cases z : zS s 15 11 < 24
  · rw [if_pos z]
    exact (I.wI (q := 18) (by decide) trivial).wF (q := 15) (k := 11) (by decide) (by decide) trivial
  · rw [if_neg z]
    exact I.wF (q := 15) (k := 11) (by decide) (by decide) trivial
theorem Iv.tm {s : SS} {v : Int32} (I : Iv s) : Iv (tM1 s v) := by
  rw [show tM1 s v = pS (if zS s 59 87 < 24 then pI s 119 (zS s 59 87).toInt.toNat v else s) 59 87 (zS s 59 87 + 1) from rfl]
  by_cases z : zS s 59 87 < 24
  · rw [if_pos z]
    exact (I.wI (q := 119) (by decide) trivial).wF (q := 59) (k := 87) (by decide) (by decide) trivial
  · rw [if_neg z]
    exact I.wF (q := 59) (k := 87) (by decide) (by decide) trivial
theorem IvX (l : List Int32) : ∀ {s : SS}, Iv s → Iv (tX s l) := by
  induction l with
  | nil => exact fun I => I
  | cons v l ih => exact fun I => ih I.tx
theorem IvM (l : List Int32) : ∀ {s : SS}, Iv s → Iv (tM s l) := by
  induction l with
  | nil => exact fun I => I
  | cons v l ih => exact fun I => ih I.tm
theorem OX_of {s : SS} {a : Int32} (I : Iv s) (h : 0 ≤ a.toInt ∧ a.toInt < (zS s 15 3).toInt) : ∃ w g, OX s a (zI s 16 a.toInt.toNat) w g := by
  have hf : 0 ≤ (zS s 15 3).toInt ∧ (zS s 15 3).toInt ≤ 120 := I.f (q := 15) (k := 3) rfl
  have gb : inB a 120 := ⟨by omega, by omega⟩
  have kd : ∀ r, EX s r → f_X0_kindOf r a = some (zI s 16 a.toInt.toNat) := by
    intro r E
    unfold f_X0_kindOf
    rw [if_neg (by rw [jlt, jl0]; omega), if_pos (by rw [E.1 15 3 (by omega), jlt]; omega), gd_t gb, E.2.1 16 _ (by omega)]
  refine ⟨(match zR s 17 a.toInt.toNat with | none => 0 | some p => zS s p 1), if zI s 16 a.toInt.toNat = 7 then zI s 7 a.toInt.toNat else 0, fun r E => ⟨kd r E, ?_, ?_⟩⟩
  · have ez : zR r 17 a.toInt.toNat = zR s 17 a.toInt.toNat := by
      show r.2.2.2.1 17 _ = s.2.2.2.1 17 _
      rw [E.2.2]
    unfold f_X0_widthOf f_X0_holeOf
    rw [if_neg (by rw [jlt, jl0]; omega), if_pos (by rw [E.1 15 3 (by omega), jlt]; omega), gd_t gb, ez]
    cases zR s 17 a.toInt.toNat with
    | none => rfl
    | some p =>
      show some (zS r p 1) = some (zS s p 1)
      rw [E.1 p 1 (by omega)]
  · unfold f_X0_strengthOf
    rw [kd r E, b1_some]
    by_cases z : zI s 16 a.toInt.toNat = 7
    · rw [if_pos z, if_pos z, gd_t gb, E.2.1 7 _ (by omega)]
    · rw [if_neg z, if_neg z]
theorem OM_of {s : SS} {a : Int32} (gb : inB a 120) : OM s a (zI s 62 a.toInt.toNat) (zI s 64 a.toInt.toNat) (zI s 74 a.toInt.toNat) := ⟨gb, fun r E => ⟨E.2.1 62 _ (by omega), E.2.1 64 _ (by omega), E.2.1 74 _ (by omega)⟩⟩
theorem EX.frA {s r : SS} (E : EX s r) : FrA s r := ⟨fun q k h => E.1 q k (fun z => by rw [z.1, z.2] at h; cases h), fun q i h => E.2.1 q i (fun z => by rw [z] at h; cases h), fun q i _ => by show r.2.2.1 q i = s.2.2.1 q i; rw [E.2.2]⟩
theorem EM.frA {s r : SS} (E : EM s r) : FrA s r := ⟨fun q k h => E.1 q k (fun z => by rw [z.1, z.2] at h; cases h), fun q i h => E.2.1 q i (fun z => by rw [z] at h; cases h), fun q i _ => by show r.2.2.1 q i = s.2.2.1 q i; rw [E.2.2]⟩
/-- class's trace from s to r, reference's from r to u: the relations stand again where the traces are alike -/
theorem GI.trace {s r u : SS} (G : GI s) (E : EX s r) (M : EM r u) (I : Iv u) (T : TR r u) : GI u := by
  obtain ⟨⟨t1, t2, t3, t4, t6⟩, t5, -, ⟨a1, a2, a3⟩, a4⟩ := G.2
  refine ⟨G.1.go (E.frA.tr M.frA) (fun i => ?_) I, ⟨?_, ?_, fun i => ?_, fun i => ?_, ?_⟩, fun c y h1 h2 h3 => ?_, ⟨?_, fun i => ?_⟩, ⟨?_, ?_, fun i hi => ?_⟩, ?_⟩
  · show u.2.2.2.1 17 i = s.2.2.2.1 17 i
    rw [M.2.2, E.2.2]
  · rw [M.1 0 14 (by omega), E.1 0 14 (by omega), M.1 59 1 (by omega), E.1 59 1 (by omega)]; exact t1
  · rw [M.1 1 4 (by omega), E.1 1 4 (by omega), M.1 59 56 (by omega), E.1 59 56 (by omega)]; exact t2
  · rw [M.2.1 4 i (by omega), E.2.1 4 i (by omega), M.2.1 97 i (by omega), E.2.1 97 i (by omega)]; exact t3 i
  · rw [M.2.1 5 i (by omega), E.2.1 5 i (by omega), M.2.1 98 i (by omega), E.2.1 98 i (by omega)]; exact t4 i
  · rw [M.1 0 14 (by omega), E.1 0 14 (by omega)]; exact t6
  · rw [M.2.1 2 _ (by omega), E.2.1 2 _ (by omega), M.2.1 60 _ (by omega), E.2.1 60 _ (by omega), M.2.1 3 _ (by omega), E.2.1 3 _ (by omega), M.2.1 61 _ (by omega), E.2.1 61 _ (by omega)]; exact t5 c y h1 h2 h3
  · rw [M.1 15 11 (by omega)]; exact T.1
  · rw [M.2.1 18 i (by omega)]; exact T.2 i
  · rw [M.1 24 1 (by omega), E.1 24 1 (by omega), M.1 59 37 (by omega), E.1 59 37 (by omega)]; exact a1
  · unfold xn; rw [M.1 24 1 (by omega), E.1 24 1 (by omega)]; exact a2
  · rw [M.2.1 25 i (by omega), E.2.1 25 i (by omega), M.2.1 86 i (by omega), E.2.1 86 i (by omega)]; exact a3 i hi
  · rw [M.1 0 8 (by omega), E.1 0 8 (by omega), M.1 59 38 (by omega), E.1 59 38 (by omega)]; exact a4
theorem E0X {s : SS} : EX s (pS s 15 11 0) := ⟨fun q k h => by rw [zS_pS, if_neg h], fun _ _ _ => rfl, rfl⟩
theorem E0M {s : SS} : EM s (pS s 59 87 0) := ⟨fun q k h => by rw [zS_pS, if_neg h], fun _ _ _ => rfl, rfl⟩
theorem st_act {s : SS} (G : GI s) (a0 : Int32) (a1 : Int32) (a2 : Int32) : ∃ (rx : Int32) (s1 : SS) (rm : Int32) (s2 : SS), f_X11_act s a0 a1 a2 = some (rx, s1) ∧ f_X12_act s1 a0 a1 a2 = some (rm, s2) ∧ GI s2 ∧ True := by
  have e := G.1.2.1.2.2.1
  have k7 := G.1.2.2.1.2.1
  have hf : 0 ≤ (zS s 15 3).toInt ∧ (zS s 15 3).toInt ≤ 120 := G.1.1.f (q := 15) (k := 3) rfl
  have IX : Iv (pS s 15 11 0) := G.1.1.wF (q := 15) (k := 11) (by decide) (by decide) trivial
  by_cases c : 0 ≤ a0.toInt ∧ a0.toInt < (zS s 15 3).toInt
  · have gb : inB a0 120 := ⟨by omega, by omega⟩
    obtain ⟨w, g, O⟩ := OX_of (s := pS s 15 11 0) (a := a0) IX (by rw [E0X.1 15 3 (by omega)]; exact c)
    rw [E0X.2.1 16 _ (by omega)] at O
    have hk : 0 ≤ (zI s 16 a0.toInt.toNat).toInt ∧ (zI s 16 a0.toInt.toNat).toInt ≤ 7 := G.1.1.a (q := 16) rfl
    obtain ⟨l, el⟩ : ∃ l, l = lA (zI s 16 a0.toInt.toNat) a1 := ⟨_, rfl⟩
    have EX1 : EX s (tX (pS s 15 11 0) l) := E0X.tr (EX.l l)
    have I1 : Iv (tX (pS s 15 11 0) l) := IvX l IX
    have I2 : Iv (pS (tX (pS s 15 11 0) l) 59 87 0) := I1.wF (q := 59) (k := 87) (by decide) (by decide) trivial
    have O2 := OM_of (s := pS (tX (pS s 15 11 0) l) 59 87 0) gb
    rw [E0M.2.1 62 _ (by omega), EX1.2.1 62 _ (by omega), ← k7] at O2
    have hb : f_X12_isBody (pS (tX (pS s 15 11 0) l) 59 87 0) a0 = some 1 := body_t I2 (by rw [E0M.1 59 4 (by omega), EX1.1 59 4 (by omega), ← e]; exact c)
    refine ⟨_, tX (pS s 15 11 0) l, _, tM (pS (tX (pS s 15 11 0) l) 59 87 0) l, by rw [el]; exact actX hk O, by rw [actM hb O2, el], G.trace EX1 (E0M.tr (EM.l l)) (IvM l I2) (TR.l l ⟨?_, fun i => ?_⟩), trivial⟩
    · rw [zS_pS, if_pos ⟨rfl, rfl⟩, zS_pS, if_pos ⟨rfl, rfl⟩]
    · show zI s 18 i = zI (tX (pS s 15 11 0) l) 119 i
      rw [EX1.2.1 119 i (by omega)]
      exact G.2.2.2.1.2 i
  · have I2 : Iv (pS (pS s 15 11 0) 59 87 0) := IX.wF (q := 59) (k := 87) (by decide) (by decide) trivial
    refine ⟨0, pS s 15 11 0, 0, pS (pS s 15 11 0) 59 87 0, ?_, ?_, G.trace E0X E0M I2 ⟨?_, fun i => G.2.2.2.1.2 i⟩, trivial⟩
    · unfold f_X11_act f_X0_acted
      rw [st, kind_f (by rw [E0X.1 15 3 (by omega)]; exact c), b1_some, if_pos (by decide), bd_some]
    · unfold f_X12_act
      rw [st, body_f I2 (by rw [E0M.1 59 4 (by omega), E0X.1 59 4 (by omega), ← e]; exact c), b1_some, if_pos rfl]
    · rw [zS_pS, if_pos ⟨rfl, rfl⟩, zS_pS, if_pos ⟨rfl, rfl⟩]
theorem st_trace {s : SS} (G : GI s) (a0 : Int32) : ∃ (rx : Int32) (s1 : SS) (rm : Int32) (s2 : SS), f_X11_trace s a0 = some rx ∧ f_X12_trace s a0 = some rm ∧ GI s ∧ rx = rm := by
  obtain ⟨t1, t2⟩ := G.2.2.2.1
  by_cases c : 0 ≤ a0.toInt ∧ a0.toInt < (zS s 59 87).toInt ∧ a0.toInt < 24
  · refine ⟨zI s 18 a0.toInt.toNat, s, zI s 119 a0.toInt.toNat, s, ?_, ?_, G, t2 _⟩
    · unfold f_X11_trace
      rw [if_neg (by rw [jlt, jl0]; omega), if_pos (by rw [jlt, t1]; omega), if_pos (by rw [jlt, j24]; omega), gd_t ⟨by omega, by omega⟩]
    · unfold f_X12_trace
      rw [if_neg (by rw [jlt, jl0]; omega), if_pos (by rw [jlt]; omega), if_pos (by rw [jlt, j24]; omega), gd_t ⟨by omega, by omega⟩]
  · have hx : ∀ (n x : Int32), ¬ (0 ≤ a0.toInt ∧ a0.toInt < n.toInt ∧ a0.toInt < 24) → (if a0 < (0 : Int32) then some (-1) else (if a0 < n then (if a0 < (24 : Int32) then (gd (inB a0 24) (some x)) else some (-1)) else some (-1))) = some (-1 : Int32) := by
      intro n x h
      by_cases h0 : a0 < 0
      · rw [if_pos h0]
      rw [if_neg h0]
      by_cases h1 : a0 < n
      · rw [if_pos h1, if_neg (by rw [jlt, j24]; rw [jlt, jl0] at h0; rw [jlt] at h1; omega)]
      · rw [if_neg h1]
    refine ⟨-1, s, -1, s, ?_, ?_, G, rfl⟩
    · unfold f_X11_trace
      exact hx _ _ (by rw [t1]; exact c)
    · unfold f_X12_trace
      exact hx _ _ c
