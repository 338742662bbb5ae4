/-! product, sum, compared, both, either -/
theorem levelG {E : Nat → List Int32 → Prop} (HE : EC E) {m : Nat} {d : Int32} {LX : SS → Option SS} {LM : SS → Option SS} {RX RM : SS → Option SS}
    (HL : ∀ s t, Rd s t d → ∃ s' t', LX s = some s' ∧ LM t = some t' ∧ PLp E (m + 1) s t s' t' d)
    (hxs : ∀ s p, 0 ≤ p.toInt → StX s p → LX s = some s) (hms : ∀ t, ¬ zS t 59 48 < 0 → LM t = some t)
    (HR : ∀ s t, Rd s t d → ∃ s' t', RX s = some s' ∧ RM t = some t' ∧ PE E m s t s' t' d) (s t : SS) (G : Rd s t d) :
    ∃ s' t', (b1 (RX s) fun s1 => LX s1) = some s' ∧ (b1 (RM t) fun t1 => LM t1) = some t' ∧ PE E (m + 1) s t s' t' d := by
  obtain ⟨s1, t1, eX, eM, P1, Q1, O⟩ := HR s t G
  rw [eX, b1_some, eM, b1_some]
  have er : mr t1 = mr t := by unfold mr; rw [Q1.r]
  rcases O with ⟨G1, l, l1, l2, em, ly, el⟩ | ⟨p, hp, sx, sm, z⟩
  · obtain ⟨s2, t2, e2, f2, P2, Q2, O2⟩ := HL s1 t1 G1
    refine ⟨s2, t2, e2, f2, P1.tr P2, Q1.tr Q2, ?_⟩
    rcases O2 with ⟨G2, l', m1, m2, m3, m4⟩ | ⟨p, hp, sx, sm, z0, z1, z2, z3⟩
    · refine Or.inl ⟨G2, l ++ l', ?_, ?_, em.tr G.2.2.2.2.2.2.1.1 m2, ly.tr G.2.2.2.2.2.2.2.1.1 G.2.2.2.2.2.2.2.2.1 er m3, m4 _ (HE.2.2.2.2 m l el)⟩
      · rw [List.length_append]; omega
      · rw [List.length_append]; omega
    · refine Or.inr ⟨p, hp, sx, sm, z0, z1, z2, ?_⟩
      have e1 := ly.1
      have e2 := G1.mh
      have e3 := G.mh
      omega
  · exact ⟨s1, t1, hxs s1 p hp sx, hms t1 (by rw [sm, jlt, jl0]; omega), P1, Q1, Or.inr ⟨p, hp, sx, sm, z⟩⟩
theorem tmo_g {s t : SS} {d : Int32} (G : Rd s t d) : f_X7_timesOrOver s = if cuX s = 42 then some (-18, avX s) else if cuX s = 47 then some (-19, avX s) else if cuX s = 37 then some (-20, avX s) else some (0, s) := by
  unfold f_X7_timesOrOver
  rw [takes_g G (by decide)]
  by_cases h1 : cuX s = 42
  · rw [if_pos h1, if_pos h1, bd_some, if_neg (by decide)]
  rw [if_neg h1, if_neg h1, bd_some, if_pos rfl, takes_g G (by decide)]
  by_cases h2 : cuX s = 47
  · rw [if_pos h2, if_pos h2, bd_some, if_neg (by decide)]
  rw [if_neg h2, if_neg h2, bd_some, if_pos rfl, takes_g G (by decide)]
  by_cases h3 : cuX s = 37
  · rw [if_pos h3, if_pos h3, bd_some, if_neg (by decide)]
  rw [if_neg h3, if_neg h3, bd_some, if_pos rfl]
theorem tmo_s {s : SS} {p : Int32} (hp : 0 ≤ p.toInt) (h : StX s p) : f_X7_timesOrOver s = some (0, s) := by
  unfold f_X7_timesOrOver
  rw [h.takes hp (by decide), bd_some, if_pos rfl, h.takes hp (by decide), bd_some, if_pos rfl, h.takes hp (by decide), bd_some, if_pos rfl]
theorem pom_g {s t : SS} {d : Int32} (G : Rd s t d) : f_X7_plusOrMinus s = if cuX s = 43 then some (-16, avX s) else if cuX s = 45 then some (-17, avX s) else some (0, s) := by
  unfold f_X7_plusOrMinus
  rw [takes_g G (by decide)]
  by_cases h1 : cuX s = 43
  · rw [if_pos h1, if_pos h1, bd_some, if_neg (by decide)]
  rw [if_neg h1, if_neg h1, bd_some, if_pos rfl, takes_g G (by decide)]
  by_cases h2 : cuX s = 45
  · rw [if_pos h2, if_pos h2, bd_some, if_neg (by decide)]
  rw [if_neg h2, if_neg h2, bd_some, if_pos rfl]
theorem pom_s {s : SS} {p : Int32} (hp : 0 ≤ p.toInt) (h : StX s p) : f_X7_plusOrMinus s = some (0, s) := by
  unfold f_X7_plusOrMinus
  rw [h.takes hp (by decide), bd_some, if_pos rfl, h.takes hp (by decide), bd_some, if_pos rfl]
theorem sn42 : sgn 42 (-18) := ⟨by decide, by decide, by decide, Or.inr (Or.inr (Or.inr (Or.inr (Or.inr (Or.inr (Or.inr (Or.inl rfl))))))), by decide, by decide⟩
theorem sn47 : sgn 47 (-19) := ⟨by decide, by decide, by decide, Or.inr (Or.inr (Or.inr (Or.inr (Or.inr (Or.inr (Or.inr (Or.inr (Or.inl rfl)))))))), by decide, by decide⟩
theorem sn37 : sgn 37 (-20) := ⟨by decide, by decide, by decide, Or.inr (Or.inr (Or.inr (Or.inr (Or.inr (Or.inr (Or.inr (Or.inr (Or.inr rfl)))))))), by decide, by decide⟩
theorem sn43 : sgn 43 (-16) := ⟨by decide, by decide, by decide, Or.inr (Or.inr (Or.inr (Or.inr (Or.inr (Or.inl rfl))))), by decide, by decide⟩
theorem sn45 : sgn 45 (-17) := ⟨by decide, by decide, by decide, Or.inr (Or.inr (Or.inr (Or.inr (Or.inr (Or.inr (Or.inl rfl)))))), by decide, by decide⟩
theorem sn60 : sgn 60 (-13) := ⟨by decide, by decide, by decide, Or.inr (Or.inr (Or.inl rfl)), by decide, by decide⟩
theorem sn61 : sgn 61 (-14) := ⟨by decide, by decide, by decide, Or.inr (Or.inr (Or.inr (Or.inl rfl))), by decide, by decide⟩
theorem sn62 : sgn 62 (-15) := ⟨by decide, by decide, by decide, Or.inr (Or.inr (Or.inr (Or.inr (Or.inl rfl)))), by decide, by decide⟩
theorem sn38 : sgn 38 (-12) := ⟨by decide, by decide, by decide, Or.inr (Or.inl rfl), by decide, by decide⟩
theorem sn124 : sgn 124 (-11) := ⟨by decide, by decide, by decide, Or.inl rfl, by decide, by decide⟩
section LVL
variable {E : Nat → List Int32 → Prop} {m : Nat} {d : Int32} {rx : SS → Int32 → Option SS} {rm : SS → Option SS}
/-- pieces read alike -/
def HRd (E : Nat → List Int32 → Prop) (m : Nat) (d : Int32) (RX RM : SS → Option SS) : Prop := ∀ s t, Rd s t d → ∃ s' t', RX s = some s' ∧ RM t = some t' ∧ PE E m s t s' t' d
theorem prod_l (HE : EC E) (HR : HRd E m d (fun s => rx s d) rm) : HRd E (m + 1) d (fun s => f_X7_product rx s d) (fun t => f_X12_product rm t) := by
  intro s t G
  have loop := loopG HE (m := m) (d := d) (LX := fun n s x => bd (f_X7_timesOrOver s) fun r2 s2 => f_X7_product_L12 rx d n s2 r2 x) (LM := fun n t => f_X12_product_L4 rm n t) (RX := fun s => rx s d) (RM := rm) (kd := fun g k => (g = 42 ∧ k = -18) ∨ (g = 47 ∧ k = -19) ∨ (g = 37 ∧ k = -20)) (by
      rintro g k (⟨rfl, rfl⟩ | ⟨rfl, rfl⟩ | ⟨rfl, rfl⟩)
      · exact sn42
      · exact sn47
      · exact sn37) (by
      intro n s t x G h
      show (bd (f_X7_timesOrOver s) fun r2 s2 => f_X7_product_L12 rx d (n + 1) s2 r2 x) = some s
      rw [tmo_g G, if_neg (h 42 (-18) (Or.inl ⟨rfl, rfl⟩)), if_neg (h 47 (-19) (Or.inr (Or.inl ⟨rfl, rfl⟩))), if_neg (h 37 (-20) (Or.inr (Or.inr ⟨rfl, rfl⟩))), bd_some, f_X7_product_L12, f_X7_product_L12_b]
      by_cases z : x < 160
      · rw [if_pos z, if_pos rfl]
      · rw [if_neg z]) (by
      intro n s t x g k hk G c z
      show (bd (f_X7_timesOrOver s) fun r2 s2 => f_X7_product_L12 rx d (n + 1) s2 r2 x) = _
      have e : f_X7_timesOrOver s = some (k, avX s) := by
        rw [tmo_g G]
        rcases hk with ⟨rfl, rfl⟩ | ⟨rfl, rfl⟩ | ⟨rfl, rfl⟩
        · rw [if_pos c]
        · rw [if_neg (by rw [c]; decide), if_pos c]
        · rw [if_neg (by rw [c]; decide), if_neg (by rw [c]; decide), if_pos c]
      rw [e, bd_some, f_X7_product_L12, f_X7_product_L12_b, if_pos z, if_neg (by rcases hk with ⟨_, rfl⟩ | ⟨_, rfl⟩ | ⟨_, rfl⟩ <;> decide)]
      rfl) (by
      intro n s x p hp h
      show (bd (f_X7_timesOrOver s) fun r2 s2 => f_X7_product_L12 rx d (n + 1) s2 r2 x) = some s
      rw [tmo_s hp h, bd_some, f_X7_product_L12, f_X7_product_L12_b]
      by_cases z : x < 160
      · rw [if_pos z, if_pos rfl]
      · rw [if_neg z]) (by
      intro n s t G h
      show f_X12_product_L4 rm (n + 1) t = some t
      rw [f_X12_product_L4, f_X12_product_L4_b, if_pos (by rw [G.2.2.1]; decide), G.look, b1_some, jn, if_neg (h 42 (-18) (Or.inl ⟨rfl, rfl⟩)), b1_some, if_neg (h 47 (-19) (Or.inr (Or.inl ⟨rfl, rfl⟩))), b1_some, if_neg (h 37 (-20) (Or.inr (Or.inr ⟨rfl, rfl⟩)))]) (by
      intro n s t g k hk G c
      show f_X12_product_L4 rm (n + 1) t = _
      rw [f_X12_product_L4, f_X12_product_L4_b, if_pos (by rw [G.2.2.1]; decide), G.look, b1_some, jn]
      rcases hk with ⟨rfl, rfl⟩ | ⟨rfl, rfl⟩ | ⟨rfl, rfl⟩
      · rw [if_pos c, b1_some, vl, st, c]
        rfl
      · rw [if_neg (by rw [c]; decide), b1_some, if_pos c, b1_some, vl, st, c]
        rfl
      · rw [if_neg (by rw [c]; decide), b1_some, if_neg (by rw [c]; decide), b1_some, if_pos c, b1_some, vl, st, c]
        rfl) (by
      intro n t h
      show f_X12_product_L4 rm (n + 1) t = some t
      rw [f_X12_product_L4, f_X12_product_L4_b, if_neg h]) HR
  exact levelG HE (LX := fun s => bd (f_X7_timesOrOver s) fun r2 s2 => f_X7_product_L12 rx d 4000 s2 r2 0) (LM := fun t => f_X12_product_L4 rm 4000 t) (RX := fun s => rx s d) (RM := rm) (fun s t G => loop 4000 s t 0 G (by have := G.2.2.2.2.1; have := G.1.2.1; omega) (by decide) (by rw [jl0]; exact G.2.2.2.2.1.1)) (by
      intro s p hp h
      show (bd (f_X7_timesOrOver s) fun r2 s2 => f_X7_product_L12 rx d (3999 + 1) s2 r2 0) = some s
      rw [tmo_s hp h, bd_some, f_X7_product_L12, f_X7_product_L12_b, if_pos (by decide), if_pos rfl]) (by
      intro t h
      show f_X12_product_L4 rm (3999 + 1) t = some t
      rw [f_X12_product_L4, f_X12_product_L4_b, if_neg h]) HR s t G
theorem sum_l (HE : EC E) (HR : HRd E m d (fun s => f_X7_product rx s d) (fun t => f_X12_product rm t)) : HRd E (m + 1) d (fun s => f_X7_sum rx s d) (fun t => f_X12_sum rm t) := by
  intro s t G
  have loop := loopG HE (m := m) (d := d) (LX := fun n s x => bd (f_X7_plusOrMinus s) fun r2 s2 => f_X7_sum_L12 rx d n s2 r2 x) (LM := fun n t => f_X12_sum_L4 rm n t) (RX := fun s => f_X7_product rx s d) (RM := fun t => f_X12_product rm t) (kd := fun g k => (g = 43 ∧ k = -16) ∨ (g = 45 ∧ k = -17)) (by
      rintro g k (⟨rfl, rfl⟩ | ⟨rfl, rfl⟩)
      · exact sn43
      · exact sn45) (by
      intro n s t x G h
      show (bd (f_X7_plusOrMinus s) fun r2 s2 => f_X7_sum_L12 rx d (n + 1) s2 r2 x) = some s
      rw [pom_g G, if_neg (h 43 (-16) (Or.inl ⟨rfl, rfl⟩)), if_neg (h 45 (-17) (Or.inr ⟨rfl, rfl⟩)), bd_some, f_X7_sum_L12, f_X7_sum_L12_b]
      by_cases z : x < 160
      · rw [if_pos z, if_pos rfl]
      · rw [if_neg z]) (by
      intro n s t x g k hk G c z
      show (bd (f_X7_plusOrMinus s) fun r2 s2 => f_X7_sum_L12 rx d (n + 1) s2 r2 x) = _
      have e : f_X7_plusOrMinus s = some (k, avX s) := by
        rw [pom_g G]
        rcases hk with ⟨rfl, rfl⟩ | ⟨rfl, rfl⟩
        · rw [if_pos c]
        · rw [if_neg (by rw [c]; decide), if_pos c]
      rw [e, bd_some, f_X7_sum_L12, f_X7_sum_L12_b, if_pos z, if_neg (by rcases hk with ⟨_, rfl⟩ | ⟨_, rfl⟩ <;> decide)]
      rfl) (by
      intro n s x p hp h
      show (bd (f_X7_plusOrMinus s) fun r2 s2 => f_X7_sum_L12 rx d (n + 1) s2 r2 x) = some s
      rw [pom_s hp h, bd_some, f_X7_sum_L12, f_X7_sum_L12_b]
      by_cases z : x < 160
      · rw [if_pos z, if_pos rfl]
      · rw [if_neg z]) (by
      intro n s t G h
      show f_X12_sum_L4 rm (n + 1) t = some t
      rw [f_X12_sum_L4, f_X12_sum_L4_b, if_pos (by rw [G.2.2.1]; decide), G.look, b1_some, jn, if_neg (h 43 (-16) (Or.inl ⟨rfl, rfl⟩)), b1_some, if_neg (h 45 (-17) (Or.inr ⟨rfl, rfl⟩))]) (by
      intro n s t g k hk G c
      show f_X12_sum_L4 rm (n + 1) t = _
      rw [f_X12_sum_L4, f_X12_sum_L4_b, if_pos (by rw [G.2.2.1]; decide), G.look, b1_some, jn]
      rcases hk with ⟨rfl, rfl⟩ | ⟨rfl, rfl⟩
      · rw [if_pos c, b1_some, vl, st, c]
        rfl
      · rw [if_neg (by rw [c]; decide), b1_some, if_pos c, b1_some, vl, st, c]
        rfl) (by
      intro n t h
      show f_X12_sum_L4 rm (n + 1) t = some t
      rw [f_X12_sum_L4, f_X12_sum_L4_b, if_neg h]) HR
  exact levelG HE (LX := fun s => bd (f_X7_plusOrMinus s) fun r2 s2 => f_X7_sum_L12 rx d 4000 s2 r2 0) (LM := fun t => f_X12_sum_L4 rm 4000 t) (RX := fun s => f_X7_product rx s d) (RM := fun t => f_X12_product rm t) (fun s t G => loop 4000 s t 0 G (by have := G.2.2.2.2.1; have := G.1.2.1; omega) (by decide) (by rw [jl0]; exact G.2.2.2.2.1.1)) (by
      intro s p hp h
      show (bd (f_X7_plusOrMinus s) fun r2 s2 => f_X7_sum_L12 rx d (3999 + 1) s2 r2 0) = some s
      rw [pom_s hp h, bd_some, f_X7_sum_L12, f_X7_sum_L12_b, if_pos (by decide), if_pos rfl]) (by
      intro t h
      show f_X12_sum_L4 rm (3999 + 1) t = some t
      rw [f_X12_sum_L4, f_X12_sum_L4_b, if_neg h]) HR s t G
theorem both_l (HE : EC E) (HR : HRd E m d (fun s => f_X7_compared rx s d) (fun t => f_X12_compared rm t)) : HRd E (m + 1) d (fun s => f_X7_both rx s d) (fun t => f_X12_all rm t) := by
  intro s t G
  have loop := loopG HE (m := m) (d := d) (LX := fun n s x => f_X7_both_L7 rx d n s x) (LM := fun n t => f_X12_all_L4 rm n t) (RX := fun s => f_X7_compared rx s d) (RM := fun t => f_X12_compared rm t) (kd := fun g k => g = 38 ∧ k = -12) (by
      rintro g k ⟨rfl, rfl⟩
      exact sn38) (by
      intro n s t x G h
      show f_X7_both_L7 rx d (n + 1) s x = some s
      rw [f_X7_both_L7, f_X7_both_L7_b]
      by_cases z : x < 160
      · rw [if_pos z, takes_g G (by decide), if_neg (h 38 (-12) ⟨rfl, rfl⟩), bd_some, if_pos rfl]
      · rw [if_neg z]) (by
      rintro n s t x g k ⟨rfl, rfl⟩ G c z
      show f_X7_both_L7 rx d (n + 1) s x = _
      rw [f_X7_both_L7, f_X7_both_L7_b, if_pos z, takes_g G (by decide), if_pos c, bd_some, if_neg (by decide)]
      rfl) (by
      intro n s x p hp h
      show f_X7_both_L7 rx d (n + 1) s x = some s
      rw [f_X7_both_L7, f_X7_both_L7_b]
      by_cases z : x < 160
      · rw [if_pos z, h.takes hp (by decide), bd_some, if_pos rfl]
      · rw [if_neg z]) (by
      intro n s t G h
      show f_X12_all_L4 rm (n + 1) t = some t
      rw [f_X12_all_L4, f_X12_all_L4_b, if_pos (by rw [G.2.2.1]; decide), G.look, b1_some, if_neg (h 38 (-12) ⟨rfl, rfl⟩)]) (by
      rintro n s t g k ⟨rfl, rfl⟩ G c
      show f_X12_all_L4 rm (n + 1) t = _
      rw [f_X12_all_L4, f_X12_all_L4_b, if_pos (by rw [G.2.2.1]; decide), G.look, b1_some, if_pos c, vl, st]
      rfl) (by
      intro n t h
      show f_X12_all_L4 rm (n + 1) t = some t
      rw [f_X12_all_L4, f_X12_all_L4_b, if_neg h]) HR
  exact levelG HE (LX := fun s => f_X7_both_L7 rx d 4000 s 0) (LM := fun t => f_X12_all_L4 rm 4000 t) (RX := fun s => f_X7_compared rx s d) (RM := fun t => f_X12_compared rm t) (fun s t G => loop 4000 s t 0 G (by have := G.2.2.2.2.1; have := G.1.2.1; omega) (by decide) (by rw [jl0]; exact G.2.2.2.2.1.1)) (by
      intro s p hp h
      show f_X7_both_L7 rx d (3999 + 1) s 0 = some s
      rw [f_X7_both_L7, f_X7_both_L7_b, if_pos (by decide), h.takes hp (by decide), bd_some, if_pos rfl]) (by
      intro t h
      show f_X12_all_L4 rm (3999 + 1) t = some t
      rw [f_X12_all_L4, f_X12_all_L4_b, if_neg h]) HR s t G
theorem eith_l (HE : EC E) (HR : HRd E m d (fun s => f_X7_both rx s d) (fun t => f_X12_all rm t)) : HRd E (m + 1) d (fun s => f_X7_either rx s d) (fun t => f_X12_either rm t) := by
  intro s t G
  have loop := loopG HE (m := m) (d := d) (LX := fun n s x => f_X7_either_L7 rx d n s x) (LM := fun n t => f_X12_either_L4 rm n t) (RX := fun s => f_X7_both rx s d) (RM := fun t => f_X12_all rm t) (kd := fun g k => g = 124 ∧ k = -11) (by
      rintro g k ⟨rfl, rfl⟩
      exact sn124) (by
      intro n s t x G h
      show f_X7_either_L7 rx d (n + 1) s x = some s
      rw [f_X7_either_L7, f_X7_either_L7_b]
      by_cases z : x < 160
      · rw [if_pos z, takes_g G (by decide), if_neg (h 124 (-11) ⟨rfl, rfl⟩), bd_some, if_pos rfl]
      · rw [if_neg z]) (by
      rintro n s t x g k ⟨rfl, rfl⟩ G c z
      show f_X7_either_L7 rx d (n + 1) s x = _
      rw [f_X7_either_L7, f_X7_either_L7_b, if_pos z, takes_g G (by decide), if_pos c, bd_some, if_neg (by decide)]
      rfl) (by
      intro n s x p hp h
      show f_X7_either_L7 rx d (n + 1) s x = some s
      rw [f_X7_either_L7, f_X7_either_L7_b]
      by_cases z : x < 160
      · rw [if_pos z, h.takes hp (by decide), bd_some, if_pos rfl]
      · rw [if_neg z]) (by
      intro n s t G h
      show f_X12_either_L4 rm (n + 1) t = some t
      rw [f_X12_either_L4, f_X12_either_L4_b, if_pos (by rw [G.2.2.1]; decide), G.look, b1_some, if_neg (h 124 (-11) ⟨rfl, rfl⟩)]) (by
      rintro n s t g k ⟨rfl, rfl⟩ G c
      show f_X12_either_L4 rm (n + 1) t = _
      rw [f_X12_either_L4, f_X12_either_L4_b, if_pos (by rw [G.2.2.1]; decide), G.look, b1_some, if_pos c, vl, st]
      rfl) (by
      intro n t h
      show f_X12_either_L4 rm (n + 1) t = some t
      rw [f_X12_either_L4, f_X12_either_L4_b, if_neg h]) HR
  exact levelG HE (LX := fun s => f_X7_either_L7 rx d 4000 s 0) (LM := fun t => f_X12_either_L4 rm 4000 t) (RX := fun s => f_X7_both rx s d) (RM := fun t => f_X12_all rm t) (fun s t G => loop 4000 s t 0 G (by have := G.2.2.2.2.1; have := G.1.2.1; omega) (by decide) (by rw [jl0]; exact G.2.2.2.2.1.1)) (by
      intro s p hp h
      show f_X7_either_L7 rx d (3999 + 1) s 0 = some s
      rw [f_X7_either_L7, f_X7_either_L7_b, if_pos (by decide), h.takes hp (by decide), bd_some, if_pos rfl]) (by
      intro t h
      show f_X12_either_L4 rm (3999 + 1) t = some t
      rw [f_X12_either_L4, f_X12_either_L4_b, if_neg h]) HR s t G
end LVL
