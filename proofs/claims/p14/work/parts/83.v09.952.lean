/-! THE SHELTER BY MAPS; ACTS -/
theorem Pc_jif {ρ : Type} {Q : ρ → Prop} {K : Int32 → Option ρ} {c g : Prop} {i : Decidable c} {j : Decidable g} {A B : Int32} (h : Pc (K (if c then A else B)) Q) : Pc (jn K fun k => @ite _ c i (@gd ρ g j (k A)) (k B)) Q := by
  by_cases hc : c
  · rw [if_pos hc] at h
    exact Pc_jn (Pc_ift hc (Pc_gd (fun _ => h)))
  · rw [if_neg hc] at h
    exact Pc_jn (Pc_iff hc h)
theorem mnI {a b : Int32} : (if b < a then b else a).toInt = (if b.toInt < a.toInt then b.toInt else a.toInt) := by
  by_cases c : b < a
  · rw [if_pos c]
    rw [jlt] at c
    rw [if_pos c]
  · rw [if_neg c]
    rw [jlt] at c
    rw [if_neg c]
/-- what is asked for, of the six that the reference holds -/
def sel (a m2 m3 m4 m5 m6 m7 : Int) : Int := if a = 0 then m2 else if a = 1 then m5 else if a = 2 then m6 else if a = 3 then m7 else if a = 4 then m3 else m4
def KN (a x2 x3 x4 x5 x6 m2 m3 m4 m5 m6 m7 : Int) : Prop := x4 = m4 ∧ x5 = m3 ∧ ((m7 = 0 ∧ x2 = -2 ∧ x3 = 1 ∧ m2 = 32 ∧ m3 = -1 ∧ m4 = 32 ∧ m5 = -1 ∧ m6 = 61) ∨ ((1 ≤ m7 ∧ m7 ≤ 60) ∧ (0 ≤ m2 ∧ m2 ≤ 31) ∧ (0 ≤ m3 ∧ m3 ≤ 31) ∧ (0 ≤ m4 ∧ m4 ≤ 31) ∧ (0 ≤ m5 ∧ m5 ≤ 31) ∧ (1 ≤ m6 ∧ m6 ≤ m7) ∧ x2 = sel a m2 m3 m4 m5 m6 m7 ∧ ((x3 = 1 ∧ m6 = m7 ∧ x6 = m7) ∨ (x3 = 0 ∧ m6 < m7))))
/-- one map more -/
theorem KN.s {a x2 x3 x4 x5 x6 m2 m3 m4 m5 m6 m7 b e d y2 y3 : Int} (ha : 0 ≤ a ∧ a ≤ 5) (K : KN a x2 x3 x4 x5 x6 m2 m3 m4 m5 m6 m7) (hb : 0 ≤ b ∧ b ≤ e ∧ e ≤ 31) (hd : 1 ≤ d ∧ d ≤ 60) (h2 : y2 = if x2 = -2 then (if a = 0 ∨ a = 4 then b else if a = 1 ∨ a = 5 then e else d) else if a = 0 ∨ a = 2 ∨ a = 5 then (if (if a = 0 ∨ a = 4 then b else if a = 1 ∨ a = 5 then e else d) < x2 then (if a = 0 ∨ a = 4 then b else if a = 1 ∨ a = 5 then e else d) else x2) else (if x2 < (if a = 0 ∨ a = 4 then b else if a = 1 ∨ a = 5 then e else d) then (if a = 0 ∨ a = 4 then b else if a = 1 ∨ a = 5 then e else d) else x2)) (h3 : y3 = if x3 = 0 then 0 else if x2 = -2 then 1 else if d = x6 then 1 else 0) : KN a y2 y3 (if e < x4 then e else x4) (if x5 < b then b else x5) d (if b < m2 then b else m2) (if m3 < b then b else m3) (if e < m4 then e else m4) (if m5 < e then e else m5) (if d < m6 then d else m6) (if m7 < d then d else m7) := by
  obtain ⟨k1, k2, k3⟩ := K
  unfold KN
  refine ⟨by rw [k1], by rw [k2], Or.inr ?_⟩
  unfold sel at k3 ⊢
  rcases k3 with ⟨c7, c2, c3, d2, d3, d4, d5, d6⟩ | ⟨c7, d2, d3, d4, d5, d6, c2, c3⟩
  · rw [if_neg (by omega), if_pos c2] at h3
    rw [if_pos c2] at h2
    rw [if_pos (by omega), if_pos (by omega), if_pos (by omega), if_pos (by omega), if_pos (by omega), if_pos (by omega)]
    have h : a = 0 ∨ a = 1 ∨ a = 2 ∨ a = 3 ∨ a = 4 ∨ a = 5 := by omega
    refine ⟨by omega, by omega, by omega, by omega, by omega, by omega, ?_, Or.inl ⟨h3, rfl, rfl⟩⟩
    rcases h with h | h | h | h | h | h <;> subst h <;> simp at h2 ⊢ <;> exact h2
  · have x2n : 0 ≤ x2 := by
      have h : a = 0 ∨ a = 1 ∨ a = 2 ∨ a = 3 ∨ a = 4 ∨ a = 5 := by omega
      rcases h with h | h | h | h | h | h <;> subst h <;> simp at c2 <;> omega
    rw [if_neg (by omega)] at h2
    rw [if_neg (show ¬ x2 = -2 by omega)] at h3
    have s6 : (if d < m6 then d else m6) ≤ (if m7 < d then d else m7) ∧ 1 ≤ (if d < m6 then d else m6) ∧ (if m7 < d then d else m7) ≤ 60 ∧ 1 ≤ (if m7 < d then d else m7) := by
      refine ⟨?_, ?_, ?_, ?_⟩ <;> (repeat' split) <;> omega
    refine ⟨⟨s6.2.2.2, s6.2.2.1⟩, by split <;> omega, by split <;> omega, by split <;> omega, by split <;> omega, ⟨s6.2.1, s6.1⟩, ?_, ?_⟩
    · have h : a = 0 ∨ a = 1 ∨ a = 2 ∨ a = 3 ∨ a = 4 ∨ a = 5 := by omega
      rcases h with h | h | h | h | h | h <;> subst h <;> simp at h2 c2 ⊢ <;> rw [h2, c2]
    · rcases c3 with ⟨c3, e1, e2⟩ | ⟨c3, e1⟩
      · rw [if_neg (by omega)] at h3
        by_cases z : d = x6
        · rw [if_pos z] at h3
          exact Or.inl ⟨h3, by rw [if_neg (by omega), if_neg (by omega)]; exact e1, by rw [if_neg (by omega)]; omega⟩
        · rw [if_neg z] at h3
          exact Or.inr ⟨h3, by (repeat' split) <;> omega⟩
      · rw [if_pos c3] at h3
        exact Or.inr ⟨h3, by (repeat' split) <;> omega⟩
section KNs
variable {s t : SS}
theorem edgX {p : Nat} {a : Int32} (ha : 0 ≤ a.toInt ∧ a.toInt ≤ 5) : ∃ v, f_X1_edge s p a = some v ∧ v.toInt = if a.toInt = 0 ∨ a.toInt = 4 then (zS s p 0).toInt else if a.toInt = 1 ∨ a.toInt = 5 then (zS s p 1).toInt else (zS s p 2).toInt := by
  have h : a.toInt = 0 ∨ a.toInt = 1 ∨ a.toInt = 2 ∨ a.toInt = 3 ∨ a.toInt = 4 ∨ a.toInt = 5 := by omega
  unfold f_X1_edge
  rcases h with h | h | h | h | h | h
  · have e : a = 0 := Int32.toInt_inj.1 (by rw [h]; rfl)
    subst e
    exact ⟨_, rfl, rfl⟩
  · have e : a = 1 := Int32.toInt_inj.1 (by rw [h]; rfl)
    subst e
    exact ⟨_, rfl, rfl⟩
  · have e : a = 2 := Int32.toInt_inj.1 (by rw [h]; rfl)
    subst e
    exact ⟨_, rfl, rfl⟩
  · have e : a = 3 := Int32.toInt_inj.1 (by rw [h]; rfl)
    subst e
    exact ⟨_, rfl, rfl⟩
  · have e : a = 4 := Int32.toInt_inj.1 (by rw [h]; rfl)
    subst e
    exact ⟨_, rfl, rfl⟩
  · have e : a = 5 := Int32.toInt_inj.1 (by rw [h]; rfl)
    subst e
    exact ⟨_, rfl, rfl⟩
/-- the class, one map that is not wrong -/
theorem knX {a x2 x3 x4 x5 x6 x7 : Int32} {p : Nat} {rc : Int32 → Int32 → Int32 → Int32 → Int32 → Int32 → Option Int32} {q0 : Int32 → Int32 → Int32 → Int32 → Option Int32} {P : Int32 → Prop} (ha : 0 ≤ a.toInt ∧ a.toInt ≤ 5) (c : x7 < zS s 0 5) (hp : zR s 23 x7.toInt.toNat = some p) (hf : f_X11_firstUnlike s p = some (-2)) (h3 : x3 = 0 ∨ x3 = 1) (k : ∀ y2 y3 : Int32, (y2.toInt = if x2.toInt = -2 then (if a.toInt = 0 ∨ a.toInt = 4 then (zS s p 0).toInt else if a.toInt = 1 ∨ a.toInt = 5 then (zS s p 1).toInt else (zS s p 2).toInt) else if a.toInt = 0 ∨ a.toInt = 2 ∨ a.toInt = 5 then (if (if a.toInt = 0 ∨ a.toInt = 4 then (zS s p 0).toInt else if a.toInt = 1 ∨ a.toInt = 5 then (zS s p 1).toInt else (zS s p 2).toInt) < x2.toInt then (if a.toInt = 0 ∨ a.toInt = 4 then (zS s p 0).toInt else if a.toInt = 1 ∨ a.toInt = 5 then (zS s p 1).toInt else (zS s p 2).toInt) else x2.toInt) else (if x2.toInt < (if a.toInt = 0 ∨ a.toInt = 4 then (zS s p 0).toInt else if a.toInt = 1 ∨ a.toInt = 5 then (zS s p 1).toInt else (zS s p 2).toInt) then (if a.toInt = 0 ∨ a.toInt = 4 then (zS s p 0).toInt else if a.toInt = 1 ∨ a.toInt = 5 then (zS s p 1).toInt else (zS s p 2).toInt) else x2.toInt)) → (y3 = 0 ∨ y3 = 1) → y3.toInt = (if x3.toInt = 0 then 0 else if x2.toInt = -2 then 1 else if (zS s p 2).toInt = x6.toInt then 1 else 0) → Pc (rc y2 y3 (if zS s p 1 < x4 then zS s p 1 else x4) (if x5 < zS s p 0 then zS s p 0 else x5) (zS s p 2) (x7 + 1)) P) : Pc (f_X11_known_L29_b q0 s a rc x2 x3 x4 x5 x6 x7) P := by
  have jn2 : (-2 : Int32).toInt = -2 := rfl
  obtain ⟨v, ev, hv⟩ := edgX (s := s) (p := p) ha
  rw [← hv] at k
  unfold f_X11_known_L29_b
  rw [hp]
  refine Pc_ift c (Pc_gd (fun _ => Pc_onS ?_))
  rw [hf]
  refine Pc_b1S (Pc_ift rfl (Pc_jn ?_))
  -- what stands behind the flags
  have tl : ∀ t10 t11 : Int32, ((t10 = 1 ∧ x2 = -2) ∨ (t10 = 0 ∧ ¬ x2 = -2)) → (t11 = 0 ∨ t11 = 1) → t11.toInt = (if x3.toInt = 0 then 0 else if x2.toInt = -2 then 1 else if (zS s p 2).toInt = x6.toInt then 1 else 0) → Pc (vl ((zS s p 2)) fun v12 => (b1 (f_J9_max_7cf53 x5 (zS s p 0)) fun r13 => (b1 (f_J9_min_7cf53 x4 (zS s p 1)) fun r14 => (b1 (f_X1_edge s p a) fun r15 => (jn (fun (t16_0 : Int32) => (vl (x7 + 1) fun v17 => (rc t16_0 t11 r14 r13 v12 v17))) fun k16 => (if t10 = (0 : Int32) then (jn ((b1 (f_J9_min_7cf53 x2 r15) fun r20 => (k16 r20))) fun k19 => (if a = (0 : Int32) then k19 else (if a = (2 : Int32) then k19 else (if a = (5 : Int32) then k19 else (b1 (f_J9_max_7cf53 x2 r15) fun r24 => (k16 r24)))))) else (k16 r15))))))) P := by
    intro t10 t11 h10 h11 h12
    rw [maxJ, minJ, ev]
    refine Pc_vl (Pc_b1S (Pc_b1S (Pc_b1S (Pc_jn ?_))))
    rcases h10 with ⟨e, z⟩ | ⟨e, z⟩
    · rw [e]
      exact Pc_if10 (Pc_vl (k v t11 (by rw [if_pos (by rw [z, jn2])]) h11 h12))
    · rw [e]
      have z' : ¬ x2.toInt = -2 := fun w => z (Int32.toInt_inj.1 (by rw [w, jn2]))
      rw [minJ, maxJ]
      refine Pc_if00 (Pc_jn ?_)
      have mn : (a.toInt = 0 ∨ a.toInt = 2 ∨ a.toInt = 5) → Pc (b1 (some (if v < x2 then v else x2)) fun r20 => vl (x7 + 1) fun v17 => rc r20 t11 (if zS s p 1 < x4 then zS s p 1 else x4) (if x5 < zS s p 0 then zS s p 0 else x5) (zS s p 2) v17) P := fun hm => Pc_b1S (Pc_vl (k _ t11 (by rw [if_neg z', if_pos hm, mnI]) h11 h12))
      refine Pc_if (fun w => mn (Or.inl (by rw [w]; rfl))) (fun w0 => Pc_if (fun w => mn (Or.inr (Or.inl (by rw [w]; rfl)))) (fun w2 => Pc_if (fun w => mn (Or.inr (Or.inr (by rw [w]; rfl)))) (fun w5 => ?_)))
      refine Pc_b1S (Pc_vl (k _ t11 ?_ h11 h12))
      have nm : ¬ (a.toInt = 0 ∨ a.toInt = 2 ∨ a.toInt = 5) := by
        rintro (h | h | h)
        · exact w0 (Int32.toInt_inj.1 (by rw [h]; rfl))
        · exact w2 (Int32.toInt_inj.1 (by rw [h]; rfl))
        · exact w5 (Int32.toInt_inj.1 (by rw [h]; rfl))
      rw [if_neg z', if_neg nm]
      by_cases y : x2 < v
      · rw [if_pos y]
        rw [jlt] at y
        rw [if_pos y]
      · rw [if_neg y]
        rw [jlt] at y
        rw [if_neg y]
  have h30 : x3.toInt = 0 ↔ x3 = 0 := ⟨fun w => Int32.toInt_inj.1 (by rw [w, jl0]), fun w => by rw [w, jl0]⟩
  refine Pc_if (fun z => Pc_jn (Pc_jn ?_)) (fun z => Pc_jn (Pc_jn ?_))
  · refine Pc_if (fun w => tl 1 0 (Or.inl ⟨rfl, z⟩) (Or.inl rfl) (by rw [if_pos (h30.mpr w)]; rfl)) (fun w => Pc_jn (Pc_iff n10 (tl 1 1 (Or.inl ⟨rfl, z⟩) (Or.inr rfl) ?_)))
    rw [if_neg (fun q => w (h30.mp q)), if_pos (by rw [z, jn2])]
    rfl
  · have z' : ¬ x2.toInt = -2 := fun w => z (Int32.toInt_inj.1 (by rw [w, jn2]))
    refine Pc_if (fun w => tl 0 0 (Or.inr ⟨rfl, z⟩) (Or.inl rfl) (by rw [if_pos (h30.mpr w)]; rfl)) (fun w => Pc_jn (Pc_ift rfl (Pc_if (fun y => tl 0 1 (Or.inr ⟨rfl, z⟩) (Or.inr rfl) ?_) (fun y => tl 0 0 (Or.inr ⟨rfl, z⟩) (Or.inl rfl) ?_))))
    · rw [if_neg (fun q => w (h30.mp q)), if_neg z', if_pos (by rw [y])]
      rfl
    · rw [if_neg (fun q => w (h30.mp q)), if_neg z', if_neg (fun q => y (Int32.toInt_inj.1 q))]
      rfl
theorem mxI {a b : Int32} : (if a < b then b else a).toInt = (if a.toInt < b.toInt then b.toInt else a.toInt) := by
  by_cases c : a < b
  · rw [if_pos c]
    rw [jlt] at c
    rw [if_pos c]
  · rw [if_neg c]
    rw [jlt] at c
    rw [if_neg c]
def kqX (a0 : Int32) : Int32 → Int32 → Int32 → Int32 → Option Int32 := fun (x32_2 : Int32) (x32_3 : Int32) (x32_4 : Int32) (x32_5 : Int32) => (if a0 < (4 : Int32) then some x32_2 else (if x32_3 = (0 : Int32) then some (-2) else (if x32_4 < x32_5 then some (-2) else some x32_2)))
def kqM (a0 : Int32) : Int32 → Int32 → Int32 → Int32 → Int32 → Int32 → Option Int32 := fun (x33_2 : Int32) (x33_3 : Int32) (x33_4 : Int32) (x33_5 : Int32) (x33_6 : Int32) (x33_7 : Int32) => (if x33_7 = (0 : Int32) then some (-2) else (if a0 = 0 then some x33_2 else (if a0 = 1 then some x33_5 else (if a0 = 2 then some x33_6 else (if a0 = 3 then some x33_7 else (if x33_6 = x33_7 then (if x33_4 < x33_3 then some (-2) else (if a0 = (4 : Int32) then some x33_3 else some x33_4)) else some (-2)))))))
/-- the ends -/
theorem knE {a x2 x3 x4 x5 x6 m2 m3 m4 m5 m6 m7 : Int32} (ha : 0 ≤ a.toInt ∧ a.toInt ≤ 5) (K : KN a.toInt x2.toInt x3.toInt x4.toInt x5.toInt x6.toInt m2.toInt m3.toInt m4.toInt m5.toInt m6.toInt m7.toInt) : Pc (kqX a x2 x3 x4 x5) (fun r => Pc (kqM a m2 m3 m4 m5 m6 m7) (fun r' => r = r')) := by
  have j4 : (4 : Int32).toInt = 4 := rfl
  have jn2 : (-2 : Int32).toInt = -2 := rfl
  obtain ⟨k1, k2, k3⟩ := K
  unfold kqX kqM
  rcases k3 with ⟨c7, c2, c3, d2, d3, d4, d5, d6⟩ | ⟨c7, d2, d3, d4, d5, d6, c2, c3⟩
  · have e7 : m7 = 0 := Int32.toInt_inj.1 (by rw [c7, jl0])
    have e2 : x2 = -2 := Int32.toInt_inj.1 (by rw [c2, jn2])
    rw [e7, e2]
    refine Pc_if (fun _ => Pc_some (Pc_ift rfl (Pc_some rfl))) (fun _ => Pc_if (fun _ => Pc_some (Pc_ift rfl (Pc_some rfl))) (fun _ => Pc_if (fun _ => Pc_some (Pc_ift rfl (Pc_some rfl))) (fun _ => Pc_some (Pc_ift rfl (Pc_some rfl)))))
  · have n7 : ¬ m7 = 0 := fun z => by rw [z, jl0] at c7; omega
    unfold sel at c2
    have sl : ∀ {z : Int32}, x2.toInt = z.toInt → x2 = z := fun w => Int32.toInt_inj.1 w
    have h : a.toInt = 0 ∨ a.toInt = 1 ∨ a.toInt = 2 ∨ a.toInt = 3 ∨ a.toInt = 4 ∨ a.toInt = 5 := by omega
    -- the common end of 4 and 5
    have en : ∀ z : Int32, x2 = z → ¬ a < 4 → (∀ R : Int32 → Prop, R z → Pc (if a = (4 : Int32) then some m3 else some m4) R) → ¬ a = 0 → ¬ a = 1 → ¬ a = 2 → ¬ a = 3 → Pc (if a < (4 : Int32) then some x2 else (if x3 = (0 : Int32) then some (-2) else (if x4 < x5 then some (-2) else some x2))) (fun r => Pc (if m7 = (0 : Int32) then some (-2) else (if a = 0 then some m2 else (if a = 1 then some m5 else (if a = 2 then some m6 else (if a = 3 then some m7 else (if m6 = m7 then (if m4 < m3 then some (-2) else (if a = (4 : Int32) then some m3 else some m4)) else some (-2))))))) (fun r' => r = r')) := by
      intro z ez h4 hz n0 n1 n2 n3
      refine Pc_iff h4 (Pc_if (fun w => Pc_some ?_) (fun w => ?_))
      · refine Pc_iff n7 (Pc_iff n0 (Pc_iff n1 (Pc_iff n2 (Pc_iff n3 (Pc_iff (fun q => ?_) (Pc_some rfl))))))
        rcases c3 with ⟨c3, _⟩ | ⟨_, c3⟩
        · rw [w, jl0] at c3; omega
        · rw [q] at c3; omega
      · have e67 : m6 = m7 := by
          rcases c3 with ⟨_, c3, _⟩ | ⟨c3, _⟩
          · exact Int32.toInt_inj.1 c3
          · exact absurd (Int32.toInt_inj.1 (by rw [c3, jl0])) w
        have e43 : x4 < x5 ↔ m4 < m3 := by rw [jlt, jlt, k1, k2]
        refine Pc_if (fun y => Pc_some ?_) (fun y => Pc_some ?_)
        · exact Pc_iff n7 (Pc_iff n0 (Pc_iff n1 (Pc_iff n2 (Pc_iff n3 (Pc_ift e67 (Pc_ift (e43.mp y) (Pc_some rfl)))))))
        · exact Pc_iff n7 (Pc_iff n0 (Pc_iff n1 (Pc_iff n2 (Pc_iff n3 (Pc_ift e67 (Pc_iff (fun w => y (e43.mpr w)) (hz _ ez)))))))
    rcases h with h | h | h | h | h | h
    · have e : a = 0 := Int32.toInt_inj.1 (by rw [h]; rfl)
      rw [if_pos h] at c2
      exact Pc_ift (by rw [jlt, j4]; omega) (Pc_some (Pc_iff n7 (Pc_ift e (Pc_some (sl c2)))))
    · have e : a = 1 := Int32.toInt_inj.1 (by rw [h]; rfl)
      rw [if_neg (by omega), if_pos h] at c2
      exact Pc_ift (by rw [jlt, j4]; omega) (Pc_some (Pc_iff n7 (Pc_iff (by rw [e]; decide) (Pc_ift e (Pc_some (sl c2))))))
    · have e : a = 2 := Int32.toInt_inj.1 (by rw [h]; rfl)
      rw [if_neg (by omega), if_neg (by omega), if_pos h] at c2
      exact Pc_ift (by rw [jlt, j4]; omega) (Pc_some (Pc_iff n7 (Pc_iff (by rw [e]; decide) (Pc_iff (by rw [e]; decide) (Pc_ift e (Pc_some (sl c2)))))))
    · have e : a = 3 := Int32.toInt_inj.1 (by rw [h]; rfl)
      rw [if_neg (by omega), if_neg (by omega), if_neg (by omega), if_pos h] at c2
      exact Pc_ift (by rw [jlt, j4]; omega) (Pc_some (Pc_iff n7 (Pc_iff (by rw [e]; decide) (Pc_iff (by rw [e]; decide) (Pc_iff (by rw [e]; decide) (Pc_ift e (Pc_some (sl c2))))))))
    · have e : a = 4 := Int32.toInt_inj.1 (by rw [h]; rfl)
      rw [if_neg (by omega), if_neg (by omega), if_neg (by omega), if_neg (by omega), if_pos h] at c2
      exact en m3 (sl c2) (by rw [jlt, j4]; omega) (fun R hR => Pc_ift e (Pc_some hR)) (by rw [e]; decide) (by rw [e]; decide) (by rw [e]; decide) (by rw [e]; decide)
    · have e : a = 5 := Int32.toInt_inj.1 (by rw [h]; rfl)
      rw [if_neg (by omega), if_neg (by omega), if_neg (by omega), if_neg (by omega), if_neg (by omega)] at c2
      exact en m4 (sl c2) (by rw [jlt, j4]; omega) (fun R hR => Pc_iff (by rw [e]; decide) (Pc_some hR)) (by rw [e]; decide) (by rw [e]; decide) (by rw [e]; decide) (by rw [e]; decide)
theorem kn_l {a : Int32} (ha : 0 ≤ a.toInt ∧ a.toInt ≤ 5) (I : Iv s) (J : Iv t) (M : QSm t) (B : B1 s t) (Q : Q4 s t) : ∀ (n m : Nat) (x2 x3 x4 x5 x6 x7 m2 m3 m4 m5 m6 m7 : Int32), 0 ≤ x7.toInt → (x3 = 0 ∨ x3 = 1) → KN a.toInt x2.toInt x3.toInt x4.toInt x5.toInt x6.toInt m2.toInt m3.toInt m4.toInt m5.toInt m6.toInt m7.toInt → Pc (f_X11_known_L29 (kqX a) s a n x2 x3 x4 x5 x6 x7) (fun r => Pc (f_X12_known_L33 (kqM a) t a m m2 m3 m4 m5 m6 m7 x7) (fun r' => r = r'))
  | 0, _, _, _, _, _, _, _, _, _, _, _, _, _, _, _, _ => Pc_none
  | n + 1, 0, _, _, _, _, _, _, _, _, _, _, _, _, _, _, _ => fun _ _ => Pc_none
  | n + 1, m + 1, x2, x3, x4, x5, x6, x7, m2, m3, m4, m5, m6, m7, h0, h3, K => by
    have b5 : zS s 0 5 = zS t 59 30 := B.1.1.2.2.1
    have r5 : 0 ≤ (zS s 0 5).toInt ∧ (zS s 0 5).toInt ≤ 8 := B.1.fx (q := 0) (k := 5) (by omega)
    show Pc (f_X11_known_L29_b (kqX a) s a (f_X11_known_L29 (kqX a) s a n) x2 x3 x4 x5 x6 x7) (fun r => Pc (f_X12_known_L33_b (kqM a) t a (f_X12_known_L33 (kqM a) t a m) m2 m3 m4 m5 m6 m7 x7) (fun r' => r = r'))
    by_cases c : x7 < zS s 0 5
    · have c' := c
      rw [jlt] at c'
      have n1 : (x7 + 1).toInt = x7.toInt + 1 := by rw [i32_add (by rw [jl1]; omega) (by rw [jl1]; omega), jl1]
      obtain ⟨i, hi⟩ : ∃ i : Nat, x7.toInt = i := ⟨_, (Int.toNat_of_nonneg h0).symm⟩
      have ei : x7.toInt.toNat = i := by omega
      have h8 : i < 8 := by omega
      obtain ⟨p, hp, X⟩ := Q.2.2.2.2.2.2.2.2.2.1.1 i h8 (by omega)
      obtain ⟨v0, v1, v2, v4, xr, yr, xb⟩ := id X
      -- whether it is wrong, both sides
      obtain ⟨rf, ef, -⟩ := w_X11_firstUnlike (Lk.rf I) (B.1.sh.2.2.2.2.1 i p h8 hp)
      have wr : Pc (f_X12_wrongBy t x7) (fun r' => r' = rf) := by
        have := fu_l (a0 := x7) J M B Q X hi h8 4000 4000 0 (by decide) rf ef
        exact this
      by_cases z : rf = -2
      · rw [z] at ef wr
        refine knX ha c (by rw [ei]; exact hp) ef h3 (fun y2 y3 e2 e3 e4 => ?_)
        have K' := KN.s (b := (zS s p 0).toInt) (e := (zS s p 1).toInt) (d := (zS s p 2).toInt) ha K xr yr e2 e4
        rw [← mnI, ← mxI] at K'
        refine Pc.mono (kn_l ha I J M B Q n m y2 y3 _ _ _ (x7 + 1) (if zS s p 0 < m2 then zS s p 0 else m2) (if m3 < zS s p 0 then zS s p 0 else m3) (if zS s p 1 < m4 then zS s p 1 else m4) (if m5 < zS s p 1 then zS s p 1 else m5) (if zS s p 2 < m6 then zS s p 2 else m6) (if m7 < zS s p 2 then zS s p 2 else m7) (by omega) e3 (by rw [mnI, mxI, mnI, mxI, mnI, mxI, mnI, mxI]; rw [mnI, mxI] at K'; exact K')) (fun r hr => ?_)
        unfold f_X12_known_L33_b
        rw [← b5, ei, ← v0, ← v1, ← v2]
        refine Pc_ift c (Pc_b1 (Pc.mono wr (fun r4 h4 => Pc_jn (Pc_ift h4 (Pc_gd (fun _ => Pc_jif ?_))))))
        exact Pc_gd (fun _ => Pc_jif (Pc_gd (fun _ => Pc_jif (Pc_gd (fun _ => Pc_jif (Pc_gd (fun _ => Pc_jif (Pc_gd (fun _ => Pc_jif (Pc_vl hr))))))))))
      · unfold f_X11_known_L29_b
        rw [ei, hp]
        refine Pc_ift c (Pc_gd (fun _ => Pc_onS ?_))
        rw [ef]
        refine Pc_b1S (Pc_iff z (Pc_vl (Pc.mono (kn_l ha I J M B Q n m x2 x3 x4 x5 x6 (x7 + 1) m2 m3 m4 m5 m6 m7 (by omega) h3 K) (fun r hr => ?_))))
        unfold f_X12_known_L33_b
        rw [← b5]
        exact Pc_ift c (Pc_b1 (Pc.mono wr (fun r4 h4 => Pc_jn (Pc_iff (fun w => z (h4.symm.trans w)) (Pc_vl hr)))))
    · unfold f_X11_known_L29_b
      refine Pc_iff c (Pc.mono (knE ha K) (fun r hr => ?_))
      unfold f_X12_known_L33_b
      rw [← b5]
      exact Pc_iff c hr
theorem V_known (I : Iv s) (J : Iv t) (M : QSm t) (B : B1 s t) (Q : Q4 s t) (a0 : Int32) : Pc (f_X11_known s a0) fun x => Pc (f_X12_known t a0) fun m => x = m := by
  have j5 : (5 : Int32).toInt = 5 := rfl
  unfold f_X11_known f_X12_known
  by_cases c : 0 ≤ a0.toInt ∧ a0.toInt ≤ 5
  · rw [in_t (by rw [jl0, j5]; exact c)]
    refine Pc_iff (by rw [jlt, jl0]; omega) (Pc_iff (by rw [jlt, j5]; omega) ?_)
    exact Pc.mono (kn_l c I J M B Q 4000 4000 (-2) 1 32 (-1) 0 0 32 (-1) 32 (-1) 61 0 (by decide) (Or.inr rfl) ⟨rfl, rfl, Or.inl ⟨rfl, rfl, rfl, rfl, rfl, rfl, rfl, rfl⟩⟩) (fun r hr => Pc_b1S (Pc_if10 hr))
  · rw [in_f (by rw [jl0, j5]; exact c)]
    refine Pc_lt (fun _ => Pc_some (Pc_b1S (Pc_if00 (Pc_some rfl)))) (fun z => Pc_lt (fun _ => Pc_some (Pc_b1S (Pc_if00 (Pc_some rfl)))) (fun w => ?_))
    rw [jl0] at z
    rw [j5] at w
    exact absurd ⟨z, w⟩ c
theorem vC_c {k w g w' g' a x : Int32} (hw : isH k → w = w') (hg : k = 7 → g = g') : vC k w g a x = vC k w' g' a x := by
  unfold vC
  by_cases c : k = 2 ∨ k = 3 ∨ k = 4 ∨ k = 5
  · rw [if_pos c, if_pos c, hw c]
  · rw [if_neg c, if_neg c]
    by_cases d : k = 7
    · rw [if_pos d, if_pos d, hg d]
    · rw [if_neg d, if_neg d]
theorem vA_c {k w g w' g' a b x : Int32} (hw : isH k → w = w') (hg : k = 7 → g = g') : vA k w g a b x = vA k w' g' a b x := by
  unfold vA vT vH
  rw [vC_c (x := x) hw hg, vC_c (x := 1) hw hg]
theorem st4_act (G : GI s) (Q : Q4 s s) (a0 : Int32) (a1 : Int32) (a2 : Int32) : ∃ (rx : Int32) (s1 : SS) (rm : Int32) (s2 : SS), f_X11_act s a0 a1 a2 = some (rx, s1) ∧ f_X12_act s1 a0 a1 a2 = some (rm, s2) ∧ GI s2 ∧ rx = rm := by
  obtain ⟨rx, s1, rm, s2, ex, em, G2, -⟩ := st_act G a0 a1 a2
  refine ⟨rx, s1, rm, s2, ex, em, G2, ?_⟩
  have e := G.1.2.1.2.2.1
  have k7 := G.1.2.2.1.2.1
  have hf : 0 ≤ (zS s 15 3).toInt ∧ (zS s 15 3).toInt ≤ 120 := G.1.1.f (q := 15) (k := 3) rfl
  have IX : Iv (pS s 15 11 0) := G.1.1.wF (q := 15) (k := 11) (by decide) (by decide) trivial
  by_cases c : 0 ≤ a0.toInt ∧ a0.toInt < (zS s 15 3).toInt
  · have gb : inB a0 120 := ⟨by omega, by omega⟩
    have hn : a0.toInt.toNat < 120 := by omega
    obtain ⟨w, g, O⟩ := OX_of (s := pS s 15 11 0) (a := a0) IX (by rw [E0X.1 15 3 (by omega)]; exact c)
    rw [E0X.2.1 16 _ (by omega)] at O
    have hk : 0 ≤ (zI s 16 a0.toInt.toNat).toInt ∧ (zI s 16 a0.toInt.toNat).toInt ≤ 7 := G.1.1.a (q := 16) rfl
    obtain ⟨l, el⟩ : ∃ l, l = lA (zI s 16 a0.toInt.toNat) a1 := ⟨_, rfl⟩
    have EX1 : EX s (tX (pS s 15 11 0) l) := E0X.tr (EX.l l)
    have I1 : Iv (tX (pS s 15 11 0) l) := IvX l IX
    have I2 : Iv (pS (tX (pS s 15 11 0) l) 59 87 0) := I1.wF (q := 59) (k := 87) (by decide) (by decide) trivial
    have O2 := OM_of (s := pS (tX (pS s 15 11 0) l) 59 87 0) gb
    rw [E0M.2.1 62 _ (by omega), EX1.2.1 62 _ (by omega), ← k7, E0M.2.1 64 _ (by omega), EX1.2.1 64 _ (by omega), E0M.2.1 74 _ (by omega), EX1.2.1 74 _ (by omega)] at O2
    have hb : f_X12_isBody (pS (tX (pS s 15 11 0) l) 59 87 0) a0 = some 1 := body_t I2 (by rw [E0M.1 59 4 (by omega), EX1.1 59 4 (by omega), ← e]; exact c)
    have ex' := actX (b := a1) (x := a2) hk O
    rw [← el] at ex'
    have eq1 := Option.some.inj (ex.symm.trans ex')
    have es1 : s1 = tX (pS s 15 11 0) l := congrArg Prod.snd eq1
    rw [es1] at em
    have eq2 := Option.some.inj (em.symm.trans (actM (b := a1) (x := a2) hb O2))
    have r1 : rx = vA (zI s 16 a0.toInt.toNat) w g a0 a1 a2 := congrArg Prod.fst eq1
    have r2 : rm = vA (zI s 16 a0.toInt.toNat) (zI s 64 a0.toInt.toNat) (zI s 74 a0.toInt.toNat) a0 a1 a2 := congrArg Prod.fst eq2
    rw [r1, r2]
    obtain ⟨okd, ow, og⟩ := O (pS s 15 11 0) ⟨fun _ _ _ => rfl, fun _ _ _ => rfl, rfl⟩
    refine vA_c (fun hh => ?_) (fun h7 => ?_)
    · cases hp : zR s 17 a0.toInt.toNat with
      | none => exact absurd ⟨by omega, hh⟩ ((G.1.2.2.2.2.1 _ hn).mp hp)
      | some p =>
        have hx := (Q.1.1 _ _ hn hp).2.1
        have ez : zR (pS s 15 11 0) 17 a0.toInt.toNat = some p := hp
        unfold f_X0_widthOf f_X0_holeOf at ow
        rw [if_neg (by rw [jlt, jl0]; omega), if_pos (by rw [E0X.1 15 3 (by omega), jlt]; omega), gd_t gb, ez] at ow
        have ow' : some (zS (pS s 15 11 0) p 1) = some w := ow
        rw [← Option.some.inj ow', E0X.1 p 1 (by omega)]
        exact hx
    · unfold f_X0_strengthOf at og
      rw [okd, b1_some, if_pos h7, gd_t gb] at og
      rw [← Option.some.inj og]
      exact (Q.2.1.1 _ hn).1
  · have e1 : f_X11_act s a0 a1 a2 = some (0, pS s 15 11 0) := by
      unfold f_X11_act f_X0_acted
      rw [st, kind_f (by rw [E0X.1 15 3 (by omega)]; exact c), b1_some, if_pos (by decide), bd_some]
    have eq1 := Option.some.inj (ex.symm.trans e1)
    have es1 : s1 = pS s 15 11 0 := congrArg Prod.snd eq1
    have I2 : Iv (pS (pS s 15 11 0) 59 87 0) := IX.wF (q := 59) (k := 87) (by decide) (by decide) trivial
    rw [es1] at em
    have e2 : f_X12_act (pS s 15 11 0) a0 a1 a2 = some (0, pS (pS s 15 11 0) 59 87 0) := by
      unfold f_X12_act
      rw [st, body_f I2 (by rw [E0M.1 59 4 (by omega), E0X.1 59 4 (by omega), ← e]; exact c), b1_some, if_pos rfl]
    have eq2 := Option.some.inj (em.symm.trans e2)
    have r1 : rx = 0 := congrArg Prod.fst eq1
    have r2 : rm = 0 := congrArg Prod.fst eq2
    rw [r1, r2]
end KNs
