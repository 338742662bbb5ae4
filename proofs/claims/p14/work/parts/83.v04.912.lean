/-! WHAT A TEXT IS WORTH -/
def Wv (nm : Nat → Int32) (l : List Int32) (v : Int32) : Prop := ∀ (st : List Int32) (B : Nat), st.length + 46 ≤ B → wrun nm B l st = some (v :: st)
def okL (ls : List (Option (List Int32) × List Int32)) : Prop := ∀ pr, pr ∈ ls → (∀ l, pr.1 = some l → Wo 46 l ∧ 1 ≤ l.length) ∧ Wo 46 pr.2 ∧ 1 ≤ pr.2.length
def tVal (nm : Nat → Int32) : List (Option (List Int32) × List Int32) → Int32 → Prop
  | [], v => v = 0
  | (none, e) :: _, v => Wv nm e v
  | (some c, e) :: r, v => ∃ vc, Wv nm c vc ∧ ((vc ≠ 0 ∧ Wv nm e v) ∨ (vc = 0 ∧ tVal nm r v))
theorem tVal_ex {nm : Nat → Int32} : ∀ (ls : List (Option (List Int32) × List Int32)), okL ls → ∃ v, tVal nm ls v
  | [], _ => ⟨0, rfl⟩
  | (none, e) :: r, h => (h _ (List.mem_cons_self ..)).2.1.2 nm
  | (some c, e) :: r, h => by
    obtain ⟨vc, hc⟩ := ((h _ (List.mem_cons_self ..)).1 c rfl).1.2 nm
    by_cases z : vc = 0
    · obtain ⟨v, hv⟩ := tVal_ex r (fun pr hp => h pr (List.mem_cons_of_mem _ hp))
      exact ⟨v, vc, hc, Or.inr ⟨z, hv⟩⟩
    · obtain ⟨v, hv⟩ := (h _ (List.mem_cons_self ..)).2.1.2 nm
      exact ⟨v, vc, hc, Or.inl ⟨z, hv⟩⟩
section WXs
variable {q0 : SS → Int32 → Option (Int32 × SS)} {p0 : Nat} {s : SS} {x3 x4 x5 : Int32} {n : Nat}
theorem w24a (hc : zI s (p0 + 1) x5.toInt.toNat = -24) (h5 : 0 ≤ x5.toInt ∧ x5.toInt < zN s (p0 + 1)) (hN : zN s (p0 + 1) ≤ 161) (h3 : x3.toInt = 0) : f_X10_worth_L8 q0 p0 (n + 1) s x3 1 x5 = q0 s x3 := by
  have eN : (Int32.ofNat (zN s (p0 + 1))).toInt = zN s (p0 + 1) := nI_t (by omega)
  rw [f_X10_worth_L8, f_X10_worth_L8_b, if_pos (by rw [jlt, eN]; omega), gd_t ⟨h5.1, h5.2⟩, vl, hc, jn, if_neg (by decide), if_neg (by rw [jlt, jl0]; omega), if_pos rfl, if_neg n10]
theorem w24b (hc : zI s (p0 + 1) x5.toInt.toNat = -24) (h5 : 0 ≤ x5.toInt ∧ x5.toInt < zN s (p0 + 1)) (hN : zN s (p0 + 1) ≤ 161) (h3 : x3.toInt = 0) : f_X10_worth_L8 q0 p0 (n + 1) s x3 0 x5 = f_X10_worth_L8 q0 p0 n s (x3 + -1) 1 (x5 + 1) := by
  have eN : (Int32.ofNat (zN s (p0 + 1))).toInt = zN s (p0 + 1) := nI_t (by omega)
  rw [f_X10_worth_L8, f_X10_worth_L8_b, if_pos (by rw [jlt, eN]; omega), gd_t ⟨h5.1, h5.2⟩, vl, hc, jn, if_neg (by decide), if_neg (by rw [jlt, jl0]; omega), if_pos rfl, if_pos rfl]
  rfl
theorem w23 (hc : zI s (p0 + 1) x5.toInt.toNat = -23) (h5 : 0 ≤ x5.toInt ∧ x5.toInt < zN s (p0 + 1)) (hN : zN s (p0 + 1) ≤ 161) (h3 : x3.toInt = 0) : f_X10_worth_L8 q0 p0 (n + 1) s x3 x4 x5 = f_X10_worth_L8 q0 p0 n s (x3 + -1) (if zI s 29 0 = 0 then 0 else 1) (x5 + 1) := by
  have eN : (Int32.ofNat (zN s (p0 + 1))).toInt = zN s (p0 + 1) := nI_t (by omega)
  have e3 : x3.toInt.toNat = 0 := by omega
  rw [f_X10_worth_L8, f_X10_worth_L8_b, if_pos (by rw [jlt, eN]; omega), gd_t ⟨h5.1, h5.2⟩, vl, hc, jn, if_neg (by decide), if_neg (by rw [jlt, jl0]; omega), if_neg (by decide), if_pos rfl, gd_t ⟨by omega, by omega⟩, jn, e3]
  by_cases z : zI s 29 0 = 0
  · rw [if_pos z, if_pos z]
    rfl
  · rw [if_neg z, if_neg z]
    rfl
end WXs
theorem getA {l m : List Int32} {j : Nat} {c : Int32} (h : l[j]? = some c) : (l ++ m)[j]? = some c := by
  have := (List.getElem?_eq_some_iff.mp h).1
  rw [List.getElem?_append_left this]; exact h
theorem getB {l m : List Int32} {j : Nat} {c : Int32} (h : m[j]? = some c) : (l ++ m)[l.length + j]? = some c := by
  rw [List.getElem?_append_right (by omega), Nat.add_sub_cancel_left]; exact h
def qW (s42 : SS) (x42_3 : Int32) : Option (Int32 × SS) := (gd (inB x42_3 64) (some ((zI s42 29 (x42_3.toInt.toNat)), s42)))
theorem worthX_l {p0 : Nat} (hp : 126 ≤ p0) {nm : Nat → Int32} : ∀ (ls : List (Option (List Int32) × List Int32)) (s : SS) (x3 x5 : Int32) (n : Nat) (v : Int32), tVal nm ls v → okL ls → (∀ (j : Nat) c, (clL ls)[j]? = some c → zI s (p0 + 1) (x5.toInt.toNat + j) = c) → 0 ≤ x5.toInt → x5.toInt + (clL ls).length = zN s (p0 + 1) → zN s (p0 + 1) ≤ 161 → x3.toInt = -1 → (∀ j, nm j = if j < 8 then zI s 28 j else 0) → ∃ s', f_X10_worth_L8 qW p0 (n + (clL ls).length + 1) s x3 1 x5 = some (v, s') ∧ K29 29 s s'
  | [], s, x3, x5, n, v, tv, _, _, h5, hN, h161, h3, hn => by
    have eN : (Int32.ofNat (zN s (p0 + 1))).toInt = zN s (p0 + 1) := nI_t (by omega)
    have hl : (clL []).length = 0 := rfl
    rw [hl] at hN ⊢
    have tv' : v = 0 := tv
    rw [tv']
    refine ⟨s, ?_, K29.rf⟩
    rw [Nat.add_zero, f_X10_worth_L8, f_X10_worth_L8_b, if_neg (by rw [jlt, eN]; omega)]
  | (T, e) :: r, s, x3, x5, n, v, tv, ok, hj, h5, hN, h161, h3, hn => by
    have o := ok _ (List.mem_cons_self ..)
    have ok' : okL r := fun pr hp => ok pr (List.mem_cons_of_mem _ hp)
    have cl : clL ((T, e) :: r) = pre T ++ (e ++ ([-24] ++ clL r)) := by
      unfold clL
      rw [List.flatMap_cons]
      simp only [List.append_assoc]
    rw [cl] at hj hN ⊢
    -- the value, and behind it
    have val : ∀ (s1 : SS) (y3 y4 y5 : Int32) (m : Nat), K29 29 s s1 → y5.toInt = x5.toInt + (pre T).length → y3.toInt = -1 → ∀ w, Wv nm e w → ∃ s2 z3 z5, f_X10_worth_L8 qW p0 (m + 1 + e.length) s1 y3 y4 y5 = f_X10_worth_L8 qW p0 (m + 1) s2 z3 y4 z5 ∧ z5.toInt = y5.toInt + e.length ∧ z3.toInt = 0 ∧ zI s2 29 0 = w ∧ K29 29 s s2 := by
      intro s1 y3 y4 y5 m K1 e5 e3 w hw
      have zN1 : zN s1 (p0 + 1) = zN s (p0 + 1) := by
        show s1.2.2.2.2.2.1 (p0 + 1) = s.2.2.2.2.2.1 (p0 + 1)
        rw [K1.2.2]
      simp only [List.length_append, List.length_singleton] at hN
      obtain ⟨s2, z3, z5, q1, q2, q3, q4, q5, q6⟩ := wrX (q0 := qW) (nm := nm) hp e [] [w] s1 y3 y4 y5 (m + 1) (fun c hc => o.2.1.1 c hc) (fun j c h => by
        rw [K1.1 _ _ (by omega), show y5.toInt.toNat + j = x5.toInt.toNat + ((pre T).length + j) by omega]
        exact hj _ c (getB (getA h))) (by omega) (by rw [zN1]; omega) (by rw [zN1]; exact h161) (by rw [e3]; rfl) (by decide) trivial (fun j => by rw [hn j, K1.1 28 j (by omega)]) (hw [] 64 (by decide))
      exact ⟨s2, z3, z5, q1, q2, by rw [q3]; rfl, q5.1, K1.tr q6⟩
    have l24 : ∀ (s1 : SS) (y5 : Int32), K29 29 s s1 → y5.toInt = x5.toInt + (pre T).length + e.length → zI s1 (p0 + 1) y5.toInt.toNat = -24 := by
      intro s1 y5 K1 e5
      rw [K1.1 _ _ (by omega), show y5.toInt.toNat = x5.toInt.toNat + ((pre T).length + (e.length + 0)) by omega]
      exact hj _ _ (getB (getB rfl))
    have zNK : ∀ s1, K29 29 s s1 → zN s1 (p0 + 1) = zN s (p0 + 1) := fun s1 K1 => by
      show s1.2.2.2.2.2.1 (p0 + 1) = s.2.2.2.2.2.1 (p0 + 1)
      rw [K1.2.2]
    have hlen : (pre T ++ (e ++ ([-24] ++ clL r))).length = (pre T).length + (e.length + (1 + (clL r).length)) := by simp only [List.length_append, List.length_singleton]
    rw [hlen] at hN ⊢
    have ret : ∀ (s2 : SS) (z3 : Int32), z3.toInt = 0 → qW s2 z3 = some (zI s2 29 0, s2) := fun s2 z3 e0 => by
      unfold qW
      rw [gd_t ⟨by omega, by omega⟩, show z3.toInt.toNat = 0 by omega]
    match T, tv, o, hj, hN, val, l24, hlen with
    | none, tv, o, hj, hN, val, l24, hlen =>
      have lp : (pre none).length = 0 := rfl
      rw [lp] at hN val l24 ⊢
      obtain ⟨s2, z3, z5, q1, q2, q3, q4, q5⟩ := val s x3 1 x5 (n + 1 + (clL r).length) K29.rf (by omega) h3 v tv
      refine ⟨s2, ?_, q5⟩
      rw [show n + (0 + (e.length + (1 + (clL r).length))) + 1 = n + 1 + (clL r).length + 1 + e.length by omega, q1, w24a (l24 s2 z5 q5 (by omega)) ⟨by omega, by rw [zNK s2 q5]; omega⟩ (by rw [zNK s2 q5]; exact h161) q3, ret s2 z3 q3, q4]
    | some c, tv, o, hj, hN, val, l24, hlen =>
      have lp : (pre (some c)).length = c.length + 1 := by
        show (c ++ [-23]).length = _
        rw [List.length_append]; rfl
      rw [lp] at hN val l24 ⊢
      obtain ⟨vc, hvc, tv⟩ := tv
      obtain ⟨s1, y3, y5, a1, a2, a3, a4, a5, a6⟩ := wrX (q0 := qW) (nm := nm) hp c [] [vc] s x3 1 x5 (n + (1 + (e.length + (1 + (clL r).length))) + 1) (fun d hd => (o.1 c rfl).1.1 d hd) (fun j d h => hj j d (getA (getA h))) h5 (by omega) h161 (by rw [h3]; rfl) (by decide) trivial hn (hvc [] 64 (by decide))
      have c23 : zI s1 (p0 + 1) y5.toInt.toNat = -23 := by
        rw [a6.1 _ _ (by omega), show y5.toInt.toNat = x5.toInt.toNat + (c.length + 0) by omega]
        exact hj _ _ (getA (getB rfl))
      have b3 : y3.toInt = 0 := by rw [a3]; rfl
      have b4 : (y3 + -1).toInt = -1 := by rw [i32_add (by rw [jm1]; omega) (by rw [jm1]; omega), jm1]; omega
      have b5 : (y5 + 1).toInt = y5.toInt + 1 := by rw [i32_add (by rw [jl1]; omega) (by rw [jl1]; omega), jl1]
      have st1 : f_X10_worth_L8 qW p0 (n + (c.length + 1 + (e.length + (1 + (clL r).length))) + 1) s x3 1 x5 = f_X10_worth_L8 qW p0 (n + (e.length + (1 + (clL r).length)) + 1) s1 (y3 + -1) (if vc = 0 then 0 else 1) (y5 + 1) := by
        rw [show n + (c.length + 1 + (e.length + (1 + (clL r).length))) + 1 = n + (1 + (e.length + (1 + (clL r).length))) + 1 + c.length by omega, a1, show n + (1 + (e.length + (1 + (clL r).length))) + 1 = n + (e.length + (1 + (clL r).length)) + 1 + 1 by omega, w23 c23 ⟨by omega, by rw [zNK s1 a6]; omega⟩ (by rw [zNK s1 a6]; exact h161) b3, show zI s1 29 0 = vc from a5.1]
      rw [st1]
      rcases tv with ⟨ne, hv⟩ | ⟨z, hv⟩
      · rw [if_neg ne]
        obtain ⟨s2, z3, z5, q1, q2, q3, q4, q5⟩ := val s1 (y3 + -1) 1 (y5 + 1) (n + 1 + (clL r).length) a6 (by omega) b4 v hv
        refine ⟨s2, ?_, q5⟩
        rw [show n + (e.length + (1 + (clL r).length)) + 1 = n + 1 + (clL r).length + 1 + e.length by omega, q1, w24a (l24 s2 z5 q5 (by omega)) ⟨by omega, by rw [zNK s2 q5]; omega⟩ (by rw [zNK s2 q5]; exact h161) q3, ret s2 z3 q3, q4]
      · rw [if_pos z]
        obtain ⟨ve, hve⟩ := o.2.1.2 nm
        obtain ⟨s2, z3, z5, q1, q2, q3, q4, q5⟩ := val s1 (y3 + -1) 0 (y5 + 1) (n + (clL r).length + 1) a6 (by omega) b4 ve hve
        have d3 : (z3 + -1).toInt = -1 := by rw [i32_add (by rw [jm1]; omega) (by rw [jm1]; omega), jm1]; omega
        have d5 : (z5 + 1).toInt = z5.toInt + 1 := by rw [i32_add (by rw [jl1]; omega) (by rw [jl1]; omega), jl1]
        obtain ⟨s3, r1, r2⟩ := worthX_l hp r s2 (z3 + -1) (z5 + 1) n v hv ok' (fun j d h => by
          rw [q5.1 _ _ (by omega), show (z5 + 1).toInt.toNat + j = x5.toInt.toNat + ((pre (some c)).length + (e.length + (1 + j))) by rw [lp]; omega]
          exact hj _ d (getB (getB (getB (l := [-24]) h)))) (by omega) (by rw [zNK s2 q5]; omega) (by rw [zNK s2 q5]; exact h161) d3 (fun j => by rw [hn j, q5.1 28 j (by omega)])
        refine ⟨s3, ?_, q5.tr r2⟩
        rw [show n + (e.length + (1 + (clL r).length)) + 1 = n + (clL r).length + 1 + 1 + e.length by omega, q1, w24b (l24 s2 z5 q5 (by omega)) ⟨by omega, by rw [zNK s2 q5]; omega⟩ (by rw [zNK s2 q5]; exact h161) q3, r1]
