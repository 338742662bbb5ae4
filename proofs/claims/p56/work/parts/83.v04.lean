/-! WHAT A TEXT IS WORTH -/
def Wv (nm : Nat → Int32) (l : List Int32) (v : Int32) : Prop := ∀ (st : List Int32) (B : Nat), st.length + 46 ≤ B → wrun nm B l st = some (v :: st)
def okL (ls : List (Option (List Int32) × List Int32)) : Prop := ∀ pr, pr ∈ ls → (∀ l, pr.1 = some l → Wo 46 l ∧ 1 ≤ l.length) ∧ Wo 46 pr.2 ∧ 1 ≤ pr.2.length
def tVal (nm : Nat → Int32) : List (Option (List Int32) × List Int32) → Int32 → Prop
  | [], v => v = 0
  | (none, e) :: _, v => Wv nm e v
  | (some c, e) :: r, v => ∃ vc, Wv nm c vc ∧ ((vc ≠ 0 ∧ Wv nm e v) ∨ (vc = 0 ∧ tVal nm r v))
theorem tVal_ex {nm : Nat → Int32} : ∀ (ls : List (Option (List Int32) × List Int32)), okL ls → ∃ v, tVal nm ls v
  | [], _ => ⟨0, rfl⟩
  | (none, e) :: r, h => (h _ (List.mem_cons_self ..)).2.1.2 nm
  | (some c, e) :: r, h => by
    obtain ⟨vc, hc⟩ := ((h _ (List.mem_cons_self ..)).1 c rfl).1.2 nm
    by_cases z : vc = 0
    · obtain ⟨v, hv⟩ := tVal_ex r (fun pr hp => h pr (List.mem_cons_of_mem _ hp))
      exact ⟨v, vc, hc, Or.inr ⟨z, hv⟩⟩
    · obtain ⟨v, hv⟩ := (h _ (List.mem_cons_self ..)).2.1.2 nm
      exact ⟨v, vc, hc, Or.inl ⟨z, hv⟩⟩
section WXs
variable {q0 : SS → Int32 → Option (Int32 × SS)} {p0 : Nat} {s : SS} {x3 x4 x5 : Int32} {n : Nat}
theorem w24a (hc : zI s (p0 + 1) x5.toInt.toNat = -24) (h5 : 0 ≤ x5.toInt ∧ x5.toInt < zN s (p0 + 1)) (hN : zN s (p0 + 1) ≤ 161) (h3 : x3.toInt = 0) : f_X10_worth_L8 q0 p0 (n + 1) s x3 1 x5 = q0 s x3 := by
  have eN : (Int32.ofNat (zN s (p0 + 1))).toInt = zN s (p0 + 1) := nI_t (by omega)
  rw [f_X10_worth_L8, f_X10_worth_L8_b, if_pos (by rw [jlt, eN]; omega), gd_t ⟨h5.1, h5.2⟩, vl, hc, jn, if_neg (by decide), if_neg (by rw [jlt, jl0]; omega), if_pos rfl, if_neg n10]
theorem w24b (hc : zI s (p0 + 1) x5.toInt.toNat = -24) (h5 : 0 ≤ x5.toInt ∧ x5.toInt < zN s (p0 + 1)) (hN : zN s (p0 + 1) ≤ 161) (h3 : x3.toInt = 0) : f_X10_worth_L8 q0 p0 (n + 1) s x3 0 x5 = f_X10_worth_L8 q0 p0 n s (x3 + -1) 1 (x5 + 1) := by
  have eN : (Int32.ofNat (zN s (p0 + 1))).toInt = zN s (p0 + 1) := nI_t (by omega)
  rw [f_X10_worth_L8, f_X10_worth_L8_b, if_pos (by rw [jlt, eN]; omega), gd_t ⟨h5.1, h5.2⟩, vl, hc, jn, if_neg (by decide), if_neg (by rw [jlt, jl0]; omega), if_pos rfl, if_pos rfl]
  rfl
theorem w23 (hc : zI s (p0 + 1) x5.toInt.toNat = -23) (h5 : 0 ≤ x5.toInt ∧ x5.toInt < zN s (p0 + 1)) (hN : zN s (p0 + 1) ≤ 161) (h3 : x3.toInt = 0) : f_X10_worth_L8 q0 p0 (n + 1) s x3 x4 x5 = f_X10_worth_L8 q0 p0 n s (x3 + -1) (if zI s 29 0 = 0 then 0 else 1) (x5 + 1) := by
  have eN : (Int32.ofNat (zN s (p0 + 1))).toInt = zN s (p0 + 1) := nI_t (by omega)
  have e3 : x3.toInt.toNat = 0 := by omega
  rw [f_X10_worth_L8, f_X10_worth_L8_b, if_pos (by rw [jlt, eN]; omega), gd_t ⟨h5.1, h5.2⟩, vl, hc, jn, if_neg (by decide), if_neg (by rw [jlt, jl0]; omega), if_neg (by decide), if_pos rfl, gd_t ⟨by omega, by omega⟩, jn, e3]
  by_cases z : zI s 29 0 = 0
  · rw [if_pos z, if_pos z]
    rfl
  · rw [if_neg z, if_neg z]
    rfl
end WXs
theorem getA {l m : List Int32} {j : Nat} {c : Int32} (h : l[j]? = some c) : (l ++ m)[j]? = some c := by
  have := (List.getElem?_eq_some_iff.mp h).1
  rw [List.getElem?_append_left this]; exact h
theorem getB {l m : List Int32} {j : Nat} {c : Int32} (h : m[j]? = some c) : (l ++ m)[l.length + j]? = some c := by
  rw [List.getElem?_append_right (by omega), Nat.add_sub_cancel_left]; exact h
def qW (s42 : SS) (x42_3 : Int32) : Option (Int32 × SS) := (gd (inB x42_3 64) (some ((zI s42 29 (x42_3.toInt.toNat)), s42)))
theorem worthX_l {p0 : Nat} (hp : 126 ≤ p0) {nm : Nat → Int32} : ∀ (ls : List (Option (List Int32) × List Int32)) (s : SS) (x3 x5 : Int32) (n : Nat) (v : Int32), tVal nm ls v → okL ls → (∀ (j : Nat) c, (clL ls)[j]? = some c → zI s (p0 + 1) (x5.toInt.toNat + j) = c) → 0 ≤ x5.toInt → x5.toInt + (clL ls).length = zN s (p0 + 1) → zN s (p0 + 1) ≤ 161 → x3.toInt = -1 → (∀ j, nm j = if j < 8 then zI s 28 j else 0) → ∃ s', f_X10_worth_L8 qW p0 (n + (clL ls).length + 1) s x3 1 x5 = some (v, s') ∧ K29 29 s s'
  | [], s, x3, x5, n, v, tv, _, _, h5, hN, h161, h3, hn => by
    have eN : (Int32.ofNat (zN s (p0 + 1))).toInt = zN s (p0 + 1) := nI_t (by omega)
    have hl : (clL []).length = 0 := rfl
    rw [hl] at hN ⊢
    have tv' : v = 0 := tv
    rw [tv']
    refine ⟨s, ?_, K29.rf⟩
    rw [Nat.add_zero, f_X10_worth_L8, f_X10_worth_L8_b, if_neg (by rw [jlt, eN]; omega)]
  | (T, e) :: r, s, x3, x5, n, v, tv, ok, hj, h5, hN, h161, h3, hn => by
    have o := ok _ (List.mem_cons_self ..)
    have ok' : okL r := fun pr hp => ok pr (List.mem_cons_of_mem _ hp)
    have cl : clL ((T, e) :: r) = pre T ++ (e ++ ([-24] ++ clL r)) := by
      unfold clL
      rw [List.flatMap_cons]
      simp only [List.append_assoc]
    rw [cl] at hj hN ⊢
    -- the value, and behind it
    have val : ∀ (s1 : SS) (y3 y4 y5 : Int32) (m : Nat), K29 29 s s1 → y5.toInt = x5.toInt + (pre T).length → y3.toInt = -1 → ∀ w, Wv nm e w → ∃ s2 z3 z5, f_X10_worth_L8 qW p0 (m + 1 + e.length) s1 y3 y4 y5 = f_X10_worth_L8 qW p0 (m + 1) s2 z3 y4 z5 ∧ z5.toInt = y5.toInt + e.length ∧ z3.toInt = 0 ∧ zI s2 29 0 = w ∧ K29 29 s s2 := by
      intro s1 y3 y4 y5 m K1 e5 e3 w hw
      have zN1 : zN s1 (p0 + 1) = zN s (p0 + 1) := by
        show s1.2.2.2.2.2.1 (p0 + 1) = s.2.2.2.2.2.1 (p0 + 1)
        rw [K1.2.2]
      simp only [List.length_append, List.length_singleton] at hN
      obtain ⟨s2, z3, z5, q1, q2, q3, q4, q5, q6⟩ := wrX (q0 := qW) (nm := nm) hp e [] [w] s1 y3 y4 y5 (m + 1) (fun c hc => o.2.1.1 c hc) (fun j c h => by
        rw [K1.1 _ _ (by omega), show y5.toInt.toNat + j = x5.toInt.toNat + ((pre T).length + j) by omega]
        exact hj _ c (getB (getA h))) (by omega) (by rw [zN1]; omega) (by rw [zN1]; exact h161) (by rw [e3]; rfl) (by decide) trivial (fun j => by rw [hn j, K1.1 28 j (by omega)]) (hw [] 64 (by decide))
      exact ⟨s2, z3, z5, q1, q2, by rw [q3]; rfl, q5.1, K1.tr q6⟩
    have l24 : ∀ (s1 : SS) (y5 : Int32), K29 29 s s1 → y5.toInt = x5.toInt + (pre T).length + e.length → zI s1 (p0 + 1) y5.toInt.toNat = -24 := by
      intro s1 y5 K1 e5
      rw [K1.1 _ _ (by omega), show y5.toInt.toNat = x5.toInt.toNat + ((pre T).length + (e.length + 0)) by omega]
      exact hj _ _ (getB (getB rfl))
    have zNK : ∀ s1, K29 29 s s1 → zN s1 (p0 + 1) = zN s (p0 + 1) := fun s1 K1 => by
      show s1.2.2.2.2.2.1 (p0 + 1) = s.2.2.2.2.2.1 (p0 + 1)
      rw [K1.2.2]
    have hlen : (pre T ++ (e ++ ([-24] ++ clL r))).length = (pre T).length + (e.length + (1 + (clL r).length)) := by simp only [List.length_append, List.length_singleton]
    rw [hlen] at hN ⊢
    have ret : ∀ (s2 : SS) (z3 : Int32), z3.toInt = 0 → qW s2 z3 = some (zI s2 29 0, s2) := fun s2 z3 e0 => by
      unfold qW
      rw [gd_t ⟨by omega, by omega⟩, show z3.toInt.toNat = 0 by omega]
    match T, tv, o, hj, hN, val, l24, hlen with
    | none, tv, o, hj, hN, val, l24, hlen =>
      have lp : (pre none).length = 0 := rfl
      rw [lp] at hN val l24 ⊢
      obtain ⟨s2, z3, z5, q1, q2, q3, q4, q5⟩ := val s x3 1 x5 (n + 1 + (clL r).length) K29.rf (by omega) h3 v tv
      refine ⟨s2, ?_, q5⟩
      rw [show n + (0 + (e.length + (1 + (clL r).length))) + 1 = n + 1 + (clL r).length + 1 + e.length by omega, q1, w24a (l24 s2 z5 q5 (by omega)) ⟨by omega, by rw [zNK s2 q5]; omega⟩ (by rw [zNK s2 q5]; exact h161) q3, ret s2 z3 q3, q4]
    | some c, tv, o, hj, hN, val, l24, hlen =>
      have lp : (pre (some c)).length = c.length + 1 := by
        show (c ++ [-23]).length = _
        rw [List.length_append]; rfl
      rw [lp] at hN val l24 ⊢
      obtain ⟨vc, hvc, tv⟩ := tv
      obtain ⟨s1, y3, y5, a1, a2, a3, a4, a5, a6⟩ := wrX (q0 := qW) (nm := nm) hp c [] [vc] s x3 1 x5 (n + (1 + (e.length + (1 + (clL r).length))) + 1) (fun d hd => (o.1 c rfl).1.1 d hd) (fun j d h => hj j d (getA (getA h))) h5 (by omega) h161 (by rw [h3]; rfl) (by decide) trivial hn (hvc [] 64 (by decide))
      have c23 : zI s1 (p0 + 1) y5.toInt.toNat = -23 := by
        rw [a6.1 _ _ (by omega), show y5.toInt.toNat = x5.toInt.toNat + (c.length + 0) by omega]
        exact hj _ _ (getA (getB rfl))
      have b3 : y3.toInt = 0 := by rw [a3]; rfl
      have b4 : (y3 + -1).toInt = -1 := by rw [i32_add (by rw [jm1]; omega) (by rw [jm1]; omega), jm1]; omega
      have b5 : (y5 + 1).toInt = y5.toInt + 1 := by rw [i32_add (by rw [jl1]; omega) (by rw [jl1]; omega), jl1]
      have st1 : f_X10_worth_L8 qW p0 (n + (c.length + 1 + (e.length + (1 + (clL r).length))) + 1) s x3 1 x5 = f_X10_worth_L8 qW p0 (n + (e.length + (1 + (clL r).length)) + 1) s1 (y3 + -1) (if vc = 0 then 0 else 1) (y5 + 1) := by
        rw [show n + (c.length + 1 + (e.length + (1 + (clL r).length))) + 1 = n + (1 + (e.length + (1 + (clL r).length))) + 1 + c.length by omega, a1, show n + (1 + (e.length + (1 + (clL r).length))) + 1 = n + (e.length + (1 + (clL r).length)) + 1 + 1 by omega, w23 c23 ⟨by omega, by rw [zNK s1 a6]; omega⟩ (by rw [zNK s1 a6]; exact h161) b3, show zI s1 29 0 = vc from a5.1]
      rw [st1]
      rcases tv with ⟨ne, hv⟩ | ⟨z, hv⟩
      · rw [if_neg ne]
        obtain ⟨s2, z3, z5, q1, q2, q3, q4, q5⟩ := val s1 (y3 + -1) 1 (y5 + 1) (n + 1 + (clL r).length) a6 (by omega) b4 v hv
        refine ⟨s2, ?_, q5⟩
        rw [show n + (e.length + (1 + (clL r).length)) + 1 = n + 1 + (clL r).length + 1 + e.length by omega, q1, w24a (l24 s2 z5 q5 (by omega)) ⟨by omega, by rw [zNK s2 q5]; omega⟩ (by rw [zNK s2 q5]; exact h161) q3, ret s2 z3 q3, q4]
      · rw [if_pos z]
        obtain ⟨ve, hve⟩ := o.2.1.2 nm
        obtain ⟨s2, z3, z5, q1, q2, q3, q4, q5⟩ := val s1 (y3 + -1) 0 (y5 + 1) (n + (clL r).length + 1) a6 (by omega) b4 ve hve
        have d3 : (z3 + -1).toInt = -1 := by rw [i32_add (by rw [jm1]; omega) (by rw [jm1]; omega), jm1]; omega
        have d5 : (z5 + 1).toInt = z5.toInt + 1 := by rw [i32_add (by rw [jl1]; omega) (by rw [jl1]; omega), jl1]
        obtain ⟨s3, r1, r2⟩ := worthX_l hp r s2 (z3 + -1) (z5 + 1) n v hv ok' (fun j d h => by
          rw [q5.1 _ _ (by omega), show (z5 + 1).toInt.toNat + j = x5.toInt.toNat + ((pre (some c)).length + (e.length + (1 + j))) by rw [lp]; omega]
          exact hj _ d (getB (getB (getB (l := [-24]) h)))) (by omega) (by rw [zNK s2 q5]; omega) (by rw [zNK s2 q5]; exact h161) d3 (fun j => by rw [hn j, q5.1 28 j (by omega)])
        refine ⟨s3, ?_, q5.tr r2⟩
        rw [show n + (e.length + (1 + (clL r).length)) + 1 = n + (clL r).length + 1 + 1 + e.length by omega, q1, w24b (l24 s2 z5 q5 (by omega)) ⟨by omega, by rw [zNK s2 q5]; omega⟩ (by rw [zNK s2 q5]; exact h161) q3, r1]
/-! WHAT A TEXT IS WORTH, BY THE REFERENCE -/
theorem work_l {y1 a b : Int32} {i : Nat} {nm : Nat → Int32} {s : SS} {l : List Int32} {v : Int32} (hy : y1.toInt = i) (hi : i < 16) (ha : 0 ≤ a.toInt ∧ a.toInt + l.length = b.toInt ∧ b.toInt ≤ 160) (hl : ∀ c, c ∈ l → ecode c) (hj : ∀ (j : Nat) c, l[j]? = some c → zI s 93 (170 * i + a.toInt.toNat + j) = tkA c ∧ zI s 94 (170 * i + a.toInt.toNat + j) = tkW c) (hn : ∀ j, j < 8 → nm j = zI s 95 j) (hv : Wv nm l v) : ∃ s', f_X12_worked s y1 a b = some (v, s') ∧ K29 96 s s' := by
  have j170 : (170 : Int32).toInt = 170 := rfl
  have m : ((170 : Int32) * y1).toInt = 170 * i := by rw [i32_mul (by rw [j170]; omega) (by rw [j170]; omega), j170, hy]
  have ma : ((170 : Int32) * y1 + a).toInt = 170 * i + a.toInt := by rw [i32_add (by rw [m]; omega) (by rw [m]; omega), m]
  have mb : ((170 : Int32) * y1 + b).toInt = 170 * i + b.toInt := by rw [i32_add (by rw [m]; omega) (by rw [m]; omega), m]
  unfold f_X12_worked
  rw [vl]
  obtain ⟨s', x4', x5', q1, q2, q3, q4, q5, q6⟩ := wrM (q0 := fun (s43 : SS) => some ((zI s43 96 ((0 : Int32).toInt.toNat)), s43)) (y1 := y1) (y3 := b) (nm := nm) (by rw [mb]; omega) l [] [v] s 0 ((170 : Int32) * y1 + a) (4000 - l.length) hl (fun j c h => by
    rw [show ((170 : Int32) * y1 + a).toInt.toNat + j = 170 * i + a.toInt.toNat + j by omega]
    exact hj j c h) (by omega) (by rw [mb]; omega) rfl (by decide) trivial hn (hv [] 170 (by decide))
  refine ⟨s', ?_, q6⟩
  rw [show (4000 : Nat) = 4000 - l.length + l.length by omega, q1, show 4000 - l.length = 3999 - l.length + 1 by omega, f_X12_worked_L12, f_X12_worked_L12_b, if_neg (by rw [jlt, mb]; omega)]
  show some (zI s' 96 0, s') = _
  rw [show zI s' 96 0 = v from q5.1]
noncomputable def qG (y1 : Int32) (s13 : SS) (x13_4 : Int32) : Option (Int32 × SS) := (gd (inB x13_4 1530) (gd (inB x13_4 1530) (bd (f_X12_worked s13 y1 (zI s13 91 (x13_4.toInt.toNat)) (zI s13 92 (x13_4.toInt.toNat))) fun r16 s16 => some (r16, s16))))
theorem mlL_cut {ls : List (Option (List Int32) × List Int32)} {k : Nat} {pr : Option (List Int32) × List Int32} (h : ls[k]? = some pr) : mlL ls = mlL (ls.take k) ++ ((tst pr.1 ++ pr.2) ++ mlL (ls.drop (k + 1))) ∧ mlL (ls.take (k + 1)) = mlL (ls.take k) ++ (tst pr.1 ++ pr.2) ∧ ls.drop k = pr :: ls.drop (k + 1) := by
  obtain ⟨hk, e⟩ := List.getElem?_eq_some_iff.mp h
  have e1 : ls.drop k = pr :: ls.drop (k + 1) := by rw [List.drop_eq_getElem_cons hk, e]
  have e2 : ls.take (k + 1) = ls.take k ++ [pr] := by rw [List.take_succ_eq_append_getElem hk, e]
  refine ⟨?_, by rw [e2, mlL_add], e1⟩
  conv => lhs; rw [← List.take_append_drop k ls, e1]
  unfold mlL
  rw [List.flatMap_append, List.flatMap_cons]
theorem gives_l {y1 : Int32} {i : Nat} {nm : Nat → Int32} {t : SS} {ls : List (Option (List Int32) × List Int32)} (hy : y1.toInt = i) (hi : i < 16) (ok : okL ls) (hm : (mlL ls).length ≤ 160) (hL : ls.length ≤ 90) (hc : ∀ (j : Nat) c, (mlL ls)[j]? = some c → zI t 93 (170 * i + j) = tkA c ∧ zI t 94 (170 * i + j) = tkW c) (h90 : (zI t 90 i).toInt = ls.length) (tab : ∀ (k : Nat) pr, ls[k]? = some pr → (zI t 91 (90 * i + k)).toInt = (mlL (ls.take k)).length + (tst pr.1).length ∧ (zI t 92 (90 * i + k)).toInt = (mlL (ls.take (k + 1))).length) (hn : ∀ j, j < 8 → nm j = zI t 95 j) : ∀ (n k : Nat) (s : SS) (x2 x3 v : Int32), K29 96 t s → x3.toInt = k → x2.toInt = (mlL (ls.take k)).length → tVal nm (ls.drop k) v → k ≤ ls.length → ls.length - k < n → ∃ s', f_X12_gives_L4 (qG y1) y1 n s x2 x3 = some (v, s') ∧ K29 96 t s'
  | 0, k, s, x2, x3, v, _, _, _, _, _, h => by omega
  | n + 1, k, s, x2, x3, v, K, h3, h2, tv, hk, hlt => by
    have e90 : zI s 90 y1.toInt.toNat = zI t 90 i := by rw [K.1 _ _ (by omega), show y1.toInt.toNat = i by omega]
    have g1 : inB y1 17 := ⟨by omega, by omega⟩
    show ∃ s', f_X12_gives_L4_b (qG y1) y1 (f_X12_gives_L4 (qG y1) y1 n) s x2 x3 = some (v, s') ∧ K29 96 t s'
    unfold f_X12_gives_L4_b
    rw [gd_t g1]
    by_cases c : k < ls.length
    · have hpr : ls[k]? = some (ls[k]) := List.getElem?_eq_getElem c
      generalize hp' : ls[k] = pr at hpr
      obtain ⟨m1, m2, m3⟩ := mlL_cut hpr
      obtain ⟨t1, t2⟩ := tab k pr hpr
      have okp := ok pr (List.mem_of_getElem? hpr)
      rw [m3] at tv
      have len : (mlL ls).length = (mlL (ls.take k)).length + ((tst pr.1).length + pr.2.length + (mlL (ls.drop (k + 1))).length) := by rw [m1]; simp only [List.length_append]
      have len2 : (mlL (ls.take (k + 1))).length = (mlL (ls.take k)).length + ((tst pr.1).length + pr.2.length) := by rw [m2]; simp only [List.length_append]
      have j90 : (90 : Int32).toInt = 90 := rfl
      have mm : ((90 : Int32) * y1).toInt = 90 * i := by rw [i32_mul (by rw [j90]; omega) (by rw [j90]; omega), j90, hy]
      have m3' : ((90 : Int32) * y1 + x3).toInt = 90 * i + k := by rw [i32_add (by rw [mm]; omega) (by rw [mm]; omega), mm, h3]
      have mt : ((90 : Int32) * y1 + x3).toInt.toNat = 90 * i + k := by omega
      have gL : inB ((90 : Int32) * y1 + x3) 1530 := ⟨by omega, by omega⟩
      rw [if_pos (by rw [jlt, e90, h90, h3]; omega), vl, gd_t gL, mt, K.1 91 _ (by omega)]
      -- the value of this line
      have val : ∀ (s1 : SS) (w : Int32), K29 96 t s1 → Wv nm pr.2 w → ∃ s', qG y1 s1 ((90 : Int32) * y1 + x3) = some (w, s') ∧ K29 96 t s' := by
        intro s1 w K1 hw
        obtain ⟨s', e1, k1⟩ := work_l (y1 := y1) (a := zI t 91 (90 * i + k)) (b := zI t 92 (90 * i + k)) (s := s1) (l := pr.2) (v := w) (nm := nm) hy hi ⟨by omega, by omega, by omega⟩ (fun d hd => okp.2.1.1 d hd) (fun j d h => by
          have q := hc ((mlL (ls.take k)).length + ((tst pr.1).length + j)) d (by rw [m1]; exact getB (getA (getB h)))
          rw [K1.1 93 _ (by omega), K1.1 94 _ (by omega), show 170 * i + (zI t 91 (90 * i + k)).toInt.toNat + j = 170 * i + ((mlL (ls.take k)).length + ((tst pr.1).length + j)) by omega]
          exact q) (fun j h => by rw [hn j h, K1.1 95 _ (by omega)]) hw
        refine ⟨s', ?_, K1.tr k1⟩
        unfold qG
        rw [gd_t gL, gd_t gL, mt, K1.1 91 _ (by omega), K1.1 92 _ (by omega), e1]
        rfl
      obtain ⟨T, e⟩ := pr
      match T, tv, okp, m1, m2, t1, t2, len, len2, val with
      | none, tv, okp, m1, m2, t1, t2, len, len2, val =>
        have l0 : (tst none).length = 0 := rfl
        rw [if_pos (Int32.toInt_inj.1 (by rw [t1, h2]; show _ = _; rw [l0]; omega))]
        exact val s v K tv
      | some cc, tv, okp, m1, m2, t1, t2, len, len2, val =>
        have l0 : (tst (some cc)).length = cc.length := rfl
        have lc := (okp.1 cc rfl).2
        rw [l0] at len len2
        have t1' : (zI t 91 (90 * i + k)).toInt = (mlL (ls.take k)).length + cc.length := t1
        have len' : (mlL ls).length = (mlL (ls.take k)).length + (cc.length + e.length + (mlL (ls.drop (k + 1))).length) := len
        have len2' : (mlL (ls.take (k + 1))).length = (mlL (ls.take k)).length + (cc.length + e.length) := len2
        rw [if_neg (fun z => by have := congrArg Int32.toInt z; omega), gd_t gL]
        obtain ⟨vc, hvc, tv⟩ := tv
        obtain ⟨s1, e1, k1⟩ := work_l (y1 := y1) (a := x2) (b := zI t 91 (90 * i + k)) (s := s) (l := cc) (v := vc) (nm := nm) hy hi ⟨by omega, by omega, by omega⟩ (fun d hd => (okp.1 cc rfl).1.1 d hd) (fun j d h => by
          have q := hc ((mlL (ls.take k)).length + j) d (by rw [m1]; exact getB (getA (getA h)))
          rw [K.1 93 _ (by omega), K.1 94 _ (by omega), show 170 * i + x2.toInt.toNat + j = 170 * i + ((mlL (ls.take k)).length + j) by omega]
          exact q) (fun j h => by rw [hn j h, K.1 95 _ (by omega)]) hvc
        have K1 := K.tr k1
        rw [e1, bd_some]
        rcases tv with ⟨ne, hv⟩ | ⟨z, hv⟩
        · rw [if_neg ne]
          exact val s1 v K1 hv
        · rw [if_pos z, gd_t gL, vl, vl, K1.1 92 _ (by omega)]
          have n1 : (x3 + 1).toInt = x3.toInt + 1 := by rw [i32_add (by rw [jl1]; omega) (by rw [jl1]; omega), jl1]
          exact gives_l hy hi ok hm hL hc h90 tab hn n (k + 1) s1 _ _ v K1 (by omega) t2 hv (by omega) (by omega)
    · rw [if_neg (by rw [jlt, e90, h90, h3]; omega)]
      rw [List.drop_eq_nil_of_le (by omega)] at tv
      have tv' : v = 0 := tv
      rw [tv']
      exact ⟨s, rfl, K⟩
/-! COUNTS BY THE REFERENCE; WHICH TEXT IS IN FORCE -/
section CTs
variable {s t : SS}
/-- the relation without the capsule's list -/
def Q4w (h : Int) (s t : SS) : Prop := QHol s t ∧ QMen s t ∧ QCnt s t ∧ QFst s t ∧ QStoH h s t ∧ QRef s t ∧ QBrk s t ∧ True ∧ QSet s t ∧ QCha s t ∧ QTxt s t ∧ QRow t ∧ QKep h t
theorem Q4h.w {h : Int} (Q : Q4h h s t) : Q4w h s t := ⟨Q.1, Q.2.1, Q.2.2.1, Q.2.2.2.1, Q.2.2.2.2.1, Q.2.2.2.2.2.1, Q.2.2.2.2.2.2.1, trivial, Q.2.2.2.2.2.2.2.2⟩
theorem Q4w.l {h : Int} (Q : Q4w h s t) (L : QLif s t) : Q4h h s t := ⟨Q.1, Q.2.1, Q.2.2.1, Q.2.2.2.1, Q.2.2.2.2.1, Q.2.2.2.2.2.1, Q.2.2.2.2.2.2.1, L, Q.2.2.2.2.2.2.2.2⟩
theorem men_l {t : SS} (h01 : ∀ i, i < 120 → zI t 77 i = 0 ∨ zI t 77 i = 1) (hb : 0 ≤ (zS t 59 4).toInt ∧ (zS t 59 4).toInt ≤ 120) : ∀ (n : Nat) (x1 x2 : Int32), 0 ≤ x2.toInt → x2.toInt ≤ (zS t 59 4).toInt → x1.toInt = ySum (fun i => (zI t 77 i).toInt) x2.toInt.toNat → (0 ≤ x1.toInt ∧ x1.toInt ≤ x2.toInt) → Pc (f_X12_menBelow_L4 t n x1 x2) (fun r => r.toInt = ySum (fun i => (zI t 77 i).toInt) (zS t 59 4).toInt.toNat)
  | 0, _, _, _, _, _, _ => Pc_none
  | n + 1, x1, x2, h0, h1, hs, hr => by
    show Pc (f_X12_menBelow_L4_b t (f_X12_menBelow_L4 t n) x1 x2) _
    unfold f_X12_menBelow_L4_b
    refine Pc_lt (fun c => Pc_gd (fun _ => Pc_jn ?_)) (fun c => Pc_some (by rw [hs, show x2.toInt.toNat = (zS t 59 4).toInt.toNat by omega]))
    have e2 : (x2 + 1).toInt = x2.toInt + 1 := by rw [i32_add (by rw [jl1]; omega) (by rw [jl1]; omega), jl1]
    have et : (x2.toInt + 1).toNat = x2.toInt.toNat + 1 := by omega
    have go : ∀ w : Int32, (w = 0 ∨ w = 1) → w = zI t 77 x2.toInt.toNat → Pc (vl ((x1 + w)) fun v4 => (vl (x2 + 1) fun v5 => (f_X12_menBelow_L4 t n v4 v5))) (fun r => r.toInt = ySum (fun i => (zI t 77 i).toInt) (zS t 59 4).toInt.toNat) := by
      intro w hw e
      have rw_ : 0 ≤ w.toInt ∧ w.toInt ≤ 1 := by rcases hw with rfl | rfl <;> decide
      have e1 : (x1 + w).toInt = x1.toInt + w.toInt := by rw [i32_add (by omega) (by omega)]
      refine Pc_vl (Pc_vl (men_l h01 hb n _ _ (by omega) (by omega) ?_ (by omega)))
      rw [e1, e2, et, hs, e]
      rfl
    rcases h01 x2.toInt.toNat (by omega) with z | z
    · exact Pc_ift z (go 0 (Or.inl rfl) z.symm)
    · exact Pc_iff (by rw [z]; decide) (go 1 (Or.inr rfl) z.symm)
theorem men_p (B : zS s 15 3 = zS t 59 4 ∧ 0 ≤ (zS s 15 3).toInt ∧ (zS s 15 3).toInt ≤ 120) (M : QMen s t) : Pc (f_X12_menBelow t) (fun r => r = zS s 6 4) := by
  obtain ⟨b1, b2, b3⟩ := B
  unfold f_X12_menBelow
  refine Pc.mono (men_l (fun i hi => ?_) (by rw [← b1]; exact ⟨b2, b3⟩) 4000 0 0 (by decide) (by rw [← b1, jl0]; exact b2) rfl (by decide)) (fun r hr => Int32.toInt_inj.1 ?_)
  · have := M.1 i hi
    rw [← this.2.2.1]
    exact this.2.2.2.1
  · have e120 : ySum (fun i => (zI s 10 i).toInt) 120 = ySum (fun i => (zI s 10 i).toInt) (zS s 15 3).toInt.toNat := ySum_z (by omega) (fun i h1 h2 => by
      rcases (M.1 i h2).2.2.2.1 with z | z
      · rw [z]; rfl
      · have := (M.1 i h2).2.2.2.2 z
        omega)
    rw [hr, M.2, ← b1, e120]
    exact ySum_c (fun i hi => by rw [(M.1 i (by omega)).2.2.1])
/-- how many are through -/
theorem thr_l {sb : SS} {y2 y4 : Int32} {q0 : Int32 → Option (Int32 × SS)} {R : Int32 × SS → Prop} (hb : 0 ≤ (zS sb 59 4).toInt ∧ (zS sb 59 4).toInt ≤ 120) (hq : ∀ z, z.toInt = ySum (fun i => if 0 < (zI sb 69 i).toInt then 1 else 0) (zS sb 59 4).toInt.toNat → Pc (q0 z) R) : ∀ (n : Nat) (x5 x6 : Int32), 0 ≤ x6.toInt → x6.toInt ≤ (zS sb 59 4).toInt → x5.toInt = ySum (fun i => if 0 < (zI sb 69 i).toInt then 1 else 0) x6.toInt.toNat → (0 ≤ x5.toInt ∧ x5.toInt ≤ x6.toInt) → Pc (f_X12_saysNow_L28 q0 sb y2 y4 n x5 x6) R
  | 0, _, _, _, _, _, _ => Pc_none
  | n + 1, x5, x6, h0, h1, hs, hr => by
    show Pc (f_X12_saysNow_L28_b q0 sb y2 y4 (f_X12_saysNow_L28 q0 sb y2 y4 n) x5 x6) _
    unfold f_X12_saysNow_L28_b
    refine Pc_lt (fun c => Pc_gd (fun _ => Pc_jn ?_)) (fun c => hq _ (by rw [hs, show x6.toInt.toNat = (zS sb 59 4).toInt.toNat by omega]))
    have e2 : (x6 + 1).toInt = x6.toInt + 1 := by rw [i32_add (by rw [jl1]; omega) (by rw [jl1]; omega), jl1]
    have et : (x6.toInt + 1).toNat = x6.toInt.toNat + 1 := by omega
    have go : ∀ w : Int32, 0 ≤ w.toInt ∧ w.toInt ≤ 1 → w.toInt = (if 0 < (zI sb 69 x6.toInt.toNat).toInt then 1 else 0) → Pc (vl ((x5 + w)) fun v4 => (vl (x6 + 1) fun v5 => (f_X12_saysNow_L28 q0 sb y2 y4 n v4 v5))) R := by
      intro w rw_ e
      have e1 : (x5 + w).toInt = x5.toInt + w.toInt := by rw [i32_add (by omega) (by omega)]
      refine Pc_vl (Pc_vl (thr_l hb hq n _ _ (by omega) (by omega) ?_ (by omega)))
      rw [e1, e2, et, hs, e]
      rfl
    refine Pc_lt (fun z => go 1 (by decide) (by rw [jl0] at z; rw [if_pos z]; rfl)) (fun z => go 0 (by decide) (by rw [jl0] at z; rw [if_neg (by omega)]; rfl))
theorem thr_t {hq : Int} (B : B1 s t) (Q : Q4w hq s t) : ySum (fun i => if 0 < (zI t 69 i).toInt then 1 else 0) (zS t 59 4).toInt.toNat = (zS s 0 17).toInt := by
  have b := B.1.tot
  rw [Q.2.2.1.2.1, ← b.1]
  exact (ySum_z (by omega) (fun i h1 h2 => by
    rw [(Q.1.2.1 i h2 (noH B (by omega) h2)).2.2.2.1]; rfl)).symm
/-- the first hour in which one was through -/
theorem fst_l {t : SS} (hb : 0 ≤ (zS t 59 4).toInt ∧ (zS t 59 4).toInt ≤ 120) (h69 : ∀ i, i < 120 → 0 ≤ (zI t 69 i).toInt ∧ (zI t 69 i).toInt ≤ 1700) : ∀ (n : Nat) (x1 x2 : Int32), 0 ≤ x2.toInt → x2.toInt ≤ (zS t 59 4).toInt → (∀ i : Nat, (i : Int) < x2.toInt → 0 < (zI t 69 i).toInt → x1.toInt ≤ (zI t 69 i).toInt - 1) → ((x1.toInt = 1700 ∧ ∀ i : Nat, (i : Int) < x2.toInt → ¬ 0 < (zI t 69 i).toInt) ∨ ∃ i : Nat, (i : Int) < x2.toInt ∧ 0 < (zI t 69 i).toInt ∧ x1.toInt = (zI t 69 i).toInt - 1) → Pc (f_X12_firstThrough_L6 t n x1 x2) (fun r => (∀ i : Nat, (i : Int) < (zS t 59 4).toInt → 0 < (zI t 69 i).toInt → r.toInt ≤ (zI t 69 i).toInt - 1) ∧ ((r.toInt = 1700 ∧ ∀ i : Nat, (i : Int) < (zS t 59 4).toInt → ¬ 0 < (zI t 69 i).toInt) ∨ ∃ i : Nat, (i : Int) < (zS t 59 4).toInt ∧ 0 < (zI t 69 i).toInt ∧ r.toInt = (zI t 69 i).toInt - 1))
  | 0, _, _, _, _, _, _ => Pc_none
  | n + 1, x1, x2, h0, h1, ha, hs => by
    show Pc (f_X12_firstThrough_L6_b t (f_X12_firstThrough_L6 t n) x1 x2) _
    unfold f_X12_firstThrough_L6_b
    refine Pc_lt (fun c => Pc_gd (fun _ => Pc_jn ?_)) (fun c => Pc_some ?_)
    · have e2 : (x2 + 1).toInt = x2.toInt + 1 := by rw [i32_add (by rw [jl1]; omega) (by rw [jl1]; omega), jl1]
      have r := h69 x2.toInt.toNat (by omega)
      have e1 : (zI t 69 x2.toInt.toNat - 1).toInt = (zI t 69 x2.toInt.toNat).toInt - 1 := by rw [i32_sub (by rw [jl1]; omega) (by rw [jl1]; omega), jl1]
      have hx : ∀ i : Nat, (i : Int) < x2.toInt + 1 → (i : Int) < x2.toInt ∨ i = x2.toInt.toNat := fun i hi => by omega
      refine Pc_lt (fun z => Pc_gd (fun _ => Pc_lt (fun w => Pc_gd (fun _ => Pc_vl (Pc_vl ?_))) (fun w => Pc_vl ?_))) (fun z => Pc_vl ?_)
      · rw [jl0] at z
        rw [e1] at w
        refine fst_l hb h69 n _ _ (by omega) (by omega) (fun i hi hp => ?_) (Or.inr ⟨x2.toInt.toNat, by omega, z, e1⟩)
        rw [e2] at hi
        rcases hx i hi with y | y
        · have := ha i y hp; omega
        · rw [y, e1]; omega
      · rw [jl0] at z
        rw [e1] at w
        refine fst_l hb h69 n _ _ (by omega) (by omega) (fun i hi hp => ?_) ?_
        · rw [e2] at hi
          rcases hx i hi with y | y
          · exact ha i y hp
          · rw [y]; omega
        · rcases hs with ⟨s1, s2⟩ | ⟨i, s1, s2, s3⟩
          · omega
          · exact Or.inr ⟨i, by omega, s2, s3⟩
      · rw [jl0] at z
        refine fst_l hb h69 n _ _ (by omega) (by omega) (fun i hi hp => ?_) ?_
        · rw [e2] at hi
          rcases hx i hi with y | y
          · exact ha i y hp
          · rw [y] at hp; omega
        · rcases hs with ⟨s1, s2⟩ | ⟨i, s1, s2, s3⟩
          · refine Or.inl ⟨s1, fun i hi hp => ?_⟩
            rw [e2] at hi
            rcases hx i hi with y | y
            · exact s2 i y hp
            · rw [y] at hp; omega
          · exact Or.inr ⟨i, by omega, s2, s3⟩
    · have e : x2.toInt = (zS t 59 4).toInt := by omega
      rw [e] at ha hs
      exact ⟨ha, hs⟩
theorem fst_p {hq : Int} (B : B1 s t) (Q : Q4w hq s t) : Pc (f_X12_firstThrough t) (fun r => r = zS s 0 18) := by
  have b := B.1.tot
  unfold f_X12_firstThrough
  refine Pc.mono (fst_l (by rw [← b.1]; exact b.2) Q.1.2.2.2 4000 1700 0 (by decide) (by rw [← b.1, jl0]; exact b.2.1) (fun i hi => by rw [jl0] at hi; omega) (Or.inl ⟨rfl, fun i hi => by rw [jl0] at hi; omega⟩)) (fun r hr => Int32.toInt_inj.1 ?_)
  obtain ⟨r1, r2⟩ := hr
  have inn : ∀ i : Nat, i < 120 → 0 < (zI t 69 i).toInt → (i : Int) < (zS t 59 4).toInt := fun i hi hp => by
    by_cases z : (i : Int) < (zS t 59 4).toInt
    · exact z
    · rw [← b.1] at z
      rw [(Q.1.2.1 i hi (noH B (by omega) hi)).2.2.2.1] at hp
      exact absurd hp (by decide)
  have b4 : (zS t 59 4).toInt ≤ 120 := by rw [← b.1]; exact b.2.2
  rcases Q.2.2.2.1 with ⟨q1, q2⟩ | ⟨_, q2, i, i1, i2, i3⟩
  · rcases r2 with ⟨a1, _⟩ | ⟨i, a1, a2, _⟩
    · omega
    · exact absurd a2 (q2 i (by omega))
  · have h1 := r1 i (inn i i1 i2) i2
    rcases r2 with ⟨_, a2⟩ | ⟨j, a1, a2, a3⟩
    · exact absurd i2 (a2 i (inn i i1 i2))
    · have := q2 j (by omega) a2
      omega
theorem frcM_s {w h k hd x : Int32} {rc : Int32 → Option Int32} {R : Int32 → Prop} (nc : ¬ x < 0) (hr : Pc (rc (x + -1)) R) (hc : ¬ (zI t 87 x.toInt.toNat % 10 = w % 10) ∨ k < zI t 88 x.toInt.toNat ∨ h < zI t 89 x.toInt.toNat ∨ (¬ (zI t 87 x.toInt.toNat / 10 = w / 10) ∧ hd = 0)) : Pc (f_X12_forceOf_L23_b t w h k hd rc x) R := by
  unfold f_X12_forceOf_L23_b
  refine Pc_iff nc (Pc_gd (fun _ => Pc_jn (Pc_if (fun y1 => Pc_gd (fun _ => Pc_jn ?_)) (fun _ => Pc_vl hr))))
  have K : (zI t 87 x.toInt.toNat / 10 = w / 10 ∨ ¬ hd = 0) → Pc (gd (inB x 16) (if k < (zI t 88 (x.toInt.toNat)) then (vl (x + (-1)) fun v7 => (rc v7)) else (gd (inB x 16) (if h < (zI t 89 (x.toInt.toNat)) then (vl (x + (-1)) fun v7 => (rc v7)) else some x)))) R := fun y2 => Pc_gd (fun _ => Pc_if (fun _ => Pc_vl hr) (fun y3 => Pc_gd (fun _ => Pc_if (fun _ => Pc_vl hr) (fun y4 => absurd hc (fun z => z.elim (fun z => z y1) (fun z => z.elim y3 (fun z => z.elim y4 (fun z => y2.elim z.1 (fun y => y z.2)))))))))
  exact Pc_if (fun y2 => K (Or.inl y2)) (fun _ => Pc_if (fun _ => Pc_vl hr) (fun y2 => K (Or.inr y2)))
theorem frcM_r {w h k hd x : Int32} {rc : Int32 → Option Int32} {R : Int32 → Prop} (nc : ¬ x < 0) (hr : R x) (h1 : zI t 87 x.toInt.toNat % 10 = w % 10) (h2 : ¬ k < zI t 88 x.toInt.toNat) (h3 : ¬ h < zI t 89 x.toInt.toNat) (h4 : zI t 87 x.toInt.toNat / 10 = w / 10 ∨ ¬ hd = 0) : Pc (f_X12_forceOf_L23_b t w h k hd rc x) R := by
  unfold f_X12_forceOf_L23_b
  refine Pc_iff nc (Pc_gd (fun _ => Pc_jn (Pc_ift h1 (Pc_gd (fun _ => Pc_jn ?_)))))
  have K : Pc (gd (inB x 16) (if k < (zI t 88 (x.toInt.toNat)) then (vl (x + (-1)) fun v7 => (rc v7)) else (gd (inB x 16) (if h < (zI t 89 (x.toInt.toNat)) then (vl (x + (-1)) fun v7 => (rc v7)) else some x)))) R := Pc_gd (fun _ => Pc_iff h2 (Pc_gd (fun _ => Pc_iff h3 (Pc_some hr))))
  exact Pc_if (fun _ => K) (fun y => Pc_if (fun z => absurd h4 (fun w => w.elim y (fun w => w z))) (fun _ => K))
/-- the same text on both sides -/
theorem frc_l {w side use h k hd : Int32} {hq : Int} (B : B1 s t) (Q : Q4w hq s t) (hw : 0 ≤ w.toInt ∧ w.toInt ≤ 12) (hs : side.toInt = w.toInt / 10) (hu : use.toInt = w.toInt % 10) : ∀ (n m : Nat) (x : Int32), -1 ≤ x.toInt → x.toInt < (zS s 0 8).toInt → Pc (f_X11_latestText_L24 s side use h k hd n x) (fun r => Pc (f_X12_forceOf_L23 t w h k hd m x) (fun r' => r' = r ∧ (r = -2 ∨ (0 ≤ r.toInt ∧ r.toInt < (zS s 0 8).toInt))))
  | 0, _, _, _, _ => Pc_none
  | n + 1, 0, x, _, _ => fun _ _ => Pc_none
  | n + 1, m + 1, x, h0, h1 => by
    show Pc (f_X11_latestText_L24_b s side use h k hd (f_X11_latestText_L24 s side use h k hd n) x) (fun r => Pc (f_X12_forceOf_L23_b t w h k hd (f_X12_forceOf_L23 t w h k hd m) x) _)
    unfold f_X11_latestText_L24_b
    have b8 : 0 ≤ (zS s 0 8).toInt ∧ (zS s 0 8).toInt ≤ 16 := B.1.fx (q := 0) (k := 8) (by omega)
    by_cases c : x.toInt < 0
    · refine Pc_ift (by rw [jlt, jl0]; exact c) (Pc_some ?_)
      unfold f_X12_forceOf_L23_b
      exact Pc_ift (by rw [jlt, jl0]; exact c) (Pc_some ⟨rfl, Or.inl rfl⟩)
    have nc : ¬ x < 0 := by rw [jlt, jl0]; exact c
    have e1 : (x + -1).toInt = x.toInt - 1 := by rw [i32_add (by rw [jm1]; omega) (by rw [jm1]; omega), jm1]; rfl
    have ih : ∀ x' : Int32, x'.toInt = x.toInt - 1 → Pc (f_X11_latestText_L24 s side use h k hd n x') (fun r => Pc (f_X12_forceOf_L23 t w h k hd m x') (fun r' => r' = r ∧ (r = -2 ∨ (0 ≤ r.toInt ∧ r.toInt < (zS s 0 8).toInt)))) := fun x' e => frc_l B Q hw hs hu n m x' (by clear e1; omega) (by clear e1; omega)
    have ih' := ih _ e1
    clear ih e1
    refine Pc_iff nc (Pc_gd (fun _ => ?_))
    obtain ⟨p, ep, tx⟩ := Q.2.2.2.2.2.2.2.2.2.2.1 x.toInt.toNat (by omega) (by omega)
    obtain ⟨⟨g1, g2, g3⟩, a0, a1, a2, a3, _⟩ := tx
    rw [ep]
    have d87 : (zI t 87 x.toInt.toNat % 10).toInt = (zI t 87 x.toInt.toNat).toInt % 10 := by rw [jm10, if_pos g1]
    have v87 : (zI t 87 x.toInt.toNat / 10).toInt = (zI t 87 x.toInt.toNat).toInt / 10 := by rw [jd10, if_pos g1]
    have dw : (w % 10).toInt = w.toInt % 10 := by rw [jm10, if_pos hw.1]
    have vw : (w / 10).toInt = w.toInt / 10 := by rw [jd10, if_pos hw.1]
    have u1 : (zS s p 1 = use) ↔ (zI t 87 x.toInt.toNat % 10 = w % 10) := ⟨fun z => Int32.toInt_inj.1 (by rw [d87, dw, ← a1, z, hu]), fun z => Int32.toInt_inj.1 (by rw [a1, hu, ← d87, ← dw, z])⟩
    have u0 : (zS s p 0 = side) ↔ (zI t 87 x.toInt.toNat / 10 = w / 10) := ⟨fun z => Int32.toInt_inj.1 (by rw [v87, vw, ← a0, z, hs]), fun z => Int32.toInt_inj.1 (by rw [a0, hs, ← v87, ← vw, z])⟩
    have skip : (¬ (zI t 87 x.toInt.toNat % 10 = w % 10) ∨ k < zI t 88 x.toInt.toNat ∨ h < zI t 89 x.toInt.toNat ∨ (¬ (zI t 87 x.toInt.toNat / 10 = w / 10) ∧ hd = 0)) → Pc (vl (x + (-1)) fun v6 => (f_X11_latestText_L24 s side use h k hd n v6)) (fun r => Pc (f_X12_forceOf_L23_b t w h k hd (f_X12_forceOf_L23 t w h k hd m) x) (fun r' => r' = r ∧ (r = -2 ∨ (0 ≤ r.toInt ∧ r.toInt < (zS s 0 8).toInt)))) := fun hc => Pc_vl (Pc.mono ih' (fun r hr => frcM_s nc hr hc))
    have ret : zI t 87 x.toInt.toNat % 10 = w % 10 → ¬ k < zI t 88 x.toInt.toNat → ¬ h < zI t 89 x.toInt.toNat → (zI t 87 x.toInt.toNat / 10 = w / 10 ∨ ¬ hd = 0) → Pc (some x) (fun r => Pc (f_X12_forceOf_L23_b t w h k hd (f_X12_forceOf_L23 t w h k hd m) x) (fun r' => r' = r ∧ (r = -2 ∨ (0 ≤ r.toInt ∧ r.toInt < (zS s 0 8).toInt)))) := fun h1' h2 h3 h4 => Pc_some (frcM_r nc ⟨rfl, Or.inr ⟨by omega, h1⟩⟩ h1' h2 h3 h4)
    refine Pc_onS (Pc_if (fun c1 => ?_) (fun c1 => skip (Or.inl (fun y => c1 (u1.mpr y)))))
    rw [a2, a3]
    exact Pc_if (fun c2 => skip (Or.inr (Or.inl c2))) (fun c2 => Pc_if (fun c3 => skip (Or.inr (Or.inr (Or.inl c3)))) (fun c3 => Pc_if (fun z => Pc_if (fun c4 => ret (u1.mp c1) c2 c3 (Or.inl (u0.mp c4))) (fun c4 => skip (Or.inr (Or.inr (Or.inr ⟨fun y => c4 (u0.mpr y), z⟩))))) (fun z => ret (u1.mp c1) c2 c3 (Or.inr z))))
theorem frc_p {w side use h k : Int32} {hq : Int} (B : B1 s t) (Q : Q4w hq s t) (hw : 0 ≤ w.toInt ∧ w.toInt ≤ 12) (hs : side.toInt = w.toInt / 10) (hu : use.toInt = w.toInt % 10) : Pc (f_X11_latestText s side use h k) (fun r => Pc (f_X12_forceOf t w h k) (fun r' => r' = r ∧ (r = -2 ∨ (0 ≤ r.toInt ∧ r.toInt < (zS s 0 8).toInt)))) := by
  have b8 : 0 ≤ (zS s 0 8).toInt ∧ (zS s 0 8).toInt ≤ 16 := B.1.fx (q := 0) (k := 8) (by omega)
  have e8 : zS s 0 8 = zS t 59 38 := B.1.1.2.2.2.1
  have e1 : (zS s 0 8 - 1).toInt = (zS s 0 8).toInt - 1 := by rw [i32_sub (by rw [jl1]; omega) (by rw [jl1]; omega), jl1]
  have go : ∀ hd : Int32, Pc (f_X11_latestText_L24 s side use h k hd 4000 (zS s 0 8 - 1)) (fun r => Pc (f_X12_forceOf_L23 t w h k hd 4000 (zS s 0 8 - 1)) (fun r' => r' = r ∧ (r = -2 ∨ (0 ≤ r.toInt ∧ r.toInt < (zS s 0 8).toInt)))) := fun hd => frc_l B Q hw hs hu 4000 4000 _ (by rw [e1]; clear e1; omega) (by rw [e1]; clear e1; omega)
  unfold f_X11_latestText f_X12_forceOf
  rw [← e8]
  refine Pc_jn (Pc_if (fun c => Pc_vl (Pc.mono (go 0) (fun r hr => Pc_b1 (Pc.mono (fst_p B Q) (fun f hf => Pc_jn (Pc_ift (by rw [hf]; exact c) (Pc_vl hr))))))) (fun c => Pc_vl (Pc.mono (go 1) (fun r hr => Pc_b1 (Pc.mono (fst_p B Q) (fun f hf => Pc_jn (Pc_iff (by rw [hf]; exact c) (Pc_vl hr))))))))
end CTs
/-! WHAT THE TEXT IN FORCE GIVES -/
section GVs
variable {s t : SS}
def naX (s : SS) (a b c : Int32) : SS := pI (pI (pI (pI (pI (pI (pI (pI s 28 0 (zS s 0 14)) 28 1 (zS s 0 14 / 24)) 28 2 a) 28 3 b) 28 4 c) 28 5 (zS s 6 4)) 28 6 (zS s 30 0)) 28 7 (zS s 0 17)
def fcM (t : SS) (a b c d e : Int32) : SS := pI (pI (pI (pI (pI (pI (pI (pI t 95 0 (zS t 59 1)) 95 1 (zS t 59 1 / 24)) 95 2 a) 95 3 b) 95 4 c) 95 5 d) 95 6 (zS t 59 54)) 95 7 e
/-- a man's own: his; else 0 -/
def own (s : SS) (q : Nat) (man : Int32) : Int32 := if man.toInt < 0 then 0 else zI s q man.toInt.toNat
theorem giv_x {r use man : Int32} {p : Nat} {P : Int32 × SS → Prop} (B : B1 s t) (h0 : 0 ≤ r.toInt) (h1 : r.toInt < (zS s 0 8).toInt) (hp : zR s 27 r.toInt.toNat = some p) (hm : man.toInt < 0 ∨ (0 ≤ man.toInt ∧ man.toInt < (zS s 15 3).toInt ∧ zI s 16 man.toInt.toNat = 7)) (h : Pc (bd (f_X10_worth (naX s (own s 7 man) (own s 8 man) (own s 9 man)) p) fun r27 s27 => some (r27, s27)) P) : Pc (f_X11_given s r use man) P := by
  unfold f_X11_given
  refine Pc_jn (Pc_iff (by rw [jlt, jl0]; omega) (Pc_ift (by rw [jlt]; exact h1) (Pc_gd (fun _ => ?_))))
  rw [hp]
  refine Pc_onS (Pc_b1 ?_)
  rcases hm with hm | ⟨m1, m2, m3⟩
  · rw [kindXf (by omega)]
    refine Pc_some (Pc_jn (Pc_iff (by decide) ?_))
    refine Pc_vl (Pc_st (Pc_vl (Pc_st ?_)))
    refine Pc_jn (Pc_if00 (Pc_st ?_))
    refine Pc_jn (Pc_if00 (Pc_st ?_))
    refine Pc_jn (Pc_if00 (Pc_st ?_))
    refine Pc_vl (Pc_st (Pc_vl (Pc_st (Pc_vl (Pc_st ?_)))))
    unfold own at h
    rw [if_pos hm, if_pos hm, if_pos hm] at h
    exact h
  · rw [kindX B ⟨m1, m2⟩, m3]
    refine Pc_some (Pc_jn (Pc_ift rfl ?_))
    refine Pc_vl (Pc_st (Pc_vl (Pc_st ?_)))
    refine Pc_jn (Pc_if10 (Pc_gd (fun _ => Pc_st ?_)))
    refine Pc_jn (Pc_if10 (Pc_gd (fun _ => Pc_st ?_)))
    refine Pc_jn (Pc_if10 (Pc_gd (fun _ => Pc_st ?_)))
    refine Pc_vl (Pc_st (Pc_vl (Pc_st (Pc_vl (Pc_st ?_)))))
    unfold own at h
    rw [if_neg (by omega), if_neg (by omega), if_neg (by omega)] at h
    exact h
theorem say_m {w man wo r : Int32} {P : Int32 × SS → Prop} {hq : Int} (B : B1 s t) (Q : Q4w hq s t) (hf : ∀ r', f_X12_forceOf t w (zS t 59 1) (zS t 59 1) = some r' → r' = r) (h0 : 0 ≤ r.toInt) (h : Pc (bd (f_X12_gives (fcM t (own t 74 man) (own t 75 man) (own t 76 man) (zS s 6 4) (zS s 0 17)) r) fun r26 s26 => some (r26, s26)) P) : Pc (f_X12_saysNow t w man wo) P := by
  have b := B.1.tot
  unfold f_X12_saysNow
  refine Pc_b1 (fun r' er => ?_)
  rw [hf r' er]
  refine (Pc_iff (by rw [jlt, jl0]; omega) (thr_l (by rw [← b.1]; exact b.2) (fun z hz => ?_) 4000 0 0 (by decide) (by rw [← b.1, jl0]; exact b.2.1) rfl (by decide)))
  have ez : z = zS s 0 17 := Int32.toInt_inj.1 (by rw [hz, thr_t B Q])
  rw [ez]
  have M : ∀ t', (∀ i, zI t' 74 i = zI t 74 i) → (∀ i, zI t' 75 i = zI t 75 i) → (∀ i, zI t' 77 i = zI t 77 i) → zS t' 59 4 = zS t 59 4 → Pc (f_X12_menBelow t') (fun r => r = zS s 6 4) := fun t' h1 h2 h3 h4 => men_p (by rw [h4]; exact b) (Q.2.1.c (fun _ => rfl) (fun _ => rfl) (fun _ => rfl) (fun _ => rfl) rfl rfl h1 h2 h3)
  unfold own at h
  by_cases hm : man.toInt < 0
  · rw [if_pos hm, if_pos hm, if_pos hm] at h
    have c : man < 0 := by rw [jlt, jl0]; exact hm
    refine Pc_vl (Pc_st (Pc_vl (Pc_st ?_)))
    refine Pc_jn (Pc_ift c (Pc_st ?_))
    refine Pc_jn (Pc_ift c (Pc_st ?_))
    refine Pc_jn (Pc_ift c (Pc_st ?_))
    refine Pc_b1 (Pc.mono (M _ (fun _ => rfl) (fun _ => rfl) (fun _ => rfl) rfl) (fun r21 h21 => Pc_st (Pc_vl (Pc_st (Pc_st ?_)))))
    rw [h21]
    exact h
  · rw [if_neg hm, if_neg hm, if_neg hm] at h
    have c : ¬ man < 0 := by rw [jlt, jl0]; exact hm
    refine Pc_vl (Pc_st (Pc_vl (Pc_st ?_)))
    refine Pc_jn (Pc_iff c (Pc_gd (fun _ => Pc_st ?_)))
    refine Pc_jn (Pc_iff c (Pc_gd (fun _ => Pc_st ?_)))
    refine Pc_jn (Pc_iff c (Pc_gd (fun _ => Pc_st ?_)))
    refine Pc_b1 (Pc.mono (M _ (fun _ => rfl) (fun _ => rfl) (fun _ => rfl) rfl) (fun r21 h21 => Pc_st (Pc_vl (Pc_st (Pc_st ?_)))))
    rw [h21]
    exact h
/-- what is given is said -/
theorem gv_p {w use man wo r : Int32} {hq : Int} (B : B1 s t) (Q : Q4w hq s t) (hwo : wo = if use = 0 then 1 else 0) (hm : man.toInt < 0 ∨ (0 ≤ man.toInt ∧ man.toInt < (zS s 15 3).toInt ∧ zI s 16 man.toInt.toNat = 7)) (hr : r = -2 ∨ (0 ≤ r.toInt ∧ r.toInt < (zS s 0 8).toInt)) (hf : ∀ r', f_X12_forceOf t w (zS t 59 1) (zS t 59 1) = some r' → r' = r) : Pc (f_X11_given s r use man) (fun x => Pc (f_X12_saysNow t w man wo) (fun m => m.1 = x.1)) := by
  have b := B.1.tot
  rcases hr with hr | ⟨h0, h1⟩
  · unfold f_X11_given f_X12_saysNow
    rw [hr] at hf ⊢
    refine Pc_jn (Pc_ift (by decide) ?_)
    rw [hwo]
    by_cases z : use = 0
    · rw [if_pos z, if_pos z]
      exact Pc_some (Pc_b1 (fun r' er => by rw [hf r' er]; exact Pc_ift (by decide) (Pc_some rfl)))
    · rw [if_neg z, if_neg z]
      exact Pc_some (Pc_b1 (fun r' er => by rw [hf r' er]; exact Pc_ift (by decide) (Pc_some rfl)))
  have b8 : 0 ≤ (zS s 0 8).toInt ∧ (zS s 0 8).toInt ≤ 16 := B.1.fx (q := 0) (k := 8) (by omega)
  obtain ⟨p, hp, _, _, _, _, _, ls, t1, t2, t3, t4, t5, t6, t7, t8, t9⟩ := Q.2.2.2.2.2.2.2.2.2.2.1 r.toInt.toNat (by omega) (by omega)
  have op := B.1.sh.2.2.2.2.2.1 r.toInt.toNat p (by omega) hp
  have o1 := op.1
  have sI : ∀ q j, q ≠ 28 → zI (naX s (own s 7 man) (own s 8 man) (own s 9 man)) q j = zI s q j := fun q j hq => by
    unfold naX
    rw [zI_pI, if_neg (by omega), zI_pI, if_neg (by omega), zI_pI, if_neg (by omega), zI_pI, if_neg (by omega), zI_pI, if_neg (by omega), zI_pI, if_neg (by omega), zI_pI, if_neg (by omega), zI_pI, if_neg (by omega)]
  have mI : ∀ q j, q ≠ 95 → zI (fcM t (own t 74 man) (own t 75 man) (own t 76 man) (zS s 6 4) (zS s 0 17)) q j = zI t q j := fun q j hq => by
    unfold fcM
    rw [zI_pI, if_neg (by omega), zI_pI, if_neg (by omega), zI_pI, if_neg (by omega), zI_pI, if_neg (by omega), zI_pI, if_neg (by omega), zI_pI, if_neg (by omega), zI_pI, if_neg (by omega), zI_pI, if_neg (by omega)]
  have ow : own s 7 man = own t 74 man ∧ own s 8 man = own t 75 man ∧ own s 9 man = own t 76 man := by
    unfold own
    by_cases z : man.toInt < 0
    · rw [if_pos z, if_pos z, if_pos z, if_pos z, if_pos z, if_pos z]
      exact ⟨rfl, rfl, rfl⟩
    · rw [if_neg z, if_neg z, if_neg z, if_neg z, if_neg z, if_neg z]
      have := Q.2.1.1 man.toInt.toNat (by omega)
      exact ⟨this.1, this.2.1, B.1.2.2.1 _⟩
  obtain ⟨v, hv⟩ := tVal_ex (nm := fun j => if j < 8 then zI (naX s (own s 7 man) (own s 8 man) (own s 9 man)) 28 j else 0) ls t8
  obtain ⟨s', e1, _⟩ := worthX_l o1 ls (naX s (own s 7 man) (own s 8 man) (own s 9 man)) (-1) 0 (3999 - (clL ls).length) v hv t8 (fun j c h => by rw [sI _ _ (by omega), show (0 : Int32).toInt.toNat + j = j by rw [jl0]; omega]; exact t4 j c h) (by decide) (by rw [jl0]; show (0 : Int) + _ = ((zN s (p + 1) : Nat) : Int); rw [t1]; omega) (by show zN s (p + 1) ≤ 161; rw [t1]; exact t2) rfl (fun j => rfl)
  have eW : f_X10_worth (naX s (own s 7 man) (own s 8 man) (own s 9 man)) p = some (v, s') := by
    rw [show 3999 - (clL ls).length + (clL ls).length + 1 = 4000 by omega] at e1
    exact e1
  obtain ⟨t', e2, _⟩ := gives_l (y1 := r) (i := r.toInt.toNat) (nm := fun j => if j < 8 then zI (naX s (own s 7 man) (own s 8 man) (own s 9 man)) 28 j else 0) (t := fcM t (own t 74 man) (own t 75 man) (own t 76 man) (zS s 6 4) (zS s 0 17)) (by omega) (by omega) t8 t3 t7 (fun j c h => by rw [mI 93 _ (by omega), mI 94 _ (by omega)]; exact t5 j c h) (by rw [mI 90 _ (by omega)]; exact t6) (fun k pr h => by rw [mI 91 _ (by omega), mI 92 _ (by omega)]; exact t9 k pr h) (fun j hj => by
    show (if j < 8 then zI (naX s (own s 7 man) (own s 8 man) (own s 9 man)) 28 j else 0) = _
    rw [if_pos hj, ow.1, ow.2.1, ow.2.2]
    have h14 : zS s 0 14 = zS t 59 1 := B.2.1.1
    have h30 : zS s 30 0 = zS t 59 54 := Q.2.2.2.2.1.1
    match j, hj with
    | 0, _ => exact h14
    | 1, _ => exact congrArg (· / 24) h14
    | 2, _ => rfl
    | 3, _ => rfl
    | 4, _ => rfl
    | 5, _ => rfl
    | 6, _ => exact h30
    | 7, _ => rfl) 4000 0 _ 0 0 v K29.rf rfl (by show (0 : Int) = _; rfl) hv (by omega) (by omega)
  refine giv_x B h0 h1 hp hm ?_
  rw [eW]
  refine Pc_bdS (Pc_some (say_m B Q hf h0 ?_))
  rw [show f_X12_gives (fcM t (own t 74 man) (own t 75 man) (own t 76 man) (zS s 6 4) (zS s 0 17)) r = some (v, t') from e2]
  exact Pc_bdS (Pc_some rfl)
end GVs
/-! THINGS COME DOWN -/
section ARs
variable {s t s0 t0 : SS}
/-- on the way: the first l stay, those from i on are to be looked at -/
def AI (s0 t0 s t : SS) (y l i : Int) : Prop := (zS s 30 0 = zS t 59 54 ∧ zS s 30 5 = zS t 59 62 ∧ ∀ k, zI s 31 k = zI t 105 k) ∧ (∀ j : Nat, (j : Int) < l → zI s 32 j = zI t 102 j ∧ zI s 33 j = zI t 103 j ∧ y < (zI s 33 j).toInt) ∧ (∀ j : Nat, i ≤ j → (j : Int) < (zS s 30 5).toInt → zI s 32 j = zI t 102 j ∧ zI s 33 j = zI t 103 j ∧ y ≤ (zI s 33 j).toInt) ∧ (0 ≤ l ∧ l ≤ i ∧ i ≤ (zS s 30 5).toInt) ∧ Frm [(30, 0)] [31, 32, 33] [] s0 s ∧ Frm [(59, 54)] [102, 103, 105] [] t0 t
def qA (s18 : SS) (x18_2 : Int32) : Option SS := (st (pS s18 30 5 x18_2) fun s19 => some s19)
def qB (s28 : SS) (x28_1 : Int32) : Option SS := (st (pS s28 59 62 x28_1) fun s29 => some s29)
def AR (s0 t0 : SS) (y : Int) (r u : SS) : Prop := QStoH y r u ∧ Frm [(30, 0), (30, 5)] [31, 32, 33] [] s0 r ∧ Frm [(59, 54), (59, 62)] [102, 103, 105] [] t0 u
theorem Frm.mo {WS WS' : List (Nat × Nat)} {WI WI' WJ WJ' : List Nat} {b r : SS} (F : Frm WS WI WJ b r) (h1 : WS.all (fun p => WS'.contains p) = true) (h2 : WI.all (fun q => WI'.contains q) = true) (h3 : WJ.all (fun q => WJ'.contains q) = true) : Frm WS' WI' WJ' b r := by
  refine ⟨fun q k h => F.1 q k (nct h1 h), fun q i h => F.2.1 q i (nct h2 h), fun q i h => F.2.2.1 q i (nct h3 h), F.2.2.2⟩
theorem arr_l {y : Int32} (e31 : zS s0 30 1 = zS t0 59 55) (h59 : zS t0 59 1 = y) (h40 : (zS s0 30 5).toInt ≤ 40) : ∀ (n n' : Nat) (s t : SS) (x2 x3 : Int32), AI s0 t0 s t y.toInt x2.toInt x3.toInt → Pc (f_X9_arrivals_L4 qA y n s x2 x3) (fun r => Pc (f_X12_comeDown_L4 qB n' t x2 x3) (fun u => AR s0 t0 y.toInt r u))
  | 0, _, _, _, _, _, _ => Pc_none
  | n + 1, 0, _, _, _, _, _ => fun _ _ => Pc_none
  | n + 1, n' + 1, s, t, x2, x3, A => by
    obtain ⟨⟨e0, e5, e105⟩, hl, hi, ⟨l0, l1, l2⟩, F, G⟩ := A
    have w5 : zS s 30 5 = zS s0 30 5 := F.1 30 5 (by decide)
    have y59 : zS t 59 1 = y := (G.1 59 1 (by decide)).trans h59
    show Pc (f_X9_arrivals_L4_b qA y (f_X9_arrivals_L4 qA y n) s x2 x3) (fun r => Pc (f_X12_comeDown_L4_b qB (f_X12_comeDown_L4 qB n') t x2 x3) _)
    unfold f_X9_arrivals_L4_b f_X12_comeDown_L4_b
    by_cases c : x3.toInt < (zS s 30 5).toInt
    case neg =>
      refine Pc_iff (by rw [jlt]; exact c) (Pc_st (Pc_some (Pc_iff (by rw [jlt, ← e5]; exact c) (Pc_st (Pc_some ⟨⟨e0, ?_, rfl, e105, fun j hj hc => hl j hc⟩, ?_, ?_⟩)))))
      · show zS s 30 1 = zS t 59 55
        rw [F.1 30 1 (by decide), G.1 59 55 (by decide)]
        exact e31
      · exact (F.mo (by decide) (by decide) (by decide)).pS (by decide)
      · exact (G.mo (by decide) (by decide) (by decide)).pS (by decide)
    have c' : (zS s 30 5).toInt ≤ 40 := by rw [w5]; exact h40
    obtain ⟨i1, i2, i3⟩ := hi x3.toInt.toNat (by omega) (by omega)
    have n3 : (x3 + 1).toInt = x3.toInt + 1 := by rw [i32_add (by rw [jl1]; omega) (by rw [jl1]; omega), jl1]
    have n2 : (x2 + 1).toInt = x2.toInt + 1 := by rw [i32_add (by rw [jl1]; omega) (by rw [jl1]; omega), jl1]
    have cm : x3 < zS t 59 62 := by rw [jlt, ← e5]; exact c
    refine Pc_ift (by rw [jlt]; exact c) (Pc_gd (fun _ => Pc_jn ?_))
    by_cases k : y < zI s 33 x3.toInt.toNat
    · -- it stays on its way
      have k' : ¬ zI t 103 x3.toInt.toNat = zS t 59 1 := fun z => by
        rw [y59, ← i2] at z
        rw [z, jlt] at k
        omega
      rw [jlt] at k
      refine Pc_ift (by rw [jlt]; exact k) (Pc_gd (fun _ => Pc_vl (Pc_gd (fun _ => Pc_st (Pc_gd (fun _ => Pc_vl (Pc_gd (fun _ => Pc_st (Pc_vl (Pc_vl ?_))))))))))
      have A2 : AI s0 t0 (pI (pI s 32 x2.toInt.toNat (zI s 32 x3.toInt.toNat)) 33 x2.toInt.toNat (zI (pI s 32 x2.toInt.toNat (zI s 32 x3.toInt.toNat)) 33 x3.toInt.toNat)) (pI (pI t 102 x2.toInt.toNat (zI t 102 x3.toInt.toNat)) 103 x2.toInt.toNat (zI (pI t 102 x2.toInt.toNat (zI t 102 x3.toInt.toNat)) 103 x3.toInt.toNat)) y.toInt (x2 + 1).toInt (x3 + 1).toInt := by
        have r33 : zI (pI s 32 x2.toInt.toNat (zI s 32 x3.toInt.toNat)) 33 x3.toInt.toNat = zI s 33 x3.toInt.toNat := by rw [zI_pI, if_neg (by omega)]
        have r103 : zI (pI t 102 x2.toInt.toNat (zI t 102 x3.toInt.toNat)) 103 x3.toInt.toNat = zI t 103 x3.toInt.toNat := by rw [zI_pI, if_neg (by omega)]
        rw [r33, r103, n2, n3]
        have c32 : ∀ j v w, zI (pI (pI s 32 x2.toInt.toNat v) 33 x2.toInt.toNat w) 32 j = if j = x2.toInt.toNat then v else zI s 32 j := fun j v w => by
          rw [zI_pI, if_neg (by omega), zI_pI]
          by_cases z : j = x2.toInt.toNat
          · rw [if_pos ⟨rfl, z⟩, if_pos z]
          · rw [if_neg (fun q => z q.2), if_neg z]
        have c33 : ∀ j v w, zI (pI (pI s 32 x2.toInt.toNat v) 33 x2.toInt.toNat w) 33 j = if j = x2.toInt.toNat then w else zI s 33 j := fun j v w => by
          rw [zI_pI]
          by_cases z : j = x2.toInt.toNat
          · rw [if_pos ⟨rfl, z⟩, if_pos z]
          · rw [if_neg (fun q => z q.2), if_neg z, zI_pI, if_neg (by omega)]
        have c102 : ∀ j v w, zI (pI (pI t 102 x2.toInt.toNat v) 103 x2.toInt.toNat w) 102 j = if j = x2.toInt.toNat then v else zI t 102 j := fun j v w => by
          rw [zI_pI, if_neg (by omega), zI_pI]
          by_cases z : j = x2.toInt.toNat
          · rw [if_pos ⟨rfl, z⟩, if_pos z]
          · rw [if_neg (fun q => z q.2), if_neg z]
        have c103 : ∀ j v w, zI (pI (pI t 102 x2.toInt.toNat v) 103 x2.toInt.toNat w) 103 j = if j = x2.toInt.toNat then w else zI t 103 j := fun j v w => by
          rw [zI_pI]
          by_cases z : j = x2.toInt.toNat
          · rw [if_pos ⟨rfl, z⟩, if_pos z]
          · rw [if_neg (fun q => z q.2), if_neg z, zI_pI, if_neg (by omega)]
        refine ⟨⟨e0, e5, e105⟩, fun j hj => ?_, fun j hj hw => ?_, ⟨by omega, by omega, ?_⟩, (F.pI (by decide)).pI (by decide), (G.pI (by decide)).pI (by decide)⟩
        · rw [c32, c33, c102, c103]
          by_cases z : j = x2.toInt.toNat
          · rw [if_pos z, if_pos z, if_pos z, if_pos z]
            exact ⟨i1, i2, k⟩
          · rw [if_neg z, if_neg z, if_neg z, if_neg z]
            exact hl j (by omega)
        · have hw' : (j : Int) < (zS s 30 5).toInt := hw
          rw [c32, c33, c102, c103, if_neg (by omega), if_neg (by omega), if_neg (by omega), if_neg (by omega)]
          exact hi j (by omega) hw'
        · show x3.toInt + 1 ≤ (zS s 30 5).toInt
          omega
      refine Pc.mono (arr_l e31 h59 h40 n n' _ _ _ _ A2) (fun r hr => Pc_ift cm (Pc_gd (fun _ => Pc_jn (Pc_iff k' (Pc_gd (fun _ => Pc_vl (Pc_gd (fun _ => Pc_st (Pc_gd (fun _ => Pc_vl (Pc_gd (fun _ => Pc_st (Pc_vl (Pc_vl hr))))))))))))))
    · -- it is below
      have k' : zI t 103 x3.toInt.toNat = zS t 59 1 := Int32.toInt_inj.1 (by rw [jlt] at k; rw [y59, ← i2]; omega)
      refine Pc_iff k (Pc_gd (fun _ => Pc_b1 ?_))
      have nx : ∀ (s' t' : SS), zS s' 30 0 = zS t' 59 54 → (∀ k, zI s' 31 k = zI t' 105 k) → (∀ k, k ≠ 0 → zS s' 30 k = zS s 30 k) → zS t' 59 62 = zS t 59 62 → (∀ q j, q = 32 ∨ q = 33 → zI s' q j = zI s q j) → (∀ q j, q = 102 ∨ q = 103 → zI t' q j = zI t q j) → Frm [(30, 0)] [31, 32, 33] [] s0 s' → Frm [(59, 54)] [102, 103, 105] [] t0 t' → AI s0 t0 s' t' y.toInt x2.toInt (x3 + 1).toInt := by
        intro s' t' a1 a2 a3 a4 a5 a6 F' G'
        rw [n3]
        refine ⟨⟨a1, by rw [a3 5 (by omega), a4]; exact e5, a2⟩, fun j hj => ?_, fun j hj hw => ?_, ⟨by omega, by omega, by rw [a3 5 (by omega)]; omega⟩, F', G'⟩
        · rw [a5 32 j (by omega), a5 33 j (by omega), a6 102 j (by omega), a6 103 j (by omega)]
          exact hl j hj
        · rw [a5 32 j (by omega), a5 33 j (by omega), a6 102 j (by omega), a6 103 j (by omega)]
          rw [a3 5 (by omega)] at hw
          exact hi j (by omega) hw
      unfold f_X9_comesBelow
      rw [i1]
      refine Pc_vl (Pc_if (fun z => Pc_vl (Pc_st (Pc_some (Pc_vl ?_)))) (fun z => Pc_lt (fun z2 => Pc_gd (fun _ => Pc_vl (Pc_gd (fun _ => Pc_st (Pc_some (Pc_vl ?_)))))) (fun z2 => Pc_some (Pc_vl ?_))))
      · have A2 := nx (pS s 30 0 (zS s 30 0 + zI t 102 x3.toInt.toNat / 10)) (pS t 59 54 (zS t 59 54 + zI t 102 x3.toInt.toNat / 10)) (by show zS s 30 0 + _ = zS t 59 54 + _; rw [e0]) e105 (fun k hk => by rw [zS_pS, if_neg (by omega)]) rfl (fun _ _ _ => rfl) (fun _ _ _ => rfl) (F.pS (by decide)) (G.pS (by decide))
        exact Pc.mono (arr_l e31 h59 h40 n n' _ _ _ _ A2) (fun r hr => Pc_ift cm (Pc_gd (fun _ => Pc_jn (Pc_ift k' (Pc_gd (fun _ => Pc_ift z (Pc_gd (fun _ => Pc_vl (Pc_st (Pc_vl hr))))))))))
      · have A2 := nx (pI s 31 (zI t 102 x3.toInt.toNat % 10).toInt.toNat (zI s 31 (zI t 102 x3.toInt.toNat % 10).toInt.toNat + 1)) (pI t 105 (zI t 102 x3.toInt.toNat % 10).toInt.toNat (zI t 105 (zI t 102 x3.toInt.toNat % 10).toInt.toNat + 1)) e0 (fun k => by
          rw [zI_pI, zI_pI, e105]
          by_cases q : k = (zI t 102 x3.toInt.toNat % 10).toInt.toNat
          · rw [if_pos ⟨rfl, q⟩, if_pos ⟨rfl, q⟩]
          · rw [if_neg (fun u => q u.2), if_neg (fun u => q u.2)]; exact e105 k) (fun _ _ => rfl) rfl (fun q j h => by rw [zI_pI, if_neg (by omega)]) (fun q j h => by rw [zI_pI, if_neg (by omega)]) (F.pI (by decide)) (G.pI (by decide))
        exact Pc.mono (arr_l e31 h59 h40 n n' _ _ _ _ A2) (fun r hr => Pc_ift cm (Pc_gd (fun _ => Pc_jn (Pc_ift k' (Pc_gd (fun _ => Pc_iff z (Pc_gd (fun _ => Pc_vl (Pc_gd (fun _ => Pc_vl (Pc_vl (Pc_gd (fun _ => Pc_st (Pc_vl hr))))))))))))))
      · refine fun r hr => Pc_ift cm (Pc_gd (fun _ => Pc_jn (Pc_ift k' (Pc_gd (fun _ => Pc_iff z (Pc_gd (fun _ => Pc_vl (Pc_gd (fun g => ?_)))))))))
        exfalso
        have g1 := g.1
        rw [jl0] at z2
        exact z (Int32.toInt_inj.1 (by rw [jl0]; omega))
theorem arr_p {y : Int32} (Q : QStoH (y.toInt - 1) s t) (h59 : zS t 59 1 = y) (h40 : 0 ≤ (zS s 30 5).toInt ∧ (zS s 30 5).toInt ≤ 40) : Pc (f_X9_arrivals s y) (fun r => Pc (f_X12_comeDown t) (fun u => AR s t y.toInt r u)) := by
  obtain ⟨q1, q2, q3, q4, q5⟩ := Q
  exact arr_l q2 h59 h40.2 4000 4000 s t 0 0 ⟨⟨q1, q3, q4⟩, fun j hj => by rw [jl0] at hj; omega, fun j _ hj => ⟨(q5 j (by omega) hj).1, (q5 j (by omega) hj).2.1, by have := (q5 j (by omega) hj).2.2; omega⟩, ⟨by decide, by decide, by rw [jl0]; exact h40.1⟩, Frm.rf, Frm.rf⟩
end ARs
/-! EATING -/
theorem QStoH.d {h : Int} {s t s' t' : SS} (R : QStoH h s t) (h30 : ∀ k, zS s' 30 k = zS s 30 k) (h1 : ∀ q i, 31 ≤ q → q ≤ 33 → zI s' q i = zI s q i) (m : ∀ k, k = 54 ∨ k = 55 ∨ k = 62 → zS t' 59 k = zS t 59 k) (n : ∀ q i, 102 ≤ q → q ≤ 103 ∨ q = 105 → zI t' q i = zI t q i) : QStoH h s' t' := by
  unfold QStoH
  simp only [h30, h1 31 _ (by omega) (by omega), h1 32 _ (by omega) (by omega), h1 33 _ (by omega) (by omega), m 54 (by omega), m 55 (by omega), m 62 (by omega), n 102 _ (by omega) (by omega), n 103 _ (by omega) (by omega), n 105 _ (by omega) (by omega)]
  exact R
/-- nothing that the relation reads has changed -/
theorem Q4h.c {h : Int} {s t s' t' : SS} (Q : Q4h h s t) (S : Sh s) (hL : s'.2.2.2 = s.2.2.2) (b3 : (zS s 15 3).toInt ≤ 120) (hS : ∀ q k, vS q k = true → q < 59 ∨ 126 ≤ q → zS s' q k = zS s q k) (hI : ∀ q i, vI q = true → q < 59 ∨ 126 ≤ q → zI s' q i = zI s q i) (mS : ∀ k, vS 59 k = true → zS t' 59 k = zS t 59 k) (mI : ∀ q i, vI q = true → 59 ≤ q → q < 126 → zI t' q i = zI t q i) (mJ : ∀ i, zJ t' 122 i = zJ t 122 i) : Q4h h s' t' := by
  obtain ⟨Q1, Q2, Q3, Q5, Q6, Q7, Q8, Q9, Q10, Q11, Q12, Q13, Q14⟩ := Q
  have eR : ∀ q i, zR s' q i = zR s q i := fun q i => by unfold zR; rw [hL]
  have eN : ∀ q, zN s' q = zN s q := fun q => by unfold zN; rw [hL]
  have dS : ∀ q k, 126 ≤ q → zS s' q k = zS s q k := fun q k h => hS q k (vS_d h) (Or.inr h)
  have dI : ∀ q j, 126 ≤ q → zI s' q j = zI s q j := fun q j h => hI q j (vI_d h) (Or.inr h)
  have sS : ∀ q k, q < 59 → vS q k = true → zS s' q k = zS s q k := fun q k h1 h2 => hS q k h2 (Or.inl h1)
  have sI : ∀ q k, q < 59 → vI q = true → zI s' q k = zI s q k := fun q k h1 h2 => hI q k h2 (Or.inl h1)
  refine ⟨Q1.c S dS dI (eR 17) (fun q j h1 h2 => mI q j ?_ (by omega) (by omega)), Q2.c (fun i => sI 7 i (by omega) rfl) (fun i => sI 8 i (by omega) rfl) (fun i => sI 10 i (by omega) rfl) (fun i => sI 16 i (by omega) rfl) (sS 15 3 (by omega) rfl) (sS 6 4 (by omega) rfl) (fun i => mI 74 i rfl (by omega) (by omega)) (fun i => mI 75 i rfl (by omega) (by omega)) (fun i => mI 77 i rfl (by omega) (by omega)), Q3.c (fun k h => sS 0 k (by omega) (by rcases h with rfl | rfl <;> rfl)) (sS 15 4 (by omega) rfl) (eR 17) (fun i => mI 67 i rfl (by omega) (by omega)) (fun i => mI 69 i rfl (by omega) (by omega)), Q5.c (sS 0 18 (by omega) rfl) (sS 0 14 (by omega) rfl) (fun i => mI 69 i rfl (by omega) (by omega)), Q6.d (fun k => sS 30 k (by omega) rfl) (fun q i h1 h2 => sI q i (by omega) ?_) (fun k h => mS k (by rcases h with rfl | rfl | rfl <;> rfl)) (fun q i h1 h2 => mI q i ?_ (by omega) (by omega)), Q7.c (fun k h1 h2 => sS 15 k (by omega) (Nat.ble_eq.mpr h2)) (fun k h1 h2 => mS k ?_), Q8.c (fun i hi => sS _ 2 (by omega) ?_) (fun i => mI 80 i rfl (by omega) (by omega)), Q9.c (fun k h1 h2 => sS 6 k (by omega) ?_) (fun i => sI 13 i (by omega) rfl) (fun k h => mS k (by rcases h with rfl | rfl <;> rfl)) (fun i => mI 116 i rfl (by omega) (by omega)) (fun i => mI 118 i rfl (by omega) (by omega)), Q10.c (by rw [sS 15 3 (by omega) rfl]; exact Int.le_refl _) (fun i _ h => by rw [eR]; exact h) b3 (fun i => mI 79 i rfl (by omega) (by omega)), Q11.c S (sS 0 5 (by omega) rfl) dS dI (eR 23) (fun q j h1 h2 => mI q j ?_ (by omega) (by omega)), Q12.c S (sS 0 8 (by omega) rfl) dS dI (eR 27) (fun q _ => eN q) (fun q j h1 h2 => mI q j ?_ (by omega) (by omega)), Q13.c (fun q i h => mI q i (by rcases h with rfl | rfl <;> rfl) (by omega) (by omega)) mJ, Q14.d (fun i => mI 68 i rfl (by omega) (by omega))⟩
  · have h : q = 63 ∨ q = 64 ∨ q = 65 ∨ q = 66 ∨ q = 67 ∨ q = 68 ∨ q = 69 ∨ q = 70 ∨ q = 71 ∨ q = 72 ∨ q = 73 ∨ q = 104 := by omega
    rcases h with rfl | rfl | rfl | rfl | rfl | rfl | rfl | rfl | rfl | rfl | rfl | rfl <;> rfl
  · have h : q = 31 ∨ q = 32 ∨ q = 33 := by omega
    rcases h with rfl | rfl | rfl <;> rfl
  · have h : q = 102 ∨ q = 103 ∨ q = 105 := by omega
    rcases h with rfl | rfl | rfl <;> rfl
  · have h : k = 22 ∨ k = 23 ∨ k = 24 ∨ k = 25 := by omega
    rcases h with rfl | rfl | rfl | rfl <;> rfl
  · have h : i = 0 ∨ i = 1 ∨ i = 2 := by omega
    rcases h with rfl | rfl | rfl <;> rfl
  · have h : k = 10 ∨ k = 11 ∨ k = 12 := by omega
    rcases h with rfl | rfl | rfl <;> rfl
  · have h : q = 81 ∨ q = 82 ∨ q = 83 ∨ q = 84 ∨ q = 85 := by omega
    rcases h with rfl | rfl | rfl | rfl | rfl <;> rfl
  · have h : q = 87 ∨ q = 88 ∨ q = 89 ∨ q = 90 ∨ q = 91 ∨ q = 92 ∨ q = 93 ∨ q = 94 := by omega
    rcases h with rfl | rfl | rfl | rfl | rfl | rfl | rfl | rfl <;> rfl
/-- by frames -/
theorem Q4h.f {h : Int} {WS WS' : List (Nat × Nat)} {WI WJ WI' WJ' : List Nat} {s t s' t' : SS} (Q : Q4h h s t) (S : Sh s) (b3 : (zS s 15 3).toInt ≤ 120) (F : Frm WS WI WJ s s') (G : Frm WS' WI' WJ' t t') (h1 : WS.all (fun p => !vS p.1 p.2) = true) (h2 : WI.all (fun q => !vI q) = true) (h3 : WS'.all (fun p => !vS p.1 p.2) = true) (h4 : WI'.all (fun q => !vI q) = true) (h5 : WJ'.contains 122 = false) : Q4h h s' t' := by
  refine Q.c S F.2.2.2 b3 (fun q k e _ => F.1 q k (nct h1 ?_)) (fun q i e _ => F.2.1 q i (nct h2 ?_)) (fun k e => G.1 59 k (nct h3 ?_)) (fun q i e _ _ => G.2.1 q i (nct h4 ?_)) (fun i => G.2.2.1 122 i h5)
  · show (!vS q k) = false
    rw [e]; rfl
  · show (!vI q) = false
    rw [e]; rfl
  · show (!vS 59 k) = false
    rw [e]; rfl
  · show (!vI q) = false
    rw [e]; rfl
def bS (q k : Nat) : Bool := match q with
  | 0 => Nat.beq k 5 || Nat.beq k 8 || Nat.beq k 14 || Nat.beq k 15
  | 1 => Nat.beq k 4
  | 15 => Nat.beq k 3 || Nat.beq k 5
  | 20 => Nat.ble k 1
  | 21 => Nat.ble k 1
  | 22 => Nat.ble k 1
  | 59 => Nat.beq k 1 || Nat.beq k 4 || Nat.beq k 21 || Nat.beq k 29 || Nat.beq k 30 || Nat.beq k 38 || Nat.beq k 56
  | _ => Nat.ble 126 q
def bI (q : Nat) : Bool := match q with
  | 2 => true
  | 3 => true
  | 4 => true
  | 5 => true
  | 9 => true
  | 16 => true
  | 60 => true
  | 61 => true
  | 62 => true
  | 76 => true
  | 78 => true
  | 79 => true
  | 97 => true
  | 98 => true
  | _ => false
theorem bS_d {q k : Nat} (h : 126 ≤ q) : bS q k = true := by
  unfold bS
  split <;> first | omega | exact Nat.ble_eq.mpr h
theorem B1.f {WS WS' : List (Nat × Nat)} {WI WJ WI' WJ' : List Nat} {s t s' t' : SS} (B : B1 s t) (F : Frm WS WI WJ s s') (G : Frm WS' WI' WJ' t t') (h1 : WS.all (fun p => !bS p.1 p.2) = true) (h2 : WI.all (fun q => !bI q) = true) (h3 : WS'.all (fun p => !bS p.1 p.2) = true) (h4 : WI'.all (fun q => !bI q) = true) (hb : ∀ q k v, WS.contains (q, k) = true → bF q k v) : B1 s' t' := by
  have eS : ∀ q k, bS q k = true → zS s' q k = zS s q k := fun q k e => F.1 q k (nct h1 (by show (!bS q k) = false; rw [e]; rfl))
  have eI : ∀ q i, bI q = true → zI s' q i = zI s q i := fun q i e => F.2.1 q i (nct h2 (by show (!bI q) = false; rw [e]; rfl))
  have mS : ∀ k, bS 59 k = true → zS t' 59 k = zS t 59 k := fun k e => G.1 59 k (nct h3 (by show (!bS 59 k) = false; rw [e]; rfl))
  have mI : ∀ q i, bI q = true → zI t' q i = zI t q i := fun q i e => G.2.1 q i (nct h4 (by show (!bI q) = false; rw [e]; rfl))
  obtain ⟨⟨⟨a1, a2, a3, a4, a5⟩, b, c, d, e, f, g, k⟩, ⟨t1, t2, t3, t4, t5⟩, kx, cx⟩ := B
  refine ⟨⟨⟨by rw [eS 15 3 rfl, mS 4 rfl]; exact a1, by rw [eS 15 5 rfl, mS 21 rfl]; exact a2, by rw [eS 0 5 rfl, mS 30 rfl]; exact a3, by rw [eS 0 8 rfl, mS 38 rfl]; exact a4, by rw [eS 0 15 rfl, mS 29 rfl]; exact a5⟩, fun x => by rw [eI 16 x rfl, mI 62 x rfl]; exact b x, fun x => by rw [eI 9 x rfl, mI 76 x rfl]; exact c x, fun x hx => ?_, e.c (eS 15 3 rfl) (fun i => eI 16 i rfl) (fun i => F.zR_ 17 i), F.Sh_ f, fun q k' hq => ?_, fun q k' hT => ?_⟩, ⟨by rw [eS 0 14 rfl, mS 1 rfl]; exact t1, by rw [eS 1 4 rfl, mS 56 rfl]; exact t2, fun x => by rw [eI 4 x rfl, mI 97 x rfl]; exact t3 x, fun x => by rw [eI 5 x rfl, mI 98 x rfl]; exact t4 x, by rw [eS 0 14 rfl]; exact t5⟩, fun x y h1 h2 h3 => by rw [eI 2 _ rfl, eI 3 _ rfl, mI 60 _ rfl, mI 61 _ rfl]; exact kx x y h1 h2 h3, fun x => by rw [mI 97 x rfl]; exact cx x⟩
  · have h : x = 0 ∨ x = 1 ∨ x = 2 := by omega
    have u0 : zS s' (20 + x) 0 = zS s (20 + x) 0 := eS _ _ (by rcases h with rfl | rfl | rfl <;> rfl)
    have u1 : zS s' (20 + x) 1 = zS s (20 + x) 1 := eS _ _ (by rcases h with rfl | rfl | rfl <;> rfl)
    rw [u0, u1, mI 78 x rfl, mI 79 x rfl]
    exact d x hx
  · cases ec : WS.contains (q, k') with
    | true => exact hb q k' _ ec
    | false => rw [F.1 q k' ec]; exact g q k' hq
  · have hT' : zT s q = 3 := by
      have : zT s' q = zT s q := by unfold zT; rw [F.2.2.2]
      rw [← this]; exact hT
    by_cases hq : 126 ≤ q
    · rw [eS q k' (bS_d hq)]; exact k q k' hT'
    · exfalso
      have := (f.2.1 q (by omega)).1
      rw [hT'] at this
      have h126 : ∀ q, q < 126 → T0 q ≠ 3 := by decide +kernel
      exact h126 q (by omega) this.symm
/-- the text in force does not change by what is eaten -/
theorem fst_c {t t' : SS} (h4 : zS t' 59 4 = zS t 59 4) (h69 : ∀ i, zI t' 69 i = zI t 69 i) : ∀ (n : Nat) (x1 x2 : Int32), f_X12_firstThrough_L6 t' n x1 x2 = f_X12_firstThrough_L6 t n x1 x2
  | 0, _, _ => rfl
  | n + 1, x1, x2 => by
    show f_X12_firstThrough_L6_b t' (f_X12_firstThrough_L6 t' n) x1 x2 = f_X12_firstThrough_L6_b t (f_X12_firstThrough_L6 t n) x1 x2
    unfold f_X12_firstThrough_L6_b
    simp only [h4, h69, fst_c h4 h69 n]
theorem frc_c1 {t t' : SS} {y1 y2 y3 y4 : Int32} (h : ∀ q i, 87 ≤ q → q ≤ 89 → zI t' q i = zI t q i) : ∀ (n : Nat) (x : Int32), f_X12_forceOf_L23 t' y1 y2 y3 y4 n x = f_X12_forceOf_L23 t y1 y2 y3 y4 n x
  | 0, _ => rfl
  | n + 1, x => by
    show f_X12_forceOf_L23_b t' y1 y2 y3 y4 (f_X12_forceOf_L23 t' y1 y2 y3 y4 n) x = f_X12_forceOf_L23_b t y1 y2 y3 y4 (f_X12_forceOf_L23 t y1 y2 y3 y4 n) x
    unfold f_X12_forceOf_L23_b
    simp only [h 87 _ (by omega) (by omega), h 88 _ (by omega) (by omega), h 89 _ (by omega) (by omega), frc_c1 h n]
theorem frc_c {t t' : SS} {w a b : Int32} (h4 : zS t' 59 4 = zS t 59 4) (h38 : zS t' 59 38 = zS t 59 38) (h69 : ∀ i, zI t' 69 i = zI t 69 i) (h : ∀ q i, 87 ≤ q → q ≤ 89 → zI t' q i = zI t q i) : f_X12_forceOf t' w a b = f_X12_forceOf t w a b := by
  unfold f_X12_forceOf f_X12_firstThrough
  simp only [fst_c h4 h69, frc_c1 h, h38]
/-! MEN EAT -/
theorem heldM (a lo hi : Int32) : f_X12_held a lo hi = some (if a < lo then lo else if hi < a then hi else a) := by
  unfold f_X12_held
  by_cases c : a < lo
  · rw [if_pos c, if_pos c]
  · rw [if_neg c, if_neg c]
    by_cases d : hi < a
    · rw [if_pos d, if_pos d]
    · rw [if_neg d, if_neg d]
theorem heldXM {a lo hi : Int32} (h : lo.toInt ≤ hi.toInt) : f_X11_held a lo hi = some (if a < lo then lo else if hi < a then hi else a) := by
  unfold f_X11_held
  rw [minJ, b1_some]
  by_cases g : a < hi
  · rw [if_pos g, maxJ, b1_some]
    rw [jlt] at g
    by_cases c : a < lo
    · rw [if_pos c]
      rw [jlt] at c
      rw [if_neg (by rw [jlt]; omega)]
    · rw [if_neg c]
      rw [jlt] at c
      rw [if_neg (show ¬ hi < a by rw [jlt]; omega)]
      by_cases e : lo < a
      · rw [if_pos e]
      · rw [if_neg e]
        rw [jlt] at e
        exact congrArg some (Int32.toInt_inj.1 (by omega))
  · rw [if_neg g, maxJ, b1_some]
    rw [jlt] at g
    by_cases c : a < lo
    · rw [if_pos c]
      rw [jlt] at c
      rw [if_neg (by rw [jlt]; omega)]
    · rw [if_neg c]
      have e : (if lo < hi then hi else lo) = hi := by
        by_cases e : lo < hi
        · rw [if_pos e]
        · rw [if_neg e]
          rw [jlt] at e
          exact Int32.toInt_inj.1 (by omega)
      rw [e]
      by_cases d : hi < a
      · rw [if_pos d]
      · rw [if_neg d]
        rw [jlt] at d
        exact congrArg some (Int32.toInt_inj.1 (by omega))
theorem minXM (a b : Int32) : (if b < a then b else a) = (if a < b then a else b) := by
  by_cases c : b < a
  · rw [if_pos c, if_neg (by rw [jlt] at c ⊢; omega)]
  · rw [if_neg c]
    by_cases d : a < b
    · rw [if_pos d]
    · rw [if_neg d]
      rw [jlt] at c d
      exact Int32.toInt_inj.1 (by omega)
section EAs
variable {s t s0 t0 : SS}
theorem Q4h.et {h : Int} {n : Nat} {a b v : Int32} (Q : Q4h h s t) (S : Sh s) (b3 : (zS s 15 3).toInt ≤ 120) : Q4h h (pI (pS (pS s 30 0 a) 30 1 b) 7 n v) (pI (pS (pS t 59 54 a) 59 55 b) 74 n v) := by
  obtain ⟨Q1, Q2, Q3, Q5, Q6, Q7, Q8, Q9, Q10, Q11, Q12, Q13, Q14⟩ := Q
  have dS : ∀ q k, 126 ≤ q → zS (pI (pS (pS s 30 0 a) 30 1 b) 7 n v) q k = zS s q k := fun q k hq => by rw [zS_pI, zS_pS, if_neg (by omega), zS_pS, if_neg (by omega)]
  have dI : ∀ q j, q ≠ 7 → zI (pI (pS (pS s 30 0 a) 30 1 b) 7 n v) q j = zI s q j := fun q j hq => by rw [zI_pI, if_neg (by omega)]; rfl
  have mI : ∀ q j, q ≠ 74 → zI (pI (pS (pS t 59 54 a) 59 55 b) 74 n v) q j = zI t q j := fun q j hq => by rw [zI_pI, if_neg (by omega)]; rfl
  refine ⟨Q1.c S dS (fun q j h => dI q j (by omega)) (fun _ => rfl) (fun q j h1 h2 => mI q j (by omega)), ⟨fun i hi => ?_, Q2.2⟩, Q3, Q5, ⟨rfl, rfl, Q6.2.2.1, Q6.2.2.2⟩, Q7, Q8.c (fun i hi => by rw [zS_pI, zS_pS, if_neg (by omega), zS_pS, if_neg (by omega)]) (fun _ => rfl), Q9, Q10, Q11.c S rfl dS (fun q j h => dI q j (by omega)) (fun _ => rfl) (fun q j h1 h2 => mI q j (by omega)), Q12.c S rfl dS (fun q j h => dI q j (by omega)) (fun _ => rfl) (fun _ _ => rfl) (fun q j h1 h2 => mI q j (by omega)), Q13, Q14⟩
  obtain ⟨m1, m2, m3, m4, m5⟩ := Q2.1 i hi
  refine ⟨?_, m2, m3, m4, m5⟩
  rw [zI_pI, zI_pI]
  by_cases z : i = n
  · rw [if_pos ⟨rfl, z⟩, if_pos ⟨rfl, z⟩]
  · rw [if_neg (fun w => z w.2), if_neg (fun w => z w.2)]
    exact m1
def ER (h : Int) (s0 t0 r u : SS) : Prop := Q4h h r u ∧ B1 r u ∧ Frm [(30, 0), (30, 1)] [7, 28, 29] [] s0 r ∧ Frm [(59, 54), (59, 55)] [74, 95, 96] [] t0 u
theorem bF30 : ∀ q k v, ([(30, 0), (30, 1)] : List (Nat × Nat)).contains (q, k) = true → bF q k v := by
  intro q k v h
  have : (q, k) = (30, 0) ∨ (q, k) = (30, 1) := by simpa using h
  rcases this with z | z <;> (cases z; exact trivial)
theorem eat_l {h : Int} {y1 : Int32} (hy : y1 = -2 ∨ (0 ≤ y1.toInt ∧ y1.toInt < (zS s0 0 8).toInt)) (hf : ∀ r', f_X12_forceOf t0 10 (zS t0 59 1) (zS t0 59 1) = some r' → r' = y1) : ∀ (n n' : Nat) (s t : SS) (x : Int32), 0 ≤ x.toInt → ER h s0 t0 s t → Pc (f_X11_menEat_L17 y1 n s x) (fun r => Pc (f_X12_eat_L2 n' t x) (fun u => ER h s0 t0 r u))
  | 0, _, _, _, _, _, _ => Pc_none
  | n + 1, 0, _, _, _, _, _ => fun _ _ => Pc_none
  | n + 1, n' + 1, s, t, x, hx, E => by
    obtain ⟨Q, B, F, G⟩ := id E
    have b := B.1.tot
    have S := B.1.sh
    show Pc (f_X11_menEat_L17_b y1 (f_X11_menEat_L17 y1 n) s x) (fun r => Pc (f_X12_eat_L2_b (f_X12_eat_L2 n') t x) _)
    unfold f_X11_menEat_L17_b f_X12_eat_L2_b
    by_cases c : x.toInt < (zS s 15 3).toInt
    case neg => exact Pc_iff (by rw [jlt]; exact c) (Pc_some (Pc_iff (by rw [jlt, ← b.1]; exact c) (Pc_some E)))
    have cm : x < zS t 59 4 := by rw [jlt, ← b.1]; exact c
    have n1 : (x + 1).toInt = x.toInt + 1 := by rw [i32_add (by rw [jl1]; omega) (by rw [jl1]; omega), jl1]
    obtain ⟨m1, m2, m3, m4, m5⟩ := Q.2.1.1 x.toInt.toNat (by omega)
    refine Pc_ift (by rw [jlt]; exact c) (Pc_gd (fun _ => Pc_jn ?_))
    rcases m4 with z | z
    · refine Pc_iff (by rw [z]; decide) (Pc_vl (Pc.mono (eat_l hy hf n n' s t _ (by omega) E) (fun r hr => Pc_ift cm (Pc_gd (fun _ => Pc_jn (Pc_ift (by rw [← m3]; exact z) (Pc_vl hr)))))))
    · have k7 := m5 z
      have e8 : zS s 0 8 = zS s0 0 8 := F.1 0 8 (by decide)
      have e59 : zS t 59 1 = zS t0 59 1 := G.1 59 1 (by decide)
      have fc : f_X12_forceOf t 10 (zS t 59 1) (zS t 59 1) = f_X12_forceOf t0 10 (zS t0 59 1) (zS t0 59 1) := by
        rw [e59]
        refine frc_c (G.1 59 4 (by decide)) (G.1 59 38 (by decide)) (fun i => G.2.1 69 i (by decide)) (fun q i h1 h2 => G.2.1 q i ?_)
        have : q = 87 ∨ q = 88 ∨ q = 89 := by omega
        rcases this with rfl | rfl | rfl <;> decide
      have gv := gv_p (w := 10) (use := 0) (man := x) (wo := 1) (r := y1) B Q.w rfl (Or.inr ⟨hx, c, k7.2⟩) (by rw [e8]; exact hy) (fun r' er => hf r' (fc.symm.trans er))
      have fx := v_X11_given (WS := []) (WI := [28, 29]) (WJ := []) (b := s) (s0 := s) (a0 := y1) (a1 := 0) (a2 := x) S (by decide) (by decide) Frm.rf
      refine Pc_ift z (Pc_bd (Pc.mono (gv.and fx) (fun x7 h7 => ?_)))
      obtain ⟨g7, f7⟩ := h7
      generalize x7.2 = s7 at f7 ⊢
      generalize x7.1 = r7 at g7 ⊢
      rw [heldXM (by decide)]
      generalize hr8 : (if r7 < 0 then (0 : Int32) else if (9 : Int32) < r7 then 9 else r7) = r8
      refine Pc_b1S (Pc_bd ?_)
      unfold f_X9_eats
      rw [minJ]
      refine Pc_b1S (Pc_vl (Pc_st (Pc_vl (Pc_st (Pc_some (Pc_gd (fun _ => ?_)))))))
      unfold f_X2_afterDay
      rw [heldXM (by decide)]
      refine Pc_b1 (Pc_b1S (Pc_some (Pc_gd (fun _ => Pc_st (Pc_vl ?_)))))
      -- what the next round begins with, whatever the reference's scratch is
      have nxt : ∀ s6, Frm [] [95, 96] [] t s6 → ∀ by_ : Int32, by_ = (if zS s7 30 0 < r8 then zS s7 30 0 else r8) → ER h s0 t0 (pI (pS (pS s7 30 0 (zS s7 30 0 - by_)) 30 1 (zS s7 30 1 + by_)) 7 x.toInt.toNat (if zI s7 7 x.toInt.toNat - 6 + 2 * by_ < 0 then 0 else if 999 < zI s7 7 x.toInt.toNat - 6 + 2 * by_ then 999 else zI s7 7 x.toInt.toNat - 6 + 2 * by_)) (pI (pS (pS s6 59 54 (zS s6 59 54 - by_)) 59 55 (zS s6 59 55 + by_)) 74 x.toInt.toNat (if zI s6 74 x.toInt.toNat - 6 + 2 * by_ < 0 then 0 else if 999 < zI s6 74 x.toInt.toNat - 6 + 2 * by_ then 999 else zI s6 74 x.toInt.toNat - 6 + 2 * by_)) := by
        intro s6 f6 by_ _
        have Q7 : Q4h h s7 s6 := Q.f S b.2.2 f7 f6 (by decide) (by decide) (by decide) (by decide) (by decide)
        have B7 : B1 s7 s6 := B.f f7 f6 (by decide) (by decide) (by decide) (by decide) (fun q k v hc => by cases hc)
        have e54 : zS s6 59 54 = zS s7 30 0 := Q7.2.2.2.2.1.1.symm
        have e55 : zS s6 59 55 = zS s7 30 1 := Q7.2.2.2.2.1.2.1.symm
        have e74 : zI s6 74 x.toInt.toNat = zI s7 7 x.toInt.toNat := (Q7.2.1.1 x.toInt.toNat (by omega)).1.symm
        rw [e54, e55, e74]
        have X : Frm [(30, 0), (30, 1)] [7, 28, 29] [] s7 (pI (pS (pS s7 30 0 (zS s7 30 0 - by_)) 30 1 (zS s7 30 1 + by_)) 7 x.toInt.toNat (if zI s7 7 x.toInt.toNat - 6 + 2 * by_ < 0 then 0 else if 999 < zI s7 7 x.toInt.toNat - 6 + 2 * by_ then 999 else zI s7 7 x.toInt.toNat - 6 + 2 * by_)) := ((Frm.rf.pS (by decide)).pS (by decide)).pI (by decide)
        have Y : Frm [(59, 54), (59, 55)] [74, 95, 96] [] s6 (pI (pS (pS s6 59 54 (zS s7 30 0 - by_)) 59 55 (zS s7 30 1 + by_)) 74 x.toInt.toNat (if zI s7 7 x.toInt.toNat - 6 + 2 * by_ < 0 then 0 else if 999 < zI s7 7 x.toInt.toNat - 6 + 2 * by_ then 999 else zI s7 7 x.toInt.toNat - 6 + 2 * by_)) := ((Frm.rf.pS (by decide)).pS (by decide)).pI (by decide)
        exact ⟨Q7.et B7.1.sh B7.1.tot.2.2, B7.f X Y (by decide) (by decide) (by decide) (by decide) bF30, (F.tr (f7.mo (by decide) (by decide) (by decide))).tr X, (G.tr (f6.mo (by decide) (by decide) (by decide))).tr Y⟩
      have cls : ∀ s6, Frm [] [95, 96] [] t s6 → Pc (f_X11_menEat_L17 y1 n (pI (pS (pS s7 30 0 (zS s7 30 0 - (if zS s7 30 0 < r8 then zS s7 30 0 else r8))) 30 1 (zS s7 30 1 + (if zS s7 30 0 < r8 then zS s7 30 0 else r8))) 7 x.toInt.toNat (if zI s7 7 x.toInt.toNat - 6 + 2 * (if zS s7 30 0 < r8 then zS s7 30 0 else r8) < 0 then 0 else if 999 < zI s7 7 x.toInt.toNat - 6 + 2 * (if zS s7 30 0 < r8 then zS s7 30 0 else r8) then 999 else zI s7 7 x.toInt.toNat - 6 + 2 * (if zS s7 30 0 < r8 then zS s7 30 0 else r8))) (x + 1)) (fun r => Pc (f_X12_eat_L2 n' (pI (pS (pS s6 59 54 (zS s6 59 54 - (if zS s7 30 0 < r8 then zS s7 30 0 else r8))) 59 55 (zS s6 59 55 + (if zS s7 30 0 < r8 then zS s7 30 0 else r8))) 74 x.toInt.toNat (if zI s6 74 x.toInt.toNat - 6 + 2 * (if zS s7 30 0 < r8 then zS s7 30 0 else r8) < 0 then 0 else if 999 < zI s6 74 x.toInt.toNat - 6 + 2 * (if zS s7 30 0 < r8 then zS s7 30 0 else r8) then 999 else zI s6 74 x.toInt.toNat - 6 + 2 * (if zS s7 30 0 < r8 then zS s7 30 0 else r8))) (x + 1)) (fun u => ER h s0 t0 r u)) := fun s6 f6 => eat_l hy hf n n' _ _ _ (by omega) (nxt s6 f6 _ rfl)
      intro r hr
      have mx := v_X12_saysNow (WS := []) (WI := [95, 96]) (WJ := []) (b := t) (s0 := t) (a0 := 10) (a1 := x) (a2 := 1) (by decide) (by decide) Frm.rf
      refine Pc_ift cm (Pc_gd (fun _ => Pc_jn (Pc_iff (by rw [← m3, z]; decide) (Pc_bd (Pc.mono (g7.and mx) (fun m6 h6 => ?_))))))
      obtain ⟨e6, f6⟩ := h6
      generalize m6.2 = s6 at f6 ⊢
      rw [e6, heldM, hr8]
      have e54 : zS s6 59 54 = zS s7 30 0 := by
        rw [f6.1 59 54 (by decide), f7.1 30 0 (by decide)]
        exact Q.2.2.2.2.1.1.symm
      have K := cls s6 f6 r hr
      refine Pc_b1S (Pc_jn ?_)
      have go : ∀ by_, by_ = (if zS s7 30 0 < r8 then zS s7 30 0 else r8) → Pc (vl (((zS s6 59 54) - by_)) fun v10 => (st (pS s6 59 54 v10) fun s11 => (vl (((zS s11 59 55) + by_)) fun v12 => (st (pS s11 59 55 v12) fun s13 => (gd (inB x 120) (b1 (f_X12_held (((zI s13 74 (x.toInt.toNat)) - (6 : Int32)) + ((2 : Int32) * by_)) (0 : Int32) (999 : Int32)) fun r15 => (gd (inB x 120) (st (pI s13 74 (x.toInt.toNat) r15) fun s17 => (vl (x + 1) fun v4 => (f_X12_eat_L2 n' s17 v4))))))))) ) (fun u => ER h s0 t0 r u) := by
        intro by_ eb
        refine Pc_vl (Pc_st (Pc_vl (Pc_st (Pc_gd (fun _ => ?_)))))
        rw [heldM, eb]
        exact Pc_b1S (Pc_gd (fun _ => Pc_st (Pc_vl K)))
      by_cases d : r8 < zS s6 59 54
      · refine Pc_ift d (go r8 ?_)
        rw [e54] at d
        rw [minXM, if_pos d]
      · refine Pc_iff d (go _ ?_)
        rw [e54] at d ⊢
        rw [minXM, if_neg d]
end EAs
/-! BORING, ONE HOLE -/
section BOs
variable {s t s' t' : SS}
/-- what boring the hole n at p does -/
def BW (p n : Nat) (s t s' t' : SS) : Prop := HX s' p t' n ∧ hW p s s' ∧ (∀ q k, q < 126 → ¬ (q = 0 ∧ 16 ≤ k ∧ k ≤ 18) → zS s' q k = zS s q k) ∧ (∀ q j, q < 126 → zI s' q j = zI s q j) ∧ mW n t t' ∧ (∀ q k, zS t' q k = zS t q k) ∧ ((zS s' 0 16).toInt = (zS s 0 16).toInt + ((zS s' p 4).toInt - (zS s p 4).toInt) ∧ (zS s p 4).toInt ≤ (zS s' p 4).toInt) ∧ (zS s' 0 17).toInt = (zS s 0 17).toInt + ((zS s' p 6).toInt - (zS s p 6).toInt) ∧ ((zS s' p 6 = zS s p 6 ∧ zS s' 0 18 = zS s 0 18) ∨ (zS s p 6 = 0 ∧ zS s' p 6 = 1 ∧ zS s' 0 18 = (if zS s 0 14 < zS s 0 18 then zS s 0 14 else zS s 0 18))) ∧ (zI t' 69 n = zI t 69 n ∨ (zI t 69 n = 0 ∧ zI t' 69 n = zS t 59 1 + 1)) ∧ zS s' p 3 = zS s p 3 ∧ 0 ≤ (zI t' 68 n).toInt ∧ (zI t' 68 n).toInt ≤ (zI t 68 n).toInt
theorem BW.rf {p n : Nat} (h : HX s p t n) (h68 : 0 ≤ (zI t 68 n).toInt) : BW p n s t s t := ⟨h, hW.rf, fun _ _ _ _ => rfl, fun _ _ _ => rfl, mW.rf, fun _ _ => rfl, ⟨by omega, Int.le_refl _⟩, by omega, Or.inl ⟨rfl, rfl⟩, Or.inl rfl, rfl, h68, Int.le_refl _⟩
/-- what both need to be alike for it -/
def BE (s t : SS) : Prop := RKx s t ∧ zS s 0 14 = zS t 59 1 ∧ (0 ≤ (zS s 0 14).toInt ∧ (zS s 0 14).toInt ≤ 1699) ∧ zS s 15 5 = zS t 59 21 ∧ zS s 15 6 = zS t 59 22 ∧ zS s 15 7 = zS t 59 23 ∧ zS s 15 8 = zS t 59 24
theorem BE.w {p n : Nat} (E : BE s t) (W : BW p n s t s' t') : BE s' t' := by
  obtain ⟨e1, e2, e3, e4, e5, e6, e7⟩ := E
  obtain ⟨_, _, w3, w4, w5, w6, _⟩ := W
  refine ⟨fun c y h1 h2 h3 => ?_, by rw [w3 0 14 (by omega) (by omega), w6]; exact e2, by rw [w3 0 14 (by omega) (by omega)]; exact e3, by rw [w3 15 5 (by omega) (by omega), w6]; exact e4, by rw [w3 15 6 (by omega) (by omega), w6]; exact e5, by rw [w3 15 7 (by omega) (by omega), w6]; exact e6, by rw [w3 15 8 (by omega) (by omega), w6]; exact e7⟩
  rw [w4 2 _ (by omega), w4 3 _ (by omega), w5.2.2 60 _ (by omega) (by omega), w5.2.2 61 _ (by omega) (by omega)]
  exact e1 c y h1 h2 h3
theorem refX (c y : Int32) : f_X0_isRefuge s c y = some (if ¬ zS s 15 5 < 0 ∧ y = zS s 15 8 ∧ ¬ c < zS s 15 6 ∧ ¬ zS s 15 7 < c then 1 else 0) := by
  unfold f_X0_isRefuge
  by_cases a : zS s 15 5 < 0
  · rw [if_pos a, if_neg (fun z => z.1 a)]
  rw [if_neg a]
  by_cases b : y = zS s 15 8
  · rw [if_pos b]
    by_cases d : c < zS s 15 6
    · rw [if_pos d, if_neg (fun z => z.2.2.1 d)]
    rw [if_neg d]
    by_cases e : zS s 15 7 < c
    · rw [if_pos e, if_neg (fun z => z.2.2.2 e)]
    · rw [if_neg e, if_pos ⟨a, b, d, e⟩]
  · rw [if_neg b, if_neg (fun z => b z.2.1)]
/-- the states behind one yard -/
def b1X (s : SS) (p : Nat) (m c y f : Int32) : SS := pI (pS (pS (pS (pS s p 5 m) p 2 c) p 4 y) 0 16 (zS s 0 16 + 1)) (p + 2) y.toInt.toNat f
def b2X (s : SS) (p : Nat) (m c y f : Int32) : SS := pS (pS (pS (b1X s p m c y f) p 6 1) 0 17 (zS s 0 17 + 1)) 0 18 (if zS s 0 14 < zS s 0 18 then zS s 0 14 else zS s 0 18)
def b1M (t : SS) (n : Nat) (m c y f : Int32) : SS := pI (pI (pI (pI t 68 n m) 67 n y) 65 n c) 71 (61 * n + y.toInt.toNat) f
def b2M (t : SS) (n : Nat) (m c y f : Int32) : SS := pI (b1M t n m c y f) 69 n (zS t 59 1 + 1)
theorem BW.one {p n : Nat} {m c y f : Int32} (o : okH s p) (hn : n < 120) (h : HX s p t n) (hy : y.toInt = (zS s p 4).toInt + 1) (hy2 : 1 ≤ y.toInt ∧ y.toInt ≤ 60) (hm : 0 ≤ m.toInt ∧ m.toInt ≤ (zI t 68 n).toInt) (h16 : 0 ≤ (zS s 0 16).toInt ∧ (zS s 0 16).toInt ≤ 20000) : BW p n s t (b1X s p m c y f) (b1M t n m c y f) := by
  have o1 := o.1
  have e16 : (zS s 0 16 + 1).toInt = (zS s 0 16).toInt + 1 := by rw [i32_add (by rw [jl1]; omega) (by rw [jl1]; omega), jl1]
  have zp : ∀ k, zS (b1X s p m c y f) p k = if k = 4 then y else if k = 2 then c else if k = 5 then m else zS s p k := fun k => by
    unfold b1X
    rw [zS_pI, zS_pS, if_neg (by omega), zS_pS]
    by_cases k4 : k = 4
    · rw [if_pos ⟨rfl, k4⟩, if_pos k4]
    rw [if_neg (fun z => k4 z.2), if_neg k4, zS_pS]
    by_cases k2 : k = 2
    · rw [if_pos ⟨rfl, k2⟩, if_pos k2]
    rw [if_neg (fun z => k2 z.2), if_neg k2, zS_pS]
    by_cases k5 : k = 5
    · rw [if_pos ⟨rfl, k5⟩, if_pos k5]
    · rw [if_neg (fun z => k5 z.2), if_neg k5]
  have sS : ∀ q k, q ≠ p → ¬ (q = 0 ∧ k = 16) → zS (b1X s p m c y f) q k = zS s q k := fun q k h1 h2 => by
    unfold b1X
    rw [zS_pI, zS_pS, if_neg h2, zS_pS, if_neg (fun z => h1 z.1), zS_pS, if_neg (fun z => h1 z.1), zS_pS, if_neg (fun z => h1 z.1)]
  have s16 : zS (b1X s p m c y f) 0 16 = zS s 0 16 + 1 := by
    unfold b1X
    rw [zS_pI, zS_pS, if_pos ⟨rfl, rfl⟩]
  have sI : ∀ q j, ¬ (q = p + 2 ∧ j = y.toInt.toNat) → zI (b1X s p m c y f) q j = zI s q j := fun q j h1 => by
    unfold b1X
    rw [zI_pI, if_neg h1]; rfl
  have s2 : zI (b1X s p m c y f) (p + 2) y.toInt.toNat = f := by
    unfold b1X
    rw [zI_pI, if_pos ⟨rfl, rfl⟩]
  have tS : ∀ q k, zS (b1M t n m c y f) q k = zS t q k := fun _ _ => rfl
  have tI : ∀ q j, q ≠ 65 → q ≠ 67 → q ≠ 68 → ¬ (q = 71 ∧ j = 61 * n + y.toInt.toNat) → zI (b1M t n m c y f) q j = zI t q j := fun q j h1 h2 h3 h4 => by
    unfold b1M
    rw [zI_pI, if_neg h4, zI_pI, if_neg (fun z => h1 z.1), zI_pI, if_neg (fun z => h2 z.1), zI_pI, if_neg (fun z => h3 z.1)]
  have t71 : zI (b1M t n m c y f) 71 (61 * n + y.toInt.toNat) = f := by
    unfold b1M
    rw [zI_pI, if_pos ⟨rfl, rfl⟩]
  have t65 : zI (b1M t n m c y f) 65 n = c := by
    unfold b1M
    rw [zI_pI, if_neg (by omega), zI_pI, if_pos ⟨rfl, rfl⟩]
  have t67 : zI (b1M t n m c y f) 67 n = y := by
    unfold b1M
    rw [zI_pI, if_neg (by omega), zI_pI, if_neg (by omega), zI_pI, if_pos ⟨rfl, rfl⟩]
  have t68 : zI (b1M t n m c y f) 68 n = m := by
    unfold b1M
    rw [zI_pI, if_neg (by omega), zI_pI, if_neg (by omega), zI_pI, if_neg (by omega), zI_pI, if_pos ⟨rfl, rfl⟩]
  have M : mW n t (b1M t n m c y f) := ((((mW.rf.wI (by omega) (by omega)).wI (by omega) (by omega)).wI (by omega) (by omega)).wY (by omega) (by omega) (by omega))
  have W : hW p s (b1X s p m c y f) := ((((hW.rf.wS).wS).wS).sS (by omega)).wI (Or.inr (Or.inl rfl))
  obtain ⟨x0, x1, x2, x3, x4, x5, x6, x7, x8⟩ := h
  refine ⟨⟨by rw [zp, if_neg (by omega), if_neg (by omega), if_neg (by omega), tI 63 _ (by omega) (by omega) (by omega) (by omega)]; exact x0, by rw [zp, if_neg (by omega), if_neg (by omega), if_neg (by omega), tI 64 _ (by omega) (by omega) (by omega) (by omega)]; exact x1, by rw [zp, if_neg (by omega), if_pos rfl, t65], by rw [zp, if_neg (by omega), if_neg (by omega), if_neg (by omega), tI 66 _ (by omega) (by omega) (by omega) (by omega)]; exact x3, by rw [zp, if_pos rfl, t67], by rw [zp, if_neg (by omega), if_neg (by omega), if_pos rfl, t68], by rw [zp, if_neg (by omega), if_neg (by omega), if_neg (by omega), tI 69 _ (by omega) (by omega) (by omega) (by omega)]; exact x6, by rw [zp, if_neg (by omega), if_neg (by omega), if_neg (by omega), tI 104 _ (by omega) (by omega) (by omega) (by omega)]; exact x7, fun z z1 z2 => ?_⟩, W, fun q k h1 h2 => sS q k (by omega) (by omega), fun q j h1 => sI q j (by omega), M, tS, ⟨by rw [s16, e16, zp, if_pos rfl]; omega, by rw [zp, if_pos rfl]; omega⟩, ?_, Or.inl ⟨by rw [zp, if_neg (by omega), if_neg (by omega), if_neg (by omega)], sS 0 18 (by omega) (by omega)⟩, Or.inl (tI 69 _ (by omega) (by omega) (by omega) (by omega)), by rw [zp, if_neg (by omega), if_neg (by omega), if_neg (by omega)], by rw [t68]; exact hm.1, by rw [t68]; exact hm.2⟩
  · obtain ⟨w1, w2, w3, w4⟩ := x8 z z1 z2
    refine ⟨by rw [sI _ _ (by omega), tI 70 _ (by omega) (by omega) (by omega) (by omega)]; exact w1, ?_, by rw [sI _ _ (by omega), tI 72 _ (by omega) (by omega) (by omega) (by omega), tI 73 _ (by omega) (by omega) (by omega) (by omega)]; exact w3, by rw [tI 73 _ (by omega) (by omega) (by omega) (by omega)]; exact w4⟩
    by_cases zy : z = y.toInt.toNat
    · rw [zy, s2, t71]
    · rw [sI _ _ (fun u => zy u.2), tI 71 _ (by omega) (by omega) (by omega) (by omega)]; exact w2
  · rw [sS 0 17 (by omega) (by omega), zp, if_neg (by omega), if_neg (by omega), if_neg (by omega)]
    omega
theorem BW.two {p n : Nat} {m c y f : Int32} (o : okH s p) (hn : n < 120) (h : HX s p t n) (h6 : zS s p 6 = 0) (h69 : zI t 69 n = 0) (hh : zS s 0 14 = zS t 59 1) (hr : 0 ≤ (zS s 0 14).toInt ∧ (zS s 0 14).toInt ≤ 1699) (W : BW p n s t (b1X s p m c y f) (b1M t n m c y f)) (h17 : 0 ≤ (zS s 0 17).toInt ∧ (zS s 0 17).toInt ≤ 20000) : BW p n s t (b2X s p m c y f) (b2M t n m c y f) := by
  have o1 := o.1
  obtain ⟨⟨x0, x1, x2, x3, x4, x5, x6, x7, x8⟩, w2, w3, w4, w5, w6, w7, w8, w9, w10, w11, w12⟩ := W
  have e17 : (zS s 0 17 + 1).toInt = (zS s 0 17).toInt + 1 := by rw [i32_add (by rw [jl1]; omega) (by rw [jl1]; omega), jl1]
  have eh : (zS t 59 1 + 1).toInt = (zS s 0 14).toInt + 1 := by rw [← hh, i32_add (by rw [jl1]; omega) (by rw [jl1]; omega), jl1]
  have zp : ∀ k, k ≠ 6 → zS (b2X s p m c y f) p k = zS (b1X s p m c y f) p k := fun k hk => by
    unfold b2X
    rw [zS_pS, if_neg (by omega), zS_pS, if_neg (by omega), zS_pS, if_neg (fun z => hk z.2)]
  have z6 : zS (b2X s p m c y f) p 6 = 1 := by
    unfold b2X
    rw [zS_pS, if_neg (by omega), zS_pS, if_neg (by omega), zS_pS, if_pos ⟨rfl, rfl⟩]
  have sS : ∀ q k, q ≠ p → ¬ (q = 0 ∧ (k = 17 ∨ k = 18)) → zS (b2X s p m c y f) q k = zS (b1X s p m c y f) q k := fun q k h1 h2 => by
    unfold b2X
    rw [zS_pS, if_neg (by omega), zS_pS, if_neg (by omega), zS_pS, if_neg (fun z => h1 z.1)]
  have sI : ∀ q j, zI (b2X s p m c y f) q j = zI (b1X s p m c y f) q j := fun _ _ => rfl
  have tI : ∀ q j, ¬ (q = 69 ∧ j = n) → zI (b2M t n m c y f) q j = zI (b1M t n m c y f) q j := fun q j h1 => by
    unfold b2M
    rw [zI_pI, if_neg h1]
  have t69 : zI (b2M t n m c y f) 69 n = zS t 59 1 + 1 := by
    unfold b2M
    rw [zI_pI, if_pos ⟨rfl, rfl⟩]
  refine ⟨⟨by rw [zp 0 (by omega), tI 63 _ (by omega)]; exact x0, by rw [zp 1 (by omega), tI 64 _ (by omega)]; exact x1, by rw [zp 2 (by omega), tI 65 _ (by omega)]; exact x2, by rw [zp 3 (by omega), tI 66 _ (by omega)]; exact x3, by rw [zp 4 (by omega), tI 67 _ (by omega)]; exact x4, by rw [zp 5 (by omega), tI 68 _ (by omega)]; exact x5, by rw [z6, t69, if_pos (by omega)], by rw [zp 7 (by omega), tI 104 _ (by omega)]; exact x7, fun z z1 z2 => ?_⟩, (w2.wS.sS (by omega)).sS (by omega), fun q k h1 h2 => by rw [sS q k (by omega) (by omega)]; exact w3 q k h1 h2, fun q j h1 => by rw [sI]; exact w4 q j h1, w5.wI (by omega) (by omega), fun q k => w6 q k, ⟨by rw [sS 0 16 (by omega) (by omega), zp 4 (by omega)]; exact w7.1, by rw [zp 4 (by omega)]; exact w7.2⟩, ?_, Or.inr ⟨h6, z6, ?_⟩, Or.inr ⟨h69, t69⟩, by rw [zp 3 (by omega)]; exact w11, by rw [tI 68 _ (by omega)]; exact w12⟩
  · rw [sI, sI, sI, tI 70 _ (by omega), tI 71 _ (by omega), tI 72 _ (by omega), tI 73 _ (by omega)]
    exact x8 z z1 z2
  · have : zS (b2X s p m c y f) 0 17 = zS s 0 17 + 1 := by
      unfold b2X
      rw [zS_pS, if_neg (by omega), zS_pS, if_pos ⟨rfl, rfl⟩]
    rw [this, e17, z6, h6, jl1, jl0]
    omega
  · unfold b2X
    rw [zS_pS, if_pos ⟨rfl, rfl⟩]
theorem BW.tr {p n : Nat} {r u : SS} (h : BW p n s t s' t') (g : BW p n s' t' r u) : BW p n s t r u := by
  obtain ⟨_, a2, a3, a4, a5, a6, a7, a8, a9, a10, a11, a12⟩ := h
  obtain ⟨b1, b2, b3, b4, b5, b6, b7, b8, b9, b10, b11, b12⟩ := g
  have e14 : zS s' 0 14 = zS s 0 14 := a3 0 14 (by omega) (by omega)
  refine ⟨b1, a2.tr b2, fun q k h1 h2 => (b3 q k h1 h2).trans (a3 q k h1 h2), fun q j h1 => (b4 q j h1).trans (a4 q j h1), a5.tr b5, fun q k => (b6 q k).trans (a6 q k), ⟨by omega, by omega⟩, by omega, ?_, ?_, b11.trans a11, by omega, by omega⟩
  · rcases a9 with ⟨p1, p2⟩ | ⟨p1, p2, p3⟩
    · rcases b9 with ⟨q1, q2⟩ | ⟨q1, q2, q3⟩
      · exact Or.inl ⟨q1.trans p1, q2.trans p2⟩
      · exact Or.inr ⟨p1 ▸ q1, q2, by rw [q3, e14, p2]⟩
    · rcases b9 with ⟨q1, q2⟩ | ⟨q1, q2, q3⟩
      · exact Or.inr ⟨p1, q1.trans p2, q2.trans p3⟩
      · rw [q1] at p2; exact absurd p2 (by decide)
  · rcases a10 with p1 | ⟨p1, p2⟩
    · rcases b10 with q1 | ⟨q1, q2⟩
      · exact Or.inl (q1.trans p1)
      · exact Or.inr ⟨p1 ▸ q1, by rw [q2, a6]⟩
    · rcases b10 with q1 | ⟨q1, q2⟩
      · exact Or.inr ⟨p1, q1.trans p2⟩
      · exact Or.inr ⟨p1, by rw [q2, a6]⟩
end BOs
/-! BORING, AS FAR AS MINUTES GO -/
section BLs
variable {s t : SS}
def hv31 (v : Int32) : Int32 := if v < 0 then 0 else if 31 < v then 31 else v
theorem hv31_r (v : Int32) : 0 ≤ (hv31 v).toInt ∧ (hv31 v).toInt ≤ 31 := by
  unfold hv31
  by_cases a : v < 0
  · rw [if_pos a]; decide
  · rw [if_neg a]
    rw [jlt, jl0] at a
    by_cases b : 31 < v
    · rw [if_pos b]; decide
    · rw [if_neg b]
      rw [jlt, show (31 : Int32).toInt = 31 from rfl] at b
      omega
def fnd (r h : Int32) : Int32 := if r = 0 then (if h = 0 then 0 else 1) else 2
theorem bore_l {p i : Nat} {y1 y2 : Int32} (hy1 : y1.toInt = i) (hi : i < 120) (hp : 0 ≤ y2.toInt ∧ y2.toInt ≤ 60) : ∀ (n m : Nat) (s t : SS) (x : Int32), okH s p → HX s p t i → BE s t → x.toInt = (zS s p 4).toInt + 1 → 0 ≤ (zS s p 4).toInt → (zS s p 3).toInt ≤ 60 → (0 ≤ (zI t 69 i).toInt ∧ (zI t 69 i).toInt ≤ 1700) → 0 ≤ (zI t 68 i).toInt → (0 ≤ (zS s 0 16).toInt ∧ (zS s 0 16).toInt ≤ 10000 + (zS s p 4).toInt) → (0 ≤ (zS s 0 17).toInt ∧ (zS s 0 17).toInt ≤ 10000 + (zS s p 6).toInt) → (∀ j, 0 ≤ (zI s 2 j).toInt ∧ (zI s 2 j).toInt ≤ 9) → Pc (f_X11_boreOn_L7 p y2 n s x) (fun r => Pc (f_X12_bore_L0 y1 y2 m t) (fun u => BW p i s t r u))
  | 0, _, _, _, _, _, _, _, _, _, _, _, _, _, _, _ => Pc_none
  | n + 1, 0, _, _, _, _, _, _, _, _, _, _, _, _, _, _ => fun _ _ => Pc_none
  | n + 1, m + 1, s, t, x, o, h, E, hx, hb, h3, h69, h68, h16, h17, hh => by
    have o1 := o.1
    have rf := BW.rf h h68
    obtain ⟨x0, x1, x2, x3, x4, x5, x6, x7, x8⟩ := id h
    obtain ⟨e1, e2, e3, e4, e5, e6, e7⟩ := id E
    have yt : y1.toInt.toNat = i := by omega
    show Pc (f_X11_boreOn_L7_b p y2 (f_X11_boreOn_L7 p y2 n) s x) (fun r => Pc (f_X12_bore_L0_b y1 y2 (f_X12_bore_L0 y1 y2 m) t) _)
    unfold f_X11_boreOn_L7_b f_X12_bore_L0_b
    rw [yt]
    by_cases c1 : (zS s p 3).toInt < x.toInt
    · refine Pc_ift (by rw [jlt]; exact c1) (Pc_some (Pc_gd (fun _ => Pc_gd (fun _ => Pc_iff ?_ (Pc_some rf)))))
      rw [jlt, ← x3, ← x4]
      omega
    refine Pc_iff (by rw [jlt]; exact c1) ?_
    have c1' : zI t 67 i < zI t 66 i := by rw [jlt, ← x3, ← x4]; omega
    by_cases c2 : 0 < (zI t 69 i).toInt
    · refine Pc_iff (by rw [x6, if_pos c2]; decide) (Pc_some (Pc_gd (fun _ => Pc_gd (fun _ => Pc_ift c1' (Pc_gd (fun _ => Pc_iff (fun z => by rw [z, jl0] at c2; omega) (Pc_some rf)))))))
    have z69 : zI t 69 i = 0 := Int32.toInt_inj.1 (by rw [jl0]; omega)
    have z6 : zS s p 6 = 0 := by rw [x6, if_neg c2]
    have hy : x = zI t 67 i + 1 := Int32.toInt_inj.1 (by rw [hx, ← x4, i32_add (by rw [jl1]; omega) (by rw [jl1]; omega), jl1])
    have hxr : 1 ≤ x.toInt ∧ x.toInt ≤ 60 := by omega
    have j61 : (61 : Int32).toInt = 61 := rfl
    have m61 : ((61 : Int32) * y1).toInt = 61 * i := by rw [i32_mul (by rw [j61]; omega) (by rw [j61]; omega), j61, hy1]
    have v10 : ((61 : Int32) * y1 + x).toInt.toNat = 61 * i + x.toInt.toNat := by
      have : ((61 : Int32) * y1 + x).toInt = 61 * i + x.toInt := by rw [i32_add (by rw [m61]; omega) (by rw [m61]; omega), m61]
      omega
    obtain ⟨w1, w2, w3, w4⟩ := x8 x.toInt.toNat (by omega) (by omega)
    refine Pc_ift z6 (Pc_gd (fun _ => ?_))
    rw [heldXM (by decide)]
    refine Pc_b1S (Pc_vl (Pc_gd (fun _ => Pc_jn ?_)))
    generalize hc : (if zS s p 2 + zI s (p + 1) x.toInt.toNat < 0 then (0 : Int32) else if 31 < zS s p 2 + zI s (p + 1) x.toInt.toNat then 31 else zS s p 2 + zI s (p + 1) x.toInt.toNat) = c
    have cr : 0 ≤ c.toInt ∧ c.toInt ≤ 31 := by rw [← hc]; exact hv31_r _
    have j60 : (60 : Int32).toInt = 60 := rfl
    have m60 : (c * 60).toInt = 60 * c.toInt := by rw [i32_mul (by rw [j60]; omega) (by rw [j60]; omega), j60]; omega
    have a60 : (c * 60 + x).toInt = 60 * c.toInt + x.toInt := by rw [i32_add (by rw [m60]; omega) (by rw [m60]; omega), m60]
    have v6 : (c * 60 + x - 1).toInt.toNat = 60 * c.toInt.toNat + x.toInt.toNat - 1 := by
      have : (c * 60 + x - 1).toInt = 60 * c.toInt + x.toInt - 1 := by rw [i32_sub (by rw [a60, jl1]; omega) (by rw [a60, jl1]; omega), a60, jl1]
      omega
    have mc : ((61 : Int32) * c).toInt = 61 * c.toInt := by rw [i32_mul (by rw [j61]; omega) (by rw [j61]; omega), j61]
    have v13 : ((61 : Int32) * c + x).toInt.toNat = 61 * c.toInt.toNat + x.toInt.toNat := by
      have : ((61 : Int32) * c + x).toInt = 61 * c.toInt + x.toInt := by rw [i32_add (by rw [mc]; omega) (by rw [mc]; omega), mc]
      omega
    obtain ⟨k1, k2, k3⟩ := e1 c.toInt.toNat x.toInt.toNat (by omega) (by omega) (by omega)
    rw [v6]
    have nx : (x + 1).toInt = x.toInt + 1 := by rw [i32_add (by rw [jl1]; omega) (by rw [jl1]; omega), jl1]
    clear v6 a60 m60 mc
    -- the rest, for open or not
    have fin : ∀ (op cost : Int32), (op = 0 ∨ op = 1) → op = zI t 61 (61 * c.toInt.toNat + x.toInt.toNat) → cost = (if op = 0 then y2 * (3 + zI t 60 (61 * c.toInt.toNat + x.toInt.toNat)) else 0) → 0 ≤ cost.toInt → Pc (if (zS s p 5) < cost then some s else (vl (((zS s p 5) - cost)) fun v12 => (st (pS s p 5 v12) fun s13 => (st (pS s13 p 2 c) fun s14 => (st (pS s14 p 4 x) fun s15 => (vl (((zS s15 0 16) + (1 : Int32))) fun v16 => (st (pS s15 0 16 v16) fun s17 => (b1 (f_X0_isRefuge s17 c x) fun r18 => (jn (fun (t19_0 : Int32) => (gd (inB x 61) (st (pI s17 (p + 2) (x.toInt.toNat) t19_0) fun s21 => (jn (fun (s22 : SS)  => (vl (x + 1) fun v23 => (f_X11_boreOn_L7 p y2 n s22 v23))) fun k22 => (if r18 = (0 : Int32) then (k22 s21) else (st (pS s21 p 6 1) fun s25 => (vl (((zS s25 0 17) + (1 : Int32))) fun v26 => (st (pS s25 0 17 v26) fun s27 => (b1 (f_J9_min_7cf53 (zS s27 0 18) (zS s27 0 14)) fun r28 => (st (pS s27 0 18 r28) fun s29 => (k22 s29))))))))))) fun k19 => (if r18 = (0 : Int32) then (if op = (0 : Int32) then (k19 0) else (k19 1)) else (k19 2)))))))))) ) (fun r => Pc (gd (inB y1 120) (gd (inB y1 120) (if (zI t 67 i) < (zI t 66 i) then (gd (inB y1 120) (if (zI t 69 i) = (0 : Int32) then (gd (inB y1 120) (vl (((zI t 67 i) + (1 : Int32))) fun v7 => (gd (inB y1 120) (vl ((((61 : Int32) * y1) + v7)) fun v10 => (gd (inB v10 7320) (b1 (f_X12_held ((zI t 65 i) + (zI t 70 (v10.toInt.toNat))) (0 : Int32) (31 : Int32)) fun r12 => (vl ((((61 : Int32) * r12) + v7)) fun v13 => (gd (inB v13 1952) (jn (fun (t15_0 : Int32) => (gd (inB y1 120) (if (zI t 68 i) < t15_0 then some t else (gd (inB y1 120) (vl (((zI t 68 i) - t15_0)) fun v19 => (gd (inB y1 120) (st (pI t 68 i v19) fun s21 => (gd (inB y1 120) (st (pI s21 67 i v7) fun s23 => (gd (inB y1 120) (st (pI s23 65 i r12) fun s25 => (jn (fun (t26_0 : Int32) => (jn (fun (t27_0 : Int32) => (vl ((((61 : Int32) * y1) + v7)) fun v28 => (gd (inB v28 7320) (st (pI s25 71 (v28.toInt.toNat) t27_0) fun s30 => (jn (fun (s31 : SS)  => (f_X12_bore_L0 y1 y2 m s31)) fun k31 => (if t26_0 = (0 : Int32) then (k31 s30) else (vl (((zS s30 59 1) + (1 : Int32))) fun v33 => (gd (inB y1 120) (st (pI s30 69 i v33) fun s35 => (k31 s35)))))))))) fun k27 => (if t26_0 = (0 : Int32) then (gd (inB v13 1952) (if (zI s25 61 (v13.toInt.toNat)) = (0 : Int32) then (k27 0) else (k27 1))) else (k27 2)))) fun k26 => (jn ((k26 0)) fun k39 => (if (zS s25 59 21) < (0 : Int32) then k39 else (if v7 = (zS s25 59 24) then (b1 (f_X12_in r12 (zS s25 59 22) (zS s25 59 23)) fun r42 => (if r42 = (0 : Int32) then k39 else (k26 1))) else k39))))))))))))))) fun k15 => (if (zI t 61 (v13.toInt.toNat)) = (0 : Int32) then (gd (inB v13 1952) (k15 (y2 * ((3 : Int32) + (zI t 60 (v13.toInt.toNat)))))) else (k15 0))))))))))) else some t)) else some t))) (fun u => BW p i s t r u)) := by
      intro op cost hop eop ecost c0
      have rec_ : ∀ s1 t1, BW p i s t s1 t1 → zS s1 p 4 = x → (0 ≤ (zI t1 69 i).toInt ∧ (zI t1 69 i).toInt ≤ 1700) → Pc (f_X11_boreOn_L7 p y2 n s1 (x + 1)) (fun r => Pc (f_X12_bore_L0 y1 y2 m t1) (fun u => BW p i s t r u)) := by
        intro s1 t1 W e4' h69'
        have W' := W
        obtain ⟨q1, q2, q3, q4, q5, q6, q7, q8, q9, q10, q11, q12, q13⟩ := W'
        have ok1 : okH s1 p := by
          have e := q2.2.2
          unfold okH zT zN zL at *
          rw [e]
          exact o
        refine Pc.mono (bore_l hy1 hi hp n m s1 t1 (x + 1) ok1 q1 (E.w W) (by rw [nx, e4']) (by rw [e4']; omega) (by rw [q11]; exact h3) h69' q12 ⟨by omega, by omega⟩ ⟨?_, ?_⟩ (fun j => by rw [q4 2 j (by omega)]; exact hh j)) (fun r hr => Pc.mono hr (fun u hu => W.tr hu))
        · rcases q9 with ⟨z1, _⟩ | ⟨z1, z2, _⟩
          · rw [q8, z1]; omega
          · rw [q8, z1, z2, jl1, jl0]; omega
        · rw [q8]; omega
      -- the reference comes so far
      have mm : ∀ R : SS → Prop, Pc (gd (inB y1 120) (if (zI t 68 i) < cost then some t else (gd (inB y1 120) (vl (((zI t 68 i) - cost)) fun v19 => (gd (inB y1 120) (st (pI t 68 i v19) fun s21 => (gd (inB y1 120) (st (pI s21 67 i x) fun s23 => (gd (inB y1 120) (st (pI s23 65 i c) fun s25 => (jn (fun (t26_0 : Int32) => (jn (fun (t27_0 : Int32) => (vl ((((61 : Int32) * y1) + x)) fun v28 => (gd (inB v28 7320) (st (pI s25 71 (v28.toInt.toNat) t27_0) fun s30 => (jn (fun (s31 : SS)  => (f_X12_bore_L0 y1 y2 m s31)) fun k31 => (if t26_0 = (0 : Int32) then (k31 s30) else (vl (((zS s30 59 1) + (1 : Int32))) fun v33 => (gd (inB y1 120) (st (pI s30 69 i v33) fun s35 => (k31 s35)))))))))) fun k27 => (if t26_0 = (0 : Int32) then (gd (inB ((61 : Int32) * c + x) 1952) (if (zI s25 61 (((61 : Int32) * c + x).toInt.toNat)) = (0 : Int32) then (k27 0) else (k27 1))) else (k27 2)))) fun k26 => (jn ((k26 0)) fun k39 => (if (zS s25 59 21) < (0 : Int32) then k39 else (if x = (zS s25 59 24) then (b1 (f_X12_in c (zS s25 59 22) (zS s25 59 23)) fun r42 => (if r42 = (0 : Int32) then k39 else (k26 1))) else k39)))))))))))))) R → Pc (gd (inB y1 120) (gd (inB y1 120) (if (zI t 67 i) < (zI t 66 i) then (gd (inB y1 120) (if (zI t 69 i) = (0 : Int32) then (gd (inB y1 120) (vl (((zI t 67 i) + (1 : Int32))) fun v7 => (gd (inB y1 120) (vl ((((61 : Int32) * y1) + v7)) fun v10 => (gd (inB v10 7320) (b1 (f_X12_held ((zI t 65 i) + (zI t 70 (v10.toInt.toNat))) (0 : Int32) (31 : Int32)) fun r12 => (vl ((((61 : Int32) * r12) + v7)) fun v13 => (gd (inB v13 1952) (jn (fun (t15_0 : Int32) => (gd (inB y1 120) (if (zI t 68 i) < t15_0 then some t else (gd (inB y1 120) (vl (((zI t 68 i) - t15_0)) fun v19 => (gd (inB y1 120) (st (pI t 68 i v19) fun s21 => (gd (inB y1 120) (st (pI s21 67 i v7) fun s23 => (gd (inB y1 120) (st (pI s23 65 i r12) fun s25 => (jn (fun (t26_0 : Int32) => (jn (fun (t27_0 : Int32) => (vl ((((61 : Int32) * y1) + v7)) fun v28 => (gd (inB v28 7320) (st (pI s25 71 (v28.toInt.toNat) t27_0) fun s30 => (jn (fun (s31 : SS)  => (f_X12_bore_L0 y1 y2 m s31)) fun k31 => (if t26_0 = (0 : Int32) then (k31 s30) else (vl (((zS s30 59 1) + (1 : Int32))) fun v33 => (gd (inB y1 120) (st (pI s30 69 i v33) fun s35 => (k31 s35)))))))))) fun k27 => (if t26_0 = (0 : Int32) then (gd (inB v13 1952) (if (zI s25 61 (v13.toInt.toNat)) = (0 : Int32) then (k27 0) else (k27 1))) else (k27 2)))) fun k26 => (jn ((k26 0)) fun k39 => (if (zS s25 59 21) < (0 : Int32) then k39 else (if v7 = (zS s25 59 24) then (b1 (f_X12_in r12 (zS s25 59 22) (zS s25 59 23)) fun r42 => (if r42 = (0 : Int32) then k39 else (k26 1))) else k39))))))))))))))) fun k15 => (if (zI t 61 (v13.toInt.toNat)) = (0 : Int32) then (gd (inB v13 1952) (k15 (y2 * ((3 : Int32) + (zI t 60 (v13.toInt.toNat)))))) else (k15 0))))))))))) else some t)) else some t))) R := by
        intro R hR
        refine Pc_gd (fun _ => Pc_gd (fun _ => Pc_ift c1' (Pc_gd (fun _ => Pc_ift z69 (Pc_gd (fun _ => Pc_vl ?_))))))
        rw [← hy]
        refine Pc_gd (fun _ => Pc_vl (Pc_gd (fun _ => ?_)))
        rw [v10, ← w1, ← x2, heldM, hc]
        refine Pc_b1S (Pc_vl (Pc_gd (fun _ => Pc_jn ?_)))
        rw [v13, ← eop]
        rcases hop with rfl | rfl
        · refine Pc_ift rfl (Pc_gd (fun _ => ?_))
          rw [if_pos rfl] at ecost
          rw [v13, ecost] at hR
          exact hR
        · refine Pc_iff n10 ?_
          rw [if_neg n10] at ecost
          rw [v13, ecost] at hR
          exact hR
      by_cases k : zS s p 5 < cost
      · refine Pc_ift k (Pc_some (mm _ (Pc_gd (fun _ => Pc_ift (by rw [← x5]; exact k) (Pc_some rf)))))
      have k' : ¬ zI t 68 i < cost := by rw [← x5]; exact k
      rw [jlt] at k
      have em : (zS s p 5 - cost).toInt = (zS s p 5).toInt - cost.toInt := by rw [i32_sub (by rw [x5]; have := jlo cost; omega) (by rw [x5]; have := jlo (zI t 68 i); omega)]
      have hm : 0 ≤ (zS s p 5 - cost).toInt ∧ (zS s p 5 - cost).toInt ≤ (zI t 68 i).toInt := by rw [em, ← x5]; omega
      have r16 : zS (pS (pS (pS s p 5 (zS s p 5 - cost)) p 2 c) p 4 x) 0 16 = zS s 0 16 := by rw [zS_pS, if_neg (by omega), zS_pS, if_neg (by omega), zS_pS, if_neg (by omega)]
      refine Pc_iff (by rw [jlt]; exact k) (Pc_vl (Pc_st (Pc_st (Pc_st (Pc_vl (Pc_st ?_))))))
      rw [r16]
      have r15 : ∀ j, zS (pS (pS (pS (pS s p 5 (zS s p 5 - cost)) p 2 c) p 4 x) 0 16 (zS s 0 16 + 1)) 15 j = zS s 15 j := fun j => by rw [zS_pS, if_neg (by omega), zS_pS, if_neg (by omega), zS_pS, if_neg (by omega), zS_pS, if_neg (by omega)]
      rw [refX, r15, r15, r15, r15]
      have W1 : ∀ f, BW p i s t (b1X s p (zS s p 5 - cost) c x f) (b1M t i (zS s p 5 - cost) c x f) := fun f => BW.one o hi h (by rw [hx]) hxr hm ⟨by omega, by omega⟩
      have p4 : ∀ f, zS (b1X s p (zS s p 5 - cost) c x f) p 4 = x := fun f => by
        unfold b1X
        rw [zS_pI, zS_pS, if_neg (by omega), zS_pS, if_pos ⟨rfl, rfl⟩]
      have q4 : ∀ f, zS (b2X s p (zS s p 5 - cost) c x f) p 4 = x := fun f => by
        unfold b2X
        rw [zS_pS, if_neg (by omega), zS_pS, if_neg (by omega), zS_pS, if_neg (by omega)]
        exact p4 f
      -- the reference's yard, there or not
      have yd : ∀ (f : Int32) (R : SS → Prop), (¬ zS s 15 5 < 0 ∧ x = zS s 15 8 ∧ ¬ c < zS s 15 6 ∧ ¬ zS s 15 7 < c → f = 2 ∧ Pc (f_X12_bore_L0 y1 y2 m (b2M t i (zS s p 5 - cost) c x f)) R) → (¬ (¬ zS s 15 5 < 0 ∧ x = zS s 15 8 ∧ ¬ c < zS s 15 6 ∧ ¬ zS s 15 7 < c) → f = op ∧ Pc (f_X12_bore_L0 y1 y2 m (b1M t i (zS s p 5 - cost) c x f)) R) → Pc (gd (inB y1 120) (if (zI t 68 i) < cost then some t else (gd (inB y1 120) (vl (((zI t 68 i) - cost)) fun v19 => (gd (inB y1 120) (st (pI t 68 i v19) fun s21 => (gd (inB y1 120) (st (pI s21 67 i x) fun s23 => (gd (inB y1 120) (st (pI s23 65 i c) fun s25 => (jn (fun (t26_0 : Int32) => (jn (fun (t27_0 : Int32) => (vl ((((61 : Int32) * y1) + x)) fun v28 => (gd (inB v28 7320) (st (pI s25 71 (v28.toInt.toNat) t27_0) fun s30 => (jn (fun (s31 : SS)  => (f_X12_bore_L0 y1 y2 m s31)) fun k31 => (if t26_0 = (0 : Int32) then (k31 s30) else (vl (((zS s30 59 1) + (1 : Int32))) fun v33 => (gd (inB y1 120) (st (pI s30 69 i v33) fun s35 => (k31 s35)))))))))) fun k27 => (if t26_0 = (0 : Int32) then (gd (inB ((61 : Int32) * c + x) 1952) (if (zI s25 61 (((61 : Int32) * c + x).toInt.toNat)) = (0 : Int32) then (k27 0) else (k27 1))) else (k27 2)))) fun k26 => (jn ((k26 0)) fun k39 => (if (zS s25 59 21) < (0 : Int32) then k39 else (if x = (zS s25 59 24) then (b1 (f_X12_in c (zS s25 59 22) (zS s25 59 23)) fun r42 => (if r42 = (0 : Int32) then k39 else (k26 1))) else k39)))))))))))))) R := by
        intro f R ht hn
        refine Pc_gd (fun _ => Pc_iff k' (Pc_gd (fun _ => Pc_vl ?_)))
        refine Pc_gd (fun _ => Pc_st (Pc_gd (fun _ => Pc_st ?_)))
        refine Pc_gd (fun _ => Pc_st (Pc_jn (Pc_jn ?_)))
        have no : ¬ (¬ zS s 15 5 < 0 ∧ x = zS s 15 8 ∧ ¬ c < zS s 15 6 ∧ ¬ zS s 15 7 < c) → Pc (jn (fun (t27_0 : Int32) => (vl ((((61 : Int32) * y1) + x)) fun v28 => (gd (inB v28 7320) (st (pI (pI (pI (pI t 68 i (zI t 68 i - cost)) 67 i x) 65 i c) 71 (v28.toInt.toNat) t27_0) fun s30 => (jn (fun (s31 : SS)  => (f_X12_bore_L0 y1 y2 m s31)) fun k31 => (if (0 : Int32) = (0 : Int32) then (k31 s30) else (vl (((zS s30 59 1) + (1 : Int32))) fun v33 => (gd (inB y1 120) (st (pI s30 69 i v33) fun s35 => (k31 s35)))))))))) fun k27 => (if (0 : Int32) = (0 : Int32) then (gd (inB ((61 : Int32) * c + x) 1952) (if (zI (pI (pI (pI t 68 i (zI t 68 i - cost)) 67 i x) 65 i c) 61 (((61 : Int32) * c + x).toInt.toNat)) = (0 : Int32) then (k27 0) else (k27 1))) else (k27 2))) R := by
          intro z
          obtain ⟨ef, hb'⟩ := hn z
          refine Pc_jn (Pc_if00 (Pc_gd (fun _ => ?_)))
          rw [v13]
          have e61 : zI (pI (pI (pI t 68 i (zI t 68 i - cost)) 67 i x) 65 i c) 61 (61 * c.toInt.toNat + x.toInt.toNat) = op := by rw [zI_pI, if_neg (by omega), zI_pI, if_neg (by omega), zI_pI, if_neg (by omega)]; exact eop.symm
          rw [e61]
          unfold b1M at hb'
          rw [x5] at hb'
          rcases hop with rfl | rfl
          · refine Pc_ift rfl (Pc_vl (Pc_gd (fun _ => Pc_st (Pc_jn (Pc_if00 ?_)))))
            rw [v10, ← ef]
            exact hb'
          · refine Pc_iff n10 (Pc_vl (Pc_gd (fun _ => Pc_st (Pc_jn (Pc_if00 ?_)))))
            rw [v10, ← ef]
            exact hb'
        show Pc (if (zS t 59 21) < (0 : Int32) then _ else (if x = (zS t 59 24) then (b1 (f_X12_in c (zS t 59 22) (zS t 59 23)) fun r42 => _) else _)) R
        rw [← e4, ← e5, ← e6, ← e7]
        by_cases z5 : zS s 15 5 < 0
        · exact Pc_ift z5 (no (fun z => z.1 z5))
        by_cases z8 : x = zS s 15 8
        case neg => exact Pc_iff z5 (Pc_iff z8 (no (fun z => z8 z.2.1)))
        refine Pc_iff z5 (Pc_ift z8 ?_)
        by_cases zz : ¬ c < zS s 15 6 ∧ ¬ zS s 15 7 < c
        · rw [in_t (by have a := zz.1; have b := zz.2; rw [jlt] at a b; omega)]
          obtain ⟨ef, hb'⟩ := ht ⟨z5, z8, zz.1, zz.2⟩
          refine Pc_b1S (Pc_if10 (Pc_jn (Pc_if10 (Pc_vl ?_))))
          refine Pc_gd (fun _ => Pc_st (Pc_jn (Pc_if10 (Pc_vl ?_))))
          refine Pc_gd (fun _ => Pc_st ?_)
          unfold b2M b1M at hb'
          rw [x5] at hb'
          rw [v10, ← ef]
          exact hb'
        · rw [in_f (by intro w; exact zz ⟨by rw [jlt]; omega, by rw [jlt]; omega⟩)]
          exact Pc_b1S (Pc_if00 (no (fun z => zz ⟨z.2.2.1, z.2.2.2⟩)))
      by_cases th : ¬ zS s 15 5 < 0 ∧ x = zS s 15 8 ∧ ¬ c < zS s 15 6 ∧ ¬ zS s 15 7 < c
      · rw [if_pos th]
        refine Pc_b1S (Pc_jn (Pc_if10 (Pc_gd (fun _ => Pc_st (Pc_jn (Pc_if10 (Pc_st (Pc_vl (Pc_st ?_)))))))))
        rw [minJ]
        refine Pc_b1S (Pc_st (Pc_vl ?_))
        have W2 := BW.two (f := 2) o hi h z6 z69 e2 e3 (W1 2) ⟨h17.1, by rw [z6, jl0] at h17; omega⟩
        have es : pS (pS (pS (pI (pS (pS (pS (pS s p 5 (zS s p 5 - cost)) p 2 c) p 4 x) 0 16 (zS s 0 16 + 1)) (p + 2) x.toInt.toNat 2) p 6 1) 0 17 (zS (pS (pI (pS (pS (pS (pS s p 5 (zS s p 5 - cost)) p 2 c) p 4 x) 0 16 (zS s 0 16 + 1)) (p + 2) x.toInt.toNat 2) p 6 1) 0 17 + 1)) 0 18 (if zS (pS (pS (pI (pS (pS (pS (pS s p 5 (zS s p 5 - cost)) p 2 c) p 4 x) 0 16 (zS s 0 16 + 1)) (p + 2) x.toInt.toNat 2) p 6 1) 0 17 (zS (pS (pI (pS (pS (pS (pS s p 5 (zS s p 5 - cost)) p 2 c) p 4 x) 0 16 (zS s 0 16 + 1)) (p + 2) x.toInt.toNat 2) p 6 1) 0 17 + 1)) 0 14 < zS (pS (pS (pI (pS (pS (pS (pS s p 5 (zS s p 5 - cost)) p 2 c) p 4 x) 0 16 (zS s 0 16 + 1)) (p + 2) x.toInt.toNat 2) p 6 1) 0 17 (zS (pS (pI (pS (pS (pS (pS s p 5 (zS s p 5 - cost)) p 2 c) p 4 x) 0 16 (zS s 0 16 + 1)) (p + 2) x.toInt.toNat 2) p 6 1) 0 17 + 1)) 0 18 then zS (pS (pS (pI (pS (pS (pS (pS s p 5 (zS s p 5 - cost)) p 2 c) p 4 x) 0 16 (zS s 0 16 + 1)) (p + 2) x.toInt.toNat 2) p 6 1) 0 17 (zS (pS (pI (pS (pS (pS (pS s p 5 (zS s p 5 - cost)) p 2 c) p 4 x) 0 16 (zS s 0 16 + 1)) (p + 2) x.toInt.toNat 2) p 6 1) 0 17 + 1)) 0 14 else zS (pS (pS (pI (pS (pS (pS (pS s p 5 (zS s p 5 - cost)) p 2 c) p 4 x) 0 16 (zS s 0 16 + 1)) (p + 2) x.toInt.toNat 2) p 6 1) 0 17 (zS (pS (pI (pS (pS (pS (pS s p 5 (zS s p 5 - cost)) p 2 c) p 4 x) 0 16 (zS s 0 16 + 1)) (p + 2) x.toInt.toNat 2) p 6 1) 0 17 + 1)) 0 18) = b2X s p (zS s p 5 - cost) c x 2 := by
          have g : ∀ k, k = 14 ∨ k = 17 ∨ k = 18 → zS (pS (pI (pS (pS (pS (pS s p 5 (zS s p 5 - cost)) p 2 c) p 4 x) 0 16 (zS s 0 16 + 1)) (p + 2) x.toInt.toNat 2) p 6 1) 0 k = zS s 0 k := fun k hk => by rw [zS_pS, if_neg (by omega), zS_pI, zS_pS, if_neg (by omega), zS_pS, if_neg (by omega), zS_pS, if_neg (by omega), zS_pS, if_neg (by omega)]
          have g2 : ∀ v k, k = 14 ∨ k = 18 → zS (pS (pS (pI (pS (pS (pS (pS s p 5 (zS s p 5 - cost)) p 2 c) p 4 x) 0 16 (zS s 0 16 + 1)) (p + 2) x.toInt.toNat 2) p 6 1) 0 17 v) 0 k = zS s 0 k := fun v k hk => by rw [zS_pS, if_neg (by omega)]; exact g k (by omega)
          rw [g2 _ 14 (by omega), g2 _ 18 (by omega), g 17 (by omega)]
          rfl
        rw [es]
        refine Pc.mono (rec_ _ _ W2 (q4 2) ?_) (fun r hr => mm _ (yd 2 _ (fun _ => ⟨rfl, hr⟩) (fun z => absurd th z)))
        unfold b2M
        rw [zI_pI, if_pos ⟨rfl, rfl⟩, ← e2, i32_add (by rw [jl1]; omega) (by rw [jl1]; omega), jl1]
        omega
      · rw [if_neg th]
        have go : ∀ f, f = op → Pc (f_X11_boreOn_L7 p y2 n (b1X s p (zS s p 5 - cost) c x f) (x + 1)) (fun r => Pc (gd (inB y1 120) (gd (inB y1 120) (if (zI t 67 i) < (zI t 66 i) then (gd (inB y1 120) (if (zI t 69 i) = (0 : Int32) then (gd (inB y1 120) (vl (((zI t 67 i) + (1 : Int32))) fun v7 => (gd (inB y1 120) (vl ((((61 : Int32) * y1) + v7)) fun v10 => (gd (inB v10 7320) (b1 (f_X12_held ((zI t 65 i) + (zI t 70 (v10.toInt.toNat))) (0 : Int32) (31 : Int32)) fun r12 => (vl ((((61 : Int32) * r12) + v7)) fun v13 => (gd (inB v13 1952) (jn (fun (t15_0 : Int32) => (gd (inB y1 120) (if (zI t 68 i) < t15_0 then some t else (gd (inB y1 120) (vl (((zI t 68 i) - t15_0)) fun v19 => (gd (inB y1 120) (st (pI t 68 i v19) fun s21 => (gd (inB y1 120) (st (pI s21 67 i v7) fun s23 => (gd (inB y1 120) (st (pI s23 65 i r12) fun s25 => (jn (fun (t26_0 : Int32) => (jn (fun (t27_0 : Int32) => (vl ((((61 : Int32) * y1) + v7)) fun v28 => (gd (inB v28 7320) (st (pI s25 71 (v28.toInt.toNat) t27_0) fun s30 => (jn (fun (s31 : SS)  => (f_X12_bore_L0 y1 y2 m s31)) fun k31 => (if t26_0 = (0 : Int32) then (k31 s30) else (vl (((zS s30 59 1) + (1 : Int32))) fun v33 => (gd (inB y1 120) (st (pI s30 69 i v33) fun s35 => (k31 s35)))))))))) fun k27 => (if t26_0 = (0 : Int32) then (gd (inB v13 1952) (if (zI s25 61 (v13.toInt.toNat)) = (0 : Int32) then (k27 0) else (k27 1))) else (k27 2)))) fun k26 => (jn ((k26 0)) fun k39 => (if (zS s25 59 21) < (0 : Int32) then k39 else (if v7 = (zS s25 59 24) then (b1 (f_X12_in r12 (zS s25 59 22) (zS s25 59 23)) fun r42 => (if r42 = (0 : Int32) then k39 else (k26 1))) else k39))))))))))))))) fun k15 => (if (zI t 61 (v13.toInt.toNat)) = (0 : Int32) then (gd (inB v13 1952) (k15 (y2 * ((3 : Int32) + (zI t 60 (v13.toInt.toNat)))))) else (k15 0))))))))))) else some t)) else some t))) (fun u => BW p i s t r u)) := fun f ef => Pc.mono (rec_ _ _ (W1 f) (p4 f) (by
          unfold b1M
          rw [zI_pI, if_neg (by omega), zI_pI, if_neg (by omega), zI_pI, if_neg (by omega), zI_pI, if_neg (by omega)]
          exact h69)) (fun r hr => mm _ (yd f _ (fun z => absurd z th) (fun _ => ⟨ef, hr⟩)))
        rcases hop with rfl | rfl
        · exact Pc_b1S (Pc_jn (Pc_if00 (Pc_if00 (Pc_gd (fun _ => Pc_st (Pc_jn (Pc_if00 (Pc_vl (go 0 rfl)))))))))
        · exact Pc_b1S (Pc_jn (Pc_if00 (Pc_if10 (Pc_gd (fun _ => Pc_st (Pc_jn (Pc_if00 (Pc_vl (go 1 rfl)))))))))
    rcases k3 with k3 | k3
    · have c3 : 0 ≤ (y2 * (3 + zI t 60 (61 * c.toInt.toNat + x.toInt.toNat))).toInt := by
        rw [← k1]
        have a := hh (60 * c.toInt.toNat + x.toInt.toNat - 1)
        have b : 0 ≤ y2.toInt * (zI s 2 (60 * c.toInt.toNat + x.toInt.toNat - 1)).toInt := Int.mul_nonneg hp.1 a.1
        have d : y2.toInt * (zI s 2 (60 * c.toInt.toNat + x.toInt.toNat - 1)).toInt ≤ 60 * 9 := Int.mul_le_mul hp.2 a.2 a.1 (by omega)
        rw [i32_mul (by omega) (by omega)]
        exact b
      have F := fin 0 _ (Or.inl rfl) k3.symm (if_pos rfl).symm c3
      refine Pc_iff (by rw [k2, k3]; decide) (Pc_jn (Pc_if00 (Pc_gd (fun _ => ?_))))
      rw [k1]
      exact F
    · have F := fin 1 _ (Or.inr rfl) k3.symm (if_neg n10).symm (by decide)
      exact Pc_ift (by rw [k2, k3]) (Pc_jn (Pc_if10 F))
end BLs
