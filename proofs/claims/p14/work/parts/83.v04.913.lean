/-! WHAT A TEXT IS WORTH, BY THE REFERENCE -/
theorem work_l {y1 a b : Int32} {i : Nat} {nm : Nat → Int32} {s : SS} {l : List Int32} {v : Int32} (hy : y1.toInt = i) (hi : i < 16) (ha : 0 ≤ a.toInt ∧ a.toInt + l.length = b.toInt ∧ b.toInt ≤ 160) (hl : ∀ c, c ∈ l → ecode c) (hj : ∀ (j : Nat) c, l[j]? = some c → zI s 93 (170 * i + a.toInt.toNat + j) = tkA c ∧ zI s 94 (170 * i + a.toInt.toNat + j) = tkW c) (hn : ∀ j, j < 8 → nm j = zI s 95 j) (hv : Wv nm l v) : ∃ s', f_X12_worked s y1 a b = some (v, s') ∧ K29 96 s s' := by
  have j170 : (170 : Int32).toInt = 170 := rfl
  have m : ((170 : Int32) * y1).toInt = 170 * i := by rw [i32_mul (by rw [j170]; omega) (by rw [j170]; omega), j170, hy]
  have ma : ((170 : Int32) * y1 + a).toInt = 170 * i + a.toInt := by rw [i32_add (by rw [m]; omega) (by rw [m]; omega), m]
  have mb : ((170 : Int32) * y1 + b).toInt = 170 * i + b.toInt := by rw [i32_add (by rw [m]; omega) (by rw [m]; omega), m]
  unfold f_X12_worked
  rw [vl]
  obtain ⟨s', x4', x5', q1, q2, q3, q4, q5, q6⟩ := wrM (q0 := fun (s43 : SS) => some ((zI s43 96 ((0 : Int32).toInt.toNat)), s43)) (y1 := y1) (y3 := b) (nm := nm) (by rw [mb]; omega) l [] [v] s 0 ((170 : Int32) * y1 + a) (4000 - l.length) hl (fun j c h => by
    rw [show ((170 : Int32) * y1 + a).toInt.toNat + j = 170 * i + a.toInt.toNat + j by omega]
    exact hj j c h) (by omega) (by rw [mb]; omega) rfl (by decide) trivial hn (hv [] 170 (by decide))
  refine ⟨s', ?_, q6⟩
  rw [show (4000 : Nat) = 4000 - l.length + l.length by omega, q1, show 4000 - l.length = 3999 - l.length + 1 by omega, f_X12_worked_L12, f_X12_worked_L12_b, if_neg (by rw [jlt, mb]; omega)]
  show some (zI s' 96 0, s') = _
  rw [show zI s' 96 0 = v from q5.1]
noncomputable def qG (y1 : Int32) (s13 : SS) (x13_4 : Int32) : Option (Int32 × SS) := (gd (inB x13_4 1530) (gd (inB x13_4 1530) (bd (f_X12_worked s13 y1 (zI s13 91 (x13_4.toInt.toNat)) (zI s13 92 (x13_4.toInt.toNat))) fun r16 s16 => some (r16, s16))))
theorem mlL_cut {ls : List (Option (List Int32) × List Int32)} {k : Nat} {pr : Option (List Int32) × List Int32} (h : ls[k]? = some pr) : mlL ls = mlL (ls.take k) ++ ((tst pr.1 ++ pr.2) ++ mlL (ls.drop (k + 1))) ∧ mlL (ls.take (k + 1)) = mlL (ls.take k) ++ (tst pr.1 ++ pr.2) ∧ ls.drop k = pr :: ls.drop (k + 1) := by
  obtain ⟨hk, e⟩ := List.getElem?_eq_some_iff.mp h
  have e1 : ls.drop k = pr :: ls.drop (k + 1) := by rw [List.drop_eq_getElem_cons hk, e]
  have e2 : ls.take (k + 1) = ls.take k ++ [pr] := by rw [List.take_succ_eq_append_getElem hk, e]
  refine ⟨?_, by rw [e2, mlL_add], e1⟩
  conv => lhs; rw [← List.take_append_drop k ls, e1]
  unfold mlL
  rw [List.flatMap_append, List.flatMap_cons]
theorem gives_l {y1 : Int32} {i : Nat} {nm : Nat → Int32} {t : SS} {ls : List (Option (List Int32) × List Int32)} (hy : y1.toInt = i) (hi : i < 16) (ok : okL ls) (hm : (mlL ls).length ≤ 160) (hL : ls.length ≤ 90) (hc : ∀ (j : Nat) c, (mlL ls)[j]? = some c → zI t 93 (170 * i + j) = tkA c ∧ zI t 94 (170 * i + j) = tkW c) (h90 : (zI t 90 i).toInt = ls.length) (tab : ∀ (k : Nat) pr, ls[k]? = some pr → (zI t 91 (90 * i + k)).toInt = (mlL (ls.take k)).length + (tst pr.1).length ∧ (zI t 92 (90 * i + k)).toInt = (mlL (ls.take (k + 1))).length) (hn : ∀ j, j < 8 → nm j = zI t 95 j) : ∀ (n k : Nat) (s : SS) (x2 x3 v : Int32), K29 96 t s → x3.toInt = k → x2.toInt = (mlL (ls.take k)).length → tVal nm (ls.drop k) v → k ≤ ls.length → ls.length - k < n → ∃ s', f_X12_gives_L4 (qG y1) y1 n s x2 x3 = some (v, s') ∧ K29 96 t s'
  | 0, k, s, x2, x3, v, _, _, _, _, _, h => by omega
  | n + 1, k, s, x2, x3, v, K, h3, h2, tv, hk, hlt => by
    have e90 : zI s 90 y1.toInt.toNat = zI t 90 i := by rw [K.1 _ _ (by omega), show y1.toInt.toNat = i by omega]
    have g1 : inB y1 17 := ⟨by omega, by omega⟩
    show ∃ s', f_X12_gives_L4_b (qG y1) y1 (f_X12_gives_L4 (qG y1) y1 n) s x2 x3 = some (v, s') ∧ K29 96 t s'
    unfold f_X12_gives_L4_b
    rw [gd_t g1]
    by_cases c : k < ls.length
    · have hpr : ls[k]? = some (ls[k]) := List.getElem?_eq_getElem c
      generalize hp' : ls[k] = pr at hpr
      obtain ⟨m1, m2, m3⟩ := mlL_cut hpr
      obtain ⟨t1, t2⟩ := tab k pr hpr
      have okp := ok pr (List.mem_of_getElem? hpr)
      rw [m3] at tv
      have len : (mlL ls).length = (mlL (ls.take k)).length + ((tst pr.1).length + pr.2.length + (mlL (ls.drop (k + 1))).length) := by rw [m1]; simp only [List.length_append]
      have len2 : (mlL (ls.take (k + 1))).length = (mlL (ls.take k)).length + ((tst pr.1).length + pr.2.length) := by rw [m2]; simp only [List.length_append]
      have j90 : (90 : Int32).toInt = 90 := rfl
      have mm : ((90 : Int32) * y1).toInt = 90 * i := by rw [i32_mul (by rw [j90]; omega) (by rw [j90]; omega), j90, hy]
      have m3' : ((90 : Int32) * y1 + x3).toInt = 90 * i + k := by rw [i32_add (by rw [mm]; omega) (by rw [mm]; omega), mm, h3]
      have mt : ((90 : Int32) * y1 + x3).toInt.toNat = 90 * i + k := by omega
      have gL : inB ((90 : Int32) * y1 + x3) 1530 := ⟨by omega, by omega⟩
      rw [if_pos (by rw [jlt, e90, h90, h3]; omega), vl, gd_t gL, mt, K.1 91 _ (by omega)]
      -- the value of this line
      have val : ∀ (s1 : SS) (w : Int32), K29 96 t s1 → Wv nm pr.2 w → ∃ s', qG y1 s1 ((90 : Int32) * y1 + x3) = some (w, s') ∧ K29 96 t s' := by
        intro s1 w K1 hw
        obtain ⟨s', e1, k1⟩ := work_l (y1 := y1) (a := zI t 91 (90 * i + k)) (b := zI t 92 (90 * i + k)) (s := s1) (l := pr.2) (v := w) (nm := nm) hy hi ⟨by omega, by omega, by omega⟩ (fun d hd => okp.2.1.1 d hd) (fun j d h => by
          have q := hc ((mlL (ls.take k)).length + ((tst pr.1).length + j)) d (by rw [m1]; exact getB (getA (getB h)))
          rw [K1.1 93 _ (by omega), K1.1 94 _ (by omega), show 170 * i + (zI t 91 (90 * i + k)).toInt.toNat + j = 170 * i + ((mlL (ls.take k)).length + ((tst pr.1).length + j)) by omega]
          exact q) (fun j h => by rw [hn j h, K1.1 95 _ (by omega)]) hw
        refine ⟨s', ?_, K1.tr k1⟩
        unfold qG
        rw [gd_t gL, gd_t gL, mt, K1.1 91 _ (by omega), K1.1 92 _ (by omega), e1]
        rfl
      obtain ⟨T, e⟩ := pr
      match T, tv, okp, m1, m2, t1, t2, len, len2, val with
      | none, tv, okp, m1, m2, t1, t2, len, len2, val =>
        have l0 : (tst none).length = 0 := rfl
        rw [if_pos (Int32.toInt_inj.1 (by rw [t1, h2]; show _ = _; rw [l0]; omega))]
        exact val s v K tv
      | some cc, tv, okp, m1, m2, t1, t2, len, len2, val =>
        have l0 : (tst (some cc)).length = cc.length := rfl
        have lc := (okp.1 cc rfl).2
        rw [l0] at len len2
        have t1' : (zI t 91 (90 * i + k)).toInt = (mlL (ls.take k)).length + cc.length := t1
        have len' : (mlL ls).length = (mlL (ls.take k)).length + (cc.length + e.length + (mlL (ls.drop (k + 1))).length) := len
        have len2' : (mlL (ls.take (k + 1))).length = (mlL (ls.take k)).length + (cc.length + e.length) := len2
        rw [if_neg (fun z => by have := congrArg Int32.toInt z; omega), gd_t gL]
        obtain ⟨vc, hvc, tv⟩ := tv
        obtain ⟨s1, e1, k1⟩ := work_l (y1 := y1) (a := x2) (b := zI t 91 (90 * i + k)) (s := s) (l := cc) (v := vc) (nm := nm) hy hi ⟨by omega, by omega, by omega⟩ (fun d hd => (okp.1 cc rfl).1.1 d hd) (fun j d h => by
          have q := hc ((mlL (ls.take k)).length + j) d (by rw [m1]; exact getB (getA (getA h)))
          rw [K.1 93 _ (by omega), K.1 94 _ (by omega), show 170 * i + x2.toInt.toNat + j = 170 * i + ((mlL (ls.take k)).length + j) by omega]
          exact q) (fun j h => by rw [hn j h, K.1 95 _ (by omega)]) hvc
        have K1 := K.tr k1
        rw [e1, bd_some]
        rcases tv with ⟨ne, hv⟩ | ⟨z, hv⟩
        · rw [if_neg ne]
          exact val s1 v K1 hv
        · rw [if_pos z, gd_t gL, vl, vl, K1.1 92 _ (by omega)]
          have n1 : (x3 + 1).toInt = x3.toInt + 1 := by rw [i32_add (by rw [jl1]; omega) (by rw [jl1]; omega), jl1]
          exact gives_l hy hi ok hm hL hc h90 tab hn n (k + 1) s1 _ _ v K1 (by omega) t2 hv (by omega) (by omega)
    · rw [if_neg (by rw [jlt, e90, h90, h3]; omega)]
      rw [List.drop_eq_nil_of_le (by omega)] at tv
      have tv' : v = 0 := tv
      rw [tv']
      exact ⟨s, rfl, K⟩
