/-! MOVES -/
theorem moveM {t : SS} {a0 a1 : Int32} {n : Nat} (c : Vc a0) (d : (zS t 59 1).toInt + 1 ≤ a1.toInt ∧ a1.toInt ≤ 1699) (h0 : (zS t 59 1).toInt < 2147483647) (h2 : ¬ zS t 59 56 = 60) (h3 : 0 ≤ (zS t 59 56).toInt ∧ (zS t 59 56).toInt < 60) (en : n = (zS t 59 56).toInt.toNat) : f_X12_move t a0 a1 = some (zS t 59 56 + 1, pS (pI (pI t 97 n a0) 98 n a1) 59 56 (zS t 59 56 + 1)) := by
  have l := jlo (zS t 59 1)
  have gn : inB (zS t 59 56) 60 := ⟨by omega, by omega⟩
  unfold f_X12_move
  rw [cel_t c, b1_some, if_neg (by decide), in_t (by rw [i32_add (by rw [jl1]; omega) (by rw [jl1]; omega), jl1, jl1699]; omega), b1_some, if_neg (by decide), if_neg h2, vl, gd_t gn, st, vl, gd_t (show inB (zS (pI t 97 (zS t 59 56).toInt.toNat a0) 59 56) 60 from gn), st, vl, st, en]
  rfl
theorem moveX {s : SS} {a0 a1 : Int32} {n : Nat} (h3 : 0 ≤ (zS s 1 4).toInt ∧ (zS s 1 4).toInt < 60) (en : n = (zS s 1 4).toInt.toNat) : f_X5_moveTold s a0 a1 = some (zS s 1 4 + 1, pS (pI (pI s 4 n a0) 5 n a1) 1 4 (zS s 1 4 + 1)) := by
  have gn : inB (zS s 1 4) 60 := ⟨by omega, by omega⟩
  unfold f_X5_moveTold
  rw [if_pos (by rw [jlt, jl60]; omega), vl, gd_t gn, st, vl, gd_t (show inB (zS (pI s 4 (zS s 1 4).toInt.toNat a0) 1 4) 60 from gn), st, vl, st, en]
  rfl
theorem st_move {s : SS} (G : GI s) (a0 : Int32) (a1 : Int32) : ∃ (rx : Int32) (s1 : SS) (rm : Int32) (s2 : SS), f_X11_move s a0 a1 = some (rx, s1) ∧ f_X12_move s1 a0 a1 = some (rm, s2) ∧ GI s2 ∧ rx = rm := by
  obtain ⟨⟨t1, t2, t3, t4, t6⟩, t5⟩ := G.2
  have hf : 0 ≤ (zS s 1 4).toInt ∧ (zS s 1 4).toInt ≤ 60 := G.1.1.f (q := 1) (k := 4) rfl
  have l := jlo (zS s 0 14)
  have l1 := jlo a1
  by_cases c : Vc a0
  · obtain ⟨u1, u2, u3⟩ := c.b
    have nx := nnI (k := 60 * cC a0 + cY a0 - 1) (by omega)
    by_cases d : (zS s 0 14).toInt < a1.toInt ∧ a1.toInt ≤ 1699
    · by_cases b : (zS s 1 4).toInt < 60
      · obtain ⟨n, en⟩ : ∃ n, n = (zS s 1 4).toInt.toNat := ⟨_, rfl⟩
        have n1 : (zS s 1 4 + 1).toInt = (zS s 1 4).toInt + 1 := by rw [i32_add (by rw [jl1]; omega) (by rw [jl1]; omega), jl1]
        have f1 : zS (pS (pI (pI s 4 n a0) 5 n a1) 1 4 (zS s 1 4 + 1)) 59 1 = zS s 0 14 := t1.symm
        have f56 : zS (pS (pI (pI s 4 n a0) 5 n a1) 1 4 (zS s 1 4 + 1)) 59 56 = zS s 1 4 := t2.symm
        have I1 : Iv (pS (pI (pI s 4 n a0) 5 n a1) 1 4 (zS s 1 4 + 1)) := ((G.1.1.wI (q := 4) (by decide) trivial).wI (q := 5) (by decide) trivial).wF (q := 1) (k := 4) (by decide) (by decide) ⟨by omega, by omega⟩
        refine ⟨zS s 1 4 + 1, pS (pI (pI s 4 n a0) 5 n a1) 1 4 (zS s 1 4 + 1), _, _, ?_, moveM (n := n) c (by rw [f1]; omega) (by rw [f1]; omega) (fun z => by rw [f56] at z; rw [z, jl60] at b; omega) (by rw [f56]; omega) (by rw [f56]; exact en), ⟨?_, ⟨?_, ?_⟩⟩, ?_⟩
        · unfold f_X11_move
          rw [plX_t c, b1_some, if_neg (by rw [jlt, jl0]; omega), if_pos (by rw [jlt]; omega), if_neg (by rw [jlt, jl1699]; omega), moveX ⟨hf.1, b⟩ en]
          rfl
        · rw [f56]
          refine G.1.go ⟨fun q k h => ?_, fun q j h => ?_, fun _ _ _ => rfl⟩ (fun _ => rfl) ?_
          · rw [zSf h (by decide), zS_pI, zS_pI, zSf h (by decide), zS_pI, zS_pI]
          · rw [zI_pS, zIf h (by decide), zIf h (by decide), zI_pS, zIf h (by decide), zIf h (by decide)]
          · refine ((I1.wI (q := 97) (by decide) ?_).wI (q := 98) (by decide) trivial).wF (q := 59) (k := 56) (by decide) (by decide) ⟨by omega, by omega⟩
            unfold Vc at c
            exact ⟨c.1, by omega, by omega⟩
        · rw [f56]
          refine ⟨t1, rfl, fun i => ?_, fun i => ?_, t6⟩
          · have x4 : zI (pS (pI (pI (pS (pI (pI s 4 n a0) 5 n a1) 1 4 (zS s 1 4 + 1)) 97 n a0) 98 n a1) 59 56 (zS s 1 4 + 1)) 4 i = if i = n then a0 else zI s 4 i := by
              rw [zI_pS, zI_pI, if_neg (by omega), zI_pI, if_neg (by omega), zI_pS, zI_pI, if_neg (by omega), zI_pI]
              by_cases z : i = n
              · rw [if_pos ⟨rfl, z⟩, if_pos z]
              · rw [if_neg (by omega), if_neg z]
            have x97 : zI (pS (pI (pI (pS (pI (pI s 4 n a0) 5 n a1) 1 4 (zS s 1 4 + 1)) 97 n a0) 98 n a1) 59 56 (zS s 1 4 + 1)) 97 i = if i = n then a0 else zI s 97 i := by
              rw [zI_pS, zI_pI, if_neg (by omega), zI_pI]
              by_cases z : i = n
              · rw [if_pos ⟨rfl, z⟩, if_pos z]
              · rw [if_neg (by omega), if_neg z, zI_pS, zI_pI, if_neg (by omega), zI_pI, if_neg (by omega)]
            rw [x4, x97, t3 i]
          · have x5 : zI (pS (pI (pI (pS (pI (pI s 4 n a0) 5 n a1) 1 4 (zS s 1 4 + 1)) 97 n a0) 98 n a1) 59 56 (zS s 1 4 + 1)) 5 i = if i = n then a1 else zI s 5 i := by
              rw [zI_pS, zI_pI, if_neg (by omega), zI_pI, if_neg (by omega), zI_pS, zI_pI]
              by_cases z : i = n
              · rw [if_pos ⟨rfl, z⟩, if_pos z]
              · rw [if_neg (by omega), if_neg z, zI_pI, if_neg (by omega)]
            have x98 : zI (pS (pI (pI (pS (pI (pI s 4 n a0) 5 n a1) 1 4 (zS s 1 4 + 1)) 97 n a0) 98 n a1) 59 56 (zS s 1 4 + 1)) 98 i = if i = n then a1 else zI s 98 i := by
              rw [zI_pS, zI_pI]
              by_cases z : i = n
              · rw [if_pos ⟨rfl, z⟩, if_pos z]
              · rw [if_neg (by omega), if_neg z, zI_pI, if_neg (by omega), zI_pS, zI_pI, if_neg (by omega), zI_pI, if_neg (by omega)]
            rw [x5, x98, t4 i]
        · exact t5
        · rw [f56]
      · refine ⟨-3, s, -3, s, ?_, ?_, G, rfl⟩
        · unfold f_X11_move f_X5_moveTold
          rw [plX_t c, b1_some, if_neg (by rw [jlt, jl0]; omega), if_pos (by rw [jlt]; omega), if_neg (by rw [jlt, jl1699]; omega), if_neg (by rw [jlt, jl60]; exact b)]
          rfl
        · unfold f_X12_move
          rw [cel_t c, b1_some, if_neg (by decide), in_t (by rw [← t1, i32_add (by rw [jl1]; omega) (by rw [jl1]; omega), jl1, jl1699]; omega), b1_some, if_neg (by decide), if_pos (by rw [← t2]; exact Int32.toInt_inj.1 (by rw [jl60]; omega))]
    · have hm : ¬ ((zS s 59 1 + 1).toInt ≤ a1.toInt ∧ a1.toInt ≤ (1699 : Int32).toInt) := by
        rw [← t1, jl1699, i32_add (by rw [jl1]; omega) (by rw [jl1]; omega), jl1]
        omega
      refine ⟨-1, s, -1, s, ?_, ?_, G, rfl⟩
      · unfold f_X11_move
        rw [plX_t c, b1_some, if_neg (by rw [jlt, jl0]; omega)]
        by_cases h : zS s 0 14 < a1
        · rw [if_pos h, if_pos (by rw [jlt, jl1699]; rw [jlt] at h; omega)]
        · rw [if_neg h]
      · unfold f_X12_move
        rw [cel_t c, b1_some, if_neg (by decide), in_f hm, b1_some, if_pos rfl]
  · refine ⟨-1, s, -1, s, ?_, ?_, G, rfl⟩
    · unfold f_X11_move
      rw [plX_f c, b1_some, if_pos (by decide)]
    · unfold f_X12_move
      rw [cel_f c, b1_some, if_pos rfl]
