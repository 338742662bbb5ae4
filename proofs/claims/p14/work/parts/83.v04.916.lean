/-! THINGS COME DOWN -/
section ARs
variable {s t s0 t0 : SS}
/-- on the way: the first l stay, those from i on are to be looked at -/
def AI (s0 t0 s t : SS) (y l i : Int) : Prop := (zS s 30 0 = zS t 59 54 ∧ zS s 30 5 = zS t 59 62 ∧ ∀ k, zI s 31 k = zI t 105 k) ∧ (∀ j : Nat, (j : Int) < l → zI s 32 j = zI t 102 j ∧ zI s 33 j = zI t 103 j ∧ y < (zI s 33 j).toInt) ∧ (∀ j : Nat, i ≤ j → (j : Int) < (zS s 30 5).toInt → zI s 32 j = zI t 102 j ∧ zI s 33 j = zI t 103 j ∧ y ≤ (zI s 33 j).toInt) ∧ (0 ≤ l ∧ l ≤ i ∧ i ≤ (zS s 30 5).toInt) ∧ Frm [(30, 0)] [31, 32, 33] [] s0 s ∧ Frm [(59, 54)] [102, 103, 105] [] t0 t
def qA (s18 : SS) (x18_2 : Int32) : Option SS := (st (pS s18 30 5 x18_2) fun s19 => some s19)
def qB (s28 : SS) (x28_1 : Int32) : Option SS := (st (pS s28 59 62 x28_1) fun s29 => some s29)
def AR (s0 t0 : SS) (y : Int) (r u : SS) : Prop := QStoH y r u ∧ Frm [(30, 0), (30, 5)] [31, 32, 33] [] s0 r ∧ Frm [(59, 54), (59, 62)] [102, 103, 105] [] t0 u
theorem Frm.mo {WS WS' : List (Nat × Nat)} {WI WI' WJ WJ' : List Nat} {b r : SS} (F : Frm WS WI WJ b r) (h1 : WS.all (fun p => WS'.contains p) = true) (h2 : WI.all (fun q => WI'.contains q) = true) (h3 : WJ.all (fun q => WJ'.contains q) = true) : Frm WS' WI' WJ' b r := by
  refine ⟨fun q k h => F.1 q k (nct h1 h), fun q i h => F.2.1 q i (nct h2 h), fun q i h => F.2.2.1 q i (nct h3 h), F.2.2.2⟩
theorem arr_l {y : Int32} (e31 : zS s0 30 1 = zS t0 59 55) (h59 : zS t0 59 1 = y) (h40 : (zS s0 30 5).toInt ≤ 40) : ∀ (n n' : Nat) (s t : SS) (x2 x3 : Int32), AI s0 t0 s t y.toInt x2.toInt x3.toInt → Pc (f_X9_arrivals_L4 qA y n s x2 x3) (fun r => Pc (f_X12_comeDown_L4 qB n' t x2 x3) (fun u => AR s0 t0 y.toInt r u))
  | 0, _, _, _, _, _, _ => Pc_none
  | n + 1, 0, _, _, _, _, _ => fun _ _ => Pc_none
  | n + 1, n' + 1, s, t, x2, x3, A => by
    obtain ⟨⟨e0, e5, e105⟩, hl, hi, ⟨l0, l1, l2⟩, F, G⟩ := A
    have w5 : zS s 30 5 = zS s0 30 5 := F.1 30 5 (by decide)
    have y59 : zS t 59 1 = y := (G.1 59 1 (by decide)).trans h59
    show Pc (f_X9_arrivals_L4_b qA y (f_X9_arrivals_L4 qA y n) s x2 x3) (fun r => Pc (f_X12_comeDown_L4_b qB (f_X12_comeDown_L4 qB n') t x2 x3) _)
    unfold f_X9_arrivals_L4_b f_X12_comeDown_L4_b
    by_cases c : x3.toInt < (zS s 30 5).toInt
    case neg =>
      refine Pc_iff (by rw [jlt]; exact c) (Pc_st (Pc_some (Pc_iff (by rw [jlt, ← e5]; exact c) (Pc_st (Pc_some ⟨⟨e0, ?_, rfl, e105, fun j hj hc => hl j hc⟩, ?_, ?_⟩)))))
      · show zS s 30 1 = zS t 59 55
        rw [F.1 30 1 (by decide), G.1 59 55 (by decide)]
        exact e31
      · exact (F.mo (by decide) (by decide) (by decide)).pS (by decide)
      · exact (G.mo (by decide) (by decide) (by decide)).pS (by decide)
    have c' : (zS s 30 5).toInt ≤ 40 := by rw [w5]; exact h40
    obtain ⟨i1, i2, i3⟩ := hi x3.toInt.toNat (by omega) (by omega)
    have n3 : (x3 + 1).toInt = x3.toInt + 1 := by rw [i32_add (by rw [jl1]; omega) (by rw [jl1]; omega), jl1]
    have n2 : (x2 + 1).toInt = x2.toInt + 1 := by rw [i32_add (by rw [jl1]; omega) (by rw [jl1]; omega), jl1]
    have cm : x3 < zS t 59 62 := by rw [jlt, ← e5]; exact c
    refine Pc_ift (by rw [jlt]; exact c) (Pc_gd (fun _ => Pc_jn ?_))
    by_cases k : y < zI s 33 x3.toInt.toNat
    · -- it stays on its way
      have k' : ¬ zI t 103 x3.toInt.toNat = zS t 59 1 := fun z => by
        rw [y59, ← i2] at z
        rw [z, jlt] at k
        omega
      rw [jlt] at k
      refine Pc_ift (by rw [jlt]; exact k) (Pc_gd (fun _ => Pc_vl (Pc_gd (fun _ => Pc_st (Pc_gd (fun _ => Pc_vl (Pc_gd (fun _ => Pc_st (Pc_vl (Pc_vl ?_))))))))))
      have A2 : AI s0 t0 (pI (pI s 32 x2.toInt.toNat (zI s 32 x3.toInt.toNat)) 33 x2.toInt.toNat (zI (pI s 32 x2.toInt.toNat (zI s 32 x3.toInt.toNat)) 33 x3.toInt.toNat)) (pI (pI t 102 x2.toInt.toNat (zI t 102 x3.toInt.toNat)) 103 x2.toInt.toNat (zI (pI t 102 x2.toInt.toNat (zI t 102 x3.toInt.toNat)) 103 x3.toInt.toNat)) y.toInt (x2 + 1).toInt (x3 + 1).toInt := by
        have r33 : zI (pI s 32 x2.toInt.toNat (zI s 32 x3.toInt.toNat)) 33 x3.toInt.toNat = zI s 33 x3.toInt.toNat := by rw [zI_pI, if_neg (by omega)]
        have r103 : zI (pI t 102 x2.toInt.toNat (zI t 102 x3.toInt.toNat)) 103 x3.toInt.toNat = zI t 103 x3.toInt.toNat := by rw [zI_pI, if_neg (by omega)]
        rw [r33, r103, n2, n3]
        have c32 : ∀ j v w, zI (pI (pI s 32 x2.toInt.toNat v) 33 x2.toInt.toNat w) 32 j = if j = x2.toInt.toNat then v else zI s 32 j := fun j v w => by
          rw [zI_pI, if_neg (by omega), zI_pI]
          by_cases z : j = x2.toInt.toNat
          · rw [if_pos ⟨rfl, z⟩, if_pos z]
          · rw [if_neg (fun q => z q.2), if_neg z]
        have c33 : ∀ j v w, zI (pI (pI s 32 x2.toInt.toNat v) 33 x2.toInt.toNat w) 33 j = if j = x2.toInt.toNat then w else zI s 33 j := fun j v w => by
          rw [zI_pI]
          by_cases z : j = x2.toInt.toNat
          · rw [if_pos ⟨rfl, z⟩, if_pos z]
          · rw [if_neg (fun q => z q.2), if_neg z, zI_pI, if_neg (by omega)]
        have c102 : ∀ j v w, zI (pI (pI t 102 x2.toInt.toNat v) 103 x2.toInt.toNat w) 102 j = if j = x2.toInt.toNat then v else zI t 102 j := fun j v w => by
          rw [zI_pI, if_neg (by omega), zI_pI]
          by_cases z : j = x2.toInt.toNat
          · rw [if_pos ⟨rfl, z⟩, if_pos z]
          · rw [if_neg (fun q => z q.2), if_neg z]
        have c103 : ∀ j v w, zI (pI (pI t 102 x2.toInt.toNat v) 103 x2.toInt.toNat w) 103 j = if j = x2.toInt.toNat then w else zI t 103 j := fun j v w => by
          rw [zI_pI]
          by_cases z : j = x2.toInt.toNat
          · rw [if_pos ⟨rfl, z⟩, if_pos z]
          · rw [if_neg (fun q => z q.2), if_neg z, zI_pI, if_neg (by omega)]
        refine ⟨⟨e0, e5, e105⟩, fun j hj => ?_, fun j hj hw => ?_, ⟨by omega, by omega, ?_⟩, (F.pI (by decide)).pI (by decide), (G.pI (by decide)).pI (by decide)⟩
        · rw [c32, c33, c102, c103]
          by_cases z : j = x2.toInt.toNat
          · rw [if_pos z, if_pos z, if_pos z, if_pos z]
            exact ⟨i1, i2, k⟩
          · rw [if_neg z, if_neg z, if_neg z, if_neg z]
            exact hl j (by omega)
        · have hw' : (j : Int) < (zS s 30 5).toInt := hw
          rw [c32, c33, c102, c103, if_neg (by omega), if_neg (by omega), if_neg (by omega), if_neg (by omega)]
          exact hi j (by omega) hw'
        · show x3.toInt + 1 ≤ (zS s 30 5).toInt
          omega
      refine Pc.mono (arr_l e31 h59 h40 n n' _ _ _ _ A2) (fun r hr => Pc_ift cm (Pc_gd (fun _ => Pc_jn (Pc_iff k' (Pc_gd (fun _ => Pc_vl (Pc_gd (fun _ => Pc_st (Pc_gd (fun _ => Pc_vl (Pc_gd (fun _ => Pc_st (Pc_vl (Pc_vl hr))))))))))))))
    · -- it is below
      have k' : zI t 103 x3.toInt.toNat = zS t 59 1 := Int32.toInt_inj.1 (by rw [jlt] at k; rw [y59, ← i2]; omega)
      refine Pc_iff k (Pc_gd (fun _ => Pc_b1 ?_))
      have nx : ∀ (s' t' : SS), zS s' 30 0 = zS t' 59 54 → (∀ k, zI s' 31 k = zI t' 105 k) → (∀ k, k ≠ 0 → zS s' 30 k = zS s 30 k) → zS t' 59 62 = zS t 59 62 → (∀ q j, q = 32 ∨ q = 33 → zI s' q j = zI s q j) → (∀ q j, q = 102 ∨ q = 103 → zI t' q j = zI t q j) → Frm [(30, 0)] [31, 32, 33] [] s0 s' → Frm [(59, 54)] [102, 103, 105] [] t0 t' → AI s0 t0 s' t' y.toInt x2.toInt (x3 + 1).toInt := by
        intro s' t' a1 a2 a3 a4 a5 a6 F' G'
        rw [n3]
        refine ⟨⟨a1, by rw [a3 5 (by omega), a4]; exact e5, a2⟩, fun j hj => ?_, fun j hj hw => ?_, ⟨by omega, by omega, by rw [a3 5 (by omega)]; omega⟩, F', G'⟩
        · rw [a5 32 j (by omega), a5 33 j (by omega), a6 102 j (by omega), a6 103 j (by omega)]
          exact hl j hj
        · rw [a5 32 j (by omega), a5 33 j (by omega), a6 102 j (by omega), a6 103 j (by omega)]
          rw [a3 5 (by omega)] at hw
          exact hi j (by omega) hw
      unfold f_X9_comesBelow
      rw [i1]
      refine Pc_vl (Pc_if (fun z => Pc_vl (Pc_st (Pc_some (Pc_vl ?_)))) (fun z => Pc_lt (fun z2 => Pc_gd (fun _ => Pc_vl (Pc_gd (fun _ => Pc_st (Pc_some (Pc_vl ?_)))))) (fun z2 => Pc_some (Pc_vl ?_))))
      · have A2 := nx (pS s 30 0 (zS s 30 0 + zI t 102 x3.toInt.toNat / 10)) (pS t 59 54 (zS t 59 54 + zI t 102 x3.toInt.toNat / 10)) (by show zS s 30 0 + _ = zS t 59 54 + _; rw [e0]) e105 (fun k hk => by rw [zS_pS, if_neg (by omega)]) rfl (fun _ _ _ => rfl) (fun _ _ _ => rfl) (F.pS (by decide)) (G.pS (by decide))
        exact Pc.mono (arr_l e31 h59 h40 n n' _ _ _ _ A2) (fun r hr => Pc_ift cm (Pc_gd (fun _ => Pc_jn (Pc_ift k' (Pc_gd (fun _ => Pc_ift z (Pc_gd (fun _ => Pc_vl (Pc_st (Pc_vl hr))))))))))
      · have A2 := nx (pI s 31 (zI t 102 x3.toInt.toNat % 10).toInt.toNat (zI s 31 (zI t 102 x3.toInt.toNat % 10).toInt.toNat + 1)) (pI t 105 (zI t 102 x3.toInt.toNat % 10).toInt.toNat (zI t 105 (zI t 102 x3.toInt.toNat % 10).toInt.toNat + 1)) e0 (fun k => by
          rw [zI_pI, zI_pI, e105]
          by_cases q : k = (zI t 102 x3.toInt.toNat % 10).toInt.toNat
          · rw [if_pos ⟨rfl, q⟩, if_pos ⟨rfl, q⟩]
          · rw [if_neg (fun u => q u.2), if_neg (fun u => q u.2)]; exact e105 k) (fun _ _ => rfl) rfl (fun q j h => by rw [zI_pI, if_neg (by omega)]) (fun q j h => by rw [zI_pI, if_neg (by omega)]) (F.pI (by decide)) (G.pI (by decide))
        exact Pc.mono (arr_l e31 h59 h40 n n' _ _ _ _ A2) (fun r hr => Pc_ift cm (Pc_gd (fun _ => Pc_jn (Pc_ift k' (Pc_gd (fun _ => Pc_iff z (Pc_gd (fun _ => Pc_vl (Pc_gd (fun _ => Pc_vl (Pc_vl (Pc_gd (fun _ => Pc_st (Pc_vl hr))))))))))))))
      · refine fun r hr => Pc_ift cm (Pc_gd (fun _ => Pc_jn (Pc_ift k' (Pc_gd (fun _ => Pc_iff z (Pc_gd (fun _ => Pc_vl (Pc_gd (fun g => ?_)))))))))
        exfalso
        have g1 := g.1
        rw [jl0] at z2
        exact z (Int32.toInt_inj.1 (by rw [jl0]; omega))
theorem arr_p {y : Int32} (Q : QStoH (y.toInt - 1) s t) (h59 : zS t 59 1 = y) (h40 : 0 ≤ (zS s 30 5).toInt ∧ (zS s 30 5).toInt ≤ 40) : Pc (f_X9_arrivals s y) (fun r => Pc (f_X12_comeDown t) (fun u => AR s t y.toInt r u)) := by
  obtain ⟨q1, q2, q3, q4, q5⟩ := Q
  exact arr_l q2 h59 h40.2 4000 4000 s t 0 0 ⟨⟨q1, q3, q4⟩, fun j hj => by rw [jl0] at hj; omega, fun j _ hj => ⟨(q5 j (by omega) hj).1, (q5 j (by omega) hj).2.1, by have := (q5 j (by omega) hj).2.2; omega⟩, ⟨by decide, by decide, by rw [jl0]; exact h40.1⟩, Frm.rf, Frm.rf⟩
end ARs
