/-! THE REFERENCE DRILLS: flags, then minutes by machines -/
section DRs
variable {s t : SS}
theorem dr2_l {t0 : SS} {q0 : SS → Option SS} {R : SS → Prop} (hb : 0 ≤ (zS t0 59 4).toInt ∧ (zS t0 59 4).toInt ≤ 120) (hq : ∀ u, Frm [] [99] [] t0 u → (∀ i : Nat, (i : Int) < (zS t0 59 4).toInt → zI u 99 i = 0) → Pc (q0 u) R) : ∀ (n : Nat) (t : SS) (x : Int32), 0 ≤ x.toInt → x.toInt ≤ (zS t0 59 4).toInt → Frm [] [99] [] t0 t → (∀ i : Nat, (i : Int) < x.toInt → zI t 99 i = 0) → Pc (f_X12_drill_L2 q0 n t x) R
  | 0, _, _, _, _, _, _ => Pc_none
  | n + 1, t, x, h0, h1, F, hz => by
    show Pc (f_X12_drill_L2_b q0 (f_X12_drill_L2 q0 n) t x) R
    unfold f_X12_drill_L2_b
    rw [F.1 59 4 (by decide)]
    refine Pc_lt (fun c => Pc_gd (fun _ => Pc_st (Pc_vl ?_))) (fun c => hq t F (fun i hi => hz i (by omega)))
    have n1 : (x + 1).toInt = x.toInt + 1 := by rw [i32_add (by rw [jl1]; omega) (by rw [jl1]; omega), jl1]
    refine dr2_l hb hq n _ _ (by omega) (by omega) (F.pI (by decide)) (fun i hi => ?_)
    rw [zI_pI]
    by_cases z : i = x.toInt.toNat
    · rw [if_pos ⟨rfl, z⟩]; decide
    · rw [if_neg (fun w => z w.2)]
      exact hz i (by omega)
/-- a machine of the reference that gives minutes; where -/
def mac (t : SS) (m : Nat) : Prop := 0 ≤ (zI t 79 m).toInt ∧ zI t 80 m < zS t 59 1
def mat (t : SS) (m : Nat) : Nat := (zI t 79 m).toInt.toNat
def DK (t u : SS) (k : Nat) : Prop := Frm [] [68, 99, 100] [] t u ∧ (∀ i, (∀ m, m < k → mac t m → mat t m ≠ i) → zI u 68 i = zI t 68 i ∧ zI u 99 i = zI t 99 i) ∧ ∀ m, m < k → mac t m → zI u 68 (mat t m) = zI t 68 (mat t m) + 60 ∧ zI u 99 (mat t m) = 1 ∧ zI u 100 (mat t m) = zI t 78 m
theorem dr36_l {t0 : SS} {q0 : SS → Option SS} {R : SS → Prop} (hd : ∀ i j, i < 3 → j < 3 → i ≠ j → 0 ≤ (zI t0 79 i).toInt → zI t0 79 i ≠ zI t0 79 j) (hq : ∀ u, DK t0 u 3 → Pc (q0 u) R) : ∀ (n : Nat) (t : SS) (x : Int32) (k : Nat), x.toInt = k → k ≤ 3 → DK t0 t k → Pc (f_X12_drill_L36 q0 n t x) R
  | 0, _, _, _, _, _, _ => Pc_none
  | n + 1, t, x, k, hx, hk, D => by
    show Pc (f_X12_drill_L36_b q0 (f_X12_drill_L36 q0 n) t x) R
    unfold f_X12_drill_L36_b
    obtain ⟨F, d1, d2⟩ := id D
    by_cases c : k < 3
    case neg => exact Pc_iff (by rw [jlt, jl3]; omega) (hq t (by rw [show k = 3 by omega] at D; exact D))
    have n1 : (x + 1).toInt = ((k + 1 : Nat) : Int) := by rw [i32_add (by rw [jl1]; omega) (by rw [jl1]; omega), jl1]; omega
    have xt : x.toInt.toNat = k := by omega
    have e79 : zI t 79 k = zI t0 79 k := F.2.1 79 k (by decide)
    have e80 : zI t 80 k = zI t0 80 k := F.2.1 80 k (by decide)
    have e1 : zS t 59 1 = zS t0 59 1 := F.1 59 1 (by decide)
    have skip : ¬ mac t0 k → Pc (f_X12_drill_L36 q0 n t (x + 1)) R := fun h => dr36_l hd hq n t (x + 1) (k + 1) n1 (by omega) ⟨F, fun i hi => d1 i (fun m hm => hi m (by omega)), fun m hm hma => d2 m (by
      by_cases z : m = k
      · rw [z] at hma; exact absurd hma h
      · omega) hma⟩
    rw [xt]
    refine Pc_ift (by rw [jlt, jl3]; omega) (Pc_gd fun _ => Pc_jn (Pc_lt (fun z => ?_) (fun z => Pc_gd fun _ => Pc_if (fun w => ?_) (fun w => ?_))))
    · refine Pc_vl (skip (fun h => ?_))
      rw [e79, jl0] at z
      have := h.1
      omega
    · refine Pc_gd fun _ => Pc_vl (Pc_gd fun _ => Pc_vl (Pc_vl (Pc_gd fun _ => Pc_st ?_)))
      refine Pc_gd fun _ => Pc_vl (Pc_gd fun _ => Pc_st ?_)
      refine Pc_gd fun _ => Pc_gd fun _ => Pc_vl (Pc_vl (Pc_gd fun _ => Pc_st (Pc_vl ?_)))
      rw [e79, jl0] at z
      rw [e80, e1] at w
      have hma : mac t0 k := ⟨z, w⟩
      have q79a : zI (pI t 68 (zI t 79 k).toInt.toNat (zI t 68 (zI t 79 k).toInt.toNat + 60)) 79 k = zI t 79 k := by rw [zI_pI, if_neg (by omega)]
      have q79b : zI (pI (pI t 68 (zI t 79 k).toInt.toNat (zI t 68 (zI t 79 k).toInt.toNat + 60)) 99 (zI t 79 k).toInt.toNat (1 &&& 1)) 79 k = zI t 79 k := by rw [zI_pI, if_neg (by omega), zI_pI, if_neg (by omega)]
      have q78 : zI (pI (pI t 68 (zI t 79 k).toInt.toNat (zI t 68 (zI t 79 k).toInt.toNat + 60)) 99 (zI t 79 k).toInt.toNat (1 &&& 1)) 78 k = zI t0 78 k := by rw [zI_pI, if_neg (by omega), zI_pI, if_neg (by omega)]; exact F.2.1 78 k (by decide)
      rw [q79a, q79b, q78, e79]
      have hm : (zI t0 79 k).toInt.toNat = mat t0 k := rfl
      rw [hm]
      have dist : ∀ m, m < k → mac t0 m → mat t0 m ≠ mat t0 k := fun m hm' hma' e => by
        have := hd m k (by omega) c (by omega) hma'.1
        unfold mat at e
        exact this (Int32.toInt_inj.1 (by have := hma'.1; omega))
      obtain ⟨u1, u2⟩ := d1 (mat t0 k) dist
      have c68 : ∀ i v w y, zI (pI (pI (pI t 68 (mat t0 k) v) 99 (mat t0 k) w) 100 (mat t0 k) y) 68 i = if i = mat t0 k then v else zI t 68 i := fun i v w y => by
        rw [zI_pI, if_neg (by omega), zI_pI, if_neg (by omega), zI_pI]
        by_cases z : i = mat t0 k
        · rw [if_pos ⟨rfl, z⟩, if_pos z]
        · rw [if_neg (fun q => z q.2), if_neg z]
      have c99 : ∀ i v w y, zI (pI (pI (pI t 68 (mat t0 k) v) 99 (mat t0 k) w) 100 (mat t0 k) y) 99 i = if i = mat t0 k then w else zI t 99 i := fun i v w y => by
        rw [zI_pI, if_neg (by omega), zI_pI]
        by_cases z : i = mat t0 k
        · rw [if_pos ⟨rfl, z⟩, if_pos z]
        · rw [if_neg (fun q => z q.2), if_neg z, zI_pI, if_neg (by omega)]
      have c100 : ∀ i v w y, zI (pI (pI (pI t 68 (mat t0 k) v) 99 (mat t0 k) w) 100 (mat t0 k) y) 100 i = if i = mat t0 k then y else zI t 100 i := fun i v w y => by
        rw [zI_pI]
        by_cases z : i = mat t0 k
        · rw [if_pos ⟨rfl, z⟩, if_pos z]
        · rw [if_neg (fun q => z q.2), if_neg z, zI_pI, if_neg (by omega), zI_pI, if_neg (by omega)]
      refine dr36_l hd hq n _ (x + 1) (k + 1) n1 (by omega) ⟨((F.pI (by decide)).pI (by decide)).pI (by decide), fun i hi => ?_, fun m hm' hma' => ?_⟩
      · have ne : i ≠ mat t0 k := fun e => hi k (by omega) hma e.symm
        rw [c68, c99, if_neg ne, if_neg ne]
        exact d1 i (fun m hm' => hi m (by omega))
      · by_cases z : m = k
        · rw [z, c68, c99, c100, if_pos rfl, if_pos rfl, if_pos rfl, u1]
          exact ⟨rfl, by decide, rfl⟩
        · have ne : mat t0 m ≠ mat t0 k := dist m (by omega) hma'
          rw [c68, c99, c100, if_neg ne, if_neg ne, if_neg ne]
          exact d2 m (by omega) hma'
    · refine Pc_vl (skip (fun h => w ?_))
      rw [e80, e1]
      exact h.2
end DRs
