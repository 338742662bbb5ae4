/-! MACHINES GO TO HOLES -/
section STs
variable {s t : SS}
theorem isUnd2 (k : Int32) (h : isH k) : f_X12_isUnder k 2 = some 1 := by
  unfold f_X12_isUnder
  rcases h with rfl | rfl | rfl | rfl <;> decide
theorem isUnd2f (k : Int32) (h : ¬ isH k) : f_X12_isUnder k 2 = some 0 := by
  unfold f_X12_isUnder
  rw [if_neg (by decide), if_neg (fun z => h (Or.inl z)), if_neg (by decide), if_pos rfl, if_neg (fun z => h (Or.inr (Or.inl z))), if_neg (fun z => h (Or.inr (Or.inr (Or.inl z)))), if_neg (fun z => h (Or.inr (Or.inr (Or.inr z))))]
/-- a body's hole -/
def hO (s : SS) (a : Int32) : Option Nat := if 0 ≤ a.toInt ∧ a.toInt < (zS s 15 3).toInt then zR s 17 a.toInt.toNat else none
theorem holeOfX (B : B1 s t) (a : Int32) : f_X0_holeOf s a = some (hO s a) := by
  have b := B.1.tot
  unfold f_X0_holeOf hO
  by_cases c : a < 0
  · rw [if_pos c, if_neg (by rw [jlt, jl0] at c; omega)]
  rw [if_neg c]
  rw [jlt, jl0] at c
  by_cases d : a < zS s 15 3
  · rw [if_pos d]
    rw [jlt] at d
    rw [gd_t ⟨by omega, by omega⟩, if_pos ⟨by omega, d⟩]
    cases zR s 17 a.toInt.toNat <;> rfl
  · rw [if_neg d]
    rw [jlt] at d
    rw [if_neg (fun z => d z.2)]
theorem isHoleO (B : B1 s t) (a : Int32) : f_X12_isHole t a = some (if hO s a = none then 0 else 1) := by
  have b := B.1.tot
  have e := b.1
  have e1 : (zS t 59 4 - 1).toInt = (zS s 15 3).toInt - 1 := by rw [← e, i32_sub (by rw [jl1]; omega) (by rw [jl1]; omega), jl1]
  unfold f_X12_isHole f_X12_isBody hO
  by_cases c : 0 ≤ a.toInt ∧ a.toInt < (zS s 15 3).toInt
  · have h := B.1.rh a.toInt.toNat (by omega)
    rw [in_t (by rw [jl0, e1]; omega), b1_some, b1_some, if_neg n10, gd_t ⟨c.1, by omega⟩, ← B.1.kd, if_pos c]
    by_cases w : isH (zI s 16 a.toInt.toNat)
    · rw [isUnd2 _ w, b1_some, if_neg n10, if_neg (fun z => h.mp z ⟨by omega, w⟩)]
    · rw [isUnd2f _ w, b1_some, if_pos rfl, if_pos (h.mpr (fun z => w z.2))]
  · rw [in_f (by rw [jl0, e1]; omega), b1_some, b1_some, if_pos rfl, if_neg c, if_pos rfl]
/-- the reference's loop: no other machine is there -/
theorem set_l {sb : SS} {y1 y2 : Int32} {q0 : Option (Int32 × SS)} {Q : Int32 × SS → Prop} (hr : ∀ v, Q (v, sb)) (hq : (∀ j : Nat, j < 3 → (j : Int) ≠ y1.toInt → 0 ≤ y2.toInt → zI sb 79 j ≠ y2) → Pc q0 Q) : ∀ (n : Nat) (x3 : Int32), 0 ≤ x3.toInt → x3.toInt ≤ 3 → (∀ j : Nat, (j : Int) < x3.toInt → (j : Int) ≠ y1.toInt → 0 ≤ y2.toInt → zI sb 79 j ≠ y2) → Pc (f_X12_set_L26 q0 sb y1 y2 n x3) Q
  | 0, x3, _, _, _ => Pc_none
  | n + 1, x3, h0, h3, hk => by
    show Pc (f_X12_set_L26_b q0 sb y1 y2 (f_X12_set_L26 q0 sb y1 y2 n) x3) Q
    unfold f_X12_set_L26_b
    refine Pc_lt (fun c => ?_) (fun c => hq (fun j hj => hk j (by rw [jl3] at c; omega)))
    rw [jl3] at c
    have e1 : (x3 + 1).toInt = x3.toInt + 1 := by rw [i32_add (by rw [jl1]; omega) (by rw [jl1]; omega), jl1]
    have go : ((x3.toInt ≠ y1.toInt → 0 ≤ y2.toInt → zI sb 79 x3.toInt.toNat ≠ y2)) → Pc (f_X12_set_L26 q0 sb y1 y2 n (x3 + 1)) Q := fun h => set_l hr hq n _ (by omega) (by omega) (fun j hj j1 j2 => by
      by_cases z : (j : Int) = x3.toInt
      · rw [show j = x3.toInt.toNat by omega]
        exact h (by omega) j2
      · exact hk j (by omega) j1 j2)
    refine Pc_jn (Pc_if (fun z => Pc_vl (go (fun w => absurd (congrArg Int32.toInt z) w))) (fun _ => Pc_lt (fun z => Pc_vl (go (fun _ w => by rw [jl0] at z; omega))) (fun _ => Pc_gd (fun _ => Pc_if (fun _ => Pc_some (hr _)) (fun z => Pc_vl (go (fun _ _ => z)))))))
theorem R_set (B : B1 s t) (R : QSet s t) (a0 a1 : Int32) : Pc (f_X12_set t a0 a1) (fun m => QSet s m.2) := by
  unfold f_X12_set
  refine Pc_b1 ?_
  by_cases c : 0 ≤ a0.toInt ∧ a0.toInt < 3
  · rw [ismach_t c]
    have key : (a1 = -1 ∨ hO s a1 ≠ none) → (∀ j : Nat, j < 3 → (j : Int) ≠ a0.toInt → 0 ≤ a1.toInt → zI t 79 j ≠ a1) → QSet s (pI t 79 a0.toInt.toNat a1) := by
      intro h1 h2
      have e79 : ∀ i, zI (pI t 79 a0.toInt.toNat a1) 79 i = if i = a0.toInt.toNat then a1 else zI t 79 i := fun i => by
        rw [zI_pI]
        by_cases z : i = a0.toInt.toNat
        · rw [if_pos ⟨rfl, z⟩, if_pos z]
        · rw [if_neg (fun w => z w.2), if_neg z]
      refine ⟨fun i hi => ?_, fun i j hi hj ne h => ?_⟩
      · rw [e79]
        by_cases z : i = a0.toInt.toNat
        · rw [if_pos z]
          rcases h1 with h1 | h1
          · exact Or.inl (by rw [h1]; rfl)
          · unfold hO at h1
            by_cases d : 0 ≤ a1.toInt ∧ a1.toInt < (zS s 15 3).toInt
            · rw [if_pos d] at h1
              exact Or.inr ⟨d.1, d.2, h1⟩
            · rw [if_neg d] at h1
              exact absurd rfl h1
        · rw [if_neg z]
          exact R.1 i hi
      · rw [e79] at h ⊢
        rw [e79]
        by_cases z : i = a0.toInt.toNat
        · rw [if_pos z] at h ⊢
          rw [if_neg (by omega)]
          exact fun w => h2 j hj (by omega) h w.symm
        · rw [if_neg z] at h ⊢
          by_cases y : j = a0.toInt.toNat
          · rw [if_pos y]
            intro w
            rw [w] at h
            exact h2 i hi (by omega) h w
          · rw [if_neg y]
            exact R.2 i j hi hj ne h
    have K : (a1 = -1 ∨ hO s a1 ≠ none) → Pc (f_X12_set_L26 (gd (inB a0 3) (vl ((zI t 79 (a0.toInt.toNat))) fun v14 => (gd (inB a0 3) (st (pI t 79 (a0.toInt.toNat) a1) fun s16 => some (v14, s16))))) t a0 a1 4000 0) (fun m => QSet s m.2) := fun h1 => set_l (fun _ => R) (fun h2 => by exact Pc_gd (fun _ => Pc_vl (Pc_gd (fun _ => Pc_st (Pc_some (key h1 h2)))))) 4000 0 (by decide) (by decide) (fun j hj => by rw [jl0] at hj; omega)
    rw [isHoleO B]
    refine Pc_some (Pc_if10 (Pc_jn (Pc_if (fun z => K (Or.inl z)) (fun _ => Pc_b1S ?_))))
    by_cases d : hO s a1 = none
    · rw [if_pos d]
      exact Pc_if00 (Pc_some R)
    · rw [if_neg d]
      exact Pc_if10 (K (Or.inr d))
  · rw [ismach_f c]
    exact Pc_some (Pc_if00 (Pc_some R))
end STs
