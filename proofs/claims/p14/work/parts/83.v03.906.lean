/-! ROWS OF FLOATS AND DOUBLES HOLD SMALL NUMBERS -/
section RWs
variable {t : SS}
theorem and1 (v : Int32) : v &&& 1 = 0 ∨ v &&& 1 = 1 := by
  obtain ⟨j, hj, e⟩ := pk_andE v (m := 1) 1 (by decide)
  rw [e]
  match j, hj with
  | 0, _ => exact Or.inl rfl
  | 1, _ => exact Or.inr rfl
def rwI (t : SS) (i : Nat) : Prop := (zI t 120 i = -5 ∨ zI t 120 i = -6) → ∀ j, j < 60 → zI t 123 (60 * i + j) = 0 → -9999 ≤ (zJ t 122 (60 * i + j)).toInt ∧ (zJ t 122 (60 * i + j)).toInt ≤ 9999
theorem R_keep (R : QRow t) (a0 a1 : Int32) : Pc (f_X12_keep t a0 a1) (fun m => QRow m.2) := by
  unfold f_X12_keep f_X12_isShelf f_X12_isBody f_X12_in
  have key : -1 ≤ a1.toInt → QRow (pI t 120 a0.toInt.toNat a1) := fun h => by
    refine ⟨R.1, fun i hi z => ?_⟩
    rw [zI_pI] at z
    by_cases c : 120 = 120 ∧ i = a0.toInt.toNat
    · rw [if_pos c] at z
      rcases z with z | z <;> rw [z] at h <;> exact absurd h (by decide)
    · rw [if_neg c] at z
      exact R.2 i hi z
  repeat' (first
    | with_reducible refine Pc_bdS ?_
    | with_reducible refine Pc_b1S ?_
    | with_reducible refine Pc_if00 ?_
    | with_reducible refine Pc_if10 ?_
    | with_reducible refine Pc_lt (fun _ => ?_) (fun _ => ?_)
    | with_reducible refine Pc_if (fun _ => ?_) (fun _ => ?_)
    | with_reducible refine Pc_gd (fun _ => ?_)
    | with_reducible refine Pc_vl ?_
    | with_reducible refine Pc_wl ?_
    | with_reducible refine Pc_st ?_
    | with_reducible refine Pc_jn ?_
    | with_reducible refine Pc_b1 ?_
    | with_reducible refine Pc_bd ?_
    | with_reducible refine Pc_onS ?_
    | with_reducible refine Pc_onN ?_
    | with_reducible refine Pc_on (fun _ => ?_) (fun _ _ => ?_)
    | with_reducible refine Pc_some ?_
    | with_reducible refine Pc_none)
  all_goals first | exact R | (refine key ?_; simp only [jeq] at *; (simp only [jlt, jd4, jd10, jd20, jd24, jd60, jd100, jm4, jm10, jm20, jm24, jm60, jm100, Int32.reduceToInt] at *; omega))
theorem row_l {y1 : Int32} (hy : 0 ≤ y1.toInt ∧ y1.toInt ≤ 5) : ∀ (n : Nat) (s : SS) (x4 : Int32), 60 * y1.toInt ≤ x4.toInt → x4.toInt ≤ 60 * y1.toInt + 60 → (∀ j, zI s 123 j = 0 ∨ zI s 123 j = 1) → (∀ i : Nat, i < 6 → (i : Int) ≠ y1.toInt → rwI s i) → (∀ j : Nat, 60 * y1.toInt ≤ j → (j : Int) < x4.toInt → zJ s 122 j = 0) → Pc (f_X12_row_L54 y1 n s x4) (fun m => QRow m.2)
  | 0, s, x4, _, _, _, _, _ => Pc_none
  | n + 1, s, x4, h1, h2, h3, h4, h5 => by
    show Pc (f_X12_row_L54_b y1 (f_X12_row_L54 y1 n) s x4) _
    unfold f_X12_row_L54_b
    have e60 : ((60 : Int32) * y1 + 60).toInt = 60 * y1.toInt + 60 := by
      have m : ((60 : Int32) * y1).toInt = 60 * y1.toInt := by rw [i32_mul (by rw [jl60]; omega) (by rw [jl60]; omega), jl60]
      rw [i32_add (by rw [m, jl60]; omega) (by rw [m, jl60]; omega), m, jl60]
    refine Pc_lt (fun c => Pc_gd (fun g => Pc_st (Pc_gd (fun g' => Pc_st (Pc_vl ?_))))) (fun c => Pc_some ?_)
    · rw [e60] at c
      have e1 : (x4 + 1).toInt = x4.toInt + 1 := by rw [i32_add (by rw [jl1]; omega) (by rw [jl1]; omega), jl1]
      refine row_l hy n _ _ (by omega) (by omega) (fun j => ?_) (fun i hi ne => ?_) (fun j j1 j2 => ?_)
      · rw [zI_pI]
        by_cases z : 123 = 123 ∧ j = x4.toInt.toNat
        · rw [if_pos z]; exact Or.inl (by decide)
        · rw [if_neg z]; exact h3 j
      · intro z j hj y
        have hne : 60 * i + j ≠ x4.toInt.toNat := by omega
        have z' : zI s 120 i = -5 ∨ zI s 120 i = -6 := z
        rw [zI_pI, if_neg (by omega)] at y
        show -9999 ≤ (if 122 = 122 ∧ 60 * i + j = x4.toInt.toNat then (0 : Int64) else zJ s 122 (60 * i + j)).toInt ∧ _
        rw [show zJ (pI (pJ s 122 x4.toInt.toNat 0) 123 x4.toInt.toNat (0 &&& 1)) 122 (60 * i + j) = (if 122 = 122 ∧ 60 * i + j = x4.toInt.toNat then (0 : Int64) else zJ s 122 (60 * i + j)) from rfl, if_neg (by omega)]
        exact h4 i hi ne z' j hj y
      · show (if 122 = 122 ∧ j = x4.toInt.toNat then (0 : Int64) else zJ s 122 j) = 0
        by_cases z : j = x4.toInt.toNat
        · rw [if_pos ⟨rfl, z⟩]
        · rw [if_neg (fun w => z w.2)]
          exact h5 j j1 (by omega)
    · rw [e60] at c
      refine ⟨h3, fun i hi z j hj y => ?_⟩
      by_cases e : (i : Int) = y1.toInt
      · rw [h5 (60 * i + j) (by omega) (by omega)]
        exact ⟨by decide, by decide⟩
      · exact h4 i hi e z j hj y
theorem R_row (R : QRow t) (a0 a1 a2 : Int32) : Pc (f_X12_row t a0 a1 a2) (fun m => QRow m.2) := by
  unfold f_X12_row f_X12_isShelf
  by_cases c : 0 ≤ a0.toInt ∧ a0.toInt ≤ 5
  · rw [in_t (by rw [jl0, jl5]; exact c)]
    have m : ((60 : Int32) * a0).toInt = 60 * a0.toInt := by rw [i32_mul (by rw [jl60]; omega) (by rw [jl60]; omega), jl60]
    have key : ∀ v w : Int32, Pc (f_X12_row_L54 a0 4000 (pI (pI t 120 a0.toInt.toNat v) 121 a0.toInt.toNat w) ((60 : Int32) * a0)) (fun m => QRow m.2) := fun v w => row_l c 4000 _ _ (by rw [m]; omega) (by rw [m]; omega) R.1 (fun i hi ne z j hj y => by
      have z' : zI t 120 i = -5 ∨ zI t 120 i = -6 := by
        rw [zI_pI, if_neg (by omega), zI_pI, if_neg (by omega)] at z
        exact z
      exact R.2 i hi z' j hj y) (fun j j1 j2 => by rw [m] at j2; omega)
    unfold f_X12_in
    repeat' (first
      | with_reducible refine Pc_bdS ?_
      | with_reducible refine Pc_b1S ?_
      | with_reducible refine Pc_if00 ?_
      | with_reducible refine Pc_if10 ?_
      | with_reducible refine Pc_lt (fun _ => ?_) (fun _ => ?_)
      | with_reducible refine Pc_if (fun _ => ?_) (fun _ => ?_)
      | with_reducible refine Pc_gd (fun _ => ?_)
      | with_reducible refine Pc_vl ?_
      | with_reducible refine Pc_wl ?_
      | with_reducible refine Pc_st ?_
      | with_reducible refine Pc_jn ?_
      | with_reducible refine Pc_b1 ?_
      | with_reducible refine Pc_bd ?_
      | with_reducible refine Pc_onS ?_
      | with_reducible refine Pc_onN ?_
      | with_reducible refine Pc_on (fun _ => ?_) (fun _ _ => ?_)
      | with_reducible refine Pc_some ?_
      | with_reducible refine Pc_none)
    all_goals first | exact R | exact key _ _
  · rw [in_f (by rw [jl0, jl5]; exact c)]
    repeat' (first
      | with_reducible refine Pc_bdS ?_
      | with_reducible refine Pc_b1S ?_
      | with_reducible refine Pc_if00 ?_
      | with_reducible refine Pc_if10 ?_
      | with_reducible refine Pc_lt (fun _ => ?_) (fun _ => ?_)
      | with_reducible refine Pc_if (fun _ => ?_) (fun _ => ?_)
      | with_reducible refine Pc_gd (fun _ => ?_)
      | with_reducible refine Pc_vl ?_
      | with_reducible refine Pc_wl ?_
      | with_reducible refine Pc_st ?_
      | with_reducible refine Pc_jn ?_
      | with_reducible refine Pc_b1 ?_
      | with_reducible refine Pc_bd ?_
      | with_reducible refine Pc_onS ?_
      | with_reducible refine Pc_onN ?_
      | with_reducible refine Pc_on (fun _ => ?_) (fun _ _ => ?_)
      | with_reducible refine Pc_some ?_
      | with_reducible refine Pc_none)
    all_goals exact R
theorem R_blank (R : QRow t) (a0 a1 : Int32) : Pc (f_X12_blank t a0 a1) (fun m => QRow m.2) := by
  unfold f_X12_blank f_X12_isShelf f_X12_isReals f_X12_in
  have key : ∀ k, QRow (pI t 123 k (1 &&& 1)) := fun k => by
    refine ⟨fun j => ?_, fun i hi z j hj y => ?_⟩
    · rw [zI_pI]
      by_cases z : 123 = 123 ∧ j = k
      · rw [if_pos z]; exact Or.inr (by decide)
      · rw [if_neg z]; exact R.1 j
    · rw [zI_pI] at y
      by_cases w : 123 = 123 ∧ 60 * i + j = k
      · rw [if_pos w] at y; exact absurd y (by decide)
      · rw [if_neg w] at y
        exact R.2 i hi z j hj y
  repeat' (first
    | with_reducible refine Pc_bdS ?_
    | with_reducible refine Pc_b1S ?_
    | with_reducible refine Pc_if00 ?_
    | with_reducible refine Pc_if10 ?_
    | with_reducible refine Pc_lt (fun _ => ?_) (fun _ => ?_)
    | with_reducible refine Pc_if (fun _ => ?_) (fun _ => ?_)
    | with_reducible refine Pc_gd (fun _ => ?_)
    | with_reducible refine Pc_vl ?_
    | with_reducible refine Pc_wl ?_
    | with_reducible refine Pc_st ?_
    | with_reducible refine Pc_jn ?_
    | with_reducible refine Pc_b1 ?_
    | with_reducible refine Pc_bd ?_
    | with_reducible refine Pc_onS ?_
    | with_reducible refine Pc_onN ?_
    | with_reducible refine Pc_on (fun _ => ?_) (fun _ _ => ?_)
    | with_reducible refine Pc_some ?_
    | with_reducible refine Pc_none)
  all_goals first | exact R | exact key _
theorem lgc_le {x y : Int64} (h : ¬ 0 < lg_cmp x y) : x.toInt ≤ y.toInt := by
  unfold lg_cmp at h
  split at h
  · exact absurd (by decide) h
  · rename_i h1
    have : ¬ y.toInt < x.toInt := fun z => h1 (Int64.lt_iff_toInt_lt.mpr z)
    omega
theorem reals_p (a0 : Int32) : Pc (f_X12_isReals t a0) (fun r => (r = 1 ∧ (zI t 120 a0.toInt.toNat = -5 ∨ zI t 120 a0.toInt.toNat = -6)) ∨ (r = 0 ∧ ¬ (zI t 120 a0.toInt.toNat = -5 ∨ zI t 120 a0.toInt.toNat = -6))) := by
  unfold f_X12_isReals
  exact Pc_gd (fun _ => Pc_if (fun h => Pc_some (Or.inl ⟨rfl, Or.inl h⟩)) (fun h => Pc_gd (fun _ => Pc_if (fun h' => Pc_some (Or.inl ⟨rfl, Or.inr h'⟩)) (fun h' => Pc_some (Or.inr ⟨rfl, fun z => z.elim h h'⟩)))))
theorem why_p (hb1 : ∀ i, 0 ≤ (zI t 121 i).toInt ∧ (zI t 121 i).toInt ≤ 60) (a0 a1 : Int32) : Pc (f_X12_whyNoPlace t a0 a1) (fun r => r.toInt < 0 ∨ (0 ≤ a0.toInt ∧ a0.toInt ≤ 5 ∧ 0 ≤ a1.toInt ∧ a1.toInt < 60 ∧ (zI t 120 a0.toInt.toNat).toInt < 0)) := by
  have b := hb1 a0.toInt.toNat
  have e : (zI t 121 a0.toInt.toNat - 1).toInt = (zI t 121 a0.toInt.toNat).toInt - 1 := by rw [i32_sub (by rw [jl1]; omega) (by rw [jl1]; omega), jl1]
  unfold f_X12_whyNoPlace f_X12_isShelf
  by_cases c : 0 ≤ a0.toInt ∧ a0.toInt ≤ 5
  · rw [in_t (by rw [jl0, jl5]; exact c)]
    refine Pc_b1 (Pc_b1S (Pc_some (Pc_if10 (Pc_gd (fun _ => Pc_if (fun _ => Pc_some (Or.inl (by decide))) (fun _ => Pc_gd (fun _ => Pc_lt (fun h => Pc_gd (fun _ => ?_)) (fun _ => Pc_some (Or.inl (by decide))))))))))
    by_cases d : 0 ≤ a1.toInt ∧ a1.toInt ≤ (zI t 121 a0.toInt.toNat - 1).toInt
    · rw [in_t (by rw [jl0]; exact d)]
      exact Pc_b1S (Pc_if10 (Pc_some (Or.inr ⟨c.1, c.2, d.1, by omega, h⟩)))
    · rw [in_f (by rw [jl0]; exact d)]
      exact Pc_b1S (Pc_if00 (Pc_some (Or.inl (by decide))))
  · rw [in_f (by rw [jl0, jl5]; exact c)]
    exact Pc_b1 (Pc_b1S (Pc_some (Pc_if00 (Pc_some (Or.inl (by decide))))))
theorem put_k (R : QRow t) {a0 a1 : Int32} (c : 0 ≤ a0.toInt ∧ a0.toInt ≤ 5) (h1 : 0 ≤ a1.toInt ∧ a1.toInt < 60) (w : Int64) (hw : (zI t 120 a0.toInt.toNat = -5 ∨ zI t 120 a0.toInt.toNat = -6) → -9999 ≤ w.toInt ∧ w.toInt ≤ 9999) : QRow (pI (pJ t 122 (60 * a0 + a1).toInt.toNat w) 123 (60 * a0 + a1).toInt.toNat (0 &&& 1)) := by
  have ek : ((60 : Int32) * a0 + a1).toInt = 60 * a0.toInt + a1.toInt := by
    have m : ((60 : Int32) * a0).toInt = 60 * a0.toInt := by rw [i32_mul (by rw [jl60]; omega) (by rw [jl60]; omega), jl60]
    rw [i32_add (by rw [m]; omega) (by rw [m]; omega), m]
  generalize ((60 : Int32) * a0 + a1) = k at ek ⊢
  refine ⟨fun j => ?_, fun i hi z j hj y => ?_⟩
  · rw [zI_pI]
    by_cases z : 123 = 123 ∧ j = k.toInt.toNat
    · rw [if_pos z]; exact Or.inl (by decide)
    · rw [if_neg z]; exact R.1 j
  · rw [show zJ (pI (pJ t 122 k.toInt.toNat w) 123 k.toInt.toNat (0 &&& 1)) 122 (60 * i + j) = (if 122 = 122 ∧ 60 * i + j = k.toInt.toNat then w else zJ t 122 (60 * i + j)) from rfl]
    have z' : zI t 120 i = -5 ∨ zI t 120 i = -6 := z
    by_cases e : 60 * i + j = k.toInt.toNat
    · rw [if_pos ⟨rfl, e⟩]
      have : i = a0.toInt.toNat := by omega
      rw [this] at z'
      exact hw z'
    · rw [if_neg (fun u => e u.2)]
      rw [zI_pI, if_neg (fun u => e u.2)] at y
      exact R.2 i hi z' j hj y
theorem R_put (R : QRow t) (hb1 : ∀ i, 0 ≤ (zI t 121 i).toInt ∧ (zI t 121 i).toInt ≤ 60) (a0 a1 : Int32) (a2 : Int64) : Pc (f_X12_put t a0 a1 a2) (fun m => QRow m.2) := by
  unfold f_X12_put
  refine Pc_b1x (fun r1 => Pc_if (fun _ => Pc_some R) (fun _ => Pc_b1 (Pc.mono (reals_p a0) (fun r3 hr => Pc_jn ?_))))
  have K : ((zI t 120 a0.toInt.toNat = -5 ∨ zI t 120 a0.toInt.toNat = -6) → -9999 ≤ a2.toInt ∧ a2.toInt ≤ 9999) → Pc (b1 (f_X12_whyNoPlace t a0 a1) fun r5 => (if r5 < (0 : Int32) then some (r5, t) else (gd (inB a0 6) (vl ((((-2) : Int32) - (zI t 120 (a0.toInt.toNat)))) fun v8 => (jn (fun (t10_0 : Int64) => (vl ((((60 : Int32) * a0) + a1)) fun v11 => (gd (inB v11 360) (st (pJ t 122 (v11.toInt.toNat) t10_0) fun s13 => (vl ((((60 : Int32) * a0) + a1)) fun v14 => (gd (inB v14 360) (st (pI s13 123 (v14.toInt.toNat) ((0 : Int32) &&& 1)) fun s16 => some (1, s16)))))))) fun k10 => (if v8 = (0 : Int32) then (k10 a2.toInt32.toInt8.toInt32.toInt64) else (if v8 = (1 : Int32) then (k10 (a2 &&& 65535)) else (if v8 = (2 : Int32) then (k10 a2.toInt32.toInt64) else (k10 a2))))))))) (fun m => QRow m.2) := by
    intro hw
    refine Pc_b1 (Pc.mono (why_p hb1 a0 a1) (fun r5 h5 => Pc_lt (fun _ => Pc_some R) (fun h0 => Pc_gd (fun _ => Pc_vl (Pc_jn ?_)))))
    rw [jl0] at h0
    rcases h5 with h5 | ⟨c1, c2, d1, d2, _⟩
    · omega
    have fin : ∀ w : Int64, ((zI t 120 a0.toInt.toNat = -5 ∨ zI t 120 a0.toInt.toNat = -6) → -9999 ≤ w.toInt ∧ w.toInt ≤ 9999) → Pc (vl ((((60 : Int32) * a0) + a1)) fun v11 => (gd (inB v11 360) (st (pJ t 122 (v11.toInt.toNat) w) fun s13 => (vl ((((60 : Int32) * a0) + a1)) fun v14 => (gd (inB v14 360) (st (pI s13 123 (v14.toInt.toNat) ((0 : Int32) &&& 1)) fun s16 => some ((1 : Int32), s16)))))) ) (fun m => QRow m.2) := fun w h => Pc_vl (Pc_gd (fun _ => Pc_st (Pc_vl (Pc_gd (fun _ => Pc_st (Pc_some (put_k R ⟨c1, c2⟩ ⟨d1, d2⟩ w h)))))))
    have nr : ∀ k : Int32, -2 - zI t 120 a0.toInt.toNat = k → (k = 0 ∨ k = 1 ∨ k = 2) → ¬ (zI t 120 a0.toInt.toNat = -5 ∨ zI t 120 a0.toInt.toNat = -6) := by
      rintro k rfl h (z | z) <;> rw [z] at h <;> revert h <;> decide
    refine Pc_if (fun z => fin _ (fun w => absurd w (nr _ z (Or.inl rfl)))) (fun _ => Pc_if (fun z => fin _ (fun w => absurd w (nr _ z (Or.inr (Or.inl rfl))))) (fun _ => Pc_if (fun z => fin _ (fun w => absurd w (nr _ z (Or.inr (Or.inr rfl))))) (fun _ => fin _ hw)))
  rcases hr with ⟨rfl, hr⟩ | ⟨rfl, hr⟩
  · exact Pc_if10 (Pc_if (fun _ => Pc_some R) (fun h1 => Pc_if (fun _ => Pc_some R) (fun h2 => K (fun _ => ⟨by have := lgc_ge h1; rw [show (-9999 : Int64).toInt = -9999 from rfl] at this; exact this, by have := lgc_le h2; rw [show (9999 : Int64).toInt = 9999 from rfl] at this; exact this⟩))))
  · exact Pc_if00 (K (fun z => absurd z hr))
/-- shift: first a copy, then back -/
theorem sh1 {y1 y2 y3 y4 y5 : Int32} {q0 : SS → Option (Int32 × SS)} {C : Int64 → Prop} (hq : ∀ s, (∀ q j, q ≠ 125 → zI s q j = zI t q j) → (∀ j, zJ s 122 j = zJ t 122 j) → (∀ k : Nat, (k : Int) < y5.toInt → (zI s 125 k = 0 ∨ zI s 125 k = 1) ∧ (zI s 125 k = 0 → C (zJ s 124 k))) → Pc (q0 s) (fun m => QRow m.2)) (R : QRow t) (hC : ∀ j : Nat, 60 * y1.toInt + y2.toInt ≤ j → (j : Int) < 60 * y1.toInt + y2.toInt + y5.toInt → zI t 123 j = 0 → C (zJ t 122 j)) (b : 0 ≤ y1.toInt ∧ y1.toInt ≤ 5 ∧ 0 ≤ y2.toInt ∧ y5.toInt ≤ 60 ∧ y2.toInt + y5.toInt ≤ 60) : ∀ (n : Nat) (s : SS) (x6 : Int32), 0 ≤ x6.toInt → x6.toInt ≤ 60 → (∀ q j, q ≠ 125 → zI s q j = zI t q j) → (∀ j, zJ s 122 j = zJ t 122 j) → (∀ k : Nat, (k : Int) < x6.toInt → (zI s 125 k = 0 ∨ zI s 125 k = 1) ∧ (zI s 125 k = 0 → C (zJ s 124 k))) → Pc (f_X12_shift_L113 q0 y1 y2 y3 y4 y5 n s x6) (fun m => QRow m.2)
  | 0, s, x6, _, _, _, _, _ => Pc_none
  | n + 1, s, x6, h0, h6, hI, hJ, hk => by
    show Pc (f_X12_shift_L113_b q0 y1 y2 y3 y4 y5 (f_X12_shift_L113 q0 y1 y2 y3 y4 y5 n) s x6) _
    unfold f_X12_shift_L113_b
    refine Pc_lt (fun c => Pc_vl (Pc_gd (fun _ => Pc_wl (Pc_gd (fun _ => Pc_st (Pc_vl (Pc_gd (fun _ => Pc_vl (Pc_gd (fun _ => Pc_st (Pc_vl ?_))))))))))) (fun c => hq s hI hJ (fun k z => hk k (by omega)))
    have m : ((60 : Int32) * y1).toInt = 60 * y1.toInt := by rw [i32_mul (by rw [jl60]; omega) (by rw [jl60]; omega), jl60]
    have m2 : ((60 : Int32) * y1 + y2).toInt = 60 * y1.toInt + y2.toInt := by rw [i32_add (by rw [m]; omega) (by rw [m]; omega), m]
    have m3 : ((60 : Int32) * y1 + y2 + x6).toInt = 60 * y1.toInt + y2.toInt + x6.toInt := by rw [i32_add (by rw [m2]; omega) (by rw [m2]; omega), m2]
    have e1 : (x6 + 1).toInt = x6.toInt + 1 := by rw [i32_add (by rw [jl1]; omega) (by rw [jl1]; omega), jl1]
    generalize ((60 : Int32) * y1 + y2 + x6) = v at m3 ⊢
    refine sh1 hq R hC b n _ _ (by omega) (by omega) (fun q j hq' => by rw [zI_pI, if_neg (by omega)]; exact hI q j hq') (fun j => hJ j) (fun k k1 => ?_)
    rw [zI_pI, show zJ (pI (pJ s 124 x6.toInt.toNat (zJ s 122 v.toInt.toNat)) 125 x6.toInt.toNat (zI (pJ s 124 x6.toInt.toNat (zJ s 122 v.toInt.toNat)) 123 v.toInt.toNat &&& 1)) 124 k = (if 124 = 124 ∧ k = x6.toInt.toNat then zJ s 122 v.toInt.toNat else zJ s 124 k) from rfl]
    by_cases z : k = x6.toInt.toNat
    · rw [if_pos ⟨rfl, z⟩, if_pos ⟨rfl, z⟩]
      refine ⟨and1 _, fun k2 => ?_⟩
      have k3 : zI s 123 v.toInt.toNat &&& 1 = 0 := k2
      rw [hI 123 _ (by omega)] at k3
      have k4 : zI t 123 v.toInt.toNat = 0 := by
        rcases R.1 v.toInt.toNat with w | w
        · exact w
        · rw [w] at k3; exact absurd k3 (by decide)
      rw [hJ]
      exact hC _ (by omega) (by omega) k4
    · rw [if_neg (fun w => z w.2), if_neg (fun w => z w.2)]
      exact hk k (by omega)
theorem sh2 {y3 y4 y5 : Int32} (b : 0 ≤ y3.toInt ∧ y3.toInt ≤ 5 ∧ 0 ≤ y4.toInt ∧ y5.toInt ≤ 60 ∧ y4.toInt + y5.toInt ≤ 60) : ∀ (n : Nat) (s : SS) (x6 : Int32), 0 ≤ x6.toInt → x6.toInt ≤ 60 → QRow s → (∀ k : Nat, (k : Int) < y5.toInt → zI s 125 k = 0 → (zI s 120 y3.toInt.toNat = -5 ∨ zI s 120 y3.toInt.toNat = -6) → -9999 ≤ (zJ s 124 k).toInt ∧ (zJ s 124 k).toInt ≤ 9999) → (∀ k : Nat, (k : Int) < y5.toInt → zI s 125 k = 0 ∨ zI s 125 k = 1) → Pc (f_X12_shift_L171 y3 y4 y5 n s x6) (fun m => QRow m.2)
  | 0, s, x6, _, _, _, _, _ => Pc_none
  | n + 1, s, x6, h0, h6, R, hk, hb => by
    show Pc (f_X12_shift_L171_b y3 y4 y5 (f_X12_shift_L171 y3 y4 y5 n) s x6) _
    unfold f_X12_shift_L171_b
    refine Pc_lt (fun c => Pc_gd (fun _ => Pc_wl (Pc_vl (Pc_gd (fun _ => Pc_st (Pc_gd (fun _ => Pc_vl (Pc_vl (Pc_gd (fun _ => Pc_st (Pc_vl ?_))))))))))) (fun c => Pc_some R)
    have m : ((60 : Int32) * y3).toInt = 60 * y3.toInt := by rw [i32_mul (by rw [jl60]; omega) (by rw [jl60]; omega), jl60]
    have m2 : ((60 : Int32) * y3 + y4).toInt = 60 * y3.toInt + y4.toInt := by rw [i32_add (by rw [m]; omega) (by rw [m]; omega), m]
    have m3 : ((60 : Int32) * y3 + y4 + x6).toInt = 60 * y3.toInt + y4.toInt + x6.toInt := by rw [i32_add (by rw [m2]; omega) (by rw [m2]; omega), m2]
    have e1 : (x6 + 1).toInt = x6.toInt + 1 := by rw [i32_add (by rw [jl1]; omega) (by rw [jl1]; omega), jl1]
    generalize ((60 : Int32) * y3 + y4 + x6) = v at m3 ⊢
    have hx : (x6.toInt.toNat : Int) = x6.toInt := by omega
    refine sh2 b n _ _ (by omega) (by omega) ⟨fun j => ?_, fun i hi z j hj y => ?_⟩ (fun k k1 k2 k3 => hk k k1 k2 k3) (fun k k1 => hb k k1)
    · rw [zI_pI]
      by_cases z : 123 = 123 ∧ j = v.toInt.toNat
      · rw [if_pos z]; exact and1 _
      · rw [if_neg z]; exact R.1 j
    · rw [show zJ (pI (pJ s 122 v.toInt.toNat (zJ s 124 x6.toInt.toNat)) 123 v.toInt.toNat (zI (pJ s 122 v.toInt.toNat (zJ s 124 x6.toInt.toNat)) 125 x6.toInt.toNat &&& 1)) 122 (60 * i + j) = (if 122 = 122 ∧ 60 * i + j = v.toInt.toNat then zJ s 124 x6.toInt.toNat else zJ s 122 (60 * i + j)) from rfl]
      have z' : zI s 120 i = -5 ∨ zI s 120 i = -6 := z
      rw [zI_pI] at y
      by_cases e : 60 * i + j = v.toInt.toNat
      · rw [if_pos ⟨rfl, e⟩] at y ⊢
        have y1 : zI s 125 x6.toInt.toNat &&& 1 = 0 := y
        have y2 : zI s 125 x6.toInt.toNat = 0 := by
          rcases hb x6.toInt.toNat (by omega) with w | w
          · exact w
          · rw [w] at y1; exact absurd y1 (by decide)
        have : i = y3.toInt.toNat := by omega
        rw [this] at z'
        exact hk _ (by omega) y2 z'
      · rw [if_neg (fun w => e w.2)] at y ⊢
        exact R.2 i hi z' j hj y
theorem R_shift (R : QRow t) (hb1 : ∀ i, 0 ≤ (zI t 121 i).toInt ∧ (zI t 121 i).toInt ≤ 60) (a0 a1 a2 a3 a4 : Int32) : Pc (f_X12_shift t a0 a1 a2 a3 a4) (fun m => QRow m.2) := by
  unfold f_X12_shift f_X12_isShelf
  by_cases c : 0 ≤ a0.toInt ∧ a0.toInt ≤ 5
  · rw [in_t (by rw [jl0, jl5]; exact c)]
    by_cases d : 0 ≤ a2.toInt ∧ a2.toInt ≤ 5
    · rw [in_t (by rw [jl0, jl5]; exact d)]
      have b0 := hb1 a0.toInt.toNat
      have b2 := hb1 a2.toInt.toNat
      refine Pc_b1 (Pc_b1S (Pc_some (Pc_if10 (Pc_b1 (Pc_b1S (Pc_some (Pc_if10 (Pc_gd (fun _ => Pc_if (fun _ => Pc_some R) (fun _ => Pc_gd (fun _ => Pc_if (fun _ => Pc_some R) (fun _ => Pc_gd (fun _ => Pc_if (fun _ => Pc_gd (fun _ => Pc_gd (fun _ => Pc_if (fun eh => Pc_lt (fun _ => Pc_some R) (fun g4 => Pc_lt (fun _ => Pc_some R) (fun g1 => Pc_lt (fun _ => Pc_some R) (fun g3 => Pc_gd (fun _ => Pc_lt (fun _ => Pc_some R) (fun g5 => Pc_gd (fun _ => Pc_lt (fun _ => Pc_some R) (fun g6 => ?_))))))) ) (fun _ => Pc_some R)))) (fun _ => Pc_some R))))))))))))))
      rw [jl0] at g4 g1 g3
      have e5 : (zI t 121 a0.toInt.toNat - a4).toInt = (zI t 121 a0.toInt.toNat).toInt - a4.toInt := by rw [i32_sub (by have := jlo a4; omega) (by have := jlo a4; omega)]
      have e6 : (zI t 121 a2.toInt.toNat - a4).toInt = (zI t 121 a2.toInt.toNat).toInt - a4.toInt := by rw [i32_sub (by have := jlo a4; omega) (by have := jlo a4; omega)]
      rw [e5] at g5
      rw [e6] at g6
      refine sh1 (t := t) (C := fun w => (zI t 120 a2.toInt.toNat = -5 ∨ zI t 120 a2.toInt.toNat = -6) → -9999 ≤ w.toInt ∧ w.toInt ≤ 9999) (fun s hI hJ hk => ?_) R (fun j j1 j2 j3 z => ?_) ⟨c.1, c.2, g1, by omega, by omega⟩ 4000 t 0 (by decide) (by decide) (fun _ _ _ => rfl) (fun _ => rfl) (fun k k1 => by rw [jl0] at k1; omega)
      · refine sh2 ⟨d.1, d.2, g3, by omega, by omega⟩ 4000 s 0 (by decide) (by decide) ⟨fun j => by rw [hI 123 j (by omega)]; exact R.1 j, fun i hi z j hj y => ?_⟩ (fun k k1 k2 z => (hk k k1).2 k2 (by rw [hI 120 _ (by omega)] at z; exact z)) (fun k k1 => (hk k k1).1)
        rw [hI 120 _ (by omega)] at z
        rw [hI 123 _ (by omega)] at y
        rw [hJ]
        exact R.2 i hi z j hj y
      · rw [← eh] at z
        have := R.2 a0.toInt.toNat (by omega) z (j - 60 * a0.toInt.toNat) (by omega)
        rw [show 60 * a0.toInt.toNat + (j - 60 * a0.toInt.toNat) = j by omega] at this
        exact this j3
    · rw [in_f (by rw [jl0, jl5]; exact d)]
      exact Pc_b1 (Pc_b1S (Pc_some (Pc_if10 (Pc_b1 (Pc_b1S (Pc_some (Pc_if00 (Pc_some R))))))))
  · rw [in_f (by rw [jl0, jl5]; exact c)]
    exact Pc_b1 (Pc_b1S (Pc_some (Pc_if00 (Pc_some R))))
end RWs
