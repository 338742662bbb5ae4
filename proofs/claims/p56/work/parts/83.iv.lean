/-! THE FRESH STATE KEEPS THE RANGES -/
set_option maxRecDepth 4000 in
theorem T0_n3 (q : Nat) : T0 q ≠ 3 := by
  have h : ∀ x ∈ T0L, x ≠ 3 := by decide
  unfold T0
  rw [List.getD_eq_getElem?_getD]
  cases hx : T0L[q]? with
  | none => decide
  | some x => exact h x (List.mem_of_getElem? hx)
theorem fr3 (q : Nat) : zS sFr q 3 = 0 := by
  unfold zS sFr
  dsimp only
  split <;> first | rfl | simp_all
set_option maxRecDepth 4000 in
theorem Iv_fr : Iv sFr := by
  refine ⟨⟨HH_fr.2.2, fun q k hq => ?_, fun q i hq => ?_, fun q k h => absurd h (T0_n3 q), fun q k h => ?_, fun i p _ e => by cases e⟩, fun t ht => ?_, rfl⟩
  · unfold bF
    split <;> first | exact trivial | exact ⟨by decide, by decide⟩
  · unfold bA
    split <;> first
      | exact trivial
      | exact ⟨show (0 : Int) ≤ (0 : Int32).toInt by decide, show (0 : Int32).toInt ≤ 7 by decide⟩
      | exact ⟨show (0 : Int) ≤ (0 : Int32).toInt by decide, show (0 : Int32).toInt ≤ 60 by decide⟩
      | exact ⟨show (0 : Int) ≤ (0 : Int32).toInt by decide, show (0 : Int32).toInt ≤ 40 by decide⟩
      | exact ⟨show (0 : Int) ≤ (0 : Int32).toInt by decide, show (0 : Int32).toInt ≤ 9 by decide⟩
      | exact ⟨show (0 : Int) ≤ (0 : Int32).toInt by decide, show (0 : Int32).toInt ≤ 99 by decide⟩
      | exact ⟨show (0 : Int) ≤ (0 : Int32).toInt by decide, show (0 : Int32).toInt ≤ 119 by decide⟩
      | exact ⟨show (-1 : Int) ≤ (-1 : Int32).toInt by decide, show (-1 : Int32).toInt ≤ 119 by decide⟩
      | exact ⟨show (-6 : Int) ≤ (-1 : Int32).toInt by decide, show (-1 : Int32).toInt ≤ 119 by decide⟩
      | exact ⟨show (0 : Int) ≤ (0 : Int32).toInt by decide, show (0 : Int32).toInt < 3200 by decide, show (0 : Int32).toInt % 100 ≤ 60 by decide⟩
      | exact (show (0 : Int) ≤ (0 : Int32).toInt by decide)
  · unfold bV
    split
    · rw [fr3]
      exact ⟨by decide, by decide⟩
    · trivial
  · have h0 : (zS sFr 59 38).toInt = 0 := by decide
    rw [h0] at ht
    omega
