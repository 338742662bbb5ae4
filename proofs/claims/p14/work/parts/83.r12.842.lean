/-! THE FRESH STATE -/
theorem GA_fr : GA sFr := by
  refine ⟨Iv_fr, ⟨rfl, rfl, rfl, rfl, rfl, rfl⟩, ⟨fun _ => rfl, fun _ => rfl, fun _ => rfl⟩, fun i hi => ?_, fun i hi => ?_, fun i hi => ?_⟩
  · have h : i = 0 ∨ i = 1 ∨ i = 2 := by omega
    rcases h with rfl | rfl | rfl <;> exact ⟨rfl, rfl⟩
  · refine ⟨fun _ z => ?_, fun _ => rfl⟩
    have h0 : (zS sFr 15 3).toInt = 0 := by decide
    have := z.1
    omega
  · have h : i = 0 ∨ i = 1 ∨ i = 2 ∨ i = 3 ∨ i = 4 ∨ i = 5 := by omega
    rcases h with rfl | rfl | rfl | rfl | rfl | rfl <;> exact Or.inl ⟨rfl, rfl⟩
