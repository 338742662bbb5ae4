/-! BOTH RELATIONS: the fresh state, a step that writes nothing watched -/
theorem GI_fr : GI sFr := by
  refine ⟨GA_fr, ⟨rfl, rfl, fun _ => rfl, fun _ => rfl, by decide, by decide⟩, fun c y _ _ _ => ⟨?_, rfl, Or.inl rfl⟩, ⟨rfl, fun _ => rfl⟩, ⟨rfl, ⟨by decide, by decide⟩, fun i _ => ?_⟩, rfl⟩
  · show (3 : Int32) = 3 + 0
    decide
  · show 0 ≤ (0 : Int32).toInt ∧ (0 : Int32).toInt ≤ 255 ∧ (0 : Int32).toInt = if (0 : Int32).toInt < 128 then (0 : Int32).toInt else (0 : Int32).toInt - 256
    decide
