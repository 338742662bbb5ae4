/-! THE FRESH STATE, all relations -/
theorem z32 : (0 : Int32).toInt = 0 := rfl
theorem ySum_0f {f : Nat → Int} (h : ∀ i, f i = 0) (n : Nat) : ySum f n = 0 := by
  induction n with
  | zero => rfl
  | succ n ih =>
    show ySum f n + f n = 0
    rw [ih, h n]
    rfl
theorem Q4_fr : Q4 sFr sFr := by
  have i0 : ∀ i : Nat, ¬ (i : Int) < (0 : Int32).toInt := fun i => by rw [z32]; omega
  refine ⟨⟨fun i p _ e => (by cases e), fun i _ _ => ⟨rfl, rfl, rfl, rfl, rfl, fun y _ _ => ⟨rfl, rfl, rfl, ?_⟩⟩, fun i j p _ _ e => (by cases e), fun i _ => ?_⟩, ⟨fun i _ => ⟨rfl, rfl, rfl, Or.inl rfl, fun z => ?_⟩, ?_⟩, ⟨?_, ?_, ?_⟩, Or.inl ⟨rfl, fun i _ => ?_⟩, ⟨rfl, rfl, rfl, fun _ => rfl, fun i _ h => absurd h (i0 i)⟩, ⟨rfl, rfl, rfl, rfl, fun z => ?_⟩, fun i hi => ?_, Or.inl ⟨rfl, rfl⟩, ⟨fun i _ => Or.inl rfl, fun i j _ _ _ z => ?_⟩, ⟨fun i _ h => absurd h (i0 i), fun i _ _ => rfl, fun i j p _ _ e => (by cases e)⟩, fun i _ h => absurd h (i0 i), ⟨fun _ => Or.inl rfl, fun i _ h => ?_⟩, fun i _ => ?_⟩
  · show (0 : Int32) ≠ -2000000000
    decide
  · show 0 ≤ (0 : Int32).toInt ∧ (0 : Int32).toInt ≤ 1700
    decide
  · have z' : (0 : Int32) = 1 := z
    exact absurd z' (by decide)
  · exact (ySum_0f (fun _ => rfl) 120).symm
  · exact (ySum_0f (fun _ => rfl) 120).symm
  · refine (ySum_0f (fun i => ?_) 120).symm
    show (if 0 < (0 : Int32).toInt then (1 : Int) else 0) = 0
    rw [if_neg (by decide)]
  · refine (ySum_0f (fun i => ?_) 120).symm
    show (if (none : Option Nat) = none then (0 : Int) else 1) = 0
    rw [if_pos rfl]
  · show ¬ 0 < (0 : Int32).toInt
    decide
  · have z' : 0 ≤ (-1 : Int32).toInt := z
    exact absurd z' (by decide)
  · have h : i = 0 ∨ i = 1 ∨ i = 2 := by omega
    rcases h with rfl | rfl | rfl <;> rfl
  · have z' : 0 ≤ (-1 : Int32).toInt := z
    exact absurd z' (by decide)
  · have h' : (-1 : Int32) = -5 ∨ (-1 : Int32) = -6 := h
    rcases h' with z | z <;> exact absurd z (by decide)
  · show 0 ≤ (0 : Int32).toInt ∧ (0 : Int32).toInt ≤ 60 * (0 : Int32).toInt
    decide
theorem GW_fr : GW 0 sFr := by
  refine ⟨⟨GI_fr, Q4_fr⟩, ⟨⟨fun m _ => ?_, fun j => ?_⟩, ⟨fun j => ?_, ?_, fun n => ?_⟩, fun i _ => ?_, Or.inl rfl⟩, fun i _ => ?_⟩
  · show 0 ≤ (20 : Int32).toInt ∧ (20 : Int32).toInt ≤ 60
    decide
  · show 0 ≤ (3 : Int32).toInt ∧ (3 : Int32).toInt ≤ 9
    decide
  · show -9999 ≤ (0 : Int32).toInt ∧ (0 : Int32).toInt ≤ 9999
    decide
  · show 0 ≤ (2 : Int32).toInt ∧ (2 : Int32).toInt ≤ 8
    decide
  · show 0 ≤ (0 : Int32).toInt ∧ (0 : Int32).toInt ≤ 31
    decide
  · show (-1 : Int32).toInt ≤ 1699
    decide
  · show (0 : Int32).toInt ≤ 1699 + 9 * ((0 : Nat) : Int)
    decide
