section AWy
variable {M : aM} {R : Room} {F : aF} {pc : Nat} {lv : List (Option Value)} {st : List Value} {h : List aE} {nc ns : Nat} {a : Value}
theorem aw_sndi {x v : Int32} (hv : x = v) (k : AW M R F pc lv (a :: .int v :: st) h nc ns) : AW M R F pc lv (a :: .int x :: st) h nc ns := hv ▸ k
end AWy
theorem tneK {x k : Int32} {K : Int} (hk : k.toInt = K) (h : ¬ x = k) : ¬ x.toInt = K := fun z => h (Int32.toInt_inj.mp (z.trans hk.symm))
theorem nz {v : Int32} (h : v = 0 ∨ v = 1) : narrow .boolean (.int v) = .int v := by
  rcases h with rfl | rfl <;> decide
theorem ixl {i : Int32} {n : Nat} (h : inB i n) : i.toInt.toNat < n := by
  obtain ⟨h1, h2⟩ := h
  omega
theorem ok4 {s : SS} {h : List aE} {i : Int32} {p : Nat} (H : HH s h) (hi : inB i 3) (e : zR s 19 i.toInt.toNat = some p) : okM p := by
  have q := H.2.2.2.2.2.1 _ (ixl hi)
  rw [q] at e
  have := Option.some.inj e
  have := ixl hi
  exact ⟨by omega, by omega⟩
theorem ok8 {s : SS} {h : List aE} {i : Int32} {p : Nat} (H : HH s h) (hi : inB i 6) (e : zR s 46 i.toInt.toNat = some p) : okV p := by
  have q := H.2.2.2.2.2.2.2.2 _ (ixl hi)
  rw [q] at e
  have := Option.some.inj e
  have := ixl hi
  exact ⟨by omega, by omega, by omega⟩
