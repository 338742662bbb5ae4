/-! WHAT CLASS AND REFERENCE HAVE ALIKE -/
theorem b1_some {α ρ : Type} (x : α) (k : α → Option ρ) : b1 (some x) k = k x := rfl
theorem bd_some {α ρ : Type} (x : α) (s : SS) (k : α → SS → Option ρ) : bd (some (x, s)) k = k x s := rfl
theorem on_some {ρ : Type} (p : Nat) (A : Option ρ) (B : Nat → Option ρ) : on (some p) A B = B p := rfl
theorem on_none {ρ : Type} (A : Option ρ) (B : Nat → Option ρ) : on none A B = A := rfl
theorem gd_t {ρ : Type} {b : Prop} {i : Decidable b} {k : Option ρ} (h : b) : @gd ρ b i k = k := if_pos h
theorem in_t {a lo hi : Int32} (h : lo.toInt ≤ a.toInt ∧ a.toInt ≤ hi.toInt) : f_X12_in a lo hi = some 1 := by
  unfold f_X12_in
  rw [if_neg (by rw [jlt]; omega), if_neg (by rw [jlt]; omega)]
theorem in_f {a lo hi : Int32} (h : ¬ (lo.toInt ≤ a.toInt ∧ a.toInt ≤ hi.toInt)) : f_X12_in a lo hi = some 0 := by
  unfold f_X12_in
  by_cases c : a < lo
  · rw [if_pos c]
  · rw [if_neg c, if_pos (by rw [jlt] at c ⊢; omega)]
/-- what the first relation watches, and the second -/
def FrA (b r : SS) : Prop := (∀ q k, fSA q k = true → zS r q k = zS b q k) ∧ (∀ q i, fIA q = true → zI r q i = zI b q i) ∧ ∀ q i, fJ q = true → zJ r q i = zJ b q i
def FrB (b r : SS) : Prop := (∀ q k, fSB q k = true → zS r q k = zS b q k) ∧ ∀ q i, fIB q = true → zI r q i = zI b q i
theorem Fr.a {b r : SS} (F : Fr b r) : FrA b r := ⟨fun q k h => F.1 q k (by unfold fS; rw [h]; rfl), fun q i h => F.2.1 q i (by unfold fI; rw [h]; rfl), F.2.2⟩
theorem Fr.b {b r : SS} (F : Fr b r) : FrB b r := ⟨fun q k h => F.1 q k (by unfold fS; rw [h, Bool.or_true]), fun q i h => F.2.1 q i (by unfold fI; rw [h, Bool.or_true])⟩
section FBs
variable {b s r : SS} {q k i : Nat} {v : Int32}
theorem FrB.rf : FrB s s := ⟨fun _ _ _ => rfl, fun _ _ _ => rfl⟩
theorem FrB.tr (h1 : FrB b s) (h2 : FrB s r) : FrB b r := ⟨fun q k h => (h2.1 q k h).trans (h1.1 q k h), fun q i h => (h2.2 q i h).trans (h1.2 q i h)⟩
theorem FrB.pS (h : FrB b s) (hq : fSB q k = false) : FrB b (pS s q k v) := ⟨fun a c e => by
  rw [zS_pS, if_neg (fun z => by rw [z.1, z.2, hq] at e; cases e)]
  exact h.1 a c e, h.2⟩
theorem FrB.pI (h : FrB b s) (hq : fIB q = false) : FrB b (pI s q i v) := ⟨h.1, fun a c e => by
  rw [zI_pI, if_neg (fun z => by rw [z.1, hq] at e; cases e)]
  exact h.2 a c e⟩
theorem fSB_d (h : 16 ≤ q ∧ q ≠ 59 ∧ q ≠ 24) : fSB q k = false := by
  unfold fSB
  split <;> first | omega | rfl
end FBs
def isH (v : Int32) : Prop := v = 2 ∨ v = 3 ∨ v = 4 ∨ v = 5
def RC (s : SS) : Prop := zS s 0 15 = zS s 59 29 ∧ zS s 0 5 = zS s 59 30 ∧ zS s 15 3 = zS s 59 4 ∧ zS s 15 5 = zS s 59 21 ∧ zS s 34 3 = zS s 59 67 ∧ zS s 34 9 = zS s 59 76
def RA (s : SS) : Prop := (∀ i, zI s 42 i = zI s 113 i) ∧ (∀ i, zI s 16 i = zI s 62 i) ∧ ∀ i, zI s 9 i = zI s 76 i
def RM (s : SS) : Prop := ∀ i, i < 3 → zS s (20 + i) 0 = zI s 78 i ∧ zS s (20 + i) 1 = zI s 79 i
def RH (s : SS) : Prop := ∀ i, i < 120 → (zR s 17 i = none ↔ ¬ ((i : Int) < (zS s 15 3).toInt ∧ isH (zI s 16 i)))
/-- shelf i: nothing; a body; a row of a kind, a length, elements -/
def SR (s : SS) (i : Nat) : Prop := (zS s (47 + 2 * i) 0 = 0 ∧ zI s 120 i = -1) ∨ (zS s (47 + 2 * i) 0 = 1 ∧ zI s 120 i = zS s (47 + 2 * i) 1 ∧ 0 ≤ (zI s 120 i).toInt ∧ (zI s 120 i).toInt < (zS s 15 3).toInt) ∨ (zS s (47 + 2 * i) 0 = 2 ∧ zI s 120 i = -2 - zS s (47 + 2 * i) 2 ∧ (0 ≤ (zS s (47 + 2 * i) 2).toInt ∧ (zS s (47 + 2 * i) 2).toInt ≤ 4) ∧ zS s (47 + 2 * i) 3 = zI s 121 i ∧ ∀ j, j < 60 → (zI s 123 (60 * i + j) = 0 ∧ zJ s (48 + 2 * i) j = zJ s 122 (60 * i + j)) ∨ (zI s 123 (60 * i + j) = 1 ∧ zJ s (48 + 2 * i) j = 9223372036854775807))
def RV (s : SS) : Prop := ∀ i, i < 6 → SR s i
def RG (s : SS) : Prop := RC s ∧ RA s ∧ RM s ∧ RH s ∧ RV s
def GA (s : SS) : Prop := Iv s ∧ RG s
section RGs
variable {s r : SS}
theorem RC.c (R : RC s) (h0 : ∀ k, zS r 0 k = zS s 0 k) (h15 : ∀ k, zS r 15 k = zS s 15 k) (h34 : ∀ k, zS r 34 k = zS s 34 k) (h59 : ∀ k, zS r 59 k = zS s 59 k) : RC r := by
  unfold RC
  rw [h0, h0, h15, h15, h34, h34, h59, h59, h59, h59, h59, h59]
  exact R
theorem RA.c (R : RA s) (h : ∀ q i, q = 42 ∨ q = 113 ∨ q = 16 ∨ q = 62 ∨ q = 9 ∨ q = 76 → zI r q i = zI s q i) : RA r := ⟨fun i => by rw [h 42 i (by omega), h 113 i (by omega)]; exact R.1 i, fun i => by rw [h 16 i (by omega), h 62 i (by omega)]; exact R.2.1 i, fun i => by rw [h 9 i (by omega), h 76 i (by omega)]; exact R.2.2 i⟩
theorem RM.c (R : RM s) (h : ∀ i k, i < 3 → k < 2 → zS r (20 + i) k = zS s (20 + i) k) (h78 : ∀ i, zI r 78 i = zI s 78 i) (h79 : ∀ i, zI r 79 i = zI s 79 i) : RM r := fun i hi => by
  rw [h i 0 hi (by decide), h i 1 hi (by decide), h78, h79]
  exact R i hi
theorem RH.c (R : RH s) (h3 : zS r 15 3 = zS s 15 3) (h16 : ∀ i, zI r 16 i = zI s 16 i) (hR : ∀ i, zR r 17 i = zR s 17 i) : RH r := fun i hi => by
  rw [h3, h16, hR]
  exact R i hi
theorem SR.c {i : Nat} (R : SR s i) (hS : ∀ k, k < 4 → zS r (47 + 2 * i) k = zS s (47 + 2 * i) k) (h120 : zI r 120 i = zI s 120 i) (h121 : zI r 121 i = zI s 121 i) (h123 : ∀ j, j < 60 → zI r 123 (60 * i + j) = zI s 123 (60 * i + j)) (hJ : ∀ j, j < 60 → zJ r (48 + 2 * i) j = zJ s (48 + 2 * i) j) (h122 : ∀ j, j < 60 → zJ r 122 (60 * i + j) = zJ s 122 (60 * i + j)) (hct : (zS s 15 3).toInt ≤ (zS r 15 3).toInt) : SR r i := by
  unfold SR
  rw [hS 0 (by decide), hS 1 (by decide), hS 2 (by decide), hS 3 (by decide), h120, h121]
  rcases R with R | R | R
  · exact Or.inl R
  · exact Or.inr (Or.inl ⟨R.1, R.2.1, R.2.2.1, by have := R.2.2.2; omega⟩)
  · refine Or.inr (Or.inr ⟨R.1, R.2.1, R.2.2.1, R.2.2.2.1, fun j hj => ?_⟩)
    rw [h123 j hj, h122 j hj, hJ j hj]
    exact R.2.2.2.2 j hj
theorem RV.c (R : RV s) (hS : ∀ i k, i < 6 → k < 4 → zS r (47 + 2 * i) k = zS s (47 + 2 * i) k) (hI : ∀ q j, q = 120 ∨ q = 121 ∨ q = 123 → zI r q j = zI s q j) (hJ : ∀ q j, zJ r q j = zJ s q j) (hct : (zS s 15 3).toInt ≤ (zS r 15 3).toInt) : RV r := fun i hi => (R i hi).c (fun k hk => hS i k hi hk) (hI _ _ (by omega)) (hI _ _ (by omega)) (fun j _ => hI _ _ (by omega)) (fun j _ => hJ _ _) (fun j _ => hJ _ _) hct
theorem RG.c (R : RG s) (F : FrA s r) (hR : ∀ i, zR r 17 i = zR s 17 i) : RG r := by
  obtain ⟨R1, R2, R3, R4, R5⟩ := R
  refine ⟨?_, ?_, ?_, ?_, ?_⟩
  · unfold RC
    rw [F.1 0 15 rfl, F.1 0 5 rfl, F.1 15 3 rfl, F.1 15 5 rfl, F.1 34 3 rfl, F.1 34 9 rfl, F.1 59 29 rfl, F.1 59 30 rfl, F.1 59 4 rfl, F.1 59 21 rfl, F.1 59 67 rfl, F.1 59 76 rfl]
    exact R1
  · exact R2.c (fun q i h => F.2.1 q i (by rcases h with rfl | rfl | rfl | rfl | rfl | rfl <;> rfl))
  · refine R3.c (fun i k hi hk => F.1 _ _ ?_) (fun i => F.2.1 78 i rfl) (fun i => F.2.1 79 i rfl)
    have h : i = 0 ∨ i = 1 ∨ i = 2 := by omega
    have h' : k = 0 ∨ k = 1 := by omega
    rcases h with rfl | rfl | rfl <;> rcases h' with rfl | rfl <;> rfl
  · exact R4.c (F.1 15 3 rfl) (fun i => F.2.1 16 i rfl) hR
  · intro i hi
    have h : i = 0 ∨ i = 1 ∨ i = 2 ∨ i = 3 ∨ i = 4 ∨ i = 5 := by omega
    refine (R5 i hi).c (fun k hk => F.1 _ _ ?_) (F.2.1 120 i rfl) (F.2.1 121 i rfl) (fun j _ => F.2.1 123 _ rfl) (fun j _ => F.2.2 _ _ ?_) (fun j _ => F.2.2 122 _ rfl) (by rw [F.1 15 3 rfl]; exact Int.le_refl _)
    · have h' : k = 0 ∨ k = 1 ∨ k = 2 ∨ k = 3 := by omega
      rcases h with rfl | rfl | rfl | rfl | rfl | rfl <;> rcases h' with rfl | rfl | rfl | rfl <;> rfl
    · rcases h with rfl | rfl | rfl | rfl | rfl | rfl <;> rfl
end RGs
theorem GA.go {s r : SS} (G : GA s) (F : FrA s r) (hR : ∀ i, zR r 17 i = zR s 17 i) (I : Iv r) : GA r := ⟨I, G.2.c F hR⟩
theorem mach_t {s : SS} {a : Int32} (I : Iv s) (h : 0 ≤ a.toInt ∧ a.toInt < 3) : f_X11_machineOf s a = some (some (20 + a.toInt.toNat)) := by
  unfold f_X11_machineOf
  rw [if_neg (by rw [jlt, jl0]; omega), if_pos (by rw [jlt, jl3]; omega), gd_t ⟨h.1, h.2⟩, I.1.1.2.2.2.1 _ (by omega)]
  rfl
theorem mach_f {s : SS} {a : Int32} (h : ¬ (0 ≤ a.toInt ∧ a.toInt < 3)) : f_X11_machineOf s a = some none := by
  unfold f_X11_machineOf
  by_cases c : a < 0
  · rw [if_pos c]
  · rw [if_neg c, if_neg (by rw [jlt, jl3]; rw [jlt, jl0] at c; omega)]
theorem ismach_t {a : Int32} (h : 0 ≤ a.toInt ∧ a.toInt < 3) : f_X12_isMachine a = some 1 := by
  unfold f_X12_isMachine
  rw [in_t (by rw [jl0, jl2]; omega)]
  rfl
theorem ismach_f {a : Int32} (h : ¬ (0 ≤ a.toInt ∧ a.toInt < 3)) : f_X12_isMachine a = some 0 := by
  unfold f_X12_isMachine
  rw [in_f (by rw [jl0, jl2]; omega)]
  rfl
theorem sa_speed {s : SS} (G : GA s) (a0 : Int32) (a1 : Int32) : ∃ (rx : Int32) (s1 : SS) (rm : Int32) (s2 : SS), f_X11_speed s a0 a1 = some (rx, s1) ∧ f_X12_speed s1 a0 a1 = some (rm, s2) ∧ GA s2 ∧ FrB s s2 ∧ rx = rm := by
  by_cases c : 0 ≤ a0.toInt ∧ a0.toInt < 3
  · by_cases d : 10 ≤ a1.toInt ∧ a1.toInt ≤ 60
    · refine ⟨zS s (20 + a0.toInt.toNat) 0, pS s (20 + a0.toInt.toNat) 0 a1, zI s 78 a0.toInt.toNat, pI (pS s (20 + a0.toInt.toNat) 0 a1) 78 a0.toInt.toNat a1, ?_, ?_, ⟨?_, ?_⟩, (FrB.rf.pS (fSB_d (by omega))).pI (by decide), (G.2.2.2.1 _ (by omega)).1⟩
      · unfold f_X11_speed
        rw [mach_t G.1 c, b1_some, on_some, if_neg (by rw [jlt, jl10]; omega), if_neg (by rw [jlt, jl60]; omega)]
        rfl
      · unfold f_X12_speed
        rw [ismach_t c, b1_some, if_neg (by decide), in_t (by rw [jl10, jl60]; omega), b1_some, if_neg (by decide), gd_t ⟨c.1, c.2⟩]
        show gd _ _ = _
        rw [gd_t ⟨c.1, c.2⟩]
        rfl
      · exact (G.1.wM ⟨by omega, by omega⟩).wI (q := 78) (by decide) trivial
      · obtain ⟨R1, R2, R3, R4, R5⟩ := G.2
        have e : ∀ q k, ¬ (q = 20 + a0.toInt.toNat ∧ k = 0) → zS (pI (pS s (20 + a0.toInt.toNat) 0 a1) 78 a0.toInt.toNat a1) q k = zS s q k := fun q k h => by rw [zS_pI, zS_pS, if_neg h]
        have f : ∀ q j, q ≠ 78 → zI (pI (pS s (20 + a0.toInt.toNat) 0 a1) 78 a0.toInt.toNat a1) q j = zI s q j := fun q j h => by rw [zI_pI, if_neg (fun z => h z.1), zI_pS]
        refine ⟨R1.c (fun k => e _ _ (by omega)) (fun k => e _ _ (by omega)) (fun k => e _ _ (by omega)) (fun k => e _ _ (by omega)), R2.c (fun q i h => f q i (by omega)), fun i hi => ?_, R4.c (e _ _ (by omega)) (fun i => f _ _ (by decide)) (fun _ => rfl), R5.c (fun i k hi hk => e _ _ (by omega)) (fun q j h => f q j (by omega)) (fun _ _ => rfl) (by rw [e _ _ (by omega)]; exact Int.le_refl _)⟩
        rw [e _ 1 (by omega), f 79 _ (by decide)]
        refine ⟨?_, (R3 i hi).2⟩
        rw [zS_pI, zS_pS, zI_pI, zI_pS]
        by_cases h : i = a0.toInt.toNat
        · rw [if_pos ⟨by omega, rfl⟩, if_pos ⟨rfl, h⟩]
        · rw [if_neg (by omega), if_neg (by omega)]
          exact (R3 i hi).1
    · refine ⟨-1, s, -1, s, ?_, ?_, G, FrB.rf, rfl⟩
      · unfold f_X11_speed
        rw [mach_t G.1 c, b1_some, on_some]
        by_cases h : a1 < 10
        · rw [if_pos h]
        · rw [if_neg h, if_pos (by rw [jlt, jl60]; rw [jlt, jl10] at h; omega)]
      · unfold f_X12_speed
        rw [ismach_t c, b1_some, if_neg (by decide), in_f (by rw [jl10, jl60]; omega), b1_some, if_pos rfl]
  · refine ⟨-1, s, -1, s, ?_, ?_, G, FrB.rf, rfl⟩
    · unfold f_X11_speed
      rw [mach_f c, b1_some, on_none]
    · unfold f_X12_speed
      rw [ismach_f c, b1_some, if_pos rfl]
