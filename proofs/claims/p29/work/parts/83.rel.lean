/-! WHAT CLASS AND REFERENCE HAVE ALIKE -/
theorem b1_some {α ρ : Type} (x : α) (k : α → Option ρ) : b1 (some x) k = k x := rfl
theorem bd_some {α ρ : Type} (x : α) (s : SS) (k : α → SS → Option ρ) : bd (some (x, s)) k = k x s := rfl
theorem on_some {ρ : Type} (p : Nat) (A : Option ρ) (B : Nat → Option ρ) : on (some p) A B = B p := rfl
theorem on_none {ρ : Type} (A : Option ρ) (B : Nat → Option ρ) : on none A B = A := rfl
theorem gd_t {ρ : Type} {b : Prop} {i : Decidable b} {k : Option ρ} (h : b) : @gd ρ b i k = k := if_pos h
theorem in_t {a lo hi : Int32} (h : lo.toInt ≤ a.toInt ∧ a.toInt ≤ hi.toInt) : f_X12_in a lo hi = some 1 := by
  unfold f_X12_in
  rw [if_neg (by rw [jlt]; omega), if_neg (by rw [jlt]; omega)]
theorem in_f {a lo hi : Int32} (h : ¬ (lo.toInt ≤ a.toInt ∧ a.toInt ≤ hi.toInt)) : f_X12_in a lo hi = some 0 := by
  unfold f_X12_in
  by_cases c : a < lo
  · rw [if_pos c]
  · rw [if_neg c, if_pos (by rw [jlt] at c ⊢; omega)]
/-- what the first relation watches, and the second -/
def FrA (b r : SS) : Prop := (∀ q k, fSA q k = true → zS r q k = zS b q k) ∧ (∀ q i, fIA q = true → zI r q i = zI b q i) ∧ ∀ q i, fJ q = true → zJ r q i = zJ b q i
def FrB (b r : SS) : Prop := (∀ q k, fSB q k = true → zS r q k = zS b q k) ∧ ∀ q i, fIB q = true → zI r q i = zI b q i
theorem Fr.a {b r : SS} (F : Fr b r) : FrA b r := ⟨fun q k h => F.1 q k (by unfold fS; rw [h]; rfl), fun q i h => F.2.1 q i (by unfold fI; rw [h]; rfl), F.2.2⟩
theorem Fr.b {b r : SS} (F : Fr b r) : FrB b r := ⟨fun q k h => F.1 q k (by unfold fS; rw [h, Bool.or_true]), fun q i h => F.2.1 q i (by unfold fI; rw [h, Bool.or_true])⟩
section FBs
variable {b s r : SS} {q k i : Nat} {v : Int32}
theorem FrB.rf : FrB s s := ⟨fun _ _ _ => rfl, fun _ _ _ => rfl⟩
theorem FrB.tr (h1 : FrB b s) (h2 : FrB s r) : FrB b r := ⟨fun q k h => (h2.1 q k h).trans (h1.1 q k h), fun q i h => (h2.2 q i h).trans (h1.2 q i h)⟩
theorem FrB.pS (h : FrB b s) (hq : fSB q k = false) : FrB b (pS s q k v) := ⟨fun a c e => by
  rw [zS_pS, if_neg (fun z => by rw [z.1, z.2, hq] at e; cases e)]
  exact h.1 a c e, h.2⟩
theorem FrB.pI (h : FrB b s) (hq : fIB q = false) : FrB b (pI s q i v) := ⟨h.1, fun a c e => by
  rw [zI_pI, if_neg (fun z => by rw [z.1, hq] at e; cases e)]
  exact h.2 a c e⟩
theorem fSB_d (h : 16 ≤ q ∧ q ≠ 59) : fSB q k = false := by
  unfold fSB
  split <;> first | omega | rfl
end FBs
def isH (v : Int32) : Prop := v = 2 ∨ v = 3 ∨ v = 4 ∨ v = 5
def RC (s : SS) : Prop := zS s 0 15 = zS s 59 29 ∧ zS s 0 5 = zS s 59 30 ∧ zS s 15 3 = zS s 59 4 ∧ zS s 15 5 = zS s 59 21 ∧ zS s 34 3 = zS s 59 67 ∧ zS s 34 9 = zS s 59 76
def RA (s : SS) : Prop := (∀ i, zI s 42 i = zI s 113 i) ∧ (∀ i, zI s 16 i = zI s 62 i) ∧ ∀ i, zI s 9 i = zI s 76 i
def RM (s : SS) : Prop := ∀ i, i < 3 → zS s (20 + i) 0 = zI s 78 i ∧ zS s (20 + i) 1 = zI s 79 i
def RH (s : SS) : Prop := ∀ i, i < 120 → (zR s 17 i = none ↔ ¬ ((i : Int) < (zS s 15 3).toInt ∧ isH (zI s 16 i)))
/-- shelf i: nothing; a body; a row of a kind, a length, elements -/
def SR (s : SS) (i : Nat) : Prop := (zS s (47 + 2 * i) 0 = 0 ∧ zI s 120 i = -1) ∨ (zS s (47 + 2 * i) 0 = 1 ∧ zI s 120 i = zS s (47 + 2 * i) 1 ∧ 0 ≤ (zI s 120 i).toInt ∧ (zI s 120 i).toInt < (zS s 15 3).toInt) ∨ (zS s (47 + 2 * i) 0 = 2 ∧ zI s 120 i = -2 - zS s (47 + 2 * i) 2 ∧ (0 ≤ (zS s (47 + 2 * i) 2).toInt ∧ (zS s (47 + 2 * i) 2).toInt ≤ 4) ∧ zS s (47 + 2 * i) 3 = zI s 121 i ∧ ∀ j, j < 60 → (zI s 123 (60 * i + j) = 0 ∧ zJ s (48 + 2 * i) j = zJ s 122 (60 * i + j)) ∨ (zI s 123 (60 * i + j) = 1 ∧ zJ s (48 + 2 * i) j = 9223372036854775807))
def RV (s : SS) : Prop := ∀ i, i < 6 → SR s i
def RG (s : SS) : Prop := RC s ∧ RA s ∧ RM s ∧ RH s ∧ RV s
def GA (s : SS) : Prop := Iv s ∧ RG s
section RGs
variable {s r : SS}
theorem RC.c (R : RC s) (h0 : ∀ k, zS r 0 k = zS s 0 k) (h15 : ∀ k, zS r 15 k = zS s 15 k) (h34 : ∀ k, zS r 34 k = zS s 34 k) (h59 : ∀ k, zS r 59 k = zS s 59 k) : RC r := by
  unfold RC
  rw [h0, h0, h15, h15, h34, h34, h59, h59, h59, h59, h59, h59]
  exact R
theorem RA.c (R : RA s) (h : ∀ q i, q = 42 ∨ q = 113 ∨ q = 16 ∨ q = 62 ∨ q = 9 ∨ q = 76 → zI r q i = zI s q i) : RA r := ⟨fun i => by rw [h 42 i (by omega), h 113 i (by omega)]; exact R.1 i, fun i => by rw [h 16 i (by omega), h 62 i (by omega)]; exact R.2.1 i, fun i => by rw [h 9 i (by omega), h 76 i (by omega)]; exact R.2.2 i⟩
theorem RM.c (R : RM s) (h : ∀ i k, i < 3 → k < 2 → zS r (20 + i) k = zS s (20 + i) k) (h78 : ∀ i, zI r 78 i = zI s 78 i) (h79 : ∀ i, zI r 79 i = zI s 79 i) : RM r := fun i hi => by
  rw [h i 0 hi (by decide), h i 1 hi (by decide), h78, h79]
  exact R i hi
theorem RH.c (R : RH s) (h3 : zS r 15 3 = zS s 15 3) (h16 : ∀ i, zI r 16 i = zI s 16 i) (hR : ∀ i, zR r 17 i = zR s 17 i) : RH r := fun i hi => by
  rw [h3, h16, hR]
  exact R i hi
theorem SR.c {i : Nat} (R : SR s i) (hS : ∀ k, k < 4 → zS r (47 + 2 * i) k = zS s (47 + 2 * i) k) (h120 : zI r 120 i = zI s 120 i) (h121 : zI r 121 i = zI s 121 i) (h123 : ∀ j, j < 60 → zI r 123 (60 * i + j) = zI s 123 (60 * i + j)) (hJ : ∀ j, j < 60 → zJ r (48 + 2 * i) j = zJ s (48 + 2 * i) j) (h122 : ∀ j, j < 60 → zJ r 122 (60 * i + j) = zJ s 122 (60 * i + j)) (hct : (zS s 15 3).toInt ≤ (zS r 15 3).toInt) : SR r i := by
  unfold SR
  rw [hS 0 (by decide), hS 1 (by decide), hS 2 (by decide), hS 3 (by decide), h120, h121]
  rcases R with R | R | R
  · exact Or.inl R
  · exact Or.inr (Or.inl ⟨R.1, R.2.1, R.2.2.1, by have := R.2.2.2; omega⟩)
  · refine Or.inr (Or.inr ⟨R.1, R.2.1, R.2.2.1, R.2.2.2.1, fun j hj => ?_⟩)
    rw [h123 j hj, h122 j hj, hJ j hj]
    exact R.2.2.2.2 j hj
theorem RV.c (R : RV s) (hS : ∀ i k, i < 6 → k < 4 → zS r (47 + 2 * i) k = zS s (47 + 2 * i) k) (hI : ∀ q j, q = 120 ∨ q = 121 ∨ q = 123 → zI r q j = zI s q j) (hJ : ∀ q j, zJ r q j = zJ s q j) (hct : (zS s 15 3).toInt ≤ (zS r 15 3).toInt) : RV r := fun i hi => (R i hi).c (fun k hk => hS i k hi hk) (hI _ _ (by omega)) (hI _ _ (by omega)) (fun j _ => hI _ _ (by omega)) (fun j _ => hJ _ _) (fun j _ => hJ _ _) hct
theorem RG.c (R : RG s) (F : FrA s r) (hR : ∀ i, zR r 17 i = zR s 17 i) : RG r := by
  obtain ⟨R1, R2, R3, R4, R5⟩ := R
  refine ⟨?_, ?_, ?_, ?_, ?_⟩
  · unfold RC
    rw [F.1 0 15 rfl, F.1 0 5 rfl, F.1 15 3 rfl, F.1 15 5 rfl, F.1 34 3 rfl, F.1 34 9 rfl, F.1 59 29 rfl, F.1 59 30 rfl, F.1 59 4 rfl, F.1 59 21 rfl, F.1 59 67 rfl, F.1 59 76 rfl]
    exact R1
  · exact R2.c (fun q i h => F.2.1 q i (by rcases h with rfl | rfl | rfl | rfl | rfl | rfl <;> rfl))
  · refine R3.c (fun i k hi hk => F.1 _ _ ?_) (fun i => F.2.1 78 i rfl) (fun i => F.2.1 79 i rfl)
    have h : i = 0 ∨ i = 1 ∨ i = 2 := by omega
    have h' : k = 0 ∨ k = 1 := by omega
    rcases h with rfl | rfl | rfl <;> rcases h' with rfl | rfl <;> rfl
  · exact R4.c (F.1 15 3 rfl) (fun i => F.2.1 16 i rfl) hR
  · intro i hi
    have h : i = 0 ∨ i = 1 ∨ i = 2 ∨ i = 3 ∨ i = 4 ∨ i = 5 := by omega
    refine (R5 i hi).c (fun k hk => F.1 _ _ ?_) (F.2.1 120 i rfl) (F.2.1 121 i rfl) (fun j _ => F.2.1 123 _ rfl) (fun j _ => F.2.2 _ _ ?_) (fun j _ => F.2.2 122 _ rfl) (by rw [F.1 15 3 rfl]; exact Int.le_refl _)
    · have h' : k = 0 ∨ k = 1 ∨ k = 2 ∨ k = 3 := by omega
      rcases h with rfl | rfl | rfl | rfl | rfl | rfl <;> rcases h' with rfl | rfl | rfl | rfl <;> rfl
    · rcases h with rfl | rfl | rfl | rfl | rfl | rfl <;> rfl
end RGs
theorem GA.go {s r : SS} (G : GA s) (F : FrA s r) (hR : ∀ i, zR r 17 i = zR s 17 i) (I : Iv r) : GA r := ⟨I, G.2.c F hR⟩
theorem mach_t {s : SS} {a : Int32} (I : Iv s) (h : 0 ≤ a.toInt ∧ a.toInt < 3) : f_X11_machineOf s a = some (some (20 + a.toInt.toNat)) := by
  unfold f_X11_machineOf
  rw [if_neg (by rw [jlt, jl0]; omega), if_pos (by rw [jlt, jl3]; omega), gd_t ⟨h.1, h.2⟩, I.1.1.2.2.2.1 _ (by omega)]
  rfl
theorem mach_f {s : SS} {a : Int32} (h : ¬ (0 ≤ a.toInt ∧ a.toInt < 3)) : f_X11_machineOf s a = some none := by
  unfold f_X11_machineOf
  by_cases c : a < 0
  · rw [if_pos c]
  · rw [if_neg c, if_neg (by rw [jlt, jl3]; rw [jlt, jl0] at c; omega)]
theorem ismach_t {a : Int32} (h : 0 ≤ a.toInt ∧ a.toInt < 3) : f_X12_isMachine a = some 1 := by
  unfold f_X12_isMachine
  rw [in_t (by rw [jl0, jl2]; omega)]
  rfl
theorem ismach_f {a : Int32} (h : ¬ (0 ≤ a.toInt ∧ a.toInt < 3)) : f_X12_isMachine a = some 0 := by
  unfold f_X12_isMachine
  rw [in_f (by rw [jl0, jl2]; omega)]
  rfl
theorem sa_speed {s : SS} (G : GA s) (a0 : Int32) (a1 : Int32) : ∃ (rx : Int32) (s1 : SS) (rm : Int32) (s2 : SS), f_X11_speed s a0 a1 = some (rx, s1) ∧ f_X12_speed s1 a0 a1 = some (rm, s2) ∧ GA s2 ∧ FrB s s2 ∧ rx = rm := by
  by_cases c : 0 ≤ a0.toInt ∧ a0.toInt < 3
  · by_cases d : 10 ≤ a1.toInt ∧ a1.toInt ≤ 60
    · refine ⟨zS s (20 + a0.toInt.toNat) 0, pS s (20 + a0.toInt.toNat) 0 a1, zI s 78 a0.toInt.toNat, pI (pS s (20 + a0.toInt.toNat) 0 a1) 78 a0.toInt.toNat a1, ?_, ?_, ⟨?_, ?_⟩, (FrB.rf.pS (fSB_d (by omega))).pI (by decide), (G.2.2.2.1 _ (by omega)).1⟩
      · unfold f_X11_speed
        rw [mach_t G.1 c, b1_some, on_some, if_neg (by rw [jlt, jl10]; omega), if_neg (by rw [jlt, jl60]; omega)]
        rfl
      · unfold f_X12_speed
        rw [ismach_t c, b1_some, if_neg (by decide), in_t (by rw [jl10, jl60]; omega), b1_some, if_neg (by decide), gd_t ⟨c.1, c.2⟩]
        show gd _ _ = _
        rw [gd_t ⟨c.1, c.2⟩]
        rfl
      · exact (G.1.wM ⟨by omega, by omega⟩).wI (q := 78) (by decide) trivial
      · obtain ⟨R1, R2, R3, R4, R5⟩ := G.2
        have e : ∀ q k, ¬ (q = 20 + a0.toInt.toNat ∧ k = 0) → zS (pI (pS s (20 + a0.toInt.toNat) 0 a1) 78 a0.toInt.toNat a1) q k = zS s q k := fun q k h => by rw [zS_pI, zS_pS, if_neg h]
        have f : ∀ q j, q ≠ 78 → zI (pI (pS s (20 + a0.toInt.toNat) 0 a1) 78 a0.toInt.toNat a1) q j = zI s q j := fun q j h => by rw [zI_pI, if_neg (fun z => h z.1), zI_pS]
        refine ⟨R1.c (fun k => e _ _ (by omega)) (fun k => e _ _ (by omega)) (fun k => e _ _ (by omega)) (fun k => e _ _ (by omega)), R2.c (fun q i h => f q i (by omega)), fun i hi => ?_, R4.c (e _ _ (by omega)) (fun i => f _ _ (by decide)) (fun _ => rfl), R5.c (fun i k hi hk => e _ _ (by omega)) (fun q j h => f q j (by omega)) (fun _ _ => rfl) (by rw [e _ _ (by omega)]; exact Int.le_refl _)⟩
        rw [e _ 1 (by omega), f 79 _ (by decide)]
        refine ⟨?_, (R3 i hi).2⟩
        rw [zS_pI, zS_pS, zI_pI, zI_pS]
        by_cases h : i = a0.toInt.toNat
        · rw [if_pos ⟨by omega, rfl⟩, if_pos ⟨rfl, h⟩]
        · rw [if_neg (by omega), if_neg (by omega)]
          exact (R3 i hi).1
    · refine ⟨-1, s, -1, s, ?_, ?_, G, FrB.rf, rfl⟩
      · unfold f_X11_speed
        rw [mach_t G.1 c, b1_some, on_some]
        by_cases h : a1 < 10
        · rw [if_pos h]
        · rw [if_neg h, if_pos (by rw [jlt, jl60]; rw [jlt, jl10] at h; omega)]
      · unfold f_X12_speed
        rw [ismach_t c, b1_some, if_neg (by decide), in_f (by rw [jl10, jl60]; omega), b1_some, if_pos rfl]
  · refine ⟨-1, s, -1, s, ?_, ?_, G, FrB.rf, rfl⟩
    · unfold f_X11_speed
      rw [mach_f c, b1_some, on_none]
    · unfold f_X12_speed
      rw [ismach_f c, b1_some, if_pos rfl]
section RGw
variable {s : SS} {q k i : Nat} {v : Int32}
theorem RC.pI (R : RC s) : RC (pI s q i v) := R
theorem RC.pSo (h : fSA q k = false) (R : RC s) : RC (pS s q k v) := by
  have e : ∀ a b, fSA a b = true → zS (pS s q k v) a b = zS s a b := fun a b f => by rw [zS_pS, if_neg (fun z => by rw [z.1, z.2, h] at f; cases f)]
  unfold RC
  rw [e 0 15 rfl, e 0 5 rfl, e 15 3 rfl, e 15 5 rfl, e 34 3 rfl, e 34 9 rfl, e 59 29 rfl, e 59 30 rfl, e 59 4 rfl, e 59 21 rfl, e 59 67 rfl, e 59 76 rfl]
  exact R
theorem RA.pS (R : RA s) : RA (pS s q k v) := R
theorem RA.pI (h : q ≠ 42 ∧ q ≠ 113 ∧ q ≠ 16 ∧ q ≠ 62 ∧ q ≠ 9 ∧ q ≠ 76) (R : RA s) : RA (pI s q i v) := R.c (fun a b z => by rw [zI_pI, if_neg (by omega)])
theorem RM.pS (h : q < 20 ∨ 22 < q) (R : RM s) : RM (pS s q k v) := R.c (fun a b h1 h2 => by rw [zS_pS, if_neg (by omega)]) (fun _ => rfl) (fun _ => rfl)
theorem RM.pI (h : q ≠ 78 ∧ q ≠ 79) (R : RM s) : RM (pI s q i v) := R.c (fun _ _ _ _ => rfl) (fun a => by rw [zI_pI, if_neg (by omega)]) (fun a => by rw [zI_pI, if_neg (by omega)])
theorem RH.pS (h : ¬ (q = 15 ∧ k = 3)) (R : RH s) : RH (pS s q k v) := R.c (by rw [zS_pS, if_neg (by omega)]) (fun _ => rfl) (fun _ => rfl)
theorem RH.pI (h : q ≠ 16) (R : RH s) : RH (pI s q i v) := R.c rfl (fun a => by rw [zI_pI, if_neg (by omega)]) (fun _ => rfl)
theorem RV.pS (h : q < 47 ∨ 57 < q) (h3 : ¬ (q = 15 ∧ k = 3)) (R : RV s) : RV (pS s q k v) := R.c (fun a b h1 h2 => by rw [zS_pS, if_neg (by omega)]) (fun _ _ _ => rfl) (fun _ _ => rfl) (by rw [zS_pS, if_neg (by omega)]; exact Int.le_refl _)
theorem RV.pI (h : q ≠ 120 ∧ q ≠ 121 ∧ q ≠ 123) (R : RV s) : RV (pI s q i v) := R.c (fun _ _ _ _ => rfl) (fun a b z => by rw [zI_pI, if_neg (by omega)]) (fun _ _ => rfl) (Int.le_refl _)
end RGw
theorem sa_spread {s : SS} (G : GA s) (a0 : Int32) : ∃ (rx : Int32) (s1 : SS) (rm : Int32) (s2 : SS), f_X11_spread s a0 = some (rx, s1) ∧ f_X12_spread s1 a0 = some (rm, s2) ∧ GA s2 ∧ FrB s s2 ∧ rx = rm := by
  by_cases h1 : a0 < 0
  · refine ⟨-1, s, -1, s, ?_, ?_, G, FrB.rf, rfl⟩
    · unfold f_X11_spread
      rw [if_pos h1]
    · unfold f_X12_spread f_X12_in
      rw [if_pos h1]
      rfl
  by_cases h2 : 8 < a0
  · refine ⟨-1, s, -1, s, ?_, ?_, G, FrB.rf, rfl⟩
    · unfold f_X11_spread
      rw [if_neg h1, if_pos h2]
    · unfold f_X12_spread f_X12_in
      rw [if_neg h1, if_pos h2]
      rfl
  refine ⟨zS s 0 15, pS s 0 15 a0, zS s 59 29, pS (pS s 0 15 a0) 59 29 a0, ?_, ?_, ⟨?_, ?_⟩, (FrB.rf.pS (by decide)).pS (by decide), G.2.1.1⟩
  · unfold f_X11_spread
    rw [if_neg h1, if_neg h2]
    rfl
  · unfold f_X12_spread f_X12_in
    rw [if_neg h1, if_neg h2]
    rfl
  · exact Iv.wF (q := 59) (k := 29) (Iv.wF (q := 0) (k := 15) G.1 (by decide) (by decide) trivial) (by decide) (by decide) trivial
  · obtain ⟨R1, R2, R3, R4, R5⟩ := G.2
    exact ⟨⟨rfl, R1.2⟩, R2, (R3.pS (by decide)).pS (by decide), (R4.pS (by decide)).pS (by decide), (R5.pS (by decide) (by decide)).pS (by decide) (by decide)⟩
theorem ix6 {a b : Int32} (ha : 0 ≤ a.toInt ∧ a.toInt ≤ 3) (hb : 0 ≤ b.toInt ∧ b.toInt ≤ 5) : (6 * a + b).toInt = 6 * a.toInt + b.toInt := by
  have j6 : (6 : Int32).toInt = 6 := rfl
  have m1 : ((6 : Int32) * a).toInt = 6 * a.toInt := by rw [i32_mul (by rw [j6]; omega) (by rw [j6]; omega), j6]
  rw [i32_add (by rw [m1]; omega) (by rw [m1]; omega), m1]
theorem sa_rock {s : SS} (G : GA s) (a0 : Int32) (a1 : Int32) (a2 : Int32) : ∃ (rx : Int32) (s1 : SS) (rm : Int32) (s2 : SS), f_X11_rock s a0 a1 a2 = some (rx, s1) ∧ f_X12_rock s1 a0 a1 a2 = some (rm, s2) ∧ GA s2 ∧ FrB s s2 ∧ rx = rm := by
  by_cases c : 0 ≤ a0.toInt ∧ a0.toInt ≤ 3
  · by_cases d : 0 ≤ a1.toInt ∧ a1.toInt ≤ 5
    · by_cases e : 1 ≤ a2.toInt ∧ a2.toInt ≤ 9
      · have hx := ix6 c d
        have gx : inB (6 * a0 + a1) 24 := ⟨by omega, by omega⟩
        refine ⟨zI s 42 (6 * a0 + a1).toInt.toNat, pI s 42 (6 * a0 + a1).toInt.toNat a2, zI s 113 (6 * a0 + a1).toInt.toNat, pI (pI s 42 (6 * a0 + a1).toInt.toNat a2) 113 (6 * a0 + a1).toInt.toNat a2, ?_, ?_, ⟨?_, ?_⟩, (FrB.rf.pI (by decide)).pI (by decide), G.2.2.1.1 _⟩
        · unfold f_X11_rock
          rw [if_neg (by rw [jlt, jl0]; omega), if_pos (by rw [jlt, jl4]; omega), if_neg (by rw [jlt, jl0]; omega), if_pos (by rw [jlt, jl6]; omega), if_neg (by rw [jlt, jl1]; omega), if_neg (by rw [jlt, jl9]; omega), Int32.mul_comm a0 6]
          show gd _ _ = _
          rw [gd_t gx]
          show gd _ _ = _
          rw [gd_t gx]
          rfl
        · unfold f_X12_rock
          rw [in_t (by rw [jl0, jl3]; omega), b1_some, if_neg (by decide), in_t (by rw [jl0, jl5]; omega), b1_some, if_neg (by decide), in_t (by rw [jl1, jl9]; omega), b1_some, if_neg (by decide)]
          show gd _ _ = _
          rw [gd_t gx]
          show gd _ _ = _
          rw [gd_t gx]
          rfl
        · exact (G.1.wI (q := 42) (by decide) trivial).wI (q := 113) (by decide) trivial
        · obtain ⟨R1, R2, R3, R4, R5⟩ := G.2
          refine ⟨R1, ⟨fun i => ?_, R2.2.1, R2.2.2⟩, (R3.pI (by decide)).pI (by decide), (R4.pI (by decide)).pI (by decide), (R5.pI (by decide)).pI (by decide)⟩
          rw [zI_pI, if_neg (by omega), zI_pI, zI_pI]
          by_cases h : i = (6 * a0 + a1).toInt.toNat
          · rw [if_pos ⟨rfl, h⟩, if_pos ⟨rfl, h⟩]
          · rw [if_neg (by omega), if_neg (by omega), zI_pI, if_neg (by omega)]
            exact R2.1 i
      · refine ⟨-1, s, -1, s, ?_, ?_, G, FrB.rf, rfl⟩
        · unfold f_X11_rock
          rw [if_neg (by rw [jlt, jl0]; omega), if_pos (by rw [jlt, jl4]; omega), if_neg (by rw [jlt, jl0]; omega), if_pos (by rw [jlt, jl6]; omega)]
          by_cases h : a2 < 1
          · rw [if_pos h]
          · rw [if_neg h, if_pos (by rw [jlt, jl9]; rw [jlt, jl1] at h; omega)]
        · unfold f_X12_rock
          rw [in_t (by rw [jl0, jl3]; omega), b1_some, if_neg (by decide), in_t (by rw [jl0, jl5]; omega), b1_some, if_neg (by decide), in_f (by rw [jl1, jl9]; omega), b1_some, if_pos rfl]
    · refine ⟨-1, s, -1, s, ?_, ?_, G, FrB.rf, rfl⟩
      · unfold f_X11_rock
        rw [if_neg (by rw [jlt, jl0]; omega), if_pos (by rw [jlt, jl4]; omega)]
        by_cases h : a1 < 0
        · rw [if_pos h]
        · rw [if_neg h, if_neg (by rw [jlt, jl6]; rw [jlt, jl0] at h; omega)]
      · unfold f_X12_rock
        rw [in_t (by rw [jl0, jl3]; omega), b1_some, if_neg (by decide), in_f (by rw [jl0, jl5]; omega), b1_some, if_pos rfl]
  · refine ⟨-1, s, -1, s, ?_, ?_, G, FrB.rf, rfl⟩
    · unfold f_X11_rock
      by_cases h : a0 < 0
      · rw [if_pos h]
      · rw [if_neg h, if_neg (by rw [jlt, jl4]; rw [jlt, jl0] at h; omega)]
    · unfold f_X12_rock
      rw [in_f (by rw [jl0, jl3]; omega), b1_some, if_pos rfl]
/-! MACHINES ON HOLES -/
theorem body_t {s : SS} {a : Int32} (I : Iv s) (h : 0 ≤ a.toInt ∧ a.toInt < (zS s 59 4).toInt) : f_X12_isBody s a = some 1 := by
  have hf : 0 ≤ (zS s 59 4).toInt ∧ (zS s 59 4).toInt ≤ 120 := I.f (q := 59) (k := 4) rfl
  unfold f_X12_isBody
  rw [in_t (by rw [jl0, i32_sub (by rw [jl1]; omega) (by rw [jl1]; omega), jl1]; omega)]
  rfl
theorem body_f {s : SS} {a : Int32} (I : Iv s) (h : ¬ (0 ≤ a.toInt ∧ a.toInt < (zS s 59 4).toInt)) : f_X12_isBody s a = some 0 := by
  have hf : 0 ≤ (zS s 59 4).toInt ∧ (zS s 59 4).toInt ≤ 120 := I.f (q := 59) (k := 4) rfl
  unfold f_X12_isBody
  rw [in_f (by rw [jl0, i32_sub (by rw [jl1]; omega) (by rw [jl1]; omega), jl1]; omega)]
  rfl
theorem kind_t {s : SS} {a : Int32} (I : Iv s) (h : 0 ≤ a.toInt ∧ a.toInt < (zS s 15 3).toInt) : f_X0_kindOf s a = some (zI s 16 a.toInt.toNat) := by
  have hf : 0 ≤ (zS s 15 3).toInt ∧ (zS s 15 3).toInt ≤ 120 := I.f (q := 15) (k := 3) rfl
  unfold f_X0_kindOf
  rw [if_neg (by rw [jlt, jl0]; omega), if_pos (by rw [jlt]; omega), gd_t ⟨by omega, by omega⟩]
theorem kind_f {s : SS} {a : Int32} (h : ¬ (0 ≤ a.toInt ∧ a.toInt < (zS s 15 3).toInt)) : f_X0_kindOf s a = some (-1) := by
  unfold f_X0_kindOf
  by_cases c : a < 0
  · rw [if_pos c]
  · rw [if_neg c, if_neg (by rw [jlt]; rw [jlt, jl0] at c; omega)]
def HB (s : SS) (a : Int32) : Prop := (0 ≤ a.toInt ∧ a.toInt < (zS s 15 3).toInt) ∧ isH (zI s 16 a.toInt.toNat)
theorem under2_t {v : Int32} (h : isH v) : f_X12_isUnder v 2 = some 1 := by
  rcases h with rfl | rfl | rfl | rfl <;> decide
theorem under2_f {v : Int32} (h : ¬ isH v) : f_X12_isUnder v 2 = some 0 := by
  unfold f_X12_isUnder
  have h2 : ¬ v = 2 := fun z => h (Or.inl z)
  have h3 : ¬ v = 3 := fun z => h (Or.inr (Or.inl z))
  have h4 : ¬ v = 4 := fun z => h (Or.inr (Or.inr (Or.inl z)))
  have h5 : ¬ v = 5 := fun z => h (Or.inr (Or.inr (Or.inr z)))
  rw [if_neg (by decide), if_neg h2, if_neg (by decide), if_pos rfl, if_neg h3, if_neg h4, if_neg h5]
theorem hole_t {s : SS} {a : Int32} (G : GA s) (h : HB s a) : (∃ p, f_X0_holeOf s a = some (some p)) ∧ f_X12_isHole s a = some 1 := by
  have hf : 0 ≤ (zS s 15 3).toInt ∧ (zS s 15 3).toInt ≤ 120 := G.1.f (q := 15) (k := 3) rfl
  obtain ⟨h1, h2⟩ := h
  have e := G.2.1.2.2.1
  refine ⟨?_, ?_⟩
  · unfold f_X0_holeOf
    rw [if_neg (by rw [jlt, jl0]; omega), if_pos (by rw [jlt]; omega), gd_t ⟨by omega, by omega⟩]
    cases hz : zR s 17 a.toInt.toNat with
    | none => exact absurd ⟨by omega, h2⟩ ((G.2.2.2.2.1 _ (by omega)).1 hz)
    | some p => exact ⟨p, rfl⟩
  · unfold f_X12_isHole
    rw [body_t G.1 (by rw [← e]; exact h1), b1_some, if_neg (by decide), gd_t ⟨by omega, by omega⟩, under2_t (by rw [← G.2.2.1.2.1]; exact h2), b1_some, if_neg (by decide)]
theorem hole_f {s : SS} {a : Int32} (G : GA s) (h : ¬ HB s a) : f_X0_holeOf s a = some none ∧ f_X12_isHole s a = some 0 := by
  have hf : 0 ≤ (zS s 15 3).toInt ∧ (zS s 15 3).toInt ≤ 120 := G.1.f (q := 15) (k := 3) rfl
  have e := G.2.1.2.2.1
  by_cases c : 0 ≤ a.toInt ∧ a.toInt < (zS s 15 3).toInt
  · have h2 : ¬ isH (zI s 16 a.toInt.toNat) := fun z => h ⟨c, z⟩
    refine ⟨?_, ?_⟩
    · unfold f_X0_holeOf
      rw [if_neg (by rw [jlt, jl0]; omega), if_pos (by rw [jlt]; omega), gd_t ⟨by omega, by omega⟩, (G.2.2.2.2.1 _ (by omega)).2 (fun z => h2 z.2)]
      rfl
    · unfold f_X12_isHole
      rw [body_t G.1 (by rw [← e]; exact c), b1_some, if_neg (by decide), gd_t ⟨by omega, by omega⟩, under2_f (by rw [← G.2.2.1.2.1]; exact h2), b1_some, if_pos rfl]
  · refine ⟨?_, ?_⟩
    · unfold f_X0_holeOf
      by_cases d : a < 0
      · rw [if_pos d]
      · rw [if_neg d, if_neg (by rw [jlt]; rw [jlt, jl0] at d; omega)]
    · unfold f_X12_isHole
      rw [body_f G.1 (by rw [← e]; exact c), b1_some, if_pos rfl]
/-- another machine stands there -/
def Bz (s : SS) (a0 a1 : Int32) (j : Nat) : Prop := ∃ x, j ≤ x ∧ x < 3 ∧ nI x ≠ a0 ∧ a1 ≠ -1 ∧ zS s (20 + x) 1 = a1
theorem Bz.step {s : SS} {a0 a1 : Int32} {j : Nat} (h : ¬ (nI j ≠ a0 ∧ a1 ≠ -1 ∧ zS s (20 + j) 1 = a1)) : Bz s a0 a1 j ↔ Bz s a0 a1 (j + 1) := by
  constructor
  · rintro ⟨x, h1, h2, h3⟩
    by_cases c : x = j
    · rw [c] at h3; exact absurd h3 h
    · exact ⟨x, by omega, h2, h3⟩
  · rintro ⟨x, h1, h2, h3⟩
    exact ⟨x, by omega, h2, h3⟩
theorem setx {s : SS} (I : Iv s) {q0 : Option (Int32 × SS)} {a0 a1 : Int32} {p : Nat} : ∀ (n j : Nat), j ≤ 3 → 3 - j < n → (Bz s a0 a1 j → f_X11_set_L32 q0 s a0 a1 p n (nI j) = some (-2000000000, s)) ∧ (¬ Bz s a0 a1 j → f_X11_set_L32 q0 s a0 a1 p n (nI j) = q0) := by
  intro n
  induction n with
  | zero => intro j h1 h2; omega
  | succ n ih =>
    intro j h1 h2
    have tj : (nI j).toInt = (j : Int) := nI_t (by omega)
    have un : f_X11_set_L32 q0 s a0 a1 p (n + 1) (nI j) = f_X11_set_L32_b q0 s a0 a1 p (f_X11_set_L32 q0 s a0 a1 p n) (nI j) := rfl
    rw [un]
    unfold f_X11_set_L32_b
    by_cases c : j = 3
    · rw [if_neg (by rw [jlt, jl3]; omega)]
      exact ⟨fun ⟨x, h3, h4, _⟩ => by omega, fun _ => rfl⟩
    · rw [if_pos (by rw [jlt, jl3]; omega)]
      have k1 : nI j + 1 = nI (j + 1) := by
        apply Int32.toInt_inj.1
        rw [i32_add (by rw [tj, jl1]; omega) (by rw [tj, jl1]; omega), tj, jl1, nI_t (by omega)]
        omega
      have ihj := ih (j + 1) (by omega) (by omega)
      have sk : ¬ (nI j ≠ a0 ∧ a1 ≠ -1 ∧ zS s (20 + j) 1 = a1) → (Bz s a0 a1 j → f_X11_set_L32 q0 s a0 a1 p n (nI j + 1) = some (-2000000000, s)) ∧ (¬ Bz s a0 a1 j → f_X11_set_L32 q0 s a0 a1 p n (nI j + 1) = q0) := fun h => by
        rw [k1, Bz.step h]
        exact ihj
      dsimp only [jn, vl]
      by_cases d : nI j = a0
      · rw [if_pos d]
        exact sk (fun z => z.1 d)
      rw [if_neg d]
      by_cases e : a1 = -1
      · rw [if_pos e]
        exact sk (fun z => z.2.1 e)
      rw [if_neg e, gd_t ⟨by omega, by omega⟩, show (nI j).toInt.toNat = j by omega, I.1.1.2.2.2.1 j (by omega), on_some]
      by_cases f : zS s (20 + j) 1 = a1
      · rw [if_pos f]
        exact ⟨fun _ => rfl, fun z => absurd ⟨j, Nat.le_refl _, by omega, d, e, f⟩ z⟩
      · rw [if_neg f]
        exact sk (fun z => f z.2.2)
theorem setm {s t : SS} (R : ∀ j, j < 3 → zI t 79 j = zS s (20 + j) 1) {q0 : Option (Int32 × SS)} {a0 a1 : Int32} (ha : a1 = -1 ∨ 0 ≤ a1.toInt) : ∀ (n j : Nat), j ≤ 3 → 3 - j < n → (Bz s a0 a1 j → f_X12_set_L26 q0 t a0 a1 n (nI j) = some (-2000000000, t)) ∧ (¬ Bz s a0 a1 j → f_X12_set_L26 q0 t a0 a1 n (nI j) = q0) := by
  intro n
  induction n with
  | zero => intro j h1 h2; omega
  | succ n ih =>
    intro j h1 h2
    have tj : (nI j).toInt = (j : Int) := nI_t (by omega)
    have un : f_X12_set_L26 q0 t a0 a1 (n + 1) (nI j) = f_X12_set_L26_b q0 t a0 a1 (f_X12_set_L26 q0 t a0 a1 n) (nI j) := rfl
    rw [un]
    unfold f_X12_set_L26_b
    by_cases c : j = 3
    · rw [if_neg (by rw [jlt, jl3]; omega)]
      exact ⟨fun ⟨x, h3, h4, _⟩ => by omega, fun _ => rfl⟩
    · rw [if_pos (by rw [jlt, jl3]; omega)]
      have k1 : nI j + 1 = nI (j + 1) := by
        apply Int32.toInt_inj.1
        rw [i32_add (by rw [tj, jl1]; omega) (by rw [tj, jl1]; omega), tj, jl1, nI_t (by omega)]
        omega
      have ihj := ih (j + 1) (by omega) (by omega)
      have sk : ¬ (nI j ≠ a0 ∧ a1 ≠ -1 ∧ zS s (20 + j) 1 = a1) → (Bz s a0 a1 j → f_X12_set_L26 q0 t a0 a1 n (nI j + 1) = some (-2000000000, t)) ∧ (¬ Bz s a0 a1 j → f_X12_set_L26 q0 t a0 a1 n (nI j + 1) = q0) := fun h => by
        rw [k1, Bz.step h]
        exact ihj
      dsimp only [jn, vl]
      by_cases d : nI j = a0
      · rw [if_pos d]
        exact sk (fun z => z.1 d)
      rw [if_neg d]
      by_cases e : a1 < 0
      · rw [if_pos e]
        refine sk (fun z => z.2.1 ?_)
        rw [jlt, jl0] at e
        exact ha.resolve_right (by omega)
      have e' : a1 ≠ -1 := fun z => e (by rw [z]; decide)
      rw [if_neg e, gd_t ⟨by omega, by omega⟩, show (nI j).toInt.toNat = j by omega, R j (by omega)]
      by_cases f : zS s (20 + j) 1 = a1
      · rw [if_pos f]
        exact ⟨fun _ => rfl, fun z => absurd ⟨j, Nat.le_refl _, by omega, d, e', f⟩ z⟩
      · rw [if_neg f]
        exact sk (fun z => f z.2.2)
theorem sa_set {s : SS} (G : GA s) (a0 : Int32) (a1 : Int32) : ∃ (rx : Int32) (s1 : SS) (rm : Int32) (s2 : SS), f_X11_set s a0 a1 = some (rx, s1) ∧ f_X12_set s1 a0 a1 = some (rm, s2) ∧ GA s2 ∧ FrB s s2 ∧ rx = rm := by
  by_cases c : 0 ≤ a0.toInt ∧ a0.toInt < 3
  · by_cases d : a1 = -1 ∨ HB s a1
    · have hf : 0 ≤ (zS s 15 3).toInt ∧ (zS s 15 3).toInt ≤ 120 := G.1.f (q := 15) (k := 3) rfl
      have hr : -1 ≤ a1.toInt ∧ a1.toInt ≤ 119 := by
        rcases d with d | d
        · rw [d]; decide
        · have := d.1; omega
      have ha : a1 = -1 ∨ 0 ≤ a1.toInt := d.imp id (fun z => z.1.1)
      have ex : f_X11_set s a0 a1 = f_X11_set_L32 (some (zS s (20 + a0.toInt.toNat) 1, pS s (20 + a0.toInt.toNat) 1 a1)) s a0 a1 (20 + a0.toInt.toNat) 4000 (nI 0) := by
        unfold f_X11_set
        rw [mach_t G.1 c, b1_some, on_some]
        dsimp only [jn]
        rcases d with d | d
        · rw [if_pos d]; rfl
        · obtain ⟨p, hp⟩ := (hole_t G d).1
          by_cases e : a1 = -1
          · rw [if_pos e]; rfl
          · rw [if_neg e, hp, b1_some, on_some]; rfl
      have em : ∀ s1, Iv s1 → f_X12_isHole s1 a1 = f_X12_isHole s a1 → f_X12_set s1 a0 a1 = f_X12_set_L26 (some (zI s1 79 a0.toInt.toNat, pI s1 79 a0.toInt.toNat a1)) s1 a0 a1 4000 (nI 0) := by
        intro s1 I1 e1
        unfold f_X12_set
        rw [ismach_t c, b1_some, if_neg (by decide)]
        dsimp only [jn]
        have g : (gd (inB a0 3) (vl (zI s1 79 a0.toInt.toNat) fun v14 => gd (inB a0 3) (st (pI s1 79 a0.toInt.toNat a1) fun s16 => some (v14, s16)))) = some (zI s1 79 a0.toInt.toNat, pI s1 79 a0.toInt.toNat a1) := by
          rw [gd_t ⟨c.1, c.2⟩]
          dsimp only [vl]
          rw [gd_t ⟨c.1, c.2⟩]
          rfl
        rw [g]
        rcases d with d | d
        · rw [if_pos d]; rfl
        · by_cases e : a1 = -1
          · rw [if_pos e]; rfl
          · rw [if_neg e, e1, (hole_t G d).2, b1_some, if_neg (by decide)]; rfl
      by_cases b : Bz s a0 a1 0
      · refine ⟨-2000000000, s, -2000000000, s, ?_, ?_, G, FrB.rf, rfl⟩
        · rw [ex]; exact (setx G.1 4000 0 (by decide) (by decide)).1 b
        · rw [em s G.1 rfl]; exact (setm (s := s) (fun j hj => (G.2.2.2.1 j hj).2.symm) ha 4000 0 (by decide) (by decide)).1 b
      · have I1 : Iv (pS s (20 + a0.toInt.toNat) 1 a1) := G.1.wM ⟨by omega, by omega⟩
        have R3 := G.2.2.2.1
        have e : ∀ q k, ¬ (q = 20 + a0.toInt.toNat ∧ k = 1) → zS (pS s (20 + a0.toInt.toNat) 1 a1) q k = zS s q k := fun q k h => by rw [zS_pS, if_neg h]
        have e1 : f_X12_isHole (pS s (20 + a0.toInt.toNat) 1 a1) a1 = f_X12_isHole s a1 := by
          unfold f_X12_isHole f_X12_isBody
          rw [e 59 4 (by omega)]
          rfl
        refine ⟨zS s (20 + a0.toInt.toNat) 1, pS s (20 + a0.toInt.toNat) 1 a1, zI s 79 a0.toInt.toNat, pI (pS s (20 + a0.toInt.toNat) 1 a1) 79 a0.toInt.toNat a1, ?_, ?_, ⟨?_, ?_⟩, (FrB.rf.pS (fSB_d (by omega))).pI (by decide), (R3 _ (by omega)).2⟩
        · rw [ex]; exact (setx G.1 4000 0 (by decide) (by decide)).2 b
        · rw [em _ I1 e1]
          have hk := (setm (s := s) (t := pS s (20 + a0.toInt.toNat) 1 a1) (q0 := some (zI (pS s (20 + a0.toInt.toNat) 1 a1) 79 a0.toInt.toNat, pI (pS s (20 + a0.toInt.toNat) 1 a1) 79 a0.toInt.toNat a1)) (a0 := a0) (a1 := a1) (fun j hj => (R3 j hj).2.symm) ha 4000 0 (by decide) (by decide)).2 b
          rw [hk]
          rfl
        · exact I1.wI (q := 79) (by decide) ⟨hr.1, hr.2⟩
        · obtain ⟨R1, R2, _, R4, R5⟩ := G.2
          have e' : ∀ q k, ¬ (q = 20 + a0.toInt.toNat ∧ k = 1) → zS (pI (pS s (20 + a0.toInt.toNat) 1 a1) 79 a0.toInt.toNat a1) q k = zS s q k := fun q k h => by rw [zS_pI, zS_pS, if_neg h]
          have f : ∀ q j, q ≠ 79 → zI (pI (pS s (20 + a0.toInt.toNat) 1 a1) 79 a0.toInt.toNat a1) q j = zI s q j := fun q j h => by rw [zI_pI, if_neg (fun z => h z.1), zI_pS]
          refine ⟨R1.c (fun k => e' _ _ (by omega)) (fun k => e' _ _ (by omega)) (fun k => e' _ _ (by omega)) (fun k => e' _ _ (by omega)), R2.c (fun q i h => f q i (by omega)), fun i hi => ?_, R4.c (e' _ _ (by omega)) (fun i => f _ _ (by decide)) (fun _ => rfl), R5.c (fun i k hi hk => e' _ _ (by omega)) (fun q j h => f q j (by omega)) (fun _ _ => rfl) (by rw [e' _ _ (by omega)]; exact Int.le_refl _)⟩
          rw [e' _ 0 (by omega), f 78 _ (by decide)]
          refine ⟨(R3 i hi).1, ?_⟩
          rw [zS_pI, zS_pS, zI_pI, zI_pS]
          by_cases h : i = a0.toInt.toNat
          · rw [if_pos ⟨by omega, rfl⟩, if_pos ⟨rfl, h⟩]
          · rw [if_neg (by omega), if_neg (by omega)]
            exact (R3 i hi).2
    · have d1 : ¬ a1 = -1 := fun z => d (Or.inl z)
      have d2 := hole_f G (fun z => d (Or.inr z))
      refine ⟨-2000000000, s, -2000000000, s, ?_, ?_, G, FrB.rf, rfl⟩
      · unfold f_X11_set
        rw [mach_t G.1 c, b1_some, on_some]
        dsimp only [jn]
        rw [if_neg d1, d2.1, b1_some, on_none]
      · unfold f_X12_set
        rw [ismach_t c, b1_some, if_neg (by decide)]
        dsimp only [jn]
        rw [if_neg d1, d2.2, b1_some, if_pos rfl]
  · refine ⟨-2000000000, s, -2000000000, s, ?_, ?_, G, FrB.rf, rfl⟩
    · unfold f_X11_set
      rw [mach_f c, b1_some, on_none]
    · unfold f_X12_set
      rw [ismach_f c, b1_some, if_pos rfl]
/-! BODIES -/
theorem RG.add {s r : SS} {v : Int32} (G : GA s) (hn : (zS s 15 3).toInt < 120)
    (hS : ∀ q k, fSA q k = true → ¬ (q = 15 ∧ k = 3) → ¬ (q = 59 ∧ k = 4) → ¬ (q = 15 ∧ k = 5) → ¬ (q = 59 ∧ k = 21) → zS r q k = zS s q k)
    (h3 : zS r 15 3 = zS s 15 3 + 1) (h4 : zS r 59 4 = zS s 59 4 + 1) (h5 : zS r 15 5 = zS r 59 21)
    (hI : ∀ q j, fIA q = true → q ≠ 16 → q ≠ 62 → q ≠ 9 → q ≠ 76 → zI r q j = zI s q j)
    (h16 : ∀ j, zI r 16 j = if j = (zS s 15 3).toInt.toNat then v else zI s 16 j) (h62 : ∀ j, zI r 62 j = if j = (zS s 15 3).toInt.toNat then v else zI s 62 j) (h9 : ∀ j, zI r 9 j = zI r 76 j)
    (hJ : ∀ q j, fJ q = true → zJ r q j = zJ s q j) (hR : ∀ j, j ≠ (zS s 15 3).toInt.toNat → zR r 17 j = zR s 17 j) (hc : zR r 17 (zS s 15 3).toInt.toNat = none ↔ ¬ isH v) : RG r := by
  have hf : 0 ≤ (zS s 15 3).toInt ∧ (zS s 15 3).toInt ≤ 120 := G.1.f (q := 15) (k := 3) rfl
  have n1 : (zS s 15 3 + 1).toInt = (zS s 15 3).toInt + 1 := by rw [i32_add (by rw [jl1]; omega) (by rw [jl1]; omega), jl1]
  obtain ⟨_, R1, R2, R3, R4, R5⟩ := G
  refine ⟨?_, ⟨fun i => ?_, fun i => ?_, h9⟩, ?_, fun i hi => ?_, fun i hi => ?_⟩
  · unfold RC
    rw [hS 0 15 rfl (by decide) (by decide) (by decide) (by decide), hS 0 5 rfl (by decide) (by decide) (by decide) (by decide), h3, h4, hS 34 3 rfl (by decide) (by decide) (by decide) (by decide), hS 34 9 rfl (by decide) (by decide) (by decide) (by decide), hS 59 29 rfl (by decide) (by decide) (by decide) (by decide), hS 59 30 rfl (by decide) (by decide) (by decide) (by decide), hS 59 67 rfl (by decide) (by decide) (by decide) (by decide), hS 59 76 rfl (by decide) (by decide) (by decide) (by decide)]
    exact ⟨R1.1, R1.2.1, by rw [R1.2.2.1], h5, R1.2.2.2.2⟩
  · rw [hI 42 i rfl (by decide) (by decide) (by decide) (by decide), hI 113 i rfl (by decide) (by decide) (by decide) (by decide)]
    exact R2.1 i
  · rw [h16, h62]
    by_cases c : i = (zS s 15 3).toInt.toNat
    · rw [if_pos c, if_pos c]
    · rw [if_neg c, if_neg c]; exact R2.2.1 i
  · refine R3.c (fun i k hi hk => hS _ _ ?_ (by omega) (by omega) (by omega) (by omega)) (fun i => hI 78 i rfl (by decide) (by decide) (by decide) (by decide)) (fun i => hI 79 i rfl (by decide) (by decide) (by decide) (by decide))
    have h : i = 0 ∨ i = 1 ∨ i = 2 := by omega
    have h' : k = 0 ∨ k = 1 := by omega
    rcases h with rfl | rfl | rfl <;> rcases h' with rfl | rfl <;> rfl
  · rw [h3, n1, h16]
    by_cases c : i = (zS s 15 3).toInt.toNat
    · rw [if_pos c, c, hc]
      constructor
      · intro h z; exact h z.2
      · intro h z; exact h ⟨by omega, z⟩
    · rw [if_neg c, hR i c, R4 i hi]
      constructor
      · intro h z; exact h ⟨by omega, z.2⟩
      · intro h z; exact h ⟨by omega, z.2⟩
  · have h : i = 0 ∨ i = 1 ∨ i = 2 ∨ i = 3 ∨ i = 4 ∨ i = 5 := by omega
    refine (R5 i hi).c (fun k hk => hS _ _ ?_ (by omega) (by omega) (by omega) (by omega)) (hI 120 i rfl (by decide) (by decide) (by decide) (by decide)) (hI 121 i rfl (by decide) (by decide) (by decide) (by decide)) (fun j _ => hI 123 _ rfl (by decide) (by decide) (by decide) (by decide)) (fun j _ => hJ _ _ ?_) (fun j _ => hJ 122 _ rfl) (by rw [h3, n1]; omega)
    · have h' : k = 0 ∨ k = 1 ∨ k = 2 ∨ k = 3 := by omega
      rcases h with rfl | rfl | rfl | rfl | rfl | rfl <;> rcases h' with rfl | rfl | rfl | rfl <;> rfl
    · rcases h with rfl | rfl | rfl | rfl | rfl | rfl <;> rfl
def adX (s : SS) (v : Int32) : SS := pS (pI s 16 (zS s 15 3).toInt.toNat v) 15 3 (zS s 15 3 + 1)
def adM (s : SS) (v : Int32) : SS := pS (pI s 62 (zS s 59 4).toInt.toNat v) 59 4 (zS s 59 4 + 1)
theorem s11 (x : Int32) : x + 1 - 1 = x := Int32.add_sub_cancel x 1
theorem added_t {s : SS} {v : Int32} (I : Iv s) (h : (zS s 15 3).toInt < 120) : f_X0_added s v = some (zS s 15 3, adX s v) := by
  have hf : 0 ≤ (zS s 15 3).toInt ∧ (zS s 15 3).toInt ≤ 120 := I.f (q := 15) (k := 3) rfl
  unfold f_X0_added
  rw [if_pos (by rw [jlt, jl120]; omega)]
  dsimp only [vl, st]
  rw [gd_t ⟨by omega, by omega⟩]
  show some (zS s 15 3 + 1 - 1, adX s v) = _
  rw [s11]
theorem added_f {s : SS} {v : Int32} (h : ¬ (zS s 15 3).toInt < 120) : f_X0_added s v = some (-3, s) := by
  unfold f_X0_added
  rw [if_neg (by rw [jlt, jl120]; exact h)]
theorem add_t {s : SS} {v : Int32} (h : 0 ≤ (zS s 59 4).toInt ∧ (zS s 59 4).toInt < 120) : f_X12_add s v = some (zS s 59 4, adM s v) := by
  unfold f_X12_add
  dsimp only [vl, st]
  rw [gd_t ⟨by omega, by omega⟩]
  show some (zS s 59 4 + 1 - 1, adM s v) = _
  rw [s11]
theorem Iv.adX {s : SS} {v : Int32} (I : Iv s) (h : (zS s 15 3).toInt < 120) (hv : 0 ≤ v.toInt ∧ v.toInt ≤ 7) : Iv (adX s v) := by
  have hf : 0 ≤ (zS s 15 3).toInt ∧ (zS s 15 3).toInt ≤ 120 := I.f (q := 15) (k := 3) rfl
  have n1 : (zS s 15 3 + 1).toInt = (zS s 15 3).toInt + 1 := by rw [i32_add (by rw [jl1]; omega) (by rw [jl1]; omega), jl1]
  exact (I.wI (q := 16) (by decide) hv).wF (q := 15) (k := 3) (by decide) (by decide) ⟨by omega, by omega⟩
theorem Iv.adM {s : SS} {v : Int32} (I : Iv s) (h : (zS s 59 4).toInt < 120) : Iv (adM s v) := by
  have hf : 0 ≤ (zS s 59 4).toInt ∧ (zS s 59 4).toInt ≤ 120 := I.f (q := 59) (k := 4) rfl
  have n1 : (zS s 59 4 + 1).toInt = (zS s 59 4).toInt + 1 := by rw [i32_add (by rw [jl1]; omega) (by rw [jl1]; omega), jl1]
  exact (I.wI (q := 62) (by decide) trivial).wF (q := 59) (k := 4) (by decide) (by decide) ⟨by omega, by omega⟩
theorem ne120 {s : SS} (G : GA s) (h : (zS s 15 3).toInt < 120) : ¬ zS s 59 4 = 120 := fun z => by
  rw [G.2.1.2.2.1, z, jl120] at h
  omega
theorem eq120 {s : SS} (G : GA s) (h : ¬ (zS s 15 3).toInt < 120) : zS s 59 4 = 120 := by
  have hf : 0 ≤ (zS s 15 3).toInt ∧ (zS s 15 3).toInt ≤ 120 := G.1.f (q := 15) (k := 3) rfl
  apply Int32.toInt_inj.1
  rw [← G.2.1.2.2.1, jl120]
  omega
theorem FrB.adX {b s : SS} {v : Int32} (F : FrB b s) : FrB b (adX s v) := (F.pI (by decide)).pS (by decide)
theorem FrB.adM {b s : SS} {v : Int32} (F : FrB b s) : FrB b (adM s v) := (F.pI (by decide)).pS (by decide)
section BD
variable {s : SS} {v : Int32}
theorem adX_S (q k : Nat) (h : ¬ (q = 15 ∧ k = 3)) : zS (adX s v) q k = zS s q k := by
  unfold adX
  rw [zS_pS, if_neg h, zS_pI]
theorem adM_S (q k : Nat) (h : ¬ (q = 59 ∧ k = 4)) : zS (adM s v) q k = zS s q k := by
  unfold adM
  rw [zS_pS, if_neg h, zS_pI]
theorem adX_3 : zS (adX s v) 15 3 = zS s 15 3 + 1 := rfl
theorem adM_4 : zS (adM s v) 59 4 = zS s 59 4 + 1 := rfl
theorem adX_I (q j : Nat) : zI (adX s v) q j = if q = 16 ∧ j = (zS s 15 3).toInt.toNat then v else zI s q j := rfl
theorem adM_I (q j : Nat) : zI (adM s v) q j = if q = 62 ∧ j = (zS s 59 4).toInt.toNat then v else zI s q j := rfl
end BD
theorem sa_body {s : SS} (G : GA s) (a0 : Int32) : ∃ (rx : Int32) (s1 : SS) (rm : Int32) (s2 : SS), f_X11_body s a0 = some (rx, s1) ∧ f_X12_body s1 a0 = some (rm, s2) ∧ GA s2 ∧ FrB s s2 ∧ rx = rm := by
  by_cases c : 0 ≤ a0.toInt ∧ a0.toInt ≤ 1
  · have hx : f_X11_body s a0 = bd (f_X0_added s a0) fun r2 s2 => some (r2, s2) := by
      unfold f_X11_body
      dsimp only [jn]
      by_cases h : a0 = 0
      · rw [if_pos h]
      · rw [if_neg h, if_pos (Int32.toInt_inj.1 (by rw [jl1]; rw [jeq, jl0] at h; omega))]
    by_cases d : (zS s 15 3).toInt < 120
    · have e4 : zS (adX s a0) 59 4 = zS s 15 3 := by rw [adX_S _ _ (by decide)]; exact G.2.1.2.2.1.symm
      have hf : 0 ≤ (zS s 15 3).toInt ∧ (zS s 15 3).toInt ≤ 120 := G.1.f (q := 15) (k := 3) rfl
      refine ⟨zS s 15 3, adX s a0, zS (adX s a0) 59 4, adM (adX s a0) a0, ?_, ?_, ⟨?_, ?_⟩, FrB.rf.adX.adM, e4.symm⟩
      · rw [hx, added_t G.1 d]; rfl
      · unfold f_X12_body
        rw [in_t (by rw [jl0, jl1]; omega), b1_some, if_neg (by decide), if_neg (by rw [adX_S _ _ (by decide)]; exact ne120 G d), add_t (by rw [e4]; omega)]
        rfl
      · exact (G.1.adX d (by omega)).adM (by rw [e4]; exact d)
      · refine RG.add G d (v := a0) (fun q k _ h1 h2 _ _ => ?_) ?_ ?_ ?_ (fun q j _ h1 h2 _ _ => ?_) (fun j => ?_) (fun j => ?_) (fun j => ?_) (fun _ _ _ => rfl) (fun _ _ => rfl) ?_
        · rw [adM_S _ _ h2, adX_S _ _ h1]
        · rw [adM_S _ _ (by decide)]; rfl
        · rw [adM_4, adX_S _ _ (by decide)]
        · rw [adM_S _ _ (by decide), adM_S _ _ (by decide), adX_S _ _ (by decide), adX_S _ _ (by decide)]; exact G.2.1.2.2.2.1
        · rw [adM_I, if_neg (by omega), adX_I, if_neg (by omega)]
        · rw [adM_I, if_neg (by omega), adX_I]
          by_cases h : j = (zS s 15 3).toInt.toNat
          · rw [if_pos ⟨rfl, h⟩, if_pos h]
          · rw [if_neg (by omega), if_neg h]
        · rw [adM_I, e4, adX_I]
          by_cases h : j = (zS s 15 3).toInt.toNat
          · rw [if_pos ⟨rfl, h⟩, if_pos h]
          · rw [if_neg (by omega), if_neg (by omega), if_neg h]
        · rw [adM_I, if_neg (by omega), adX_I, if_neg (by omega), adM_I, if_neg (by omega), adX_I, if_neg (by omega)]; exact G.2.2.1.2.2 j
        · have hz : zR (adM (adX s a0) a0) 17 (zS s 15 3).toInt.toNat = none := (G.2.2.2.2.1 _ (by omega)).2 (fun z => by have := z.1; omega)
          rw [hz]
          refine ⟨fun _ z => ?_, fun _ => rfl⟩
          rcases z with z | z | z | z <;> rw [z] at c <;> exact absurd c.2 (by decide)
    · refine ⟨-3, s, -3, s, ?_, ?_, G, FrB.rf, rfl⟩
      · rw [hx, added_f d]; rfl
      · unfold f_X12_body
        rw [in_t (by rw [jl0, jl1]; omega), b1_some, if_neg (by decide), if_pos (eq120 G d)]
  · refine ⟨-1, s, -1, s, ?_, ?_, G, FrB.rf, rfl⟩
    · unfold f_X11_body
      dsimp only [jn]
      rw [if_neg (fun z => c (by rw [z]; decide)), if_neg (fun z => c (by rw [z]; decide))]
    · unfold f_X12_body
      rw [in_f (by rw [jl0, jl1]; omega), b1_some, if_pos rfl]
/-! THE SHELTER, MEN, HOLES, ILLNESS -/
section ZF
variable {s : SS} {q k q0 k0 j i : Nat} {v : Int32}
theorem zSf (h : fSA q k = true) (h0 : fSA q0 k0 = false) : zS (pS s q0 k0 v) q k = zS s q k := by
  rw [zS_pS, if_neg (fun z => by rw [z.1, z.2, h0] at h; cases h)]
theorem zIf (h : fIA q = true) (h0 : fIA q0 = false) : zI (pI s q0 i v) q j = zI s q j := by
  rw [zI_pI, if_neg (fun z => by rw [z.1, h0] at h; cases h)]
theorem ad16 {s : SS} (j : Nat) (e4 : zS (adX s v) 59 4 = zS s 15 3) : zI (adM (adX s v) v) 16 j = if j = (zS s 15 3).toInt.toNat then v else zI s 16 j := by
  rw [adM_I, if_neg (by omega), adX_I]
  by_cases h : j = (zS s 15 3).toInt.toNat
  · rw [if_pos ⟨rfl, h⟩, if_pos h]
  · rw [if_neg (by omega), if_neg h]
theorem fr4 {s : SS} {v : Int32} (G : GA s) : zS (adX s v) 59 4 = zS s 15 3 := by
  rw [adX_S _ _ (by decide)]
  exact G.2.1.2.2.1.symm
theorem frn {s : SS} (G : GA s) (h : (zS s 15 3).toInt < 120) : zR s 17 (zS s 15 3).toInt.toNat = none := by
  have hf : 0 ≤ (zS s 15 3).toInt ∧ (zS s 15 3).toInt ≤ 120 := G.1.f (q := 15) (k := 3) rfl
  exact (G.2.2.2.2.1 _ (by omega)).2 (fun z => by have := z.1; omega)
end ZF
theorem nH {v : Int32} (h : v = 6 ∨ v = 7) : ¬ isH v := by
  rcases h with rfl | rfl <;> (intro z; rcases z with z | z | z | z <;> exact absurd z (by decide))
theorem yard_t {a : Int32} (h : 1 ≤ a.toInt ∧ a.toInt ≤ 60) : f_X11_isYard a = some 1 := by
  unfold f_X11_isYard
  rw [if_neg (by rw [jlt, jl1]; omega), if_neg (by rw [jlt, jl60]; omega)]
theorem yard_f {a : Int32} (h : ¬ (1 ≤ a.toInt ∧ a.toInt ≤ 60)) : f_X11_isYard a = some 0 := by
  unfold f_X11_isYard
  by_cases c : a < 1
  · rw [if_pos c]
  · rw [if_neg c, if_pos (by rw [jlt, jl60]; rw [jlt, jl1] at c; omega)]
theorem span_01 (a : Int32) : f_X12_isSpan a = some 0 ∨ f_X12_isSpan a = some 1 := by
  unfold f_X12_isSpan
  split
  · exact Or.inl rfl
  · split
    · exact Or.inl rfl
    · split
      · exact Or.inr rfl
      · exact Or.inl rfl
theorem span_e (a : Int32) : f_X11_isSpan a = f_X12_isSpan a := rfl
theorem shelterM {t : SS} {a0 a1 : Int32} (hs : f_X12_isSpan a0 = some 1) (c : 1 ≤ a1.toInt ∧ a1.toInt ≤ 60) (h1 : zS t 59 21 < 0) (h2 : ¬ zS t 59 4 = 120) (h3 : 0 ≤ (zS t 59 4).toInt ∧ (zS t 59 4).toInt < 120) : f_X12_shelter t a0 a1 = some (zS t 59 4, pS (pS (pS (pS (adM t 6) 59 21 (zS t 59 4)) 59 22 (a0 / 100)) 59 23 (a0 % 100)) 59 24 a1) := by
  unfold f_X12_shelter
  rw [hs, b1_some, if_neg (by decide), in_t (by rw [jl1, jl60]; omega), b1_some, if_neg (by decide), if_pos h1, if_neg h2, add_t h3]
  rfl
theorem manM {t : SS} {a0 a1 : Int32} {n : Nat} (c : 0 ≤ a0.toInt ∧ a0.toInt ≤ 999) (b : 0 ≤ a1.toInt ∧ a1.toInt ≤ 99) (h2 : ¬ zS t 59 4 = 120) (h3 : 0 ≤ (zS t 59 4).toInt ∧ (zS t 59 4).toInt < 120) (en : n = (zS t 59 4).toInt.toNat) : f_X12_man t a0 a1 = some (zS t 59 4, pI (pI (pI (pI (adM t 7) 74 n a0) 75 n (a1 / 10)) 76 n (a1 % 10)) 77 n ((1 : Int32) &&& 1)) := by
  have gn : inB (zS t 59 4) 120 := ⟨by omega, by omega⟩
  unfold f_X12_man
  rw [in_t (by rw [jl0, jl999]; omega), b1_some, if_neg (by decide), in_t (by rw [jl0, jl99]; omega), b1_some, if_neg (by decide), if_neg h2, add_t h3, bd_some]
  dsimp only [st, vl]
  rw [gd_t gn, gd_t gn, gd_t gn, gd_t gn, ← en]
theorem sa_shelter {s : SS} (G : GA s) (a0 : Int32) (a1 : Int32) : ∃ (rx : Int32) (s1 : SS) (rm : Int32) (s2 : SS), f_X11_shelter s a0 a1 = some (rx, s1) ∧ f_X12_shelter s1 a0 a1 = some (rm, s2) ∧ GA s2 ∧ FrB s s2 ∧ rx = rm := by
  rcases span_01 a0 with hs | hs
  · refine ⟨-1, s, -1, s, ?_, ?_, G, FrB.rf, rfl⟩
    · unfold f_X11_shelter
      rw [span_e, hs, b1_some, if_pos rfl]
    · unfold f_X12_shelter
      rw [hs, b1_some, if_pos rfl]
  by_cases c : 1 ≤ a1.toInt ∧ a1.toInt ≤ 60
  · have e5 := G.2.1.2.2.2.1
    by_cases b : zS s 15 5 < 0
    · by_cases d : (zS s 15 3).toInt < 120
      · have hf : 0 ≤ (zS s 15 3).toInt ∧ (zS s 15 3).toInt ≤ 120 := G.1.f (q := 15) (k := 3) rfl
        have e4 : zS (adX s 6) 59 4 = zS s 15 3 := fr4 G
        have IX := G.1.adX d (v := 6) (by decide)
        have I1 : Iv (pS (pS (pS (pS (adX s 6) 15 5 (zS s 15 3)) 15 6 (a0 / 100)) 15 7 (a0 % 100)) 15 8 a1) := (((IX.wF (q := 15) (k := 5) (by decide) (by decide) trivial).wF (q := 15) (k := 6) (by decide) (by decide) trivial).wF (q := 15) (k := 7) (by decide) (by decide) trivial).wF (q := 15) (k := 8) (by decide) (by decide) trivial
        refine ⟨zS s 15 3, pS (pS (pS (pS (adX s 6) 15 5 (zS s 15 3)) 15 6 (a0 / 100)) 15 7 (a0 % 100)) 15 8 a1, zS (adX s 6) 59 4, pS (pS (pS (pS (adM (pS (pS (pS (pS (adX s 6) 15 5 (zS s 15 3)) 15 6 (a0 / 100)) 15 7 (a0 % 100)) 15 8 a1) 6) 59 21 (zS (adX s 6) 59 4)) 59 22 (a0 / 100)) 59 23 (a0 % 100)) 59 24 a1, ?_, ?_, ⟨?_, ?_⟩, (((((((((FrB.rf.adX).pS (by decide)).pS (by decide)).pS (by decide)).pS (by decide)).adM).pS (by decide)).pS (by decide)).pS (by decide)).pS (by decide), e4.symm⟩
        · unfold f_X11_shelter f_X0_addedRefuge
          rw [span_e, hs, b1_some, if_neg (by decide), yard_t c, b1_some, if_neg (by decide), if_pos b, added_t G.1 d, bd_some, if_neg (by rw [jlt, jl0]; omega)]
          rfl
        · exact shelterM hs c (show zS (adX s 6) 59 21 < 0 by rw [adX_S _ _ (by decide), ← e5]; exact b) (show ¬ zS (adX s 6) 59 4 = 120 by rw [adX_S _ _ (by decide)]; exact ne120 G d) (show 0 ≤ (zS (adX s 6) 59 4).toInt ∧ (zS (adX s 6) 59 4).toInt < 120 by rw [e4]; omega)
        · have I2 := I1.adM (v := 6) (show (zS (adX s 6) 59 4).toInt < 120 by rw [e4]; exact d)
          exact (((I2.wF (q := 59) (k := 21) (by decide) (by decide) trivial).wF (q := 59) (k := 22) (by decide) (by decide) trivial).wF (q := 59) (k := 23) (by decide) (by decide) trivial).wF (q := 59) (k := 24) (by decide) (by decide) trivial
        · refine RG.add G d (v := 6) (fun q k h h1 h2 h3 h4 => ?_) ?_ ?_ ?_ (fun q j h h1 h2 h3 h4 => ?_) (fun j => ?_) (fun j => ?_) (fun j => ?_) (fun _ _ _ => rfl) (fun _ _ => rfl) ?_
          · rw [zSf h (by decide), zSf h (by decide), zSf h (by decide), zS_pS, if_neg h4, adM_S _ _ h2, zSf h (by decide), zSf h (by decide), zSf h (by decide), zS_pS, if_neg h3, adX_S _ _ h1]
          · rfl
          · show zS (adX s 6) 59 4 + 1 = _
            rw [adX_S _ _ (by decide)]
          · show zS s 15 3 = zS (adX s 6) 59 4
            rw [e4]
          · show zI (adM (adX s 6) 6) q j = _
            rw [adM_I, if_neg (by omega), adX_I, if_neg (by omega)]
          · exact ad16 j e4
          · show zI (adM (adX s 6) 6) 62 j = _
            rw [adM_I, e4, adX_I]
            by_cases h : j = (zS s 15 3).toInt.toNat
            · rw [if_pos ⟨rfl, h⟩, if_pos h]
            · rw [if_neg (by omega), if_neg (by omega), if_neg h]
          · show zI (adM (adX s 6) 6) 9 j = zI (adM (adX s 6) 6) 76 j
            rw [adM_I, if_neg (by omega), adX_I, if_neg (by omega), adM_I, if_neg (by omega), adX_I, if_neg (by omega)]
            exact G.2.2.1.2.2 j
          · exact ⟨fun _ => nH (Or.inl rfl), fun _ => frn G d⟩
      · refine ⟨-3, s, -3, s, ?_, ?_, G, FrB.rf, rfl⟩
        · unfold f_X11_shelter f_X0_addedRefuge
          rw [span_e, hs, b1_some, if_neg (by decide), yard_t c, b1_some, if_neg (by decide), if_pos b, added_f d, bd_some, if_pos (by decide)]
          rfl
        · unfold f_X12_shelter
          rw [hs, b1_some, if_neg (by decide), in_t (by rw [jl1, jl60]; omega), b1_some, if_neg (by decide), if_pos (by rw [← e5]; exact b), if_pos (eq120 G d)]
    · refine ⟨-2, s, -2, s, ?_, ?_, G, FrB.rf, rfl⟩
      · unfold f_X11_shelter
        rw [span_e, hs, b1_some, if_neg (by decide), yard_t c, b1_some, if_neg (by decide), if_neg b]
      · unfold f_X12_shelter
        rw [hs, b1_some, if_neg (by decide), in_t (by rw [jl1, jl60]; omega), b1_some, if_neg (by decide), if_neg (by rw [← e5]; exact b)]
  · refine ⟨-1, s, -1, s, ?_, ?_, G, FrB.rf, rfl⟩
    · unfold f_X11_shelter
      rw [span_e, hs, b1_some, if_neg (by decide), yard_f c, b1_some, if_pos rfl]
    · unfold f_X12_shelter
      rw [hs, b1_some, if_neg (by decide), in_f (by rw [jl1, jl60]; omega), b1_some, if_pos rfl]
theorem sa_man {s : SS} (G : GA s) (a0 : Int32) (a1 : Int32) : ∃ (rx : Int32) (s1 : SS) (rm : Int32) (s2 : SS), f_X11_man s a0 a1 = some (rx, s1) ∧ f_X12_man s1 a0 a1 = some (rm, s2) ∧ GA s2 ∧ FrB s s2 ∧ rx = rm := by
  by_cases c : 0 ≤ a0.toInt ∧ a0.toInt ≤ 999
  · by_cases b : 0 ≤ a1.toInt ∧ a1.toInt ≤ 99
    · by_cases d : (zS s 15 3).toInt < 120
      · have hf : 0 ≤ (zS s 15 3).toInt ∧ (zS s 15 3).toInt ≤ 120 := G.1.f (q := 15) (k := 3) rfl
        have e4 : zS (adX s 7) 59 4 = zS s 15 3 := fr4 G
        have IX := G.1.adX d (v := 7) (by decide)
        have gn : inB (zS s 15 3) 120 := ⟨by omega, by omega⟩
        obtain ⟨n, en⟩ : ∃ n, n = (zS s 15 3).toInt.toNat := ⟨_, rfl⟩
        have I1 : Iv (pS (pI (pI (pI (pI (adX s 7) 7 n a0) 8 n (a1 / 10)) 9 n (a1 % 10)) 10 n 1) 6 4 (zS (adX s 7) 6 4 + 1)) := ((((IX.wI (q := 7) (by decide) trivial).wI (q := 8) (by decide) trivial).wI (q := 9) (by decide) trivial).wI (q := 10) (by decide) trivial).wF (q := 6) (k := 4) (by decide) (by decide) trivial
        refine ⟨zS s 15 3, pS (pI (pI (pI (pI (adX s 7) 7 n a0) 8 n (a1 / 10)) 9 n (a1 % 10)) 10 n 1) 6 4 (zS (adX s 7) 6 4 + 1), zS (adX s 7) 59 4, pI (pI (pI (pI (adM (pS (pI (pI (pI (pI (adX s 7) 7 n a0) 8 n (a1 / 10)) 9 n (a1 % 10)) 10 n 1) 6 4 (zS (adX s 7) 6 4 + 1)) 7) 74 n a0) 75 n (a1 / 10)) 76 n (a1 % 10)) 77 n ((1 : Int32) &&& 1), ?_, ?_, ⟨?_, ?_⟩, ((((((((((FrB.rf.adX).pI (by decide)).pI (by decide)).pI (by decide)).pI (by decide)).pS (by decide)).adM).pI (by decide)).pI (by decide)).pI (by decide)).pI (by decide), e4.symm⟩
        · unfold f_X11_man f_X2_comes
          rw [if_neg (by rw [jlt, jl0]; omega), if_neg (by rw [jlt, jl999]; omega), if_neg (by rw [jlt, jl0]; omega), if_neg (by rw [jlt, jl99]; omega), added_t G.1 d, bd_some, if_neg (by rw [jlt, jl0]; omega), if_neg (by rw [jlt, jl0]; omega), if_pos (by rw [jlt, jl120]; omega), gd_t gn]
          dsimp only [st, vl]
          rw [gd_t gn, gd_t gn, gd_t gn, ← en]
          rfl
        · exact manM c b (show ¬ zS (adX s 7) 59 4 = 120 by rw [adX_S _ _ (by decide)]; exact ne120 G d) (show 0 ≤ (zS (adX s 7) 59 4).toInt ∧ (zS (adX s 7) 59 4).toInt < 120 by rw [e4]; omega) (show n = (zS (adX s 7) 59 4).toInt.toNat by rw [e4]; exact en)
        · have I2 := I1.adM (v := 7) (show (zS (adX s 7) 59 4).toInt < 120 by rw [e4]; exact d)
          exact (((I2.wI (q := 74) (by decide) trivial).wI (q := 75) (by decide) trivial).wI (q := 76) (by decide) trivial).wI (q := 77) (by decide) trivial
        · have hA : ∀ q j, q ≠ 7 → q ≠ 8 → q ≠ 9 → q ≠ 10 → q ≠ 74 → q ≠ 75 → q ≠ 76 → q ≠ 77 → zI (pI (pI (pI (pI (adM (pS (pI (pI (pI (pI (adX s 7) 7 n a0) 8 n (a1 / 10)) 9 n (a1 % 10)) 10 n 1) 6 4 (zS (adX s 7) 6 4 + 1)) 7) 74 n a0) 75 n (a1 / 10)) 76 n (a1 % 10)) 77 n ((1 : Int32) &&& 1)) q j = zI (adM (adX s 7) 7) q j := by
            intro q j h1 h2 h3 h4 h5 h6 h7 h8
            rw [zI_pI, if_neg (by omega), zI_pI, if_neg (by omega), zI_pI, if_neg (by omega), zI_pI, if_neg (by omega), adM_I, adM_I, zI_pS, zI_pI _ 10, if_neg (show ¬ (q = 10 ∧ j = n) by omega), zI_pI _ 9, if_neg (show ¬ (q = 9 ∧ j = n) by omega), zI_pI _ 8, if_neg (show ¬ (q = 8 ∧ j = n) by omega), zI_pI _ 7, if_neg (show ¬ (q = 7 ∧ j = n) by omega)]
            rfl
          refine RG.add G d (v := 7) (fun q k h h1 h2 h3 h4 => ?_) ?_ ?_ ?_ (fun q j h h1 h2 h3 h4 => ?_) (fun j => ?_) (fun j => ?_) (fun j => ?_) (fun _ _ _ => rfl) (fun _ _ => rfl) ?_
          · rw [zS_pI, zS_pI, zS_pI, zS_pI, adM_S _ _ h2, zSf h (by decide), zS_pI, zS_pI, zS_pI, zS_pI, adX_S _ _ h1]
          · rfl
          · show zS (adX s 7) 59 4 + 1 = _
            rw [adX_S _ _ (by decide)]
          · show zS (adX s 7) 15 5 = zS (adX s 7) 59 21
            rw [adX_S _ _ (by decide), adX_S _ _ (by decide)]
            exact G.2.1.2.2.2.1
          · have hq : q ≠ 7 ∧ q ≠ 8 ∧ q ≠ 10 ∧ q ≠ 74 ∧ q ≠ 75 ∧ q ≠ 77 := by
              refine ⟨?_, ?_, ?_, ?_, ?_, ?_⟩ <;> (intro z; rw [z] at h; exact absurd h (by decide))
            rw [hA q j (by omega) (by omega) h3 (by omega) (by omega) (by omega) h4 (by omega), adM_I, if_neg (by omega), adX_I, if_neg (by omega)]
          · rw [hA 16 j (by decide) (by decide) (by decide) (by decide) (by decide) (by decide) (by decide) (by decide)]
            exact ad16 j e4
          · rw [hA 62 j (by decide) (by decide) (by decide) (by decide) (by decide) (by decide) (by decide) (by decide), adM_I, e4, adX_I]
            by_cases h : j = (zS s 15 3).toInt.toNat
            · rw [if_pos ⟨rfl, h⟩, if_pos h]
            · rw [if_neg (by omega), if_neg (by omega), if_neg h]
          · have h9 : zI (pI (pI (pI (pI (adM (pS (pI (pI (pI (pI (adX s 7) 7 n a0) 8 n (a1 / 10)) 9 n (a1 % 10)) 10 n 1) 6 4 (zS (adX s 7) 6 4 + 1)) 7) 74 n a0) 75 n (a1 / 10)) 76 n (a1 % 10)) 77 n ((1 : Int32) &&& 1)) 9 j = if j = n then a1 % 10 else zI s 9 j := by
              rw [zI_pI, if_neg (by omega), zI_pI, if_neg (by omega), zI_pI, if_neg (by omega), zI_pI, if_neg (by omega), adM_I, if_neg (by omega), zI_pS, zI_pI, if_neg (by omega), zI_pI]
              by_cases h : j = n
              · rw [if_pos ⟨rfl, h⟩, if_pos h]
              · rw [if_neg (by omega), if_neg h, zI_pI, if_neg (by omega), zI_pI, if_neg (by omega), adX_I, if_neg (by omega)]
            have h76 : zI (pI (pI (pI (pI (adM (pS (pI (pI (pI (pI (adX s 7) 7 n a0) 8 n (a1 / 10)) 9 n (a1 % 10)) 10 n 1) 6 4 (zS (adX s 7) 6 4 + 1)) 7) 74 n a0) 75 n (a1 / 10)) 76 n (a1 % 10)) 77 n ((1 : Int32) &&& 1)) 76 j = if j = n then a1 % 10 else zI s 76 j := by
              rw [zI_pI, if_neg (by omega), zI_pI]
              by_cases h : j = n
              · rw [if_pos ⟨rfl, h⟩, if_pos h]
              · rw [if_neg (by omega), if_neg h, zI_pI, if_neg (by omega), zI_pI, if_neg (by omega), adM_I, if_neg (by omega), zI_pS, zI_pI, if_neg (by omega), zI_pI, if_neg (by omega), zI_pI, if_neg (by omega), zI_pI, if_neg (by omega), adX_I, if_neg (by omega)]
            rw [h9, h76, G.2.2.1.2.2 j]
          · exact ⟨fun _ => nH (Or.inr rfl), fun _ => frn G d⟩
      · refine ⟨-3, s, -3, s, ?_, ?_, G, FrB.rf, rfl⟩
        · unfold f_X11_man
          rw [if_neg (by rw [jlt, jl0]; omega), if_neg (by rw [jlt, jl999]; omega), if_neg (by rw [jlt, jl0]; omega), if_neg (by rw [jlt, jl99]; omega), added_f d, bd_some, if_pos (by decide)]
        · unfold f_X12_man
          rw [in_t (by rw [jl0, jl999]; omega), b1_some, if_neg (by decide), in_t (by rw [jl0, jl99]; omega), b1_some, if_neg (by decide), if_pos (eq120 G d)]
    · refine ⟨-1, s, -1, s, ?_, ?_, G, FrB.rf, rfl⟩
      · unfold f_X11_man
        rw [if_neg (by rw [jlt, jl0]; omega), if_neg (by rw [jlt, jl999]; omega)]
        by_cases h : a1 < 0
        · rw [if_pos h]
        · rw [if_neg h, if_pos (by rw [jlt, jl99]; rw [jlt, jl0] at h; omega)]
      · unfold f_X12_man
        rw [in_t (by rw [jl0, jl999]; omega), b1_some, if_neg (by decide), in_f (by rw [jl0, jl99]; omega), b1_some, if_pos rfl]
  · refine ⟨-1, s, -1, s, ?_, ?_, G, FrB.rf, rfl⟩
    · unfold f_X11_man
      by_cases h : a0 < 0
      · rw [if_pos h]
      · rw [if_neg h, if_pos (by rw [jlt, jl999]; rw [jlt, jl0] at h; omega)]
    · unfold f_X12_man
      rw [in_f (by rw [jl0, jl999]; omega), b1_some, if_pos rfl]
theorem sa_ill {s : SS} (G : GA s) (a0 : Int32) (a1 : Int32) : ∃ (rx : Int32) (s1 : SS) (rm : Int32) (s2 : SS), f_X11_ill s a0 a1 = some (rx, s1) ∧ f_X12_ill s1 a0 a1 = some (rm, s2) ∧ GA s2 ∧ FrB s s2 ∧ rx = rm := by
  have e := G.2.1.2.2.1
  have k7 := G.2.2.1.2.1
  have hf : 0 ≤ (zS s 15 3).toInt ∧ (zS s 15 3).toInt ≤ 120 := G.1.f (q := 15) (k := 3) rfl
  by_cases c : (0 ≤ a0.toInt ∧ a0.toInt < (zS s 15 3).toInt) ∧ zI s 16 a0.toInt.toNat = 7
  · have g : inB a0 120 := ⟨by omega, by omega⟩
    have mn : ∀ s1, Iv s1 → zS s1 59 4 = zS s 59 4 → zI s1 62 a0.toInt.toNat = zI s 62 a0.toInt.toNat → f_X12_isMan s1 a0 = some 1 := by
      intro s1 I1 h1 h2
      unfold f_X12_isMan
      rw [body_t I1 (by rw [h1, ← e]; exact c.1), b1_some, if_neg (by decide), gd_t g, h2, ← k7, c.2, if_pos rfl]
    by_cases d : 0 ≤ a1.toInt ∧ a1.toInt ≤ 9
    · have I1 : Iv (pI s 9 a0.toInt.toNat a1) := G.1.wI (q := 9) (by decide) trivial
      refine ⟨zI s 9 a0.toInt.toNat, pI s 9 a0.toInt.toNat a1, zI s 76 a0.toInt.toNat, pI (pI s 9 a0.toInt.toNat a1) 76 a0.toInt.toNat a1, ?_, ?_, ⟨I1.wI (q := 76) (by decide) trivial, ?_⟩, (FrB.rf.pI (by decide)).pI (by decide), G.2.2.1.2.2 _⟩
      · unfold f_X11_ill
        rw [kind_t G.1 c.1, b1_some, if_pos c.2, if_neg (by rw [jlt, jl0]; omega), if_neg (by rw [jlt, jl9]; omega), gd_t g]
        dsimp only [vl, st]
        rw [gd_t g]
      · unfold f_X12_ill
        rw [mn _ I1 rfl rfl, b1_some, if_neg (by decide), in_t (by rw [jl0, jl9]; omega), b1_some, if_neg (by decide), gd_t g]
        dsimp only [vl, st]
        rw [gd_t g]
        rfl
      · obtain ⟨R1, R2, R3, R4, R5⟩ := G.2
        refine ⟨R1, ⟨fun i => ?_, fun i => ?_, fun i => ?_⟩, (R3.pI (by decide)).pI (by decide), (R4.pI (by decide)).pI (by decide), (R5.pI (by decide)).pI (by decide)⟩
        · exact R2.1 i
        · exact R2.2.1 i
        · rw [zI_pI, if_neg (by omega), zI_pI, zI_pI]
          by_cases h : i = a0.toInt.toNat
          · rw [if_pos ⟨rfl, h⟩, if_pos ⟨rfl, h⟩]
          · rw [if_neg (by omega), if_neg (by omega), zI_pI, if_neg (by omega)]
            exact R2.2.2 i
    · refine ⟨-1, s, -1, s, ?_, ?_, G, FrB.rf, rfl⟩
      · unfold f_X11_ill
        rw [kind_t G.1 c.1, b1_some, if_pos c.2]
        by_cases h : a1 < 0
        · rw [if_pos h]
        · rw [if_neg h, if_pos (by rw [jlt, jl9]; rw [jlt, jl0] at h; omega)]
      · unfold f_X12_ill
        rw [mn s G.1 rfl rfl, b1_some, if_neg (by decide), in_f (by rw [jl0, jl9]; omega), b1_some, if_pos rfl]
  · refine ⟨-1, s, -1, s, ?_, ?_, G, FrB.rf, rfl⟩
    · unfold f_X11_ill
      by_cases d : 0 ≤ a0.toInt ∧ a0.toInt < (zS s 15 3).toInt
      · rw [kind_t G.1 d, b1_some, if_neg (fun z => c ⟨d, z⟩)]
      · rw [kind_f d, b1_some, if_neg (by decide)]
    · unfold f_X12_ill f_X12_isMan
      by_cases d : 0 ≤ a0.toInt ∧ a0.toInt < (zS s 15 3).toInt
      · rw [body_t G.1 (by rw [← e]; exact d), b1_some, if_neg (by decide), gd_t ⟨by omega, by omega⟩, if_neg (by rw [← k7]; exact fun z => c ⟨d, z⟩), b1_some, if_pos rfl]
      · rw [body_f G.1 (by rw [← e]; exact d), b1_some, if_pos rfl, b1_some, if_pos rfl]
/-! HOLES, MAPS, NEEDS, AIMS -/
def nhX (s : SS) (c w : Int32) (i : Nat) (v : Int32) : SS := pS (pR (pHole s c w) 17 i (some (zL s))) 15 4 v
section HX
variable {s : SS} {c w v : Int32} {i : Nat}
theorem nhX_S (I : Iv s) {q k : Nat} (h : fSA q k = true) : zS (nhX s c w i v) q k = zS s q k := by
  have h1 := I.1.1.1
  have h2 := fSA_lt h
  unfold nhX
  rw [zSf h (by decide)]
  show (if q = zL s then holeF c w k else zS s q k) = _
  rw [if_neg (by omega)]
theorem nhX_I (I : Iv s) {q j : Nat} (h : q < 126) : zI (nhX s c w i v) q j = zI s q j := by
  have h1 := I.1.1.1
  show (if q = zL s + 1 then 0 else if q = zL s + 2 then 0 else if q = zL s + 3 then (-2000000000) else zI s q j) = _
  rw [if_neg (by omega), if_neg (by omega), if_neg (by omega)]
theorem nhX_B {b : SS} (I : Iv s) (F : FrB b s) : FrB b (nhX s c w i v) := by
  have h1 := I.1.1.1
  refine FrB.pS ⟨fun q k e => ?_, fun q j e => ?_⟩ (by decide)
  · have h2 := fSB_lt e
    show (if q = zL s then holeF c w k else zS s q k) = _
    rw [if_neg (by omega)]
    exact F.1 q k e
  · have h2 := fIB_lt e
    show zI (nhX s c w i v) q j = _
    rw [nhX_I I h2]
    exact F.2 q j e
theorem nhX_R (j : Nat) : zR (nhX s c w i v) 17 j = if j = i then some (zL s) else zR s 17 j := by
  show (if 17 = 17 ∧ j = i then some (zL s) else zR s 17 j) = _
  by_cases h : j = i
  · rw [if_pos ⟨rfl, h⟩, if_pos h]
  · rw [if_neg (fun z => h z.2), if_neg h]
end HX
theorem holeM {t : SS} {a0 a1 : Int32} {n : Nat} (c : 2 ≤ a0.toInt ∧ a0.toInt ≤ 5) (b : ¬ a1 < 0) (b2 : a1 / 100 < 32) (b3 : ¬ a1 % 100 = 0) (h2 : ¬ zS t 59 4 = 120) (h3 : 0 ≤ (zS t 59 4).toInt ∧ (zS t 59 4).toInt < 120) (en : n = (zS t 59 4).toInt.toNat) : f_X12_hole t a0 a1 = some (zS t 59 4, pI (pI (pI (adM t a0) 63 n (a1 / 100)) 65 n (a1 / 100)) 64 n (a1 % 100)) := by
  have gn : inB (zS t 59 4) 120 := ⟨by omega, by omega⟩
  unfold f_X12_hole
  rw [in_t (by rw [jl2, jl5]; omega), b1_some, if_neg (by decide), if_neg b, if_pos b2, if_neg b3, if_neg h2, add_t h3, bd_some]
  dsimp only [st, vl]
  rw [gd_t gn, gd_t gn, gd_t gn, ← en]
theorem sa_hole {s : SS} (G : GA s) (a0 : Int32) (a1 : Int32) : ∃ (rx : Int32) (s1 : SS) (rm : Int32) (s2 : SS), f_X11_hole s a0 a1 = some (rx, s1) ∧ f_X12_hole s1 a0 a1 = some (rm, s2) ∧ GA s2 ∧ FrB s s2 ∧ rx = rm := by
  by_cases c : 2 ≤ a0.toInt ∧ a0.toInt ≤ 5
  · have cx : ¬ a0 < 2 ∧ ¬ 5 < a0 := ⟨by rw [jlt, jl2]; omega, by rw [jlt, jl5]; omega⟩
    by_cases b : a1 < 0
    · refine ⟨-1, s, -1, s, ?_, ?_, G, FrB.rf, rfl⟩
      · unfold f_X11_hole
        rw [if_neg cx.1, if_neg cx.2, if_pos b]
      · unfold f_X12_hole
        rw [in_t (by rw [jl2, jl5]; omega), b1_some, if_neg (by decide), if_pos b]
    by_cases b2 : a1 / 100 < 32
    · have hp : 0 ≤ a1.toInt := by rw [jlt, jl0] at b; omega
      have em : (a1 % 100).toInt = a1.toInt % 100 := by rw [jm100, if_pos hp]
      by_cases b3 : a1 % 100 = 0
      · refine ⟨-1, s, -1, s, ?_, ?_, G, FrB.rf, rfl⟩
        · unfold f_X11_hole
          dsimp only [vl]
          rw [if_neg cx.1, if_neg cx.2, if_neg b, if_pos b2, if_pos (by rw [b3]; decide)]
        · unfold f_X12_hole
          rw [in_t (by rw [jl2, jl5]; omega), b1_some, if_neg (by decide), if_neg b, if_pos b2, if_pos b3]
      · have b4 : ¬ a1 % 100 < 1 := by
          rw [jlt, jl1]
          intro z
          apply b3
          apply Int32.toInt_inj.1
          rw [jl0]
          omega
        by_cases d : (zS s 15 3).toInt < 120
        · have hf : 0 ≤ (zS s 15 3).toInt ∧ (zS s 15 3).toInt ≤ 120 := G.1.f (q := 15) (k := 3) rfl
          have e4 : zS (adX s a0) 59 4 = zS s 15 3 := fr4 G
          have IX := G.1.adX d (v := a0) (by omega)
          have gn : inB (zS s 15 3) 120 := ⟨by omega, by omega⟩
          obtain ⟨n, en⟩ : ∃ n, n = (zS s 15 3).toInt.toNat := ⟨_, rfl⟩
          obtain ⟨w, ew⟩ : ∃ w, w = zS (pR (pHole (adX s a0) (a1 / 100) (a1 % 100)) 17 n (some (zL (adX s a0)))) 15 4 + 1 := ⟨_, rfl⟩
          have I1 : Iv (nhX (adX s a0) (a1 / 100) (a1 % 100) n w) := IX.holeF
          have f4 : zS (nhX (adX s a0) (a1 / 100) (a1 % 100) n w) 59 4 = zS s 15 3 := by rw [nhX_S IX rfl]; exact e4
          refine ⟨zS s 15 3, nhX (adX s a0) (a1 / 100) (a1 % 100) n w, zS (nhX (adX s a0) (a1 / 100) (a1 % 100) n w) 59 4, pI (pI (pI (adM (nhX (adX s a0) (a1 / 100) (a1 % 100) n w) a0) 63 n (a1 / 100)) 65 n (a1 / 100)) 64 n (a1 % 100), ?_, ?_, ⟨?_, ?_⟩, ((((nhX_B IX FrB.rf.adX).adM).pI (by decide)).pI (by decide)).pI (by decide), f4.symm⟩
          · unfold f_X11_hole f_X0_addedHole
            dsimp only [vl]
            rw [if_neg cx.1, if_neg cx.2, if_neg b, if_pos b2, if_neg b4, added_t G.1 d, bd_some, if_neg (by rw [jlt, jl0]; omega), gd_t gn, ← en]
            dsimp only [st]
            rw [← ew]
            rfl
          · exact holeM c b b2 b3 (by rw [f4, ← e4, adX_S _ _ (by decide)]; exact ne120 G d) (by rw [f4]; omega) (by rw [f4]; exact en)
          · have I2 := I1.adM (v := a0) (by rw [f4]; exact d)
            exact ((I2.wI (q := 63) (by decide) trivial).wI (q := 65) (by decide) trivial).wI (q := 64) (by decide) trivial
          · have hA : ∀ q j, q < 126 → q ≠ 63 → q ≠ 65 → q ≠ 64 → zI (pI (pI (pI (adM (nhX (adX s a0) (a1 / 100) (a1 % 100) n w) a0) 63 n (a1 / 100)) 65 n (a1 / 100)) 64 n (a1 % 100)) q j = if q = 62 ∧ j = n then a0 else zI (adX s a0) q j := by
              intro q j h0 h1 h2 h3
              rw [zI_pI, if_neg (by omega), zI_pI, if_neg (by omega), zI_pI, if_neg (by omega), adM_I, f4, ← en, nhX_I IX h0]
            refine RG.add G d (v := a0) (fun q k h h1 h2 h3 h4 => ?_) ?_ ?_ ?_ (fun q j h h1 h2 h3 h4 => ?_) (fun j => ?_) (fun j => ?_) (fun j => ?_) (fun _ _ _ => rfl) (fun j hj => ?_) ?_
            · rw [zS_pI, zS_pI, zS_pI, adM_S _ _ h2, nhX_S IX h, adX_S _ _ h1]
            · rw [zS_pI, zS_pI, zS_pI, adM_S _ _ (by decide), nhX_S IX rfl]; rfl
            · rw [zS_pI, zS_pI, zS_pI, adM_4, nhX_S IX rfl, adX_S _ _ (by decide)]
            · rw [zS_pI, zS_pI, zS_pI, zS_pI, zS_pI, zS_pI, adM_S _ _ (by decide), adM_S _ _ (by decide), nhX_S IX rfl, nhX_S IX rfl, adX_S _ _ (by decide), adX_S _ _ (by decide)]
              exact G.2.1.2.2.2.1
            · have hq : q ≠ 63 ∧ q ≠ 65 ∧ q ≠ 64 := by
                refine ⟨?_, ?_, ?_⟩ <;> (intro z; rw [z] at h; exact absurd h (by decide))
              rw [hA q j (fIA_lt h) hq.1 hq.2.1 hq.2.2, if_neg (by omega), adX_I, if_neg (by omega)]
            · rw [hA 16 j (by decide) (by decide) (by decide) (by decide), if_neg (by omega), adX_I, ← en]
              by_cases h : j = n
              · rw [if_pos ⟨rfl, h⟩, if_pos h]
              · rw [if_neg (by omega), if_neg h]
            · rw [hA 62 j (by decide) (by decide) (by decide) (by decide), adX_I, ← en]
              by_cases h : j = n
              · rw [if_pos ⟨rfl, h⟩, if_pos h]
              · rw [if_neg (by omega), if_neg (by omega), if_neg h]
            · rw [hA 9 j (by decide) (by decide) (by decide) (by decide), if_neg (by omega), hA 76 j (by decide) (by decide) (by decide) (by decide), if_neg (by omega), adX_I, if_neg (by omega), adX_I, if_neg (by omega)]
              exact G.2.2.1.2.2 j
            · show zR (nhX (adX s a0) (a1 / 100) (a1 % 100) n w) 17 j = zR (adX s a0) 17 j
              rw [nhX_R, if_neg (by omega)]
            · show zR (nhX (adX s a0) (a1 / 100) (a1 % 100) n w) 17 _ = none ↔ _
              rw [nhX_R, if_pos en.symm]
              refine ⟨(fun z => by cases z), (fun z => absurd ?_ z)⟩
              have h : a0.toInt = 2 ∨ a0.toInt = 3 ∨ a0.toInt = 4 ∨ a0.toInt = 5 := by omega
              rcases h with h | h | h | h
              · exact Or.inl (Int32.toInt_inj.1 h)
              · exact Or.inr (Or.inl (Int32.toInt_inj.1 h))
              · exact Or.inr (Or.inr (Or.inl (Int32.toInt_inj.1 h)))
              · exact Or.inr (Or.inr (Or.inr (Int32.toInt_inj.1 h)))
        · refine ⟨-3, s, -3, s, ?_, ?_, G, FrB.rf, rfl⟩
          · unfold f_X11_hole f_X0_addedHole
            dsimp only [vl]
            rw [if_neg cx.1, if_neg cx.2, if_neg b, if_pos b2, if_neg b4, added_f d, bd_some, if_pos (by decide)]
            rfl
          · unfold f_X12_hole
            rw [in_t (by rw [jl2, jl5]; omega), b1_some, if_neg (by decide), if_neg b, if_pos b2, if_neg b3, if_pos (eq120 G d)]
    · refine ⟨-1, s, -1, s, ?_, ?_, G, FrB.rf, rfl⟩
      · unfold f_X11_hole
        dsimp only [vl]
        rw [if_neg cx.1, if_neg cx.2, if_neg b, if_neg b2]
      · unfold f_X12_hole
        rw [in_t (by rw [jl2, jl5]; omega), b1_some, if_neg (by decide), if_neg b, if_neg b2]
  · refine ⟨-1, s, -1, s, ?_, ?_, G, FrB.rf, rfl⟩
    · unfold f_X11_hole
      by_cases h : a0 < 2
      · rw [if_pos h]
      · rw [if_neg h, if_pos (by rw [jlt, jl5]; rw [jlt, jl2] at h; omega)]
    · unfold f_X12_hole
      rw [in_f (by rw [jl2, jl5]; omega), b1_some, if_pos rfl]
/-- counters that go up or back together -/
theorem RG.cnt {s r : SS} (R : RG s) (hS : ∀ q k, fSA q k = true → ¬ (q = 0 ∧ k = 5) → ¬ (q = 59 ∧ k = 30) → ¬ (q = 34 ∧ k = 3) → ¬ (q = 59 ∧ k = 67) → ¬ (q = 34 ∧ k = 9) → ¬ (q = 59 ∧ k = 76) → zS r q k = zS s q k)
    (h1 : zS r 0 5 = zS r 59 30) (h2 : zS r 34 3 = zS r 59 67) (h3 : zS r 34 9 = zS r 59 76) (hI : ∀ q j, fIA q = true → zI r q j = zI s q j) (hJ : ∀ q j, fJ q = true → zJ r q j = zJ s q j) (hR : ∀ j, zR r 17 j = zR s 17 j) : RG r := by
  obtain ⟨R1, R2, R3, R4, R5⟩ := R
  have e3 : zS r 15 3 = zS s 15 3 := hS 15 3 rfl (by decide) (by decide) (by decide) (by decide) (by decide) (by decide)
  refine ⟨?_, ?_, ?_, ?_, ?_⟩
  · unfold RC
    rw [hS 0 15 rfl (by decide) (by decide) (by decide) (by decide) (by decide) (by decide), hS 59 29 rfl (by decide) (by decide) (by decide) (by decide) (by decide) (by decide), e3, hS 59 4 rfl (by decide) (by decide) (by decide) (by decide) (by decide) (by decide), hS 15 5 rfl (by decide) (by decide) (by decide) (by decide) (by decide) (by decide), hS 59 21 rfl (by decide) (by decide) (by decide) (by decide) (by decide) (by decide)]
    exact ⟨R1.1, h1, R1.2.2.1, R1.2.2.2.1, h2, h3⟩
  · exact R2.c (fun q i h => hI q i (by rcases h with rfl | rfl | rfl | rfl | rfl | rfl <;> rfl))
  · refine R3.c (fun i k hi hk => hS _ _ ?_ (by omega) (by omega) (by omega) (by omega) (by omega) (by omega)) (fun i => hI 78 i rfl) (fun i => hI 79 i rfl)
    have h : i = 0 ∨ i = 1 ∨ i = 2 := by omega
    have h' : k = 0 ∨ k = 1 := by omega
    rcases h with rfl | rfl | rfl <;> rcases h' with rfl | rfl <;> rfl
  · exact R4.c e3 (fun i => hI 16 i rfl) hR
  · intro i hi
    have h : i = 0 ∨ i = 1 ∨ i = 2 ∨ i = 3 ∨ i = 4 ∨ i = 5 := by omega
    refine (R5 i hi).c (fun k hk => hS _ _ ?_ (by omega) (by omega) (by omega) (by omega) (by omega) (by omega)) (hI 120 i rfl) (hI 121 i rfl) (fun j _ => hI 123 _ rfl) (fun j _ => hJ _ _ ?_) (fun j _ => hJ 122 _ rfl) (by rw [e3]; exact Int.le_refl _)
    · have h' : k = 0 ∨ k = 1 ∨ k = 2 ∨ k = 3 := by omega
      rcases h with rfl | rfl | rfl | rfl | rfl | rfl <;> rcases h' with rfl | rfl | rfl | rfl <;> rfl
    · rcases h with rfl | rfl | rfl | rfl | rfl | rfl <;> rfl
def nmX (s : SS) (c w y : Int32) (i : Nat) (v : Int32) : SS := pS (pR (pMap s c w y) 23 i (some (zL s))) 0 5 v
section MX
variable {s : SS} {c w y v : Int32} {i : Nat}
theorem nmX_S (I : Iv s) {q k : Nat} (h : fSA q k = true) (h5 : ¬ (q = 0 ∧ k = 5)) : zS (nmX s c w y i v) q k = zS s q k := by
  have h1 := I.1.1.1
  have h2 := fSA_lt h
  unfold nmX
  rw [zS_pS, if_neg h5]
  show (if q = zL s then mapF c w y k else zS s q k) = _
  rw [if_neg (by omega)]
theorem nmX_I (I : Iv s) {q j : Nat} (h : q < 126) : zI (nmX s c w y i v) q j = zI s q j := by
  have h1 := I.1.1.1
  show (if q = zL s + 1 then 0 else zI s q j) = _
  rw [if_neg (by omega)]
theorem nmX_B {b : SS} (I : Iv s) (F : FrB b s) : FrB b (nmX s c w y i v) := by
  have h1 := I.1.1.1
  refine FrB.pS ⟨fun q k e => ?_, fun q j e => ?_⟩ (by decide)
  · have h2 := fSB_lt e
    show (if q = zL s then mapF c w y k else zS s q k) = _
    rw [if_neg (by omega)]
    exact F.1 q k e
  · have h2 := fIB_lt e
    show zI (nmX s c w y i v) q j = _
    rw [nmX_I I h2]
    exact F.2 q j e
theorem nmX_R (j : Nat) : zR (nmX s c w y i v) 17 j = zR s 17 j := by
  show (if 17 = 23 ∧ j = i then some (zL s) else zR s 17 j) = _
  rw [if_neg (fun z => absurd z.1 (by decide))]
end MX
theorem mapM {t : SS} {a0 a1 : Int32} {n : Nat} (hs : f_X12_isSpan a0 = some 1) (c : 1 ≤ a1.toInt ∧ a1.toInt ≤ 60) (h2 : ¬ zS t 59 30 = 8) (h3 : 0 ≤ (zS t 59 30).toInt ∧ (zS t 59 30).toInt < 8) (en : n = (zS t 59 30).toInt.toNat) : f_X12_map t a0 a1 = some (zS t 59 30, pS (pI (pI (pI t 81 n (a0 / 100)) 82 n (a0 % 100)) 83 n a1) 59 30 (zS t 59 30 + 1)) := by
  have gn : inB (zS t 59 30) 8 := ⟨by omega, by omega⟩
  unfold f_X12_map
  rw [hs, b1_some, if_neg (by decide), in_t (by rw [jl1, jl60]; omega), b1_some, if_neg (by decide), if_neg h2]
  dsimp only [st, vl]
  rw [gd_t gn, gd_t (show inB (zS (pI t 81 (zS t 59 30).toInt.toNat (a0 / 100)) 59 30) 8 from gn), gd_t (show inB (zS (pI (pI t 81 (zS t 59 30).toInt.toNat (a0 / 100)) 82 (zS (pI t 81 (zS t 59 30).toInt.toNat (a0 / 100)) 59 30).toInt.toNat (a0 % 100)) 59 30) 8 from gn)]
  rw [en]
  show some (zS t 59 30 + 1 - 1, _) = _
  rw [s11]
  rfl
theorem sa_map {s : SS} (G : GA s) (a0 : Int32) (a1 : Int32) : ∃ (rx : Int32) (s1 : SS) (rm : Int32) (s2 : SS), f_X11_map s a0 a1 = some (rx, s1) ∧ f_X12_map s1 a0 a1 = some (rm, s2) ∧ GA s2 ∧ FrB s s2 ∧ rx = rm := by
  rcases span_01 a0 with hs | hs
  · refine ⟨-1, s, -1, s, ?_, ?_, G, FrB.rf, rfl⟩
    · unfold f_X11_map
      rw [span_e, hs, b1_some, if_pos rfl]
    · unfold f_X12_map
      rw [hs, b1_some, if_pos rfl]
  by_cases c : 1 ≤ a1.toInt ∧ a1.toInt ≤ 60
  · have e5 := G.2.1.2.1
    have hf : 0 ≤ (zS s 0 5).toInt ∧ (zS s 0 5).toInt ≤ 8 := G.1.f (q := 0) (k := 5) rfl
    by_cases b : (zS s 0 5).toInt < 8
    · obtain ⟨n, en⟩ : ∃ n, n = (zS s 0 5).toInt.toNat := ⟨_, rfl⟩
      have ew : zS (pR (pMap s (a0 / 100) (a0 % 100) a1) 23 n (some (zL s))) 0 5 = zS s 0 5 := by
        have h1 := G.1.1.1.1
        show (if 0 = zL s then mapF (a0 / 100) (a0 % 100) a1 5 else zS s 0 5) = _
        rw [if_neg (by omega)]
      have I1 : Iv (nmX s (a0 / 100) (a0 % 100) a1 n (zS s 0 5 + 1)) := by
        have := G.1.mapF (c := a0 / 100) (w := a0 % 100) (y := a1) (i := n) ⟨hf.1, b⟩
        rw [ew] at this
        exact this
      have f30 : zS (nmX s (a0 / 100) (a0 % 100) a1 n (zS s 0 5 + 1)) 59 30 = zS s 0 5 := by
        rw [nmX_S G.1 rfl (by decide)]
        exact e5.symm
      have n1 : (zS s 0 5 + 1).toInt = (zS s 0 5).toInt + 1 := by rw [i32_add (by rw [jl1]; omega) (by rw [jl1]; omega), jl1]
      refine ⟨zS s 0 5, nmX s (a0 / 100) (a0 % 100) a1 n (zS s 0 5 + 1), zS (nmX s (a0 / 100) (a0 % 100) a1 n (zS s 0 5 + 1)) 59 30, pS (pI (pI (pI (nmX s (a0 / 100) (a0 % 100) a1 n (zS s 0 5 + 1)) 81 n (a0 / 100)) 82 n (a0 % 100)) 83 n a1) 59 30 (zS (nmX s (a0 / 100) (a0 % 100) a1 n (zS s 0 5 + 1)) 59 30 + 1), ?_, ?_, ⟨?_, ?_⟩, ((((nmX_B G.1 FrB.rf).pI (by decide)).pI (by decide)).pI (by decide)).pS (by decide), f30.symm⟩
      · unfold f_X11_map
        rw [span_e, hs, b1_some, if_neg (by decide), yard_t c, b1_some, if_neg (by decide), if_pos (by rw [jlt, jl8]; exact b)]
        dsimp only [vl, st]
        rw [gd_t ⟨by omega, by omega⟩, ← en, ew]
        show some (zS s 0 5 + 1 - 1, _) = _
        rw [s11]
        rfl
      · exact mapM hs c (fun z => by rw [f30] at z; rw [z, jl8] at b; omega) (by rw [f30]; omega) (by rw [f30]; exact en)
      · rw [f30]
        exact (((I1.wI (q := 81) (by decide) trivial).wI (q := 82) (by decide) trivial).wI (q := 83) (by decide) trivial).wF (q := 59) (k := 30) (by decide) (by decide) ⟨by omega, by omega⟩
      · rw [f30]
        refine RG.cnt G.2 (fun q k h h1 h2 h3 h4 h5 h6 => ?_) rfl ?_ ?_ (fun q j h => ?_) (fun _ _ _ => rfl) (fun j => nmX_R (c := a0 / 100) (w := a0 % 100) (y := a1) (i := n) (v := zS s 0 5 + 1) j)
        · rw [zS_pS, if_neg h2, zS_pI, zS_pI, zS_pI, nmX_S G.1 h h1]
        · rw [zS_pS, if_neg (by decide), zS_pS, if_neg (by decide), zS_pI, zS_pI, zS_pI, zS_pI, zS_pI, zS_pI, nmX_S G.1 rfl (by decide), nmX_S G.1 rfl (by decide)]
          exact G.2.1.2.2.2.2.1
        · rw [zS_pS, if_neg (by decide), zS_pS, if_neg (by decide), zS_pI, zS_pI, zS_pI, zS_pI, zS_pI, zS_pI, nmX_S G.1 rfl (by decide), nmX_S G.1 rfl (by decide)]
          exact G.2.1.2.2.2.2.2
        · rw [zI_pS, zIf h (by decide), zIf h (by decide), zIf h (by decide), nmX_I G.1 (fIA_lt h)]
    · refine ⟨-3, s, -3, s, ?_, ?_, G, FrB.rf, rfl⟩
      · unfold f_X11_map
        rw [span_e, hs, b1_some, if_neg (by decide), yard_t c, b1_some, if_neg (by decide), if_neg (by rw [jlt, jl8]; exact b)]
      · unfold f_X12_map
        rw [hs, b1_some, if_neg (by decide), in_t (by rw [jl1, jl60]; omega), b1_some, if_neg (by decide), if_pos (by rw [← e5]; exact Int32.toInt_inj.1 (by rw [jl8]; omega))]
  · refine ⟨-1, s, -1, s, ?_, ?_, G, FrB.rf, rfl⟩
    · unfold f_X11_map
      rw [span_e, hs, b1_some, if_neg (by decide), yard_f c, b1_some, if_pos rfl]
    · unfold f_X12_map
      rw [hs, b1_some, if_neg (by decide), in_f (by rw [jl1, jl60]; omega), b1_some, if_pos rfl]
/-! NEEDS, AIMS -/
theorem needM {t : SS} {a0 a1 : Int32} {n : Nat} (ha : ¬ a0 < 0) (c : 1 ≤ (a0 / 100).toInt ∧ (a0 / 100).toInt ≤ 9) (c2 : ¬ a0 % 100 = 0) (b : 0 ≤ a1.toInt ∧ a1.toInt ≤ 99) (h2 : ¬ zS t 59 67 = 10) (h3 : 0 ≤ (zS t 59 67).toInt ∧ (zS t 59 67).toInt < 10) (en : n = (zS t 59 67).toInt.toNat) : f_X12_need t a0 a1 = some (zS t 59 67 + 1, pS (pI (pI (pI t 106 n (a0 / 100)) 107 n (a0 % 100)) 108 n a1) 59 67 (zS t 59 67 + 1)) := by
  have gn : inB (zS t 59 67) 10 := ⟨by omega, by omega⟩
  unfold f_X12_need
  rw [if_neg ha, in_t (by rw [jl1, jl9]; omega), b1_some, if_neg (by decide), if_neg c2, in_t (by rw [jl0, jl99]; omega), b1_some, if_neg (by decide), if_neg h2]
  dsimp only [st, vl]
  rw [gd_t gn, gd_t (show inB (zS (pI t 106 (zS t 59 67).toInt.toNat (a0 / 100)) 59 67) 10 from gn), gd_t (show inB (zS (pI (pI t 106 (zS t 59 67).toInt.toNat (a0 / 100)) 107 (zS (pI t 106 (zS t 59 67).toInt.toNat (a0 / 100)) 59 67).toInt.toNat (a0 % 100)) 59 67) 10 from gn)]
  rw [en]
  rfl
theorem needX {s : SS} {x y z : Int32} {n : Nat} (h3 : 0 ≤ (zS s 34 3).toInt ∧ (zS s 34 3).toInt < 10) (en : n = (zS s 34 3).toInt.toNat) : f_X6_needTold s x y z = some (zS s 34 3 + 1, pS (pI (pI (pI s 35 n x) 36 n y) 37 n z) 34 3 (zS s 34 3 + 1)) := by
  have gn : inB (zS s 34 3) 10 := ⟨by omega, by omega⟩
  unfold f_X6_needTold
  rw [if_pos (by rw [jlt, jl10]; omega)]
  dsimp only [st, vl]
  rw [gd_t gn, gd_t (show inB (zS (pI s 35 (zS s 34 3).toInt.toNat x) 34 3) 10 from gn), gd_t (show inB (zS (pI (pI s 35 (zS s 34 3).toInt.toNat x) 36 (zS (pI s 35 (zS s 34 3).toInt.toNat x) 34 3).toInt.toNat y) 34 3) 10 from gn)]
  rw [en]
  rfl
theorem sa_need {s : SS} (G : GA s) (a0 : Int32) (a1 : Int32) : ∃ (rx : Int32) (s1 : SS) (rm : Int32) (s2 : SS), f_X11_need s a0 a1 = some (rx, s1) ∧ f_X12_need s1 a0 a1 = some (rm, s2) ∧ GA s2 ∧ FrB s s2 ∧ rx = rm := by
  have e := G.2.1.2.2.2.2.1
  have hf : 0 ≤ (zS s 34 3).toInt ∧ (zS s 34 3).toInt ≤ 10 := G.1.f (q := 34) (k := 3) rfl
  by_cases c : 100 ≤ a0.toInt ∧ a0.toInt ≤ 999
  · have hp : 0 ≤ a0.toInt := by omega
    have ed : (a0 / 100).toInt = a0.toInt / 100 := by rw [jd100, if_pos hp]
    have em : (a0 % 100).toInt = a0.toInt % 100 := by rw [jm100, if_pos hp]
    have n0 : ¬ a0 < 0 := by rw [jlt, jl0]; omega
    have nx : ¬ a0 < 100 ∧ ¬ 999 < a0 := ⟨by rw [jlt, jl100]; omega, by rw [jlt, jl999]; omega⟩
    have cd : 1 ≤ (a0 / 100).toInt ∧ (a0 / 100).toInt ≤ 9 := by omega
    by_cases c2 : a0 % 100 = 0
    · refine ⟨-1, s, -1, s, ?_, ?_, G, FrB.rf, rfl⟩
      · unfold f_X11_need
        rw [if_neg nx.1, if_neg nx.2, if_pos c2]
      · unfold f_X12_need
        rw [if_neg n0, in_t (by rw [jl1, jl9]; omega), b1_some, if_neg (by decide), if_pos c2]
    by_cases b : 0 ≤ a1.toInt ∧ a1.toInt ≤ 99
    · have bx : ¬ a1 < 0 ∧ ¬ 99 < a1 := ⟨by rw [jlt, jl0]; omega, by rw [jlt, jl99]; omega⟩
      by_cases d : (zS s 34 3).toInt < 10
      · have n1 : (zS s 34 3 + 1).toInt = (zS s 34 3).toInt + 1 := by rw [i32_add (by rw [jl1]; omega) (by rw [jl1]; omega), jl1]
        obtain ⟨n, en⟩ : ∃ n, n = (zS s 34 3).toInt.toNat := ⟨_, rfl⟩
        have f67 : zS (pS (pI (pI (pI s 35 n (a0 / 100)) 36 n (a0 % 100)) 37 n a1) 34 3 (zS s 34 3 + 1)) 59 67 = zS s 34 3 := e.symm
        refine ⟨zS s 34 3 + 1, pS (pI (pI (pI s 35 n (a0 / 100)) 36 n (a0 % 100)) 37 n a1) 34 3 (zS s 34 3 + 1), _, _, ?_, needM (n := n) n0 cd c2 b (fun z => by rw [f67] at z; rw [z, jl10] at d; omega) (by rw [f67]; omega) (by rw [f67]; exact en), ⟨?_, ?_⟩, (((((((FrB.rf.pI (by decide)).pI (by decide)).pI (by decide)).pS (by decide)).pI (by decide)).pI (by decide)).pI (by decide)).pS (by decide), ?_⟩
        · unfold f_X11_need
          rw [if_neg nx.1, if_neg nx.2, if_neg c2, if_neg bx.1, if_neg bx.2, needX ⟨hf.1, d⟩ en]
          rfl
        · rw [f67]
          exact (((((((G.1.wI (q := 35) (by decide) trivial).wI (q := 36) (by decide) trivial).wI (q := 37) (by decide) trivial).wF (q := 34) (k := 3) (by decide) (by decide) ⟨by omega, by omega⟩).wI (q := 106) (by decide) ⟨by omega, by omega⟩).wI (q := 107) (by decide) ⟨by omega, by omega⟩).wI (q := 108) (by decide) ⟨by omega, by omega⟩).wF (q := 59) (k := 67) (by decide) (by decide) ⟨by omega, by omega⟩
        · rw [f67]
          refine RG.cnt G.2 (fun q k h h1 h2 h3 h4 h5 h6 => ?_) G.2.1.2.1 rfl G.2.1.2.2.2.2.2 (fun q j h => ?_) (fun _ _ _ => rfl) (fun _ => rfl)
          · rw [zS_pS, if_neg h4, zS_pI, zS_pI, zS_pI, zS_pS, if_neg h3, zS_pI, zS_pI, zS_pI]
          · rw [zI_pS, zIf h (by decide), zIf h (by decide), zIf h (by decide), zI_pS, zIf h (by decide), zIf h (by decide), zIf h (by decide)]
        · rw [f67]
      · refine ⟨-3, s, -3, s, ?_, ?_, G, FrB.rf, rfl⟩
        · unfold f_X11_need f_X6_needTold
          rw [if_neg nx.1, if_neg nx.2, if_neg c2, if_neg bx.1, if_neg bx.2, if_neg (by rw [jlt, jl10]; exact d)]
          rfl
        · unfold f_X12_need
          rw [if_neg n0, in_t (by rw [jl1, jl9]; omega), b1_some, if_neg (by decide), if_neg c2, in_t (by rw [jl0, jl99]; omega), b1_some, if_neg (by decide), if_pos (by rw [← e]; exact Int32.toInt_inj.1 (by rw [jl10]; omega))]
    · refine ⟨-1, s, -1, s, ?_, ?_, G, FrB.rf, rfl⟩
      · unfold f_X11_need
        rw [if_neg nx.1, if_neg nx.2, if_neg c2]
        by_cases h : a1 < 0
        · rw [if_pos h]
        · rw [if_neg h, if_pos (by rw [jlt, jl99]; rw [jlt, jl0] at h; omega)]
      · unfold f_X12_need
        rw [if_neg n0, in_t (by rw [jl1, jl9]; omega), b1_some, if_neg (by decide), if_neg c2, in_f (by rw [jl0, jl99]; omega), b1_some, if_pos rfl]
  · refine ⟨-1, s, -1, s, ?_, ?_, G, FrB.rf, rfl⟩
    · unfold f_X11_need
      by_cases h : a0 < 100
      · rw [if_pos h]
      · rw [if_neg h, if_pos (by rw [jlt, jl999]; rw [jlt, jl100] at h; omega)]
    · unfold f_X12_need
      by_cases h : a0 < 0
      · rw [if_pos h]
      · have hp : 0 ≤ a0.toInt := by rw [jlt, jl0] at h; omega
        have ed : (a0 / 100).toInt = a0.toInt / 100 := by rw [jd100, if_pos hp]
        rw [if_neg h, in_f (by rw [jl1, jl9]; omega), b1_some, if_pos rfl]
theorem aimM {t : SS} {a0 a1 : Int32} {n : Nat} (c : 0 ≤ a0.toInt ∧ a0.toInt ≤ 31) (b : 0 ≤ a1.toInt ∧ a1.toInt ≤ 9) (h2 : ¬ zS t 59 76 = 6) (h3 : 0 ≤ (zS t 59 76).toInt ∧ (zS t 59 76).toInt < 6) (en : n = (zS t 59 76).toInt.toNat) : f_X12_aim t a0 a1 = some (zS t 59 76 + 1, pS (pI t 112 n a1) 59 76 (zS t 59 76 + 1)) := by
  have gn : inB (zS t 59 76) 6 := ⟨by omega, by omega⟩
  unfold f_X12_aim
  rw [in_t (by rw [jl0, jl31]; omega), b1_some, if_neg (by decide), in_t (by rw [jl0, jl9]; omega), b1_some, if_neg (by decide), if_neg h2]
  dsimp only [st, vl]
  rw [gd_t gn, en]
  rfl
theorem sa_aim {s : SS} (G : GA s) (a0 : Int32) (a1 : Int32) : ∃ (rx : Int32) (s1 : SS) (rm : Int32) (s2 : SS), f_X11_aim s a0 a1 = some (rx, s1) ∧ f_X12_aim s1 a0 a1 = some (rm, s2) ∧ GA s2 ∧ FrB s s2 ∧ rx = rm := by
  have e := G.2.1.2.2.2.2.2
  have hf : 0 ≤ (zS s 34 9).toInt ∧ (zS s 34 9).toInt ≤ 6 := G.1.f (q := 34) (k := 9) rfl
  by_cases c : 0 ≤ a0.toInt ∧ a0.toInt ≤ 31
  · have cx : ¬ a0 < 0 ∧ a0 < 32 := ⟨by rw [jlt, jl0]; omega, by rw [jlt, jl32]; omega⟩
    by_cases b : 0 ≤ a1.toInt ∧ a1.toInt ≤ 9
    · have bx : ¬ a1 < 0 ∧ ¬ 9 < a1 := ⟨by rw [jlt, jl0]; omega, by rw [jlt, jl9]; omega⟩
      by_cases d : (zS s 34 9).toInt < 6
      · have n1 : (zS s 34 9 + 1).toInt = (zS s 34 9).toInt + 1 := by rw [i32_add (by rw [jl1]; omega) (by rw [jl1]; omega), jl1]
        obtain ⟨n, en⟩ : ∃ n, n = (zS s 34 9).toInt.toNat := ⟨_, rfl⟩
        have f76 : zS (pS (pI s 41 n a1) 34 9 (zS s 34 9 + 1)) 59 76 = zS s 34 9 := e.symm
        refine ⟨zS s 34 9 + 1, pS (pI s 41 n a1) 34 9 (zS s 34 9 + 1), _, _, ?_, aimM (n := n) c b (fun z => by rw [f76] at z; rw [z, jl6] at d; omega) (by rw [f76]; omega) (by rw [f76]; exact en), ⟨?_, ?_⟩, (((FrB.rf.pI (by decide)).pS (by decide)).pI (by decide)).pS (by decide), ?_⟩
        · unfold f_X11_aim f_X6_aimTold
          rw [if_neg cx.1, if_pos cx.2, if_neg bx.1, if_neg bx.2, if_pos (by rw [jlt, jl6]; exact d)]
          dsimp only [st, vl]
          rw [gd_t ⟨by omega, by omega⟩, en]
          rfl
        · rw [f76]
          exact (((G.1.wI (q := 41) (by decide) trivial).wF (q := 34) (k := 9) (by decide) (by decide) ⟨by omega, by omega⟩).wI (q := 112) (by decide) trivial).wF (q := 59) (k := 76) (by decide) (by decide) ⟨by omega, by omega⟩
        · rw [f76]
          refine RG.cnt G.2 (fun q k h h1 h2 h3 h4 h5 h6 => ?_) G.2.1.2.1 G.2.1.2.2.2.2.1 rfl (fun q j h => ?_) (fun _ _ _ => rfl) (fun _ => rfl)
          · rw [zS_pS, if_neg h6, zS_pI, zS_pS, if_neg h5, zS_pI]
          · rw [zI_pS, zIf h (by decide), zI_pS, zIf h (by decide)]
        · rw [f76]
      · refine ⟨-3, s, -3, s, ?_, ?_, G, FrB.rf, rfl⟩
        · unfold f_X11_aim f_X6_aimTold
          rw [if_neg cx.1, if_pos cx.2, if_neg bx.1, if_neg bx.2, if_neg (by rw [jlt, jl6]; exact d)]
          rfl
        · unfold f_X12_aim
          rw [in_t (by rw [jl0, jl31]; omega), b1_some, if_neg (by decide), in_t (by rw [jl0, jl9]; omega), b1_some, if_neg (by decide), if_pos (by rw [← e]; exact Int32.toInt_inj.1 (by rw [jl6]; omega))]
    · refine ⟨-1, s, -1, s, ?_, ?_, G, FrB.rf, rfl⟩
      · unfold f_X11_aim
        rw [if_neg cx.1, if_pos cx.2]
        by_cases h : a1 < 0
        · rw [if_pos h]
        · rw [if_neg h, if_pos (by rw [jlt, jl9]; rw [jlt, jl0] at h; omega)]
      · unfold f_X12_aim
        rw [in_t (by rw [jl0, jl31]; omega), b1_some, if_neg (by decide), in_f (by rw [jl0, jl9]; omega), b1_some, if_pos rfl]
  · refine ⟨-1, s, -1, s, ?_, ?_, G, FrB.rf, rfl⟩
    · unfold f_X11_aim
      by_cases h : a0 < 0
      · rw [if_pos h]
      · rw [if_neg h, if_neg (by rw [jlt, jl32]; rw [jlt, jl0] at h; omega)]
    · unfold f_X12_aim
      rw [in_f (by rw [jl0, jl31]; omega), b1_some, if_pos rfl]
/-! ORDER, AIMED: the counters go back -/
theorem sa_order {s : SS} (G : GA s) : ∃ (rx : Int32) (s1 : SS) (rm : Int32) (s2 : SS), f_X11_order s = some (rx, s1) ∧ f_X12_order s1 = some (rm, s2) ∧ GA s2 ∧ FrB s s2 ∧ True := by
  have e := G.2.1.2.2.2.2.1
  by_cases c : zS s 34 3 = 0
  · refine ⟨-1, s, -1, s, ?_, ?_, G, FrB.rf, trivial⟩
    · unfold f_X11_order
      rw [if_pos c]
    · unfold f_X12_order
      rw [if_pos (by rw [← e]; exact c)]
  obtain ⟨⟨rx, s1⟩, ex, t, K1, e1⟩ := w_X6_leastLateness (Lk.rf G.1)
  have e1' : s1 = pS t 34 3 0 := e1
  have I1 : Iv s1 := by
    rw [e1']
    exact K1.1.wF (q := 34) (k := 3) (by decide) (by decide) ⟨by decide, by decide⟩
  have F1 := K1.2.2.a
  have f67 : zS s1 59 67 = zS s 34 3 := by
    rw [e1', zS_pS, if_neg (by decide), F1.1 59 67 rfl]
    exact e.symm
  obtain ⟨⟨rm, s2⟩, em, t2, K2, e2⟩ := w_X12_order (Lk.rf I1) (by rw [f67]; exact c)
  have e2' : s2 = pS t2 59 67 0 := e2
  have F2 := K2.2.2.a
  refine ⟨rx, s1, rm, s2, ?_, em, ⟨?_, ?_⟩, by rw [e2']; exact FrB.pS (FrB.tr (by rw [e1']; exact FrB.pS K1.2.2.b (by decide)) K2.2.2.b) (by decide), trivial⟩
  · unfold f_X11_order
    rw [if_neg c, ex]
    rfl
  · rw [e2']
    exact K2.1.wF (q := 59) (k := 67) (by decide) (by decide) ⟨by decide, by decide⟩
  · have h : ∀ q k, fSA q k = true → ¬ (q = 34 ∧ k = 3) → ¬ (q = 59 ∧ k = 67) → zS s2 q k = zS s q k := fun q k h h3 h4 => by rw [e2', zS_pS, if_neg h4, F2.1 q k h, e1', zS_pS, if_neg h3, F1.1 q k h]
    refine RG.cnt G.2 (fun q k h0 h1 h2 h3 h4 h5 h6 => h q k h0 h3 h4) ?_ ?_ ?_ (fun q j h0 => ?_) (fun q j h0 => ?_) (fun j => ?_)
    · rw [h 0 5 rfl (by decide) (by decide), h 59 30 rfl (by decide) (by decide)]
      exact G.2.1.2.1
    · rw [e2', zS_pS, if_neg (by decide), zS_pS, if_pos ⟨rfl, rfl⟩, F2.1 34 3 rfl, e1', zS_pS, if_pos ⟨rfl, rfl⟩]
    · rw [h 34 9 rfl (by decide) (by decide), h 59 76 rfl (by decide) (by decide)]
      exact G.2.1.2.2.2.2.2
    · rw [e2', zI_pS, F2.2.1 q j h0, e1', zI_pS, F1.2.1 q j h0]
    · rw [e2']
      show zJ t2 q j = _
      rw [F2.2.2 q j h0, e1']
      exact F1.2.2 q j h0
    · rw [e2']
      show zR t2 17 j = _
      rw [K2.zR_, e1']
      exact K1.zR_ 17 j
def AQ (s : SS) (a0 a1 a2 c : Int32) : Prop := (1 ≤ a0.toInt ∧ a0.toInt ≤ 4) ∧ (1 ≤ a1.toInt ∧ a1.toInt ≤ 60) ∧ (1 ≤ a2.toInt ∧ a2.toInt ≤ 2) ∧ ¬ c = 0 ∧ ¬ (a2 = 2 ∧ c < 2)
theorem aimedX {b0 s : SS} {a0 a1 a2 : Int32} (K : Lk b0 s) (h : AQ s a0 a1 a2 (zS s 34 9)) : Ok (f_X11_aimed s a0 a1 a2) (fun r => Zo b0 34 9 r.2) := by
  obtain ⟨h1, h2, h3, h4, h5⟩ := h
  unfold f_X11_aimed
  rw [if_neg (by rw [jlt, jl1]; omega), if_neg (by rw [jlt, jl4]; omega), yard_t h2, b1_some, if_neg (by decide), if_neg (by rw [jlt, jl1]; omega), if_neg (by rw [jlt, jl2]; omega), if_neg h4]
  have k8 : Ok (b1 (f_X6_weighPlaces s a0 a1) fun s10 => (jn (fun (s11 : SS) (t11_0 : Int32) => (st (pS s11 34 9 0) fun s12 => some (t11_0, s12))) fun k11 => (if a2 = (1 : Int32) then (bd (f_X6_soonestOne s10) fun r15 s15 => (k11 s15 r15)) else (bd (f_X6_soonestTwo s10) fun r14 s14 => (k11 s14 r14))))) (fun r => Zo b0 34 9 r.2) := by
    with_reducible refine Ok_b1 ((w_X6_weighPlaces K).mono (fun s10 K10 => ?_))
    with_reducible refine Ok_jn ?_
    with_reducible refine Ok_if (fun _ => ?_) (fun _ => ?_)
    · with_reducible refine Ok_bd ((w_X6_soonestOne K10).mono (fun r K => ?_))
      with_reducible refine Ok_st ?_
      exact Ok_some (Zo.mk K)
    · with_reducible refine Ok_bd ((w_X6_soonestTwo K10).mono (fun r K => ?_))
      with_reducible refine Ok_st ?_
      exact Ok_some (Zo.mk K)
  dsimp only [jn] at k8 ⊢
  by_cases c : a2 = 2
  · rw [if_pos c, if_neg (fun z => h5 ⟨c, z⟩)]
    exact k8
  · rw [if_neg c]
    exact k8
theorem aimedM {b0 s : SS} {a0 a1 a2 : Int32} (K : Lk b0 s) (h : AQ s a0 a1 a2 (zS s 59 76)) : Ok (f_X12_aimed s a0 a1 a2) (fun r => Zo b0 59 76 r.2) := by
  obtain ⟨h1, h2, h3, h4, h5⟩ := h
  unfold f_X12_aimed
  rw [in_t (by rw [jl1, jl4]; omega), b1_some, if_neg (by decide), in_t (by rw [jl1, jl60]; omega), b1_some, if_neg (by decide), in_t (by rw [jl1, jl2]; omega), b1_some, if_neg (by decide), if_neg h4]
  have k8 : Ok (f_X12_aimed_L61 (fun (s41 : SS) (x41_4 : Int32) => (st (pS s41 59 79 a2) fun s42 => (st (pS s42 59 76 0) fun s43 => some (x41_4, s43)))) a0 a1 a2 4000 s 2147483647 0) (fun r => Zo b0 59 76 r.2) := by
    refine w_X12_aimed_L61 (b0 := b0) h1 (fun s41 z0 K41 => ?_) 4000 s _ _ K (by decide) (by decide)
    with_reducible refine Ok_st ?_
    with_reducible refine Ok_st ?_
    exact Ok_some (Zo.mk (K41.wF (q := 59) (k := 79) (by decide) (by decide) (by decide) ⟨by omega, by omega⟩))
  dsimp only [jn]
  by_cases c : a2 = 2
  · rw [if_pos c, if_neg (fun z => h5 ⟨c, z⟩)]
    exact k8
  · rw [if_neg c]
    exact k8
theorem aimedNX {s : SS} {a0 a1 a2 : Int32} (h : ¬ AQ s a0 a1 a2 (zS s 34 9)) : ∃ v, f_X11_aimed s a0 a1 a2 = some (v, s) := by
  unfold f_X11_aimed
  by_cases c1 : a0 < 1
  · exact ⟨_, by rw [if_pos c1]⟩
  by_cases c2 : 4 < a0
  · exact ⟨_, by rw [if_neg c1, if_pos c2]⟩
  rw [if_neg c1, if_neg c2]
  rw [jlt, jl1] at c1
  rw [jlt, jl4] at c2
  by_cases c3 : 1 ≤ a1.toInt ∧ a1.toInt ≤ 60
  · rw [yard_t c3, b1_some, if_neg (by decide)]
    by_cases c4 : a2 < 1
    · exact ⟨_, by rw [if_pos c4]⟩
    by_cases c5 : 2 < a2
    · exact ⟨_, by rw [if_neg c4, if_pos c5]⟩
    rw [if_neg c4, if_neg c5]
    rw [jlt, jl1] at c4
    rw [jlt, jl2] at c5
    by_cases c6 : zS s 34 9 = 0
    · exact ⟨_, by rw [if_pos c6]⟩
    rw [if_neg c6]
    dsimp only [jn]
    by_cases c7 : a2 = 2 ∧ zS s 34 9 < 2
    · exact ⟨_, by rw [if_pos c7.1, if_pos c7.2]⟩
    · exact absurd ⟨⟨by omega, by omega⟩, c3, ⟨by omega, by omega⟩, c6, c7⟩ h
  · exact ⟨_, by rw [yard_f c3, b1_some, if_pos rfl]⟩
theorem aimedNM {s : SS} {a0 a1 a2 : Int32} (h : ¬ AQ s a0 a1 a2 (zS s 59 76)) : ∃ v, f_X12_aimed s a0 a1 a2 = some (v, s) := by
  unfold f_X12_aimed
  by_cases c1 : 1 ≤ a0.toInt ∧ a0.toInt ≤ 4
  · rw [in_t (by rw [jl1, jl4]; omega), b1_some, if_neg (by decide)]
    by_cases c3 : 1 ≤ a1.toInt ∧ a1.toInt ≤ 60
    · rw [in_t (by rw [jl1, jl60]; omega), b1_some, if_neg (by decide)]
      by_cases c4 : 1 ≤ a2.toInt ∧ a2.toInt ≤ 2
      · rw [in_t (by rw [jl1, jl2]; omega), b1_some, if_neg (by decide)]
        by_cases c6 : zS s 59 76 = 0
        · exact ⟨_, by rw [if_pos c6]⟩
        rw [if_neg c6]
        dsimp only [jn]
        by_cases c7 : a2 = 2 ∧ zS s 59 76 < 2
        · exact ⟨_, by rw [if_pos c7.1, if_pos c7.2]⟩
        · exact absurd ⟨c1, c3, c4, c6, c7⟩ h
      · exact ⟨_, by rw [in_f (by rw [jl1, jl2]; omega), b1_some, if_pos rfl]⟩
    · exact ⟨_, by rw [in_f (by rw [jl1, jl60]; omega), b1_some, if_pos rfl]⟩
  · exact ⟨_, by rw [in_f (by rw [jl1, jl4]; omega), b1_some, if_pos rfl]⟩
theorem sa_aimed {s : SS} (G : GA s) (a0 : Int32) (a1 : Int32) (a2 : Int32) : ∃ (rx : Int32) (s1 : SS) (rm : Int32) (s2 : SS), f_X11_aimed s a0 a1 a2 = some (rx, s1) ∧ f_X12_aimed s1 a0 a1 a2 = some (rm, s2) ∧ GA s2 ∧ FrB s s2 ∧ True := by
  have e := G.2.1.2.2.2.2.2
  by_cases c : AQ s a0 a1 a2 (zS s 34 9)
  · obtain ⟨⟨rx, s1⟩, ex, t, K1, e1⟩ := aimedX (Lk.rf G.1) c
    have e1' : s1 = pS t 34 9 0 := e1
    have I1 : Iv s1 := by
      rw [e1']
      exact K1.1.wF (q := 34) (k := 9) (by decide) (by decide) ⟨by decide, by decide⟩
    have F1 := K1.2.2.a
    have f76 : zS s1 59 76 = zS s 34 9 := by
      rw [e1', zS_pS, if_neg (by decide), F1.1 59 76 rfl]
      exact e.symm
    obtain ⟨⟨rm, s2⟩, em, t2, K2, e2⟩ := aimedM (Lk.rf I1) (a0 := a0) (a1 := a1) (a2 := a2) (by rw [f76]; exact c)
    have e2' : s2 = pS t2 59 76 0 := e2
    have F2 := K2.2.2.a
    refine ⟨rx, s1, rm, s2, ex, em, ⟨?_, ?_⟩, by rw [e2']; exact FrB.pS (FrB.tr (by rw [e1']; exact FrB.pS K1.2.2.b (by decide)) K2.2.2.b) (by decide), trivial⟩
    · rw [e2']
      exact K2.1.wF (q := 59) (k := 76) (by decide) (by decide) ⟨by decide, by decide⟩
    · have h : ∀ q k, fSA q k = true → ¬ (q = 34 ∧ k = 9) → ¬ (q = 59 ∧ k = 76) → zS s2 q k = zS s q k := fun q k h h3 h4 => by rw [e2', zS_pS, if_neg h4, F2.1 q k h, e1', zS_pS, if_neg h3, F1.1 q k h]
      refine RG.cnt G.2 (fun q k h0 h1 h2 h3 h4 h5 h6 => h q k h0 h5 h6) ?_ ?_ ?_ (fun q j h0 => ?_) (fun q j h0 => ?_) (fun j => ?_)
      · rw [h 0 5 rfl (by decide) (by decide), h 59 30 rfl (by decide) (by decide)]
        exact G.2.1.2.1
      · rw [h 34 3 rfl (by decide) (by decide), h 59 67 rfl (by decide) (by decide)]
        exact G.2.1.2.2.2.2.1
      · rw [e2', zS_pS, if_neg (by decide), zS_pS, if_pos ⟨rfl, rfl⟩, F2.1 34 9 rfl, e1', zS_pS, if_pos ⟨rfl, rfl⟩]
      · rw [e2', zI_pS, F2.2.1 q j h0, e1', zI_pS, F1.2.1 q j h0]
      · rw [e2']
        show zJ t2 q j = _
        rw [F2.2.2 q j h0, e1']
        exact F1.2.2 q j h0
      · rw [e2']
        show zR t2 17 j = _
        rw [K2.zR_, e1']
        exact K1.zR_ 17 j
  · obtain ⟨v, ex⟩ := aimedNX c
    obtain ⟨w, em⟩ := aimedNM (s := s) (a0 := a0) (a1 := a1) (a2 := a2) (by rw [← e]; exact c)
    exact ⟨v, s, w, s, ex, em, G, FrB.rf, trivial⟩
/-! SHELVES -/
theorem RG.sh {s r : SS} {i0 : Nat} (R : RG s) (hS : ∀ q k, fSA q k = true → q ≠ 47 + 2 * i0 → zS r q k = zS s q k) (hI : ∀ q j, fIA q = true → q ≠ 120 → q ≠ 121 → q ≠ 123 → zI r q j = zI s q j) (h120 : ∀ i, i ≠ i0 → zI r 120 i = zI s 120 i) (h121 : ∀ i, i ≠ i0 → zI r 121 i = zI s 121 i) (h123 : ∀ i j, i ≠ i0 → j < 60 → zI r 123 (60 * i + j) = zI s 123 (60 * i + j)) (hJ : ∀ i j, i ≠ i0 → i < 6 → zJ r (48 + 2 * i) j = zJ s (48 + 2 * i) j) (h122 : ∀ i j, i ≠ i0 → j < 60 → zJ r 122 (60 * i + j) = zJ s 122 (60 * i + j)) (hR : ∀ j, zR r 17 j = zR s 17 j) (hi0 : i0 < 6) (hN : SR r i0) : RG r := by
  obtain ⟨R1, R2, R3, R4, R5⟩ := R
  have e3 : zS r 15 3 = zS s 15 3 := hS 15 3 rfl (by omega)
  refine ⟨?_, ?_, ?_, ?_, ?_⟩
  · unfold RC
    rw [hS 0 15 rfl (by omega), hS 0 5 rfl (by omega), e3, hS 15 5 rfl (by omega), hS 34 3 rfl (by omega), hS 34 9 rfl (by omega), hS 59 29 rfl (by omega), hS 59 30 rfl (by omega), hS 59 4 rfl (by omega), hS 59 21 rfl (by omega), hS 59 67 rfl (by omega), hS 59 76 rfl (by omega)]
    exact R1
  · exact R2.c (fun q i h => hI q i (by rcases h with rfl | rfl | rfl | rfl | rfl | rfl <;> rfl) (by omega) (by omega) (by omega))
  · refine R3.c (fun i k hi hk => hS _ _ ?_ (by omega)) (fun i => hI 78 i rfl (by decide) (by decide) (by decide)) (fun i => hI 79 i rfl (by decide) (by decide) (by decide))
    have h : i = 0 ∨ i = 1 ∨ i = 2 := by omega
    have h' : k = 0 ∨ k = 1 := by omega
    rcases h with rfl | rfl | rfl <;> rcases h' with rfl | rfl <;> rfl
  · exact R4.c e3 (fun i => hI 16 i rfl (by decide) (by decide) (by decide)) hR
  · intro i hi
    by_cases c : i = i0
    · rw [c]; exact hN
    · have h : i = 0 ∨ i = 1 ∨ i = 2 ∨ i = 3 ∨ i = 4 ∨ i = 5 := by omega
      refine (R5 i hi).c (fun k hk => hS _ _ ?_ (by omega)) (h120 i c) (h121 i c) (fun j hj => h123 i j c hj) (fun j _ => hJ i j c hi) (fun j hj => h122 i j c hj) (by rw [e3]; exact Int.le_refl _)
      have h' : k = 0 ∨ k = 1 ∨ k = 2 ∨ k = 3 := by omega
      rcases h with rfl | rfl | rfl | rfl | rfl | rfl <;> rcases h' with rfl | rfl | rfl | rfl <;> rfl
theorem shelf_t {s : SS} {a : Int32} (I : Iv s) (h : 0 ≤ a.toInt ∧ a.toInt < 6) : f_X11_shelfOf s a = some (some (47 + 2 * a.toInt.toNat)) := by
  unfold f_X11_shelfOf
  rw [if_neg (by rw [jlt, jl0]; omega), if_pos (by rw [jlt, jl6]; omega), gd_t ⟨h.1, h.2⟩, I.1.1.2.2.2.2.2.2 _ (by omega)]
  rfl
theorem shelf_f {s : SS} {a : Int32} (h : ¬ (0 ≤ a.toInt ∧ a.toInt < 6)) : f_X11_shelfOf s a = some none := by
  unfold f_X11_shelfOf
  by_cases c : a < 0
  · rw [if_pos c]
  · rw [if_neg c, if_neg (by rw [jlt, jl6]; rw [jlt, jl0] at c; omega)]
theorem issh_t {a : Int32} (h : 0 ≤ a.toInt ∧ a.toInt < 6) : f_X12_isShelf a = some 1 := by
  unfold f_X12_isShelf
  rw [in_t (by rw [jl0, jl5]; omega)]
  rfl
theorem issh_f {a : Int32} (h : ¬ (0 ≤ a.toInt ∧ a.toInt < 6)) : f_X12_isShelf a = some 0 := by
  unfold f_X12_isShelf
  rw [in_f (by rw [jl0, jl5]; omega)]
  rfl
theorem okVi {i : Nat} (h : i < 6) : okV (47 + 2 * i) := ⟨by omega, by omega, by omega⟩
theorem fS_vk {q k i : Nat} (h : fSA q k = true) (hq : q ≠ 47 + 2 * i) {s : SS} {v : Int32} {k' : Nat} : zS (pS s (47 + 2 * i) k' v) q k = zS s q k := by rw [zS_pS, if_neg (fun z => hq z.1)]
theorem keepM {t : SS} {a0 a1 : Int32} (I : Iv t) (c : 0 ≤ a0.toInt ∧ a0.toInt < 6) (h : a1 = -1 ∨ (0 ≤ a1.toInt ∧ a1.toInt < (zS t 59 4).toInt)) : f_X12_keep t a0 a1 = some (1, pI t 120 a0.toInt.toNat a1) := by
  unfold f_X12_keep
  rw [issh_t c, b1_some, if_neg (by decide)]
  dsimp only [jn, st]
  by_cases d : a1 = -1
  · rw [if_pos d, gd_t ⟨c.1, c.2⟩]
  · rw [if_neg d, body_t I (h.resolve_left d), b1_some, if_neg (by decide), gd_t ⟨c.1, c.2⟩]
theorem sa_keep {s : SS} (G : GA s) (a0 : Int32) (a1 : Int32) : ∃ (rx : Int32) (s1 : SS) (rm : Int32) (s2 : SS), f_X11_keep s a0 a1 = some (rx, s1) ∧ f_X12_keep s1 a0 a1 = some (rm, s2) ∧ GA s2 ∧ FrB s s2 ∧ rx = rm := by
  have e := G.2.1.2.2.1
  have hf : 0 ≤ (zS s 15 3).toInt ∧ (zS s 15 3).toInt ≤ 120 := G.1.f (q := 15) (k := 3) rfl
  by_cases c : 0 ≤ a0.toInt ∧ a0.toInt < 6
  · obtain ⟨i, ei⟩ : ∃ i, i = a0.toInt.toNat := ⟨_, rfl⟩
    have hi : i < 6 := by omega
    by_cases d : a1 = -1 ∨ (0 ≤ a1.toInt ∧ a1.toInt < (zS s 15 3).toInt)
    · obtain ⟨w, ew⟩ : ∃ w : Int32, w = if a1 = -1 then 0 else 1 := ⟨_, rfl⟩
      have I1 : Iv (pS (pS s (47 + 2 * i) 0 w) (47 + 2 * i) 1 a1) := (G.1.wV (okVi hi) (k := 0) trivial).wV (okVi hi) (k := 1) trivial
      have f4 : ∀ q k, q ≠ 47 + 2 * i → zS (pS (pS s (47 + 2 * i) 0 w) (47 + 2 * i) 1 a1) q k = zS s q k := fun q k h => by rw [zS_pS, if_neg (fun z => h z.1), zS_pS, if_neg (fun z => h z.1)]
      refine ⟨1, pS (pS s (47 + 2 * i) 0 w) (47 + 2 * i) 1 a1, 1, pI (pS (pS s (47 + 2 * i) 0 w) (47 + 2 * i) 1 a1) 120 i a1, ?_, ?_, ⟨?_, ?_⟩, ((FrB.rf.pS (fSB_d (by omega))).pS (fSB_d (by omega))).pI (by decide), rfl⟩
      · unfold f_X11_keep
        rw [shelf_t G.1 c, b1_some, on_some, ← ei]
        dsimp only [jn, st]
        by_cases h : a1 = -1
        · rw [if_pos h] at ew
          rw [if_pos h, if_pos h, ew]
        · rw [if_neg h] at ew
          have b := G.1.a (q := 16) (i := a1.toInt.toNat) rfl
          rw [if_neg h, kind_t G.1 (d.resolve_left h), b1_some, if_neg (by rw [jlt, jl0]; have := b.1; omega), if_neg h, ew]
      · have := keepM I1 c (a1 := a1) (by rw [f4 59 4 (by omega), ← e]; exact d)
        rw [ei] at this ⊢
        exact this
      · refine I1.wI (q := 120) (by decide) ?_
        rcases d with d | d
        · rw [d]; exact ⟨by decide, by decide⟩
        · exact ⟨by omega, by omega⟩
      · refine RG.sh (i0 := i) G.2 (fun q k _ h => ?_) (fun q j _ h _ _ => ?_) (fun j h => ?_) (fun _ _ => rfl) (fun _ _ _ _ => rfl) (fun _ _ _ _ => rfl) (fun _ _ _ _ => rfl) (fun _ => rfl) hi ?_
        · rw [zS_pI, f4 q k h]
        · rw [zI_pI, if_neg (fun z => h z.1)]; rfl
        · rw [zI_pI, if_neg (fun z => h z.2)]; rfl
        · have z0 : zS (pI (pS (pS s (47 + 2 * i) 0 w) (47 + 2 * i) 1 a1) 120 i a1) (47 + 2 * i) 0 = w := by rw [zS_pI, zS_pS, if_neg (fun z => absurd z.2 (by decide)), zS_pS, if_pos ⟨rfl, rfl⟩]
          have z1 : zS (pI (pS (pS s (47 + 2 * i) 0 w) (47 + 2 * i) 1 a1) 120 i a1) (47 + 2 * i) 1 = a1 := by rw [zS_pI, zS_pS, if_pos ⟨rfl, rfl⟩]
          have z2 : zI (pI (pS (pS s (47 + 2 * i) 0 w) (47 + 2 * i) 1 a1) 120 i a1) 120 i = a1 := by rw [zI_pI, if_pos ⟨rfl, rfl⟩]
          have z3 : zS (pI (pS (pS s (47 + 2 * i) 0 w) (47 + 2 * i) 1 a1) 120 i a1) 15 3 = zS s 15 3 := by rw [zS_pI, f4 15 3 (by omega)]
          unfold SR
          rw [z0, z1, z2, z3]
          by_cases h : a1 = -1
          · rw [if_pos h] at ew
            exact Or.inl ⟨ew, h⟩
          · rw [if_neg h] at ew
            have := d.resolve_left h
            exact Or.inr (Or.inl ⟨ew, rfl, this.1, this.2⟩)
    · have d1 : ¬ a1 = -1 := fun z => d (Or.inl z)
      refine ⟨-1, s, -1, s, ?_, ?_, G, FrB.rf, rfl⟩
      · unfold f_X11_keep
        rw [shelf_t G.1 c, b1_some, on_some]
        dsimp only [jn, st]
        rw [if_neg d1, kind_f (fun z => d (Or.inr z)), b1_some, if_pos (by decide)]
      · unfold f_X12_keep
        rw [issh_t c, b1_some, if_neg (by decide)]
        dsimp only [jn, st]
        rw [if_neg d1, body_f G.1 (by rw [← e]; exact fun z => d (Or.inr z)), b1_some, if_pos rfl]
  · refine ⟨-1, s, -1, s, ?_, ?_, G, FrB.rf, rfl⟩
    · unfold f_X11_keep
      rw [shelf_f c, b1_some, on_none]
    · unfold f_X12_keep
      rw [issh_f c, b1_some, if_pos rfl]
/-- the reference's row is made empty -/
theorem rowL {a : Int32} {i : Nat} (ha : a = nI i) (hi : i < 6) : ∀ (n : Nat) (t : SS) (j : Nat), j ≤ 60 → 60 - j < n → ∃ u, f_X12_row_L54 a n t (nI (60 * i + j)) = some (1, u) ∧ u.1 = t.1 ∧ u.2.2.2 = t.2.2.2 ∧ (∀ q b, zI u q b = if q = 123 ∧ 60 * i + j ≤ b ∧ b < 60 * i + 60 then 0 else zI t q b) ∧ (∀ q b, zJ u q b = if q = 122 ∧ 60 * i + j ≤ b ∧ b < 60 * i + 60 then 0 else zJ t q b) ∧ (Iv t → Iv u) := by
  intro n
  induction n with
  | zero => intro t j h1 h2; omega
  | succ n ih =>
    intro t j h1 h2
    have tj : (nI (60 * i + j)).toInt = ((60 * i + j : Nat) : Int) := nI_t (by omega)
    have e60 : ((60 : Int32) * a + 60).toInt = ((60 * i + 60 : Nat) : Int) := by
      have j60 : (60 : Int32).toInt = 60 := rfl
      have ti : a.toInt = (i : Int) := by rw [ha]; exact nI_t (by omega)
      have m1 : ((60 : Int32) * a).toInt = 60 * a.toInt := by rw [i32_mul (by rw [j60]; omega) (by rw [j60]; omega), j60]
      rw [i32_add (by rw [m1, j60]; omega) (by rw [m1, j60]; omega), m1, j60]
      omega
    have un : f_X12_row_L54 a (n + 1) t (nI (60 * i + j)) = f_X12_row_L54_b a (f_X12_row_L54 a n) t (nI (60 * i + j)) := rfl
    rw [un]
    unfold f_X12_row_L54_b
    by_cases c : j < 60
    · rw [if_pos (by rw [jlt, tj, e60]; omega), gd_t ⟨by omega, by omega⟩]
      dsimp only [st, vl]
      rw [gd_t ⟨by omega, by omega⟩]
      have k1 : nI (60 * i + j) + 1 = nI (60 * i + (j + 1)) := by
        apply Int32.toInt_inj.1
        rw [i32_add (by rw [tj, jl1]; omega) (by rw [tj, jl1]; omega), tj, jl1, nI_t (by omega)]
        omega
      rw [k1, show (nI (60 * i + j)).toInt.toNat = 60 * i + j by omega]
      obtain ⟨u, h3, h4, h5, h6, h7, h8⟩ := ih (pI (pJ t 122 (60 * i + j) 0) 123 (60 * i + j) (0 &&& 1)) (j + 1) (by omega) (by omega)
      refine ⟨u, h3, h4, h5, fun q b => ?_, fun q b => ?_, fun I => h8 ((I.wJ).wI (q := 123) (by decide) trivial)⟩
      · rw [h6, zI_pI]
        by_cases d : q = 123 ∧ 60 * i + (j + 1) ≤ b ∧ b < 60 * i + 60
        · rw [if_pos d, if_pos ⟨d.1, by omega, d.2.2⟩]
        · rw [if_neg d]
          by_cases d2 : q = 123 ∧ b = 60 * i + j
          · rw [if_pos d2, if_pos ⟨d2.1, by omega, by omega⟩]
            decide
          · rw [if_neg d2, if_neg (by omega)]
            rfl
      · rw [h7]
        show (if q = 122 ∧ 60 * i + (j + 1) ≤ b ∧ b < 60 * i + 60 then 0 else (if q = 122 ∧ b = 60 * i + j then 0 else zJ t q b)) = _
        by_cases d : q = 122 ∧ 60 * i + (j + 1) ≤ b ∧ b < 60 * i + 60
        · rw [if_pos d, if_pos ⟨d.1, by omega, d.2.2⟩]
        · rw [if_neg d]
          by_cases d2 : q = 122 ∧ b = 60 * i + j
          · rw [if_pos d2, if_pos ⟨d2.1, by omega, by omega⟩]
          · rw [if_neg d2, if_neg (by omega)]
    · rw [if_neg (by rw [jlt, tj, e60]; omega)]
      refine ⟨t, rfl, rfl, rfl, fun q b => ?_, fun q b => ?_, fun I => I⟩
      · rw [if_neg (by omega)]
      · rw [if_neg (by omega)]
theorem sa_row {s : SS} (G : GA s) (a0 : Int32) (a1 : Int32) (a2 : Int32) : ∃ (rx : Int32) (s1 : SS) (rm : Int32) (s2 : SS), f_X11_row s a0 a1 a2 = some (rx, s1) ∧ f_X12_row s1 a0 a1 a2 = some (rm, s2) ∧ GA s2 ∧ FrB s s2 ∧ rx = rm := by
  by_cases c : 0 ≤ a0.toInt ∧ a0.toInt < 6
  · by_cases b : 0 ≤ a1.toInt ∧ a1.toInt ≤ 4
    · have bx : ¬ a1 < 0 ∧ ¬ 4 < a1 := ⟨by rw [jlt, jl0]; omega, by rw [jlt, jl4]; omega⟩
      by_cases d : 60 < a2
      · refine ⟨-1, s, -1, s, ?_, ?_, G, FrB.rf, rfl⟩
        · unfold f_X11_row
          rw [shelf_t G.1 c, b1_some, on_some, if_neg bx.1, if_neg bx.2, if_pos d]
        · unfold f_X12_row
          rw [issh_t c, b1_some, if_neg (by decide), in_t (by rw [jl0, jl4]; omega), b1_some, if_neg (by decide), if_pos d]
      by_cases d2 : a2 < 0
      · refine ⟨-14, s, -14, s, ?_, ?_, G, FrB.rf, rfl⟩
        · unfold f_X11_row
          rw [shelf_t G.1 c, b1_some, on_some, if_neg bx.1, if_neg bx.2, if_neg d, if_pos d2]
        · unfold f_X12_row
          rw [issh_t c, b1_some, if_neg (by decide), in_t (by rw [jl0, jl4]; omega), b1_some, if_neg (by decide), if_neg d, if_pos d2]
      have hl : 0 ≤ a2.toInt ∧ a2.toInt ≤ 60 := by rw [jlt, jl60] at d; rw [jlt, jl0] at d2; omega
      obtain ⟨i, ei⟩ : ∃ i, i = a0.toInt.toNat := ⟨_, rfl⟩
      have hi : i < 6 := by omega
      have ha : a0 = nI i := by rw [ei]; exact toN_ c.1
      have I1 : Iv (pG (pS (pS (pS s (47 + 2 * i) 0 2) (47 + 2 * i) 2 a1) (47 + 2 * i) 3 a2) (47 + 2 * i + 1) 0) := (((G.1.wV (okVi hi) (k := 0) trivial).wV (okVi hi) (k := 2) trivial).wV (okVi hi) (k := 3) ⟨hl.1, hl.2⟩).wG
      have n2 : (-2 - a1).toInt = -2 - a1.toInt := by rw [i32_sub (by rw [jn2]; omega) (by rw [jn2]; omega), jn2]
      have I2 := (I1.wI (q := 120) (i := i) (v := -2 - a1) (by decide) ⟨by omega, by omega⟩).wI (q := 121) (i := i) (v := a2) (by decide) ⟨hl.1, hl.2⟩
      obtain ⟨u, h3, h4, h5, h6, h7, h8⟩ := rowL ha hi 4000 (pI (pI (pG (pS (pS (pS s (47 + 2 * i) 0 2) (47 + 2 * i) 2 a1) (47 + 2 * i) 3 a2) (47 + 2 * i + 1) 0) 120 i (-2 - a1)) 121 i a2) 0 (by decide) (by decide)
      refine ⟨1, pG (pS (pS (pS s (47 + 2 * i) 0 2) (47 + 2 * i) 2 a1) (47 + 2 * i) 3 a2) (47 + 2 * i + 1) 0, 1, u, ?_, ?_, ⟨h8 I2, ?_⟩, ?_, rfl⟩
      · unfold f_X11_row f_X8_becomesRow
        rw [shelf_t G.1 c, b1_some, on_some, if_neg bx.1, if_neg bx.2, if_neg d, if_neg d2, ← ei]
        rfl
      · unfold f_X12_row
        rw [issh_t c, b1_some, if_neg (by decide), in_t (by rw [jl0, jl4]; omega), b1_some, if_neg (by decide), if_neg d, if_neg d2]
        dsimp only [vl, st]
        rw [gd_t ⟨c.1, c.2⟩, gd_t ⟨c.1, c.2⟩, ← ei]
        have e60 : (60 : Int32) * a0 = nI (60 * i + 0) := by
          apply Int32.toInt_inj.1
          have j60 : (60 : Int32).toInt = 60 := rfl
          rw [i32_mul (by rw [j60]; omega) (by rw [j60]; omega), j60, nI_t (by omega)]
          omega
        rw [e60]
        exact h3
      · have z : ∀ q k, zS u q k = zS (pS (pS (pS s (47 + 2 * i) 0 2) (47 + 2 * i) 2 a1) (47 + 2 * i) 3 a2) q k := fun q k => by
          show u.1 q k = _
          rw [h4]
          rfl
        have hJ : ∀ q b, zJ (pI (pI (pG (pS (pS (pS s (47 + 2 * i) 0 2) (47 + 2 * i) 2 a1) (47 + 2 * i) 3 a2) (47 + 2 * i + 1) 0) 120 i (-2 - a1)) 121 i a2) q b = if q = 47 + 2 * i + 1 then 0 else zJ s q b := fun _ _ => rfl
        refine RG.sh (i0 := i) G.2 (fun q k _ h => ?_) (fun q j _ h h' h'' => ?_) (fun j h => ?_) (fun j h => ?_) (fun j l h hl => ?_) (fun j l h hj => ?_) (fun j l h hl => ?_) (fun j => ?_) hi ?_
        · rw [z, zS_pS, if_neg (fun y => h y.1), zS_pS, if_neg (fun y => h y.1), zS_pS, if_neg (fun y => h y.1)]
        · rw [h6, if_neg (by omega), zI_pI, if_neg (by omega), zI_pI, if_neg (by omega)]; rfl
        · rw [h6, if_neg (by omega), zI_pI, if_neg (by omega), zI_pI, if_neg (by omega)]; rfl
        · rw [h6, if_neg (by omega), zI_pI, if_neg (by omega), zI_pI, if_neg (by omega)]; rfl
        · rw [h6, if_neg (by omega), zI_pI, if_neg (by omega), zI_pI, if_neg (by omega)]; rfl
        · rw [h7, if_neg (by omega), hJ, if_neg (by omega)]
        · rw [h7, if_neg (by omega), hJ, if_neg (by omega)]
        · show u.2.2.2.1 17 j = _
          rw [h5]
          rfl
        · refine Or.inr (Or.inr ⟨?_, ?_, ?_, ?_, fun j hj => Or.inl ⟨?_, ?_⟩⟩)
          · rw [z, zS_pS, if_neg (fun y => absurd y.2 (by decide)), zS_pS, if_neg (fun y => absurd y.2 (by decide)), zS_pS, if_pos ⟨rfl, rfl⟩]
          · rw [h6, if_neg (by omega), zI_pI, if_neg (by omega), zI_pI, if_pos ⟨rfl, rfl⟩, z, zS_pS, if_neg (fun y => absurd y.2 (by decide)), zS_pS, if_pos ⟨rfl, rfl⟩]
          · rw [z, zS_pS, if_neg (fun y => absurd y.2 (by decide)), zS_pS, if_pos ⟨rfl, rfl⟩]
            exact b
          · rw [h6, if_neg (by omega), zI_pI, if_pos ⟨rfl, rfl⟩, z, zS_pS, if_pos ⟨rfl, rfl⟩]
          · rw [h6, if_pos ⟨rfl, by omega, by omega⟩]
          · rw [h7, if_neg (by omega), hJ, if_pos (by omega), h7, if_pos ⟨rfl, by omega, by omega⟩]
      · have F1 : FrB s (pI (pI (pG (pS (pS (pS s (47 + 2 * i) 0 2) (47 + 2 * i) 2 a1) (47 + 2 * i) 3 a2) (47 + 2 * i + 1) 0) 120 i (-2 - a1)) 121 i a2) := FrB.pI (FrB.pI (show FrB s (pG _ _ _) from ((FrB.rf.pS (fSB_d (by omega))).pS (fSB_d (by omega))).pS (fSB_d (by omega))) (by decide)) (by decide)
        refine ⟨fun q k e => ?_, fun q j e => ?_⟩
        · show u.1 q k = _
          rw [h4]
          exact F1.1 q k e
        · rw [h6, if_neg (fun z => by rw [z.1] at e; exact absurd e (by decide))]
          exact F1.2 q j e
    · refine ⟨-1, s, -1, s, ?_, ?_, G, FrB.rf, rfl⟩
      · unfold f_X11_row
        rw [shelf_t G.1 c, b1_some, on_some]
        by_cases h : a1 < 0
        · rw [if_pos h]
        · rw [if_neg h, if_pos (by rw [jlt, jl4]; rw [jlt, jl0] at h; omega)]
      · unfold f_X12_row
        rw [issh_t c, b1_some, if_neg (by decide), in_f (by rw [jl0, jl4]; omega), b1_some, if_pos rfl]
  · refine ⟨-1, s, -1, s, ?_, ?_, G, FrB.rf, rfl⟩
    · unfold f_X11_row
      rw [shelf_f c, b1_some, on_none]
    · unfold f_X12_row
      rw [issh_f c, b1_some, if_pos rfl]
/-! PUT, BLANK, ELEMENT, TAKEN -/
/-- what shelf i says, in both -/
theorem SR.row {s : SS} {i : Nat} (R : SR s i) (h : zS s (47 + 2 * i) 0 = 2) : zI s 120 i = -2 - zS s (47 + 2 * i) 2 ∧ (0 ≤ (zS s (47 + 2 * i) 2).toInt ∧ (zS s (47 + 2 * i) 2).toInt ≤ 4) ∧ zS s (47 + 2 * i) 3 = zI s 121 i ∧ ∀ j, j < 60 → (zI s 123 (60 * i + j) = 0 ∧ zJ s (48 + 2 * i) j = zJ s 122 (60 * i + j)) ∨ (zI s 123 (60 * i + j) = 1 ∧ zJ s (48 + 2 * i) j = 9223372036854775807) := by
  rcases R with R | R | R
  · rw [R.1] at h; exact absurd h (by decide)
  · rw [R.1] at h; exact absurd h (by decide)
  · exact R.2
theorem SR.neg {s : SS} {i : Nat} (R : SR s i) (h : zS s (47 + 2 * i) 0 = 2) : (zI s 120 i).toInt = -2 - (zS s (47 + 2 * i) 2).toInt := by
  obtain ⟨r1, r2, _⟩ := R.row h
  rw [r1, i32_sub (by rw [jn2]; omega) (by rw [jn2]; omega), jn2]
theorem SR.case {s : SS} {i : Nat} (R : SR s i) : (zS s (47 + 2 * i) 0 = 0 ∧ zI s 120 i = -1) ∨ (zS s (47 + 2 * i) 0 = 1 ∧ 0 ≤ (zI s 120 i).toInt) ∨ zS s (47 + 2 * i) 0 = 2 := by
  rcases R with R | R | R
  · exact Or.inl R
  · exact Or.inr (Or.inl ⟨R.1, R.2.2.1⟩)
  · exact Or.inr (Or.inr R.1)
def RPl (s : SS) (i : Nat) (a : Int32) : Prop := 0 ≤ a.toInt ∧ a.toInt < (zS s (47 + 2 * i) 3).toInt
theorem why_t {s : SS} {a0 a1 : Int32} {i : Nat} (I : Iv s) (R : SR s i) (c : 0 ≤ a0.toInt ∧ a0.toInt < 6) (ei : i = a0.toInt.toNat) (h2 : zS s (47 + 2 * i) 0 = 2) (h : RPl s i a1) : f_X12_whyNoPlace s a0 a1 = some 0 ∧ f_X8_refusal s (47 + 2 * i) a1 = some 0 := by
  have hv := I.v3 (okVi (show i < 6 by omega))
  have hn := R.neg h2
  obtain ⟨r1, r2, r3, _⟩ := R.row h2
  obtain ⟨p1, p2⟩ := h
  refine ⟨?_, ?_⟩
  · unfold f_X12_whyNoPlace
    rw [issh_t c, b1_some, if_neg (by decide), gd_t ⟨c.1, c.2⟩, ← ei, if_neg (fun z => by rw [z, jn1] at hn; omega), gd_t ⟨c.1, c.2⟩, if_pos (by rw [jlt, jl0]; omega), gd_t ⟨c.1, c.2⟩, in_t (by rw [jl0, ← r3, i32_sub (by rw [jl1]; omega) (by rw [jl1]; omega), jl1]; omega), b1_some, if_neg (by decide)]
  · unfold f_X8_refusal
    rw [if_neg (by rw [h2]; decide), if_pos h2, if_neg (by rw [jlt, jl0]; omega), if_pos (by rw [jlt]; omega)]
theorem why_f {s : SS} {a0 a1 : Int32} {i : Nat} (I : Iv s) (R : SR s i) (c : 0 ≤ a0.toInt ∧ a0.toInt < 6) (ei : i = a0.toInt.toNat) (h : ¬ (zS s (47 + 2 * i) 0 = 2 ∧ RPl s i a1)) : ∃ v : Int32, v < 0 ∧ ¬ v = 0 ∧ f_X12_whyNoPlace s a0 a1 = some v ∧ f_X8_refusal s (47 + 2 * i) a1 = some v := by
  have hv := I.v3 (okVi (show i < 6 by omega))
  rcases R.case with R1 | R1 | R1
  · refine ⟨-11, by decide, by decide, ?_, ?_⟩
    · unfold f_X12_whyNoPlace
      rw [issh_t c, b1_some, if_neg (by decide), gd_t ⟨c.1, c.2⟩, ← ei, if_pos R1.2]
    · unfold f_X8_refusal
      rw [if_pos R1.1]
  · refine ⟨-12, by decide, by decide, ?_, ?_⟩
    · unfold f_X12_whyNoPlace
      rw [issh_t c, b1_some, if_neg (by decide), gd_t ⟨c.1, c.2⟩, ← ei, if_neg (fun z => by rw [z, jn1] at R1; omega), gd_t ⟨c.1, c.2⟩, if_neg (by rw [jlt, jl0]; omega)]
    · unfold f_X8_refusal
      rw [if_neg (by rw [R1.1]; decide), if_neg (by rw [R1.1]; decide)]
  · have hp : ¬ RPl s i a1 := fun z => h ⟨R1, z⟩
    have hn := R.neg R1
    obtain ⟨r1, r2, r3, _⟩ := R.row R1
    unfold RPl at hp
    refine ⟨-13, by decide, by decide, ?_, ?_⟩
    · unfold f_X12_whyNoPlace
      rw [issh_t c, b1_some, if_neg (by decide), gd_t ⟨c.1, c.2⟩, ← ei, if_neg (fun z => by rw [z, jn1] at hn; omega), gd_t ⟨c.1, c.2⟩, if_pos (by rw [jlt, jl0]; omega), gd_t ⟨c.1, c.2⟩, in_f (by rw [jl0, ← r3, i32_sub (by rw [jl1]; omega) (by rw [jl1]; omega), jl1]; omega), b1_some, if_pos rfl]
    · unfold f_X8_refusal
      rw [if_neg (by rw [R1]; decide), if_pos R1]
      by_cases d : a1 < 0
      · rw [if_pos d]
      · rw [if_neg d, if_neg (by rw [jlt]; rw [jlt, jl0] at d; omega)]
theorem sa_element {s : SS} (G : GA s) (a0 : Int32) (a1 : Int32) : ∃ (rx : Int64) (s1 : SS) (rm : Int64) (s2 : SS), f_X11_element s a0 a1 = some rx ∧ f_X12_element s a0 a1 = some rm ∧ GA s ∧ rx = rm := by
  by_cases c : 0 ≤ a0.toInt ∧ a0.toInt < 6
  · obtain ⟨i, ei⟩ : ∃ i, i = a0.toInt.toNat := ⟨_, rfl⟩
    have hi : i < 6 := by omega
    have R := G.2.2.2.2.2 i hi
    have hv := G.1.v3 (okVi hi)
    by_cases d : zS s (47 + 2 * i) 0 = 2 ∧ RPl s i a1
    · obtain ⟨w1, w2⟩ := why_t G.1 R c ei d.1 d.2
      obtain ⟨p1, p2⟩ := d.2
      have ex : ((60 : Int32) * a0 + a1).toInt = 60 * a0.toInt + a1.toInt := by
        have j60 : (60 : Int32).toInt = 60 := rfl
        have m1 : ((60 : Int32) * a0).toInt = 60 * a0.toInt := by rw [i32_mul (by rw [j60]; omega) (by rw [j60]; omega), j60]
        rw [i32_add (by rw [m1]; omega) (by rw [m1]; omega), m1]
      have nx : ((60 : Int32) * a0 + a1).toInt.toNat = 60 * i + a1.toInt.toNat := by omega
      have gx : inB ((60 : Int32) * a0 + a1) 360 := ⟨by omega, by omega⟩
      obtain ⟨_, _, _, r4⟩ := R.row d.1
      have hx : f_X11_element s a0 a1 = some (zJ s (48 + 2 * i) a1.toInt.toNat) := by
        unfold f_X11_element
        rw [shelf_t G.1 c, b1_some, on_some, ← ei, w2, b1_some, if_pos rfl, gd_t ⟨by omega, by omega⟩, show 47 + 2 * i + 1 = 48 + 2 * i by omega]
      rcases r4 a1.toInt.toNat (by omega) with z | z
      · refine ⟨_, s, _, s, hx, ?_, G, z.2⟩
        unfold f_X12_element
        rw [w1, b1_some, if_neg (by decide)]
        dsimp only [vl]
        rw [gd_t gx, nx, if_pos z.1, gd_t gx]
      · refine ⟨_, s, 9223372036854775807, s, hx, ?_, G, z.2⟩
        unfold f_X12_element
        rw [w1, b1_some, if_neg (by decide)]
        dsimp only [vl]
        rw [gd_t gx, nx, if_neg (by rw [z.1]; decide)]
    · obtain ⟨v, v1, v2, v3, v4⟩ := why_f G.1 R c ei d
      refine ⟨-9223372036854775808, s, -9223372036854775808, s, ?_, ?_, G, rfl⟩
      · unfold f_X11_element
        rw [shelf_t G.1 c, b1_some, on_some, ← ei, v4, b1_some, if_neg v2]
      · unfold f_X12_element
        rw [v3, b1_some, if_pos v1]
  · refine ⟨-9223372036854775808, s, -9223372036854775808, s, ?_, ?_, G, rfl⟩
    · unfold f_X11_element
      rw [shelf_f c, b1_some, on_none]
    · unfold f_X12_element f_X12_whyNoPlace
      rw [issh_f c, b1_some, if_pos rfl, b1_some, if_pos (by decide)]
theorem ch16 (a : Int64) : ((a.toInt32.toUInt32 % 65536).toInt32).toInt64 = a &&& 65535 := by
  apply Int64.toBitVec_inj.1
  have e1 : (a.toInt32.toUInt32 % 65536).toInt32.toBitVec = (a.toBitVec.setWidth 32) % 65536#32 := by
    show (a.toInt32.toUInt32 % 65536).toBitVec = _
    rw [UInt32.toBitVec_mod]
    show a.toInt32.toBitVec % _ = _
    rw [Int64.toBitVec_toInt32, BitVec.signExtend_eq_setWidth_of_le _ (by decide)]
    rfl
  have e2 : ((a.toInt32.toUInt32 % 65536).toInt32).toInt64.toBitVec = ((a.toInt32.toUInt32 % 65536).toInt32.toBitVec).signExtend 64 := rfl
  have e3 : (a &&& 65535).toBitVec = a.toBitVec &&& 65535#64 := by rw [Int64.toBitVec_and]; rfl
  rw [e2, e1, e3]
  have hm : ((a.toBitVec.setWidth 32) % 65536#32).msb = false := by
    rw [BitVec.msb_eq_decide, BitVec.toNat_umod]
    simp only [decide_eq_false_iff_not]
    have : (BitVec.setWidth 32 a.toBitVec).toNat % (65536#32).toNat < 65536 := Nat.mod_lt _ (by decide)
    omega
  rw [BitVec.signExtend_eq_setWidth_of_msb_false hm]
  apply BitVec.eq_of_toNat_eq
  rw [BitVec.toNat_setWidth, BitVec.toNat_umod, BitVec.toNat_setWidth, BitVec.toNat_and]
  show a.toBitVec.toNat % 4294967296 % 65536 % 18446744073709551616 = a.toBitVec.toNat &&& (2 ^ 16 - 1)
  rw [Nat.and_two_pow_sub_one_eq_mod]
  omega
theorem real_e {s : SS} {a0 : Int32} {i : Nat} (R : SR s i) (c : 0 ≤ a0.toInt ∧ a0.toInt < 6) (ei : i = a0.toInt.toNat) : ∃ v, f_X8_isReal s (47 + 2 * i) = some v ∧ f_X12_isReals s a0 = some v ∧ (v = 0 ∨ (v = 1 ∧ zS s (47 + 2 * i) 0 = 2)) := by
  unfold f_X8_isReal f_X12_isReals
  rcases R.case with R1 | R1 | R1
  · refine ⟨0, ?_, ?_, Or.inl rfl⟩
    · rw [if_neg (by rw [R1.1]; decide)]
    · rw [gd_t ⟨c.1, c.2⟩, ← ei, if_neg (by rw [R1.2]; decide), gd_t ⟨c.1, c.2⟩, if_neg (by rw [R1.2]; decide)]
  · refine ⟨0, ?_, ?_, Or.inl rfl⟩
    · rw [if_neg (by rw [R1.1]; decide)]
    · rw [gd_t ⟨c.1, c.2⟩, ← ei, if_neg (fun z => by rw [z, jn5] at R1; omega), gd_t ⟨c.1, c.2⟩, if_neg (fun z => by rw [z, jn6] at R1; omega)]
  · have hn := R.neg R1
    obtain ⟨r1, r2, _⟩ := R.row R1
    rw [if_pos R1, gd_t ⟨c.1, c.2⟩, ← ei, gd_t ⟨c.1, c.2⟩]
    by_cases d : zS s (47 + 2 * i) 2 = 3
    · refine ⟨1, by rw [if_pos d], ?_, Or.inr ⟨rfl, R1⟩⟩
      rw [if_pos (by rw [r1, d]; decide)]
    · by_cases d2 : zS s (47 + 2 * i) 2 = 4
      · refine ⟨1, by rw [if_neg d, if_pos d2], ?_, Or.inr ⟨rfl, R1⟩⟩
        rw [if_neg (by rw [r1, d2]; decide), if_pos (by rw [r1, d2]; decide)]
      · rw [jeq, show (3 : Int32).toInt = 3 from rfl] at d
        rw [jeq, show (4 : Int32).toInt = 4 from rfl] at d2
        refine ⟨0, ?_, ?_, Or.inl rfl⟩
        · rw [if_neg (by rw [jeq]; exact d), if_neg (by rw [jeq]; exact d2)]
        · rw [if_neg (fun z => by rw [z, jn5] at hn; omega), if_neg (fun z => by rw [z, jn6] at hn; omega)]
theorem nar {s : SS} {i : Nat} {a : Int64} (R : SR s i) (h : zS s (47 + 2 * i) 0 = 2) : ∃ v, f_X8_narrowed s (47 + 2 * i) a = some v ∧ ∀ (ρ : Type) (k : Int64 → Option ρ), (if -2 - zI s 120 i = (0 : Int32) then k a.toInt32.toInt8.toInt32.toInt64 else (if -2 - zI s 120 i = (1 : Int32) then k (a &&& 65535) else (if -2 - zI s 120 i = (2 : Int32) then k a.toInt32.toInt64 else k a))) = k v := by
  obtain ⟨r1, r2, _⟩ := R.row h
  have e : -2 - zI s 120 i = zS s (47 + 2 * i) 2 := by
    rw [r1]
    apply Int32.toInt_inj.1
    have n2 : (-2 - zS s (47 + 2 * i) 2).toInt = -2 - (zS s (47 + 2 * i) 2).toInt := by rw [i32_sub (by rw [jn2]; omega) (by rw [jn2]; omega), jn2]
    rw [i32_sub (by rw [jn2, n2]; omega) (by rw [jn2, n2]; omega), n2, jn2]
    omega
  unfold f_X8_narrowed
  by_cases c0 : zS s (47 + 2 * i) 2 = 0
  · exact ⟨_, by rw [if_pos c0], fun ρ k => by rw [if_pos (by rw [e]; exact c0)]⟩
  by_cases c1 : zS s (47 + 2 * i) 2 = 1
  · exact ⟨_, by rw [if_neg c0, if_pos c1, ch16], fun ρ k => by rw [if_neg (by rw [e]; exact c0), if_pos (by rw [e]; exact c1)]⟩
  by_cases c2 : zS s (47 + 2 * i) 2 = 2
  · exact ⟨_, by rw [if_neg c0, if_neg c1, if_pos c2], fun ρ k => by rw [if_neg (by rw [e]; exact c0), if_neg (by rw [e]; exact c1), if_pos (by rw [e]; exact c2)]⟩
  · exact ⟨_, by rw [if_neg c0, if_neg c1, if_neg c2], fun ρ k => by rw [if_neg (by rw [e]; exact c0), if_neg (by rw [e]; exact c1), if_neg (by rw [e]; exact c2)]⟩
theorem ix60 {a b : Int32} (ha : 0 ≤ a.toInt ∧ a.toInt < 6) (hb : 0 ≤ b.toInt ∧ b.toInt ≤ 60) : ((60 : Int32) * a + b).toInt = 60 * a.toInt + b.toInt := by
  have j60 : (60 : Int32).toInt = 60 := rfl
  have m1 : ((60 : Int32) * a).toInt = 60 * a.toInt := by rw [i32_mul (by rw [j60]; omega) (by rw [j60]; omega), j60]
  rw [i32_add (by rw [m1]; omega) (by rw [m1]; omega), m1]
theorem zJ_pJ (s : SS) (q k a b : Nat) (w : Int64) : zJ (pJ s q k w) a b = if a = q ∧ b = k then w else zJ s a b := rfl
theorem zI_J (s : SS) (q i : Nat) (w : Int64) (a : Nat) : zI (pJ s q i w) a = zI s a := rfl
theorem reals_c {s t : SS} (h : zI t 120 = zI s 120) (a : Int32) : f_X12_isReals t a = f_X12_isReals s a := by
  unfold f_X12_isReals
  rw [h]
theorem why_c {s t : SS} (h : zI t 120 = zI s 120) (h' : zI t 121 = zI s 121) (a b : Int32) : f_X12_whyNoPlace t a b = f_X12_whyNoPlace s a b := by
  unfold f_X12_whyNoPlace
  rw [h, h']
/-- an element of a row is written in both -/
theorem RG.elt {s : SS} {i m : Nat} {w w' : Int64} {f : Int32} (G : GA s) (hi : i < 6) (h2 : zS s (47 + 2 * i) 0 = 2) (hm : m < 60) (hf : (f = 0 ∧ w = w') ∨ (f = 1 ∧ w = 9223372036854775807)) : RG (pI (pJ (pJ s (48 + 2 * i) m w) 122 (60 * i + m) w') 123 (60 * i + m) f) := by
  obtain ⟨r1, r2, r3, r4⟩ := (G.2.2.2.2.2 i hi).row h2
  refine RG.sh (i0 := i) G.2 (fun q k _ _ => rfl) (fun q j _ h h' h'' => ?_) (fun j h => rfl) (fun j h => rfl) (fun j l h hl => ?_) (fun j l h hj => ?_) (fun j l h hl => ?_) (fun j => rfl) hi ?_
  · rw [zI_pI, if_neg (by omega)]; rfl
  · rw [zI_pI, if_neg (by omega)]; rfl
  · show zJ (pJ (pJ s (48 + 2 * i) m w) 122 (60 * i + m) w') (48 + 2 * j) l = _
    rw [zJ_pJ, if_neg (by omega), zJ_pJ, if_neg (by omega)]
  · show zJ (pJ (pJ s (48 + 2 * i) m w) 122 (60 * i + m) w') 122 (60 * j + l) = _
    rw [zJ_pJ, if_neg (by omega), zJ_pJ, if_neg (by omega)]
  · refine Or.inr (Or.inr ⟨h2, r1, r2, r3, fun j hj => ?_⟩)
    have e1 : zI (pI (pJ (pJ s (48 + 2 * i) m w) 122 (60 * i + m) w') 123 (60 * i + m) f) 123 (60 * i + j) = if j = m then f else zI s 123 (60 * i + j) := by
      rw [zI_pI]
      by_cases c : j = m
      · rw [if_pos ⟨rfl, by omega⟩, if_pos c]
      · rw [if_neg (by omega), if_neg c]; rfl
    have e2 : zJ (pI (pJ (pJ s (48 + 2 * i) m w) 122 (60 * i + m) w') 123 (60 * i + m) f) (48 + 2 * i) j = if j = m then w else zJ s (48 + 2 * i) j := by
      show zJ (pJ (pJ s (48 + 2 * i) m w) 122 (60 * i + m) w') (48 + 2 * i) j = _
      rw [zJ_pJ, if_neg (by omega), zJ_pJ]
      by_cases c : j = m
      · rw [if_pos ⟨rfl, c⟩, if_pos c]
      · rw [if_neg (by omega), if_neg c]
    have e3 : zJ (pI (pJ (pJ s (48 + 2 * i) m w) 122 (60 * i + m) w') 123 (60 * i + m) f) 122 (60 * i + j) = if j = m then w' else zJ s 122 (60 * i + j) := by
      show zJ (pJ (pJ s (48 + 2 * i) m w) 122 (60 * i + m) w') 122 (60 * i + j) = _
      rw [zJ_pJ]
      by_cases c : j = m
      · rw [if_pos ⟨rfl, by omega⟩, if_pos c]
      · rw [if_neg (by omega), if_neg c, zJ_pJ, if_neg (by omega)]
    rw [e1, e2, e3]
    by_cases c : j = m
    · rw [if_pos c, if_pos c, if_pos c]
      exact hf
    · rw [if_neg c, if_neg c, if_neg c]
      exact r4 j hj
theorem sa_put {s : SS} (G : GA s) (a0 : Int32) (a1 : Int32) (a2 : Int64) : ∃ (rx : Int32) (s1 : SS) (rm : Int32) (s2 : SS), f_X11_put s a0 a1 a2 = some (rx, s1) ∧ f_X12_put s1 a0 a1 a2 = some (rm, s2) ∧ GA s2 ∧ FrB s s2 ∧ rx = rm := by
  by_cases c : 0 ≤ a0.toInt ∧ a0.toInt < 6
  · obtain ⟨i, ei⟩ : ∃ i, i = a0.toInt.toNat := ⟨_, rfl⟩
    have hi : i < 6 := by omega
    have R := G.2.2.2.2.2 i hi
    have hv := G.1.v3 (okVi hi)
    obtain ⟨v, v1, v2, v3⟩ := real_e R c ei
    by_cases b : v = 0 ∨ (¬ lg_cmp a2 (-9999) < 0 ∧ ¬ 0 < lg_cmp a2 9999)
    · have bx : ∀ (ρ : Type) (A k : Option ρ), (if v = 0 then k else (if lg_cmp a2 (-9999) < 0 then A else (if 0 < lg_cmp a2 9999 then A else k))) = k := fun ρ A k => by
        rcases b with b | b
        · rw [if_pos b]
        · by_cases z : v = 0
          · rw [if_pos z]
          · rw [if_neg z, if_neg b.1, if_neg b.2]
      by_cases d : zS s (47 + 2 * i) 0 = 2 ∧ RPl s i a1
      · obtain ⟨w1, w2⟩ := why_t G.1 R c ei d.1 d.2
        obtain ⟨p1, p2⟩ := d.2
        obtain ⟨x, x1, x2⟩ := nar (a := a2) R d.1
        have ex := ix60 c (b := a1) (by omega)
        have nx : ((60 : Int32) * a0 + a1).toInt.toNat = 60 * i + a1.toInt.toNat := by omega
        have gx : inB ((60 : Int32) * a0 + a1) 360 := ⟨by omega, by omega⟩
        have hx : f_X11_put s a0 a1 a2 = some (1, pJ s (48 + 2 * i) a1.toInt.toNat x) := by
          unfold f_X11_put
          rw [shelf_t G.1 c, b1_some, on_some, ← ei, v1, b1_some]
          dsimp only [jn, st]
          rw [bx, w2, b1_some, if_pos rfl, x1, b1_some, gd_t ⟨by omega, by omega⟩, if_pos rfl, show 47 + 2 * i + 1 = 48 + 2 * i by omega]
        have hM : ∀ t, zI t 120 = zI s 120 → f_X12_isReals t a0 = some v → f_X12_whyNoPlace t a0 a1 = some 0 → f_X12_put t a0 a1 a2 = some (1, pI (pJ t 122 (60 * i + a1.toInt.toNat) x) 123 (60 * i + a1.toInt.toNat) (0 &&& 1)) := by
          intro t e1 e2 e3
          have bj : ∀ K A : Option (Int32 × SS), (jn K fun k4 => if v = 0 then k4 else (if lg_cmp a2 (-9999) < 0 then A else (if 0 < lg_cmp a2 9999 then A else k4))) = K := fun K A => bx _ A K
          have xj : ∀ K : Int64 → Option (Int32 × SS), (vl (-2 - zI s 120 i) fun v8 => jn K fun k10 => (if v8 = (0 : Int32) then (k10 a2.toInt32.toInt8.toInt32.toInt64) else (if v8 = (1 : Int32) then (k10 (a2 &&& 65535)) else (if v8 = (2 : Int32) then (k10 a2.toInt32.toInt64) else (k10 a2))))) = K x := fun K => by
            rw [vl, jn]
            exact x2 _ K
          unfold f_X12_put
          rw [issh_t c, b1_some, if_neg (by decide), e2, b1_some, bj, e3, b1_some, if_neg (by decide), gd_t ⟨c.1, c.2⟩, ← ei, e1, xj]
          show gd _ _ = _
          rw [gd_t gx]
          show gd _ _ = _
          rw [gd_t gx, nx]
          rfl
        refine ⟨1, pJ s (48 + 2 * i) a1.toInt.toNat x, 1, pI (pJ (pJ s (48 + 2 * i) a1.toInt.toNat x) 122 (60 * i + a1.toInt.toNat) x) 123 (60 * i + a1.toInt.toNat) (0 &&& 1), hx, ?_, ⟨?_, ?_⟩, FrB.pI (show FrB s (pJ _ _ _ _) from FrB.rf) (by decide), rfl⟩
        · exact hM _ (zI_J s _ _ _ 120) (by rw [reals_c (zI_J s _ _ _ 120)]; exact v2) (by rw [why_c (zI_J s _ _ _ 120) (zI_J s _ _ _ 121)]; exact w1)
        · exact (G.1.wJ.wJ).wI (q := 123) (by decide) trivial
        · exact RG.elt G hi d.1 (by omega) (Or.inl ⟨by decide, rfl⟩)
      · obtain ⟨y, y1, y2, y3, y4⟩ := why_f G.1 R c ei d
        refine ⟨y, s, y, s, ?_, ?_, G, FrB.rf, rfl⟩
        · unfold f_X11_put
          rw [shelf_t G.1 c, b1_some, on_some, ← ei, v1, b1_some]
          dsimp only [jn, st]
          rw [bx, y4, b1_some, if_neg y2, if_neg y2]
        · unfold f_X12_put
          rw [issh_t c, b1_some, if_neg (by decide), v2, b1_some]
          dsimp only [jn]
          rw [bx, y3, b1_some, if_pos y1]
    · have b0 : ¬ v = 0 := fun z => b (Or.inl z)
      have b1' : ¬ (¬ lg_cmp a2 (-9999) < 0 ∧ ¬ 0 < lg_cmp a2 9999) := fun z => b (Or.inr z)
      refine ⟨-1, s, -1, s, ?_, ?_, G, FrB.rf, rfl⟩
      · unfold f_X11_put
        rw [shelf_t G.1 c, b1_some, on_some, ← ei, v1, b1_some]
        dsimp only [jn]
        rw [if_neg b0]
        by_cases z : lg_cmp a2 (-9999) < 0
        · rw [if_pos z]
        · rw [if_neg z, if_pos (Classical.byContradiction fun y => b1' ⟨z, y⟩)]
      · unfold f_X12_put
        rw [issh_t c, b1_some, if_neg (by decide), v2, b1_some]
        dsimp only [jn]
        rw [if_neg b0]
        by_cases z : lg_cmp a2 (-9999) < 0
        · rw [if_pos z]
        · rw [if_neg z, if_pos (Classical.byContradiction fun y => b1' ⟨z, y⟩)]
  · refine ⟨-1, s, -1, s, ?_, ?_, G, FrB.rf, rfl⟩
    · unfold f_X11_put
      rw [shelf_f c, b1_some, on_none]
    · unfold f_X12_put
      rw [issh_f c, b1_some, if_pos rfl]
theorem sa_blank {s : SS} (G : GA s) (a0 : Int32) (a1 : Int32) : ∃ (rx : Int32) (s1 : SS) (rm : Int32) (s2 : SS), f_X11_blank s a0 a1 = some (rx, s1) ∧ f_X12_blank s1 a0 a1 = some (rm, s2) ∧ GA s2 ∧ FrB s s2 ∧ rx = rm := by
  by_cases c : 0 ≤ a0.toInt ∧ a0.toInt < 6
  · obtain ⟨i, ei⟩ : ∃ i, i = a0.toInt.toNat := ⟨_, rfl⟩
    have hi : i < 6 := by omega
    have R := G.2.2.2.2.2 i hi
    have hv := G.1.v3 (okVi hi)
    obtain ⟨v, v1, v2, v3⟩ := real_e R c ei
    rcases R.case with R1 | R1 | R1
    · refine ⟨-11, s, -11, s, ?_, ?_, G, FrB.rf, rfl⟩
      · unfold f_X11_blank f_X8_refusal
        rw [shelf_t G.1 c, b1_some, on_some, ← ei]
        dsimp only [jn, st]
        rw [if_neg (by rw [R1.1]; decide), if_pos R1.1, b1_some, if_neg (by decide), if_neg (by decide)]
      · unfold f_X12_blank
        rw [issh_t c, b1_some, if_neg (by decide), gd_t ⟨c.1, c.2⟩, ← ei, if_pos R1.2]
    · refine ⟨-12, s, -12, s, ?_, ?_, G, FrB.rf, rfl⟩
      · unfold f_X11_blank f_X8_refusal
        rw [shelf_t G.1 c, b1_some, on_some, ← ei]
        dsimp only [jn, st]
        rw [if_neg (by rw [R1.1]; decide), if_neg (by rw [R1.1]; decide), if_neg (by rw [R1.1]; decide), b1_some, if_neg (by decide), if_neg (by decide)]
      · have v0 : v = 0 := v3.resolve_right (fun z => by rw [R1.1] at z; exact absurd z.2 (by decide))
        unfold f_X12_blank
        rw [issh_t c, b1_some, if_neg (by decide), gd_t ⟨c.1, c.2⟩, ← ei, if_neg (fun z => by rw [z, jn1] at R1; omega), v2, b1_some, if_pos v0]
    · have hn := R.neg R1
      obtain ⟨r1, r2, r3, _⟩ := R.row R1
      have n1 : ¬ zI s 120 i = -1 := fun z => by rw [z, jn1] at hn; omega
      by_cases b : v = 0
      · refine ⟨-12, s, -12, s, ?_, ?_, G, FrB.rf, rfl⟩
        · unfold f_X11_blank
          rw [shelf_t G.1 c, b1_some, on_some, ← ei]
          dsimp only [jn, st]
          rw [if_pos R1, v1, b1_some, if_pos b]
        · unfold f_X12_blank
          rw [issh_t c, b1_some, if_neg (by decide), gd_t ⟨c.1, c.2⟩, ← ei, if_neg n1, v2, b1_some, if_pos b]
      by_cases d : RPl s i a1
      · obtain ⟨w1, w2⟩ := why_t G.1 R c ei R1 d
        obtain ⟨p1, p2⟩ := d
        have ex := ix60 c (b := a1) (by omega)
        have nx : ((60 : Int32) * a0 + a1).toInt.toNat = 60 * i + a1.toInt.toNat := by omega
        have gx : inB ((60 : Int32) * a0 + a1) 360 := ⟨by omega, by omega⟩
        have hM : ∀ t, zI t = zI s → f_X12_isReals t a0 = some v → f_X12_blank t a0 a1 = some (1, pI t 123 (60 * i + a1.toInt.toNat) (1 &&& 1)) := by
          intro t e1 e2
          unfold f_X12_blank
          rw [issh_t c, b1_some, if_neg (by decide), gd_t ⟨c.1, c.2⟩, ← ei, e1, if_neg n1, e2, b1_some, if_neg b, gd_t ⟨c.1, c.2⟩, in_t (by rw [jl0, ← r3, i32_sub (by rw [jl1]; omega) (by rw [jl1]; omega), jl1]; omega), b1_some, if_neg (by decide)]
          dsimp only [vl, st]
          rw [gd_t gx, nx]
        refine ⟨1, pJ s (48 + 2 * i) a1.toInt.toNat 9223372036854775807, 1, pI (pJ s (48 + 2 * i) a1.toInt.toNat 9223372036854775807) 123 (60 * i + a1.toInt.toNat) (1 &&& 1), ?_, hM _ rfl (by rw [reals_c (zI_J s _ _ _ 120)]; exact v2), ⟨?_, ?_⟩, FrB.pI (show FrB s (pJ _ _ _ _) from FrB.rf) (by decide), rfl⟩
        · unfold f_X11_blank
          rw [shelf_t G.1 c, b1_some, on_some, ← ei]
          dsimp only [jn, st]
          rw [if_pos R1, v1, b1_some, if_neg b, w2, b1_some, if_pos rfl, gd_t ⟨by omega, by omega⟩, if_pos rfl, show 47 + 2 * i + 1 = 48 + 2 * i by omega]
        · exact (G.1.wJ).wI (q := 123) (by decide) trivial
        · have e := RG.elt G hi R1 (m := a1.toInt.toNat) (by omega) (w := 9223372036854775807) (w' := zJ s 122 (60 * i + a1.toInt.toNat)) (f := 1 &&& 1) (Or.inr ⟨by decide, rfl⟩)
          have es : pJ (pJ s (48 + 2 * i) a1.toInt.toNat 9223372036854775807) 122 (60 * i + a1.toInt.toNat) (zJ s 122 (60 * i + a1.toInt.toNat)) = pJ s (48 + 2 * i) a1.toInt.toNat 9223372036854775807 := by
            have hz : up2 (up2 s.2.2.1 (48 + 2 * i) a1.toInt.toNat 9223372036854775807) 122 (60 * i + a1.toInt.toNat) (zJ s 122 (60 * i + a1.toInt.toNat)) = up2 s.2.2.1 (48 + 2 * i) a1.toInt.toNat 9223372036854775807 := by
              funext q b
              unfold up2
              by_cases z : q = 122 ∧ b = 60 * i + a1.toInt.toNat
              · rw [if_pos z, if_neg (by omega), z.1, z.2]
                rfl
              · rw [if_neg z]
            show (s.1, s.2.1, up2 (up2 s.2.2.1 (48 + 2 * i) a1.toInt.toNat 9223372036854775807) 122 (60 * i + a1.toInt.toNat) (zJ s 122 (60 * i + a1.toInt.toNat)), s.2.2.2) = _
            rw [hz]
            rfl
          rw [es] at e
          exact e
      · obtain ⟨y, y1, y2, y3, y4⟩ := why_f G.1 R c ei (fun z => d z.2)
        refine ⟨-13, s, -13, s, ?_, ?_, G, FrB.rf, rfl⟩
        · unfold RPl at d
          unfold f_X11_blank f_X8_refusal
          rw [shelf_t G.1 c, b1_some, on_some, ← ei]
          dsimp only [jn, st]
          rw [if_pos R1, v1, b1_some, if_neg b, if_neg (by rw [R1]; decide), if_pos R1]
          by_cases z : a1 < 0
          · rw [if_pos z, b1_some, if_neg (by decide), if_neg (by decide)]
          · rw [if_neg z, if_neg (by rw [jlt]; rw [jlt, jl0] at z; omega), b1_some, if_neg (by decide), if_neg (by decide)]
        · unfold RPl at d
          unfold f_X12_blank
          rw [issh_t c, b1_some, if_neg (by decide), gd_t ⟨c.1, c.2⟩, ← ei, if_neg n1, v2, b1_some, if_neg b, gd_t ⟨c.1, c.2⟩, in_f (by rw [jl0, ← r3, i32_sub (by rw [jl1]; omega) (by rw [jl1]; omega), jl1]; omega), b1_some, if_pos rfl]
  · refine ⟨-1, s, -1, s, ?_, ?_, G, FrB.rf, rfl⟩
    · unfold f_X11_blank
      rw [shelf_f c, b1_some, on_none]
    · unfold f_X12_blank
      rw [issh_f c, b1_some, if_pos rfl]
/-! SHIFT -/
theorem ix3 {a b : Int32} {x i p : Nat} (ha : a.toInt = (i : Int)) (hb : b.toInt = (p : Int)) (hi : i < 6) (hp : p + x < 60) : ((60 : Int32) * a + b + nI x).toInt = ((60 * i + p + x : Nat) : Int) := by
  have j60 : (60 : Int32).toInt = 60 := rfl
  have tx : (nI x).toInt = (x : Int) := nI_t (by omega)
  have m1 : ((60 : Int32) * a).toInt = 60 * a.toInt := by rw [i32_mul (by rw [j60]; omega) (by rw [j60]; omega), j60]
  have m2 : ((60 : Int32) * a + b).toInt = 60 * a.toInt + b.toInt := by rw [i32_add (by rw [m1]; omega) (by rw [m1]; omega), m1]
  rw [i32_add (by rw [m2, tx]; omega) (by rw [m2, tx]; omega), m2, tx]
  omega
theorem shA {a0 a1 a2 a3 a4 : Int32} {i p m : Nat} {q0 : SS → Option (Int32 × SS)} (ha : a0.toInt = (i : Int)) (hp : a1.toInt = (p : Int)) (hm : a4.toInt = (m : Int)) (hi : i < 6) (hpm : p + m ≤ 60) : ∀ (n : Nat) (t : SS) (j : Nat), j ≤ m → m - j < n → ∃ u, f_X12_shift_L113 q0 a0 a1 a2 a3 a4 n t (nI j) = q0 u ∧ u.1 = t.1 ∧ u.2.2.2 = t.2.2.2 ∧ (∀ q b, zI u q b = if q = 125 ∧ j ≤ b ∧ b < m then zI t 123 (60 * i + p + b) &&& 1 else zI t q b) ∧ (∀ q b, zJ u q b = if q = 124 ∧ j ≤ b ∧ b < m then zJ t 122 (60 * i + p + b) else zJ t q b) ∧ (Iv t → Iv u) := by
  intro n
  induction n with
  | zero => intro t j h1 h2; omega
  | succ n ih =>
    intro t j h1 h2
    have tj : (nI j).toInt = (j : Int) := nI_t (by omega)
    have un : f_X12_shift_L113 q0 a0 a1 a2 a3 a4 (n + 1) t (nI j) = f_X12_shift_L113_b q0 a0 a1 a2 a3 a4 (f_X12_shift_L113 q0 a0 a1 a2 a3 a4 n) t (nI j) := rfl
    rw [un]
    unfold f_X12_shift_L113_b
    by_cases c : j < m
    · have ex := ix3 ha hp hi (x := j) (by omega)
      have gx : inB ((60 : Int32) * a0 + a1 + nI j) 360 := ⟨by omega, by omega⟩
      have gj : inB (nI j) 60 := ⟨by omega, by omega⟩
      have nx : ((60 : Int32) * a0 + a1 + nI j).toInt.toNat = 60 * i + p + j := by omega
      have k1 : nI j + 1 = nI (j + 1) := by
        apply Int32.toInt_inj.1
        rw [i32_add (by rw [tj, jl1]; omega) (by rw [tj, jl1]; omega), tj, jl1, nI_t (by omega)]
        omega
      rw [if_pos (by rw [jlt]; omega), vl, gd_t gx, wl, gd_t gj, st, vl, gd_t gx, vl, gd_t gj, st, vl, k1, nx, show (nI j).toInt.toNat = j by omega]
      obtain ⟨u, h3, h4, h5, h6, h7, h8⟩ := ih (pI (pJ t 124 j (zJ t 122 (60 * i + p + j))) 125 j (zI (pJ t 124 j (zJ t 122 (60 * i + p + j))) 123 (60 * i + p + j) &&& 1)) (j + 1) (by omega) (by omega)
      refine ⟨u, h3, h4, h5, fun q b => ?_, fun q b => ?_, fun I => h8 ((I.wJ).wI (q := 125) (by decide) trivial)⟩
      · rw [h6, zI_pI, if_neg (show ¬ (123 = 125 ∧ 60 * i + p + b = j) by omega), zI_pI]
        by_cases d : q = 125 ∧ j + 1 ≤ b ∧ b < m
        · rw [if_pos d, if_pos ⟨d.1, by omega, d.2.2⟩]; rfl
        · rw [if_neg d]
          by_cases d2 : q = 125 ∧ b = j
          · rw [if_pos d2, if_pos ⟨d2.1, by omega, by omega⟩, d2.2]; rfl
          · rw [if_neg d2, if_neg (by omega)]; rfl
      · rw [h7]
        have e1 : ∀ a b', zJ (pI (pJ t 124 j (zJ t 122 (60 * i + p + j))) 125 j (zI (pJ t 124 j (zJ t 122 (60 * i + p + j))) 123 (60 * i + p + j) &&& 1)) a b' = if a = 124 ∧ b' = j then zJ t 122 (60 * i + p + j) else zJ t a b' := fun _ _ => rfl
        rw [e1, e1, if_neg (show ¬ (122 = 124 ∧ 60 * i + p + b = j) by omega)]
        by_cases d : q = 124 ∧ j + 1 ≤ b ∧ b < m
        · rw [if_pos d, if_pos ⟨d.1, by omega, d.2.2⟩]
        · rw [if_neg d]
          by_cases d2 : q = 124 ∧ b = j
          · rw [if_pos d2, if_pos ⟨d2.1, by omega, by omega⟩, d2.2]
          · rw [if_neg d2, if_neg (by omega)]
    · rw [if_neg (by rw [jlt]; omega)]
      refine ⟨t, rfl, rfl, rfl, fun q b => ?_, fun q b => ?_, fun I => I⟩
      · rw [if_neg (by omega)]
      · rw [if_neg (by omega)]
theorem shB {a2 a3 a4 : Int32} {i p m : Nat} (ha : a2.toInt = (i : Int)) (hp : a3.toInt = (p : Int)) (hm : a4.toInt = (m : Int)) (hi : i < 6) (hpm : p + m ≤ 60) : ∀ (n : Nat) (t : SS) (j : Nat), j ≤ m → m - j < n → ∃ u, f_X12_shift_L171 a2 a3 a4 n t (nI j) = some (a4, u) ∧ u.1 = t.1 ∧ u.2.2.2 = t.2.2.2 ∧ (∀ q b, zI u q b = if q = 123 ∧ 60 * i + p + j ≤ b ∧ b < 60 * i + p + m then zI t 125 (b - (60 * i + p)) &&& 1 else zI t q b) ∧ (∀ q b, zJ u q b = if q = 122 ∧ 60 * i + p + j ≤ b ∧ b < 60 * i + p + m then zJ t 124 (b - (60 * i + p)) else zJ t q b) ∧ (Iv t → Iv u) := by
  intro n
  induction n with
  | zero => intro t j h1 h2; omega
  | succ n ih =>
    intro t j h1 h2
    have tj : (nI j).toInt = (j : Int) := nI_t (by omega)
    have un : f_X12_shift_L171 a2 a3 a4 (n + 1) t (nI j) = f_X12_shift_L171_b a2 a3 a4 (f_X12_shift_L171 a2 a3 a4 n) t (nI j) := rfl
    rw [un]
    unfold f_X12_shift_L171_b
    by_cases c : j < m
    · have ex := ix3 ha hp hi (x := j) (by omega)
      have gx : inB ((60 : Int32) * a2 + a3 + nI j) 360 := ⟨by omega, by omega⟩
      have gj : inB (nI j) 60 := ⟨by omega, by omega⟩
      have nx : ((60 : Int32) * a2 + a3 + nI j).toInt.toNat = 60 * i + p + j := by omega
      have k1 : nI j + 1 = nI (j + 1) := by
        apply Int32.toInt_inj.1
        rw [i32_add (by rw [tj, jl1]; omega) (by rw [tj, jl1]; omega), tj, jl1, nI_t (by omega)]
        omega
      rw [if_pos (by rw [jlt]; omega), gd_t gj, wl, vl, gd_t gx, st, gd_t gj, vl, vl, gd_t gx, st, vl, k1, nx, show (nI j).toInt.toNat = j by omega]
      obtain ⟨u, h3, h4, h5, h6, h7, h8⟩ := ih (pI (pJ t 122 (60 * i + p + j) (zJ t 124 j)) 123 (60 * i + p + j) (zI (pJ t 122 (60 * i + p + j) (zJ t 124 j)) 125 j &&& 1)) (j + 1) (by omega) (by omega)
      refine ⟨u, h3, h4, h5, fun q b => ?_, fun q b => ?_, fun I => h8 ((I.wJ).wI (q := 123) (by decide) trivial)⟩
      · rw [h6, zI_pI, if_neg (show ¬ (125 = 123 ∧ b - (60 * i + p) = 60 * i + p + j) by omega), zI_pI]
        by_cases d : q = 123 ∧ 60 * i + p + (j + 1) ≤ b ∧ b < 60 * i + p + m
        · rw [if_pos d, if_pos ⟨d.1, by omega, d.2.2⟩]; rfl
        · rw [if_neg d]
          by_cases d2 : q = 123 ∧ b = 60 * i + p + j
          · rw [if_pos d2, if_pos ⟨d2.1, by omega, by omega⟩, d2.2, show 60 * i + p + j - (60 * i + p) = j by omega]; rfl
          · rw [if_neg d2, if_neg (by omega)]; rfl
      · rw [h7]
        have e1 : ∀ a b', zJ (pI (pJ t 122 (60 * i + p + j) (zJ t 124 j)) 123 (60 * i + p + j) (zI (pJ t 122 (60 * i + p + j) (zJ t 124 j)) 125 j &&& 1)) a b' = if a = 122 ∧ b' = 60 * i + p + j then zJ t 124 j else zJ t a b' := fun _ _ => rfl
        rw [e1, e1, if_neg (show ¬ (124 = 122 ∧ b - (60 * i + p) = 60 * i + p + j) by omega)]
        by_cases d : q = 122 ∧ 60 * i + p + (j + 1) ≤ b ∧ b < 60 * i + p + m
        · rw [if_pos d, if_pos ⟨d.1, by omega, d.2.2⟩]
        · rw [if_neg d]
          by_cases d2 : q = 122 ∧ b = 60 * i + p + j
          · rw [if_pos d2, if_pos ⟨d2.1, by omega, by omega⟩, d2.2, show 60 * i + p + j - (60 * i + p) = j by omega]
          · rw [if_neg d2, if_neg (by omega)]
    · rw [if_neg (by rw [jlt]; omega)]
      refine ⟨t, rfl, rfl, rfl, fun q b => ?_, fun q b => ?_, fun I => I⟩
      · rw [if_neg (by omega)]
      · rw [if_neg (by omega)]
def HP (s : SS) (i : Nat) (a c : Int32) : Prop := 0 ≤ a.toInt ∧ 0 ≤ c.toInt ∧ a.toInt + c.toInt ≤ (zS s (47 + 2 * i) 3).toInt
theorem hp_t {s : SS} {i : Nat} {a c : Int32} (I : Iv s) (hi : i < 6) (h : HP s i a c) : f_X8_hasPlaces s (47 + 2 * i) a c = some 1 := by
  have hv := I.v3 (okVi hi)
  obtain ⟨h1, h2, h3⟩ := h
  unfold f_X8_hasPlaces
  rw [if_neg (by rw [jlt, jl0]; omega), if_neg (by rw [jlt, jl0]; omega), if_neg (by rw [jlt]; omega), if_neg (by rw [jlt, i32_sub (by omega) (by omega)]; omega)]
theorem hp_f {s : SS} {i : Nat} {a c : Int32} (I : Iv s) (hi : i < 6) (h : ¬ HP s i a c) : f_X8_hasPlaces s (47 + 2 * i) a c = some 0 := by
  have hv := I.v3 (okVi hi)
  unfold HP at h
  unfold f_X8_hasPlaces
  by_cases c1 : a < 0
  · rw [if_pos c1]
  rw [if_neg c1]
  by_cases c2 : c < 0
  · rw [if_pos c2]
  rw [if_neg c2]
  by_cases c3 : zS s (47 + 2 * i) 3 < c
  · rw [if_pos c3]
  rw [jlt, jl0] at c1 c2
  rw [if_neg c3, if_pos]
  rw [jlt] at c3
  rw [jlt, i32_sub (by omega) (by omega)]
  omega
theorem fl1 {f : Int32} (h : f = 0 ∨ f = 1) : (f &&& 1) &&& 1 = f := by
  rcases h with rfl | rfl <;> decide
theorem sa_shift {s : SS} (G : GA s) (a0 : Int32) (a1 : Int32) (a2 : Int32) (a3 : Int32) (a4 : Int32) : ∃ (rx : Int32) (s1 : SS) (rm : Int32) (s2 : SS), f_X11_shift s a0 a1 a2 a3 a4 = some (rx, s1) ∧ f_X12_shift s1 a0 a1 a2 a3 a4 = some (rm, s2) ∧ GA s2 ∧ FrB s s2 ∧ rx = rm := by
  by_cases c : 0 ≤ a0.toInt ∧ a0.toInt < 6
  · by_cases b : 0 ≤ a2.toInt ∧ a2.toInt < 6
    · obtain ⟨i, ei⟩ : ∃ i, i = a0.toInt.toNat := ⟨_, rfl⟩
      obtain ⟨k, ek⟩ : ∃ k, k = a2.toInt.toNat := ⟨_, rfl⟩
      have hi : i < 6 := by omega
      have hk : k < 6 := by omega
      have Ri := G.2.2.2.2.2 i hi
      have Rk := G.2.2.2.2.2 k hk
      have vi := G.1.v3 (okVi hi)
      have vk := G.1.v3 (okVi hk)
      have g0 : inB a0 6 := ⟨c.1, c.2⟩
      have g2 : inB a2 6 := ⟨b.1, b.2⟩
      have X : f_X11_shift s a0 a1 a2 a3 a4 = (if (zS s (47 + 2 * i) 0) = (0 : Int32) then some ((-11), s) else (if (zS s (47 + 2 * k) 0) = (0 : Int32) then some ((-11), s) else (if (zS s (47 + 2 * i) 0) = (2 : Int32) then (if (zS s (47 + 2 * k) 0) = (2 : Int32) then (if (zS s (47 + 2 * i) 2) = (zS s (47 + 2 * k) 2) then (b1 (f_X8_hasPlaces s (47 + 2 * i) a1 a4) fun r10 => (if r10 = (0 : Int32) then some ((-13), s) else (b1 (f_X8_hasPlaces s (47 + 2 * k) a3 a4) fun r12 => (if r12 = (0 : Int32) then some ((-13), s) else (gd (¬ a1 < 0 ∧ ¬ a3 < 0 ∧ ¬ a4 < 0 ∧ a1.toNatClampNeg + a4.toNatClampNeg ≤ 60 ∧ a3.toNatClampNeg + a4.toNatClampNeg ≤ 60) (st (pK s (47 + 2 * i + 1) (47 + 2 * k + 1) a1.toNatClampNeg a3.toNatClampNeg a4.toNatClampNeg) fun s14 => some (a4, s14))))))) else some ((-12), s)) else some ((-12), s)) else some ((-12), s)))) := by
        unfold f_X11_shift
        rw [shelf_t G.1 c, b1_some, on_some, shelf_t G.1 b, b1_some, on_some, ← ei, ← ek]
      have M : ∀ t, f_X12_shift t a0 a1 a2 a3 a4 = (if (zI t 120 i) = ((-1) : Int32) then some ((-11), t) else (if (zI t 120 k) = ((-1) : Int32) then some ((-11), t) else (if (zI t 120 i) < (0 : Int32) then (if (zI t 120 i) = (zI t 120 k) then (if a4 < (0 : Int32) then some ((-13), t) else (if a1 < (0 : Int32) then some ((-13), t) else (if a3 < (0 : Int32) then some ((-13), t) else (if ((zI t 121 i) - a4) < a1 then some ((-13), t) else (if ((zI t 121 k) - a4) < a3 then some ((-13), t) else (f_X12_shift_L113 (fun (s34 : SS)  => (f_X12_shift_L171 a2 a3 a4 4000 s34 0)) a0 a1 a2 a3 a4 4000 t 0)))))) else some ((-12), t)) else some ((-12), t)))) := by
        intro t
        unfold f_X12_shift
        rw [issh_t c, b1_some, if_neg (by decide), issh_t b, b1_some, if_neg (by decide), gd_t g0, gd_t g2, gd_t g0, gd_t g0, gd_t g2, gd_t g0, gd_t g2, ← ei, ← ek]
      rcases Ri.case with R1 | R1 | R1
      · refine ⟨-11, s, -11, s, ?_, ?_, G, FrB.rf, rfl⟩
        · rw [X, if_pos R1.1]
        · rw [M, if_pos R1.2]
      · have n1 : ¬ zI s 120 i = -1 := fun z => by rw [z, jn1] at R1; omega
        rcases Rk.case with Q1 | Q1 | Q1
        · refine ⟨-11, s, -11, s, ?_, ?_, G, FrB.rf, rfl⟩
          · rw [X, if_neg (by rw [R1.1]; decide), if_pos Q1.1]
          · rw [M, if_neg n1, if_pos Q1.2]
        · refine ⟨-12, s, -12, s, ?_, ?_, G, FrB.rf, rfl⟩
          · rw [X, if_neg (by rw [R1.1]; decide), if_neg (by rw [Q1.1]; decide), if_neg (by rw [R1.1]; decide)]
          · rw [M, if_neg n1, if_neg (fun z => by rw [z, jn1] at Q1; omega), if_neg (by rw [jlt, jl0]; omega)]
        · have hn := Rk.neg Q1
          have r2 := (Rk.row Q1).2.1
          refine ⟨-12, s, -12, s, ?_, ?_, G, FrB.rf, rfl⟩
          · rw [X, if_neg (by rw [R1.1]; decide), if_neg (by rw [Q1]; decide), if_neg (by rw [R1.1]; decide)]
          · rw [M, if_neg n1, if_neg (fun z => by rw [z, jn1] at hn; omega), if_neg (by rw [jlt, jl0]; omega)]
      · have hn := Ri.neg R1
        obtain ⟨r1, r2, r3, r4⟩ := Ri.row R1
        have n1 : ¬ zI s 120 i = -1 := fun z => by rw [z, jn1] at hn; omega
        have n2 : zI s 120 i < 0 := by rw [jlt, jl0]; omega
        have nz : ¬ zS s (47 + 2 * i) 0 = 0 := by rw [R1]; decide
        rcases Rk.case with Q1 | Q1 | Q1
        · refine ⟨-11, s, -11, s, ?_, ?_, G, FrB.rf, rfl⟩
          · rw [X, if_neg nz, if_pos Q1.1]
          · rw [M, if_neg n1, if_pos Q1.2]
        · refine ⟨-12, s, -12, s, ?_, ?_, G, FrB.rf, rfl⟩
          · rw [X, if_neg nz, if_neg (by rw [Q1.1]; decide), if_pos R1, if_neg (by rw [Q1.1]; decide)]
          · rw [M, if_neg n1, if_neg (fun z => by rw [z, jn1] at Q1; omega), if_pos n2, if_neg (fun z => by rw [z] at n2; rw [jlt, jl0] at n2; omega)]
        · have hq := Rk.neg Q1
          obtain ⟨q1, q2, q3, q4⟩ := Rk.row Q1
          have m1 : ¬ zI s 120 k = -1 := fun z => by rw [z, jn1] at hq; omega
          have mz : ¬ zS s (47 + 2 * k) 0 = 0 := by rw [Q1]; decide
          by_cases d : zS s (47 + 2 * i) 2 = zS s (47 + 2 * k) 2
          · have d' : zI s 120 i = zI s 120 k := by rw [r1, q1, d]
            by_cases h1 : HP s i a1 a4 ∧ HP s k a3 a4
            · obtain ⟨⟨p1, p2, p3⟩, ⟨p4, p5, p6⟩⟩ := h1
              obtain ⟨sp, esp⟩ : ∃ x, x = a1.toInt.toNat := ⟨_, rfl⟩
              obtain ⟨dp, edp⟩ : ∃ x, x = a3.toInt.toNat := ⟨_, rfl⟩
              obtain ⟨m, em⟩ : ∃ x, x = a4.toInt.toNat := ⟨_, rfl⟩
              obtain ⟨t, et⟩ : ∃ t, t = pK s (47 + 2 * i + 1) (47 + 2 * k + 1) sp dp m := ⟨_, rfl⟩
              have tI : ∀ q, zI t q = zI s q := fun q => by rw [et]; rfl
              have tS : ∀ q x, zS t q x = zS s q x := fun q x => by rw [et]; rfl
              have tR : t.2.2.2 = s.2.2.2 := by rw [et]; rfl
              have tJ : ∀ q x, zJ t q x = if q = 47 + 2 * k + 1 then va_cpy (zJ s (47 + 2 * i + 1)) (zJ s (47 + 2 * k + 1)) sp dp m x else zJ s q x := fun q x => by rw [et]; rfl
              have It : Iv t := by rw [et]; exact G.1.wK
              obtain ⟨u, h3, h4, h5, h6, h7, h8⟩ := shA (a0 := a0) (a1 := a1) (a2 := a2) (a3 := a3) (a4 := a4) (i := i) (p := sp) (m := m) (q0 := fun (s34 : SS)  => (f_X12_shift_L171 a2 a3 a4 4000 s34 0)) (by omega) (by omega) (by omega) hi (by omega) 4000 t 0 (by omega) (by omega)
              obtain ⟨w, k3, k4, k5, k6, k7, k8⟩ := shB (a2 := a2) (a3 := a3) (a4 := a4) (i := k) (p := dp) (m := m) (by omega) (by omega) (by omega) hk (by omega) 4000 u 0 (by omega) (by omega)
              refine ⟨a4, t, a4, w, ?_, ?_, ⟨k8 (h8 It), ?_⟩, ?_, rfl⟩
              · rw [X, if_neg nz, if_neg mz, if_pos R1, if_pos Q1, if_pos d, hp_t G.1 hi ⟨p1, p2, p3⟩, b1_some, if_neg (by decide), hp_t G.1 hk ⟨p4, p5, p6⟩, b1_some, if_neg (by decide), gd_t ⟨by rw [jlt, jl0]; omega, by rw [jlt, jl0]; omega, by rw [jlt, jl0]; omega, by rw [jcl, jcl]; omega, by rw [jcl, jcl]; omega⟩, et, esp, edp, em]
                rfl
              · rw [M, tI, tI, if_neg n1, if_neg m1, if_pos n2, if_pos d', if_neg (by rw [jlt, jl0]; omega), if_neg (by rw [jlt, jl0]; omega), if_neg (by rw [jlt, jl0]; omega), if_neg (by rw [← r3, jlt, i32_sub (by omega) (by omega)]; omega), if_neg (by rw [← q3, jlt, i32_sub (by omega) (by omega)]; omega)]
                exact h3.trans k3
              · have wS : ∀ q x, zS w q x = zS s q x := fun q x => by
                  show w.1 q x = _
                  rw [k4, h4]
                  exact tS q x
                have wI : ∀ q x, q ≠ 123 → q ≠ 125 → zI w q x = zI s q x := fun q x z1 z2 => by rw [k6, if_neg (by omega), h6, if_neg (by omega), tI]
                refine RG.sh (i0 := k) G.2 (fun q x _ _ => wS q x) (fun q j hq _ _ h123 => wI q j h123 (fun z => by rw [z] at hq; exact absurd hq (by decide))) (fun j _ => wI 120 j (by decide) (by decide)) (fun j _ => wI 121 j (by decide) (by decide)) (fun j l hj hl => ?_) (fun j l hj hl => ?_) (fun j l hj hl => ?_) (fun j => ?_) hk ?_
                · rw [k6, if_neg (by omega), h6, if_neg (by omega), tI]
                · rw [k7, if_neg (by omega), h7, if_neg (by omega), tJ, if_neg (by omega)]
                · rw [k7, if_neg (by omega), h7, if_neg (by omega), tJ, if_neg (by omega)]
                · show w.2.2.2.1 17 j = _
                  rw [k5, h5, tR]
                  rfl
                · refine Or.inr (Or.inr ⟨?_, ?_, ?_, ?_, fun j hj => ?_⟩)
                  · rw [wS]; exact Q1
                  · rw [wS, wI 120 k (by decide) (by decide)]; exact q1
                  · rw [wS]; exact q2
                  · rw [wS, wI 121 k (by decide) (by decide)]; exact q3
                  · have E2 : zJ w (48 + 2 * k) j = if dp ≤ j ∧ j < dp + m then zJ s (48 + 2 * i) (sp + (j - dp)) else zJ s (48 + 2 * k) j := by
                      rw [k7, if_neg (by omega), h7, if_neg (by omega), tJ, if_pos (by omega), show 47 + 2 * i + 1 = 48 + 2 * i by omega, show 47 + 2 * k + 1 = 48 + 2 * k by omega]
                      rfl
                    by_cases z : dp ≤ j ∧ j < dp + m
                    · have y := r4 (sp + (j - dp)) (by omega)
                      have E1 : zI w 123 (60 * k + j) = zI s 123 (60 * i + (sp + (j - dp))) := by
                        rw [k6, if_pos ⟨rfl, by omega, by omega⟩, h6, if_pos ⟨rfl, by omega, by omega⟩, tI, show 60 * i + sp + (60 * k + j - (60 * k + dp)) = 60 * i + (sp + (j - dp)) by omega]
                        exact fl1 (y.imp (fun z => z.1) (fun z => z.1))
                      have E3 : zJ w 122 (60 * k + j) = zJ s 122 (60 * i + (sp + (j - dp))) := by
                        rw [k7, if_pos ⟨rfl, by omega, by omega⟩, h7, if_pos ⟨rfl, by omega, by omega⟩, tJ, if_neg (by omega), show 60 * i + sp + (60 * k + j - (60 * k + dp)) = 60 * i + (sp + (j - dp)) by omega]
                      rw [if_pos z] at E2
                      rw [E1, E2, E3]
                      exact y
                    · have E1 : zI w 123 (60 * k + j) = zI s 123 (60 * k + j) := by rw [k6, if_neg (by omega), h6, if_neg (by omega), tI]
                      have E3 : zJ w 122 (60 * k + j) = zJ s 122 (60 * k + j) := by rw [k7, if_neg (by omega), h7, if_neg (by omega), tJ, if_neg (by omega)]
                      rw [if_neg z] at E2
                      rw [E1, E2, E3]
                      exact q4 j hj
              · refine ⟨fun q x e => ?_, fun q x e => ?_⟩
                · show w.1 q x = _
                  rw [k4, h4]
                  exact tS q x
                · rw [k6, if_neg (fun z => by rw [z.1] at e; exact absurd e (by decide)), h6, if_neg (fun z => by rw [z.1] at e; exact absurd e (by decide)), tI]
            · refine ⟨-13, s, -13, s, ?_, ?_, G, FrB.rf, rfl⟩
              · rw [X, if_neg nz, if_neg mz, if_pos R1, if_pos Q1, if_pos d]
                by_cases h2 : HP s i a1 a4
                · rw [hp_t G.1 hi h2, b1_some, if_neg (by decide), hp_f G.1 hk (fun z => h1 ⟨h2, z⟩), b1_some, if_pos rfl]
                · rw [hp_f G.1 hi h2, b1_some, if_pos rfl]
              · rw [M, if_neg n1, if_neg m1, if_pos n2, if_pos d']
                unfold HP at h1
                by_cases y1 : a4 < 0
                · rw [if_pos y1]
                rw [if_neg y1]
                by_cases y2 : a1 < 0
                · rw [if_pos y2]
                rw [if_neg y2]
                by_cases y3 : a3 < 0
                · rw [if_pos y3]
                rw [if_neg y3]
                rw [jlt, jl0] at y1 y2 y3
                have l4 := jlo a4
                by_cases y4 : zI s 121 i - a4 < a1
                · rw [if_pos y4]
                rw [if_neg y4, if_pos]
                rw [← r3, jlt, i32_sub (by omega) (by omega)] at y4
                rw [← q3, jlt, i32_sub (by omega) (by omega)]
                omega
          · refine ⟨-12, s, -12, s, ?_, ?_, G, FrB.rf, rfl⟩
            · rw [X, if_neg nz, if_neg mz, if_pos R1, if_pos Q1, if_neg d]
            · rw [M, if_neg n1, if_neg m1, if_pos n2, if_neg]
              intro z
              apply d
              apply Int32.toInt_inj.1
              rw [z] at hn
              omega
    · refine ⟨-1, s, -1, s, ?_, ?_, G, FrB.rf, rfl⟩
      · unfold f_X11_shift
        rw [shelf_t G.1 c, b1_some, on_some, shelf_f b, b1_some, on_none]
      · unfold f_X12_shift
        rw [issh_t c, b1_some, if_neg (by decide), issh_f b, b1_some, if_pos rfl]
  · refine ⟨-1, s, -1, s, ?_, ?_, G, FrB.rf, rfl⟩
    · unfold f_X11_shift
      rw [shelf_f c, b1_some, on_none]
      by_cases b : 0 ≤ a2.toInt ∧ a2.toInt < 6
      · rw [shelf_t G.1 b, b1_some, on_some]
      · rw [shelf_f b, b1_some, on_none]
    · unfold f_X12_shift
      rw [issh_f c, b1_some, if_pos rfl]
/-! TAKEN -/
theorem under_L {s : SS} {a : Int32} (n : Nat) : ∀ k : Nat, k < 8 → ∀ m : Nat, m < 8 → a = nI m → f_X0_isUnder_L9 (fun x => if x = a then some 1 else some 0) s a (n + 9) (nI k) 0 = f_X12_isUnder (nI k) (nI m) := by
  intro k hk m hm ha
  subst ha
  have h1 : k = 0 ∨ k = 1 ∨ k = 2 ∨ k = 3 ∨ k = 4 ∨ k = 5 ∨ k = 6 ∨ k = 7 := by omega
  have h2 : m = 0 ∨ m = 1 ∨ m = 2 ∨ m = 3 ∨ m = 4 ∨ m = 5 ∨ m = 6 ∨ m = 7 := by omega
  rcases h1 with rfl | rfl | rfl | rfl | rfl | rfl | rfl | rfl <;> rcases h2 with rfl | rfl | rfl | rfl | rfl | rfl | rfl | rfl <;> rfl
theorem under_e {s : SS} {k a : Int32} (hk : 0 ≤ k.toInt ∧ k.toInt ≤ 7) (ha : 0 ≤ a.toInt ∧ a.toInt ≤ 7) : f_X0_isUnder_L9 (fun x => if x = a then some 1 else some 0) s a 4000 k 0 = f_X12_isUnder k a := by
  have h := under_L (s := s) (a := a) 3991 k.toInt.toNat (by omega) a.toInt.toNat (by omega) (toN_ ha.1)
  rw [← toN_ hk.1, ← toN_ ha.1] at h
  exact h
theorem under_01 (k a : Int32) : f_X12_isUnder k a = some 0 ∨ f_X12_isUnder k a = some 1 := by
  unfold f_X12_isUnder
  by_cases h1 : a = 0
  · rw [if_pos h1]; exact Or.inr rfl
  rw [if_neg h1]
  by_cases h2 : k = a
  · rw [if_pos h2]; exact Or.inr rfl
  rw [if_neg h2]
  split
  · split
    · exact Or.inr rfl
    · split
      · exact Or.inr rfl
      · split
        · exact Or.inr rfl
        · split
          · exact Or.inr rfl
          · split
            · exact Or.inr rfl
            · exact Or.inl rfl
  · split
    · split
      · exact Or.inr rfl
      · split
        · exact Or.inr rfl
        · split
          · exact Or.inr rfl
          · exact Or.inl rfl
    · split
      · split
        · exact Or.inr rfl
        · exact Or.inl rfl
      · exact Or.inl rfl
theorem sa_taken {s : SS} (G : GA s) (a0 : Int32) (a1 : Int32) : ∃ (rx : Int32) (s1 : SS) (rm : Int32) (s2 : SS), f_X11_taken s a0 a1 = some rx ∧ f_X12_taken s a0 a1 = some rm ∧ GA s ∧ rx = rm := by
  have hf : 0 ≤ (zS s 15 3).toInt ∧ (zS s 15 3).toInt ≤ 120 := G.1.f (q := 15) (k := 3) rfl
  by_cases c : 0 ≤ a0.toInt ∧ a0.toInt < 6
  · by_cases b : 0 ≤ a1.toInt ∧ a1.toInt ≤ 7
    · have bx : ¬ a1 < 0 ∧ ¬ 7 < a1 := ⟨by rw [jlt, jl0]; omega, by rw [jlt, jl7]; omega⟩
      obtain ⟨i, ei⟩ : ∃ i, i = a0.toInt.toNat := ⟨_, rfl⟩
      have hi : i < 6 := by omega
      have R := G.2.2.2.2.2 i hi
      have g0 : inB a0 6 := ⟨c.1, c.2⟩
      rcases R with R1 | R1 | R1
      · refine ⟨-11, s, -11, s, ?_, ?_, G, rfl⟩
        · unfold f_X11_taken
          rw [shelf_t G.1 c, b1_some, on_some, if_neg bx.1, if_neg bx.2, ← ei, if_pos R1.1]
        · unfold f_X12_taken
          rw [issh_t c, b1_some, if_neg (by decide), in_t (by rw [jl0, jl7]; omega), b1_some, if_neg (by decide), gd_t g0, ← ei, if_pos R1.2]
      · obtain ⟨f0, f1, f2, f3⟩ := R1
        have gk : inB (zI s 120 i) 120 := ⟨f2, by omega⟩
        have kk : f_X0_kindOf s (zS s (47 + 2 * i) 1) = some (zI s 16 (zI s 120 i).toInt.toNat) := by
          rw [← f1]
          exact kind_t G.1 ⟨f2, f3⟩
        have kr : 0 ≤ (zI s 16 (zI s 120 i).toInt.toNat).toInt ∧ (zI s 16 (zI s 120 i).toInt.toNat).toInt ≤ 7 := G.1.a (q := 16) (i := (zI s 120 i).toInt.toNat) rfl
        have ek : zI s 16 (zI s 120 i).toInt.toNat = zI s 62 (zI s 120 i).toInt.toNat := G.2.2.1.2.1 _
        have uu : f_X0_isUnder s (zS s (47 + 2 * i) 1) a1 = f_X12_isUnder (zI s 16 (zI s 120 i).toInt.toNat) a1 := by
          unfold f_X0_isUnder
          rw [kk, b1_some]
          exact under_e kr b
        have nn : ¬ zI s 120 i = -1 ∧ ¬ zI s 120 i < 0 := ⟨fun z => by rw [z, jn1] at f2; omega, by rw [jlt, jl0]; omega⟩
        rcases under_01 (zI s 16 (zI s 120 i).toInt.toNat) a1 with u | u
        · refine ⟨-12, s, -12, s, ?_, ?_, G, rfl⟩
          · unfold f_X11_taken
            rw [shelf_t G.1 c, b1_some, on_some, if_neg bx.1, if_neg bx.2, ← ei, if_neg (by rw [f0]; decide), if_neg (by rw [f0]; decide), uu, u, b1_some, if_pos rfl]
          · unfold f_X12_taken
            rw [issh_t c, b1_some, if_neg (by decide), in_t (by rw [jl0, jl7]; omega), b1_some, if_neg (by decide), gd_t g0, ← ei, if_neg nn.1, gd_t g0, if_neg nn.2, gd_t g0, vl, gd_t gk, ← ek, u, b1_some, if_pos rfl]
        · refine ⟨zI s 16 (zI s 120 i).toInt.toNat, s, zI s 62 (zI s 120 i).toInt.toNat, s, ?_, ?_, G, ek⟩
          · unfold f_X11_taken
            rw [shelf_t G.1 c, b1_some, on_some, if_neg bx.1, if_neg bx.2, ← ei, if_neg (by rw [f0]; decide), if_neg (by rw [f0]; decide), uu, u, b1_some, if_neg (by decide), kk, b1_some]
          · unfold f_X12_taken
            rw [issh_t c, b1_some, if_neg (by decide), in_t (by rw [jl0, jl7]; omega), b1_some, if_neg (by decide), gd_t g0, ← ei, if_neg nn.1, gd_t g0, if_neg nn.2, gd_t g0, vl, gd_t gk, ← ek, u, b1_some, if_neg (by decide), gd_t g0, vl, gd_t gk, ek]
      · have hn := SR.neg (Or.inr (Or.inr R1)) R1.1
        have r2 := R1.2.2.1
        refine ⟨-12, s, -12, s, ?_, ?_, G, rfl⟩
        · unfold f_X11_taken
          rw [shelf_t G.1 c, b1_some, on_some, if_neg bx.1, if_neg bx.2, ← ei, if_neg (by rw [R1.1]; decide), if_pos R1.1]
        · unfold f_X12_taken
          rw [issh_t c, b1_some, if_neg (by decide), in_t (by rw [jl0, jl7]; omega), b1_some, if_neg (by decide), gd_t g0, ← ei, if_neg (fun z => by rw [z, jn1] at hn; omega), gd_t g0, if_pos (by rw [jlt, jl0]; omega)]
    · refine ⟨-1, s, -1, s, ?_, ?_, G, rfl⟩
      · unfold f_X11_taken
        rw [shelf_t G.1 c, b1_some, on_some]
        by_cases h : a1 < 0
        · rw [if_pos h]
        · rw [if_neg h, if_pos (by rw [jlt, jl7]; rw [jlt, jl0] at h; omega)]
      · unfold f_X12_taken
        rw [issh_t c, b1_some, if_neg (by decide), in_f (by rw [jl0, jl7]; omega), b1_some, if_pos rfl]
  · refine ⟨-1, s, -1, s, ?_, ?_, G, rfl⟩
    · unfold f_X11_taken
      rw [shelf_f c, b1_some, on_none]
    · unfold f_X12_taken
      rw [issh_f c, b1_some, if_pos rfl]
/-! THE FRESH STATE -/
theorem GA_fr : GA sFr := by
  refine ⟨Iv_fr, ⟨rfl, rfl, rfl, rfl, rfl, rfl⟩, ⟨fun _ => rfl, fun _ => rfl, fun _ => rfl⟩, fun i hi => ?_, fun i hi => ?_, fun i hi => ?_⟩
  · have h : i = 0 ∨ i = 1 ∨ i = 2 := by omega
    rcases h with rfl | rfl | rfl <;> exact ⟨rfl, rfl⟩
  · refine ⟨fun _ z => ?_, fun _ => rfl⟩
    have h0 : (zS sFr 15 3).toInt = 0 := by decide
    have := z.1
    omega
  · have h : i = 0 ∨ i = 1 ∨ i = 2 ∨ i = 3 ∨ i = 4 ∨ i = 5 := by omega
    rcases h with rfl | rfl | rfl | rfl | rfl | rfl <;> exact Or.inl ⟨rfl, rfl⟩
/-! ROCK, MOVES, THE HOUR: class cells of s, reference's cells of t -/
def RTx (s t : SS) : Prop := zS s 0 14 = zS t 59 1 ∧ zS s 1 4 = zS t 59 56 ∧ (∀ i, zI s 4 i = zI t 97 i) ∧ (∀ i, zI s 5 i = zI t 98 i) ∧ 0 ≤ (zS s 0 14).toInt ∧ (zS s 0 14).toInt ≤ 1699
def RKx (s t : SS) : Prop := ∀ c y, c < 32 → 1 ≤ y → y ≤ 60 → zI s 2 (60 * c + y - 1) = 3 + zI t 60 (61 * c + y) ∧ zI s 3 (60 * c + y - 1) = zI t 61 (61 * c + y) ∧ (zI t 61 (61 * c + y) = 0 ∨ zI t 61 (61 * c + y) = 1)
/-- the traces alike -/
def TR (s t : SS) : Prop := zS s 15 11 = zS t 59 87 ∧ ∀ i, zI s 18 i = zI t 119 i
def TK (s : SS) : Prop := RTx s s ∧ RKx s s ∧ TR s s
theorem TK.c {s r : SS} (T : TK s) (F : FrB s r) : TK r := by
  obtain ⟨⟨t1, t2, t3, t4, t6⟩, t5, t7, t8⟩ := T
  refine ⟨⟨?_, ?_, fun i => ?_, fun i => ?_, by rw [F.1 0 14 rfl]; exact t6⟩, fun c y h1 h2 h3 => ?_, by rw [F.1 15 11 rfl, F.1 59 87 rfl]; exact t7, fun i => by rw [F.2 18 i rfl, F.2 119 i rfl]; exact t8 i⟩
  · rw [F.1 0 14 rfl, F.1 59 1 rfl]; exact t1
  · rw [F.1 1 4 rfl, F.1 59 56 rfl]; exact t2
  · rw [F.2 4 i rfl, F.2 97 i rfl]; exact t3 i
  · rw [F.2 5 i rfl, F.2 98 i rfl]; exact t4 i
  · rw [F.2 2 _ rfl, F.2 60 _ rfl, F.2 3 _ rfl, F.2 61 _ rfl]; exact t5 c y h1 h2 h3
def GI (s : SS) : Prop := GA s ∧ TK s
theorem GI.go {s s1 r : SS} (G : GI s) (F1 : Fr s s1) (h1 : ∀ i, zR s1 17 i = zR s 17 i) (F2 : Fr s1 r) (h2 : ∀ i, zR r 17 i = zR s1 17 i) (I : Iv r) : GI r := ⟨G.1.go (F1.tr F2).a (fun i => (h2 i).trans (h1 i)) I, G.2.c (F1.tr F2).b⟩
def Vc (a : Int32) : Prop := 0 ≤ a.toInt ∧ a.toInt / 100 < 32 ∧ 1 ≤ a.toInt % 100 ∧ a.toInt % 100 ≤ 60
def cC (a : Int32) : Nat := (a.toInt / 100).toNat
def cY (a : Int32) : Nat := (a.toInt % 100).toNat
theorem Vc.b {a : Int32} (h : Vc a) : cC a < 32 ∧ 1 ≤ cY a ∧ cY a ≤ 60 := by
  unfold Vc at h
  unfold cC cY
  omega
theorem d100 {a : Int32} (h : 0 ≤ a.toInt) : (a / 100).toInt = a.toInt / 100 := by rw [jd100, if_pos h]
theorem m100 {a : Int32} (h : 0 ≤ a.toInt) : (a % 100).toInt = a.toInt % 100 := by rw [jm100, if_pos h]
theorem plX_t {a : Int32} (h : Vc a) : f_X11_placeOf a = some (nI (60 * cC a + cY a - 1)) := by
  obtain ⟨h1, h2, h3, h4⟩ := h
  have e1 := d100 h1
  have e2 := m100 h1
  unfold f_X11_placeOf
  rw [if_neg (by rw [jlt, jl0]; omega), if_pos (by rw [jlt, jl32]; omega), yard_t (by omega), b1_some, if_neg (by decide)]
  have j60 : (60 : Int32).toInt = 60 := rfl
  have m1 : (a / 100 * 60).toInt = a.toInt / 100 * 60 := by rw [i32_mul (by rw [j60]; omega) (by rw [j60]; omega), j60, e1]
  have m2 : (a / 100 * 60 + a % 100).toInt = a.toInt / 100 * 60 + a.toInt % 100 := by rw [i32_add (by omega) (by omega), m1, e2]
  congr 1
  apply Int32.toInt_inj.1
  unfold cC cY
  rw [i32_sub (by rw [m2, jl1]; omega) (by rw [m2, jl1]; omega), m2, jl1, nI_t (by omega)]
  omega
theorem plX_f {a : Int32} (h : ¬ Vc a) : f_X11_placeOf a = some (-1) := by
  unfold f_X11_placeOf
  by_cases c : a < 0
  · rw [if_pos c]
  have h1 : 0 ≤ a.toInt := by rw [jlt, jl0] at c; omega
  have e1 := d100 h1
  have e2 := m100 h1
  rw [if_neg c]
  by_cases d : a / 100 < 32
  · rw [if_pos d, yard_f, b1_some, if_pos rfl]
    rw [jlt, jl32] at d
    intro z
    exact h ⟨h1, by omega, by omega, by omega⟩
  · rw [if_neg d]
theorem cel_t {a : Int32} (h : Vc a) : f_X12_isCell a = some 1 := by
  obtain ⟨h1, h2, h3, h4⟩ := h
  have e1 := d100 h1
  have e2 := m100 h1
  unfold f_X12_isCell
  rw [if_neg (by rw [jlt, jl0]; omega), if_pos (by rw [jlt, jl32]; omega), in_t (by rw [jl1, jl60]; omega), b1_some, if_neg (by decide)]
theorem cel_f {a : Int32} (h : ¬ Vc a) : f_X12_isCell a = some 0 := by
  unfold f_X12_isCell
  by_cases c : a < 0
  · rw [if_pos c]
  have h1 : 0 ≤ a.toInt := by rw [jlt, jl0] at c; omega
  have e1 := d100 h1
  have e2 := m100 h1
  rw [if_neg c]
  by_cases d : a / 100 < 32
  · rw [if_pos d, in_f, b1_some, if_pos rfl]
    rw [jlt, jl32] at d
    rw [jl1, jl60]
    intro z
    exact h ⟨h1, by omega, by omega, by omega⟩
  · rw [if_neg d]
theorem plM {a : Int32} (h1 : 0 ≤ a.toInt) (h2 : a.toInt < 3200) : f_X12_placeOf a = some (nI (61 * cC a + cY a)) := by
  have e1 := d100 h1
  have e2 := m100 h1
  unfold f_X12_placeOf
  have j61 : (61 : Int32).toInt = 61 := rfl
  have m1 : (61 * (a / 100)).toInt = 61 * (a.toInt / 100) := by rw [i32_mul (by rw [j61]; omega) (by rw [j61]; omega), j61, e1]
  congr 1
  apply Int32.toInt_inj.1
  unfold cC cY
  rw [i32_add (by omega) (by omega), m1, e2, nI_t (by omega)]
  omega
theorem Vc.lt {a : Int32} (h : Vc a) : a.toInt < 3200 := by
  unfold Vc at h
  omega
theorem nnI {k : Nat} (h : k < 4000) : (nI k).toInt = (k : Int) ∧ (nI k).toInt.toNat = k := by
  have := nI_t (k := k) (by omega)
  omega
/-- a cell of the rock is written in both -/
theorem TK.w2 {s : SS} {a v w : Int32} (T : TK s) (h : Vc a) (e : v = 3 + w) : TK (pI (pI s 2 (60 * cC a + cY a - 1) v) 60 (61 * cC a + cY a) w) := by
  obtain ⟨b1, b2, b3⟩ := h.b
  obtain ⟨T1, T2, T3⟩ := T
  refine ⟨T1, fun c y h1 h2 h3 => ?_, T3⟩
  obtain ⟨r1, r2, r3⟩ := T2 c y h1 h2 h3
  refine ⟨?_, r2, r3⟩
  rw [zI_pI, if_neg (by omega), zI_pI, zI_pI]
  by_cases z : 60 * c + y - 1 = 60 * cC a + cY a - 1
  · rw [if_pos ⟨rfl, z⟩, if_pos ⟨rfl, by omega⟩]; exact e
  · rw [if_neg (by omega), if_neg (by omega), zI_pI, if_neg (by omega)]; exact r1
theorem TK.w3 {s : SS} {a v w : Int32} (T : TK s) (h : Vc a) (e : v = w) (hw : w = 0 ∨ w = 1) : TK (pI (pI s 3 (60 * cC a + cY a - 1) v) 61 (61 * cC a + cY a) w) := by
  obtain ⟨b1, b2, b3⟩ := h.b
  obtain ⟨T1, T2, T3⟩ := T
  refine ⟨T1, fun c y h1 h2 h3 => ?_, T3⟩
  obtain ⟨r1, r2, r3⟩ := T2 c y h1 h2 h3
  have e1 : zI (pI (pI s 3 (60 * cC a + cY a - 1) v) 61 (61 * cC a + cY a) w) 3 (60 * c + y - 1) = if 60 * c + y - 1 = 60 * cC a + cY a - 1 then v else zI s 3 (60 * c + y - 1) := by
    rw [zI_pI, if_neg (by omega), zI_pI]
    by_cases z : 60 * c + y - 1 = 60 * cC a + cY a - 1
    · rw [if_pos ⟨rfl, z⟩, if_pos z]
    · rw [if_neg (by omega), if_neg z]
  have e2 : zI (pI (pI s 3 (60 * cC a + cY a - 1) v) 61 (61 * cC a + cY a) w) 61 (61 * c + y) = if 60 * c + y - 1 = 60 * cC a + cY a - 1 then w else zI s 61 (61 * c + y) := by
    rw [zI_pI]
    by_cases z : 60 * c + y - 1 = 60 * cC a + cY a - 1
    · rw [if_pos ⟨rfl, by omega⟩, if_pos z]
    · rw [if_neg (by omega), if_neg z, zI_pI, if_neg (by omega)]
  refine ⟨r1, ?_, ?_⟩
  · rw [e1, e2]
    by_cases z : 60 * c + y - 1 = 60 * cC a + cY a - 1
    · rw [if_pos z, if_pos z]; exact e
    · rw [if_neg z, if_neg z]; exact r2
  · rw [e2]
    by_cases z : 60 * c + y - 1 = 60 * cC a + cY a - 1
    · rw [if_pos z]; exact hw
    · rw [if_neg z]; exact r3
theorem FrA.pI2 {s : SS} {q1 q2 i1 i2 : Nat} {v w : Int32} (h1 : fIA q1 = false) (h2 : fIA q2 = false) : FrA s (pI (pI s q1 i1 v) q2 i2 w) := ⟨fun _ _ _ => rfl, fun q j h => by rw [zIf h h2, zIf h h1], fun _ _ _ => rfl⟩
theorem st_hard {s : SS} (G : GI s) (a0 : Int32) (a1 : Int32) : ∃ (rx : Int32) (s1 : SS) (rm : Int32) (s2 : SS), f_X11_hard s a0 a1 = some (rx, s1) ∧ f_X12_hard s1 a0 a1 = some (rm, s2) ∧ GI s2 ∧ rx = rm := by
  by_cases c : Vc a0
  · obtain ⟨b1, b2, b3⟩ := c.b
    have nx := nnI (k := 60 * cC a0 + cY a0 - 1) (by omega)
    have nm := nnI (k := 61 * cC a0 + cY a0) (by omega)
    by_cases d : 1 ≤ a1.toInt ∧ a1.toInt ≤ 9
    · have e3 : a1 = 3 + (a1 - 3) := by
        apply Int32.toInt_inj.1
        have j3 : (3 : Int32).toInt = 3 := rfl
        have m1 : (a1 - 3).toInt = a1.toInt - 3 := by rw [i32_sub (by rw [j3]; omega) (by rw [j3]; omega), j3]
        rw [i32_add (by rw [m1, j3]; omega) (by rw [m1, j3]; omega), m1, j3]
        omega
      refine ⟨zI s 2 (60 * cC a0 + cY a0 - 1), pI s 2 (60 * cC a0 + cY a0 - 1) a1, 3 + zI s 60 (61 * cC a0 + cY a0), pI (pI s 2 (60 * cC a0 + cY a0 - 1) a1) 60 (61 * cC a0 + cY a0) (a1 - 3), ?_, ?_, ⟨G.1.go (FrA.pI2 (by decide) (by decide)) (fun _ => rfl) ((G.1.1.wI (q := 2) (by decide) trivial).wI (q := 60) (by decide) trivial), G.2.w2 c e3⟩, (G.2.2.1 _ _ b1 b2 b3).1⟩
      · unfold f_X11_hard
        rw [plX_t c, b1_some, if_neg (by rw [jlt, jl0]; omega), if_neg (by rw [jlt, jl1]; omega), if_neg (by rw [jlt, jl9]; omega), gd_t ⟨by omega, by omega⟩, vl, gd_t ⟨by omega, by omega⟩, st, nx.2]
      · unfold f_X12_hard
        rw [cel_t c, b1_some, if_neg (by decide), in_t (by rw [jl1, jl9]; omega), b1_some, if_neg (by decide), plM c.1 c.lt, b1_some, gd_t ⟨by omega, by omega⟩, vl, b1_some, vl, gd_t ⟨by omega, by omega⟩, st, nm.2]
        rfl
    · refine ⟨-1, s, -1, s, ?_, ?_, G, rfl⟩
      · unfold f_X11_hard
        rw [plX_t c, b1_some, if_neg (by rw [jlt, jl0]; omega)]
        by_cases h : a1 < 1
        · rw [if_pos h]
        · rw [if_neg h, if_pos (by rw [jlt, jl9]; rw [jlt, jl1] at h; omega)]
      · unfold f_X12_hard
        rw [cel_t c, b1_some, if_neg (by decide), in_f (by rw [jl1, jl9]; omega), b1_some, if_pos rfl]
  · refine ⟨-1, s, -1, s, ?_, ?_, G, rfl⟩
    · unfold f_X11_hard
      rw [plX_f c, b1_some, if_pos (by decide)]
    · unfold f_X12_hard
      rw [cel_f c, b1_some, if_pos rfl]
theorem st_open {s : SS} (G : GI s) (a0 : Int32) (a1 : Int32) : ∃ (rx : Int32) (s1 : SS) (rm : Int32) (s2 : SS), f_X11_open s a0 a1 = some (rx, s1) ∧ f_X12_open s1 a0 a1 = some (rm, s2) ∧ GI s2 ∧ rx = rm := by
  by_cases c : Vc a0
  · obtain ⟨u1, u2, u3⟩ := c.b
    have nx := nnI (k := 60 * cC a0 + cY a0 - 1) (by omega)
    have nm := nnI (k := 61 * cC a0 + cY a0) (by omega)
    by_cases d : 0 ≤ a1.toInt ∧ a1.toInt ≤ 1
    · have d1 : a1 = 0 ∨ a1 = 1 := by
        have h : a1.toInt = 0 ∨ a1.toInt = 1 := by omega
        exact h.imp (fun z => Int32.toInt_inj.1 z) (fun z => Int32.toInt_inj.1 z)
      obtain ⟨_, r2, r3⟩ := G.2.2.1 _ _ u1 u2 u3
      have fin : ∀ w, w = a1 → GI (pI (pI s 3 (60 * cC a0 + cY a0 - 1) a1) 61 (61 * cC a0 + cY a0) w) := fun w hw => ⟨G.1.go (FrA.pI2 (by decide) (by decide)) (fun _ => rfl) ((G.1.1.wI (q := 3) (by decide) trivial).wI (q := 61) (by decide) trivial), G.2.w3 c hw.symm (by rw [hw]; exact d1)⟩
      have hx : f_X11_open s a0 a1 = some (zI s 3 (60 * cC a0 + cY a0 - 1), pI s 3 (60 * cC a0 + cY a0 - 1) a1) := by
        unfold f_X11_open
        rw [plX_t c, b1_some, if_neg (by rw [jlt, jl0]; omega), if_neg (by rw [jlt, jl0]; omega), if_neg (by rw [jlt, jl1]; omega), gd_t ⟨by omega, by omega⟩, vl, gd_t ⟨by omega, by omega⟩, st, nx.2]
      have hm : ∀ t, (zI t 61 (61 * cC a0 + cY a0) = 0 ∨ zI t 61 (61 * cC a0 + cY a0) = 1) → ∃ w, w = a1 ∧ f_X12_open t a0 a1 = some (zI t 61 (61 * cC a0 + cY a0), pI t 61 (61 * cC a0 + cY a0) w) := by
        intro t ht
        refine ⟨(if a1 = 1 then (1 : Int32) else 0) &&& 1, ?_, ?_⟩
        · rcases d1 with rfl | rfl <;> decide
        · unfold f_X12_open
          have g : inB (nI (61 * cC a0 + cY a0)) 1952 := ⟨by omega, by omega⟩
          have key : ∀ t7 : Int32, (b1 (some (nI (61 * cC a0 + cY a0))) fun r8 => (jn (fun (t10_0 : Int32) => (gd (inB r8 1952) (st (pI t 61 (r8.toInt.toNat) (t10_0 &&& 1)) fun s12 => some (t7, s12)))) fun k10 => (if a1 = (1 : Int32) then (k10 1) else (k10 0)))) = some (t7, pI t 61 (61 * cC a0 + cY a0) ((if a1 = 1 then (1 : Int32) else 0) &&& 1)) := by
            intro t7
            rw [b1_some, jn]
            by_cases z : a1 = 1
            · rw [if_pos z, if_pos z]
              show gd _ _ = _
              rw [gd_t g, st, nm.2]
            · rw [if_neg z, if_neg z]
              show gd _ _ = _
              rw [gd_t g, st, nm.2]
          rw [cel_t c, b1_some, if_neg (by decide), in_t (by rw [jl0, jl1]; omega), b1_some, if_neg (by decide), plM c.1 c.lt, b1_some, gd_t g, jn, nm.2]
          rcases ht with h | h
          · rw [if_pos h, h]
            exact key 0
          · rw [if_neg (by rw [h]; decide), h]
            exact key 1
      obtain ⟨w, hw, e⟩ := hm (pI s 3 (60 * cC a0 + cY a0 - 1) a1) r3
      exact ⟨_, _, _, _, hx, e, fin w hw, r2⟩
    · refine ⟨-1, s, -1, s, ?_, ?_, G, rfl⟩
      · unfold f_X11_open
        rw [plX_t c, b1_some, if_neg (by rw [jlt, jl0]; omega)]
        by_cases h : a1 < 0
        · rw [if_pos h]
        · rw [if_neg h, if_pos (by rw [jlt, jl1]; rw [jlt, jl0] at h; omega)]
      · unfold f_X12_open
        rw [cel_t c, b1_some, if_neg (by decide), in_f (by rw [jl0, jl1]; omega), b1_some, if_pos rfl]
  · refine ⟨-1, s, -1, s, ?_, ?_, G, rfl⟩
    · unfold f_X11_open
      rw [plX_f c, b1_some, if_pos (by decide)]
    · unfold f_X12_open
      rw [cel_f c, b1_some, if_pos rfl]
theorem st_ofCell {s : SS} (G : GI s) (a0 : Int32) (a1 : Int32) : ∃ (rx : Int32) (s1 : SS) (rm : Int32) (s2 : SS), f_X11_ofCell s a0 a1 = some rx ∧ f_X12_ofCell s a0 a1 = some rm ∧ GI s ∧ rx = rm := by
  by_cases c : Vc a0
  · obtain ⟨b1, b2, b3⟩ := c.b
    have nx := nnI (k := 60 * cC a0 + cY a0 - 1) (by omega)
    have nm := nnI (k := 61 * cC a0 + cY a0) (by omega)
    obtain ⟨r1, r2, r3⟩ := G.2.2.1 _ _ b1 b2 b3
    by_cases d : 0 ≤ a1.toInt ∧ a1.toInt ≤ 1
    · by_cases z : a1 = 0
      · refine ⟨zI s 2 (60 * cC a0 + cY a0 - 1), s, 3 + zI s 60 (61 * cC a0 + cY a0), s, ?_, ?_, G, r1⟩
        · unfold f_X11_ofCell
          rw [plX_t c, b1_some, if_neg (by rw [jlt, jl0]; omega), if_neg (by rw [jlt, jl0]; omega), if_neg (by rw [jlt, jl1]; omega), if_pos z, gd_t ⟨by omega, by omega⟩, nx.2]
        · unfold f_X12_ofCell
          rw [cel_t c, b1_some, if_neg (by decide), in_t (by rw [jl0, jl1]; omega), b1_some, if_neg (by decide), if_pos z, plM c.1 c.lt, b1_some, gd_t ⟨by omega, by omega⟩, nm.2]
      · refine ⟨zI s 3 (60 * cC a0 + cY a0 - 1), s, zI s 61 (61 * cC a0 + cY a0), s, ?_, ?_, G, r2⟩
        · unfold f_X11_ofCell
          rw [plX_t c, b1_some, if_neg (by rw [jlt, jl0]; omega), if_neg (by rw [jlt, jl0]; omega), if_neg (by rw [jlt, jl1]; omega), if_neg z, gd_t ⟨by omega, by omega⟩, nx.2]
        · unfold f_X12_ofCell
          rw [cel_t c, b1_some, if_neg (by decide), in_t (by rw [jl0, jl1]; omega), b1_some, if_neg (by decide), if_neg z, plM c.1 c.lt, b1_some, gd_t ⟨by omega, by omega⟩, nm.2]
          rcases r3 with h | h
          · rw [if_pos h, h]
          · rw [if_neg (by rw [h]; decide), h]
    · refine ⟨-1, s, -1, s, ?_, ?_, G, rfl⟩
      · unfold f_X11_ofCell
        rw [plX_t c, b1_some, if_neg (by rw [jlt, jl0]; omega)]
        by_cases h : a1 < 0
        · rw [if_pos h]
        · rw [if_neg h, if_pos (by rw [jlt, jl1]; rw [jlt, jl0] at h; omega)]
      · unfold f_X12_ofCell
        rw [cel_t c, b1_some, if_neg (by decide), in_f (by rw [jl0, jl1]; omega), b1_some, if_pos rfl]
  · refine ⟨-1, s, -1, s, ?_, ?_, G, rfl⟩
    · unfold f_X11_ofCell
      rw [plX_f c, b1_some, if_pos (by decide)]
    · unfold f_X12_ofCell
      rw [cel_f c, b1_some, if_pos rfl]
theorem st_breaks {s : SS} (G : GI s) (a0 : Int32) (a1 : Int32) : ∃ (rx : Int32) (s1 : SS) (rm : Int32) (s2 : SS), f_X11_breaks s a0 a1 = some (rx, s1) ∧ f_X12_breaks s1 a0 a1 = some (rm, s2) ∧ GI s2 ∧ rx = rm := by
  have e := G.2.1.1
  by_cases c : 0 ≤ a0.toInt ∧ a0.toInt < 3
  · by_cases d : (zS s 0 14).toInt ≤ a1.toInt ∧ a1.toInt ≤ 1699
    · have f1 : ∀ q k, fS q k = true → zS (pS s (20 + a0.toInt.toNat) 2 a1) q k = zS s q k := fun q k h => by
        rw [zS_pS, if_neg]
        rintro ⟨z1, z2⟩
        rw [z1, z2] at h
        have h' : fS (20 + a0.toInt.toNat) 2 = false := fS_M ⟨by omega, by omega⟩ rfl
        rw [h'] at h
        cases h
      have F : Fr s (pI (pS s (20 + a0.toInt.toNat) 2 a1) 80 a0.toInt.toNat a1) := Fr.pI ⟨f1, fun _ _ _ => rfl, fun _ _ _ => rfl⟩ (by decide)
      have e1 : zS (pS s (20 + a0.toInt.toNat) 2 a1) 59 1 = zS s 0 14 := by rw [f1 59 1 rfl]; exact e.symm
      refine ⟨1, pS s (20 + a0.toInt.toNat) 2 a1, 1, pI (pS s (20 + a0.toInt.toNat) 2 a1) 80 a0.toInt.toNat a1, ?_, ?_, ⟨G.1.go F.a (fun _ => rfl) ((G.1.1.wM ⟨by omega, by omega⟩).wI (q := 80) (by decide) trivial), G.2.c F.b⟩, rfl⟩
      · unfold f_X11_breaks
        rw [mach_t G.1.1 c, b1_some, on_some, if_neg (by rw [jlt]; omega), if_neg (by rw [jlt, jl1699]; omega)]
        rfl
      · unfold f_X12_breaks
        rw [ismach_t c, b1_some, if_neg (by decide), in_t (by rw [e1, jl1699]; omega), b1_some, if_neg (by decide), gd_t ⟨c.1, c.2⟩]
        rfl
    · refine ⟨-1, s, -1, s, ?_, ?_, G, rfl⟩
      · unfold f_X11_breaks
        rw [mach_t G.1.1 c, b1_some, on_some]
        by_cases h : a1 < zS s 0 14
        · rw [if_pos h]
        · rw [if_neg h, if_pos (by rw [jlt, jl1699]; rw [jlt] at h; omega)]
      · unfold f_X12_breaks
        rw [ismach_t c, b1_some, if_neg (by decide), in_f (by rw [← e, jl1699]; omega), b1_some, if_pos rfl]
  · refine ⟨-1, s, -1, s, ?_, ?_, G, rfl⟩
    · unfold f_X11_breaks
      rw [mach_f c, b1_some, on_none]
    · unfold f_X12_breaks
      rw [ismach_f c, b1_some, if_pos rfl]
/-! MOVES -/
theorem moveM {t : SS} {a0 a1 : Int32} {n : Nat} (c : Vc a0) (d : (zS t 59 1).toInt + 1 ≤ a1.toInt ∧ a1.toInt ≤ 1699) (h0 : (zS t 59 1).toInt < 2147483647) (h2 : ¬ zS t 59 56 = 60) (h3 : 0 ≤ (zS t 59 56).toInt ∧ (zS t 59 56).toInt < 60) (en : n = (zS t 59 56).toInt.toNat) : f_X12_move t a0 a1 = some (zS t 59 56 + 1, pS (pI (pI t 97 n a0) 98 n a1) 59 56 (zS t 59 56 + 1)) := by
  have l := jlo (zS t 59 1)
  have gn : inB (zS t 59 56) 60 := ⟨by omega, by omega⟩
  unfold f_X12_move
  rw [cel_t c, b1_some, if_neg (by decide), in_t (by rw [i32_add (by rw [jl1]; omega) (by rw [jl1]; omega), jl1, jl1699]; omega), b1_some, if_neg (by decide), if_neg h2, vl, gd_t gn, st, vl, gd_t (show inB (zS (pI t 97 (zS t 59 56).toInt.toNat a0) 59 56) 60 from gn), st, vl, st, en]
  rfl
theorem moveX {s : SS} {a0 a1 : Int32} {n : Nat} (h3 : 0 ≤ (zS s 1 4).toInt ∧ (zS s 1 4).toInt < 60) (en : n = (zS s 1 4).toInt.toNat) : f_X5_moveTold s a0 a1 = some (zS s 1 4 + 1, pS (pI (pI s 4 n a0) 5 n a1) 1 4 (zS s 1 4 + 1)) := by
  have gn : inB (zS s 1 4) 60 := ⟨by omega, by omega⟩
  unfold f_X5_moveTold
  rw [if_pos (by rw [jlt, jl60]; omega), vl, gd_t gn, st, vl, gd_t (show inB (zS (pI s 4 (zS s 1 4).toInt.toNat a0) 1 4) 60 from gn), st, vl, st, en]
  rfl
theorem st_move {s : SS} (G : GI s) (a0 : Int32) (a1 : Int32) : ∃ (rx : Int32) (s1 : SS) (rm : Int32) (s2 : SS), f_X11_move s a0 a1 = some (rx, s1) ∧ f_X12_move s1 a0 a1 = some (rm, s2) ∧ GI s2 ∧ rx = rm := by
  obtain ⟨⟨t1, t2, t3, t4, t6⟩, t5⟩ := G.2
  have hf : 0 ≤ (zS s 1 4).toInt ∧ (zS s 1 4).toInt ≤ 60 := G.1.1.f (q := 1) (k := 4) rfl
  have l := jlo (zS s 0 14)
  have l1 := jlo a1
  by_cases c : Vc a0
  · obtain ⟨u1, u2, u3⟩ := c.b
    have nx := nnI (k := 60 * cC a0 + cY a0 - 1) (by omega)
    by_cases d : (zS s 0 14).toInt < a1.toInt ∧ a1.toInt ≤ 1699
    · by_cases b : (zS s 1 4).toInt < 60
      · obtain ⟨n, en⟩ : ∃ n, n = (zS s 1 4).toInt.toNat := ⟨_, rfl⟩
        have n1 : (zS s 1 4 + 1).toInt = (zS s 1 4).toInt + 1 := by rw [i32_add (by rw [jl1]; omega) (by rw [jl1]; omega), jl1]
        have f1 : zS (pS (pI (pI s 4 n a0) 5 n a1) 1 4 (zS s 1 4 + 1)) 59 1 = zS s 0 14 := t1.symm
        have f56 : zS (pS (pI (pI s 4 n a0) 5 n a1) 1 4 (zS s 1 4 + 1)) 59 56 = zS s 1 4 := t2.symm
        have I1 : Iv (pS (pI (pI s 4 n a0) 5 n a1) 1 4 (zS s 1 4 + 1)) := ((G.1.1.wI (q := 4) (by decide) trivial).wI (q := 5) (by decide) trivial).wF (q := 1) (k := 4) (by decide) (by decide) ⟨by omega, by omega⟩
        refine ⟨zS s 1 4 + 1, pS (pI (pI s 4 n a0) 5 n a1) 1 4 (zS s 1 4 + 1), _, _, ?_, moveM (n := n) c (by rw [f1]; omega) (by rw [f1]; omega) (fun z => by rw [f56] at z; rw [z, jl60] at b; omega) (by rw [f56]; omega) (by rw [f56]; exact en), ⟨?_, ⟨?_, ?_⟩⟩, ?_⟩
        · unfold f_X11_move
          rw [plX_t c, b1_some, if_neg (by rw [jlt, jl0]; omega), if_pos (by rw [jlt]; omega), if_neg (by rw [jlt, jl1699]; omega), moveX ⟨hf.1, b⟩ en]
          rfl
        · rw [f56]
          refine G.1.go ⟨fun q k h => ?_, fun q j h => ?_, fun _ _ _ => rfl⟩ (fun _ => rfl) ?_
          · rw [zSf h (by decide), zS_pI, zS_pI, zSf h (by decide), zS_pI, zS_pI]
          · rw [zI_pS, zIf h (by decide), zIf h (by decide), zI_pS, zIf h (by decide), zIf h (by decide)]
          · refine ((I1.wI (q := 97) (by decide) ?_).wI (q := 98) (by decide) trivial).wF (q := 59) (k := 56) (by decide) (by decide) ⟨by omega, by omega⟩
            unfold Vc at c
            exact ⟨c.1, by omega, by omega⟩
        · rw [f56]
          refine ⟨t1, rfl, fun i => ?_, fun i => ?_, t6⟩
          · have x4 : zI (pS (pI (pI (pS (pI (pI s 4 n a0) 5 n a1) 1 4 (zS s 1 4 + 1)) 97 n a0) 98 n a1) 59 56 (zS s 1 4 + 1)) 4 i = if i = n then a0 else zI s 4 i := by
              rw [zI_pS, zI_pI, if_neg (by omega), zI_pI, if_neg (by omega), zI_pS, zI_pI, if_neg (by omega), zI_pI]
              by_cases z : i = n
              · rw [if_pos ⟨rfl, z⟩, if_pos z]
              · rw [if_neg (by omega), if_neg z]
            have x97 : zI (pS (pI (pI (pS (pI (pI s 4 n a0) 5 n a1) 1 4 (zS s 1 4 + 1)) 97 n a0) 98 n a1) 59 56 (zS s 1 4 + 1)) 97 i = if i = n then a0 else zI s 97 i := by
              rw [zI_pS, zI_pI, if_neg (by omega), zI_pI]
              by_cases z : i = n
              · rw [if_pos ⟨rfl, z⟩, if_pos z]
              · rw [if_neg (by omega), if_neg z, zI_pS, zI_pI, if_neg (by omega), zI_pI, if_neg (by omega)]
            rw [x4, x97, t3 i]
          · have x5 : zI (pS (pI (pI (pS (pI (pI s 4 n a0) 5 n a1) 1 4 (zS s 1 4 + 1)) 97 n a0) 98 n a1) 59 56 (zS s 1 4 + 1)) 5 i = if i = n then a1 else zI s 5 i := by
              rw [zI_pS, zI_pI, if_neg (by omega), zI_pI, if_neg (by omega), zI_pS, zI_pI]
              by_cases z : i = n
              · rw [if_pos ⟨rfl, z⟩, if_pos z]
              · rw [if_neg (by omega), if_neg z, zI_pI, if_neg (by omega)]
            have x98 : zI (pS (pI (pI (pS (pI (pI s 4 n a0) 5 n a1) 1 4 (zS s 1 4 + 1)) 97 n a0) 98 n a1) 59 56 (zS s 1 4 + 1)) 98 i = if i = n then a1 else zI s 98 i := by
              rw [zI_pS, zI_pI]
              by_cases z : i = n
              · rw [if_pos ⟨rfl, z⟩, if_pos z]
              · rw [if_neg (by omega), if_neg z, zI_pI, if_neg (by omega), zI_pS, zI_pI, if_neg (by omega), zI_pI, if_neg (by omega)]
            rw [x5, x98, t4 i]
        · exact t5
        · rw [f56]
      · refine ⟨-3, s, -3, s, ?_, ?_, G, rfl⟩
        · unfold f_X11_move f_X5_moveTold
          rw [plX_t c, b1_some, if_neg (by rw [jlt, jl0]; omega), if_pos (by rw [jlt]; omega), if_neg (by rw [jlt, jl1699]; omega), if_neg (by rw [jlt, jl60]; exact b)]
          rfl
        · unfold f_X12_move
          rw [cel_t c, b1_some, if_neg (by decide), in_t (by rw [← t1, i32_add (by rw [jl1]; omega) (by rw [jl1]; omega), jl1, jl1699]; omega), b1_some, if_neg (by decide), if_pos (by rw [← t2]; exact Int32.toInt_inj.1 (by rw [jl60]; omega))]
    · have hm : ¬ ((zS s 59 1 + 1).toInt ≤ a1.toInt ∧ a1.toInt ≤ (1699 : Int32).toInt) := by
        rw [← t1, jl1699, i32_add (by rw [jl1]; omega) (by rw [jl1]; omega), jl1]
        omega
      refine ⟨-1, s, -1, s, ?_, ?_, G, rfl⟩
      · unfold f_X11_move
        rw [plX_t c, b1_some, if_neg (by rw [jlt, jl0]; omega)]
        by_cases h : zS s 0 14 < a1
        · rw [if_pos h, if_pos (by rw [jlt, jl1699]; rw [jlt] at h; omega)]
        · rw [if_neg h]
      · unfold f_X12_move
        rw [cel_t c, b1_some, if_neg (by decide), in_f hm, b1_some, if_pos rfl]
  · refine ⟨-1, s, -1, s, ?_, ?_, G, rfl⟩
    · unfold f_X11_move
      rw [plX_f c, b1_some, if_pos (by decide)]
    · unfold f_X12_move
      rw [cel_f c, b1_some, if_pos rfl]
/-! THE HOUR: class first, then reference -/
def Hit (A B : Nat → Int32) (h : Int32) (i c y : Nat) : Prop := B i = h ∧ Vc (A i) ∧ cC (A i) = c ∧ cY (A i) = y
def MvQ (H : Nat → Nat → Nat → Prop) (lo hi : Nat) (v : Int32) (f g f' g' : Nat → Nat → Int32) : Prop := ∀ c y, c < 32 → 1 ≤ y → y ≤ 60 → ((∃ i, lo ≤ i ∧ i < hi ∧ H i c y) → f' c y = v ∧ g' c y = 0) ∧ ((¬ ∃ i, lo ≤ i ∧ i < hi ∧ H i c y) → f' c y = f c y ∧ g' c y = g c y)
theorem MvQ.no {H : Nat → Nat → Nat → Prop} {lo hi : Nat} {v : Int32} {f g : Nat → Nat → Int32} (h : hi ≤ lo) : MvQ H lo hi v f g f g := fun c y _ _ _ => ⟨fun ⟨i, a, b, _⟩ => by omega, fun _ => ⟨rfl, rfl⟩⟩
theorem MvQ.st {H : Nat → Nat → Nat → Prop} {lo hi : Nat} {v : Int32} {f g f1 g1 f2 g2 : Nat → Nat → Int32} (hl : lo < hi) (h1 : ∀ c y, c < 32 → 1 ≤ y → y ≤ 60 → (H lo c y → f1 c y = v ∧ g1 c y = 0) ∧ (¬ H lo c y → f1 c y = f c y ∧ g1 c y = g c y)) (h2 : MvQ H (lo + 1) hi v f1 g1 f2 g2) : MvQ H lo hi v f g f2 g2 := by
  intro c y a1 a2 a3
  obtain ⟨p1, p2⟩ := h1 c y a1 a2 a3
  obtain ⟨q1, q2⟩ := h2 c y a1 a2 a3
  by_cases z : ∃ i, lo + 1 ≤ i ∧ i < hi ∧ H i c y
  · obtain ⟨i, i1, i2, i3⟩ := z
    exact ⟨fun _ => q1 ⟨i, i1, i2, i3⟩, fun n => absurd ⟨i, by omega, i2, i3⟩ n⟩
  · obtain ⟨e1, e2⟩ := q2 z
    rw [e1, e2]
    refine ⟨fun ⟨i, i1, i2, i3⟩ => p1 ?_, fun n => p2 (fun w => n ⟨lo, by omega, hl, w⟩)⟩
    by_cases w : i = lo
    · rw [← w]; exact i3
    · exact absurd ⟨i, by omega, i2, i3⟩ z
def x2 (s : SS) (c y : Nat) : Int32 := zI s 2 (60 * c + y - 1)
def x3 (s : SS) (c y : Nat) : Int32 := zI s 3 (60 * c + y - 1)
def m2 (s : SS) (c y : Nat) : Int32 := zI s 60 (61 * c + y)
def m3 (s : SS) (c y : Nat) : Int32 := zI s 61 (61 * c + y)
/-- what the class's hour keeps; what the reference's hour keeps -/
def KX (s r : SS) : Prop := FrA s r ∧ r.2.2.2 = s.2.2.2 ∧ (zS r 1 4 = zS s 1 4 ∧ zS r 59 1 = zS s 59 1 ∧ zS r 59 56 = zS s 59 56 ∧ zS r 15 11 = zS s 15 11 ∧ zS r 59 87 = zS s 59 87) ∧ (∀ q i, fIB q = true → 4 ≤ q → zI r q i = zI s q i)
def KM (s r : SS) : Prop := FrA s r ∧ r.2.2.2 = s.2.2.2 ∧ (zS r 1 4 = zS s 1 4 ∧ zS r 0 14 = zS s 0 14 ∧ zS r 59 56 = zS s 59 56 ∧ zS r 15 11 = zS s 15 11 ∧ zS r 59 87 = zS s 59 87) ∧ (∀ q i, fIB q = true → q ≤ 18 ∨ 97 ≤ q → zI r q i = zI s q i)
theorem FrA.rf {s : SS} : FrA s s := ⟨fun _ _ _ => rfl, fun _ _ _ => rfl, fun _ _ _ => rfl⟩
theorem FrA.tr {a b c : SS} (h1 : FrA a b) (h2 : FrA b c) : FrA a c := ⟨fun q k h => (h2.1 q k h).trans (h1.1 q k h), fun q i h => (h2.2.1 q i h).trans (h1.2.1 q i h), fun q i h => (h2.2.2 q i h).trans (h1.2.2 q i h)⟩
theorem FrA.pS {b s : SS} {q k : Nat} {v : Int32} (h : FrA b s) (hq : fSA q k = false) : FrA b (pS s q k v) := ⟨fun a c e => by rw [zSf e hq]; exact h.1 a c e, h.2.1, h.2.2⟩
theorem FrA.pI {b s : SS} {q i : Nat} {v : Int32} (h : FrA b s) (hq : fIA q = false) : FrA b (pI s q i v) := ⟨h.1, fun a c e => by rw [zIf e hq]; exact h.2.1 a c e, h.2.2⟩
theorem KX.rf {s : SS} : KX s s := ⟨FrA.rf, rfl, ⟨rfl, rfl, rfl, rfl, rfl⟩, fun _ _ _ _ => rfl⟩
theorem KX.tr {a b c : SS} (h1 : KX a b) (h2 : KX b c) : KX a c := ⟨h1.1.tr h2.1, h2.2.1.trans h1.2.1, ⟨h2.2.2.1.1.trans h1.2.2.1.1, h2.2.2.1.2.1.trans h1.2.2.1.2.1, h2.2.2.1.2.2.1.trans h1.2.2.1.2.2.1, h2.2.2.1.2.2.2.1.trans h1.2.2.1.2.2.2.1, h2.2.2.1.2.2.2.2.trans h1.2.2.1.2.2.2.2⟩, fun q i x y => (h2.2.2.2 q i x y).trans (h1.2.2.2 q i x y)⟩
theorem KM.rf {s : SS} : KM s s := ⟨FrA.rf, rfl, ⟨rfl, rfl, rfl, rfl, rfl⟩, fun _ _ _ _ => rfl⟩
theorem KM.tr {a b c : SS} (h1 : KM a b) (h2 : KM b c) : KM a c := ⟨h1.1.tr h2.1, h2.2.1.trans h1.2.1, ⟨h2.2.2.1.1.trans h1.2.2.1.1, h2.2.2.1.2.1.trans h1.2.2.1.2.1, h2.2.2.1.2.2.1.trans h1.2.2.1.2.2.1, h2.2.2.1.2.2.2.1.trans h1.2.2.1.2.2.2.1, h2.2.2.1.2.2.2.2.trans h1.2.2.1.2.2.2.2⟩, fun q i x y => (h2.2.2.2 q i x y).trans (h1.2.2.2 q i x y)⟩
theorem Lk.KX {b s : SS} (K : Lk b s) : KX b s := ⟨K.2.2.a, K.2.1, ⟨K.2.2.1 1 4 rfl, K.2.2.1 59 1 rfl, K.2.2.1 59 56 rfl, K.2.2.1 15 11 rfl, K.2.2.1 59 87 rfl⟩, fun q i x _ => K.2.2.b.2 q i x⟩
theorem Lk.KM {b s : SS} (K : Lk b s) : KM b s := ⟨K.2.2.a, K.2.1, ⟨K.2.2.1 1 4 rfl, K.2.2.1 0 14 rfl, K.2.2.1 59 56 rfl, K.2.2.1 15 11 rfl, K.2.2.1 59 87 rfl⟩, fun q i x _ => K.2.2.b.2 q i x⟩
/-- one place of the class's rock -/
theorem x_hit {s : SS} {a : Int32} (h : Vc a) (c y : Nat) (h1 : c < 32) (h2 : 1 ≤ y) (h3 : y ≤ 60) : (cC a = c ∧ cY a = y → x2 (pI (pI s 3 (60 * cC a + cY a - 1) 0) 2 (60 * cC a + cY a - 1) 9) c y = 9 ∧ x3 (pI (pI s 3 (60 * cC a + cY a - 1) 0) 2 (60 * cC a + cY a - 1) 9) c y = 0) ∧ (¬ (cC a = c ∧ cY a = y) → x2 (pI (pI s 3 (60 * cC a + cY a - 1) 0) 2 (60 * cC a + cY a - 1) 9) c y = x2 s c y ∧ x3 (pI (pI s 3 (60 * cC a + cY a - 1) 0) 2 (60 * cC a + cY a - 1) 9) c y = x3 s c y) := by
  obtain ⟨b1, b2, b3⟩ := h.b
  unfold x2 x3
  refine ⟨fun ⟨z1, z2⟩ => ⟨?_, ?_⟩, fun z => ⟨?_, ?_⟩⟩
  · rw [zI_pI, if_pos ⟨rfl, by rw [z1, z2]⟩]
  · rw [zI_pI, if_neg (by omega), zI_pI, if_pos ⟨rfl, by rw [z1, z2]⟩]
  · rw [zI_pI, if_neg (by omega), zI_pI, if_neg (by omega)]
  · rw [zI_pI, if_neg (by omega), zI_pI, if_neg (by omega)]
theorem m_hit {s : SS} {a v : Int32} (h : cellOK a) (hv : v = 0) (c y : Nat) (h1 : c < 32) (h2 : 1 ≤ y) (h3 : y ≤ 60) : (cC a = c ∧ cY a = y → m2 (pI (pI s 61 (61 * cC a + cY a) v) 60 (61 * cC a + cY a) 6) c y = 6 ∧ m3 (pI (pI s 61 (61 * cC a + cY a) v) 60 (61 * cC a + cY a) 6) c y = 0) ∧ (¬ (cC a = c ∧ cY a = y) → m2 (pI (pI s 61 (61 * cC a + cY a) v) 60 (61 * cC a + cY a) 6) c y = m2 s c y ∧ m3 (pI (pI s 61 (61 * cC a + cY a) v) 60 (61 * cC a + cY a) 6) c y = m3 s c y) := by
  obtain ⟨b1, b2, b3⟩ := h
  have b4 : cC a < 32 ∧ cY a ≤ 60 := by unfold cC cY; omega
  unfold m2 m3
  refine ⟨fun ⟨z1, z2⟩ => ⟨?_, ?_⟩, fun z => ⟨?_, ?_⟩⟩
  · rw [zI_pI, if_pos ⟨rfl, by rw [z1, z2]⟩]
  · rw [zI_pI, if_neg (by omega), zI_pI, if_pos ⟨rfl, by rw [z1, z2]⟩]; exact hv
  · rw [zI_pI, if_neg (by omega), zI_pI, if_neg (by omega)]
  · rw [zI_pI, if_neg (by omega), zI_pI, if_neg (by omega)]
theorem Vc_of {a : Int32} {y : Nat} (h : cellOK a) (h2 : 1 ≤ y) (e : cY a = y) : Vc a := by
  obtain ⟨b1, b2, b3⟩ := h
  unfold cY at e
  exact ⟨b1, by omega, by omega, b3⟩
theorem rmX : ∀ (n : Nat) (s : SS) (x : Int32), Iv s → 0 ≤ x.toInt → x.toInt ≤ (zS s 1 4).toInt → (zS s 1 4).toInt - x.toInt < n → ∃ r, f_X11_rockMoves_L2 n s x = some r ∧ Iv r ∧ (KX s r ∧ zS r 0 14 = zS s 0 14) ∧ MvQ (Hit (zI s 4) (zI s 5) (zS s 0 14)) x.toInt.toNat (zS s 1 4).toInt.toNat 9 (x2 s) (x3 s) (x2 r) (x3 r)
  | 0, s, x, _, _, _, h => by omega
  | n + 1, s, x, I, hx0, hx1, hn => by
    have hf : 0 ≤ (zS s 1 4).toInt ∧ (zS s 1 4).toInt ≤ 60 := I.f (q := 1) (k := 4) rfl
    rw [f_X11_rockMoves_L2, f_X11_rockMoves_L2_b]
    by_cases hl : x < zS s 1 4
    · rw [if_pos hl]
      rw [jlt] at hl
      have gn : inB x 60 := ⟨by omega, by omega⟩
      have n1 : (x + 1).toInt = x.toInt + 1 := by rw [i32_add (by rw [jl1]; omega) (by rw [jl1]; omega), jl1]
      have key : ∀ s', Iv s' → KX s s' → zS s' 0 14 = zS s 0 14 → (∀ c y, c < 32 → 1 ≤ y → y ≤ 60 → (Hit (zI s 4) (zI s 5) (zS s 0 14) x.toInt.toNat c y → x2 s' c y = 9 ∧ x3 s' c y = 0) ∧ (¬ Hit (zI s 4) (zI s 5) (zS s 0 14) x.toInt.toNat c y → x2 s' c y = x2 s c y ∧ x3 s' c y = x3 s c y)) → ∃ r, f_X11_rockMoves_L2 n s' (x + 1) = some r ∧ Iv r ∧ (KX s r ∧ zS r 0 14 = zS s 0 14) ∧ MvQ (Hit (zI s 4) (zI s 5) (zS s 0 14)) x.toInt.toNat (zS s 1 4).toInt.toNat 9 (x2 s) (x3 s) (x2 r) (x3 r) := by
        intro s' I' K' h14 hs
        have ec : zS s' 1 4 = zS s 1 4 := K'.2.2.1.1
        obtain ⟨r, e, Ir, ⟨Kr, hr⟩, M⟩ := rmX n s' (x + 1) I' (by omega) (by rw [ec]; omega) (by rw [ec]; omega)
        refine ⟨r, e, Ir, ⟨K'.tr Kr, hr.trans h14⟩, MvQ.st (by omega) hs ?_⟩
        have e4 : zI s' 4 = zI s 4 := funext fun i => K'.2.2.2 4 i rfl (by omega)
        have e5 : zI s' 5 = zI s 5 := funext fun i => K'.2.2.2 5 i rfl (by omega)
        rw [e4, e5, h14, ec, n1] at M
        have en : (x.toInt + 1).toNat = x.toInt.toNat + 1 := by omega
        rw [en] at M
        exact M
      rw [gd_t gn, vl]
      by_cases hh : zI s 5 x.toInt.toNat = zS s 0 14
      · by_cases hv : Vc (zI s 4 x.toInt.toNat)
        · obtain ⟨u1, u2, u3⟩ := hv.b
          have nx := nnI (k := 60 * cC (zI s 4 x.toInt.toNat) + cY (zI s 4 x.toInt.toNat) - 1) (by omega)
          have I2 : Iv (pI (pI s 3 (60 * cC (zI s 4 x.toInt.toNat) + cY (zI s 4 x.toInt.toNat) - 1) 0) 2 (60 * cC (zI s 4 x.toInt.toNat) + cY (zI s 4 x.toInt.toNat) - 1) 9) := (I.wI (q := 3) (by decide) trivial).wI (q := 2) (by decide) trivial
          have K2 : KX s (pI (pI s 3 (60 * cC (zI s 4 x.toInt.toNat) + cY (zI s 4 x.toInt.toNat) - 1) 0) 2 (60 * cC (zI s 4 x.toInt.toNat) + cY (zI s 4 x.toInt.toNat) - 1) 9) := ⟨(FrA.rf.pI (by decide)).pI (by decide), rfl, ⟨rfl, rfl, rfl, rfl, rfl⟩, fun q i _ h4 => by rw [zI_pI, if_neg (by omega), zI_pI, if_neg (by omega)]⟩
          have S2 : ∀ c y, c < 32 → 1 ≤ y → y ≤ 60 → (Hit (zI s 4) (zI s 5) (zS s 0 14) x.toInt.toNat c y → x2 (pI (pI s 3 (60 * cC (zI s 4 x.toInt.toNat) + cY (zI s 4 x.toInt.toNat) - 1) 0) 2 (60 * cC (zI s 4 x.toInt.toNat) + cY (zI s 4 x.toInt.toNat) - 1) 9) c y = 9 ∧ x3 (pI (pI s 3 (60 * cC (zI s 4 x.toInt.toNat) + cY (zI s 4 x.toInt.toNat) - 1) 0) 2 (60 * cC (zI s 4 x.toInt.toNat) + cY (zI s 4 x.toInt.toNat) - 1) 9) c y = 0) ∧ (¬ Hit (zI s 4) (zI s 5) (zS s 0 14) x.toInt.toNat c y → x2 (pI (pI s 3 (60 * cC (zI s 4 x.toInt.toNat) + cY (zI s 4 x.toInt.toNat) - 1) 0) 2 (60 * cC (zI s 4 x.toInt.toNat) + cY (zI s 4 x.toInt.toNat) - 1) 9) c y = x2 s c y ∧ x3 (pI (pI s 3 (60 * cC (zI s 4 x.toInt.toNat) + cY (zI s 4 x.toInt.toNat) - 1) 0) 2 (60 * cC (zI s 4 x.toInt.toNat) + cY (zI s 4 x.toInt.toNat) - 1) 9) c y = x3 s c y) := fun c y h1 h2 h3 => ⟨fun z => (x_hit hv c y h1 h2 h3).1 z.2.2, fun z => (x_hit hv c y h1 h2 h3).2 (fun w => z ⟨hh, hv, w⟩)⟩
          rw [plX_t hv, b1_some, gd_t gn, jn, if_pos hh, if_neg (by rw [jlt, jl0]; omega), gd_t ⟨by omega, by omega⟩, st, gd_t ⟨by omega, by omega⟩, st, nx.2]
          obtain ⟨r15, e15, -⟩ := w_X0_isRefuge (a0 := zI s 4 x.toInt.toNat / 100) (a1 := zI s 4 x.toInt.toNat % 100) (Lk.rf I2)
          rw [e15, b1_some]
          by_cases z : r15 = 0
          · rw [if_pos z]
            exact key _ I2 K2 rfl S2
          · rw [if_neg z, st]
            exact key _ (I2.wF (q := 15) (k := 9) (by decide) (by decide) trivial) (K2.tr ⟨FrA.rf.pS (by decide), rfl, ⟨rfl, rfl, rfl, rfl, rfl⟩, fun _ _ _ _ => rfl⟩) rfl S2
        · rw [plX_f hv, b1_some, gd_t gn, jn, if_pos hh, if_pos (by decide)]
          exact key s I KX.rf rfl (fun c y _ _ _ => ⟨fun z => absurd z.2.1 hv, fun _ => ⟨rfl, rfl⟩⟩)
      · obtain ⟨r4, e4⟩ : ∃ r4, f_X11_placeOf (zI s 4 x.toInt.toNat) = some r4 := by
          by_cases hv : Vc (zI s 4 x.toInt.toNat)
          · exact ⟨_, plX_t hv⟩
          · exact ⟨_, plX_f hv⟩
        rw [e4, b1_some, gd_t gn, jn, if_neg hh]
        exact key s I KX.rf rfl (fun c y _ _ _ => ⟨fun z => absurd z.1 hh, fun _ => ⟨rfl, rfl⟩⟩)
    · rw [if_neg hl]
      rw [jlt] at hl
      exact ⟨s, rfl, I, ⟨KX.rf, rfl⟩, MvQ.no (by omega)⟩
theorem rmM (q0 : SS → Option (Int32 × SS)) (y1 y2 : Int32) : ∀ (n : Nat) (s : SS) (x : Int32), Iv s → 0 ≤ x.toInt → x.toInt ≤ (zS s 59 56).toInt → (zS s 59 56).toInt - x.toInt < n → ∃ r, f_X12_hours_L65 q0 y1 y2 n s x = q0 r ∧ Iv r ∧ (KM s r ∧ zS r 59 1 = zS s 59 1) ∧ MvQ (Hit (zI s 97) (zI s 98) (zS s 59 1)) x.toInt.toNat (zS s 59 56).toInt.toNat 6 (m2 s) (m3 s) (m2 r) (m3 r)
  | 0, s, x, _, _, _, h => by omega
  | n + 1, s, x, I, hx0, hx1, hn => by
    have hf : 0 ≤ (zS s 59 56).toInt ∧ (zS s 59 56).toInt ≤ 60 := I.f (q := 59) (k := 56) rfl
    rw [f_X12_hours_L65, f_X12_hours_L65_b]
    by_cases hl : x < zS s 59 56
    · rw [if_pos hl]
      rw [jlt] at hl
      have gn : inB x 60 := ⟨by omega, by omega⟩
      have n1 : (x + 1).toInt = x.toInt + 1 := by rw [i32_add (by rw [jl1]; omega) (by rw [jl1]; omega), jl1]
      have key : ∀ s', Iv s' → KM s s' → zS s' 59 1 = zS s 59 1 → (∀ c y, c < 32 → 1 ≤ y → y ≤ 60 → (Hit (zI s 97) (zI s 98) (zS s 59 1) x.toInt.toNat c y → m2 s' c y = 6 ∧ m3 s' c y = 0) ∧ (¬ Hit (zI s 97) (zI s 98) (zS s 59 1) x.toInt.toNat c y → m2 s' c y = m2 s c y ∧ m3 s' c y = m3 s c y)) → ∃ r, f_X12_hours_L65 q0 y1 y2 n s' (x + 1) = q0 r ∧ Iv r ∧ (KM s r ∧ zS r 59 1 = zS s 59 1) ∧ MvQ (Hit (zI s 97) (zI s 98) (zS s 59 1)) x.toInt.toNat (zS s 59 56).toInt.toNat 6 (m2 s) (m3 s) (m2 r) (m3 r) := by
        intro s' I' K' h14 hs
        have ec : zS s' 59 56 = zS s 59 56 := K'.2.2.1.2.2.1
        obtain ⟨r, e, Ir, ⟨Kr, hr⟩, M⟩ := rmM q0 y1 y2 n s' (x + 1) I' (by omega) (by rw [ec]; omega) (by rw [ec]; omega)
        refine ⟨r, e, Ir, ⟨K'.tr Kr, hr.trans h14⟩, MvQ.st (by omega) hs ?_⟩
        have e4 : zI s' 97 = zI s 97 := funext fun i => K'.2.2.2 97 i rfl (by omega)
        have e5 : zI s' 98 = zI s 98 := funext fun i => K'.2.2.2 98 i rfl (by omega)
        rw [e4, e5, h14, ec, n1] at M
        have en : (x.toInt + 1).toNat = x.toInt.toNat + 1 := by omega
        rw [en] at M
        exact M
      rw [gd_t gn, jn]
      by_cases hh : zI s 98 x.toInt.toNat = zS s 59 1
      · have hv : cellOK (zI s 97 x.toInt.toNat) := I.a (q := 97) rfl
        obtain ⟨a, ea⟩ : ∃ a, a = zI s 97 x.toInt.toNat := ⟨_, rfl⟩
        have hv' : cellOK a := by rw [ea]; exact hv
        obtain ⟨v1, v2, v3⟩ := hv'
        have u : cC a < 32 ∧ cY a ≤ 60 := by unfold cC cY; omega
        have nx := nnI (k := 61 * cC a + cY a) (by omega)
        have I2 : Iv (pI (pI s 61 (61 * cC a + cY a) ((0 : Int32) &&& 1)) 60 (61 * cC a + cY a) 6) := (I.wI (q := 61) (by decide) trivial).wI (q := 60) (by decide) trivial
        have K2 : KM s (pI (pI s 61 (61 * cC a + cY a) ((0 : Int32) &&& 1)) 60 (61 * cC a + cY a) 6) := ⟨(FrA.rf.pI (by decide)).pI (by decide), rfl, ⟨rfl, rfl, rfl, rfl, rfl⟩, fun q i _ h4 => by rw [zI_pI, if_neg (by omega), zI_pI, if_neg (by omega)]⟩
        have S2 : ∀ c y, c < 32 → 1 ≤ y → y ≤ 60 → (Hit (zI s 97) (zI s 98) (zS s 59 1) x.toInt.toNat c y → m2 (pI (pI s 61 (61 * cC a + cY a) ((0 : Int32) &&& 1)) 60 (61 * cC a + cY a) 6) c y = 6 ∧ m3 (pI (pI s 61 (61 * cC a + cY a) ((0 : Int32) &&& 1)) 60 (61 * cC a + cY a) 6) c y = 0) ∧ (¬ Hit (zI s 97) (zI s 98) (zS s 59 1) x.toInt.toNat c y → m2 (pI (pI s 61 (61 * cC a + cY a) ((0 : Int32) &&& 1)) 60 (61 * cC a + cY a) 6) c y = m2 s c y ∧ m3 (pI (pI s 61 (61 * cC a + cY a) ((0 : Int32) &&& 1)) 60 (61 * cC a + cY a) 6) c y = m3 s c y) := fun c y h1 h2 h3 => ⟨fun z => (m_hit (by exact ⟨v1, v2, v3⟩) (by decide) c y h1 h2 h3).1 (by rw [ea]; exact z.2.2), fun z => (m_hit (by exact ⟨v1, v2, v3⟩) (by decide) c y h1 h2 h3).2 (fun w => z ⟨hh, by rw [← ea]; exact Vc_of ⟨v1, v2, v3⟩ h2 w.2, by rw [← ea]; exact w⟩)⟩
        rw [if_pos hh, gd_t gn, ← ea, plM v1 v2, b1_some, gd_t ⟨by omega, by omega⟩, st, gd_t ⟨by omega, by omega⟩, st, nx.2]
        have fin1 := key _ I2 K2 rfl S2
        have fin2 := key _ (I2.wF (q := 59) (k := 25) (v := 1) (by decide) (by decide) trivial) (K2.tr ⟨FrA.rf.pS (by decide), rfl, ⟨rfl, rfl, rfl, rfl, rfl⟩, fun _ _ _ _ => rfl⟩) rfl S2
        by_cases z : zS (pI (pI s 61 (61 * cC a + cY a) ((0 : Int32) &&& 1)) 60 (61 * cC a + cY a) 6) 59 21 < 0
        · rw [if_pos z]
          exact fin1
        · rw [if_neg z, gd_t gn]
          by_cases z2 : zI (pI (pI s 61 (61 * cC a + cY a) ((0 : Int32) &&& 1)) 60 (61 * cC a + cY a) 6) 97 x.toInt.toNat % 100 = zS (pI (pI s 61 (61 * cC a + cY a) ((0 : Int32) &&& 1)) 60 (61 * cC a + cY a) 6) 59 24
          · rw [if_pos z2, gd_t gn]
            obtain ⟨r26, e26, -⟩ := w_X12_in (a0 := zI (pI (pI s 61 (61 * cC a + cY a) ((0 : Int32) &&& 1)) 60 (61 * cC a + cY a) 6) 97 x.toInt.toNat / 100) (a1 := zS (pI (pI s 61 (61 * cC a + cY a) ((0 : Int32) &&& 1)) 60 (61 * cC a + cY a) 6) 59 22) (a2 := zS (pI (pI s 61 (61 * cC a + cY a) ((0 : Int32) &&& 1)) 60 (61 * cC a + cY a) 6) 59 23)
            rw [e26, b1_some]
            by_cases z3 : r26 = 0
            · rw [if_pos z3]
              exact fin1
            · rw [if_neg z3, st]
              exact fin2
          · rw [if_neg z2]
            exact fin1
      · rw [if_neg hh]
        exact key s I KM.rf rfl (fun c y _ _ _ => ⟨fun z => absurd z.1 hh, fun _ => ⟨rfl, rfl⟩⟩)
    · rw [if_neg hl]
      rw [jlt] at hl
      exact ⟨s, rfl, I, ⟨KM.rf, rfl⟩, MvQ.no (by omega)⟩
theorem hourX {s : SS} (I : Iv s) : ∃ r, f_X11_hourGoesBy s = some r ∧ Iv r ∧ KX s r ∧ zS r 0 14 = zS s 0 14 + 1 ∧ MvQ (Hit (zI s 4) (zI s 5) (zS s 0 14 + 1)) 0 (zS s 1 4).toInt.toNat 9 (x2 s) (x3 s) (x2 r) (x3 r) := by
  have Ib : Iv (pS s 0 14 (zS s 0 14 + 1)) := I.wF (q := 0) (k := 14) (by decide) (by decide) trivial
  have K0 : KX s (pS s 0 14 (zS s 0 14 + 1)) := ⟨FrA.rf.pS (by decide), rfl, ⟨rfl, rfl, rfl, rfl, rfl⟩, fun _ _ _ _ => rfl⟩
  have fin : ∀ s7, Lk (pS s 0 14 (zS s 0 14 + 1)) s7 → ∃ r, (b1 (f_X11_rockMoves s7) fun s8 => some s8) = some r ∧ Iv r ∧ KX s r ∧ zS r 0 14 = zS s 0 14 + 1 ∧ MvQ (Hit (zI s 4) (zI s 5) (zS s 0 14 + 1)) 0 (zS s 1 4).toInt.toNat 9 (x2 s) (x3 s) (x2 r) (x3 r) := by
    intro s7 K7
    have hf : 0 ≤ (zS s7 1 4).toInt ∧ (zS s7 1 4).toInt ≤ 60 := K7.1.f (q := 1) (k := 4) rfl
    obtain ⟨r, e, Ir, ⟨Kr, hr⟩, M⟩ := rmX 4000 s7 0 K7.1 (by decide) (by rw [jl0]; exact hf.1) (by rw [jl0]; omega)
    have h14 : zS s7 0 14 = zS s 0 14 + 1 := K7.2.2.1 0 14 rfl
    have hc : zS s7 1 4 = zS s 1 4 := K7.2.2.1 1 4 rfl
    have e4 : zI s7 4 = zI s 4 := funext fun i => K7.2.2.2.1 4 i rfl
    have e5 : zI s7 5 = zI s 5 := funext fun i => K7.2.2.2.1 5 i rfl
    have f2 : x2 s7 = x2 s := funext fun c => funext fun y => K7.2.2.2.1 2 _ rfl
    have f3 : x3 s7 = x3 s := funext fun c => funext fun y => K7.2.2.2.1 3 _ rfl
    rw [e4, e5, h14, hc, f2, f3] at M
    refine ⟨r, ?_, Ir, K0.tr (K7.KX.tr Kr), hr.trans h14, M⟩
    unfold f_X11_rockMoves
    rw [e, b1_some]
  have mid : ∀ s5, Lk (pS s 0 14 (zS s 0 14 + 1)) s5 → ∃ r, (b1 (f_X9_arrivals s5 (zS s5 0 14)) fun s6 => (jn (fun (s7 : SS)  => (b1 (f_X11_rockMoves s7) fun s8 => some s8)) fun k7 => (if ((zS s6 0 14) % (24 : Int32)) = (0 : Int32) then (b1 (f_X11_menEat s6) fun s11 => (k7 s11)) else (k7 s6)))) = some r ∧ Iv r ∧ KX s r ∧ zS r 0 14 = zS s 0 14 + 1 ∧ MvQ (Hit (zI s 4) (zI s 5) (zS s 0 14 + 1)) 0 (zS s 1 4).toInt.toNat 9 (x2 s) (x3 s) (x2 r) (x3 r) := by
    intro s5 K5
    obtain ⟨s6, e6, K6⟩ := w_X9_arrivals (a0 := zS s5 0 14) K5
    rw [e6, b1_some, jn]
    by_cases z : zS s6 0 14 % 24 = 0
    · rw [if_pos z]
      obtain ⟨s11, e11, K11⟩ := w_X11_menEat K6
      rw [e11, b1_some]
      exact fin s11 K11
    · rw [if_neg z]
      exact fin s6 K6
  unfold f_X11_hourGoesBy
  rw [vl, st]
  obtain ⟨r3, e3, -⟩ := w_X11_latestText (a0 := 0) (a1 := 2) (a2 := zS (pS s 0 14 (zS s 0 14 + 1)) 0 14) (a3 := zS (pS s 0 14 (zS s 0 14 + 1)) 0 14) (Lk.rf Ib)
  rw [e3, b1_some]
  obtain ⟨⟨r4, s4⟩, e4, K4⟩ := w_X11_given (a0 := r3) (a1 := 2) (a2 := -1) (Lk.rf Ib)
  rw [e4, bd_some, jn]
  by_cases z : r4 = 0
  · rw [if_pos z]
    obtain ⟨s13, e13, K13⟩ := w_X11_machinesWork K4
    rw [e13, b1_some]
    exact mid s13 K13
  · rw [if_neg z]
    exact mid s4 K4
/-- the reference's hour, what follows it apart -/
theorem hourM {s : SS} (I : Iv s) (y1 x : Int32) (n : Nat) (hl : x < y1) : ∃ r, f_X12_hours_L26 y1 (n + 1) s x = f_X12_hours_L26 y1 n r (x + 1) ∧ Iv r ∧ KM s r ∧ zS r 59 1 = zS s 59 1 + 1 ∧ MvQ (Hit (zI s 97) (zI s 98) (zS s 59 1 + 1)) 0 (zS s 59 56).toInt.toNat 6 (m2 s) (m3 s) (m2 r) (m3 r) := by
  have Ib : Iv (pS s 59 1 (zS s 59 1 + 1)) := I.wF (q := 59) (k := 1) (by decide) (by decide) trivial
  have K0 : KM s (pS s 59 1 (zS s 59 1 + 1)) := ⟨FrA.rf.pS (by decide), rfl, ⟨rfl, rfl, rfl, rfl, rfl⟩, fun _ _ _ _ => rfl⟩
  have fin : ∀ s7, Lk (pS s 59 1 (zS s 59 1 + 1)) s7 → ∃ r, f_X12_hours_L65 (fun (s29 : SS)  => (vl (x + 1) fun v30 => (f_X12_hours_L26 y1 n s29 v30))) y1 x 4000 s7 0 = f_X12_hours_L26 y1 n r (x + 1) ∧ Iv r ∧ KM s r ∧ zS r 59 1 = zS s 59 1 + 1 ∧ MvQ (Hit (zI s 97) (zI s 98) (zS s 59 1 + 1)) 0 (zS s 59 56).toInt.toNat 6 (m2 s) (m3 s) (m2 r) (m3 r) := by
    intro s7 K7
    have hf : 0 ≤ (zS s7 59 56).toInt ∧ (zS s7 59 56).toInt ≤ 60 := K7.1.f (q := 59) (k := 56) rfl
    obtain ⟨r, e, Ir, ⟨Kr, hr⟩, M⟩ := rmM (fun (s29 : SS)  => (vl (x + 1) fun v30 => (f_X12_hours_L26 y1 n s29 v30))) y1 x 4000 s7 0 K7.1 (by decide) (by rw [jl0]; exact hf.1) (by rw [jl0]; omega)
    have h14 : zS s7 59 1 = zS s 59 1 + 1 := K7.2.2.1 59 1 rfl
    have hc : zS s7 59 56 = zS s 59 56 := K7.2.2.1 59 56 rfl
    have e4 : zI s7 97 = zI s 97 := funext fun i => K7.2.2.2.1 97 i rfl
    have e5 : zI s7 98 = zI s 98 := funext fun i => K7.2.2.2.1 98 i rfl
    have f2 : m2 s7 = m2 s := funext fun c => funext fun y => K7.2.2.2.1 60 _ rfl
    have f3 : m3 s7 = m3 s := funext fun c => funext fun y => K7.2.2.2.1 61 _ rfl
    rw [e4, e5, h14, hc, f2, f3] at M
    exact ⟨r, by rw [e, vl], Ir, K0.tr (K7.KM.tr Kr), hr.trans h14, M⟩
  rw [f_X12_hours_L26, f_X12_hours_L26_b, if_pos hl, vl, st]
  obtain ⟨s7, e7, K7⟩ := w_X12_drill (Lk.rf Ib)
  obtain ⟨s8, e8, K8⟩ := w_X12_comeDown K7
  rw [e7, b1_some, e8, b1_some, jn]
  by_cases z : zS s8 59 1 % 24 = 0
  · rw [if_pos z]
    obtain ⟨s32, e32, K32⟩ := w_X12_eat K8
    rw [e32, b1_some]
    exact fin s32 K32
  · rw [if_neg z]
    exact fin s8 K8
theorem hrs (y1 : Int32) : ∀ (m n n' : Nat) (s t : SS) (x : Int32), Iv s → Iv t → RTx s t → RKx s t → y1.toInt - x.toInt = m → m < n → m < n' → (zS s 0 14).toInt + m ≤ 1699 → ∃ r u, f_X11_hours_L27 y1 n s x = some (zS r 0 14, r) ∧ f_X12_hours_L26 y1 n' t x = some (zS u 59 1, u) ∧ Iv r ∧ Iv u ∧ RTx r u ∧ RKx r u ∧ KX s r ∧ KM t u
  | 0, n + 1, n' + 1, s, t, x, I, J, T, R, hm, _, _, _ => by
    have hl : ¬ x < y1 := by rw [jlt]; omega
    refine ⟨s, t, ?_, ?_, I, J, T, R, KX.rf, KM.rf⟩
    · rw [f_X11_hours_L27, f_X11_hours_L27_b, if_neg hl]
    · rw [f_X12_hours_L26, f_X12_hours_L26_b, if_neg hl]
  | m + 1, n + 1, n' + 1, s, t, x, I, J, T, R, hm, hn, hn', hh => by
    have hl : x < y1 := by rw [jlt]; omega
    have ly := jlo y1
    have lx := jlo x
    have n1 : (x + 1).toInt = x.toInt + 1 := by rw [i32_add (by rw [jl1]; omega) (by rw [jl1]; omega), jl1]
    obtain ⟨t1, t2, t3, t4, t5, t6⟩ := T
    have n2 : (zS s 0 14 + 1).toInt = (zS s 0 14).toInt + 1 := by rw [i32_add (by rw [jl1]; omega) (by rw [jl1]; omega), jl1]
    obtain ⟨s1, e1, I1, K1, h1, M1⟩ := hourX I
    obtain ⟨u1, f1, J1, L1, g1, N1⟩ := hourM J y1 x n' hl
    have T1 : RTx s1 u1 := by
      refine ⟨by rw [h1, g1, t1], by rw [K1.2.2.1.1, L1.2.2.1.2.2.1, t2], fun i => ?_, fun i => ?_, by rw [h1, n2]; omega, by rw [h1, n2]; omega⟩
      · rw [K1.2.2.2 4 i rfl (by omega), L1.2.2.2 97 i rfl (by omega)]; exact t3 i
      · rw [K1.2.2.2 5 i rfl (by omega), L1.2.2.2 98 i rfl (by omega)]; exact t4 i
    have e97 : zI t 97 = zI s 4 := funext fun i => (t3 i).symm
    have e98 : zI t 98 = zI s 5 := funext fun i => (t4 i).symm
    rw [e97, e98, ← t1, ← t2] at N1
    have R1 : RKx s1 u1 := by
      intro c y a1 a2 a3
      obtain ⟨p1, p2⟩ := M1 c y a1 a2 a3
      obtain ⟨q1, q2⟩ := N1 c y a1 a2 a3
      show x2 s1 c y = 3 + m2 u1 c y ∧ x3 s1 c y = m3 u1 c y ∧ (m3 u1 c y = 0 ∨ m3 u1 c y = 1)
      by_cases z : ∃ i, 0 ≤ i ∧ i < (zS s 1 4).toInt.toNat ∧ Hit (zI s 4) (zI s 5) (zS s 0 14 + 1) i c y
      · rw [(p1 z).1, (p1 z).2, (q1 z).1, (q1 z).2]
        exact ⟨by decide, rfl, Or.inl rfl⟩
      · rw [(p2 z).1, (p2 z).2, (q2 z).1, (q2 z).2]
        exact R c y a1 a2 a3
    obtain ⟨r, u, e2, f2, I2, J2, T2, R2, K2, L2⟩ := hrs y1 m n n' s1 u1 (x + 1) I1 J1 T1 R1 (by omega) (by omega) (by omega) (by rw [h1, n2]; omega)
    refine ⟨r, u, ?_, f1.trans f2, I2, J2, T2, R2, K1.tr K2, L1.tr L2⟩
    rw [f_X11_hours_L27, f_X11_hours_L27_b, if_pos hl, e1, b1_some, vl]
    exact e2
theorem st_hours {s : SS} (G : GI s) (a0 : Int32) : ∃ (rx : Int32) (s1 : SS) (rm : Int32) (s2 : SS), f_X11_hours s a0 = some (rx, s1) ∧ f_X12_hours s1 a0 = some (rm, s2) ∧ GI s2 ∧ rx = rm := by
  obtain ⟨T, R, TR1⟩ := G.2
  obtain ⟨t1, t2, t3, t4, t5, t6⟩ := id T
  by_cases c : 1 ≤ a0.toInt ∧ a0.toInt ≤ 48
  · have na : (zS s 0 14 + a0).toInt = (zS s 0 14).toInt + a0.toInt := i32_add (by omega) (by omega)
    by_cases d : (zS s 0 14).toInt + a0.toInt ≤ 1699
    · obtain ⟨m, em⟩ : ∃ m : Nat, a0.toInt = m := ⟨a0.toInt.toNat, by omega⟩
      obtain ⟨r, _, er, _, Ir, _, _, _, Kr, _⟩ := hrs a0 m 4000 4000 s s 0 G.1.1 G.1.1 T R (by rw [jl0]; omega) (by omega) (by omega) (by omega)
      have Tr : RTx s r := ⟨by rw [Kr.2.2.1.2.1]; exact t1, by rw [Kr.2.2.1.2.2.1]; exact t2, fun i => by rw [Kr.2.2.2 97 i rfl (by omega)]; exact t3 i, fun i => by rw [Kr.2.2.2 98 i rfl (by omega)]; exact t4 i, t5, t6⟩
      have Rr : RKx s r := fun c y h1 h2 h3 => by rw [Kr.2.2.2 60 _ rfl (by omega), Kr.2.2.2 61 _ rfl (by omega)]; exact R c y h1 h2 h3
      obtain ⟨r', u, er', fu, Ir', Iu, Tu, Ru, Ku, Lu⟩ := hrs a0 m 4000 4000 s r 0 G.1.1 Ir Tr Rr (by rw [jl0]; omega) (by omega) (by omega) (by omega)
      have err : r' = r := by
        have := er'.symm.trans er
        exact congrArg Prod.snd (Option.some.inj this)
      rw [err] at er' Tu Ru Ku
      obtain ⟨u1, u2, u3, u4, u5⟩ := id Tu
      refine ⟨zS r 0 14, r, zS u 59 1, u, ?_, ?_, ⟨G.1.go (Ku.1.tr Lu.1) (fun i => ?_) Iu, ⟨?_, ?_, ?_⟩⟩, u1⟩
      · unfold f_X11_hours
        rw [if_neg (by rw [jlt, jl1]; omega), if_neg (by rw [jlt, show (48 : Int32).toInt = 48 from rfl]; omega), if_neg (by rw [jlt, jl1699]; omega), er']
      · unfold f_X12_hours
        rw [in_t (by rw [jl1, show (48 : Int32).toInt = 48 from rfl]; omega), b1_some, if_neg (by decide), if_neg (by rw [jlt, jl1699, ← Tr.1]; omega), fu]
      · show u.2.2.2.1 17 i = _
        rw [Lu.2.1, Ku.2.1]
        rfl
      · refine ⟨by rw [Lu.2.2.1.2.1]; exact u1, by rw [Lu.2.2.1.1]; exact u2, fun i => by rw [Lu.2.2.2 4 i rfl (by omega)]; exact u3 i, fun i => by rw [Lu.2.2.2 5 i rfl (by omega)]; exact u4 i, ?_⟩
        rw [Lu.2.2.1.2.1]
        exact u5
      · intro c y h1 h2 h3
        rw [Lu.2.2.2 2 _ rfl (by omega), Lu.2.2.2 3 _ rfl (by omega)]
        exact Ru c y h1 h2 h3
      · refine ⟨?_, fun i => ?_⟩
        · rw [Lu.2.2.1.2.2.2.1, Ku.2.2.1.2.2.2.1, Lu.2.2.1.2.2.2.2, Ku.2.2.1.2.2.2.2]; exact TR1.1
        · rw [Lu.2.2.2 18 i rfl (by omega), Ku.2.2.2 18 i rfl (by omega), Lu.2.2.2 119 i rfl (by omega), Ku.2.2.2 119 i rfl (by omega)]; exact TR1.2 i
    · refine ⟨-1, s, -1, s, ?_, ?_, G, rfl⟩
      · unfold f_X11_hours
        rw [if_neg (by rw [jlt, jl1]; omega), if_neg (by rw [jlt, show (48 : Int32).toInt = 48 from rfl]; omega), if_pos (by rw [jlt, jl1699]; omega)]
      · unfold f_X12_hours
        rw [in_t (by rw [jl1, show (48 : Int32).toInt = 48 from rfl]; omega), b1_some, if_neg (by decide), if_pos (by rw [jlt, jl1699, ← t1]; omega)]
  · refine ⟨-1, s, -1, s, ?_, ?_, G, rfl⟩
    · unfold f_X11_hours
      by_cases h : a0 < 1
      · rw [if_pos h]
      · rw [if_neg h, if_pos (by rw [jlt, show (48 : Int32).toInt = 48 from rfl]; rw [jlt, jl1] at h; omega)]
    · unfold f_X12_hours
      rw [in_f (by rw [jl1, show (48 : Int32).toInt = 48 from rfl]; omega), b1_some, if_pos rfl]
/-! ACTS: what they leave in the trace -/
def tX1 (s : SS) (v : Int32) : SS := pS (if zS s 15 11 < 24 then pI s 18 (zS s 15 11).toInt.toNat v else s) 15 11 (zS s 15 11 + 1)
def tM1 (s : SS) (v : Int32) : SS := pS (if zS s 59 87 < 24 then pI s 119 (zS s 59 87).toInt.toNat v else s) 59 87 (zS s 59 87 + 1)
def tX (s : SS) (l : List Int32) : SS := l.foldl tX1 s
def tM (s : SS) (l : List Int32) : SS := l.foldl tM1 s
def nX (s : SS) (m : Int) : Prop := 0 ≤ (zS s 15 11).toInt ∧ (zS s 15 11).toInt ≤ m
def nM (s : SS) (m : Int) : Prop := 0 ≤ (zS s 59 87).toInt ∧ (zS s 59 87).toInt ≤ m
theorem j24 : (24 : Int32).toInt = 24 := rfl
theorem zS_if {c : Prop} [Decidable c] {a b : SS} {q k : Nat} (h : zS a q k = zS b q k) : zS (if c then a else b) q k = zS b q k := by
  by_cases z : c
  · rw [if_pos z]; exact h
  · rw [if_neg z]
theorem zI_if {c : Prop} [Decidable c] {a b : SS} {q i : Nat} (h : zI a q i = zI b q i) : zI (if c then a else b) q i = zI b q i := by
  by_cases z : c
  · rw [if_pos z]; exact h
  · rw [if_neg z]
theorem tX1_n {s : SS} {v : Int32} : zS (tX1 s v) 15 11 = zS s 15 11 + 1 := by
  unfold tX1
  rw [zS_pS, if_pos ⟨rfl, rfl⟩]
theorem tM1_n {s : SS} {v : Int32} : zS (tM1 s v) 59 87 = zS s 59 87 + 1 := by
  unfold tM1
  rw [zS_pS, if_pos ⟨rfl, rfl⟩]
theorem tX1_S {s : SS} {v : Int32} {q k : Nat} (h : ¬ (q = 15 ∧ k = 11)) : zS (tX1 s v) q k = zS s q k := by
  unfold tX1
  rw [zS_pS, if_neg h]
  exact zS_if rfl
theorem tM1_S {s : SS} {v : Int32} {q k : Nat} (h : ¬ (q = 59 ∧ k = 87)) : zS (tM1 s v) q k = zS s q k := by
  unfold tM1
  rw [zS_pS, if_neg h]
  exact zS_if rfl
theorem tX1_I {s : SS} {v : Int32} {q i : Nat} (h : q ≠ 18) : zI (tX1 s v) q i = zI s q i := by
  unfold tX1
  rw [zI_pS]
  exact zI_if (by rw [zI_pI, if_neg (fun z => h z.1)])
theorem tM1_I {s : SS} {v : Int32} {q i : Nat} (h : q ≠ 119) : zI (tM1 s v) q i = zI s q i := by
  unfold tM1
  rw [zI_pS]
  exact zI_if (by rw [zI_pI, if_neg (fun z => h z.1)])
theorem tX1_J {s : SS} {v : Int32} : (tX1 s v).2.2 = s.2.2 := by
  unfold tX1
  by_cases z : zS s 15 11 < 24
  · rw [if_pos z]; rfl
  · rw [if_neg z]; rfl
theorem tM1_J {s : SS} {v : Int32} : (tM1 s v).2.2 = s.2.2 := by
  unfold tM1
  by_cases z : zS s 59 87 < 24
  · rw [if_pos z]; rfl
  · rw [if_neg z]; rfl
theorem nX.s {s : SS} {m : Int} {v : Int32} (h : nX s m) (hm : m ≤ 1000) : nX (tX1 s v) (m + 1) := by
  obtain ⟨h1, h2⟩ := h
  unfold nX
  rw [tX1_n, i32_add (by rw [jl1]; omega) (by rw [jl1]; omega), jl1]
  omega
theorem nM.s {s : SS} {m : Int} {v : Int32} (h : nM s m) (hm : m ≤ 1000) : nM (tM1 s v) (m + 1) := by
  obtain ⟨h1, h2⟩ := h
  unfold nM
  rw [tM1_n, i32_add (by rw [jl1]; omega) (by rw [jl1]; omega), jl1]
  omega
theorem runs_eq {s : SS} {m : Int} {v : Int32} (h : nX s m) : f_X0_runs s v = some (tX1 s v) := by
  unfold f_X0_runs tX1
  rw [jn]
  by_cases z : zS s 15 11 < 24
  · rw [if_pos z, if_pos z, vl, gd_t ⟨h.1, by rw [jlt, j24] at z; omega⟩, st]
    show (vl (zS (pI s 18 (zS s 15 11).toInt.toNat v) 15 11 + 1) fun v2 => st (pS (pI s 18 (zS s 15 11).toInt.toNat v) 15 11 v2) fun s3 => some s3) = _
    rw [vl, st, zS_pI]
  · rw [if_neg z, if_neg z]
    show (vl (zS s 15 11 + 1) fun v2 => st (pS s 15 11 v2) fun s3 => some s3) = _
    rw [vl, st]
theorem ran_eq {s : SS} {m : Int} {v : Int32} (h : nM s m) : f_X12_ran s v = some (tM1 s v) := by
  unfold f_X12_ran tM1
  rw [jn]
  by_cases z : zS s 59 87 < 24
  · rw [if_pos z, if_pos z, vl, gd_t ⟨h.1, by rw [jlt, j24] at z; omega⟩, st]
    show (vl (zS (pI s 119 (zS s 59 87).toInt.toNat v) 59 87 + 1) fun v2 => st (pS (pI s 119 (zS s 59 87).toInt.toNat v) 59 87 v2) fun s3 => some s3) = _
    rw [vl, st, zS_pI]
  · rw [if_neg z, if_neg z]
    show (vl (zS s 59 87 + 1) fun v2 => st (pS s 59 87 v2) fun s3 => some s3) = _
    rw [vl, st]
theorem TR.s {s t : SS} {v : Int32} (h : TR s t) : TR (tX1 s v) (tM1 t v) := by
  obtain ⟨h1, h2⟩ := h
  refine ⟨by rw [tX1_n, tM1_n, h1], fun i => ?_⟩
  unfold tX1 tM1
  rw [zI_pS, zI_pS, h1]
  by_cases z : zS t 59 87 < 24
  · rw [if_pos z, if_pos z, zI_pI, zI_pI]
    by_cases w : i = (zS t 59 87).toInt.toNat
    · rw [if_pos ⟨rfl, w⟩, if_pos ⟨rfl, w⟩]
    · rw [if_neg (fun e => w e.2), if_neg (fun e => w e.2)]; exact h2 i
  · rw [if_neg z, if_neg z]; exact h2 i
theorem TR.l : ∀ (l : List Int32) {s t : SS}, TR s t → TR (tX s l) (tM t l)
  | [], _, _, h => h
  | _ :: l, _, _, h => TR.l l h.s
/-- what a trace leaves as it was -/
def EX (s r : SS) : Prop := (∀ q k, ¬ (q = 15 ∧ k = 11) → zS r q k = zS s q k) ∧ (∀ q i, q ≠ 18 → zI r q i = zI s q i) ∧ r.2.2 = s.2.2
def EM (s r : SS) : Prop := (∀ q k, ¬ (q = 59 ∧ k = 87) → zS r q k = zS s q k) ∧ (∀ q i, q ≠ 119 → zI r q i = zI s q i) ∧ r.2.2 = s.2.2
theorem EX.l (l : List Int32) : ∀ {s : SS}, EX s (tX s l) := by
  induction l with
  | nil => exact ⟨fun _ _ _ => rfl, fun _ _ _ => rfl, rfl⟩
  | cons v l ih =>
    intro s
    obtain ⟨h1, h2, h3⟩ := @ih (tX1 s v)
    exact ⟨fun q k h => (h1 q k h).trans (tX1_S h), fun q i h => (h2 q i h).trans (tX1_I h), h3.trans tX1_J⟩
theorem EM.l (l : List Int32) : ∀ {s : SS}, EM s (tM s l) := by
  induction l with
  | nil => exact ⟨fun _ _ _ => rfl, fun _ _ _ => rfl, rfl⟩
  | cons v l ih =>
    intro s
    obtain ⟨h1, h2, h3⟩ := @ih (tM1 s v)
    exact ⟨fun q k h => (h1 q k h).trans (tM1_S h), fun q i h => (h2 q i h).trans (tM1_I h), h3.trans tM1_J⟩
theorem nX.l (l : List Int32) : ∀ {s : SS} {m : Int}, nX s m → m + l.length ≤ 1000 → nX (tX s l) (m + l.length) := by
  induction l with
  | nil => intro s m h _; exact (by rw [List.length_nil]; exact (by rw [Int.natCast_zero, Int.add_zero]; exact h))
  | cons v l ih =>
    intro s m h hm
    rw [List.length_cons] at hm ⊢
    have := ih (h.s (v := v) (by omega)) (by omega)
    unfold nX at this ⊢
    have e : tX s (v :: l) = tX (tX1 s v) l := rfl
    rw [e]
    omega
theorem nM.l (l : List Int32) : ∀ {s : SS} {m : Int}, nM s m → m + l.length ≤ 1000 → nM (tM s l) (m + l.length) := by
  induction l with
  | nil => intro s m h _; exact (by rw [List.length_nil]; exact (by rw [Int.natCast_zero, Int.add_zero]; exact h))
  | cons v l ih =>
    intro s m h hm
    rw [List.length_cons] at hm ⊢
    have := ih (h.s (v := v) (by omega)) (by omega)
    unfold nM at this ⊢
    have e : tM s (v :: l) = tM (tM1 s v) l := rfl
    rw [e]
    omega
theorem tX_app {s : SS} {l m : List Int32} : tX (tX s l) m = tX s (l ++ m) := by
  unfold tX
  rw [List.foldl_append]
theorem tM_app {s : SS} {l m : List Int32} : tM (tM s l) m = tM s (l ++ m) := by
  unfold tM
  rw [List.foldl_append]
theorem tXc {s : SS} {v : Int32} {l : List Int32} : tX (tX1 s v) l = tX s (v :: l) := rfl
theorem tMc {s : SS} {v : Int32} {l : List Int32} : tM (tM1 s v) l = tM s (v :: l) := rfl
theorem tX11 {s : SS} {v : Int32} : tX s [v] = tX1 s v := rfl
theorem tM11 {s : SS} {v : Int32} : tM s [v] = tM1 s v := rfl
/-- by the kind: what is run, what is given -/
def isW (k : Int32) : Prop := k = 1 ∨ k = 2 ∨ k = 3 ∨ k = 6
def lB (k : Int32) : List Int32 := if k = 5 then [61, 50, 20, 1] else if k = 4 then [50, 20, 1] else if k = 1 ∨ k = 2 ∨ k = 3 ∨ k = 6 then [20, 1] else [1]
def vB (k a x : Int32) : Int32 := if k = 5 then (x + 1 + a) * 2 ^^^ 7 else if k = 4 then (x + 1 + a) * 2 else if k = 1 ∨ k = 2 ∨ k = 3 ∨ k = 6 then (x + a) * 2 else x + a
theorem dep {d : Int32} (hd : 0 ≤ d.toInt ∧ d.toInt ≤ 20) : ¬ (40 : Int32) < d := by
  rw [jlt, show (40 : Int32).toInt = 40 from rfl]
  omega
theorem dep1 {d : Int32} {m : Int} (hd : 0 ≤ d.toInt ∧ d.toInt ≤ m) (hm : m ≤ 30) : 0 ≤ (d + 1).toInt ∧ (d + 1).toInt ≤ m + 1 := by
  rw [i32_add (by rw [jl1]; omega) (by rw [jl1]; omega), jl1]
  omega
theorem bX0 {n : Nat} {s : SS} {k a x d : Int32} {m : Int} (C : nX s m) (hd : 0 ≤ d.toInt ∧ d.toInt ≤ 20) (h1 : ¬ k = 1) (h2 : ¬ k = 2) (h3 : ¬ k = 3) (h4 : ¬ k = 4) (h5 : ¬ k = 5) (h6 : ¬ k = 6) : f_X0_boresFrom (n + 1) s k a x d = some (x + a, tX1 s 1) := by
  rw [f_X0_boresFrom, f_X0_boresFrom_r, if_neg (dep hd), jn, if_neg h1, if_neg h2, if_neg h3, if_neg h4, if_neg h5, if_neg h6, runs_eq C, b1_some]
theorem bXw {n : Nat} {s : SS} {k a x d : Int32} {m : Int} (C : nX s m) (hm : m ≤ 900) (hd : 0 ≤ d.toInt ∧ d.toInt ≤ 19) (h : k = 1 ∨ k = 2 ∨ k = 3 ∨ k = 6) : f_X0_boresFrom (n + 2) s k a x d = some ((x + a) * 2, tX s [20, 1]) := by
  have e : (b1 (f_X0_runs s 20) fun s3 => bd (f_X0_boresFrom (n + 1) s3 0 a x (d + 1)) fun r4 s4 => some (r4 * 2, s4)) = some ((x + a) * 2, tX s [20, 1]) := by
    rw [runs_eq C, b1_some, bX0 (C.s (by omega)) (dep1 hd (by omega)) (by decide) (by decide) (by decide) (by decide) (by decide) (by decide), bd_some]
    rw [← tX11, tXc]
  rw [f_X0_boresFrom, f_X0_boresFrom_r, if_neg (dep ⟨hd.1, by omega⟩), jn]
  rcases h with rfl | rfl | rfl | rfl
  · rw [if_pos rfl, e]
  · rw [if_neg (by decide), if_pos rfl, e]
  · rw [if_neg (by decide), if_neg (by decide), if_pos rfl, e]
  · rw [if_neg (by decide), if_neg (by decide), if_neg (by decide), if_neg (by decide), if_neg (by decide), if_pos rfl, e]
theorem bX4 {n : Nat} {s : SS} {a x d : Int32} {m : Int} (C : nX s m) (hm : m ≤ 800) (hd : 0 ≤ d.toInt ∧ d.toInt ≤ 18) : f_X0_boresFrom (n + 3) s 4 a x d = some ((x + 1 + a) * 2, tX s [50, 20, 1]) := by
  rw [f_X0_boresFrom, f_X0_boresFrom_r, if_neg (dep ⟨hd.1, by omega⟩), jn, if_neg (by decide), if_neg (by decide), if_neg (by decide), if_pos rfl, runs_eq C, b1_some, bXw (C.s (by omega)) (by omega) (dep1 hd (by omega)) (Or.inr (Or.inl rfl)), bd_some]
  rw [tXc]
theorem bX5 {n : Nat} {s : SS} {a x d : Int32} {m : Int} (C : nX s m) (hm : m ≤ 700) (hd : 0 ≤ d.toInt ∧ d.toInt ≤ 17) : f_X0_boresFrom (n + 4) s 5 a x d = some ((x + 1 + a) * 2 ^^^ 7, tX s [61, 50, 20, 1]) := by
  rw [f_X0_boresFrom, f_X0_boresFrom_r, if_neg (dep ⟨hd.1, by omega⟩), jn, if_neg (by decide), if_neg (by decide), if_neg (by decide), if_neg (by decide), if_pos rfl, runs_eq C, b1_some, bX4 (C.s (by omega)) (by omega) (dep1 hd (by omega)), bd_some]
  rw [tXc]
theorem bX {s : SS} {k a x d : Int32} {m : Int} (C : nX s m) (hm : m ≤ 700) (hd : 0 ≤ d.toInt ∧ d.toInt ≤ 17) : f_X0_boresFrom 8 s k a x d = some (vB k a x, tX s (lB k)) := by
  unfold vB lB
  by_cases h5 : k = 5
  · rw [if_pos h5, if_pos h5, h5, bX5 C hm hd]
  · rw [if_neg h5, if_neg h5]
    by_cases h4 : k = 4
    · rw [if_pos h4, if_pos h4, h4, bX4 C (by omega) ⟨hd.1, by omega⟩]
    · rw [if_neg h4, if_neg h4]
      by_cases hw : k = 1 ∨ k = 2 ∨ k = 3 ∨ k = 6
      · rw [if_pos hw, if_pos hw, bXw C (by omega) ⟨hd.1, by omega⟩ hw]
      · rw [if_neg hw, if_neg hw, bX0 C ⟨hd.1, by omega⟩ (fun z => hw (Or.inl z)) (fun z => hw (Or.inr (Or.inl z))) (fun z => hw (Or.inr (Or.inr (Or.inl z)))) h4 h5 (fun z => hw (Or.inr (Or.inr (Or.inr z))))]
        rfl
theorem und1 {k : Int32} : f_X12_isUnder k 1 = some (if k = 1 ∨ k = 2 ∨ k = 3 ∨ k = 4 ∨ k = 5 ∨ k = 6 then 1 else 0) := by
  unfold f_X12_isUnder
  rw [if_neg (by decide)]
  by_cases h1 : k = 1
  · rw [if_pos h1, if_pos (Or.inl h1)]
  rw [if_neg h1, if_pos rfl]
  by_cases h2 : k = 2
  · rw [if_pos h2, if_pos (Or.inr (Or.inl h2))]
  rw [if_neg h2]
  by_cases h3 : k = 3
  · rw [if_pos h3, if_pos (Or.inr (Or.inr (Or.inl h3)))]
  rw [if_neg h3]
  by_cases h4 : k = 4
  · rw [if_pos h4, if_pos (Or.inr (Or.inr (Or.inr (Or.inl h4))))]
  rw [if_neg h4]
  by_cases h5 : k = 5
  · rw [if_pos h5, if_pos (Or.inr (Or.inr (Or.inr (Or.inr (Or.inl h5)))))]
  rw [if_neg h5]
  by_cases h6 : k = 6
  · rw [if_pos h6, if_pos (Or.inr (Or.inr (Or.inr (Or.inr (Or.inr h6)))))]
  rw [if_neg h6, if_neg (by rintro (z | z | z | z | z | z) <;> contradiction)]
theorem und2 {k : Int32} : f_X12_isUnder k 2 = some (if k = 2 ∨ k = 3 ∨ k = 4 ∨ k = 5 then 1 else 0) := by
  unfold f_X12_isUnder
  rw [if_neg (by decide)]
  by_cases h2 : k = 2
  · rw [if_pos h2, if_pos (Or.inl h2)]
  rw [if_neg h2, if_neg (by decide), if_pos rfl]
  by_cases h3 : k = 3
  · rw [if_pos h3, if_pos (Or.inr (Or.inl h3))]
  rw [if_neg h3]
  by_cases h4 : k = 4
  · rw [if_pos h4, if_pos (Or.inr (Or.inr (Or.inl h4)))]
  rw [if_neg h4]
  by_cases h5 : k = 5
  · rw [if_pos h5, if_pos (Or.inr (Or.inr (Or.inr h5)))]
  rw [if_neg h5, if_neg (by rintro (z | z | z | z) <;> contradiction)]
theorem und4 {k : Int32} : f_X12_isUnder k 4 = some (if k = 4 ∨ k = 5 then 1 else 0) := by
  unfold f_X12_isUnder
  rw [if_neg (by decide)]
  by_cases h4 : k = 4
  · rw [if_pos h4, if_pos (Or.inl h4)]
  rw [if_neg h4, if_neg (by decide), if_neg (by decide), if_pos rfl]
  by_cases h5 : k = 5
  · rw [if_pos h5, if_pos (Or.inr h5)]
  rw [if_neg h5, if_neg (by rintro (z | z) <;> contradiction)]
/-- the reference -/
theorem pbM {s : SS} {a x : Int32} {m : Int} (C : nM s m) : f_X12_plainBores s a x = some (x + a, tM s [1]) := by
  unfold f_X12_plainBores
  rw [ran_eq C, b1_some]
  rfl
theorem wbM {s : SS} {a x : Int32} {m : Int} (C : nM s m) (hm : m ≤ 900) : f_X12_wayBores s a x = some ((x + a) * 2, tM s [20, 1]) := by
  unfold f_X12_wayBores
  rw [ran_eq C, b1_some, pbM (C.s (by omega)), bd_some]
  rw [tMc]
theorem sbM {s : SS} {a x : Int32} {m : Int} (C : nM s m) (hm : m ≤ 800) : f_X12_shaftBores s a x = some ((x + 1 + a) * 2, tM s [50, 20, 1]) := by
  unfold f_X12_shaftBores
  rw [ran_eq C, b1_some, wbM (C.s (by omega)) (by omega), bd_some]
  rw [tMc]
theorem bM {s : SS} {k a x : Int32} {m : Int} (C : nM s m) (hm : m ≤ 700) (ha : inB a 120) (hk : zI s 62 a.toInt.toNat = k) : f_X12_bores s a x = some (vB k a x, tM s (lB k)) := by
  unfold f_X12_bores vB lB
  rw [gd_t ha, hk]
  by_cases h5 : k = 5
  · rw [if_pos h5, if_pos h5, if_pos h5, ran_eq C, b1_some, sbM (C.s (by omega)) (by omega), bd_some]
    rw [tMc]
  rw [if_neg h5, if_neg h5, if_neg h5, gd_t ha]
  by_cases h4 : k = 4
  · rw [if_pos h4, if_pos h4, if_pos h4, sbM C (by omega), bd_some]
  rw [if_neg h4, if_neg h4, if_neg h4, gd_t ha, und1, b1_some]
  by_cases hw : k = 1 ∨ k = 2 ∨ k = 3 ∨ k = 6
  · rw [if_pos hw, if_pos hw, if_pos (show k = 1 ∨ k = 2 ∨ k = 3 ∨ k = 4 ∨ k = 5 ∨ k = 6 from by rcases hw with z | z | z | z <;> simp [z]), if_neg (by decide), wbM C (by omega), bd_some]
  · rw [if_neg hw, if_neg hw, if_neg (show ¬ (k = 1 ∨ k = 2 ∨ k = 3 ∨ k = 4 ∨ k = 5 ∨ k = 6) from by
      rintro (z | z | z | z | z | z)
      · exact hw (Or.inl z)
      · exact hw (Or.inr (Or.inl z))
      · exact hw (Or.inr (Or.inr (Or.inl z)))
      · exact h4 z
      · exact h5 z
      · exact hw (Or.inr (Or.inr (Or.inr z)))), if_pos rfl, pbM C, bd_some]
theorem EX.rf {s : SS} : EX s s := ⟨fun _ _ _ => rfl, fun _ _ _ => rfl, rfl⟩
theorem EX.tr {s r u : SS} (h : EX s r) (g : EX r u) : EX s u := ⟨fun q k z => (g.1 q k z).trans (h.1 q k z), fun q i z => (g.2.1 q i z).trans (h.2.1 q i z), g.2.2.trans h.2.2⟩
theorem EM.tr {s r u : SS} (h : EM s r) (g : EM r u) : EM s u := ⟨fun q k z => (g.1 q k z).trans (h.1 q k z), fun q i z => (g.2.1 q i z).trans (h.2.1 q i z), g.2.2.trans h.2.2⟩
theorem EM.rf {s : SS} : EM s s := ⟨fun _ _ _ => rfl, fun _ _ _ => rfl, rfl⟩
theorem EX.s {s : SS} {v : Int32} : EX s (tX1 s v) := ⟨fun _ _ h => tX1_S h, fun _ _ h => tX1_I h, tX1_J⟩
theorem EM.s {s : SS} {v : Int32} : EM s (tM1 s v) := ⟨fun _ _ h => tM1_S h, fun _ _ h => tM1_I h, tM1_J⟩
/-- body a of kind k, its width w, its strength g, whatever the trace -/
def OX (s : SS) (a k w g : Int32) : Prop := ∀ r, EX s r → f_X0_kindOf r a = some k ∧ f_X0_widthOf r a = some w ∧ f_X0_strengthOf r a = some g
def OM (s : SS) (a k w g : Int32) : Prop := inB a 120 ∧ ∀ r, EM s r → zI r 62 a.toInt.toNat = k ∧ zI r 64 a.toInt.toNat = w ∧ zI r 74 a.toInt.toNat = g
theorem OX.c {s r : SS} {a k w g : Int32} (h : OX s a k w g) (e : EX s r) : OX r a k w g := fun u z => h u (e.tr z)
theorem OM.c {s r : SS} {a k w g : Int32} (h : OM s a k w g) (e : EM s r) : OM r a k w g := ⟨h.1, fun u z => h.2 u (e.tr z)⟩
def isC (k : Int32) : Prop := k = 2 ∨ k = 3 ∨ k = 4 ∨ k = 5
def lC (k : Int32) : List Int32 := if k = 2 ∨ k = 3 ∨ k = 4 ∨ k = 5 then [30, 10] ++ lB k else if k = 7 then [80, 10] ++ lB k else [10] ++ lB k
def vC (k w g a x : Int32) : Int32 := if k = 2 ∨ k = 3 ∨ k = 4 ∨ k = 5 then vB k a x - 1 + w else if k = 7 then vB k a x - 1 - g else vB k a x - 1
theorem lB_len (k : Int32) : (lB k).length ≤ 4 := by
  unfold lB
  by_cases h5 : k = 5
  · rw [if_pos h5]; decide
  rw [if_neg h5]
  by_cases h4 : k = 4
  · rw [if_pos h4]; decide
  rw [if_neg h4]
  by_cases hw : k = 1 ∨ k = 2 ∨ k = 3 ∨ k = 6
  · rw [if_pos hw]; decide
  rw [if_neg hw]; decide
theorem lC_len (k : Int32) : (lC k).length ≤ 6 := by
  have := lB_len k
  unfold lC
  by_cases h5 : k = 2 ∨ k = 3 ∨ k = 4 ∨ k = 5
  · rw [if_pos h5, List.length_append]; show 2 + _ ≤ 6; omega
  rw [if_neg h5]
  by_cases h4 : k = 7
  · rw [if_pos h4, List.length_append]; show 2 + _ ≤ 6; omega
  rw [if_neg h4, List.length_append]; show 1 + _ ≤ 6; omega
/-- the class carries: the common end (kinds 0, 1, 6) -/
theorem cX0 {n : Nat} {s : SS} {c k w g a x d : Int32} {m : Int} (C : nX s m) (hm : m ≤ 600) (hd : 0 ≤ d.toInt ∧ d.toInt ≤ 16) (O : OX s a k w g) (hc : c = 0 ∨ c = 1 ∨ c = 6) : f_X0_carriesFrom (n + 1) s c a x d = some (vB k a x - 1, tX s ([10] ++ lB k)) := by
  have e : (b1 (f_X0_runs s 10) fun s7 => (b1 (f_X0_kindOf s7 a) fun r8 => (bd (f_X0_boresFrom 8 s7 r8 a x (d + (1 : Int32))) fun r10 s10 => some ((r10 - (1 : Int32)), s10)))) = some (vB k a x - 1, tX s ([10] ++ lB k)) := by
    rw [runs_eq C, b1_some, (O _ EX.s).1, b1_some, bX (C.s (by omega)) (by omega) (dep1 hd (by omega)), bd_some]
    first | (rw [tXc]; rfl) | (rw [tX11, tXc, tXc]; rfl) | rfl
  rw [f_X0_carriesFrom, f_X0_carriesFrom_r, if_neg (dep ⟨hd.1, by omega⟩), jn, jn, e]
  rcases hc with rfl | rfl | rfl
  · rw [if_neg (by decide), if_neg (by decide), if_neg (by decide), if_neg (by decide), if_neg (by decide), if_neg (by decide)]
  · rw [if_neg (by decide), if_neg (by decide), if_neg (by decide), if_neg (by decide), if_neg (by decide), if_neg (by decide)]
  · rw [if_neg (by decide), if_neg (by decide), if_neg (by decide), if_neg (by decide), if_pos rfl]
theorem cX {n : Nat} {s : SS} {k w g a x d : Int32} {m : Int} (C : nX s m) (hm : m ≤ 500) (hd : 0 ≤ d.toInt ∧ d.toInt ≤ 15) (hk : 0 ≤ k.toInt ∧ k.toInt ≤ 7) (O : OX s a k w g) : f_X0_carriesFrom (n + 2) s k a x d = some (vC k w g a x, tX s (lC k)) := by
  have e : (b1 (f_X0_runs s 30) fun s3 => (bd (f_X0_carriesFrom (n + 1) s3 1 a x (d + (1 : Int32))) fun r4 s4 => (b1 (f_X0_widthOf s4 a) fun r5 => some ((r4 + r5), s4)))) = some (vB k a x - 1 + w, tX s ([30, 10] ++ lB k)) := by
    rw [runs_eq C, b1_some, cX0 (C.s (by omega)) (by omega) (dep1 hd (by omega)) (O.c EX.s) (Or.inr (Or.inl rfl)), bd_some, (O _ (EX.s.tr (EX.l _))).2.1, b1_some]
    first | (rw [tXc]; rfl) | (rw [tX11, tXc, tXc]; rfl) | rfl
  have hk8 : k = 0 ∨ k = 1 ∨ k = 2 ∨ k = 3 ∨ k = 4 ∨ k = 5 ∨ k = 6 ∨ k = 7 := by
    have h : k.toInt = 0 ∨ k.toInt = 1 ∨ k.toInt = 2 ∨ k.toInt = 3 ∨ k.toInt = 4 ∨ k.toInt = 5 ∨ k.toInt = 6 ∨ k.toInt = 7 := by omega
    exact h.imp (fun z => Int32.toInt_inj.1 z) (fun h => h.imp (fun z => Int32.toInt_inj.1 z) (fun h => h.imp (fun z => Int32.toInt_inj.1 z) (fun h => h.imp (fun z => Int32.toInt_inj.1 z) (fun h => h.imp (fun z => Int32.toInt_inj.1 z) (fun h => h.imp (fun z => Int32.toInt_inj.1 z) (fun h => h.imp (fun z => Int32.toInt_inj.1 z) (fun z => Int32.toInt_inj.1 z)))))))
  unfold vC lC
  by_cases h5 : k = 2 ∨ k = 3 ∨ k = 4 ∨ k = 5
  · rw [if_pos h5, if_pos h5, f_X0_carriesFrom, f_X0_carriesFrom_r, if_neg (dep ⟨hd.1, by omega⟩), jn, jn, e]
    by_cases z2 : k = 2
    · rw [if_pos z2]
    rw [if_neg z2]
    by_cases z3 : k = 3
    · rw [if_pos z3]
    rw [if_neg z3]
    by_cases z4 : k = 4
    · rw [if_pos z4]
    rw [if_neg z4, if_pos (by rcases h5 with z | z | z | z <;> first | exact z | contradiction)]
  rw [if_neg h5, if_neg h5]
  by_cases h7 : k = 7
  · rw [if_pos h7, if_pos h7, f_X0_carriesFrom, f_X0_carriesFrom_r, if_neg (dep ⟨hd.1, by omega⟩), jn, jn, if_neg (by rw [h7]; decide), if_neg (by rw [h7]; decide), if_neg (by rw [h7]; decide), if_neg (by rw [h7]; decide), if_neg (by rw [h7]; decide), if_pos h7, runs_eq C, b1_some, cX0 (C.s (by omega)) (by omega) (dep1 hd (by omega)) (O.c EX.s) (Or.inl rfl), bd_some, (O _ (EX.s.tr (EX.l _))).2.2, b1_some]
    first | (rw [tXc]; rfl) | (rw [tX11, tXc, tXc]; rfl) | rfl
  rw [if_neg h7, if_neg h7]
  refine cX0 C (by omega) ⟨hd.1, by omega⟩ O ?_
  rcases hk8 with z | z | z | z | z | z | z | z
  · exact Or.inl z
  · exact Or.inr (Or.inl z)
  · exact absurd (Or.inl z) h5
  · exact absurd (Or.inr (Or.inl z)) h5
  · exact absurd (Or.inr (Or.inr (Or.inl z))) h5
  · exact absurd (Or.inr (Or.inr (Or.inr z))) h5
  · exact Or.inr (Or.inr z)
  · exact absurd z h7
def lH (k : Int32) : List Int32 := if k = 3 then [40, 11] ++ lC k else if k = 5 then [60, 11] else if k = 6 then [70, 11, 10] ++ lB k else [11]
def vH (k w g a x : Int32) : Int32 := if k = 3 then (x ^^^ a) - vC k w g a 1 else if k = 5 then -(x ^^^ a) else if k = 6 then (x ^^^ a) + (vB k a x - 1) else x ^^^ a
theorem hX0 {n : Nat} {s : SS} {k a x d : Int32} {m : Int} (C : nX s m) (hd : 0 ≤ d.toInt ∧ d.toInt ≤ 20) (h3 : ¬ k = 3) (h5 : ¬ k = 5) (h6 : ¬ k = 6) : f_X0_holdsFrom (n + 1) s k a x d = some (x ^^^ a, tX s [11]) := by
  have e : (b1 (f_X0_runs s 11) fun s3 => some ((x ^^^ a), s3)) = some (x ^^^ a, tX s [11]) := by
    rw [runs_eq C, b1_some]
    rfl
  rw [f_X0_holdsFrom, f_X0_holdsFrom_r, if_neg (dep hd), jn, e, if_neg h3]
  by_cases h4 : k = 4
  · rw [if_pos h4]
  · rw [if_neg h4, if_neg h5, if_neg h6]
theorem hXk {n : Nat} {s : SS} {k w g a x d : Int32} {m : Int} (C : nX s m) (hm : m ≤ 400) (hd : 0 ≤ d.toInt ∧ d.toInt ≤ 14) (hk : 0 ≤ k.toInt ∧ k.toInt ≤ 7) (O : OX s a k w g) : f_X0_holdsFrom (n + 2) s k a x d = some (vH k w g a x, tX s (lH k)) := by
  unfold vH lH
  by_cases h3 : k = 3
  · have C2 : nX (tX (tX1 s 40) [11]) (m + 1 + 1) := (C.s (by omega)).s (by omega)
    have O2 : OX (tX (tX1 s 40) [11]) a k w g := O.c (EX.s.tr EX.s)
    rw [if_pos h3, if_pos h3, f_X0_holdsFrom, f_X0_holdsFrom_r, if_neg (dep ⟨hd.1, by omega⟩), jn, if_pos h3, runs_eq C, b1_some, hX0 (C.s (by omega)) ⟨(dep1 hd (by omega)).1, by have := (dep1 hd (by omega)).2; omega⟩ (by decide) (by decide) (by decide), bd_some, (O _ (EX.s.tr (EX.l _))).1, b1_some, cX C2 (by omega) (dep1 hd (by omega)) hk O2, bd_some]
    first | (rw [tXc]; rfl) | (rw [tX11, tXc, tXc]; rfl) | rfl
  rw [if_neg h3, if_neg h3]
  by_cases h5 : k = 5
  · rw [if_pos h5, if_pos h5, f_X0_holdsFrom, f_X0_holdsFrom_r, if_neg (dep ⟨hd.1, by omega⟩), jn, if_neg h3, if_neg (by rw [h5]; decide), if_pos h5, runs_eq C, b1_some, hX0 (C.s (by omega)) ⟨(dep1 hd (by omega)).1, by have := (dep1 hd (by omega)).2; omega⟩ (by decide) (by decide) (by decide), bd_some]
    first | (rw [tXc]; rfl) | (rw [tX11, tXc, tXc]; rfl) | rfl
  rw [if_neg h5, if_neg h5]
  by_cases h6 : k = 6
  · have C2 : nX (tX (tX1 s 70) [11]) (m + 1 + 1) := (C.s (by omega)).s (by omega)
    have O2 : OX (tX (tX1 s 70) [11]) a k w g := O.c (EX.s.tr EX.s)
    rw [if_pos h6, if_pos h6, f_X0_holdsFrom, f_X0_holdsFrom_r, if_neg (dep ⟨hd.1, by omega⟩), jn, if_neg h3, if_neg (by rw [h6]; decide), if_neg h5, if_pos h6, runs_eq C, b1_some, hX0 (C.s (by omega)) ⟨(dep1 hd (by omega)).1, by have := (dep1 hd (by omega)).2; omega⟩ (by decide) (by decide) (by decide), bd_some, cX0 C2 (by omega) ⟨(dep1 hd (by omega)).1, by have := (dep1 hd (by omega)).2; omega⟩ O2 (Or.inr (Or.inl rfl)), bd_some]
    first | (rw [tXc]; rfl) | (rw [tX11, tXc, tXc]; rfl) | rfl
  rw [if_neg h6, if_neg h6]
  exact hX0 C ⟨hd.1, by omega⟩ h3 h5 h6
def lT (k : Int32) : List Int32 := if k = 4 ∨ k = 5 then [51, 2] ++ (lC k ++ lH k) else [2] ++ (lC k ++ lH k)
def vT (k w g a x : Int32) : Int32 := if k = 4 ∨ k = 5 then (vC k w g a x + vH k w g a 1) * 3 else vC k w g a x + vH k w g a 1
theorem tXb {n : Nat} {s : SS} {c k w g a x d : Int32} {m : Int} (C : nX s m) (hm : m ≤ 300) (hd : 0 ≤ d.toInt ∧ d.toInt ≤ 13) (hk : 0 ≤ k.toInt ∧ k.toInt ≤ 7) (O : OX s a k w g) (h4 : ¬ c = 4) (h5 : ¬ c = 5) : f_X0_tellsFrom (n + 1) s c a x d = some (vC k w g a x + vH k w g a 1, tX s ([2] ++ (lC k ++ lH k))) := by
  have hl := lC_len k
  have C2 := (C.s (v := 2) (by omega)).l (lC k) (by omega)
  rw [f_X0_tellsFrom, f_X0_tellsFrom_r, if_neg (dep ⟨hd.1, by omega⟩), jn, if_neg h4, if_neg h5, runs_eq C, b1_some, (O _ EX.s).1, b1_some, cX (C.s (by omega)) (by omega) ⟨(dep1 hd (by omega)).1, by have := (dep1 hd (by omega)).2; omega⟩ hk (O.c EX.s), bd_some, (O _ (EX.s.tr (EX.l _))).1, b1_some, hXk C2 (by omega) (dep1 hd (by omega)) hk (O.c (EX.s.tr (EX.l _))), bd_some, tX_app]
  first | (rw [tXc]; rfl) | (rw [tX11, tXc, tXc]; rfl) | rfl
theorem tXk {n : Nat} {s : SS} {k w g a x d : Int32} {m : Int} (C : nX s m) (hm : m ≤ 200) (hd : 0 ≤ d.toInt ∧ d.toInt ≤ 12) (hk : 0 ≤ k.toInt ∧ k.toInt ≤ 7) (O : OX s a k w g) : f_X0_tellsFrom (n + 2) s k a x d = some (vT k w g a x, tX s (lT k)) := by
  have e : (b1 (f_X0_runs s 51) fun s3 => (bd (f_X0_tellsFrom (n + 1) s3 2 a x (d + (1 : Int32))) fun r4 s4 => some ((r4 * (3 : Int32)), s4))) = some ((vC k w g a x + vH k w g a 1) * 3, tX s ([51, 2] ++ (lC k ++ lH k))) := by
    rw [runs_eq C, b1_some, tXb (C.s (by omega)) (by omega) (dep1 hd (by omega)) hk (O.c EX.s) (by decide) (by decide), bd_some]
    first | (rw [tXc]; rfl) | (rw [tX11, tXc, tXc]; rfl) | rfl
  unfold vT lT
  by_cases h : k = 4 ∨ k = 5
  · rw [if_pos h, if_pos h, f_X0_tellsFrom, f_X0_tellsFrom_r, if_neg (dep ⟨hd.1, by omega⟩), jn, e]
    by_cases h4 : k = 4
    · rw [if_pos h4]
    · rw [if_neg h4, if_pos (h.resolve_left h4)]
  · rw [if_neg h, if_neg h]
    exact tXb C (by omega) ⟨hd.1, by omega⟩ hk O (fun z => h (Or.inl z)) (fun z => h (Or.inr z))
/-- the reference -/
theorem pcM {s : SS} {k w g a x : Int32} {m : Int} (C : nM s m) (hm : m ≤ 600) (O : OM s a k w g) : f_X12_plainCarries s a x = some (vB k a x - 1, tM s ([10] ++ lB k)) := by
  unfold f_X12_plainCarries
  rw [ran_eq C, b1_some, bM (C.s (by omega)) (by omega) O.1 (O.2 _ EM.s).1, bd_some]
  first | (rw [tMc]; rfl) | (rw [tM11, tMc, tMc]; rfl) | rfl
theorem cM {s : SS} {k w g a x : Int32} {m : Int} (C : nM s m) (hm : m ≤ 500) (O : OM s a k w g) : f_X12_carries s a x = some (vC k w g a x, tM s (lC k)) := by
  unfold f_X12_carries vC lC
  rw [gd_t O.1, (O.2 _ EM.rf).1, und2, b1_some]
  by_cases h5 : k = 2 ∨ k = 3 ∨ k = 4 ∨ k = 5
  · rw [if_pos h5, if_pos h5, if_pos h5, if_neg (by decide), ran_eq C, b1_some, pcM (C.s (by omega)) (by omega) (O.c EM.s), bd_some, gd_t O.1, (O.2 _ (EM.s.tr (EM.l _))).2.1]
    first | (rw [tMc]; rfl) | (rw [tM11, tMc, tMc]; rfl) | rfl
  rw [if_neg h5, if_neg h5, if_neg h5, if_pos rfl, gd_t O.1]
  by_cases h7 : k = 7
  · rw [if_pos h7, if_pos h7, if_pos h7, ran_eq C, b1_some, pcM (C.s (by omega)) (by omega) (O.c EM.s), bd_some, gd_t O.1, (O.2 _ (EM.s.tr (EM.l _))).2.2]
    first | (rw [tMc]; rfl) | (rw [tM11, tMc, tMc]; rfl) | rfl
  rw [if_neg h7, if_neg h7, if_neg h7, pcM C (by omega) O, bd_some]
theorem phM {s : SS} {a x : Int32} {m : Int} (C : nM s m) : f_X12_plainHolds s a x = some (x ^^^ a, tM s [11]) := by
  unfold f_X12_plainHolds
  rw [ran_eq C, b1_some]
  rfl
theorem hMk {s : SS} {k w g a x : Int32} {m : Int} (C : nM s m) (hm : m ≤ 400) (O : OM s a k w g) : f_X12_holdsBy s a x = some (vH k w g a x, tM s (lH k)) := by
  unfold f_X12_holdsBy vH lH
  rw [gd_t O.1, jn, (O.2 _ EM.rf).1]
  by_cases h3 : k = 3
  · have C2 : nM (tM (tM1 s 40) [11]) (m + 1 + 1) := (C.s (by omega)).s (by omega)
    have O2 : OM (tM (tM1 s 40) [11]) a k w g := O.c (EM.s.tr EM.s)
    rw [if_pos h3, if_pos h3, if_pos h3, ran_eq C, b1_some, phM (C.s (by omega)), bd_some, cM C2 (by omega) O2, bd_some]
    first | (rw [tMc]; rfl) | (rw [tM11, tMc, tMc]; rfl) | rfl
  rw [if_neg h3, if_neg h3, if_neg h3]
  by_cases h5 : k = 5
  · rw [if_neg (by rw [h5]; decide), if_pos h5, if_pos h5, if_pos h5, ran_eq C, b1_some, phM (C.s (by omega)), bd_some]
    first | (rw [tMc]; rfl) | (rw [tM11, tMc, tMc]; rfl) | rfl
  rw [if_neg h5, if_neg h5, if_neg h5]
  by_cases h6 : k = 6
  · have C2 : nM (tM (tM1 s 70) [11]) (m + 1 + 1) := (C.s (by omega)).s (by omega)
    have O2 : OM (tM (tM1 s 70) [11]) a k w g := O.c (EM.s.tr EM.s)
    rw [if_neg (by rw [h6]; decide), if_pos h6, if_pos h6, if_pos h6, ran_eq C, b1_some, phM (C.s (by omega)), bd_some, pcM C2 (by omega) O2, bd_some]
    first | (rw [tMc]; rfl) | (rw [tM11, tMc, tMc]; rfl) | rfl
  rw [if_neg h6, if_neg h6, if_neg h6, phM C, bd_some]
  by_cases h4 : k = 4
  · rw [if_pos h4]
  · rw [if_neg h4]
theorem ptM {s : SS} {k w g a x : Int32} {m : Int} (C : nM s m) (hm : m ≤ 300) (O : OM s a k w g) : f_X12_plainTells s a x = some (vC k w g a x + vH k w g a 1, tM s ([2] ++ (lC k ++ lH k))) := by
  have hl := lC_len k
  have C2 := (C.s (v := 2) (by omega)).l (lC k) (by omega)
  unfold f_X12_plainTells
  rw [ran_eq C, b1_some, cM (C.s (by omega)) (by omega) (O.c EM.s), bd_some, hMk C2 (by omega) (O.c (EM.s.tr (EM.l _))), bd_some, tM_app]
  first | (rw [tMc]; rfl) | (rw [tM11, tMc, tMc]; rfl) | rfl
theorem teM {s : SS} {k w g a x : Int32} {m : Int} (C : nM s m) (hm : m ≤ 200) (O : OM s a k w g) : f_X12_tells s a x = some (vT k w g a x, tM s (lT k)) := by
  unfold f_X12_tells vT lT
  rw [gd_t O.1, (O.2 _ EM.rf).1, und4, b1_some]
  by_cases h : k = 4 ∨ k = 5
  · rw [if_pos h, if_pos h, if_pos h, if_neg (by decide), ran_eq C, b1_some, ptM (C.s (by omega)) (by omega) (O.c EM.s), bd_some]
    first | (rw [tMc]; rfl) | (rw [tM11, tMc, tMc]; rfl) | rfl
  · rw [if_neg h, if_neg h, if_neg h, if_pos rfl, ptM C (by omega) O, bd_some]
def lA (k b : Int32) : List Int32 := if b = 0 then lB k else if b = 1 then lC k else if b = 2 then lH k else if b = 3 then lT k else []
def vA (k w g a b x : Int32) : Int32 := if b = 0 then vB k a x else if b = 1 then vC k w g a x else if b = 2 then vH k w g a x else if b = 3 then vT k w g a x else 0
theorem actX {s : SS} {k w g a b x : Int32} (hk : 0 ≤ k.toInt ∧ k.toInt ≤ 7) (O : OX (pS s 15 11 0) a k w g) : f_X11_act s a b x = some (vA k w g a b x, tX (pS s 15 11 0) (lA k b)) := by
  have C : nX (pS s 15 11 0) 0 := by
    unfold nX
    rw [zS_pS, if_pos ⟨rfl, rfl⟩]
    decide
  have d0 : 0 ≤ (0 : Int32).toInt ∧ (0 : Int32).toInt ≤ 0 := ⟨by decide, by decide⟩
  unfold f_X11_act f_X0_acted vA lA
  rw [st, (O _ EX.rf).1, b1_some, if_neg (by rw [jlt, jl0]; omega)]
  by_cases h0 : b = 0
  · rw [if_pos h0, if_pos h0, if_pos h0, bX C (by omega) ⟨d0.1, by omega⟩, bd_some, bd_some]
  rw [if_neg h0, if_neg h0, if_neg h0]
  by_cases h1 : b = 1
  · rw [if_pos h1, if_pos h1, if_pos h1, cX C (by omega) ⟨d0.1, by omega⟩ hk O, bd_some, bd_some]
  rw [if_neg h1, if_neg h1, if_neg h1]
  by_cases h2 : b = 2
  · rw [if_pos h2, if_pos h2, if_pos h2, hXk C (by omega) ⟨d0.1, by omega⟩ hk O, bd_some, bd_some]
  rw [if_neg h2, if_neg h2, if_neg h2]
  by_cases h3 : b = 3
  · rw [if_pos h3, if_pos h3, if_pos h3, tXk C (by omega) ⟨d0.1, by omega⟩ hk O, bd_some, bd_some]
  rw [if_neg h3, if_neg h3, if_neg h3, bd_some]
  first | (rw [tMc]; rfl) | (rw [tM11, tMc, tMc]; rfl) | rfl
theorem j3_ : (3 : Int32).toInt = 3 := rfl
theorem actM {s : SS} {k w g a b x : Int32} (hb : f_X12_isBody (pS s 59 87 0) a = some 1) (O : OM (pS s 59 87 0) a k w g) : f_X12_act s a b x = some (vA k w g a b x, tM (pS s 59 87 0) (lA k b)) := by
  have C : nM (pS s 59 87 0) 0 := by
    unfold nM
    rw [zS_pS, if_pos ⟨rfl, rfl⟩]
    decide
  unfold f_X12_act vA lA
  rw [st, hb, b1_some, if_neg (by decide)]
  by_cases h0 : b = 0
  · rw [in_t (by rw [h0]; decide), b1_some, if_neg (by decide), if_pos h0, if_pos h0, if_pos h0, bM C (by omega) O.1 (O.2 _ EM.rf).1, bd_some]
  by_cases h1 : b = 1
  · rw [in_t (by rw [h1]; decide), b1_some, if_neg (by decide), if_neg h0, if_neg h0, if_neg h0, if_pos h1, if_pos h1, if_pos h1, cM C (by omega) O, bd_some]
  by_cases h2 : b = 2
  · rw [in_t (by rw [h2]; decide), b1_some, if_neg (by decide), if_neg h0, if_neg h0, if_neg h0, if_neg h1, if_neg h1, if_neg h1, if_pos h2, if_pos h2, if_pos h2, hMk C (by omega) O, bd_some]
  by_cases h3 : b = 3
  · rw [in_t (by rw [h3]; decide), b1_some, if_neg (by decide), if_neg h0, if_neg h0, if_neg h0, if_neg h1, if_neg h1, if_neg h1, if_neg h2, if_neg h2, if_neg h2, if_pos h3, if_pos h3, teM C (by omega) O, bd_some]
  rw [in_f (fun z => by
    rw [jl0, j3_] at z
    have h : b.toInt = 0 ∨ b.toInt = 1 ∨ b.toInt = 2 ∨ b.toInt = 3 := by omega
    rcases h with h | h | h | h
    · exact h0 (Int32.toInt_inj.1 h)
    · exact h1 (Int32.toInt_inj.1 h)
    · exact h2 (Int32.toInt_inj.1 h)
    · exact h3 (Int32.toInt_inj.1 h)), b1_some, if_pos rfl, if_neg h0, if_neg h0, if_neg h1, if_neg h1, if_neg h2, if_neg h2, if_neg h3, if_neg h3]
  first | (rw [tMc]; rfl) | (rw [tM11, tMc, tMc]; rfl) | rfl
/-! ACT, TRACE: the step -/
theorem Iv.tx {s : SS} {v : Int32} (I : Iv s) : Iv (tX1 s v) := by
  rw [show tX1 s v = pS (if zS s 15 11 < 24 then pI s 18 (zS s 15 11).toInt.toNat v else s) 15 11 (zS s 15 11 + 1) from rfl]
  by_cases z : zS s 15 11 < 24
  · rw [if_pos z]
    exact (I.wI (q := 18) (by decide) trivial).wF (q := 15) (k := 11) (by decide) (by decide) trivial
  · rw [if_neg z]
    exact I.wF (q := 15) (k := 11) (by decide) (by decide) trivial
theorem Iv.tm {s : SS} {v : Int32} (I : Iv s) : Iv (tM1 s v) := by
  rw [show tM1 s v = pS (if zS s 59 87 < 24 then pI s 119 (zS s 59 87).toInt.toNat v else s) 59 87 (zS s 59 87 + 1) from rfl]
  by_cases z : zS s 59 87 < 24
  · rw [if_pos z]
    exact (I.wI (q := 119) (by decide) trivial).wF (q := 59) (k := 87) (by decide) (by decide) trivial
  · rw [if_neg z]
    exact I.wF (q := 59) (k := 87) (by decide) (by decide) trivial
theorem IvX (l : List Int32) : ∀ {s : SS}, Iv s → Iv (tX s l) := by
  induction l with
  | nil => exact fun I => I
  | cons v l ih => exact fun I => ih I.tx
theorem IvM (l : List Int32) : ∀ {s : SS}, Iv s → Iv (tM s l) := by
  induction l with
  | nil => exact fun I => I
  | cons v l ih => exact fun I => ih I.tm
theorem OX_of {s : SS} {a : Int32} (I : Iv s) (h : 0 ≤ a.toInt ∧ a.toInt < (zS s 15 3).toInt) : ∃ w g, OX s a (zI s 16 a.toInt.toNat) w g := by
  have hf : 0 ≤ (zS s 15 3).toInt ∧ (zS s 15 3).toInt ≤ 120 := I.f (q := 15) (k := 3) rfl
  have gb : inB a 120 := ⟨by omega, by omega⟩
  have kd : ∀ r, EX s r → f_X0_kindOf r a = some (zI s 16 a.toInt.toNat) := by
    intro r E
    unfold f_X0_kindOf
    rw [if_neg (by rw [jlt, jl0]; omega), if_pos (by rw [E.1 15 3 (by omega), jlt]; omega), gd_t gb, E.2.1 16 _ (by omega)]
  refine ⟨(match zR s 17 a.toInt.toNat with | none => 0 | some p => zS s p 1), if zI s 16 a.toInt.toNat = 7 then zI s 7 a.toInt.toNat else 0, fun r E => ⟨kd r E, ?_, ?_⟩⟩
  · have ez : zR r 17 a.toInt.toNat = zR s 17 a.toInt.toNat := by
      show r.2.2.2.1 17 _ = s.2.2.2.1 17 _
      rw [E.2.2]
    unfold f_X0_widthOf f_X0_holeOf
    rw [if_neg (by rw [jlt, jl0]; omega), if_pos (by rw [E.1 15 3 (by omega), jlt]; omega), gd_t gb, ez]
    cases zR s 17 a.toInt.toNat with
    | none => rfl
    | some p =>
      show some (zS r p 1) = some (zS s p 1)
      rw [E.1 p 1 (by omega)]
  · unfold f_X0_strengthOf
    rw [kd r E, b1_some]
    by_cases z : zI s 16 a.toInt.toNat = 7
    · rw [if_pos z, if_pos z, gd_t gb, E.2.1 7 _ (by omega)]
    · rw [if_neg z, if_neg z]
theorem OM_of {s : SS} {a : Int32} (gb : inB a 120) : OM s a (zI s 62 a.toInt.toNat) (zI s 64 a.toInt.toNat) (zI s 74 a.toInt.toNat) := ⟨gb, fun r E => ⟨E.2.1 62 _ (by omega), E.2.1 64 _ (by omega), E.2.1 74 _ (by omega)⟩⟩
theorem EX.frA {s r : SS} (E : EX s r) : FrA s r := ⟨fun q k h => E.1 q k (fun z => by rw [z.1, z.2] at h; cases h), fun q i h => E.2.1 q i (fun z => by rw [z] at h; cases h), fun q i _ => by show r.2.2.1 q i = s.2.2.1 q i; rw [E.2.2]⟩
theorem EM.frA {s r : SS} (E : EM s r) : FrA s r := ⟨fun q k h => E.1 q k (fun z => by rw [z.1, z.2] at h; cases h), fun q i h => E.2.1 q i (fun z => by rw [z] at h; cases h), fun q i _ => by show r.2.2.1 q i = s.2.2.1 q i; rw [E.2.2]⟩
/-- class's trace from s to r, reference's from r to u: the relations stand again where the traces are alike -/
theorem GI.trace {s r u : SS} (G : GI s) (E : EX s r) (M : EM r u) (I : Iv u) (T : TR r u) : GI u := by
  obtain ⟨⟨t1, t2, t3, t4, t6⟩, t5, -⟩ := G.2
  refine ⟨G.1.go (E.frA.tr M.frA) (fun i => ?_) I, ⟨?_, ?_, fun i => ?_, fun i => ?_, ?_⟩, fun c y h1 h2 h3 => ?_, ?_, fun i => ?_⟩
  · show u.2.2.2.1 17 i = s.2.2.2.1 17 i
    rw [M.2.2, E.2.2]
  · rw [M.1 0 14 (by omega), E.1 0 14 (by omega), M.1 59 1 (by omega), E.1 59 1 (by omega)]; exact t1
  · rw [M.1 1 4 (by omega), E.1 1 4 (by omega), M.1 59 56 (by omega), E.1 59 56 (by omega)]; exact t2
  · rw [M.2.1 4 i (by omega), E.2.1 4 i (by omega), M.2.1 97 i (by omega), E.2.1 97 i (by omega)]; exact t3 i
  · rw [M.2.1 5 i (by omega), E.2.1 5 i (by omega), M.2.1 98 i (by omega), E.2.1 98 i (by omega)]; exact t4 i
  · rw [M.1 0 14 (by omega), E.1 0 14 (by omega)]; exact t6
  · rw [M.2.1 2 _ (by omega), E.2.1 2 _ (by omega), M.2.1 60 _ (by omega), E.2.1 60 _ (by omega), M.2.1 3 _ (by omega), E.2.1 3 _ (by omega), M.2.1 61 _ (by omega), E.2.1 61 _ (by omega)]; exact t5 c y h1 h2 h3
  · rw [M.1 15 11 (by omega)]; exact T.1
  · rw [M.2.1 18 i (by omega)]; exact T.2 i
theorem E0X {s : SS} : EX s (pS s 15 11 0) := ⟨fun q k h => by rw [zS_pS, if_neg h], fun _ _ _ => rfl, rfl⟩
theorem E0M {s : SS} : EM s (pS s 59 87 0) := ⟨fun q k h => by rw [zS_pS, if_neg h], fun _ _ _ => rfl, rfl⟩
theorem st_act {s : SS} (G : GI s) (a0 : Int32) (a1 : Int32) (a2 : Int32) : ∃ (rx : Int32) (s1 : SS) (rm : Int32) (s2 : SS), f_X11_act s a0 a1 a2 = some (rx, s1) ∧ f_X12_act s1 a0 a1 a2 = some (rm, s2) ∧ GI s2 ∧ True := by
  have e := G.1.2.1.2.2.1
  have k7 := G.1.2.2.1.2.1
  have hf : 0 ≤ (zS s 15 3).toInt ∧ (zS s 15 3).toInt ≤ 120 := G.1.1.f (q := 15) (k := 3) rfl
  have IX : Iv (pS s 15 11 0) := G.1.1.wF (q := 15) (k := 11) (by decide) (by decide) trivial
  by_cases c : 0 ≤ a0.toInt ∧ a0.toInt < (zS s 15 3).toInt
  · have gb : inB a0 120 := ⟨by omega, by omega⟩
    obtain ⟨w, g, O⟩ := OX_of (s := pS s 15 11 0) (a := a0) IX (by rw [E0X.1 15 3 (by omega)]; exact c)
    rw [E0X.2.1 16 _ (by omega)] at O
    have hk : 0 ≤ (zI s 16 a0.toInt.toNat).toInt ∧ (zI s 16 a0.toInt.toNat).toInt ≤ 7 := G.1.1.a (q := 16) rfl
    obtain ⟨l, el⟩ : ∃ l, l = lA (zI s 16 a0.toInt.toNat) a1 := ⟨_, rfl⟩
    have EX1 : EX s (tX (pS s 15 11 0) l) := E0X.tr (EX.l l)
    have I1 : Iv (tX (pS s 15 11 0) l) := IvX l IX
    have I2 : Iv (pS (tX (pS s 15 11 0) l) 59 87 0) := I1.wF (q := 59) (k := 87) (by decide) (by decide) trivial
    have O2 := OM_of (s := pS (tX (pS s 15 11 0) l) 59 87 0) gb
    rw [E0M.2.1 62 _ (by omega), EX1.2.1 62 _ (by omega), ← k7] at O2
    have hb : f_X12_isBody (pS (tX (pS s 15 11 0) l) 59 87 0) a0 = some 1 := body_t I2 (by rw [E0M.1 59 4 (by omega), EX1.1 59 4 (by omega), ← e]; exact c)
    refine ⟨_, tX (pS s 15 11 0) l, _, tM (pS (tX (pS s 15 11 0) l) 59 87 0) l, by rw [el]; exact actX hk O, by rw [actM hb O2, el], G.trace EX1 (E0M.tr (EM.l l)) (IvM l I2) (TR.l l ⟨?_, fun i => ?_⟩), trivial⟩
    · rw [zS_pS, if_pos ⟨rfl, rfl⟩, zS_pS, if_pos ⟨rfl, rfl⟩]
    · show zI s 18 i = zI (tX (pS s 15 11 0) l) 119 i
      rw [EX1.2.1 119 i (by omega)]
      exact G.2.2.2.2 i
  · have I2 : Iv (pS (pS s 15 11 0) 59 87 0) := IX.wF (q := 59) (k := 87) (by decide) (by decide) trivial
    refine ⟨0, pS s 15 11 0, 0, pS (pS s 15 11 0) 59 87 0, ?_, ?_, G.trace E0X E0M I2 ⟨?_, fun i => G.2.2.2.2 i⟩, trivial⟩
    · unfold f_X11_act f_X0_acted
      rw [st, kind_f (by rw [E0X.1 15 3 (by omega)]; exact c), b1_some, if_pos (by decide), bd_some]
    · unfold f_X12_act
      rw [st, body_f I2 (by rw [E0M.1 59 4 (by omega), E0X.1 59 4 (by omega), ← e]; exact c), b1_some, if_pos rfl]
    · rw [zS_pS, if_pos ⟨rfl, rfl⟩, zS_pS, if_pos ⟨rfl, rfl⟩]
theorem st_trace {s : SS} (G : GI s) (a0 : Int32) : ∃ (rx : Int32) (s1 : SS) (rm : Int32) (s2 : SS), f_X11_trace s a0 = some rx ∧ f_X12_trace s a0 = some rm ∧ GI s ∧ rx = rm := by
  obtain ⟨t1, t2⟩ := G.2.2.2
  by_cases c : 0 ≤ a0.toInt ∧ a0.toInt < (zS s 59 87).toInt ∧ a0.toInt < 24
  · refine ⟨zI s 18 a0.toInt.toNat, s, zI s 119 a0.toInt.toNat, s, ?_, ?_, G, t2 _⟩
    · unfold f_X11_trace
      rw [if_neg (by rw [jlt, jl0]; omega), if_pos (by rw [jlt, t1]; omega), if_pos (by rw [jlt, j24]; omega), gd_t ⟨by omega, by omega⟩]
    · unfold f_X12_trace
      rw [if_neg (by rw [jlt, jl0]; omega), if_pos (by rw [jlt]; omega), if_pos (by rw [jlt, j24]; omega), gd_t ⟨by omega, by omega⟩]
  · have hx : ∀ (n x : Int32), ¬ (0 ≤ a0.toInt ∧ a0.toInt < n.toInt ∧ a0.toInt < 24) → (if a0 < (0 : Int32) then some (-1) else (if a0 < n then (if a0 < (24 : Int32) then (gd (inB a0 24) (some x)) else some (-1)) else some (-1))) = some (-1 : Int32) := by
      intro n x h
      by_cases h0 : a0 < 0
      · rw [if_pos h0]
      rw [if_neg h0]
      by_cases h1 : a0 < n
      · rw [if_pos h1, if_neg (by rw [jlt, j24]; rw [jlt, jl0] at h0; rw [jlt] at h1; omega)]
      · rw [if_neg h1]
    refine ⟨-1, s, -1, s, ?_, ?_, G, rfl⟩
    · unfold f_X11_trace
      exact hx _ _ (by rw [t1]; exact c)
    · unfold f_X12_trace
      exact hx _ _ c
/-! LOG: how many came -/
def LV (i y n L v : Int) : Prop := 0 ≤ v ∧ v ≤ n ∧ (v = 0 ∨ (0 ≤ i ∧ i + v ≤ L ∧ y + v ≤ 61)) ∧ (v = n ∨ 60 < y + v ∨ ¬ (0 ≤ i + v ∧ i + v < L))
theorem LV.u {i y n L v w : Int} (h1 : LV i y n L v) (h2 : LV i y n L w) : v = w := by
  unfold LV at *
  omega
theorem i32_ge {a b : Int32} (h0 : 0 ≤ b.toInt) (h1 : b.toInt ≤ 60) (h : 2147483648 ≤ a.toInt + b.toInt) : (a + b).toInt < 0 := by
  have ha := jlo a
  rw [Int32.toInt_add, Int.bmod_def]
  omega
theorem fS_V {i k : Nat} (hi : i < 6) (hk : k < 4) : fS (47 + 2 * i) k = true := by
  have h : i = 0 ∨ i = 1 ∨ i = 2 ∨ i = 3 ∨ i = 4 ∨ i = 5 := by omega
  have h' : k = 0 ∨ k = 1 ∨ k = 2 ∨ k = 3 := by omega
  rcases h with rfl | rfl | rfl | rfl | rfl | rfl <;> rcases h' with rfl | rfl | rfl | rfl <;> rfl
def LX (s : SS) (i : Nat) : Int := if zS s (47 + 2 * i) 0 = 0 then 0 else (zS s (47 + 2 * i) 3).toInt
def LM (s : SS) (i : Nat) : Int := if zI s 120 i = -1 then 0 else (zI s 121 i).toInt
theorem lgX {b0 : SS} {p0 i : Nat} {y2 y3 y4 : Int32} (hi : i < 6) (o : okH b0 p0) (h3 : 1 ≤ y3.toInt ∧ y3.toInt ≤ 60) (h4 : 1 ≤ y4.toInt ∧ y4.toInt ≤ 60) (hd : zS b0 (47 + 2 * i) 0 = 0 ∨ zS b0 (47 + 2 * i) 0 = 2) : ∀ (n : Nat) (s : SS) (x : Int32), Lk b0 s → 0 ≤ x.toInt → x.toInt ≤ y4.toInt → (x.toInt = 0 ∨ (0 ≤ y2.toInt ∧ y2.toInt + x.toInt ≤ LX b0 i ∧ y3.toInt + x.toInt ≤ 61)) → y4.toInt - x.toInt < n → ∃ v r, f_X3_logged_L6 (fun (s17 : SS) (x17_5 : Int32) (x17_7 : Int32) => (b1 (f_X3_lostFrom s17 p0 x17_7) fun s18 => some (x17_5, s18))) p0 (47 + 2 * i) y2 y3 y4 n s x x = some (v, r) ∧ Lk b0 r ∧ LV y2.toInt y3.toInt y4.toInt (LX b0 i) v.toInt
  | 0, s, x, _, _, _, _, h => by omega
  | n + 1, s, x, K, hx0, hx1, hp, hn => by
    have e0 : zS s (47 + 2 * i) 0 = zS b0 (47 + 2 * i) 0 := K.2.2.1 _ _ (fS_V hi (by omega))
    have e3 : zS s (47 + 2 * i) 3 = zS b0 (47 + 2 * i) 3 := K.2.2.1 _ _ (fS_V hi (by omega))
    have b3 : 0 ≤ (zS b0 (47 + 2 * i) 3).toInt ∧ (zS b0 (47 + 2 * i) 3).toInt ≤ 60 := by
      rw [← e3]
      exact K.1.1.v3 ⟨by omega, by omega, by omega⟩
    have j60 : (60 : Int32).toInt = 60 := rfl
    rw [f_X3_logged_L6, f_X3_logged_L6_b]
    by_cases hl : x < y4
    · have hl' := hl
      rw [jlt] at hl'
      have a3 : (y3 + x).toInt = y3.toInt + x.toInt := i32_add (by omega) (by omega)
      have n1 : (x + 1).toInt = x.toInt + 1 := by rw [i32_add (by rw [jl1]; omega) (by rw [jl1]; omega), jl1]
      rw [if_pos hl]
      by_cases hy : (60 : Int32) < y3 + x
      · rw [if_pos hy]
        rw [jlt, j60, a3] at hy
        refine ⟨x, s, rfl, K, hx0, hx1, ?_, Or.inr (Or.inl hy)⟩
        omega
      rw [if_neg hy, vl]
      rw [jlt, j60, a3] at hy
      have hout : ∀ r4 : Int32, ¬ r4 = 0 → f_X8_refusal s (47 + 2 * i) (y2 + x) = some r4 → ¬ (0 ≤ y2.toInt + x.toInt ∧ y2.toInt + x.toInt < LX b0 i) → ∃ v r, (b1 (f_X8_refusal s (47 + 2 * i) (y2 + x)) fun r4 => (if r4 = (0 : Int32) then (vl ((y2 + x)) fun v6 => (gd (inB v6 60) (wl ((zJ s (47 + 2 * i + 1) (v6.toInt.toNat))) fun v8 => (jn (fun (t10_0 : Int32) => (gd (inB (y3 + x) 61) (st (pI s (p0 + 3) ((y3 + x).toInt.toNat) t10_0) fun s12 => (vl (x + 1) fun v13 => (vl (x + 1) fun v14 => (f_X3_logged_L6 (fun (s17 : SS) (x17_5 : Int32) (x17_7 : Int32) => (b1 (f_X3_lostFrom s17 p0 x17_7) fun s18 => some (x17_5, s18))) p0 (47 + 2 * i) y2 y3 y4 n s12 v13 v14)))))) fun k10 => (if (lg_cmp v8 9223372036854775807) = (0 : Int32) then (b1 (f_X3_logAhead s p0 (y3 + x)) fun r16 => (k10 r16)) else (k10 v8.toInt32)))))) else (b1 (f_X3_lostFrom s p0 (y3 + x)) fun s18 => some (x, s18)))) = some (v, r) ∧ Lk b0 r ∧ LV y2.toInt y3.toInt y4.toInt (LX b0 i) v.toInt := by
        intro r4 h4 er hr
        rw [er, b1_some, if_neg h4]
        obtain ⟨s18, e18, K18⟩ := w_X3_lostFrom (b0 := b0) (pt := p0) (a0 := y3 + x) K o (by rw [a3]; omega)
        rw [e18, b1_some]
        refine ⟨x, s18, rfl, K18, hx0, hx1, ?_, Or.inr (Or.inr hr)⟩
        omega
      rcases hd with hd | hd
      · have el : LX b0 i = 0 := if_pos hd
        refine hout (-11) (by decide) ?_ (by rw [el]; omega)
        unfold f_X8_refusal
        rw [if_pos (by rw [e0]; exact hd)]
      · have el : LX b0 i = (zS b0 (47 + 2 * i) 3).toInt := if_neg (by rw [hd]; decide)
        by_cases hr : 0 ≤ y2.toInt + x.toInt ∧ y2.toInt + x.toInt < LX b0 i
        · have a2 : (y2 + x).toInt = y2.toInt + x.toInt := i32_add (by omega) (by omega)
          rw [el] at hr
          have er : f_X8_refusal s (47 + 2 * i) (y2 + x) = some 0 := by
            unfold f_X8_refusal
            rw [if_neg (by rw [e0, hd]; decide), if_pos (by rw [e0]; exact hd), if_neg (by rw [jlt, jl0]; omega), if_pos (by rw [jlt, e3]; omega)]
          have hp' : (x + 1).toInt = 0 ∨ (0 ≤ y2.toInt ∧ y2.toInt + (x + 1).toInt ≤ LX b0 i ∧ y3.toInt + (x + 1).toInt ≤ 61) := by
            rw [n1, el]
            rw [el] at hp
            omega
          have kk : ∀ t10 : Int32, ∃ v r, (gd (inB (y3 + x) 61) (st (pI s (p0 + 3) ((y3 + x).toInt.toNat) t10) fun s12 => (vl (x + 1) fun v13 => (vl (x + 1) fun v14 => (f_X3_logged_L6 (fun (s17 : SS) (x17_5 : Int32) (x17_7 : Int32) => (b1 (f_X3_lostFrom s17 p0 x17_7) fun s18 => some (x17_5, s18))) p0 (47 + 2 * i) y2 y3 y4 n s12 v13 v14))))) = some (v, r) ∧ Lk b0 r ∧ LV y2.toInt y3.toInt y4.toInt (LX b0 i) v.toInt := by
            intro t10
            rw [gd_t ⟨by rw [a3]; omega, by rw [a3]; omega⟩, st, vl, vl]
            exact lgX hi o h3 h4 (Or.inr hd) n _ (x + 1) (Lk.w3 K o) (by omega) (by omega) hp' (by omega)
          rw [er, b1_some, if_pos rfl, vl, gd_t ⟨by rw [a2]; omega, by rw [a2]; omega⟩, wl, jn]
          by_cases z : lg_cmp (zJ s (47 + 2 * i + 1) (y2 + x).toInt.toNat) 9223372036854775807 = 0
          · rw [if_pos z]
            obtain ⟨r16, e16, -⟩ := w_X3_logAhead (b0 := b0) (pt := p0) (a0 := y3 + x) K o
            rw [e16, b1_some]
            exact kk r16
          · rw [if_neg z]
            exact kk _
        · refine hout (-13) (by decide) ?_ hr
          rw [el] at hr
          unfold f_X8_refusal
          rw [if_neg (by rw [e0, hd]; decide), if_pos (by rw [e0]; exact hd)]
          by_cases ng : y2 + x < 0
          · rw [if_pos ng]
          rw [if_neg ng]
          rw [jlt, jl0] at ng
          by_cases ov : y2.toInt + x.toInt < 2147483648
          · have l2 := jlo y2
            have a2 : (y2 + x).toInt = y2.toInt + x.toInt := i32_add (by omega) ov
            rw [if_neg (by rw [jlt, e3]; omega)]
          · have := i32_ge (a := y2) hx0 (by omega) (Int.not_lt.mp ov)
            omega
    · rw [if_neg hl]
      rw [jlt] at hl
      refine ⟨x, s, rfl, K, hx0, hx1, ?_, Or.inl (by omega)⟩
      omega
theorem lg129 {b0 : SS} {y1 y6 : Int32} (h1 : 0 ≤ y1.toInt ∧ y1.toInt ≤ 119) : ∀ (n : Nat) (s : SS) (x : Int32), Lk b0 s → 1 ≤ x.toInt → x.toInt ≤ 61 → 61 - x.toInt < n → ∃ r, f_X12_log_L129 y1 y6 n s x = some (y6, r) ∧ Lk b0 r
  | 0, s, x, _, _, _, h => by omega
  | n + 1, s, x, K, hx0, hx1, hn => by
    have j60 : (60 : Int32).toInt = 60 := rfl
    have j61 : (61 : Int32).toInt = 61 := rfl
    rw [f_X12_log_L129, f_X12_log_L129_b]
    by_cases hl : (60 : Int32) < x
    · rw [if_pos hl]
      exact ⟨s, rfl, K⟩
    · rw [if_neg hl]
      rw [jlt, j60] at hl
      have m1 : (61 * y1).toInt = 61 * y1.toInt := by rw [i32_mul (by rw [j61]; omega) (by rw [j61]; omega), j61]
      have m2 : (61 * y1 + x).toInt = 61 * y1.toInt + x.toInt := by rw [i32_add (by omega) (by omega), m1]
      have n1 : (x + 1).toInt = x.toInt + 1 := by rw [i32_add (by rw [jl1]; omega) (by rw [jl1]; omega), jl1]
      rw [vl, gd_t ⟨by omega, by omega⟩, st, vl]
      exact lg129 h1 n _ (x + 1) (Lk.wI K (q := 72) (by decide) (by decide) trivial) (by omega) (by omega) (by omega)
theorem lgM {b0 : SS} {y1 y2 y3 y4 y5 : Int32} (h1 : 0 ≤ y1.toInt ∧ y1.toInt ≤ 119) (h2 : 0 ≤ y2.toInt ∧ y2.toInt ≤ 5) (h4 : 1 ≤ y4.toInt ∧ y4.toInt ≤ 60) (h5 : 1 ≤ y5.toInt ∧ y5.toInt ≤ 60) : ∀ (n : Nat) (s : SS) (x : Int32), Lk b0 s → 0 ≤ x.toInt → x.toInt ≤ y5.toInt → (x.toInt = 0 ∨ (0 ≤ y3.toInt ∧ y3.toInt + x.toInt ≤ LM b0 y2.toInt.toNat ∧ y4.toInt + x.toInt ≤ 61)) → y5.toInt - x.toInt < n → ∃ v r, f_X12_log_L63 (fun (s41 : SS) (x41_6 : Int32) (x41_7 : Int32) => (f_X12_log_L129 y1 x41_6 4000 s41 x41_7)) y1 y2 y3 y4 y5 n s x = some (v, r) ∧ Lk b0 r ∧ LV y3.toInt y4.toInt y5.toInt (LM b0 y2.toInt.toNat) v.toInt
  | 0, s, x, _, _, _, _, h => by omega
  | n + 1, s, x, K, hx0, hx1, hp, hn => by
    have e0 : zI s 120 y2.toInt.toNat = zI b0 120 y2.toInt.toNat := K.2.2.2.1 120 _ rfl
    have e3 : zI s 121 y2.toInt.toNat = zI b0 121 y2.toInt.toNat := K.2.2.2.1 121 _ rfl
    have b3 : 0 ≤ (zI b0 121 y2.toInt.toNat).toInt ∧ (zI b0 121 y2.toInt.toNat).toInt ≤ 60 := by
      rw [← e3]
      exact K.1.a (q := 121) rfl
    have j60 : (60 : Int32).toInt = 60 := rfl
    have j61 : (61 : Int32).toInt = 61 := rfl
    have g2 : inB y2 6 := ⟨by omega, by omega⟩
    rw [f_X12_log_L63, f_X12_log_L63_b]
    by_cases hl : x < y5
    · have hl' := hl
      rw [jlt] at hl'
      have a3 : (y4 + x).toInt = y4.toInt + x.toInt := i32_add (by omega) (by omega)
      have n1 : (x + 1).toInt = x.toInt + 1 := by rw [i32_add (by rw [jl1]; omega) (by rw [jl1]; omega), jl1]
      rw [if_pos hl, vl]
      by_cases hy : (60 : Int32) < y4 + x
      · rw [if_pos hy]
        rw [jlt, j60, a3] at hy
        refine ⟨x, s, rfl, K, hx0, hx1, ?_, Or.inr (Or.inl hy)⟩
        omega
      rw [if_neg hy, wl, gd_t g2]
      rw [jlt, j60, a3] at hy
      have hout : ¬ (0 ≤ y3.toInt + x.toInt ∧ y3.toInt + x.toInt < LM b0 y2.toInt.toNat) → ∃ v r, f_X12_log_L129 y1 x 4000 s (y4 + x) = some (v, r) ∧ Lk b0 r ∧ LV y3.toInt y4.toInt y5.toInt (LM b0 y2.toInt.toNat) v.toInt := by
        intro hr
        obtain ⟨r, er, Kr⟩ := lg129 (b0 := b0) (y6 := x) h1 4000 s (y4 + x) K (by omega) (by omega) (by omega)
        refine ⟨x, r, er, Kr, hx0, hx1, ?_, Or.inr (Or.inr hr)⟩
        omega
      by_cases hz : zI s 120 y2.toInt.toNat = -1
      · rw [if_pos hz]
        exact hout (by rw [LM, if_pos (by rw [← e0]; exact hz)]; omega)
      rw [if_neg hz]
      have el : LM b0 y2.toInt.toNat = (zI b0 121 y2.toInt.toNat).toInt := if_neg (by rw [← e0]; exact hz)
      have ls := lgsum y3 x
      by_cases c0 : lg_cmp (y3.toInt64 + x.toInt64) 0 < 0
      · rw [if_pos c0]
        have := lgc_lt c0
        rw [ls, show (0 : Int64).toInt = 0 from rfl] at this
        exact hout (by omega)
      rw [if_neg c0, gd_t g2]
      by_cases c1 : lg_cmp (y3.toInt64 + x.toInt64) (zI s 121 y2.toInt.toNat).toInt64 < 0
      · rw [if_pos c1, vl]
        have g0 := lgc_ge c0
        have g1 := lgc_lt c1
        rw [ls, show (0 : Int64).toInt = 0 from rfl] at g0
        rw [ls, Int32.toInt_toInt64, e3] at g1
        have gi : inB (60 * y2 + (y3.toInt64 + x.toInt64).toInt32) 360 := lgix h2 c0 c1 (K.1.a (q := 121) rfl)
        have m1 : (61 * y1).toInt = 61 * y1.toInt := by rw [i32_mul (by rw [j61]; omega) (by rw [j61]; omega), j61]
        have m2 : (61 * y1 + (y4 + x)).toInt = 61 * y1.toInt + (y4.toInt + x.toInt) := by rw [i32_add (by omega) (by omega), m1, a3]
        have m3 : (61 * y1 + (y4 + x) - 1).toInt = 61 * y1.toInt + (y4.toInt + x.toInt) - 1 := by rw [i32_sub (by rw [m2, jl1]; omega) (by rw [m2, jl1]; omega), m2, jl1]
        have g25 : inB (61 * y1 + (y4 + x)) 7320 := ⟨by omega, by omega⟩
        have kk : ∀ t24 : Int32, ∃ v r, (vl ((((61 : Int32) * y1) + (y4 + x))) fun v25 => (gd (inB v25 7320) (st (pI s 73 (v25.toInt.toNat) t24) fun s27 => (vl ((((61 : Int32) * y1) + (y4 + x))) fun v28 => (gd (inB v28 7320) (st (pI s27 72 (v28.toInt.toNat) ((1 : Int32) &&& 1)) fun s30 => (vl (x + 1) fun v31 => (f_X12_log_L63 (fun (s41 : SS) (x41_6 : Int32) (x41_7 : Int32) => (f_X12_log_L129 y1 x41_6 4000 s41 x41_7)) y1 y2 y3 y4 y5 n s30 v31)))))))) = some (v, r) ∧ Lk b0 r ∧ LV y3.toInt y4.toInt y5.toInt (LM b0 y2.toInt.toNat) v.toInt := by
          intro t24
          rw [vl, gd_t g25, st, vl, gd_t g25, st, vl]
          refine lgM h1 h2 h4 h5 n _ (x + 1) (Lk.wI (Lk.wI K (q := 73) (by decide) (by decide) trivial) (q := 72) (by decide) (by decide) trivial) (by omega) (by omega) ?_ (by omega)
          rw [n1, el]
          rw [el] at hp
          omega
        have k22 : ∀ t22 : Int32, ∃ v r, (gd (inB (60 * y2 + (y3.toInt64 + x.toInt64).toInt32) 360) (jn (fun (t24_0 : Int32) => (vl ((((61 : Int32) * y1) + (y4 + x))) fun v25 => (gd (inB v25 7320) (st (pI s 73 (v25.toInt.toNat) t24_0) fun s27 => (vl ((((61 : Int32) * y1) + (y4 + x))) fun v28 => (gd (inB v28 7320) (st (pI s27 72 (v28.toInt.toNat) ((1 : Int32) &&& 1)) fun s30 => (vl (x + 1) fun v31 => (f_X12_log_L63 (fun (s41 : SS) (x41_6 : Int32) (x41_7 : Int32) => (f_X12_log_L129 y1 x41_6 4000 s41 x41_7)) y1 y2 y3 y4 y5 n s30 v31))))))))) fun k24 => (if (zI s 123 ((60 * y2 + (y3.toInt64 + x.toInt64).toInt32).toInt.toNat)) = (0 : Int32) then (gd (inB (60 * y2 + (y3.toInt64 + x.toInt64).toInt32) 360) (k24 ((zJ s 122 ((60 * y2 + (y3.toInt64 + x.toInt64).toInt32).toInt.toNat)).toInt32))) else (k24 t22)))) = some (v, r) ∧ Lk b0 r ∧ LV y3.toInt y4.toInt y5.toInt (LM b0 y2.toInt.toNat) v.toInt := by
          intro t22
          rw [gd_t gi, jn]
          by_cases z : zI s 123 (60 * y2 + (y3.toInt64 + x.toInt64).toInt32).toInt.toNat = 0
          · rw [if_pos z, gd_t gi]
            exact kk _
          · rw [if_neg z]
            exact kk _
        rw [jn, jn]
        by_cases h13 : (1 : Int32) < y4 + x
        · rw [if_pos h13, vl, gd_t ⟨by omega, by omega⟩]
          rw [jlt, jl1, a3] at h13
          by_cases z : zI s 72 (61 * y1 + (y4 + x) - 1).toInt.toNat = 0
          · rw [if_pos z]
            exact k22 0
          · rw [if_neg z, vl, gd_t ⟨by omega, by omega⟩]
            exact k22 _
        · rw [if_neg h13]
          exact k22 0
      · rw [if_neg c1]
        have g1 := lgc_ge c1
        rw [ls, Int32.toInt_toInt64, e3] at g1
        exact hout (by rw [el]; omega)
    · rw [if_neg hl]
      rw [jlt] at hl
      have : x = y5 := Int32.toInt_inj.1 (by omega)
      refine ⟨y5, s, rfl, K, by omega, by omega, ?_, Or.inl rfl⟩
      rw [← this]
      omega
theorem sort5 {v : Int32} (h : 0 ≤ v.toInt ∧ v.toInt ≤ 4) : v = 0 ∨ v = 1 ∨ v = 2 ∨ v = 3 ∨ v = 4 := by
  have h : v.toInt = 0 ∨ v.toInt = 1 ∨ v.toInt = 2 ∨ v.toInt = 3 ∨ v.toInt = 4 := by omega
  exact h.imp (fun z => Int32.toInt_inj.1 z) (fun h => h.imp (fun z => Int32.toInt_inj.1 z) (fun h => h.imp (fun z => Int32.toInt_inj.1 z) (fun h => h.imp (fun z => Int32.toInt_inj.1 z) (fun z => Int32.toInt_inj.1 z))))
/-- what the shelf lets: rows of numbers, and nothing at all -/
def lgO (s : SS) (i : Nat) : Prop := zS s (47 + 2 * i) 0 = 0 ∨ (zS s (47 + 2 * i) 0 = 2 ∧ (zS s (47 + 2 * i) 2 = 3 ∨ zS s (47 + 2 * i) 2 = 4))
theorem lgO_M {s : SS} {i : Nat} (R : SR s i) : (lgO s i ↔ (zI s 120 i = -1 ∨ zI s 120 i = -5 ∨ zI s 120 i = -6)) ∧ (lgO s i → LX s i = LM s i) := by
  unfold lgO LX LM
  rcases R with ⟨h1, h2⟩ | ⟨h1, h2, h3, h4⟩ | ⟨h1, h2, h3, h4, h5⟩
  · refine ⟨⟨fun _ => Or.inl h2, fun _ => Or.inl h1⟩, fun _ => ?_⟩
    rw [if_pos h1, if_pos h2]
  · refine ⟨⟨fun z => ?_, fun z => ?_⟩, fun z => ?_⟩
    · rw [h1] at z
      rcases z with z | z
      · exact absurd z (by decide)
      · exact absurd z.1 (by decide)
    · rcases z with z | z | z <;> (rw [z] at h3; exact absurd h3 (by decide))
    · rw [h1] at z
      rcases z with z | z
      · exact absurd z (by decide)
      · exact absurd z.1 (by decide)
  · rw [h1, h2, h4]
    rcases sort5 h3 with z | z | z | z | z <;> rw [z] <;> refine ⟨⟨fun w => ?_, fun w => ?_⟩, fun w => ?_⟩ <;> first | (rw [if_neg (by decide), if_neg (by decide)]) | (revert w; decide)
theorem st_log {s : SS} (G : GI s) (a0 : Int32) (a1 : Int32) (a2 : Int32) (a3 : Int32) (a4 : Int32) : ∃ (rx : Int32) (s1 : SS) (rm : Int32) (s2 : SS), f_X11_log s a0 a1 a2 a3 a4 = some (rx, s1) ∧ f_X12_log s1 a0 a1 a2 a3 a4 = some (rm, s2) ∧ GI s2 ∧ rx = rm := by
  have hf : 0 ≤ (zS s 15 3).toInt ∧ (zS s 15 3).toInt ≤ 120 := G.1.1.f (q := 15) (k := 3) rfl
  have j60 : (60 : Int32).toInt = 60 := rfl
  by_cases c : HB s a0
  · obtain ⟨⟨p, ep⟩, em⟩ := hole_t G.1 c
    have op : okH s p := by
      unfold f_X0_holeOf at ep
      rw [if_neg (by rw [jlt, jl0]; have := c.1; omega), if_pos (by rw [jlt]; have := c.1; omega), gd_t ⟨by have := c.1; omega, by have := c.1; omega⟩] at ep
      cases hz : zR s 17 a0.toInt.toNat with
      | none => rw [hz] at ep; cases ep
      | some p' =>
        rw [hz] at ep
        have e2 : p' = p := Option.some.inj (Option.some.inj ep)
        rw [← e2]
        exact G.1.1.1.1.2.2.1 _ _ (by have := c.1; omega) hz
    by_cases d : 0 ≤ a1.toInt ∧ a1.toInt < 6
    · obtain ⟨i, ei⟩ : ∃ i, i = a1.toInt.toNat := ⟨_, rfl⟩
      have hi : i < 6 := by omega
      have es : f_X11_shelfOf s a1 = some (some (47 + 2 * i)) := by rw [ei]; exact shelf_t G.1.1 d
      have ms : f_X12_isShelf a1 = some 1 := by
        unfold f_X12_isShelf
        rw [in_t (by rw [jl0, show (5 : Int32).toInt = 5 from rfl]; omega), b1_some]
      by_cases y : (1 ≤ a3.toInt ∧ a3.toInt ≤ 60) ∧ (1 ≤ a4.toInt ∧ a4.toInt ≤ 60)
      · obtain ⟨R1, R2⟩ := lgO_M (G.1.2.2.2.2.2 i hi)
        have hm0 : ∀ (t : SS) (k : Option (Int32 × SS)), f_X12_isHole t a0 = some 1 → (zI t 120 i = zI s 120 i) → (if (zI t 120 (a1.toInt.toNat)) = ((-1) : Int32) then k else (b1 (f_X12_isReals t a1) fun r48 => (if r48 = (0 : Int32) then some ((-12), t) else k))) = if (zI s 120 i = -1 ∨ zI s 120 i = -5 ∨ zI s 120 i = -6) then k else some (-12, t) := by
          intro t k ht e120
          have g6 : inB a1 6 := ⟨by omega, by omega⟩
          rw [← ei, e120]
          by_cases z1 : zI s 120 i = -1
          · rw [if_pos z1, if_pos (Or.inl z1)]
          rw [if_neg z1]
          unfold f_X12_isReals
          rw [gd_t g6, ← ei, e120]
          by_cases z5 : zI s 120 i = -5
          · rw [if_pos z5, b1_some, if_neg (by decide), if_pos (Or.inr (Or.inl z5))]
          rw [if_neg z5, gd_t g6]
          by_cases z6 : zI s 120 i = -6
          · rw [if_pos z6, b1_some, if_neg (by decide), if_pos (Or.inr (Or.inr z6))]
          · rw [if_neg z6, b1_some, if_pos rfl, if_neg (by rintro (z | z | z) <;> contradiction)]
        have hm1 : ∀ (t : SS), f_X12_isHole t a0 = some 1 → (zI t 120 i = zI s 120 i) → f_X12_log t a0 a1 a2 a3 a4 = if (zI s 120 i = -1 ∨ zI s 120 i = -5 ∨ zI s 120 i = -6) then (f_X12_log_L63 (fun (s41 : SS) (x41_6 : Int32) (x41_7 : Int32) => (f_X12_log_L129 a0 x41_6 4000 s41 x41_7)) a0 a1 a2 a3 a4 4000 t 0) else some (-12, t) := by
          intro t ht e120
          unfold f_X12_log
          rw [ht, b1_some, if_neg (by decide), ms, b1_some, if_neg (by decide), in_t (by rw [jl1, j60]; exact y.1), b1_some, if_neg (by decide), in_t (by rw [jl1, j60]; exact y.2), b1_some, if_neg (by decide), gd_t ⟨by omega, by omega⟩, jn, hm0 t _ ht e120]
        have hx1 : f_X11_isYard a3 = some 1 := yard_t (by omega)
        by_cases o : lgO s i
        · have hd : zS s (47 + 2 * i) 0 = 0 ∨ zS s (47 + 2 * i) 0 = 2 := o.imp (fun z => z) (fun z => z.1)
          obtain ⟨v, r, er, Kr, hv⟩ := lgX (b0 := s) (y2 := a2) hi op y.1 y.2 hd 4000 s 0 (Lk.rf G.1.1) (by decide) (by rw [jl0]; omega) (Or.inl rfl) (by rw [jl0]; omega)
          obtain ⟨w, u, eu, Ku, hw⟩ := lgM (b0 := r) (y1 := a0) (y2 := a1) (y3 := a2) (y4 := a3) (y5 := a4) (by have := c.1; omega) (by omega) y.1 y.2 4000 r 0 (Lk.rf Kr.1) (by decide) (by rw [jl0]; omega) (Or.inl rfl) (by rw [jl0]; omega)
          have e120 : zI r 120 i = zI s 120 i := Kr.2.2.2.1 120 _ rfl
          have e121 : zI r 121 i = zI s 121 i := Kr.2.2.2.1 121 _ rfl
          have eL : LM r i = LX s i := by
            rw [R2 o]
            unfold LM
            rw [e120, e121]
          rw [← ei, eL] at hw
          have em1 : f_X12_isHole r a0 = some 1 := by
            have H : HB r a0 := by
              unfold HB
              rw [Kr.2.2.1 15 3 rfl, Kr.2.2.2.1 16 _ rfl]
              exact c
            exact (hole_t (G.1.go Kr.2.2.a (fun i => Kr.zR_ 17 i) Kr.1) H).2
          refine ⟨v, r, w, u, ?_, by rw [hm1 r em1 e120, if_pos (R1.1 o), eu], G.go Kr.2.2 (fun i => Kr.zR_ 17 i) Ku.2.2 (fun i => Ku.zR_ 17 i) Ku.1, Int32.toInt_inj.1 (hv.u hw)⟩
          unfold f_X11_log
          rw [ep, b1_some, on_some, es, b1_some, on_some, hx1, b1_some, if_neg (by decide), if_neg (by rw [jlt, jl1]; omega), if_neg (by rw [jlt, j60]; omega), if_neg (by rcases hd with z | z <;> rw [z] <;> decide), jn]
          have ek : (bd (f_X3_logged s p (47 + 2 * i) a2 a3 a4) fun r11 s11 => some (r11, s11)) = some (v, r) := by
            unfold f_X3_logged
            rw [er, bd_some]
          rw [ek]
          rcases o with z | ⟨z, z2⟩
          · rw [if_neg (by rw [z]; decide)]
          · rw [if_pos z]
            unfold f_X8_isReal
            rw [if_pos z]
            rcases z2 with z2 | z2
            · rw [if_pos z2, b1_some, if_neg (by decide)]
            · rw [if_neg (by rw [z2]; decide), if_pos z2, b1_some, if_neg (by decide)]
        · refine ⟨-12, s, -12, s, ?_, by rw [hm1 s em rfl, if_neg (fun z => o (R1.2 z))], G, rfl⟩
          unfold f_X11_log
          rw [ep, b1_some, on_some, es, b1_some, on_some, hx1, b1_some, if_neg (by decide), if_neg (by rw [jlt, jl1]; omega), if_neg (by rw [jlt, j60]; omega)]
          by_cases z1 : zS s (47 + 2 * i) 0 = 1
          · rw [if_pos z1]
          rw [if_neg z1, jn]
          have z0 : ¬ zS s (47 + 2 * i) 0 = 0 := fun z => o (Or.inl z)
          have z2 : zS s (47 + 2 * i) 0 = 2 := by
            rcases G.1.2.2.2.2.2 i hi with h | h | h
            · exact absurd h.1 z0
            · exact absurd h.1 z1
            · exact h.1
          rw [if_pos z2]
          unfold f_X8_isReal
          rw [if_pos z2, if_neg (fun z => o (Or.inr ⟨z2, Or.inl z⟩)), if_neg (fun z => o (Or.inr ⟨z2, Or.inr z⟩)), b1_some, if_pos rfl]
      · refine ⟨-1, s, -1, s, ?_, ?_, G, rfl⟩
        · unfold f_X11_log
          rw [ep, b1_some, on_some, es, b1_some, on_some]
          by_cases y1 : 1 ≤ a3.toInt ∧ a3.toInt ≤ 60
          · rw [yard_t (by omega), b1_some, if_neg (by decide)]
            by_cases z : a4 < 1
            · rw [if_pos z]
            · rw [if_neg z, if_pos (by rw [jlt, j60]; rw [jlt, jl1] at z; omega)]
          · rw [yard_f (by omega), b1_some, if_pos rfl]
        · unfold f_X12_log
          rw [em, b1_some, if_neg (by decide), ms, b1_some, if_neg (by decide)]
          by_cases y1 : 1 ≤ a3.toInt ∧ a3.toInt ≤ 60
          · rw [in_t (by rw [jl1, j60]; exact y1), b1_some, if_neg (by decide), in_f (by rw [jl1, j60]; omega), b1_some, if_pos rfl]
          · rw [in_f (by rw [jl1, j60]; exact y1), b1_some, if_pos rfl]
    · refine ⟨-1, s, -1, s, ?_, ?_, G, rfl⟩
      · unfold f_X11_log
        rw [ep, b1_some, on_some, shelf_f d, b1_some, on_none]
      · unfold f_X12_log f_X12_isShelf
        rw [em, b1_some, if_neg (by decide), in_f (by rw [jl0, show (5 : Int32).toInt = 5 from rfl]; omega), b1_some, b1_some, if_pos rfl]
  · obtain ⟨ep, em⟩ := hole_f G.1 c
    refine ⟨-1, s, -1, s, ?_, by unfold f_X12_log; rw [em, b1_some, if_pos rfl], G, rfl⟩
    unfold f_X11_log
    rw [ep, b1_some, on_none]
    by_cases d : 0 ≤ a1.toInt ∧ a1.toInt < 6
    · rw [shelf_t G.1.1 d, b1_some, on_some]
    · rw [shelf_f d, b1_some, on_none]
/-! BOTH RELATIONS: the fresh state, a step that writes nothing watched -/
theorem GI_fr : GI sFr := by
  refine ⟨GA_fr, ⟨rfl, rfl, fun _ => rfl, fun _ => rfl, by decide, by decide⟩, fun c y _ _ _ => ⟨?_, rfl, Or.inl rfl⟩, rfl, fun _ => rfl⟩
  show (3 : Int32) = 3 + 0
  decide
