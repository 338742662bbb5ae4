/-! WHAT CLASS AND REFERENCE HAVE ALIKE -/
theorem b1_some {α ρ : Type} (x : α) (k : α → Option ρ) : b1 (some x) k = k x := rfl
theorem bd_some {α ρ : Type} (x : α) (s : SS) (k : α → SS → Option ρ) : bd (some (x, s)) k = k x s := rfl
theorem on_some {ρ : Type} (p : Nat) (A : Option ρ) (B : Nat → Option ρ) : on (some p) A B = B p := rfl
theorem on_none {ρ : Type} (A : Option ρ) (B : Nat → Option ρ) : on none A B = A := rfl
theorem gd_t {ρ : Type} {b : Prop} {i : Decidable b} {k : Option ρ} (h : b) : @gd ρ b i k = k := if_pos h
theorem in_t {a lo hi : Int32} (h : lo.toInt ≤ a.toInt ∧ a.toInt ≤ hi.toInt) : f_X12_in a lo hi = some 1 := by
  unfold f_X12_in
  rw [if_neg (by rw [jlt]; omega), if_neg (by rw [jlt]; omega)]
theorem in_f {a lo hi : Int32} (h : ¬ (lo.toInt ≤ a.toInt ∧ a.toInt ≤ hi.toInt)) : f_X12_in a lo hi = some 0 := by
  unfold f_X12_in
  by_cases c : a < lo
  · rw [if_pos c]
  · rw [if_neg c, if_pos (by rw [jlt] at c ⊢; omega)]
/-- what the first relation watches, and the second -/
def FrA (b r : SS) : Prop := (∀ q k, fSA q k = true → zS r q k = zS b q k) ∧ (∀ q i, fIA q = true → zI r q i = zI b q i) ∧ ∀ q i, fJ q = true → zJ r q i = zJ b q i
def FrB (b r : SS) : Prop := (∀ q k, fSB q k = true → zS r q k = zS b q k) ∧ ∀ q i, fIB q = true → zI r q i = zI b q i
theorem Fr.a {b r : SS} (F : Fr b r) : FrA b r := ⟨fun q k h => F.1 q k (by unfold fS; rw [h]; rfl), fun q i h => F.2.1 q i (by unfold fI; rw [h]; rfl), F.2.2⟩
theorem Fr.b {b r : SS} (F : Fr b r) : FrB b r := ⟨fun q k h => F.1 q k (by unfold fS; rw [h, Bool.or_true]), fun q i h => F.2.1 q i (by unfold fI; rw [h, Bool.or_true])⟩
section FBs
variable {b s r : SS} {q k i : Nat} {v : Int32}
theorem FrB.rf : FrB s s := ⟨fun _ _ _ => rfl, fun _ _ _ => rfl⟩
theorem FrB.tr (h1 : FrB b s) (h2 : FrB s r) : FrB b r := ⟨fun q k h => (h2.1 q k h).trans (h1.1 q k h), fun q i h => (h2.2 q i h).trans (h1.2 q i h)⟩
theorem FrB.pS (h : FrB b s) (hq : fSB q k = false) : FrB b (pS s q k v) := ⟨fun a c e => by
  rw [zS_pS, if_neg (fun z => by rw [z.1, z.2, hq] at e; cases e)]
  exact h.1 a c e, h.2⟩
theorem FrB.pI (h : FrB b s) (hq : fIB q = false) : FrB b (pI s q i v) := ⟨h.1, fun a c e => by
  rw [zI_pI, if_neg (fun z => by rw [z.1, hq] at e; cases e)]
  exact h.2 a c e⟩
theorem fSB_d (h : 16 ≤ q ∧ q ≠ 59 ∧ q ≠ 24) : fSB q k = false := by
  unfold fSB
  split <;> first | omega | rfl
end FBs
def isH (v : Int32) : Prop := v = 2 ∨ v = 3 ∨ v = 4 ∨ v = 5
def RC (s : SS) : Prop := zS s 0 15 = zS s 59 29 ∧ zS s 0 5 = zS s 59 30 ∧ zS s 15 3 = zS s 59 4 ∧ zS s 15 5 = zS s 59 21 ∧ zS s 34 3 = zS s 59 67 ∧ zS s 34 9 = zS s 59 76
def RA (s : SS) : Prop := (∀ i, zI s 42 i = zI s 113 i) ∧ (∀ i, zI s 16 i = zI s 62 i) ∧ ∀ i, zI s 9 i = zI s 76 i
def RM (s : SS) : Prop := ∀ i, i < 3 → zS s (20 + i) 0 = zI s 78 i ∧ zS s (20 + i) 1 = zI s 79 i
def RH (s : SS) : Prop := ∀ i, i < 120 → (zR s 17 i = none ↔ ¬ ((i : Int) < (zS s 15 3).toInt ∧ isH (zI s 16 i)))
/-- shelf i: nothing; a body; a row of a kind, a length, elements -/
def SR (s : SS) (i : Nat) : Prop := (zS s (47 + 2 * i) 0 = 0 ∧ zI s 120 i = -1) ∨ (zS s (47 + 2 * i) 0 = 1 ∧ zI s 120 i = zS s (47 + 2 * i) 1 ∧ 0 ≤ (zI s 120 i).toInt ∧ (zI s 120 i).toInt < (zS s 15 3).toInt) ∨ (zS s (47 + 2 * i) 0 = 2 ∧ zI s 120 i = -2 - zS s (47 + 2 * i) 2 ∧ (0 ≤ (zS s (47 + 2 * i) 2).toInt ∧ (zS s (47 + 2 * i) 2).toInt ≤ 4) ∧ zS s (47 + 2 * i) 3 = zI s 121 i ∧ ∀ j, j < 60 → (zI s 123 (60 * i + j) = 0 ∧ zJ s (48 + 2 * i) j = zJ s 122 (60 * i + j)) ∨ (zI s 123 (60 * i + j) = 1 ∧ zJ s (48 + 2 * i) j = 9223372036854775807))
def RV (s : SS) : Prop := ∀ i, i < 6 → SR s i
def RG (s : SS) : Prop := RC s ∧ RA s ∧ RM s ∧ RH s ∧ RV s
def GA (s : SS) : Prop := Iv s ∧ RG s
section RGs
variable {s r : SS}
theorem RC.c (R : RC s) (h0 : ∀ k, zS r 0 k = zS s 0 k) (h15 : ∀ k, zS r 15 k = zS s 15 k) (h34 : ∀ k, zS r 34 k = zS s 34 k) (h59 : ∀ k, zS r 59 k = zS s 59 k) : RC r := by
  unfold RC
  rw [h0, h0, h15, h15, h34, h34, h59, h59, h59, h59, h59, h59]
  exact R
theorem RA.c (R : RA s) (h : ∀ q i, q = 42 ∨ q = 113 ∨ q = 16 ∨ q = 62 ∨ q = 9 ∨ q = 76 → zI r q i = zI s q i) : RA r := ⟨fun i => by rw [h 42 i (by omega), h 113 i (by omega)]; exact R.1 i, fun i => by rw [h 16 i (by omega), h 62 i (by omega)]; exact R.2.1 i, fun i => by rw [h 9 i (by omega), h 76 i (by omega)]; exact R.2.2 i⟩
theorem RM.c (R : RM s) (h : ∀ i k, i < 3 → k < 2 → zS r (20 + i) k = zS s (20 + i) k) (h78 : ∀ i, zI r 78 i = zI s 78 i) (h79 : ∀ i, zI r 79 i = zI s 79 i) : RM r := fun i hi => by
  rw [h i 0 hi (by decide), h i 1 hi (by decide), h78, h79]
  exact R i hi
theorem RH.c (R : RH s) (h3 : zS r 15 3 = zS s 15 3) (h16 : ∀ i, zI r 16 i = zI s 16 i) (hR : ∀ i, zR r 17 i = zR s 17 i) : RH r := fun i hi => by
  rw [h3, h16, hR]
  exact R i hi
theorem SR.c {i : Nat} (R : SR s i) (hS : ∀ k, k < 4 → zS r (47 + 2 * i) k = zS s (47 + 2 * i) k) (h120 : zI r 120 i = zI s 120 i) (h121 : zI r 121 i = zI s 121 i) (h123 : ∀ j, j < 60 → zI r 123 (60 * i + j) = zI s 123 (60 * i + j)) (hJ : ∀ j, j < 60 → zJ r (48 + 2 * i) j = zJ s (48 + 2 * i) j) (h122 : ∀ j, j < 60 → zJ r 122 (60 * i + j) = zJ s 122 (60 * i + j)) (hct : (zS s 15 3).toInt ≤ (zS r 15 3).toInt) : SR r i := by
  unfold SR
  rw [hS 0 (by decide), hS 1 (by decide), hS 2 (by decide), hS 3 (by decide), h120, h121]
  rcases R with R | R | R
  · exact Or.inl R
  · exact Or.inr (Or.inl ⟨R.1, R.2.1, R.2.2.1, by have := R.2.2.2; omega⟩)
  · refine Or.inr (Or.inr ⟨R.1, R.2.1, R.2.2.1, R.2.2.2.1, fun j hj => ?_⟩)
    rw [h123 j hj, h122 j hj, hJ j hj]
    exact R.2.2.2.2 j hj
theorem RV.c (R : RV s) (hS : ∀ i k, i < 6 → k < 4 → zS r (47 + 2 * i) k = zS s (47 + 2 * i) k) (hI : ∀ q j, q = 120 ∨ q = 121 ∨ q = 123 → zI r q j = zI s q j) (hJ : ∀ q j, zJ r q j = zJ s q j) (hct : (zS s 15 3).toInt ≤ (zS r 15 3).toInt) : RV r := fun i hi => (R i hi).c (fun k hk => hS i k hi hk) (hI _ _ (by omega)) (hI _ _ (by omega)) (fun j _ => hI _ _ (by omega)) (fun j _ => hJ _ _) (fun j _ => hJ _ _) hct
theorem RG.c (R : RG s) (F : FrA s r) (hR : ∀ i, zR r 17 i = zR s 17 i) : RG r := by
  obtain ⟨R1, R2, R3, R4, R5⟩ := R
  refine ⟨?_, ?_, ?_, ?_, ?_⟩
  · unfold RC
    rw [F.1 0 15 rfl, F.1 0 5 rfl, F.1 15 3 rfl, F.1 15 5 rfl, F.1 34 3 rfl, F.1 34 9 rfl, F.1 59 29 rfl, F.1 59 30 rfl, F.1 59 4 rfl, F.1 59 21 rfl, F.1 59 67 rfl, F.1 59 76 rfl]
    exact R1
  · exact R2.c (fun q i h => F.2.1 q i (by rcases h with rfl | rfl | rfl | rfl | rfl | rfl <;> rfl))
  · refine R3.c (fun i k hi hk => F.1 _ _ ?_) (fun i => F.2.1 78 i rfl) (fun i => F.2.1 79 i rfl)
    have h : i = 0 ∨ i = 1 ∨ i = 2 := by omega
    have h' : k = 0 ∨ k = 1 := by omega
    rcases h with rfl | rfl | rfl <;> rcases h' with rfl | rfl <;> rfl
  · exact R4.c (F.1 15 3 rfl) (fun i => F.2.1 16 i rfl) hR
  · intro i hi
    have h : i = 0 ∨ i = 1 ∨ i = 2 ∨ i = 3 ∨ i = 4 ∨ i = 5 := by omega
    refine (R5 i hi).c (fun k hk => F.1 _ _ ?_) (F.2.1 120 i rfl) (F.2.1 121 i rfl) (fun j _ => F.2.1 123 _ rfl) (fun j _ => F.2.2 _ _ ?_) (fun j _ => F.2.2 122 _ rfl) (by rw [F.1 15 3 rfl]; exact Int.le_refl _)
    · have h' : k = 0 ∨ k = 1 ∨ k = 2 ∨ k = 3 := by omega
      rcases h with rfl | rfl | rfl | rfl | rfl | rfl <;> rcases h' with rfl | rfl | rfl | rfl <;> rfl
    · rcases h with rfl | rfl | rfl | rfl | rfl | rfl <;> rfl
end RGs
theorem GA.go {s r : SS} (G : GA s) (F : FrA s r) (hR : ∀ i, zR r 17 i = zR s 17 i) (I : Iv r) : GA r := ⟨I, G.2.c F hR⟩
theorem mach_t {s : SS} {a : Int32} (I : Iv s) (h : 0 ≤ a.toInt ∧ a.toInt < 3) : f_X11_machineOf s a = some (some (20 + a.toInt.toNat)) := by
  unfold f_X11_machineOf
  rw [if_neg (by rw [jlt, jl0]; omega), if_pos (by rw [jlt, jl3]; omega), gd_t ⟨h.1, h.2⟩, I.1.1.2.2.2.1 _ (by omega)]
  rfl
theorem mach_f {s : SS} {a : Int32} (h : ¬ (0 ≤ a.toInt ∧ a.toInt < 3)) : f_X11_machineOf s a = some none := by
  unfold f_X11_machineOf
  by_cases c : a < 0
  · rw [if_pos c]
  · rw [if_neg c, if_neg (by rw [jlt, jl3]; rw [jlt, jl0] at c; omega)]
theorem ismach_t {a : Int32} (h : 0 ≤ a.toInt ∧ a.toInt < 3) : f_X12_isMachine a = some 1 := by
  unfold f_X12_isMachine
  rw [in_t (by rw [jl0, jl2]; omega)]
  rfl
theorem ismach_f {a : Int32} (h : ¬ (0 ≤ a.toInt ∧ a.toInt < 3)) : f_X12_isMachine a = some 0 := by
  unfold f_X12_isMachine
  rw [in_f (by rw [jl0, jl2]; omega)]
  rfl
theorem sa_speed {s : SS} (G : GA s) (a0 : Int32) (a1 : Int32) : ∃ (rx : Int32) (s1 : SS) (rm : Int32) (s2 : SS), f_X11_speed s a0 a1 = some (rx, s1) ∧ f_X12_speed s1 a0 a1 = some (rm, s2) ∧ GA s2 ∧ FrB s s2 ∧ rx = rm := by
  by_cases c : 0 ≤ a0.toInt ∧ a0.toInt < 3
  · by_cases d : 10 ≤ a1.toInt ∧ a1.toInt ≤ 60
    · refine ⟨zS s (20 + a0.toInt.toNat) 0, pS s (20 + a0.toInt.toNat) 0 a1, zI s 78 a0.toInt.toNat, pI (pS s (20 + a0.toInt.toNat) 0 a1) 78 a0.toInt.toNat a1, ?_, ?_, ⟨?_, ?_⟩, (FrB.rf.pS (fSB_d (by omega))).pI (by decide), (G.2.2.2.1 _ (by omega)).1⟩
      · unfold f_X11_speed
        rw [mach_t G.1 c, b1_some, on_some, if_neg (by rw [jlt, jl10]; omega), if_neg (by rw [jlt, jl60]; omega)]
        rfl
      · unfold f_X12_speed
        rw [ismach_t c, b1_some, if_neg (by decide), in_t (by rw [jl10, jl60]; omega), b1_some, if_neg (by decide), gd_t ⟨c.1, c.2⟩]
        show gd _ _ = _
        rw [gd_t ⟨c.1, c.2⟩]
        rfl
      · exact (G.1.wM ⟨by omega, by omega⟩).wI (q := 78) (by decide) trivial
      · obtain ⟨R1, R2, R3, R4, R5⟩ := G.2
        have e : ∀ q k, ¬ (q = 20 + a0.toInt.toNat ∧ k = 0) → zS (pI (pS s (20 + a0.toInt.toNat) 0 a1) 78 a0.toInt.toNat a1) q k = zS s q k := fun q k h => by rw [zS_pI, zS_pS, if_neg h]
        have f : ∀ q j, q ≠ 78 → zI (pI (pS s (20 + a0.toInt.toNat) 0 a1) 78 a0.toInt.toNat a1) q j = zI s q j := fun q j h => by rw [zI_pI, if_neg (fun z => h z.1), zI_pS]
        refine ⟨R1.c (fun k => e _ _ (by omega)) (fun k => e _ _ (by omega)) (fun k => e _ _ (by omega)) (fun k => e _ _ (by omega)), R2.c (fun q i h => f q i (by omega)), fun i hi => ?_, R4.c (e _ _ (by omega)) (fun i => f _ _ (by decide)) (fun _ => rfl), R5.c (fun i k hi hk => e _ _ (by omega)) (fun q j h => f q j (by omega)) (fun _ _ => rfl) (by rw [e _ _ (by omega)]; exact Int.le_refl _)⟩
        rw [e _ 1 (by omega), f 79 _ (by decide)]
        refine ⟨?_, (R3 i hi).2⟩
        rw [zS_pI, zS_pS, zI_pI, zI_pS]
        by_cases h : i = a0.toInt.toNat
        · rw [if_pos ⟨by omega, rfl⟩, if_pos ⟨rfl, h⟩]
        · rw [if_neg (by omega), if_neg (by omega)]
          exact (R3 i hi).1
    · refine ⟨-1, s, -1, s, ?_, ?_, G, FrB.rf, rfl⟩
      · unfold f_X11_speed
        rw [mach_t G.1 c, b1_some, on_some]
        by_cases h : a1 < 10
        · rw [if_pos h]
        · rw [if_neg h, if_pos (by rw [jlt, jl60]; rw [jlt, jl10] at h; omega)]
      · unfold f_X12_speed
        rw [ismach_t c, b1_some, if_neg (by decide), in_f (by rw [jl10, jl60]; omega), b1_some, if_pos rfl]
  · refine ⟨-1, s, -1, s, ?_, ?_, G, FrB.rf, rfl⟩
    · unfold f_X11_speed
      rw [mach_f c, b1_some, on_none]
    · unfold f_X12_speed
      rw [ismach_f c, b1_some, if_pos rfl]
section RGw
variable {s : SS} {q k i : Nat} {v : Int32}
theorem RC.pI (R : RC s) : RC (pI s q i v) := R
theorem RC.pSo (h : fSA q k = false) (R : RC s) : RC (pS s q k v) := by
  have e : ∀ a b, fSA a b = true → zS (pS s q k v) a b = zS s a b := fun a b f => by rw [zS_pS, if_neg (fun z => by rw [z.1, z.2, h] at f; cases f)]
  unfold RC
  rw [e 0 15 rfl, e 0 5 rfl, e 15 3 rfl, e 15 5 rfl, e 34 3 rfl, e 34 9 rfl, e 59 29 rfl, e 59 30 rfl, e 59 4 rfl, e 59 21 rfl, e 59 67 rfl, e 59 76 rfl]
  exact R
theorem RA.pS (R : RA s) : RA (pS s q k v) := R
theorem RA.pI (h : q ≠ 42 ∧ q ≠ 113 ∧ q ≠ 16 ∧ q ≠ 62 ∧ q ≠ 9 ∧ q ≠ 76) (R : RA s) : RA (pI s q i v) := R.c (fun a b z => by rw [zI_pI, if_neg (by omega)])
theorem RM.pS (h : q < 20 ∨ 22 < q) (R : RM s) : RM (pS s q k v) := R.c (fun a b h1 h2 => by rw [zS_pS, if_neg (by omega)]) (fun _ => rfl) (fun _ => rfl)
theorem RM.pI (h : q ≠ 78 ∧ q ≠ 79) (R : RM s) : RM (pI s q i v) := R.c (fun _ _ _ _ => rfl) (fun a => by rw [zI_pI, if_neg (by omega)]) (fun a => by rw [zI_pI, if_neg (by omega)])
theorem RH.pS (h : ¬ (q = 15 ∧ k = 3)) (R : RH s) : RH (pS s q k v) := R.c (by rw [zS_pS, if_neg (by omega)]) (fun _ => rfl) (fun _ => rfl)
theorem RH.pI (h : q ≠ 16) (R : RH s) : RH (pI s q i v) := R.c rfl (fun a => by rw [zI_pI, if_neg (by omega)]) (fun _ => rfl)
theorem RV.pS (h : q < 47 ∨ 57 < q) (h3 : ¬ (q = 15 ∧ k = 3)) (R : RV s) : RV (pS s q k v) := R.c (fun a b h1 h2 => by rw [zS_pS, if_neg (by omega)]) (fun _ _ _ => rfl) (fun _ _ => rfl) (by rw [zS_pS, if_neg (by omega)]; exact Int.le_refl _)
theorem RV.pI (h : q ≠ 120 ∧ q ≠ 121 ∧ q ≠ 123) (R : RV s) : RV (pI s q i v) := R.c (fun _ _ _ _ => rfl) (fun a b z => by rw [zI_pI, if_neg (by omega)]) (fun _ _ => rfl) (Int.le_refl _)
end RGw
theorem sa_spread {s : SS} (G : GA s) (a0 : Int32) : ∃ (rx : Int32) (s1 : SS) (rm : Int32) (s2 : SS), f_X11_spread s a0 = some (rx, s1) ∧ f_X12_spread s1 a0 = some (rm, s2) ∧ GA s2 ∧ FrB s s2 ∧ rx = rm := by
  by_cases h1 : a0 < 0
  · refine ⟨-1, s, -1, s, ?_, ?_, G, FrB.rf, rfl⟩
    · unfold f_X11_spread
      rw [if_pos h1]
    · unfold f_X12_spread f_X12_in
      rw [if_pos h1]
      rfl
  by_cases h2 : 8 < a0
  · refine ⟨-1, s, -1, s, ?_, ?_, G, FrB.rf, rfl⟩
    · unfold f_X11_spread
      rw [if_neg h1, if_pos h2]
    · unfold f_X12_spread f_X12_in
      rw [if_neg h1, if_pos h2]
      rfl
  refine ⟨zS s 0 15, pS s 0 15 a0, zS s 59 29, pS (pS s 0 15 a0) 59 29 a0, ?_, ?_, ⟨?_, ?_⟩, (FrB.rf.pS (by decide)).pS (by decide), G.2.1.1⟩
  · unfold f_X11_spread
    rw [if_neg h1, if_neg h2]
    rfl
  · unfold f_X12_spread f_X12_in
    rw [if_neg h1, if_neg h2]
    rfl
  · exact Iv.wF (q := 59) (k := 29) (Iv.wF (q := 0) (k := 15) G.1 (by decide) (by decide) trivial) (by decide) (by decide) trivial
  · obtain ⟨R1, R2, R3, R4, R5⟩ := G.2
    exact ⟨⟨rfl, R1.2⟩, R2, (R3.pS (by decide)).pS (by decide), (R4.pS (by decide)).pS (by decide), (R5.pS (by decide) (by decide)).pS (by decide) (by decide)⟩
theorem ix6 {a b : Int32} (ha : 0 ≤ a.toInt ∧ a.toInt ≤ 3) (hb : 0 ≤ b.toInt ∧ b.toInt ≤ 5) : (6 * a + b).toInt = 6 * a.toInt + b.toInt := by
  have j6 : (6 : Int32).toInt = 6 := rfl
  have m1 : ((6 : Int32) * a).toInt = 6 * a.toInt := by rw [i32_mul (by rw [j6]; omega) (by rw [j6]; omega), j6]
  rw [i32_add (by rw [m1]; omega) (by rw [m1]; omega), m1]
theorem sa_rock {s : SS} (G : GA s) (a0 : Int32) (a1 : Int32) (a2 : Int32) : ∃ (rx : Int32) (s1 : SS) (rm : Int32) (s2 : SS), f_X11_rock s a0 a1 a2 = some (rx, s1) ∧ f_X12_rock s1 a0 a1 a2 = some (rm, s2) ∧ GA s2 ∧ FrB s s2 ∧ rx = rm := by
  by_cases c : 0 ≤ a0.toInt ∧ a0.toInt ≤ 3
  · by_cases d : 0 ≤ a1.toInt ∧ a1.toInt ≤ 5
    · by_cases e : 1 ≤ a2.toInt ∧ a2.toInt ≤ 9
      · have hx := ix6 c d
        have gx : inB (6 * a0 + a1) 24 := ⟨by omega, by omega⟩
        refine ⟨zI s 42 (6 * a0 + a1).toInt.toNat, pI s 42 (6 * a0 + a1).toInt.toNat a2, zI s 113 (6 * a0 + a1).toInt.toNat, pI (pI s 42 (6 * a0 + a1).toInt.toNat a2) 113 (6 * a0 + a1).toInt.toNat a2, ?_, ?_, ⟨?_, ?_⟩, (FrB.rf.pI (by decide)).pI (by decide), G.2.2.1.1 _⟩
        · unfold f_X11_rock
          rw [if_neg (by rw [jlt, jl0]; omega), if_pos (by rw [jlt, jl4]; omega), if_neg (by rw [jlt, jl0]; omega), if_pos (by rw [jlt, jl6]; omega), if_neg (by rw [jlt, jl1]; omega), if_neg (by rw [jlt, jl9]; omega), Int32.mul_comm a0 6]
          show gd _ _ = _
          rw [gd_t gx]
          show gd _ _ = _
          rw [gd_t gx]
          rfl
        · unfold f_X12_rock
          rw [in_t (by rw [jl0, jl3]; omega), b1_some, if_neg (by decide), in_t (by rw [jl0, jl5]; omega), b1_some, if_neg (by decide), in_t (by rw [jl1, jl9]; omega), b1_some, if_neg (by decide)]
          show gd _ _ = _
          rw [gd_t gx]
          show gd _ _ = _
          rw [gd_t gx]
          rfl
        · exact (G.1.wI (q := 42) (by decide) trivial).wI (q := 113) (by decide) trivial
        · obtain ⟨R1, R2, R3, R4, R5⟩ := G.2
          refine ⟨R1, ⟨fun i => ?_, R2.2.1, R2.2.2⟩, (R3.pI (by decide)).pI (by decide), (R4.pI (by decide)).pI (by decide), (R5.pI (by decide)).pI (by decide)⟩
          rw [zI_pI, if_neg (by omega), zI_pI, zI_pI]
          by_cases h : i = (6 * a0 + a1).toInt.toNat
          · rw [if_pos ⟨rfl, h⟩, if_pos ⟨rfl, h⟩]
          · rw [if_neg (by omega), if_neg (by omega), zI_pI, if_neg (by omega)]
            exact R2.1 i
      · refine ⟨-1, s, -1, s, ?_, ?_, G, FrB.rf, rfl⟩
        · unfold f_X11_rock
          rw [if_neg (by rw [jlt, jl0]; omega), if_pos (by rw [jlt, jl4]; omega), if_neg (by rw [jlt, jl0]; omega), if_pos (by rw [jlt, jl6]; omega)]
          by_cases h : a2 < 1
          · rw [if_pos h]
          · rw [if_neg h, if_pos (by rw [jlt, jl9]; rw [jlt, jl1] at h; omega)]
        · unfold f_X12_rock
          rw [in_t (by rw [jl0, jl3]; omega), b1_some, if_neg (by decide), in_t (by rw [jl0, jl5]; omega), b1_some, if_neg (by decide), in_f (by rw [jl1, jl9]; omega), b1_some, if_pos rfl]
    · refine ⟨-1, s, -1, s, ?_, ?_, G, FrB.rf, rfl⟩
      · unfold f_X11_rock
        rw [if_neg (by rw [jlt, jl0]; omega), if_pos (by rw [jlt, jl4]; omega)]
        by_cases h : a1 < 0
        · rw [if_pos h]
        · rw [if_neg h, if_neg (by rw [jlt, jl6]; rw [jlt, jl0] at h; omega)]
      · unfold f_X12_rock
        rw [in_t (by rw [jl0, jl3]; omega), b1_some, if_neg (by decide), in_f (by rw [jl0, jl5]; omega), b1_some, if_pos rfl]
  · refine ⟨-1, s, -1, s, ?_, ?_, G, FrB.rf, rfl⟩
    · unfold f_X11_rock
      by_cases h : a0 < 0
      · rw [if_pos h]
      · rw [if_neg h, if_neg (by rw [jlt, jl4]; rw [jlt, jl0] at h; omega)]
    · unfold f_X12_rock
      rw [in_f (by rw [jl0, jl3]; omega), b1_some, if_pos rfl]
/-! MACHINES ON HOLES -/
theorem body_t {s : SS} {a : Int32} (I : Iv s) (h : 0 ≤ a.toInt ∧ a.toInt < (zS s 59 4).toInt) : f_X12_isBody s a = some 1 := by
  have hf : 0 ≤ (zS s 59 4).toInt ∧ (zS s 59 4).toInt ≤ 120 := I.f (q := 59) (k := 4) rfl
  unfold f_X12_isBody
  rw [in_t (by rw [jl0, i32_sub (by rw [jl1]; omega) (by rw [jl1]; omega), jl1]; omega)]
  rfl
theorem body_f {s : SS} {a : Int32} (I : Iv s) (h : ¬ (0 ≤ a.toInt ∧ a.toInt < (zS s 59 4).toInt)) : f_X12_isBody s a = some 0 := by
  have hf : 0 ≤ (zS s 59 4).toInt ∧ (zS s 59 4).toInt ≤ 120 := I.f (q := 59) (k := 4) rfl
  unfold f_X12_isBody
  rw [in_f (by rw [jl0, i32_sub (by rw [jl1]; omega) (by rw [jl1]; omega), jl1]; omega)]
  rfl
theorem kind_t {s : SS} {a : Int32} (I : Iv s) (h : 0 ≤ a.toInt ∧ a.toInt < (zS s 15 3).toInt) : f_X0_kindOf s a = some (zI s 16 a.toInt.toNat) := by
  have hf : 0 ≤ (zS s 15 3).toInt ∧ (zS s 15 3).toInt ≤ 120 := I.f (q := 15) (k := 3) rfl
  unfold f_X0_kindOf
  rw [if_neg (by rw [jlt, jl0]; omega), if_pos (by rw [jlt]; omega), gd_t ⟨by omega, by omega⟩]
theorem kind_f {s : SS} {a : Int32} (h : ¬ (0 ≤ a.toInt ∧ a.toInt < (zS s 15 3).toInt)) : f_X0_kindOf s a = some (-1) := by
  unfold f_X0_kindOf
  by_cases c : a < 0
  · rw [if_pos c]
  · rw [if_neg c, if_neg (by rw [jlt]; rw [jlt, jl0] at c; omega)]
def HB (s : SS) (a : Int32) : Prop := (0 ≤ a.toInt ∧ a.toInt < (zS s 15 3).toInt) ∧ isH (zI s 16 a.toInt.toNat)
theorem under2_t {v : Int32} (h : isH v) : f_X12_isUnder v 2 = some 1 := by
  rcases h with rfl | rfl | rfl | rfl <;> decide
theorem under2_f {v : Int32} (h : ¬ isH v) : f_X12_isUnder v 2 = some 0 := by
  unfold f_X12_isUnder
  have h2 : ¬ v = 2 := fun z => h (Or.inl z)
  have h3 : ¬ v = 3 := fun z => h (Or.inr (Or.inl z))
  have h4 : ¬ v = 4 := fun z => h (Or.inr (Or.inr (Or.inl z)))
  have h5 : ¬ v = 5 := fun z => h (Or.inr (Or.inr (Or.inr z)))
  rw [if_neg (by decide), if_neg h2, if_neg (by decide), if_pos rfl, if_neg h3, if_neg h4, if_neg h5]
theorem hole_t {s : SS} {a : Int32} (G : GA s) (h : HB s a) : (∃ p, f_X0_holeOf s a = some (some p)) ∧ f_X12_isHole s a = some 1 := by
  have hf : 0 ≤ (zS s 15 3).toInt ∧ (zS s 15 3).toInt ≤ 120 := G.1.f (q := 15) (k := 3) rfl
  obtain ⟨h1, h2⟩ := h
  have e := G.2.1.2.2.1
  refine ⟨?_, ?_⟩
  · unfold f_X0_holeOf
    rw [if_neg (by rw [jlt, jl0]; omega), if_pos (by rw [jlt]; omega), gd_t ⟨by omega, by omega⟩]
    cases hz : zR s 17 a.toInt.toNat with
    | none => exact absurd ⟨by omega, h2⟩ ((G.2.2.2.2.1 _ (by omega)).1 hz)
    | some p => exact ⟨p, rfl⟩
  · unfold f_X12_isHole
    rw [body_t G.1 (by rw [← e]; exact h1), b1_some, if_neg (by decide), gd_t ⟨by omega, by omega⟩, under2_t (by rw [← G.2.2.1.2.1]; exact h2), b1_some, if_neg (by decide)]
theorem hole_f {s : SS} {a : Int32} (G : GA s) (h : ¬ HB s a) : f_X0_holeOf s a = some none ∧ f_X12_isHole s a = some 0 := by
  have hf : 0 ≤ (zS s 15 3).toInt ∧ (zS s 15 3).toInt ≤ 120 := G.1.f (q := 15) (k := 3) rfl
  have e := G.2.1.2.2.1
  by_cases c : 0 ≤ a.toInt ∧ a.toInt < (zS s 15 3).toInt
  · have h2 : ¬ isH (zI s 16 a.toInt.toNat) := fun z => h ⟨c, z⟩
    refine ⟨?_, ?_⟩
    · unfold f_X0_holeOf
      rw [if_neg (by rw [jlt, jl0]; omega), if_pos (by rw [jlt]; omega), gd_t ⟨by omega, by omega⟩, (G.2.2.2.2.1 _ (by omega)).2 (fun z => h2 z.2)]
      rfl
    · unfold f_X12_isHole
      rw [body_t G.1 (by rw [← e]; exact c), b1_some, if_neg (by decide), gd_t ⟨by omega, by omega⟩, under2_f (by rw [← G.2.2.1.2.1]; exact h2), b1_some, if_pos rfl]
  · refine ⟨?_, ?_⟩
    · unfold f_X0_holeOf
      by_cases d : a < 0
      · rw [if_pos d]
      · rw [if_neg d, if_neg (by rw [jlt]; rw [jlt, jl0] at d; omega)]
    · unfold f_X12_isHole
      rw [body_f G.1 (by rw [← e]; exact c), b1_some, if_pos rfl]
/-- another machine stands there -/
def Bz (s : SS) (a0 a1 : Int32) (j : Nat) : Prop := ∃ x, j ≤ x ∧ x < 3 ∧ nI x ≠ a0 ∧ a1 ≠ -1 ∧ zS s (20 + x) 1 = a1
theorem Bz.step {s : SS} {a0 a1 : Int32} {j : Nat} (h : ¬ (nI j ≠ a0 ∧ a1 ≠ -1 ∧ zS s (20 + j) 1 = a1)) : Bz s a0 a1 j ↔ Bz s a0 a1 (j + 1) := by
  constructor
  · rintro ⟨x, h1, h2, h3⟩
    by_cases c : x = j
    · rw [c] at h3; exact absurd h3 h
    · exact ⟨x, by omega, h2, h3⟩
  · rintro ⟨x, h1, h2, h3⟩
    exact ⟨x, by omega, h2, h3⟩
theorem setx {s : SS} (I : Iv s) {q0 : Option (Int32 × SS)} {a0 a1 : Int32} {p : Nat} : ∀ (n j : Nat), j ≤ 3 → 3 - j < n → (Bz s a0 a1 j → f_X11_set_L32 q0 s a0 a1 p n (nI j) = some (-2000000000, s)) ∧ (¬ Bz s a0 a1 j → f_X11_set_L32 q0 s a0 a1 p n (nI j) = q0) := by
  intro n
  induction n with
  | zero => intro j h1 h2; omega
  | succ n ih =>
    intro j h1 h2
    have tj : (nI j).toInt = (j : Int) := nI_t (by omega)
    have un : f_X11_set_L32 q0 s a0 a1 p (n + 1) (nI j) = f_X11_set_L32_b q0 s a0 a1 p (f_X11_set_L32 q0 s a0 a1 p n) (nI j) := rfl
    rw [un]
    unfold f_X11_set_L32_b
    by_cases c : j = 3
    · rw [if_neg (by rw [jlt, jl3]; omega)]
      exact ⟨fun ⟨x, h3, h4, _⟩ => by omega, fun _ => rfl⟩
    · rw [if_pos (by rw [jlt, jl3]; omega)]
      have k1 : nI j + 1 = nI (j + 1) := by
        apply Int32.toInt_inj.1
        rw [i32_add (by rw [tj, jl1]; omega) (by rw [tj, jl1]; omega), tj, jl1, nI_t (by omega)]
        omega
      have ihj := ih (j + 1) (by omega) (by omega)
      have sk : ¬ (nI j ≠ a0 ∧ a1 ≠ -1 ∧ zS s (20 + j) 1 = a1) → (Bz s a0 a1 j → f_X11_set_L32 q0 s a0 a1 p n (nI j + 1) = some (-2000000000, s)) ∧ (¬ Bz s a0 a1 j → f_X11_set_L32 q0 s a0 a1 p n (nI j + 1) = q0) := fun h => by
        rw [k1, Bz.step h]
        exact ihj
      dsimp only [jn, vl]
      by_cases d : nI j = a0
      · rw [if_pos d]
        exact sk (fun z => z.1 d)
      rw [if_neg d]
      by_cases e : a1 = -1
      · rw [if_pos e]
        exact sk (fun z => z.2.1 e)
      rw [if_neg e, gd_t ⟨by omega, by omega⟩, show (nI j).toInt.toNat = j by omega, I.1.1.2.2.2.1 j (by omega), on_some]
      by_cases f : zS s (20 + j) 1 = a1
      · rw [if_pos f]
        exact ⟨fun _ => rfl, fun z => absurd ⟨j, Nat.le_refl _, by omega, d, e, f⟩ z⟩
      · rw [if_neg f]
        exact sk (fun z => f z.2.2)
theorem setm {s t : SS} (R : ∀ j, j < 3 → zI t 79 j = zS s (20 + j) 1) {q0 : Option (Int32 × SS)} {a0 a1 : Int32} (ha : a1 = -1 ∨ 0 ≤ a1.toInt) : ∀ (n j : Nat), j ≤ 3 → 3 - j < n → (Bz s a0 a1 j → f_X12_set_L26 q0 t a0 a1 n (nI j) = some (-2000000000, t)) ∧ (¬ Bz s a0 a1 j → f_X12_set_L26 q0 t a0 a1 n (nI j) = q0) := by
  intro n
  induction n with
  | zero => intro j h1 h2; omega
  | succ n ih =>
    intro j h1 h2
    have tj : (nI j).toInt = (j : Int) := nI_t (by omega)
    have un : f_X12_set_L26 q0 t a0 a1 (n + 1) (nI j) = f_X12_set_L26_b q0 t a0 a1 (f_X12_set_L26 q0 t a0 a1 n) (nI j) := rfl
    rw [un]
    unfold f_X12_set_L26_b
    by_cases c : j = 3
    · rw [if_neg (by rw [jlt, jl3]; omega)]
      exact ⟨fun ⟨x, h3, h4, _⟩ => by omega, fun _ => rfl⟩
    · rw [if_pos (by rw [jlt, jl3]; omega)]
      have k1 : nI j + 1 = nI (j + 1) := by
        apply Int32.toInt_inj.1
        rw [i32_add (by rw [tj, jl1]; omega) (by rw [tj, jl1]; omega), tj, jl1, nI_t (by omega)]
        omega
      have ihj := ih (j + 1) (by omega) (by omega)
      have sk : ¬ (nI j ≠ a0 ∧ a1 ≠ -1 ∧ zS s (20 + j) 1 = a1) → (Bz s a0 a1 j → f_X12_set_L26 q0 t a0 a1 n (nI j + 1) = some (-2000000000, t)) ∧ (¬ Bz s a0 a1 j → f_X12_set_L26 q0 t a0 a1 n (nI j + 1) = q0) := fun h => by
        rw [k1, Bz.step h]
        exact ihj
      dsimp only [jn, vl]
      by_cases d : nI j = a0
      · rw [if_pos d]
        exact sk (fun z => z.1 d)
      rw [if_neg d]
      by_cases e : a1 < 0
      · rw [if_pos e]
        refine sk (fun z => z.2.1 ?_)
        rw [jlt, jl0] at e
        exact ha.resolve_right (by omega)
      have e' : a1 ≠ -1 := fun z => e (by rw [z]; decide)
      rw [if_neg e, gd_t ⟨by omega, by omega⟩, show (nI j).toInt.toNat = j by omega, R j (by omega)]
      by_cases f : zS s (20 + j) 1 = a1
      · rw [if_pos f]
        exact ⟨fun _ => rfl, fun z => absurd ⟨j, Nat.le_refl _, by omega, d, e', f⟩ z⟩
      · rw [if_neg f]
        exact sk (fun z => f z.2.2)
theorem sa_set {s : SS} (G : GA s) (a0 : Int32) (a1 : Int32) : ∃ (rx : Int32) (s1 : SS) (rm : Int32) (s2 : SS), f_X11_set s a0 a1 = some (rx, s1) ∧ f_X12_set s1 a0 a1 = some (rm, s2) ∧ GA s2 ∧ FrB s s2 ∧ rx = rm := by
  by_cases c : 0 ≤ a0.toInt ∧ a0.toInt < 3
  · by_cases d : a1 = -1 ∨ HB s a1
    · have hf : 0 ≤ (zS s 15 3).toInt ∧ (zS s 15 3).toInt ≤ 120 := G.1.f (q := 15) (k := 3) rfl
      have hr : -1 ≤ a1.toInt ∧ a1.toInt ≤ 119 := by
        rcases d with d | d
        · rw [d]; decide
        · have := d.1; omega
      have ha : a1 = -1 ∨ 0 ≤ a1.toInt := d.imp id (fun z => z.1.1)
      have ex : f_X11_set s a0 a1 = f_X11_set_L32 (some (zS s (20 + a0.toInt.toNat) 1, pS s (20 + a0.toInt.toNat) 1 a1)) s a0 a1 (20 + a0.toInt.toNat) 4000 (nI 0) := by
        unfold f_X11_set
        rw [mach_t G.1 c, b1_some, on_some]
        dsimp only [jn]
        rcases d with d | d
        · rw [if_pos d]; rfl
        · obtain ⟨p, hp⟩ := (hole_t G d).1
          by_cases e : a1 = -1
          · rw [if_pos e]; rfl
          · rw [if_neg e, hp, b1_some, on_some]; rfl
      have em : ∀ s1, Iv s1 → f_X12_isHole s1 a1 = f_X12_isHole s a1 → f_X12_set s1 a0 a1 = f_X12_set_L26 (some (zI s1 79 a0.toInt.toNat, pI s1 79 a0.toInt.toNat a1)) s1 a0 a1 4000 (nI 0) := by
        intro s1 I1 e1
        unfold f_X12_set
        rw [ismach_t c, b1_some, if_neg (by decide)]
        dsimp only [jn]
        have g : (gd (inB a0 3) (vl (zI s1 79 a0.toInt.toNat) fun v14 => gd (inB a0 3) (st (pI s1 79 a0.toInt.toNat a1) fun s16 => some (v14, s16)))) = some (zI s1 79 a0.toInt.toNat, pI s1 79 a0.toInt.toNat a1) := by
          rw [gd_t ⟨c.1, c.2⟩]
          dsimp only [vl]
          rw [gd_t ⟨c.1, c.2⟩]
          rfl
        rw [g]
        rcases d with d | d
        · rw [if_pos d]; rfl
        · by_cases e : a1 = -1
          · rw [if_pos e]; rfl
          · rw [if_neg e, e1, (hole_t G d).2, b1_some, if_neg (by decide)]; rfl
      by_cases b : Bz s a0 a1 0
      · refine ⟨-2000000000, s, -2000000000, s, ?_, ?_, G, FrB.rf, rfl⟩
        · rw [ex]; exact (setx G.1 4000 0 (by decide) (by decide)).1 b
        · rw [em s G.1 rfl]; exact (setm (s := s) (fun j hj => (G.2.2.2.1 j hj).2.symm) ha 4000 0 (by decide) (by decide)).1 b
      · have I1 : Iv (pS s (20 + a0.toInt.toNat) 1 a1) := G.1.wM ⟨by omega, by omega⟩
        have R3 := G.2.2.2.1
        have e : ∀ q k, ¬ (q = 20 + a0.toInt.toNat ∧ k = 1) → zS (pS s (20 + a0.toInt.toNat) 1 a1) q k = zS s q k := fun q k h => by rw [zS_pS, if_neg h]
        have e1 : f_X12_isHole (pS s (20 + a0.toInt.toNat) 1 a1) a1 = f_X12_isHole s a1 := by
          unfold f_X12_isHole f_X12_isBody
          rw [e 59 4 (by omega)]
          rfl
        refine ⟨zS s (20 + a0.toInt.toNat) 1, pS s (20 + a0.toInt.toNat) 1 a1, zI s 79 a0.toInt.toNat, pI (pS s (20 + a0.toInt.toNat) 1 a1) 79 a0.toInt.toNat a1, ?_, ?_, ⟨?_, ?_⟩, (FrB.rf.pS (fSB_d (by omega))).pI (by decide), (R3 _ (by omega)).2⟩
        · rw [ex]; exact (setx G.1 4000 0 (by decide) (by decide)).2 b
        · rw [em _ I1 e1]
          have hk := (setm (s := s) (t := pS s (20 + a0.toInt.toNat) 1 a1) (q0 := some (zI (pS s (20 + a0.toInt.toNat) 1 a1) 79 a0.toInt.toNat, pI (pS s (20 + a0.toInt.toNat) 1 a1) 79 a0.toInt.toNat a1)) (a0 := a0) (a1 := a1) (fun j hj => (R3 j hj).2.symm) ha 4000 0 (by decide) (by decide)).2 b
          rw [hk]
          rfl
        · exact I1.wI (q := 79) (by decide) ⟨hr.1, hr.2⟩
        · obtain ⟨R1, R2, _, R4, R5⟩ := G.2
          have e' : ∀ q k, ¬ (q = 20 + a0.toInt.toNat ∧ k = 1) → zS (pI (pS s (20 + a0.toInt.toNat) 1 a1) 79 a0.toInt.toNat a1) q k = zS s q k := fun q k h => by rw [zS_pI, zS_pS, if_neg h]
          have f : ∀ q j, q ≠ 79 → zI (pI (pS s (20 + a0.toInt.toNat) 1 a1) 79 a0.toInt.toNat a1) q j = zI s q j := fun q j h => by rw [zI_pI, if_neg (fun z => h z.1), zI_pS]
          refine ⟨R1.c (fun k => e' _ _ (by omega)) (fun k => e' _ _ (by omega)) (fun k => e' _ _ (by omega)) (fun k => e' _ _ (by omega)), R2.c (fun q i h => f q i (by omega)), fun i hi => ?_, R4.c (e' _ _ (by omega)) (fun i => f _ _ (by decide)) (fun _ => rfl), R5.c (fun i k hi hk => e' _ _ (by omega)) (fun q j h => f q j (by omega)) (fun _ _ => rfl) (by rw [e' _ _ (by omega)]; exact Int.le_refl _)⟩
          rw [e' _ 0 (by omega), f 78 _ (by decide)]
          refine ⟨(R3 i hi).1, ?_⟩
          rw [zS_pI, zS_pS, zI_pI, zI_pS]
          by_cases h : i = a0.toInt.toNat
          · rw [if_pos ⟨by omega, rfl⟩, if_pos ⟨rfl, h⟩]
          · rw [if_neg (by omega), if_neg (by omega)]
            exact (R3 i hi).2
    · have d1 : ¬ a1 = -1 := fun z => d (Or.inl z)
      have d2 := hole_f G (fun z => d (Or.inr z))
      refine ⟨-2000000000, s, -2000000000, s, ?_, ?_, G, FrB.rf, rfl⟩
      · unfold f_X11_set
        rw [mach_t G.1 c, b1_some, on_some]
        dsimp only [jn]
        rw [if_neg d1, d2.1, b1_some, on_none]
      · unfold f_X12_set
        rw [ismach_t c, b1_some, if_neg (by decide)]
        dsimp only [jn]
        rw [if_neg d1, d2.2, b1_some, if_pos rfl]
  · refine ⟨-2000000000, s, -2000000000, s, ?_, ?_, G, FrB.rf, rfl⟩
    · unfold f_X11_set
      rw [mach_f c, b1_some, on_none]
    · unfold f_X12_set
      rw [ismach_f c, b1_some, if_pos rfl]
/-! BODIES -/
theorem RG.add {s r : SS} {v : Int32} (G : GA s) (hn : (zS s 15 3).toInt < 120)
    (hS : ∀ q k, fSA q k = true → ¬ (q = 15 ∧ k = 3) → ¬ (q = 59 ∧ k = 4) → ¬ (q = 15 ∧ k = 5) → ¬ (q = 59 ∧ k = 21) → zS r q k = zS s q k)
    (h3 : zS r 15 3 = zS s 15 3 + 1) (h4 : zS r 59 4 = zS s 59 4 + 1) (h5 : zS r 15 5 = zS r 59 21)
    (hI : ∀ q j, fIA q = true → q ≠ 16 → q ≠ 62 → q ≠ 9 → q ≠ 76 → zI r q j = zI s q j)
    (h16 : ∀ j, zI r 16 j = if j = (zS s 15 3).toInt.toNat then v else zI s 16 j) (h62 : ∀ j, zI r 62 j = if j = (zS s 15 3).toInt.toNat then v else zI s 62 j) (h9 : ∀ j, zI r 9 j = zI r 76 j)
    (hJ : ∀ q j, fJ q = true → zJ r q j = zJ s q j) (hR : ∀ j, j ≠ (zS s 15 3).toInt.toNat → zR r 17 j = zR s 17 j) (hc : zR r 17 (zS s 15 3).toInt.toNat = none ↔ ¬ isH v) : RG r := by
  have hf : 0 ≤ (zS s 15 3).toInt ∧ (zS s 15 3).toInt ≤ 120 := G.1.f (q := 15) (k := 3) rfl
  have n1 : (zS s 15 3 + 1).toInt = (zS s 15 3).toInt + 1 := by rw [i32_add (by rw [jl1]; omega) (by rw [jl1]; omega), jl1]
  obtain ⟨_, R1, R2, R3, R4, R5⟩ := G
  refine ⟨?_, ⟨fun i => ?_, fun i => ?_, h9⟩, ?_, fun i hi => ?_, fun i hi => ?_⟩
  · unfold RC
    rw [hS 0 15 rfl (by decide) (by decide) (by decide) (by decide), hS 0 5 rfl (by decide) (by decide) (by decide) (by decide), h3, h4, hS 34 3 rfl (by decide) (by decide) (by decide) (by decide), hS 34 9 rfl (by decide) (by decide) (by decide) (by decide), hS 59 29 rfl (by decide) (by decide) (by decide) (by decide), hS 59 30 rfl (by decide) (by decide) (by decide) (by decide), hS 59 67 rfl (by decide) (by decide) (by decide) (by decide), hS 59 76 rfl (by decide) (by decide) (by decide) (by decide)]
    exact ⟨R1.1, R1.2.1, by rw [R1.2.2.1], h5, R1.2.2.2.2⟩
  · rw [hI 42 i rfl (by decide) (by decide) (by decide) (by decide), hI 113 i rfl (by decide) (by decide) (by decide) (by decide)]
    exact R2.1 i
  · rw [h16, h62]
    by_cases c : i = (zS s 15 3).toInt.toNat
    · rw [if_pos c, if_pos c]
    · rw [if_neg c, if_neg c]; exact R2.2.1 i
  · refine R3.c (fun i k hi hk => hS _ _ ?_ (by omega) (by omega) (by omega) (by omega)) (fun i => hI 78 i rfl (by decide) (by decide) (by decide) (by decide)) (fun i => hI 79 i rfl (by decide) (by decide) (by decide) (by decide))
    have h : i = 0 ∨ i = 1 ∨ i = 2 := by omega
    have h' : k = 0 ∨ k = 1 := by omega
    rcases h with rfl | rfl | rfl <;> rcases h' with rfl | rfl <;> rfl
  · rw [h3, n1, h16]
    by_cases c : i = (zS s 15 3).toInt.toNat
    · rw [if_pos c, c, hc]
      constructor
      · intro h z; exact h z.2
      · intro h z; exact h ⟨by omega, z⟩
    · rw [if_neg c, hR i c, R4 i hi]
      constructor
      · intro h z; exact h ⟨by omega, z.2⟩
      · intro h z; exact h ⟨by omega, z.2⟩
  · have h : i = 0 ∨ i = 1 ∨ i = 2 ∨ i = 3 ∨ i = 4 ∨ i = 5 := by omega
    refine (R5 i hi).c (fun k hk => hS _ _ ?_ (by omega) (by omega) (by omega) (by omega)) (hI 120 i rfl (by decide) (by decide) (by decide) (by decide)) (hI 121 i rfl (by decide) (by decide) (by decide) (by decide)) (fun j _ => hI 123 _ rfl (by decide) (by decide) (by decide) (by decide)) (fun j _ => hJ _ _ ?_) (fun j _ => hJ 122 _ rfl) (by rw [h3, n1]; omega)
    · have h' : k = 0 ∨ k = 1 ∨ k = 2 ∨ k = 3 := by omega
      rcases h with rfl | rfl | rfl | rfl | rfl | rfl <;> rcases h' with rfl | rfl | rfl | rfl <;> rfl
    · rcases h with rfl | rfl | rfl | rfl | rfl | rfl <;> rfl
def adX (s : SS) (v : Int32) : SS := pS (pI s 16 (zS s 15 3).toInt.toNat v) 15 3 (zS s 15 3 + 1)
def adM (s : SS) (v : Int32) : SS := pS (pI s 62 (zS s 59 4).toInt.toNat v) 59 4 (zS s 59 4 + 1)
theorem s11 (x : Int32) : x + 1 - 1 = x := Int32.add_sub_cancel x 1
theorem added_t {s : SS} {v : Int32} (I : Iv s) (h : (zS s 15 3).toInt < 120) : f_X0_added s v = some (zS s 15 3, adX s v) := by
  have hf : 0 ≤ (zS s 15 3).toInt ∧ (zS s 15 3).toInt ≤ 120 := I.f (q := 15) (k := 3) rfl
  unfold f_X0_added
  rw [if_pos (by rw [jlt, jl120]; omega)]
  dsimp only [vl, st]
  rw [gd_t ⟨by omega, by omega⟩]
  show some (zS s 15 3 + 1 - 1, adX s v) = _
  rw [s11]
theorem added_f {s : SS} {v : Int32} (h : ¬ (zS s 15 3).toInt < 120) : f_X0_added s v = some (-3, s) := by
  unfold f_X0_added
  rw [if_neg (by rw [jlt, jl120]; exact h)]
theorem add_t {s : SS} {v : Int32} (h : 0 ≤ (zS s 59 4).toInt ∧ (zS s 59 4).toInt < 120) : f_X12_add s v = some (zS s 59 4, adM s v) := by
  unfold f_X12_add
  dsimp only [vl, st]
  rw [gd_t ⟨by omega, by omega⟩]
  show some (zS s 59 4 + 1 - 1, adM s v) = _
  rw [s11]
theorem Iv.adX {s : SS} {v : Int32} (I : Iv s) (h : (zS s 15 3).toInt < 120) (hv : 0 ≤ v.toInt ∧ v.toInt ≤ 7) : Iv (adX s v) := by
  have hf : 0 ≤ (zS s 15 3).toInt ∧ (zS s 15 3).toInt ≤ 120 := I.f (q := 15) (k := 3) rfl
  have n1 : (zS s 15 3 + 1).toInt = (zS s 15 3).toInt + 1 := by rw [i32_add (by rw [jl1]; omega) (by rw [jl1]; omega), jl1]
  exact (I.wI (q := 16) (by decide) hv).wF (q := 15) (k := 3) (by decide) (by decide) ⟨by omega, by omega⟩
theorem Iv.adM {s : SS} {v : Int32} (I : Iv s) (h : (zS s 59 4).toInt < 120) : Iv (adM s v) := by
  have hf : 0 ≤ (zS s 59 4).toInt ∧ (zS s 59 4).toInt ≤ 120 := I.f (q := 59) (k := 4) rfl
  have n1 : (zS s 59 4 + 1).toInt = (zS s 59 4).toInt + 1 := by rw [i32_add (by rw [jl1]; omega) (by rw [jl1]; omega), jl1]
  exact (I.wI (q := 62) (by decide) trivial).wF (q := 59) (k := 4) (by decide) (by decide) ⟨by omega, by omega⟩
theorem ne120 {s : SS} (G : GA s) (h : (zS s 15 3).toInt < 120) : ¬ zS s 59 4 = 120 := fun z => by
  rw [G.2.1.2.2.1, z, jl120] at h
  omega
theorem eq120 {s : SS} (G : GA s) (h : ¬ (zS s 15 3).toInt < 120) : zS s 59 4 = 120 := by
  have hf : 0 ≤ (zS s 15 3).toInt ∧ (zS s 15 3).toInt ≤ 120 := G.1.f (q := 15) (k := 3) rfl
  apply Int32.toInt_inj.1
  rw [← G.2.1.2.2.1, jl120]
  omega
theorem FrB.adX {b s : SS} {v : Int32} (F : FrB b s) : FrB b (adX s v) := (F.pI (by decide)).pS (by decide)
theorem FrB.adM {b s : SS} {v : Int32} (F : FrB b s) : FrB b (adM s v) := (F.pI (by decide)).pS (by decide)
section BD
variable {s : SS} {v : Int32}
theorem adX_S (q k : Nat) (h : ¬ (q = 15 ∧ k = 3)) : zS (adX s v) q k = zS s q k := by
  unfold adX
  rw [zS_pS, if_neg h, zS_pI]
theorem adM_S (q k : Nat) (h : ¬ (q = 59 ∧ k = 4)) : zS (adM s v) q k = zS s q k := by
  unfold adM
  rw [zS_pS, if_neg h, zS_pI]
theorem adX_3 : zS (adX s v) 15 3 = zS s 15 3 + 1 := rfl
theorem adM_4 : zS (adM s v) 59 4 = zS s 59 4 + 1 := rfl
theorem adX_I (q j : Nat) : zI (adX s v) q j = if q = 16 ∧ j = (zS s 15 3).toInt.toNat then v else zI s q j := rfl
theorem adM_I (q j : Nat) : zI (adM s v) q j = if q = 62 ∧ j = (zS s 59 4).toInt.toNat then v else zI s q j := rfl
end BD
theorem sa_body {s : SS} (G : GA s) (a0 : Int32) : ∃ (rx : Int32) (s1 : SS) (rm : Int32) (s2 : SS), f_X11_body s a0 = some (rx, s1) ∧ f_X12_body s1 a0 = some (rm, s2) ∧ GA s2 ∧ FrB s s2 ∧ rx = rm := by
  by_cases c : 0 ≤ a0.toInt ∧ a0.toInt ≤ 1
  · have hx : f_X11_body s a0 = bd (f_X0_added s a0) fun r2 s2 => some (r2, s2) := by
      unfold f_X11_body
      dsimp only [jn]
      by_cases h : a0 = 0
      · rw [if_pos h]
      · rw [if_neg h, if_pos (Int32.toInt_inj.1 (by rw [jl1]; rw [jeq, jl0] at h; omega))]
    by_cases d : (zS s 15 3).toInt < 120
    · have e4 : zS (adX s a0) 59 4 = zS s 15 3 := by rw [adX_S _ _ (by decide)]; exact G.2.1.2.2.1.symm
      have hf : 0 ≤ (zS s 15 3).toInt ∧ (zS s 15 3).toInt ≤ 120 := G.1.f (q := 15) (k := 3) rfl
      refine ⟨zS s 15 3, adX s a0, zS (adX s a0) 59 4, adM (adX s a0) a0, ?_, ?_, ⟨?_, ?_⟩, FrB.rf.adX.adM, e4.symm⟩
      · rw [hx, added_t G.1 d]; rfl
      · unfold f_X12_body
        rw [in_t (by rw [jl0, jl1]; omega), b1_some, if_neg (by decide), if_neg (by rw [adX_S _ _ (by decide)]; exact ne120 G d), add_t (by rw [e4]; omega)]
        rfl
      · exact (G.1.adX d (by omega)).adM (by rw [e4]; exact d)
      · refine RG.add G d (v := a0) (fun q k _ h1 h2 _ _ => ?_) ?_ ?_ ?_ (fun q j _ h1 h2 _ _ => ?_) (fun j => ?_) (fun j => ?_) (fun j => ?_) (fun _ _ _ => rfl) (fun _ _ => rfl) ?_
        · rw [adM_S _ _ h2, adX_S _ _ h1]
        · rw [adM_S _ _ (by decide)]; rfl
        · rw [adM_4, adX_S _ _ (by decide)]
        · rw [adM_S _ _ (by decide), adM_S _ _ (by decide), adX_S _ _ (by decide), adX_S _ _ (by decide)]; exact G.2.1.2.2.2.1
        · rw [adM_I, if_neg (by omega), adX_I, if_neg (by omega)]
        · rw [adM_I, if_neg (by omega), adX_I]
          by_cases h : j = (zS s 15 3).toInt.toNat
          · rw [if_pos ⟨rfl, h⟩, if_pos h]
          · rw [if_neg (by omega), if_neg h]
        · rw [adM_I, e4, adX_I]
          by_cases h : j = (zS s 15 3).toInt.toNat
          · rw [if_pos ⟨rfl, h⟩, if_pos h]
          · rw [if_neg (by omega), if_neg (by omega), if_neg h]
        · rw [adM_I, if_neg (by omega), adX_I, if_neg (by omega), adM_I, if_neg (by omega), adX_I, if_neg (by omega)]; exact G.2.2.1.2.2 j
        · have hz : zR (adM (adX s a0) a0) 17 (zS s 15 3).toInt.toNat = none := (G.2.2.2.2.1 _ (by omega)).2 (fun z => by have := z.1; omega)
          rw [hz]
          refine ⟨fun _ z => ?_, fun _ => rfl⟩
          rcases z with z | z | z | z <;> rw [z] at c <;> exact absurd c.2 (by decide)
    · refine ⟨-3, s, -3, s, ?_, ?_, G, FrB.rf, rfl⟩
      · rw [hx, added_f d]; rfl
      · unfold f_X12_body
        rw [in_t (by rw [jl0, jl1]; omega), b1_some, if_neg (by decide), if_pos (eq120 G d)]
  · refine ⟨-1, s, -1, s, ?_, ?_, G, FrB.rf, rfl⟩
    · unfold f_X11_body
      dsimp only [jn]
      rw [if_neg (fun z => c (by rw [z]; decide)), if_neg (fun z => c (by rw [z]; decide))]
    · unfold f_X12_body
      rw [in_f (by rw [jl0, jl1]; omega), b1_some, if_pos rfl]
/-! THE SHELTER, MEN, HOLES, ILLNESS -/
section ZF
variable {s : SS} {q k q0 k0 j i : Nat} {v : Int32}
theorem zSf (h : fSA q k = true) (h0 : fSA q0 k0 = false) : zS (pS s q0 k0 v) q k = zS s q k := by
  rw [zS_pS, if_neg (fun z => by rw [z.1, z.2, h0] at h; cases h)]
theorem zIf (h : fIA q = true) (h0 : fIA q0 = false) : zI (pI s q0 i v) q j = zI s q j := by
  rw [zI_pI, if_neg (fun z => by rw [z.1, h0] at h; cases h)]
theorem ad16 {s : SS} (j : Nat) (e4 : zS (adX s v) 59 4 = zS s 15 3) : zI (adM (adX s v) v) 16 j = if j = (zS s 15 3).toInt.toNat then v else zI s 16 j := by
  rw [adM_I, if_neg (by omega), adX_I]
  by_cases h : j = (zS s 15 3).toInt.toNat
  · rw [if_pos ⟨rfl, h⟩, if_pos h]
  · rw [if_neg (by omega), if_neg h]
theorem fr4 {s : SS} {v : Int32} (G : GA s) : zS (adX s v) 59 4 = zS s 15 3 := by
  rw [adX_S _ _ (by decide)]
  exact G.2.1.2.2.1.symm
theorem frn {s : SS} (G : GA s) (h : (zS s 15 3).toInt < 120) : zR s 17 (zS s 15 3).toInt.toNat = none := by
  have hf : 0 ≤ (zS s 15 3).toInt ∧ (zS s 15 3).toInt ≤ 120 := G.1.f (q := 15) (k := 3) rfl
  exact (G.2.2.2.2.1 _ (by omega)).2 (fun z => by have := z.1; omega)
end ZF
theorem nH {v : Int32} (h : v = 6 ∨ v = 7) : ¬ isH v := by
  rcases h with rfl | rfl <;> (intro z; rcases z with z | z | z | z <;> exact absurd z (by decide))
theorem yard_t {a : Int32} (h : 1 ≤ a.toInt ∧ a.toInt ≤ 60) : f_X11_isYard a = some 1 := by
  unfold f_X11_isYard
  rw [if_neg (by rw [jlt, jl1]; omega), if_neg (by rw [jlt, jl60]; omega)]
theorem yard_f {a : Int32} (h : ¬ (1 ≤ a.toInt ∧ a.toInt ≤ 60)) : f_X11_isYard a = some 0 := by
  unfold f_X11_isYard
  by_cases c : a < 1
  · rw [if_pos c]
  · rw [if_neg c, if_pos (by rw [jlt, jl60]; rw [jlt, jl1] at c; omega)]
theorem span_01 (a : Int32) : f_X12_isSpan a = some 0 ∨ f_X12_isSpan a = some 1 := by
  unfold f_X12_isSpan
  split
  · exact Or.inl rfl
  · split
    · exact Or.inl rfl
    · split
      · exact Or.inr rfl
      · exact Or.inl rfl
theorem span_e (a : Int32) : f_X11_isSpan a = f_X12_isSpan a := rfl
theorem shelterM {t : SS} {a0 a1 : Int32} (hs : f_X12_isSpan a0 = some 1) (c : 1 ≤ a1.toInt ∧ a1.toInt ≤ 60) (h1 : zS t 59 21 < 0) (h2 : ¬ zS t 59 4 = 120) (h3 : 0 ≤ (zS t 59 4).toInt ∧ (zS t 59 4).toInt < 120) : f_X12_shelter t a0 a1 = some (zS t 59 4, pS (pS (pS (pS (adM t 6) 59 21 (zS t 59 4)) 59 22 (a0 / 100)) 59 23 (a0 % 100)) 59 24 a1) := by
  unfold f_X12_shelter
  rw [hs, b1_some, if_neg (by decide), in_t (by rw [jl1, jl60]; omega), b1_some, if_neg (by decide), if_pos h1, if_neg h2, add_t h3]
  rfl
theorem manM {t : SS} {a0 a1 : Int32} {n : Nat} (c : 0 ≤ a0.toInt ∧ a0.toInt ≤ 999) (b : 0 ≤ a1.toInt ∧ a1.toInt ≤ 99) (h2 : ¬ zS t 59 4 = 120) (h3 : 0 ≤ (zS t 59 4).toInt ∧ (zS t 59 4).toInt < 120) (en : n = (zS t 59 4).toInt.toNat) : f_X12_man t a0 a1 = some (zS t 59 4, pI (pI (pI (pI (adM t 7) 74 n a0) 75 n (a1 / 10)) 76 n (a1 % 10)) 77 n ((1 : Int32) &&& 1)) := by
  have gn : inB (zS t 59 4) 120 := ⟨by omega, by omega⟩
  unfold f_X12_man
  rw [in_t (by rw [jl0, jl999]; omega), b1_some, if_neg (by decide), in_t (by rw [jl0, jl99]; omega), b1_some, if_neg (by decide), if_neg h2, add_t h3, bd_some]
  dsimp only [st, vl]
  rw [gd_t gn, gd_t gn, gd_t gn, gd_t gn, ← en]
theorem sa_shelter {s : SS} (G : GA s) (a0 : Int32) (a1 : Int32) : ∃ (rx : Int32) (s1 : SS) (rm : Int32) (s2 : SS), f_X11_shelter s a0 a1 = some (rx, s1) ∧ f_X12_shelter s1 a0 a1 = some (rm, s2) ∧ GA s2 ∧ FrB s s2 ∧ rx = rm := by
  rcases span_01 a0 with hs | hs
  · refine ⟨-1, s, -1, s, ?_, ?_, G, FrB.rf, rfl⟩
    · unfold f_X11_shelter
      rw [span_e, hs, b1_some, if_pos rfl]
    · unfold f_X12_shelter
      rw [hs, b1_some, if_pos rfl]
  by_cases c : 1 ≤ a1.toInt ∧ a1.toInt ≤ 60
  · have e5 := G.2.1.2.2.2.1
    by_cases b : zS s 15 5 < 0
    · by_cases d : (zS s 15 3).toInt < 120
      · have hf : 0 ≤ (zS s 15 3).toInt ∧ (zS s 15 3).toInt ≤ 120 := G.1.f (q := 15) (k := 3) rfl
        have e4 : zS (adX s 6) 59 4 = zS s 15 3 := fr4 G
        have IX := G.1.adX d (v := 6) (by decide)
        have I1 : Iv (pS (pS (pS (pS (adX s 6) 15 5 (zS s 15 3)) 15 6 (a0 / 100)) 15 7 (a0 % 100)) 15 8 a1) := (((IX.wF (q := 15) (k := 5) (by decide) (by decide) trivial).wF (q := 15) (k := 6) (by decide) (by decide) trivial).wF (q := 15) (k := 7) (by decide) (by decide) trivial).wF (q := 15) (k := 8) (by decide) (by decide) trivial
        refine ⟨zS s 15 3, pS (pS (pS (pS (adX s 6) 15 5 (zS s 15 3)) 15 6 (a0 / 100)) 15 7 (a0 % 100)) 15 8 a1, zS (adX s 6) 59 4, pS (pS (pS (pS (adM (pS (pS (pS (pS (adX s 6) 15 5 (zS s 15 3)) 15 6 (a0 / 100)) 15 7 (a0 % 100)) 15 8 a1) 6) 59 21 (zS (adX s 6) 59 4)) 59 22 (a0 / 100)) 59 23 (a0 % 100)) 59 24 a1, ?_, ?_, ⟨?_, ?_⟩, (((((((((FrB.rf.adX).pS (by decide)).pS (by decide)).pS (by decide)).pS (by decide)).adM).pS (by decide)).pS (by decide)).pS (by decide)).pS (by decide), e4.symm⟩
        · unfold f_X11_shelter f_X0_addedRefuge
          rw [span_e, hs, b1_some, if_neg (by decide), yard_t c, b1_some, if_neg (by decide), if_pos b, added_t G.1 d, bd_some, if_neg (by rw [jlt, jl0]; omega)]
          rfl
        · exact shelterM hs c (show zS (adX s 6) 59 21 < 0 by rw [adX_S _ _ (by decide), ← e5]; exact b) (show ¬ zS (adX s 6) 59 4 = 120 by rw [adX_S _ _ (by decide)]; exact ne120 G d) (show 0 ≤ (zS (adX s 6) 59 4).toInt ∧ (zS (adX s 6) 59 4).toInt < 120 by rw [e4]; omega)
        · have I2 := I1.adM (v := 6) (show (zS (adX s 6) 59 4).toInt < 120 by rw [e4]; exact d)
          exact (((I2.wF (q := 59) (k := 21) (by decide) (by decide) trivial).wF (q := 59) (k := 22) (by decide) (by decide) trivial).wF (q := 59) (k := 23) (by decide) (by decide) trivial).wF (q := 59) (k := 24) (by decide) (by decide) trivial
        · refine RG.add G d (v := 6) (fun q k h h1 h2 h3 h4 => ?_) ?_ ?_ ?_ (fun q j h h1 h2 h3 h4 => ?_) (fun j => ?_) (fun j => ?_) (fun j => ?_) (fun _ _ _ => rfl) (fun _ _ => rfl) ?_
          · rw [zSf h (by decide), zSf h (by decide), zSf h (by decide), zS_pS, if_neg h4, adM_S _ _ h2, zSf h (by decide), zSf h (by decide), zSf h (by decide), zS_pS, if_neg h3, adX_S _ _ h1]
          · rfl
          · show zS (adX s 6) 59 4 + 1 = _
            rw [adX_S _ _ (by decide)]
          · show zS s 15 3 = zS (adX s 6) 59 4
            rw [e4]
          · show zI (adM (adX s 6) 6) q j = _
            rw [adM_I, if_neg (by omega), adX_I, if_neg (by omega)]
          · exact ad16 j e4
          · show zI (adM (adX s 6) 6) 62 j = _
            rw [adM_I, e4, adX_I]
            by_cases h : j = (zS s 15 3).toInt.toNat
            · rw [if_pos ⟨rfl, h⟩, if_pos h]
            · rw [if_neg (by omega), if_neg (by omega), if_neg h]
          · show zI (adM (adX s 6) 6) 9 j = zI (adM (adX s 6) 6) 76 j
            rw [adM_I, if_neg (by omega), adX_I, if_neg (by omega), adM_I, if_neg (by omega), adX_I, if_neg (by omega)]
            exact G.2.2.1.2.2 j
          · exact ⟨fun _ => nH (Or.inl rfl), fun _ => frn G d⟩
      · refine ⟨-3, s, -3, s, ?_, ?_, G, FrB.rf, rfl⟩
        · unfold f_X11_shelter f_X0_addedRefuge
          rw [span_e, hs, b1_some, if_neg (by decide), yard_t c, b1_some, if_neg (by decide), if_pos b, added_f d, bd_some, if_pos (by decide)]
          rfl
        · unfold f_X12_shelter
          rw [hs, b1_some, if_neg (by decide), in_t (by rw [jl1, jl60]; omega), b1_some, if_neg (by decide), if_pos (by rw [← e5]; exact b), if_pos (eq120 G d)]
    · refine ⟨-2, s, -2, s, ?_, ?_, G, FrB.rf, rfl⟩
      · unfold f_X11_shelter
        rw [span_e, hs, b1_some, if_neg (by decide), yard_t c, b1_some, if_neg (by decide), if_neg b]
      · unfold f_X12_shelter
        rw [hs, b1_some, if_neg (by decide), in_t (by rw [jl1, jl60]; omega), b1_some, if_neg (by decide), if_neg (by rw [← e5]; exact b)]
  · refine ⟨-1, s, -1, s, ?_, ?_, G, FrB.rf, rfl⟩
    · unfold f_X11_shelter
      rw [span_e, hs, b1_some, if_neg (by decide), yard_f c, b1_some, if_pos rfl]
    · unfold f_X12_shelter
      rw [hs, b1_some, if_neg (by decide), in_f (by rw [jl1, jl60]; omega), b1_some, if_pos rfl]
theorem sa_man {s : SS} (G : GA s) (a0 : Int32) (a1 : Int32) : ∃ (rx : Int32) (s1 : SS) (rm : Int32) (s2 : SS), f_X11_man s a0 a1 = some (rx, s1) ∧ f_X12_man s1 a0 a1 = some (rm, s2) ∧ GA s2 ∧ FrB s s2 ∧ rx = rm := by
  by_cases c : 0 ≤ a0.toInt ∧ a0.toInt ≤ 999
  · by_cases b : 0 ≤ a1.toInt ∧ a1.toInt ≤ 99
    · by_cases d : (zS s 15 3).toInt < 120
      · have hf : 0 ≤ (zS s 15 3).toInt ∧ (zS s 15 3).toInt ≤ 120 := G.1.f (q := 15) (k := 3) rfl
        have e4 : zS (adX s 7) 59 4 = zS s 15 3 := fr4 G
        have IX := G.1.adX d (v := 7) (by decide)
        have gn : inB (zS s 15 3) 120 := ⟨by omega, by omega⟩
        obtain ⟨n, en⟩ : ∃ n, n = (zS s 15 3).toInt.toNat := ⟨_, rfl⟩
        have I1 : Iv (pS (pI (pI (pI (pI (adX s 7) 7 n a0) 8 n (a1 / 10)) 9 n (a1 % 10)) 10 n 1) 6 4 (zS (adX s 7) 6 4 + 1)) := ((((IX.wI (q := 7) (by decide) trivial).wI (q := 8) (by decide) trivial).wI (q := 9) (by decide) trivial).wI (q := 10) (by decide) trivial).wF (q := 6) (k := 4) (by decide) (by decide) trivial
        refine ⟨zS s 15 3, pS (pI (pI (pI (pI (adX s 7) 7 n a0) 8 n (a1 / 10)) 9 n (a1 % 10)) 10 n 1) 6 4 (zS (adX s 7) 6 4 + 1), zS (adX s 7) 59 4, pI (pI (pI (pI (adM (pS (pI (pI (pI (pI (adX s 7) 7 n a0) 8 n (a1 / 10)) 9 n (a1 % 10)) 10 n 1) 6 4 (zS (adX s 7) 6 4 + 1)) 7) 74 n a0) 75 n (a1 / 10)) 76 n (a1 % 10)) 77 n ((1 : Int32) &&& 1), ?_, ?_, ⟨?_, ?_⟩, ((((((((((FrB.rf.adX).pI (by decide)).pI (by decide)).pI (by decide)).pI (by decide)).pS (by decide)).adM).pI (by decide)).pI (by decide)).pI (by decide)).pI (by decide), e4.symm⟩
        · unfold f_X11_man f_X2_comes
          rw [if_neg (by rw [jlt, jl0]; omega), if_neg (by rw [jlt, jl999]; omega), if_neg (by rw [jlt, jl0]; omega), if_neg (by rw [jlt, jl99]; omega), added_t G.1 d, bd_some, if_neg (by rw [jlt, jl0]; omega), if_neg (by rw [jlt, jl0]; omega), if_pos (by rw [jlt, jl120]; omega), gd_t gn]
          dsimp only [st, vl]
          rw [gd_t gn, gd_t gn, gd_t gn, ← en]
          rfl
        · exact manM c b (show ¬ zS (adX s 7) 59 4 = 120 by rw [adX_S _ _ (by decide)]; exact ne120 G d) (show 0 ≤ (zS (adX s 7) 59 4).toInt ∧ (zS (adX s 7) 59 4).toInt < 120 by rw [e4]; omega) (show n = (zS (adX s 7) 59 4).toInt.toNat by rw [e4]; exact en)
        · have I2 := I1.adM (v := 7) (show (zS (adX s 7) 59 4).toInt < 120 by rw [e4]; exact d)
          exact (((I2.wI (q := 74) (by decide) trivial).wI (q := 75) (by decide) trivial).wI (q := 76) (by decide) trivial).wI (q := 77) (by decide) trivial
        · have hA : ∀ q j, q ≠ 7 → q ≠ 8 → q ≠ 9 → q ≠ 10 → q ≠ 74 → q ≠ 75 → q ≠ 76 → q ≠ 77 → zI (pI (pI (pI (pI (adM (pS (pI (pI (pI (pI (adX s 7) 7 n a0) 8 n (a1 / 10)) 9 n (a1 % 10)) 10 n 1) 6 4 (zS (adX s 7) 6 4 + 1)) 7) 74 n a0) 75 n (a1 / 10)) 76 n (a1 % 10)) 77 n ((1 : Int32) &&& 1)) q j = zI (adM (adX s 7) 7) q j := by
            intro q j h1 h2 h3 h4 h5 h6 h7 h8
            rw [zI_pI, if_neg (by omega), zI_pI, if_neg (by omega), zI_pI, if_neg (by omega), zI_pI, if_neg (by omega), adM_I, adM_I, zI_pS, zI_pI _ 10, if_neg (show ¬ (q = 10 ∧ j = n) by omega), zI_pI _ 9, if_neg (show ¬ (q = 9 ∧ j = n) by omega), zI_pI _ 8, if_neg (show ¬ (q = 8 ∧ j = n) by omega), zI_pI _ 7, if_neg (show ¬ (q = 7 ∧ j = n) by omega)]
            rfl
          refine RG.add G d (v := 7) (fun q k h h1 h2 h3 h4 => ?_) ?_ ?_ ?_ (fun q j h h1 h2 h3 h4 => ?_) (fun j => ?_) (fun j => ?_) (fun j => ?_) (fun _ _ _ => rfl) (fun _ _ => rfl) ?_
          · rw [zS_pI, zS_pI, zS_pI, zS_pI, adM_S _ _ h2, zSf h (by decide), zS_pI, zS_pI, zS_pI, zS_pI, adX_S _ _ h1]
          · rfl
          · show zS (adX s 7) 59 4 + 1 = _
            rw [adX_S _ _ (by decide)]
          · show zS (adX s 7) 15 5 = zS (adX s 7) 59 21
            rw [adX_S _ _ (by decide), adX_S _ _ (by decide)]
            exact G.2.1.2.2.2.1
          · have hq : q ≠ 7 ∧ q ≠ 8 ∧ q ≠ 10 ∧ q ≠ 74 ∧ q ≠ 75 ∧ q ≠ 77 := by
              refine ⟨?_, ?_, ?_, ?_, ?_, ?_⟩ <;> (intro z; rw [z] at h; exact absurd h (by decide))
            rw [hA q j (by omega) (by omega) h3 (by omega) (by omega) (by omega) h4 (by omega), adM_I, if_neg (by omega), adX_I, if_neg (by omega)]
          · rw [hA 16 j (by decide) (by decide) (by decide) (by decide) (by decide) (by decide) (by decide) (by decide)]
            exact ad16 j e4
          · rw [hA 62 j (by decide) (by decide) (by decide) (by decide) (by decide) (by decide) (by decide) (by decide), adM_I, e4, adX_I]
            by_cases h : j = (zS s 15 3).toInt.toNat
            · rw [if_pos ⟨rfl, h⟩, if_pos h]
            · rw [if_neg (by omega), if_neg (by omega), if_neg h]
          · have h9 : zI (pI (pI (pI (pI (adM (pS (pI (pI (pI (pI (adX s 7) 7 n a0) 8 n (a1 / 10)) 9 n (a1 % 10)) 10 n 1) 6 4 (zS (adX s 7) 6 4 + 1)) 7) 74 n a0) 75 n (a1 / 10)) 76 n (a1 % 10)) 77 n ((1 : Int32) &&& 1)) 9 j = if j = n then a1 % 10 else zI s 9 j := by
              rw [zI_pI, if_neg (by omega), zI_pI, if_neg (by omega), zI_pI, if_neg (by omega), zI_pI, if_neg (by omega), adM_I, if_neg (by omega), zI_pS, zI_pI, if_neg (by omega), zI_pI]
              by_cases h : j = n
              · rw [if_pos ⟨rfl, h⟩, if_pos h]
              · rw [if_neg (by omega), if_neg h, zI_pI, if_neg (by omega), zI_pI, if_neg (by omega), adX_I, if_neg (by omega)]
            have h76 : zI (pI (pI (pI (pI (adM (pS (pI (pI (pI (pI (adX s 7) 7 n a0) 8 n (a1 / 10)) 9 n (a1 % 10)) 10 n 1) 6 4 (zS (adX s 7) 6 4 + 1)) 7) 74 n a0) 75 n (a1 / 10)) 76 n (a1 % 10)) 77 n ((1 : Int32) &&& 1)) 76 j = if j = n then a1 % 10 else zI s 76 j := by
              rw [zI_pI, if_neg (by omega), zI_pI]
              by_cases h : j = n
              · rw [if_pos ⟨rfl, h⟩, if_pos h]
              · rw [if_neg (by omega), if_neg h, zI_pI, if_neg (by omega), zI_pI, if_neg (by omega), adM_I, if_neg (by omega), zI_pS, zI_pI, if_neg (by omega), zI_pI, if_neg (by omega), zI_pI, if_neg (by omega), zI_pI, if_neg (by omega), adX_I, if_neg (by omega)]
            rw [h9, h76, G.2.2.1.2.2 j]
          · exact ⟨fun _ => nH (Or.inr rfl), fun _ => frn G d⟩
      · refine ⟨-3, s, -3, s, ?_, ?_, G, FrB.rf, rfl⟩
        · unfold f_X11_man
          rw [if_neg (by rw [jlt, jl0]; omega), if_neg (by rw [jlt, jl999]; omega), if_neg (by rw [jlt, jl0]; omega), if_neg (by rw [jlt, jl99]; omega), added_f d, bd_some, if_pos (by decide)]
        · unfold f_X12_man
          rw [in_t (by rw [jl0, jl999]; omega), b1_some, if_neg (by decide), in_t (by rw [jl0, jl99]; omega), b1_some, if_neg (by decide), if_pos (eq120 G d)]
    · refine ⟨-1, s, -1, s, ?_, ?_, G, FrB.rf, rfl⟩
      · unfold f_X11_man
        rw [if_neg (by rw [jlt, jl0]; omega), if_neg (by rw [jlt, jl999]; omega)]
        by_cases h : a1 < 0
        · rw [if_pos h]
        · rw [if_neg h, if_pos (by rw [jlt, jl99]; rw [jlt, jl0] at h; omega)]
      · unfold f_X12_man
        rw [in_t (by rw [jl0, jl999]; omega), b1_some, if_neg (by decide), in_f (by rw [jl0, jl99]; omega), b1_some, if_pos rfl]
  · refine ⟨-1, s, -1, s, ?_, ?_, G, FrB.rf, rfl⟩
    · unfold f_X11_man
      by_cases h : a0 < 0
      · rw [if_pos h]
      · rw [if_neg h, if_pos (by rw [jlt, jl999]; rw [jlt, jl0] at h; omega)]
    · unfold f_X12_man
      rw [in_f (by rw [jl0, jl999]; omega), b1_some, if_pos rfl]
theorem sa_ill {s : SS} (G : GA s) (a0 : Int32) (a1 : Int32) : ∃ (rx : Int32) (s1 : SS) (rm : Int32) (s2 : SS), f_X11_ill s a0 a1 = some (rx, s1) ∧ f_X12_ill s1 a0 a1 = some (rm, s2) ∧ GA s2 ∧ FrB s s2 ∧ rx = rm := by
  have e := G.2.1.2.2.1
  have k7 := G.2.2.1.2.1
  have hf : 0 ≤ (zS s 15 3).toInt ∧ (zS s 15 3).toInt ≤ 120 := G.1.f (q := 15) (k := 3) rfl
  by_cases c : (0 ≤ a0.toInt ∧ a0.toInt < (zS s 15 3).toInt) ∧ zI s 16 a0.toInt.toNat = 7
  · have g : inB a0 120 := ⟨by omega, by omega⟩
    have mn : ∀ s1, Iv s1 → zS s1 59 4 = zS s 59 4 → zI s1 62 a0.toInt.toNat = zI s 62 a0.toInt.toNat → f_X12_isMan s1 a0 = some 1 := by
      intro s1 I1 h1 h2
      unfold f_X12_isMan
      rw [body_t I1 (by rw [h1, ← e]; exact c.1), b1_some, if_neg (by decide), gd_t g, h2, ← k7, c.2, if_pos rfl]
    by_cases d : 0 ≤ a1.toInt ∧ a1.toInt ≤ 9
    · have I1 : Iv (pI s 9 a0.toInt.toNat a1) := G.1.wI (q := 9) (by decide) trivial
      refine ⟨zI s 9 a0.toInt.toNat, pI s 9 a0.toInt.toNat a1, zI s 76 a0.toInt.toNat, pI (pI s 9 a0.toInt.toNat a1) 76 a0.toInt.toNat a1, ?_, ?_, ⟨I1.wI (q := 76) (by decide) trivial, ?_⟩, (FrB.rf.pI (by decide)).pI (by decide), G.2.2.1.2.2 _⟩
      · unfold f_X11_ill
        rw [kind_t G.1 c.1, b1_some, if_pos c.2, if_neg (by rw [jlt, jl0]; omega), if_neg (by rw [jlt, jl9]; omega), gd_t g]
        dsimp only [vl, st]
        rw [gd_t g]
      · unfold f_X12_ill
        rw [mn _ I1 rfl rfl, b1_some, if_neg (by decide), in_t (by rw [jl0, jl9]; omega), b1_some, if_neg (by decide), gd_t g]
        dsimp only [vl, st]
        rw [gd_t g]
        rfl
      · obtain ⟨R1, R2, R3, R4, R5⟩ := G.2
        refine ⟨R1, ⟨fun i => ?_, fun i => ?_, fun i => ?_⟩, (R3.pI (by decide)).pI (by decide), (R4.pI (by decide)).pI (by decide), (R5.pI (by decide)).pI (by decide)⟩
        · exact R2.1 i
        · exact R2.2.1 i
        · rw [zI_pI, if_neg (by omega), zI_pI, zI_pI]
          by_cases h : i = a0.toInt.toNat
          · rw [if_pos ⟨rfl, h⟩, if_pos ⟨rfl, h⟩]
          · rw [if_neg (by omega), if_neg (by omega), zI_pI, if_neg (by omega)]
            exact R2.2.2 i
    · refine ⟨-1, s, -1, s, ?_, ?_, G, FrB.rf, rfl⟩
      · unfold f_X11_ill
        rw [kind_t G.1 c.1, b1_some, if_pos c.2]
        by_cases h : a1 < 0
        · rw [if_pos h]
        · rw [if_neg h, if_pos (by rw [jlt, jl9]; rw [jlt, jl0] at h; omega)]
      · unfold f_X12_ill
        rw [mn s G.1 rfl rfl, b1_some, if_neg (by decide), in_f (by rw [jl0, jl9]; omega), b1_some, if_pos rfl]
  · refine ⟨-1, s, -1, s, ?_, ?_, G, FrB.rf, rfl⟩
    · unfold f_X11_ill
      by_cases d : 0 ≤ a0.toInt ∧ a0.toInt < (zS s 15 3).toInt
      · rw [kind_t G.1 d, b1_some, if_neg (fun z => c ⟨d, z⟩)]
      · rw [kind_f d, b1_some, if_neg (by decide)]
    · unfold f_X12_ill f_X12_isMan
      by_cases d : 0 ≤ a0.toInt ∧ a0.toInt < (zS s 15 3).toInt
      · rw [body_t G.1 (by rw [← e]; exact d), b1_some, if_neg (by decide), gd_t ⟨by omega, by omega⟩, if_neg (by rw [← k7]; exact fun z => c ⟨d, z⟩), b1_some, if_pos rfl]
      · rw [body_f G.1 (by rw [← e]; exact d), b1_some, if_pos rfl, b1_some, if_pos rfl]
/-! HOLES, MAPS, NEEDS, AIMS -/
def nhX (s : SS) (c w : Int32) (i : Nat) (v : Int32) : SS := pS (pR (pHole s c w) 17 i (some (zL s))) 15 4 v
section HX
variable {s : SS} {c w v : Int32} {i : Nat}
theorem nhX_S (I : Iv s) {q k : Nat} (h : fSA q k = true) : zS (nhX s c w i v) q k = zS s q k := by
  have h1 := I.1.1.1
  have h2 := fSA_lt h
  unfold nhX
  rw [zSf h (by decide)]
  show (if q = zL s then holeF c w k else zS s q k) = _
  rw [if_neg (by omega)]
theorem nhX_I (I : Iv s) {q j : Nat} (h : q < 126) : zI (nhX s c w i v) q j = zI s q j := by
  have h1 := I.1.1.1
  show (if q = zL s + 1 then 0 else if q = zL s + 2 then 0 else if q = zL s + 3 then (-2000000000) else zI s q j) = _
  rw [if_neg (by omega), if_neg (by omega), if_neg (by omega)]
theorem nhX_B {b : SS} (I : Iv s) (F : FrB b s) : FrB b (nhX s c w i v) := by
  have h1 := I.1.1.1
  refine FrB.pS ⟨fun q k e => ?_, fun q j e => ?_⟩ (by decide)
  · have h2 := fSB_lt e
    show (if q = zL s then holeF c w k else zS s q k) = _
    rw [if_neg (by omega)]
    exact F.1 q k e
  · have h2 := fIB_lt e
    show zI (nhX s c w i v) q j = _
    rw [nhX_I I h2]
    exact F.2 q j e
theorem nhX_R (j : Nat) : zR (nhX s c w i v) 17 j = if j = i then some (zL s) else zR s 17 j := by
  show (if 17 = 17 ∧ j = i then some (zL s) else zR s 17 j) = _
  by_cases h : j = i
  · rw [if_pos ⟨rfl, h⟩, if_pos h]
  · rw [if_neg (fun z => h z.2), if_neg h]
end HX
theorem holeM {t : SS} {a0 a1 : Int32} {n : Nat} (c : 2 ≤ a0.toInt ∧ a0.toInt ≤ 5) (b : ¬ a1 < 0) (b2 : a1 / 100 < 32) (b3 : ¬ a1 % 100 = 0) (h2 : ¬ zS t 59 4 = 120) (h3 : 0 ≤ (zS t 59 4).toInt ∧ (zS t 59 4).toInt < 120) (en : n = (zS t 59 4).toInt.toNat) : f_X12_hole t a0 a1 = some (zS t 59 4, pI (pI (pI (adM t a0) 63 n (a1 / 100)) 65 n (a1 / 100)) 64 n (a1 % 100)) := by
  have gn : inB (zS t 59 4) 120 := ⟨by omega, by omega⟩
  unfold f_X12_hole
  rw [in_t (by rw [jl2, jl5]; omega), b1_some, if_neg (by decide), if_neg b, if_pos b2, if_neg b3, if_neg h2, add_t h3, bd_some]
  dsimp only [st, vl]
  rw [gd_t gn, gd_t gn, gd_t gn, ← en]
theorem sa_hole {s : SS} (G : GA s) (a0 : Int32) (a1 : Int32) : ∃ (rx : Int32) (s1 : SS) (rm : Int32) (s2 : SS), f_X11_hole s a0 a1 = some (rx, s1) ∧ f_X12_hole s1 a0 a1 = some (rm, s2) ∧ GA s2 ∧ FrB s s2 ∧ rx = rm := by
  by_cases c : 2 ≤ a0.toInt ∧ a0.toInt ≤ 5
  · have cx : ¬ a0 < 2 ∧ ¬ 5 < a0 := ⟨by rw [jlt, jl2]; omega, by rw [jlt, jl5]; omega⟩
    by_cases b : a1 < 0
    · refine ⟨-1, s, -1, s, ?_, ?_, G, FrB.rf, rfl⟩
      · unfold f_X11_hole
        rw [if_neg cx.1, if_neg cx.2, if_pos b]
      · unfold f_X12_hole
        rw [in_t (by rw [jl2, jl5]; omega), b1_some, if_neg (by decide), if_pos b]
    by_cases b2 : a1 / 100 < 32
    · have hp : 0 ≤ a1.toInt := by rw [jlt, jl0] at b; omega
      have em : (a1 % 100).toInt = a1.toInt % 100 := by rw [jm100, if_pos hp]
      by_cases b3 : a1 % 100 = 0
      · refine ⟨-1, s, -1, s, ?_, ?_, G, FrB.rf, rfl⟩
        · unfold f_X11_hole
          dsimp only [vl]
          rw [if_neg cx.1, if_neg cx.2, if_neg b, if_pos b2, if_pos (by rw [b3]; decide)]
        · unfold f_X12_hole
          rw [in_t (by rw [jl2, jl5]; omega), b1_some, if_neg (by decide), if_neg b, if_pos b2, if_pos b3]
      · have b4 : ¬ a1 % 100 < 1 := by
          rw [jlt, jl1]
          intro z
          apply b3
          apply Int32.toInt_inj.1
          rw [jl0]
          omega
        by_cases d : (zS s 15 3).toInt < 120
        · have hf : 0 ≤ (zS s 15 3).toInt ∧ (zS s 15 3).toInt ≤ 120 := G.1.f (q := 15) (k := 3) rfl
          have e4 : zS (adX s a0) 59 4 = zS s 15 3 := fr4 G
          have IX := G.1.adX d (v := a0) (by omega)
          have gn : inB (zS s 15 3) 120 := ⟨by omega, by omega⟩
          obtain ⟨n, en⟩ : ∃ n, n = (zS s 15 3).toInt.toNat := ⟨_, rfl⟩
          obtain ⟨w, ew⟩ : ∃ w, w = zS (pR (pHole (adX s a0) (a1 / 100) (a1 % 100)) 17 n (some (zL (adX s a0)))) 15 4 + 1 := ⟨_, rfl⟩
          have I1 : Iv (nhX (adX s a0) (a1 / 100) (a1 % 100) n w) := IX.holeF
          have f4 : zS (nhX (adX s a0) (a1 / 100) (a1 % 100) n w) 59 4 = zS s 15 3 := by rw [nhX_S IX rfl]; exact e4
          refine ⟨zS s 15 3, nhX (adX s a0) (a1 / 100) (a1 % 100) n w, zS (nhX (adX s a0) (a1 / 100) (a1 % 100) n w) 59 4, pI (pI (pI (adM (nhX (adX s a0) (a1 / 100) (a1 % 100) n w) a0) 63 n (a1 / 100)) 65 n (a1 / 100)) 64 n (a1 % 100), ?_, ?_, ⟨?_, ?_⟩, ((((nhX_B IX FrB.rf.adX).adM).pI (by decide)).pI (by decide)).pI (by decide), f4.symm⟩
          · unfold f_X11_hole f_X0_addedHole
            dsimp only [vl]
            rw [if_neg cx.1, if_neg cx.2, if_neg b, if_pos b2, if_neg b4, added_t G.1 d, bd_some, if_neg (by rw [jlt, jl0]; omega), gd_t gn, ← en]
            dsimp only [st]
            rw [← ew]
            rfl
          · exact holeM c b b2 b3 (by rw [f4, ← e4, adX_S _ _ (by decide)]; exact ne120 G d) (by rw [f4]; omega) (by rw [f4]; exact en)
          · have I2 := I1.adM (v := a0) (by rw [f4]; exact d)
            exact ((I2.wI (q := 63) (by decide) trivial).wI (q := 65) (by decide) trivial).wI (q := 64) (by decide) trivial
          · have hA : ∀ q j, q < 126 → q ≠ 63 → q ≠ 65 → q ≠ 64 → zI (pI (pI (pI (adM (nhX (adX s a0) (a1 / 100) (a1 % 100) n w) a0) 63 n (a1 / 100)) 65 n (a1 / 100)) 64 n (a1 % 100)) q j = if q = 62 ∧ j = n then a0 else zI (adX s a0) q j := by
              intro q j h0 h1 h2 h3
              rw [zI_pI, if_neg (by omega), zI_pI, if_neg (by omega), zI_pI, if_neg (by omega), adM_I, f4, ← en, nhX_I IX h0]
            refine RG.add G d (v := a0) (fun q k h h1 h2 h3 h4 => ?_) ?_ ?_ ?_ (fun q j h h1 h2 h3 h4 => ?_) (fun j => ?_) (fun j => ?_) (fun j => ?_) (fun _ _ _ => rfl) (fun j hj => ?_) ?_
            · rw [zS_pI, zS_pI, zS_pI, adM_S _ _ h2, nhX_S IX h, adX_S _ _ h1]
            · rw [zS_pI, zS_pI, zS_pI, adM_S _ _ (by decide), nhX_S IX rfl]; rfl
            · rw [zS_pI, zS_pI, zS_pI, adM_4, nhX_S IX rfl, adX_S _ _ (by decide)]
            · rw [zS_pI, zS_pI, zS_pI, zS_pI, zS_pI, zS_pI, adM_S _ _ (by decide), adM_S _ _ (by decide), nhX_S IX rfl, nhX_S IX rfl, adX_S _ _ (by decide), adX_S _ _ (by decide)]
              exact G.2.1.2.2.2.1
            · have hq : q ≠ 63 ∧ q ≠ 65 ∧ q ≠ 64 := by
                refine ⟨?_, ?_, ?_⟩ <;> (intro z; rw [z] at h; exact absurd h (by decide))
              rw [hA q j (fIA_lt h) hq.1 hq.2.1 hq.2.2, if_neg (by omega), adX_I, if_neg (by omega)]
            · rw [hA 16 j (by decide) (by decide) (by decide) (by decide), if_neg (by omega), adX_I, ← en]
              by_cases h : j = n
              · rw [if_pos ⟨rfl, h⟩, if_pos h]
              · rw [if_neg (by omega), if_neg h]
            · rw [hA 62 j (by decide) (by decide) (by decide) (by decide), adX_I, ← en]
              by_cases h : j = n
              · rw [if_pos ⟨rfl, h⟩, if_pos h]
              · rw [if_neg (by omega), if_neg (by omega), if_neg h]
            · rw [hA 9 j (by decide) (by decide) (by decide) (by decide), if_neg (by omega), hA 76 j (by decide) (by decide) (by decide) (by decide), if_neg (by omega), adX_I, if_neg (by omega), adX_I, if_neg (by omega)]
              exact G.2.2.1.2.2 j
            · show zR (nhX (adX s a0) (a1 / 100) (a1 % 100) n w) 17 j = zR (adX s a0) 17 j
              rw [nhX_R, if_neg (by omega)]
            · show zR (nhX (adX s a0) (a1 / 100) (a1 % 100) n w) 17 _ = none ↔ _
              rw [nhX_R, if_pos en.symm]
              refine ⟨(fun z => by cases z), (fun z => absurd ?_ z)⟩
              have h : a0.toInt = 2 ∨ a0.toInt = 3 ∨ a0.toInt = 4 ∨ a0.toInt = 5 := by omega
              rcases h with h | h | h | h
              · exact Or.inl (Int32.toInt_inj.1 h)
              · exact Or.inr (Or.inl (Int32.toInt_inj.1 h))
              · exact Or.inr (Or.inr (Or.inl (Int32.toInt_inj.1 h)))
              · exact Or.inr (Or.inr (Or.inr (Int32.toInt_inj.1 h)))
        · refine ⟨-3, s, -3, s, ?_, ?_, G, FrB.rf, rfl⟩
          · unfold f_X11_hole f_X0_addedHole
            dsimp only [vl]
            rw [if_neg cx.1, if_neg cx.2, if_neg b, if_pos b2, if_neg b4, added_f d, bd_some, if_pos (by decide)]
            rfl
          · unfold f_X12_hole
            rw [in_t (by rw [jl2, jl5]; omega), b1_some, if_neg (by decide), if_neg b, if_pos b2, if_neg b3, if_pos (eq120 G d)]
    · refine ⟨-1, s, -1, s, ?_, ?_, G, FrB.rf, rfl⟩
      · unfold f_X11_hole
        dsimp only [vl]
        rw [if_neg cx.1, if_neg cx.2, if_neg b, if_neg b2]
      · unfold f_X12_hole
        rw [in_t (by rw [jl2, jl5]; omega), b1_some, if_neg (by decide), if_neg b, if_neg b2]
  · refine ⟨-1, s, -1, s, ?_, ?_, G, FrB.rf, rfl⟩
    · unfold f_X11_hole
      by_cases h : a0 < 2
      · rw [if_pos h]
      · rw [if_neg h, if_pos (by rw [jlt, jl5]; rw [jlt, jl2] at h; omega)]
    · unfold f_X12_hole
      rw [in_f (by rw [jl2, jl5]; omega), b1_some, if_pos rfl]
/-- counters that go up or back together -/
theorem RG.cnt {s r : SS} (R : RG s) (hS : ∀ q k, fSA q k = true → ¬ (q = 0 ∧ k = 5) → ¬ (q = 59 ∧ k = 30) → ¬ (q = 34 ∧ k = 3) → ¬ (q = 59 ∧ k = 67) → ¬ (q = 34 ∧ k = 9) → ¬ (q = 59 ∧ k = 76) → zS r q k = zS s q k)
    (h1 : zS r 0 5 = zS r 59 30) (h2 : zS r 34 3 = zS r 59 67) (h3 : zS r 34 9 = zS r 59 76) (hI : ∀ q j, fIA q = true → zI r q j = zI s q j) (hJ : ∀ q j, fJ q = true → zJ r q j = zJ s q j) (hR : ∀ j, zR r 17 j = zR s 17 j) : RG r := by
  obtain ⟨R1, R2, R3, R4, R5⟩ := R
  have e3 : zS r 15 3 = zS s 15 3 := hS 15 3 rfl (by decide) (by decide) (by decide) (by decide) (by decide) (by decide)
  refine ⟨?_, ?_, ?_, ?_, ?_⟩
  · unfold RC
    rw [hS 0 15 rfl (by decide) (by decide) (by decide) (by decide) (by decide) (by decide), hS 59 29 rfl (by decide) (by decide) (by decide) (by decide) (by decide) (by decide), e3, hS 59 4 rfl (by decide) (by decide) (by decide) (by decide) (by decide) (by decide), hS 15 5 rfl (by decide) (by decide) (by decide) (by decide) (by decide) (by decide), hS 59 21 rfl (by decide) (by decide) (by decide) (by decide) (by decide) (by decide)]
    exact ⟨R1.1, h1, R1.2.2.1, R1.2.2.2.1, h2, h3⟩
  · exact R2.c (fun q i h => hI q i (by rcases h with rfl | rfl | rfl | rfl | rfl | rfl <;> rfl))
  · refine R3.c (fun i k hi hk => hS _ _ ?_ (by omega) (by omega) (by omega) (by omega) (by omega) (by omega)) (fun i => hI 78 i rfl) (fun i => hI 79 i rfl)
    have h : i = 0 ∨ i = 1 ∨ i = 2 := by omega
    have h' : k = 0 ∨ k = 1 := by omega
    rcases h with rfl | rfl | rfl <;> rcases h' with rfl | rfl <;> rfl
  · exact R4.c e3 (fun i => hI 16 i rfl) hR
  · intro i hi
    have h : i = 0 ∨ i = 1 ∨ i = 2 ∨ i = 3 ∨ i = 4 ∨ i = 5 := by omega
    refine (R5 i hi).c (fun k hk => hS _ _ ?_ (by omega) (by omega) (by omega) (by omega) (by omega) (by omega)) (hI 120 i rfl) (hI 121 i rfl) (fun j _ => hI 123 _ rfl) (fun j _ => hJ _ _ ?_) (fun j _ => hJ 122 _ rfl) (by rw [e3]; exact Int.le_refl _)
    · have h' : k = 0 ∨ k = 1 ∨ k = 2 ∨ k = 3 := by omega
      rcases h with rfl | rfl | rfl | rfl | rfl | rfl <;> rcases h' with rfl | rfl | rfl | rfl <;> rfl
    · rcases h with rfl | rfl | rfl | rfl | rfl | rfl <;> rfl
def nmX (s : SS) (c w y : Int32) (i : Nat) (v : Int32) : SS := pS (pR (pMap s c w y) 23 i (some (zL s))) 0 5 v
section MX
variable {s : SS} {c w y v : Int32} {i : Nat}
theorem nmX_S (I : Iv s) {q k : Nat} (h : fSA q k = true) (h5 : ¬ (q = 0 ∧ k = 5)) : zS (nmX s c w y i v) q k = zS s q k := by
  have h1 := I.1.1.1
  have h2 := fSA_lt h
  unfold nmX
  rw [zS_pS, if_neg h5]
  show (if q = zL s then mapF c w y k else zS s q k) = _
  rw [if_neg (by omega)]
theorem nmX_I (I : Iv s) {q j : Nat} (h : q < 126) : zI (nmX s c w y i v) q j = zI s q j := by
  have h1 := I.1.1.1
  show (if q = zL s + 1 then 0 else zI s q j) = _
  rw [if_neg (by omega)]
theorem nmX_B {b : SS} (I : Iv s) (F : FrB b s) : FrB b (nmX s c w y i v) := by
  have h1 := I.1.1.1
  refine FrB.pS ⟨fun q k e => ?_, fun q j e => ?_⟩ (by decide)
  · have h2 := fSB_lt e
    show (if q = zL s then mapF c w y k else zS s q k) = _
    rw [if_neg (by omega)]
    exact F.1 q k e
  · have h2 := fIB_lt e
    show zI (nmX s c w y i v) q j = _
    rw [nmX_I I h2]
    exact F.2 q j e
theorem nmX_R (j : Nat) : zR (nmX s c w y i v) 17 j = zR s 17 j := by
  show (if 17 = 23 ∧ j = i then some (zL s) else zR s 17 j) = _
  rw [if_neg (fun z => absurd z.1 (by decide))]
end MX
theorem mapM {t : SS} {a0 a1 : Int32} {n : Nat} (hs : f_X12_isSpan a0 = some 1) (c : 1 ≤ a1.toInt ∧ a1.toInt ≤ 60) (h2 : ¬ zS t 59 30 = 8) (h3 : 0 ≤ (zS t 59 30).toInt ∧ (zS t 59 30).toInt < 8) (en : n = (zS t 59 30).toInt.toNat) : f_X12_map t a0 a1 = some (zS t 59 30, pS (pI (pI (pI t 81 n (a0 / 100)) 82 n (a0 % 100)) 83 n a1) 59 30 (zS t 59 30 + 1)) := by
  have gn : inB (zS t 59 30) 8 := ⟨by omega, by omega⟩
  unfold f_X12_map
  rw [hs, b1_some, if_neg (by decide), in_t (by rw [jl1, jl60]; omega), b1_some, if_neg (by decide), if_neg h2]
  dsimp only [st, vl]
  rw [gd_t gn, gd_t (show inB (zS (pI t 81 (zS t 59 30).toInt.toNat (a0 / 100)) 59 30) 8 from gn), gd_t (show inB (zS (pI (pI t 81 (zS t 59 30).toInt.toNat (a0 / 100)) 82 (zS (pI t 81 (zS t 59 30).toInt.toNat (a0 / 100)) 59 30).toInt.toNat (a0 % 100)) 59 30) 8 from gn)]
  rw [en]
  show some (zS t 59 30 + 1 - 1, _) = _
  rw [s11]
  rfl
theorem sa_map {s : SS} (G : GA s) (a0 : Int32) (a1 : Int32) : ∃ (rx : Int32) (s1 : SS) (rm : Int32) (s2 : SS), f_X11_map s a0 a1 = some (rx, s1) ∧ f_X12_map s1 a0 a1 = some (rm, s2) ∧ GA s2 ∧ FrB s s2 ∧ rx = rm := by
  rcases span_01 a0 with hs | hs
  · refine ⟨-1, s, -1, s, ?_, ?_, G, FrB.rf, rfl⟩
    · unfold f_X11_map
      rw [span_e, hs, b1_some, if_pos rfl]
    · unfold f_X12_map
      rw [hs, b1_some, if_pos rfl]
  by_cases c : 1 ≤ a1.toInt ∧ a1.toInt ≤ 60
  · have e5 := G.2.1.2.1
    have hf : 0 ≤ (zS s 0 5).toInt ∧ (zS s 0 5).toInt ≤ 8 := G.1.f (q := 0) (k := 5) rfl
    by_cases b : (zS s 0 5).toInt < 8
    · obtain ⟨n, en⟩ : ∃ n, n = (zS s 0 5).toInt.toNat := ⟨_, rfl⟩
      have ew : zS (pR (pMap s (a0 / 100) (a0 % 100) a1) 23 n (some (zL s))) 0 5 = zS s 0 5 := by
        have h1 := G.1.1.1.1
        show (if 0 = zL s then mapF (a0 / 100) (a0 % 100) a1 5 else zS s 0 5) = _
        rw [if_neg (by omega)]
      have I1 : Iv (nmX s (a0 / 100) (a0 % 100) a1 n (zS s 0 5 + 1)) := by
        have := G.1.mapF (c := a0 / 100) (w := a0 % 100) (y := a1) (i := n) ⟨hf.1, b⟩
        rw [ew] at this
        exact this
      have f30 : zS (nmX s (a0 / 100) (a0 % 100) a1 n (zS s 0 5 + 1)) 59 30 = zS s 0 5 := by
        rw [nmX_S G.1 rfl (by decide)]
        exact e5.symm
      have n1 : (zS s 0 5 + 1).toInt = (zS s 0 5).toInt + 1 := by rw [i32_add (by rw [jl1]; omega) (by rw [jl1]; omega), jl1]
      refine ⟨zS s 0 5, nmX s (a0 / 100) (a0 % 100) a1 n (zS s 0 5 + 1), zS (nmX s (a0 / 100) (a0 % 100) a1 n (zS s 0 5 + 1)) 59 30, pS (pI (pI (pI (nmX s (a0 / 100) (a0 % 100) a1 n (zS s 0 5 + 1)) 81 n (a0 / 100)) 82 n (a0 % 100)) 83 n a1) 59 30 (zS (nmX s (a0 / 100) (a0 % 100) a1 n (zS s 0 5 + 1)) 59 30 + 1), ?_, ?_, ⟨?_, ?_⟩, ((((nmX_B G.1 FrB.rf).pI (by decide)).pI (by decide)).pI (by decide)).pS (by decide), f30.symm⟩
      · unfold f_X11_map
        rw [span_e, hs, b1_some, if_neg (by decide), yard_t c, b1_some, if_neg (by decide), if_pos (by rw [jlt, jl8]; exact b)]
        dsimp only [vl, st]
        rw [gd_t ⟨by omega, by omega⟩, ← en, ew]
        show some (zS s 0 5 + 1 - 1, _) = _
        rw [s11]
        rfl
      · exact mapM hs c (fun z => by rw [f30] at z; rw [z, jl8] at b; omega) (by rw [f30]; omega) (by rw [f30]; exact en)
      · rw [f30]
        exact (((I1.wI (q := 81) (by decide) trivial).wI (q := 82) (by decide) trivial).wI (q := 83) (by decide) trivial).wF (q := 59) (k := 30) (by decide) (by decide) ⟨by omega, by omega⟩
      · rw [f30]
        refine RG.cnt G.2 (fun q k h h1 h2 h3 h4 h5 h6 => ?_) rfl ?_ ?_ (fun q j h => ?_) (fun _ _ _ => rfl) (fun j => nmX_R (c := a0 / 100) (w := a0 % 100) (y := a1) (i := n) (v := zS s 0 5 + 1) j)
        · rw [zS_pS, if_neg h2, zS_pI, zS_pI, zS_pI, nmX_S G.1 h h1]
        · rw [zS_pS, if_neg (by decide), zS_pS, if_neg (by decide), zS_pI, zS_pI, zS_pI, zS_pI, zS_pI, zS_pI, nmX_S G.1 rfl (by decide), nmX_S G.1 rfl (by decide)]
          exact G.2.1.2.2.2.2.1
        · rw [zS_pS, if_neg (by decide), zS_pS, if_neg (by decide), zS_pI, zS_pI, zS_pI, zS_pI, zS_pI, zS_pI, nmX_S G.1 rfl (by decide), nmX_S G.1 rfl (by decide)]
          exact G.2.1.2.2.2.2.2
        · rw [zI_pS, zIf h (by decide), zIf h (by decide), zIf h (by decide), nmX_I G.1 (fIA_lt h)]
    · refine ⟨-3, s, -3, s, ?_, ?_, G, FrB.rf, rfl⟩
      · unfold f_X11_map
        rw [span_e, hs, b1_some, if_neg (by decide), yard_t c, b1_some, if_neg (by decide), if_neg (by rw [jlt, jl8]; exact b)]
      · unfold f_X12_map
        rw [hs, b1_some, if_neg (by decide), in_t (by rw [jl1, jl60]; omega), b1_some, if_neg (by decide), if_pos (by rw [← e5]; exact Int32.toInt_inj.1 (by rw [jl8]; omega))]
  · refine ⟨-1, s, -1, s, ?_, ?_, G, FrB.rf, rfl⟩
    · unfold f_X11_map
      rw [span_e, hs, b1_some, if_neg (by decide), yard_f c, b1_some, if_pos rfl]
    · unfold f_X12_map
      rw [hs, b1_some, if_neg (by decide), in_f (by rw [jl1, jl60]; omega), b1_some, if_pos rfl]
/-! NEEDS, AIMS -/
theorem needM {t : SS} {a0 a1 : Int32} {n : Nat} (ha : ¬ a0 < 0) (c : 1 ≤ (a0 / 100).toInt ∧ (a0 / 100).toInt ≤ 9) (c2 : ¬ a0 % 100 = 0) (b : 0 ≤ a1.toInt ∧ a1.toInt ≤ 99) (h2 : ¬ zS t 59 67 = 10) (h3 : 0 ≤ (zS t 59 67).toInt ∧ (zS t 59 67).toInt < 10) (en : n = (zS t 59 67).toInt.toNat) : f_X12_need t a0 a1 = some (zS t 59 67 + 1, pS (pI (pI (pI t 106 n (a0 / 100)) 107 n (a0 % 100)) 108 n a1) 59 67 (zS t 59 67 + 1)) := by
  have gn : inB (zS t 59 67) 10 := ⟨by omega, by omega⟩
  unfold f_X12_need
  rw [if_neg ha, in_t (by rw [jl1, jl9]; omega), b1_some, if_neg (by decide), if_neg c2, in_t (by rw [jl0, jl99]; omega), b1_some, if_neg (by decide), if_neg h2]
  dsimp only [st, vl]
  rw [gd_t gn, gd_t (show inB (zS (pI t 106 (zS t 59 67).toInt.toNat (a0 / 100)) 59 67) 10 from gn), gd_t (show inB (zS (pI (pI t 106 (zS t 59 67).toInt.toNat (a0 / 100)) 107 (zS (pI t 106 (zS t 59 67).toInt.toNat (a0 / 100)) 59 67).toInt.toNat (a0 % 100)) 59 67) 10 from gn)]
  rw [en]
  rfl
theorem needX {s : SS} {x y z : Int32} {n : Nat} (h3 : 0 ≤ (zS s 34 3).toInt ∧ (zS s 34 3).toInt < 10) (en : n = (zS s 34 3).toInt.toNat) : f_X6_needTold s x y z = some (zS s 34 3 + 1, pS (pI (pI (pI s 35 n x) 36 n y) 37 n z) 34 3 (zS s 34 3 + 1)) := by
  have gn : inB (zS s 34 3) 10 := ⟨by omega, by omega⟩
  unfold f_X6_needTold
  rw [if_pos (by rw [jlt, jl10]; omega)]
  dsimp only [st, vl]
  rw [gd_t gn, gd_t (show inB (zS (pI s 35 (zS s 34 3).toInt.toNat x) 34 3) 10 from gn), gd_t (show inB (zS (pI (pI s 35 (zS s 34 3).toInt.toNat x) 36 (zS (pI s 35 (zS s 34 3).toInt.toNat x) 34 3).toInt.toNat y) 34 3) 10 from gn)]
  rw [en]
  rfl
theorem sa_need {s : SS} (G : GA s) (a0 : Int32) (a1 : Int32) : ∃ (rx : Int32) (s1 : SS) (rm : Int32) (s2 : SS), f_X11_need s a0 a1 = some (rx, s1) ∧ f_X12_need s1 a0 a1 = some (rm, s2) ∧ GA s2 ∧ FrB s s2 ∧ rx = rm := by
  have e := G.2.1.2.2.2.2.1
  have hf : 0 ≤ (zS s 34 3).toInt ∧ (zS s 34 3).toInt ≤ 10 := G.1.f (q := 34) (k := 3) rfl
  by_cases c : 100 ≤ a0.toInt ∧ a0.toInt ≤ 999
  · have hp : 0 ≤ a0.toInt := by omega
    have ed : (a0 / 100).toInt = a0.toInt / 100 := by rw [jd100, if_pos hp]
    have em : (a0 % 100).toInt = a0.toInt % 100 := by rw [jm100, if_pos hp]
    have n0 : ¬ a0 < 0 := by rw [jlt, jl0]; omega
    have nx : ¬ a0 < 100 ∧ ¬ 999 < a0 := ⟨by rw [jlt, jl100]; omega, by rw [jlt, jl999]; omega⟩
    have cd : 1 ≤ (a0 / 100).toInt ∧ (a0 / 100).toInt ≤ 9 := by omega
    by_cases c2 : a0 % 100 = 0
    · refine ⟨-1, s, -1, s, ?_, ?_, G, FrB.rf, rfl⟩
      · unfold f_X11_need
        rw [if_neg nx.1, if_neg nx.2, if_pos c2]
      · unfold f_X12_need
        rw [if_neg n0, in_t (by rw [jl1, jl9]; omega), b1_some, if_neg (by decide), if_pos c2]
    by_cases b : 0 ≤ a1.toInt ∧ a1.toInt ≤ 99
    · have bx : ¬ a1 < 0 ∧ ¬ 99 < a1 := ⟨by rw [jlt, jl0]; omega, by rw [jlt, jl99]; omega⟩
      by_cases d : (zS s 34 3).toInt < 10
      · have n1 : (zS s 34 3 + 1).toInt = (zS s 34 3).toInt + 1 := by rw [i32_add (by rw [jl1]; omega) (by rw [jl1]; omega), jl1]
        obtain ⟨n, en⟩ : ∃ n, n = (zS s 34 3).toInt.toNat := ⟨_, rfl⟩
        have f67 : zS (pS (pI (pI (pI s 35 n (a0 / 100)) 36 n (a0 % 100)) 37 n a1) 34 3 (zS s 34 3 + 1)) 59 67 = zS s 34 3 := e.symm
        refine ⟨zS s 34 3 + 1, pS (pI (pI (pI s 35 n (a0 / 100)) 36 n (a0 % 100)) 37 n a1) 34 3 (zS s 34 3 + 1), _, _, ?_, needM (n := n) n0 cd c2 b (fun z => by rw [f67] at z; rw [z, jl10] at d; omega) (by rw [f67]; omega) (by rw [f67]; exact en), ⟨?_, ?_⟩, (((((((FrB.rf.pI (by decide)).pI (by decide)).pI (by decide)).pS (by decide)).pI (by decide)).pI (by decide)).pI (by decide)).pS (by decide), ?_⟩
        · unfold f_X11_need
          rw [if_neg nx.1, if_neg nx.2, if_neg c2, if_neg bx.1, if_neg bx.2, needX ⟨hf.1, d⟩ en]
          rfl
        · rw [f67]
          exact (((((((G.1.wI (q := 35) (by decide) trivial).wI (q := 36) (by decide) trivial).wI (q := 37) (by decide) trivial).wF (q := 34) (k := 3) (by decide) (by decide) ⟨by omega, by omega⟩).wI (q := 106) (by decide) ⟨by omega, by omega⟩).wI (q := 107) (by decide) ⟨by omega, by omega⟩).wI (q := 108) (by decide) ⟨by omega, by omega⟩).wF (q := 59) (k := 67) (by decide) (by decide) ⟨by omega, by omega⟩
        · rw [f67]
          refine RG.cnt G.2 (fun q k h h1 h2 h3 h4 h5 h6 => ?_) G.2.1.2.1 rfl G.2.1.2.2.2.2.2 (fun q j h => ?_) (fun _ _ _ => rfl) (fun _ => rfl)
          · rw [zS_pS, if_neg h4, zS_pI, zS_pI, zS_pI, zS_pS, if_neg h3, zS_pI, zS_pI, zS_pI]
          · rw [zI_pS, zIf h (by decide), zIf h (by decide), zIf h (by decide), zI_pS, zIf h (by decide), zIf h (by decide), zIf h (by decide)]
        · rw [f67]
      · refine ⟨-3, s, -3, s, ?_, ?_, G, FrB.rf, rfl⟩
        · unfold f_X11_need f_X6_needTold
          rw [if_neg nx.1, if_neg nx.2, if_neg c2, if_neg bx.1, if_neg bx.2, if_neg (by rw [jlt, jl10]; exact d)]
          rfl
        · unfold f_X12_need
          rw [if_neg n0, in_t (by rw [jl1, jl9]; omega), b1_some, if_neg (by decide), if_neg c2, in_t (by rw [jl0, jl99]; omega), b1_some, if_neg (by decide), if_pos (by rw [← e]; exact Int32.toInt_inj.1 (by rw [jl10]; omega))]
    · refine ⟨-1, s, -1, s, ?_, ?_, G, FrB.rf, rfl⟩
      · unfold f_X11_need
        rw [if_neg nx.1, if_neg nx.2, if_neg c2]
        by_cases h : a1 < 0
        · rw [if_pos h]
        · rw [if_neg h, if_pos (by rw [jlt, jl99]; rw [jlt, jl0] at h; omega)]
      · unfold f_X12_need
        rw [if_neg n0, in_t (by rw [jl1, jl9]; omega), b1_some, if_neg (by decide), if_neg c2, in_f (by rw [jl0, jl99]; omega), b1_some, if_pos rfl]
  · refine ⟨-1, s, -1, s, ?_, ?_, G, FrB.rf, rfl⟩
    · unfold f_X11_need
      by_cases h : a0 < 100
      · rw [if_pos h]
      · rw [if_neg h, if_pos (by rw [jlt, jl999]; rw [jlt, jl100] at h; omega)]
    · unfold f_X12_need
      by_cases h : a0 < 0
      · rw [if_pos h]
      · have hp : 0 ≤ a0.toInt := by rw [jlt, jl0] at h; omega
        have ed : (a0 / 100).toInt = a0.toInt / 100 := by rw [jd100, if_pos hp]
        rw [if_neg h, in_f (by rw [jl1, jl9]; omega), b1_some, if_pos rfl]
theorem aimM {t : SS} {a0 a1 : Int32} {n : Nat} (c : 0 ≤ a0.toInt ∧ a0.toInt ≤ 31) (b : 0 ≤ a1.toInt ∧ a1.toInt ≤ 9) (h2 : ¬ zS t 59 76 = 6) (h3 : 0 ≤ (zS t 59 76).toInt ∧ (zS t 59 76).toInt < 6) (en : n = (zS t 59 76).toInt.toNat) : f_X12_aim t a0 a1 = some (zS t 59 76 + 1, pS (pI t 112 n a1) 59 76 (zS t 59 76 + 1)) := by
  have gn : inB (zS t 59 76) 6 := ⟨by omega, by omega⟩
  unfold f_X12_aim
  rw [in_t (by rw [jl0, jl31]; omega), b1_some, if_neg (by decide), in_t (by rw [jl0, jl9]; omega), b1_some, if_neg (by decide), if_neg h2]
  dsimp only [st, vl]
  rw [gd_t gn, en]
  rfl
theorem sa_aim {s : SS} (G : GA s) (a0 : Int32) (a1 : Int32) : ∃ (rx : Int32) (s1 : SS) (rm : Int32) (s2 : SS), f_X11_aim s a0 a1 = some (rx, s1) ∧ f_X12_aim s1 a0 a1 = some (rm, s2) ∧ GA s2 ∧ FrB s s2 ∧ rx = rm := by
  have e := G.2.1.2.2.2.2.2
  have hf : 0 ≤ (zS s 34 9).toInt ∧ (zS s 34 9).toInt ≤ 6 := G.1.f (q := 34) (k := 9) rfl
  by_cases c : 0 ≤ a0.toInt ∧ a0.toInt ≤ 31
  · have cx : ¬ a0 < 0 ∧ a0 < 32 := ⟨by rw [jlt, jl0]; omega, by rw [jlt, jl32]; omega⟩
    by_cases b : 0 ≤ a1.toInt ∧ a1.toInt ≤ 9
    · have bx : ¬ a1 < 0 ∧ ¬ 9 < a1 := ⟨by rw [jlt, jl0]; omega, by rw [jlt, jl9]; omega⟩
      by_cases d : (zS s 34 9).toInt < 6
      · have n1 : (zS s 34 9 + 1).toInt = (zS s 34 9).toInt + 1 := by rw [i32_add (by rw [jl1]; omega) (by rw [jl1]; omega), jl1]
        obtain ⟨n, en⟩ : ∃ n, n = (zS s 34 9).toInt.toNat := ⟨_, rfl⟩
        have f76 : zS (pS (pI s 41 n a1) 34 9 (zS s 34 9 + 1)) 59 76 = zS s 34 9 := e.symm
        refine ⟨zS s 34 9 + 1, pS (pI s 41 n a1) 34 9 (zS s 34 9 + 1), _, _, ?_, aimM (n := n) c b (fun z => by rw [f76] at z; rw [z, jl6] at d; omega) (by rw [f76]; omega) (by rw [f76]; exact en), ⟨?_, ?_⟩, (((FrB.rf.pI (by decide)).pS (by decide)).pI (by decide)).pS (by decide), ?_⟩
        · unfold f_X11_aim f_X6_aimTold
          rw [if_neg cx.1, if_pos cx.2, if_neg bx.1, if_neg bx.2, if_pos (by rw [jlt, jl6]; exact d)]
          dsimp only [st, vl]
          rw [gd_t ⟨by omega, by omega⟩, en]
          rfl
        · rw [f76]
          exact (((G.1.wI (q := 41) (by decide) trivial).wF (q := 34) (k := 9) (by decide) (by decide) ⟨by omega, by omega⟩).wI (q := 112) (by decide) trivial).wF (q := 59) (k := 76) (by decide) (by decide) ⟨by omega, by omega⟩
        · rw [f76]
          refine RG.cnt G.2 (fun q k h h1 h2 h3 h4 h5 h6 => ?_) G.2.1.2.1 G.2.1.2.2.2.2.1 rfl (fun q j h => ?_) (fun _ _ _ => rfl) (fun _ => rfl)
          · rw [zS_pS, if_neg h6, zS_pI, zS_pS, if_neg h5, zS_pI]
          · rw [zI_pS, zIf h (by decide), zI_pS, zIf h (by decide)]
        · rw [f76]
      · refine ⟨-3, s, -3, s, ?_, ?_, G, FrB.rf, rfl⟩
        · unfold f_X11_aim f_X6_aimTold
          rw [if_neg cx.1, if_pos cx.2, if_neg bx.1, if_neg bx.2, if_neg (by rw [jlt, jl6]; exact d)]
          rfl
        · unfold f_X12_aim
          rw [in_t (by rw [jl0, jl31]; omega), b1_some, if_neg (by decide), in_t (by rw [jl0, jl9]; omega), b1_some, if_neg (by decide), if_pos (by rw [← e]; exact Int32.toInt_inj.1 (by rw [jl6]; omega))]
    · refine ⟨-1, s, -1, s, ?_, ?_, G, FrB.rf, rfl⟩
      · unfold f_X11_aim
        rw [if_neg cx.1, if_pos cx.2]
        by_cases h : a1 < 0
        · rw [if_pos h]
        · rw [if_neg h, if_pos (by rw [jlt, jl9]; rw [jlt, jl0] at h; omega)]
      · unfold f_X12_aim
        rw [in_t (by rw [jl0, jl31]; omega), b1_some, if_neg (by decide), in_f (by rw [jl0, jl9]; omega), b1_some, if_pos rfl]
  · refine ⟨-1, s, -1, s, ?_, ?_, G, FrB.rf, rfl⟩
    · unfold f_X11_aim
      by_cases h : a0 < 0
      · rw [if_pos h]
      · rw [if_neg h, if_neg (by rw [jlt, jl32]; rw [jlt, jl0] at h; omega)]
    · unfold f_X12_aim
      rw [in_f (by rw [jl0, jl31]; omega), b1_some, if_pos rfl]
/-! ORDER, AIMED: the counters go back -/
theorem sa_order {s : SS} (G : GA s) : ∃ (rx : Int32) (s1 : SS) (rm : Int32) (s2 : SS), f_X11_order s = some (rx, s1) ∧ f_X12_order s1 = some (rm, s2) ∧ GA s2 ∧ FrB s s2 ∧ True := by
  have e := G.2.1.2.2.2.2.1
  by_cases c : zS s 34 3 = 0
  · refine ⟨-1, s, -1, s, ?_, ?_, G, FrB.rf, trivial⟩
    · unfold f_X11_order
      rw [if_pos c]
    · unfold f_X12_order
      rw [if_pos (by rw [← e]; exact c)]
  obtain ⟨⟨rx, s1⟩, ex, t, K1, e1⟩ := w_X6_leastLateness (Lk.rf G.1)
  have e1' : s1 = pS t 34 3 0 := e1
  have I1 : Iv s1 := by
    rw [e1']
    exact K1.1.wF (q := 34) (k := 3) (by decide) (by decide) ⟨by decide, by decide⟩
  have F1 := K1.2.2.a
  have f67 : zS s1 59 67 = zS s 34 3 := by
    rw [e1', zS_pS, if_neg (by decide), F1.1 59 67 rfl]
    exact e.symm
  obtain ⟨⟨rm, s2⟩, em, t2, K2, e2⟩ := w_X12_order (Lk.rf I1) (by rw [f67]; exact c)
  have e2' : s2 = pS t2 59 67 0 := e2
  have F2 := K2.2.2.a
  refine ⟨rx, s1, rm, s2, ?_, em, ⟨?_, ?_⟩, by rw [e2']; exact FrB.pS (FrB.tr (by rw [e1']; exact FrB.pS K1.2.2.b (by decide)) K2.2.2.b) (by decide), trivial⟩
  · unfold f_X11_order
    rw [if_neg c, ex]
    rfl
  · rw [e2']
    exact K2.1.wF (q := 59) (k := 67) (by decide) (by decide) ⟨by decide, by decide⟩
  · have h : ∀ q k, fSA q k = true → ¬ (q = 34 ∧ k = 3) → ¬ (q = 59 ∧ k = 67) → zS s2 q k = zS s q k := fun q k h h3 h4 => by rw [e2', zS_pS, if_neg h4, F2.1 q k h, e1', zS_pS, if_neg h3, F1.1 q k h]
    refine RG.cnt G.2 (fun q k h0 h1 h2 h3 h4 h5 h6 => h q k h0 h3 h4) ?_ ?_ ?_ (fun q j h0 => ?_) (fun q j h0 => ?_) (fun j => ?_)
    · rw [h 0 5 rfl (by decide) (by decide), h 59 30 rfl (by decide) (by decide)]
      exact G.2.1.2.1
    · rw [e2', zS_pS, if_neg (by decide), zS_pS, if_pos ⟨rfl, rfl⟩, F2.1 34 3 rfl, e1', zS_pS, if_pos ⟨rfl, rfl⟩]
    · rw [h 34 9 rfl (by decide) (by decide), h 59 76 rfl (by decide) (by decide)]
      exact G.2.1.2.2.2.2.2
    · rw [e2', zI_pS, F2.2.1 q j h0, e1', zI_pS, F1.2.1 q j h0]
    · rw [e2']
      show zJ t2 q j = _
      rw [F2.2.2 q j h0, e1']
      exact F1.2.2 q j h0
    · rw [e2']
      show zR t2 17 j = _
      rw [K2.zR_, e1']
      exact K1.zR_ 17 j
def AQ (s : SS) (a0 a1 a2 c : Int32) : Prop := (1 ≤ a0.toInt ∧ a0.toInt ≤ 4) ∧ (1 ≤ a1.toInt ∧ a1.toInt ≤ 60) ∧ (1 ≤ a2.toInt ∧ a2.toInt ≤ 2) ∧ ¬ c = 0 ∧ ¬ (a2 = 2 ∧ c < 2)
theorem aimedX {b0 s : SS} {a0 a1 a2 : Int32} (K : Lk b0 s) (h : AQ s a0 a1 a2 (zS s 34 9)) : Ok (f_X11_aimed s a0 a1 a2) (fun r => Zo b0 34 9 r.2) := by
  obtain ⟨h1, h2, h3, h4, h5⟩ := h
  unfold f_X11_aimed
  rw [if_neg (by rw [jlt, jl1]; omega), if_neg (by rw [jlt, jl4]; omega), yard_t h2, b1_some, if_neg (by decide), if_neg (by rw [jlt, jl1]; omega), if_neg (by rw [jlt, jl2]; omega), if_neg h4]
  have k8 : Ok (b1 (f_X6_weighPlaces s a0 a1) fun s10 => (jn (fun (s11 : SS) (t11_0 : Int32) => (st (pS s11 34 9 0) fun s12 => some (t11_0, s12))) fun k11 => (if a2 = (1 : Int32) then (bd (f_X6_soonestOne s10) fun r15 s15 => (k11 s15 r15)) else (bd (f_X6_soonestTwo s10) fun r14 s14 => (k11 s14 r14))))) (fun r => Zo b0 34 9 r.2) := by
    with_reducible refine Ok_b1 ((w_X6_weighPlaces K).mono (fun s10 K10 => ?_))
    with_reducible refine Ok_jn ?_
    with_reducible refine Ok_if (fun _ => ?_) (fun _ => ?_)
    · with_reducible refine Ok_bd ((w_X6_soonestOne K10).mono (fun r K => ?_))
      with_reducible refine Ok_st ?_
      exact Ok_some (Zo.mk K)
    · with_reducible refine Ok_bd ((w_X6_soonestTwo K10).mono (fun r K => ?_))
      with_reducible refine Ok_st ?_
      exact Ok_some (Zo.mk K)
  dsimp only [jn] at k8 ⊢
  by_cases c : a2 = 2
  · rw [if_pos c, if_neg (fun z => h5 ⟨c, z⟩)]
    exact k8
  · rw [if_neg c]
    exact k8
theorem aimedM {b0 s : SS} {a0 a1 a2 : Int32} (K : Lk b0 s) (h : AQ s a0 a1 a2 (zS s 59 76)) : Ok (f_X12_aimed s a0 a1 a2) (fun r => Zo b0 59 76 r.2) := by
  obtain ⟨h1, h2, h3, h4, h5⟩ := h
  unfold f_X12_aimed
  rw [in_t (by rw [jl1, jl4]; omega), b1_some, if_neg (by decide), in_t (by rw [jl1, jl60]; omega), b1_some, if_neg (by decide), in_t (by rw [jl1, jl2]; omega), b1_some, if_neg (by decide), if_neg h4]
  have k8 : Ok (f_X12_aimed_L61 (fun (s41 : SS) (x41_4 : Int32) => (st (pS s41 59 79 a2) fun s42 => (st (pS s42 59 76 0) fun s43 => some (x41_4, s43)))) a0 a1 a2 4000 s 2147483647 0) (fun r => Zo b0 59 76 r.2) := by
    refine w_X12_aimed_L61 (b0 := b0) h1 (fun s41 z0 K41 => ?_) 4000 s _ _ K (by decide) (by decide)
    with_reducible refine Ok_st ?_
    with_reducible refine Ok_st ?_
    exact Ok_some (Zo.mk (K41.wF (q := 59) (k := 79) (by decide) (by decide) (by decide) ⟨by omega, by omega⟩))
  dsimp only [jn]
  by_cases c : a2 = 2
  · rw [if_pos c, if_neg (fun z => h5 ⟨c, z⟩)]
    exact k8
  · rw [if_neg c]
    exact k8
theorem aimedNX {s : SS} {a0 a1 a2 : Int32} (h : ¬ AQ s a0 a1 a2 (zS s 34 9)) : ∃ v, f_X11_aimed s a0 a1 a2 = some (v, s) := by
  unfold f_X11_aimed
  by_cases c1 : a0 < 1
  · exact ⟨_, by rw [if_pos c1]⟩
  by_cases c2 : 4 < a0
  · exact ⟨_, by rw [if_neg c1, if_pos c2]⟩
  rw [if_neg c1, if_neg c2]
  rw [jlt, jl1] at c1
  rw [jlt, jl4] at c2
  by_cases c3 : 1 ≤ a1.toInt ∧ a1.toInt ≤ 60
  · rw [yard_t c3, b1_some, if_neg (by decide)]
    by_cases c4 : a2 < 1
    · exact ⟨_, by rw [if_pos c4]⟩
    by_cases c5 : 2 < a2
    · exact ⟨_, by rw [if_neg c4, if_pos c5]⟩
    rw [if_neg c4, if_neg c5]
    rw [jlt, jl1] at c4
    rw [jlt, jl2] at c5
    by_cases c6 : zS s 34 9 = 0
    · exact ⟨_, by rw [if_pos c6]⟩
    rw [if_neg c6]
    dsimp only [jn]
    by_cases c7 : a2 = 2 ∧ zS s 34 9 < 2
    · exact ⟨_, by rw [if_pos c7.1, if_pos c7.2]⟩
    · exact absurd ⟨⟨by omega, by omega⟩, c3, ⟨by omega, by omega⟩, c6, c7⟩ h
  · exact ⟨_, by rw [yard_f c3, b1_some, if_pos rfl]⟩
theorem aimedNM {s : SS} {a0 a1 a2 : Int32} (h : ¬ AQ s a0 a1 a2 (zS s 59 76)) : ∃ v, f_X12_aimed s a0 a1 a2 = some (v, s) := by
  unfold f_X12_aimed
  by_cases c1 : 1 ≤ a0.toInt ∧ a0.toInt ≤ 4
  · rw [in_t (by rw [jl1, jl4]; omega), b1_some, if_neg (by decide)]
    by_cases c3 : 1 ≤ a1.toInt ∧ a1.toInt ≤ 60
    · rw [in_t (by rw [jl1, jl60]; omega), b1_some, if_neg (by decide)]
      by_cases c4 : 1 ≤ a2.toInt ∧ a2.toInt ≤ 2
      · rw [in_t (by rw [jl1, jl2]; omega), b1_some, if_neg (by decide)]
        by_cases c6 : zS s 59 76 = 0
        · exact ⟨_, by rw [if_pos c6]⟩
        rw [if_neg c6]
        dsimp only [jn]
        by_cases c7 : a2 = 2 ∧ zS s 59 76 < 2
        · exact ⟨_, by rw [if_pos c7.1, if_pos c7.2]⟩
        · exact absurd ⟨c1, c3, c4, c6, c7⟩ h
      · exact ⟨_, by rw [in_f (by rw [jl1, jl2]; omega), b1_some, if_pos rfl]⟩
    · exact ⟨_, by rw [in_f (by rw [jl1, jl60]; omega), b1_some, if_pos rfl]⟩
  · exact ⟨_, by rw [in_f (by rw [jl1, jl4]; omega), b1_some, if_pos rfl]⟩
theorem sa_aimed {s : SS} (G : GA s) (a0 : Int32) (a1 : Int32) (a2 : Int32) : ∃ (rx : Int32) (s1 : SS) (rm : Int32) (s2 : SS), f_X11_aimed s a0 a1 a2 = some (rx, s1) ∧ f_X12_aimed s1 a0 a1 a2 = some (rm, s2) ∧ GA s2 ∧ FrB s s2 ∧ True := by
  have e := G.2.1.2.2.2.2.2
  by_cases c : AQ s a0 a1 a2 (zS s 34 9)
  · obtain ⟨⟨rx, s1⟩, ex, t, K1, e1⟩ := aimedX (Lk.rf G.1) c
    have e1' : s1 = pS t 34 9 0 := e1
    have I1 : Iv s1 := by
      rw [e1']
      exact K1.1.wF (q := 34) (k := 9) (by decide) (by decide) ⟨by decide, by decide⟩
    have F1 := K1.2.2.a
    have f76 : zS s1 59 76 = zS s 34 9 := by
      rw [e1', zS_pS, if_neg (by decide), F1.1 59 76 rfl]
      exact e.symm
    obtain ⟨⟨rm, s2⟩, em, t2, K2, e2⟩ := aimedM (Lk.rf I1) (a0 := a0) (a1 := a1) (a2 := a2) (by rw [f76]; exact c)
    have e2' : s2 = pS t2 59 76 0 := e2
    have F2 := K2.2.2.a
    refine ⟨rx, s1, rm, s2, ex, em, ⟨?_, ?_⟩, by rw [e2']; exact FrB.pS (FrB.tr (by rw [e1']; exact FrB.pS K1.2.2.b (by decide)) K2.2.2.b) (by decide), trivial⟩
    · rw [e2']
      exact K2.1.wF (q := 59) (k := 76) (by decide) (by decide) ⟨by decide, by decide⟩
    · have h : ∀ q k, fSA q k = true → ¬ (q = 34 ∧ k = 9) → ¬ (q = 59 ∧ k = 76) → zS s2 q k = zS s q k := fun q k h h3 h4 => by rw [e2', zS_pS, if_neg h4, F2.1 q k h, e1', zS_pS, if_neg h3, F1.1 q k h]
      refine RG.cnt G.2 (fun q k h0 h1 h2 h3 h4 h5 h6 => h q k h0 h5 h6) ?_ ?_ ?_ (fun q j h0 => ?_) (fun q j h0 => ?_) (fun j => ?_)
      · rw [h 0 5 rfl (by decide) (by decide), h 59 30 rfl (by decide) (by decide)]
        exact G.2.1.2.1
      · rw [h 34 3 rfl (by decide) (by decide), h 59 67 rfl (by decide) (by decide)]
        exact G.2.1.2.2.2.2.1
      · rw [e2', zS_pS, if_neg (by decide), zS_pS, if_pos ⟨rfl, rfl⟩, F2.1 34 9 rfl, e1', zS_pS, if_pos ⟨rfl, rfl⟩]
      · rw [e2', zI_pS, F2.2.1 q j h0, e1', zI_pS, F1.2.1 q j h0]
      · rw [e2']
        show zJ t2 q j = _
        rw [F2.2.2 q j h0, e1']
        exact F1.2.2 q j h0
      · rw [e2']
        show zR t2 17 j = _
        rw [K2.zR_, e1']
        exact K1.zR_ 17 j
  · obtain ⟨v, ex⟩ := aimedNX c
    obtain ⟨w, em⟩ := aimedNM (s := s) (a0 := a0) (a1 := a1) (a2 := a2) (by rw [← e]; exact c)
    exact ⟨v, s, w, s, ex, em, G, FrB.rf, trivial⟩
/-! SHELVES -/
theorem RG.sh {s r : SS} {i0 : Nat} (R : RG s) (hS : ∀ q k, fSA q k = true → q ≠ 47 + 2 * i0 → zS r q k = zS s q k) (hI : ∀ q j, fIA q = true → q ≠ 120 → q ≠ 121 → q ≠ 123 → zI r q j = zI s q j) (h120 : ∀ i, i ≠ i0 → zI r 120 i = zI s 120 i) (h121 : ∀ i, i ≠ i0 → zI r 121 i = zI s 121 i) (h123 : ∀ i j, i ≠ i0 → j < 60 → zI r 123 (60 * i + j) = zI s 123 (60 * i + j)) (hJ : ∀ i j, i ≠ i0 → i < 6 → zJ r (48 + 2 * i) j = zJ s (48 + 2 * i) j) (h122 : ∀ i j, i ≠ i0 → j < 60 → zJ r 122 (60 * i + j) = zJ s 122 (60 * i + j)) (hR : ∀ j, zR r 17 j = zR s 17 j) (hi0 : i0 < 6) (hN : SR r i0) : RG r := by
  obtain ⟨R1, R2, R3, R4, R5⟩ := R
  have e3 : zS r 15 3 = zS s 15 3 := hS 15 3 rfl (by omega)
  refine ⟨?_, ?_, ?_, ?_, ?_⟩
  · unfold RC
    rw [hS 0 15 rfl (by omega), hS 0 5 rfl (by omega), e3, hS 15 5 rfl (by omega), hS 34 3 rfl (by omega), hS 34 9 rfl (by omega), hS 59 29 rfl (by omega), hS 59 30 rfl (by omega), hS 59 4 rfl (by omega), hS 59 21 rfl (by omega), hS 59 67 rfl (by omega), hS 59 76 rfl (by omega)]
    exact R1
  · exact R2.c (fun q i h => hI q i (by rcases h with rfl | rfl | rfl | rfl | rfl | rfl <;> rfl) (by omega) (by omega) (by omega))
  · refine R3.c (fun i k hi hk => hS _ _ ?_ (by omega)) (fun i => hI 78 i rfl (by decide) (by decide) (by decide)) (fun i => hI 79 i rfl (by decide) (by decide) (by decide))
    have h : i = 0 ∨ i = 1 ∨ i = 2 := by omega
    have h' : k = 0 ∨ k = 1 := by omega
    rcases h with rfl | rfl | rfl <;> rcases h' with rfl | rfl <;> rfl
  · exact R4.c e3 (fun i => hI 16 i rfl (by decide) (by decide) (by decide)) hR
  · intro i hi
    by_cases c : i = i0
    · rw [c]; exact hN
    · have h : i = 0 ∨ i = 1 ∨ i = 2 ∨ i = 3 ∨ i = 4 ∨ i = 5 := by omega
      refine (R5 i hi).c (fun k hk => hS _ _ ?_ (by omega)) (h120 i c) (h121 i c) (fun j hj => h123 i j c hj) (fun j _ => hJ i j c hi) (fun j hj => h122 i j c hj) (by rw [e3]; exact Int.le_refl _)
      have h' : k = 0 ∨ k = 1 ∨ k = 2 ∨ k = 3 := by omega
      rcases h with rfl | rfl | rfl | rfl | rfl | rfl <;> rcases h' with rfl | rfl | rfl | rfl <;> rfl
theorem shelf_t {s : SS} {a : Int32} (I : Iv s) (h : 0 ≤ a.toInt ∧ a.toInt < 6) : f_X11_shelfOf s a = some (some (47 + 2 * a.toInt.toNat)) := by
  unfold f_X11_shelfOf
  rw [if_neg (by rw [jlt, jl0]; omega), if_pos (by rw [jlt, jl6]; omega), gd_t ⟨h.1, h.2⟩, I.1.1.2.2.2.2.2.2 _ (by omega)]
  rfl
theorem shelf_f {s : SS} {a : Int32} (h : ¬ (0 ≤ a.toInt ∧ a.toInt < 6)) : f_X11_shelfOf s a = some none := by
  unfold f_X11_shelfOf
  by_cases c : a < 0
  · rw [if_pos c]
  · rw [if_neg c, if_neg (by rw [jlt, jl6]; rw [jlt, jl0] at c; omega)]
theorem issh_t {a : Int32} (h : 0 ≤ a.toInt ∧ a.toInt < 6) : f_X12_isShelf a = some 1 := by
  unfold f_X12_isShelf
  rw [in_t (by rw [jl0, jl5]; omega)]
  rfl
theorem issh_f {a : Int32} (h : ¬ (0 ≤ a.toInt ∧ a.toInt < 6)) : f_X12_isShelf a = some 0 := by
  unfold f_X12_isShelf
  rw [in_f (by rw [jl0, jl5]; omega)]
  rfl
theorem okVi {i : Nat} (h : i < 6) : okV (47 + 2 * i) := ⟨by omega, by omega, by omega⟩
theorem fS_vk {q k i : Nat} (h : fSA q k = true) (hq : q ≠ 47 + 2 * i) {s : SS} {v : Int32} {k' : Nat} : zS (pS s (47 + 2 * i) k' v) q k = zS s q k := by rw [zS_pS, if_neg (fun z => hq z.1)]
theorem keepM {t : SS} {a0 a1 : Int32} (I : Iv t) (c : 0 ≤ a0.toInt ∧ a0.toInt < 6) (h : a1 = -1 ∨ (0 ≤ a1.toInt ∧ a1.toInt < (zS t 59 4).toInt)) : f_X12_keep t a0 a1 = some (1, pI t 120 a0.toInt.toNat a1) := by
  unfold f_X12_keep
  rw [issh_t c, b1_some, if_neg (by decide)]
  dsimp only [jn, st]
  by_cases d : a1 = -1
  · rw [if_pos d, gd_t ⟨c.1, c.2⟩]
  · rw [if_neg d, body_t I (h.resolve_left d), b1_some, if_neg (by decide), gd_t ⟨c.1, c.2⟩]
theorem sa_keep {s : SS} (G : GA s) (a0 : Int32) (a1 : Int32) : ∃ (rx : Int32) (s1 : SS) (rm : Int32) (s2 : SS), f_X11_keep s a0 a1 = some (rx, s1) ∧ f_X12_keep s1 a0 a1 = some (rm, s2) ∧ GA s2 ∧ FrB s s2 ∧ rx = rm := by
  have e := G.2.1.2.2.1
  have hf : 0 ≤ (zS s 15 3).toInt ∧ (zS s 15 3).toInt ≤ 120 := G.1.f (q := 15) (k := 3) rfl
  by_cases c : 0 ≤ a0.toInt ∧ a0.toInt < 6
  · obtain ⟨i, ei⟩ : ∃ i, i = a0.toInt.toNat := ⟨_, rfl⟩
    have hi : i < 6 := by omega
    by_cases d : a1 = -1 ∨ (0 ≤ a1.toInt ∧ a1.toInt < (zS s 15 3).toInt)
    · obtain ⟨w, ew⟩ : ∃ w : Int32, w = if a1 = -1 then 0 else 1 := ⟨_, rfl⟩
      have I1 : Iv (pS (pS s (47 + 2 * i) 0 w) (47 + 2 * i) 1 a1) := (G.1.wV (okVi hi) (k := 0) trivial).wV (okVi hi) (k := 1) trivial
      have f4 : ∀ q k, q ≠ 47 + 2 * i → zS (pS (pS s (47 + 2 * i) 0 w) (47 + 2 * i) 1 a1) q k = zS s q k := fun q k h => by rw [zS_pS, if_neg (fun z => h z.1), zS_pS, if_neg (fun z => h z.1)]
      refine ⟨1, pS (pS s (47 + 2 * i) 0 w) (47 + 2 * i) 1 a1, 1, pI (pS (pS s (47 + 2 * i) 0 w) (47 + 2 * i) 1 a1) 120 i a1, ?_, ?_, ⟨?_, ?_⟩, ((FrB.rf.pS (fSB_d (by omega))).pS (fSB_d (by omega))).pI (by decide), rfl⟩
      · unfold f_X11_keep
        rw [shelf_t G.1 c, b1_some, on_some, ← ei]
        dsimp only [jn, st]
        by_cases h : a1 = -1
        · rw [if_pos h] at ew
          rw [if_pos h, if_pos h, ew]
        · rw [if_neg h] at ew
          have b := G.1.a (q := 16) (i := a1.toInt.toNat) rfl
          rw [if_neg h, kind_t G.1 (d.resolve_left h), b1_some, if_neg (by rw [jlt, jl0]; have := b.1; omega), if_neg h, ew]
      · have := keepM I1 c (a1 := a1) (by rw [f4 59 4 (by omega), ← e]; exact d)
        rw [ei] at this ⊢
        exact this
      · refine I1.wI (q := 120) (by decide) ?_
        rcases d with d | d
        · rw [d]; exact ⟨by decide, by decide⟩
        · exact ⟨by omega, by omega⟩
      · refine RG.sh (i0 := i) G.2 (fun q k _ h => ?_) (fun q j _ h _ _ => ?_) (fun j h => ?_) (fun _ _ => rfl) (fun _ _ _ _ => rfl) (fun _ _ _ _ => rfl) (fun _ _ _ _ => rfl) (fun _ => rfl) hi ?_
        · rw [zS_pI, f4 q k h]
        · rw [zI_pI, if_neg (fun z => h z.1)]; rfl
        · rw [zI_pI, if_neg (fun z => h z.2)]; rfl
        · have z0 : zS (pI (pS (pS s (47 + 2 * i) 0 w) (47 + 2 * i) 1 a1) 120 i a1) (47 + 2 * i) 0 = w := by rw [zS_pI, zS_pS, if_neg (fun z => absurd z.2 (by decide)), zS_pS, if_pos ⟨rfl, rfl⟩]
          have z1 : zS (pI (pS (pS s (47 + 2 * i) 0 w) (47 + 2 * i) 1 a1) 120 i a1) (47 + 2 * i) 1 = a1 := by rw [zS_pI, zS_pS, if_pos ⟨rfl, rfl⟩]
          have z2 : zI (pI (pS (pS s (47 + 2 * i) 0 w) (47 + 2 * i) 1 a1) 120 i a1) 120 i = a1 := by rw [zI_pI, if_pos ⟨rfl, rfl⟩]
          have z3 : zS (pI (pS (pS s (47 + 2 * i) 0 w) (47 + 2 * i) 1 a1) 120 i a1) 15 3 = zS s 15 3 := by rw [zS_pI, f4 15 3 (by omega)]
          unfold SR
          rw [z0, z1, z2, z3]
          by_cases h : a1 = -1
          · rw [if_pos h] at ew
            exact Or.inl ⟨ew, h⟩
          · rw [if_neg h] at ew
            have := d.resolve_left h
            exact Or.inr (Or.inl ⟨ew, rfl, this.1, this.2⟩)
    · have d1 : ¬ a1 = -1 := fun z => d (Or.inl z)
      refine ⟨-1, s, -1, s, ?_, ?_, G, FrB.rf, rfl⟩
      · unfold f_X11_keep
        rw [shelf_t G.1 c, b1_some, on_some]
        dsimp only [jn, st]
        rw [if_neg d1, kind_f (fun z => d (Or.inr z)), b1_some, if_pos (by decide)]
      · unfold f_X12_keep
        rw [issh_t c, b1_some, if_neg (by decide)]
        dsimp only [jn, st]
        rw [if_neg d1, body_f G.1 (by rw [← e]; exact fun z => d (Or.inr z)), b1_some, if_pos rfl]
  · refine ⟨-1, s, -1, s, ?_, ?_, G, FrB.rf, rfl⟩
    · unfold f_X11_keep
      rw [shelf_f c, b1_some, on_none]
    · unfold f_X12_keep
      rw [issh_f c, b1_some, if_pos rfl]
/-- the reference's row is made empty -/
theorem rowL {a : Int32} {i : Nat} (ha : a = nI i) (hi : i < 6) : ∀ (n : Nat) (t : SS) (j : Nat), j ≤ 60 → 60 - j < n → ∃ u, f_X12_row_L54 a n t (nI (60 * i + j)) = some (1, u) ∧ u.1 = t.1 ∧ u.2.2.2 = t.2.2.2 ∧ (∀ q b, zI u q b = if q = 123 ∧ 60 * i + j ≤ b ∧ b < 60 * i + 60 then 0 else zI t q b) ∧ (∀ q b, zJ u q b = if q = 122 ∧ 60 * i + j ≤ b ∧ b < 60 * i + 60 then 0 else zJ t q b) ∧ (Iv t → Iv u) := by
  intro n
  induction n with
  | zero => intro t j h1 h2; omega
  | succ n ih =>
    intro t j h1 h2
    have tj : (nI (60 * i + j)).toInt = ((60 * i + j : Nat) : Int) := nI_t (by omega)
    have e60 : ((60 : Int32) * a + 60).toInt = ((60 * i + 60 : Nat) : Int) := by
      have j60 : (60 : Int32).toInt = 60 := rfl
      have ti : a.toInt = (i : Int) := by rw [ha]; exact nI_t (by omega)
      have m1 : ((60 : Int32) * a).toInt = 60 * a.toInt := by rw [i32_mul (by rw [j60]; omega) (by rw [j60]; omega), j60]
      rw [i32_add (by rw [m1, j60]; omega) (by rw [m1, j60]; omega), m1, j60]
      omega
    have un : f_X12_row_L54 a (n + 1) t (nI (60 * i + j)) = f_X12_row_L54_b a (f_X12_row_L54 a n) t (nI (60 * i + j)) := rfl
    rw [un]
    unfold f_X12_row_L54_b
    by_cases c : j < 60
    · rw [if_pos (by rw [jlt, tj, e60]; omega), gd_t ⟨by omega, by omega⟩]
      dsimp only [st, vl]
      rw [gd_t ⟨by omega, by omega⟩]
      have k1 : nI (60 * i + j) + 1 = nI (60 * i + (j + 1)) := by
        apply Int32.toInt_inj.1
        rw [i32_add (by rw [tj, jl1]; omega) (by rw [tj, jl1]; omega), tj, jl1, nI_t (by omega)]
        omega
      rw [k1, show (nI (60 * i + j)).toInt.toNat = 60 * i + j by omega]
      obtain ⟨u, h3, h4, h5, h6, h7, h8⟩ := ih (pI (pJ t 122 (60 * i + j) 0) 123 (60 * i + j) (0 &&& 1)) (j + 1) (by omega) (by omega)
      refine ⟨u, h3, h4, h5, fun q b => ?_, fun q b => ?_, fun I => h8 ((I.wJ).wI (q := 123) (by decide) trivial)⟩
      · rw [h6, zI_pI]
        by_cases d : q = 123 ∧ 60 * i + (j + 1) ≤ b ∧ b < 60 * i + 60
        · rw [if_pos d, if_pos ⟨d.1, by omega, d.2.2⟩]
        · rw [if_neg d]
          by_cases d2 : q = 123 ∧ b = 60 * i + j
          · rw [if_pos d2, if_pos ⟨d2.1, by omega, by omega⟩]
            decide
          · rw [if_neg d2, if_neg (by omega)]
            rfl
      · rw [h7]
        show (if q = 122 ∧ 60 * i + (j + 1) ≤ b ∧ b < 60 * i + 60 then 0 else (if q = 122 ∧ b = 60 * i + j then 0 else zJ t q b)) = _
        by_cases d : q = 122 ∧ 60 * i + (j + 1) ≤ b ∧ b < 60 * i + 60
        · rw [if_pos d, if_pos ⟨d.1, by omega, d.2.2⟩]
        · rw [if_neg d]
          by_cases d2 : q = 122 ∧ b = 60 * i + j
          · rw [if_pos d2, if_pos ⟨d2.1, by omega, by omega⟩]
          · rw [if_neg d2, if_neg (by omega)]
    · rw [if_neg (by rw [jlt, tj, e60]; omega)]
      refine ⟨t, rfl, rfl, rfl, fun q b => ?_, fun q b => ?_, fun I => I⟩
      · rw [if_neg (by omega)]
      · rw [if_neg (by omega)]
theorem sa_row {s : SS} (G : GA s) (a0 : Int32) (a1 : Int32) (a2 : Int32) : ∃ (rx : Int32) (s1 : SS) (rm : Int32) (s2 : SS), f_X11_row s a0 a1 a2 = some (rx, s1) ∧ f_X12_row s1 a0 a1 a2 = some (rm, s2) ∧ GA s2 ∧ FrB s s2 ∧ rx = rm := by
  by_cases c : 0 ≤ a0.toInt ∧ a0.toInt < 6
  · by_cases b : 0 ≤ a1.toInt ∧ a1.toInt ≤ 4
    · have bx : ¬ a1 < 0 ∧ ¬ 4 < a1 := ⟨by rw [jlt, jl0]; omega, by rw [jlt, jl4]; omega⟩
      by_cases d : 60 < a2
      · refine ⟨-1, s, -1, s, ?_, ?_, G, FrB.rf, rfl⟩
        · unfold f_X11_row
          rw [shelf_t G.1 c, b1_some, on_some, if_neg bx.1, if_neg bx.2, if_pos d]
        · unfold f_X12_row
          rw [issh_t c, b1_some, if_neg (by decide), in_t (by rw [jl0, jl4]; omega), b1_some, if_neg (by decide), if_pos d]
      by_cases d2 : a2 < 0
      · refine ⟨-14, s, -14, s, ?_, ?_, G, FrB.rf, rfl⟩
        · unfold f_X11_row
          rw [shelf_t G.1 c, b1_some, on_some, if_neg bx.1, if_neg bx.2, if_neg d, if_pos d2]
        · unfold f_X12_row
          rw [issh_t c, b1_some, if_neg (by decide), in_t (by rw [jl0, jl4]; omega), b1_some, if_neg (by decide), if_neg d, if_pos d2]
      have hl : 0 ≤ a2.toInt ∧ a2.toInt ≤ 60 := by rw [jlt, jl60] at d; rw [jlt, jl0] at d2; omega
      obtain ⟨i, ei⟩ : ∃ i, i = a0.toInt.toNat := ⟨_, rfl⟩
      have hi : i < 6 := by omega
      have ha : a0 = nI i := by rw [ei]; exact toN_ c.1
      have I1 : Iv (pG (pS (pS (pS s (47 + 2 * i) 0 2) (47 + 2 * i) 2 a1) (47 + 2 * i) 3 a2) (47 + 2 * i + 1) 0) := (((G.1.wV (okVi hi) (k := 0) trivial).wV (okVi hi) (k := 2) trivial).wV (okVi hi) (k := 3) ⟨hl.1, hl.2⟩).wG
      have n2 : (-2 - a1).toInt = -2 - a1.toInt := by rw [i32_sub (by rw [jn2]; omega) (by rw [jn2]; omega), jn2]
      have I2 := (I1.wI (q := 120) (i := i) (v := -2 - a1) (by decide) ⟨by omega, by omega⟩).wI (q := 121) (i := i) (v := a2) (by decide) ⟨hl.1, hl.2⟩
      obtain ⟨u, h3, h4, h5, h6, h7, h8⟩ := rowL ha hi 4000 (pI (pI (pG (pS (pS (pS s (47 + 2 * i) 0 2) (47 + 2 * i) 2 a1) (47 + 2 * i) 3 a2) (47 + 2 * i + 1) 0) 120 i (-2 - a1)) 121 i a2) 0 (by decide) (by decide)
      refine ⟨1, pG (pS (pS (pS s (47 + 2 * i) 0 2) (47 + 2 * i) 2 a1) (47 + 2 * i) 3 a2) (47 + 2 * i + 1) 0, 1, u, ?_, ?_, ⟨h8 I2, ?_⟩, ?_, rfl⟩
      · unfold f_X11_row f_X8_becomesRow
        rw [shelf_t G.1 c, b1_some, on_some, if_neg bx.1, if_neg bx.2, if_neg d, if_neg d2, ← ei]
        rfl
      · unfold f_X12_row
        rw [issh_t c, b1_some, if_neg (by decide), in_t (by rw [jl0, jl4]; omega), b1_some, if_neg (by decide), if_neg d, if_neg d2]
        dsimp only [vl, st]
        rw [gd_t ⟨c.1, c.2⟩, gd_t ⟨c.1, c.2⟩, ← ei]
        have e60 : (60 : Int32) * a0 = nI (60 * i + 0) := by
          apply Int32.toInt_inj.1
          have j60 : (60 : Int32).toInt = 60 := rfl
          rw [i32_mul (by rw [j60]; omega) (by rw [j60]; omega), j60, nI_t (by omega)]
          omega
        rw [e60]
        exact h3
      · have z : ∀ q k, zS u q k = zS (pS (pS (pS s (47 + 2 * i) 0 2) (47 + 2 * i) 2 a1) (47 + 2 * i) 3 a2) q k := fun q k => by
          show u.1 q k = _
          rw [h4]
          rfl
        have hJ : ∀ q b, zJ (pI (pI (pG (pS (pS (pS s (47 + 2 * i) 0 2) (47 + 2 * i) 2 a1) (47 + 2 * i) 3 a2) (47 + 2 * i + 1) 0) 120 i (-2 - a1)) 121 i a2) q b = if q = 47 + 2 * i + 1 then 0 else zJ s q b := fun _ _ => rfl
        refine RG.sh (i0 := i) G.2 (fun q k _ h => ?_) (fun q j _ h h' h'' => ?_) (fun j h => ?_) (fun j h => ?_) (fun j l h hl => ?_) (fun j l h hj => ?_) (fun j l h hl => ?_) (fun j => ?_) hi ?_
        · rw [z, zS_pS, if_neg (fun y => h y.1), zS_pS, if_neg (fun y => h y.1), zS_pS, if_neg (fun y => h y.1)]
        · rw [h6, if_neg (by omega), zI_pI, if_neg (by omega), zI_pI, if_neg (by omega)]; rfl
        · rw [h6, if_neg (by omega), zI_pI, if_neg (by omega), zI_pI, if_neg (by omega)]; rfl
        · rw [h6, if_neg (by omega), zI_pI, if_neg (by omega), zI_pI, if_neg (by omega)]; rfl
        · rw [h6, if_neg (by omega), zI_pI, if_neg (by omega), zI_pI, if_neg (by omega)]; rfl
        · rw [h7, if_neg (by omega), hJ, if_neg (by omega)]
        · rw [h7, if_neg (by omega), hJ, if_neg (by omega)]
        · show u.2.2.2.1 17 j = _
          rw [h5]
          rfl
        · refine Or.inr (Or.inr ⟨?_, ?_, ?_, ?_, fun j hj => Or.inl ⟨?_, ?_⟩⟩)
          · rw [z, zS_pS, if_neg (fun y => absurd y.2 (by decide)), zS_pS, if_neg (fun y => absurd y.2 (by decide)), zS_pS, if_pos ⟨rfl, rfl⟩]
          · rw [h6, if_neg (by omega), zI_pI, if_neg (by omega), zI_pI, if_pos ⟨rfl, rfl⟩, z, zS_pS, if_neg (fun y => absurd y.2 (by decide)), zS_pS, if_pos ⟨rfl, rfl⟩]
          · rw [z, zS_pS, if_neg (fun y => absurd y.2 (by decide)), zS_pS, if_pos ⟨rfl, rfl⟩]
            exact b
          · rw [h6, if_neg (by omega), zI_pI, if_pos ⟨rfl, rfl⟩, z, zS_pS, if_pos ⟨rfl, rfl⟩]
          · rw [h6, if_pos ⟨rfl, by omega, by omega⟩]
          · rw [h7, if_neg (by omega), hJ, if_pos (by omega), h7, if_pos ⟨rfl, by omega, by omega⟩]
      · have F1 : FrB s (pI (pI (pG (pS (pS (pS s (47 + 2 * i) 0 2) (47 + 2 * i) 2 a1) (47 + 2 * i) 3 a2) (47 + 2 * i + 1) 0) 120 i (-2 - a1)) 121 i a2) := FrB.pI (FrB.pI (show FrB s (pG _ _ _) from ((FrB.rf.pS (fSB_d (by omega))).pS (fSB_d (by omega))).pS (fSB_d (by omega))) (by decide)) (by decide)
        refine ⟨fun q k e => ?_, fun q j e => ?_⟩
        · show u.1 q k = _
          rw [h4]
          exact F1.1 q k e
        · rw [h6, if_neg (fun z => by rw [z.1] at e; exact absurd e (by decide))]
          exact F1.2 q j e
    · refine ⟨-1, s, -1, s, ?_, ?_, G, FrB.rf, rfl⟩
      · unfold f_X11_row
        rw [shelf_t G.1 c, b1_some, on_some]
        by_cases h : a1 < 0
        · rw [if_pos h]
        · rw [if_neg h, if_pos (by rw [jlt, jl4]; rw [jlt, jl0] at h; omega)]
      · unfold f_X12_row
        rw [issh_t c, b1_some, if_neg (by decide), in_f (by rw [jl0, jl4]; omega), b1_some, if_pos rfl]
  · refine ⟨-1, s, -1, s, ?_, ?_, G, FrB.rf, rfl⟩
    · unfold f_X11_row
      rw [shelf_f c, b1_some, on_none]
    · unfold f_X12_row
      rw [issh_f c, b1_some, if_pos rfl]
/-! PUT, BLANK, ELEMENT, TAKEN -/
/-- what shelf i says, in both -/
theorem SR.row {s : SS} {i : Nat} (R : SR s i) (h : zS s (47 + 2 * i) 0 = 2) : zI s 120 i = -2 - zS s (47 + 2 * i) 2 ∧ (0 ≤ (zS s (47 + 2 * i) 2).toInt ∧ (zS s (47 + 2 * i) 2).toInt ≤ 4) ∧ zS s (47 + 2 * i) 3 = zI s 121 i ∧ ∀ j, j < 60 → (zI s 123 (60 * i + j) = 0 ∧ zJ s (48 + 2 * i) j = zJ s 122 (60 * i + j)) ∨ (zI s 123 (60 * i + j) = 1 ∧ zJ s (48 + 2 * i) j = 9223372036854775807) := by
  rcases R with R | R | R
  · rw [R.1] at h; exact absurd h (by decide)
  · rw [R.1] at h; exact absurd h (by decide)
  · exact R.2
theorem SR.neg {s : SS} {i : Nat} (R : SR s i) (h : zS s (47 + 2 * i) 0 = 2) : (zI s 120 i).toInt = -2 - (zS s (47 + 2 * i) 2).toInt := by
  obtain ⟨r1, r2, _⟩ := R.row h
  rw [r1, i32_sub (by rw [jn2]; omega) (by rw [jn2]; omega), jn2]
theorem SR.case {s : SS} {i : Nat} (R : SR s i) : (zS s (47 + 2 * i) 0 = 0 ∧ zI s 120 i = -1) ∨ (zS s (47 + 2 * i) 0 = 1 ∧ 0 ≤ (zI s 120 i).toInt) ∨ zS s (47 + 2 * i) 0 = 2 := by
  rcases R with R | R | R
  · exact Or.inl R
  · exact Or.inr (Or.inl ⟨R.1, R.2.2.1⟩)
  · exact Or.inr (Or.inr R.1)
def RPl (s : SS) (i : Nat) (a : Int32) : Prop := 0 ≤ a.toInt ∧ a.toInt < (zS s (47 + 2 * i) 3).toInt
theorem why_t {s : SS} {a0 a1 : Int32} {i : Nat} (I : Iv s) (R : SR s i) (c : 0 ≤ a0.toInt ∧ a0.toInt < 6) (ei : i = a0.toInt.toNat) (h2 : zS s (47 + 2 * i) 0 = 2) (h : RPl s i a1) : f_X12_whyNoPlace s a0 a1 = some 0 ∧ f_X8_refusal s (47 + 2 * i) a1 = some 0 := by
  have hv := I.v3 (okVi (show i < 6 by omega))
  have hn := R.neg h2
  obtain ⟨r1, r2, r3, _⟩ := R.row h2
  obtain ⟨p1, p2⟩ := h
  refine ⟨?_, ?_⟩
  · unfold f_X12_whyNoPlace
    rw [issh_t c, b1_some, if_neg (by decide), gd_t ⟨c.1, c.2⟩, ← ei, if_neg (fun z => by rw [z, jn1] at hn; omega), gd_t ⟨c.1, c.2⟩, if_pos (by rw [jlt, jl0]; omega), gd_t ⟨c.1, c.2⟩, in_t (by rw [jl0, ← r3, i32_sub (by rw [jl1]; omega) (by rw [jl1]; omega), jl1]; omega), b1_some, if_neg (by decide)]
  · unfold f_X8_refusal
    rw [if_neg (by rw [h2]; decide), if_pos h2, if_neg (by rw [jlt, jl0]; omega), if_pos (by rw [jlt]; omega)]
theorem why_f {s : SS} {a0 a1 : Int32} {i : Nat} (I : Iv s) (R : SR s i) (c : 0 ≤ a0.toInt ∧ a0.toInt < 6) (ei : i = a0.toInt.toNat) (h : ¬ (zS s (47 + 2 * i) 0 = 2 ∧ RPl s i a1)) : ∃ v : Int32, v < 0 ∧ ¬ v = 0 ∧ f_X12_whyNoPlace s a0 a1 = some v ∧ f_X8_refusal s (47 + 2 * i) a1 = some v := by
  have hv := I.v3 (okVi (show i < 6 by omega))
  rcases R.case with R1 | R1 | R1
  · refine ⟨-11, by decide, by decide, ?_, ?_⟩
    · unfold f_X12_whyNoPlace
      rw [issh_t c, b1_some, if_neg (by decide), gd_t ⟨c.1, c.2⟩, ← ei, if_pos R1.2]
    · unfold f_X8_refusal
      rw [if_pos R1.1]
  · refine ⟨-12, by decide, by decide, ?_, ?_⟩
    · unfold f_X12_whyNoPlace
      rw [issh_t c, b1_some, if_neg (by decide), gd_t ⟨c.1, c.2⟩, ← ei, if_neg (fun z => by rw [z, jn1] at R1; omega), gd_t ⟨c.1, c.2⟩, if_neg (by rw [jlt, jl0]; omega)]
    · unfold f_X8_refusal
      rw [if_neg (by rw [R1.1]; decide), if_neg (by rw [R1.1]; decide)]
  · have hp : ¬ RPl s i a1 := fun z => h ⟨R1, z⟩
    have hn := R.neg R1
    obtain ⟨r1, r2, r3, _⟩ := R.row R1
    unfold RPl at hp
    refine ⟨-13, by decide, by decide, ?_, ?_⟩
    · unfold f_X12_whyNoPlace
      rw [issh_t c, b1_some, if_neg (by decide), gd_t ⟨c.1, c.2⟩, ← ei, if_neg (fun z => by rw [z, jn1] at hn; omega), gd_t ⟨c.1, c.2⟩, if_pos (by rw [jlt, jl0]; omega), gd_t ⟨c.1, c.2⟩, in_f (by rw [jl0, ← r3, i32_sub (by rw [jl1]; omega) (by rw [jl1]; omega), jl1]; omega), b1_some, if_pos rfl]
    · unfold f_X8_refusal
      rw [if_neg (by rw [R1]; decide), if_pos R1]
      by_cases d : a1 < 0
      · rw [if_pos d]
      · rw [if_neg d, if_neg (by rw [jlt]; rw [jlt, jl0] at d; omega)]
theorem sa_element {s : SS} (G : GA s) (a0 : Int32) (a1 : Int32) : ∃ (rx : Int64) (s1 : SS) (rm : Int64) (s2 : SS), f_X11_element s a0 a1 = some rx ∧ f_X12_element s a0 a1 = some rm ∧ GA s ∧ rx = rm := by
  by_cases c : 0 ≤ a0.toInt ∧ a0.toInt < 6
  · obtain ⟨i, ei⟩ : ∃ i, i = a0.toInt.toNat := ⟨_, rfl⟩
    have hi : i < 6 := by omega
    have R := G.2.2.2.2.2 i hi
    have hv := G.1.v3 (okVi hi)
    by_cases d : zS s (47 + 2 * i) 0 = 2 ∧ RPl s i a1
    · obtain ⟨w1, w2⟩ := why_t G.1 R c ei d.1 d.2
      obtain ⟨p1, p2⟩ := d.2
      have ex : ((60 : Int32) * a0 + a1).toInt = 60 * a0.toInt + a1.toInt := by
        have j60 : (60 : Int32).toInt = 60 := rfl
        have m1 : ((60 : Int32) * a0).toInt = 60 * a0.toInt := by rw [i32_mul (by rw [j60]; omega) (by rw [j60]; omega), j60]
        rw [i32_add (by rw [m1]; omega) (by rw [m1]; omega), m1]
      have nx : ((60 : Int32) * a0 + a1).toInt.toNat = 60 * i + a1.toInt.toNat := by omega
      have gx : inB ((60 : Int32) * a0 + a1) 360 := ⟨by omega, by omega⟩
      obtain ⟨_, _, _, r4⟩ := R.row d.1
      have hx : f_X11_element s a0 a1 = some (zJ s (48 + 2 * i) a1.toInt.toNat) := by
        unfold f_X11_element
        rw [shelf_t G.1 c, b1_some, on_some, ← ei, w2, b1_some, if_pos rfl, gd_t ⟨by omega, by omega⟩, show 47 + 2 * i + 1 = 48 + 2 * i by omega]
      rcases r4 a1.toInt.toNat (by omega) with z | z
      · refine ⟨_, s, _, s, hx, ?_, G, z.2⟩
        unfold f_X12_element
        rw [w1, b1_some, if_neg (by decide)]
        dsimp only [vl]
        rw [gd_t gx, nx, if_pos z.1, gd_t gx]
      · refine ⟨_, s, 9223372036854775807, s, hx, ?_, G, z.2⟩
        unfold f_X12_element
        rw [w1, b1_some, if_neg (by decide)]
        dsimp only [vl]
        rw [gd_t gx, nx, if_neg (by rw [z.1]; decide)]
    · obtain ⟨v, v1, v2, v3, v4⟩ := why_f G.1 R c ei d
      refine ⟨-9223372036854775808, s, -9223372036854775808, s, ?_, ?_, G, rfl⟩
      · unfold f_X11_element
        rw [shelf_t G.1 c, b1_some, on_some, ← ei, v4, b1_some, if_neg v2]
      · unfold f_X12_element
        rw [v3, b1_some, if_pos v1]
  · refine ⟨-9223372036854775808, s, -9223372036854775808, s, ?_, ?_, G, rfl⟩
    · unfold f_X11_element
      rw [shelf_f c, b1_some, on_none]
    · unfold f_X12_element f_X12_whyNoPlace
      rw [issh_f c, b1_some, if_pos rfl, b1_some, if_pos (by decide)]
theorem ch16 (a : Int64) : ((a.toInt32.toUInt32 % 65536).toInt32).toInt64 = a &&& 65535 := by
  apply Int64.toBitVec_inj.1
  have e1 : (a.toInt32.toUInt32 % 65536).toInt32.toBitVec = (a.toBitVec.setWidth 32) % 65536#32 := by
    show (a.toInt32.toUInt32 % 65536).toBitVec = _
    rw [UInt32.toBitVec_mod]
    show a.toInt32.toBitVec % _ = _
    rw [Int64.toBitVec_toInt32, BitVec.signExtend_eq_setWidth_of_le _ (by decide)]
    rfl
  have e2 : ((a.toInt32.toUInt32 % 65536).toInt32).toInt64.toBitVec = ((a.toInt32.toUInt32 % 65536).toInt32.toBitVec).signExtend 64 := rfl
  have e3 : (a &&& 65535).toBitVec = a.toBitVec &&& 65535#64 := by rw [Int64.toBitVec_and]; rfl
  rw [e2, e1, e3]
  have hm : ((a.toBitVec.setWidth 32) % 65536#32).msb = false := by
    rw [BitVec.msb_eq_decide, BitVec.toNat_umod]
    simp only [decide_eq_false_iff_not]
    have : (BitVec.setWidth 32 a.toBitVec).toNat % (65536#32).toNat < 65536 := Nat.mod_lt _ (by decide)
    omega
  rw [BitVec.signExtend_eq_setWidth_of_msb_false hm]
  apply BitVec.eq_of_toNat_eq
  rw [BitVec.toNat_setWidth, BitVec.toNat_umod, BitVec.toNat_setWidth, BitVec.toNat_and]
  show a.toBitVec.toNat % 4294967296 % 65536 % 18446744073709551616 = a.toBitVec.toNat &&& (2 ^ 16 - 1)
  rw [Nat.and_two_pow_sub_one_eq_mod]
  omega
theorem real_e {s : SS} {a0 : Int32} {i : Nat} (R : SR s i) (c : 0 ≤ a0.toInt ∧ a0.toInt < 6) (ei : i = a0.toInt.toNat) : ∃ v, f_X8_isReal s (47 + 2 * i) = some v ∧ f_X12_isReals s a0 = some v ∧ (v = 0 ∨ (v = 1 ∧ zS s (47 + 2 * i) 0 = 2)) := by
  unfold f_X8_isReal f_X12_isReals
  rcases R.case with R1 | R1 | R1
  · refine ⟨0, ?_, ?_, Or.inl rfl⟩
    · rw [if_neg (by rw [R1.1]; decide)]
    · rw [gd_t ⟨c.1, c.2⟩, ← ei, if_neg (by rw [R1.2]; decide), gd_t ⟨c.1, c.2⟩, if_neg (by rw [R1.2]; decide)]
  · refine ⟨0, ?_, ?_, Or.inl rfl⟩
    · rw [if_neg (by rw [R1.1]; decide)]
    · rw [gd_t ⟨c.1, c.2⟩, ← ei, if_neg (fun z => by rw [z, jn5] at R1; omega), gd_t ⟨c.1, c.2⟩, if_neg (fun z => by rw [z, jn6] at R1; omega)]
  · have hn := R.neg R1
    obtain ⟨r1, r2, _⟩ := R.row R1
    rw [if_pos R1, gd_t ⟨c.1, c.2⟩, ← ei, gd_t ⟨c.1, c.2⟩]
    by_cases d : zS s (47 + 2 * i) 2 = 3
    · refine ⟨1, by rw [if_pos d], ?_, Or.inr ⟨rfl, R1⟩⟩
      rw [if_pos (by rw [r1, d]; decide)]
    · by_cases d2 : zS s (47 + 2 * i) 2 = 4
      · refine ⟨1, by rw [if_neg d, if_pos d2], ?_, Or.inr ⟨rfl, R1⟩⟩
        rw [if_neg (by rw [r1, d2]; decide), if_pos (by rw [r1, d2]; decide)]
      · rw [jeq, show (3 : Int32).toInt = 3 from rfl] at d
        rw [jeq, show (4 : Int32).toInt = 4 from rfl] at d2
        refine ⟨0, ?_, ?_, Or.inl rfl⟩
        · rw [if_neg (by rw [jeq]; exact d), if_neg (by rw [jeq]; exact d2)]
        · rw [if_neg (fun z => by rw [z, jn5] at hn; omega), if_neg (fun z => by rw [z, jn6] at hn; omega)]
theorem nar {s : SS} {i : Nat} {a : Int64} (R : SR s i) (h : zS s (47 + 2 * i) 0 = 2) : ∃ v, f_X8_narrowed s (47 + 2 * i) a = some v ∧ ∀ (ρ : Type) (k : Int64 → Option ρ), (if -2 - zI s 120 i = (0 : Int32) then k a.toInt32.toInt8.toInt32.toInt64 else (if -2 - zI s 120 i = (1 : Int32) then k (a &&& 65535) else (if -2 - zI s 120 i = (2 : Int32) then k a.toInt32.toInt64 else k a))) = k v := by
  obtain ⟨r1, r2, _⟩ := R.row h
  have e : -2 - zI s 120 i = zS s (47 + 2 * i) 2 := by
    rw [r1]
    apply Int32.toInt_inj.1
    have n2 : (-2 - zS s (47 + 2 * i) 2).toInt = -2 - (zS s (47 + 2 * i) 2).toInt := by rw [i32_sub (by rw [jn2]; omega) (by rw [jn2]; omega), jn2]
    rw [i32_sub (by rw [jn2, n2]; omega) (by rw [jn2, n2]; omega), n2, jn2]
    omega
  unfold f_X8_narrowed
  by_cases c0 : zS s (47 + 2 * i) 2 = 0
  · exact ⟨_, by rw [if_pos c0], fun ρ k => by rw [if_pos (by rw [e]; exact c0)]⟩
  by_cases c1 : zS s (47 + 2 * i) 2 = 1
  · exact ⟨_, by rw [if_neg c0, if_pos c1, ch16], fun ρ k => by rw [if_neg (by rw [e]; exact c0), if_pos (by rw [e]; exact c1)]⟩
  by_cases c2 : zS s (47 + 2 * i) 2 = 2
  · exact ⟨_, by rw [if_neg c0, if_neg c1, if_pos c2], fun ρ k => by rw [if_neg (by rw [e]; exact c0), if_neg (by rw [e]; exact c1), if_pos (by rw [e]; exact c2)]⟩
  · exact ⟨_, by rw [if_neg c0, if_neg c1, if_neg c2], fun ρ k => by rw [if_neg (by rw [e]; exact c0), if_neg (by rw [e]; exact c1), if_neg (by rw [e]; exact c2)]⟩
theorem ix60 {a b : Int32} (ha : 0 ≤ a.toInt ∧ a.toInt < 6) (hb : 0 ≤ b.toInt ∧ b.toInt ≤ 60) : ((60 : Int32) * a + b).toInt = 60 * a.toInt + b.toInt := by
  have j60 : (60 : Int32).toInt = 60 := rfl
  have m1 : ((60 : Int32) * a).toInt = 60 * a.toInt := by rw [i32_mul (by rw [j60]; omega) (by rw [j60]; omega), j60]
  rw [i32_add (by rw [m1]; omega) (by rw [m1]; omega), m1]
theorem zJ_pJ (s : SS) (q k a b : Nat) (w : Int64) : zJ (pJ s q k w) a b = if a = q ∧ b = k then w else zJ s a b := rfl
theorem zI_J (s : SS) (q i : Nat) (w : Int64) (a : Nat) : zI (pJ s q i w) a = zI s a := rfl
theorem reals_c {s t : SS} (h : zI t 120 = zI s 120) (a : Int32) : f_X12_isReals t a = f_X12_isReals s a := by
  unfold f_X12_isReals
  rw [h]
theorem why_c {s t : SS} (h : zI t 120 = zI s 120) (h' : zI t 121 = zI s 121) (a b : Int32) : f_X12_whyNoPlace t a b = f_X12_whyNoPlace s a b := by
  unfold f_X12_whyNoPlace
  rw [h, h']
/-- an element of a row is written in both -/
theorem RG.elt {s : SS} {i m : Nat} {w w' : Int64} {f : Int32} (G : GA s) (hi : i < 6) (h2 : zS s (47 + 2 * i) 0 = 2) (hm : m < 60) (hf : (f = 0 ∧ w = w') ∨ (f = 1 ∧ w = 9223372036854775807)) : RG (pI (pJ (pJ s (48 + 2 * i) m w) 122 (60 * i + m) w') 123 (60 * i + m) f) := by
  obtain ⟨r1, r2, r3, r4⟩ := (G.2.2.2.2.2 i hi).row h2
  refine RG.sh (i0 := i) G.2 (fun q k _ _ => rfl) (fun q j _ h h' h'' => ?_) (fun j h => rfl) (fun j h => rfl) (fun j l h hl => ?_) (fun j l h hj => ?_) (fun j l h hl => ?_) (fun j => rfl) hi ?_
  · rw [zI_pI, if_neg (by omega)]; rfl
  · rw [zI_pI, if_neg (by omega)]; rfl
  · show zJ (pJ (pJ s (48 + 2 * i) m w) 122 (60 * i + m) w') (48 + 2 * j) l = _
    rw [zJ_pJ, if_neg (by omega), zJ_pJ, if_neg (by omega)]
  · show zJ (pJ (pJ s (48 + 2 * i) m w) 122 (60 * i + m) w') 122 (60 * j + l) = _
    rw [zJ_pJ, if_neg (by omega), zJ_pJ, if_neg (by omega)]
  · refine Or.inr (Or.inr ⟨h2, r1, r2, r3, fun j hj => ?_⟩)
    have e1 : zI (pI (pJ (pJ s (48 + 2 * i) m w) 122 (60 * i + m) w') 123 (60 * i + m) f) 123 (60 * i + j) = if j = m then f else zI s 123 (60 * i + j) := by
      rw [zI_pI]
      by_cases c : j = m
      · rw [if_pos ⟨rfl, by omega⟩, if_pos c]
      · rw [if_neg (by omega), if_neg c]; rfl
    have e2 : zJ (pI (pJ (pJ s (48 + 2 * i) m w) 122 (60 * i + m) w') 123 (60 * i + m) f) (48 + 2 * i) j = if j = m then w else zJ s (48 + 2 * i) j := by
      show zJ (pJ (pJ s (48 + 2 * i) m w) 122 (60 * i + m) w') (48 + 2 * i) j = _
      rw [zJ_pJ, if_neg (by omega), zJ_pJ]
      by_cases c : j = m
      · rw [if_pos ⟨rfl, c⟩, if_pos c]
      · rw [if_neg (by omega), if_neg c]
    have e3 : zJ (pI (pJ (pJ s (48 + 2 * i) m w) 122 (60 * i + m) w') 123 (60 * i + m) f) 122 (60 * i + j) = if j = m then w' else zJ s 122 (60 * i + j) := by
      show zJ (pJ (pJ s (48 + 2 * i) m w) 122 (60 * i + m) w') 122 (60 * i + j) = _
      rw [zJ_pJ]
      by_cases c : j = m
      · rw [if_pos ⟨rfl, by omega⟩, if_pos c]
      · rw [if_neg (by omega), if_neg c, zJ_pJ, if_neg (by omega)]
    rw [e1, e2, e3]
    by_cases c : j = m
    · rw [if_pos c, if_pos c, if_pos c]
      exact hf
    · rw [if_neg c, if_neg c, if_neg c]
      exact r4 j hj
theorem sa_put {s : SS} (G : GA s) (a0 : Int32) (a1 : Int32) (a2 : Int64) : ∃ (rx : Int32) (s1 : SS) (rm : Int32) (s2 : SS), f_X11_put s a0 a1 a2 = some (rx, s1) ∧ f_X12_put s1 a0 a1 a2 = some (rm, s2) ∧ GA s2 ∧ FrB s s2 ∧ rx = rm := by
  by_cases c : 0 ≤ a0.toInt ∧ a0.toInt < 6
  · obtain ⟨i, ei⟩ : ∃ i, i = a0.toInt.toNat := ⟨_, rfl⟩
    have hi : i < 6 := by omega
    have R := G.2.2.2.2.2 i hi
    have hv := G.1.v3 (okVi hi)
    obtain ⟨v, v1, v2, v3⟩ := real_e R c ei
    by_cases b : v = 0 ∨ (¬ lg_cmp a2 (-9999) < 0 ∧ ¬ 0 < lg_cmp a2 9999)
    · have bx : ∀ (ρ : Type) (A k : Option ρ), (if v = 0 then k else (if lg_cmp a2 (-9999) < 0 then A else (if 0 < lg_cmp a2 9999 then A else k))) = k := fun ρ A k => by
        rcases b with b | b
        · rw [if_pos b]
        · by_cases z : v = 0
          · rw [if_pos z]
          · rw [if_neg z, if_neg b.1, if_neg b.2]
      by_cases d : zS s (47 + 2 * i) 0 = 2 ∧ RPl s i a1
      · obtain ⟨w1, w2⟩ := why_t G.1 R c ei d.1 d.2
        obtain ⟨p1, p2⟩ := d.2
        obtain ⟨x, x1, x2⟩ := nar (a := a2) R d.1
        have ex := ix60 c (b := a1) (by omega)
        have nx : ((60 : Int32) * a0 + a1).toInt.toNat = 60 * i + a1.toInt.toNat := by omega
        have gx : inB ((60 : Int32) * a0 + a1) 360 := ⟨by omega, by omega⟩
        have hx : f_X11_put s a0 a1 a2 = some (1, pJ s (48 + 2 * i) a1.toInt.toNat x) := by
          unfold f_X11_put
          rw [shelf_t G.1 c, b1_some, on_some, ← ei, v1, b1_some]
          dsimp only [jn, st]
          rw [bx, w2, b1_some, if_pos rfl, x1, b1_some, gd_t ⟨by omega, by omega⟩, if_pos rfl, show 47 + 2 * i + 1 = 48 + 2 * i by omega]
        have hM : ∀ t, zI t 120 = zI s 120 → f_X12_isReals t a0 = some v → f_X12_whyNoPlace t a0 a1 = some 0 → f_X12_put t a0 a1 a2 = some (1, pI (pJ t 122 (60 * i + a1.toInt.toNat) x) 123 (60 * i + a1.toInt.toNat) (0 &&& 1)) := by
          intro t e1 e2 e3
          have bj : ∀ K A : Option (Int32 × SS), (jn K fun k4 => if v = 0 then k4 else (if lg_cmp a2 (-9999) < 0 then A else (if 0 < lg_cmp a2 9999 then A else k4))) = K := fun K A => bx _ A K
          have xj : ∀ K : Int64 → Option (Int32 × SS), (vl (-2 - zI s 120 i) fun v8 => jn K fun k10 => (if v8 = (0 : Int32) then (k10 a2.toInt32.toInt8.toInt32.toInt64) else (if v8 = (1 : Int32) then (k10 (a2 &&& 65535)) else (if v8 = (2 : Int32) then (k10 a2.toInt32.toInt64) else (k10 a2))))) = K x := fun K => by
            rw [vl, jn]
            exact x2 _ K
          unfold f_X12_put
          rw [issh_t c, b1_some, if_neg (by decide), e2, b1_some, bj, e3, b1_some, if_neg (by decide), gd_t ⟨c.1, c.2⟩, ← ei, e1, xj]
          show gd _ _ = _
          rw [gd_t gx]
          show gd _ _ = _
          rw [gd_t gx, nx]
          rfl
        refine ⟨1, pJ s (48 + 2 * i) a1.toInt.toNat x, 1, pI (pJ (pJ s (48 + 2 * i) a1.toInt.toNat x) 122 (60 * i + a1.toInt.toNat) x) 123 (60 * i + a1.toInt.toNat) (0 &&& 1), hx, ?_, ⟨?_, ?_⟩, FrB.pI (show FrB s (pJ _ _ _ _) from FrB.rf) (by decide), rfl⟩
        · exact hM _ (zI_J s _ _ _ 120) (by rw [reals_c (zI_J s _ _ _ 120)]; exact v2) (by rw [why_c (zI_J s _ _ _ 120) (zI_J s _ _ _ 121)]; exact w1)
        · exact (G.1.wJ.wJ).wI (q := 123) (by decide) trivial
        · exact RG.elt G hi d.1 (by omega) (Or.inl ⟨by decide, rfl⟩)
      · obtain ⟨y, y1, y2, y3, y4⟩ := why_f G.1 R c ei d
        refine ⟨y, s, y, s, ?_, ?_, G, FrB.rf, rfl⟩
        · unfold f_X11_put
          rw [shelf_t G.1 c, b1_some, on_some, ← ei, v1, b1_some]
          dsimp only [jn, st]
          rw [bx, y4, b1_some, if_neg y2, if_neg y2]
        · unfold f_X12_put
          rw [issh_t c, b1_some, if_neg (by decide), v2, b1_some]
          dsimp only [jn]
          rw [bx, y3, b1_some, if_pos y1]
    · have b0 : ¬ v = 0 := fun z => b (Or.inl z)
      have b1' : ¬ (¬ lg_cmp a2 (-9999) < 0 ∧ ¬ 0 < lg_cmp a2 9999) := fun z => b (Or.inr z)
      refine ⟨-1, s, -1, s, ?_, ?_, G, FrB.rf, rfl⟩
      · unfold f_X11_put
        rw [shelf_t G.1 c, b1_some, on_some, ← ei, v1, b1_some]
        dsimp only [jn]
        rw [if_neg b0]
        by_cases z : lg_cmp a2 (-9999) < 0
        · rw [if_pos z]
        · rw [if_neg z, if_pos (Classical.byContradiction fun y => b1' ⟨z, y⟩)]
      · unfold f_X12_put
        rw [issh_t c, b1_some, if_neg (by decide), v2, b1_some]
        dsimp only [jn]
        rw [if_neg b0]
        by_cases z : lg_cmp a2 (-9999) < 0
        · rw [if_pos z]
        · rw [if_neg z, if_pos (Classical.byContradiction fun y => b1' ⟨z, y⟩)]
  · refine ⟨-1, s, -1, s, ?_, ?_, G, FrB.rf, rfl⟩
    · unfold f_X11_put
      rw [shelf_f c, b1_some, on_none]
    · unfold f_X12_put
      rw [issh_f c, b1_some, if_pos rfl]
theorem sa_blank {s : SS} (G : GA s) (a0 : Int32) (a1 : Int32) : ∃ (rx : Int32) (s1 : SS) (rm : Int32) (s2 : SS), f_X11_blank s a0 a1 = some (rx, s1) ∧ f_X12_blank s1 a0 a1 = some (rm, s2) ∧ GA s2 ∧ FrB s s2 ∧ rx = rm := by
  by_cases c : 0 ≤ a0.toInt ∧ a0.toInt < 6
  · obtain ⟨i, ei⟩ : ∃ i, i = a0.toInt.toNat := ⟨_, rfl⟩
    have hi : i < 6 := by omega
    have R := G.2.2.2.2.2 i hi
    have hv := G.1.v3 (okVi hi)
    obtain ⟨v, v1, v2, v3⟩ := real_e R c ei
    rcases R.case with R1 | R1 | R1
    · refine ⟨-11, s, -11, s, ?_, ?_, G, FrB.rf, rfl⟩
      · unfold f_X11_blank f_X8_refusal
        rw [shelf_t G.1 c, b1_some, on_some, ← ei]
        dsimp only [jn, st]
        rw [if_neg (by rw [R1.1]; decide), if_pos R1.1, b1_some, if_neg (by decide), if_neg (by decide)]
      · unfold f_X12_blank
        rw [issh_t c, b1_some, if_neg (by decide), gd_t ⟨c.1, c.2⟩, ← ei, if_pos R1.2]
    · refine ⟨-12, s, -12, s, ?_, ?_, G, FrB.rf, rfl⟩
      · unfold f_X11_blank f_X8_refusal
        rw [shelf_t G.1 c, b1_some, on_some, ← ei]
        dsimp only [jn, st]
        rw [if_neg (by rw [R1.1]; decide), if_neg (by rw [R1.1]; decide), if_neg (by rw [R1.1]; decide), b1_some, if_neg (by decide), if_neg (by decide)]
      · have v0 : v = 0 := v3.resolve_right (fun z => by rw [R1.1] at z; exact absurd z.2 (by decide))
        unfold f_X12_blank
        rw [issh_t c, b1_some, if_neg (by decide), gd_t ⟨c.1, c.2⟩, ← ei, if_neg (fun z => by rw [z, jn1] at R1; omega), v2, b1_some, if_pos v0]
    · have hn := R.neg R1
      obtain ⟨r1, r2, r3, _⟩ := R.row R1
      have n1 : ¬ zI s 120 i = -1 := fun z => by rw [z, jn1] at hn; omega
      by_cases b : v = 0
      · refine ⟨-12, s, -12, s, ?_, ?_, G, FrB.rf, rfl⟩
        · unfold f_X11_blank
          rw [shelf_t G.1 c, b1_some, on_some, ← ei]
          dsimp only [jn, st]
          rw [if_pos R1, v1, b1_some, if_pos b]
        · unfold f_X12_blank
          rw [issh_t c, b1_some, if_neg (by decide), gd_t ⟨c.1, c.2⟩, ← ei, if_neg n1, v2, b1_some, if_pos b]
      by_cases d : RPl s i a1
      · obtain ⟨w1, w2⟩ := why_t G.1 R c ei R1 d
        obtain ⟨p1, p2⟩ := d
        have ex := ix60 c (b := a1) (by omega)
        have nx : ((60 : Int32) * a0 + a1).toInt.toNat = 60 * i + a1.toInt.toNat := by omega
        have gx : inB ((60 : Int32) * a0 + a1) 360 := ⟨by omega, by omega⟩
        have hM : ∀ t, zI t = zI s → f_X12_isReals t a0 = some v → f_X12_blank t a0 a1 = some (1, pI t 123 (60 * i + a1.toInt.toNat) (1 &&& 1)) := by
          intro t e1 e2
          unfold f_X12_blank
          rw [issh_t c, b1_some, if_neg (by decide), gd_t ⟨c.1, c.2⟩, ← ei, e1, if_neg n1, e2, b1_some, if_neg b, gd_t ⟨c.1, c.2⟩, in_t (by rw [jl0, ← r3, i32_sub (by rw [jl1]; omega) (by rw [jl1]; omega), jl1]; omega), b1_some, if_neg (by decide)]
          dsimp only [vl, st]
          rw [gd_t gx, nx]
        refine ⟨1, pJ s (48 + 2 * i) a1.toInt.toNat 9223372036854775807, 1, pI (pJ s (48 + 2 * i) a1.toInt.toNat 9223372036854775807) 123 (60 * i + a1.toInt.toNat) (1 &&& 1), ?_, hM _ rfl (by rw [reals_c (zI_J s _ _ _ 120)]; exact v2), ⟨?_, ?_⟩, FrB.pI (show FrB s (pJ _ _ _ _) from FrB.rf) (by decide), rfl⟩
        · unfold f_X11_blank
          rw [shelf_t G.1 c, b1_some, on_some, ← ei]
          dsimp only [jn, st]
          rw [if_pos R1, v1, b1_some, if_neg b, w2, b1_some, if_pos rfl, gd_t ⟨by omega, by omega⟩, if_pos rfl, show 47 + 2 * i + 1 = 48 + 2 * i by omega]
        · exact (G.1.wJ).wI (q := 123) (by decide) trivial
        · have e := RG.elt G hi R1 (m := a1.toInt.toNat) (by omega) (w := 9223372036854775807) (w' := zJ s 122 (60 * i + a1.toInt.toNat)) (f := 1 &&& 1) (Or.inr ⟨by decide, rfl⟩)
          have es : pJ (pJ s (48 + 2 * i) a1.toInt.toNat 9223372036854775807) 122 (60 * i + a1.toInt.toNat) (zJ s 122 (60 * i + a1.toInt.toNat)) = pJ s (48 + 2 * i) a1.toInt.toNat 9223372036854775807 := by
            have hz : up2 (up2 s.2.2.1 (48 + 2 * i) a1.toInt.toNat 9223372036854775807) 122 (60 * i + a1.toInt.toNat) (zJ s 122 (60 * i + a1.toInt.toNat)) = up2 s.2.2.1 (48 + 2 * i) a1.toInt.toNat 9223372036854775807 := by
              funext q b
              unfold up2
              by_cases z : q = 122 ∧ b = 60 * i + a1.toInt.toNat
              · rw [if_pos z, if_neg (by omega), z.1, z.2]
                rfl
              · rw [if_neg z]
            show (s.1, s.2.1, up2 (up2 s.2.2.1 (48 + 2 * i) a1.toInt.toNat 9223372036854775807) 122 (60 * i + a1.toInt.toNat) (zJ s 122 (60 * i + a1.toInt.toNat)), s.2.2.2) = _
            rw [hz]
            rfl
          rw [es] at e
          exact e
      · obtain ⟨y, y1, y2, y3, y4⟩ := why_f G.1 R c ei (fun z => d z.2)
        refine ⟨-13, s, -13, s, ?_, ?_, G, FrB.rf, rfl⟩
        · unfold RPl at d
          unfold f_X11_blank f_X8_refusal
          rw [shelf_t G.1 c, b1_some, on_some, ← ei]
          dsimp only [jn, st]
          rw [if_pos R1, v1, b1_some, if_neg b, if_neg (by rw [R1]; decide), if_pos R1]
          by_cases z : a1 < 0
          · rw [if_pos z, b1_some, if_neg (by decide), if_neg (by decide)]
          · rw [if_neg z, if_neg (by rw [jlt]; rw [jlt, jl0] at z; omega), b1_some, if_neg (by decide), if_neg (by decide)]
        · unfold RPl at d
          unfold f_X12_blank
          rw [issh_t c, b1_some, if_neg (by decide), gd_t ⟨c.1, c.2⟩, ← ei, if_neg n1, v2, b1_some, if_neg b, gd_t ⟨c.1, c.2⟩, in_f (by rw [jl0, ← r3, i32_sub (by rw [jl1]; omega) (by rw [jl1]; omega), jl1]; omega), b1_some, if_pos rfl]
  · refine ⟨-1, s, -1, s, ?_, ?_, G, FrB.rf, rfl⟩
    · unfold f_X11_blank
      rw [shelf_f c, b1_some, on_none]
    · unfold f_X12_blank
      rw [issh_f c, b1_some, if_pos rfl]
/-! SHIFT -/
theorem ix3 {a b : Int32} {x i p : Nat} (ha : a.toInt = (i : Int)) (hb : b.toInt = (p : Int)) (hi : i < 6) (hp : p + x < 60) : ((60 : Int32) * a + b + nI x).toInt = ((60 * i + p + x : Nat) : Int) := by
  have j60 : (60 : Int32).toInt = 60 := rfl
  have tx : (nI x).toInt = (x : Int) := nI_t (by omega)
  have m1 : ((60 : Int32) * a).toInt = 60 * a.toInt := by rw [i32_mul (by rw [j60]; omega) (by rw [j60]; omega), j60]
  have m2 : ((60 : Int32) * a + b).toInt = 60 * a.toInt + b.toInt := by rw [i32_add (by rw [m1]; omega) (by rw [m1]; omega), m1]
  rw [i32_add (by rw [m2, tx]; omega) (by rw [m2, tx]; omega), m2, tx]
  omega
theorem shA {a0 a1 a2 a3 a4 : Int32} {i p m : Nat} {q0 : SS → Option (Int32 × SS)} (ha : a0.toInt = (i : Int)) (hp : a1.toInt = (p : Int)) (hm : a4.toInt = (m : Int)) (hi : i < 6) (hpm : p + m ≤ 60) : ∀ (n : Nat) (t : SS) (j : Nat), j ≤ m → m - j < n → ∃ u, f_X12_shift_L113 q0 a0 a1 a2 a3 a4 n t (nI j) = q0 u ∧ u.1 = t.1 ∧ u.2.2.2 = t.2.2.2 ∧ (∀ q b, zI u q b = if q = 125 ∧ j ≤ b ∧ b < m then zI t 123 (60 * i + p + b) &&& 1 else zI t q b) ∧ (∀ q b, zJ u q b = if q = 124 ∧ j ≤ b ∧ b < m then zJ t 122 (60 * i + p + b) else zJ t q b) ∧ (Iv t → Iv u) := by
  intro n
  induction n with
  | zero => intro t j h1 h2; omega
  | succ n ih =>
    intro t j h1 h2
    have tj : (nI j).toInt = (j : Int) := nI_t (by omega)
    have un : f_X12_shift_L113 q0 a0 a1 a2 a3 a4 (n + 1) t (nI j) = f_X12_shift_L113_b q0 a0 a1 a2 a3 a4 (f_X12_shift_L113 q0 a0 a1 a2 a3 a4 n) t (nI j) := rfl
    rw [un]
    unfold f_X12_shift_L113_b
    by_cases c : j < m
    · have ex := ix3 ha hp hi (x := j) (by omega)
      have gx : inB ((60 : Int32) * a0 + a1 + nI j) 360 := ⟨by omega, by omega⟩
      have gj : inB (nI j) 60 := ⟨by omega, by omega⟩
      have nx : ((60 : Int32) * a0 + a1 + nI j).toInt.toNat = 60 * i + p + j := by omega
      have k1 : nI j + 1 = nI (j + 1) := by
        apply Int32.toInt_inj.1
        rw [i32_add (by rw [tj, jl1]; omega) (by rw [tj, jl1]; omega), tj, jl1, nI_t (by omega)]
        omega
      rw [if_pos (by rw [jlt]; omega), vl, gd_t gx, wl, gd_t gj, st, vl, gd_t gx, vl, gd_t gj, st, vl, k1, nx, show (nI j).toInt.toNat = j by omega]
      obtain ⟨u, h3, h4, h5, h6, h7, h8⟩ := ih (pI (pJ t 124 j (zJ t 122 (60 * i + p + j))) 125 j (zI (pJ t 124 j (zJ t 122 (60 * i + p + j))) 123 (60 * i + p + j) &&& 1)) (j + 1) (by omega) (by omega)
      refine ⟨u, h3, h4, h5, fun q b => ?_, fun q b => ?_, fun I => h8 ((I.wJ).wI (q := 125) (by decide) trivial)⟩
      · rw [h6, zI_pI, if_neg (show ¬ (123 = 125 ∧ 60 * i + p + b = j) by omega), zI_pI]
        by_cases d : q = 125 ∧ j + 1 ≤ b ∧ b < m
        · rw [if_pos d, if_pos ⟨d.1, by omega, d.2.2⟩]; rfl
        · rw [if_neg d]
          by_cases d2 : q = 125 ∧ b = j
          · rw [if_pos d2, if_pos ⟨d2.1, by omega, by omega⟩, d2.2]; rfl
          · rw [if_neg d2, if_neg (by omega)]; rfl
      · rw [h7]
        have e1 : ∀ a b', zJ (pI (pJ t 124 j (zJ t 122 (60 * i + p + j))) 125 j (zI (pJ t 124 j (zJ t 122 (60 * i + p + j))) 123 (60 * i + p + j) &&& 1)) a b' = if a = 124 ∧ b' = j then zJ t 122 (60 * i + p + j) else zJ t a b' := fun _ _ => rfl
        rw [e1, e1, if_neg (show ¬ (122 = 124 ∧ 60 * i + p + b = j) by omega)]
        by_cases d : q = 124 ∧ j + 1 ≤ b ∧ b < m
        · rw [if_pos d, if_pos ⟨d.1, by omega, d.2.2⟩]
        · rw [if_neg d]
          by_cases d2 : q = 124 ∧ b = j
          · rw [if_pos d2, if_pos ⟨d2.1, by omega, by omega⟩, d2.2]
          · rw [if_neg d2, if_neg (by omega)]
    · rw [if_neg (by rw [jlt]; omega)]
      refine ⟨t, rfl, rfl, rfl, fun q b => ?_, fun q b => ?_, fun I => I⟩
      · rw [if_neg (by omega)]
      · rw [if_neg (by omega)]
theorem shB {a2 a3 a4 : Int32} {i p m : Nat} (ha : a2.toInt = (i : Int)) (hp : a3.toInt = (p : Int)) (hm : a4.toInt = (m : Int)) (hi : i < 6) (hpm : p + m ≤ 60) : ∀ (n : Nat) (t : SS) (j : Nat), j ≤ m → m - j < n → ∃ u, f_X12_shift_L171 a2 a3 a4 n t (nI j) = some (a4, u) ∧ u.1 = t.1 ∧ u.2.2.2 = t.2.2.2 ∧ (∀ q b, zI u q b = if q = 123 ∧ 60 * i + p + j ≤ b ∧ b < 60 * i + p + m then zI t 125 (b - (60 * i + p)) &&& 1 else zI t q b) ∧ (∀ q b, zJ u q b = if q = 122 ∧ 60 * i + p + j ≤ b ∧ b < 60 * i + p + m then zJ t 124 (b - (60 * i + p)) else zJ t q b) ∧ (Iv t → Iv u) := by
  intro n
  induction n with
  | zero => intro t j h1 h2; omega
  | succ n ih =>
    intro t j h1 h2
    have tj : (nI j).toInt = (j : Int) := nI_t (by omega)
    have un : f_X12_shift_L171 a2 a3 a4 (n + 1) t (nI j) = f_X12_shift_L171_b a2 a3 a4 (f_X12_shift_L171 a2 a3 a4 n) t (nI j) := rfl
    rw [un]
    unfold f_X12_shift_L171_b
    by_cases c : j < m
    · have ex := ix3 ha hp hi (x := j) (by omega)
      have gx : inB ((60 : Int32) * a2 + a3 + nI j) 360 := ⟨by omega, by omega⟩
      have gj : inB (nI j) 60 := ⟨by omega, by omega⟩
      have nx : ((60 : Int32) * a2 + a3 + nI j).toInt.toNat = 60 * i + p + j := by omega
      have k1 : nI j + 1 = nI (j + 1) := by
        apply Int32.toInt_inj.1
        rw [i32_add (by rw [tj, jl1]; omega) (by rw [tj, jl1]; omega), tj, jl1, nI_t (by omega)]
        omega
      rw [if_pos (by rw [jlt]; omega), gd_t gj, wl, vl, gd_t gx, st, gd_t gj, vl, vl, gd_t gx, st, vl, k1, nx, show (nI j).toInt.toNat = j by omega]
      obtain ⟨u, h3, h4, h5, h6, h7, h8⟩ := ih (pI (pJ t 122 (60 * i + p + j) (zJ t 124 j)) 123 (60 * i + p + j) (zI (pJ t 122 (60 * i + p + j) (zJ t 124 j)) 125 j &&& 1)) (j + 1) (by omega) (by omega)
      refine ⟨u, h3, h4, h5, fun q b => ?_, fun q b => ?_, fun I => h8 ((I.wJ).wI (q := 123) (by decide) trivial)⟩
      · rw [h6, zI_pI, if_neg (show ¬ (125 = 123 ∧ b - (60 * i + p) = 60 * i + p + j) by omega), zI_pI]
        by_cases d : q = 123 ∧ 60 * i + p + (j + 1) ≤ b ∧ b < 60 * i + p + m
        · rw [if_pos d, if_pos ⟨d.1, by omega, d.2.2⟩]; rfl
        · rw [if_neg d]
          by_cases d2 : q = 123 ∧ b = 60 * i + p + j
          · rw [if_pos d2, if_pos ⟨d2.1, by omega, by omega⟩, d2.2, show 60 * i + p + j - (60 * i + p) = j by omega]; rfl
          · rw [if_neg d2, if_neg (by omega)]; rfl
      · rw [h7]
        have e1 : ∀ a b', zJ (pI (pJ t 122 (60 * i + p + j) (zJ t 124 j)) 123 (60 * i + p + j) (zI (pJ t 122 (60 * i + p + j) (zJ t 124 j)) 125 j &&& 1)) a b' = if a = 122 ∧ b' = 60 * i + p + j then zJ t 124 j else zJ t a b' := fun _ _ => rfl
        rw [e1, e1, if_neg (show ¬ (124 = 122 ∧ b - (60 * i + p) = 60 * i + p + j) by omega)]
        by_cases d : q = 122 ∧ 60 * i + p + (j + 1) ≤ b ∧ b < 60 * i + p + m
        · rw [if_pos d, if_pos ⟨d.1, by omega, d.2.2⟩]
        · rw [if_neg d]
          by_cases d2 : q = 122 ∧ b = 60 * i + p + j
          · rw [if_pos d2, if_pos ⟨d2.1, by omega, by omega⟩, d2.2, show 60 * i + p + j - (60 * i + p) = j by omega]
          · rw [if_neg d2, if_neg (by omega)]
    · rw [if_neg (by rw [jlt]; omega)]
      refine ⟨t, rfl, rfl, rfl, fun q b => ?_, fun q b => ?_, fun I => I⟩
      · rw [if_neg (by omega)]
      · rw [if_neg (by omega)]
def HP (s : SS) (i : Nat) (a c : Int32) : Prop := 0 ≤ a.toInt ∧ 0 ≤ c.toInt ∧ a.toInt + c.toInt ≤ (zS s (47 + 2 * i) 3).toInt
theorem hp_t {s : SS} {i : Nat} {a c : Int32} (I : Iv s) (hi : i < 6) (h : HP s i a c) : f_X8_hasPlaces s (47 + 2 * i) a c = some 1 := by
  have hv := I.v3 (okVi hi)
  obtain ⟨h1, h2, h3⟩ := h
  unfold f_X8_hasPlaces
  rw [if_neg (by rw [jlt, jl0]; omega), if_neg (by rw [jlt, jl0]; omega), if_neg (by rw [jlt]; omega), if_neg (by rw [jlt, i32_sub (by omega) (by omega)]; omega)]
theorem hp_f {s : SS} {i : Nat} {a c : Int32} (I : Iv s) (hi : i < 6) (h : ¬ HP s i a c) : f_X8_hasPlaces s (47 + 2 * i) a c = some 0 := by
  have hv := I.v3 (okVi hi)
  unfold HP at h
  unfold f_X8_hasPlaces
  by_cases c1 : a < 0
  · rw [if_pos c1]
  rw [if_neg c1]
  by_cases c2 : c < 0
  · rw [if_pos c2]
  rw [if_neg c2]
  by_cases c3 : zS s (47 + 2 * i) 3 < c
  · rw [if_pos c3]
  rw [jlt, jl0] at c1 c2
  rw [if_neg c3, if_pos]
  rw [jlt] at c3
  rw [jlt, i32_sub (by omega) (by omega)]
  omega
theorem fl1 {f : Int32} (h : f = 0 ∨ f = 1) : (f &&& 1) &&& 1 = f := by
  rcases h with rfl | rfl <;> decide
theorem sa_shift {s : SS} (G : GA s) (a0 : Int32) (a1 : Int32) (a2 : Int32) (a3 : Int32) (a4 : Int32) : ∃ (rx : Int32) (s1 : SS) (rm : Int32) (s2 : SS), f_X11_shift s a0 a1 a2 a3 a4 = some (rx, s1) ∧ f_X12_shift s1 a0 a1 a2 a3 a4 = some (rm, s2) ∧ GA s2 ∧ FrB s s2 ∧ rx = rm := by
  by_cases c : 0 ≤ a0.toInt ∧ a0.toInt < 6
  · by_cases b : 0 ≤ a2.toInt ∧ a2.toInt < 6
    · obtain ⟨i, ei⟩ : ∃ i, i = a0.toInt.toNat := ⟨_, rfl⟩
      obtain ⟨k, ek⟩ : ∃ k, k = a2.toInt.toNat := ⟨_, rfl⟩
      have hi : i < 6 := by omega
      have hk : k < 6 := by omega
      have Ri := G.2.2.2.2.2 i hi
      have Rk := G.2.2.2.2.2 k hk
      have vi := G.1.v3 (okVi hi)
      have vk := G.1.v3 (okVi hk)
      have g0 : inB a0 6 := ⟨c.1, c.2⟩
      have g2 : inB a2 6 := ⟨b.1, b.2⟩
      have X : f_X11_shift s a0 a1 a2 a3 a4 = (if (zS s (47 + 2 * i) 0) = (0 : Int32) then some ((-11), s) else (if (zS s (47 + 2 * k) 0) = (0 : Int32) then some ((-11), s) else (if (zS s (47 + 2 * i) 0) = (2 : Int32) then (if (zS s (47 + 2 * k) 0) = (2 : Int32) then (if (zS s (47 + 2 * i) 2) = (zS s (47 + 2 * k) 2) then (b1 (f_X8_hasPlaces s (47 + 2 * i) a1 a4) fun r10 => (if r10 = (0 : Int32) then some ((-13), s) else (b1 (f_X8_hasPlaces s (47 + 2 * k) a3 a4) fun r12 => (if r12 = (0 : Int32) then some ((-13), s) else (gd (¬ a1 < 0 ∧ ¬ a3 < 0 ∧ ¬ a4 < 0 ∧ a1.toNatClampNeg + a4.toNatClampNeg ≤ 60 ∧ a3.toNatClampNeg + a4.toNatClampNeg ≤ 60) (st (pK s (47 + 2 * i + 1) (47 + 2 * k + 1) a1.toNatClampNeg a3.toNatClampNeg a4.toNatClampNeg) fun s14 => some (a4, s14))))))) else some ((-12), s)) else some ((-12), s)) else some ((-12), s)))) := by
        unfold f_X11_shift
        rw [shelf_t G.1 c, b1_some, on_some, shelf_t G.1 b, b1_some, on_some, ← ei, ← ek]
      have M : ∀ t, f_X12_shift t a0 a1 a2 a3 a4 = (if (zI t 120 i) = ((-1) : Int32) then some ((-11), t) else (if (zI t 120 k) = ((-1) : Int32) then some ((-11), t) else (if (zI t 120 i) < (0 : Int32) then (if (zI t 120 i) = (zI t 120 k) then (if a4 < (0 : Int32) then some ((-13), t) else (if a1 < (0 : Int32) then some ((-13), t) else (if a3 < (0 : Int32) then some ((-13), t) else (if ((zI t 121 i) - a4) < a1 then some ((-13), t) else (if ((zI t 121 k) - a4) < a3 then some ((-13), t) else (f_X12_shift_L113 (fun (s34 : SS)  => (f_X12_shift_L171 a2 a3 a4 4000 s34 0)) a0 a1 a2 a3 a4 4000 t 0)))))) else some ((-12), t)) else some ((-12), t)))) := by
        intro t
        unfold f_X12_shift
        rw [issh_t c, b1_some, if_neg (by decide), issh_t b, b1_some, if_neg (by decide), gd_t g0, gd_t g2, gd_t g0, gd_t g0, gd_t g2, gd_t g0, gd_t g2, ← ei, ← ek]
      rcases Ri.case with R1 | R1 | R1
      · refine ⟨-11, s, -11, s, ?_, ?_, G, FrB.rf, rfl⟩
        · rw [X, if_pos R1.1]
        · rw [M, if_pos R1.2]
      · have n1 : ¬ zI s 120 i = -1 := fun z => by rw [z, jn1] at R1; omega
        rcases Rk.case with Q1 | Q1 | Q1
        · refine ⟨-11, s, -11, s, ?_, ?_, G, FrB.rf, rfl⟩
          · rw [X, if_neg (by rw [R1.1]; decide), if_pos Q1.1]
          · rw [M, if_neg n1, if_pos Q1.2]
        · refine ⟨-12, s, -12, s, ?_, ?_, G, FrB.rf, rfl⟩
          · rw [X, if_neg (by rw [R1.1]; decide), if_neg (by rw [Q1.1]; decide), if_neg (by rw [R1.1]; decide)]
          · rw [M, if_neg n1, if_neg (fun z => by rw [z, jn1] at Q1; omega), if_neg (by rw [jlt, jl0]; omega)]
        · have hn := Rk.neg Q1
          have r2 := (Rk.row Q1).2.1
          refine ⟨-12, s, -12, s, ?_, ?_, G, FrB.rf, rfl⟩
          · rw [X, if_neg (by rw [R1.1]; decide), if_neg (by rw [Q1]; decide), if_neg (by rw [R1.1]; decide)]
          · rw [M, if_neg n1, if_neg (fun z => by rw [z, jn1] at hn; omega), if_neg (by rw [jlt, jl0]; omega)]
      · have hn := Ri.neg R1
        obtain ⟨r1, r2, r3, r4⟩ := Ri.row R1
        have n1 : ¬ zI s 120 i = -1 := fun z => by rw [z, jn1] at hn; omega
        have n2 : zI s 120 i < 0 := by rw [jlt, jl0]; omega
        have nz : ¬ zS s (47 + 2 * i) 0 = 0 := by rw [R1]; decide
        rcases Rk.case with Q1 | Q1 | Q1
        · refine ⟨-11, s, -11, s, ?_, ?_, G, FrB.rf, rfl⟩
          · rw [X, if_neg nz, if_pos Q1.1]
          · rw [M, if_neg n1, if_pos Q1.2]
        · refine ⟨-12, s, -12, s, ?_, ?_, G, FrB.rf, rfl⟩
          · rw [X, if_neg nz, if_neg (by rw [Q1.1]; decide), if_pos R1, if_neg (by rw [Q1.1]; decide)]
          · rw [M, if_neg n1, if_neg (fun z => by rw [z, jn1] at Q1; omega), if_pos n2, if_neg (fun z => by rw [z] at n2; rw [jlt, jl0] at n2; omega)]
        · have hq := Rk.neg Q1
          obtain ⟨q1, q2, q3, q4⟩ := Rk.row Q1
          have m1 : ¬ zI s 120 k = -1 := fun z => by rw [z, jn1] at hq; omega
          have mz : ¬ zS s (47 + 2 * k) 0 = 0 := by rw [Q1]; decide
          by_cases d : zS s (47 + 2 * i) 2 = zS s (47 + 2 * k) 2
          · have d' : zI s 120 i = zI s 120 k := by rw [r1, q1, d]
            by_cases h1 : HP s i a1 a4 ∧ HP s k a3 a4
            · obtain ⟨⟨p1, p2, p3⟩, ⟨p4, p5, p6⟩⟩ := h1
              obtain ⟨sp, esp⟩ : ∃ x, x = a1.toInt.toNat := ⟨_, rfl⟩
              obtain ⟨dp, edp⟩ : ∃ x, x = a3.toInt.toNat := ⟨_, rfl⟩
              obtain ⟨m, em⟩ : ∃ x, x = a4.toInt.toNat := ⟨_, rfl⟩
              obtain ⟨t, et⟩ : ∃ t, t = pK s (47 + 2 * i + 1) (47 + 2 * k + 1) sp dp m := ⟨_, rfl⟩
              have tI : ∀ q, zI t q = zI s q := fun q => by rw [et]; rfl
              have tS : ∀ q x, zS t q x = zS s q x := fun q x => by rw [et]; rfl
              have tR : t.2.2.2 = s.2.2.2 := by rw [et]; rfl
              have tJ : ∀ q x, zJ t q x = if q = 47 + 2 * k + 1 then va_cpy (zJ s (47 + 2 * i + 1)) (zJ s (47 + 2 * k + 1)) sp dp m x else zJ s q x := fun q x => by rw [et]; rfl
              have It : Iv t := by rw [et]; exact G.1.wK
              obtain ⟨u, h3, h4, h5, h6, h7, h8⟩ := shA (a0 := a0) (a1 := a1) (a2 := a2) (a3 := a3) (a4 := a4) (i := i) (p := sp) (m := m) (q0 := fun (s34 : SS)  => (f_X12_shift_L171 a2 a3 a4 4000 s34 0)) (by omega) (by omega) (by omega) hi (by omega) 4000 t 0 (by omega) (by omega)
              obtain ⟨w, k3, k4, k5, k6, k7, k8⟩ := shB (a2 := a2) (a3 := a3) (a4 := a4) (i := k) (p := dp) (m := m) (by omega) (by omega) (by omega) hk (by omega) 4000 u 0 (by omega) (by omega)
              refine ⟨a4, t, a4, w, ?_, ?_, ⟨k8 (h8 It), ?_⟩, ?_, rfl⟩
              · rw [X, if_neg nz, if_neg mz, if_pos R1, if_pos Q1, if_pos d, hp_t G.1 hi ⟨p1, p2, p3⟩, b1_some, if_neg (by decide), hp_t G.1 hk ⟨p4, p5, p6⟩, b1_some, if_neg (by decide), gd_t ⟨by rw [jlt, jl0]; omega, by rw [jlt, jl0]; omega, by rw [jlt, jl0]; omega, by rw [jcl, jcl]; omega, by rw [jcl, jcl]; omega⟩, et, esp, edp, em]
                rfl
              · rw [M, tI, tI, if_neg n1, if_neg m1, if_pos n2, if_pos d', if_neg (by rw [jlt, jl0]; omega), if_neg (by rw [jlt, jl0]; omega), if_neg (by rw [jlt, jl0]; omega), if_neg (by rw [← r3, jlt, i32_sub (by omega) (by omega)]; omega), if_neg (by rw [← q3, jlt, i32_sub (by omega) (by omega)]; omega)]
                exact h3.trans k3
              · have wS : ∀ q x, zS w q x = zS s q x := fun q x => by
                  show w.1 q x = _
                  rw [k4, h4]
                  exact tS q x
                have wI : ∀ q x, q ≠ 123 → q ≠ 125 → zI w q x = zI s q x := fun q x z1 z2 => by rw [k6, if_neg (by omega), h6, if_neg (by omega), tI]
                refine RG.sh (i0 := k) G.2 (fun q x _ _ => wS q x) (fun q j hq _ _ h123 => wI q j h123 (fun z => by rw [z] at hq; exact absurd hq (by decide))) (fun j _ => wI 120 j (by decide) (by decide)) (fun j _ => wI 121 j (by decide) (by decide)) (fun j l hj hl => ?_) (fun j l hj hl => ?_) (fun j l hj hl => ?_) (fun j => ?_) hk ?_
                · rw [k6, if_neg (by omega), h6, if_neg (by omega), tI]
                · rw [k7, if_neg (by omega), h7, if_neg (by omega), tJ, if_neg (by omega)]
                · rw [k7, if_neg (by omega), h7, if_neg (by omega), tJ, if_neg (by omega)]
                · show w.2.2.2.1 17 j = _
                  rw [k5, h5, tR]
                  rfl
                · refine Or.inr (Or.inr ⟨?_, ?_, ?_, ?_, fun j hj => ?_⟩)
                  · rw [wS]; exact Q1
                  · rw [wS, wI 120 k (by decide) (by decide)]; exact q1
                  · rw [wS]; exact q2
                  · rw [wS, wI 121 k (by decide) (by decide)]; exact q3
                  · have E2 : zJ w (48 + 2 * k) j = if dp ≤ j ∧ j < dp + m then zJ s (48 + 2 * i) (sp + (j - dp)) else zJ s (48 + 2 * k) j := by
                      rw [k7, if_neg (by omega), h7, if_neg (by omega), tJ, if_pos (by omega), show 47 + 2 * i + 1 = 48 + 2 * i by omega, show 47 + 2 * k + 1 = 48 + 2 * k by omega]
                      rfl
                    by_cases z : dp ≤ j ∧ j < dp + m
                    · have y := r4 (sp + (j - dp)) (by omega)
                      have E1 : zI w 123 (60 * k + j) = zI s 123 (60 * i + (sp + (j - dp))) := by
                        rw [k6, if_pos ⟨rfl, by omega, by omega⟩, h6, if_pos ⟨rfl, by omega, by omega⟩, tI, show 60 * i + sp + (60 * k + j - (60 * k + dp)) = 60 * i + (sp + (j - dp)) by omega]
                        exact fl1 (y.imp (fun z => z.1) (fun z => z.1))
                      have E3 : zJ w 122 (60 * k + j) = zJ s 122 (60 * i + (sp + (j - dp))) := by
                        rw [k7, if_pos ⟨rfl, by omega, by omega⟩, h7, if_pos ⟨rfl, by omega, by omega⟩, tJ, if_neg (by omega), show 60 * i + sp + (60 * k + j - (60 * k + dp)) = 60 * i + (sp + (j - dp)) by omega]
                      rw [if_pos z] at E2
                      rw [E1, E2, E3]
                      exact y
                    · have E1 : zI w 123 (60 * k + j) = zI s 123 (60 * k + j) := by rw [k6, if_neg (by omega), h6, if_neg (by omega), tI]
                      have E3 : zJ w 122 (60 * k + j) = zJ s 122 (60 * k + j) := by rw [k7, if_neg (by omega), h7, if_neg (by omega), tJ, if_neg (by omega)]
                      rw [if_neg z] at E2
                      rw [E1, E2, E3]
                      exact q4 j hj
              · refine ⟨fun q x e => ?_, fun q x e => ?_⟩
                · show w.1 q x = _
                  rw [k4, h4]
                  exact tS q x
                · rw [k6, if_neg (fun z => by rw [z.1] at e; exact absurd e (by decide)), h6, if_neg (fun z => by rw [z.1] at e; exact absurd e (by decide)), tI]
            · refine ⟨-13, s, -13, s, ?_, ?_, G, FrB.rf, rfl⟩
              · rw [X, if_neg nz, if_neg mz, if_pos R1, if_pos Q1, if_pos d]
                by_cases h2 : HP s i a1 a4
                · rw [hp_t G.1 hi h2, b1_some, if_neg (by decide), hp_f G.1 hk (fun z => h1 ⟨h2, z⟩), b1_some, if_pos rfl]
                · rw [hp_f G.1 hi h2, b1_some, if_pos rfl]
              · rw [M, if_neg n1, if_neg m1, if_pos n2, if_pos d']
                unfold HP at h1
                by_cases y1 : a4 < 0
                · rw [if_pos y1]
                rw [if_neg y1]
                by_cases y2 : a1 < 0
                · rw [if_pos y2]
                rw [if_neg y2]
                by_cases y3 : a3 < 0
                · rw [if_pos y3]
                rw [if_neg y3]
                rw [jlt, jl0] at y1 y2 y3
                have l4 := jlo a4
                by_cases y4 : zI s 121 i - a4 < a1
                · rw [if_pos y4]
                rw [if_neg y4, if_pos]
                rw [← r3, jlt, i32_sub (by omega) (by omega)] at y4
                rw [← q3, jlt, i32_sub (by omega) (by omega)]
                omega
          · refine ⟨-12, s, -12, s, ?_, ?_, G, FrB.rf, rfl⟩
            · rw [X, if_neg nz, if_neg mz, if_pos R1, if_pos Q1, if_neg d]
            · rw [M, if_neg n1, if_neg m1, if_pos n2, if_neg]
              intro z
              apply d
              apply Int32.toInt_inj.1
              rw [z] at hn
              omega
    · refine ⟨-1, s, -1, s, ?_, ?_, G, FrB.rf, rfl⟩
      · unfold f_X11_shift
        rw [shelf_t G.1 c, b1_some, on_some, shelf_f b, b1_some, on_none]
      · unfold f_X12_shift
        rw [issh_t c, b1_some, if_neg (by decide), issh_f b, b1_some, if_pos rfl]
  · refine ⟨-1, s, -1, s, ?_, ?_, G, FrB.rf, rfl⟩
    · unfold f_X11_shift
      rw [shelf_f c, b1_some, on_none]
      by_cases b : 0 ≤ a2.toInt ∧ a2.toInt < 6
      · rw [shelf_t G.1 b, b1_some, on_some]
      · rw [shelf_f b, b1_some, on_none]
    · unfold f_X12_shift
      rw [issh_f c, b1_some, if_pos rfl]
/-! TAKEN -/
theorem under_L {s : SS} {a : Int32} (n : Nat) : ∀ k : Nat, k < 8 → ∀ m : Nat, m < 8 → a = nI m → f_X0_isUnder_L9 (fun x => if x = a then some 1 else some 0) s a (n + 9) (nI k) 0 = f_X12_isUnder (nI k) (nI m) := by
  intro k hk m hm ha
  subst ha
  have h1 : k = 0 ∨ k = 1 ∨ k = 2 ∨ k = 3 ∨ k = 4 ∨ k = 5 ∨ k = 6 ∨ k = 7 := by omega
  have h2 : m = 0 ∨ m = 1 ∨ m = 2 ∨ m = 3 ∨ m = 4 ∨ m = 5 ∨ m = 6 ∨ m = 7 := by omega
  rcases h1 with rfl | rfl | rfl | rfl | rfl | rfl | rfl | rfl <;> rcases h2 with rfl | rfl | rfl | rfl | rfl | rfl | rfl | rfl <;> rfl
theorem under_e {s : SS} {k a : Int32} (hk : 0 ≤ k.toInt ∧ k.toInt ≤ 7) (ha : 0 ≤ a.toInt ∧ a.toInt ≤ 7) : f_X0_isUnder_L9 (fun x => if x = a then some 1 else some 0) s a 4000 k 0 = f_X12_isUnder k a := by
  have h := under_L (s := s) (a := a) 3991 k.toInt.toNat (by omega) a.toInt.toNat (by omega) (toN_ ha.1)
  rw [← toN_ hk.1, ← toN_ ha.1] at h
  exact h
theorem under_01 (k a : Int32) : f_X12_isUnder k a = some 0 ∨ f_X12_isUnder k a = some 1 := by
  unfold f_X12_isUnder
  by_cases h1 : a = 0
  · rw [if_pos h1]; exact Or.inr rfl
  rw [if_neg h1]
  by_cases h2 : k = a
  · rw [if_pos h2]; exact Or.inr rfl
  rw [if_neg h2]
  split
  · split
    · exact Or.inr rfl
    · split
      · exact Or.inr rfl
      · split
        · exact Or.inr rfl
        · split
          · exact Or.inr rfl
          · split
            · exact Or.inr rfl
            · exact Or.inl rfl
  · split
    · split
      · exact Or.inr rfl
      · split
        · exact Or.inr rfl
        · split
          · exact Or.inr rfl
          · exact Or.inl rfl
    · split
      · split
        · exact Or.inr rfl
        · exact Or.inl rfl
      · exact Or.inl rfl
theorem sa_taken {s : SS} (G : GA s) (a0 : Int32) (a1 : Int32) : ∃ (rx : Int32) (s1 : SS) (rm : Int32) (s2 : SS), f_X11_taken s a0 a1 = some rx ∧ f_X12_taken s a0 a1 = some rm ∧ GA s ∧ rx = rm := by
  have hf : 0 ≤ (zS s 15 3).toInt ∧ (zS s 15 3).toInt ≤ 120 := G.1.f (q := 15) (k := 3) rfl
  by_cases c : 0 ≤ a0.toInt ∧ a0.toInt < 6
  · by_cases b : 0 ≤ a1.toInt ∧ a1.toInt ≤ 7
    · have bx : ¬ a1 < 0 ∧ ¬ 7 < a1 := ⟨by rw [jlt, jl0]; omega, by rw [jlt, jl7]; omega⟩
      obtain ⟨i, ei⟩ : ∃ i, i = a0.toInt.toNat := ⟨_, rfl⟩
      have hi : i < 6 := by omega
      have R := G.2.2.2.2.2 i hi
      have g0 : inB a0 6 := ⟨c.1, c.2⟩
      rcases R with R1 | R1 | R1
      · refine ⟨-11, s, -11, s, ?_, ?_, G, rfl⟩
        · unfold f_X11_taken
          rw [shelf_t G.1 c, b1_some, on_some, if_neg bx.1, if_neg bx.2, ← ei, if_pos R1.1]
        · unfold f_X12_taken
          rw [issh_t c, b1_some, if_neg (by decide), in_t (by rw [jl0, jl7]; omega), b1_some, if_neg (by decide), gd_t g0, ← ei, if_pos R1.2]
      · obtain ⟨f0, f1, f2, f3⟩ := R1
        have gk : inB (zI s 120 i) 120 := ⟨f2, by omega⟩
        have kk : f_X0_kindOf s (zS s (47 + 2 * i) 1) = some (zI s 16 (zI s 120 i).toInt.toNat) := by
          rw [← f1]
          exact kind_t G.1 ⟨f2, f3⟩
        have kr : 0 ≤ (zI s 16 (zI s 120 i).toInt.toNat).toInt ∧ (zI s 16 (zI s 120 i).toInt.toNat).toInt ≤ 7 := G.1.a (q := 16) (i := (zI s 120 i).toInt.toNat) rfl
        have ek : zI s 16 (zI s 120 i).toInt.toNat = zI s 62 (zI s 120 i).toInt.toNat := G.2.2.1.2.1 _
        have uu : f_X0_isUnder s (zS s (47 + 2 * i) 1) a1 = f_X12_isUnder (zI s 16 (zI s 120 i).toInt.toNat) a1 := by
          unfold f_X0_isUnder
          rw [kk, b1_some]
          exact under_e kr b
        have nn : ¬ zI s 120 i = -1 ∧ ¬ zI s 120 i < 0 := ⟨fun z => by rw [z, jn1] at f2; omega, by rw [jlt, jl0]; omega⟩
        rcases under_01 (zI s 16 (zI s 120 i).toInt.toNat) a1 with u | u
        · refine ⟨-12, s, -12, s, ?_, ?_, G, rfl⟩
          · unfold f_X11_taken
            rw [shelf_t G.1 c, b1_some, on_some, if_neg bx.1, if_neg bx.2, ← ei, if_neg (by rw [f0]; decide), if_neg (by rw [f0]; decide), uu, u, b1_some, if_pos rfl]
          · unfold f_X12_taken
            rw [issh_t c, b1_some, if_neg (by decide), in_t (by rw [jl0, jl7]; omega), b1_some, if_neg (by decide), gd_t g0, ← ei, if_neg nn.1, gd_t g0, if_neg nn.2, gd_t g0, vl, gd_t gk, ← ek, u, b1_some, if_pos rfl]
        · refine ⟨zI s 16 (zI s 120 i).toInt.toNat, s, zI s 62 (zI s 120 i).toInt.toNat, s, ?_, ?_, G, ek⟩
          · unfold f_X11_taken
            rw [shelf_t G.1 c, b1_some, on_some, if_neg bx.1, if_neg bx.2, ← ei, if_neg (by rw [f0]; decide), if_neg (by rw [f0]; decide), uu, u, b1_some, if_neg (by decide), kk, b1_some]
          · unfold f_X12_taken
            rw [issh_t c, b1_some, if_neg (by decide), in_t (by rw [jl0, jl7]; omega), b1_some, if_neg (by decide), gd_t g0, ← ei, if_neg nn.1, gd_t g0, if_neg nn.2, gd_t g0, vl, gd_t gk, ← ek, u, b1_some, if_neg (by decide), gd_t g0, vl, gd_t gk, ek]
      · have hn := SR.neg (Or.inr (Or.inr R1)) R1.1
        have r2 := R1.2.2.1
        refine ⟨-12, s, -12, s, ?_, ?_, G, rfl⟩
        · unfold f_X11_taken
          rw [shelf_t G.1 c, b1_some, on_some, if_neg bx.1, if_neg bx.2, ← ei, if_neg (by rw [R1.1]; decide), if_pos R1.1]
        · unfold f_X12_taken
          rw [issh_t c, b1_some, if_neg (by decide), in_t (by rw [jl0, jl7]; omega), b1_some, if_neg (by decide), gd_t g0, ← ei, if_neg (fun z => by rw [z, jn1] at hn; omega), gd_t g0, if_pos (by rw [jlt, jl0]; omega)]
    · refine ⟨-1, s, -1, s, ?_, ?_, G, rfl⟩
      · unfold f_X11_taken
        rw [shelf_t G.1 c, b1_some, on_some]
        by_cases h : a1 < 0
        · rw [if_pos h]
        · rw [if_neg h, if_pos (by rw [jlt, jl7]; rw [jlt, jl0] at h; omega)]
      · unfold f_X12_taken
        rw [issh_t c, b1_some, if_neg (by decide), in_f (by rw [jl0, jl7]; omega), b1_some, if_pos rfl]
  · refine ⟨-1, s, -1, s, ?_, ?_, G, rfl⟩
    · unfold f_X11_taken
      rw [shelf_f c, b1_some, on_none]
    · unfold f_X12_taken
      rw [issh_f c, b1_some, if_pos rfl]
/-! THE FRESH STATE -/
theorem GA_fr : GA sFr := by
  refine ⟨Iv_fr, ⟨rfl, rfl, rfl, rfl, rfl, rfl⟩, ⟨fun _ => rfl, fun _ => rfl, fun _ => rfl⟩, fun i hi => ?_, fun i hi => ?_, fun i hi => ?_⟩
  · have h : i = 0 ∨ i = 1 ∨ i = 2 := by omega
    rcases h with rfl | rfl | rfl <;> exact ⟨rfl, rfl⟩
  · refine ⟨fun _ z => ?_, fun _ => rfl⟩
    have h0 : (zS sFr 15 3).toInt = 0 := by decide
    have := z.1
    omega
  · have h : i = 0 ∨ i = 1 ∨ i = 2 ∨ i = 3 ∨ i = 4 ∨ i = 5 := by omega
    rcases h with rfl | rfl | rfl | rfl | rfl | rfl <;> exact Or.inl ⟨rfl, rfl⟩
/-! ROCK, MOVES, THE HOUR: class cells of s, reference's cells of t -/
def RTx (s t : SS) : Prop := zS s 0 14 = zS t 59 1 ∧ zS s 1 4 = zS t 59 56 ∧ (∀ i, zI s 4 i = zI t 97 i) ∧ (∀ i, zI s 5 i = zI t 98 i) ∧ 0 ≤ (zS s 0 14).toInt ∧ (zS s 0 14).toInt ≤ 1699
def RKx (s t : SS) : Prop := ∀ c y, c < 32 → 1 ≤ y → y ≤ 60 → zI s 2 (60 * c + y - 1) = 3 + zI t 60 (61 * c + y) ∧ zI s 3 (60 * c + y - 1) = zI t 61 (61 * c + y) ∧ (zI t 61 (61 * c + y) = 0 ∨ zI t 61 (61 * c + y) = 1)
/-- the traces alike -/
def TR (s t : SS) : Prop := zS s 15 11 = zS t 59 87 ∧ ∀ i, zI s 18 i = zI t 119 i
def xn (s : SS) : Int := (zS s 24 1).toInt
/-- tapes alike: bytes of the class from 0 to 255, of the reference signed -/
def TP (s t : SS) : Prop := zS s 24 1 = zS t 59 37 ∧ (0 ≤ xn s ∧ xn s ≤ 160) ∧ ∀ i, i < 160 → 0 ≤ (zI s 25 i).toInt ∧ (zI s 25 i).toInt ≤ 255 ∧ (zI t 86 i).toInt = if (zI s 25 i).toInt < 128 then (zI s 25 i).toInt else (zI s 25 i).toInt - 256
def TT (s : SS) : Prop := TP s s ∧ zS s 0 8 = zS s 59 38
theorem TT.c {s r : SS} (T : TT s) (F : FrB s r) : TT r := by
  obtain ⟨⟨a1, a2, a3⟩, b⟩ := T
  refine ⟨⟨by rw [F.1 24 1 rfl, F.1 59 37 rfl]; exact a1, by unfold xn; rw [F.1 24 1 rfl]; exact a2, fun i hi => by rw [F.2 25 i rfl, F.2 86 i rfl]; exact a3 i hi⟩, by rw [F.1 0 8 rfl, F.1 59 38 rfl]; exact b⟩
def TK (s : SS) : Prop := RTx s s ∧ RKx s s ∧ TR s s ∧ TT s
theorem TK.c {s r : SS} (T : TK s) (F : FrB s r) : TK r := by
  obtain ⟨⟨t1, t2, t3, t4, t6⟩, t5, ⟨t7, t8⟩, t9⟩ := T
  refine ⟨⟨?_, ?_, fun i => ?_, fun i => ?_, by rw [F.1 0 14 rfl]; exact t6⟩, fun c y h1 h2 h3 => ?_, ⟨by rw [F.1 15 11 rfl, F.1 59 87 rfl]; exact t7, fun i => by rw [F.2 18 i rfl, F.2 119 i rfl]; exact t8 i⟩, t9.c F⟩
  · rw [F.1 0 14 rfl, F.1 59 1 rfl]; exact t1
  · rw [F.1 1 4 rfl, F.1 59 56 rfl]; exact t2
  · rw [F.2 4 i rfl, F.2 97 i rfl]; exact t3 i
  · rw [F.2 5 i rfl, F.2 98 i rfl]; exact t4 i
  · rw [F.2 2 _ rfl, F.2 60 _ rfl, F.2 3 _ rfl, F.2 61 _ rfl]; exact t5 c y h1 h2 h3
def GI (s : SS) : Prop := GA s ∧ TK s
theorem GI.go {s s1 r : SS} (G : GI s) (F1 : Fr s s1) (h1 : ∀ i, zR s1 17 i = zR s 17 i) (F2 : Fr s1 r) (h2 : ∀ i, zR r 17 i = zR s1 17 i) (I : Iv r) : GI r := ⟨G.1.go (F1.tr F2).a (fun i => (h2 i).trans (h1 i)) I, G.2.c (F1.tr F2).b⟩
def Vc (a : Int32) : Prop := 0 ≤ a.toInt ∧ a.toInt / 100 < 32 ∧ 1 ≤ a.toInt % 100 ∧ a.toInt % 100 ≤ 60
def cC (a : Int32) : Nat := (a.toInt / 100).toNat
def cY (a : Int32) : Nat := (a.toInt % 100).toNat
theorem Vc.b {a : Int32} (h : Vc a) : cC a < 32 ∧ 1 ≤ cY a ∧ cY a ≤ 60 := by
  unfold Vc at h
  unfold cC cY
  omega
theorem d100 {a : Int32} (h : 0 ≤ a.toInt) : (a / 100).toInt = a.toInt / 100 := by rw [jd100, if_pos h]
theorem m100 {a : Int32} (h : 0 ≤ a.toInt) : (a % 100).toInt = a.toInt % 100 := by rw [jm100, if_pos h]
theorem plX_t {a : Int32} (h : Vc a) : f_X11_placeOf a = some (nI (60 * cC a + cY a - 1)) := by
  obtain ⟨h1, h2, h3, h4⟩ := h
  have e1 := d100 h1
  have e2 := m100 h1
  unfold f_X11_placeOf
  rw [if_neg (by rw [jlt, jl0]; omega), if_pos (by rw [jlt, jl32]; omega), yard_t (by omega), b1_some, if_neg (by decide)]
  have j60 : (60 : Int32).toInt = 60 := rfl
  have m1 : (a / 100 * 60).toInt = a.toInt / 100 * 60 := by rw [i32_mul (by rw [j60]; omega) (by rw [j60]; omega), j60, e1]
  have m2 : (a / 100 * 60 + a % 100).toInt = a.toInt / 100 * 60 + a.toInt % 100 := by rw [i32_add (by omega) (by omega), m1, e2]
  congr 1
  apply Int32.toInt_inj.1
  unfold cC cY
  rw [i32_sub (by rw [m2, jl1]; omega) (by rw [m2, jl1]; omega), m2, jl1, nI_t (by omega)]
  omega
theorem plX_f {a : Int32} (h : ¬ Vc a) : f_X11_placeOf a = some (-1) := by
  unfold f_X11_placeOf
  by_cases c : a < 0
  · rw [if_pos c]
  have h1 : 0 ≤ a.toInt := by rw [jlt, jl0] at c; omega
  have e1 := d100 h1
  have e2 := m100 h1
  rw [if_neg c]
  by_cases d : a / 100 < 32
  · rw [if_pos d, yard_f, b1_some, if_pos rfl]
    rw [jlt, jl32] at d
    intro z
    exact h ⟨h1, by omega, by omega, by omega⟩
  · rw [if_neg d]
theorem cel_t {a : Int32} (h : Vc a) : f_X12_isCell a = some 1 := by
  obtain ⟨h1, h2, h3, h4⟩ := h
  have e1 := d100 h1
  have e2 := m100 h1
  unfold f_X12_isCell
  rw [if_neg (by rw [jlt, jl0]; omega), if_pos (by rw [jlt, jl32]; omega), in_t (by rw [jl1, jl60]; omega), b1_some, if_neg (by decide)]
theorem cel_f {a : Int32} (h : ¬ Vc a) : f_X12_isCell a = some 0 := by
  unfold f_X12_isCell
  by_cases c : a < 0
  · rw [if_pos c]
  have h1 : 0 ≤ a.toInt := by rw [jlt, jl0] at c; omega
  have e1 := d100 h1
  have e2 := m100 h1
  rw [if_neg c]
  by_cases d : a / 100 < 32
  · rw [if_pos d, in_f, b1_some, if_pos rfl]
    rw [jlt, jl32] at d
    rw [jl1, jl60]
    intro z
    exact h ⟨h1, by omega, by omega, by omega⟩
  · rw [if_neg d]
theorem plM {a : Int32} (h1 : 0 ≤ a.toInt) (h2 : a.toInt < 3200) : f_X12_placeOf a = some (nI (61 * cC a + cY a)) := by
  have e1 := d100 h1
  have e2 := m100 h1
  unfold f_X12_placeOf
  have j61 : (61 : Int32).toInt = 61 := rfl
  have m1 : (61 * (a / 100)).toInt = 61 * (a.toInt / 100) := by rw [i32_mul (by rw [j61]; omega) (by rw [j61]; omega), j61, e1]
  congr 1
  apply Int32.toInt_inj.1
  unfold cC cY
  rw [i32_add (by omega) (by omega), m1, e2, nI_t (by omega)]
  omega
theorem Vc.lt {a : Int32} (h : Vc a) : a.toInt < 3200 := by
  unfold Vc at h
  omega
theorem nnI {k : Nat} (h : k < 4000) : (nI k).toInt = (k : Int) ∧ (nI k).toInt.toNat = k := by
  have := nI_t (k := k) (by omega)
  omega
/-- a cell of the rock is written in both -/
theorem TK.w2 {s : SS} {a v w : Int32} (T : TK s) (h : Vc a) (e : v = 3 + w) : TK (pI (pI s 2 (60 * cC a + cY a - 1) v) 60 (61 * cC a + cY a) w) := by
  obtain ⟨b1, b2, b3⟩ := h.b
  obtain ⟨T1, T2, T3⟩ := T
  refine ⟨T1, fun c y h1 h2 h3 => ?_, T3⟩
  obtain ⟨r1, r2, r3⟩ := T2 c y h1 h2 h3
  refine ⟨?_, r2, r3⟩
  rw [zI_pI, if_neg (by omega), zI_pI, zI_pI]
  by_cases z : 60 * c + y - 1 = 60 * cC a + cY a - 1
  · rw [if_pos ⟨rfl, z⟩, if_pos ⟨rfl, by omega⟩]; exact e
  · rw [if_neg (by omega), if_neg (by omega), zI_pI, if_neg (by omega)]; exact r1
theorem TK.w3 {s : SS} {a v w : Int32} (T : TK s) (h : Vc a) (e : v = w) (hw : w = 0 ∨ w = 1) : TK (pI (pI s 3 (60 * cC a + cY a - 1) v) 61 (61 * cC a + cY a) w) := by
  obtain ⟨b1, b2, b3⟩ := h.b
  obtain ⟨T1, T2, T3⟩ := T
  refine ⟨T1, fun c y h1 h2 h3 => ?_, T3⟩
  obtain ⟨r1, r2, r3⟩ := T2 c y h1 h2 h3
  have e1 : zI (pI (pI s 3 (60 * cC a + cY a - 1) v) 61 (61 * cC a + cY a) w) 3 (60 * c + y - 1) = if 60 * c + y - 1 = 60 * cC a + cY a - 1 then v else zI s 3 (60 * c + y - 1) := by
    rw [zI_pI, if_neg (by omega), zI_pI]
    by_cases z : 60 * c + y - 1 = 60 * cC a + cY a - 1
    · rw [if_pos ⟨rfl, z⟩, if_pos z]
    · rw [if_neg (by omega), if_neg z]
  have e2 : zI (pI (pI s 3 (60 * cC a + cY a - 1) v) 61 (61 * cC a + cY a) w) 61 (61 * c + y) = if 60 * c + y - 1 = 60 * cC a + cY a - 1 then w else zI s 61 (61 * c + y) := by
    rw [zI_pI]
    by_cases z : 60 * c + y - 1 = 60 * cC a + cY a - 1
    · rw [if_pos ⟨rfl, by omega⟩, if_pos z]
    · rw [if_neg (by omega), if_neg z, zI_pI, if_neg (by omega)]
  refine ⟨r1, ?_, ?_⟩
  · rw [e1, e2]
    by_cases z : 60 * c + y - 1 = 60 * cC a + cY a - 1
    · rw [if_pos z, if_pos z]; exact e
    · rw [if_neg z, if_neg z]; exact r2
  · rw [e2]
    by_cases z : 60 * c + y - 1 = 60 * cC a + cY a - 1
    · rw [if_pos z]; exact hw
    · rw [if_neg z]; exact r3
theorem FrA.pI2 {s : SS} {q1 q2 i1 i2 : Nat} {v w : Int32} (h1 : fIA q1 = false) (h2 : fIA q2 = false) : FrA s (pI (pI s q1 i1 v) q2 i2 w) := ⟨fun _ _ _ => rfl, fun q j h => by rw [zIf h h2, zIf h h1], fun _ _ _ => rfl⟩
theorem st_hard {s : SS} (G : GI s) (a0 : Int32) (a1 : Int32) : ∃ (rx : Int32) (s1 : SS) (rm : Int32) (s2 : SS), f_X11_hard s a0 a1 = some (rx, s1) ∧ f_X12_hard s1 a0 a1 = some (rm, s2) ∧ GI s2 ∧ rx = rm := by
  by_cases c : Vc a0
  · obtain ⟨b1, b2, b3⟩ := c.b
    have nx := nnI (k := 60 * cC a0 + cY a0 - 1) (by omega)
    have nm := nnI (k := 61 * cC a0 + cY a0) (by omega)
    by_cases d : 1 ≤ a1.toInt ∧ a1.toInt ≤ 9
    · have e3 : a1 = 3 + (a1 - 3) := by
        apply Int32.toInt_inj.1
        have j3 : (3 : Int32).toInt = 3 := rfl
        have m1 : (a1 - 3).toInt = a1.toInt - 3 := by rw [i32_sub (by rw [j3]; omega) (by rw [j3]; omega), j3]
        rw [i32_add (by rw [m1, j3]; omega) (by rw [m1, j3]; omega), m1, j3]
        omega
      refine ⟨zI s 2 (60 * cC a0 + cY a0 - 1), pI s 2 (60 * cC a0 + cY a0 - 1) a1, 3 + zI s 60 (61 * cC a0 + cY a0), pI (pI s 2 (60 * cC a0 + cY a0 - 1) a1) 60 (61 * cC a0 + cY a0) (a1 - 3), ?_, ?_, ⟨G.1.go (FrA.pI2 (by decide) (by decide)) (fun _ => rfl) ((G.1.1.wI (q := 2) (by decide) trivial).wI (q := 60) (by decide) trivial), G.2.w2 c e3⟩, (G.2.2.1 _ _ b1 b2 b3).1⟩
      · unfold f_X11_hard
        rw [plX_t c, b1_some, if_neg (by rw [jlt, jl0]; omega), if_neg (by rw [jlt, jl1]; omega), if_neg (by rw [jlt, jl9]; omega), gd_t ⟨by omega, by omega⟩, vl, gd_t ⟨by omega, by omega⟩, st, nx.2]
      · unfold f_X12_hard
        rw [cel_t c, b1_some, if_neg (by decide), in_t (by rw [jl1, jl9]; omega), b1_some, if_neg (by decide), plM c.1 c.lt, b1_some, gd_t ⟨by omega, by omega⟩, vl, b1_some, vl, gd_t ⟨by omega, by omega⟩, st, nm.2]
        rfl
    · refine ⟨-1, s, -1, s, ?_, ?_, G, rfl⟩
      · unfold f_X11_hard
        rw [plX_t c, b1_some, if_neg (by rw [jlt, jl0]; omega)]
        by_cases h : a1 < 1
        · rw [if_pos h]
        · rw [if_neg h, if_pos (by rw [jlt, jl9]; rw [jlt, jl1] at h; omega)]
      · unfold f_X12_hard
        rw [cel_t c, b1_some, if_neg (by decide), in_f (by rw [jl1, jl9]; omega), b1_some, if_pos rfl]
  · refine ⟨-1, s, -1, s, ?_, ?_, G, rfl⟩
    · unfold f_X11_hard
      rw [plX_f c, b1_some, if_pos (by decide)]
    · unfold f_X12_hard
      rw [cel_f c, b1_some, if_pos rfl]
theorem st_open {s : SS} (G : GI s) (a0 : Int32) (a1 : Int32) : ∃ (rx : Int32) (s1 : SS) (rm : Int32) (s2 : SS), f_X11_open s a0 a1 = some (rx, s1) ∧ f_X12_open s1 a0 a1 = some (rm, s2) ∧ GI s2 ∧ rx = rm := by
  by_cases c : Vc a0
  · obtain ⟨u1, u2, u3⟩ := c.b
    have nx := nnI (k := 60 * cC a0 + cY a0 - 1) (by omega)
    have nm := nnI (k := 61 * cC a0 + cY a0) (by omega)
    by_cases d : 0 ≤ a1.toInt ∧ a1.toInt ≤ 1
    · have d1 : a1 = 0 ∨ a1 = 1 := by
        have h : a1.toInt = 0 ∨ a1.toInt = 1 := by omega
        exact h.imp (fun z => Int32.toInt_inj.1 z) (fun z => Int32.toInt_inj.1 z)
      obtain ⟨_, r2, r3⟩ := G.2.2.1 _ _ u1 u2 u3
      have fin : ∀ w, w = a1 → GI (pI (pI s 3 (60 * cC a0 + cY a0 - 1) a1) 61 (61 * cC a0 + cY a0) w) := fun w hw => ⟨G.1.go (FrA.pI2 (by decide) (by decide)) (fun _ => rfl) ((G.1.1.wI (q := 3) (by decide) trivial).wI (q := 61) (by decide) trivial), G.2.w3 c hw.symm (by rw [hw]; exact d1)⟩
      have hx : f_X11_open s a0 a1 = some (zI s 3 (60 * cC a0 + cY a0 - 1), pI s 3 (60 * cC a0 + cY a0 - 1) a1) := by
        unfold f_X11_open
        rw [plX_t c, b1_some, if_neg (by rw [jlt, jl0]; omega), if_neg (by rw [jlt, jl0]; omega), if_neg (by rw [jlt, jl1]; omega), gd_t ⟨by omega, by omega⟩, vl, gd_t ⟨by omega, by omega⟩, st, nx.2]
      have hm : ∀ t, (zI t 61 (61 * cC a0 + cY a0) = 0 ∨ zI t 61 (61 * cC a0 + cY a0) = 1) → ∃ w, w = a1 ∧ f_X12_open t a0 a1 = some (zI t 61 (61 * cC a0 + cY a0), pI t 61 (61 * cC a0 + cY a0) w) := by
        intro t ht
        refine ⟨(if a1 = 1 then (1 : Int32) else 0) &&& 1, ?_, ?_⟩
        · rcases d1 with rfl | rfl <;> decide
        · unfold f_X12_open
          have g : inB (nI (61 * cC a0 + cY a0)) 1952 := ⟨by omega, by omega⟩
          have key : ∀ t7 : Int32, (b1 (some (nI (61 * cC a0 + cY a0))) fun r8 => (jn (fun (t10_0 : Int32) => (gd (inB r8 1952) (st (pI t 61 (r8.toInt.toNat) (t10_0 &&& 1)) fun s12 => some (t7, s12)))) fun k10 => (if a1 = (1 : Int32) then (k10 1) else (k10 0)))) = some (t7, pI t 61 (61 * cC a0 + cY a0) ((if a1 = 1 then (1 : Int32) else 0) &&& 1)) := by
            intro t7
            rw [b1_some, jn]
            by_cases z : a1 = 1
            · rw [if_pos z, if_pos z]
              show gd _ _ = _
              rw [gd_t g, st, nm.2]
            · rw [if_neg z, if_neg z]
              show gd _ _ = _
              rw [gd_t g, st, nm.2]
          rw [cel_t c, b1_some, if_neg (by decide), in_t (by rw [jl0, jl1]; omega), b1_some, if_neg (by decide), plM c.1 c.lt, b1_some, gd_t g, jn, nm.2]
          rcases ht with h | h
          · rw [if_pos h, h]
            exact key 0
          · rw [if_neg (by rw [h]; decide), h]
            exact key 1
      obtain ⟨w, hw, e⟩ := hm (pI s 3 (60 * cC a0 + cY a0 - 1) a1) r3
      exact ⟨_, _, _, _, hx, e, fin w hw, r2⟩
    · refine ⟨-1, s, -1, s, ?_, ?_, G, rfl⟩
      · unfold f_X11_open
        rw [plX_t c, b1_some, if_neg (by rw [jlt, jl0]; omega)]
        by_cases h : a1 < 0
        · rw [if_pos h]
        · rw [if_neg h, if_pos (by rw [jlt, jl1]; rw [jlt, jl0] at h; omega)]
      · unfold f_X12_open
        rw [cel_t c, b1_some, if_neg (by decide), in_f (by rw [jl0, jl1]; omega), b1_some, if_pos rfl]
  · refine ⟨-1, s, -1, s, ?_, ?_, G, rfl⟩
    · unfold f_X11_open
      rw [plX_f c, b1_some, if_pos (by decide)]
    · unfold f_X12_open
      rw [cel_f c, b1_some, if_pos rfl]
theorem st_ofCell {s : SS} (G : GI s) (a0 : Int32) (a1 : Int32) : ∃ (rx : Int32) (s1 : SS) (rm : Int32) (s2 : SS), f_X11_ofCell s a0 a1 = some rx ∧ f_X12_ofCell s a0 a1 = some rm ∧ GI s ∧ rx = rm := by
  by_cases c : Vc a0
  · obtain ⟨b1, b2, b3⟩ := c.b
    have nx := nnI (k := 60 * cC a0 + cY a0 - 1) (by omega)
    have nm := nnI (k := 61 * cC a0 + cY a0) (by omega)
    obtain ⟨r1, r2, r3⟩ := G.2.2.1 _ _ b1 b2 b3
    by_cases d : 0 ≤ a1.toInt ∧ a1.toInt ≤ 1
    · by_cases z : a1 = 0
      · refine ⟨zI s 2 (60 * cC a0 + cY a0 - 1), s, 3 + zI s 60 (61 * cC a0 + cY a0), s, ?_, ?_, G, r1⟩
        · unfold f_X11_ofCell
          rw [plX_t c, b1_some, if_neg (by rw [jlt, jl0]; omega), if_neg (by rw [jlt, jl0]; omega), if_neg (by rw [jlt, jl1]; omega), if_pos z, gd_t ⟨by omega, by omega⟩, nx.2]
        · unfold f_X12_ofCell
          rw [cel_t c, b1_some, if_neg (by decide), in_t (by rw [jl0, jl1]; omega), b1_some, if_neg (by decide), if_pos z, plM c.1 c.lt, b1_some, gd_t ⟨by omega, by omega⟩, nm.2]
      · refine ⟨zI s 3 (60 * cC a0 + cY a0 - 1), s, zI s 61 (61 * cC a0 + cY a0), s, ?_, ?_, G, r2⟩
        · unfold f_X11_ofCell
          rw [plX_t c, b1_some, if_neg (by rw [jlt, jl0]; omega), if_neg (by rw [jlt, jl0]; omega), if_neg (by rw [jlt, jl1]; omega), if_neg z, gd_t ⟨by omega, by omega⟩, nx.2]
        · unfold f_X12_ofCell
          rw [cel_t c, b1_some, if_neg (by decide), in_t (by rw [jl0, jl1]; omega), b1_some, if_neg (by decide), if_neg z, plM c.1 c.lt, b1_some, gd_t ⟨by omega, by omega⟩, nm.2]
          rcases r3 with h | h
          · rw [if_pos h, h]
          · rw [if_neg (by rw [h]; decide), h]
    · refine ⟨-1, s, -1, s, ?_, ?_, G, rfl⟩
      · unfold f_X11_ofCell
        rw [plX_t c, b1_some, if_neg (by rw [jlt, jl0]; omega)]
        by_cases h : a1 < 0
        · rw [if_pos h]
        · rw [if_neg h, if_pos (by rw [jlt, jl1]; rw [jlt, jl0] at h; omega)]
      · unfold f_X12_ofCell
        rw [cel_t c, b1_some, if_neg (by decide), in_f (by rw [jl0, jl1]; omega), b1_some, if_pos rfl]
  · refine ⟨-1, s, -1, s, ?_, ?_, G, rfl⟩
    · unfold f_X11_ofCell
      rw [plX_f c, b1_some, if_pos (by decide)]
    · unfold f_X12_ofCell
      rw [cel_f c, b1_some, if_pos rfl]
theorem st_breaks {s : SS} (G : GI s) (a0 : Int32) (a1 : Int32) : ∃ (rx : Int32) (s1 : SS) (rm : Int32) (s2 : SS), f_X11_breaks s a0 a1 = some (rx, s1) ∧ f_X12_breaks s1 a0 a1 = some (rm, s2) ∧ GI s2 ∧ rx = rm := by
  have e := G.2.1.1
  by_cases c : 0 ≤ a0.toInt ∧ a0.toInt < 3
  · by_cases d : (zS s 0 14).toInt ≤ a1.toInt ∧ a1.toInt ≤ 1699
    · have f1 : ∀ q k, fS q k = true → zS (pS s (20 + a0.toInt.toNat) 2 a1) q k = zS s q k := fun q k h => by
        rw [zS_pS, if_neg]
        rintro ⟨z1, z2⟩
        rw [z1, z2] at h
        have h' : fS (20 + a0.toInt.toNat) 2 = false := fS_M ⟨by omega, by omega⟩ rfl
        rw [h'] at h
        cases h
      have F : Fr s (pI (pS s (20 + a0.toInt.toNat) 2 a1) 80 a0.toInt.toNat a1) := Fr.pI ⟨f1, fun _ _ _ => rfl, fun _ _ _ => rfl⟩ (by decide)
      have e1 : zS (pS s (20 + a0.toInt.toNat) 2 a1) 59 1 = zS s 0 14 := by rw [f1 59 1 rfl]; exact e.symm
      refine ⟨1, pS s (20 + a0.toInt.toNat) 2 a1, 1, pI (pS s (20 + a0.toInt.toNat) 2 a1) 80 a0.toInt.toNat a1, ?_, ?_, ⟨G.1.go F.a (fun _ => rfl) ((G.1.1.wM ⟨by omega, by omega⟩).wI (q := 80) (by decide) trivial), G.2.c F.b⟩, rfl⟩
      · unfold f_X11_breaks
        rw [mach_t G.1.1 c, b1_some, on_some, if_neg (by rw [jlt]; omega), if_neg (by rw [jlt, jl1699]; omega)]
        rfl
      · unfold f_X12_breaks
        rw [ismach_t c, b1_some, if_neg (by decide), in_t (by rw [e1, jl1699]; omega), b1_some, if_neg (by decide), gd_t ⟨c.1, c.2⟩]
        rfl
    · refine ⟨-1, s, -1, s, ?_, ?_, G, rfl⟩
      · unfold f_X11_breaks
        rw [mach_t G.1.1 c, b1_some, on_some]
        by_cases h : a1 < zS s 0 14
        · rw [if_pos h]
        · rw [if_neg h, if_pos (by rw [jlt, jl1699]; rw [jlt] at h; omega)]
      · unfold f_X12_breaks
        rw [ismach_t c, b1_some, if_neg (by decide), in_f (by rw [← e, jl1699]; omega), b1_some, if_pos rfl]
  · refine ⟨-1, s, -1, s, ?_, ?_, G, rfl⟩
    · unfold f_X11_breaks
      rw [mach_f c, b1_some, on_none]
    · unfold f_X12_breaks
      rw [ismach_f c, b1_some, if_pos rfl]
/-! MOVES -/
theorem moveM {t : SS} {a0 a1 : Int32} {n : Nat} (c : Vc a0) (d : (zS t 59 1).toInt + 1 ≤ a1.toInt ∧ a1.toInt ≤ 1699) (h0 : (zS t 59 1).toInt < 2147483647) (h2 : ¬ zS t 59 56 = 60) (h3 : 0 ≤ (zS t 59 56).toInt ∧ (zS t 59 56).toInt < 60) (en : n = (zS t 59 56).toInt.toNat) : f_X12_move t a0 a1 = some (zS t 59 56 + 1, pS (pI (pI t 97 n a0) 98 n a1) 59 56 (zS t 59 56 + 1)) := by
  have l := jlo (zS t 59 1)
  have gn : inB (zS t 59 56) 60 := ⟨by omega, by omega⟩
  unfold f_X12_move
  rw [cel_t c, b1_some, if_neg (by decide), in_t (by rw [i32_add (by rw [jl1]; omega) (by rw [jl1]; omega), jl1, jl1699]; omega), b1_some, if_neg (by decide), if_neg h2, vl, gd_t gn, st, vl, gd_t (show inB (zS (pI t 97 (zS t 59 56).toInt.toNat a0) 59 56) 60 from gn), st, vl, st, en]
  rfl
theorem moveX {s : SS} {a0 a1 : Int32} {n : Nat} (h3 : 0 ≤ (zS s 1 4).toInt ∧ (zS s 1 4).toInt < 60) (en : n = (zS s 1 4).toInt.toNat) : f_X5_moveTold s a0 a1 = some (zS s 1 4 + 1, pS (pI (pI s 4 n a0) 5 n a1) 1 4 (zS s 1 4 + 1)) := by
  have gn : inB (zS s 1 4) 60 := ⟨by omega, by omega⟩
  unfold f_X5_moveTold
  rw [if_pos (by rw [jlt, jl60]; omega), vl, gd_t gn, st, vl, gd_t (show inB (zS (pI s 4 (zS s 1 4).toInt.toNat a0) 1 4) 60 from gn), st, vl, st, en]
  rfl
theorem st_move {s : SS} (G : GI s) (a0 : Int32) (a1 : Int32) : ∃ (rx : Int32) (s1 : SS) (rm : Int32) (s2 : SS), f_X11_move s a0 a1 = some (rx, s1) ∧ f_X12_move s1 a0 a1 = some (rm, s2) ∧ GI s2 ∧ rx = rm := by
  obtain ⟨⟨t1, t2, t3, t4, t6⟩, t5⟩ := G.2
  have hf : 0 ≤ (zS s 1 4).toInt ∧ (zS s 1 4).toInt ≤ 60 := G.1.1.f (q := 1) (k := 4) rfl
  have l := jlo (zS s 0 14)
  have l1 := jlo a1
  by_cases c : Vc a0
  · obtain ⟨u1, u2, u3⟩ := c.b
    have nx := nnI (k := 60 * cC a0 + cY a0 - 1) (by omega)
    by_cases d : (zS s 0 14).toInt < a1.toInt ∧ a1.toInt ≤ 1699
    · by_cases b : (zS s 1 4).toInt < 60
      · obtain ⟨n, en⟩ : ∃ n, n = (zS s 1 4).toInt.toNat := ⟨_, rfl⟩
        have n1 : (zS s 1 4 + 1).toInt = (zS s 1 4).toInt + 1 := by rw [i32_add (by rw [jl1]; omega) (by rw [jl1]; omega), jl1]
        have f1 : zS (pS (pI (pI s 4 n a0) 5 n a1) 1 4 (zS s 1 4 + 1)) 59 1 = zS s 0 14 := t1.symm
        have f56 : zS (pS (pI (pI s 4 n a0) 5 n a1) 1 4 (zS s 1 4 + 1)) 59 56 = zS s 1 4 := t2.symm
        have I1 : Iv (pS (pI (pI s 4 n a0) 5 n a1) 1 4 (zS s 1 4 + 1)) := ((G.1.1.wI (q := 4) (by decide) trivial).wI (q := 5) (by decide) trivial).wF (q := 1) (k := 4) (by decide) (by decide) ⟨by omega, by omega⟩
        refine ⟨zS s 1 4 + 1, pS (pI (pI s 4 n a0) 5 n a1) 1 4 (zS s 1 4 + 1), _, _, ?_, moveM (n := n) c (by rw [f1]; omega) (by rw [f1]; omega) (fun z => by rw [f56] at z; rw [z, jl60] at b; omega) (by rw [f56]; omega) (by rw [f56]; exact en), ⟨?_, ⟨?_, ?_⟩⟩, ?_⟩
        · unfold f_X11_move
          rw [plX_t c, b1_some, if_neg (by rw [jlt, jl0]; omega), if_pos (by rw [jlt]; omega), if_neg (by rw [jlt, jl1699]; omega), moveX ⟨hf.1, b⟩ en]
          rfl
        · rw [f56]
          refine G.1.go ⟨fun q k h => ?_, fun q j h => ?_, fun _ _ _ => rfl⟩ (fun _ => rfl) ?_
          · rw [zSf h (by decide), zS_pI, zS_pI, zSf h (by decide), zS_pI, zS_pI]
          · rw [zI_pS, zIf h (by decide), zIf h (by decide), zI_pS, zIf h (by decide), zIf h (by decide)]
          · refine ((I1.wI (q := 97) (by decide) ?_).wI (q := 98) (by decide) trivial).wF (q := 59) (k := 56) (by decide) (by decide) ⟨by omega, by omega⟩
            unfold Vc at c
            exact ⟨c.1, by omega, by omega⟩
        · rw [f56]
          refine ⟨t1, rfl, fun i => ?_, fun i => ?_, t6⟩
          · have x4 : zI (pS (pI (pI (pS (pI (pI s 4 n a0) 5 n a1) 1 4 (zS s 1 4 + 1)) 97 n a0) 98 n a1) 59 56 (zS s 1 4 + 1)) 4 i = if i = n then a0 else zI s 4 i := by
              rw [zI_pS, zI_pI, if_neg (by omega), zI_pI, if_neg (by omega), zI_pS, zI_pI, if_neg (by omega), zI_pI]
              by_cases z : i = n
              · rw [if_pos ⟨rfl, z⟩, if_pos z]
              · rw [if_neg (by omega), if_neg z]
            have x97 : zI (pS (pI (pI (pS (pI (pI s 4 n a0) 5 n a1) 1 4 (zS s 1 4 + 1)) 97 n a0) 98 n a1) 59 56 (zS s 1 4 + 1)) 97 i = if i = n then a0 else zI s 97 i := by
              rw [zI_pS, zI_pI, if_neg (by omega), zI_pI]
              by_cases z : i = n
              · rw [if_pos ⟨rfl, z⟩, if_pos z]
              · rw [if_neg (by omega), if_neg z, zI_pS, zI_pI, if_neg (by omega), zI_pI, if_neg (by omega)]
            rw [x4, x97, t3 i]
          · have x5 : zI (pS (pI (pI (pS (pI (pI s 4 n a0) 5 n a1) 1 4 (zS s 1 4 + 1)) 97 n a0) 98 n a1) 59 56 (zS s 1 4 + 1)) 5 i = if i = n then a1 else zI s 5 i := by
              rw [zI_pS, zI_pI, if_neg (by omega), zI_pI, if_neg (by omega), zI_pS, zI_pI]
              by_cases z : i = n
              · rw [if_pos ⟨rfl, z⟩, if_pos z]
              · rw [if_neg (by omega), if_neg z, zI_pI, if_neg (by omega)]
            have x98 : zI (pS (pI (pI (pS (pI (pI s 4 n a0) 5 n a1) 1 4 (zS s 1 4 + 1)) 97 n a0) 98 n a1) 59 56 (zS s 1 4 + 1)) 98 i = if i = n then a1 else zI s 98 i := by
              rw [zI_pS, zI_pI]
              by_cases z : i = n
              · rw [if_pos ⟨rfl, z⟩, if_pos z]
              · rw [if_neg (by omega), if_neg z, zI_pI, if_neg (by omega), zI_pS, zI_pI, if_neg (by omega), zI_pI, if_neg (by omega)]
            rw [x5, x98, t4 i]
        · exact t5
        · rw [f56]
      · refine ⟨-3, s, -3, s, ?_, ?_, G, rfl⟩
        · unfold f_X11_move f_X5_moveTold
          rw [plX_t c, b1_some, if_neg (by rw [jlt, jl0]; omega), if_pos (by rw [jlt]; omega), if_neg (by rw [jlt, jl1699]; omega), if_neg (by rw [jlt, jl60]; exact b)]
          rfl
        · unfold f_X12_move
          rw [cel_t c, b1_some, if_neg (by decide), in_t (by rw [← t1, i32_add (by rw [jl1]; omega) (by rw [jl1]; omega), jl1, jl1699]; omega), b1_some, if_neg (by decide), if_pos (by rw [← t2]; exact Int32.toInt_inj.1 (by rw [jl60]; omega))]
    · have hm : ¬ ((zS s 59 1 + 1).toInt ≤ a1.toInt ∧ a1.toInt ≤ (1699 : Int32).toInt) := by
        rw [← t1, jl1699, i32_add (by rw [jl1]; omega) (by rw [jl1]; omega), jl1]
        omega
      refine ⟨-1, s, -1, s, ?_, ?_, G, rfl⟩
      · unfold f_X11_move
        rw [plX_t c, b1_some, if_neg (by rw [jlt, jl0]; omega)]
        by_cases h : zS s 0 14 < a1
        · rw [if_pos h, if_pos (by rw [jlt, jl1699]; rw [jlt] at h; omega)]
        · rw [if_neg h]
      · unfold f_X12_move
        rw [cel_t c, b1_some, if_neg (by decide), in_f hm, b1_some, if_pos rfl]
  · refine ⟨-1, s, -1, s, ?_, ?_, G, rfl⟩
    · unfold f_X11_move
      rw [plX_f c, b1_some, if_pos (by decide)]
    · unfold f_X12_move
      rw [cel_f c, b1_some, if_pos rfl]
/-! THE HOUR: class first, then reference -/
def Hit (A B : Nat → Int32) (h : Int32) (i c y : Nat) : Prop := B i = h ∧ Vc (A i) ∧ cC (A i) = c ∧ cY (A i) = y
def MvQ (H : Nat → Nat → Nat → Prop) (lo hi : Nat) (v : Int32) (f g f' g' : Nat → Nat → Int32) : Prop := ∀ c y, c < 32 → 1 ≤ y → y ≤ 60 → ((∃ i, lo ≤ i ∧ i < hi ∧ H i c y) → f' c y = v ∧ g' c y = 0) ∧ ((¬ ∃ i, lo ≤ i ∧ i < hi ∧ H i c y) → f' c y = f c y ∧ g' c y = g c y)
theorem MvQ.no {H : Nat → Nat → Nat → Prop} {lo hi : Nat} {v : Int32} {f g : Nat → Nat → Int32} (h : hi ≤ lo) : MvQ H lo hi v f g f g := fun c y _ _ _ => ⟨fun ⟨i, a, b, _⟩ => by omega, fun _ => ⟨rfl, rfl⟩⟩
theorem MvQ.st {H : Nat → Nat → Nat → Prop} {lo hi : Nat} {v : Int32} {f g f1 g1 f2 g2 : Nat → Nat → Int32} (hl : lo < hi) (h1 : ∀ c y, c < 32 → 1 ≤ y → y ≤ 60 → (H lo c y → f1 c y = v ∧ g1 c y = 0) ∧ (¬ H lo c y → f1 c y = f c y ∧ g1 c y = g c y)) (h2 : MvQ H (lo + 1) hi v f1 g1 f2 g2) : MvQ H lo hi v f g f2 g2 := by
  intro c y a1 a2 a3
  obtain ⟨p1, p2⟩ := h1 c y a1 a2 a3
  obtain ⟨q1, q2⟩ := h2 c y a1 a2 a3
  by_cases z : ∃ i, lo + 1 ≤ i ∧ i < hi ∧ H i c y
  · obtain ⟨i, i1, i2, i3⟩ := z
    exact ⟨fun _ => q1 ⟨i, i1, i2, i3⟩, fun n => absurd ⟨i, by omega, i2, i3⟩ n⟩
  · obtain ⟨e1, e2⟩ := q2 z
    rw [e1, e2]
    refine ⟨fun ⟨i, i1, i2, i3⟩ => p1 ?_, fun n => p2 (fun w => n ⟨lo, by omega, hl, w⟩)⟩
    by_cases w : i = lo
    · rw [← w]; exact i3
    · exact absurd ⟨i, by omega, i2, i3⟩ z
def x2 (s : SS) (c y : Nat) : Int32 := zI s 2 (60 * c + y - 1)
def x3 (s : SS) (c y : Nat) : Int32 := zI s 3 (60 * c + y - 1)
def m2 (s : SS) (c y : Nat) : Int32 := zI s 60 (61 * c + y)
def m3 (s : SS) (c y : Nat) : Int32 := zI s 61 (61 * c + y)
/-- what the class's hour keeps; what the reference's hour keeps -/
def KX (s r : SS) : Prop := FrA s r ∧ r.2.2.2 = s.2.2.2 ∧ (∀ q k, fSB q k = true → ¬ (q = 0 ∧ k = 14) → zS r q k = zS s q k) ∧ (∀ q i, fIB q = true → 4 ≤ q → zI r q i = zI s q i)
def KM (s r : SS) : Prop := FrA s r ∧ r.2.2.2 = s.2.2.2 ∧ (∀ q k, fSB q k = true → ¬ (q = 59 ∧ k = 1) → zS r q k = zS s q k) ∧ (∀ q i, fIB q = true → q ≠ 60 ∧ q ≠ 61 → zI r q i = zI s q i)
theorem FrA.rf {s : SS} : FrA s s := ⟨fun _ _ _ => rfl, fun _ _ _ => rfl, fun _ _ _ => rfl⟩
theorem FrA.tr {a b c : SS} (h1 : FrA a b) (h2 : FrA b c) : FrA a c := ⟨fun q k h => (h2.1 q k h).trans (h1.1 q k h), fun q i h => (h2.2.1 q i h).trans (h1.2.1 q i h), fun q i h => (h2.2.2 q i h).trans (h1.2.2 q i h)⟩
theorem FrA.pS {b s : SS} {q k : Nat} {v : Int32} (h : FrA b s) (hq : fSA q k = false) : FrA b (pS s q k v) := ⟨fun a c e => by rw [zSf e hq]; exact h.1 a c e, h.2.1, h.2.2⟩
theorem FrA.pI {b s : SS} {q i : Nat} {v : Int32} (h : FrA b s) (hq : fIA q = false) : FrA b (pI s q i v) := ⟨h.1, fun a c e => by rw [zIf e hq]; exact h.2.1 a c e, h.2.2⟩
theorem KX.rf {s : SS} : KX s s := ⟨FrA.rf, rfl, fun _ _ _ _ => rfl, fun _ _ _ _ => rfl⟩
theorem KX.tr {a b c : SS} (h1 : KX a b) (h2 : KX b c) : KX a c := ⟨h1.1.tr h2.1, h2.2.1.trans h1.2.1, fun q k x y => (h2.2.2.1 q k x y).trans (h1.2.2.1 q k x y), fun q i x y => (h2.2.2.2 q i x y).trans (h1.2.2.2 q i x y)⟩
theorem KM.rf {s : SS} : KM s s := ⟨FrA.rf, rfl, fun _ _ _ _ => rfl, fun _ _ _ _ => rfl⟩
theorem KM.tr {a b c : SS} (h1 : KM a b) (h2 : KM b c) : KM a c := ⟨h1.1.tr h2.1, h2.2.1.trans h1.2.1, fun q k x y => (h2.2.2.1 q k x y).trans (h1.2.2.1 q k x y), fun q i x y => (h2.2.2.2 q i x y).trans (h1.2.2.2 q i x y)⟩
theorem Lk.KX {b s : SS} (K : Lk b s) : KX b s := ⟨K.2.2.a, K.2.1, fun q k x _ => K.2.2.b.1 q k x, fun q i x _ => K.2.2.b.2 q i x⟩
theorem Lk.KM {b s : SS} (K : Lk b s) : KM b s := ⟨K.2.2.a, K.2.1, fun q k x _ => K.2.2.b.1 q k x, fun q i x _ => K.2.2.b.2 q i x⟩
/-- one place of the class's rock -/
theorem x_hit {s : SS} {a : Int32} (h : Vc a) (c y : Nat) (h1 : c < 32) (h2 : 1 ≤ y) (h3 : y ≤ 60) : (cC a = c ∧ cY a = y → x2 (pI (pI s 3 (60 * cC a + cY a - 1) 0) 2 (60 * cC a + cY a - 1) 9) c y = 9 ∧ x3 (pI (pI s 3 (60 * cC a + cY a - 1) 0) 2 (60 * cC a + cY a - 1) 9) c y = 0) ∧ (¬ (cC a = c ∧ cY a = y) → x2 (pI (pI s 3 (60 * cC a + cY a - 1) 0) 2 (60 * cC a + cY a - 1) 9) c y = x2 s c y ∧ x3 (pI (pI s 3 (60 * cC a + cY a - 1) 0) 2 (60 * cC a + cY a - 1) 9) c y = x3 s c y) := by
  obtain ⟨b1, b2, b3⟩ := h.b
  unfold x2 x3
  refine ⟨fun ⟨z1, z2⟩ => ⟨?_, ?_⟩, fun z => ⟨?_, ?_⟩⟩
  · rw [zI_pI, if_pos ⟨rfl, by rw [z1, z2]⟩]
  · rw [zI_pI, if_neg (by omega), zI_pI, if_pos ⟨rfl, by rw [z1, z2]⟩]
  · rw [zI_pI, if_neg (by omega), zI_pI, if_neg (by omega)]
  · rw [zI_pI, if_neg (by omega), zI_pI, if_neg (by omega)]
theorem m_hit {s : SS} {a v : Int32} (h : cellOK a) (hv : v = 0) (c y : Nat) (h1 : c < 32) (h2 : 1 ≤ y) (h3 : y ≤ 60) : (cC a = c ∧ cY a = y → m2 (pI (pI s 61 (61 * cC a + cY a) v) 60 (61 * cC a + cY a) 6) c y = 6 ∧ m3 (pI (pI s 61 (61 * cC a + cY a) v) 60 (61 * cC a + cY a) 6) c y = 0) ∧ (¬ (cC a = c ∧ cY a = y) → m2 (pI (pI s 61 (61 * cC a + cY a) v) 60 (61 * cC a + cY a) 6) c y = m2 s c y ∧ m3 (pI (pI s 61 (61 * cC a + cY a) v) 60 (61 * cC a + cY a) 6) c y = m3 s c y) := by
  obtain ⟨b1, b2, b3⟩ := h
  have b4 : cC a < 32 ∧ cY a ≤ 60 := by unfold cC cY; omega
  unfold m2 m3
  refine ⟨fun ⟨z1, z2⟩ => ⟨?_, ?_⟩, fun z => ⟨?_, ?_⟩⟩
  · rw [zI_pI, if_pos ⟨rfl, by rw [z1, z2]⟩]
  · rw [zI_pI, if_neg (by omega), zI_pI, if_pos ⟨rfl, by rw [z1, z2]⟩]; exact hv
  · rw [zI_pI, if_neg (by omega), zI_pI, if_neg (by omega)]
  · rw [zI_pI, if_neg (by omega), zI_pI, if_neg (by omega)]
theorem Vc_of {a : Int32} {y : Nat} (h : cellOK a) (h2 : 1 ≤ y) (e : cY a = y) : Vc a := by
  obtain ⟨b1, b2, b3⟩ := h
  unfold cY at e
  exact ⟨b1, by omega, by omega, b3⟩
theorem rmX : ∀ (n : Nat) (s : SS) (x : Int32), Iv s → 0 ≤ x.toInt → x.toInt ≤ (zS s 1 4).toInt → (zS s 1 4).toInt - x.toInt < n → ∃ r, f_X11_rockMoves_L2 n s x = some r ∧ Iv r ∧ (KX s r ∧ zS r 0 14 = zS s 0 14) ∧ MvQ (Hit (zI s 4) (zI s 5) (zS s 0 14)) x.toInt.toNat (zS s 1 4).toInt.toNat 9 (x2 s) (x3 s) (x2 r) (x3 r)
  | 0, s, x, _, _, _, h => by omega
  | n + 1, s, x, I, hx0, hx1, hn => by
    have hf : 0 ≤ (zS s 1 4).toInt ∧ (zS s 1 4).toInt ≤ 60 := I.f (q := 1) (k := 4) rfl
    rw [f_X11_rockMoves_L2, f_X11_rockMoves_L2_b]
    by_cases hl : x < zS s 1 4
    · rw [if_pos hl]
      rw [jlt] at hl
      have gn : inB x 60 := ⟨by omega, by omega⟩
      have n1 : (x + 1).toInt = x.toInt + 1 := by rw [i32_add (by rw [jl1]; omega) (by rw [jl1]; omega), jl1]
      have key : ∀ s', Iv s' → KX s s' → zS s' 0 14 = zS s 0 14 → (∀ c y, c < 32 → 1 ≤ y → y ≤ 60 → (Hit (zI s 4) (zI s 5) (zS s 0 14) x.toInt.toNat c y → x2 s' c y = 9 ∧ x3 s' c y = 0) ∧ (¬ Hit (zI s 4) (zI s 5) (zS s 0 14) x.toInt.toNat c y → x2 s' c y = x2 s c y ∧ x3 s' c y = x3 s c y)) → ∃ r, f_X11_rockMoves_L2 n s' (x + 1) = some r ∧ Iv r ∧ (KX s r ∧ zS r 0 14 = zS s 0 14) ∧ MvQ (Hit (zI s 4) (zI s 5) (zS s 0 14)) x.toInt.toNat (zS s 1 4).toInt.toNat 9 (x2 s) (x3 s) (x2 r) (x3 r) := by
        intro s' I' K' h14 hs
        have ec : zS s' 1 4 = zS s 1 4 := K'.2.2.1 1 4 rfl (by omega)
        obtain ⟨r, e, Ir, ⟨Kr, hr⟩, M⟩ := rmX n s' (x + 1) I' (by omega) (by rw [ec]; omega) (by rw [ec]; omega)
        refine ⟨r, e, Ir, ⟨K'.tr Kr, hr.trans h14⟩, MvQ.st (by omega) hs ?_⟩
        have e4 : zI s' 4 = zI s 4 := funext fun i => K'.2.2.2 4 i rfl (by omega)
        have e5 : zI s' 5 = zI s 5 := funext fun i => K'.2.2.2 5 i rfl (by omega)
        rw [e4, e5, h14, ec, n1] at M
        have en : (x.toInt + 1).toNat = x.toInt.toNat + 1 := by omega
        rw [en] at M
        exact M
      rw [gd_t gn, vl]
      by_cases hh : zI s 5 x.toInt.toNat = zS s 0 14
      · by_cases hv : Vc (zI s 4 x.toInt.toNat)
        · obtain ⟨u1, u2, u3⟩ := hv.b
          have nx := nnI (k := 60 * cC (zI s 4 x.toInt.toNat) + cY (zI s 4 x.toInt.toNat) - 1) (by omega)
          have I2 : Iv (pI (pI s 3 (60 * cC (zI s 4 x.toInt.toNat) + cY (zI s 4 x.toInt.toNat) - 1) 0) 2 (60 * cC (zI s 4 x.toInt.toNat) + cY (zI s 4 x.toInt.toNat) - 1) 9) := (I.wI (q := 3) (by decide) trivial).wI (q := 2) (by decide) trivial
          have K2 : KX s (pI (pI s 3 (60 * cC (zI s 4 x.toInt.toNat) + cY (zI s 4 x.toInt.toNat) - 1) 0) 2 (60 * cC (zI s 4 x.toInt.toNat) + cY (zI s 4 x.toInt.toNat) - 1) 9) := ⟨(FrA.rf.pI (by decide)).pI (by decide), rfl, fun _ _ _ _ => rfl, fun q i _ h4 => by rw [zI_pI, if_neg (by omega), zI_pI, if_neg (by omega)]⟩
          have S2 : ∀ c y, c < 32 → 1 ≤ y → y ≤ 60 → (Hit (zI s 4) (zI s 5) (zS s 0 14) x.toInt.toNat c y → x2 (pI (pI s 3 (60 * cC (zI s 4 x.toInt.toNat) + cY (zI s 4 x.toInt.toNat) - 1) 0) 2 (60 * cC (zI s 4 x.toInt.toNat) + cY (zI s 4 x.toInt.toNat) - 1) 9) c y = 9 ∧ x3 (pI (pI s 3 (60 * cC (zI s 4 x.toInt.toNat) + cY (zI s 4 x.toInt.toNat) - 1) 0) 2 (60 * cC (zI s 4 x.toInt.toNat) + cY (zI s 4 x.toInt.toNat) - 1) 9) c y = 0) ∧ (¬ Hit (zI s 4) (zI s 5) (zS s 0 14) x.toInt.toNat c y → x2 (pI (pI s 3 (60 * cC (zI s 4 x.toInt.toNat) + cY (zI s 4 x.toInt.toNat) - 1) 0) 2 (60 * cC (zI s 4 x.toInt.toNat) + cY (zI s 4 x.toInt.toNat) - 1) 9) c y = x2 s c y ∧ x3 (pI (pI s 3 (60 * cC (zI s 4 x.toInt.toNat) + cY (zI s 4 x.toInt.toNat) - 1) 0) 2 (60 * cC (zI s 4 x.toInt.toNat) + cY (zI s 4 x.toInt.toNat) - 1) 9) c y = x3 s c y) := fun c y h1 h2 h3 => ⟨fun z => (x_hit hv c y h1 h2 h3).1 z.2.2, fun z => (x_hit hv c y h1 h2 h3).2 (fun w => z ⟨hh, hv, w⟩)⟩
          rw [plX_t hv, b1_some, gd_t gn, jn, if_pos hh, if_neg (by rw [jlt, jl0]; omega), gd_t ⟨by omega, by omega⟩, st, gd_t ⟨by omega, by omega⟩, st, nx.2]
          obtain ⟨r15, e15, -⟩ := w_X0_isRefuge (a0 := zI s 4 x.toInt.toNat / 100) (a1 := zI s 4 x.toInt.toNat % 100) (Lk.rf I2)
          rw [e15, b1_some]
          by_cases z : r15 = 0
          · rw [if_pos z]
            exact key _ I2 K2 rfl S2
          · rw [if_neg z, st]
            exact key _ (I2.wF (q := 15) (k := 9) (by decide) (by decide) trivial) (K2.tr ⟨FrA.rf.pS (by decide), rfl, fun q k h _ => by rw [zS_pS, if_neg (fun z => by rw [z.1, z.2] at h; cases h)], fun _ _ _ _ => rfl⟩) rfl S2
        · rw [plX_f hv, b1_some, gd_t gn, jn, if_pos hh, if_pos (by decide)]
          exact key s I KX.rf rfl (fun c y _ _ _ => ⟨fun z => absurd z.2.1 hv, fun _ => ⟨rfl, rfl⟩⟩)
      · obtain ⟨r4, e4⟩ : ∃ r4, f_X11_placeOf (zI s 4 x.toInt.toNat) = some r4 := by
          by_cases hv : Vc (zI s 4 x.toInt.toNat)
          · exact ⟨_, plX_t hv⟩
          · exact ⟨_, plX_f hv⟩
        rw [e4, b1_some, gd_t gn, jn, if_neg hh]
        exact key s I KX.rf rfl (fun c y _ _ _ => ⟨fun z => absurd z.1 hh, fun _ => ⟨rfl, rfl⟩⟩)
    · rw [if_neg hl]
      rw [jlt] at hl
      exact ⟨s, rfl, I, ⟨KX.rf, rfl⟩, MvQ.no (by omega)⟩
theorem rmM (q0 : SS → Option (Int32 × SS)) (y1 y2 : Int32) : ∀ (n : Nat) (s : SS) (x : Int32), Iv s → 0 ≤ x.toInt → x.toInt ≤ (zS s 59 56).toInt → (zS s 59 56).toInt - x.toInt < n → ∃ r, f_X12_hours_L65 q0 y1 y2 n s x = q0 r ∧ Iv r ∧ (KM s r ∧ zS r 59 1 = zS s 59 1) ∧ MvQ (Hit (zI s 97) (zI s 98) (zS s 59 1)) x.toInt.toNat (zS s 59 56).toInt.toNat 6 (m2 s) (m3 s) (m2 r) (m3 r)
  | 0, s, x, _, _, _, h => by omega
  | n + 1, s, x, I, hx0, hx1, hn => by
    have hf : 0 ≤ (zS s 59 56).toInt ∧ (zS s 59 56).toInt ≤ 60 := I.f (q := 59) (k := 56) rfl
    rw [f_X12_hours_L65, f_X12_hours_L65_b]
    by_cases hl : x < zS s 59 56
    · rw [if_pos hl]
      rw [jlt] at hl
      have gn : inB x 60 := ⟨by omega, by omega⟩
      have n1 : (x + 1).toInt = x.toInt + 1 := by rw [i32_add (by rw [jl1]; omega) (by rw [jl1]; omega), jl1]
      have key : ∀ s', Iv s' → KM s s' → zS s' 59 1 = zS s 59 1 → (∀ c y, c < 32 → 1 ≤ y → y ≤ 60 → (Hit (zI s 97) (zI s 98) (zS s 59 1) x.toInt.toNat c y → m2 s' c y = 6 ∧ m3 s' c y = 0) ∧ (¬ Hit (zI s 97) (zI s 98) (zS s 59 1) x.toInt.toNat c y → m2 s' c y = m2 s c y ∧ m3 s' c y = m3 s c y)) → ∃ r, f_X12_hours_L65 q0 y1 y2 n s' (x + 1) = q0 r ∧ Iv r ∧ (KM s r ∧ zS r 59 1 = zS s 59 1) ∧ MvQ (Hit (zI s 97) (zI s 98) (zS s 59 1)) x.toInt.toNat (zS s 59 56).toInt.toNat 6 (m2 s) (m3 s) (m2 r) (m3 r) := by
        intro s' I' K' h14 hs
        have ec : zS s' 59 56 = zS s 59 56 := K'.2.2.1 59 56 rfl (by omega)
        obtain ⟨r, e, Ir, ⟨Kr, hr⟩, M⟩ := rmM q0 y1 y2 n s' (x + 1) I' (by omega) (by rw [ec]; omega) (by rw [ec]; omega)
        refine ⟨r, e, Ir, ⟨K'.tr Kr, hr.trans h14⟩, MvQ.st (by omega) hs ?_⟩
        have e4 : zI s' 97 = zI s 97 := funext fun i => K'.2.2.2 97 i rfl (by omega)
        have e5 : zI s' 98 = zI s 98 := funext fun i => K'.2.2.2 98 i rfl (by omega)
        rw [e4, e5, h14, ec, n1] at M
        have en : (x.toInt + 1).toNat = x.toInt.toNat + 1 := by omega
        rw [en] at M
        exact M
      rw [gd_t gn, jn]
      by_cases hh : zI s 98 x.toInt.toNat = zS s 59 1
      · have hv : cellOK (zI s 97 x.toInt.toNat) := I.a (q := 97) rfl
        obtain ⟨a, ea⟩ : ∃ a, a = zI s 97 x.toInt.toNat := ⟨_, rfl⟩
        have hv' : cellOK a := by rw [ea]; exact hv
        obtain ⟨v1, v2, v3⟩ := hv'
        have u : cC a < 32 ∧ cY a ≤ 60 := by unfold cC cY; omega
        have nx := nnI (k := 61 * cC a + cY a) (by omega)
        have I2 : Iv (pI (pI s 61 (61 * cC a + cY a) ((0 : Int32) &&& 1)) 60 (61 * cC a + cY a) 6) := (I.wI (q := 61) (by decide) trivial).wI (q := 60) (by decide) trivial
        have K2 : KM s (pI (pI s 61 (61 * cC a + cY a) ((0 : Int32) &&& 1)) 60 (61 * cC a + cY a) 6) := ⟨(FrA.rf.pI (by decide)).pI (by decide), rfl, fun _ _ _ _ => rfl, fun q i _ h4 => by rw [zI_pI, if_neg (by omega), zI_pI, if_neg (by omega)]⟩
        have S2 : ∀ c y, c < 32 → 1 ≤ y → y ≤ 60 → (Hit (zI s 97) (zI s 98) (zS s 59 1) x.toInt.toNat c y → m2 (pI (pI s 61 (61 * cC a + cY a) ((0 : Int32) &&& 1)) 60 (61 * cC a + cY a) 6) c y = 6 ∧ m3 (pI (pI s 61 (61 * cC a + cY a) ((0 : Int32) &&& 1)) 60 (61 * cC a + cY a) 6) c y = 0) ∧ (¬ Hit (zI s 97) (zI s 98) (zS s 59 1) x.toInt.toNat c y → m2 (pI (pI s 61 (61 * cC a + cY a) ((0 : Int32) &&& 1)) 60 (61 * cC a + cY a) 6) c y = m2 s c y ∧ m3 (pI (pI s 61 (61 * cC a + cY a) ((0 : Int32) &&& 1)) 60 (61 * cC a + cY a) 6) c y = m3 s c y) := fun c y h1 h2 h3 => ⟨fun z => (m_hit (by exact ⟨v1, v2, v3⟩) (by decide) c y h1 h2 h3).1 (by rw [ea]; exact z.2.2), fun z => (m_hit (by exact ⟨v1, v2, v3⟩) (by decide) c y h1 h2 h3).2 (fun w => z ⟨hh, by rw [← ea]; exact Vc_of ⟨v1, v2, v3⟩ h2 w.2, by rw [← ea]; exact w⟩)⟩
        rw [if_pos hh, gd_t gn, ← ea, plM v1 v2, b1_some, gd_t ⟨by omega, by omega⟩, st, gd_t ⟨by omega, by omega⟩, st, nx.2]
        have fin1 := key _ I2 K2 rfl S2
        have fin2 := key _ (I2.wF (q := 59) (k := 25) (v := 1) (by decide) (by decide) trivial) (K2.tr ⟨FrA.rf.pS (by decide), rfl, fun q k h _ => by rw [zS_pS, if_neg (fun z => by rw [z.1, z.2] at h; cases h)], fun _ _ _ _ => rfl⟩) rfl S2
        by_cases z : zS (pI (pI s 61 (61 * cC a + cY a) ((0 : Int32) &&& 1)) 60 (61 * cC a + cY a) 6) 59 21 < 0
        · rw [if_pos z]
          exact fin1
        · rw [if_neg z, gd_t gn]
          by_cases z2 : zI (pI (pI s 61 (61 * cC a + cY a) ((0 : Int32) &&& 1)) 60 (61 * cC a + cY a) 6) 97 x.toInt.toNat % 100 = zS (pI (pI s 61 (61 * cC a + cY a) ((0 : Int32) &&& 1)) 60 (61 * cC a + cY a) 6) 59 24
          · rw [if_pos z2, gd_t gn]
            obtain ⟨r26, e26, -⟩ := w_X12_in (a0 := zI (pI (pI s 61 (61 * cC a + cY a) ((0 : Int32) &&& 1)) 60 (61 * cC a + cY a) 6) 97 x.toInt.toNat / 100) (a1 := zS (pI (pI s 61 (61 * cC a + cY a) ((0 : Int32) &&& 1)) 60 (61 * cC a + cY a) 6) 59 22) (a2 := zS (pI (pI s 61 (61 * cC a + cY a) ((0 : Int32) &&& 1)) 60 (61 * cC a + cY a) 6) 59 23)
            rw [e26, b1_some]
            by_cases z3 : r26 = 0
            · rw [if_pos z3]
              exact fin1
            · rw [if_neg z3, st]
              exact fin2
          · rw [if_neg z2]
            exact fin1
      · rw [if_neg hh]
        exact key s I KM.rf rfl (fun c y _ _ _ => ⟨fun z => absurd z.1 hh, fun _ => ⟨rfl, rfl⟩⟩)
    · rw [if_neg hl]
      rw [jlt] at hl
      exact ⟨s, rfl, I, ⟨KM.rf, rfl⟩, MvQ.no (by omega)⟩
theorem hourX {s : SS} (I : Iv s) : ∃ r, f_X11_hourGoesBy s = some r ∧ Iv r ∧ KX s r ∧ zS r 0 14 = zS s 0 14 + 1 ∧ MvQ (Hit (zI s 4) (zI s 5) (zS s 0 14 + 1)) 0 (zS s 1 4).toInt.toNat 9 (x2 s) (x3 s) (x2 r) (x3 r) := by
  have Ib : Iv (pS s 0 14 (zS s 0 14 + 1)) := I.wF (q := 0) (k := 14) (by decide) (by decide) trivial
  have K0 : KX s (pS s 0 14 (zS s 0 14 + 1)) := ⟨FrA.rf.pS (by decide), rfl, fun q k _ h => by rw [zS_pS, if_neg h], fun _ _ _ _ => rfl⟩
  have fin : ∀ s7, Lk (pS s 0 14 (zS s 0 14 + 1)) s7 → ∃ r, (b1 (f_X11_rockMoves s7) fun s8 => some s8) = some r ∧ Iv r ∧ KX s r ∧ zS r 0 14 = zS s 0 14 + 1 ∧ MvQ (Hit (zI s 4) (zI s 5) (zS s 0 14 + 1)) 0 (zS s 1 4).toInt.toNat 9 (x2 s) (x3 s) (x2 r) (x3 r) := by
    intro s7 K7
    have hf : 0 ≤ (zS s7 1 4).toInt ∧ (zS s7 1 4).toInt ≤ 60 := K7.1.f (q := 1) (k := 4) rfl
    obtain ⟨r, e, Ir, ⟨Kr, hr⟩, M⟩ := rmX 4000 s7 0 K7.1 (by decide) (by rw [jl0]; exact hf.1) (by rw [jl0]; omega)
    have h14 : zS s7 0 14 = zS s 0 14 + 1 := K7.2.2.1 0 14 rfl
    have hc : zS s7 1 4 = zS s 1 4 := K7.2.2.1 1 4 rfl
    have e4 : zI s7 4 = zI s 4 := funext fun i => K7.2.2.2.1 4 i rfl
    have e5 : zI s7 5 = zI s 5 := funext fun i => K7.2.2.2.1 5 i rfl
    have f2 : x2 s7 = x2 s := funext fun c => funext fun y => K7.2.2.2.1 2 _ rfl
    have f3 : x3 s7 = x3 s := funext fun c => funext fun y => K7.2.2.2.1 3 _ rfl
    rw [e4, e5, h14, hc, f2, f3] at M
    refine ⟨r, ?_, Ir, K0.tr (K7.KX.tr Kr), hr.trans h14, M⟩
    unfold f_X11_rockMoves
    rw [e, b1_some]
  have mid : ∀ s5, Lk (pS s 0 14 (zS s 0 14 + 1)) s5 → ∃ r, (b1 (f_X9_arrivals s5 (zS s5 0 14)) fun s6 => (jn (fun (s7 : SS)  => (b1 (f_X11_rockMoves s7) fun s8 => some s8)) fun k7 => (if ((zS s6 0 14) % (24 : Int32)) = (0 : Int32) then (b1 (f_X11_menEat s6) fun s11 => (k7 s11)) else (k7 s6)))) = some r ∧ Iv r ∧ KX s r ∧ zS r 0 14 = zS s 0 14 + 1 ∧ MvQ (Hit (zI s 4) (zI s 5) (zS s 0 14 + 1)) 0 (zS s 1 4).toInt.toNat 9 (x2 s) (x3 s) (x2 r) (x3 r) := by
    intro s5 K5
    obtain ⟨s6, e6, K6⟩ := w_X9_arrivals (a0 := zS s5 0 14) K5
    rw [e6, b1_some, jn]
    by_cases z : zS s6 0 14 % 24 = 0
    · rw [if_pos z]
      obtain ⟨s11, e11, K11⟩ := w_X11_menEat K6
      rw [e11, b1_some]
      exact fin s11 K11
    · rw [if_neg z]
      exact fin s6 K6
  unfold f_X11_hourGoesBy
  rw [vl, st]
  obtain ⟨r3, e3, -⟩ := w_X11_latestText (a0 := 0) (a1 := 2) (a2 := zS (pS s 0 14 (zS s 0 14 + 1)) 0 14) (a3 := zS (pS s 0 14 (zS s 0 14 + 1)) 0 14) (Lk.rf Ib)
  rw [e3, b1_some]
  obtain ⟨⟨r4, s4⟩, e4, K4⟩ := w_X11_given (a0 := r3) (a1 := 2) (a2 := -1) (Lk.rf Ib)
  rw [e4, bd_some, jn]
  by_cases z : r4 = 0
  · rw [if_pos z]
    obtain ⟨s13, e13, K13⟩ := w_X11_machinesWork K4
    rw [e13, b1_some]
    exact mid s13 K13
  · rw [if_neg z]
    exact mid s4 K4
/-- the reference's hour, what follows it apart -/
theorem hourM {s : SS} (I : Iv s) (y1 x : Int32) (n : Nat) (hl : x < y1) : ∃ r, f_X12_hours_L26 y1 (n + 1) s x = f_X12_hours_L26 y1 n r (x + 1) ∧ Iv r ∧ KM s r ∧ zS r 59 1 = zS s 59 1 + 1 ∧ MvQ (Hit (zI s 97) (zI s 98) (zS s 59 1 + 1)) 0 (zS s 59 56).toInt.toNat 6 (m2 s) (m3 s) (m2 r) (m3 r) := by
  have Ib : Iv (pS s 59 1 (zS s 59 1 + 1)) := I.wF (q := 59) (k := 1) (by decide) (by decide) trivial
  have K0 : KM s (pS s 59 1 (zS s 59 1 + 1)) := ⟨FrA.rf.pS (by decide), rfl, fun q k _ h => by rw [zS_pS, if_neg h], fun _ _ _ _ => rfl⟩
  have fin : ∀ s7, Lk (pS s 59 1 (zS s 59 1 + 1)) s7 → ∃ r, f_X12_hours_L65 (fun (s29 : SS)  => (vl (x + 1) fun v30 => (f_X12_hours_L26 y1 n s29 v30))) y1 x 4000 s7 0 = f_X12_hours_L26 y1 n r (x + 1) ∧ Iv r ∧ KM s r ∧ zS r 59 1 = zS s 59 1 + 1 ∧ MvQ (Hit (zI s 97) (zI s 98) (zS s 59 1 + 1)) 0 (zS s 59 56).toInt.toNat 6 (m2 s) (m3 s) (m2 r) (m3 r) := by
    intro s7 K7
    have hf : 0 ≤ (zS s7 59 56).toInt ∧ (zS s7 59 56).toInt ≤ 60 := K7.1.f (q := 59) (k := 56) rfl
    obtain ⟨r, e, Ir, ⟨Kr, hr⟩, M⟩ := rmM (fun (s29 : SS)  => (vl (x + 1) fun v30 => (f_X12_hours_L26 y1 n s29 v30))) y1 x 4000 s7 0 K7.1 (by decide) (by rw [jl0]; exact hf.1) (by rw [jl0]; omega)
    have h14 : zS s7 59 1 = zS s 59 1 + 1 := K7.2.2.1 59 1 rfl
    have hc : zS s7 59 56 = zS s 59 56 := K7.2.2.1 59 56 rfl
    have e4 : zI s7 97 = zI s 97 := funext fun i => K7.2.2.2.1 97 i rfl
    have e5 : zI s7 98 = zI s 98 := funext fun i => K7.2.2.2.1 98 i rfl
    have f2 : m2 s7 = m2 s := funext fun c => funext fun y => K7.2.2.2.1 60 _ rfl
    have f3 : m3 s7 = m3 s := funext fun c => funext fun y => K7.2.2.2.1 61 _ rfl
    rw [e4, e5, h14, hc, f2, f3] at M
    exact ⟨r, by rw [e, vl], Ir, K0.tr (K7.KM.tr Kr), hr.trans h14, M⟩
  rw [f_X12_hours_L26, f_X12_hours_L26_b, if_pos hl, vl, st]
  obtain ⟨s7, e7, K7⟩ := w_X12_drill (Lk.rf Ib)
  obtain ⟨s8, e8, K8⟩ := w_X12_comeDown K7
  rw [e7, b1_some, e8, b1_some, jn]
  by_cases z : zS s8 59 1 % 24 = 0
  · rw [if_pos z]
    obtain ⟨s32, e32, K32⟩ := w_X12_eat K8
    rw [e32, b1_some]
    exact fin s32 K32
  · rw [if_neg z]
    exact fin s8 K8
theorem hrs (y1 : Int32) : ∀ (m n n' : Nat) (s t : SS) (x : Int32), Iv s → Iv t → RTx s t → RKx s t → y1.toInt - x.toInt = m → m < n → m < n' → (zS s 0 14).toInt + m ≤ 1699 → ∃ r u, f_X11_hours_L27 y1 n s x = some (zS r 0 14, r) ∧ f_X12_hours_L26 y1 n' t x = some (zS u 59 1, u) ∧ Iv r ∧ Iv u ∧ RTx r u ∧ RKx r u ∧ KX s r ∧ KM t u
  | 0, n + 1, n' + 1, s, t, x, I, J, T, R, hm, _, _, _ => by
    have hl : ¬ x < y1 := by rw [jlt]; omega
    refine ⟨s, t, ?_, ?_, I, J, T, R, KX.rf, KM.rf⟩
    · rw [f_X11_hours_L27, f_X11_hours_L27_b, if_neg hl]
    · rw [f_X12_hours_L26, f_X12_hours_L26_b, if_neg hl]
  | m + 1, n + 1, n' + 1, s, t, x, I, J, T, R, hm, hn, hn', hh => by
    have hl : x < y1 := by rw [jlt]; omega
    have ly := jlo y1
    have lx := jlo x
    have n1 : (x + 1).toInt = x.toInt + 1 := by rw [i32_add (by rw [jl1]; omega) (by rw [jl1]; omega), jl1]
    obtain ⟨t1, t2, t3, t4, t5, t6⟩ := T
    have n2 : (zS s 0 14 + 1).toInt = (zS s 0 14).toInt + 1 := by rw [i32_add (by rw [jl1]; omega) (by rw [jl1]; omega), jl1]
    obtain ⟨s1, e1, I1, K1, h1, M1⟩ := hourX I
    obtain ⟨u1, f1, J1, L1, g1, N1⟩ := hourM J y1 x n' hl
    have T1 : RTx s1 u1 := by
      refine ⟨by rw [h1, g1, t1], by rw [K1.2.2.1 1 4 rfl (by omega), L1.2.2.1 59 56 rfl (by omega), t2], fun i => ?_, fun i => ?_, by rw [h1, n2]; omega, by rw [h1, n2]; omega⟩
      · rw [K1.2.2.2 4 i rfl (by omega), L1.2.2.2 97 i rfl (by omega)]; exact t3 i
      · rw [K1.2.2.2 5 i rfl (by omega), L1.2.2.2 98 i rfl (by omega)]; exact t4 i
    have e97 : zI t 97 = zI s 4 := funext fun i => (t3 i).symm
    have e98 : zI t 98 = zI s 5 := funext fun i => (t4 i).symm
    rw [e97, e98, ← t1, ← t2] at N1
    have R1 : RKx s1 u1 := by
      intro c y a1 a2 a3
      obtain ⟨p1, p2⟩ := M1 c y a1 a2 a3
      obtain ⟨q1, q2⟩ := N1 c y a1 a2 a3
      show x2 s1 c y = 3 + m2 u1 c y ∧ x3 s1 c y = m3 u1 c y ∧ (m3 u1 c y = 0 ∨ m3 u1 c y = 1)
      by_cases z : ∃ i, 0 ≤ i ∧ i < (zS s 1 4).toInt.toNat ∧ Hit (zI s 4) (zI s 5) (zS s 0 14 + 1) i c y
      · rw [(p1 z).1, (p1 z).2, (q1 z).1, (q1 z).2]
        exact ⟨by decide, rfl, Or.inl rfl⟩
      · rw [(p2 z).1, (p2 z).2, (q2 z).1, (q2 z).2]
        exact R c y a1 a2 a3
    obtain ⟨r, u, e2, f2, I2, J2, T2, R2, K2, L2⟩ := hrs y1 m n n' s1 u1 (x + 1) I1 J1 T1 R1 (by omega) (by omega) (by omega) (by rw [h1, n2]; omega)
    refine ⟨r, u, ?_, f1.trans f2, I2, J2, T2, R2, K1.tr K2, L1.tr L2⟩
    rw [f_X11_hours_L27, f_X11_hours_L27_b, if_pos hl, e1, b1_some, vl]
    exact e2
theorem st_hours {s : SS} (G : GI s) (a0 : Int32) : ∃ (rx : Int32) (s1 : SS) (rm : Int32) (s2 : SS), f_X11_hours s a0 = some (rx, s1) ∧ f_X12_hours s1 a0 = some (rm, s2) ∧ GI s2 ∧ rx = rm := by
  obtain ⟨T, R, TR1⟩ := G.2
  obtain ⟨t1, t2, t3, t4, t5, t6⟩ := id T
  by_cases c : 1 ≤ a0.toInt ∧ a0.toInt ≤ 48
  · have na : (zS s 0 14 + a0).toInt = (zS s 0 14).toInt + a0.toInt := i32_add (by omega) (by omega)
    by_cases d : (zS s 0 14).toInt + a0.toInt ≤ 1699
    · obtain ⟨m, em⟩ : ∃ m : Nat, a0.toInt = m := ⟨a0.toInt.toNat, by omega⟩
      obtain ⟨r, _, er, _, Ir, _, _, _, Kr, _⟩ := hrs a0 m 4000 4000 s s 0 G.1.1 G.1.1 T R (by rw [jl0]; omega) (by omega) (by omega) (by omega)
      have Tr : RTx s r := ⟨by rw [Kr.2.2.1 59 1 rfl (by omega)]; exact t1, by rw [Kr.2.2.1 59 56 rfl (by omega)]; exact t2, fun i => by rw [Kr.2.2.2 97 i rfl (by omega)]; exact t3 i, fun i => by rw [Kr.2.2.2 98 i rfl (by omega)]; exact t4 i, t5, t6⟩
      have Rr : RKx s r := fun c y h1 h2 h3 => by rw [Kr.2.2.2 60 _ rfl (by omega), Kr.2.2.2 61 _ rfl (by omega)]; exact R c y h1 h2 h3
      obtain ⟨r', u, er', fu, Ir', Iu, Tu, Ru, Ku, Lu⟩ := hrs a0 m 4000 4000 s r 0 G.1.1 Ir Tr Rr (by rw [jl0]; omega) (by omega) (by omega) (by omega)
      have err : r' = r := by
        have := er'.symm.trans er
        exact congrArg Prod.snd (Option.some.inj this)
      rw [err] at er' Tu Ru Ku
      obtain ⟨u1, u2, u3, u4, u5⟩ := id Tu
      refine ⟨zS r 0 14, r, zS u 59 1, u, ?_, ?_, ⟨G.1.go (Ku.1.tr Lu.1) (fun i => ?_) Iu, ⟨?_, ?_, ?_⟩⟩, u1⟩
      · unfold f_X11_hours
        rw [if_neg (by rw [jlt, jl1]; omega), if_neg (by rw [jlt, show (48 : Int32).toInt = 48 from rfl]; omega), if_neg (by rw [jlt, jl1699]; omega), er']
      · unfold f_X12_hours
        rw [in_t (by rw [jl1, show (48 : Int32).toInt = 48 from rfl]; omega), b1_some, if_neg (by decide), if_neg (by rw [jlt, jl1699, ← Tr.1]; omega), fu]
      · show u.2.2.2.1 17 i = _
        rw [Lu.2.1, Ku.2.1]
        rfl
      · refine ⟨by rw [Lu.2.2.1 0 14 rfl (by omega)]; exact u1, by rw [Lu.2.2.1 1 4 rfl (by omega)]; exact u2, fun i => by rw [Lu.2.2.2 4 i rfl (by omega)]; exact u3 i, fun i => by rw [Lu.2.2.2 5 i rfl (by omega)]; exact u4 i, ?_⟩
        rw [Lu.2.2.1 0 14 rfl (by omega)]
        exact u5
      · intro c y h1 h2 h3
        rw [Lu.2.2.2 2 _ rfl (by omega), Lu.2.2.2 3 _ rfl (by omega)]
        exact Ru c y h1 h2 h3
      · have w : ∀ q k, fSB q k = true → ¬ (q = 0 ∧ k = 14) → ¬ (q = 59 ∧ k = 1) → zS u q k = zS s q k := fun q k h a b => (Lu.2.2.1 q k h b).trans (Ku.2.2.1 q k h a)
        have wI : ∀ q i, fIB q = true → 4 ≤ q → q ≠ 60 ∧ q ≠ 61 → zI u q i = zI s q i := fun q i h a b => (Lu.2.2.2 q i h b).trans (Ku.2.2.2 q i h a)
        obtain ⟨⟨r1, r2⟩, ⟨a1, a2, a3⟩, b⟩ := TR1
        refine ⟨⟨by rw [w 15 11 rfl (by omega) (by omega), w 59 87 rfl (by omega) (by omega)]; exact r1, fun i => by rw [wI 18 i rfl (by omega) (by omega), wI 119 i rfl (by omega) (by omega)]; exact r2 i⟩, ⟨by rw [w 24 1 rfl (by omega) (by omega), w 59 37 rfl (by omega) (by omega)]; exact a1, by unfold xn; rw [w 24 1 rfl (by omega) (by omega)]; exact a2, fun i hi => by rw [wI 25 i rfl (by omega) (by omega), wI 86 i rfl (by omega) (by omega)]; exact a3 i hi⟩, by rw [w 0 8 rfl (by omega) (by omega), w 59 38 rfl (by omega) (by omega)]; exact b⟩
    · refine ⟨-1, s, -1, s, ?_, ?_, G, rfl⟩
      · unfold f_X11_hours
        rw [if_neg (by rw [jlt, jl1]; omega), if_neg (by rw [jlt, show (48 : Int32).toInt = 48 from rfl]; omega), if_pos (by rw [jlt, jl1699]; omega)]
      · unfold f_X12_hours
        rw [in_t (by rw [jl1, show (48 : Int32).toInt = 48 from rfl]; omega), b1_some, if_neg (by decide), if_pos (by rw [jlt, jl1699, ← t1]; omega)]
  · refine ⟨-1, s, -1, s, ?_, ?_, G, rfl⟩
    · unfold f_X11_hours
      by_cases h : a0 < 1
      · rw [if_pos h]
      · rw [if_neg h, if_pos (by rw [jlt, show (48 : Int32).toInt = 48 from rfl]; rw [jlt, jl1] at h; omega)]
    · unfold f_X12_hours
      rw [in_f (by rw [jl1, show (48 : Int32).toInt = 48 from rfl]; omega), b1_some, if_pos rfl]
/-! ACTS: what they leave in the trace -/
def tX1 (s : SS) (v : Int32) : SS := pS (if zS s 15 11 < 24 then pI s 18 (zS s 15 11).toInt.toNat v else s) 15 11 (zS s 15 11 + 1)
def tM1 (s : SS) (v : Int32) : SS := pS (if zS s 59 87 < 24 then pI s 119 (zS s 59 87).toInt.toNat v else s) 59 87 (zS s 59 87 + 1)
def tX (s : SS) (l : List Int32) : SS := l.foldl tX1 s
def tM (s : SS) (l : List Int32) : SS := l.foldl tM1 s
def nX (s : SS) (m : Int) : Prop := 0 ≤ (zS s 15 11).toInt ∧ (zS s 15 11).toInt ≤ m
def nM (s : SS) (m : Int) : Prop := 0 ≤ (zS s 59 87).toInt ∧ (zS s 59 87).toInt ≤ m
theorem j24 : (24 : Int32).toInt = 24 := rfl
theorem zS_if {c : Prop} [Decidable c] {a b : SS} {q k : Nat} (h : zS a q k = zS b q k) : zS (if c then a else b) q k = zS b q k := by
  by_cases z : c
  · rw [if_pos z]; exact h
  · rw [if_neg z]
theorem zI_if {c : Prop} [Decidable c] {a b : SS} {q i : Nat} (h : zI a q i = zI b q i) : zI (if c then a else b) q i = zI b q i := by
  by_cases z : c
  · rw [if_pos z]; exact h
  · rw [if_neg z]
theorem tX1_n {s : SS} {v : Int32} : zS (tX1 s v) 15 11 = zS s 15 11 + 1 := by
  unfold tX1
  rw [zS_pS, if_pos ⟨rfl, rfl⟩]
theorem tM1_n {s : SS} {v : Int32} : zS (tM1 s v) 59 87 = zS s 59 87 + 1 := by
  unfold tM1
  rw [zS_pS, if_pos ⟨rfl, rfl⟩]
theorem tX1_S {s : SS} {v : Int32} {q k : Nat} (h : ¬ (q = 15 ∧ k = 11)) : zS (tX1 s v) q k = zS s q k := by
  unfold tX1
  rw [zS_pS, if_neg h]
  exact zS_if rfl
theorem tM1_S {s : SS} {v : Int32} {q k : Nat} (h : ¬ (q = 59 ∧ k = 87)) : zS (tM1 s v) q k = zS s q k := by
  unfold tM1
  rw [zS_pS, if_neg h]
  exact zS_if rfl
theorem tX1_I {s : SS} {v : Int32} {q i : Nat} (h : q ≠ 18) : zI (tX1 s v) q i = zI s q i := by
  unfold tX1
  rw [zI_pS]
  exact zI_if (by rw [zI_pI, if_neg (fun z => h z.1)])
theorem tM1_I {s : SS} {v : Int32} {q i : Nat} (h : q ≠ 119) : zI (tM1 s v) q i = zI s q i := by
  unfold tM1
  rw [zI_pS]
  exact zI_if (by rw [zI_pI, if_neg (fun z => h z.1)])
theorem tX1_J {s : SS} {v : Int32} : (tX1 s v).2.2 = s.2.2 := by
  unfold tX1
  by_cases z : zS s 15 11 < 24
  · rw [if_pos z]; rfl
  · rw [if_neg z]; rfl
theorem tM1_J {s : SS} {v : Int32} : (tM1 s v).2.2 = s.2.2 := by
  unfold tM1
  by_cases z : zS s 59 87 < 24
  · rw [if_pos z]; rfl
  · rw [if_neg z]; rfl
theorem nX.s {s : SS} {m : Int} {v : Int32} (h : nX s m) (hm : m ≤ 1000) : nX (tX1 s v) (m + 1) := by
  obtain ⟨h1, h2⟩ := h
  unfold nX
  rw [tX1_n, i32_add (by rw [jl1]; omega) (by rw [jl1]; omega), jl1]
  omega
theorem nM.s {s : SS} {m : Int} {v : Int32} (h : nM s m) (hm : m ≤ 1000) : nM (tM1 s v) (m + 1) := by
  obtain ⟨h1, h2⟩ := h
  unfold nM
  rw [tM1_n, i32_add (by rw [jl1]; omega) (by rw [jl1]; omega), jl1]
  omega
theorem runs_eq {s : SS} {m : Int} {v : Int32} (h : nX s m) : f_X0_runs s v = some (tX1 s v) := by
  unfold f_X0_runs tX1
  rw [jn]
  by_cases z : zS s 15 11 < 24
  · rw [if_pos z, if_pos z, vl, gd_t ⟨h.1, by rw [jlt, j24] at z; omega⟩, st]
    show (vl (zS (pI s 18 (zS s 15 11).toInt.toNat v) 15 11 + 1) fun v2 => st (pS (pI s 18 (zS s 15 11).toInt.toNat v) 15 11 v2) fun s3 => some s3) = _
    rw [vl, st, zS_pI]
  · rw [if_neg z, if_neg z]
    show (vl (zS s 15 11 + 1) fun v2 => st (pS s 15 11 v2) fun s3 => some s3) = _
    rw [vl, st]
theorem ran_eq {s : SS} {m : Int} {v : Int32} (h : nM s m) : f_X12_ran s v = some (tM1 s v) := by
  unfold f_X12_ran tM1
  rw [jn]
  by_cases z : zS s 59 87 < 24
  · rw [if_pos z, if_pos z, vl, gd_t ⟨h.1, by rw [jlt, j24] at z; omega⟩, st]
    show (vl (zS (pI s 119 (zS s 59 87).toInt.toNat v) 59 87 + 1) fun v2 => st (pS (pI s 119 (zS s 59 87).toInt.toNat v) 59 87 v2) fun s3 => some s3) = _
    rw [vl, st, zS_pI]
  · rw [if_neg z, if_neg z]
    show (vl (zS s 59 87 + 1) fun v2 => st (pS s 59 87 v2) fun s3 => some s3) = _
    rw [vl, st]
theorem TR.s {s t : SS} {v : Int32} (h : TR s t) : TR (tX1 s v) (tM1 t v) := by
  obtain ⟨h1, h2⟩ := h
  refine ⟨by rw [tX1_n, tM1_n, h1], fun i => ?_⟩
  unfold tX1 tM1
  rw [zI_pS, zI_pS, h1]
  by_cases z : zS t 59 87 < 24
  · rw [if_pos z, if_pos z, zI_pI, zI_pI]
    by_cases w : i = (zS t 59 87).toInt.toNat
    · rw [if_pos ⟨rfl, w⟩, if_pos ⟨rfl, w⟩]
    · rw [if_neg (fun e => w e.2), if_neg (fun e => w e.2)]; exact h2 i
  · rw [if_neg z, if_neg z]; exact h2 i
theorem TR.l : ∀ (l : List Int32) {s t : SS}, TR s t → TR (tX s l) (tM t l)
  | [], _, _, h => h
  | _ :: l, _, _, h => TR.l l h.s
/-- what a trace leaves as it was -/
def EX (s r : SS) : Prop := (∀ q k, ¬ (q = 15 ∧ k = 11) → zS r q k = zS s q k) ∧ (∀ q i, q ≠ 18 → zI r q i = zI s q i) ∧ r.2.2 = s.2.2
def EM (s r : SS) : Prop := (∀ q k, ¬ (q = 59 ∧ k = 87) → zS r q k = zS s q k) ∧ (∀ q i, q ≠ 119 → zI r q i = zI s q i) ∧ r.2.2 = s.2.2
theorem EX.l (l : List Int32) : ∀ {s : SS}, EX s (tX s l) := by
  induction l with
  | nil => exact ⟨fun _ _ _ => rfl, fun _ _ _ => rfl, rfl⟩
  | cons v l ih =>
    intro s
    obtain ⟨h1, h2, h3⟩ := @ih (tX1 s v)
    exact ⟨fun q k h => (h1 q k h).trans (tX1_S h), fun q i h => (h2 q i h).trans (tX1_I h), h3.trans tX1_J⟩
theorem EM.l (l : List Int32) : ∀ {s : SS}, EM s (tM s l) := by
  induction l with
  | nil => exact ⟨fun _ _ _ => rfl, fun _ _ _ => rfl, rfl⟩
  | cons v l ih =>
    intro s
    obtain ⟨h1, h2, h3⟩ := @ih (tM1 s v)
    exact ⟨fun q k h => (h1 q k h).trans (tM1_S h), fun q i h => (h2 q i h).trans (tM1_I h), h3.trans tM1_J⟩
theorem nX.l (l : List Int32) : ∀ {s : SS} {m : Int}, nX s m → m + l.length ≤ 1000 → nX (tX s l) (m + l.length) := by
  induction l with
  | nil => intro s m h _; exact (by rw [List.length_nil]; exact (by rw [Int.natCast_zero, Int.add_zero]; exact h))
  | cons v l ih =>
    intro s m h hm
    rw [List.length_cons] at hm ⊢
    have := ih (h.s (v := v) (by omega)) (by omega)
    unfold nX at this ⊢
    have e : tX s (v :: l) = tX (tX1 s v) l := rfl
    rw [e]
    omega
theorem nM.l (l : List Int32) : ∀ {s : SS} {m : Int}, nM s m → m + l.length ≤ 1000 → nM (tM s l) (m + l.length) := by
  induction l with
  | nil => intro s m h _; exact (by rw [List.length_nil]; exact (by rw [Int.natCast_zero, Int.add_zero]; exact h))
  | cons v l ih =>
    intro s m h hm
    rw [List.length_cons] at hm ⊢
    have := ih (h.s (v := v) (by omega)) (by omega)
    unfold nM at this ⊢
    have e : tM s (v :: l) = tM (tM1 s v) l := rfl
    rw [e]
    omega
theorem tX_app {s : SS} {l m : List Int32} : tX (tX s l) m = tX s (l ++ m) := by
  unfold tX
  rw [List.foldl_append]
theorem tM_app {s : SS} {l m : List Int32} : tM (tM s l) m = tM s (l ++ m) := by
  unfold tM
  rw [List.foldl_append]
theorem tXc {s : SS} {v : Int32} {l : List Int32} : tX (tX1 s v) l = tX s (v :: l) := rfl
theorem tMc {s : SS} {v : Int32} {l : List Int32} : tM (tM1 s v) l = tM s (v :: l) := rfl
theorem tX11 {s : SS} {v : Int32} : tX s [v] = tX1 s v := rfl
theorem tM11 {s : SS} {v : Int32} : tM s [v] = tM1 s v := rfl
/-- by the kind: what is run, what is given -/
def isW (k : Int32) : Prop := k = 1 ∨ k = 2 ∨ k = 3 ∨ k = 6
def lB (k : Int32) : List Int32 := if k = 5 then [61, 50, 20, 1] else if k = 4 then [50, 20, 1] else if k = 1 ∨ k = 2 ∨ k = 3 ∨ k = 6 then [20, 1] else [1]
def vB (k a x : Int32) : Int32 := if k = 5 then (x + 1 + a) * 2 ^^^ 7 else if k = 4 then (x + 1 + a) * 2 else if k = 1 ∨ k = 2 ∨ k = 3 ∨ k = 6 then (x + a) * 2 else x + a
theorem dep {d : Int32} (hd : 0 ≤ d.toInt ∧ d.toInt ≤ 20) : ¬ (40 : Int32) < d := by
  rw [jlt, show (40 : Int32).toInt = 40 from rfl]
  omega
theorem dep1 {d : Int32} {m : Int} (hd : 0 ≤ d.toInt ∧ d.toInt ≤ m) (hm : m ≤ 30) : 0 ≤ (d + 1).toInt ∧ (d + 1).toInt ≤ m + 1 := by
  rw [i32_add (by rw [jl1]; omega) (by rw [jl1]; omega), jl1]
  omega
theorem bX0 {n : Nat} {s : SS} {k a x d : Int32} {m : Int} (C : nX s m) (hd : 0 ≤ d.toInt ∧ d.toInt ≤ 20) (h1 : ¬ k = 1) (h2 : ¬ k = 2) (h3 : ¬ k = 3) (h4 : ¬ k = 4) (h5 : ¬ k = 5) (h6 : ¬ k = 6) : f_X0_boresFrom (n + 1) s k a x d = some (x + a, tX1 s 1) := by
  rw [f_X0_boresFrom, f_X0_boresFrom_r, if_neg (dep hd), jn, if_neg h1, if_neg h2, if_neg h3, if_neg h4, if_neg h5, if_neg h6, runs_eq C, b1_some]
theorem bXw {n : Nat} {s : SS} {k a x d : Int32} {m : Int} (C : nX s m) (hm : m ≤ 900) (hd : 0 ≤ d.toInt ∧ d.toInt ≤ 19) (h : k = 1 ∨ k = 2 ∨ k = 3 ∨ k = 6) : f_X0_boresFrom (n + 2) s k a x d = some ((x + a) * 2, tX s [20, 1]) := by
  have e : (b1 (f_X0_runs s 20) fun s3 => bd (f_X0_boresFrom (n + 1) s3 0 a x (d + 1)) fun r4 s4 => some (r4 * 2, s4)) = some ((x + a) * 2, tX s [20, 1]) := by
    rw [runs_eq C, b1_some, bX0 (C.s (by omega)) (dep1 hd (by omega)) (by decide) (by decide) (by decide) (by decide) (by decide) (by decide), bd_some]
    rw [← tX11, tXc]
  rw [f_X0_boresFrom, f_X0_boresFrom_r, if_neg (dep ⟨hd.1, by omega⟩), jn]
  rcases h with rfl | rfl | rfl | rfl
  · rw [if_pos rfl, e]
  · rw [if_neg (by decide), if_pos rfl, e]
  · rw [if_neg (by decide), if_neg (by decide), if_pos rfl, e]
  · rw [if_neg (by decide), if_neg (by decide), if_neg (by decide), if_neg (by decide), if_neg (by decide), if_pos rfl, e]
theorem bX4 {n : Nat} {s : SS} {a x d : Int32} {m : Int} (C : nX s m) (hm : m ≤ 800) (hd : 0 ≤ d.toInt ∧ d.toInt ≤ 18) : f_X0_boresFrom (n + 3) s 4 a x d = some ((x + 1 + a) * 2, tX s [50, 20, 1]) := by
  rw [f_X0_boresFrom, f_X0_boresFrom_r, if_neg (dep ⟨hd.1, by omega⟩), jn, if_neg (by decide), if_neg (by decide), if_neg (by decide), if_pos rfl, runs_eq C, b1_some, bXw (C.s (by omega)) (by omega) (dep1 hd (by omega)) (Or.inr (Or.inl rfl)), bd_some]
  rw [tXc]
theorem bX5 {n : Nat} {s : SS} {a x d : Int32} {m : Int} (C : nX s m) (hm : m ≤ 700) (hd : 0 ≤ d.toInt ∧ d.toInt ≤ 17) : f_X0_boresFrom (n + 4) s 5 a x d = some ((x + 1 + a) * 2 ^^^ 7, tX s [61, 50, 20, 1]) := by
  rw [f_X0_boresFrom, f_X0_boresFrom_r, if_neg (dep ⟨hd.1, by omega⟩), jn, if_neg (by decide), if_neg (by decide), if_neg (by decide), if_neg (by decide), if_pos rfl, runs_eq C, b1_some, bX4 (C.s (by omega)) (by omega) (dep1 hd (by omega)), bd_some]
  rw [tXc]
theorem bX {s : SS} {k a x d : Int32} {m : Int} (C : nX s m) (hm : m ≤ 700) (hd : 0 ≤ d.toInt ∧ d.toInt ≤ 17) : f_X0_boresFrom 8 s k a x d = some (vB k a x, tX s (lB k)) := by
  unfold vB lB
  by_cases h5 : k = 5
  · rw [if_pos h5, if_pos h5, h5, bX5 C hm hd]
  · rw [if_neg h5, if_neg h5]
    by_cases h4 : k = 4
    · rw [if_pos h4, if_pos h4, h4, bX4 C (by omega) ⟨hd.1, by omega⟩]
    · rw [if_neg h4, if_neg h4]
      by_cases hw : k = 1 ∨ k = 2 ∨ k = 3 ∨ k = 6
      · rw [if_pos hw, if_pos hw, bXw C (by omega) ⟨hd.1, by omega⟩ hw]
      · rw [if_neg hw, if_neg hw, bX0 C ⟨hd.1, by omega⟩ (fun z => hw (Or.inl z)) (fun z => hw (Or.inr (Or.inl z))) (fun z => hw (Or.inr (Or.inr (Or.inl z)))) h4 h5 (fun z => hw (Or.inr (Or.inr (Or.inr z))))]
        rfl
theorem und1 {k : Int32} : f_X12_isUnder k 1 = some (if k = 1 ∨ k = 2 ∨ k = 3 ∨ k = 4 ∨ k = 5 ∨ k = 6 then 1 else 0) := by
  unfold f_X12_isUnder
  rw [if_neg (by decide)]
  by_cases h1 : k = 1
  · rw [if_pos h1, if_pos (Or.inl h1)]
  rw [if_neg h1, if_pos rfl]
  by_cases h2 : k = 2
  · rw [if_pos h2, if_pos (Or.inr (Or.inl h2))]
  rw [if_neg h2]
  by_cases h3 : k = 3
  · rw [if_pos h3, if_pos (Or.inr (Or.inr (Or.inl h3)))]
  rw [if_neg h3]
  by_cases h4 : k = 4
  · rw [if_pos h4, if_pos (Or.inr (Or.inr (Or.inr (Or.inl h4))))]
  rw [if_neg h4]
  by_cases h5 : k = 5
  · rw [if_pos h5, if_pos (Or.inr (Or.inr (Or.inr (Or.inr (Or.inl h5)))))]
  rw [if_neg h5]
  by_cases h6 : k = 6
  · rw [if_pos h6, if_pos (Or.inr (Or.inr (Or.inr (Or.inr (Or.inr h6)))))]
  rw [if_neg h6, if_neg (by rintro (z | z | z | z | z | z) <;> contradiction)]
theorem und2 {k : Int32} : f_X12_isUnder k 2 = some (if k = 2 ∨ k = 3 ∨ k = 4 ∨ k = 5 then 1 else 0) := by
  unfold f_X12_isUnder
  rw [if_neg (by decide)]
  by_cases h2 : k = 2
  · rw [if_pos h2, if_pos (Or.inl h2)]
  rw [if_neg h2, if_neg (by decide), if_pos rfl]
  by_cases h3 : k = 3
  · rw [if_pos h3, if_pos (Or.inr (Or.inl h3))]
  rw [if_neg h3]
  by_cases h4 : k = 4
  · rw [if_pos h4, if_pos (Or.inr (Or.inr (Or.inl h4)))]
  rw [if_neg h4]
  by_cases h5 : k = 5
  · rw [if_pos h5, if_pos (Or.inr (Or.inr (Or.inr h5)))]
  rw [if_neg h5, if_neg (by rintro (z | z | z | z) <;> contradiction)]
theorem und4 {k : Int32} : f_X12_isUnder k 4 = some (if k = 4 ∨ k = 5 then 1 else 0) := by
  unfold f_X12_isUnder
  rw [if_neg (by decide)]
  by_cases h4 : k = 4
  · rw [if_pos h4, if_pos (Or.inl h4)]
  rw [if_neg h4, if_neg (by decide), if_neg (by decide), if_pos rfl]
  by_cases h5 : k = 5
  · rw [if_pos h5, if_pos (Or.inr h5)]
  rw [if_neg h5, if_neg (by rintro (z | z) <;> contradiction)]
/-- the reference -/
theorem pbM {s : SS} {a x : Int32} {m : Int} (C : nM s m) : f_X12_plainBores s a x = some (x + a, tM s [1]) := by
  unfold f_X12_plainBores
  rw [ran_eq C, b1_some]
  rfl
theorem wbM {s : SS} {a x : Int32} {m : Int} (C : nM s m) (hm : m ≤ 900) : f_X12_wayBores s a x = some ((x + a) * 2, tM s [20, 1]) := by
  unfold f_X12_wayBores
  rw [ran_eq C, b1_some, pbM (C.s (by omega)), bd_some]
  rw [tMc]
theorem sbM {s : SS} {a x : Int32} {m : Int} (C : nM s m) (hm : m ≤ 800) : f_X12_shaftBores s a x = some ((x + 1 + a) * 2, tM s [50, 20, 1]) := by
  unfold f_X12_shaftBores
  rw [ran_eq C, b1_some, wbM (C.s (by omega)) (by omega), bd_some]
  rw [tMc]
theorem bM {s : SS} {k a x : Int32} {m : Int} (C : nM s m) (hm : m ≤ 700) (ha : inB a 120) (hk : zI s 62 a.toInt.toNat = k) : f_X12_bores s a x = some (vB k a x, tM s (lB k)) := by
  unfold f_X12_bores vB lB
  rw [gd_t ha, hk]
  by_cases h5 : k = 5
  · rw [if_pos h5, if_pos h5, if_pos h5, ran_eq C, b1_some, sbM (C.s (by omega)) (by omega), bd_some]
    rw [tMc]
  rw [if_neg h5, if_neg h5, if_neg h5, gd_t ha]
  by_cases h4 : k = 4
  · rw [if_pos h4, if_pos h4, if_pos h4, sbM C (by omega), bd_some]
  rw [if_neg h4, if_neg h4, if_neg h4, gd_t ha, und1, b1_some]
  by_cases hw : k = 1 ∨ k = 2 ∨ k = 3 ∨ k = 6
  · rw [if_pos hw, if_pos hw, if_pos (show k = 1 ∨ k = 2 ∨ k = 3 ∨ k = 4 ∨ k = 5 ∨ k = 6 from by rcases hw with z | z | z | z <;> simp [z]), if_neg (by decide), wbM C (by omega), bd_some]
  · rw [if_neg hw, if_neg hw, if_neg (show ¬ (k = 1 ∨ k = 2 ∨ k = 3 ∨ k = 4 ∨ k = 5 ∨ k = 6) from by
      rintro (z | z | z | z | z | z)
      · exact hw (Or.inl z)
      · exact hw (Or.inr (Or.inl z))
      · exact hw (Or.inr (Or.inr (Or.inl z)))
      · exact h4 z
      · exact h5 z
      · exact hw (Or.inr (Or.inr (Or.inr z)))), if_pos rfl, pbM C, bd_some]
theorem EX.rf {s : SS} : EX s s := ⟨fun _ _ _ => rfl, fun _ _ _ => rfl, rfl⟩
theorem EX.tr {s r u : SS} (h : EX s r) (g : EX r u) : EX s u := ⟨fun q k z => (g.1 q k z).trans (h.1 q k z), fun q i z => (g.2.1 q i z).trans (h.2.1 q i z), g.2.2.trans h.2.2⟩
theorem EM.tr {s r u : SS} (h : EM s r) (g : EM r u) : EM s u := ⟨fun q k z => (g.1 q k z).trans (h.1 q k z), fun q i z => (g.2.1 q i z).trans (h.2.1 q i z), g.2.2.trans h.2.2⟩
theorem EM.rf {s : SS} : EM s s := ⟨fun _ _ _ => rfl, fun _ _ _ => rfl, rfl⟩
theorem EX.s {s : SS} {v : Int32} : EX s (tX1 s v) := ⟨fun _ _ h => tX1_S h, fun _ _ h => tX1_I h, tX1_J⟩
theorem EM.s {s : SS} {v : Int32} : EM s (tM1 s v) := ⟨fun _ _ h => tM1_S h, fun _ _ h => tM1_I h, tM1_J⟩
/-- body a of kind k, its width w, its strength g, whatever the trace -/
def OX (s : SS) (a k w g : Int32) : Prop := ∀ r, EX s r → f_X0_kindOf r a = some k ∧ f_X0_widthOf r a = some w ∧ f_X0_strengthOf r a = some g
def OM (s : SS) (a k w g : Int32) : Prop := inB a 120 ∧ ∀ r, EM s r → zI r 62 a.toInt.toNat = k ∧ zI r 64 a.toInt.toNat = w ∧ zI r 74 a.toInt.toNat = g
theorem OX.c {s r : SS} {a k w g : Int32} (h : OX s a k w g) (e : EX s r) : OX r a k w g := fun u z => h u (e.tr z)
theorem OM.c {s r : SS} {a k w g : Int32} (h : OM s a k w g) (e : EM s r) : OM r a k w g := ⟨h.1, fun u z => h.2 u (e.tr z)⟩
def isC (k : Int32) : Prop := k = 2 ∨ k = 3 ∨ k = 4 ∨ k = 5
def lC (k : Int32) : List Int32 := if k = 2 ∨ k = 3 ∨ k = 4 ∨ k = 5 then [30, 10] ++ lB k else if k = 7 then [80, 10] ++ lB k else [10] ++ lB k
def vC (k w g a x : Int32) : Int32 := if k = 2 ∨ k = 3 ∨ k = 4 ∨ k = 5 then vB k a x - 1 + w else if k = 7 then vB k a x - 1 - g else vB k a x - 1
theorem lB_len (k : Int32) : (lB k).length ≤ 4 := by
  unfold lB
  by_cases h5 : k = 5
  · rw [if_pos h5]; decide
  rw [if_neg h5]
  by_cases h4 : k = 4
  · rw [if_pos h4]; decide
  rw [if_neg h4]
  by_cases hw : k = 1 ∨ k = 2 ∨ k = 3 ∨ k = 6
  · rw [if_pos hw]; decide
  rw [if_neg hw]; decide
theorem lC_len (k : Int32) : (lC k).length ≤ 6 := by
  have := lB_len k
  unfold lC
  by_cases h5 : k = 2 ∨ k = 3 ∨ k = 4 ∨ k = 5
  · rw [if_pos h5, List.length_append]; show 2 + _ ≤ 6; omega
  rw [if_neg h5]
  by_cases h4 : k = 7
  · rw [if_pos h4, List.length_append]; show 2 + _ ≤ 6; omega
  rw [if_neg h4, List.length_append]; show 1 + _ ≤ 6; omega
/-- the class carries: the common end (kinds 0, 1, 6) -/
theorem cX0 {n : Nat} {s : SS} {c k w g a x d : Int32} {m : Int} (C : nX s m) (hm : m ≤ 600) (hd : 0 ≤ d.toInt ∧ d.toInt ≤ 16) (O : OX s a k w g) (hc : c = 0 ∨ c = 1 ∨ c = 6) : f_X0_carriesFrom (n + 1) s c a x d = some (vB k a x - 1, tX s ([10] ++ lB k)) := by
  have e : (b1 (f_X0_runs s 10) fun s7 => (b1 (f_X0_kindOf s7 a) fun r8 => (bd (f_X0_boresFrom 8 s7 r8 a x (d + (1 : Int32))) fun r10 s10 => some ((r10 - (1 : Int32)), s10)))) = some (vB k a x - 1, tX s ([10] ++ lB k)) := by
    rw [runs_eq C, b1_some, (O _ EX.s).1, b1_some, bX (C.s (by omega)) (by omega) (dep1 hd (by omega)), bd_some]
    first | (rw [tXc]; rfl) | (rw [tX11, tXc, tXc]; rfl) | rfl
  rw [f_X0_carriesFrom, f_X0_carriesFrom_r, if_neg (dep ⟨hd.1, by omega⟩), jn, jn, e]
  rcases hc with rfl | rfl | rfl
  · rw [if_neg (by decide), if_neg (by decide), if_neg (by decide), if_neg (by decide), if_neg (by decide), if_neg (by decide)]
  · rw [if_neg (by decide), if_neg (by decide), if_neg (by decide), if_neg (by decide), if_neg (by decide), if_neg (by decide)]
  · rw [if_neg (by decide), if_neg (by decide), if_neg (by decide), if_neg (by decide), if_pos rfl]
theorem cX {n : Nat} {s : SS} {k w g a x d : Int32} {m : Int} (C : nX s m) (hm : m ≤ 500) (hd : 0 ≤ d.toInt ∧ d.toInt ≤ 15) (hk : 0 ≤ k.toInt ∧ k.toInt ≤ 7) (O : OX s a k w g) : f_X0_carriesFrom (n + 2) s k a x d = some (vC k w g a x, tX s (lC k)) := by
  have e : (b1 (f_X0_runs s 30) fun s3 => (bd (f_X0_carriesFrom (n + 1) s3 1 a x (d + (1 : Int32))) fun r4 s4 => (b1 (f_X0_widthOf s4 a) fun r5 => some ((r4 + r5), s4)))) = some (vB k a x - 1 + w, tX s ([30, 10] ++ lB k)) := by
    rw [runs_eq C, b1_some, cX0 (C.s (by omega)) (by omega) (dep1 hd (by omega)) (O.c EX.s) (Or.inr (Or.inl rfl)), bd_some, (O _ (EX.s.tr (EX.l _))).2.1, b1_some]
    first | (rw [tXc]; rfl) | (rw [tX11, tXc, tXc]; rfl) | rfl
  have hk8 : k = 0 ∨ k = 1 ∨ k = 2 ∨ k = 3 ∨ k = 4 ∨ k = 5 ∨ k = 6 ∨ k = 7 := by
    have h : k.toInt = 0 ∨ k.toInt = 1 ∨ k.toInt = 2 ∨ k.toInt = 3 ∨ k.toInt = 4 ∨ k.toInt = 5 ∨ k.toInt = 6 ∨ k.toInt = 7 := by omega
    exact h.imp (fun z => Int32.toInt_inj.1 z) (fun h => h.imp (fun z => Int32.toInt_inj.1 z) (fun h => h.imp (fun z => Int32.toInt_inj.1 z) (fun h => h.imp (fun z => Int32.toInt_inj.1 z) (fun h => h.imp (fun z => Int32.toInt_inj.1 z) (fun h => h.imp (fun z => Int32.toInt_inj.1 z) (fun h => h.imp (fun z => Int32.toInt_inj.1 z) (fun z => Int32.toInt_inj.1 z)))))))
  unfold vC lC
  by_cases h5 : k = 2 ∨ k = 3 ∨ k = 4 ∨ k = 5
  · rw [if_pos h5, if_pos h5, f_X0_carriesFrom, f_X0_carriesFrom_r, if_neg (dep ⟨hd.1, by omega⟩), jn, jn, e]
    by_cases z2 : k = 2
    · rw [if_pos z2]
    rw [if_neg z2]
    by_cases z3 : k = 3
    · rw [if_pos z3]
    rw [if_neg z3]
    by_cases z4 : k = 4
    · rw [if_pos z4]
    rw [if_neg z4, if_pos (by rcases h5 with z | z | z | z <;> first | exact z | contradiction)]
  rw [if_neg h5, if_neg h5]
  by_cases h7 : k = 7
  · rw [if_pos h7, if_pos h7, f_X0_carriesFrom, f_X0_carriesFrom_r, if_neg (dep ⟨hd.1, by omega⟩), jn, jn, if_neg (by rw [h7]; decide), if_neg (by rw [h7]; decide), if_neg (by rw [h7]; decide), if_neg (by rw [h7]; decide), if_neg (by rw [h7]; decide), if_pos h7, runs_eq C, b1_some, cX0 (C.s (by omega)) (by omega) (dep1 hd (by omega)) (O.c EX.s) (Or.inl rfl), bd_some, (O _ (EX.s.tr (EX.l _))).2.2, b1_some]
    first | (rw [tXc]; rfl) | (rw [tX11, tXc, tXc]; rfl) | rfl
  rw [if_neg h7, if_neg h7]
  refine cX0 C (by omega) ⟨hd.1, by omega⟩ O ?_
  rcases hk8 with z | z | z | z | z | z | z | z
  · exact Or.inl z
  · exact Or.inr (Or.inl z)
  · exact absurd (Or.inl z) h5
  · exact absurd (Or.inr (Or.inl z)) h5
  · exact absurd (Or.inr (Or.inr (Or.inl z))) h5
  · exact absurd (Or.inr (Or.inr (Or.inr z))) h5
  · exact Or.inr (Or.inr z)
  · exact absurd z h7
def lH (k : Int32) : List Int32 := if k = 3 then [40, 11] ++ lC k else if k = 5 then [60, 11] else if k = 6 then [70, 11, 10] ++ lB k else [11]
def vH (k w g a x : Int32) : Int32 := if k = 3 then (x ^^^ a) - vC k w g a 1 else if k = 5 then -(x ^^^ a) else if k = 6 then (x ^^^ a) + (vB k a x - 1) else x ^^^ a
theorem hX0 {n : Nat} {s : SS} {k a x d : Int32} {m : Int} (C : nX s m) (hd : 0 ≤ d.toInt ∧ d.toInt ≤ 20) (h3 : ¬ k = 3) (h5 : ¬ k = 5) (h6 : ¬ k = 6) : f_X0_holdsFrom (n + 1) s k a x d = some (x ^^^ a, tX s [11]) := by
  have e : (b1 (f_X0_runs s 11) fun s3 => some ((x ^^^ a), s3)) = some (x ^^^ a, tX s [11]) := by
    rw [runs_eq C, b1_some]
    rfl
  rw [f_X0_holdsFrom, f_X0_holdsFrom_r, if_neg (dep hd), jn, e, if_neg h3]
  by_cases h4 : k = 4
  · rw [if_pos h4]
  · rw [if_neg h4, if_neg h5, if_neg h6]
theorem hXk {n : Nat} {s : SS} {k w g a x d : Int32} {m : Int} (C : nX s m) (hm : m ≤ 400) (hd : 0 ≤ d.toInt ∧ d.toInt ≤ 14) (hk : 0 ≤ k.toInt ∧ k.toInt ≤ 7) (O : OX s a k w g) : f_X0_holdsFrom (n + 2) s k a x d = some (vH k w g a x, tX s (lH k)) := by
  unfold vH lH
  by_cases h3 : k = 3
  · have C2 : nX (tX (tX1 s 40) [11]) (m + 1 + 1) := (C.s (by omega)).s (by omega)
    have O2 : OX (tX (tX1 s 40) [11]) a k w g := O.c (EX.s.tr EX.s)
    rw [if_pos h3, if_pos h3, f_X0_holdsFrom, f_X0_holdsFrom_r, if_neg (dep ⟨hd.1, by omega⟩), jn, if_pos h3, runs_eq C, b1_some, hX0 (C.s (by omega)) ⟨(dep1 hd (by omega)).1, by have := (dep1 hd (by omega)).2; omega⟩ (by decide) (by decide) (by decide), bd_some, (O _ (EX.s.tr (EX.l _))).1, b1_some, cX C2 (by omega) (dep1 hd (by omega)) hk O2, bd_some]
    first | (rw [tXc]; rfl) | (rw [tX11, tXc, tXc]; rfl) | rfl
  rw [if_neg h3, if_neg h3]
  by_cases h5 : k = 5
  · rw [if_pos h5, if_pos h5, f_X0_holdsFrom, f_X0_holdsFrom_r, if_neg (dep ⟨hd.1, by omega⟩), jn, if_neg h3, if_neg (by rw [h5]; decide), if_pos h5, runs_eq C, b1_some, hX0 (C.s (by omega)) ⟨(dep1 hd (by omega)).1, by have := (dep1 hd (by omega)).2; omega⟩ (by decide) (by decide) (by decide), bd_some]
    first | (rw [tXc]; rfl) | (rw [tX11, tXc, tXc]; rfl) | rfl
  rw [if_neg h5, if_neg h5]
  by_cases h6 : k = 6
  · have C2 : nX (tX (tX1 s 70) [11]) (m + 1 + 1) := (C.s (by omega)).s (by omega)
    have O2 : OX (tX (tX1 s 70) [11]) a k w g := O.c (EX.s.tr EX.s)
    rw [if_pos h6, if_pos h6, f_X0_holdsFrom, f_X0_holdsFrom_r, if_neg (dep ⟨hd.1, by omega⟩), jn, if_neg h3, if_neg (by rw [h6]; decide), if_neg h5, if_pos h6, runs_eq C, b1_some, hX0 (C.s (by omega)) ⟨(dep1 hd (by omega)).1, by have := (dep1 hd (by omega)).2; omega⟩ (by decide) (by decide) (by decide), bd_some, cX0 C2 (by omega) ⟨(dep1 hd (by omega)).1, by have := (dep1 hd (by omega)).2; omega⟩ O2 (Or.inr (Or.inl rfl)), bd_some]
    first | (rw [tXc]; rfl) | (rw [tX11, tXc, tXc]; rfl) | rfl
  rw [if_neg h6, if_neg h6]
  exact hX0 C ⟨hd.1, by omega⟩ h3 h5 h6
def lT (k : Int32) : List Int32 := if k = 4 ∨ k = 5 then [51, 2] ++ (lC k ++ lH k) else [2] ++ (lC k ++ lH k)
def vT (k w g a x : Int32) : Int32 := if k = 4 ∨ k = 5 then (vC k w g a x + vH k w g a 1) * 3 else vC k w g a x + vH k w g a 1
theorem tXb {n : Nat} {s : SS} {c k w g a x d : Int32} {m : Int} (C : nX s m) (hm : m ≤ 300) (hd : 0 ≤ d.toInt ∧ d.toInt ≤ 13) (hk : 0 ≤ k.toInt ∧ k.toInt ≤ 7) (O : OX s a k w g) (h4 : ¬ c = 4) (h5 : ¬ c = 5) : f_X0_tellsFrom (n + 1) s c a x d = some (vC k w g a x + vH k w g a 1, tX s ([2] ++ (lC k ++ lH k))) := by
  have hl := lC_len k
  have C2 := (C.s (v := 2) (by omega)).l (lC k) (by omega)
  rw [f_X0_tellsFrom, f_X0_tellsFrom_r, if_neg (dep ⟨hd.1, by omega⟩), jn, if_neg h4, if_neg h5, runs_eq C, b1_some, (O _ EX.s).1, b1_some, cX (C.s (by omega)) (by omega) ⟨(dep1 hd (by omega)).1, by have := (dep1 hd (by omega)).2; omega⟩ hk (O.c EX.s), bd_some, (O _ (EX.s.tr (EX.l _))).1, b1_some, hXk C2 (by omega) (dep1 hd (by omega)) hk (O.c (EX.s.tr (EX.l _))), bd_some, tX_app]
  first | (rw [tXc]; rfl) | (rw [tX11, tXc, tXc]; rfl) | rfl
theorem tXk {n : Nat} {s : SS} {k w g a x d : Int32} {m : Int} (C : nX s m) (hm : m ≤ 200) (hd : 0 ≤ d.toInt ∧ d.toInt ≤ 12) (hk : 0 ≤ k.toInt ∧ k.toInt ≤ 7) (O : OX s a k w g) : f_X0_tellsFrom (n + 2) s k a x d = some (vT k w g a x, tX s (lT k)) := by
  have e : (b1 (f_X0_runs s 51) fun s3 => (bd (f_X0_tellsFrom (n + 1) s3 2 a x (d + (1 : Int32))) fun r4 s4 => some ((r4 * (3 : Int32)), s4))) = some ((vC k w g a x + vH k w g a 1) * 3, tX s ([51, 2] ++ (lC k ++ lH k))) := by
    rw [runs_eq C, b1_some, tXb (C.s (by omega)) (by omega) (dep1 hd (by omega)) hk (O.c EX.s) (by decide) (by decide), bd_some]
    first | (rw [tXc]; rfl) | (rw [tX11, tXc, tXc]; rfl) | rfl
  unfold vT lT
  by_cases h : k = 4 ∨ k = 5
  · rw [if_pos h, if_pos h, f_X0_tellsFrom, f_X0_tellsFrom_r, if_neg (dep ⟨hd.1, by omega⟩), jn, e]
    by_cases h4 : k = 4
    · rw [if_pos h4]
    · rw [if_neg h4, if_pos (h.resolve_left h4)]
  · rw [if_neg h, if_neg h]
    exact tXb C (by omega) ⟨hd.1, by omega⟩ hk O (fun z => h (Or.inl z)) (fun z => h (Or.inr z))
/-- the reference -/
theorem pcM {s : SS} {k w g a x : Int32} {m : Int} (C : nM s m) (hm : m ≤ 600) (O : OM s a k w g) : f_X12_plainCarries s a x = some (vB k a x - 1, tM s ([10] ++ lB k)) := by
  unfold f_X12_plainCarries
  rw [ran_eq C, b1_some, bM (C.s (by omega)) (by omega) O.1 (O.2 _ EM.s).1, bd_some]
  first | (rw [tMc]; rfl) | (rw [tM11, tMc, tMc]; rfl) | rfl
theorem cM {s : SS} {k w g a x : Int32} {m : Int} (C : nM s m) (hm : m ≤ 500) (O : OM s a k w g) : f_X12_carries s a x = some (vC k w g a x, tM s (lC k)) := by
  unfold f_X12_carries vC lC
  rw [gd_t O.1, (O.2 _ EM.rf).1, und2, b1_some]
  by_cases h5 : k = 2 ∨ k = 3 ∨ k = 4 ∨ k = 5
  · rw [if_pos h5, if_pos h5, if_pos h5, if_neg (by decide), ran_eq C, b1_some, pcM (C.s (by omega)) (by omega) (O.c EM.s), bd_some, gd_t O.1, (O.2 _ (EM.s.tr (EM.l _))).2.1]
    first | (rw [tMc]; rfl) | (rw [tM11, tMc, tMc]; rfl) | rfl
  rw [if_neg h5, if_neg h5, if_neg h5, if_pos rfl, gd_t O.1]
  by_cases h7 : k = 7
  · rw [if_pos h7, if_pos h7, if_pos h7, ran_eq C, b1_some, pcM (C.s (by omega)) (by omega) (O.c EM.s), bd_some, gd_t O.1, (O.2 _ (EM.s.tr (EM.l _))).2.2]
    first | (rw [tMc]; rfl) | (rw [tM11, tMc, tMc]; rfl) | rfl
  rw [if_neg h7, if_neg h7, if_neg h7, pcM C (by omega) O, bd_some]
theorem phM {s : SS} {a x : Int32} {m : Int} (C : nM s m) : f_X12_plainHolds s a x = some (x ^^^ a, tM s [11]) := by
  unfold f_X12_plainHolds
  rw [ran_eq C, b1_some]
  rfl
theorem hMk {s : SS} {k w g a x : Int32} {m : Int} (C : nM s m) (hm : m ≤ 400) (O : OM s a k w g) : f_X12_holdsBy s a x = some (vH k w g a x, tM s (lH k)) := by
  unfold f_X12_holdsBy vH lH
  rw [gd_t O.1, jn, (O.2 _ EM.rf).1]
  by_cases h3 : k = 3
  · have C2 : nM (tM (tM1 s 40) [11]) (m + 1 + 1) := (C.s (by omega)).s (by omega)
    have O2 : OM (tM (tM1 s 40) [11]) a k w g := O.c (EM.s.tr EM.s)
    rw [if_pos h3, if_pos h3, if_pos h3, ran_eq C, b1_some, phM (C.s (by omega)), bd_some, cM C2 (by omega) O2, bd_some]
    first | (rw [tMc]; rfl) | (rw [tM11, tMc, tMc]; rfl) | rfl
  rw [if_neg h3, if_neg h3, if_neg h3]
  by_cases h5 : k = 5
  · rw [if_neg (by rw [h5]; decide), if_pos h5, if_pos h5, if_pos h5, ran_eq C, b1_some, phM (C.s (by omega)), bd_some]
    first | (rw [tMc]; rfl) | (rw [tM11, tMc, tMc]; rfl) | rfl
  rw [if_neg h5, if_neg h5, if_neg h5]
  by_cases h6 : k = 6
  · have C2 : nM (tM (tM1 s 70) [11]) (m + 1 + 1) := (C.s (by omega)).s (by omega)
    have O2 : OM (tM (tM1 s 70) [11]) a k w g := O.c (EM.s.tr EM.s)
    rw [if_neg (by rw [h6]; decide), if_pos h6, if_pos h6, if_pos h6, ran_eq C, b1_some, phM (C.s (by omega)), bd_some, pcM C2 (by omega) O2, bd_some]
    first | (rw [tMc]; rfl) | (rw [tM11, tMc, tMc]; rfl) | rfl
  rw [if_neg h6, if_neg h6, if_neg h6, phM C, bd_some]
  by_cases h4 : k = 4
  · rw [if_pos h4]
  · rw [if_neg h4]
theorem ptM {s : SS} {k w g a x : Int32} {m : Int} (C : nM s m) (hm : m ≤ 300) (O : OM s a k w g) : f_X12_plainTells s a x = some (vC k w g a x + vH k w g a 1, tM s ([2] ++ (lC k ++ lH k))) := by
  have hl := lC_len k
  have C2 := (C.s (v := 2) (by omega)).l (lC k) (by omega)
  unfold f_X12_plainTells
  rw [ran_eq C, b1_some, cM (C.s (by omega)) (by omega) (O.c EM.s), bd_some, hMk C2 (by omega) (O.c (EM.s.tr (EM.l _))), bd_some, tM_app]
  first | (rw [tMc]; rfl) | (rw [tM11, tMc, tMc]; rfl) | rfl
theorem teM {s : SS} {k w g a x : Int32} {m : Int} (C : nM s m) (hm : m ≤ 200) (O : OM s a k w g) : f_X12_tells s a x = some (vT k w g a x, tM s (lT k)) := by
  unfold f_X12_tells vT lT
  rw [gd_t O.1, (O.2 _ EM.rf).1, und4, b1_some]
  by_cases h : k = 4 ∨ k = 5
  · rw [if_pos h, if_pos h, if_pos h, if_neg (by decide), ran_eq C, b1_some, ptM (C.s (by omega)) (by omega) (O.c EM.s), bd_some]
    first | (rw [tMc]; rfl) | (rw [tM11, tMc, tMc]; rfl) | rfl
  · rw [if_neg h, if_neg h, if_neg h, if_pos rfl, ptM C (by omega) O, bd_some]
def lA (k b : Int32) : List Int32 := if b = 0 then lB k else if b = 1 then lC k else if b = 2 then lH k else if b = 3 then lT k else []
def vA (k w g a b x : Int32) : Int32 := if b = 0 then vB k a x else if b = 1 then vC k w g a x else if b = 2 then vH k w g a x else if b = 3 then vT k w g a x else 0
theorem actX {s : SS} {k w g a b x : Int32} (hk : 0 ≤ k.toInt ∧ k.toInt ≤ 7) (O : OX (pS s 15 11 0) a k w g) : f_X11_act s a b x = some (vA k w g a b x, tX (pS s 15 11 0) (lA k b)) := by
  have C : nX (pS s 15 11 0) 0 := by
    unfold nX
    rw [zS_pS, if_pos ⟨rfl, rfl⟩]
    decide
  have d0 : 0 ≤ (0 : Int32).toInt ∧ (0 : Int32).toInt ≤ 0 := ⟨by decide, by decide⟩
  unfold f_X11_act f_X0_acted vA lA
  rw [st, (O _ EX.rf).1, b1_some, if_neg (by rw [jlt, jl0]; omega)]
  by_cases h0 : b = 0
  · rw [if_pos h0, if_pos h0, if_pos h0, bX C (by omega) ⟨d0.1, by omega⟩, bd_some, bd_some]
  rw [if_neg h0, if_neg h0, if_neg h0]
  by_cases h1 : b = 1
  · rw [if_pos h1, if_pos h1, if_pos h1, cX C (by omega) ⟨d0.1, by omega⟩ hk O, bd_some, bd_some]
  rw [if_neg h1, if_neg h1, if_neg h1]
  by_cases h2 : b = 2
  · rw [if_pos h2, if_pos h2, if_pos h2, hXk C (by omega) ⟨d0.1, by omega⟩ hk O, bd_some, bd_some]
  rw [if_neg h2, if_neg h2, if_neg h2]
  by_cases h3 : b = 3
  · rw [if_pos h3, if_pos h3, if_pos h3, tXk C (by omega) ⟨d0.1, by omega⟩ hk O, bd_some, bd_some]
  rw [if_neg h3, if_neg h3, if_neg h3, bd_some]
  first | (rw [tMc]; rfl) | (rw [tM11, tMc, tMc]; rfl) | rfl
theorem j3_ : (3 : Int32).toInt = 3 := rfl
theorem actM {s : SS} {k w g a b x : Int32} (hb : f_X12_isBody (pS s 59 87 0) a = some 1) (O : OM (pS s 59 87 0) a k w g) : f_X12_act s a b x = some (vA k w g a b x, tM (pS s 59 87 0) (lA k b)) := by
  have C : nM (pS s 59 87 0) 0 := by
    unfold nM
    rw [zS_pS, if_pos ⟨rfl, rfl⟩]
    decide
  unfold f_X12_act vA lA
  rw [st, hb, b1_some, if_neg (by decide)]
  by_cases h0 : b = 0
  · rw [in_t (by rw [h0]; decide), b1_some, if_neg (by decide), if_pos h0, if_pos h0, if_pos h0, bM C (by omega) O.1 (O.2 _ EM.rf).1, bd_some]
  by_cases h1 : b = 1
  · rw [in_t (by rw [h1]; decide), b1_some, if_neg (by decide), if_neg h0, if_neg h0, if_neg h0, if_pos h1, if_pos h1, if_pos h1, cM C (by omega) O, bd_some]
  by_cases h2 : b = 2
  · rw [in_t (by rw [h2]; decide), b1_some, if_neg (by decide), if_neg h0, if_neg h0, if_neg h0, if_neg h1, if_neg h1, if_neg h1, if_pos h2, if_pos h2, if_pos h2, hMk C (by omega) O, bd_some]
  by_cases h3 : b = 3
  · rw [in_t (by rw [h3]; decide), b1_some, if_neg (by decide), if_neg h0, if_neg h0, if_neg h0, if_neg h1, if_neg h1, if_neg h1, if_neg h2, if_neg h2, if_neg h2, if_pos h3, if_pos h3, teM C (by omega) O, bd_some]
  rw [in_f (fun z => by
    rw [jl0, j3_] at z
    have h : b.toInt = 0 ∨ b.toInt = 1 ∨ b.toInt = 2 ∨ b.toInt = 3 := by omega
    rcases h with h | h | h | h
    · exact h0 (Int32.toInt_inj.1 h)
    · exact h1 (Int32.toInt_inj.1 h)
    · exact h2 (Int32.toInt_inj.1 h)
    · exact h3 (Int32.toInt_inj.1 h)), b1_some, if_pos rfl, if_neg h0, if_neg h0, if_neg h1, if_neg h1, if_neg h2, if_neg h2, if_neg h3, if_neg h3]
  first | (rw [tMc]; rfl) | (rw [tM11, tMc, tMc]; rfl) | rfl
/-! ACT, TRACE: the step -/
theorem Iv.tx {s : SS} {v : Int32} (I : Iv s) : Iv (tX1 s v) := by
  rw [show tX1 s v = pS (if zS s 15 11 < 24 then pI s 18 (zS s 15 11).toInt.toNat v else s) 15 11 (zS s 15 11 + 1) from rfl]
  by_cases z : zS s 15 11 < 24
  · rw [if_pos z]
    exact (I.wI (q := 18) (by decide) trivial).wF (q := 15) (k := 11) (by decide) (by decide) trivial
  · rw [if_neg z]
    exact I.wF (q := 15) (k := 11) (by decide) (by decide) trivial
theorem Iv.tm {s : SS} {v : Int32} (I : Iv s) : Iv (tM1 s v) := by
  rw [show tM1 s v = pS (if zS s 59 87 < 24 then pI s 119 (zS s 59 87).toInt.toNat v else s) 59 87 (zS s 59 87 + 1) from rfl]
  by_cases z : zS s 59 87 < 24
  · rw [if_pos z]
    exact (I.wI (q := 119) (by decide) trivial).wF (q := 59) (k := 87) (by decide) (by decide) trivial
  · rw [if_neg z]
    exact I.wF (q := 59) (k := 87) (by decide) (by decide) trivial
theorem IvX (l : List Int32) : ∀ {s : SS}, Iv s → Iv (tX s l) := by
  induction l with
  | nil => exact fun I => I
  | cons v l ih => exact fun I => ih I.tx
theorem IvM (l : List Int32) : ∀ {s : SS}, Iv s → Iv (tM s l) := by
  induction l with
  | nil => exact fun I => I
  | cons v l ih => exact fun I => ih I.tm
theorem OX_of {s : SS} {a : Int32} (I : Iv s) (h : 0 ≤ a.toInt ∧ a.toInt < (zS s 15 3).toInt) : ∃ w g, OX s a (zI s 16 a.toInt.toNat) w g := by
  have hf : 0 ≤ (zS s 15 3).toInt ∧ (zS s 15 3).toInt ≤ 120 := I.f (q := 15) (k := 3) rfl
  have gb : inB a 120 := ⟨by omega, by omega⟩
  have kd : ∀ r, EX s r → f_X0_kindOf r a = some (zI s 16 a.toInt.toNat) := by
    intro r E
    unfold f_X0_kindOf
    rw [if_neg (by rw [jlt, jl0]; omega), if_pos (by rw [E.1 15 3 (by omega), jlt]; omega), gd_t gb, E.2.1 16 _ (by omega)]
  refine ⟨(match zR s 17 a.toInt.toNat with | none => 0 | some p => zS s p 1), if zI s 16 a.toInt.toNat = 7 then zI s 7 a.toInt.toNat else 0, fun r E => ⟨kd r E, ?_, ?_⟩⟩
  · have ez : zR r 17 a.toInt.toNat = zR s 17 a.toInt.toNat := by
      show r.2.2.2.1 17 _ = s.2.2.2.1 17 _
      rw [E.2.2]
    unfold f_X0_widthOf f_X0_holeOf
    rw [if_neg (by rw [jlt, jl0]; omega), if_pos (by rw [E.1 15 3 (by omega), jlt]; omega), gd_t gb, ez]
    cases zR s 17 a.toInt.toNat with
    | none => rfl
    | some p =>
      show some (zS r p 1) = some (zS s p 1)
      rw [E.1 p 1 (by omega)]
  · unfold f_X0_strengthOf
    rw [kd r E, b1_some]
    by_cases z : zI s 16 a.toInt.toNat = 7
    · rw [if_pos z, if_pos z, gd_t gb, E.2.1 7 _ (by omega)]
    · rw [if_neg z, if_neg z]
theorem OM_of {s : SS} {a : Int32} (gb : inB a 120) : OM s a (zI s 62 a.toInt.toNat) (zI s 64 a.toInt.toNat) (zI s 74 a.toInt.toNat) := ⟨gb, fun r E => ⟨E.2.1 62 _ (by omega), E.2.1 64 _ (by omega), E.2.1 74 _ (by omega)⟩⟩
theorem EX.frA {s r : SS} (E : EX s r) : FrA s r := ⟨fun q k h => E.1 q k (fun z => by rw [z.1, z.2] at h; cases h), fun q i h => E.2.1 q i (fun z => by rw [z] at h; cases h), fun q i _ => by show r.2.2.1 q i = s.2.2.1 q i; rw [E.2.2]⟩
theorem EM.frA {s r : SS} (E : EM s r) : FrA s r := ⟨fun q k h => E.1 q k (fun z => by rw [z.1, z.2] at h; cases h), fun q i h => E.2.1 q i (fun z => by rw [z] at h; cases h), fun q i _ => by show r.2.2.1 q i = s.2.2.1 q i; rw [E.2.2]⟩
/-- class's trace from s to r, reference's from r to u: the relations stand again where the traces are alike -/
theorem GI.trace {s r u : SS} (G : GI s) (E : EX s r) (M : EM r u) (I : Iv u) (T : TR r u) : GI u := by
  obtain ⟨⟨t1, t2, t3, t4, t6⟩, t5, -, ⟨a1, a2, a3⟩, a4⟩ := G.2
  refine ⟨G.1.go (E.frA.tr M.frA) (fun i => ?_) I, ⟨?_, ?_, fun i => ?_, fun i => ?_, ?_⟩, fun c y h1 h2 h3 => ?_, ⟨?_, fun i => ?_⟩, ⟨?_, ?_, fun i hi => ?_⟩, ?_⟩
  · show u.2.2.2.1 17 i = s.2.2.2.1 17 i
    rw [M.2.2, E.2.2]
  · rw [M.1 0 14 (by omega), E.1 0 14 (by omega), M.1 59 1 (by omega), E.1 59 1 (by omega)]; exact t1
  · rw [M.1 1 4 (by omega), E.1 1 4 (by omega), M.1 59 56 (by omega), E.1 59 56 (by omega)]; exact t2
  · rw [M.2.1 4 i (by omega), E.2.1 4 i (by omega), M.2.1 97 i (by omega), E.2.1 97 i (by omega)]; exact t3 i
  · rw [M.2.1 5 i (by omega), E.2.1 5 i (by omega), M.2.1 98 i (by omega), E.2.1 98 i (by omega)]; exact t4 i
  · rw [M.1 0 14 (by omega), E.1 0 14 (by omega)]; exact t6
  · rw [M.2.1 2 _ (by omega), E.2.1 2 _ (by omega), M.2.1 60 _ (by omega), E.2.1 60 _ (by omega), M.2.1 3 _ (by omega), E.2.1 3 _ (by omega), M.2.1 61 _ (by omega), E.2.1 61 _ (by omega)]; exact t5 c y h1 h2 h3
  · rw [M.1 15 11 (by omega)]; exact T.1
  · rw [M.2.1 18 i (by omega)]; exact T.2 i
  · rw [M.1 24 1 (by omega), E.1 24 1 (by omega), M.1 59 37 (by omega), E.1 59 37 (by omega)]; exact a1
  · unfold xn; rw [M.1 24 1 (by omega), E.1 24 1 (by omega)]; exact a2
  · rw [M.2.1 25 i (by omega), E.2.1 25 i (by omega), M.2.1 86 i (by omega), E.2.1 86 i (by omega)]; exact a3 i hi
  · rw [M.1 0 8 (by omega), E.1 0 8 (by omega), M.1 59 38 (by omega), E.1 59 38 (by omega)]; exact a4
theorem E0X {s : SS} : EX s (pS s 15 11 0) := ⟨fun q k h => by rw [zS_pS, if_neg h], fun _ _ _ => rfl, rfl⟩
theorem E0M {s : SS} : EM s (pS s 59 87 0) := ⟨fun q k h => by rw [zS_pS, if_neg h], fun _ _ _ => rfl, rfl⟩
theorem st_act {s : SS} (G : GI s) (a0 : Int32) (a1 : Int32) (a2 : Int32) : ∃ (rx : Int32) (s1 : SS) (rm : Int32) (s2 : SS), f_X11_act s a0 a1 a2 = some (rx, s1) ∧ f_X12_act s1 a0 a1 a2 = some (rm, s2) ∧ GI s2 ∧ True := by
  have e := G.1.2.1.2.2.1
  have k7 := G.1.2.2.1.2.1
  have hf : 0 ≤ (zS s 15 3).toInt ∧ (zS s 15 3).toInt ≤ 120 := G.1.1.f (q := 15) (k := 3) rfl
  have IX : Iv (pS s 15 11 0) := G.1.1.wF (q := 15) (k := 11) (by decide) (by decide) trivial
  by_cases c : 0 ≤ a0.toInt ∧ a0.toInt < (zS s 15 3).toInt
  · have gb : inB a0 120 := ⟨by omega, by omega⟩
    obtain ⟨w, g, O⟩ := OX_of (s := pS s 15 11 0) (a := a0) IX (by rw [E0X.1 15 3 (by omega)]; exact c)
    rw [E0X.2.1 16 _ (by omega)] at O
    have hk : 0 ≤ (zI s 16 a0.toInt.toNat).toInt ∧ (zI s 16 a0.toInt.toNat).toInt ≤ 7 := G.1.1.a (q := 16) rfl
    obtain ⟨l, el⟩ : ∃ l, l = lA (zI s 16 a0.toInt.toNat) a1 := ⟨_, rfl⟩
    have EX1 : EX s (tX (pS s 15 11 0) l) := E0X.tr (EX.l l)
    have I1 : Iv (tX (pS s 15 11 0) l) := IvX l IX
    have I2 : Iv (pS (tX (pS s 15 11 0) l) 59 87 0) := I1.wF (q := 59) (k := 87) (by decide) (by decide) trivial
    have O2 := OM_of (s := pS (tX (pS s 15 11 0) l) 59 87 0) gb
    rw [E0M.2.1 62 _ (by omega), EX1.2.1 62 _ (by omega), ← k7] at O2
    have hb : f_X12_isBody (pS (tX (pS s 15 11 0) l) 59 87 0) a0 = some 1 := body_t I2 (by rw [E0M.1 59 4 (by omega), EX1.1 59 4 (by omega), ← e]; exact c)
    refine ⟨_, tX (pS s 15 11 0) l, _, tM (pS (tX (pS s 15 11 0) l) 59 87 0) l, by rw [el]; exact actX hk O, by rw [actM hb O2, el], G.trace EX1 (E0M.tr (EM.l l)) (IvM l I2) (TR.l l ⟨?_, fun i => ?_⟩), trivial⟩
    · rw [zS_pS, if_pos ⟨rfl, rfl⟩, zS_pS, if_pos ⟨rfl, rfl⟩]
    · show zI s 18 i = zI (tX (pS s 15 11 0) l) 119 i
      rw [EX1.2.1 119 i (by omega)]
      exact G.2.2.2.1.2 i
  · have I2 : Iv (pS (pS s 15 11 0) 59 87 0) := IX.wF (q := 59) (k := 87) (by decide) (by decide) trivial
    refine ⟨0, pS s 15 11 0, 0, pS (pS s 15 11 0) 59 87 0, ?_, ?_, G.trace E0X E0M I2 ⟨?_, fun i => G.2.2.2.1.2 i⟩, trivial⟩
    · unfold f_X11_act f_X0_acted
      rw [st, kind_f (by rw [E0X.1 15 3 (by omega)]; exact c), b1_some, if_pos (by decide), bd_some]
    · unfold f_X12_act
      rw [st, body_f I2 (by rw [E0M.1 59 4 (by omega), E0X.1 59 4 (by omega), ← e]; exact c), b1_some, if_pos rfl]
    · rw [zS_pS, if_pos ⟨rfl, rfl⟩, zS_pS, if_pos ⟨rfl, rfl⟩]
theorem st_trace {s : SS} (G : GI s) (a0 : Int32) : ∃ (rx : Int32) (s1 : SS) (rm : Int32) (s2 : SS), f_X11_trace s a0 = some rx ∧ f_X12_trace s a0 = some rm ∧ GI s ∧ rx = rm := by
  obtain ⟨t1, t2⟩ := G.2.2.2.1
  by_cases c : 0 ≤ a0.toInt ∧ a0.toInt < (zS s 59 87).toInt ∧ a0.toInt < 24
  · refine ⟨zI s 18 a0.toInt.toNat, s, zI s 119 a0.toInt.toNat, s, ?_, ?_, G, t2 _⟩
    · unfold f_X11_trace
      rw [if_neg (by rw [jlt, jl0]; omega), if_pos (by rw [jlt, t1]; omega), if_pos (by rw [jlt, j24]; omega), gd_t ⟨by omega, by omega⟩]
    · unfold f_X12_trace
      rw [if_neg (by rw [jlt, jl0]; omega), if_pos (by rw [jlt]; omega), if_pos (by rw [jlt, j24]; omega), gd_t ⟨by omega, by omega⟩]
  · have hx : ∀ (n x : Int32), ¬ (0 ≤ a0.toInt ∧ a0.toInt < n.toInt ∧ a0.toInt < 24) → (if a0 < (0 : Int32) then some (-1) else (if a0 < n then (if a0 < (24 : Int32) then (gd (inB a0 24) (some x)) else some (-1)) else some (-1))) = some (-1 : Int32) := by
      intro n x h
      by_cases h0 : a0 < 0
      · rw [if_pos h0]
      rw [if_neg h0]
      by_cases h1 : a0 < n
      · rw [if_pos h1, if_neg (by rw [jlt, j24]; rw [jlt, jl0] at h0; rw [jlt] at h1; omega)]
      · rw [if_neg h1]
    refine ⟨-1, s, -1, s, ?_, ?_, G, rfl⟩
    · unfold f_X11_trace
      exact hx _ _ (by rw [t1]; exact c)
    · unfold f_X12_trace
      exact hx _ _ c
/-! LOG: how many came -/
def LV (i y n L v : Int) : Prop := 0 ≤ v ∧ v ≤ n ∧ (v = 0 ∨ (0 ≤ i ∧ i + v ≤ L ∧ y + v ≤ 61)) ∧ (v = n ∨ 60 < y + v ∨ ¬ (0 ≤ i + v ∧ i + v < L))
theorem LV.u {i y n L v w : Int} (h1 : LV i y n L v) (h2 : LV i y n L w) : v = w := by
  unfold LV at *
  omega
theorem i32_ge {a b : Int32} (h0 : 0 ≤ b.toInt) (h1 : b.toInt ≤ 60) (h : 2147483648 ≤ a.toInt + b.toInt) : (a + b).toInt < 0 := by
  have ha := jlo a
  rw [Int32.toInt_add, Int.bmod_def]
  omega
theorem fS_V {i k : Nat} (hi : i < 6) (hk : k < 4) : fS (47 + 2 * i) k = true := by
  have h : i = 0 ∨ i = 1 ∨ i = 2 ∨ i = 3 ∨ i = 4 ∨ i = 5 := by omega
  have h' : k = 0 ∨ k = 1 ∨ k = 2 ∨ k = 3 := by omega
  rcases h with rfl | rfl | rfl | rfl | rfl | rfl <;> rcases h' with rfl | rfl | rfl | rfl <;> rfl
def LX (s : SS) (i : Nat) : Int := if zS s (47 + 2 * i) 0 = 0 then 0 else (zS s (47 + 2 * i) 3).toInt
def LM (s : SS) (i : Nat) : Int := if zI s 120 i = -1 then 0 else (zI s 121 i).toInt
theorem lgX {b0 : SS} {p0 i : Nat} {y2 y3 y4 : Int32} (hi : i < 6) (o : okH b0 p0) (h3 : 1 ≤ y3.toInt ∧ y3.toInt ≤ 60) (h4 : 1 ≤ y4.toInt ∧ y4.toInt ≤ 60) (hd : zS b0 (47 + 2 * i) 0 = 0 ∨ zS b0 (47 + 2 * i) 0 = 2) : ∀ (n : Nat) (s : SS) (x : Int32), Lk b0 s → 0 ≤ x.toInt → x.toInt ≤ y4.toInt → (x.toInt = 0 ∨ (0 ≤ y2.toInt ∧ y2.toInt + x.toInt ≤ LX b0 i ∧ y3.toInt + x.toInt ≤ 61)) → y4.toInt - x.toInt < n → ∃ v r, f_X3_logged_L6 (fun (s17 : SS) (x17_5 : Int32) (x17_7 : Int32) => (b1 (f_X3_lostFrom s17 p0 x17_7) fun s18 => some (x17_5, s18))) p0 (47 + 2 * i) y2 y3 y4 n s x x = some (v, r) ∧ Lk b0 r ∧ LV y2.toInt y3.toInt y4.toInt (LX b0 i) v.toInt
  | 0, s, x, _, _, _, _, h => by omega
  | n + 1, s, x, K, hx0, hx1, hp, hn => by
    have e0 : zS s (47 + 2 * i) 0 = zS b0 (47 + 2 * i) 0 := K.2.2.1 _ _ (fS_V hi (by omega))
    have e3 : zS s (47 + 2 * i) 3 = zS b0 (47 + 2 * i) 3 := K.2.2.1 _ _ (fS_V hi (by omega))
    have b3 : 0 ≤ (zS b0 (47 + 2 * i) 3).toInt ∧ (zS b0 (47 + 2 * i) 3).toInt ≤ 60 := by
      rw [← e3]
      exact K.1.1.v3 ⟨by omega, by omega, by omega⟩
    have j60 : (60 : Int32).toInt = 60 := rfl
    rw [f_X3_logged_L6, f_X3_logged_L6_b]
    by_cases hl : x < y4
    · have hl' := hl
      rw [jlt] at hl'
      have a3 : (y3 + x).toInt = y3.toInt + x.toInt := i32_add (by omega) (by omega)
      have n1 : (x + 1).toInt = x.toInt + 1 := by rw [i32_add (by rw [jl1]; omega) (by rw [jl1]; omega), jl1]
      rw [if_pos hl]
      by_cases hy : (60 : Int32) < y3 + x
      · rw [if_pos hy]
        rw [jlt, j60, a3] at hy
        refine ⟨x, s, rfl, K, hx0, hx1, ?_, Or.inr (Or.inl hy)⟩
        omega
      rw [if_neg hy, vl]
      rw [jlt, j60, a3] at hy
      have hout : ∀ r4 : Int32, ¬ r4 = 0 → f_X8_refusal s (47 + 2 * i) (y2 + x) = some r4 → ¬ (0 ≤ y2.toInt + x.toInt ∧ y2.toInt + x.toInt < LX b0 i) → ∃ v r, (b1 (f_X8_refusal s (47 + 2 * i) (y2 + x)) fun r4 => (if r4 = (0 : Int32) then (vl ((y2 + x)) fun v6 => (gd (inB v6 60) (wl ((zJ s (47 + 2 * i + 1) (v6.toInt.toNat))) fun v8 => (jn (fun (t10_0 : Int32) => (gd (inB (y3 + x) 61) (st (pI s (p0 + 3) ((y3 + x).toInt.toNat) t10_0) fun s12 => (vl (x + 1) fun v13 => (vl (x + 1) fun v14 => (f_X3_logged_L6 (fun (s17 : SS) (x17_5 : Int32) (x17_7 : Int32) => (b1 (f_X3_lostFrom s17 p0 x17_7) fun s18 => some (x17_5, s18))) p0 (47 + 2 * i) y2 y3 y4 n s12 v13 v14)))))) fun k10 => (if (lg_cmp v8 9223372036854775807) = (0 : Int32) then (b1 (f_X3_logAhead s p0 (y3 + x)) fun r16 => (k10 r16)) else (k10 v8.toInt32)))))) else (b1 (f_X3_lostFrom s p0 (y3 + x)) fun s18 => some (x, s18)))) = some (v, r) ∧ Lk b0 r ∧ LV y2.toInt y3.toInt y4.toInt (LX b0 i) v.toInt := by
        intro r4 h4 er hr
        rw [er, b1_some, if_neg h4]
        obtain ⟨s18, e18, K18⟩ := w_X3_lostFrom (b0 := b0) (pt := p0) (a0 := y3 + x) K o (by rw [a3]; omega)
        rw [e18, b1_some]
        refine ⟨x, s18, rfl, K18, hx0, hx1, ?_, Or.inr (Or.inr hr)⟩
        omega
      rcases hd with hd | hd
      · have el : LX b0 i = 0 := if_pos hd
        refine hout (-11) (by decide) ?_ (by rw [el]; omega)
        unfold f_X8_refusal
        rw [if_pos (by rw [e0]; exact hd)]
      · have el : LX b0 i = (zS b0 (47 + 2 * i) 3).toInt := if_neg (by rw [hd]; decide)
        by_cases hr : 0 ≤ y2.toInt + x.toInt ∧ y2.toInt + x.toInt < LX b0 i
        · have a2 : (y2 + x).toInt = y2.toInt + x.toInt := i32_add (by omega) (by omega)
          rw [el] at hr
          have er : f_X8_refusal s (47 + 2 * i) (y2 + x) = some 0 := by
            unfold f_X8_refusal
            rw [if_neg (by rw [e0, hd]; decide), if_pos (by rw [e0]; exact hd), if_neg (by rw [jlt, jl0]; omega), if_pos (by rw [jlt, e3]; omega)]
          have hp' : (x + 1).toInt = 0 ∨ (0 ≤ y2.toInt ∧ y2.toInt + (x + 1).toInt ≤ LX b0 i ∧ y3.toInt + (x + 1).toInt ≤ 61) := by
            rw [n1, el]
            rw [el] at hp
            omega
          have kk : ∀ t10 : Int32, ∃ v r, (gd (inB (y3 + x) 61) (st (pI s (p0 + 3) ((y3 + x).toInt.toNat) t10) fun s12 => (vl (x + 1) fun v13 => (vl (x + 1) fun v14 => (f_X3_logged_L6 (fun (s17 : SS) (x17_5 : Int32) (x17_7 : Int32) => (b1 (f_X3_lostFrom s17 p0 x17_7) fun s18 => some (x17_5, s18))) p0 (47 + 2 * i) y2 y3 y4 n s12 v13 v14))))) = some (v, r) ∧ Lk b0 r ∧ LV y2.toInt y3.toInt y4.toInt (LX b0 i) v.toInt := by
            intro t10
            rw [gd_t ⟨by rw [a3]; omega, by rw [a3]; omega⟩, st, vl, vl]
            exact lgX hi o h3 h4 (Or.inr hd) n _ (x + 1) (Lk.w3 K o) (by omega) (by omega) hp' (by omega)
          rw [er, b1_some, if_pos rfl, vl, gd_t ⟨by rw [a2]; omega, by rw [a2]; omega⟩, wl, jn]
          by_cases z : lg_cmp (zJ s (47 + 2 * i + 1) (y2 + x).toInt.toNat) 9223372036854775807 = 0
          · rw [if_pos z]
            obtain ⟨r16, e16, -⟩ := w_X3_logAhead (b0 := b0) (pt := p0) (a0 := y3 + x) K o
            rw [e16, b1_some]
            exact kk r16
          · rw [if_neg z]
            exact kk _
        · refine hout (-13) (by decide) ?_ hr
          rw [el] at hr
          unfold f_X8_refusal
          rw [if_neg (by rw [e0, hd]; decide), if_pos (by rw [e0]; exact hd)]
          by_cases ng : y2 + x < 0
          · rw [if_pos ng]
          rw [if_neg ng]
          rw [jlt, jl0] at ng
          by_cases ov : y2.toInt + x.toInt < 2147483648
          · have l2 := jlo y2
            have a2 : (y2 + x).toInt = y2.toInt + x.toInt := i32_add (by omega) ov
            rw [if_neg (by rw [jlt, e3]; omega)]
          · have := i32_ge (a := y2) hx0 (by omega) (Int.not_lt.mp ov)
            omega
    · rw [if_neg hl]
      rw [jlt] at hl
      refine ⟨x, s, rfl, K, hx0, hx1, ?_, Or.inl (by omega)⟩
      omega
theorem lg129 {b0 : SS} {y1 y6 : Int32} (h1 : 0 ≤ y1.toInt ∧ y1.toInt ≤ 119) : ∀ (n : Nat) (s : SS) (x : Int32), Lk b0 s → 1 ≤ x.toInt → x.toInt ≤ 61 → 61 - x.toInt < n → ∃ r, f_X12_log_L129 y1 y6 n s x = some (y6, r) ∧ Lk b0 r
  | 0, s, x, _, _, _, h => by omega
  | n + 1, s, x, K, hx0, hx1, hn => by
    have j60 : (60 : Int32).toInt = 60 := rfl
    have j61 : (61 : Int32).toInt = 61 := rfl
    rw [f_X12_log_L129, f_X12_log_L129_b]
    by_cases hl : (60 : Int32) < x
    · rw [if_pos hl]
      exact ⟨s, rfl, K⟩
    · rw [if_neg hl]
      rw [jlt, j60] at hl
      have m1 : (61 * y1).toInt = 61 * y1.toInt := by rw [i32_mul (by rw [j61]; omega) (by rw [j61]; omega), j61]
      have m2 : (61 * y1 + x).toInt = 61 * y1.toInt + x.toInt := by rw [i32_add (by omega) (by omega), m1]
      have n1 : (x + 1).toInt = x.toInt + 1 := by rw [i32_add (by rw [jl1]; omega) (by rw [jl1]; omega), jl1]
      rw [vl, gd_t ⟨by omega, by omega⟩, st, vl]
      exact lg129 h1 n _ (x + 1) (Lk.wI K (q := 72) (by decide) (by decide) trivial) (by omega) (by omega) (by omega)
theorem lgM {b0 : SS} {y1 y2 y3 y4 y5 : Int32} (h1 : 0 ≤ y1.toInt ∧ y1.toInt ≤ 119) (h2 : 0 ≤ y2.toInt ∧ y2.toInt ≤ 5) (h4 : 1 ≤ y4.toInt ∧ y4.toInt ≤ 60) (h5 : 1 ≤ y5.toInt ∧ y5.toInt ≤ 60) : ∀ (n : Nat) (s : SS) (x : Int32), Lk b0 s → 0 ≤ x.toInt → x.toInt ≤ y5.toInt → (x.toInt = 0 ∨ (0 ≤ y3.toInt ∧ y3.toInt + x.toInt ≤ LM b0 y2.toInt.toNat ∧ y4.toInt + x.toInt ≤ 61)) → y5.toInt - x.toInt < n → ∃ v r, f_X12_log_L63 (fun (s41 : SS) (x41_6 : Int32) (x41_7 : Int32) => (f_X12_log_L129 y1 x41_6 4000 s41 x41_7)) y1 y2 y3 y4 y5 n s x = some (v, r) ∧ Lk b0 r ∧ LV y3.toInt y4.toInt y5.toInt (LM b0 y2.toInt.toNat) v.toInt
  | 0, s, x, _, _, _, _, h => by omega
  | n + 1, s, x, K, hx0, hx1, hp, hn => by
    have e0 : zI s 120 y2.toInt.toNat = zI b0 120 y2.toInt.toNat := K.2.2.2.1 120 _ rfl
    have e3 : zI s 121 y2.toInt.toNat = zI b0 121 y2.toInt.toNat := K.2.2.2.1 121 _ rfl
    have b3 : 0 ≤ (zI b0 121 y2.toInt.toNat).toInt ∧ (zI b0 121 y2.toInt.toNat).toInt ≤ 60 := by
      rw [← e3]
      exact K.1.a (q := 121) rfl
    have j60 : (60 : Int32).toInt = 60 := rfl
    have j61 : (61 : Int32).toInt = 61 := rfl
    have g2 : inB y2 6 := ⟨by omega, by omega⟩
    rw [f_X12_log_L63, f_X12_log_L63_b]
    by_cases hl : x < y5
    · have hl' := hl
      rw [jlt] at hl'
      have a3 : (y4 + x).toInt = y4.toInt + x.toInt := i32_add (by omega) (by omega)
      have n1 : (x + 1).toInt = x.toInt + 1 := by rw [i32_add (by rw [jl1]; omega) (by rw [jl1]; omega), jl1]
      rw [if_pos hl, vl]
      by_cases hy : (60 : Int32) < y4 + x
      · rw [if_pos hy]
        rw [jlt, j60, a3] at hy
        refine ⟨x, s, rfl, K, hx0, hx1, ?_, Or.inr (Or.inl hy)⟩
        omega
      rw [if_neg hy, wl, gd_t g2]
      rw [jlt, j60, a3] at hy
      have hout : ¬ (0 ≤ y3.toInt + x.toInt ∧ y3.toInt + x.toInt < LM b0 y2.toInt.toNat) → ∃ v r, f_X12_log_L129 y1 x 4000 s (y4 + x) = some (v, r) ∧ Lk b0 r ∧ LV y3.toInt y4.toInt y5.toInt (LM b0 y2.toInt.toNat) v.toInt := by
        intro hr
        obtain ⟨r, er, Kr⟩ := lg129 (b0 := b0) (y6 := x) h1 4000 s (y4 + x) K (by omega) (by omega) (by omega)
        refine ⟨x, r, er, Kr, hx0, hx1, ?_, Or.inr (Or.inr hr)⟩
        omega
      by_cases hz : zI s 120 y2.toInt.toNat = -1
      · rw [if_pos hz]
        exact hout (by rw [LM, if_pos (by rw [← e0]; exact hz)]; omega)
      rw [if_neg hz]
      have el : LM b0 y2.toInt.toNat = (zI b0 121 y2.toInt.toNat).toInt := if_neg (by rw [← e0]; exact hz)
      have ls := lgsum y3 x
      by_cases c0 : lg_cmp (y3.toInt64 + x.toInt64) 0 < 0
      · rw [if_pos c0]
        have := lgc_lt c0
        rw [ls, show (0 : Int64).toInt = 0 from rfl] at this
        exact hout (by omega)
      rw [if_neg c0, gd_t g2]
      by_cases c1 : lg_cmp (y3.toInt64 + x.toInt64) (zI s 121 y2.toInt.toNat).toInt64 < 0
      · rw [if_pos c1, vl]
        have g0 := lgc_ge c0
        have g1 := lgc_lt c1
        rw [ls, show (0 : Int64).toInt = 0 from rfl] at g0
        rw [ls, Int32.toInt_toInt64, e3] at g1
        have gi : inB (60 * y2 + (y3.toInt64 + x.toInt64).toInt32) 360 := lgix h2 c0 c1 (K.1.a (q := 121) rfl)
        have m1 : (61 * y1).toInt = 61 * y1.toInt := by rw [i32_mul (by rw [j61]; omega) (by rw [j61]; omega), j61]
        have m2 : (61 * y1 + (y4 + x)).toInt = 61 * y1.toInt + (y4.toInt + x.toInt) := by rw [i32_add (by omega) (by omega), m1, a3]
        have m3 : (61 * y1 + (y4 + x) - 1).toInt = 61 * y1.toInt + (y4.toInt + x.toInt) - 1 := by rw [i32_sub (by rw [m2, jl1]; omega) (by rw [m2, jl1]; omega), m2, jl1]
        have g25 : inB (61 * y1 + (y4 + x)) 7320 := ⟨by omega, by omega⟩
        have kk : ∀ t24 : Int32, ∃ v r, (vl ((((61 : Int32) * y1) + (y4 + x))) fun v25 => (gd (inB v25 7320) (st (pI s 73 (v25.toInt.toNat) t24) fun s27 => (vl ((((61 : Int32) * y1) + (y4 + x))) fun v28 => (gd (inB v28 7320) (st (pI s27 72 (v28.toInt.toNat) ((1 : Int32) &&& 1)) fun s30 => (vl (x + 1) fun v31 => (f_X12_log_L63 (fun (s41 : SS) (x41_6 : Int32) (x41_7 : Int32) => (f_X12_log_L129 y1 x41_6 4000 s41 x41_7)) y1 y2 y3 y4 y5 n s30 v31)))))))) = some (v, r) ∧ Lk b0 r ∧ LV y3.toInt y4.toInt y5.toInt (LM b0 y2.toInt.toNat) v.toInt := by
          intro t24
          rw [vl, gd_t g25, st, vl, gd_t g25, st, vl]
          refine lgM h1 h2 h4 h5 n _ (x + 1) (Lk.wI (Lk.wI K (q := 73) (by decide) (by decide) trivial) (q := 72) (by decide) (by decide) trivial) (by omega) (by omega) ?_ (by omega)
          rw [n1, el]
          rw [el] at hp
          omega
        have k22 : ∀ t22 : Int32, ∃ v r, (gd (inB (60 * y2 + (y3.toInt64 + x.toInt64).toInt32) 360) (jn (fun (t24_0 : Int32) => (vl ((((61 : Int32) * y1) + (y4 + x))) fun v25 => (gd (inB v25 7320) (st (pI s 73 (v25.toInt.toNat) t24_0) fun s27 => (vl ((((61 : Int32) * y1) + (y4 + x))) fun v28 => (gd (inB v28 7320) (st (pI s27 72 (v28.toInt.toNat) ((1 : Int32) &&& 1)) fun s30 => (vl (x + 1) fun v31 => (f_X12_log_L63 (fun (s41 : SS) (x41_6 : Int32) (x41_7 : Int32) => (f_X12_log_L129 y1 x41_6 4000 s41 x41_7)) y1 y2 y3 y4 y5 n s30 v31))))))))) fun k24 => (if (zI s 123 ((60 * y2 + (y3.toInt64 + x.toInt64).toInt32).toInt.toNat)) = (0 : Int32) then (gd (inB (60 * y2 + (y3.toInt64 + x.toInt64).toInt32) 360) (k24 ((zJ s 122 ((60 * y2 + (y3.toInt64 + x.toInt64).toInt32).toInt.toNat)).toInt32))) else (k24 t22)))) = some (v, r) ∧ Lk b0 r ∧ LV y3.toInt y4.toInt y5.toInt (LM b0 y2.toInt.toNat) v.toInt := by
          intro t22
          rw [gd_t gi, jn]
          by_cases z : zI s 123 (60 * y2 + (y3.toInt64 + x.toInt64).toInt32).toInt.toNat = 0
          · rw [if_pos z, gd_t gi]
            exact kk _
          · rw [if_neg z]
            exact kk _
        rw [jn, jn]
        by_cases h13 : (1 : Int32) < y4 + x
        · rw [if_pos h13, vl, gd_t ⟨by omega, by omega⟩]
          rw [jlt, jl1, a3] at h13
          by_cases z : zI s 72 (61 * y1 + (y4 + x) - 1).toInt.toNat = 0
          · rw [if_pos z]
            exact k22 0
          · rw [if_neg z, vl, gd_t ⟨by omega, by omega⟩]
            exact k22 _
        · rw [if_neg h13]
          exact k22 0
      · rw [if_neg c1]
        have g1 := lgc_ge c1
        rw [ls, Int32.toInt_toInt64, e3] at g1
        exact hout (by rw [el]; omega)
    · rw [if_neg hl]
      rw [jlt] at hl
      have : x = y5 := Int32.toInt_inj.1 (by omega)
      refine ⟨y5, s, rfl, K, by omega, by omega, ?_, Or.inl rfl⟩
      rw [← this]
      omega
theorem sort5 {v : Int32} (h : 0 ≤ v.toInt ∧ v.toInt ≤ 4) : v = 0 ∨ v = 1 ∨ v = 2 ∨ v = 3 ∨ v = 4 := by
  have h : v.toInt = 0 ∨ v.toInt = 1 ∨ v.toInt = 2 ∨ v.toInt = 3 ∨ v.toInt = 4 := by omega
  exact h.imp (fun z => Int32.toInt_inj.1 z) (fun h => h.imp (fun z => Int32.toInt_inj.1 z) (fun h => h.imp (fun z => Int32.toInt_inj.1 z) (fun h => h.imp (fun z => Int32.toInt_inj.1 z) (fun z => Int32.toInt_inj.1 z))))
/-- what the shelf lets: rows of numbers, and nothing at all -/
def lgO (s : SS) (i : Nat) : Prop := zS s (47 + 2 * i) 0 = 0 ∨ (zS s (47 + 2 * i) 0 = 2 ∧ (zS s (47 + 2 * i) 2 = 3 ∨ zS s (47 + 2 * i) 2 = 4))
theorem lgO_M {s : SS} {i : Nat} (R : SR s i) : (lgO s i ↔ (zI s 120 i = -1 ∨ zI s 120 i = -5 ∨ zI s 120 i = -6)) ∧ (lgO s i → LX s i = LM s i) := by
  unfold lgO LX LM
  rcases R with ⟨h1, h2⟩ | ⟨h1, h2, h3, h4⟩ | ⟨h1, h2, h3, h4, h5⟩
  · refine ⟨⟨fun _ => Or.inl h2, fun _ => Or.inl h1⟩, fun _ => ?_⟩
    rw [if_pos h1, if_pos h2]
  · refine ⟨⟨fun z => ?_, fun z => ?_⟩, fun z => ?_⟩
    · rw [h1] at z
      rcases z with z | z
      · exact absurd z (by decide)
      · exact absurd z.1 (by decide)
    · rcases z with z | z | z <;> (rw [z] at h3; exact absurd h3 (by decide))
    · rw [h1] at z
      rcases z with z | z
      · exact absurd z (by decide)
      · exact absurd z.1 (by decide)
  · rw [h1, h2, h4]
    rcases sort5 h3 with z | z | z | z | z <;> rw [z] <;> refine ⟨⟨fun w => ?_, fun w => ?_⟩, fun w => ?_⟩ <;> first | (rw [if_neg (by decide), if_neg (by decide)]) | (revert w; decide)
theorem st_log {s : SS} (G : GI s) (a0 : Int32) (a1 : Int32) (a2 : Int32) (a3 : Int32) (a4 : Int32) : ∃ (rx : Int32) (s1 : SS) (rm : Int32) (s2 : SS), f_X11_log s a0 a1 a2 a3 a4 = some (rx, s1) ∧ f_X12_log s1 a0 a1 a2 a3 a4 = some (rm, s2) ∧ GI s2 ∧ rx = rm := by
  have hf : 0 ≤ (zS s 15 3).toInt ∧ (zS s 15 3).toInt ≤ 120 := G.1.1.f (q := 15) (k := 3) rfl
  have j60 : (60 : Int32).toInt = 60 := rfl
  by_cases c : HB s a0
  · obtain ⟨⟨p, ep⟩, em⟩ := hole_t G.1 c
    have op : okH s p := by
      unfold f_X0_holeOf at ep
      rw [if_neg (by rw [jlt, jl0]; have := c.1; omega), if_pos (by rw [jlt]; have := c.1; omega), gd_t ⟨by have := c.1; omega, by have := c.1; omega⟩] at ep
      cases hz : zR s 17 a0.toInt.toNat with
      | none => rw [hz] at ep; cases ep
      | some p' =>
        rw [hz] at ep
        have e2 : p' = p := Option.some.inj (Option.some.inj ep)
        rw [← e2]
        exact G.1.1.1.1.2.2.1 _ _ (by have := c.1; omega) hz
    by_cases d : 0 ≤ a1.toInt ∧ a1.toInt < 6
    · obtain ⟨i, ei⟩ : ∃ i, i = a1.toInt.toNat := ⟨_, rfl⟩
      have hi : i < 6 := by omega
      have es : f_X11_shelfOf s a1 = some (some (47 + 2 * i)) := by rw [ei]; exact shelf_t G.1.1 d
      have ms : f_X12_isShelf a1 = some 1 := by
        unfold f_X12_isShelf
        rw [in_t (by rw [jl0, show (5 : Int32).toInt = 5 from rfl]; omega), b1_some]
      by_cases y : (1 ≤ a3.toInt ∧ a3.toInt ≤ 60) ∧ (1 ≤ a4.toInt ∧ a4.toInt ≤ 60)
      · obtain ⟨R1, R2⟩ := lgO_M (G.1.2.2.2.2.2 i hi)
        have hm0 : ∀ (t : SS) (k : Option (Int32 × SS)), f_X12_isHole t a0 = some 1 → (zI t 120 i = zI s 120 i) → (if (zI t 120 (a1.toInt.toNat)) = ((-1) : Int32) then k else (b1 (f_X12_isReals t a1) fun r48 => (if r48 = (0 : Int32) then some ((-12), t) else k))) = if (zI s 120 i = -1 ∨ zI s 120 i = -5 ∨ zI s 120 i = -6) then k else some (-12, t) := by
          intro t k ht e120
          have g6 : inB a1 6 := ⟨by omega, by omega⟩
          rw [← ei, e120]
          by_cases z1 : zI s 120 i = -1
          · rw [if_pos z1, if_pos (Or.inl z1)]
          rw [if_neg z1]
          unfold f_X12_isReals
          rw [gd_t g6, ← ei, e120]
          by_cases z5 : zI s 120 i = -5
          · rw [if_pos z5, b1_some, if_neg (by decide), if_pos (Or.inr (Or.inl z5))]
          rw [if_neg z5, gd_t g6]
          by_cases z6 : zI s 120 i = -6
          · rw [if_pos z6, b1_some, if_neg (by decide), if_pos (Or.inr (Or.inr z6))]
          · rw [if_neg z6, b1_some, if_pos rfl, if_neg (by rintro (z | z | z) <;> contradiction)]
        have hm1 : ∀ (t : SS), f_X12_isHole t a0 = some 1 → (zI t 120 i = zI s 120 i) → f_X12_log t a0 a1 a2 a3 a4 = if (zI s 120 i = -1 ∨ zI s 120 i = -5 ∨ zI s 120 i = -6) then (f_X12_log_L63 (fun (s41 : SS) (x41_6 : Int32) (x41_7 : Int32) => (f_X12_log_L129 a0 x41_6 4000 s41 x41_7)) a0 a1 a2 a3 a4 4000 t 0) else some (-12, t) := by
          intro t ht e120
          unfold f_X12_log
          rw [ht, b1_some, if_neg (by decide), ms, b1_some, if_neg (by decide), in_t (by rw [jl1, j60]; exact y.1), b1_some, if_neg (by decide), in_t (by rw [jl1, j60]; exact y.2), b1_some, if_neg (by decide), gd_t ⟨by omega, by omega⟩, jn, hm0 t _ ht e120]
        have hx1 : f_X11_isYard a3 = some 1 := yard_t (by omega)
        by_cases o : lgO s i
        · have hd : zS s (47 + 2 * i) 0 = 0 ∨ zS s (47 + 2 * i) 0 = 2 := o.imp (fun z => z) (fun z => z.1)
          obtain ⟨v, r, er, Kr, hv⟩ := lgX (b0 := s) (y2 := a2) hi op y.1 y.2 hd 4000 s 0 (Lk.rf G.1.1) (by decide) (by rw [jl0]; omega) (Or.inl rfl) (by rw [jl0]; omega)
          obtain ⟨w, u, eu, Ku, hw⟩ := lgM (b0 := r) (y1 := a0) (y2 := a1) (y3 := a2) (y4 := a3) (y5 := a4) (by have := c.1; omega) (by omega) y.1 y.2 4000 r 0 (Lk.rf Kr.1) (by decide) (by rw [jl0]; omega) (Or.inl rfl) (by rw [jl0]; omega)
          have e120 : zI r 120 i = zI s 120 i := Kr.2.2.2.1 120 _ rfl
          have e121 : zI r 121 i = zI s 121 i := Kr.2.2.2.1 121 _ rfl
          have eL : LM r i = LX s i := by
            rw [R2 o]
            unfold LM
            rw [e120, e121]
          rw [← ei, eL] at hw
          have em1 : f_X12_isHole r a0 = some 1 := by
            have H : HB r a0 := by
              unfold HB
              rw [Kr.2.2.1 15 3 rfl, Kr.2.2.2.1 16 _ rfl]
              exact c
            exact (hole_t (G.1.go Kr.2.2.a (fun i => Kr.zR_ 17 i) Kr.1) H).2
          refine ⟨v, r, w, u, ?_, by rw [hm1 r em1 e120, if_pos (R1.1 o), eu], G.go Kr.2.2 (fun i => Kr.zR_ 17 i) Ku.2.2 (fun i => Ku.zR_ 17 i) Ku.1, Int32.toInt_inj.1 (hv.u hw)⟩
          unfold f_X11_log
          rw [ep, b1_some, on_some, es, b1_some, on_some, hx1, b1_some, if_neg (by decide), if_neg (by rw [jlt, jl1]; omega), if_neg (by rw [jlt, j60]; omega), if_neg (by rcases hd with z | z <;> rw [z] <;> decide), jn]
          have ek : (bd (f_X3_logged s p (47 + 2 * i) a2 a3 a4) fun r11 s11 => some (r11, s11)) = some (v, r) := by
            unfold f_X3_logged
            rw [er, bd_some]
          rw [ek]
          rcases o with z | ⟨z, z2⟩
          · rw [if_neg (by rw [z]; decide)]
          · rw [if_pos z]
            unfold f_X8_isReal
            rw [if_pos z]
            rcases z2 with z2 | z2
            · rw [if_pos z2, b1_some, if_neg (by decide)]
            · rw [if_neg (by rw [z2]; decide), if_pos z2, b1_some, if_neg (by decide)]
        · refine ⟨-12, s, -12, s, ?_, by rw [hm1 s em rfl, if_neg (fun z => o (R1.2 z))], G, rfl⟩
          unfold f_X11_log
          rw [ep, b1_some, on_some, es, b1_some, on_some, hx1, b1_some, if_neg (by decide), if_neg (by rw [jlt, jl1]; omega), if_neg (by rw [jlt, j60]; omega)]
          by_cases z1 : zS s (47 + 2 * i) 0 = 1
          · rw [if_pos z1]
          rw [if_neg z1, jn]
          have z0 : ¬ zS s (47 + 2 * i) 0 = 0 := fun z => o (Or.inl z)
          have z2 : zS s (47 + 2 * i) 0 = 2 := by
            rcases G.1.2.2.2.2.2 i hi with h | h | h
            · exact absurd h.1 z0
            · exact absurd h.1 z1
            · exact h.1
          rw [if_pos z2]
          unfold f_X8_isReal
          rw [if_pos z2, if_neg (fun z => o (Or.inr ⟨z2, Or.inl z⟩)), if_neg (fun z => o (Or.inr ⟨z2, Or.inr z⟩)), b1_some, if_pos rfl]
      · refine ⟨-1, s, -1, s, ?_, ?_, G, rfl⟩
        · unfold f_X11_log
          rw [ep, b1_some, on_some, es, b1_some, on_some]
          by_cases y1 : 1 ≤ a3.toInt ∧ a3.toInt ≤ 60
          · rw [yard_t (by omega), b1_some, if_neg (by decide)]
            by_cases z : a4 < 1
            · rw [if_pos z]
            · rw [if_neg z, if_pos (by rw [jlt, j60]; rw [jlt, jl1] at z; omega)]
          · rw [yard_f (by omega), b1_some, if_pos rfl]
        · unfold f_X12_log
          rw [em, b1_some, if_neg (by decide), ms, b1_some, if_neg (by decide)]
          by_cases y1 : 1 ≤ a3.toInt ∧ a3.toInt ≤ 60
          · rw [in_t (by rw [jl1, j60]; exact y1), b1_some, if_neg (by decide), in_f (by rw [jl1, j60]; omega), b1_some, if_pos rfl]
          · rw [in_f (by rw [jl1, j60]; exact y1), b1_some, if_pos rfl]
    · refine ⟨-1, s, -1, s, ?_, ?_, G, rfl⟩
      · unfold f_X11_log
        rw [ep, b1_some, on_some, shelf_f d, b1_some, on_none]
      · unfold f_X12_log f_X12_isShelf
        rw [em, b1_some, if_neg (by decide), in_f (by rw [jl0, show (5 : Int32).toInt = 5 from rfl]; omega), b1_some, b1_some, if_pos rfl]
  · obtain ⟨ep, em⟩ := hole_f G.1 c
    refine ⟨-1, s, -1, s, ?_, by unfold f_X12_log; rw [em, b1_some, if_pos rfl], G, rfl⟩
    unfold f_X11_log
    rw [ep, b1_some, on_none]
    by_cases d : 0 ≤ a1.toInt ∧ a1.toInt < 6
    · rw [shelf_t G.1.1 d, b1_some, on_some]
    · rw [shelf_f d, b1_some, on_none]
/-! THE READERS: class and reference read alike. Class cells of s, reference's of t -/
def xa (s : SS) : Int := (zS s 24 4).toInt
def xz (s : SS) : Int := (zS s 24 3).toInt
def mh (t : SS) : Int := (zS t 59 47).toInt
def ml (t : SS) : Int := (zS t 59 51).toInt
def mr (t : SS) : Int := (zS t 59 50).toInt
/-- the byte ahead, -1 at the end -/
def cuX (s : SS) : Int32 := if zS s 24 4 < zS s 24 1 then zI s 25 (zS s 24 4).toInt.toNat else -1
def cuM (t : SS) : Int32 := if zS t 59 47 < zS t 59 37 then zI t 86 (zS t 59 47).toInt.toNat else -1
def avX (s : SS) : SS := pS s 24 4 (zS s 24 4 + 1)
def avM (t : SS) : SS := pS t 59 47 (zS t 59 47 + 1)
/-- both at work: no fault, the same place, d brackets deep -/
def Rd (s t : SS) (d : Int32) : Prop := TP s t ∧ zS s 24 5 = -1 ∧ zS t 59 48 = -1 ∧ zS s 24 4 = zS t 59 47 ∧ (0 ≤ xa s ∧ xa s ≤ xn s) ∧ zS t 59 49 = d ∧ (0 ≤ xz s ∧ xz s ≤ xa s) ∧ (0 ≤ ml t ∧ ml t ≤ xa s) ∧ (0 ≤ mr t ∧ mr t ≤ 15)
theorem Rd.ch {s t : SS} {d : Int32} (G : Rd s t d) {k : Int32} (hk : 0 ≤ k.toInt ∧ k.toInt < 128) : cuX s = k ↔ cuM t = k := by
  obtain ⟨⟨e1, hn, tp⟩, _, _, e4, ha, _⟩ := G
  unfold xa xn at ha
  unfold xn at hn
  unfold cuX cuM
  rw [← e4, ← e1]
  by_cases h : zS s 24 4 < zS s 24 1
  · rw [if_pos h, if_pos h]
    rw [jlt] at h
    obtain ⟨b1, b2, b3⟩ := tp (zS s 24 4).toInt.toNat (by omega)
    refine ⟨fun z => Int32.toInt_inj.1 ?_, fun z => Int32.toInt_inj.1 ?_⟩
    · rw [b3, z, if_pos hk.2]
    · rw [z] at b3
      by_cases w : (zI s 25 (zS s 24 4).toInt.toNat).toInt < 128
      · rw [if_pos w] at b3; omega
      · rw [if_neg w] at b3; omega
  · rw [if_neg h, if_neg h]
theorem Rd.lt {s t : SS} {d : Int32} (G : Rd s t d) {k : Int32} (hk : 0 ≤ k.toInt) (h : cuX s = k) : zS s 24 4 < zS s 24 1 ∧ xa s < xn s := by
  by_cases z : zS s 24 4 < zS s 24 1
  · exact ⟨z, by rw [jlt] at z; exact z⟩
  · unfold cuX at h
    rw [if_neg z] at h
    rw [← h] at hk
    exact absurd hk (by decide)
theorem jm1 : (-1 : Int32).toInt = -1 := rfl
theorem j160 : (160 : Int32).toInt = 160 := rfl
theorem j161 : (161 : Int32).toInt = 161 := rfl
theorem takes_g {s t : SS} {d k : Int32} (G : Rd s t d) (hk : 0 ≤ k.toInt) : f_X7_takes s k = if cuX s = k then some (1, avX s) else some (0, s) := by
  obtain ⟨⟨e1, hn, tp⟩, e2, _, e4, ha, _⟩ := G
  unfold xa xn at ha
  unfold xn at hn
  unfold f_X7_takes cuX avX
  rw [if_pos (by rw [e2]; decide)]
  by_cases h : zS s 24 4 < zS s 24 1
  · rw [if_pos h, if_pos h, vl]
    rw [jlt] at h
    rw [gd_t ⟨by omega, by omega⟩]
    by_cases z : zI s 25 (zS s 24 4).toInt.toNat = k
    · rw [if_pos z, if_pos z, vl, st]
    · rw [if_neg z, if_neg z]
  · rw [if_neg h, if_neg h, if_neg (fun z => by rw [← z] at hk; exact absurd hk (by decide))]
/-- no sign is taken where there is a fault, or another byte ahead -/
theorem takes_f {s : SS} {k : Int32} (h : ¬ zS s 24 5 < 0) : f_X7_takes s k = some (0, s) := by
  unfold f_X7_takes
  rw [if_neg h]
theorem look_g {t : SS} (h0 : 0 ≤ mh t) (h1 : (zS t 59 37).toInt ≤ 160) : f_X12_look t = some (cuM t) := by
  unfold f_X12_look cuM
  unfold mh at h0
  by_cases h : zS t 59 47 < zS t 59 37
  · rw [if_pos h, if_pos h, vl]
    rw [jlt] at h
    rw [gd_t ⟨h0, by omega⟩]
  · rw [if_neg h, if_neg h]
theorem Rd.look {s t : SS} {d : Int32} (G : Rd s t d) : f_X12_look t = some (cuM t) := by
  obtain ⟨⟨e1, hn, _⟩, _, _, e4, ha, _⟩ := G
  unfold xa at ha
  unfold xn at hn
  exact look_g (by unfold mh; rw [← e4]; exact ha.1) (by rw [← e1]; exact hn.2)
/-- one code more -/
def emX (s : SS) (c : Int32) : SS := pS (pI s 26 (zS s 24 3).toInt.toNat c) 24 3 (zS s 24 3 + 1)
def lyM (t : SS) (a w : Int32) : SS := pS (pI (pI t 93 (170 * mr t + ml t).toNat a) 94 (170 * mr t + ml t).toNat w) 59 51 (zS t 59 51 + 1)
theorem emit_g {s : SS} {c : Int32} (h : zS s 24 5 < 0) (hz : 0 ≤ xz s ∧ xz s < 161) : f_X7_emit s c = some (emX s c) := by
  unfold xz at hz
  unfold f_X7_emit emX
  rw [if_pos h, if_pos (by rw [jlt, j161]; exact hz.2), vl, gd_t ⟨hz.1, hz.2⟩, st, vl, st, zS_pI]
theorem emit_f {s : SS} {c : Int32} (h : ¬ zS s 24 5 < 0) : f_X7_emit s c = some s := by
  unfold f_X7_emit
  rw [if_neg h]
theorem lay_g {t : SS} {a w : Int32} (hr : 0 ≤ mr t ∧ mr t ≤ 15) (hl : 0 ≤ ml t ∧ ml t ≤ 165) : f_X12_lay t a w = some (lyM t a w) := by
  unfold lyM mr ml
  unfold mr at hr
  unfold ml at hl
  have j170 : (170 : Int32).toInt = 170 := rfl
  have m1 : (170 * zS t 59 50).toInt = 170 * (zS t 59 50).toInt := by rw [i32_mul (by rw [j170]; omega) (by rw [j170]; omega), j170]
  have m2 : (170 * zS t 59 50 + zS t 59 51).toInt = 170 * (zS t 59 50).toInt + (zS t 59 51).toInt := by rw [i32_add (by omega) (by omega), m1]
  unfold f_X12_lay
  rw [vl, gd_t ⟨by omega, by omega⟩, st, zS_pI, zS_pI, vl, gd_t ⟨by omega, by omega⟩, st, zS_pI, zS_pI, vl, st, m2]
/-! what reading changes; codes; how a piece ends -/
def PkX (s r : SS) : Prop := (∀ q k, ¬ (q = 24 ∧ (k = 3 ∨ k = 4 ∨ k = 5)) → zS r q k = zS s q k) ∧ (∀ q i, q ≠ 26 → zI r q i = zI s q i) ∧ r.2.2 = s.2.2
def PkM (s r : SS) : Prop := (∀ q k, ¬ (q = 59 ∧ (k = 47 ∨ k = 48 ∨ k = 49 ∨ k = 51)) → zS r q k = zS s q k) ∧ (∀ q i, q ≠ 93 → q ≠ 94 → zI r q i = zI s q i) ∧ r.2.2 = s.2.2
theorem PkX.rf {s : SS} : PkX s s := ⟨fun _ _ _ => rfl, fun _ _ _ => rfl, rfl⟩
theorem PkM.rf {s : SS} : PkM s s := ⟨fun _ _ _ => rfl, fun _ _ _ _ => rfl, rfl⟩
theorem PkX.tr {a b c : SS} (h : PkX a b) (g : PkX b c) : PkX a c := ⟨fun q k z => (g.1 q k z).trans (h.1 q k z), fun q i z => (g.2.1 q i z).trans (h.2.1 q i z), g.2.2.trans h.2.2⟩
theorem PkM.tr {a b c : SS} (h : PkM a b) (g : PkM b c) : PkM a c := ⟨fun q k z => (g.1 q k z).trans (h.1 q k z), fun q i z w => (g.2.1 q i z w).trans (h.2.1 q i z w), g.2.2.trans h.2.2⟩
theorem PkX.av {s : SS} : PkX s (avX s) := ⟨fun q k z => by unfold avX; rw [zS_pS, if_neg (by omega)], fun _ _ _ => rfl, rfl⟩
theorem PkM.av {s : SS} : PkM s (avM s) := ⟨fun q k z => by unfold avM; rw [zS_pS, if_neg (by omega)], fun _ _ _ _ => rfl, rfl⟩
theorem PkX.em {s : SS} {c : Int32} : PkX s (emX s c) := ⟨fun q k z => by unfold emX; rw [zS_pS, if_neg (by omega), zS_pI], fun q i z => by unfold emX; rw [zI_pS, zI_pI, if_neg (by omega)], rfl⟩
theorem PkM.ly {s : SS} {a w : Int32} : PkM s (lyM s a w) := ⟨fun q k z => by unfold lyM; rw [zS_pS, if_neg (by omega), zS_pI, zS_pI], fun q i z z2 => by unfold lyM; rw [zI_pS, zI_pI, if_neg (by omega), zI_pI, if_neg (by omega)], rfl⟩
theorem PkX.n {s r : SS} (h : PkX s r) : zS r 24 1 = zS s 24 1 := h.1 24 1 (by omega)
theorem PkM.r {s r : SS} (h : PkM s r) : zS r 59 50 = zS s 59 50 := h.1 59 50 (by omega)
theorem TP.c {s t s' t' : SS} (T : TP s t) (h : PkX s s') (g : PkM t t') : TP s' t' := by
  obtain ⟨e1, e2, e3⟩ := T
  refine ⟨by rw [h.n, g.1 59 37 (by omega)]; exact e1, by unfold xn; rw [h.n]; exact e2, fun i hi => ?_⟩
  rw [h.2.1 25 i (by omega), g.2.1 86 i (by omega) (by omega)]
  exact e3 i hi
/-- the reference's step for a code -/
def tkA (c : Int32) : Int32 := if -1 < c then 1 else if -11 < c then 2 else if c = -21 then 3 else if c = -22 then 4 else if c = -11 then 124 else if c = -12 then 38 else if c = -13 then 60 else if c = -14 then 61 else if c = -15 then 62 else if c = -16 then 43 else if c = -17 then 45 else if c = -18 then 42 else if c = -19 then 47 else 37
def tkW (c : Int32) : Int32 := if -1 < c then c else if -11 < c then -1 - c else 0
def Em (s r : SS) (l : List Int32) : Prop := xz r = xz s + l.length ∧ (∀ j : Nat, (j : Int) < xz s → zI r 26 j = zI s 26 j) ∧ ∀ (j : Nat) (c : Int32), l[j]? = some c → zI r 26 ((xz s).toNat + j) = c
def Ly (s r : SS) (l : List Int32) : Prop := ml r = ml s + l.length ∧ (∀ j : Nat, (j : Int) < 170 * mr s + ml s → zI r 93 j = zI s 93 j ∧ zI r 94 j = zI s 94 j) ∧ ∀ (j : Nat) (c : Int32), l[j]? = some c → zI r 93 ((170 * mr s + ml s).toNat + j) = tkA c ∧ zI r 94 ((170 * mr s + ml s).toNat + j) = tkW c
theorem Em.nil {s r : SS} (h : zS r 24 3 = zS s 24 3) (hI : ∀ i, zI r 26 i = zI s 26 i) : Em s r [] := ⟨by unfold xz; rw [h]; simp, fun j _ => hI j, fun j c z => by simp at z⟩
theorem Ly.nil {s r : SS} (h : zS r 59 51 = zS s 59 51) (h3 : ∀ i, zI r 93 i = zI s 93 i) (h4 : ∀ i, zI r 94 i = zI s 94 i) : Ly s r [] := ⟨by unfold ml; rw [h]; simp, fun j _ => ⟨h3 j, h4 j⟩, fun j c z => by simp at z⟩
theorem Em.tr {a b c : SS} {l m : List Int32} (h0 : 0 ≤ xz a) (h : Em a b l) (g : Em b c m) : Em a c (l ++ m) := by
  obtain ⟨h1, h2, h3⟩ := h
  obtain ⟨g1, g2, g3⟩ := g
  refine ⟨by rw [g1, h1, List.length_append]; omega, fun j hj => (g2 j (by omega)).trans (h2 j hj), fun j v z => ?_⟩
  rw [List.getElem?_append] at z
  by_cases w : j < l.length
  · rw [if_pos w] at z
    rw [g2 _ (by omega)]
    exact h3 j v z
  · rw [if_neg w] at z
    have := g3 _ v z
    rw [show (xz b).toNat + (j - l.length) = (xz a).toNat + j by omega] at this
    exact this
theorem Ly.tr {a b c : SS} {l m : List Int32} (h0 : 0 ≤ ml a) (hr : 0 ≤ mr a) (er : mr b = mr a) (h : Ly a b l) (g : Ly b c m) : Ly a c (l ++ m) := by
  obtain ⟨h1, h2, h3⟩ := h
  obtain ⟨g1, g2, g3⟩ := g
  rw [er] at g2 g3
  refine ⟨by rw [g1, h1, List.length_append]; omega, fun j hj => ⟨(g2 j (by omega)).1.trans (h2 j hj).1, (g2 j (by omega)).2.trans (h2 j hj).2⟩, fun j v z => ?_⟩
  rw [List.getElem?_append] at z
  by_cases w : j < l.length
  · rw [if_pos w] at z
    rw [(g2 _ (by omega)).1, (g2 _ (by omega)).2]
    exact h3 j v z
  · rw [if_neg w] at z
    have := g3 _ v z
    rw [show (170 * mr a + ml b).toNat + (j - l.length) = (170 * mr a + ml a).toNat + j by omega] at this
    exact this
theorem Em.one {s : SS} {c : Int32} (h0 : 0 ≤ xz s ∧ xz s < 161) : Em s (emX s c) [c] := by
  unfold xz at h0
  have e : (zS s 24 3 + 1).toInt = (zS s 24 3).toInt + 1 := by rw [i32_add (by rw [jl1]; omega) (by rw [jl1]; omega), jl1]
  refine ⟨?_, fun j hj => ?_, fun j v z => ?_⟩
  · unfold xz emX
    rw [zS_pS, if_pos ⟨rfl, rfl⟩, e]
    rfl
  · unfold emX
    unfold xz at hj
    rw [zI_pS, zI_pI, if_neg (by omega)]
  · have hj : j = 0 := by
      cases j with
      | zero => rfl
      | succ j => simp at z
    subst hj
    simp at z
    unfold emX xz
    rw [zI_pS, zI_pI, if_pos ⟨rfl, by omega⟩]
    exact z
theorem Ly.one {s : SS} {c a w : Int32} (h0 : 0 ≤ ml s ∧ ml s < 1000) (hr : 0 ≤ mr s) (ea : tkA c = a) (ew : tkW c = w) : Ly s (lyM s a w) [c] := by
  have e : (zS s 59 51 + 1).toInt = (zS s 59 51).toInt + 1 := by
    unfold ml at h0
    rw [i32_add (by rw [jl1]; omega) (by rw [jl1]; omega), jl1]
  refine ⟨?_, fun j hj => ?_, fun j v z => ?_⟩
  · unfold lyM ml
    rw [zS_pS, if_pos ⟨rfl, rfl⟩, e]
    rfl
  · unfold lyM
    rw [zI_pS, zI_pI, if_neg (by omega), zI_pI, if_neg (by omega), zI_pS, zI_pI, if_neg (by omega), zI_pI, if_neg (by omega)]
    exact ⟨rfl, rfl⟩
  · have hj : j = 0 := by
      cases j with
      | zero => rfl
      | succ j => simp at z
    subst hj
    simp at z
    subst z
    unfold lyM
    rw [zI_pS, zI_pI, if_neg (by omega), zI_pI, if_pos ⟨rfl, by omega⟩, zI_pS, zI_pI, if_pos ⟨rfl, by omega⟩]
    exact ⟨ea.symm, ew.symm⟩
/-- the end with a fault at p: the class has it, or stands before a digit too many -/
def StX (s : SS) (p : Int32) : Prop := zS s 24 5 = p ∨ (zS s 24 5 = -1 ∧ zS s 24 4 = p ∧ zS s 24 4 < zS s 24 1 ∧ p.toInt < 160 ∧ 48 ≤ (zI s 25 p.toInt.toNat).toInt ∧ (zI s 25 p.toInt.toNat).toInt ≤ 57)
def Stk (s t s' t' : SS) : Prop := ∃ p : Int32, 0 ≤ p.toInt ∧ StX s' p ∧ zS t' 59 48 = p ∧ 0 ≤ xz s' ∧ 0 ≤ ml t' ∧ mh t' ≤ 160 ∧ ml t' - ml t ≤ mh t' - mh t
theorem StX.takes {s : SS} {p k : Int32} (hp : 0 ≤ p.toInt) (h : StX s p) (hk : k.toInt < 48 ∨ 57 < k.toInt) : f_X7_takes s k = some (0, s) := by
  rcases h with h | ⟨h1, h2, h3, h6, h4, h5⟩
  · exact takes_f (by rw [h, jlt, jl0]; omega)
  · unfold f_X7_takes
    rw [if_pos (by rw [h1]; decide), if_pos h3, vl, h2, gd_t ⟨hp, h6⟩, if_neg]
    intro z
    rw [z] at h4 h5
    omega
theorem StX.emit {s : SS} {p c : Int32} (h : StX s p) (hp : 0 ≤ p.toInt) (hz : 0 ≤ xz s) : ∃ r, f_X7_emit s c = some r ∧ PkX s r ∧ StX r p ∧ 0 ≤ xz r := by
  by_cases f : zS s 24 5 < 0
  · by_cases z : xz s < 161
    · refine ⟨_, emit_g f ⟨hz, z⟩, PkX.em, ?_, ?_⟩
      · rcases h with h | ⟨h1, h2, h3, h6, h4, h5⟩
        · rw [h, jlt, jl0] at f
          omega
        · refine Or.inr ⟨h1, h2, h3, h6, ?_, ?_⟩
          · rw [PkX.em.2.1 25 _ (by omega)]; exact h4
          · rw [PkX.em.2.1 25 _ (by omega)]; exact h5
      · have := (Em.one (c := c) ⟨hz, z⟩).1
        rw [this]
        omega
    · refine ⟨s, ?_, PkX.rf, h, hz⟩
      unfold f_X7_emit
      rw [if_pos f, if_neg (by rw [jlt, j161]; exact z)]
  · exact ⟨s, emit_f f, PkX.rf, h, hz⟩
/-! levels of the readers -/
def bcode (c : Int32) : Prop := c = -11 ∨ c = -12 ∨ c = -13 ∨ c = -14 ∨ c = -15 ∨ c = -16 ∨ c = -17 ∨ c = -18 ∨ c = -19 ∨ c = -20
/-- what holds of codes, by the height that they need -/
def EC (E : Nat → List Int32 → Prop) : Prop := (∀ v : Int32, 0 ≤ v.toInt → E 1 [v]) ∧ (∀ j : Int32, 0 ≤ j.toInt ∧ j.toInt ≤ 7 → E 1 [-1 - j]) ∧ (∀ m l c, c = -21 ∨ c = -22 → E m l → E m (l ++ [c])) ∧ (∀ m a b c, bcode c → E (m + 1) a → E m b → E (m + 1) (a ++ (b ++ [c]))) ∧ ∀ m l, E m l → E (m + 1) l
def Suc (E : Nat → List Int32 → Prop) (m : Nat) (s t s' t' : SS) (d : Int32) : Prop := Rd s' t' d ∧ ∃ l : List Int32, 1 ≤ l.length ∧ (l.length : Int) ≤ xa s' - xa s ∧ Em s s' l ∧ Ly t t' l ∧ E m l
def PE (E : Nat → List Int32 → Prop) (m : Nat) (s t s' t' : SS) (d : Int32) : Prop := PkX s s' ∧ PkM t t' ∧ (Suc E m s t s' t' d ∨ Stk s t s' t')
/-- a loop's end: codes behind those that stand -/
def Suf (E : Nat → List Int32 → Prop) (m : Nat) (s t s' t' : SS) (d : Int32) : Prop := Rd s' t' d ∧ ∃ l : List Int32, (l.length : Int) ≤ xa s' - xa s ∧ Em s s' l ∧ Ly t t' l ∧ ∀ a, E m a → E m (a ++ l)
def PLp (E : Nat → List Int32 → Prop) (m : Nat) (s t s' t' : SS) (d : Int32) : Prop := PkX s s' ∧ PkM t t' ∧ (Suf E m s t s' t' d ∨ Stk s t s' t')
/-- a sign of a level, its code -/
def sgn (g k : Int32) : Prop := 0 ≤ g.toInt ∧ g.toInt < 128 ∧ (g.toInt < 48 ∨ 57 < g.toInt) ∧ bcode k ∧ tkA k = g ∧ tkW k = 0
theorem Rd.av {s t : SS} {d : Int32} (G : Rd s t d) (h : xa s < xn s) : Rd (avX s) (avM t) d ∧ xa (avX s) = xa s + 1 := by
  obtain ⟨T, e2, e3, e4, ha, ho, hz, hl, hr⟩ := G
  have n1 : (zS s 24 4 + 1).toInt = (zS s 24 4).toInt + 1 := by
    have := T.2.1
    unfold xa at *
    rw [i32_add (by rw [jl1]; omega) (by rw [jl1]; omega), jl1]
  have ea : xa (avX s) = xa s + 1 := by
    unfold xa avX
    rw [zS_pS, if_pos ⟨rfl, rfl⟩, n1]
  have en : xn (avX s) = xn s := by unfold xn; rw [PkX.av.n]
  refine ⟨⟨T.c PkX.av PkM.av, ?_, ?_, ?_, ?_, ?_, ?_, ?_, ?_⟩, ea⟩
  · unfold avX; rw [zS_pS, if_neg (by omega)]; exact e2
  · unfold avM; rw [zS_pS, if_neg (by omega)]; exact e3
  · unfold avX avM; rw [zS_pS, if_pos ⟨rfl, rfl⟩, zS_pS, if_pos ⟨rfl, rfl⟩, e4]
  · rw [ea, en]; omega
  · unfold avM; rw [zS_pS, if_neg (by omega)]; exact ho
  · have : xz (avX s) = xz s := by unfold xz avX; rw [zS_pS, if_neg (by omega)]
    rw [ea, this]; omega
  · have : ml (avM t) = ml t := by unfold ml avM; rw [zS_pS, if_neg (by omega)]
    rw [ea, this]; omega
  · have : mr (avM t) = mr t := by unfold mr avM; rw [zS_pS, if_neg (by omega)]
    rw [this]; exact hr
/-- both lay a code -/
theorem Rd.em {s t : SS} {d c a w : Int32} (G : Rd s t d) (hz : xz s < xa s) (hl : ml t < xa s) : Rd (emX s c) (lyM t a w) d ∧ xa (emX s c) = xa s := by
  obtain ⟨T, e2, e3, e4, ha, ho, hz0, hl0, hr⟩ := G
  have h160 := T.2.1
  have ea : xa (emX s c) = xa s := by unfold xa emX; rw [zS_pS, if_neg (by omega), zS_pI]
  have en : xn (emX s c) = xn s := by unfold xn; rw [PkX.em.n]
  have n1 : (zS s 24 3 + 1).toInt = (zS s 24 3).toInt + 1 := by
    unfold xz at *
    rw [i32_add (by rw [jl1]; omega) (by rw [jl1]; omega), jl1]
  have n2 : (zS t 59 51 + 1).toInt = (zS t 59 51).toInt + 1 := by
    unfold ml at *
    rw [i32_add (by rw [jl1]; omega) (by rw [jl1]; omega), jl1]
  refine ⟨⟨T.c PkX.em PkM.ly, ?_, ?_, ?_, ?_, ?_, ?_, ?_, ?_⟩, ea⟩
  · unfold emX; rw [zS_pS, if_neg (by omega), zS_pI]; exact e2
  · unfold lyM; rw [zS_pS, if_neg (by omega), zS_pI, zS_pI]; exact e3
  · unfold emX lyM; rw [zS_pS, if_neg (by omega), zS_pI, zS_pS, if_neg (by omega), zS_pI, zS_pI]; exact e4
  · rw [ea, en]; exact ha
  · unfold lyM; rw [zS_pS, if_neg (by omega), zS_pI, zS_pI]; exact ho
  · have : xz (emX s c) = xz s + 1 := by unfold xz emX; rw [zS_pS, if_pos ⟨rfl, rfl⟩, n1]
    rw [ea, this]; omega
  · have : ml (lyM t a w) = ml t + 1 := by
      unfold ml lyM
      rw [zS_pS, if_pos ⟨rfl, rfl⟩, n2]
    rw [ea, this]; omega
  · have : mr (lyM t a w) = mr t := by unfold mr; rw [PkM.ly.r]
    rw [this]; exact hr
theorem Rd.mh {s t : SS} {d : Int32} (G : Rd s t d) : mh t = xa s := by
  show (zS t 59 47).toInt = (zS s 24 4).toInt
  rw [G.2.2.2.1]
/-- the loop of a level: class LX, reference LM, over pieces RX, RM -/
theorem loopG {E : Nat → List Int32 → Prop} (HE : EC E) {m : Nat} {d : Int32} {LX : Nat → SS → Int32 → Option SS} {LM : Nat → SS → Option SS} {RX RM : SS → Option SS} {kd : Int32 → Int32 → Prop} (hkd : ∀ g k, kd g k → sgn g k)
    (hx0 : ∀ n s t x, Rd s t d → (∀ g k, kd g k → ¬ cuX s = g) → LX (n + 1) s x = some s)
    (hx1 : ∀ n s t x g k, kd g k → Rd s t d → cuX s = g → x < 160 → LX (n + 1) s x = b1 (RX (avX s)) fun s5 => b1 (f_X7_emit s5 k) fun s6 => LX n s6 (x + 1))
    (hxs : ∀ n s x p, 0 ≤ p.toInt → StX s p → LX (n + 1) s x = some s)
    (hm0 : ∀ n s t, Rd s t d → (∀ g k, kd g k → ¬ cuM t = g) → LM (n + 1) t = some t)
    (hm1 : ∀ n s t g k, kd g k → Rd s t d → cuM t = g → LM (n + 1) t = b1 (RM (avM t)) fun t8 => b1 (f_X12_lay t8 g 0) fun t10 => LM n t10)
    (hms : ∀ n t, ¬ zS t 59 48 < 0 → LM (n + 1) t = some t)
    (HR : ∀ s t, Rd s t d → ∃ s' t', RX s = some s' ∧ RM t = some t' ∧ PE E m s t s' t' d) :
    ∀ (n : Nat) (s t : SS) (x : Int32), Rd s t d → xn s - xa s < n → 0 ≤ x.toInt → x.toInt ≤ xa s → ∃ s' t', LX n s x = some s' ∧ LM n t = some t' ∧ PLp E (m + 1) s t s' t' d
  | 0, s, t, x, G, h, _, _ => by
    have := G.2.2.2.2.1
    omega
  | n + 1, s, t, x, G, hn, hx, hx2 => by
    have ha := G.2.2.2.2.1
    have h160 := G.1.2.1
    by_cases c : ∃ g k, kd g k ∧ cuX s = g
    · obtain ⟨g, k, hk, cg⟩ := c
      obtain ⟨g0, g1, g2, g3, g4, g5⟩ := hkd g k hk
      have lt := (G.lt g0 cg).2
      obtain ⟨G1, ea1⟩ := G.av lt
      obtain ⟨s5, t8, eX, eM, P1, Q1, O⟩ := HR _ _ G1
      have h1x : x < 160 := by rw [jlt, j160]; omega
      rw [hx1 n s t x g k hk G cg h1x, hm1 n s t g k hk G ((G.ch ⟨g0, g1⟩).1 cg), eX, b1_some, eM, b1_some]
      have ezA : xz (avX s) = xz s := by unfold xz avX; rw [zS_pS, if_neg (by omega)]
      have elA : ml (avM t) = ml t := by unfold ml avM; rw [zS_pS, if_neg (by omega)]
      have erA : mr (avM t) = mr t := by unfold mr avM; rw [zS_pS, if_neg (by omega)]
      have er8 : mr t8 = mr (avM t) := by unfold mr; rw [Q1.r]
      rcases O with ⟨G5, l, l1, l2, em, ly, el⟩ | ⟨p, hp, sx, sm, z0, z1, z2, z3⟩
      · have hz5 : xz s5 < xa s5 := by rw [em.1, ezA]; rw [ea1] at l2; have := G.2.2.2.2.2.2.1; omega
        have hl5 : ml t8 < xa s5 := by rw [ly.1, elA]; rw [ea1] at l2; have := G.2.2.2.2.2.2.2.1; omega
        have b5 := G5.2.2.2.2.1
        have hz5' := G5.2.2.2.2.2.2.1
        have hl5' := G5.2.2.2.2.2.2.2.1
        have hr5' := G5.2.2.2.2.2.2.2.2
        have n5 : xn s5 = xn s := by unfold xn; rw [P1.n, PkX.av.n]
        obtain ⟨G6, ea6⟩ := G5.em (c := k) (a := g) (w := 0) hz5 hl5
        have n6 : xn (emX s5 k) = xn s := by unfold xn at *; rw [PkX.em.n]; exact n5
        have xx : (x + 1).toInt = x.toInt + 1 := by rw [i32_add (by rw [jl1]; omega) (by rw [jl1]; omega), jl1]
        rw [emit_g (by rw [G5.2.1]; decide) ⟨hz5'.1, by omega⟩, b1_some, lay_g hr5' ⟨hl5'.1, by omega⟩, b1_some]
        obtain ⟨s', t', eL, eN, P2, Q2, O2⟩ := loopG HE hkd hx0 hx1 hxs hm0 hm1 hms HR n (emX s5 k) (lyM t8 g 0) (x + 1) G6 (by rw [n6, ea6]; rw [ea1] at l2; omega) (by omega) (by rw [ea6, xx]; rw [ea1] at l2; omega)
        refine ⟨s', t', eL, eN, PkX.av.tr (P1.tr (PkX.em.tr P2)), PkM.av.tr (Q1.tr (PkM.ly.tr Q2)), ?_⟩
        have emA : Em s (avX s) [] := Em.nil (by unfold avX; rw [zS_pS, if_neg (by omega)]) (fun _ => rfl)
        have lyA : Ly t (avM t) [] := Ly.nil (by unfold avM; rw [zS_pS, if_neg (by omega)]) (fun _ => rfl) (fun _ => rfl)
        have em5 : Em s (emX s5 k) (l ++ [k]) := by
          have := (emA.tr G.2.2.2.2.2.2.1.1 em).tr (by exact G.2.2.2.2.2.2.1.1) (Em.one (c := k) ⟨hz5'.1, by omega⟩)
          rw [List.nil_append] at this
          exact this
        have ly5 : Ly t (lyM t8 g 0) (l ++ [k]) := by
          have h1 := lyA.tr G.2.2.2.2.2.2.2.1.1 G.2.2.2.2.2.2.2.2.1 erA ly
          have := h1.tr G.2.2.2.2.2.2.2.1.1 G.2.2.2.2.2.2.2.2.1 (by rw [er8, erA]) (Ly.one (c := k) (a := g) (w := 0) ⟨hl5'.1, by omega⟩ hr5'.1 g4 g5)
          rw [List.nil_append] at this
          exact this
        have er6 : mr (lyM t8 g 0) = mr t := by
          have : mr (lyM t8 g 0) = mr t8 := by unfold mr; rw [PkM.ly.r]
          rw [this, er8, erA]
        rcases O2 with ⟨G7, l', m1, m2, m3, m4⟩ | ⟨p, hp, sx, sm, z0, z1, z2, z3⟩
        · refine Or.inl ⟨G7, (l ++ [k]) ++ l', ?_, em5.tr G.2.2.2.2.2.2.1.1 m2, ly5.tr G.2.2.2.2.2.2.2.1.1 G.2.2.2.2.2.2.2.2.1 er6 m3, fun a ea => ?_⟩
          · rw [List.length_append, List.length_append]
            rw [ea6] at m1
            rw [ea1] at l2
            have : ([k] : List Int32).length = 1 := rfl
            omega
          · rw [← List.append_assoc]
            exact m4 _ (HE.2.2.2.1 m a l k g3 ea el)
        · refine Or.inr ⟨p, hp, sx, sm, z0, z1, z2, ?_⟩
          have e1 : ml (lyM t8 g 0) = ml t + (l.length + 1) := by rw [ly5.1, List.length_append]; rfl
          have e2 : mh (lyM t8 g 0) = xa s5 := by rw [G6.mh, ea6]
          have e3 := G.mh
          rw [e1, e2] at z3
          rw [ea1] at l2
          omega
      · obtain ⟨s6, e6, P6, sx6, z6⟩ := sx.emit (c := k) hp z0
        have er8' : mr t8 = mr t := by rw [er8, erA]
        have hh : mh (avM t) = mh t + 1 := by rw [G1.mh, ea1, G.mh]
        have hl := G.2.2.2.2.2.2.2.1
        have hmh := G.mh
        rw [elA, hh] at z3
        rw [e6, b1_some, lay_g (by rw [er8']; exact G.2.2.2.2.2.2.2.2) ⟨z1, by omega⟩, b1_some]
        obtain ⟨n', hn'⟩ : ∃ n', n = n' + 1 := ⟨n - 1, by omega⟩
        have sm' : zS (lyM t8 g 0) 59 48 = p := by unfold lyM; rw [zS_pS, if_neg (by omega), zS_pI, zS_pI]; exact sm
        have ly1 := (Ly.one (s := t8) (c := k) (a := g) (w := 0) ⟨z1, by omega⟩ (by rw [er8']; exact G.2.2.2.2.2.2.2.2.1) g4 g5).1
        have mh1 : mh (lyM t8 g 0) = mh t8 := by
          show (zS (lyM t8 g 0) 59 47).toInt = (zS t8 59 47).toInt
          unfold lyM
          rw [zS_pS, if_neg (by omega), zS_pI, zS_pI]
        refine ⟨s6, lyM t8 g 0, by rw [hn', hxs n' s6 _ p hp sx6], by rw [hn', hms n' _ (by rw [sm', jlt, jl0]; omega)], PkX.av.tr (P1.tr P6), PkM.av.tr (Q1.tr PkM.ly), Or.inr ⟨p, hp, sx6, sm', z6, ?_, ?_, ?_⟩⟩
        · rw [ly1]; omega
        · rw [mh1]; exact z2
        · rw [ly1, mh1]
          have : (([k] : List Int32).length : Int) = 1 := rfl
          omega
    · refine ⟨s, t, hx0 n s t x G (fun g k hk z => c ⟨g, k, hk, z⟩), hm0 n s t G (fun g k hk z => c ⟨g, k, hk, (G.ch ⟨(hkd g k hk).1, (hkd g k hk).2.1⟩).2 z⟩), PkX.rf, PkM.rf, Or.inl ⟨G, [], ?_, Em.nil rfl (fun _ => rfl), Ly.nil rfl (fun _ => rfl) (fun _ => rfl), fun a ea => by rw [List.append_nil]; exact ea⟩⟩
      simp
/-! product, sum, compared, both, either -/
theorem levelG {E : Nat → List Int32 → Prop} (HE : EC E) {m : Nat} {d : Int32} {LX : SS → Option SS} {LM : SS → Option SS} {RX RM : SS → Option SS}
    (HL : ∀ s t, Rd s t d → ∃ s' t', LX s = some s' ∧ LM t = some t' ∧ PLp E (m + 1) s t s' t' d)
    (hxs : ∀ s p, 0 ≤ p.toInt → StX s p → LX s = some s) (hms : ∀ t, ¬ zS t 59 48 < 0 → LM t = some t)
    (HR : ∀ s t, Rd s t d → ∃ s' t', RX s = some s' ∧ RM t = some t' ∧ PE E m s t s' t' d) (s t : SS) (G : Rd s t d) :
    ∃ s' t', (b1 (RX s) fun s1 => LX s1) = some s' ∧ (b1 (RM t) fun t1 => LM t1) = some t' ∧ PE E (m + 1) s t s' t' d := by
  obtain ⟨s1, t1, eX, eM, P1, Q1, O⟩ := HR s t G
  rw [eX, b1_some, eM, b1_some]
  have er : mr t1 = mr t := by unfold mr; rw [Q1.r]
  rcases O with ⟨G1, l, l1, l2, em, ly, el⟩ | ⟨p, hp, sx, sm, z⟩
  · obtain ⟨s2, t2, e2, f2, P2, Q2, O2⟩ := HL s1 t1 G1
    refine ⟨s2, t2, e2, f2, P1.tr P2, Q1.tr Q2, ?_⟩
    rcases O2 with ⟨G2, l', m1, m2, m3, m4⟩ | ⟨p, hp, sx, sm, z0, z1, z2, z3⟩
    · refine Or.inl ⟨G2, l ++ l', ?_, ?_, em.tr G.2.2.2.2.2.2.1.1 m2, ly.tr G.2.2.2.2.2.2.2.1.1 G.2.2.2.2.2.2.2.2.1 er m3, m4 _ (HE.2.2.2.2 m l el)⟩
      · rw [List.length_append]; omega
      · rw [List.length_append]; omega
    · refine Or.inr ⟨p, hp, sx, sm, z0, z1, z2, ?_⟩
      have e1 := ly.1
      have e2 := G1.mh
      have e3 := G.mh
      omega
  · exact ⟨s1, t1, hxs s1 p hp sx, hms t1 (by rw [sm, jlt, jl0]; omega), P1, Q1, Or.inr ⟨p, hp, sx, sm, z⟩⟩
theorem tmo_g {s t : SS} {d : Int32} (G : Rd s t d) : f_X7_timesOrOver s = if cuX s = 42 then some (-18, avX s) else if cuX s = 47 then some (-19, avX s) else if cuX s = 37 then some (-20, avX s) else some (0, s) := by
  unfold f_X7_timesOrOver
  rw [takes_g G (by decide)]
  by_cases h1 : cuX s = 42
  · rw [if_pos h1, if_pos h1, bd_some, if_neg (by decide)]
  rw [if_neg h1, if_neg h1, bd_some, if_pos rfl, takes_g G (by decide)]
  by_cases h2 : cuX s = 47
  · rw [if_pos h2, if_pos h2, bd_some, if_neg (by decide)]
  rw [if_neg h2, if_neg h2, bd_some, if_pos rfl, takes_g G (by decide)]
  by_cases h3 : cuX s = 37
  · rw [if_pos h3, if_pos h3, bd_some, if_neg (by decide)]
  rw [if_neg h3, if_neg h3, bd_some, if_pos rfl]
theorem tmo_s {s : SS} {p : Int32} (hp : 0 ≤ p.toInt) (h : StX s p) : f_X7_timesOrOver s = some (0, s) := by
  unfold f_X7_timesOrOver
  rw [h.takes hp (by decide), bd_some, if_pos rfl, h.takes hp (by decide), bd_some, if_pos rfl, h.takes hp (by decide), bd_some, if_pos rfl]
theorem pom_g {s t : SS} {d : Int32} (G : Rd s t d) : f_X7_plusOrMinus s = if cuX s = 43 then some (-16, avX s) else if cuX s = 45 then some (-17, avX s) else some (0, s) := by
  unfold f_X7_plusOrMinus
  rw [takes_g G (by decide)]
  by_cases h1 : cuX s = 43
  · rw [if_pos h1, if_pos h1, bd_some, if_neg (by decide)]
  rw [if_neg h1, if_neg h1, bd_some, if_pos rfl, takes_g G (by decide)]
  by_cases h2 : cuX s = 45
  · rw [if_pos h2, if_pos h2, bd_some, if_neg (by decide)]
  rw [if_neg h2, if_neg h2, bd_some, if_pos rfl]
theorem pom_s {s : SS} {p : Int32} (hp : 0 ≤ p.toInt) (h : StX s p) : f_X7_plusOrMinus s = some (0, s) := by
  unfold f_X7_plusOrMinus
  rw [h.takes hp (by decide), bd_some, if_pos rfl, h.takes hp (by decide), bd_some, if_pos rfl]
theorem sn42 : sgn 42 (-18) := ⟨by decide, by decide, by decide, Or.inr (Or.inr (Or.inr (Or.inr (Or.inr (Or.inr (Or.inr (Or.inl rfl))))))), by decide, by decide⟩
theorem sn47 : sgn 47 (-19) := ⟨by decide, by decide, by decide, Or.inr (Or.inr (Or.inr (Or.inr (Or.inr (Or.inr (Or.inr (Or.inr (Or.inl rfl)))))))), by decide, by decide⟩
theorem sn37 : sgn 37 (-20) := ⟨by decide, by decide, by decide, Or.inr (Or.inr (Or.inr (Or.inr (Or.inr (Or.inr (Or.inr (Or.inr (Or.inr rfl)))))))), by decide, by decide⟩
theorem sn43 : sgn 43 (-16) := ⟨by decide, by decide, by decide, Or.inr (Or.inr (Or.inr (Or.inr (Or.inr (Or.inl rfl))))), by decide, by decide⟩
theorem sn45 : sgn 45 (-17) := ⟨by decide, by decide, by decide, Or.inr (Or.inr (Or.inr (Or.inr (Or.inr (Or.inr (Or.inl rfl)))))), by decide, by decide⟩
theorem sn60 : sgn 60 (-13) := ⟨by decide, by decide, by decide, Or.inr (Or.inr (Or.inl rfl)), by decide, by decide⟩
theorem sn61 : sgn 61 (-14) := ⟨by decide, by decide, by decide, Or.inr (Or.inr (Or.inr (Or.inl rfl))), by decide, by decide⟩
theorem sn62 : sgn 62 (-15) := ⟨by decide, by decide, by decide, Or.inr (Or.inr (Or.inr (Or.inr (Or.inl rfl)))), by decide, by decide⟩
theorem sn38 : sgn 38 (-12) := ⟨by decide, by decide, by decide, Or.inr (Or.inl rfl), by decide, by decide⟩
theorem sn124 : sgn 124 (-11) := ⟨by decide, by decide, by decide, Or.inl rfl, by decide, by decide⟩
section LVL
variable {E : Nat → List Int32 → Prop} {m : Nat} {d : Int32} {rx : SS → Int32 → Option SS} {rm : SS → Option SS}
/-- pieces read alike -/
def HRd (E : Nat → List Int32 → Prop) (m : Nat) (d : Int32) (RX RM : SS → Option SS) : Prop := ∀ s t, Rd s t d → ∃ s' t', RX s = some s' ∧ RM t = some t' ∧ PE E m s t s' t' d
theorem prod_l (HE : EC E) (HR : HRd E m d (fun s => rx s d) rm) : HRd E (m + 1) d (fun s => f_X7_product rx s d) (fun t => f_X12_product rm t) := by
  intro s t G
  have loop := loopG HE (m := m) (d := d) (LX := fun n s x => bd (f_X7_timesOrOver s) fun r2 s2 => f_X7_product_L12 rx d n s2 r2 x) (LM := fun n t => f_X12_product_L4 rm n t) (RX := fun s => rx s d) (RM := rm) (kd := fun g k => (g = 42 ∧ k = -18) ∨ (g = 47 ∧ k = -19) ∨ (g = 37 ∧ k = -20)) (by
      rintro g k (⟨rfl, rfl⟩ | ⟨rfl, rfl⟩ | ⟨rfl, rfl⟩)
      · exact sn42
      · exact sn47
      · exact sn37) (by
      intro n s t x G h
      show (bd (f_X7_timesOrOver s) fun r2 s2 => f_X7_product_L12 rx d (n + 1) s2 r2 x) = some s
      rw [tmo_g G, if_neg (h 42 (-18) (Or.inl ⟨rfl, rfl⟩)), if_neg (h 47 (-19) (Or.inr (Or.inl ⟨rfl, rfl⟩))), if_neg (h 37 (-20) (Or.inr (Or.inr ⟨rfl, rfl⟩))), bd_some, f_X7_product_L12, f_X7_product_L12_b]
      by_cases z : x < 160
      · rw [if_pos z, if_pos rfl]
      · rw [if_neg z]) (by
      intro n s t x g k hk G c z
      show (bd (f_X7_timesOrOver s) fun r2 s2 => f_X7_product_L12 rx d (n + 1) s2 r2 x) = _
      have e : f_X7_timesOrOver s = some (k, avX s) := by
        rw [tmo_g G]
        rcases hk with ⟨rfl, rfl⟩ | ⟨rfl, rfl⟩ | ⟨rfl, rfl⟩
        · rw [if_pos c]
        · rw [if_neg (by rw [c]; decide), if_pos c]
        · rw [if_neg (by rw [c]; decide), if_neg (by rw [c]; decide), if_pos c]
      rw [e, bd_some, f_X7_product_L12, f_X7_product_L12_b, if_pos z, if_neg (by rcases hk with ⟨_, rfl⟩ | ⟨_, rfl⟩ | ⟨_, rfl⟩ <;> decide)]
      rfl) (by
      intro n s x p hp h
      show (bd (f_X7_timesOrOver s) fun r2 s2 => f_X7_product_L12 rx d (n + 1) s2 r2 x) = some s
      rw [tmo_s hp h, bd_some, f_X7_product_L12, f_X7_product_L12_b]
      by_cases z : x < 160
      · rw [if_pos z, if_pos rfl]
      · rw [if_neg z]) (by
      intro n s t G h
      show f_X12_product_L4 rm (n + 1) t = some t
      rw [f_X12_product_L4, f_X12_product_L4_b, if_pos (by rw [G.2.2.1]; decide), G.look, b1_some, jn, if_neg (h 42 (-18) (Or.inl ⟨rfl, rfl⟩)), b1_some, if_neg (h 47 (-19) (Or.inr (Or.inl ⟨rfl, rfl⟩))), b1_some, if_neg (h 37 (-20) (Or.inr (Or.inr ⟨rfl, rfl⟩)))]) (by
      intro n s t g k hk G c
      show f_X12_product_L4 rm (n + 1) t = _
      rw [f_X12_product_L4, f_X12_product_L4_b, if_pos (by rw [G.2.2.1]; decide), G.look, b1_some, jn]
      rcases hk with ⟨rfl, rfl⟩ | ⟨rfl, rfl⟩ | ⟨rfl, rfl⟩
      · rw [if_pos c, b1_some, vl, st, c]
        rfl
      · rw [if_neg (by rw [c]; decide), b1_some, if_pos c, b1_some, vl, st, c]
        rfl
      · rw [if_neg (by rw [c]; decide), b1_some, if_neg (by rw [c]; decide), b1_some, if_pos c, b1_some, vl, st, c]
        rfl) (by
      intro n t h
      show f_X12_product_L4 rm (n + 1) t = some t
      rw [f_X12_product_L4, f_X12_product_L4_b, if_neg h]) HR
  exact levelG HE (LX := fun s => bd (f_X7_timesOrOver s) fun r2 s2 => f_X7_product_L12 rx d 4000 s2 r2 0) (LM := fun t => f_X12_product_L4 rm 4000 t) (RX := fun s => rx s d) (RM := rm) (fun s t G => loop 4000 s t 0 G (by have := G.2.2.2.2.1; have := G.1.2.1; omega) (by decide) (by rw [jl0]; exact G.2.2.2.2.1.1)) (by
      intro s p hp h
      show (bd (f_X7_timesOrOver s) fun r2 s2 => f_X7_product_L12 rx d (3999 + 1) s2 r2 0) = some s
      rw [tmo_s hp h, bd_some, f_X7_product_L12, f_X7_product_L12_b, if_pos (by decide), if_pos rfl]) (by
      intro t h
      show f_X12_product_L4 rm (3999 + 1) t = some t
      rw [f_X12_product_L4, f_X12_product_L4_b, if_neg h]) HR s t G
theorem sum_l (HE : EC E) (HR : HRd E m d (fun s => f_X7_product rx s d) (fun t => f_X12_product rm t)) : HRd E (m + 1) d (fun s => f_X7_sum rx s d) (fun t => f_X12_sum rm t) := by
  intro s t G
  have loop := loopG HE (m := m) (d := d) (LX := fun n s x => bd (f_X7_plusOrMinus s) fun r2 s2 => f_X7_sum_L12 rx d n s2 r2 x) (LM := fun n t => f_X12_sum_L4 rm n t) (RX := fun s => f_X7_product rx s d) (RM := fun t => f_X12_product rm t) (kd := fun g k => (g = 43 ∧ k = -16) ∨ (g = 45 ∧ k = -17)) (by
      rintro g k (⟨rfl, rfl⟩ | ⟨rfl, rfl⟩)
      · exact sn43
      · exact sn45) (by
      intro n s t x G h
      show (bd (f_X7_plusOrMinus s) fun r2 s2 => f_X7_sum_L12 rx d (n + 1) s2 r2 x) = some s
      rw [pom_g G, if_neg (h 43 (-16) (Or.inl ⟨rfl, rfl⟩)), if_neg (h 45 (-17) (Or.inr ⟨rfl, rfl⟩)), bd_some, f_X7_sum_L12, f_X7_sum_L12_b]
      by_cases z : x < 160
      · rw [if_pos z, if_pos rfl]
      · rw [if_neg z]) (by
      intro n s t x g k hk G c z
      show (bd (f_X7_plusOrMinus s) fun r2 s2 => f_X7_sum_L12 rx d (n + 1) s2 r2 x) = _
      have e : f_X7_plusOrMinus s = some (k, avX s) := by
        rw [pom_g G]
        rcases hk with ⟨rfl, rfl⟩ | ⟨rfl, rfl⟩
        · rw [if_pos c]
        · rw [if_neg (by rw [c]; decide), if_pos c]
      rw [e, bd_some, f_X7_sum_L12, f_X7_sum_L12_b, if_pos z, if_neg (by rcases hk with ⟨_, rfl⟩ | ⟨_, rfl⟩ <;> decide)]
      rfl) (by
      intro n s x p hp h
      show (bd (f_X7_plusOrMinus s) fun r2 s2 => f_X7_sum_L12 rx d (n + 1) s2 r2 x) = some s
      rw [pom_s hp h, bd_some, f_X7_sum_L12, f_X7_sum_L12_b]
      by_cases z : x < 160
      · rw [if_pos z, if_pos rfl]
      · rw [if_neg z]) (by
      intro n s t G h
      show f_X12_sum_L4 rm (n + 1) t = some t
      rw [f_X12_sum_L4, f_X12_sum_L4_b, if_pos (by rw [G.2.2.1]; decide), G.look, b1_some, jn, if_neg (h 43 (-16) (Or.inl ⟨rfl, rfl⟩)), b1_some, if_neg (h 45 (-17) (Or.inr ⟨rfl, rfl⟩))]) (by
      intro n s t g k hk G c
      show f_X12_sum_L4 rm (n + 1) t = _
      rw [f_X12_sum_L4, f_X12_sum_L4_b, if_pos (by rw [G.2.2.1]; decide), G.look, b1_some, jn]
      rcases hk with ⟨rfl, rfl⟩ | ⟨rfl, rfl⟩
      · rw [if_pos c, b1_some, vl, st, c]
        rfl
      · rw [if_neg (by rw [c]; decide), b1_some, if_pos c, b1_some, vl, st, c]
        rfl) (by
      intro n t h
      show f_X12_sum_L4 rm (n + 1) t = some t
      rw [f_X12_sum_L4, f_X12_sum_L4_b, if_neg h]) HR
  exact levelG HE (LX := fun s => bd (f_X7_plusOrMinus s) fun r2 s2 => f_X7_sum_L12 rx d 4000 s2 r2 0) (LM := fun t => f_X12_sum_L4 rm 4000 t) (RX := fun s => f_X7_product rx s d) (RM := fun t => f_X12_product rm t) (fun s t G => loop 4000 s t 0 G (by have := G.2.2.2.2.1; have := G.1.2.1; omega) (by decide) (by rw [jl0]; exact G.2.2.2.2.1.1)) (by
      intro s p hp h
      show (bd (f_X7_plusOrMinus s) fun r2 s2 => f_X7_sum_L12 rx d (3999 + 1) s2 r2 0) = some s
      rw [pom_s hp h, bd_some, f_X7_sum_L12, f_X7_sum_L12_b, if_pos (by decide), if_pos rfl]) (by
      intro t h
      show f_X12_sum_L4 rm (3999 + 1) t = some t
      rw [f_X12_sum_L4, f_X12_sum_L4_b, if_neg h]) HR s t G
theorem both_l (HE : EC E) (HR : HRd E m d (fun s => f_X7_compared rx s d) (fun t => f_X12_compared rm t)) : HRd E (m + 1) d (fun s => f_X7_both rx s d) (fun t => f_X12_all rm t) := by
  intro s t G
  have loop := loopG HE (m := m) (d := d) (LX := fun n s x => f_X7_both_L7 rx d n s x) (LM := fun n t => f_X12_all_L4 rm n t) (RX := fun s => f_X7_compared rx s d) (RM := fun t => f_X12_compared rm t) (kd := fun g k => g = 38 ∧ k = -12) (by
      rintro g k ⟨rfl, rfl⟩
      exact sn38) (by
      intro n s t x G h
      show f_X7_both_L7 rx d (n + 1) s x = some s
      rw [f_X7_both_L7, f_X7_both_L7_b]
      by_cases z : x < 160
      · rw [if_pos z, takes_g G (by decide), if_neg (h 38 (-12) ⟨rfl, rfl⟩), bd_some, if_pos rfl]
      · rw [if_neg z]) (by
      rintro n s t x g k ⟨rfl, rfl⟩ G c z
      show f_X7_both_L7 rx d (n + 1) s x = _
      rw [f_X7_both_L7, f_X7_both_L7_b, if_pos z, takes_g G (by decide), if_pos c, bd_some, if_neg (by decide)]
      rfl) (by
      intro n s x p hp h
      show f_X7_both_L7 rx d (n + 1) s x = some s
      rw [f_X7_both_L7, f_X7_both_L7_b]
      by_cases z : x < 160
      · rw [if_pos z, h.takes hp (by decide), bd_some, if_pos rfl]
      · rw [if_neg z]) (by
      intro n s t G h
      show f_X12_all_L4 rm (n + 1) t = some t
      rw [f_X12_all_L4, f_X12_all_L4_b, if_pos (by rw [G.2.2.1]; decide), G.look, b1_some, if_neg (h 38 (-12) ⟨rfl, rfl⟩)]) (by
      rintro n s t g k ⟨rfl, rfl⟩ G c
      show f_X12_all_L4 rm (n + 1) t = _
      rw [f_X12_all_L4, f_X12_all_L4_b, if_pos (by rw [G.2.2.1]; decide), G.look, b1_some, if_pos c, vl, st]
      rfl) (by
      intro n t h
      show f_X12_all_L4 rm (n + 1) t = some t
      rw [f_X12_all_L4, f_X12_all_L4_b, if_neg h]) HR
  exact levelG HE (LX := fun s => f_X7_both_L7 rx d 4000 s 0) (LM := fun t => f_X12_all_L4 rm 4000 t) (RX := fun s => f_X7_compared rx s d) (RM := fun t => f_X12_compared rm t) (fun s t G => loop 4000 s t 0 G (by have := G.2.2.2.2.1; have := G.1.2.1; omega) (by decide) (by rw [jl0]; exact G.2.2.2.2.1.1)) (by
      intro s p hp h
      show f_X7_both_L7 rx d (3999 + 1) s 0 = some s
      rw [f_X7_both_L7, f_X7_both_L7_b, if_pos (by decide), h.takes hp (by decide), bd_some, if_pos rfl]) (by
      intro t h
      show f_X12_all_L4 rm (3999 + 1) t = some t
      rw [f_X12_all_L4, f_X12_all_L4_b, if_neg h]) HR s t G
theorem eith_l (HE : EC E) (HR : HRd E m d (fun s => f_X7_both rx s d) (fun t => f_X12_all rm t)) : HRd E (m + 1) d (fun s => f_X7_either rx s d) (fun t => f_X12_either rm t) := by
  intro s t G
  have loop := loopG HE (m := m) (d := d) (LX := fun n s x => f_X7_either_L7 rx d n s x) (LM := fun n t => f_X12_either_L4 rm n t) (RX := fun s => f_X7_both rx s d) (RM := fun t => f_X12_all rm t) (kd := fun g k => g = 124 ∧ k = -11) (by
      rintro g k ⟨rfl, rfl⟩
      exact sn124) (by
      intro n s t x G h
      show f_X7_either_L7 rx d (n + 1) s x = some s
      rw [f_X7_either_L7, f_X7_either_L7_b]
      by_cases z : x < 160
      · rw [if_pos z, takes_g G (by decide), if_neg (h 124 (-11) ⟨rfl, rfl⟩), bd_some, if_pos rfl]
      · rw [if_neg z]) (by
      rintro n s t x g k ⟨rfl, rfl⟩ G c z
      show f_X7_either_L7 rx d (n + 1) s x = _
      rw [f_X7_either_L7, f_X7_either_L7_b, if_pos z, takes_g G (by decide), if_pos c, bd_some, if_neg (by decide)]
      rfl) (by
      intro n s x p hp h
      show f_X7_either_L7 rx d (n + 1) s x = some s
      rw [f_X7_either_L7, f_X7_either_L7_b]
      by_cases z : x < 160
      · rw [if_pos z, h.takes hp (by decide), bd_some, if_pos rfl]
      · rw [if_neg z]) (by
      intro n s t G h
      show f_X12_either_L4 rm (n + 1) t = some t
      rw [f_X12_either_L4, f_X12_either_L4_b, if_pos (by rw [G.2.2.1]; decide), G.look, b1_some, if_neg (h 124 (-11) ⟨rfl, rfl⟩)]) (by
      rintro n s t g k ⟨rfl, rfl⟩ G c
      show f_X12_either_L4 rm (n + 1) t = _
      rw [f_X12_either_L4, f_X12_either_L4_b, if_pos (by rw [G.2.2.1]; decide), G.look, b1_some, if_pos c, vl, st]
      rfl) (by
      intro n t h
      show f_X12_either_L4 rm (n + 1) t = some t
      rw [f_X12_either_L4, f_X12_either_L4_b, if_neg h]) HR
  exact levelG HE (LX := fun s => f_X7_either_L7 rx d 4000 s 0) (LM := fun t => f_X12_either_L4 rm 4000 t) (RX := fun s => f_X7_both rx s d) (RM := fun t => f_X12_all rm t) (fun s t G => loop 4000 s t 0 G (by have := G.2.2.2.2.1; have := G.1.2.1; omega) (by decide) (by rw [jl0]; exact G.2.2.2.2.1.1)) (by
      intro s p hp h
      show f_X7_either_L7 rx d (3999 + 1) s 0 = some s
      rw [f_X7_either_L7, f_X7_either_L7_b, if_pos (by decide), h.takes hp (by decide), bd_some, if_pos rfl]) (by
      intro t h
      show f_X12_either_L4 rm (3999 + 1) t = some t
      rw [f_X12_either_L4, f_X12_either_L4_b, if_neg h]) HR s t G
end LVL
/-! compared -/
theorem Stk.look {s t s' t' : SS} {d : Int32} (G : Rd s t d) (Q : PkM t t') (h : Stk s t s' t') : ∃ r, f_X12_look t' = some r := by
  obtain ⟨p, hp, sx, sm, z0, z1, z2, z3⟩ := h
  have e := G.mh
  have hl := G.2.2.2.2.2.2.2.1
  have hn : (zS t' 59 37).toInt ≤ 160 := by
    rw [Q.1 59 37 (by omega), ← G.1.1]
    exact G.1.2.1.2
  exact ⟨_, look_g (by omega) hn⟩
section LVL2
variable {E : Nat → List Int32 → Prop} {m : Nat} {d : Int32} {rx : SS → Int32 → Option SS} {rm : SS → Option SS}
theorem cmpX_g {s t : SS} {d : Int32} {rx : SS → Int32 → Option SS} (G : Rd s t d) : (bd (f_X7_takes s 60) fun r2 s2 => (jn (fun (s3 : SS) (t3_0 : Int32) => (if t3_0 = (0 : Int32) then some s3 else (b1 (f_X7_sum rx s3 d) fun s5 => (b1 (f_X7_emit s5 t3_0) fun s6 => some s6)))) fun k3 => (if r2 = (0 : Int32) then (bd (f_X7_takes s2 61) fun r8 s8 => (if r8 = (0 : Int32) then (bd (f_X7_takes s8 62) fun r11 s11 => (if r11 = (0 : Int32) then (k3 s11 0) else (k3 s11 (-15)))) else (k3 s8 (-14)))) else (k3 s2 (-13))))) = if cuX s = 60 then (b1 (f_X7_sum rx (avX s) d) fun s5 => (b1 (f_X7_emit s5 (-13)) fun s6 => some s6)) else if cuX s = 61 then (b1 (f_X7_sum rx (avX s) d) fun s5 => (b1 (f_X7_emit s5 (-14)) fun s6 => some s6)) else if cuX s = 62 then (b1 (f_X7_sum rx (avX s) d) fun s5 => (b1 (f_X7_emit s5 (-15)) fun s6 => some s6)) else some s := by
  rw [takes_g G (by decide)]
  by_cases h1 : cuX s = 60
  · rw [if_pos h1, if_pos h1, bd_some, jn, if_neg (by decide)]
    rfl
  rw [if_neg h1, if_neg h1, bd_some, jn, if_pos rfl, takes_g G (by decide)]
  by_cases h2 : cuX s = 61
  · rw [if_pos h2, if_pos h2, bd_some, if_neg (by decide)]
    rfl
  rw [if_neg h2, if_neg h2, bd_some, if_pos rfl, takes_g G (by decide)]
  by_cases h3 : cuX s = 62
  · rw [if_pos h3, if_pos h3, bd_some, if_neg (by decide)]
    rfl
  rw [if_neg h3, if_neg h3, bd_some, if_pos rfl]
  rfl
theorem cmp_l (HE : EC E) (HR : HRd E m d (fun s => f_X7_sum rx s d) (fun t => f_X12_sum rm t)) : HRd E (m + 1) d (fun s => f_X7_compared rx s d) (fun t => f_X12_compared rm t) := by
  intro s t G
  obtain ⟨s1, t1, eX, eM, P1, Q1, O⟩ := HR s t G
  have eX' : f_X7_sum rx s d = some s1 := eX
  have eM' : f_X12_sum rm t = some t1 := eM
  show ∃ s' t', f_X7_compared rx s d = some s' ∧ f_X12_compared rm t = some t' ∧ PE E (m + 1) s t s' t' d
  unfold f_X7_compared f_X12_compared
  rw [eX', b1_some, eM', b1_some]
  have er : mr t1 = mr t := by unfold mr; rw [Q1.r]
  rcases O with ⟨G1, l, l1, l2, em, ly, el⟩ | ⟨p, hp, sx, sm, z⟩
  · rw [cmpX_g G1, G1.look, b1_some, if_pos (show zS t1 59 48 < 0 from by rw [G1.2.2.1]; decide), jn]
    have ha1 := G1.2.2.2.2.1
    have h160 := G1.1.2.1
    have go : ∀ g k, sgn g k → cuX s1 = g → ∃ s' t', (b1 (f_X7_sum rx (avX s1) d) fun s5 => (b1 (f_X7_emit s5 k) fun s6 => some s6)) = some s' ∧ (vl (((zS t1 59 47) + (1 : Int32))) fun v5 => (st (pS t1 59 47 v5) fun s6 => (b1 (f_X12_sum rm s6) fun s7 => (b1 (f_X12_lay s7 (cuM t1) 0) fun s8 => some s8)))) = some t' ∧ PE E (m + 1) s t s' t' d := by
      intro g k hk cg
      obtain ⟨g0, g1, g2, g3, g4, g5⟩ := hk
      have lt := (G1.lt g0 cg).2
      obtain ⟨G2, ea2⟩ := G1.av lt
      obtain ⟨s5, t8, eX5, eM8, P5, Q8, O5⟩ := HR _ _ G2
      have eX5' : f_X7_sum rx (avX s1) d = some s5 := eX5
      have eM8' : f_X12_sum rm (avM t1) = some t8 := eM8
      have ezA : xz (avX s1) = xz s1 := by unfold xz avX; rw [zS_pS, if_neg (by omega)]
      have elA : ml (avM t1) = ml t1 := by unfold ml avM; rw [zS_pS, if_neg (by omega)]
      have erA : mr (avM t1) = mr t1 := by unfold mr avM; rw [zS_pS, if_neg (by omega)]
      have er8 : mr t8 = mr (avM t1) := by unfold mr; rw [Q8.r]
      have ec : cuM t1 = g := (G1.ch ⟨g0, g1⟩).1 cg
      rw [vl, st, eX5', b1_some, show pS t1 59 47 (zS t1 59 47 + 1) = avM t1 from rfl, eM8', b1_some, ec]
      have emA : Em s1 (avX s1) [] := Em.nil (by unfold avX; rw [zS_pS, if_neg (by omega)]) (fun _ => rfl)
      have lyA : Ly t1 (avM t1) [] := Ly.nil (by unfold avM; rw [zS_pS, if_neg (by omega)]) (fun _ => rfl) (fun _ => rfl)
      rcases O5 with ⟨G5, l', m1, m2, em5, ly5, el5⟩ | ⟨p, hp, sx, sm, z0, z1, z2, z3⟩
      · have hz5' := G5.2.2.2.2.2.2.1
        have hl5' := G5.2.2.2.2.2.2.2.1
        have hr5' := G5.2.2.2.2.2.2.2.2
        have b5 := G5.2.2.2.2.1
        have h160' := G5.1.2.1
        have hz5 : xz s5 < xa s5 := by rw [em5.1, ezA]; rw [ea2] at m2; have := G1.2.2.2.2.2.2.1; omega
        have hl5 : ml t8 < xa s5 := by rw [ly5.1, elA]; rw [ea2] at m2; have := G1.2.2.2.2.2.2.2.1; omega
        obtain ⟨G6, ea6⟩ := G5.em (c := k) (a := g) (w := 0) hz5 hl5
        rw [emit_g (by rw [G5.2.1]; decide) ⟨hz5'.1, by omega⟩, b1_some, lay_g hr5' ⟨hl5'.1, by omega⟩, b1_some]
        refine ⟨_, _, rfl, rfl, P1.tr (PkX.av.tr (P5.tr PkX.em)), Q1.tr (PkM.av.tr (Q8.tr PkM.ly)), Or.inl ⟨G6, l ++ (l' ++ [k]), ?_, ?_, ?_, ?_, HE.2.2.2.1 m l l' k g3 (HE.2.2.2.2 m l el) el5⟩⟩
        · rw [List.length_append]; omega
        · rw [List.length_append, List.length_append, ea6]
          rw [ea2] at m2
          have : (([k] : List Int32).length : Int) = 1 := rfl
          omega
        · have h1 := (emA.tr G1.2.2.2.2.2.2.1.1 em5).tr G1.2.2.2.2.2.2.1.1 (Em.one (c := k) ⟨hz5'.1, by omega⟩)
          rw [List.nil_append] at h1
          exact em.tr G.2.2.2.2.2.2.1.1 h1
        · have h1 := (lyA.tr G1.2.2.2.2.2.2.2.1.1 G1.2.2.2.2.2.2.2.2.1 erA ly5).tr G1.2.2.2.2.2.2.2.1.1 G1.2.2.2.2.2.2.2.2.1 (by rw [er8, erA]) (Ly.one (c := k) (a := g) (w := 0) ⟨hl5'.1, by omega⟩ hr5'.1 g4 g5)
          rw [List.nil_append] at h1
          exact ly.tr G.2.2.2.2.2.2.2.1.1 G.2.2.2.2.2.2.2.2.1 er h1
      · obtain ⟨s6, e6, P6, sx6, z6⟩ := sx.emit (c := k) hp z0
        have er8' : mr t8 = mr t1 := by rw [er8, erA]
        have hh : mh (avM t1) = mh t1 + 1 := by rw [G2.mh, ea2, G1.mh]
        have hmh := G1.mh
        have hmh0 := G.mh
        have hl := G1.2.2.2.2.2.2.2.1
        have hly := ly.1
        rw [elA, hh] at z3
        rw [e6, b1_some, lay_g (by rw [er8']; exact G1.2.2.2.2.2.2.2.2) ⟨z1, by omega⟩, b1_some]
        have sm' : zS (lyM t8 g 0) 59 48 = p := by unfold lyM; rw [zS_pS, if_neg (by omega), zS_pI, zS_pI]; exact sm
        have ly1 := (Ly.one (s := t8) (c := k) (a := g) (w := 0) ⟨z1, by omega⟩ (by rw [er8']; exact G1.2.2.2.2.2.2.2.2.1) g4 g5).1
        have mh1 : mh (lyM t8 g 0) = mh t8 := by
          show (zS (lyM t8 g 0) 59 47).toInt = (zS t8 59 47).toInt
          unfold lyM
          rw [zS_pS, if_neg (by omega), zS_pI, zS_pI]
        have one : (([k] : List Int32).length : Int) = 1 := rfl
        refine ⟨s6, lyM t8 g 0, rfl, rfl, P1.tr (PkX.av.tr (P5.tr P6)), Q1.tr (PkM.av.tr (Q8.tr PkM.ly)), Or.inr ⟨p, hp, sx6, sm', z6, ?_, ?_, ?_⟩⟩
        · rw [ly1]; omega
        · rw [mh1]; exact z2
        · rw [ly1, mh1]
          omega
    by_cases h1 : cuX s1 = 60
    · rw [if_pos h1, if_pos ((G1.ch (by decide)).1 h1)]
      exact go 60 (-13) sn60 h1
    rw [if_neg h1, if_neg (fun z => h1 ((G1.ch (by decide)).2 z))]
    by_cases h2 : cuX s1 = 61
    · rw [if_pos h2, if_pos ((G1.ch (by decide)).1 h2)]
      exact go 61 (-14) sn61 h2
    rw [if_neg h2, if_neg (fun z => h2 ((G1.ch (by decide)).2 z))]
    by_cases h3 : cuX s1 = 62
    · rw [if_pos h3, if_pos ((G1.ch (by decide)).1 h3)]
      exact go 62 (-15) sn62 h3
    rw [if_neg h3, if_neg (fun z => h3 ((G1.ch (by decide)).2 z))]
    exact ⟨s1, t1, rfl, rfl, P1, Q1, Or.inl ⟨G1, l, l1, l2, em, ly, HE.2.2.2.2 m l el⟩⟩
  · obtain ⟨r, er⟩ := Stk.look (s' := s1) G Q1 ⟨p, hp, sx, sm, z⟩
    rw [sx.takes hp (by decide), bd_some, jn, if_pos rfl, sx.takes hp (by decide), bd_some, if_pos rfl, sx.takes hp (by decide), bd_some, if_pos rfl, er, b1_some, if_neg (show ¬ zS t1 59 48 < 0 from by rw [sm, jlt, jl0]; omega)]
    exact ⟨s1, t1, rfl, rfl, P1, Q1, Or.inr ⟨p, hp, sx, sm, z⟩⟩
theorem eith_all (HE : EC E) (HR : HRd E m d (fun s => rx s d) rm) : HRd E (m + 5) d (fun s => f_X7_either rx s d) (fun t => f_X12_either rm t) := eith_l HE (both_l HE (cmp_l HE (sum_l HE (prod_l HE HR))))
end LVL2
/-! operands: numbers, names, brackets -/
def dg (c : Int32) : Prop := 48 ≤ c.toInt ∧ c.toInt ≤ 57
def nmJ (c : Nat) : Int32 := ixN (((Int32.ofNat c).toUInt32 % 65536).toInt32)
set_option maxRecDepth 20000 in
theorem nm_all : ∀ c, c < 256 → f_X12_nameOf ((Int32.ofNat c).toInt8.toInt32) = some (nmJ c) ∧ ((Int32.ofNat c).toInt8.toInt32).toInt = (if c < 128 then (c : Int) else (c : Int) - 256) ∧ (Int32.ofNat c).toInt = (c : Int) ∧ ((nmJ c = -1) ∨ (0 ≤ (nmJ c).toInt ∧ (nmJ c).toInt ≤ 7 ∧ 57 < c ∧ tkA (-1 - nmJ c) = 2 ∧ tkW (-1 - nmJ c) = nmJ c)) := by decide +kernel
theorem isd_g {s t : SS} {d : Int32} (G : Rd s t d) : f_X7_isDigit s = some (if 48 ≤ (cuX s).toInt ∧ (cuX s).toInt ≤ 57 then 1 else 0) := by
  obtain ⟨⟨e1, hn, tp⟩, e2, _, e4, ha, _⟩ := G
  unfold xa xn at ha
  unfold xn at hn
  have j48 : (48 : Int32).toInt = 48 := rfl
  have j57 : (57 : Int32).toInt = 57 := rfl
  unfold f_X7_isDigit cuX
  by_cases h : zS s 24 4 < zS s 24 1
  · rw [if_pos h, if_pos h, vl]
    rw [jlt] at h
    rw [gd_t ⟨by omega, by omega⟩]
    by_cases z : zI s 25 (zS s 24 4).toInt.toNat < 48
    · rw [if_pos z, if_neg]
      rw [jlt, j48] at z
      omega
    · rw [if_neg z, vl, gd_t ⟨by omega, by omega⟩]
      rw [jlt, j48] at z
      by_cases w : (57 : Int32) < zI s 25 (zS s 24 4).toInt.toNat
      · rw [if_pos w, if_neg]
        rw [jlt, j57] at w
        omega
      · rw [if_neg w, if_pos]
        rw [jlt, j57] at w
        omega
  · rw [if_neg h, if_neg h, if_neg (by decide)]
/-- the reference's byte, for a digit and for none -/
theorem Rd.dg {s t : SS} {d : Int32} (G : Rd s t d) : (dg (cuX s) ↔ dg (cuM t)) ∧ (dg (cuX s) → cuM t = cuX s) := by
  obtain ⟨⟨e1, hn, tp⟩, _, _, e4, ha, _⟩ := G
  unfold xa xn at ha
  unfold xn at hn
  show ((48 ≤ (cuX s).toInt ∧ (cuX s).toInt ≤ 57) ↔ (48 ≤ (cuM t).toInt ∧ (cuM t).toInt ≤ 57)) ∧ ((48 ≤ (cuX s).toInt ∧ (cuX s).toInt ≤ 57) → cuM t = cuX s)
  unfold cuX cuM
  rw [← e4, ← e1]
  by_cases h : zS s 24 4 < zS s 24 1
  · rw [if_pos h, if_pos h]
    rw [jlt] at h
    obtain ⟨b1, b2, b3⟩ := tp (zS s 24 4).toInt.toNat (by omega)
    by_cases w : (zI s 25 (zS s 24 4).toInt.toNat).toInt < 128
    · rw [if_pos w] at b3
      exact ⟨by rw [b3], fun _ => Int32.toInt_inj.1 b3⟩
    · rw [if_neg w] at b3
      refine ⟨⟨fun z => by omega, fun z => by omega⟩, fun z => by omega⟩
  · rw [if_neg h, if_neg h]
    exact ⟨Iff.rfl, fun _ => rfl⟩
theorem Rd.nm {s t : SS} {d : Int32} (G : Rd s t d) : ∃ j : Int32, f_X12_nameOf (cuM t) = some j ∧ (zS s 24 4 < zS s 24 1 → ixN (((zI s 25 (zS s 24 4).toInt.toNat).toUInt32 % 65536).toInt32) = j) ∧ (j = -1 ∨ (0 ≤ j.toInt ∧ j.toInt ≤ 7 ∧ 57 < (cuX s).toInt ∧ zS s 24 4 < zS s 24 1 ∧ tkA (-1 - j) = 2 ∧ tkW (-1 - j) = j)) ∧ (¬ zS s 24 4 < zS s 24 1 → j = -1) := by
  obtain ⟨⟨e1, hn, tp⟩, _, _, e4, ha, _⟩ := G
  unfold xa xn at ha
  unfold xn at hn
  unfold cuM cuX
  rw [← e4, ← e1]
  by_cases h : zS s 24 4 < zS s 24 1
  · rw [if_pos h, if_pos h]
    have h' := h
    rw [jlt] at h'
    obtain ⟨b1, b2, b3⟩ := tp (zS s 24 4).toInt.toNat (by omega)
    obtain ⟨c, ec⟩ : ∃ c : Nat, (zI s 25 (zS s 24 4).toInt.toNat).toInt = c := ⟨_, (Int.toNat_of_nonneg b1).symm⟩
    rw [ec] at b2 b3
    obtain ⟨n1, n2, n3, n4⟩ := nm_all c (by omega)
    have ex : zI s 25 (zS s 24 4).toInt.toNat = Int32.ofNat c := Int32.toInt_inj.1 (by rw [ec, n3])
    have eM : zI t 86 (zS s 24 4).toInt.toNat = (Int32.ofNat c).toInt8.toInt32 := by
      refine Int32.toInt_inj.1 ?_
      rw [b3, n2]
      by_cases w : c < 128
      · rw [if_pos w, if_pos (by omega)]
      · rw [if_neg w, if_neg (by omega)]
    rw [eM, ex]
    refine ⟨nmJ c, n1, fun _ => rfl, ?_, fun z => absurd h z⟩
    rcases n4 with z | ⟨z1, z2, z3, z4⟩
    · exact Or.inl z
    · exact Or.inr ⟨z1, z2, by rw [n3]; omega, h, z4⟩
  · rw [if_neg h, if_neg h]
    exact ⟨-1, by decide, fun z => absurd z h, Or.inl rfl, fun _ => rfl⟩
def nv (k v : Int) : Prop := (k = 0 ∧ v = 0) ∨ (k = 1 ∧ 0 ≤ v ∧ v ≤ 9) ∨ (k = 2 ∧ 0 ≤ v ∧ v ≤ 99) ∨ (k = 3 ∧ 0 ≤ v ∧ v ≤ 999) ∨ (k = 4 ∧ 0 ≤ v ∧ v ≤ 9999) ∨ (k = 5 ∧ 0 ≤ v ∧ v ≤ 99999)
/-- digits: the class's loop and the reference's -/
theorem num_l {d : Int32} {q0 : SS → Int32 → Option SS} {rm : SS → Option SS} {q1 : SS → Int32 → Int32 → Option SS} : ∀ (n : Nat) (s t : SS) (v k : Int32), Rd s t d → nv k.toInt v.toInt → 5 - k.toInt < n → ∃ s' t' v' k', f_X7_number_L4 q0 n s v k = q0 s' v' ∧ f_X12_operand_L148 rm q1 n t k v = q1 t' k' v' ∧ Rd s' t' d ∧ nv k'.toInt v'.toInt ∧ (k'.toInt = 5 ∨ ¬ dg (cuX s')) ∧ PkX s s' ∧ PkM t t' ∧ xa s' = xa s + (k'.toInt - k.toInt) ∧ Em s s' [] ∧ Ly t t' [] ∧ k.toInt ≤ k'.toInt ∧ (dg (cuX s) → k.toInt < 5 → k.toInt < k'.toInt)
  | 0, s, t, v, k, _, h, hn => by
    unfold nv at h
    omega
  | n + 1, s, t, v, k, G, h, hn => by
    have j5 : (5 : Int32).toInt = 5 := rfl
    have j10 : (10 : Int32).toInt = 10 := rfl
    have j48 : (48 : Int32).toInt = 48 := rfl
    have j57 : (57 : Int32).toInt = 57 := rfl
    have hv : nv k.toInt v.toInt := h
    unfold nv at h
    rw [f_X7_number_L4, f_X7_number_L4_b, f_X12_operand_L148, f_X12_operand_L148_b]
    have stop : (k.toInt = 5 ∨ ¬ dg (cuX s)) → ∃ s' t' v' k', q0 s v = q0 s' v' ∧ q1 t k v = q1 t' k' v' ∧ Rd s' t' d ∧ nv k'.toInt v'.toInt ∧ (k'.toInt = 5 ∨ ¬ dg (cuX s')) ∧ PkX s s' ∧ PkM t t' ∧ xa s' = xa s + (k'.toInt - k.toInt) ∧ Em s s' [] ∧ Ly t t' [] ∧ k.toInt ≤ k'.toInt ∧ (dg (cuX s) → k.toInt < 5 → k.toInt < k'.toInt) := fun z => ⟨s, t, v, k, rfl, rfl, G, hv, z, PkX.rf, PkM.rf, by omega, Em.nil rfl (fun _ => rfl), Ly.nil rfl (fun _ => rfl) (fun _ => rfl), by omega, fun w u => by
      rcases z with z | z
      · omega
      · exact absurd w z⟩
    by_cases hk : k < 5
    · rw [if_pos hk, if_pos hk, isd_g G, b1_some, G.look, b1_some]
      rw [jlt, j5] at hk
      by_cases z : dg (cuX s)
      · have zm := G.dg.1.1 z
        have lt := (G.lt (k := cuX s) (by unfold dg at z; omega) rfl)
        rw [if_pos (show 48 ≤ (cuX s).toInt ∧ (cuX s).toInt ≤ 57 from z), if_neg (by decide), in_t (by rw [j48, j57]; exact zm), b1_some, if_neg (by decide), b1_some, G.dg.2 z]
        have ha := G.2.2.2.2.1
        have h160 := G.1.2.1
        unfold xa xn at ha
        unfold xn at h160
        have ec : cuX s = zI s 25 (zS s 24 4).toInt.toNat := by unfold cuX; rw [if_pos lt.1]
        have lt' := lt.1
        rw [jlt] at lt'
        rw [vl, gd_t ⟨by omega, by omega⟩, vl, vl, st, vl, vl, vl, vl, st, ← ec]
        obtain ⟨G1, ea1⟩ := G.av lt.2
        have m1 : (v * 10).toInt = v.toInt * 10 := by rw [i32_mul (by rw [j10]; omega) (by rw [j10]; omega), j10]
        have m2 : (v * 10 + cuX s).toInt = v.toInt * 10 + (cuX s).toInt := by
          unfold dg at z
          rw [i32_add (by omega) (by omega), m1]
        have m3 : (v * 10 + cuX s - 48).toInt = v.toInt * 10 + (cuX s).toInt - 48 := by
          unfold dg at z
          rw [i32_sub (by rw [m2, j48]; omega) (by rw [m2, j48]; omega), m2, j48]
        have k1 : (k + 1).toInt = k.toInt + 1 := by rw [i32_add (by rw [jl1]; omega) (by rw [jl1]; omega), jl1]
        have nv1 : nv (k + 1).toInt (v * 10 + cuX s - 48).toInt := by
          unfold dg at z
          unfold nv
          rw [m3, k1]
          clear stop
          omega
        have hv0 : 0 ≤ k.toInt := by omega
        rw [show (10 : Int32) * v = v * 10 from Int32.mul_comm _ _]
        obtain ⟨s', t', v', k', eX, eM, G', n', st', P', Q', xa', em', ly', le', _⟩ := num_l (d := d) (q0 := q0) (rm := rm) (q1 := q1) n (avX s) (avM t) (v * 10 + cuX s - 48) (k + 1) G1 nv1 (by omega)
        rw [k1] at le' xa'
        have h1 : xa s' = xa s + (k'.toInt - k.toInt) := by rw [xa', ea1]; omega
        have h2 : k.toInt ≤ k'.toInt := by omega
        have h3 : k.toInt < k'.toInt := by omega
        refine ⟨s', t', v', k', eX, eM, G', n', st', PkX.av.tr P', PkM.av.tr Q', h1, ?_, ?_, h2, fun _ _ => h3⟩
        · have emA : Em s (avX s) [] := Em.nil (by unfold avX; rw [zS_pS, if_neg (by omega)]) (fun _ => rfl)
          exact emA.tr G.2.2.2.2.2.2.1.1 em'
        · have lyA : Ly t (avM t) [] := Ly.nil (by unfold avM; rw [zS_pS, if_neg (by omega)]) (fun _ => rfl) (fun _ => rfl)
          exact lyA.tr G.2.2.2.2.2.2.2.1.1 G.2.2.2.2.2.2.2.2.1 (by unfold mr avM; rw [zS_pS, if_neg (by omega)]) ly'
      · have zm : ¬ dg (cuM t) := fun w => z (G.dg.1.2 w)
        rw [if_neg (show ¬ (48 ≤ (cuX s).toInt ∧ (cuX s).toInt ≤ 57) from z), if_pos rfl, in_f (by rw [j48, j57]; exact zm), b1_some, if_pos rfl]
        exact stop (Or.inr z)
    · rw [if_neg hk, if_neg hk]
      rw [jlt, j5] at hk
      exact stop (Or.inl (by omega))
/-! an operand -/
def opM (t : SS) : SS := pS (pS t 59 49 (zS t 59 49 + 1)) 59 47 (zS t 59 47 + 1)
def clM (t : SS) : SS := pS t 59 49 (zS t 59 49 - 1)
theorem PkM.op {t : SS} : PkM t (opM t) := ⟨fun q k z => by unfold opM; rw [zS_pS, if_neg (by omega), zS_pS, if_neg (by omega)], fun _ _ _ _ => rfl, rfl⟩
theorem PkM.cl {t : SS} : PkM t (clM t) := ⟨fun q k z => by unfold clM; rw [zS_pS, if_neg (by omega)], fun _ _ _ _ => rfl, rfl⟩
theorem opM_S {t : SS} {k : Nat} (h : k ≠ 49 ∧ k ≠ 47) : zS (opM t) 59 k = zS t 59 k := by unfold opM; rw [zS_pS, if_neg (by omega), zS_pS, if_neg (by omega)]
theorem clM_S {t : SS} {k : Nat} (h : k ≠ 49) : zS (clM t) 59 k = zS t 59 k := by unfold clM; rw [zS_pS, if_neg (by omega)]
theorem avM_S {t : SS} {k : Nat} (h : k ≠ 47) : zS (avM t) 59 k = zS t 59 k := by unfold avM; rw [zS_pS, if_neg (by omega)]
theorem avX_S {t : SS} {k : Nat} (h : k ≠ 4) : zS (avX t) 24 k = zS t 24 k := by unfold avX; rw [zS_pS, if_neg (by omega)]
theorem lyM_S {t : SS} {a w : Int32} {k : Nat} (h : k ≠ 51) : zS (lyM t a w) 59 k = zS t 59 k := by unfold lyM; rw [zS_pS, if_neg (by omega), zS_pI, zS_pI]
theorem av_ly {t : SS} {a w : Int32} : avM (lyM t a w) = lyM (avM t) a w := by
  show pS (lyM t a w) 59 47 (zS (lyM t a w) 59 47 + 1) = _
  rw [lyM_S (by omega)]
  show (up2 (up2 t.1 59 51 (zS t 59 51 + 1)) 59 47 (zS t 59 47 + 1), _) = (up2 (up2 t.1 59 47 (zS t 59 47 + 1)) 59 51 (zS (avM t) 59 51 + 1), _)
  rw [avM_S (by omega)]
  congr 1
  funext q k
  unfold up2
  by_cases h1 : q = 59 ∧ k = 47
  · rw [if_pos h1, if_neg (by omega), if_pos h1]
  · rw [if_neg h1]
    by_cases h2 : q = 59 ∧ k = 51
    · rw [if_pos h2, if_pos h2]
    · rw [if_neg h2, if_neg h2, if_neg h1]
theorem Rd.op {s t : SS} {d : Int32} (G : Rd s t d) (h : xa s < xn s) : Rd (avX s) (opM t) (d + 1) ∧ xa (avX s) = xa s + 1 := by
  obtain ⟨⟨T, e2, e3, e4, ha, ho, hz, hl, hr⟩, ea⟩ := G.av h
  refine ⟨⟨G.1.c PkX.av PkM.op, e2, ?_, ?_, ha, ?_, hz, ?_, ?_⟩, ea⟩
  · rw [opM_S (by omega)]; exact G.2.2.1
  · rw [e4]
    unfold avM opM
    rw [zS_pS, if_pos ⟨rfl, rfl⟩, zS_pS, if_pos ⟨rfl, rfl⟩]
  · unfold opM
    rw [zS_pS, if_neg (by omega), zS_pS, if_pos ⟨rfl, rfl⟩, G.2.2.2.2.2.1]
  · have e : ml (opM t) = ml (avM t) := by unfold ml; rw [opM_S (by omega), avM_S (by omega)]
    rw [e]; exact hl
  · have e : mr (opM t) = mr (avM t) := by unfold mr; rw [opM_S (by omega), avM_S (by omega)]
    rw [e]; exact hr
theorem Rd.cl {s t : SS} {d : Int32} (G : Rd s t (d + 1)) : Rd s (clM t) d := by
  obtain ⟨T, e2, e3, e4, ha, ho, hz, hl, hr⟩ := G
  refine ⟨T.c PkX.rf PkM.cl, e2, by rw [clM_S (by omega)]; exact e3, by rw [clM_S (by omega)]; exact e4, ha, ?_, hz, ?_, ?_⟩
  · unfold clM
    rw [zS_pS, if_pos ⟨rfl, rfl⟩, ho, Int32.add_sub_cancel]
  · unfold ml; rw [clM_S (by omega)]; exact hl
  · unfold mr; rw [clM_S (by omega)]; exact hr
theorem Ly.op {t : SS} : Ly t (opM t) [] := Ly.nil (opM_S (by omega)) (fun _ => rfl) (fun _ => rfl)
theorem Ly.cl {t : SS} : Ly t (clM t) [] := Ly.nil (clM_S (by omega)) (fun _ => rfl) (fun _ => rfl)
theorem Ly.av {t : SS} : Ly t (avM t) [] := Ly.nil (avM_S (by omega)) (fun _ => rfl) (fun _ => rfl)
theorem Em.av {t : SS} : Em t (avX t) [] := Em.nil (avX_S (by omega)) (fun _ => rfl)
/-- both fail here -/
theorem failP {E : Nat → List Int32 → Prop} {m : Nat} {s t : SS} {d : Int32} (G : Rd s t d) : f_X7_fails s = some (pS s 24 5 (zS s 24 4)) ∧ f_X12_faultHere t = some (pS t 59 48 (zS t 59 47)) ∧ PE E m s t (pS s 24 5 (zS s 24 4)) (pS t 59 48 (zS t 59 47)) d := by
  obtain ⟨T, e2, e3, e4, ha, ho, hz, hl, hr⟩ := G
  refine ⟨?_, ?_, ⟨fun q k z => by rw [zS_pS, if_neg (by omega)], fun _ _ _ => rfl, rfl⟩, ⟨fun q k z => by rw [zS_pS, if_neg (by omega)], fun _ _ _ _ => rfl, rfl⟩, Or.inr ⟨zS s 24 4, ha.1, Or.inl ?_, ?_, ?_, ?_, ?_, ?_⟩⟩
  · unfold f_X7_fails
    rw [if_pos (by rw [e2]; decide), vl, st]
  · unfold f_X12_faultHere
    rw [if_pos (by rw [e3]; decide), vl, st]
  · rw [zS_pS, if_pos ⟨rfl, rfl⟩]
  · rw [zS_pS, if_pos ⟨rfl, rfl⟩, e4]
  · unfold xz; rw [zS_pS, if_neg (by omega)]; exact hz.1
  · unfold ml; rw [zS_pS, if_neg (by omega)]; exact hl.1
  · have := T.2.1
    have e : mh (pS t 59 48 (zS t 59 47)) = xa s := by
      show (zS (pS t 59 48 (zS t 59 47)) 59 47).toInt = (zS s 24 4).toInt
      rw [zS_pS, if_neg (by omega), e4]
    omega
  · have e : mh (pS t 59 48 (zS t 59 47)) = mh t := by
      show (zS (pS t 59 48 (zS t 59 47)) 59 47).toInt = (zS t 59 47).toInt
      rw [zS_pS, if_neg (by omega)]
    have e' : ml (pS t 59 48 (zS t 59 47)) = ml t := by unfold ml; rw [zS_pS, if_neg (by omega)]
    omega
def HM (d : Int32) : Nat := 1 + 5 * (8 - d.toInt).toNat
theorem Eup {E : Nat → List Int32 → Prop} (HE : EC E) {l : List Int32} {m : Nat} : ∀ k, E m l → E (m + k) l
  | 0, h => h
  | k + 1, h => HE.2.2.2.2 _ _ (Eup HE k h)
/-- a number -/
theorem numP {E : Nat → List Int32 → Prop} (HE : EC E) {m : Nat} {s t : SS} {d : Int32} {rm : SS → Option SS} (G : Rd s t d) (z : dg (cuX s)) : ∃ s' t', f_X7_number s = some s' ∧ (f_X12_operand_L148 rm (fun (s26 : SS) (x26_2 : Int32) (x26_3 : Int32) => (jn ((b1 (f_X12_faultHere s26) fun s28 => some s28)) fun k27 => (if x26_2 = (0 : Int32) then k27 else (b1 (f_X12_look s26) fun r30 => (b1 (f_X12_in r30 (48 : Int32) (57 : Int32)) fun r31 => (if r31 = (0 : Int32) then (b1 (f_X12_lay s26 1 x26_3) fun s33 => some s33) else k27)))))) 4000 t 0 0) = some t' ∧ PE E (1 + m) s t s' t' d := by
  have j48 : (48 : Int32).toInt = 48 := rfl
  have j57 : (57 : Int32).toInt = 57 := rfl
  obtain ⟨s1, t1, v, k, eX, eM, G1, n1, sp, P1, Q1, xa1, em1, ly1, le, lt⟩ := num_l (d := d) (q0 := fun (s11 : SS) (x11_1 : Int32) => (b1 (f_X7_emit s11 x11_1) fun s12 => some s12)) (rm := rm) (q1 := fun (s26 : SS) (x26_2 : Int32) (x26_3 : Int32) => (jn ((b1 (f_X12_faultHere s26) fun s28 => some s28)) fun k27 => (if x26_2 = (0 : Int32) then k27 else (b1 (f_X12_look s26) fun r30 => (b1 (f_X12_in r30 (48 : Int32) (57 : Int32)) fun r31 => (if r31 = (0 : Int32) then (b1 (f_X12_lay s26 1 x26_3) fun s33 => some s33) else k27)))))) 4000 s t 0 0 G (Or.inl ⟨rfl, rfl⟩) (by decide)
  have lt1 := lt z (by decide)
  rw [jl0] at lt1 xa1
  have k0 : ¬ k = 0 := fun e => by rw [e, jl0] at lt1; omega
  have hv0 : 0 ≤ v.toInt := by unfold nv at n1; omega
  have ha1 := G1.2.2.2.2.1
  have h160 := G1.1.2.1
  have hz1 := G1.2.2.2.2.2.2.1
  have hl1 := G1.2.2.2.2.2.2.2.1
  have hr1 := G1.2.2.2.2.2.2.2.2
  have ez : xz s1 = xz s := by have := em1.1; simp at this; exact this
  have el : ml t1 = ml t := by have := ly1.1; simp at this; exact this
  have gz := G.2.2.2.2.2.2.1
  have gl := G.2.2.2.2.2.2.2.1
  have er : mr t1 = mr t := by unfold mr; rw [Q1.r]
  unfold f_X7_number
  rw [eX, eM, emit_g (by rw [G1.2.1]; decide) ⟨hz1.1, by omega⟩, b1_some, jn, if_neg k0, G1.look, b1_some]
  by_cases w : dg (cuX s1)
  · have wm := G1.dg.1.1 w
    obtain ⟨-, f2, Q2, -⟩ := failP (E := E) (m := m) G1
    obtain ⟨f1, f2', -, Qf, -⟩ := failP (E := E) (m := m) G1
    rw [in_t (by rw [j48, j57]; exact wm), b1_some, if_neg (by decide), f2', b1_some]
    have la := (G1.lt (k := cuX s1) (by unfold dg at w; omega) rfl)
    refine ⟨_, _, rfl, rfl, P1.tr PkX.em, Q1.tr Qf, Or.inr ⟨zS s1 24 4, ha1.1, Or.inr ⟨?_, ?_, ?_, ?_, ?_, ?_⟩, ?_, ?_, ?_, ?_, ?_⟩⟩
    · unfold emX; rw [zS_pS, if_neg (by omega), zS_pI]; exact G1.2.1
    · unfold emX; rw [zS_pS, if_neg (by omega), zS_pI]
    · unfold emX; rw [zS_pS, if_neg (by omega), zS_pI, zS_pS, if_neg (by omega), zS_pI]; exact la.1
    · have := la.2
      unfold xa at this
      omega
    · rw [PkX.em.2.1 25 _ (by omega)]
      have : cuX s1 = zI s1 25 (zS s1 24 4).toInt.toNat := by unfold cuX; rw [if_pos la.1]
      rw [← this]; exact w.1
    · rw [PkX.em.2.1 25 _ (by omega)]
      have : cuX s1 = zI s1 25 (zS s1 24 4).toInt.toNat := by unfold cuX; rw [if_pos la.1]
      rw [← this]; exact w.2
    · rw [zS_pS, if_pos ⟨rfl, rfl⟩]; exact G1.2.2.2.1.symm
    · rw [(Em.one (c := v) ⟨hz1.1, by omega⟩).1]; omega
    · unfold ml; rw [zS_pS, if_neg (by omega)]; exact hl1.1
    · have e : mh (pS t1 59 48 (zS t1 59 47)) = mh t1 := by
        show (zS (pS t1 59 48 (zS t1 59 47)) 59 47).toInt = (zS t1 59 47).toInt
        rw [zS_pS, if_neg (by omega)]
      rw [e, G1.mh]
      omega
    · have e : mh (pS t1 59 48 (zS t1 59 47)) = mh t1 := by
        show (zS (pS t1 59 48 (zS t1 59 47)) 59 47).toInt = (zS t1 59 47).toInt
        rw [zS_pS, if_neg (by omega)]
      have e' : ml (pS t1 59 48 (zS t1 59 47)) = ml t1 := by unfold ml; rw [zS_pS, if_neg (by omega)]
      rw [e, e', G1.mh, G.mh, el]
      omega
  · have wm : ¬ dg (cuM t1) := fun q => w (G1.dg.1.2 q)
    rw [in_f (by rw [j48, j57]; exact wm), b1_some, if_pos rfl, lay_g hr1 ⟨hl1.1, by omega⟩, b1_some]
    obtain ⟨G2, ea2⟩ := G1.em (c := v) (a := 1) (w := v) (by omega) (by omega)
    have tA : tkA v = 1 := by unfold tkA; rw [if_pos (by rw [jlt, jm1]; omega)]
    have tW : tkW v = v := by unfold tkW; rw [if_pos (by rw [jlt, jm1]; omega)]
    refine ⟨_, _, rfl, rfl, P1.tr PkX.em, Q1.tr PkM.ly, Or.inl ⟨G2, [v], Nat.le_refl _, ?_, ?_, ?_, Eup HE m (HE.1 v hv0)⟩⟩
    · rw [ea2]
      have : (([v] : List Int32).length : Int) = 1 := rfl
      omega
    · exact em1.tr gz.1 (Em.one (c := v) ⟨hz1.1, by omega⟩)
    · exact ly1.tr gl.1 G.2.2.2.2.2.2.2.2.1 er (Ly.one (c := v) (a := 1) (w := v) ⟨hl1.1, by omega⟩ hr1.1 tA tW)
/-! single and operand -/
theorem sgX {s t : SS} {d : Int32} {rx : SS → Int32 → Option SS} (G : Rd s t d) (nd : ¬ dg (cuX s)) : f_X7_single_r rx s d = if d < 8 ∧ cuX s = 40 then (b1 (f_X7_either rx (avX s) (d + 1)) fun s22 => (bd (f_X7_takes s22 41) fun r23 s23 => (if r23 = (0 : Int32) then (b1 (f_X7_fails s23) fun s25 => some s25) else some s23))) else if d < 8 ∧ cuX s = 33 then (b1 (rx (avX s) (d + 1)) fun s17 => (b1 (f_X7_emit s17 (-21)) fun s18 => some s18)) else if d < 8 ∧ cuX s = 45 then (b1 (rx (avX s) (d + 1)) fun s12 => (b1 (f_X7_emit s12 (-22)) fun s13 => some s13)) else (b1 (f_X7_name s) fun s7 => some s7) := by
  unfold f_X7_single_r
  rw [if_pos (by rw [G.2.1]; decide), isd_g G, b1_some, if_neg (show ¬ (48 ≤ (cuX s).toInt ∧ (cuX s).toInt ≤ 57) from nd), if_pos rfl, jn]
  by_cases h8 : d < 8
  · rw [if_pos h8, takes_g G (by decide)]
    by_cases c : cuX s = 40
    · rw [if_pos c, if_pos ⟨h8, c⟩, bd_some, if_neg (by decide)]
    rw [if_neg c, if_neg (fun z => c z.2), bd_some, if_pos rfl]
    show jn _ _ = _
    rw [jn, if_pos h8, takes_g G (by decide)]
    by_cases c2 : cuX s = 33
    · rw [if_pos c2, if_pos ⟨h8, c2⟩, bd_some, if_neg (by decide)]
    rw [if_neg c2, if_neg (fun z => c2 z.2), bd_some, if_pos rfl]
    show jn _ _ = _
    rw [jn, if_pos h8, takes_g G (by decide)]
    by_cases c3 : cuX s = 45
    · rw [if_pos c3, if_pos ⟨h8, c3⟩, bd_some, if_neg (by decide)]
    rw [if_neg c3, if_neg (fun z => c3 z.2), bd_some, if_pos rfl]
  · rw [if_neg h8, if_neg (fun z => h8 z.1), if_neg (fun z => h8 z.1), if_neg (fun z => h8 z.1)]
    show jn _ _ = _
    rw [jn, if_neg h8]
    show jn _ _ = _
    rw [jn, if_neg h8]
theorem j8_ : (8 : Int32).toInt = 8 := rfl
theorem sing_l {E : Nat → List Int32 → Prop} (HE : EC E) : ∀ (n : Nat) (d : Int32), 0 ≤ d.toInt → d.toInt ≤ 8 → 8 - d.toInt < n → HRd E (HM d) d (fun s => f_X7_single n s d) (fun t => f_X12_operand n t)
  | 0, d, h0, h8, hn => by omega
  | n + 1, d, h0, h8, hn => by
    intro s t G
    show ∃ s' t', f_X7_single (n + 1) s d = some s' ∧ f_X12_operand (n + 1) t = some t' ∧ PE E (HM d) s t s' t' d
    rw [f_X7_single, f_X12_operand]
    obtain ⟨j, ej, ex, hj, hj'⟩ := G.nm
    have ha := G.2.2.2.2.1
    have h160 := G.1.2.1
    have gz := G.2.2.2.2.2.2.1
    have gl := G.2.2.2.2.2.2.2.1
    have gr := G.2.2.2.2.2.2.2.2
    have fX : f_X7_name s = (if j < 0 then (b1 (f_X7_fails s) fun s6 => some s6) else (vl (((zS s 24 4) + (1 : Int32))) fun v3 => (st (pS s 24 4 v3) fun s4 => (b1 (f_X7_emit s4 (((-1) : Int32) - j)) fun s5 => some s5)))) := by
      unfold f_X7_name
      rw [jn]
      by_cases h : zS s 24 4 < zS s 24 1
      · rw [if_pos h, vl]
        unfold xa xn at ha
        unfold xn at h160
        have h' := h
        rw [jlt] at h'
        rw [gd_t ⟨by omega, by omega⟩, ex h]
      · rw [if_neg h, hj' h]
    by_cases nd : dg (cuX s)
    · have jm : j = -1 := by
        rcases hj with z | z
        · exact z
        · unfold dg at nd
          omega
      have em := G.dg.2 nd
      have n3 : ∀ k : Int32, k.toInt < 48 → ¬ cuM t = k := fun k hk z => by
        rw [em] at z
        rw [z] at nd
        unfold dg at nd
        omega
      obtain ⟨s', t', eX, eM, P⟩ := numP HE (m := 5 * (8 - d.toInt).toNat) (rm := f_X12_operand n) G nd
      refine ⟨s', t', ?_, ?_, P⟩
      · unfold f_X7_single_r
        rw [if_pos (by rw [G.2.1]; decide), isd_g G, b1_some, if_pos (show 48 ≤ (cuX s).toInt ∧ (cuX s).toInt ≤ 57 from nd), if_neg (by decide), eX, b1_some]
      · unfold f_X12_operand_r
        rw [G.look, b1_some, ej, b1_some, if_pos (by rw [jm]; decide), jn, if_neg (n3 33 (by decide)), if_neg (n3 45 (by decide)), if_neg (n3 40 (by decide)), eM]
    · have d1 : d.toInt < 8 → (d + 1).toInt = d.toInt + 1 := fun z => by rw [i32_add (by rw [jl1]; omega) (by rw [jl1]; omega), jl1]
      -- a sign that opens: 33, 40, 45
      have low : ∀ k : Int32, k.toInt ≤ 57 → cuX s = k → j = -1 := fun k hk z => by
        rcases hj with w | w
        · exact w
        · rw [z] at w
          omega
      have full : ¬ d.toInt < 8 → (bd (f_X12_opens t) fun r5 s5 => (if r5 = (0 : Int32) then some s5 else (b1 (f_X12_operand n s5) fun s7 => (vl (((zS s7 59 49) - (1 : Int32))) fun v8 => (st (pS s7 59 49 v8) fun s10 => (jn (fun (t11_0 : Int32) => (b1 (f_X12_lay s10 t11_0 0) fun s12 => some s12)) fun k11 => (if cuM t = (33 : Int32) then (k11 3) else (k11 4)))))))) = some (pS t 59 48 (zS t 59 47)) := fun z => by
        unfold f_X12_opens
        rw [if_pos (by rw [G.2.2.2.2.2.1]; exact Int32.toInt_inj.1 (by rw [j8_]; omega)), (failP (E := E) (m := 1) G).2.1, b1_some, bd_some, if_pos rfl]
      have opens : d.toInt < 8 → f_X12_opens t = some (1, opM t) := fun z => by
        unfold f_X12_opens opM
        rw [if_neg (fun w => by rw [G.2.2.2.2.2.1] at w; rw [w, j8_] at z; omega), vl, st, vl, st, zS_pS, if_neg (by omega)]
      have un : ∀ g k a : Int32, (g = 33 ∧ k = -21 ∧ a = 3) ∨ (g = 45 ∧ k = -22 ∧ a = 4) → cuX s = g → ∃ s' t', (if d < 8 then (b1 (f_X7_single n (avX s) (d + 1)) fun s17 => (b1 (f_X7_emit s17 k) fun s18 => some s18)) else (b1 (f_X7_name s) fun s7 => some s7)) = some s' ∧ (bd (f_X12_opens t) fun r5 s5 => (if r5 = (0 : Int32) then some s5 else (b1 (f_X12_operand n s5) fun s7 => (vl (((zS s7 59 49) - (1 : Int32))) fun v8 => (st (pS s7 59 49 v8) fun s10 => (jn (fun (t11_0 : Int32) => (b1 (f_X12_lay s10 t11_0 0) fun s12 => some s12)) fun k11 => (if cuM t = (33 : Int32) then (k11 3) else (k11 4)))))))) = some t' ∧ PE E (HM d) s t s' t' d := by
        intro g k a hg cg
        have hg33 : g.toInt ≤ 57 ∧ 0 ≤ g.toInt ∧ g.toInt < 128 := by rcases hg with ⟨rfl, _⟩ | ⟨rfl, _⟩ <;> decide
        by_cases z8 : d.toInt < 8
        · have lt := (G.lt hg33.2.1 cg).2
          obtain ⟨G1, ea1⟩ := G.op lt
          obtain ⟨s2, t2, eX, eM, P2, Q2, O⟩ := sing_l HE n (d + 1) (by rw [d1 z8]; omega) (by rw [d1 z8]; omega) (by rw [d1 z8]; omega) _ _ G1
          have eX' : f_X7_single n (avX s) (d + 1) = some s2 := eX
          have eM' : f_X12_operand n (opM t) = some t2 := eM
          have elA : ml (opM t) = ml t := by unfold ml; rw [opM_S (by omega)]
          have erA : mr (opM t) = mr t := by unfold mr; rw [opM_S (by omega)]
          have er2 : mr t2 = mr t := by rw [← erA]; unfold mr; rw [Q2.r]
          have ezA : xz (avX s) = xz s := by unfold xz; rw [avX_S (by omega)]
          have tkk : tkA k = a ∧ tkW k = 0 ∧ (k = -21 ∨ k = -22) := by rcases hg with ⟨_, rfl, rfl⟩ | ⟨_, rfl, rfl⟩ <;> decide
          have lyc : ∀ q, (if cuM t = (33 : Int32) then ((fun (t11_0 : Int32) => (b1 (f_X12_lay q t11_0 0) fun s12 => some s12)) 3) else ((fun (t11_0 : Int32) => (b1 (f_X12_lay q t11_0 0) fun s12 => some s12)) 4)) = (b1 (f_X12_lay q a 0) fun s12 => some s12) := by
            intro q
            have hc := (G.ch ⟨hg33.2.1, hg33.2.2⟩).1 cg
            rcases hg with ⟨rfl, _, rfl⟩ | ⟨rfl, _, rfl⟩
            · rw [if_pos hc]
            · rw [if_neg (by rw [hc]; decide)]
          rw [if_pos (by rw [jlt, j8_]; exact z8), opens z8, bd_some, if_neg (by decide), eX', b1_some, eM', b1_some, vl, st, jn, show pS t2 59 49 (zS t2 59 49 - 1) = clM t2 from rfl, lyc]
          have elC : ml (clM t2) = ml t2 := by unfold ml; rw [clM_S (by omega)]
          have erC : mr (clM t2) = mr t2 := by unfold mr; rw [clM_S (by omega)]
          have hHM : HM d = HM (d + 1) + 5 := by unfold HM; rw [d1 z8]; omega
          rcases O with ⟨G2, l, l1, l2, em, ly, el⟩ | ⟨p, hp, sx, sm, z0, z1, z2, z3⟩
          · have G3 := G2.cl
            have b2 := G2.2.2.2.2.1
            have hz2 := G2.2.2.2.2.2.2.1
            have hl2 := G2.2.2.2.2.2.2.2.1
            have h160' := G2.1.2.1
            rw [ea1] at l2
            have q1 : xz s2 < xa s2 := by rw [em.1, ezA]; omega
            have q2 : ml t2 < xa s2 := by rw [ly.1, elA]; omega
            obtain ⟨G4, ea4⟩ := G3.em (c := k) (a := a) (w := 0) q1 (by rw [elC]; exact q2)
            rw [emit_g (by rw [G2.2.1]; decide) ⟨hz2.1, by omega⟩, b1_some, lay_g (by rw [erC, er2]; exact gr) (by rw [elC]; exact ⟨hl2.1, by omega⟩), b1_some]
            refine ⟨_, _, rfl, rfl, PkX.av.tr (P2.tr PkX.em), PkM.op.tr (Q2.tr (PkM.cl.tr PkM.ly)), Or.inl ⟨G4, l ++ [k], ?_, ?_, ?_, ?_, ?_⟩⟩
            · rw [List.length_append]; omega
            · rw [List.length_append, ea4]
              have : (([k] : List Int32).length : Int) = 1 := rfl
              omega
            · have h1 := (Em.av.tr gz.1 em).tr gz.1 (Em.one (c := k) ⟨hz2.1, by omega⟩)
              rw [List.nil_append] at h1
              exact h1
            · have h1 := Ly.op.tr gl.1 gr.1 erA ly
              have h2 := h1.tr gl.1 gr.1 er2 (Ly.cl (t := t2))
              have h3 := h2.tr gl.1 gr.1 (by rw [erC, er2]) (Ly.one (s := clM t2) (c := k) (a := a) (w := 0) (by rw [elC]; exact ⟨hl2.1, by omega⟩) (by rw [erC, er2]; exact gr.1) tkk.1 tkk.2.1)
              rw [List.nil_append, List.append_nil] at h3
              exact h3
            · rw [hHM]
              exact Eup HE 5 (HE.2.2.1 _ l k tkk.2.2 el)
          · obtain ⟨s6, e6, P6, sx6, z6⟩ := sx.emit (c := k) hp z0
            have hh : mh (opM t) = mh t + 1 := by rw [G1.mh, ea1, G.mh]
            have hmh := G.mh
            rw [elA, hh] at z3
            rw [e6, b1_some, lay_g (by rw [erC, er2]; exact gr) (by rw [elC]; exact ⟨z1, by omega⟩), b1_some]
            have sm' : zS (lyM (clM t2) a 0) 59 48 = p := by rw [lyM_S (by omega), clM_S (by omega)]; exact sm
            have ly1 := (Ly.one (s := clM t2) (c := k) (a := a) (w := 0) (by rw [elC]; exact ⟨z1, by omega⟩) (by rw [erC, er2]; exact gr.1) tkk.1 tkk.2.1).1
            have mh1 : mh (lyM (clM t2) a 0) = mh t2 := by
              show (zS (lyM (clM t2) a 0) 59 47).toInt = (zS t2 59 47).toInt
              rw [lyM_S (by omega), clM_S (by omega)]
            have one : (([k] : List Int32).length : Int) = 1 := rfl
            refine ⟨s6, _, rfl, rfl, PkX.av.tr (P2.tr P6), PkM.op.tr (Q2.tr (PkM.cl.tr PkM.ly)), Or.inr ⟨p, hp, sx6, sm', z6, ?_, ?_, ?_⟩⟩
            · rw [ly1, elC]; omega
            · rw [mh1]; exact z2
            · rw [ly1, mh1, elC]; omega
        · obtain ⟨f1, f2, P⟩ := failP (E := E) (m := HM d) G
          rw [if_neg (by rw [jlt, j8_]; exact z8), fX, if_pos (by rw [low g hg33.1 cg]; decide), f1, b1_some, b1_some, full z8]
          exact ⟨_, _, rfl, rfl, P⟩
      rw [sgX G nd]
      unfold f_X12_operand_r
      rw [G.look, b1_some, ej, b1_some]
      by_cases c33 : cuX s = 33
      · have m33 : cuM t = 33 := (G.ch (by decide)).1 c33
        obtain ⟨s', t', e1, e2, P⟩ := un 33 (-21) 3 (Or.inl ⟨rfl, rfl, rfl⟩) c33
        refine ⟨s', t', ?_, ?_, P⟩
        · rw [if_neg (fun z => by rw [c33] at z; exact absurd z.2 (by decide))]
          by_cases h : d < 8
          · rw [if_pos ⟨h, c33⟩]
            rw [if_pos h] at e1
            exact e1
          · rw [if_neg (fun z => h z.1), if_neg (fun z => h z.1)]
            rw [if_neg h] at e1
            exact e1
        · rw [if_pos (by rw [low 33 (by decide) c33]; decide), jn, if_pos m33]
          exact e2
      by_cases c45 : cuX s = 45
      · have m45 : cuM t = 45 := (G.ch (by decide)).1 c45
        obtain ⟨s', t', e1, e2, P⟩ := un 45 (-22) 4 (Or.inr ⟨rfl, rfl, rfl⟩) c45
        refine ⟨s', t', ?_, ?_, P⟩
        · rw [if_neg (fun z => by rw [c45] at z; exact absurd z.2 (by decide)), if_neg (fun z => c33 z.2)]
          by_cases h : d < 8
          · rw [if_pos ⟨h, c45⟩]
            rw [if_pos h] at e1
            exact e1
          · rw [if_neg (fun z => h z.1)]
            rw [if_neg h] at e1
            exact e1
        · rw [if_pos (by rw [low 45 (by decide) c45]; decide), jn, if_neg (by rw [m45]; decide), if_pos m45]
          exact e2
      have m33 : ¬ cuM t = 33 := fun z => c33 ((G.ch (by decide)).2 z)
      have m45 : ¬ cuM t = 45 := fun z => c45 ((G.ch (by decide)).2 z)
      by_cases c40 : cuX s = 40
      · have m40 : cuM t = 40 := (G.ch (by decide)).1 c40
        rw [if_pos (show j < 0 from by rw [low 40 (by decide) c40]; decide), jn, if_neg m33, if_neg m45, if_pos m40]
        by_cases z8 : d.toInt < 8
        · have lt := (G.lt (by decide) c40).2
          obtain ⟨G1, ea1⟩ := G.op lt
          have HI := eith_all HE (sing_l HE n (d + 1) (by rw [d1 z8]; omega) (by rw [d1 z8]; omega) (by rw [d1 z8]; omega))
          obtain ⟨s2, t2, eX, eM, P2, Q2, O⟩ := HI _ _ G1
          have eX' : f_X7_either (f_X7_single n) (avX s) (d + 1) = some s2 := eX
          have eM' : f_X12_either (f_X12_operand n) (opM t) = some t2 := eM
          have elA : ml (opM t) = ml t := by unfold ml; rw [opM_S (by omega)]
          have erA : mr (opM t) = mr t := by unfold mr; rw [opM_S (by omega)]
          have er2 : mr t2 = mr t := by rw [← erA]; unfold mr; rw [Q2.r]
          have hHM : HM d = HM (d + 1) + 5 := by unfold HM; rw [d1 z8]; omega
          rw [if_pos ⟨by rw [jlt, j8_]; exact z8, c40⟩, opens z8, bd_some, if_neg (by decide), eX', b1_some, eM', b1_some]
          rcases O with ⟨G2, l, l1, l2, em, ly, el⟩ | ⟨p, hp, sx, sm, z0, z1, z2, z3⟩
          · rw [ea1] at l2
            have l2' := l2
            rw [if_pos (show zS t2 59 48 < 0 from by rw [G2.2.2.1]; decide), G2.look, b1_some, takes_g G2 (by decide)]
            by_cases c41 : cuX s2 = 41
            · have m41 : cuM t2 = 41 := (G2.ch (by decide)).1 c41
              have lt2 := (G2.lt (by decide) c41).2
              obtain ⟨G3, ea3⟩ := G2.cl.av lt2
              rw [if_pos c41, bd_some, if_neg (by decide), if_pos m41, vl, st, vl, st]
              refine ⟨avX s2, avM (clM t2), rfl, rfl, PkX.av.tr (P2.tr PkX.av), PkM.op.tr (Q2.tr (PkM.cl.tr PkM.av)), Or.inl ⟨G3, l, l1, ?_, ?_, ?_, by rw [hHM]; exact el⟩⟩
              · rw [ea3]; omega
              · have h1 := (Em.av.tr gz.1 em).tr gz.1 (Em.av (t := s2))
                rw [List.nil_append, List.append_nil] at h1
                exact h1
              · have h1 := Ly.op.tr gl.1 gr.1 erA ly
                have h2 := h1.tr gl.1 gr.1 er2 (Ly.cl (t := t2))
                have h3 := h2.tr gl.1 gr.1 (by rw [← er2]; unfold mr; rw [clM_S (by omega)]) (Ly.av (t := clM t2))
                rw [List.nil_append, List.append_nil, List.append_nil] at h3
                exact h3
            · have m41 : ¬ cuM t2 = 41 := fun z => c41 ((G2.ch (by decide)).2 z)
              obtain ⟨f1, f2, P3, Q3, O3⟩ := failP (E := E) (m := HM d) G2
              rw [if_neg c41, bd_some, if_pos rfl, f1, b1_some, if_neg m41, f2, b1_some]
              refine ⟨_, _, rfl, rfl, PkX.av.tr (P2.tr P3), PkM.op.tr (Q2.tr Q3), Or.inr ?_⟩
              rcases O3 with O3 | ⟨p, hp, sx, sm, z0, z1, z2, z3⟩
              · exact absurd O3.1.2.1 (by
                  rw [zS_pS, if_pos ⟨rfl, rfl⟩]
                  intro z
                  have := G2.2.2.2.2.1.1
                  unfold xa at this
                  rw [z] at this
                  exact absurd this (by decide))
              · refine ⟨p, hp, sx, sm, z0, z1, z2, ?_⟩
                have e1 := ly.1
                have e2 := G2.mh
                have e3 := G.mh
                rw [elA] at e1
                omega
          · have e6 : (bd (f_X7_takes s2 41) fun r23 s23 => (if r23 = (0 : Int32) then (b1 (f_X7_fails s23) fun s25 => some s25) else some s23)) = b1 (f_X7_fails s2) fun s25 => some s25 := by rw [sx.takes hp (by decide), bd_some, if_pos rfl]
            have hh : mh (opM t) = mh t + 1 := by rw [G1.mh, ea1, G.mh]
            rw [elA, hh] at z3
            rw [e6, if_neg (show ¬ zS t2 59 48 < 0 from by rw [sm, jlt, jl0]; omega)]
            unfold f_X7_fails
            by_cases f : zS s2 24 5 < 0
            · rw [if_pos f, vl, st, b1_some]
              refine ⟨_, t2, rfl, rfl, PkX.av.tr (P2.tr ⟨fun q k z => by rw [zS_pS, if_neg (by omega)], fun _ _ _ => rfl, rfl⟩), PkM.op.tr Q2, Or.inr ⟨p, hp, Or.inl ?_, sm, ?_, z1, z2, by omega⟩⟩
              · rcases sx with sx | sx
                · rw [sx, jlt, jl0] at f
                  omega
                · rw [zS_pS, if_pos ⟨rfl, rfl⟩]
                  exact sx.2.1
              · unfold xz; rw [zS_pS, if_neg (by omega)]; exact z0
            · rw [if_neg f, b1_some]
              exact ⟨s2, t2, rfl, rfl, PkX.av.tr P2, PkM.op.tr Q2, Or.inr ⟨p, hp, sx, sm, z0, z1, z2, by omega⟩⟩
        · obtain ⟨f1, f2, P⟩ := failP (E := E) (m := HM d) G
          have h8' : ¬ d < 8 := by rw [jlt, j8_]; exact z8
          rw [if_neg (fun z => h8' z.1), if_neg (fun z => h8' z.1), if_neg (fun z => h8' z.1), fX, if_pos (by rw [low 40 (by decide) c40]; decide), f1, b1_some, b1_some]
          unfold f_X12_opens
          rw [if_pos (by rw [G.2.2.2.2.2.1]; exact Int32.toInt_inj.1 (by rw [j8_]; omega)), f2, b1_some, bd_some, if_pos rfl]
          exact ⟨_, _, rfl, rfl, P⟩
      have m40 : ¬ cuM t = 40 := fun z => c40 ((G.ch (by decide)).2 z)
      rw [if_neg (fun z => c40 z.2), if_neg (fun z => c33 z.2), if_neg (fun z => c45 z.2), fX]
      rcases hj with jm | ⟨j0, j7, jc, jl, ja, jw⟩
      · obtain ⟨f1, f2, P⟩ := failP (E := E) (m := HM d) G
        have wm : ¬ dg (cuM t) := fun q => nd (G.dg.1.2 q)
        rw [jm, if_pos (by decide), if_pos (by decide), f1, b1_some, b1_some, jn, if_neg m33, if_neg m45, if_neg m40, f_X12_operand_L148, f_X12_operand_L148_b, if_pos (by decide), G.look, b1_some, in_f (show ¬ ((48 : Int32).toInt ≤ (cuM t).toInt ∧ (cuM t).toInt ≤ (57 : Int32).toInt) from wm), b1_some, if_pos rfl, jn, if_pos rfl, f2, b1_some]
        exact ⟨_, _, rfl, rfl, P⟩
      · have hneg : ¬ j < 0 := by rw [jlt, jl0]; omega
        have lt : xa s < xn s := by rw [jlt] at jl; exact jl
        obtain ⟨G1, ea1⟩ := G.av lt
        have ezA : xz (avX s) = xz s := by unfold xz; rw [avX_S (by omega)]
        have elA : ml (avM t) = ml t := by unfold ml; rw [avM_S (by omega)]
        have erA : mr (avM t) = mr t := by unfold mr; rw [avM_S (by omega)]
        obtain ⟨G2, ea2⟩ := G1.em (c := -1 - j) (a := 2) (w := j) (by rw [ezA, ea1]; omega) (by rw [elA, ea1]; omega)
        rw [if_neg hneg, if_neg hneg, vl, st, show pS s 24 4 (zS s 24 4 + 1) = avX s from rfl, emit_g (by rw [G1.2.1]; decide) (by rw [ezA]; omega), b1_some, b1_some, b1_some, lay_g gr ⟨gl.1, by omega⟩, b1_some, vl, st, show pS (lyM t 2 j) 59 47 (zS (lyM t 2 j) 59 47 + 1) = avM (lyM t 2 j) from rfl, av_ly]
        refine ⟨_, _, rfl, rfl, PkX.av.tr PkX.em, PkM.av.tr PkM.ly, Or.inl ⟨G2, [-1 - j], Nat.le_refl _, ?_, ?_, ?_, Eup HE _ (HE.2.1 j ⟨j0, j7⟩)⟩⟩
        · rw [ea2, ea1]
          have : (([-1 - j] : List Int32).length : Int) = 1 := rfl
          omega
        · have h1 := Em.av.tr gz.1 (Em.one (s := avX s) (c := -1 - j) (by rw [ezA]; omega))
          rw [List.nil_append] at h1
          exact h1
        · have h1 := Ly.av.tr gl.1 gr.1 erA (Ly.one (s := avM t) (c := -1 - j) (a := 2) (w := j) (by rw [elA]; omega) (by rw [erA]; exact gr.1) ja jw)
          rw [List.nil_append] at h1
          exact h1
/-! a line -/
/-- as PkM, the rows of lines apart -/
def PkR (s r : SS) : Prop := (∀ q k, ¬ (q = 59 ∧ (k = 47 ∨ k = 48 ∨ k = 49 ∨ k = 51)) → zS r q k = zS s q k) ∧ (∀ q i, q ≠ 90 → q ≠ 91 → q ≠ 92 → q ≠ 93 → q ≠ 94 → zI r q i = zI s q i) ∧ r.2.2 = s.2.2
theorem PkM.R {s r : SS} (h : PkM s r) : PkR s r := ⟨h.1, fun q i _ _ _ h3 h4 => h.2.1 q i h3 h4, h.2.2⟩
theorem PkR.tr {a b c : SS} (h : PkR a b) (g : PkR b c) : PkR a c := ⟨fun q k z => (g.1 q k z).trans (h.1 q k z), fun q i h0 h1 h2 h3 h4 => (g.2.1 q i h0 h1 h2 h3 h4).trans (h.2.1 q i h0 h1 h2 h3 h4), g.2.2.trans h.2.2⟩
theorem PkR.rf {s : SS} : PkR s s := ⟨fun _ _ _ => rfl, fun _ _ _ _ _ _ _ => rfl, rfl⟩
theorem PkR.pI {s : SS} {q i : Nat} {v : Int32} (h : q = 90 ∨ q = 91 ∨ q = 92) : PkR s (pI s q i v) := ⟨fun _ _ _ => rfl, fun a b h0 h1 h2 _ _ => by rw [zI_pI, if_neg (fun z => by omega)], rfl⟩
theorem Rd.arr {s t r : SS} {d : Int32} (G : Rd s t d) (hS : ∀ k, zS r 59 k = zS t 59 k) (hI : ∀ i, zI r 86 i = zI t 86 i) : Rd s r d := by
  obtain ⟨⟨a1, a2, a3⟩, e2, e3, e4, ha, ho, hz, hl, hr⟩ := G
  refine ⟨⟨by rw [hS]; exact a1, a2, fun i hi => by rw [hI]; exact a3 i hi⟩, e2, by rw [hS]; exact e3, by rw [hS]; exact e4, ha, by rw [hS]; exact ho, hz, ?_, ?_⟩
  · unfold ml; rw [hS]; exact hl
  · unfold mr; rw [hS]; exact hr
theorem Ly.to {s r u : SS} {l : List Int32} (h : Ly s r l) (hS : zS u 59 51 = zS r 59 51) (h3 : ∀ i, zI u 93 i = zI r 93 i) (h4 : ∀ i, zI u 94 i = zI r 94 i) : Ly s u l := by
  obtain ⟨a, b, c⟩ := h
  refine ⟨?_, fun j hj => ?_, fun j v e => ?_⟩
  · unfold ml at *; rw [hS]; exact a
  · rw [h3, h4]; exact b j hj
  · rw [h3, h4]; exact c j v e
theorem Ly.fr {s r u : SS} {l : List Int32} (h : Ly r u l) (hS : zS r 59 51 = zS s 59 51) (hr : zS r 59 50 = zS s 59 50) (h3 : ∀ i, zI r 93 i = zI s 93 i) (h4 : ∀ i, zI r 94 i = zI s 94 i) : Ly s u l := by
  obtain ⟨a, b, c⟩ := h
  have e1 : ml r = ml s := by unfold ml; rw [hS]
  have e2 : mr r = mr s := by unfold mr; rw [hr]
  rw [e1] at a
  rw [e1, e2] at b c
  exact ⟨a, fun j hj => by rw [← h3, ← h4]; exact b j hj, c⟩
theorem Stk.fr {s t s' t' s0 t0 u : SS} (h : Stk s t s' t') (e1 : ml t - ml t0 ≤ mh t - mh t0) (eS : ∀ k, zS u 59 k = zS t' 59 k) : Stk s0 t0 s' u := by
  obtain ⟨p, hp, sx, sm, z0, z1, z2, z3⟩ := h
  have f1 : ml u = ml t' := by unfold ml; rw [eS]
  have f2 : mh u = mh t' := by show (zS u 59 47).toInt = (zS t' 59 47).toInt; rw [eS]
  exact ⟨p, hp, sx, by rw [eS]; exact sm, z0, by omega, by omega, by omega⟩
def pre (T : Option (List Int32)) : List Int32 := match T with
  | none => []
  | some l => l ++ [-23]
def tst (T : Option (List Int32)) : List Int32 := match T with
  | none => []
  | some l => l
/-- a line that is read: its test, its value -/
def LnA (E : Nat → List Int32 → Prop) (s t s' t' : SS) (T : Option (List Int32)) (V : List Int32) : Prop := (∀ l, T = some l → E 46 l ∧ 1 ≤ l.length) ∧ E 46 V ∧ 1 ≤ V.length ∧ ∃ s2, s' = emX s2 (-24) ∧ Rd s2 t' 0 ∧ Em s s2 (pre T ++ V) ∧ Ly t t' (tst T ++ V) ∧ xa s + 1 ≤ xa s2 ∧ zI t' 90 (mr t).toNat = zI t 90 (mr t).toNat + 1 ∧ (zI t' 91 (90 * mr t + (zI t 90 (mr t).toNat).toInt).toNat).toInt = ml t + (tst T).length ∧ (zI t' 92 (90 * mr t + (zI t 90 (mr t).toNat).toInt).toNat).toInt = ml t' ∧ (∀ i, i ≠ (mr t).toNat → zI t' 90 i = zI t 90 i) ∧ ∀ i, i ≠ (90 * mr t + (zI t 90 (mr t).toNat).toInt).toNat → zI t' 91 i = zI t 91 i ∧ zI t' 92 i = zI t 92 i
theorem line_l {E : Nat → List Int32 → Prop} (HE : EC E) {s t : SS} (G : Rd s t 0) (hk : 0 ≤ (zI t 90 (mr t).toNat).toInt ∧ 2 * (zI t 90 (mr t).toNat).toInt ≤ xa s) : ∃ s' t', f_X7_line s = some s' ∧ f_X12_readLine t = some t' ∧ PkX s s' ∧ PkR t t' ∧ ((∃ T V, LnA E s t s' t' T V) ∨ Stk s t s' t') := by
  have HI : HRd E 46 0 (fun s => f_X7_either (f_X7_single 12) s 0) (fun t => f_X12_either (f_X12_operand 12) t) := eith_all HE (sing_l HE 12 0 (by decide) (by decide) (by decide))
  have ha := G.2.2.2.2.1
  have h160 := G.1.2.1
  have gz := G.2.2.2.2.2.2.1
  have gl := G.2.2.2.2.2.2.2.1
  have gr := G.2.2.2.2.2.2.2.2
  obtain ⟨k, ek⟩ : ∃ k, k = zI t 90 (mr t).toNat := ⟨_, rfl⟩
  have j90 : (90 : Int32).toInt = 90 := rfl
  rw [← ek] at hk
  have m1 : ((90 : Int32) * zS t 59 50).toInt = 90 * mr t := by
    unfold mr at *
    rw [i32_mul (by rw [j90]; omega) (by rw [j90]; omega), j90]
  have m2 : ((90 : Int32) * zS t 59 50 + k).toInt = 90 * mr t + k.toInt := by rw [i32_add (by omega) (by omega), m1]
  obtain ⟨v3, ev3⟩ : ∃ v3, v3 = (90 : Int32) * zS t 59 50 + k := ⟨_, rfl⟩
  rw [← ev3] at m2
  have g3 : inB v3 1530 := ⟨by omega, by omega⟩
  have gR : inB (zS t 59 50) 17 := ⟨by unfold mr at gr; omega, by unfold mr at gr; omega⟩
  have rN : (zS t 59 50).toInt.toNat = (mr t).toNat := rfl
  have k1 : (k + 1).toInt = k.toInt + 1 := by rw [i32_add (by rw [jl1]; omega) (by rw [jl1]; omega), jl1]
  -- the rows' end
  have fin : ∀ u : SS, zS u 59 50 = zS t 59 50 → (∀ i, zI u 90 i = zI t 90 i) → (vl ((zS u 59 51)) fun v10 => (gd (inB v3 1530) (st (pI u 92 (v3.toInt.toNat) v10) fun s12 => (vl ((zS s12 59 50)) fun v13 => (gd (inB v13 17) (vl (((zI s12 90 (v13.toInt.toNat)) + (1 : Int32))) fun v15 => (vl ((zS s12 59 50)) fun v16 => (gd (inB v16 17) (st (pI s12 90 (v16.toInt.toNat) v15) fun s18 => some s18))))))))) = some (pI (pI u 92 v3.toInt.toNat (zS u 59 51)) 90 (mr t).toNat (k + 1)) := by
    intro u h1 h2
    rw [vl, gd_t g3, st, vl, zS_pI, h1, gd_t gR, vl, vl, gd_t gR, st, zI_pI, if_neg (by omega), h2, rN, ek]
  obtain ⟨s1, t1, eX, eM, P1, Q1, O⟩ := HI s t G
  have eX' : f_X7_either (f_X7_single 12) s 0 = some s1 := eX
  have eM' : f_X12_either (f_X12_operand 12) t = some t1 := eM
  unfold f_X7_line f_X12_readLine
  rw [eX', b1_some, vl, gd_t gR, vl, vl, rN, ← ek, ← ev3, eM', b1_some, gd_t g3, st, jn]
  have q90 : ∀ i, zI t1 90 i = zI t 90 i := fun i => Q1.2.1 90 i (by omega) (by omega)
  have q50 : zS t1 59 50 = zS t 59 50 := Q1.r
  have v3n : v3.toInt.toNat = (90 * mr t + k.toInt).toNat := by rw [m2]
  rcases O with ⟨G1, l, l1, l2, em, ly, el⟩ | ⟨p, hp, sx, sm, z⟩
  · have ha1 := G1.2.2.2.2.1
    have h160' := G1.1.2.1
    have gz1 := G1.2.2.2.2.2.2.1
    have gl1 := G1.2.2.2.2.2.2.2.1
    have er1 : mr t1 = mr t := by unfold mr; rw [q50]
    have G1' : Rd s1 (pI t1 91 v3.toInt.toNat (zS t 59 51)) 0 := G1.arr (fun _ => rfl) (fun i => by rw [zI_pI, if_neg (by omega)])
    rw [takes_g G1 (by decide), if_pos (show zS (pI t1 91 v3.toInt.toNat (zS t 59 51)) 59 48 < 0 from by rw [G1'.2.2.1]; decide), G1'.look, b1_some]
    by_cases c : cuX s1 = 63
    · have cm : cuM (pI t1 91 v3.toInt.toNat (zS t 59 51)) = 63 := (G1'.ch (by decide)).1 c
      have lt := (G1.lt (by decide) c).2
      obtain ⟨G2, ea2⟩ := G1'.av lt
      rw [if_pos c, bd_some, jn, if_neg (by decide), if_pos cm, vl, st, vl, gd_t g3, st]
      have ez2 : xz (avX s1) = xz s1 := by unfold xz; rw [avX_S (by omega)]
      -- the class lays WHEN, the reference nothing
      have hz2 : 0 ≤ xz (avX s1) ∧ xz (avX s1) < 161 := by rw [ez2]; omega
      have G3 : Rd (emX (avX s1) (-23)) (pI (avM (pI t1 91 v3.toInt.toNat (zS t 59 51))) 91 v3.toInt.toNat (zS (avM (pI t1 91 v3.toInt.toNat (zS t 59 51))) 59 51)) 0 := by
        have h1 : Rd (avX s1) (pI (avM (pI t1 91 v3.toInt.toNat (zS t 59 51))) 91 v3.toInt.toNat (zS (avM (pI t1 91 v3.toInt.toNat (zS t 59 51))) 59 51)) 0 := G2.arr (fun _ => rfl) (fun i => by rw [zI_pI, if_neg (by omega)])
        obtain ⟨T, e2, e3, e4, ha, ho, hz, hl, hr⟩ := h1
        have ea : xa (emX (avX s1) (-23)) = xa (avX s1) := by unfold xa emX; rw [zS_pS, if_neg (by omega), zS_pI]
        have en : xn (emX (avX s1) (-23)) = xn (avX s1) := by unfold xn; rw [PkX.em.n]
        refine ⟨T.c PkX.em PkM.rf, ?_, e3, ?_, by rw [ea, en]; exact ha, ho, ?_, by rw [ea]; exact hl, hr⟩
        · unfold emX; rw [zS_pS, if_neg (by omega), zS_pI]; exact e2
        · unfold emX; rw [zS_pS, if_neg (by omega), zS_pI]; exact e4
        · rw [ea, (Em.one (c := -23) hz2).1, ez2, ea2]
          have : (([-23] : List Int32).length : Int) = 1 := rfl
          omega
      obtain ⟨s5, t5, eX5, eM5, P5, Q5, O5⟩ := HI _ _ G3
      have eX5' : f_X7_either (f_X7_single 12) (emX (avX s1) (-23)) 0 = some s5 := eX5
      have eM5' : f_X12_either (f_X12_operand 12) (pI (avM (pI t1 91 v3.toInt.toNat (zS t 59 51))) 91 v3.toInt.toNat (zS (avM (pI t1 91 v3.toInt.toNat (zS t 59 51))) 59 51)) = some t5 := eM5
      have fE : zS (avX s1) 24 5 < 0 := by rw [avX_S (by omega), G1.2.1]; decide
      rw [emit_g fE hz2, b1_some, eX5', b1_some, show pS (pI t1 91 v3.toInt.toNat (zS t 59 51)) 59 47 (zS (pI t1 91 v3.toInt.toNat (zS t 59 51)) 59 47 + 1) = avM (pI t1 91 v3.toInt.toNat (zS t 59 51)) from rfl, eM5', b1_some]
      have q50' : zS t5 59 50 = zS t 59 50 := by
        rw [Q5.r, zS_pI, avM_S (by omega), zS_pI]; exact q50
      have q90' : ∀ i, zI t5 90 i = zI t 90 i := fun i => by
        rw [Q5.2.1 90 i (by omega) (by omega), zI_pI, if_neg (by omega)]
        show zI (pI t1 91 v3.toInt.toNat (zS t 59 51)) 90 i = _
        rw [zI_pI, if_neg (by omega)]
        exact q90 i
      dsimp only
      rw [fin t5 q50' q90']
      have PX : PkX s s5 := P1.tr (PkX.av.tr (PkX.em.tr P5))
      have PR : PkR t (pI (pI t5 92 v3.toInt.toNat (zS t5 59 51)) 90 (mr t).toNat (k + 1)) := Q1.R.tr ((PkR.pI (Or.inr (Or.inl rfl))).tr (PkM.av.R.tr ((PkR.pI (Or.inr (Or.inl rfl))).tr (Q5.R.tr ((PkR.pI (Or.inr (Or.inr rfl))).tr (PkR.pI (Or.inl rfl)))))))
      rcases O5 with ⟨G5, l', m1', m2', em5, ly5, el5⟩ | st5
      · have gz5 := G5.2.2.2.2.2.2.1
        have ha5 := G5.2.2.2.2.1
        have h5 := G5.1.2.1
        rw [emit_g (by rw [G5.2.1]; decide) ⟨gz5.1, by omega⟩, b1_some]
        refine ⟨_, _, rfl, rfl, PX.tr PkX.em, PR, Or.inl ⟨some l, l', fun _ e => ?_, el5, m1', s5, rfl, G5.arr (fun _ => rfl) (fun i => by rw [zI_pI, if_neg (by omega), zI_pI, if_neg (by omega)]), ?_, ?_, ?_, ?_, ?_, ?_, ?_, ?_⟩⟩
        · rw [← Option.some.inj e]; exact ⟨el, l1⟩
        · have h1 := (em.tr gz.1 (Em.av (t := s1))).tr gz.1 (Em.one (s := avX s1) (c := -23) hz2)
          have h2 := h1.tr gz.1 em5
          rw [List.append_nil] at h2
          exact h2
        · have h1 : Ly t5 (pI (pI t5 92 v3.toInt.toNat (zS t5 59 51)) 90 (mr t).toNat (k + 1)) [] := Ly.nil rfl (fun i => by rw [zI_pI, if_neg (by omega), zI_pI, if_neg (by omega)]) (fun i => by rw [zI_pI, if_neg (by omega), zI_pI, if_neg (by omega)])
          have h2 : Ly t1 t5 l' := ly5.fr (by rw [zS_pI, avM_S (by omega), zS_pI]) (by rw [zS_pI, avM_S (by omega), zS_pI]) (fun i => by rw [zI_pI, if_neg (by omega)]; show zI (pI t1 91 v3.toInt.toNat (zS t 59 51)) 93 i = _; rw [zI_pI, if_neg (by omega)]) (fun i => by rw [zI_pI, if_neg (by omega)]; show zI (pI t1 91 v3.toInt.toNat (zS t 59 51)) 94 i = _; rw [zI_pI, if_neg (by omega)])
          have h3 := (ly.tr gl.1 gr.1 er1 h2).tr gl.1 gr.1 (by unfold mr; rw [q50']) h1
          rw [List.append_nil] at h3
          exact h3
        · have e1 : xa (emX (avX s1) (-23)) = xa s1 + 1 := by rw [← ea2]; unfold xa emX; rw [zS_pS, if_neg (by omega), zS_pI]
          rw [e1] at m2'
          omega
        · rw [zI_pI, if_pos ⟨rfl, rfl⟩, ek]
        · rw [← ek, ← v3n, zI_pI, if_neg (by omega), zI_pI, if_neg (by omega), Q5.2.1 91 _ (by omega) (by omega), zI_pI, if_pos ⟨rfl, rfl⟩, avM_S (by omega), zS_pI]
          exact ly.1
        · rw [← ek, ← v3n, zI_pI, if_neg (by omega), zI_pI, if_pos ⟨rfl, rfl⟩]
          rfl
        · intro i hi
          rw [zI_pI, if_neg (by omega), zI_pI, if_neg (by omega)]
          exact q90' i
        · intro i hi
          rw [← ek, ← v3n] at hi
          refine ⟨?_, ?_⟩
          · rw [zI_pI, if_neg (by omega), zI_pI, if_neg (by omega), Q5.2.1 91 _ (by omega) (by omega), zI_pI, if_neg (by omega)]
            show zI (pI t1 91 v3.toInt.toNat (zS t 59 51)) 91 i = _
            rw [zI_pI, if_neg (by omega)]
            exact Q1.2.1 91 i (by omega) (by omega)
          · rw [zI_pI, if_neg (by omega), zI_pI, if_neg (by omega), Q5.2.1 92 _ (by omega) (by omega), zI_pI, if_neg (by omega)]
            show zI (pI t1 91 v3.toInt.toNat (zS t 59 51)) 92 i = _
            rw [zI_pI, if_neg (by omega)]
            exact Q1.2.1 92 i (by omega) (by omega)
      · have hml : ml (pI (avM (pI t1 91 v3.toInt.toNat (zS t 59 51))) 91 v3.toInt.toNat (zS (avM (pI t1 91 v3.toInt.toNat (zS t 59 51))) 59 51)) = ml t1 := by unfold ml; rw [zS_pI, avM_S (by omega), zS_pI]
        have hmh : mh (pI (avM (pI t1 91 v3.toInt.toNat (zS t 59 51))) 91 v3.toInt.toNat (zS (avM (pI t1 91 v3.toInt.toNat (zS t 59 51))) 59 51)) = mh t1 + 1 := by
          have h1 : mh (avM (pI t1 91 v3.toInt.toNat (zS t 59 51))) = xa (avX s1) := G2.mh
          show mh (avM (pI t1 91 v3.toInt.toNat (zS t 59 51))) = _
          rw [h1, ea2, G1.mh]
        obtain ⟨p, hp, sx, sm, z0, zr⟩ := st5
        obtain ⟨s6, e6, P6, sx6, z6⟩ := sx.emit (c := -24) hp z0
        rw [e6, b1_some]
        refine ⟨s6, _, rfl, rfl, PX.tr P6, PR, Or.inr (Stk.fr (s := emX (avX s1) (-23)) (t := pI (avM (pI t1 91 v3.toInt.toNat (zS t 59 51))) 91 v3.toInt.toNat (zS (avM (pI t1 91 v3.toInt.toNat (zS t 59 51))) 59 51)) (t' := t5) ⟨p, hp, sx6, sm, z6, zr⟩ ?_ (fun _ => rfl))⟩
        have e1 := ly.1
        have e2 := G1.mh
        have e3 := G.mh
        rw [hml, hmh]
        omega
    · have cm : ¬ cuM (pI t1 91 v3.toInt.toNat (zS t 59 51)) = 63 := fun z => c ((G1'.ch (by decide)).2 z)
      rw [if_neg c, bd_some, jn, if_pos rfl, if_neg cm]
      dsimp only
      rw [emit_g (by rw [G1.2.1]; decide) ⟨gz1.1, by omega⟩, b1_some, fin (pI t1 91 v3.toInt.toNat (zS t 59 51)) q50 (fun i => by rw [zI_pI, if_neg (by omega)]; exact q90 i)]
      refine ⟨_, _, rfl, rfl, P1.tr PkX.em, Q1.R.tr ((PkR.pI (Or.inr (Or.inl rfl))).tr ((PkR.pI (Or.inr (Or.inr rfl))).tr (PkR.pI (Or.inl rfl)))), Or.inl ⟨none, l, fun _ e => (by cases e), el, l1, s1, rfl, G1'.arr (fun _ => rfl) (fun i => by rw [zI_pI, if_neg (by omega), zI_pI, if_neg (by omega)]), em, ?_, by omega, ?_, ?_, ?_, ?_, ?_⟩⟩
      · exact ly.to rfl (fun i => by rw [zI_pI, if_neg (by omega), zI_pI, if_neg (by omega), zI_pI, if_neg (by omega)]) (fun i => by rw [zI_pI, if_neg (by omega), zI_pI, if_neg (by omega), zI_pI, if_neg (by omega)])
      · rw [zI_pI, if_pos ⟨rfl, rfl⟩, ek]
      · rw [← ek, ← v3n, zI_pI, if_neg (by omega), zI_pI, if_neg (by omega), zI_pI, if_pos ⟨rfl, rfl⟩]
        show ml t = ml t + 0
        omega
      · rw [← ek, ← v3n, zI_pI, if_neg (by omega), zI_pI, if_pos ⟨rfl, rfl⟩]
        rfl
      · intro i hi
        rw [zI_pI, if_neg (by omega), zI_pI, if_neg (by omega), zI_pI, if_neg (by omega)]
        exact q90 i
      · intro i hi
        rw [← ek, ← v3n] at hi
        refine ⟨?_, ?_⟩
        · rw [zI_pI, if_neg (by omega), zI_pI, if_neg (by omega), zI_pI, if_neg (by omega)]
          exact Q1.2.1 91 i (by omega) (by omega)
        · rw [zI_pI, if_neg (by omega), zI_pI, if_neg (by omega), zI_pI, if_neg (by omega)]
          exact Q1.2.1 92 i (by omega) (by omega)
  · obtain ⟨z0, zr⟩ := z
    obtain ⟨s6, e6, P6, sx6, z6⟩ := sx.emit (c := -24) hp z0
    rw [sx.takes hp (by decide), bd_some, jn, if_pos rfl, if_neg (show ¬ zS (pI t1 91 v3.toInt.toNat (zS t 59 51)) 59 48 < 0 from by rw [zS_pI, sm, jlt, jl0]; omega)]
    dsimp only
    rw [fin (pI t1 91 v3.toInt.toNat (zS t 59 51)) q50 (fun i => by rw [zI_pI, if_neg (by omega)]; exact q90 i), e6, b1_some]
    exact ⟨s6, _, rfl, rfl, P1.tr P6, Q1.R.tr ((PkR.pI (Or.inr (Or.inl rfl))).tr ((PkR.pI (Or.inr (Or.inr rfl))).tr (PkR.pI (Or.inl rfl)))), Or.inr (Stk.fr (s := s) (t := t) (t' := t1) ⟨p, hp, sx6, sm, z6, zr⟩ (Int.le_of_eq (by omega)) (fun _ => rfl))⟩
/-! a text: lines with semicolons between -/
def clL (ls : List (Option (List Int32) × List Int32)) : List Int32 := ls.flatMap (fun p => pre p.1 ++ p.2 ++ [-24])
def mlL (ls : List (Option (List Int32) × List Int32)) : List Int32 := ls.flatMap (fun p => tst p.1 ++ p.2)
theorem clL_add {ls : List (Option (List Int32) × List Int32)} {p : Option (List Int32) × List Int32} : clL (ls ++ [p]) = clL ls ++ (pre p.1 ++ p.2 ++ [-24]) := by unfold clL; rw [List.flatMap_append]; simp
theorem mlL_add {ls : List (Option (List Int32) × List Int32)} {p : Option (List Int32) × List Int32} : mlL (ls ++ [p]) = mlL ls ++ (tst p.1 ++ p.2) := by unfold mlL; rw [List.flatMap_append]; simp
/-- what was read since s0, t0: the lines ls -/
def TxI (E : Nat → List Int32 → Prop) (s0 t0 s t : SS) (ls : List (Option (List Int32) × List Int32)) : Prop := (∃ s2, s = emX s2 (-24) ∧ Rd s2 t 0 ∧ 2 * (ls.length : Int) ≤ xa s2 + 1) ∧ Em s0 s (clL ls) ∧ Ly t0 t (mlL ls) ∧ (zI t 90 (mr t0).toNat).toInt = ls.length ∧ 1 ≤ ls.length ∧ (∀ p, p ∈ ls → (∀ l, p.1 = some l → E 46 l ∧ 1 ≤ l.length) ∧ E 46 p.2 ∧ 1 ≤ p.2.length) ∧ (∀ (i : Nat) p, ls[i]? = some p → (zI t 91 (90 * mr t0 + i).toNat).toInt = (mlL (ls.take i)).length + (tst p.1).length ∧ (zI t 92 (90 * mr t0 + i).toNat).toInt = (mlL (ls.take (i + 1))).length) ∧ ∀ j : Nat, j ≠ (mr t0).toNat → zI t 90 j = zI t0 90 j
/-- the start of a text, both sides -/
def T0r (s0 t0 : SS) : Prop := Rd s0 t0 0 ∧ xz s0 = 0 ∧ ml t0 = 0 ∧ xa s0 = 0 ∧ zI t0 90 (mr t0).toNat = 0
theorem av_em {s : SS} {c : Int32} : avX (emX s c) = emX (avX s) c := by
  have e1 : zS (emX s c) 24 4 = zS s 24 4 := by unfold emX; rw [zS_pS, if_neg (by omega), zS_pI]
  show pS (emX s c) 24 4 (zS (emX s c) 24 4 + 1) = _
  rw [e1]
  show (up2 (up2 s.1 24 3 (zS s 24 3 + 1)) 24 4 (zS s 24 4 + 1), _) = (up2 (up2 s.1 24 4 (zS s 24 4 + 1)) 24 3 (zS (avX s) 24 3 + 1), _)
  rw [avX_S (by omega)]
  congr 1
  funext q k
  unfold up2
  by_cases h1 : q = 24 ∧ k = 4
  · rw [if_pos h1, if_neg (by omega), if_pos h1]
  · rw [if_neg h1]
    by_cases h2 : q = 24 ∧ k = 3
    · rw [if_pos h2, if_pos h2]
    · rw [if_neg h2, if_neg h2, if_neg h1]
theorem takes_e {s t : SS} {d k c : Int32} (G : Rd s t d) (hk : 0 ≤ k.toInt) : f_X7_takes (emX s c) k = if cuX s = k then some (1, avX (emX s c)) else some (0, emX s c) := by
  have e4 : zS (emX s c) 24 4 = zS s 24 4 := by unfold emX; rw [zS_pS, if_neg (by omega), zS_pI]
  have e1 : zS (emX s c) 24 1 = zS s 24 1 := PkX.em.n
  have e5 : zS (emX s c) 24 5 = zS s 24 5 := by unfold emX; rw [zS_pS, if_neg (by omega), zS_pI]
  have ei : ∀ i, zI (emX s c) 25 i = zI s 25 i := fun i => PkX.em.2.1 25 i (by omega)
  have h := takes_g G hk
  obtain ⟨⟨_, hn, tp⟩, e2, _, _, ha, _⟩ := G
  unfold xa xn at ha
  unfold xn at hn
  unfold f_X7_takes
  rw [e5, if_pos (by rw [e2]; decide), e4, e1]
  unfold cuX
  by_cases h : zS s 24 4 < zS s 24 1
  · rw [if_pos h, if_pos h, vl]
    rw [jlt] at h
    rw [gd_t ⟨by omega, by omega⟩, ei]
    by_cases z : zI s 25 (zS s 24 4).toInt.toNat = k
    · rw [if_pos z, if_pos z, vl, st]
      show _ = some (1, pS (emX s c) 24 4 (zS (emX s c) 24 4 + 1))
      rw [e4]
    · rw [if_neg z, if_neg z]
  · rw [if_neg h, if_neg h, if_neg (fun z => by rw [← z] at hk; exact absurd hk (by decide))]
/-- the ends of both loops: the class's q, the reference's r -/
theorem txt_l {E : Nat → List Int32 → Prop} (HE : EC E) {s0 t0 : SS} (H0 : T0r s0 t0) {y1 y2 : Int32} {q : SS → Option (Int32 × SS)} {r : SS → Option (Int32 × SS)} : ∀ (n : Nat) (s t : SS) (x : Int32) (ls : List (Option (List Int32) × List Int32)), TxI E s0 t0 s t ls → PkX s0 s → PkR t0 t → 0 ≤ x.toInt → x.toInt + 1 ≤ ls.length → 200 - 2 * (ls.length : Int) < n → ∃ s' t', f_X7_compiled_L21 q n s x = q s' ∧ f_X12_text_L77 r y1 y2 n t = r t' ∧ PkX s0 s' ∧ PkR t0 t' ∧ ((∃ ls', TxI E s0 t0 s' t' ls' ∧ ∀ s2, s' = emX s2 (-24) → Rd s2 t' 0 → ¬ cuX s2 = 59) ∨ Stk s0 t0 s' t')
  | 0, s, t, x, ls, I, _, _, _, _, hn => by
    obtain ⟨⟨s2, e, G, h⟩, _⟩ := I
    have := G.2.2.2.2.1
    have := G.1.2.1
    omega
  | n + 1, s, t, x, ls, I, PX, PR, hx0, hx1, hn => by
    obtain ⟨⟨s2, es, G, hk⟩, em, ly, e90, hl1, hE, htab, h90⟩ := I
    have ha := G.2.2.2.2.1
    have h160 := G.1.2.1
    have gz := G.2.2.2.2.2.2.1
    have gl := G.2.2.2.2.2.2.2.1
    have gr := G.2.2.2.2.2.2.2.2
    have er : mr t = mr t0 := by unfold mr; rw [PR.1 59 50 (by omega)]
    rw [f_X7_compiled_L21, f_X7_compiled_L21_b, f_X12_text_L77, f_X12_text_L77_b, if_pos (by rw [jlt, j160]; omega), if_pos (show zS t 59 48 < 0 from by rw [G.2.2.1]; decide), G.look, b1_some, es, takes_e G (by decide)]
    by_cases c : cuX s2 = 59
    · have cm : cuM t = 59 := (G.ch (by decide)).1 c
      have lt := (G.lt (by decide) c).2
      obtain ⟨G1, ea1⟩ := G.av lt
      rw [if_pos c, bd_some, if_neg (by decide), if_pos cm, vl, st, show pS t 59 47 (zS t 59 47 + 1) = avM t from rfl, av_em]
      have ez1 : xz (avX s2) = xz s2 := by unfold xz; rw [avX_S (by omega)]
      have el1 : ml (avM t) = ml t := by unfold ml; rw [avM_S (by omega)]
      have er1 : mr (avM t) = mr t := by unfold mr; rw [avM_S (by omega)]
      have hz1 : 0 ≤ xz (avX s2) ∧ xz (avX s2) < 161 := by rw [ez1]; omega
      have ea : xa (emX (avX s2) (-24)) = xa (avX s2) := by unfold xa emX; rw [zS_pS, if_neg (by omega), zS_pI]
      have G3 : Rd (emX (avX s2) (-24)) (avM t) 0 := by
        obtain ⟨T, e2, e3, e4, ha, ho, hz, hl, hr⟩ := G1
        have en : xn (emX (avX s2) (-24)) = xn (avX s2) := by unfold xn; rw [PkX.em.n]
        refine ⟨T.c PkX.em PkM.rf, ?_, e3, ?_, by rw [ea, en]; exact ha, ho, ?_, by rw [ea]; exact hl, hr⟩
        · unfold emX; rw [zS_pS, if_neg (by omega), zS_pI]; exact e2
        · unfold emX; rw [zS_pS, if_neg (by omega), zS_pI]; exact e4
        · rw [ea, (Em.one (c := -24) hz1).1, ez1, ea1]
          have : (([-24] : List Int32).length : Int) = 1 := rfl
          omega
      have k90 : zI (avM t) 90 (mr (avM t)).toNat = zI t 90 (mr t0).toNat := by rw [er1, er]; rfl
      obtain ⟨s5, t5, eX, eM, P5, Q5, O⟩ := line_l HE G3 (by rw [k90, e90, ea, ea1]; omega)
      rw [eX, b1_some, eM, b1_some, vl]
      have PX5 : PkX s0 s5 := by
        have h1 : PkX s (emX (avX s2) (-24)) := by rw [es, ← av_em]; exact PkX.av
        exact PX.tr (h1.tr P5)
      have PR5 : PkR t0 t5 := PR.tr (PkM.av.R.tr Q5)
      have xx : (x + 1).toInt = x.toInt + 1 := by rw [i32_add (by rw [jl1]; omega) (by rw [jl1]; omega), jl1]
      rcases O with ⟨T, V, hT, hV, hV1, s6, e6, G6, em6, ly6, xa6, n90, n91, n92, o90, o9⟩ | sk
      · have hTx : TxI E s0 t0 s5 t5 (ls ++ [(T, V)]) := by
          have gz6 := G6.2.2.2.2.2.2.1
          have ha6 := G6.2.2.2.2.1
          have h6 := G6.1.2.1
          rw [er1, er] at n90 n91 n92 o90 o9
          have kk : zI (avM t) 90 (mr t0).toNat = zI t 90 (mr t0).toNat := rfl
          rw [kk] at n90 n91 n92 o9
          rw [e90] at n91 n92 o9
          have xm : xa (emX (avX s2) (-24)) = xa s2 + 1 := by rw [ea, ea1]
          have l0 : ml t = (mlL ls).length := by rw [ly.1, H0.2.2.1]; omega
          refine ⟨⟨s6, e6, G6, ?_⟩, ?_, ?_, ?_, ?_, ?_, ?_, ?_⟩
          · rw [List.length_append]
            rw [xm] at xa6
            show 2 * ((ls.length + 1 : Nat) : Int) ≤ _
            omega
          · rw [clL_add, e6]
            have h1 : Em s0 (emX (avX s2) (-24)) (clL ls) := by
              have a1 : Em s (avX s) [] := Em.av
              have a2 := em.tr (by rw [H0.2.1]; omega) a1
              rw [List.append_nil, es, av_em] at a2
              exact a2
            have h2 := (h1.tr (by rw [H0.2.1]; omega) em6).tr (by rw [H0.2.1]; omega) (Em.one (s := s6) (c := -24) ⟨gz6.1, by omega⟩)
            rw [List.append_assoc] at h2
            exact h2
          · rw [mlL_add]
            have h1 : Ly t (avM t) [] := Ly.av
            have h2 := (ly.tr (by rw [H0.2.2.1]; omega) H0.1.2.2.2.2.2.2.2.2.1 er h1).tr (by rw [H0.2.2.1]; omega) H0.1.2.2.2.2.2.2.2.2.1 (by rw [er1, er]) ly6
            rw [List.append_nil] at h2
            exact h2
          · rw [n90, List.length_append]
            rw [i32_add (by rw [jl1, e90]; omega) (by rw [jl1, e90]; omega), jl1, e90]
            rfl
          · rw [List.length_append]; omega
          · intro p hp
            rcases List.mem_append.1 hp with h | h
            · exact hE p h
            · rw [List.mem_singleton] at h
              rw [h]
              exact ⟨hT, hV, hV1⟩
          · intro i p hp
            rw [List.getElem?_append] at hp
            by_cases hi : i < ls.length
            · rw [if_pos hi] at hp
              obtain ⟨h1, h2⟩ := htab i p hp
              rw [List.take_append_of_le_length (by omega), List.take_append_of_le_length (by omega)]
              have hh := o9 (90 * mr t0 + i).toNat (by omega)
              rw [hh.1, hh.2]
              exact ⟨h1, h2⟩
            · rw [if_neg hi] at hp
              have hi2 : i = ls.length := by
                cases hq : i - ls.length with
                | zero => omega
                | succ j => rw [hq] at hp; simp at hp
              subst hi2
              rw [Nat.sub_self] at hp
              have hp2 : (T, V) = p := by simpa using hp
              subst hp2
              rw [List.take_append_of_le_length (Nat.le_refl _), List.take_length, List.take_of_length_le (by rw [List.length_append]; simp), mlL_add]
              refine ⟨?_, ?_⟩
              · rw [n91, el1, l0]
              · have e := ly6.1
                rw [n92, e, el1, l0, List.length_append (as := mlL ls)]
                have hv : ((tst (T, V).1 ++ (T, V).2).length : Int) = (tst T ++ V).length := rfl
                omega
          · intro j hj
            rw [o90 j hj]
            exact h90 j hj
        exact txt_l HE H0 n s5 t5 (x + 1) (ls ++ [(T, V)]) hTx PX5 PR5 (by omega) (by rw [xx, List.length_append]; show _ ≤ ((ls.length + 1 : Nat) : Int); omega) (by rw [List.length_append]; show 200 - 2 * ((ls.length + 1 : Nat) : Int) < _; omega)
      · obtain ⟨p, hp, sx, sm, zr⟩ := sk
        obtain ⟨n', hn'⟩ : ∃ n', n = n' + 1 := ⟨n - 1, by omega⟩
        refine ⟨s5, t5, ?_, ?_, PX5, PR5, Or.inr (Stk.fr (s := emX (avX s2) (-24)) (t := avM t) (t' := t5) ⟨p, hp, sx, sm, zr⟩ ?_ (fun _ => rfl))⟩
        · rw [hn', f_X7_compiled_L21, f_X7_compiled_L21_b]
          by_cases z : x + 1 < 160
          · rw [if_pos z, sx.takes hp (by decide), bd_some, if_pos rfl]
          · rw [if_neg z]
        · rw [hn', f_X12_text_L77, f_X12_text_L77_b, if_neg (by rw [sm, jlt, jl0]; omega)]
        · have h1 := H0.1.mh
          have h2 := G3.mh
          rw [ea, ea1] at h2
          rw [el1, H0.2.2.1, h1, h2, H0.2.2.2.1]
          omega
    · have cm : ¬ cuM t = 59 := fun z => c ((G.ch (by decide)).2 z)
      rw [if_neg c, bd_some, if_pos rfl, if_neg cm]
      refine ⟨emX s2 (-24), t, rfl, rfl, by rw [← es]; exact PX, PR, Or.inl ⟨ls, ⟨⟨s2, rfl, G, hk⟩, by rw [← es]; exact em, ly, e90, hl1, hE, htab, h90⟩, fun s3 e3 G3 => ?_⟩⟩
      have e4 : zS s3 24 4 = zS s2 24 4 := by
        have h1 : zS (emX s2 (-24)) 24 4 = zS s2 24 4 := by unfold emX; rw [zS_pS, if_neg (by omega), zS_pI]
        have h2 : zS (emX s3 (-24)) 24 4 = zS s3 24 4 := by unfold emX; rw [zS_pS, if_neg (by omega), zS_pI]
        rw [← h2, ← e3, h1]
      have e1 : zS s3 24 1 = zS s2 24 1 := by rw [← PkX.em.n (s := s3), ← e3, PkX.em.n]
      have ei : ∀ i, zI s3 25 i = zI s2 25 i := fun i => by rw [← (PkX.em (s := s3) (c := -24)).2.1 25 i (by omega), ← e3, PkX.em.2.1 25 i (by omega)]
      unfold cuX at c ⊢
      rw [e4, e1, ei]
      exact c
/-! a text from its start: the fault, or none -/
def x0T (s : SS) : SS := pS (pS (pS s 24 3 0) 24 4 0) 24 5 (-1)
def m0T (t : SS) : SS := pS (pS (pS (pS (pI (pS t 59 50 (zS t 59 38)) 90 (zS t 59 38).toInt.toNat 0) 59 51 0) 59 47 0) 59 48 (-1)) 59 49 0
theorem x0T_P {s : SS} : PkX s (x0T s) := ⟨fun q k z => by unfold x0T; rw [zS_pS, if_neg (by omega), zS_pS, if_neg (by omega), zS_pS, if_neg (by omega)], fun _ _ _ => rfl, rfl⟩
theorem m0T_S {t : SS} {q k : Nat} (h : ¬ (q = 59 ∧ (k = 47 ∨ k = 48 ∨ k = 49 ∨ k = 50 ∨ k = 51))) : zS (m0T t) q k = zS t q k := by
  unfold m0T
  rw [zS_pS, if_neg (by omega), zS_pS, if_neg (by omega), zS_pS, if_neg (by omega), zS_pS, if_neg (by omega), zS_pI, zS_pS, if_neg (by omega)]
theorem m0T_I {t : SS} {q i : Nat} (h : q ≠ 90) : zI (m0T t) q i = zI t q i := by
  unfold m0T
  rw [zI_pS, zI_pS, zI_pS, zI_pS, zI_pI, if_neg (by omega), zI_pS]
theorem T0r_of {s t : SS} (T : TP s t) (hr : 0 ≤ (zS t 59 38).toInt ∧ (zS t 59 38).toInt ≤ 15) : T0r (x0T s) (m0T t) := by
  have e50 : zS (m0T t) 59 50 = zS t 59 38 := by unfold m0T; rw [zS_pS, if_neg (by omega), zS_pS, if_neg (by omega), zS_pS, if_neg (by omega), zS_pS, if_neg (by omega), zS_pI, zS_pS, if_pos ⟨rfl, rfl⟩]
  have e51 : zS (m0T t) 59 51 = 0 := by unfold m0T; rw [zS_pS, if_neg (by omega), zS_pS, if_neg (by omega), zS_pS, if_neg (by omega), zS_pS, if_pos ⟨rfl, rfl⟩]
  have e47 : zS (m0T t) 59 47 = 0 := by unfold m0T; rw [zS_pS, if_neg (by omega), zS_pS, if_neg (by omega), zS_pS, if_pos ⟨rfl, rfl⟩]
  have e48 : zS (m0T t) 59 48 = -1 := by unfold m0T; rw [zS_pS, if_neg (by omega), zS_pS, if_pos ⟨rfl, rfl⟩]
  have e49 : zS (m0T t) 59 49 = 0 := by unfold m0T; rw [zS_pS, if_pos ⟨rfl, rfl⟩]
  have x3 : zS (x0T s) 24 3 = 0 := by unfold x0T; rw [zS_pS, if_neg (by omega), zS_pS, if_neg (by omega), zS_pS, if_pos ⟨rfl, rfl⟩]
  have x4 : zS (x0T s) 24 4 = 0 := by unfold x0T; rw [zS_pS, if_neg (by omega), zS_pS, if_pos ⟨rfl, rfl⟩]
  have x5 : zS (x0T s) 24 5 = -1 := by unfold x0T; rw [zS_pS, if_pos ⟨rfl, rfl⟩]
  have x1 : zS (x0T s) 24 1 = zS s 24 1 := x0T_P.n
  obtain ⟨a1, a2, a3⟩ := T
  have mr0 : mr (m0T t) = (zS t 59 38).toInt := by unfold mr; rw [e50]
  refine ⟨⟨⟨by rw [x1, m0T_S (by omega)]; exact a1, by unfold xn; rw [x1]; exact a2, fun i hi => by rw [x0T_P.2.1 25 i (by omega), m0T_I (by omega)]; exact a3 i hi⟩, x5, e48, by rw [x4, e47], ?_, e49, ?_, ?_, by rw [mr0]; exact hr⟩, by unfold xz; rw [x3]; rfl, by unfold ml; rw [e51]; rfl, by unfold xa; rw [x4]; rfl, ?_⟩
  · unfold xa xn
    rw [x4, x1, jl0]
    exact ⟨Int.le_refl _, a2.1⟩
  · unfold xz xa
    rw [x3, x4]
    exact ⟨by decide, by decide⟩
  · unfold ml xa
    rw [e51, x4]
    exact ⟨by decide, by decide⟩
  · rw [mr0]
    unfold m0T
    rw [zI_pS, zI_pS, zI_pS, zI_pS, zI_pI, if_pos ⟨rfl, rfl⟩]
theorem comp_l {E : Nat → List Int32 → Prop} (HE : EC E) {s t : SS} (T : TP s t) (hr : 0 ≤ (zS t 59 38).toInt ∧ (zS t 59 38).toInt ≤ 15) (y1 y2 : Int32) (r : SS → Option (Int32 × SS)) : ∃ f s' t', f_X7_compiled s = some (f, s') ∧ (b1 (f_X12_readLine (m0T t)) fun s16 => f_X12_text_L77 r y1 y2 4000 s16) = r t' ∧ PkX s s' ∧ PkR (m0T t) t' ∧ ((f = -1 ∧ zS t' 59 48 = -1 ∧ ¬ zS t' 59 47 < zS t' 59 37 ∧ ∃ ls, TxI E (x0T s) (m0T t) s' t' ls) ∨ (0 ≤ f.toInt ∧ (zS t' 59 48 = f ∨ (zS t' 59 48 = -1 ∧ zS t' 59 47 < zS t' 59 37 ∧ zS t' 59 47 = f)))) := by
  have H0 := T0r_of T hr
  obtain ⟨G0, z1, z2, z3, z4⟩ := id H0
  obtain ⟨s4, t16, eX, eM, P4, Q4, O⟩ := line_l HE G0 (by rw [z4, z3]; exact ⟨by decide, by decide⟩)
  rw [eM, b1_some]
  have fc : f_X7_compiled s = f_X7_compiled_L21 (fun (s11 : SS)  => (if (zS s11 24 5) < (0 : Int32) then (if (zS s11 24 4) < (zS s11 24 1) then (vl ((zS s11 24 4)) fun v14 => (st (pS s11 24 5 v14) fun s15 => some ((zS s15 24 5), s15))) else some ((zS s11 24 5), s11)) else some ((zS s11 24 5), s11))) 4000 s4 0 := by
    unfold f_X7_compiled
    rw [st, st, st, show pS (pS (pS s 24 3 0) 24 4 0) 24 5 (-1) = x0T s from rfl, eX, b1_some]
  rw [fc]
  -- the end with a fault
  have sk : ∀ s' t', Stk (x0T s) (m0T t) s' t' → PkX s s' → PkR (m0T t) t' → ∃ f s'' t'', (if (zS s' 24 5) < (0 : Int32) then (if (zS s' 24 4) < (zS s' 24 1) then (vl ((zS s' 24 4)) fun v14 => (st (pS s' 24 5 v14) fun s15 => some ((zS s15 24 5), s15))) else some ((zS s' 24 5), s')) else some ((zS s' 24 5), s')) = some (f, s'') ∧ r t' = r t'' ∧ PkX s s'' ∧ PkR (m0T t) t'' ∧ ((f = -1 ∧ zS t'' 59 48 = -1 ∧ ¬ zS t'' 59 47 < zS t'' 59 37 ∧ ∃ ls, TxI E (x0T s) (m0T t) s'' t'' ls) ∨ (0 ≤ f.toInt ∧ (zS t'' 59 48 = f ∨ (zS t'' 59 48 = -1 ∧ zS t'' 59 47 < zS t'' 59 37 ∧ zS t'' 59 47 = f)))) := by
    rintro s' t' ⟨p, hp, sx, sm, zr⟩ PX PR
    rcases sx with sx | ⟨a, b, c, d⟩
    · rw [if_neg (by rw [sx, jlt, jl0]; omega)]
      exact ⟨p, s', t', by rw [sx], rfl, PX, PR, Or.inr ⟨hp, Or.inl sm⟩⟩
    · rw [if_pos (by rw [a]; decide), if_pos c, vl, st, zS_pS, if_pos ⟨rfl, rfl⟩, b]
      exact ⟨p, _, t', rfl, rfl, PX.tr ⟨fun q k z => by rw [zS_pS, if_neg (by omega)], fun _ _ _ => rfl, rfl⟩, PR, Or.inr ⟨hp, Or.inl sm⟩⟩
  rcases O with ⟨Tt, V, hT, hV, hV1, s6, e6, G6, em6, ly6, xa6, n90, n91, n92, o90, o9⟩ | st4
  · have gz6 := G6.2.2.2.2.2.2.1
    have ha6 := G6.2.2.2.2.1
    have h6 := G6.1.2.1
    rw [z4, jl0, Int.add_zero] at n91 n92 o9
    have I1 : TxI E (x0T s) (m0T t) s4 t16 [(Tt, V)] := by
      refine ⟨⟨s6, e6, G6, ?_⟩, ?_, ?_, ?_, Nat.le_refl _, ?_, ?_, fun j hj => o90 j hj⟩
      · show 2 * ((1 : Nat) : Int) ≤ _
        omega
      · have h2 := em6.tr (by rw [z1]; omega) (Em.one (s := s6) (c := -24) ⟨gz6.1, by omega⟩)
        rw [e6]
        have : clL [(Tt, V)] = pre Tt ++ V ++ [-24] := by unfold clL; simp
        rw [this]
        exact h2
      · have : mlL [(Tt, V)] = tst Tt ++ V := by unfold mlL; simp
        rw [this]
        exact ly6
      · rw [n90, z4]
        rfl
      · intro p hp
        rw [List.mem_singleton] at hp
        rw [hp]
        exact ⟨hT, hV, hV1⟩
      · intro i p hp
        have hi : i = 0 := by
          cases i with
          | zero => rfl
          | succ i => simp at hp
        subst hi
        have hp2 : (Tt, V) = p := by simpa using hp
        subst hp2
        have e0 : (90 * mr (m0T t) + ((0 : Nat) : Int)) = 90 * mr (m0T t) := by omega
        rw [e0, n91, n92, ly6.1, z2]
        have h1 : mlL (List.take 0 [(Tt, V)]) = [] := rfl
        have h2 : mlL (List.take (0 + 1) [(Tt, V)]) = tst Tt ++ V := by
          show mlL [(Tt, V)] = _
          unfold mlL
          simp
        rw [h1, h2]
        refine ⟨?_, by omega⟩
        show 0 + ((tst Tt).length : Int) = ((([] : List Int32).length : Nat) : Int) + ((tst Tt).length : Int)
        simp
    obtain ⟨s', t', eL, eN, PX, PR, O2⟩ := txt_l HE H0 (y1 := y1) (y2 := y2) (q := fun (s11 : SS)  => (if (zS s11 24 5) < (0 : Int32) then (if (zS s11 24 4) < (zS s11 24 1) then (vl ((zS s11 24 4)) fun v14 => (st (pS s11 24 5 v14) fun s15 => some ((zS s15 24 5), s15))) else some ((zS s11 24 5), s11)) else some ((zS s11 24 5), s11))) (r := r) 4000 s4 t16 0 [(Tt, V)] I1 P4 Q4 (by decide) (by show (0 : Int) + 1 ≤ ((1 : Nat) : Int); omega) (by show 200 - 2 * ((1 : Nat) : Int) < _; omega)
    rw [eL, eN]
    rcases O2 with ⟨ls, I2, hno⟩ | st2
    · obtain ⟨⟨s2, es, G2, hk⟩, rest⟩ := id I2
      have a5 : zS s' 24 5 = -1 := by rw [es]; unfold emX; rw [zS_pS, if_neg (by omega), zS_pI]; exact G2.2.1
      have a4 : zS s' 24 4 = zS t' 59 47 := by rw [es]; unfold emX; rw [zS_pS, if_neg (by omega), zS_pI]; exact G2.2.2.2.1
      have a1 : zS s' 24 1 = zS t' 59 37 := by rw [es, PkX.em.n]; exact G2.1.1
      show ∃ f s'' t'', (if (zS s' 24 5) < (0 : Int32) then (if (zS s' 24 4) < (zS s' 24 1) then (vl ((zS s' 24 4)) fun v14 => (st (pS s' 24 5 v14) fun s15 => some ((zS s15 24 5), s15))) else some ((zS s' 24 5), s')) else some ((zS s' 24 5), s')) = some (f, s'') ∧ _
      rw [if_pos (show zS s' 24 5 < 0 from by rw [a5]; decide)]
      by_cases lt : zS s' 24 4 < zS s' 24 1
      · rw [if_pos lt, vl, st, zS_pS, if_pos ⟨rfl, rfl⟩]
        refine ⟨zS s' 24 4, _, t', rfl, rfl, (x0T_P.tr PX).tr ⟨fun q k z => by rw [zS_pS, if_neg (by omega)], fun _ _ _ => rfl, rfl⟩, PR, Or.inr ⟨?_, Or.inr ⟨G2.2.2.1, by rw [← a4, ← a1]; exact lt, a4.symm⟩⟩⟩
        have := G2.2.2.2.2.1.1
        unfold xa at this
        rw [a4, ← G2.2.2.2.1]
        exact this
      · rw [if_neg lt, a5]
        exact ⟨-1, s', t', rfl, rfl, x0T_P.tr PX, PR, Or.inl ⟨rfl, G2.2.2.1, by rw [← a4, ← a1]; exact lt, ls, I2⟩⟩
    · exact sk s' t' st2 (x0T_P.tr PX) PR
  · obtain ⟨p, hp, sx, sm, zr⟩ := id st4
    have eL : f_X7_compiled_L21 (fun (s11 : SS)  => (if (zS s11 24 5) < (0 : Int32) then (if (zS s11 24 4) < (zS s11 24 1) then (vl ((zS s11 24 4)) fun v14 => (st (pS s11 24 5 v14) fun s15 => some ((zS s15 24 5), s15))) else some ((zS s11 24 5), s11)) else some ((zS s11 24 5), s11))) (3999 + 1) s4 0 = (if (zS s4 24 5) < (0 : Int32) then (if (zS s4 24 4) < (zS s4 24 1) then (vl ((zS s4 24 4)) fun v14 => (st (pS s4 24 5 v14) fun s15 => some ((zS s15 24 5), s15))) else some ((zS s4 24 5), s4)) else some ((zS s4 24 5), s4)) := by
      rw [f_X7_compiled_L21, f_X7_compiled_L21_b, if_pos (by decide), sx.takes hp (by decide), bd_some, if_pos rfl]
    have eN : f_X12_text_L77 r y1 y2 (3999 + 1) t16 = r t16 := by
      rw [f_X12_text_L77, f_X12_text_L77_b, if_neg (by rw [sm, jlt, jl0]; omega)]
    rw [eL, eN]
    exact sk s4 t16 st4 (x0T_P.tr P4) Q4
/-! FEED, TEXT: the steps -/
theorem and255 (b : Int32) : (b &&& 255).toInt = b.toInt % 256 := by
  have h : (b &&& 255).toBitVec.toNat = b.toBitVec.toNat % 256 := by
    show (b.toBitVec &&& (255#32)).toNat = _
    rw [BitVec.toNat_and]
    exact Nat.and_two_pow_sub_one_eq_mod _ 8
  have h1 : (b &&& 255).toInt = (b &&& 255).toBitVec.toInt := rfl
  have h2 : b.toInt = b.toBitVec.toInt := rfl
  rw [h1, h2, BitVec.toInt_eq_toNat_cond, BitVec.toInt_eq_toNat_cond, h]
  have := b.toBitVec.isLt
  rw [if_pos (by omega)]
  by_cases c : 2 * b.toBitVec.toNat < 2 ^ 32
  · rw [if_pos c]; omega
  · rw [if_neg c]; omega
theorem byt (b : Int32) : (0 ≤ (b &&& 255).toInt ∧ (b &&& 255).toInt ≤ 255) ∧ (b.toInt8.toInt32.toInt8.toInt32).toInt = if (b &&& 255).toInt < 128 then (b &&& 255).toInt else (b &&& 255).toInt - 256 := by
  have h1 : (b.toInt8.toInt32.toInt8.toInt32).toInt = b.toInt.bmod 256 := by
    rw [Int8.toInt_toInt32, Int32.toInt_toInt8, Int8.toInt_toInt32, Int32.toInt_toInt8, Int.bmod_bmod]
  rw [h1, and255, Int.bmod_def]
  refine ⟨by omega, ?_⟩
  by_cases c : b.toInt % 256 < 128
  · rw [if_pos c, if_pos (by omega)]
    omega
  · rw [if_neg c, if_neg (by omega)]
    omega
def KfX (s r : SS) : Prop := (∀ q k, ¬ (q = 24 ∧ k = 1) → zS r q k = zS s q k) ∧ (∀ q i, q ≠ 25 → zI r q i = zI s q i) ∧ r.2.2 = s.2.2
def KfM (s r : SS) : Prop := (∀ q k, ¬ (q = 59 ∧ k = 37) → zS r q k = zS s q k) ∧ (∀ q i, q ≠ 86 → zI r q i = zI s q i) ∧ r.2.2 = s.2.2
theorem KfX.rf {s : SS} : KfX s s := ⟨fun _ _ _ => rfl, fun _ _ _ => rfl, rfl⟩
theorem KfM.rf {s : SS} : KfM s s := ⟨fun _ _ _ => rfl, fun _ _ _ => rfl, rfl⟩
theorem KfX.tr {a b c : SS} (h : KfX a b) (g : KfX b c) : KfX a c := ⟨fun q k z => (g.1 q k z).trans (h.1 q k z), fun q i z => (g.2.1 q i z).trans (h.2.1 q i z), g.2.2.trans h.2.2⟩
theorem KfM.tr {a b c : SS} (h : KfM a b) (g : KfM b c) : KfM a c := ⟨fun q k z => (g.1 q k z).trans (h.1 q k z), fun q i z => (g.2.1 q i z).trans (h.2.1 q i z), g.2.2.trans h.2.2⟩
theorem fed_l (y1 y2 : Int32) : ∀ (n : Nat) (s t : SS) (x : Int32), TP s t → Iv s → Iv t → 0 ≤ x.toInt → x.toInt ≤ y1.toInt → y1.toInt ≤ 4 → xn s + (y1.toInt - x.toInt) ≤ 160 → y1.toInt - x.toInt < n → ∃ r u, f_X7_fed_L17 y1 y2 n s x = some (zS r 24 1, r) ∧ f_X12_feed_L28 y1 y2 n t x = some (zS u 59 37, u) ∧ TP r u ∧ Iv r ∧ Iv u ∧ KfX s r ∧ KfM t u
  | 0, s, t, x, _, _, _, _, _, _, _, h => by omega
  | n + 1, s, t, x, T, I, J, hx0, hx1, hy, hl, hn => by
    obtain ⟨a1, a2, a3⟩ := id T
    rw [f_X7_fed_L17, f_X7_fed_L17_b, f_X12_feed_L28, f_X12_feed_L28_b]
    by_cases c : x < y1
    · have c' := c
      rw [jlt] at c'
      unfold xn at a2 hl
      have n1 : (x + 1).toInt = x.toInt + 1 := by rw [i32_add (by rw [jl1]; omega) (by rw [jl1]; omega), jl1]
      have n2 : (zS s 24 1 + 1).toInt = (zS s 24 1).toInt + 1 := by rw [i32_add (by rw [jl1]; omega) (by rw [jl1]; omega), jl1]
      obtain ⟨b, eb⟩ : ∃ b, b = y2 >>> (((8 : Int32) * x) &&& 31) := ⟨_, rfl⟩
      rw [if_pos c, if_pos c, vl, vl, gd_t ⟨by omega, by omega⟩, st, zS_pI, vl, st, vl, vl, vl, ← a1, gd_t ⟨by omega, by omega⟩, st, zS_pI, ← a1, vl, st, vl, ← eb]
      obtain ⟨b1, b2⟩ := byt b
      have T1 : TP (pS (pI s 25 (zS s 24 1).toInt.toNat (b &&& 255)) 24 1 (zS s 24 1 + 1)) (pS (pI t 86 (zS s 24 1).toInt.toNat b.toInt8.toInt32.toInt8.toInt32) 59 37 (zS s 24 1 + 1)) := by
        refine ⟨by rw [zS_pS, if_pos ⟨rfl, rfl⟩, zS_pS, if_pos ⟨rfl, rfl⟩], by unfold xn; rw [zS_pS, if_pos ⟨rfl, rfl⟩, n2]; omega, fun i hi => ?_⟩
        rw [zI_pS, zI_pS, zI_pI, zI_pI]
        by_cases w : i = (zS s 24 1).toInt.toNat
        · rw [if_pos ⟨rfl, w⟩, if_pos ⟨rfl, w⟩]
          exact ⟨b1.1, b1.2, b2⟩
        · rw [if_neg (fun z => w z.2), if_neg (fun z => w z.2)]
          exact a3 i hi
      have I1 : Iv (pS (pI s 25 (zS s 24 1).toInt.toNat (b &&& 255)) 24 1 (zS s 24 1 + 1)) := (I.wI (q := 25) (by decide) trivial).wF (q := 24) (k := 1) (by decide) (by decide) ⟨by omega, by omega⟩
      have J1 : Iv (pS (pI t 86 (zS s 24 1).toInt.toNat b.toInt8.toInt32.toInt8.toInt32) 59 37 (zS s 24 1 + 1)) := (J.wI (q := 86) (by decide) trivial).wF (q := 59) (k := 37) (by decide) (by decide) ⟨by omega, by omega⟩
      obtain ⟨r, u, e1, e2, T2, I2, J2, K2, L2⟩ := fed_l y1 y2 n _ _ (x + 1) T1 I1 J1 (by omega) (by omega) hy (by unfold xn; rw [zS_pS, if_pos ⟨rfl, rfl⟩, n2, n1]; omega) (by omega)
      have K1 : KfX s (pS (pI s 25 (zS s 24 1).toInt.toNat (b &&& 255)) 24 1 (zS s 24 1 + 1)) := ⟨fun q k z => by rw [zS_pS, if_neg z, zS_pI], fun q i z => by rw [zI_pS, zI_pI, if_neg (fun w => z w.1)], rfl⟩
      have L1 : KfM t (pS (pI t 86 (zS s 24 1).toInt.toNat b.toInt8.toInt32.toInt8.toInt32) 59 37 (zS s 24 1 + 1)) := ⟨fun q k z => by rw [zS_pS, if_neg z, zS_pI], fun q i z => by rw [zI_pS, zI_pI, if_neg (fun w => z w.1)], rfl⟩
      exact ⟨r, u, e1, e2, T2, I2, J2, K1.tr K2, L1.tr L2⟩
    · rw [if_neg c, if_neg c]
      exact ⟨s, t, rfl, rfl, T, I, J, KfX.rf, KfM.rf⟩
/-- from a state s to u, by the class's part to r: the relations stand again where tapes and counters are alike -/
theorem GI.txt {s u : SS} (G : GI s) (FA : FrA s u) (hR : ∀ i, zR u 17 i = zR s 17 i) (I : Iv u) (hS : ∀ q k, fSB q k = true → ¬ (q = 0 ∧ k = 8) → ¬ (q = 24 ∧ k = 1) → ¬ (q = 59 ∧ (k = 37 ∨ k = 38)) → zS u q k = zS s q k) (hI : ∀ q i, fIB q = true → q ≠ 25 → q ≠ 86 → zI u q i = zI s q i) (T : TT u) : GI u := by
  obtain ⟨⟨t1, t2, t3, t4, t6⟩, t5, ⟨r1, r2⟩, -⟩ := G.2
  refine ⟨G.1.go FA hR I, ⟨?_, ?_, fun i => ?_, fun i => ?_, ?_⟩, fun c y h1 h2 h3 => ?_, ⟨?_, fun i => ?_⟩, T⟩
  · rw [hS 0 14 rfl (by omega) (by omega) (by omega), hS 59 1 rfl (by omega) (by omega) (by omega)]; exact t1
  · rw [hS 1 4 rfl (by omega) (by omega) (by omega), hS 59 56 rfl (by omega) (by omega) (by omega)]; exact t2
  · rw [hI 4 i rfl (by omega) (by omega), hI 97 i rfl (by omega) (by omega)]; exact t3 i
  · rw [hI 5 i rfl (by omega) (by omega), hI 98 i rfl (by omega) (by omega)]; exact t4 i
  · rw [hS 0 14 rfl (by omega) (by omega) (by omega)]; exact t6
  · rw [hI 2 _ rfl (by omega) (by omega), hI 60 _ rfl (by omega) (by omega), hI 3 _ rfl (by omega) (by omega), hI 61 _ rfl (by omega) (by omega)]; exact t5 c y h1 h2 h3
  · rw [hS 15 11 rfl (by omega) (by omega) (by omega), hS 59 87 rfl (by omega) (by omega) (by omega)]; exact r1
  · rw [hI 18 i rfl (by omega) (by omega), hI 119 i rfl (by omega) (by omega)]; exact r2 i
theorem st_feed {s : SS} (G : GI s) (a0 : Int32) (a1 : Int32) : ∃ (rx : Int32) (s1 : SS) (rm : Int32) (s2 : SS), f_X11_feed s a0 a1 = some (rx, s1) ∧ f_X12_feed s1 a0 a1 = some (rm, s2) ∧ GI s2 ∧ rx = rm := by
  obtain ⟨T, e8⟩ := G.2.2.2.2
  obtain ⟨b1, b2, b3⟩ := id T
  have j4 : (4 : Int32).toInt = 4 := rfl
  by_cases c : 1 ≤ a0.toInt ∧ a0.toInt ≤ 4
  · have cx : ¬ a0 < 1 ∧ ¬ 4 < a0 := ⟨by rw [jlt, jl1]; omega, by rw [jlt, j4]; omega⟩
    unfold xn at b2
    have na : (zS s 24 1 + a0).toInt = (zS s 24 1).toInt + a0.toInt := i32_add (by omega) (by omega)
    by_cases d : (zS s 24 1).toInt + a0.toInt ≤ 160
    · obtain ⟨r, _, er, _, _, Ir, _, Kr, _⟩ := fed_l a0 a1 4000 s s 0 T G.1.1 G.1.1 (by decide) (by rw [jl0]; omega) c.2 (by unfold xn; rw [jl0]; omega) (by rw [jl0]; omega)
      have Tr : TP s r := ⟨by rw [Kr.1 59 37 (by omega)]; exact b1, b2, fun i hi => by rw [Kr.2.1 86 i (by omega)]; exact b3 i hi⟩
      obtain ⟨r', u, er', eu, Tu, Ir', Iu, Kr', Ku⟩ := fed_l a0 a1 4000 s r 0 Tr G.1.1 Ir (by decide) (by rw [jl0]; omega) c.2 (by unfold xn; rw [jl0]; omega) (by rw [jl0]; omega)
      have err : r' = r := congrArg Prod.snd (Option.some.inj (er'.symm.trans er))
      rw [err] at er' Tu
      refine ⟨zS r 24 1, r, zS u 59 37, u, ?_, ?_, G.txt ⟨fun q k h => ?_, fun q i h => ?_, fun q i _ => ?_⟩ (fun i => ?_) Iu (fun q k _ _ h1 h2 => ?_) (fun q i _ h1 h2 => ?_) ⟨⟨?_, ?_, fun i hi => ?_⟩, ?_⟩, Tu.1⟩
      · unfold f_X11_feed f_X7_fed
        rw [if_neg cx.1, if_neg cx.2, if_neg (by rw [jlt, j160, na]; omega), er, bd_some]
      · unfold f_X12_feed
        rw [in_t (by rw [jl1, j4]; exact c), b1_some, if_neg (by decide), if_neg (by rw [jlt, j160, Kr.1 59 37 (by omega), ← b1, na]; omega), eu]
      · rw [Ku.1 q k (fun z => by rw [z.1, z.2] at h; cases h), Kr.1 q k (fun z => by rw [z.1, z.2] at h; cases h)]
      · rw [Ku.2.1 q i (fun z => by rw [z] at h; cases h), Kr.2.1 q i (fun z => by rw [z] at h; cases h)]
      · show u.2.2.1 q i = s.2.2.1 q i
        rw [Ku.2.2, Kr.2.2]
      · show u.2.2.2.1 17 i = s.2.2.2.1 17 i
        rw [Ku.2.2, Kr.2.2]
      · rw [Ku.1 q k (by omega), Kr.1 q k h1]
      · rw [Ku.2.1 q i h2, Kr.2.1 q i h1]
      · rw [Ku.1 24 1 (by omega)]; exact Tu.1
      · unfold xn; rw [Ku.1 24 1 (by omega)]; exact Tu.2.1
      · rw [Ku.2.1 25 i (by omega)]; exact Tu.2.2 i hi
      · rw [Ku.1 0 8 (by omega), Kr.1 0 8 (by omega), Ku.1 59 38 (by omega), Kr.1 59 38 (by omega)]; exact e8
    · refine ⟨-3, s, -3, s, ?_, ?_, G, rfl⟩
      · unfold f_X11_feed f_X7_fed
        rw [if_neg cx.1, if_neg cx.2, if_pos (by rw [jlt, j160, na]; omega), bd_some]
      · unfold f_X12_feed
        rw [in_t (by rw [jl1, j4]; exact c), b1_some, if_neg (by decide), if_pos (by rw [jlt, j160, ← b1, na]; omega)]
  · refine ⟨-1, s, -1, s, ?_, ?_, G, rfl⟩
    · unfold f_X11_feed
      by_cases h : a0 < 1
      · rw [if_pos h]
      · rw [if_neg h, if_pos (by rw [jlt, j4]; rw [jlt, jl1] at h; omega)]
    · unfold f_X12_feed
      rw [in_f (by rw [jl1, j4]; exact c), b1_some, if_pos rfl]
theorem TrueE : EC (fun _ _ => True) := ⟨fun _ _ => trivial, fun _ _ => trivial, fun _ _ _ _ _ => trivial, fun _ _ _ _ _ _ _ => trivial, fun _ _ _ => trivial⟩
/-- the kinds of orders are the same -/
theorem ord_l {a : Int32} : (f_X11_isOrder a = some 1 ∧ f_X12_isWhat a = some 1) ∨ (f_X11_isOrder a = some 0 ∧ f_X12_isWhat a = some 0) := by
  have j10 : (10 : Int32).toInt = 10 := rfl
  have j12 : (12 : Int32).toInt = 12 := rfl
  unfold f_X11_isOrder f_X12_isWhat
  by_cases h0 : a < 0
  · have h0' := h0
    rw [jlt, jl0] at h0'
    rw [if_pos h0, in_f (by rw [jl0, j12]; omega), b1_some, if_pos rfl]
    exact Or.inr ⟨rfl, rfl⟩
  have h0' := h0
  rw [jlt, jl0] at h0'
  have e1 : (a / 10).toInt = a.toInt / 10 := by rw [jd10, if_pos (by omega)]
  have e2 : (a % 10).toInt = a.toInt % 10 := by rw [jm10, if_pos (by omega)]
  rw [if_neg h0]
  by_cases h1 : (1 : Int32) < a / 10
  · have h1' := h1
    rw [jlt, jl1, e1] at h1'
    rw [if_pos h1, in_f (by rw [jl0, j12]; omega), b1_some, if_pos rfl]
    exact Or.inr ⟨rfl, rfl⟩
  have h1' := h1
  rw [jlt, jl1, e1] at h1'
  rw [if_neg h1]
  by_cases h2 : (2 : Int32) < a % 10
  · have h2' := h2
    rw [jlt, jl2, e2] at h2'
    rw [if_pos h2]
    by_cases h3 : a.toInt ≤ 12
    · rw [in_t (by rw [jl0, j12]; omega), b1_some, if_neg (by decide)]
      exact Or.inr ⟨rfl, rfl⟩
    · rw [in_f (by rw [jl0, j12]; omega), b1_some, if_pos rfl]
      exact Or.inr ⟨rfl, rfl⟩
  · have h2' := h2
    rw [jlt, jl2, e2] at h2'
    rw [if_neg h2, in_t (by rw [jl0, j12]; omega), b1_some, if_neg (by decide)]
    exact Or.inl ⟨rfl, rfl⟩
/-- the reference's end of a text -/
noncomputable def qT (a0 a1 : Int32) (s23 : SS) : Option (Int32 × SS) := (jn (fun (s24 : SS)  => (st (pS s24 59 37 0) fun s25 => (if (zS s25 59 48) < (0 : Int32) then (vl ((zS s25 59 38)) fun v27 => (gd (inB v27 16) (st (pI s25 87 (v27.toInt.toNat) a0) fun s29 => (vl ((zS s29 59 1)) fun v30 => (vl ((zS s29 59 38)) fun v31 => (gd (inB v31 16) (st (pI s29 88 (v31.toInt.toNat) v30) fun s33 => (vl ((zS s33 59 38)) fun v34 => (gd (inB v34 16) (st (pI s33 89 (v34.toInt.toNat) a1) fun s36 => (vl (((zS s36 59 38) + (1 : Int32))) fun v37 => (st (pS s36 59 38 v37) fun s38 => some (((zS s38 59 38) - (1 : Int32)), s38))))))))))))) else some ((((-100) : Int32) - (zS s25 59 48)), s25)))) fun k24 => (if (zS s23 59 48) < (0 : Int32) then (if (zS s23 59 47) < (zS s23 59 37) then (b1 (f_X12_faultHere s23) fun s41 => (k24 s41)) else (k24 s23)) else (k24 s23)))
theorem st_text {s : SS} (G : GI s) (a0 : Int32) (a1 : Int32) : ∃ (rx : Int32) (s1 : SS) (rm : Int32) (s2 : SS), f_X11_text s a0 a1 = some (rx, s1) ∧ f_X12_text s1 a0 a1 = some (rm, s2) ∧ GI s2 ∧ rx = rm := by
  obtain ⟨T, e8⟩ := G.2.2.2.2
  obtain ⟨b1, b2, b3⟩ := id T
  have eh := G.2.1.1
  have h8 : 0 ≤ (zS s 0 8).toInt ∧ (zS s 0 8).toInt ≤ 16 := G.1.1.f (q := 0) (k := 8) rfl
  have j16 : (16 : Int32).toInt = 16 := rfl
  have jn100 : (-100 : Int32).toInt = -100 := rfl
  rcases ord_l (a := a0) with ⟨o1, o2⟩ | ⟨o1, o2⟩
  · by_cases d : (zS s 0 14).toInt ≤ a1.toInt ∧ a1.toInt ≤ 1699
    · by_cases f : (zS s 0 8).toInt < 16
      · -- both read
        have hr : 0 ≤ (zS s 59 38).toInt ∧ (zS s 59 38).toInt ≤ 15 := by rw [← e8]; omega
        obtain ⟨fx, s6, _, ec, _, PX, _, _⟩ := comp_l TrueE T hr 0 0 (fun _ => none)
        obtain ⟨⟨fx', s6'⟩, ec', K6, R6⟩ := w_X7_compiled (Lk.rf G.1.1) (by omega)
        have eq6 := Option.some.inj (ec.symm.trans ec')
        have ef : fx = fx' := congrArg Prod.fst eq6
        have es6 : s6 = s6' := congrArg Prod.snd eq6
        rw [← es6] at K6 R6
        have K6 : Lk s s6 := K6
        have R6 : Rs s6 := R6
        have I7 : Iv (pS s6 24 1 0) := K6.1.wF (q := 24) (k := 1) (by decide) (by decide) ⟨by decide, by decide⟩
        -- the class's end, whatever it is: what it keeps
        have cls : ∃ s1, f_X11_text s a0 a1 = some ((if fx < 0 then zS s 0 8 + 1 - 1 else -100 - fx), s1) ∧ Iv s1 ∧ (∀ q k, fS q k = true → ¬ (q = 0 ∧ k = 8) → ¬ (q = 24 ∧ k = 1) → zS s1 q k = zS s q k) ∧ (∀ q i, fI q = true → zI s1 q i = zI s q i) ∧ (∀ q i, fJ q = true → zJ s1 q i = zJ s q i) ∧ (∀ i, zR s1 17 i = zR s 17 i) ∧ zS s1 24 1 = 0 ∧ zS s1 0 8 = (if fx < 0 then zS s 0 8 + 1 else zS s 0 8) := by
          unfold f_X11_text
          have f8 : zS (pS s6 24 1 0) 0 8 = zS s 0 8 := K6.2.2.1 0 8 rfl
          have g7 : ∀ q k, fS q k = true → ¬ (q = 24 ∧ k = 1) → zS (pS s6 24 1 0) q k = zS s q k := fun q k h w => by
            rw [zS_pS, if_neg w]
            exact K6.2.2.1 q k h
          rw [o1, b1_some, if_neg (by decide), if_neg (by rw [jlt]; omega), if_neg (by rw [jlt, jl1699]; omega), if_pos (by rw [jlt, j16]; exact f), ec, bd_some, st]
          by_cases z : fx < 0
          · have hz : 0 ≤ (zS s6 24 3).toInt ∧ (zS s6 24 3).toInt ≤ 161 := by
              have := R6
              unfold Rs at this
              omega
            rw [if_pos z, if_pos z, vl, f8, gd_t ⟨h8.1, f⟩, gd_t ⟨by rw [jlt, jl0]; show ¬ (zS s6 24 3).toInt < 0; omega, by rw [jlt, j161]; show ¬ 161 < (zS s6 24 3).toInt; omega⟩, st, vl, st]
            obtain ⟨N1, N2, N3⟩ := Nt.text_ (Lk.rf I7) (x := a0 / 10) (y := a0 % 10) (c := zS (pS s6 24 1 0) 0 14) (e := a1) (N := (zS (pS s6 24 1 0) 24 3).toNatClampNeg) (i := (zS s 0 8).toInt.toNat) (by
              show (zS s6 24 3).toNatClampNeg ≤ 161
              have : (zS s6 24 3).toNatClampNeg = (zS s6 24 3).toInt.toNat := rfl
              omega) (by rw [f8]; exact ⟨h8.1, f⟩)
            have f8' : zS (pR (pText (pS s6 24 1 0) (a0 / 10) (a0 % 10) (zS (pS s6 24 1 0) 0 14) a1 (zS (pS s6 24 1 0) 24 3).toNatClampNeg) 27 (zS s 0 8).toInt.toNat (some (zL (pS s6 24 1 0)))) 0 8 = zS s 0 8 := by
              rw [← f8]
              show (if 0 = zL (pS s6 24 1 0) then _ else zS (pS s6 24 1 0) 0 8) = _
              rw [if_neg (by have := I7.1.1.1; omega)]
            rw [f8'] at N1 N2 N3
            rw [f8', zS_pS, if_pos ⟨rfl, rfl⟩, if_pos z]
            refine ⟨_, rfl, N1, fun q k h w1 w2 => ?_, fun q i h => ?_, fun q i h => ?_, fun i => ?_, ?_, ?_⟩
            · rw [N2.1 q k h w1]; exact g7 q k h w2
            · rw [N2.2.1 q i h]; exact K6.2.2.2.1 q i h
            · rw [N2.2.2 q i h]; exact K6.2.2.2.2 q i h
            · rw [N3 i]; exact K6.zR_ 17 i
            · rw [N2.1 24 1 rfl (by omega), zS_pS, if_pos ⟨rfl, rfl⟩]
            · rw [zS_pS, if_pos ⟨rfl, rfl⟩]
          · rw [if_neg z, if_neg z, if_neg z]
            exact ⟨_, rfl, I7, fun q k h _ w2 => g7 q k h w2, fun q i h => K6.2.2.2.1 q i h, fun q i h => K6.2.2.2.2 q i h, fun i => K6.zR_ 17 i, by rw [zS_pS, if_pos ⟨rfl, rfl⟩], f8⟩
        obtain ⟨s1, e1, I1, k1S, k1I, k1J, k1R, n1, c1⟩ := cls
        -- the reference, on s1: class cells of s
        have T1 : TP s s1 := ⟨by rw [k1S 59 37 rfl (by omega) (by omega)]; exact b1, b2, fun i hi => by rw [k1I 86 i rfl]; exact b3 i hi⟩
        have h38 : zS s1 59 38 = zS s 59 38 := k1S 59 38 rfl (by omega) (by omega)
        obtain ⟨⟨rm, s2⟩, em, u, Ku, Iu, lay, uS, uI⟩ := w_X12_text (a0 := a0) (a1 := a1) (Lk.rf I1)
        have hr1 : 0 ≤ (zS s1 59 38).toInt ∧ (zS s1 59 38).toInt ≤ 15 := by rw [h38]; exact hr
        obtain ⟨f2, s6b, t', ec2, eQ, -, PR2, O⟩ := comp_l TrueE T1 hr1 a0 a1 (qT a0 a1)
        have ef2 : f2 = fx := congrArg Prod.fst (Option.some.inj (ec2.symm.trans ec))
        rw [ef2] at O
        have e50 : zS (pS s1 59 50 (zS s1 59 38)) 59 50 = zS s1 59 38 := by rw [zS_pS, if_pos ⟨rfl, rfl⟩]
        have em0 : f_X12_text s1 a0 a1 = qT a0 a1 t' := by
          rw [← eQ]
          unfold f_X12_text
          rw [o2, b1_some, if_neg (by decide), in_t (by rw [k1S 59 1 rfl (by omega) (by omega), ← eh, jl1699]; exact d), b1_some, if_neg (by decide), if_neg (fun z => by rw [z, j16] at hr1; omega), vl, st, vl, e50, gd_t ⟨hr1.1, by omega⟩, st, st, st, st, st]
          rfl
        have p38 : zS t' 59 38 = zS s 59 38 := by rw [PR2.1 59 38 (by omega), m0T_S (by omega), h38]
        have p1 : ∀ v, zS (pS t' 59 37 v) 59 38 = zS s 59 38 := fun v => by rw [zS_pS, if_neg (by omega)]; exact p38
        have ends : ∃ rm s2, qT a0 a1 t' = some (rm, s2) ∧ rm = (if fx < 0 then zS s 59 38 + 1 - 1 else -100 - fx) ∧ zS s2 59 37 = 0 ∧ zS s2 59 38 = (if fx < 0 then zS s 59 38 + 1 else zS s 59 38) := by
          unfold qT
          rw [jn]
          have bad : ∀ w, zS w 59 48 = fx → zS w 59 38 = zS s 59 38 → 0 ≤ fx.toInt → ∃ rm s2, (st (pS w 59 37 0) fun s25 => (if (zS s25 59 48) < (0 : Int32) then (vl ((zS s25 59 38)) fun v27 => (gd (inB v27 16) (st (pI s25 87 (v27.toInt.toNat) a0) fun s29 => (vl ((zS s29 59 1)) fun v30 => (vl ((zS s29 59 38)) fun v31 => (gd (inB v31 16) (st (pI s29 88 (v31.toInt.toNat) v30) fun s33 => (vl ((zS s33 59 38)) fun v34 => (gd (inB v34 16) (st (pI s33 89 (v34.toInt.toNat) a1) fun s36 => (vl (((zS s36 59 38) + (1 : Int32))) fun v37 => (st (pS s36 59 38 v37) fun s38 => some (((zS s38 59 38) - (1 : Int32)), s38))))))))))))) else some ((((-100) : Int32) - (zS s25 59 48)), s25))) = some (rm, s2) ∧ rm = (if fx < 0 then zS s 59 38 + 1 - 1 else -100 - fx) ∧ zS s2 59 37 = 0 ∧ zS s2 59 38 = (if fx < 0 then zS s 59 38 + 1 else zS s 59 38) := by
            intro w h1 h2 h3
            have hn : ¬ fx < 0 := by rw [jlt, jl0]; omega
            have e48 : zS (pS w 59 37 0) 59 48 = fx := by rw [zS_pS, if_neg (by omega)]; exact h1
            rw [st, e48, if_neg hn, if_neg hn, if_neg hn]
            exact ⟨_, _, rfl, rfl, by rw [zS_pS, if_pos ⟨rfl, rfl⟩], by rw [zS_pS, if_neg (by omega)]; exact h2⟩
          rcases O with ⟨q1, q2, q3, -⟩ | ⟨q1, q2 | ⟨q2, q3, q4⟩⟩
          · have hp : fx < 0 := by rw [q1]; decide
            have e48 : zS (pS t' 59 37 0) 59 48 = -1 := by rw [zS_pS, if_neg (by omega)]; exact q2
            have g : inB (zS s 59 38) 16 := ⟨hr.1, by omega⟩
            rw [if_pos (by rw [q2]; decide), if_neg q3]
            show ∃ rm s2, (st (pS t' 59 37 0) fun s25 => _) = some (rm, s2) ∧ _
            rw [st, e48, if_pos (by decide), vl, p1, gd_t g, st, vl, vl, zS_pI, zS_pI, p1, gd_t g, st, vl, zS_pI, zS_pI, p1, gd_t g, st, vl, zS_pI, zS_pI, zS_pI, p1, st, zS_pS, if_pos ⟨rfl, rfl⟩, if_pos hp, if_pos hp]
            exact ⟨_, _, rfl, rfl, by rw [zS_pS, if_neg (by omega), zS_pI, zS_pI, zS_pI, zS_pS, if_pos ⟨rfl, rfl⟩], by rw [zS_pS, if_pos ⟨rfl, rfl⟩]⟩
          · rw [if_neg (by rw [q2, jlt, jl0]; omega)]
            exact bad t' q2 p38 q1
          · rw [if_pos (by rw [q2]; decide), if_pos q3]
            unfold f_X12_faultHere
            rw [if_pos (by rw [q2]; decide), vl, st, b1_some]
            exact bad (pS t' 59 48 (zS t' 59 47)) (by rw [zS_pS, if_pos ⟨rfl, rfl⟩]; exact q4) (by rw [zS_pS, if_neg (by omega)]; exact p38) q1
        obtain ⟨rm', s2', eq', er', e37, e38⟩ := ends
        have eqq := Option.some.inj (em.symm.trans (em0.trans eq'))
        have erm : rm = rm' := congrArg Prod.fst eqq
        have es2 : s2 = s2' := congrArg Prod.snd eqq
        rw [← es2] at e37 e38
        rw [← erm] at er'
        have uS : ∀ q k, ¬ (q = 59 ∧ (k = 37 ∨ k = 38)) → zS s2 q k = zS u q k := uS
        have uI : ∀ q i, q ≠ 87 → q ≠ 88 → q ≠ 89 → zI s2 q i = zI u q i := uI
        have Iu : Iv s2 := Iu
        have lay : s2.2.2 = u.2.2 := lay
        have w1 : ∀ q k, fS q k = true → ¬ (q = 0 ∧ k = 8) → ¬ (q = 24 ∧ k = 1) → ¬ (q = 59 ∧ (k = 37 ∨ k = 38)) → zS s2 q k = zS s q k := fun q k h a b c => by rw [uS q k c, Ku.2.2.1 q k h, k1S q k h a b]
        have w2 : ∀ q i, fI q = true → zI s2 q i = zI s q i := fun q i h => by
          have n7 : q ≠ 87 := fun z => by rw [z] at h; cases h
          have n8 : q ≠ 88 := fun z => by rw [z] at h; cases h
          have n9 : q ≠ 89 := fun z => by rw [z] at h; cases h
          rw [uI q i n7 n8 n9, Ku.2.2.2.1 q i h, k1I q i h]
        have fA : ∀ q k, fSA q k = true → fS q k = true := fun q k h => by unfold fS; rw [h]; rfl
        have fB : ∀ q k, fSB q k = true → fS q k = true := fun q k h => by unfold fS; rw [h, Bool.or_true]
        have fIA' : ∀ q, fIA q = true → fI q = true := fun q h => by unfold fI; rw [h]; rfl
        have fIB' : ∀ q, fIB q = true → fI q = true := fun q h => by unfold fI; rw [h, Bool.or_true]
        have s24 : zS s2 24 1 = 0 := by rw [uS 24 1 (by omega), Ku.2.2.1 24 1 rfl]; exact n1
        refine ⟨_, s1, rm, s2, e1, em, G.txt ⟨fun q k h => w1 q k (fA q k h) (fun z => by rw [z.1, z.2] at h; cases h) (fun z => by rw [z.1, z.2] at h; cases h) (fun z => by rcases z with ⟨z1, z2 | z2⟩ <;> (rw [z1, z2] at h; cases h)), fun q i h => w2 q i (fIA' q h), fun q i h => ?_⟩ (fun i => ?_) Iu (fun q k h a b c => w1 q k (fB q k h) a b c) (fun q i h _ _ => w2 q i (fIB' q h)) ⟨⟨by rw [s24, e37], ?_, fun i hi => ?_⟩, ?_⟩, ?_⟩
        · have e : zJ s2 q i = zJ u q i := by
            show s2.2.2.1 q i = u.2.2.1 q i
            rw [lay]
          rw [e, Ku.2.2.2.2 q i h, k1J q i h]
        · have e : zR s2 17 i = zR u 17 i := by
            show s2.2.2.2.1 17 i = u.2.2.2.1 17 i
            rw [lay]
          rw [e, Ku.zR_ 17 i, k1R i]
        · unfold xn
          rw [s24]
          exact ⟨by decide, by decide⟩
        · rw [w2 25 i rfl, w2 86 i rfl]
          exact b3 i hi
        · rw [uS 0 8 (by omega), Ku.2.2.1 0 8 rfl, c1, e38, e8]
        · rw [er', e8]
      · refine ⟨-3, s, -3, s, ?_, ?_, G, rfl⟩
        · unfold f_X11_text
          rw [o1, b1_some, if_neg (by decide), if_neg (by rw [jlt]; omega), if_neg (by rw [jlt, jl1699]; omega), if_neg (by rw [jlt, j16]; exact f)]
        · unfold f_X12_text
          rw [o2, b1_some, if_neg (by decide), in_t (by rw [← eh, jl1699]; exact d), b1_some, if_neg (by decide), if_pos (by rw [← e8]; exact Int32.toInt_inj.1 (by rw [j16]; omega))]
    · refine ⟨-1, s, -1, s, ?_, ?_, G, rfl⟩
      · unfold f_X11_text
        rw [o1, b1_some, if_neg (by decide)]
        by_cases h : a1 < zS s 0 14
        · rw [if_pos h]
        · rw [if_neg h, if_pos (by rw [jlt, jl1699]; rw [jlt] at h; omega)]
      · unfold f_X12_text
        rw [o2, b1_some, if_neg (by decide), in_f (by rw [← eh, jl1699]; exact d), b1_some, if_pos rfl]
  · refine ⟨-1, s, -1, s, ?_, ?_, G, rfl⟩
    · unfold f_X11_text
      rw [o1, b1_some, if_pos rfl]
    · unfold f_X12_text
      rw [o2, b1_some, if_pos rfl]
/-! BOTH RELATIONS: the fresh state, a step that writes nothing watched -/
theorem GI_fr : GI sFr := by
  refine ⟨GA_fr, ⟨rfl, rfl, fun _ => rfl, fun _ => rfl, by decide, by decide⟩, fun c y _ _ _ => ⟨?_, rfl, Or.inl rfl⟩, ⟨rfl, fun _ => rfl⟩, ⟨rfl, ⟨by decide, by decide⟩, fun i _ => ?_⟩, rfl⟩
  · show (3 : Int32) = 3 + 0
    decide
  · show 0 ≤ (0 : Int32).toInt ∧ (0 : Int32).toInt ≤ 255 ∧ (0 : Int32).toInt = if (0 : Int32).toInt < 128 then (0 : Int32).toInt else (0 : Int32).toInt - 256
    decide
