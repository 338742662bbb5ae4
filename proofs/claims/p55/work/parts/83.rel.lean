/-! WHAT CLASS AND REFERENCE HAVE ALIKE -/
theorem b1_some {α ρ : Type} (x : α) (k : α → Option ρ) : b1 (some x) k = k x := rfl
theorem bd_some {α ρ : Type} (x : α) (s : SS) (k : α → SS → Option ρ) : bd (some (x, s)) k = k x s := rfl
theorem on_some {ρ : Type} (p : Nat) (A : Option ρ) (B : Nat → Option ρ) : on (some p) A B = B p := rfl
theorem on_none {ρ : Type} (A : Option ρ) (B : Nat → Option ρ) : on none A B = A := rfl
theorem gd_t {ρ : Type} {b : Prop} {i : Decidable b} {k : Option ρ} (h : b) : @gd ρ b i k = k := if_pos h
theorem in_t {a lo hi : Int32} (h : lo.toInt ≤ a.toInt ∧ a.toInt ≤ hi.toInt) : f_X12_in a lo hi = some 1 := by
  unfold f_X12_in
  rw [if_neg (by rw [jlt]; omega), if_neg (by rw [jlt]; omega)]
theorem in_f {a lo hi : Int32} (h : ¬ (lo.toInt ≤ a.toInt ∧ a.toInt ≤ hi.toInt)) : f_X12_in a lo hi = some 0 := by
  unfold f_X12_in
  by_cases c : a < lo
  · rw [if_pos c]
  · rw [if_neg c, if_pos (by rw [jlt] at c ⊢; omega)]
def isH (v : Int32) : Prop := v = 2 ∨ v = 3 ∨ v = 4 ∨ v = 5
def RC (s : SS) : Prop := zS s 0 15 = zS s 59 29 ∧ zS s 0 5 = zS s 59 30 ∧ zS s 15 3 = zS s 59 4 ∧ zS s 15 5 = zS s 59 21 ∧ zS s 34 3 = zS s 59 67 ∧ zS s 34 9 = zS s 59 76
def RA (s : SS) : Prop := (∀ i, zI s 42 i = zI s 113 i) ∧ (∀ i, zI s 16 i = zI s 62 i) ∧ ∀ i, zI s 9 i = zI s 76 i
def RM (s : SS) : Prop := ∀ i, i < 3 → zS s (20 + i) 0 = zI s 78 i ∧ zS s (20 + i) 1 = zI s 79 i
def RH (s : SS) : Prop := ∀ i, i < 120 → (zR s 17 i = none ↔ ¬ ((i : Int) < (zS s 15 3).toInt ∧ isH (zI s 16 i)))
/-- shelf i: nothing; a body; a row of a kind, a length, elements -/
def SR (s : SS) (i : Nat) : Prop := (zS s (47 + 2 * i) 0 = 0 ∧ zI s 120 i = -1) ∨ (zS s (47 + 2 * i) 0 = 1 ∧ zI s 120 i = zS s (47 + 2 * i) 1 ∧ 0 ≤ (zI s 120 i).toInt ∧ (zI s 120 i).toInt < (zS s 15 3).toInt) ∨ (zS s (47 + 2 * i) 0 = 2 ∧ zI s 120 i = -2 - zS s (47 + 2 * i) 2 ∧ (0 ≤ (zS s (47 + 2 * i) 2).toInt ∧ (zS s (47 + 2 * i) 2).toInt ≤ 4) ∧ zS s (47 + 2 * i) 3 = zI s 121 i ∧ ∀ j, j < 60 → (zI s 123 (60 * i + j) = 0 ∧ zJ s (48 + 2 * i) j = zJ s 122 (60 * i + j)) ∨ (zI s 123 (60 * i + j) = 1 ∧ zJ s (48 + 2 * i) j = 9223372036854775807))
def RV (s : SS) : Prop := ∀ i, i < 6 → SR s i
def RG (s : SS) : Prop := RC s ∧ RA s ∧ RM s ∧ RH s ∧ RV s
def GI (s : SS) : Prop := Iv s ∧ RG s
section RGs
variable {s r : SS}
theorem RC.c (R : RC s) (h0 : ∀ k, zS r 0 k = zS s 0 k) (h15 : ∀ k, zS r 15 k = zS s 15 k) (h34 : ∀ k, zS r 34 k = zS s 34 k) (h59 : ∀ k, zS r 59 k = zS s 59 k) : RC r := by
  unfold RC
  rw [h0, h0, h15, h15, h34, h34, h59, h59, h59, h59, h59, h59]
  exact R
theorem RA.c (R : RA s) (h : ∀ q i, q = 42 ∨ q = 113 ∨ q = 16 ∨ q = 62 ∨ q = 9 ∨ q = 76 → zI r q i = zI s q i) : RA r := ⟨fun i => by rw [h 42 i (by omega), h 113 i (by omega)]; exact R.1 i, fun i => by rw [h 16 i (by omega), h 62 i (by omega)]; exact R.2.1 i, fun i => by rw [h 9 i (by omega), h 76 i (by omega)]; exact R.2.2 i⟩
theorem RM.c (R : RM s) (h : ∀ i k, i < 3 → k < 2 → zS r (20 + i) k = zS s (20 + i) k) (h78 : ∀ i, zI r 78 i = zI s 78 i) (h79 : ∀ i, zI r 79 i = zI s 79 i) : RM r := fun i hi => by
  rw [h i 0 hi (by decide), h i 1 hi (by decide), h78, h79]
  exact R i hi
theorem RH.c (R : RH s) (h3 : zS r 15 3 = zS s 15 3) (h16 : ∀ i, zI r 16 i = zI s 16 i) (hR : ∀ i, zR r 17 i = zR s 17 i) : RH r := fun i hi => by
  rw [h3, h16, hR]
  exact R i hi
theorem SR.c {i : Nat} (R : SR s i) (hS : ∀ k, k < 4 → zS r (47 + 2 * i) k = zS s (47 + 2 * i) k) (h120 : zI r 120 i = zI s 120 i) (h121 : zI r 121 i = zI s 121 i) (h123 : ∀ j, j < 60 → zI r 123 (60 * i + j) = zI s 123 (60 * i + j)) (hJ : ∀ j, j < 60 → zJ r (48 + 2 * i) j = zJ s (48 + 2 * i) j) (h122 : ∀ j, j < 60 → zJ r 122 (60 * i + j) = zJ s 122 (60 * i + j)) (hct : (zS s 15 3).toInt ≤ (zS r 15 3).toInt) : SR r i := by
  unfold SR
  rw [hS 0 (by decide), hS 1 (by decide), hS 2 (by decide), hS 3 (by decide), h120, h121]
  rcases R with R | R | R
  · exact Or.inl R
  · exact Or.inr (Or.inl ⟨R.1, R.2.1, R.2.2.1, by have := R.2.2.2; omega⟩)
  · refine Or.inr (Or.inr ⟨R.1, R.2.1, R.2.2.1, R.2.2.2.1, fun j hj => ?_⟩)
    rw [h123 j hj, h122 j hj, hJ j hj]
    exact R.2.2.2.2 j hj
theorem RV.c (R : RV s) (hS : ∀ i k, i < 6 → k < 4 → zS r (47 + 2 * i) k = zS s (47 + 2 * i) k) (hI : ∀ q j, q = 120 ∨ q = 121 ∨ q = 123 → zI r q j = zI s q j) (hJ : ∀ q j, zJ r q j = zJ s q j) (hct : (zS s 15 3).toInt ≤ (zS r 15 3).toInt) : RV r := fun i hi => (R i hi).c (fun k hk => hS i k hi hk) (hI _ _ (by omega)) (hI _ _ (by omega)) (fun j _ => hI _ _ (by omega)) (fun j _ => hJ _ _) (fun j _ => hJ _ _) hct
theorem RG.c (R : RG s) (F : Fr s r) (hR : ∀ i, zR r 17 i = zR s 17 i) : RG r := by
  obtain ⟨R1, R2, R3, R4, R5⟩ := R
  refine ⟨?_, ?_, ?_, ?_, ?_⟩
  · unfold RC
    rw [F.1 0 15 rfl, F.1 0 5 rfl, F.1 15 3 rfl, F.1 15 5 rfl, F.1 34 3 rfl, F.1 34 9 rfl, F.1 59 29 rfl, F.1 59 30 rfl, F.1 59 4 rfl, F.1 59 21 rfl, F.1 59 67 rfl, F.1 59 76 rfl]
    exact R1
  · exact R2.c (fun q i h => F.2.1 q i (by rcases h with rfl | rfl | rfl | rfl | rfl | rfl <;> rfl))
  · refine R3.c (fun i k hi hk => F.1 _ _ ?_) (fun i => F.2.1 78 i rfl) (fun i => F.2.1 79 i rfl)
    have h : i = 0 ∨ i = 1 ∨ i = 2 := by omega
    have h' : k = 0 ∨ k = 1 := by omega
    rcases h with rfl | rfl | rfl <;> rcases h' with rfl | rfl <;> rfl
  · exact R4.c (F.1 15 3 rfl) (fun i => F.2.1 16 i rfl) hR
  · intro i hi
    have h : i = 0 ∨ i = 1 ∨ i = 2 ∨ i = 3 ∨ i = 4 ∨ i = 5 := by omega
    refine (R5 i hi).c (fun k hk => F.1 _ _ ?_) (F.2.1 120 i rfl) (F.2.1 121 i rfl) (fun j _ => F.2.1 123 _ rfl) (fun j _ => F.2.2 _ _ ?_) (fun j _ => F.2.2 122 _ rfl) (by rw [F.1 15 3 rfl]; exact Int.le_refl _)
    · have h' : k = 0 ∨ k = 1 ∨ k = 2 ∨ k = 3 := by omega
      rcases h with rfl | rfl | rfl | rfl | rfl | rfl <;> rcases h' with rfl | rfl | rfl | rfl <;> rfl
    · rcases h with rfl | rfl | rfl | rfl | rfl | rfl <;> rfl
end RGs
theorem GI.go {s s1 s2 : SS} (G : GI s) (h1 : Fr s s1) (r1 : ∀ i, zR s1 17 i = zR s 17 i) (h2 : Fr s1 s2) (r2 : ∀ i, zR s2 17 i = zR s1 17 i) (I : Iv s2) : GI s2 := ⟨I, G.2.c (h1.tr h2) (fun i => (r2 i).trans (r1 i))⟩
theorem mach_t {s : SS} {a : Int32} (I : Iv s) (h : 0 ≤ a.toInt ∧ a.toInt < 3) : f_X11_machineOf s a = some (some (20 + a.toInt.toNat)) := by
  unfold f_X11_machineOf
  rw [if_neg (by rw [jlt, jl0]; omega), if_pos (by rw [jlt, jl3]; omega), gd_t ⟨h.1, h.2⟩, I.1.1.2.2.2.1 _ (by omega)]
  rfl
theorem mach_f {s : SS} {a : Int32} (h : ¬ (0 ≤ a.toInt ∧ a.toInt < 3)) : f_X11_machineOf s a = some none := by
  unfold f_X11_machineOf
  by_cases c : a < 0
  · rw [if_pos c]
  · rw [if_neg c, if_neg (by rw [jlt, jl3]; rw [jlt, jl0] at c; omega)]
theorem ismach_t {a : Int32} (h : 0 ≤ a.toInt ∧ a.toInt < 3) : f_X12_isMachine a = some 1 := by
  unfold f_X12_isMachine
  rw [in_t (by rw [jl0, jl2]; omega)]
  rfl
theorem ismach_f {a : Int32} (h : ¬ (0 ≤ a.toInt ∧ a.toInt < 3)) : f_X12_isMachine a = some 0 := by
  unfold f_X12_isMachine
  rw [in_f (by rw [jl0, jl2]; omega)]
  rfl
theorem st_speed {s : SS} (G : GI s) (a0 : Int32) (a1 : Int32) : ∃ (rx : Int32) (s1 : SS) (rm : Int32) (s2 : SS), f_X11_speed s a0 a1 = some (rx, s1) ∧ f_X12_speed s1 a0 a1 = some (rm, s2) ∧ GI s2 ∧ rx = rm := by
  by_cases c : 0 ≤ a0.toInt ∧ a0.toInt < 3
  · by_cases d : 10 ≤ a1.toInt ∧ a1.toInt ≤ 60
    · refine ⟨zS s (20 + a0.toInt.toNat) 0, pS s (20 + a0.toInt.toNat) 0 a1, zI s 78 a0.toInt.toNat, pI (pS s (20 + a0.toInt.toNat) 0 a1) 78 a0.toInt.toNat a1, ?_, ?_, ⟨?_, ?_⟩, (G.2.2.2.1 _ (by omega)).1⟩
      · unfold f_X11_speed
        rw [mach_t G.1 c, b1_some, on_some, if_neg (by rw [jlt, jl10]; omega), if_neg (by rw [jlt, jl60]; omega)]
        rfl
      · unfold f_X12_speed
        rw [ismach_t c, b1_some, if_neg (by decide), in_t (by rw [jl10, jl60]; omega), b1_some, if_neg (by decide), gd_t ⟨c.1, c.2⟩]
        show gd _ _ = _
        rw [gd_t ⟨c.1, c.2⟩]
        rfl
      · exact (G.1.wM ⟨by omega, by omega⟩).wI (q := 78) (by decide) trivial
      · obtain ⟨R1, R2, R3, R4, R5⟩ := G.2
        have e : ∀ q k, ¬ (q = 20 + a0.toInt.toNat ∧ k = 0) → zS (pI (pS s (20 + a0.toInt.toNat) 0 a1) 78 a0.toInt.toNat a1) q k = zS s q k := fun q k h => by rw [zS_pI, zS_pS, if_neg h]
        have f : ∀ q j, q ≠ 78 → zI (pI (pS s (20 + a0.toInt.toNat) 0 a1) 78 a0.toInt.toNat a1) q j = zI s q j := fun q j h => by rw [zI_pI, if_neg (fun z => h z.1), zI_pS]
        refine ⟨R1.c (fun k => e _ _ (by omega)) (fun k => e _ _ (by omega)) (fun k => e _ _ (by omega)) (fun k => e _ _ (by omega)), R2.c (fun q i h => f q i (by omega)), fun i hi => ?_, R4.c (e _ _ (by omega)) (fun i => f _ _ (by decide)) (fun _ => rfl), R5.c (fun i k hi hk => e _ _ (by omega)) (fun q j h => f q j (by omega)) (fun _ _ => rfl) (by rw [e _ _ (by omega)]; exact Int.le_refl _)⟩
        rw [e _ 1 (by omega), f 79 _ (by decide)]
        refine ⟨?_, (R3 i hi).2⟩
        rw [zS_pI, zS_pS, zI_pI, zI_pS]
        by_cases h : i = a0.toInt.toNat
        · rw [if_pos ⟨by omega, rfl⟩, if_pos ⟨rfl, h⟩]
        · rw [if_neg (by omega), if_neg (by omega)]
          exact (R3 i hi).1
    · refine ⟨-1, s, -1, s, ?_, ?_, G, rfl⟩
      · unfold f_X11_speed
        rw [mach_t G.1 c, b1_some, on_some]
        by_cases h : a1 < 10
        · rw [if_pos h]
        · rw [if_neg h, if_pos (by rw [jlt, jl60]; rw [jlt, jl10] at h; omega)]
      · unfold f_X12_speed
        rw [ismach_t c, b1_some, if_neg (by decide), in_f (by rw [jl10, jl60]; omega), b1_some, if_pos rfl]
  · refine ⟨-1, s, -1, s, ?_, ?_, G, rfl⟩
    · unfold f_X11_speed
      rw [mach_f c, b1_some, on_none]
    · unfold f_X12_speed
      rw [ismach_f c, b1_some, if_pos rfl]
section RGw
variable {s : SS} {q k i : Nat} {v : Int32}
theorem RC.pI (R : RC s) : RC (pI s q i v) := R
theorem RC.pSo (h : fS q k = false) (R : RC s) : RC (pS s q k v) := by
  have e : ∀ a b, fS a b = true → zS (pS s q k v) a b = zS s a b := fun a b f => by rw [zS_pS, if_neg (fun z => by rw [z.1, z.2, h] at f; cases f)]
  unfold RC
  rw [e 0 15 rfl, e 0 5 rfl, e 15 3 rfl, e 15 5 rfl, e 34 3 rfl, e 34 9 rfl, e 59 29 rfl, e 59 30 rfl, e 59 4 rfl, e 59 21 rfl, e 59 67 rfl, e 59 76 rfl]
  exact R
theorem RA.pS (R : RA s) : RA (pS s q k v) := R
theorem RA.pI (h : q ≠ 42 ∧ q ≠ 113 ∧ q ≠ 16 ∧ q ≠ 62 ∧ q ≠ 9 ∧ q ≠ 76) (R : RA s) : RA (pI s q i v) := R.c (fun a b z => by rw [zI_pI, if_neg (by omega)])
theorem RM.pS (h : q < 20 ∨ 22 < q) (R : RM s) : RM (pS s q k v) := R.c (fun a b h1 h2 => by rw [zS_pS, if_neg (by omega)]) (fun _ => rfl) (fun _ => rfl)
theorem RM.pI (h : q ≠ 78 ∧ q ≠ 79) (R : RM s) : RM (pI s q i v) := R.c (fun _ _ _ _ => rfl) (fun a => by rw [zI_pI, if_neg (by omega)]) (fun a => by rw [zI_pI, if_neg (by omega)])
theorem RH.pS (h : ¬ (q = 15 ∧ k = 3)) (R : RH s) : RH (pS s q k v) := R.c (by rw [zS_pS, if_neg (by omega)]) (fun _ => rfl) (fun _ => rfl)
theorem RH.pI (h : q ≠ 16) (R : RH s) : RH (pI s q i v) := R.c rfl (fun a => by rw [zI_pI, if_neg (by omega)]) (fun _ => rfl)
theorem RV.pS (h : q < 47 ∨ 57 < q) (h3 : ¬ (q = 15 ∧ k = 3)) (R : RV s) : RV (pS s q k v) := R.c (fun a b h1 h2 => by rw [zS_pS, if_neg (by omega)]) (fun _ _ _ => rfl) (fun _ _ => rfl) (by rw [zS_pS, if_neg (by omega)]; exact Int.le_refl _)
theorem RV.pI (h : q ≠ 120 ∧ q ≠ 121 ∧ q ≠ 123) (R : RV s) : RV (pI s q i v) := R.c (fun _ _ _ _ => rfl) (fun a b z => by rw [zI_pI, if_neg (by omega)]) (fun _ _ => rfl) (Int.le_refl _)
end RGw
theorem st_spread {s : SS} (G : GI s) (a0 : Int32) : ∃ (rx : Int32) (s1 : SS) (rm : Int32) (s2 : SS), f_X11_spread s a0 = some (rx, s1) ∧ f_X12_spread s1 a0 = some (rm, s2) ∧ GI s2 ∧ rx = rm := by
  by_cases h1 : a0 < 0
  · refine ⟨-1, s, -1, s, ?_, ?_, G, rfl⟩
    · unfold f_X11_spread
      rw [if_pos h1]
    · unfold f_X12_spread f_X12_in
      rw [if_pos h1]
      rfl
  by_cases h2 : 8 < a0
  · refine ⟨-1, s, -1, s, ?_, ?_, G, rfl⟩
    · unfold f_X11_spread
      rw [if_neg h1, if_pos h2]
    · unfold f_X12_spread f_X12_in
      rw [if_neg h1, if_pos h2]
      rfl
  refine ⟨zS s 0 15, pS s 0 15 a0, zS s 59 29, pS (pS s 0 15 a0) 59 29 a0, ?_, ?_, ⟨?_, ?_⟩, G.2.1.1⟩
  · unfold f_X11_spread
    rw [if_neg h1, if_neg h2]
    rfl
  · unfold f_X12_spread f_X12_in
    rw [if_neg h1, if_neg h2]
    rfl
  · exact Iv.wF (q := 59) (k := 29) (Iv.wF (q := 0) (k := 15) G.1 (by decide) (by decide) trivial) (by decide) (by decide) trivial
  · obtain ⟨R1, R2, R3, R4, R5⟩ := G.2
    exact ⟨⟨rfl, R1.2⟩, R2, (R3.pS (by decide)).pS (by decide), (R4.pS (by decide)).pS (by decide), (R5.pS (by decide) (by decide)).pS (by decide) (by decide)⟩
theorem ix6 {a b : Int32} (ha : 0 ≤ a.toInt ∧ a.toInt ≤ 3) (hb : 0 ≤ b.toInt ∧ b.toInt ≤ 5) : (6 * a + b).toInt = 6 * a.toInt + b.toInt := by
  have j6 : (6 : Int32).toInt = 6 := rfl
  have m1 : ((6 : Int32) * a).toInt = 6 * a.toInt := by rw [i32_mul (by rw [j6]; omega) (by rw [j6]; omega), j6]
  rw [i32_add (by rw [m1]; omega) (by rw [m1]; omega), m1]
theorem st_rock {s : SS} (G : GI s) (a0 : Int32) (a1 : Int32) (a2 : Int32) : ∃ (rx : Int32) (s1 : SS) (rm : Int32) (s2 : SS), f_X11_rock s a0 a1 a2 = some (rx, s1) ∧ f_X12_rock s1 a0 a1 a2 = some (rm, s2) ∧ GI s2 ∧ rx = rm := by
  by_cases c : 0 ≤ a0.toInt ∧ a0.toInt ≤ 3
  · by_cases d : 0 ≤ a1.toInt ∧ a1.toInt ≤ 5
    · by_cases e : 1 ≤ a2.toInt ∧ a2.toInt ≤ 9
      · have hx := ix6 c d
        have gx : inB (6 * a0 + a1) 24 := ⟨by omega, by omega⟩
        refine ⟨zI s 42 (6 * a0 + a1).toInt.toNat, pI s 42 (6 * a0 + a1).toInt.toNat a2, zI s 113 (6 * a0 + a1).toInt.toNat, pI (pI s 42 (6 * a0 + a1).toInt.toNat a2) 113 (6 * a0 + a1).toInt.toNat a2, ?_, ?_, ⟨?_, ?_⟩, G.2.2.1.1 _⟩
        · unfold f_X11_rock
          rw [if_neg (by rw [jlt, jl0]; omega), if_pos (by rw [jlt, jl4]; omega), if_neg (by rw [jlt, jl0]; omega), if_pos (by rw [jlt, jl6]; omega), if_neg (by rw [jlt, jl1]; omega), if_neg (by rw [jlt, jl9]; omega), Int32.mul_comm a0 6]
          show gd _ _ = _
          rw [gd_t gx]
          show gd _ _ = _
          rw [gd_t gx]
          rfl
        · unfold f_X12_rock
          rw [in_t (by rw [jl0, jl3]; omega), b1_some, if_neg (by decide), in_t (by rw [jl0, jl5]; omega), b1_some, if_neg (by decide), in_t (by rw [jl1, jl9]; omega), b1_some, if_neg (by decide)]
          show gd _ _ = _
          rw [gd_t gx]
          show gd _ _ = _
          rw [gd_t gx]
          rfl
        · exact (G.1.wI (q := 42) (by decide) trivial).wI (q := 113) (by decide) trivial
        · obtain ⟨R1, R2, R3, R4, R5⟩ := G.2
          refine ⟨R1, ⟨fun i => ?_, R2.2.1, R2.2.2⟩, (R3.pI (by decide)).pI (by decide), (R4.pI (by decide)).pI (by decide), (R5.pI (by decide)).pI (by decide)⟩
          rw [zI_pI, if_neg (by omega), zI_pI, zI_pI]
          by_cases h : i = (6 * a0 + a1).toInt.toNat
          · rw [if_pos ⟨rfl, h⟩, if_pos ⟨rfl, h⟩]
          · rw [if_neg (by omega), if_neg (by omega), zI_pI, if_neg (by omega)]
            exact R2.1 i
      · refine ⟨-1, s, -1, s, ?_, ?_, G, rfl⟩
        · unfold f_X11_rock
          rw [if_neg (by rw [jlt, jl0]; omega), if_pos (by rw [jlt, jl4]; omega), if_neg (by rw [jlt, jl0]; omega), if_pos (by rw [jlt, jl6]; omega)]
          by_cases h : a2 < 1
          · rw [if_pos h]
          · rw [if_neg h, if_pos (by rw [jlt, jl9]; rw [jlt, jl1] at h; omega)]
        · unfold f_X12_rock
          rw [in_t (by rw [jl0, jl3]; omega), b1_some, if_neg (by decide), in_t (by rw [jl0, jl5]; omega), b1_some, if_neg (by decide), in_f (by rw [jl1, jl9]; omega), b1_some, if_pos rfl]
    · refine ⟨-1, s, -1, s, ?_, ?_, G, rfl⟩
      · unfold f_X11_rock
        rw [if_neg (by rw [jlt, jl0]; omega), if_pos (by rw [jlt, jl4]; omega)]
        by_cases h : a1 < 0
        · rw [if_pos h]
        · rw [if_neg h, if_neg (by rw [jlt, jl6]; rw [jlt, jl0] at h; omega)]
      · unfold f_X12_rock
        rw [in_t (by rw [jl0, jl3]; omega), b1_some, if_neg (by decide), in_f (by rw [jl0, jl5]; omega), b1_some, if_pos rfl]
  · refine ⟨-1, s, -1, s, ?_, ?_, G, rfl⟩
    · unfold f_X11_rock
      by_cases h : a0 < 0
      · rw [if_pos h]
      · rw [if_neg h, if_neg (by rw [jlt, jl4]; rw [jlt, jl0] at h; omega)]
    · unfold f_X12_rock
      rw [in_f (by rw [jl0, jl3]; omega), b1_some, if_pos rfl]
/-! MACHINES ON HOLES -/
theorem body_t {s : SS} {a : Int32} (I : Iv s) (h : 0 ≤ a.toInt ∧ a.toInt < (zS s 59 4).toInt) : f_X12_isBody s a = some 1 := by
  have hf : 0 ≤ (zS s 59 4).toInt ∧ (zS s 59 4).toInt ≤ 120 := I.f (q := 59) (k := 4) rfl
  unfold f_X12_isBody
  rw [in_t (by rw [jl0, i32_sub (by rw [jl1]; omega) (by rw [jl1]; omega), jl1]; omega)]
  rfl
theorem body_f {s : SS} {a : Int32} (I : Iv s) (h : ¬ (0 ≤ a.toInt ∧ a.toInt < (zS s 59 4).toInt)) : f_X12_isBody s a = some 0 := by
  have hf : 0 ≤ (zS s 59 4).toInt ∧ (zS s 59 4).toInt ≤ 120 := I.f (q := 59) (k := 4) rfl
  unfold f_X12_isBody
  rw [in_f (by rw [jl0, i32_sub (by rw [jl1]; omega) (by rw [jl1]; omega), jl1]; omega)]
  rfl
theorem kind_t {s : SS} {a : Int32} (I : Iv s) (h : 0 ≤ a.toInt ∧ a.toInt < (zS s 15 3).toInt) : f_X0_kindOf s a = some (zI s 16 a.toInt.toNat) := by
  have hf : 0 ≤ (zS s 15 3).toInt ∧ (zS s 15 3).toInt ≤ 120 := I.f (q := 15) (k := 3) rfl
  unfold f_X0_kindOf
  rw [if_neg (by rw [jlt, jl0]; omega), if_pos (by rw [jlt]; omega), gd_t ⟨by omega, by omega⟩]
theorem kind_f {s : SS} {a : Int32} (h : ¬ (0 ≤ a.toInt ∧ a.toInt < (zS s 15 3).toInt)) : f_X0_kindOf s a = some (-1) := by
  unfold f_X0_kindOf
  by_cases c : a < 0
  · rw [if_pos c]
  · rw [if_neg c, if_neg (by rw [jlt]; rw [jlt, jl0] at c; omega)]
def HB (s : SS) (a : Int32) : Prop := (0 ≤ a.toInt ∧ a.toInt < (zS s 15 3).toInt) ∧ isH (zI s 16 a.toInt.toNat)
theorem under2_t {v : Int32} (h : isH v) : f_X12_isUnder v 2 = some 1 := by
  rcases h with rfl | rfl | rfl | rfl <;> decide
theorem under2_f {v : Int32} (h : ¬ isH v) : f_X12_isUnder v 2 = some 0 := by
  unfold f_X12_isUnder
  have h2 : ¬ v = 2 := fun z => h (Or.inl z)
  have h3 : ¬ v = 3 := fun z => h (Or.inr (Or.inl z))
  have h4 : ¬ v = 4 := fun z => h (Or.inr (Or.inr (Or.inl z)))
  have h5 : ¬ v = 5 := fun z => h (Or.inr (Or.inr (Or.inr z)))
  rw [if_neg (by decide), if_neg h2, if_neg (by decide), if_pos rfl, if_neg h3, if_neg h4, if_neg h5]
theorem hole_t {s : SS} {a : Int32} (G : GI s) (h : HB s a) : (∃ p, f_X0_holeOf s a = some (some p)) ∧ f_X12_isHole s a = some 1 := by
  have hf : 0 ≤ (zS s 15 3).toInt ∧ (zS s 15 3).toInt ≤ 120 := G.1.f (q := 15) (k := 3) rfl
  obtain ⟨h1, h2⟩ := h
  have e := G.2.1.2.2.1
  refine ⟨?_, ?_⟩
  · unfold f_X0_holeOf
    rw [if_neg (by rw [jlt, jl0]; omega), if_pos (by rw [jlt]; omega), gd_t ⟨by omega, by omega⟩]
    cases hz : zR s 17 a.toInt.toNat with
    | none => exact absurd ⟨by omega, h2⟩ ((G.2.2.2.2.1 _ (by omega)).1 hz)
    | some p => exact ⟨p, rfl⟩
  · unfold f_X12_isHole
    rw [body_t G.1 (by rw [← e]; exact h1), b1_some, if_neg (by decide), gd_t ⟨by omega, by omega⟩, under2_t (by rw [← G.2.2.1.2.1]; exact h2), b1_some, if_neg (by decide)]
theorem hole_f {s : SS} {a : Int32} (G : GI s) (h : ¬ HB s a) : f_X0_holeOf s a = some none ∧ f_X12_isHole s a = some 0 := by
  have hf : 0 ≤ (zS s 15 3).toInt ∧ (zS s 15 3).toInt ≤ 120 := G.1.f (q := 15) (k := 3) rfl
  have e := G.2.1.2.2.1
  by_cases c : 0 ≤ a.toInt ∧ a.toInt < (zS s 15 3).toInt
  · have h2 : ¬ isH (zI s 16 a.toInt.toNat) := fun z => h ⟨c, z⟩
    refine ⟨?_, ?_⟩
    · unfold f_X0_holeOf
      rw [if_neg (by rw [jlt, jl0]; omega), if_pos (by rw [jlt]; omega), gd_t ⟨by omega, by omega⟩, (G.2.2.2.2.1 _ (by omega)).2 (fun z => h2 z.2)]
      rfl
    · unfold f_X12_isHole
      rw [body_t G.1 (by rw [← e]; exact c), b1_some, if_neg (by decide), gd_t ⟨by omega, by omega⟩, under2_f (by rw [← G.2.2.1.2.1]; exact h2), b1_some, if_pos rfl]
  · refine ⟨?_, ?_⟩
    · unfold f_X0_holeOf
      by_cases d : a < 0
      · rw [if_pos d]
      · rw [if_neg d, if_neg (by rw [jlt]; rw [jlt, jl0] at d; omega)]
    · unfold f_X12_isHole
      rw [body_f G.1 (by rw [← e]; exact c), b1_some, if_pos rfl]
/-- another machine stands there -/
def Bz (s : SS) (a0 a1 : Int32) (j : Nat) : Prop := ∃ x, j ≤ x ∧ x < 3 ∧ nI x ≠ a0 ∧ a1 ≠ -1 ∧ zS s (20 + x) 1 = a1
theorem Bz.step {s : SS} {a0 a1 : Int32} {j : Nat} (h : ¬ (nI j ≠ a0 ∧ a1 ≠ -1 ∧ zS s (20 + j) 1 = a1)) : Bz s a0 a1 j ↔ Bz s a0 a1 (j + 1) := by
  constructor
  · rintro ⟨x, h1, h2, h3⟩
    by_cases c : x = j
    · rw [c] at h3; exact absurd h3 h
    · exact ⟨x, by omega, h2, h3⟩
  · rintro ⟨x, h1, h2, h3⟩
    exact ⟨x, by omega, h2, h3⟩
theorem setx {s : SS} (I : Iv s) {q0 : Option (Int32 × SS)} {a0 a1 : Int32} {p : Nat} : ∀ (n j : Nat), j ≤ 3 → 3 - j < n → (Bz s a0 a1 j → f_X11_set_L32 q0 s a0 a1 p n (nI j) = some (-2000000000, s)) ∧ (¬ Bz s a0 a1 j → f_X11_set_L32 q0 s a0 a1 p n (nI j) = q0) := by
  intro n
  induction n with
  | zero => intro j h1 h2; omega
  | succ n ih =>
    intro j h1 h2
    have tj : (nI j).toInt = (j : Int) := nI_t (by omega)
    have un : f_X11_set_L32 q0 s a0 a1 p (n + 1) (nI j) = f_X11_set_L32_b q0 s a0 a1 p (f_X11_set_L32 q0 s a0 a1 p n) (nI j) := rfl
    rw [un]
    unfold f_X11_set_L32_b
    by_cases c : j = 3
    · rw [if_neg (by rw [jlt, jl3]; omega)]
      exact ⟨fun ⟨x, h3, h4, _⟩ => by omega, fun _ => rfl⟩
    · rw [if_pos (by rw [jlt, jl3]; omega)]
      have k1 : nI j + 1 = nI (j + 1) := by
        apply Int32.toInt_inj.1
        rw [i32_add (by rw [tj, jl1]; omega) (by rw [tj, jl1]; omega), tj, jl1, nI_t (by omega)]
        omega
      have ihj := ih (j + 1) (by omega) (by omega)
      have sk : ¬ (nI j ≠ a0 ∧ a1 ≠ -1 ∧ zS s (20 + j) 1 = a1) → (Bz s a0 a1 j → f_X11_set_L32 q0 s a0 a1 p n (nI j + 1) = some (-2000000000, s)) ∧ (¬ Bz s a0 a1 j → f_X11_set_L32 q0 s a0 a1 p n (nI j + 1) = q0) := fun h => by
        rw [k1, Bz.step h]
        exact ihj
      dsimp only [jn, vl]
      by_cases d : nI j = a0
      · rw [if_pos d]
        exact sk (fun z => z.1 d)
      rw [if_neg d]
      by_cases e : a1 = -1
      · rw [if_pos e]
        exact sk (fun z => z.2.1 e)
      rw [if_neg e, gd_t ⟨by omega, by omega⟩, show (nI j).toInt.toNat = j by omega, I.1.1.2.2.2.1 j (by omega), on_some]
      by_cases f : zS s (20 + j) 1 = a1
      · rw [if_pos f]
        exact ⟨fun _ => rfl, fun z => absurd ⟨j, Nat.le_refl _, by omega, d, e, f⟩ z⟩
      · rw [if_neg f]
        exact sk (fun z => f z.2.2)
theorem setm {s t : SS} (R : ∀ j, j < 3 → zI t 79 j = zS s (20 + j) 1) {q0 : Option (Int32 × SS)} {a0 a1 : Int32} (ha : a1 = -1 ∨ 0 ≤ a1.toInt) : ∀ (n j : Nat), j ≤ 3 → 3 - j < n → (Bz s a0 a1 j → f_X12_set_L26 q0 t a0 a1 n (nI j) = some (-2000000000, t)) ∧ (¬ Bz s a0 a1 j → f_X12_set_L26 q0 t a0 a1 n (nI j) = q0) := by
  intro n
  induction n with
  | zero => intro j h1 h2; omega
  | succ n ih =>
    intro j h1 h2
    have tj : (nI j).toInt = (j : Int) := nI_t (by omega)
    have un : f_X12_set_L26 q0 t a0 a1 (n + 1) (nI j) = f_X12_set_L26_b q0 t a0 a1 (f_X12_set_L26 q0 t a0 a1 n) (nI j) := rfl
    rw [un]
    unfold f_X12_set_L26_b
    by_cases c : j = 3
    · rw [if_neg (by rw [jlt, jl3]; omega)]
      exact ⟨fun ⟨x, h3, h4, _⟩ => by omega, fun _ => rfl⟩
    · rw [if_pos (by rw [jlt, jl3]; omega)]
      have k1 : nI j + 1 = nI (j + 1) := by
        apply Int32.toInt_inj.1
        rw [i32_add (by rw [tj, jl1]; omega) (by rw [tj, jl1]; omega), tj, jl1, nI_t (by omega)]
        omega
      have ihj := ih (j + 1) (by omega) (by omega)
      have sk : ¬ (nI j ≠ a0 ∧ a1 ≠ -1 ∧ zS s (20 + j) 1 = a1) → (Bz s a0 a1 j → f_X12_set_L26 q0 t a0 a1 n (nI j + 1) = some (-2000000000, t)) ∧ (¬ Bz s a0 a1 j → f_X12_set_L26 q0 t a0 a1 n (nI j + 1) = q0) := fun h => by
        rw [k1, Bz.step h]
        exact ihj
      dsimp only [jn, vl]
      by_cases d : nI j = a0
      · rw [if_pos d]
        exact sk (fun z => z.1 d)
      rw [if_neg d]
      by_cases e : a1 < 0
      · rw [if_pos e]
        refine sk (fun z => z.2.1 ?_)
        rw [jlt, jl0] at e
        exact ha.resolve_right (by omega)
      have e' : a1 ≠ -1 := fun z => e (by rw [z]; decide)
      rw [if_neg e, gd_t ⟨by omega, by omega⟩, show (nI j).toInt.toNat = j by omega, R j (by omega)]
      by_cases f : zS s (20 + j) 1 = a1
      · rw [if_pos f]
        exact ⟨fun _ => rfl, fun z => absurd ⟨j, Nat.le_refl _, by omega, d, e', f⟩ z⟩
      · rw [if_neg f]
        exact sk (fun z => f z.2.2)
theorem st_set {s : SS} (G : GI s) (a0 : Int32) (a1 : Int32) : ∃ (rx : Int32) (s1 : SS) (rm : Int32) (s2 : SS), f_X11_set s a0 a1 = some (rx, s1) ∧ f_X12_set s1 a0 a1 = some (rm, s2) ∧ GI s2 ∧ rx = rm := by
  by_cases c : 0 ≤ a0.toInt ∧ a0.toInt < 3
  · by_cases d : a1 = -1 ∨ HB s a1
    · have hf : 0 ≤ (zS s 15 3).toInt ∧ (zS s 15 3).toInt ≤ 120 := G.1.f (q := 15) (k := 3) rfl
      have hr : -1 ≤ a1.toInt ∧ a1.toInt ≤ 119 := by
        rcases d with d | d
        · rw [d]; decide
        · have := d.1; omega
      have ha : a1 = -1 ∨ 0 ≤ a1.toInt := d.imp id (fun z => z.1.1)
      have ex : f_X11_set s a0 a1 = f_X11_set_L32 (some (zS s (20 + a0.toInt.toNat) 1, pS s (20 + a0.toInt.toNat) 1 a1)) s a0 a1 (20 + a0.toInt.toNat) 4000 (nI 0) := by
        unfold f_X11_set
        rw [mach_t G.1 c, b1_some, on_some]
        dsimp only [jn]
        rcases d with d | d
        · rw [if_pos d]; rfl
        · obtain ⟨p, hp⟩ := (hole_t G d).1
          by_cases e : a1 = -1
          · rw [if_pos e]; rfl
          · rw [if_neg e, hp, b1_some, on_some]; rfl
      have em : ∀ s1, Iv s1 → f_X12_isHole s1 a1 = f_X12_isHole s a1 → f_X12_set s1 a0 a1 = f_X12_set_L26 (some (zI s1 79 a0.toInt.toNat, pI s1 79 a0.toInt.toNat a1)) s1 a0 a1 4000 (nI 0) := by
        intro s1 I1 e1
        unfold f_X12_set
        rw [ismach_t c, b1_some, if_neg (by decide)]
        dsimp only [jn]
        have g : (gd (inB a0 3) (vl (zI s1 79 a0.toInt.toNat) fun v14 => gd (inB a0 3) (st (pI s1 79 a0.toInt.toNat a1) fun s16 => some (v14, s16)))) = some (zI s1 79 a0.toInt.toNat, pI s1 79 a0.toInt.toNat a1) := by
          rw [gd_t ⟨c.1, c.2⟩]
          dsimp only [vl]
          rw [gd_t ⟨c.1, c.2⟩]
          rfl
        rw [g]
        rcases d with d | d
        · rw [if_pos d]; rfl
        · by_cases e : a1 = -1
          · rw [if_pos e]; rfl
          · rw [if_neg e, e1, (hole_t G d).2, b1_some, if_neg (by decide)]; rfl
      by_cases b : Bz s a0 a1 0
      · refine ⟨-2000000000, s, -2000000000, s, ?_, ?_, G, rfl⟩
        · rw [ex]; exact (setx G.1 4000 0 (by decide) (by decide)).1 b
        · rw [em s G.1 rfl]; exact (setm (s := s) (fun j hj => (G.2.2.2.1 j hj).2.symm) ha 4000 0 (by decide) (by decide)).1 b
      · have I1 : Iv (pS s (20 + a0.toInt.toNat) 1 a1) := G.1.wM ⟨by omega, by omega⟩
        have R3 := G.2.2.2.1
        have e : ∀ q k, ¬ (q = 20 + a0.toInt.toNat ∧ k = 1) → zS (pS s (20 + a0.toInt.toNat) 1 a1) q k = zS s q k := fun q k h => by rw [zS_pS, if_neg h]
        have e1 : f_X12_isHole (pS s (20 + a0.toInt.toNat) 1 a1) a1 = f_X12_isHole s a1 := by
          unfold f_X12_isHole f_X12_isBody
          rw [e 59 4 (by omega)]
          rfl
        refine ⟨zS s (20 + a0.toInt.toNat) 1, pS s (20 + a0.toInt.toNat) 1 a1, zI s 79 a0.toInt.toNat, pI (pS s (20 + a0.toInt.toNat) 1 a1) 79 a0.toInt.toNat a1, ?_, ?_, ⟨?_, ?_⟩, (R3 _ (by omega)).2⟩
        · rw [ex]; exact (setx G.1 4000 0 (by decide) (by decide)).2 b
        · rw [em _ I1 e1]
          have hk := (setm (s := s) (t := pS s (20 + a0.toInt.toNat) 1 a1) (q0 := some (zI (pS s (20 + a0.toInt.toNat) 1 a1) 79 a0.toInt.toNat, pI (pS s (20 + a0.toInt.toNat) 1 a1) 79 a0.toInt.toNat a1)) (a0 := a0) (a1 := a1) (fun j hj => (R3 j hj).2.symm) ha 4000 0 (by decide) (by decide)).2 b
          rw [hk]
          rfl
        · exact I1.wI (q := 79) (by decide) ⟨hr.1, hr.2⟩
        · obtain ⟨R1, R2, _, R4, R5⟩ := G.2
          have e' : ∀ q k, ¬ (q = 20 + a0.toInt.toNat ∧ k = 1) → zS (pI (pS s (20 + a0.toInt.toNat) 1 a1) 79 a0.toInt.toNat a1) q k = zS s q k := fun q k h => by rw [zS_pI, zS_pS, if_neg h]
          have f : ∀ q j, q ≠ 79 → zI (pI (pS s (20 + a0.toInt.toNat) 1 a1) 79 a0.toInt.toNat a1) q j = zI s q j := fun q j h => by rw [zI_pI, if_neg (fun z => h z.1), zI_pS]
          refine ⟨R1.c (fun k => e' _ _ (by omega)) (fun k => e' _ _ (by omega)) (fun k => e' _ _ (by omega)) (fun k => e' _ _ (by omega)), R2.c (fun q i h => f q i (by omega)), fun i hi => ?_, R4.c (e' _ _ (by omega)) (fun i => f _ _ (by decide)) (fun _ => rfl), R5.c (fun i k hi hk => e' _ _ (by omega)) (fun q j h => f q j (by omega)) (fun _ _ => rfl) (by rw [e' _ _ (by omega)]; exact Int.le_refl _)⟩
          rw [e' _ 0 (by omega), f 78 _ (by decide)]
          refine ⟨(R3 i hi).1, ?_⟩
          rw [zS_pI, zS_pS, zI_pI, zI_pS]
          by_cases h : i = a0.toInt.toNat
          · rw [if_pos ⟨by omega, rfl⟩, if_pos ⟨rfl, h⟩]
          · rw [if_neg (by omega), if_neg (by omega)]
            exact (R3 i hi).2
    · have d1 : ¬ a1 = -1 := fun z => d (Or.inl z)
      have d2 := hole_f G (fun z => d (Or.inr z))
      refine ⟨-2000000000, s, -2000000000, s, ?_, ?_, G, rfl⟩
      · unfold f_X11_set
        rw [mach_t G.1 c, b1_some, on_some]
        dsimp only [jn]
        rw [if_neg d1, d2.1, b1_some, on_none]
      · unfold f_X12_set
        rw [ismach_t c, b1_some, if_neg (by decide)]
        dsimp only [jn]
        rw [if_neg d1, d2.2, b1_some, if_pos rfl]
  · refine ⟨-2000000000, s, -2000000000, s, ?_, ?_, G, rfl⟩
    · unfold f_X11_set
      rw [mach_f c, b1_some, on_none]
    · unfold f_X12_set
      rw [ismach_f c, b1_some, if_pos rfl]
/-! BODIES -/
theorem RG.add {s r : SS} {v : Int32} (G : GI s) (hn : (zS s 15 3).toInt < 120)
    (hS : ∀ q k, fS q k = true → ¬ (q = 15 ∧ k = 3) → ¬ (q = 59 ∧ k = 4) → ¬ (q = 15 ∧ k = 5) → ¬ (q = 59 ∧ k = 21) → zS r q k = zS s q k)
    (h3 : zS r 15 3 = zS s 15 3 + 1) (h4 : zS r 59 4 = zS s 59 4 + 1) (h5 : zS r 15 5 = zS r 59 21)
    (hI : ∀ q j, fI q = true → q ≠ 16 → q ≠ 62 → q ≠ 9 → q ≠ 76 → zI r q j = zI s q j)
    (h16 : ∀ j, zI r 16 j = if j = (zS s 15 3).toInt.toNat then v else zI s 16 j) (h62 : ∀ j, zI r 62 j = if j = (zS s 15 3).toInt.toNat then v else zI s 62 j) (h9 : ∀ j, zI r 9 j = zI r 76 j)
    (hJ : ∀ q j, fJ q = true → zJ r q j = zJ s q j) (hR : ∀ j, j ≠ (zS s 15 3).toInt.toNat → zR r 17 j = zR s 17 j) (hc : zR r 17 (zS s 15 3).toInt.toNat = none ↔ ¬ isH v) : RG r := by
  have hf : 0 ≤ (zS s 15 3).toInt ∧ (zS s 15 3).toInt ≤ 120 := G.1.f (q := 15) (k := 3) rfl
  have n1 : (zS s 15 3 + 1).toInt = (zS s 15 3).toInt + 1 := by rw [i32_add (by rw [jl1]; omega) (by rw [jl1]; omega), jl1]
  obtain ⟨_, R1, R2, R3, R4, R5⟩ := G
  refine ⟨?_, ⟨fun i => ?_, fun i => ?_, h9⟩, ?_, fun i hi => ?_, fun i hi => ?_⟩
  · unfold RC
    rw [hS 0 15 rfl (by decide) (by decide) (by decide) (by decide), hS 0 5 rfl (by decide) (by decide) (by decide) (by decide), h3, h4, hS 34 3 rfl (by decide) (by decide) (by decide) (by decide), hS 34 9 rfl (by decide) (by decide) (by decide) (by decide), hS 59 29 rfl (by decide) (by decide) (by decide) (by decide), hS 59 30 rfl (by decide) (by decide) (by decide) (by decide), hS 59 67 rfl (by decide) (by decide) (by decide) (by decide), hS 59 76 rfl (by decide) (by decide) (by decide) (by decide)]
    exact ⟨R1.1, R1.2.1, by rw [R1.2.2.1], h5, R1.2.2.2.2⟩
  · rw [hI 42 i rfl (by decide) (by decide) (by decide) (by decide), hI 113 i rfl (by decide) (by decide) (by decide) (by decide)]
    exact R2.1 i
  · rw [h16, h62]
    by_cases c : i = (zS s 15 3).toInt.toNat
    · rw [if_pos c, if_pos c]
    · rw [if_neg c, if_neg c]; exact R2.2.1 i
  · refine R3.c (fun i k hi hk => hS _ _ ?_ (by omega) (by omega) (by omega) (by omega)) (fun i => hI 78 i rfl (by decide) (by decide) (by decide) (by decide)) (fun i => hI 79 i rfl (by decide) (by decide) (by decide) (by decide))
    have h : i = 0 ∨ i = 1 ∨ i = 2 := by omega
    have h' : k = 0 ∨ k = 1 := by omega
    rcases h with rfl | rfl | rfl <;> rcases h' with rfl | rfl <;> rfl
  · rw [h3, n1, h16]
    by_cases c : i = (zS s 15 3).toInt.toNat
    · rw [if_pos c, c, hc]
      constructor
      · intro h z; exact h z.2
      · intro h z; exact h ⟨by omega, z⟩
    · rw [if_neg c, hR i c, R4 i hi]
      constructor
      · intro h z; exact h ⟨by omega, z.2⟩
      · intro h z; exact h ⟨by omega, z.2⟩
  · have h : i = 0 ∨ i = 1 ∨ i = 2 ∨ i = 3 ∨ i = 4 ∨ i = 5 := by omega
    refine (R5 i hi).c (fun k hk => hS _ _ ?_ (by omega) (by omega) (by omega) (by omega)) (hI 120 i rfl (by decide) (by decide) (by decide) (by decide)) (hI 121 i rfl (by decide) (by decide) (by decide) (by decide)) (fun j _ => hI 123 _ rfl (by decide) (by decide) (by decide) (by decide)) (fun j _ => hJ _ _ ?_) (fun j _ => hJ 122 _ rfl) (by rw [h3, n1]; omega)
    · have h' : k = 0 ∨ k = 1 ∨ k = 2 ∨ k = 3 := by omega
      rcases h with rfl | rfl | rfl | rfl | rfl | rfl <;> rcases h' with rfl | rfl | rfl | rfl <;> rfl
    · rcases h with rfl | rfl | rfl | rfl | rfl | rfl <;> rfl
def adX (s : SS) (v : Int32) : SS := pS (pI s 16 (zS s 15 3).toInt.toNat v) 15 3 (zS s 15 3 + 1)
def adM (s : SS) (v : Int32) : SS := pS (pI s 62 (zS s 59 4).toInt.toNat v) 59 4 (zS s 59 4 + 1)
theorem s11 (x : Int32) : x + 1 - 1 = x := Int32.add_sub_cancel x 1
theorem added_t {s : SS} {v : Int32} (I : Iv s) (h : (zS s 15 3).toInt < 120) : f_X0_added s v = some (zS s 15 3, adX s v) := by
  have hf : 0 ≤ (zS s 15 3).toInt ∧ (zS s 15 3).toInt ≤ 120 := I.f (q := 15) (k := 3) rfl
  unfold f_X0_added
  rw [if_pos (by rw [jlt, jl120]; omega)]
  dsimp only [vl, st]
  rw [gd_t ⟨by omega, by omega⟩]
  show some (zS s 15 3 + 1 - 1, adX s v) = _
  rw [s11]
theorem added_f {s : SS} {v : Int32} (h : ¬ (zS s 15 3).toInt < 120) : f_X0_added s v = some (-3, s) := by
  unfold f_X0_added
  rw [if_neg (by rw [jlt, jl120]; exact h)]
theorem add_t {s : SS} {v : Int32} (h : 0 ≤ (zS s 59 4).toInt ∧ (zS s 59 4).toInt < 120) : f_X12_add s v = some (zS s 59 4, adM s v) := by
  unfold f_X12_add
  dsimp only [vl, st]
  rw [gd_t ⟨by omega, by omega⟩]
  show some (zS s 59 4 + 1 - 1, adM s v) = _
  rw [s11]
theorem Iv.adX {s : SS} {v : Int32} (I : Iv s) (h : (zS s 15 3).toInt < 120) (hv : 0 ≤ v.toInt ∧ v.toInt ≤ 7) : Iv (adX s v) := by
  have hf : 0 ≤ (zS s 15 3).toInt ∧ (zS s 15 3).toInt ≤ 120 := I.f (q := 15) (k := 3) rfl
  have n1 : (zS s 15 3 + 1).toInt = (zS s 15 3).toInt + 1 := by rw [i32_add (by rw [jl1]; omega) (by rw [jl1]; omega), jl1]
  exact (I.wI (q := 16) (by decide) hv).wF (q := 15) (k := 3) (by decide) (by decide) ⟨by omega, by omega⟩
theorem Iv.adM {s : SS} {v : Int32} (I : Iv s) (h : (zS s 59 4).toInt < 120) : Iv (adM s v) := by
  have hf : 0 ≤ (zS s 59 4).toInt ∧ (zS s 59 4).toInt ≤ 120 := I.f (q := 59) (k := 4) rfl
  have n1 : (zS s 59 4 + 1).toInt = (zS s 59 4).toInt + 1 := by rw [i32_add (by rw [jl1]; omega) (by rw [jl1]; omega), jl1]
  exact (I.wI (q := 62) (by decide) trivial).wF (q := 59) (k := 4) (by decide) (by decide) ⟨by omega, by omega⟩
theorem ne120 {s : SS} (G : GI s) (h : (zS s 15 3).toInt < 120) : ¬ zS s 59 4 = 120 := fun z => by
  rw [G.2.1.2.2.1, z, jl120] at h
  omega
theorem eq120 {s : SS} (G : GI s) (h : ¬ (zS s 15 3).toInt < 120) : zS s 59 4 = 120 := by
  have hf : 0 ≤ (zS s 15 3).toInt ∧ (zS s 15 3).toInt ≤ 120 := G.1.f (q := 15) (k := 3) rfl
  apply Int32.toInt_inj.1
  rw [← G.2.1.2.2.1, jl120]
  omega
section BD
variable {s : SS} {v : Int32}
theorem adX_S (q k : Nat) (h : ¬ (q = 15 ∧ k = 3)) : zS (adX s v) q k = zS s q k := by
  unfold adX
  rw [zS_pS, if_neg h, zS_pI]
theorem adM_S (q k : Nat) (h : ¬ (q = 59 ∧ k = 4)) : zS (adM s v) q k = zS s q k := by
  unfold adM
  rw [zS_pS, if_neg h, zS_pI]
theorem adX_3 : zS (adX s v) 15 3 = zS s 15 3 + 1 := rfl
theorem adM_4 : zS (adM s v) 59 4 = zS s 59 4 + 1 := rfl
theorem adX_I (q j : Nat) : zI (adX s v) q j = if q = 16 ∧ j = (zS s 15 3).toInt.toNat then v else zI s q j := rfl
theorem adM_I (q j : Nat) : zI (adM s v) q j = if q = 62 ∧ j = (zS s 59 4).toInt.toNat then v else zI s q j := rfl
end BD
theorem st_body {s : SS} (G : GI s) (a0 : Int32) : ∃ (rx : Int32) (s1 : SS) (rm : Int32) (s2 : SS), f_X11_body s a0 = some (rx, s1) ∧ f_X12_body s1 a0 = some (rm, s2) ∧ GI s2 ∧ rx = rm := by
  by_cases c : 0 ≤ a0.toInt ∧ a0.toInt ≤ 1
  · have hx : f_X11_body s a0 = bd (f_X0_added s a0) fun r2 s2 => some (r2, s2) := by
      unfold f_X11_body
      dsimp only [jn]
      by_cases h : a0 = 0
      · rw [if_pos h]
      · rw [if_neg h, if_pos (Int32.toInt_inj.1 (by rw [jl1]; rw [jeq, jl0] at h; omega))]
    by_cases d : (zS s 15 3).toInt < 120
    · have e4 : zS (adX s a0) 59 4 = zS s 15 3 := by rw [adX_S _ _ (by decide)]; exact G.2.1.2.2.1.symm
      have hf : 0 ≤ (zS s 15 3).toInt ∧ (zS s 15 3).toInt ≤ 120 := G.1.f (q := 15) (k := 3) rfl
      refine ⟨zS s 15 3, adX s a0, zS (adX s a0) 59 4, adM (adX s a0) a0, ?_, ?_, ⟨?_, ?_⟩, e4.symm⟩
      · rw [hx, added_t G.1 d]; rfl
      · unfold f_X12_body
        rw [in_t (by rw [jl0, jl1]; omega), b1_some, if_neg (by decide), if_neg (by rw [adX_S _ _ (by decide)]; exact ne120 G d), add_t (by rw [e4]; omega)]
        rfl
      · exact (G.1.adX d (by omega)).adM (by rw [e4]; exact d)
      · refine RG.add G d (v := a0) (fun q k _ h1 h2 _ _ => ?_) ?_ ?_ ?_ (fun q j _ h1 h2 _ _ => ?_) (fun j => ?_) (fun j => ?_) (fun j => ?_) (fun _ _ _ => rfl) (fun _ _ => rfl) ?_
        · rw [adM_S _ _ h2, adX_S _ _ h1]
        · rw [adM_S _ _ (by decide)]; rfl
        · rw [adM_4, adX_S _ _ (by decide)]
        · rw [adM_S _ _ (by decide), adM_S _ _ (by decide), adX_S _ _ (by decide), adX_S _ _ (by decide)]; exact G.2.1.2.2.2.1
        · rw [adM_I, if_neg (by omega), adX_I, if_neg (by omega)]
        · rw [adM_I, if_neg (by omega), adX_I]
          by_cases h : j = (zS s 15 3).toInt.toNat
          · rw [if_pos ⟨rfl, h⟩, if_pos h]
          · rw [if_neg (by omega), if_neg h]
        · rw [adM_I, e4, adX_I]
          by_cases h : j = (zS s 15 3).toInt.toNat
          · rw [if_pos ⟨rfl, h⟩, if_pos h]
          · rw [if_neg (by omega), if_neg (by omega), if_neg h]
        · rw [adM_I, if_neg (by omega), adX_I, if_neg (by omega), adM_I, if_neg (by omega), adX_I, if_neg (by omega)]; exact G.2.2.1.2.2 j
        · have hz : zR (adM (adX s a0) a0) 17 (zS s 15 3).toInt.toNat = none := (G.2.2.2.2.1 _ (by omega)).2 (fun z => by have := z.1; omega)
          rw [hz]
          refine ⟨fun _ z => ?_, fun _ => rfl⟩
          rcases z with z | z | z | z <;> rw [z] at c <;> exact absurd c.2 (by decide)
    · refine ⟨-3, s, -3, s, ?_, ?_, G, rfl⟩
      · rw [hx, added_f d]; rfl
      · unfold f_X12_body
        rw [in_t (by rw [jl0, jl1]; omega), b1_some, if_neg (by decide), if_pos (eq120 G d)]
  · refine ⟨-1, s, -1, s, ?_, ?_, G, rfl⟩
    · unfold f_X11_body
      dsimp only [jn]
      rw [if_neg (fun z => c (by rw [z]; decide)), if_neg (fun z => c (by rw [z]; decide))]
    · unfold f_X12_body
      rw [in_f (by rw [jl0, jl1]; omega), b1_some, if_pos rfl]
/-! THE SHELTER, MEN, HOLES, ILLNESS -/
section ZF
variable {s : SS} {q k q0 k0 j i : Nat} {v : Int32}
theorem zSf (h : fS q k = true) (h0 : fS q0 k0 = false) : zS (pS s q0 k0 v) q k = zS s q k := by
  rw [zS_pS, if_neg (fun z => by rw [z.1, z.2, h0] at h; cases h)]
theorem zIf (h : fI q = true) (h0 : fI q0 = false) : zI (pI s q0 i v) q j = zI s q j := by
  rw [zI_pI, if_neg (fun z => by rw [z.1, h0] at h; cases h)]
theorem ad16 {s : SS} (j : Nat) (e4 : zS (adX s v) 59 4 = zS s 15 3) : zI (adM (adX s v) v) 16 j = if j = (zS s 15 3).toInt.toNat then v else zI s 16 j := by
  rw [adM_I, if_neg (by omega), adX_I]
  by_cases h : j = (zS s 15 3).toInt.toNat
  · rw [if_pos ⟨rfl, h⟩, if_pos h]
  · rw [if_neg (by omega), if_neg h]
theorem fr4 {s : SS} {v : Int32} (G : GI s) : zS (adX s v) 59 4 = zS s 15 3 := by
  rw [adX_S _ _ (by decide)]
  exact G.2.1.2.2.1.symm
theorem frn {s : SS} (G : GI s) (h : (zS s 15 3).toInt < 120) : zR s 17 (zS s 15 3).toInt.toNat = none := by
  have hf : 0 ≤ (zS s 15 3).toInt ∧ (zS s 15 3).toInt ≤ 120 := G.1.f (q := 15) (k := 3) rfl
  exact (G.2.2.2.2.1 _ (by omega)).2 (fun z => by have := z.1; omega)
end ZF
theorem nH {v : Int32} (h : v = 6 ∨ v = 7) : ¬ isH v := by
  rcases h with rfl | rfl <;> (intro z; rcases z with z | z | z | z <;> exact absurd z (by decide))
theorem yard_t {a : Int32} (h : 1 ≤ a.toInt ∧ a.toInt ≤ 60) : f_X11_isYard a = some 1 := by
  unfold f_X11_isYard
  rw [if_neg (by rw [jlt, jl1]; omega), if_neg (by rw [jlt, jl60]; omega)]
theorem yard_f {a : Int32} (h : ¬ (1 ≤ a.toInt ∧ a.toInt ≤ 60)) : f_X11_isYard a = some 0 := by
  unfold f_X11_isYard
  by_cases c : a < 1
  · rw [if_pos c]
  · rw [if_neg c, if_pos (by rw [jlt, jl60]; rw [jlt, jl1] at c; omega)]
theorem span_01 (a : Int32) : f_X12_isSpan a = some 0 ∨ f_X12_isSpan a = some 1 := by
  unfold f_X12_isSpan
  split
  · exact Or.inl rfl
  · split
    · exact Or.inl rfl
    · split
      · exact Or.inr rfl
      · exact Or.inl rfl
theorem span_e (a : Int32) : f_X11_isSpan a = f_X12_isSpan a := rfl
theorem shelterM {t : SS} {a0 a1 : Int32} (hs : f_X12_isSpan a0 = some 1) (c : 1 ≤ a1.toInt ∧ a1.toInt ≤ 60) (h1 : zS t 59 21 < 0) (h2 : ¬ zS t 59 4 = 120) (h3 : 0 ≤ (zS t 59 4).toInt ∧ (zS t 59 4).toInt < 120) : f_X12_shelter t a0 a1 = some (zS t 59 4, pS (pS (pS (pS (adM t 6) 59 21 (zS t 59 4)) 59 22 (a0 / 100)) 59 23 (a0 % 100)) 59 24 a1) := by
  unfold f_X12_shelter
  rw [hs, b1_some, if_neg (by decide), in_t (by rw [jl1, jl60]; omega), b1_some, if_neg (by decide), if_pos h1, if_neg h2, add_t h3]
  rfl
theorem manM {t : SS} {a0 a1 : Int32} {n : Nat} (c : 0 ≤ a0.toInt ∧ a0.toInt ≤ 999) (b : 0 ≤ a1.toInt ∧ a1.toInt ≤ 99) (h2 : ¬ zS t 59 4 = 120) (h3 : 0 ≤ (zS t 59 4).toInt ∧ (zS t 59 4).toInt < 120) (en : n = (zS t 59 4).toInt.toNat) : f_X12_man t a0 a1 = some (zS t 59 4, pI (pI (pI (pI (adM t 7) 74 n a0) 75 n (a1 / 10)) 76 n (a1 % 10)) 77 n ((1 : Int32) &&& 1)) := by
  have gn : inB (zS t 59 4) 120 := ⟨by omega, by omega⟩
  unfold f_X12_man
  rw [in_t (by rw [jl0, jl999]; omega), b1_some, if_neg (by decide), in_t (by rw [jl0, jl99]; omega), b1_some, if_neg (by decide), if_neg h2, add_t h3, bd_some]
  dsimp only [st, vl]
  rw [gd_t gn, gd_t gn, gd_t gn, gd_t gn, ← en]
theorem st_shelter {s : SS} (G : GI s) (a0 : Int32) (a1 : Int32) : ∃ (rx : Int32) (s1 : SS) (rm : Int32) (s2 : SS), f_X11_shelter s a0 a1 = some (rx, s1) ∧ f_X12_shelter s1 a0 a1 = some (rm, s2) ∧ GI s2 ∧ rx = rm := by
  rcases span_01 a0 with hs | hs
  · refine ⟨-1, s, -1, s, ?_, ?_, G, rfl⟩
    · unfold f_X11_shelter
      rw [span_e, hs, b1_some, if_pos rfl]
    · unfold f_X12_shelter
      rw [hs, b1_some, if_pos rfl]
  by_cases c : 1 ≤ a1.toInt ∧ a1.toInt ≤ 60
  · have e5 := G.2.1.2.2.2.1
    by_cases b : zS s 15 5 < 0
    · by_cases d : (zS s 15 3).toInt < 120
      · have hf : 0 ≤ (zS s 15 3).toInt ∧ (zS s 15 3).toInt ≤ 120 := G.1.f (q := 15) (k := 3) rfl
        have e4 : zS (adX s 6) 59 4 = zS s 15 3 := fr4 G
        have IX := G.1.adX d (v := 6) (by decide)
        have I1 : Iv (pS (pS (pS (pS (adX s 6) 15 5 (zS s 15 3)) 15 6 (a0 / 100)) 15 7 (a0 % 100)) 15 8 a1) := (((IX.wF (q := 15) (k := 5) (by decide) (by decide) trivial).wF (q := 15) (k := 6) (by decide) (by decide) trivial).wF (q := 15) (k := 7) (by decide) (by decide) trivial).wF (q := 15) (k := 8) (by decide) (by decide) trivial
        refine ⟨zS s 15 3, pS (pS (pS (pS (adX s 6) 15 5 (zS s 15 3)) 15 6 (a0 / 100)) 15 7 (a0 % 100)) 15 8 a1, zS (adX s 6) 59 4, pS (pS (pS (pS (adM (pS (pS (pS (pS (adX s 6) 15 5 (zS s 15 3)) 15 6 (a0 / 100)) 15 7 (a0 % 100)) 15 8 a1) 6) 59 21 (zS (adX s 6) 59 4)) 59 22 (a0 / 100)) 59 23 (a0 % 100)) 59 24 a1, ?_, ?_, ⟨?_, ?_⟩, e4.symm⟩
        · unfold f_X11_shelter f_X0_addedRefuge
          rw [span_e, hs, b1_some, if_neg (by decide), yard_t c, b1_some, if_neg (by decide), if_pos b, added_t G.1 d, bd_some, if_neg (by rw [jlt, jl0]; omega)]
          rfl
        · exact shelterM hs c (show zS (adX s 6) 59 21 < 0 by rw [adX_S _ _ (by decide), ← e5]; exact b) (show ¬ zS (adX s 6) 59 4 = 120 by rw [adX_S _ _ (by decide)]; exact ne120 G d) (show 0 ≤ (zS (adX s 6) 59 4).toInt ∧ (zS (adX s 6) 59 4).toInt < 120 by rw [e4]; omega)
        · have I2 := I1.adM (v := 6) (show (zS (adX s 6) 59 4).toInt < 120 by rw [e4]; exact d)
          exact (((I2.wF (q := 59) (k := 21) (by decide) (by decide) trivial).wF (q := 59) (k := 22) (by decide) (by decide) trivial).wF (q := 59) (k := 23) (by decide) (by decide) trivial).wF (q := 59) (k := 24) (by decide) (by decide) trivial
        · refine RG.add G d (v := 6) (fun q k h h1 h2 h3 h4 => ?_) ?_ ?_ ?_ (fun q j h h1 h2 h3 h4 => ?_) (fun j => ?_) (fun j => ?_) (fun j => ?_) (fun _ _ _ => rfl) (fun _ _ => rfl) ?_
          · rw [zSf h (by decide), zSf h (by decide), zSf h (by decide), zS_pS, if_neg h4, adM_S _ _ h2, zSf h (by decide), zSf h (by decide), zSf h (by decide), zS_pS, if_neg h3, adX_S _ _ h1]
          · rfl
          · show zS (adX s 6) 59 4 + 1 = _
            rw [adX_S _ _ (by decide)]
          · show zS s 15 3 = zS (adX s 6) 59 4
            rw [e4]
          · show zI (adM (adX s 6) 6) q j = _
            rw [adM_I, if_neg (by omega), adX_I, if_neg (by omega)]
          · exact ad16 j e4
          · show zI (adM (adX s 6) 6) 62 j = _
            rw [adM_I, e4, adX_I]
            by_cases h : j = (zS s 15 3).toInt.toNat
            · rw [if_pos ⟨rfl, h⟩, if_pos h]
            · rw [if_neg (by omega), if_neg (by omega), if_neg h]
          · show zI (adM (adX s 6) 6) 9 j = zI (adM (adX s 6) 6) 76 j
            rw [adM_I, if_neg (by omega), adX_I, if_neg (by omega), adM_I, if_neg (by omega), adX_I, if_neg (by omega)]
            exact G.2.2.1.2.2 j
          · exact ⟨fun _ => nH (Or.inl rfl), fun _ => frn G d⟩
      · refine ⟨-3, s, -3, s, ?_, ?_, G, rfl⟩
        · unfold f_X11_shelter f_X0_addedRefuge
          rw [span_e, hs, b1_some, if_neg (by decide), yard_t c, b1_some, if_neg (by decide), if_pos b, added_f d, bd_some, if_pos (by decide)]
          rfl
        · unfold f_X12_shelter
          rw [hs, b1_some, if_neg (by decide), in_t (by rw [jl1, jl60]; omega), b1_some, if_neg (by decide), if_pos (by rw [← e5]; exact b), if_pos (eq120 G d)]
    · refine ⟨-2, s, -2, s, ?_, ?_, G, rfl⟩
      · unfold f_X11_shelter
        rw [span_e, hs, b1_some, if_neg (by decide), yard_t c, b1_some, if_neg (by decide), if_neg b]
      · unfold f_X12_shelter
        rw [hs, b1_some, if_neg (by decide), in_t (by rw [jl1, jl60]; omega), b1_some, if_neg (by decide), if_neg (by rw [← e5]; exact b)]
  · refine ⟨-1, s, -1, s, ?_, ?_, G, rfl⟩
    · unfold f_X11_shelter
      rw [span_e, hs, b1_some, if_neg (by decide), yard_f c, b1_some, if_pos rfl]
    · unfold f_X12_shelter
      rw [hs, b1_some, if_neg (by decide), in_f (by rw [jl1, jl60]; omega), b1_some, if_pos rfl]
theorem st_man {s : SS} (G : GI s) (a0 : Int32) (a1 : Int32) : ∃ (rx : Int32) (s1 : SS) (rm : Int32) (s2 : SS), f_X11_man s a0 a1 = some (rx, s1) ∧ f_X12_man s1 a0 a1 = some (rm, s2) ∧ GI s2 ∧ rx = rm := by
  by_cases c : 0 ≤ a0.toInt ∧ a0.toInt ≤ 999
  · by_cases b : 0 ≤ a1.toInt ∧ a1.toInt ≤ 99
    · by_cases d : (zS s 15 3).toInt < 120
      · have hf : 0 ≤ (zS s 15 3).toInt ∧ (zS s 15 3).toInt ≤ 120 := G.1.f (q := 15) (k := 3) rfl
        have e4 : zS (adX s 7) 59 4 = zS s 15 3 := fr4 G
        have IX := G.1.adX d (v := 7) (by decide)
        have gn : inB (zS s 15 3) 120 := ⟨by omega, by omega⟩
        obtain ⟨n, en⟩ : ∃ n, n = (zS s 15 3).toInt.toNat := ⟨_, rfl⟩
        have I1 : Iv (pS (pI (pI (pI (pI (adX s 7) 7 n a0) 8 n (a1 / 10)) 9 n (a1 % 10)) 10 n 1) 6 4 (zS (adX s 7) 6 4 + 1)) := ((((IX.wI (q := 7) (by decide) trivial).wI (q := 8) (by decide) trivial).wI (q := 9) (by decide) trivial).wI (q := 10) (by decide) trivial).wF (q := 6) (k := 4) (by decide) (by decide) trivial
        refine ⟨zS s 15 3, pS (pI (pI (pI (pI (adX s 7) 7 n a0) 8 n (a1 / 10)) 9 n (a1 % 10)) 10 n 1) 6 4 (zS (adX s 7) 6 4 + 1), zS (adX s 7) 59 4, pI (pI (pI (pI (adM (pS (pI (pI (pI (pI (adX s 7) 7 n a0) 8 n (a1 / 10)) 9 n (a1 % 10)) 10 n 1) 6 4 (zS (adX s 7) 6 4 + 1)) 7) 74 n a0) 75 n (a1 / 10)) 76 n (a1 % 10)) 77 n ((1 : Int32) &&& 1), ?_, ?_, ⟨?_, ?_⟩, e4.symm⟩
        · unfold f_X11_man f_X2_comes
          rw [if_neg (by rw [jlt, jl0]; omega), if_neg (by rw [jlt, jl999]; omega), if_neg (by rw [jlt, jl0]; omega), if_neg (by rw [jlt, jl99]; omega), added_t G.1 d, bd_some, if_neg (by rw [jlt, jl0]; omega), if_neg (by rw [jlt, jl0]; omega), if_pos (by rw [jlt, jl120]; omega), gd_t gn]
          dsimp only [st, vl]
          rw [gd_t gn, gd_t gn, gd_t gn, ← en]
          rfl
        · exact manM c b (show ¬ zS (adX s 7) 59 4 = 120 by rw [adX_S _ _ (by decide)]; exact ne120 G d) (show 0 ≤ (zS (adX s 7) 59 4).toInt ∧ (zS (adX s 7) 59 4).toInt < 120 by rw [e4]; omega) (show n = (zS (adX s 7) 59 4).toInt.toNat by rw [e4]; exact en)
        · have I2 := I1.adM (v := 7) (show (zS (adX s 7) 59 4).toInt < 120 by rw [e4]; exact d)
          exact (((I2.wI (q := 74) (by decide) trivial).wI (q := 75) (by decide) trivial).wI (q := 76) (by decide) trivial).wI (q := 77) (by decide) trivial
        · have hA : ∀ q j, q ≠ 7 → q ≠ 8 → q ≠ 9 → q ≠ 10 → q ≠ 74 → q ≠ 75 → q ≠ 76 → q ≠ 77 → zI (pI (pI (pI (pI (adM (pS (pI (pI (pI (pI (adX s 7) 7 n a0) 8 n (a1 / 10)) 9 n (a1 % 10)) 10 n 1) 6 4 (zS (adX s 7) 6 4 + 1)) 7) 74 n a0) 75 n (a1 / 10)) 76 n (a1 % 10)) 77 n ((1 : Int32) &&& 1)) q j = zI (adM (adX s 7) 7) q j := by
            intro q j h1 h2 h3 h4 h5 h6 h7 h8
            rw [zI_pI, if_neg (by omega), zI_pI, if_neg (by omega), zI_pI, if_neg (by omega), zI_pI, if_neg (by omega), adM_I, adM_I, zI_pS, zI_pI _ 10, if_neg (show ¬ (q = 10 ∧ j = n) by omega), zI_pI _ 9, if_neg (show ¬ (q = 9 ∧ j = n) by omega), zI_pI _ 8, if_neg (show ¬ (q = 8 ∧ j = n) by omega), zI_pI _ 7, if_neg (show ¬ (q = 7 ∧ j = n) by omega)]
            rfl
          refine RG.add G d (v := 7) (fun q k h h1 h2 h3 h4 => ?_) ?_ ?_ ?_ (fun q j h h1 h2 h3 h4 => ?_) (fun j => ?_) (fun j => ?_) (fun j => ?_) (fun _ _ _ => rfl) (fun _ _ => rfl) ?_
          · rw [zS_pI, zS_pI, zS_pI, zS_pI, adM_S _ _ h2, zSf h (by decide), zS_pI, zS_pI, zS_pI, zS_pI, adX_S _ _ h1]
          · rfl
          · show zS (adX s 7) 59 4 + 1 = _
            rw [adX_S _ _ (by decide)]
          · show zS (adX s 7) 15 5 = zS (adX s 7) 59 21
            rw [adX_S _ _ (by decide), adX_S _ _ (by decide)]
            exact G.2.1.2.2.2.1
          · have hq : q ≠ 7 ∧ q ≠ 8 ∧ q ≠ 10 ∧ q ≠ 74 ∧ q ≠ 75 ∧ q ≠ 77 := by
              refine ⟨?_, ?_, ?_, ?_, ?_, ?_⟩ <;> (intro z; rw [z] at h; exact absurd h (by decide))
            rw [hA q j (by omega) (by omega) h3 (by omega) (by omega) (by omega) h4 (by omega), adM_I, if_neg (by omega), adX_I, if_neg (by omega)]
          · rw [hA 16 j (by decide) (by decide) (by decide) (by decide) (by decide) (by decide) (by decide) (by decide)]
            exact ad16 j e4
          · rw [hA 62 j (by decide) (by decide) (by decide) (by decide) (by decide) (by decide) (by decide) (by decide), adM_I, e4, adX_I]
            by_cases h : j = (zS s 15 3).toInt.toNat
            · rw [if_pos ⟨rfl, h⟩, if_pos h]
            · rw [if_neg (by omega), if_neg (by omega), if_neg h]
          · have h9 : zI (pI (pI (pI (pI (adM (pS (pI (pI (pI (pI (adX s 7) 7 n a0) 8 n (a1 / 10)) 9 n (a1 % 10)) 10 n 1) 6 4 (zS (adX s 7) 6 4 + 1)) 7) 74 n a0) 75 n (a1 / 10)) 76 n (a1 % 10)) 77 n ((1 : Int32) &&& 1)) 9 j = if j = n then a1 % 10 else zI s 9 j := by
              rw [zI_pI, if_neg (by omega), zI_pI, if_neg (by omega), zI_pI, if_neg (by omega), zI_pI, if_neg (by omega), adM_I, if_neg (by omega), zI_pS, zI_pI, if_neg (by omega), zI_pI]
              by_cases h : j = n
              · rw [if_pos ⟨rfl, h⟩, if_pos h]
              · rw [if_neg (by omega), if_neg h, zI_pI, if_neg (by omega), zI_pI, if_neg (by omega), adX_I, if_neg (by omega)]
            have h76 : zI (pI (pI (pI (pI (adM (pS (pI (pI (pI (pI (adX s 7) 7 n a0) 8 n (a1 / 10)) 9 n (a1 % 10)) 10 n 1) 6 4 (zS (adX s 7) 6 4 + 1)) 7) 74 n a0) 75 n (a1 / 10)) 76 n (a1 % 10)) 77 n ((1 : Int32) &&& 1)) 76 j = if j = n then a1 % 10 else zI s 76 j := by
              rw [zI_pI, if_neg (by omega), zI_pI]
              by_cases h : j = n
              · rw [if_pos ⟨rfl, h⟩, if_pos h]
              · rw [if_neg (by omega), if_neg h, zI_pI, if_neg (by omega), zI_pI, if_neg (by omega), adM_I, if_neg (by omega), zI_pS, zI_pI, if_neg (by omega), zI_pI, if_neg (by omega), zI_pI, if_neg (by omega), zI_pI, if_neg (by omega), adX_I, if_neg (by omega)]
            rw [h9, h76, G.2.2.1.2.2 j]
          · exact ⟨fun _ => nH (Or.inr rfl), fun _ => frn G d⟩
      · refine ⟨-3, s, -3, s, ?_, ?_, G, rfl⟩
        · unfold f_X11_man
          rw [if_neg (by rw [jlt, jl0]; omega), if_neg (by rw [jlt, jl999]; omega), if_neg (by rw [jlt, jl0]; omega), if_neg (by rw [jlt, jl99]; omega), added_f d, bd_some, if_pos (by decide)]
        · unfold f_X12_man
          rw [in_t (by rw [jl0, jl999]; omega), b1_some, if_neg (by decide), in_t (by rw [jl0, jl99]; omega), b1_some, if_neg (by decide), if_pos (eq120 G d)]
    · refine ⟨-1, s, -1, s, ?_, ?_, G, rfl⟩
      · unfold f_X11_man
        rw [if_neg (by rw [jlt, jl0]; omega), if_neg (by rw [jlt, jl999]; omega)]
        by_cases h : a1 < 0
        · rw [if_pos h]
        · rw [if_neg h, if_pos (by rw [jlt, jl99]; rw [jlt, jl0] at h; omega)]
      · unfold f_X12_man
        rw [in_t (by rw [jl0, jl999]; omega), b1_some, if_neg (by decide), in_f (by rw [jl0, jl99]; omega), b1_some, if_pos rfl]
  · refine ⟨-1, s, -1, s, ?_, ?_, G, rfl⟩
    · unfold f_X11_man
      by_cases h : a0 < 0
      · rw [if_pos h]
      · rw [if_neg h, if_pos (by rw [jlt, jl999]; rw [jlt, jl0] at h; omega)]
    · unfold f_X12_man
      rw [in_f (by rw [jl0, jl999]; omega), b1_some, if_pos rfl]
theorem st_ill {s : SS} (G : GI s) (a0 : Int32) (a1 : Int32) : ∃ (rx : Int32) (s1 : SS) (rm : Int32) (s2 : SS), f_X11_ill s a0 a1 = some (rx, s1) ∧ f_X12_ill s1 a0 a1 = some (rm, s2) ∧ GI s2 ∧ rx = rm := by
  have e := G.2.1.2.2.1
  have k7 := G.2.2.1.2.1
  have hf : 0 ≤ (zS s 15 3).toInt ∧ (zS s 15 3).toInt ≤ 120 := G.1.f (q := 15) (k := 3) rfl
  by_cases c : (0 ≤ a0.toInt ∧ a0.toInt < (zS s 15 3).toInt) ∧ zI s 16 a0.toInt.toNat = 7
  · have g : inB a0 120 := ⟨by omega, by omega⟩
    have mn : ∀ s1, Iv s1 → zS s1 59 4 = zS s 59 4 → zI s1 62 a0.toInt.toNat = zI s 62 a0.toInt.toNat → f_X12_isMan s1 a0 = some 1 := by
      intro s1 I1 h1 h2
      unfold f_X12_isMan
      rw [body_t I1 (by rw [h1, ← e]; exact c.1), b1_some, if_neg (by decide), gd_t g, h2, ← k7, c.2, if_pos rfl]
    by_cases d : 0 ≤ a1.toInt ∧ a1.toInt ≤ 9
    · have I1 : Iv (pI s 9 a0.toInt.toNat a1) := G.1.wI (q := 9) (by decide) trivial
      refine ⟨zI s 9 a0.toInt.toNat, pI s 9 a0.toInt.toNat a1, zI s 76 a0.toInt.toNat, pI (pI s 9 a0.toInt.toNat a1) 76 a0.toInt.toNat a1, ?_, ?_, ⟨I1.wI (q := 76) (by decide) trivial, ?_⟩, G.2.2.1.2.2 _⟩
      · unfold f_X11_ill
        rw [kind_t G.1 c.1, b1_some, if_pos c.2, if_neg (by rw [jlt, jl0]; omega), if_neg (by rw [jlt, jl9]; omega), gd_t g]
        dsimp only [vl, st]
        rw [gd_t g]
      · unfold f_X12_ill
        rw [mn _ I1 rfl rfl, b1_some, if_neg (by decide), in_t (by rw [jl0, jl9]; omega), b1_some, if_neg (by decide), gd_t g]
        dsimp only [vl, st]
        rw [gd_t g]
        rfl
      · obtain ⟨R1, R2, R3, R4, R5⟩ := G.2
        refine ⟨R1, ⟨fun i => ?_, fun i => ?_, fun i => ?_⟩, (R3.pI (by decide)).pI (by decide), (R4.pI (by decide)).pI (by decide), (R5.pI (by decide)).pI (by decide)⟩
        · exact R2.1 i
        · exact R2.2.1 i
        · rw [zI_pI, if_neg (by omega), zI_pI, zI_pI]
          by_cases h : i = a0.toInt.toNat
          · rw [if_pos ⟨rfl, h⟩, if_pos ⟨rfl, h⟩]
          · rw [if_neg (by omega), if_neg (by omega), zI_pI, if_neg (by omega)]
            exact R2.2.2 i
    · refine ⟨-1, s, -1, s, ?_, ?_, G, rfl⟩
      · unfold f_X11_ill
        rw [kind_t G.1 c.1, b1_some, if_pos c.2]
        by_cases h : a1 < 0
        · rw [if_pos h]
        · rw [if_neg h, if_pos (by rw [jlt, jl9]; rw [jlt, jl0] at h; omega)]
      · unfold f_X12_ill
        rw [mn s G.1 rfl rfl, b1_some, if_neg (by decide), in_f (by rw [jl0, jl9]; omega), b1_some, if_pos rfl]
  · refine ⟨-1, s, -1, s, ?_, ?_, G, rfl⟩
    · unfold f_X11_ill
      by_cases d : 0 ≤ a0.toInt ∧ a0.toInt < (zS s 15 3).toInt
      · rw [kind_t G.1 d, b1_some, if_neg (fun z => c ⟨d, z⟩)]
      · rw [kind_f d, b1_some, if_neg (by decide)]
    · unfold f_X12_ill f_X12_isMan
      by_cases d : 0 ≤ a0.toInt ∧ a0.toInt < (zS s 15 3).toInt
      · rw [body_t G.1 (by rw [← e]; exact d), b1_some, if_neg (by decide), gd_t ⟨by omega, by omega⟩, if_neg (by rw [← k7]; exact fun z => c ⟨d, z⟩), b1_some, if_pos rfl]
      · rw [body_f G.1 (by rw [← e]; exact d), b1_some, if_pos rfl, b1_some, if_pos rfl]
/-! HOLES, MAPS, NEEDS, AIMS -/
def nhX (s : SS) (c w : Int32) (i : Nat) (v : Int32) : SS := pS (pR (pHole s c w) 17 i (some (zL s))) 15 4 v
section HX
variable {s : SS} {c w v : Int32} {i : Nat}
theorem nhX_S (I : Iv s) {q k : Nat} (h : fS q k = true) : zS (nhX s c w i v) q k = zS s q k := by
  have h1 := I.1.1.1
  have h2 := fS_lt h
  unfold nhX
  rw [zSf h (by decide)]
  show (if q = zL s then holeF c w k else zS s q k) = _
  rw [if_neg (by omega)]
theorem nhX_I (I : Iv s) {q j : Nat} (h : q < 126) : zI (nhX s c w i v) q j = zI s q j := by
  have h1 := I.1.1.1
  show (if q = zL s + 1 then 0 else if q = zL s + 2 then 0 else if q = zL s + 3 then (-2000000000) else zI s q j) = _
  rw [if_neg (by omega), if_neg (by omega), if_neg (by omega)]
theorem nhX_R (j : Nat) : zR (nhX s c w i v) 17 j = if j = i then some (zL s) else zR s 17 j := by
  show (if 17 = 17 ∧ j = i then some (zL s) else zR s 17 j) = _
  by_cases h : j = i
  · rw [if_pos ⟨rfl, h⟩, if_pos h]
  · rw [if_neg (fun z => h z.2), if_neg h]
end HX
theorem holeM {t : SS} {a0 a1 : Int32} {n : Nat} (c : 2 ≤ a0.toInt ∧ a0.toInt ≤ 5) (b : ¬ a1 < 0) (b2 : a1 / 100 < 32) (b3 : ¬ a1 % 100 = 0) (h2 : ¬ zS t 59 4 = 120) (h3 : 0 ≤ (zS t 59 4).toInt ∧ (zS t 59 4).toInt < 120) (en : n = (zS t 59 4).toInt.toNat) : f_X12_hole t a0 a1 = some (zS t 59 4, pI (pI (pI (adM t a0) 63 n (a1 / 100)) 65 n (a1 / 100)) 64 n (a1 % 100)) := by
  have gn : inB (zS t 59 4) 120 := ⟨by omega, by omega⟩
  unfold f_X12_hole
  rw [in_t (by rw [jl2, jl5]; omega), b1_some, if_neg (by decide), if_neg b, if_pos b2, if_neg b3, if_neg h2, add_t h3, bd_some]
  dsimp only [st, vl]
  rw [gd_t gn, gd_t gn, gd_t gn, ← en]
theorem st_hole {s : SS} (G : GI s) (a0 : Int32) (a1 : Int32) : ∃ (rx : Int32) (s1 : SS) (rm : Int32) (s2 : SS), f_X11_hole s a0 a1 = some (rx, s1) ∧ f_X12_hole s1 a0 a1 = some (rm, s2) ∧ GI s2 ∧ rx = rm := by
  by_cases c : 2 ≤ a0.toInt ∧ a0.toInt ≤ 5
  · have cx : ¬ a0 < 2 ∧ ¬ 5 < a0 := ⟨by rw [jlt, jl2]; omega, by rw [jlt, jl5]; omega⟩
    by_cases b : a1 < 0
    · refine ⟨-1, s, -1, s, ?_, ?_, G, rfl⟩
      · unfold f_X11_hole
        rw [if_neg cx.1, if_neg cx.2, if_pos b]
      · unfold f_X12_hole
        rw [in_t (by rw [jl2, jl5]; omega), b1_some, if_neg (by decide), if_pos b]
    by_cases b2 : a1 / 100 < 32
    · have hp : 0 ≤ a1.toInt := by rw [jlt, jl0] at b; omega
      have em : (a1 % 100).toInt = a1.toInt % 100 := by rw [jm100, if_pos hp]
      by_cases b3 : a1 % 100 = 0
      · refine ⟨-1, s, -1, s, ?_, ?_, G, rfl⟩
        · unfold f_X11_hole
          dsimp only [vl]
          rw [if_neg cx.1, if_neg cx.2, if_neg b, if_pos b2, if_pos (by rw [b3]; decide)]
        · unfold f_X12_hole
          rw [in_t (by rw [jl2, jl5]; omega), b1_some, if_neg (by decide), if_neg b, if_pos b2, if_pos b3]
      · have b4 : ¬ a1 % 100 < 1 := by
          rw [jlt, jl1]
          intro z
          apply b3
          apply Int32.toInt_inj.1
          rw [jl0]
          omega
        by_cases d : (zS s 15 3).toInt < 120
        · have hf : 0 ≤ (zS s 15 3).toInt ∧ (zS s 15 3).toInt ≤ 120 := G.1.f (q := 15) (k := 3) rfl
          have e4 : zS (adX s a0) 59 4 = zS s 15 3 := fr4 G
          have IX := G.1.adX d (v := a0) (by omega)
          have gn : inB (zS s 15 3) 120 := ⟨by omega, by omega⟩
          obtain ⟨n, en⟩ : ∃ n, n = (zS s 15 3).toInt.toNat := ⟨_, rfl⟩
          obtain ⟨w, ew⟩ : ∃ w, w = zS (pR (pHole (adX s a0) (a1 / 100) (a1 % 100)) 17 n (some (zL (adX s a0)))) 15 4 + 1 := ⟨_, rfl⟩
          have I1 : Iv (nhX (adX s a0) (a1 / 100) (a1 % 100) n w) := IX.holeF
          have f4 : zS (nhX (adX s a0) (a1 / 100) (a1 % 100) n w) 59 4 = zS s 15 3 := by rw [nhX_S IX rfl]; exact e4
          refine ⟨zS s 15 3, nhX (adX s a0) (a1 / 100) (a1 % 100) n w, zS (nhX (adX s a0) (a1 / 100) (a1 % 100) n w) 59 4, pI (pI (pI (adM (nhX (adX s a0) (a1 / 100) (a1 % 100) n w) a0) 63 n (a1 / 100)) 65 n (a1 / 100)) 64 n (a1 % 100), ?_, ?_, ⟨?_, ?_⟩, f4.symm⟩
          · unfold f_X11_hole f_X0_addedHole
            dsimp only [vl]
            rw [if_neg cx.1, if_neg cx.2, if_neg b, if_pos b2, if_neg b4, added_t G.1 d, bd_some, if_neg (by rw [jlt, jl0]; omega), gd_t gn, ← en]
            dsimp only [st]
            rw [← ew]
            rfl
          · exact holeM c b b2 b3 (by rw [f4, ← e4, adX_S _ _ (by decide)]; exact ne120 G d) (by rw [f4]; omega) (by rw [f4]; exact en)
          · have I2 := I1.adM (v := a0) (by rw [f4]; exact d)
            exact ((I2.wI (q := 63) (by decide) trivial).wI (q := 65) (by decide) trivial).wI (q := 64) (by decide) trivial
          · have hA : ∀ q j, q < 126 → q ≠ 63 → q ≠ 65 → q ≠ 64 → zI (pI (pI (pI (adM (nhX (adX s a0) (a1 / 100) (a1 % 100) n w) a0) 63 n (a1 / 100)) 65 n (a1 / 100)) 64 n (a1 % 100)) q j = if q = 62 ∧ j = n then a0 else zI (adX s a0) q j := by
              intro q j h0 h1 h2 h3
              rw [zI_pI, if_neg (by omega), zI_pI, if_neg (by omega), zI_pI, if_neg (by omega), adM_I, f4, ← en, nhX_I IX h0]
            refine RG.add G d (v := a0) (fun q k h h1 h2 h3 h4 => ?_) ?_ ?_ ?_ (fun q j h h1 h2 h3 h4 => ?_) (fun j => ?_) (fun j => ?_) (fun j => ?_) (fun _ _ _ => rfl) (fun j hj => ?_) ?_
            · rw [zS_pI, zS_pI, zS_pI, adM_S _ _ h2, nhX_S IX h, adX_S _ _ h1]
            · rw [zS_pI, zS_pI, zS_pI, adM_S _ _ (by decide), nhX_S IX rfl]; rfl
            · rw [zS_pI, zS_pI, zS_pI, adM_4, nhX_S IX rfl, adX_S _ _ (by decide)]
            · rw [zS_pI, zS_pI, zS_pI, zS_pI, zS_pI, zS_pI, adM_S _ _ (by decide), adM_S _ _ (by decide), nhX_S IX rfl, nhX_S IX rfl, adX_S _ _ (by decide), adX_S _ _ (by decide)]
              exact G.2.1.2.2.2.1
            · have hq : q ≠ 63 ∧ q ≠ 65 ∧ q ≠ 64 := by
                refine ⟨?_, ?_, ?_⟩ <;> (intro z; rw [z] at h; exact absurd h (by decide))
              rw [hA q j (fI_lt h) hq.1 hq.2.1 hq.2.2, if_neg (by omega), adX_I, if_neg (by omega)]
            · rw [hA 16 j (by decide) (by decide) (by decide) (by decide), if_neg (by omega), adX_I, ← en]
              by_cases h : j = n
              · rw [if_pos ⟨rfl, h⟩, if_pos h]
              · rw [if_neg (by omega), if_neg h]
            · rw [hA 62 j (by decide) (by decide) (by decide) (by decide), adX_I, ← en]
              by_cases h : j = n
              · rw [if_pos ⟨rfl, h⟩, if_pos h]
              · rw [if_neg (by omega), if_neg (by omega), if_neg h]
            · rw [hA 9 j (by decide) (by decide) (by decide) (by decide), if_neg (by omega), hA 76 j (by decide) (by decide) (by decide) (by decide), if_neg (by omega), adX_I, if_neg (by omega), adX_I, if_neg (by omega)]
              exact G.2.2.1.2.2 j
            · show zR (nhX (adX s a0) (a1 / 100) (a1 % 100) n w) 17 j = zR (adX s a0) 17 j
              rw [nhX_R, if_neg (by omega)]
            · show zR (nhX (adX s a0) (a1 / 100) (a1 % 100) n w) 17 _ = none ↔ _
              rw [nhX_R, if_pos en.symm]
              refine ⟨(fun z => by cases z), (fun z => absurd ?_ z)⟩
              have h : a0.toInt = 2 ∨ a0.toInt = 3 ∨ a0.toInt = 4 ∨ a0.toInt = 5 := by omega
              rcases h with h | h | h | h
              · exact Or.inl (Int32.toInt_inj.1 h)
              · exact Or.inr (Or.inl (Int32.toInt_inj.1 h))
              · exact Or.inr (Or.inr (Or.inl (Int32.toInt_inj.1 h)))
              · exact Or.inr (Or.inr (Or.inr (Int32.toInt_inj.1 h)))
        · refine ⟨-3, s, -3, s, ?_, ?_, G, rfl⟩
          · unfold f_X11_hole f_X0_addedHole
            dsimp only [vl]
            rw [if_neg cx.1, if_neg cx.2, if_neg b, if_pos b2, if_neg b4, added_f d, bd_some, if_pos (by decide)]
            rfl
          · unfold f_X12_hole
            rw [in_t (by rw [jl2, jl5]; omega), b1_some, if_neg (by decide), if_neg b, if_pos b2, if_neg b3, if_pos (eq120 G d)]
    · refine ⟨-1, s, -1, s, ?_, ?_, G, rfl⟩
      · unfold f_X11_hole
        dsimp only [vl]
        rw [if_neg cx.1, if_neg cx.2, if_neg b, if_neg b2]
      · unfold f_X12_hole
        rw [in_t (by rw [jl2, jl5]; omega), b1_some, if_neg (by decide), if_neg b, if_neg b2]
  · refine ⟨-1, s, -1, s, ?_, ?_, G, rfl⟩
    · unfold f_X11_hole
      by_cases h : a0 < 2
      · rw [if_pos h]
      · rw [if_neg h, if_pos (by rw [jlt, jl5]; rw [jlt, jl2] at h; omega)]
    · unfold f_X12_hole
      rw [in_f (by rw [jl2, jl5]; omega), b1_some, if_pos rfl]
/-- counters that go up or back together -/
theorem RG.cnt {s r : SS} (R : RG s) (hS : ∀ q k, fS q k = true → ¬ (q = 0 ∧ k = 5) → ¬ (q = 59 ∧ k = 30) → ¬ (q = 34 ∧ k = 3) → ¬ (q = 59 ∧ k = 67) → ¬ (q = 34 ∧ k = 9) → ¬ (q = 59 ∧ k = 76) → zS r q k = zS s q k)
    (h1 : zS r 0 5 = zS r 59 30) (h2 : zS r 34 3 = zS r 59 67) (h3 : zS r 34 9 = zS r 59 76) (hI : ∀ q j, fI q = true → zI r q j = zI s q j) (hJ : ∀ q j, fJ q = true → zJ r q j = zJ s q j) (hR : ∀ j, zR r 17 j = zR s 17 j) : RG r := by
  obtain ⟨R1, R2, R3, R4, R5⟩ := R
  have e3 : zS r 15 3 = zS s 15 3 := hS 15 3 rfl (by decide) (by decide) (by decide) (by decide) (by decide) (by decide)
  refine ⟨?_, ?_, ?_, ?_, ?_⟩
  · unfold RC
    rw [hS 0 15 rfl (by decide) (by decide) (by decide) (by decide) (by decide) (by decide), hS 59 29 rfl (by decide) (by decide) (by decide) (by decide) (by decide) (by decide), e3, hS 59 4 rfl (by decide) (by decide) (by decide) (by decide) (by decide) (by decide), hS 15 5 rfl (by decide) (by decide) (by decide) (by decide) (by decide) (by decide), hS 59 21 rfl (by decide) (by decide) (by decide) (by decide) (by decide) (by decide)]
    exact ⟨R1.1, h1, R1.2.2.1, R1.2.2.2.1, h2, h3⟩
  · exact R2.c (fun q i h => hI q i (by rcases h with rfl | rfl | rfl | rfl | rfl | rfl <;> rfl))
  · refine R3.c (fun i k hi hk => hS _ _ ?_ (by omega) (by omega) (by omega) (by omega) (by omega) (by omega)) (fun i => hI 78 i rfl) (fun i => hI 79 i rfl)
    have h : i = 0 ∨ i = 1 ∨ i = 2 := by omega
    have h' : k = 0 ∨ k = 1 := by omega
    rcases h with rfl | rfl | rfl <;> rcases h' with rfl | rfl <;> rfl
  · exact R4.c e3 (fun i => hI 16 i rfl) hR
  · intro i hi
    have h : i = 0 ∨ i = 1 ∨ i = 2 ∨ i = 3 ∨ i = 4 ∨ i = 5 := by omega
    refine (R5 i hi).c (fun k hk => hS _ _ ?_ (by omega) (by omega) (by omega) (by omega) (by omega) (by omega)) (hI 120 i rfl) (hI 121 i rfl) (fun j _ => hI 123 _ rfl) (fun j _ => hJ _ _ ?_) (fun j _ => hJ 122 _ rfl) (by rw [e3]; exact Int.le_refl _)
    · have h' : k = 0 ∨ k = 1 ∨ k = 2 ∨ k = 3 := by omega
      rcases h with rfl | rfl | rfl | rfl | rfl | rfl <;> rcases h' with rfl | rfl | rfl | rfl <;> rfl
    · rcases h with rfl | rfl | rfl | rfl | rfl | rfl <;> rfl
def nmX (s : SS) (c w y : Int32) (i : Nat) (v : Int32) : SS := pS (pR (pMap s c w y) 23 i (some (zL s))) 0 5 v
section MX
variable {s : SS} {c w y v : Int32} {i : Nat}
theorem nmX_S (I : Iv s) {q k : Nat} (h : fS q k = true) (h5 : ¬ (q = 0 ∧ k = 5)) : zS (nmX s c w y i v) q k = zS s q k := by
  have h1 := I.1.1.1
  have h2 := fS_lt h
  unfold nmX
  rw [zS_pS, if_neg h5]
  show (if q = zL s then mapF c w y k else zS s q k) = _
  rw [if_neg (by omega)]
theorem nmX_I (I : Iv s) {q j : Nat} (h : q < 126) : zI (nmX s c w y i v) q j = zI s q j := by
  have h1 := I.1.1.1
  show (if q = zL s + 1 then 0 else zI s q j) = _
  rw [if_neg (by omega)]
theorem nmX_R (j : Nat) : zR (nmX s c w y i v) 17 j = zR s 17 j := by
  show (if 17 = 23 ∧ j = i then some (zL s) else zR s 17 j) = _
  rw [if_neg (fun z => absurd z.1 (by decide))]
end MX
theorem mapM {t : SS} {a0 a1 : Int32} {n : Nat} (hs : f_X12_isSpan a0 = some 1) (c : 1 ≤ a1.toInt ∧ a1.toInt ≤ 60) (h2 : ¬ zS t 59 30 = 8) (h3 : 0 ≤ (zS t 59 30).toInt ∧ (zS t 59 30).toInt < 8) (en : n = (zS t 59 30).toInt.toNat) : f_X12_map t a0 a1 = some (zS t 59 30, pS (pI (pI (pI t 81 n (a0 / 100)) 82 n (a0 % 100)) 83 n a1) 59 30 (zS t 59 30 + 1)) := by
  have gn : inB (zS t 59 30) 8 := ⟨by omega, by omega⟩
  unfold f_X12_map
  rw [hs, b1_some, if_neg (by decide), in_t (by rw [jl1, jl60]; omega), b1_some, if_neg (by decide), if_neg h2]
  dsimp only [st, vl]
  rw [gd_t gn, gd_t (show inB (zS (pI t 81 (zS t 59 30).toInt.toNat (a0 / 100)) 59 30) 8 from gn), gd_t (show inB (zS (pI (pI t 81 (zS t 59 30).toInt.toNat (a0 / 100)) 82 (zS (pI t 81 (zS t 59 30).toInt.toNat (a0 / 100)) 59 30).toInt.toNat (a0 % 100)) 59 30) 8 from gn)]
  rw [en]
  show some (zS t 59 30 + 1 - 1, _) = _
  rw [s11]
  rfl
theorem st_map {s : SS} (G : GI s) (a0 : Int32) (a1 : Int32) : ∃ (rx : Int32) (s1 : SS) (rm : Int32) (s2 : SS), f_X11_map s a0 a1 = some (rx, s1) ∧ f_X12_map s1 a0 a1 = some (rm, s2) ∧ GI s2 ∧ rx = rm := by
  rcases span_01 a0 with hs | hs
  · refine ⟨-1, s, -1, s, ?_, ?_, G, rfl⟩
    · unfold f_X11_map
      rw [span_e, hs, b1_some, if_pos rfl]
    · unfold f_X12_map
      rw [hs, b1_some, if_pos rfl]
  by_cases c : 1 ≤ a1.toInt ∧ a1.toInt ≤ 60
  · have e5 := G.2.1.2.1
    have hf : 0 ≤ (zS s 0 5).toInt ∧ (zS s 0 5).toInt ≤ 8 := G.1.f (q := 0) (k := 5) rfl
    by_cases b : (zS s 0 5).toInt < 8
    · obtain ⟨n, en⟩ : ∃ n, n = (zS s 0 5).toInt.toNat := ⟨_, rfl⟩
      have ew : zS (pR (pMap s (a0 / 100) (a0 % 100) a1) 23 n (some (zL s))) 0 5 = zS s 0 5 := by
        have h1 := G.1.1.1.1
        show (if 0 = zL s then mapF (a0 / 100) (a0 % 100) a1 5 else zS s 0 5) = _
        rw [if_neg (by omega)]
      have I1 : Iv (nmX s (a0 / 100) (a0 % 100) a1 n (zS s 0 5 + 1)) := by
        have := G.1.mapF (c := a0 / 100) (w := a0 % 100) (y := a1) (i := n) ⟨hf.1, b⟩
        rw [ew] at this
        exact this
      have f30 : zS (nmX s (a0 / 100) (a0 % 100) a1 n (zS s 0 5 + 1)) 59 30 = zS s 0 5 := by
        rw [nmX_S G.1 rfl (by decide)]
        exact e5.symm
      have n1 : (zS s 0 5 + 1).toInt = (zS s 0 5).toInt + 1 := by rw [i32_add (by rw [jl1]; omega) (by rw [jl1]; omega), jl1]
      refine ⟨zS s 0 5, nmX s (a0 / 100) (a0 % 100) a1 n (zS s 0 5 + 1), zS (nmX s (a0 / 100) (a0 % 100) a1 n (zS s 0 5 + 1)) 59 30, pS (pI (pI (pI (nmX s (a0 / 100) (a0 % 100) a1 n (zS s 0 5 + 1)) 81 n (a0 / 100)) 82 n (a0 % 100)) 83 n a1) 59 30 (zS (nmX s (a0 / 100) (a0 % 100) a1 n (zS s 0 5 + 1)) 59 30 + 1), ?_, ?_, ⟨?_, ?_⟩, f30.symm⟩
      · unfold f_X11_map
        rw [span_e, hs, b1_some, if_neg (by decide), yard_t c, b1_some, if_neg (by decide), if_pos (by rw [jlt, jl8]; exact b)]
        dsimp only [vl, st]
        rw [gd_t ⟨by omega, by omega⟩, ← en, ew]
        show some (zS s 0 5 + 1 - 1, _) = _
        rw [s11]
        rfl
      · exact mapM hs c (fun z => by rw [f30] at z; rw [z, jl8] at b; omega) (by rw [f30]; omega) (by rw [f30]; exact en)
      · rw [f30]
        exact (((I1.wI (q := 81) (by decide) trivial).wI (q := 82) (by decide) trivial).wI (q := 83) (by decide) trivial).wF (q := 59) (k := 30) (by decide) (by decide) ⟨by omega, by omega⟩
      · rw [f30]
        refine RG.cnt G.2 (fun q k h h1 h2 h3 h4 h5 h6 => ?_) rfl ?_ ?_ (fun q j h => ?_) (fun _ _ _ => rfl) (fun j => nmX_R (c := a0 / 100) (w := a0 % 100) (y := a1) (i := n) (v := zS s 0 5 + 1) j)
        · rw [zS_pS, if_neg h2, zS_pI, zS_pI, zS_pI, nmX_S G.1 h h1]
        · rw [zS_pS, if_neg (by decide), zS_pS, if_neg (by decide), zS_pI, zS_pI, zS_pI, zS_pI, zS_pI, zS_pI, nmX_S G.1 rfl (by decide), nmX_S G.1 rfl (by decide)]
          exact G.2.1.2.2.2.2.1
        · rw [zS_pS, if_neg (by decide), zS_pS, if_neg (by decide), zS_pI, zS_pI, zS_pI, zS_pI, zS_pI, zS_pI, nmX_S G.1 rfl (by decide), nmX_S G.1 rfl (by decide)]
          exact G.2.1.2.2.2.2.2
        · rw [zI_pS, zIf h (by decide), zIf h (by decide), zIf h (by decide), nmX_I G.1 (fI_lt h)]
    · refine ⟨-3, s, -3, s, ?_, ?_, G, rfl⟩
      · unfold f_X11_map
        rw [span_e, hs, b1_some, if_neg (by decide), yard_t c, b1_some, if_neg (by decide), if_neg (by rw [jlt, jl8]; exact b)]
      · unfold f_X12_map
        rw [hs, b1_some, if_neg (by decide), in_t (by rw [jl1, jl60]; omega), b1_some, if_neg (by decide), if_pos (by rw [← e5]; exact Int32.toInt_inj.1 (by rw [jl8]; omega))]
  · refine ⟨-1, s, -1, s, ?_, ?_, G, rfl⟩
    · unfold f_X11_map
      rw [span_e, hs, b1_some, if_neg (by decide), yard_f c, b1_some, if_pos rfl]
    · unfold f_X12_map
      rw [hs, b1_some, if_neg (by decide), in_f (by rw [jl1, jl60]; omega), b1_some, if_pos rfl]
/-! NEEDS, AIMS -/
theorem needM {t : SS} {a0 a1 : Int32} {n : Nat} (ha : ¬ a0 < 0) (c : 1 ≤ (a0 / 100).toInt ∧ (a0 / 100).toInt ≤ 9) (c2 : ¬ a0 % 100 = 0) (b : 0 ≤ a1.toInt ∧ a1.toInt ≤ 99) (h2 : ¬ zS t 59 67 = 10) (h3 : 0 ≤ (zS t 59 67).toInt ∧ (zS t 59 67).toInt < 10) (en : n = (zS t 59 67).toInt.toNat) : f_X12_need t a0 a1 = some (zS t 59 67 + 1, pS (pI (pI (pI t 106 n (a0 / 100)) 107 n (a0 % 100)) 108 n a1) 59 67 (zS t 59 67 + 1)) := by
  have gn : inB (zS t 59 67) 10 := ⟨by omega, by omega⟩
  unfold f_X12_need
  rw [if_neg ha, in_t (by rw [jl1, jl9]; omega), b1_some, if_neg (by decide), if_neg c2, in_t (by rw [jl0, jl99]; omega), b1_some, if_neg (by decide), if_neg h2]
  dsimp only [st, vl]
  rw [gd_t gn, gd_t (show inB (zS (pI t 106 (zS t 59 67).toInt.toNat (a0 / 100)) 59 67) 10 from gn), gd_t (show inB (zS (pI (pI t 106 (zS t 59 67).toInt.toNat (a0 / 100)) 107 (zS (pI t 106 (zS t 59 67).toInt.toNat (a0 / 100)) 59 67).toInt.toNat (a0 % 100)) 59 67) 10 from gn)]
  rw [en]
  rfl
theorem needX {s : SS} {x y z : Int32} {n : Nat} (h3 : 0 ≤ (zS s 34 3).toInt ∧ (zS s 34 3).toInt < 10) (en : n = (zS s 34 3).toInt.toNat) : f_X6_needTold s x y z = some (zS s 34 3 + 1, pS (pI (pI (pI s 35 n x) 36 n y) 37 n z) 34 3 (zS s 34 3 + 1)) := by
  have gn : inB (zS s 34 3) 10 := ⟨by omega, by omega⟩
  unfold f_X6_needTold
  rw [if_pos (by rw [jlt, jl10]; omega)]
  dsimp only [st, vl]
  rw [gd_t gn, gd_t (show inB (zS (pI s 35 (zS s 34 3).toInt.toNat x) 34 3) 10 from gn), gd_t (show inB (zS (pI (pI s 35 (zS s 34 3).toInt.toNat x) 36 (zS (pI s 35 (zS s 34 3).toInt.toNat x) 34 3).toInt.toNat y) 34 3) 10 from gn)]
  rw [en]
  rfl
theorem st_need {s : SS} (G : GI s) (a0 : Int32) (a1 : Int32) : ∃ (rx : Int32) (s1 : SS) (rm : Int32) (s2 : SS), f_X11_need s a0 a1 = some (rx, s1) ∧ f_X12_need s1 a0 a1 = some (rm, s2) ∧ GI s2 ∧ rx = rm := by
  have e := G.2.1.2.2.2.2.1
  have hf : 0 ≤ (zS s 34 3).toInt ∧ (zS s 34 3).toInt ≤ 10 := G.1.f (q := 34) (k := 3) rfl
  by_cases c : 100 ≤ a0.toInt ∧ a0.toInt ≤ 999
  · have hp : 0 ≤ a0.toInt := by omega
    have ed : (a0 / 100).toInt = a0.toInt / 100 := by rw [jd100, if_pos hp]
    have em : (a0 % 100).toInt = a0.toInt % 100 := by rw [jm100, if_pos hp]
    have n0 : ¬ a0 < 0 := by rw [jlt, jl0]; omega
    have nx : ¬ a0 < 100 ∧ ¬ 999 < a0 := ⟨by rw [jlt, jl100]; omega, by rw [jlt, jl999]; omega⟩
    have cd : 1 ≤ (a0 / 100).toInt ∧ (a0 / 100).toInt ≤ 9 := by omega
    by_cases c2 : a0 % 100 = 0
    · refine ⟨-1, s, -1, s, ?_, ?_, G, rfl⟩
      · unfold f_X11_need
        rw [if_neg nx.1, if_neg nx.2, if_pos c2]
      · unfold f_X12_need
        rw [if_neg n0, in_t (by rw [jl1, jl9]; omega), b1_some, if_neg (by decide), if_pos c2]
    by_cases b : 0 ≤ a1.toInt ∧ a1.toInt ≤ 99
    · have bx : ¬ a1 < 0 ∧ ¬ 99 < a1 := ⟨by rw [jlt, jl0]; omega, by rw [jlt, jl99]; omega⟩
      by_cases d : (zS s 34 3).toInt < 10
      · have n1 : (zS s 34 3 + 1).toInt = (zS s 34 3).toInt + 1 := by rw [i32_add (by rw [jl1]; omega) (by rw [jl1]; omega), jl1]
        obtain ⟨n, en⟩ : ∃ n, n = (zS s 34 3).toInt.toNat := ⟨_, rfl⟩
        have f67 : zS (pS (pI (pI (pI s 35 n (a0 / 100)) 36 n (a0 % 100)) 37 n a1) 34 3 (zS s 34 3 + 1)) 59 67 = zS s 34 3 := e.symm
        refine ⟨zS s 34 3 + 1, pS (pI (pI (pI s 35 n (a0 / 100)) 36 n (a0 % 100)) 37 n a1) 34 3 (zS s 34 3 + 1), _, _, ?_, needM (n := n) n0 cd c2 b (fun z => by rw [f67] at z; rw [z, jl10] at d; omega) (by rw [f67]; omega) (by rw [f67]; exact en), ⟨?_, ?_⟩, ?_⟩
        · unfold f_X11_need
          rw [if_neg nx.1, if_neg nx.2, if_neg c2, if_neg bx.1, if_neg bx.2, needX ⟨hf.1, d⟩ en]
          rfl
        · rw [f67]
          exact (((((((G.1.wI (q := 35) (by decide) trivial).wI (q := 36) (by decide) trivial).wI (q := 37) (by decide) trivial).wF (q := 34) (k := 3) (by decide) (by decide) ⟨by omega, by omega⟩).wI (q := 106) (by decide) ⟨by omega, by omega⟩).wI (q := 107) (by decide) ⟨by omega, by omega⟩).wI (q := 108) (by decide) ⟨by omega, by omega⟩).wF (q := 59) (k := 67) (by decide) (by decide) ⟨by omega, by omega⟩
        · rw [f67]
          refine RG.cnt G.2 (fun q k h h1 h2 h3 h4 h5 h6 => ?_) G.2.1.2.1 rfl G.2.1.2.2.2.2.2 (fun q j h => ?_) (fun _ _ _ => rfl) (fun _ => rfl)
          · rw [zS_pS, if_neg h4, zS_pI, zS_pI, zS_pI, zS_pS, if_neg h3, zS_pI, zS_pI, zS_pI]
          · rw [zI_pS, zIf h (by decide), zIf h (by decide), zIf h (by decide), zI_pS, zIf h (by decide), zIf h (by decide), zIf h (by decide)]
        · rw [f67]
      · refine ⟨-3, s, -3, s, ?_, ?_, G, rfl⟩
        · unfold f_X11_need f_X6_needTold
          rw [if_neg nx.1, if_neg nx.2, if_neg c2, if_neg bx.1, if_neg bx.2, if_neg (by rw [jlt, jl10]; exact d)]
          rfl
        · unfold f_X12_need
          rw [if_neg n0, in_t (by rw [jl1, jl9]; omega), b1_some, if_neg (by decide), if_neg c2, in_t (by rw [jl0, jl99]; omega), b1_some, if_neg (by decide), if_pos (by rw [← e]; exact Int32.toInt_inj.1 (by rw [jl10]; omega))]
    · refine ⟨-1, s, -1, s, ?_, ?_, G, rfl⟩
      · unfold f_X11_need
        rw [if_neg nx.1, if_neg nx.2, if_neg c2]
        by_cases h : a1 < 0
        · rw [if_pos h]
        · rw [if_neg h, if_pos (by rw [jlt, jl99]; rw [jlt, jl0] at h; omega)]
      · unfold f_X12_need
        rw [if_neg n0, in_t (by rw [jl1, jl9]; omega), b1_some, if_neg (by decide), if_neg c2, in_f (by rw [jl0, jl99]; omega), b1_some, if_pos rfl]
  · refine ⟨-1, s, -1, s, ?_, ?_, G, rfl⟩
    · unfold f_X11_need
      by_cases h : a0 < 100
      · rw [if_pos h]
      · rw [if_neg h, if_pos (by rw [jlt, jl999]; rw [jlt, jl100] at h; omega)]
    · unfold f_X12_need
      by_cases h : a0 < 0
      · rw [if_pos h]
      · have hp : 0 ≤ a0.toInt := by rw [jlt, jl0] at h; omega
        have ed : (a0 / 100).toInt = a0.toInt / 100 := by rw [jd100, if_pos hp]
        rw [if_neg h, in_f (by rw [jl1, jl9]; omega), b1_some, if_pos rfl]
theorem aimM {t : SS} {a0 a1 : Int32} {n : Nat} (c : 0 ≤ a0.toInt ∧ a0.toInt ≤ 31) (b : 0 ≤ a1.toInt ∧ a1.toInt ≤ 9) (h2 : ¬ zS t 59 76 = 6) (h3 : 0 ≤ (zS t 59 76).toInt ∧ (zS t 59 76).toInt < 6) (en : n = (zS t 59 76).toInt.toNat) : f_X12_aim t a0 a1 = some (zS t 59 76 + 1, pS (pI t 112 n a1) 59 76 (zS t 59 76 + 1)) := by
  have gn : inB (zS t 59 76) 6 := ⟨by omega, by omega⟩
  unfold f_X12_aim
  rw [in_t (by rw [jl0, jl31]; omega), b1_some, if_neg (by decide), in_t (by rw [jl0, jl9]; omega), b1_some, if_neg (by decide), if_neg h2]
  dsimp only [st, vl]
  rw [gd_t gn, en]
  rfl
theorem st_aim {s : SS} (G : GI s) (a0 : Int32) (a1 : Int32) : ∃ (rx : Int32) (s1 : SS) (rm : Int32) (s2 : SS), f_X11_aim s a0 a1 = some (rx, s1) ∧ f_X12_aim s1 a0 a1 = some (rm, s2) ∧ GI s2 ∧ rx = rm := by
  have e := G.2.1.2.2.2.2.2
  have hf : 0 ≤ (zS s 34 9).toInt ∧ (zS s 34 9).toInt ≤ 6 := G.1.f (q := 34) (k := 9) rfl
  by_cases c : 0 ≤ a0.toInt ∧ a0.toInt ≤ 31
  · have cx : ¬ a0 < 0 ∧ a0 < 32 := ⟨by rw [jlt, jl0]; omega, by rw [jlt, jl32]; omega⟩
    by_cases b : 0 ≤ a1.toInt ∧ a1.toInt ≤ 9
    · have bx : ¬ a1 < 0 ∧ ¬ 9 < a1 := ⟨by rw [jlt, jl0]; omega, by rw [jlt, jl9]; omega⟩
      by_cases d : (zS s 34 9).toInt < 6
      · have n1 : (zS s 34 9 + 1).toInt = (zS s 34 9).toInt + 1 := by rw [i32_add (by rw [jl1]; omega) (by rw [jl1]; omega), jl1]
        obtain ⟨n, en⟩ : ∃ n, n = (zS s 34 9).toInt.toNat := ⟨_, rfl⟩
        have f76 : zS (pS (pI s 41 n a1) 34 9 (zS s 34 9 + 1)) 59 76 = zS s 34 9 := e.symm
        refine ⟨zS s 34 9 + 1, pS (pI s 41 n a1) 34 9 (zS s 34 9 + 1), _, _, ?_, aimM (n := n) c b (fun z => by rw [f76] at z; rw [z, jl6] at d; omega) (by rw [f76]; omega) (by rw [f76]; exact en), ⟨?_, ?_⟩, ?_⟩
        · unfold f_X11_aim f_X6_aimTold
          rw [if_neg cx.1, if_pos cx.2, if_neg bx.1, if_neg bx.2, if_pos (by rw [jlt, jl6]; exact d)]
          dsimp only [st, vl]
          rw [gd_t ⟨by omega, by omega⟩, en]
          rfl
        · rw [f76]
          exact (((G.1.wI (q := 41) (by decide) trivial).wF (q := 34) (k := 9) (by decide) (by decide) ⟨by omega, by omega⟩).wI (q := 112) (by decide) trivial).wF (q := 59) (k := 76) (by decide) (by decide) ⟨by omega, by omega⟩
        · rw [f76]
          refine RG.cnt G.2 (fun q k h h1 h2 h3 h4 h5 h6 => ?_) G.2.1.2.1 G.2.1.2.2.2.2.1 rfl (fun q j h => ?_) (fun _ _ _ => rfl) (fun _ => rfl)
          · rw [zS_pS, if_neg h6, zS_pI, zS_pS, if_neg h5, zS_pI]
          · rw [zI_pS, zIf h (by decide), zI_pS, zIf h (by decide)]
        · rw [f76]
      · refine ⟨-3, s, -3, s, ?_, ?_, G, rfl⟩
        · unfold f_X11_aim f_X6_aimTold
          rw [if_neg cx.1, if_pos cx.2, if_neg bx.1, if_neg bx.2, if_neg (by rw [jlt, jl6]; exact d)]
          rfl
        · unfold f_X12_aim
          rw [in_t (by rw [jl0, jl31]; omega), b1_some, if_neg (by decide), in_t (by rw [jl0, jl9]; omega), b1_some, if_neg (by decide), if_pos (by rw [← e]; exact Int32.toInt_inj.1 (by rw [jl6]; omega))]
    · refine ⟨-1, s, -1, s, ?_, ?_, G, rfl⟩
      · unfold f_X11_aim
        rw [if_neg cx.1, if_pos cx.2]
        by_cases h : a1 < 0
        · rw [if_pos h]
        · rw [if_neg h, if_pos (by rw [jlt, jl9]; rw [jlt, jl0] at h; omega)]
      · unfold f_X12_aim
        rw [in_t (by rw [jl0, jl31]; omega), b1_some, if_neg (by decide), in_f (by rw [jl0, jl9]; omega), b1_some, if_pos rfl]
  · refine ⟨-1, s, -1, s, ?_, ?_, G, rfl⟩
    · unfold f_X11_aim
      by_cases h : a0 < 0
      · rw [if_pos h]
      · rw [if_neg h, if_neg (by rw [jlt, jl32]; rw [jlt, jl0] at h; omega)]
    · unfold f_X12_aim
      rw [in_f (by rw [jl0, jl31]; omega), b1_some, if_pos rfl]
/-! ORDER, AIMED: the counters go back -/
theorem st_order {s : SS} (G : GI s) : ∃ (rx : Int32) (s1 : SS) (rm : Int32) (s2 : SS), f_X11_order s = some (rx, s1) ∧ f_X12_order s1 = some (rm, s2) ∧ GI s2 ∧ True := by
  have e := G.2.1.2.2.2.2.1
  by_cases c : zS s 34 3 = 0
  · refine ⟨-1, s, -1, s, ?_, ?_, G, trivial⟩
    · unfold f_X11_order
      rw [if_pos c]
    · unfold f_X12_order
      rw [if_pos (by rw [← e]; exact c)]
  obtain ⟨⟨rx, s1⟩, ex, t, K1, e1⟩ := w_X6_leastLateness (Lk.rf G.1)
  have e1' : s1 = pS t 34 3 0 := e1
  have I1 : Iv s1 := by
    rw [e1']
    exact K1.1.wF (q := 34) (k := 3) (by decide) (by decide) ⟨by decide, by decide⟩
  have F1 := K1.2.2
  have f67 : zS s1 59 67 = zS s 34 3 := by
    rw [e1', zS_pS, if_neg (by decide), F1.1 59 67 rfl]
    exact e.symm
  obtain ⟨⟨rm, s2⟩, em, t2, K2, e2⟩ := w_X12_order (Lk.rf I1) (by rw [f67]; exact c)
  have e2' : s2 = pS t2 59 67 0 := e2
  have F2 := K2.2.2
  refine ⟨rx, s1, rm, s2, ?_, em, ⟨?_, ?_⟩, trivial⟩
  · unfold f_X11_order
    rw [if_neg c, ex]
    rfl
  · rw [e2']
    exact K2.1.wF (q := 59) (k := 67) (by decide) (by decide) ⟨by decide, by decide⟩
  · have h : ∀ q k, fS q k = true → ¬ (q = 34 ∧ k = 3) → ¬ (q = 59 ∧ k = 67) → zS s2 q k = zS s q k := fun q k h h3 h4 => by rw [e2', zS_pS, if_neg h4, F2.1 q k h, e1', zS_pS, if_neg h3, F1.1 q k h]
    refine RG.cnt G.2 (fun q k h0 h1 h2 h3 h4 h5 h6 => h q k h0 h3 h4) ?_ ?_ ?_ (fun q j h0 => ?_) (fun q j h0 => ?_) (fun j => ?_)
    · rw [h 0 5 rfl (by decide) (by decide), h 59 30 rfl (by decide) (by decide)]
      exact G.2.1.2.1
    · rw [e2', zS_pS, if_neg (by decide), zS_pS, if_pos ⟨rfl, rfl⟩, F2.1 34 3 rfl, e1', zS_pS, if_pos ⟨rfl, rfl⟩]
    · rw [h 34 9 rfl (by decide) (by decide), h 59 76 rfl (by decide) (by decide)]
      exact G.2.1.2.2.2.2.2
    · rw [e2', zI_pS, F2.2.1 q j h0, e1', zI_pS, F1.2.1 q j h0]
    · rw [e2']
      show zJ t2 q j = _
      rw [F2.2.2 q j h0, e1']
      exact F1.2.2 q j h0
    · rw [e2']
      show zR t2 17 j = _
      rw [K2.zR_, e1']
      exact K1.zR_ 17 j
def AQ (s : SS) (a0 a1 a2 c : Int32) : Prop := (1 ≤ a0.toInt ∧ a0.toInt ≤ 4) ∧ (1 ≤ a1.toInt ∧ a1.toInt ≤ 60) ∧ (1 ≤ a2.toInt ∧ a2.toInt ≤ 2) ∧ ¬ c = 0 ∧ ¬ (a2 = 2 ∧ c < 2)
theorem aimedX {b0 s : SS} {a0 a1 a2 : Int32} (K : Lk b0 s) (h : AQ s a0 a1 a2 (zS s 34 9)) : Ok (f_X11_aimed s a0 a1 a2) (fun r => Zo b0 34 9 r.2) := by
  obtain ⟨h1, h2, h3, h4, h5⟩ := h
  unfold f_X11_aimed
  rw [if_neg (by rw [jlt, jl1]; omega), if_neg (by rw [jlt, jl4]; omega), yard_t h2, b1_some, if_neg (by decide), if_neg (by rw [jlt, jl1]; omega), if_neg (by rw [jlt, jl2]; omega), if_neg h4]
  have k8 : Ok (b1 (f_X6_weighPlaces s a0 a1) fun s10 => (jn (fun (s11 : SS) (t11_0 : Int32) => (st (pS s11 34 9 0) fun s12 => some (t11_0, s12))) fun k11 => (if a2 = (1 : Int32) then (bd (f_X6_soonestOne s10) fun r15 s15 => (k11 s15 r15)) else (bd (f_X6_soonestTwo s10) fun r14 s14 => (k11 s14 r14))))) (fun r => Zo b0 34 9 r.2) := by
    with_reducible refine Ok_b1 ((w_X6_weighPlaces K).mono (fun s10 K10 => ?_))
    with_reducible refine Ok_jn ?_
    with_reducible refine Ok_if (fun _ => ?_) (fun _ => ?_)
    · with_reducible refine Ok_bd ((w_X6_soonestOne K10).mono (fun r K => ?_))
      with_reducible refine Ok_st ?_
      exact Ok_some (Zo.mk K)
    · with_reducible refine Ok_bd ((w_X6_soonestTwo K10).mono (fun r K => ?_))
      with_reducible refine Ok_st ?_
      exact Ok_some (Zo.mk K)
  dsimp only [jn] at k8 ⊢
  by_cases c : a2 = 2
  · rw [if_pos c, if_neg (fun z => h5 ⟨c, z⟩)]
    exact k8
  · rw [if_neg c]
    exact k8
theorem aimedM {b0 s : SS} {a0 a1 a2 : Int32} (K : Lk b0 s) (h : AQ s a0 a1 a2 (zS s 59 76)) : Ok (f_X12_aimed s a0 a1 a2) (fun r => Zo b0 59 76 r.2) := by
  obtain ⟨h1, h2, h3, h4, h5⟩ := h
  unfold f_X12_aimed
  rw [in_t (by rw [jl1, jl4]; omega), b1_some, if_neg (by decide), in_t (by rw [jl1, jl60]; omega), b1_some, if_neg (by decide), in_t (by rw [jl1, jl2]; omega), b1_some, if_neg (by decide), if_neg h4]
  have k8 : Ok (f_X12_aimed_L61 (fun (s41 : SS) (x41_4 : Int32) => (st (pS s41 59 79 a2) fun s42 => (st (pS s42 59 76 0) fun s43 => some (x41_4, s43)))) a0 a1 a2 4000 s 2147483647 0) (fun r => Zo b0 59 76 r.2) := by
    refine w_X12_aimed_L61 (b0 := b0) h1 (fun s41 z0 K41 => ?_) 4000 s _ _ K (by decide) (by decide)
    with_reducible refine Ok_st ?_
    with_reducible refine Ok_st ?_
    exact Ok_some (Zo.mk (K41.wF (q := 59) (k := 79) (by decide) (by decide) (by decide) ⟨by omega, by omega⟩))
  dsimp only [jn]
  by_cases c : a2 = 2
  · rw [if_pos c, if_neg (fun z => h5 ⟨c, z⟩)]
    exact k8
  · rw [if_neg c]
    exact k8
theorem aimedNX {s : SS} {a0 a1 a2 : Int32} (h : ¬ AQ s a0 a1 a2 (zS s 34 9)) : ∃ v, f_X11_aimed s a0 a1 a2 = some (v, s) := by
  unfold f_X11_aimed
  by_cases c1 : a0 < 1
  · exact ⟨_, by rw [if_pos c1]⟩
  by_cases c2 : 4 < a0
  · exact ⟨_, by rw [if_neg c1, if_pos c2]⟩
  rw [if_neg c1, if_neg c2]
  rw [jlt, jl1] at c1
  rw [jlt, jl4] at c2
  by_cases c3 : 1 ≤ a1.toInt ∧ a1.toInt ≤ 60
  · rw [yard_t c3, b1_some, if_neg (by decide)]
    by_cases c4 : a2 < 1
    · exact ⟨_, by rw [if_pos c4]⟩
    by_cases c5 : 2 < a2
    · exact ⟨_, by rw [if_neg c4, if_pos c5]⟩
    rw [if_neg c4, if_neg c5]
    rw [jlt, jl1] at c4
    rw [jlt, jl2] at c5
    by_cases c6 : zS s 34 9 = 0
    · exact ⟨_, by rw [if_pos c6]⟩
    rw [if_neg c6]
    dsimp only [jn]
    by_cases c7 : a2 = 2 ∧ zS s 34 9 < 2
    · exact ⟨_, by rw [if_pos c7.1, if_pos c7.2]⟩
    · exact absurd ⟨⟨by omega, by omega⟩, c3, ⟨by omega, by omega⟩, c6, c7⟩ h
  · exact ⟨_, by rw [yard_f c3, b1_some, if_pos rfl]⟩
theorem aimedNM {s : SS} {a0 a1 a2 : Int32} (h : ¬ AQ s a0 a1 a2 (zS s 59 76)) : ∃ v, f_X12_aimed s a0 a1 a2 = some (v, s) := by
  unfold f_X12_aimed
  by_cases c1 : 1 ≤ a0.toInt ∧ a0.toInt ≤ 4
  · rw [in_t (by rw [jl1, jl4]; omega), b1_some, if_neg (by decide)]
    by_cases c3 : 1 ≤ a1.toInt ∧ a1.toInt ≤ 60
    · rw [in_t (by rw [jl1, jl60]; omega), b1_some, if_neg (by decide)]
      by_cases c4 : 1 ≤ a2.toInt ∧ a2.toInt ≤ 2
      · rw [in_t (by rw [jl1, jl2]; omega), b1_some, if_neg (by decide)]
        by_cases c6 : zS s 59 76 = 0
        · exact ⟨_, by rw [if_pos c6]⟩
        rw [if_neg c6]
        dsimp only [jn]
        by_cases c7 : a2 = 2 ∧ zS s 59 76 < 2
        · exact ⟨_, by rw [if_pos c7.1, if_pos c7.2]⟩
        · exact absurd ⟨c1, c3, c4, c6, c7⟩ h
      · exact ⟨_, by rw [in_f (by rw [jl1, jl2]; omega), b1_some, if_pos rfl]⟩
    · exact ⟨_, by rw [in_f (by rw [jl1, jl60]; omega), b1_some, if_pos rfl]⟩
  · exact ⟨_, by rw [in_f (by rw [jl1, jl4]; omega), b1_some, if_pos rfl]⟩
theorem st_aimed {s : SS} (G : GI s) (a0 : Int32) (a1 : Int32) (a2 : Int32) : ∃ (rx : Int32) (s1 : SS) (rm : Int32) (s2 : SS), f_X11_aimed s a0 a1 a2 = some (rx, s1) ∧ f_X12_aimed s1 a0 a1 a2 = some (rm, s2) ∧ GI s2 ∧ True := by
  have e := G.2.1.2.2.2.2.2
  by_cases c : AQ s a0 a1 a2 (zS s 34 9)
  · obtain ⟨⟨rx, s1⟩, ex, t, K1, e1⟩ := aimedX (Lk.rf G.1) c
    have e1' : s1 = pS t 34 9 0 := e1
    have I1 : Iv s1 := by
      rw [e1']
      exact K1.1.wF (q := 34) (k := 9) (by decide) (by decide) ⟨by decide, by decide⟩
    have F1 := K1.2.2
    have f76 : zS s1 59 76 = zS s 34 9 := by
      rw [e1', zS_pS, if_neg (by decide), F1.1 59 76 rfl]
      exact e.symm
    obtain ⟨⟨rm, s2⟩, em, t2, K2, e2⟩ := aimedM (Lk.rf I1) (a0 := a0) (a1 := a1) (a2 := a2) (by rw [f76]; exact c)
    have e2' : s2 = pS t2 59 76 0 := e2
    have F2 := K2.2.2
    refine ⟨rx, s1, rm, s2, ex, em, ⟨?_, ?_⟩, trivial⟩
    · rw [e2']
      exact K2.1.wF (q := 59) (k := 76) (by decide) (by decide) ⟨by decide, by decide⟩
    · have h : ∀ q k, fS q k = true → ¬ (q = 34 ∧ k = 9) → ¬ (q = 59 ∧ k = 76) → zS s2 q k = zS s q k := fun q k h h3 h4 => by rw [e2', zS_pS, if_neg h4, F2.1 q k h, e1', zS_pS, if_neg h3, F1.1 q k h]
      refine RG.cnt G.2 (fun q k h0 h1 h2 h3 h4 h5 h6 => h q k h0 h5 h6) ?_ ?_ ?_ (fun q j h0 => ?_) (fun q j h0 => ?_) (fun j => ?_)
      · rw [h 0 5 rfl (by decide) (by decide), h 59 30 rfl (by decide) (by decide)]
        exact G.2.1.2.1
      · rw [h 34 3 rfl (by decide) (by decide), h 59 67 rfl (by decide) (by decide)]
        exact G.2.1.2.2.2.2.1
      · rw [e2', zS_pS, if_neg (by decide), zS_pS, if_pos ⟨rfl, rfl⟩, F2.1 34 9 rfl, e1', zS_pS, if_pos ⟨rfl, rfl⟩]
      · rw [e2', zI_pS, F2.2.1 q j h0, e1', zI_pS, F1.2.1 q j h0]
      · rw [e2']
        show zJ t2 q j = _
        rw [F2.2.2 q j h0, e1']
        exact F1.2.2 q j h0
      · rw [e2']
        show zR t2 17 j = _
        rw [K2.zR_, e1']
        exact K1.zR_ 17 j
  · obtain ⟨v, ex⟩ := aimedNX c
    obtain ⟨w, em⟩ := aimedNM (s := s) (a0 := a0) (a1 := a1) (a2 := a2) (by rw [← e]; exact c)
    exact ⟨v, s, w, s, ex, em, G, trivial⟩
/-! SHELVES -/
theorem RG.sh {s r : SS} {i0 : Nat} (R : RG s) (hS : ∀ q k, fS q k = true → q ≠ 47 + 2 * i0 → zS r q k = zS s q k) (hI : ∀ q j, fI q = true → q ≠ 120 → q ≠ 121 → q ≠ 123 → zI r q j = zI s q j) (h120 : ∀ i, i ≠ i0 → zI r 120 i = zI s 120 i) (h121 : ∀ i, i ≠ i0 → zI r 121 i = zI s 121 i) (h123 : ∀ i j, i ≠ i0 → j < 60 → zI r 123 (60 * i + j) = zI s 123 (60 * i + j)) (hJ : ∀ i j, i ≠ i0 → i < 6 → zJ r (48 + 2 * i) j = zJ s (48 + 2 * i) j) (h122 : ∀ i j, i ≠ i0 → j < 60 → zJ r 122 (60 * i + j) = zJ s 122 (60 * i + j)) (hR : ∀ j, zR r 17 j = zR s 17 j) (hi0 : i0 < 6) (hN : SR r i0) : RG r := by
  obtain ⟨R1, R2, R3, R4, R5⟩ := R
  have e3 : zS r 15 3 = zS s 15 3 := hS 15 3 rfl (by omega)
  refine ⟨?_, ?_, ?_, ?_, ?_⟩
  · unfold RC
    rw [hS 0 15 rfl (by omega), hS 0 5 rfl (by omega), e3, hS 15 5 rfl (by omega), hS 34 3 rfl (by omega), hS 34 9 rfl (by omega), hS 59 29 rfl (by omega), hS 59 30 rfl (by omega), hS 59 4 rfl (by omega), hS 59 21 rfl (by omega), hS 59 67 rfl (by omega), hS 59 76 rfl (by omega)]
    exact R1
  · exact R2.c (fun q i h => hI q i (by rcases h with rfl | rfl | rfl | rfl | rfl | rfl <;> rfl) (by omega) (by omega) (by omega))
  · refine R3.c (fun i k hi hk => hS _ _ ?_ (by omega)) (fun i => hI 78 i rfl (by decide) (by decide) (by decide)) (fun i => hI 79 i rfl (by decide) (by decide) (by decide))
    have h : i = 0 ∨ i = 1 ∨ i = 2 := by omega
    have h' : k = 0 ∨ k = 1 := by omega
    rcases h with rfl | rfl | rfl <;> rcases h' with rfl | rfl <;> rfl
  · exact R4.c e3 (fun i => hI 16 i rfl (by decide) (by decide) (by decide)) hR
  · intro i hi
    by_cases c : i = i0
    · rw [c]; exact hN
    · have h : i = 0 ∨ i = 1 ∨ i = 2 ∨ i = 3 ∨ i = 4 ∨ i = 5 := by omega
      refine (R5 i hi).c (fun k hk => hS _ _ ?_ (by omega)) (h120 i c) (h121 i c) (fun j hj => h123 i j c hj) (fun j _ => hJ i j c hi) (fun j hj => h122 i j c hj) (by rw [e3]; exact Int.le_refl _)
      have h' : k = 0 ∨ k = 1 ∨ k = 2 ∨ k = 3 := by omega
      rcases h with rfl | rfl | rfl | rfl | rfl | rfl <;> rcases h' with rfl | rfl | rfl | rfl <;> rfl
theorem shelf_t {s : SS} {a : Int32} (I : Iv s) (h : 0 ≤ a.toInt ∧ a.toInt < 6) : f_X11_shelfOf s a = some (some (47 + 2 * a.toInt.toNat)) := by
  unfold f_X11_shelfOf
  rw [if_neg (by rw [jlt, jl0]; omega), if_pos (by rw [jlt, jl6]; omega), gd_t ⟨h.1, h.2⟩, I.1.1.2.2.2.2.2.2 _ (by omega)]
  rfl
theorem shelf_f {s : SS} {a : Int32} (h : ¬ (0 ≤ a.toInt ∧ a.toInt < 6)) : f_X11_shelfOf s a = some none := by
  unfold f_X11_shelfOf
  by_cases c : a < 0
  · rw [if_pos c]
  · rw [if_neg c, if_neg (by rw [jlt, jl6]; rw [jlt, jl0] at c; omega)]
theorem issh_t {a : Int32} (h : 0 ≤ a.toInt ∧ a.toInt < 6) : f_X12_isShelf a = some 1 := by
  unfold f_X12_isShelf
  rw [in_t (by rw [jl0, jl5]; omega)]
  rfl
theorem issh_f {a : Int32} (h : ¬ (0 ≤ a.toInt ∧ a.toInt < 6)) : f_X12_isShelf a = some 0 := by
  unfold f_X12_isShelf
  rw [in_f (by rw [jl0, jl5]; omega)]
  rfl
theorem okVi {i : Nat} (h : i < 6) : okV (47 + 2 * i) := ⟨by omega, by omega, by omega⟩
theorem fS_vk {q k i : Nat} (h : fS q k = true) (hq : q ≠ 47 + 2 * i) {s : SS} {v : Int32} {k' : Nat} : zS (pS s (47 + 2 * i) k' v) q k = zS s q k := by rw [zS_pS, if_neg (fun z => hq z.1)]
theorem keepM {t : SS} {a0 a1 : Int32} (I : Iv t) (c : 0 ≤ a0.toInt ∧ a0.toInt < 6) (h : a1 = -1 ∨ (0 ≤ a1.toInt ∧ a1.toInt < (zS t 59 4).toInt)) : f_X12_keep t a0 a1 = some (1, pI t 120 a0.toInt.toNat a1) := by
  unfold f_X12_keep
  rw [issh_t c, b1_some, if_neg (by decide)]
  dsimp only [jn, st]
  by_cases d : a1 = -1
  · rw [if_pos d, gd_t ⟨c.1, c.2⟩]
  · rw [if_neg d, body_t I (h.resolve_left d), b1_some, if_neg (by decide), gd_t ⟨c.1, c.2⟩]
theorem st_keep {s : SS} (G : GI s) (a0 : Int32) (a1 : Int32) : ∃ (rx : Int32) (s1 : SS) (rm : Int32) (s2 : SS), f_X11_keep s a0 a1 = some (rx, s1) ∧ f_X12_keep s1 a0 a1 = some (rm, s2) ∧ GI s2 ∧ rx = rm := by
  have e := G.2.1.2.2.1
  have hf : 0 ≤ (zS s 15 3).toInt ∧ (zS s 15 3).toInt ≤ 120 := G.1.f (q := 15) (k := 3) rfl
  by_cases c : 0 ≤ a0.toInt ∧ a0.toInt < 6
  · obtain ⟨i, ei⟩ : ∃ i, i = a0.toInt.toNat := ⟨_, rfl⟩
    have hi : i < 6 := by omega
    by_cases d : a1 = -1 ∨ (0 ≤ a1.toInt ∧ a1.toInt < (zS s 15 3).toInt)
    · obtain ⟨w, ew⟩ : ∃ w : Int32, w = if a1 = -1 then 0 else 1 := ⟨_, rfl⟩
      have I1 : Iv (pS (pS s (47 + 2 * i) 0 w) (47 + 2 * i) 1 a1) := (G.1.wV (okVi hi) (k := 0) trivial).wV (okVi hi) (k := 1) trivial
      have f4 : ∀ q k, q ≠ 47 + 2 * i → zS (pS (pS s (47 + 2 * i) 0 w) (47 + 2 * i) 1 a1) q k = zS s q k := fun q k h => by rw [zS_pS, if_neg (fun z => h z.1), zS_pS, if_neg (fun z => h z.1)]
      refine ⟨1, pS (pS s (47 + 2 * i) 0 w) (47 + 2 * i) 1 a1, 1, pI (pS (pS s (47 + 2 * i) 0 w) (47 + 2 * i) 1 a1) 120 i a1, ?_, ?_, ⟨?_, ?_⟩, rfl⟩
      · unfold f_X11_keep
        rw [shelf_t G.1 c, b1_some, on_some, ← ei]
        dsimp only [jn, st]
        by_cases h : a1 = -1
        · rw [if_pos h] at ew
          rw [if_pos h, if_pos h, ew]
        · rw [if_neg h] at ew
          have b := G.1.a (q := 16) (i := a1.toInt.toNat) rfl
          rw [if_neg h, kind_t G.1 (d.resolve_left h), b1_some, if_neg (by rw [jlt, jl0]; have := b.1; omega), if_neg h, ew]
      · have := keepM I1 c (a1 := a1) (by rw [f4 59 4 (by omega), ← e]; exact d)
        rw [ei] at this ⊢
        exact this
      · refine I1.wI (q := 120) (by decide) ?_
        rcases d with d | d
        · rw [d]; exact ⟨by decide, by decide⟩
        · exact ⟨by omega, by omega⟩
      · refine RG.sh (i0 := i) G.2 (fun q k _ h => ?_) (fun q j _ h _ _ => ?_) (fun j h => ?_) (fun _ _ => rfl) (fun _ _ _ _ => rfl) (fun _ _ _ _ => rfl) (fun _ _ _ _ => rfl) (fun _ => rfl) hi ?_
        · rw [zS_pI, f4 q k h]
        · rw [zI_pI, if_neg (fun z => h z.1)]; rfl
        · rw [zI_pI, if_neg (fun z => h z.2)]; rfl
        · have z0 : zS (pI (pS (pS s (47 + 2 * i) 0 w) (47 + 2 * i) 1 a1) 120 i a1) (47 + 2 * i) 0 = w := by rw [zS_pI, zS_pS, if_neg (fun z => absurd z.2 (by decide)), zS_pS, if_pos ⟨rfl, rfl⟩]
          have z1 : zS (pI (pS (pS s (47 + 2 * i) 0 w) (47 + 2 * i) 1 a1) 120 i a1) (47 + 2 * i) 1 = a1 := by rw [zS_pI, zS_pS, if_pos ⟨rfl, rfl⟩]
          have z2 : zI (pI (pS (pS s (47 + 2 * i) 0 w) (47 + 2 * i) 1 a1) 120 i a1) 120 i = a1 := by rw [zI_pI, if_pos ⟨rfl, rfl⟩]
          have z3 : zS (pI (pS (pS s (47 + 2 * i) 0 w) (47 + 2 * i) 1 a1) 120 i a1) 15 3 = zS s 15 3 := by rw [zS_pI, f4 15 3 (by omega)]
          unfold SR
          rw [z0, z1, z2, z3]
          by_cases h : a1 = -1
          · rw [if_pos h] at ew
            exact Or.inl ⟨ew, h⟩
          · rw [if_neg h] at ew
            have := d.resolve_left h
            exact Or.inr (Or.inl ⟨ew, rfl, this.1, this.2⟩)
    · have d1 : ¬ a1 = -1 := fun z => d (Or.inl z)
      refine ⟨-1, s, -1, s, ?_, ?_, G, rfl⟩
      · unfold f_X11_keep
        rw [shelf_t G.1 c, b1_some, on_some]
        dsimp only [jn, st]
        rw [if_neg d1, kind_f (fun z => d (Or.inr z)), b1_some, if_pos (by decide)]
      · unfold f_X12_keep
        rw [issh_t c, b1_some, if_neg (by decide)]
        dsimp only [jn, st]
        rw [if_neg d1, body_f G.1 (by rw [← e]; exact fun z => d (Or.inr z)), b1_some, if_pos rfl]
  · refine ⟨-1, s, -1, s, ?_, ?_, G, rfl⟩
    · unfold f_X11_keep
      rw [shelf_f c, b1_some, on_none]
    · unfold f_X12_keep
      rw [issh_f c, b1_some, if_pos rfl]
/-- the reference's row is made empty -/
theorem rowL {a : Int32} {i : Nat} (ha : a = nI i) (hi : i < 6) : ∀ (n : Nat) (t : SS) (j : Nat), j ≤ 60 → 60 - j < n → ∃ u, f_X12_row_L54 a n t (nI (60 * i + j)) = some (1, u) ∧ u.1 = t.1 ∧ u.2.2.2 = t.2.2.2 ∧ (∀ q b, zI u q b = if q = 123 ∧ 60 * i + j ≤ b ∧ b < 60 * i + 60 then 0 else zI t q b) ∧ (∀ q b, zJ u q b = if q = 122 ∧ 60 * i + j ≤ b ∧ b < 60 * i + 60 then 0 else zJ t q b) ∧ (Iv t → Iv u) := by
  intro n
  induction n with
  | zero => intro t j h1 h2; omega
  | succ n ih =>
    intro t j h1 h2
    have tj : (nI (60 * i + j)).toInt = ((60 * i + j : Nat) : Int) := nI_t (by omega)
    have e60 : ((60 : Int32) * a + 60).toInt = ((60 * i + 60 : Nat) : Int) := by
      have j60 : (60 : Int32).toInt = 60 := rfl
      have ti : a.toInt = (i : Int) := by rw [ha]; exact nI_t (by omega)
      have m1 : ((60 : Int32) * a).toInt = 60 * a.toInt := by rw [i32_mul (by rw [j60]; omega) (by rw [j60]; omega), j60]
      rw [i32_add (by rw [m1, j60]; omega) (by rw [m1, j60]; omega), m1, j60]
      omega
    have un : f_X12_row_L54 a (n + 1) t (nI (60 * i + j)) = f_X12_row_L54_b a (f_X12_row_L54 a n) t (nI (60 * i + j)) := rfl
    rw [un]
    unfold f_X12_row_L54_b
    by_cases c : j < 60
    · rw [if_pos (by rw [jlt, tj, e60]; omega), gd_t ⟨by omega, by omega⟩]
      dsimp only [st, vl]
      rw [gd_t ⟨by omega, by omega⟩]
      have k1 : nI (60 * i + j) + 1 = nI (60 * i + (j + 1)) := by
        apply Int32.toInt_inj.1
        rw [i32_add (by rw [tj, jl1]; omega) (by rw [tj, jl1]; omega), tj, jl1, nI_t (by omega)]
        omega
      rw [k1, show (nI (60 * i + j)).toInt.toNat = 60 * i + j by omega]
      obtain ⟨u, h3, h4, h5, h6, h7, h8⟩ := ih (pI (pJ t 122 (60 * i + j) 0) 123 (60 * i + j) (0 &&& 1)) (j + 1) (by omega) (by omega)
      refine ⟨u, h3, h4, h5, fun q b => ?_, fun q b => ?_, fun I => h8 ((I.wJ).wI (q := 123) (by decide) trivial)⟩
      · rw [h6, zI_pI]
        by_cases d : q = 123 ∧ 60 * i + (j + 1) ≤ b ∧ b < 60 * i + 60
        · rw [if_pos d, if_pos ⟨d.1, by omega, d.2.2⟩]
        · rw [if_neg d]
          by_cases d2 : q = 123 ∧ b = 60 * i + j
          · rw [if_pos d2, if_pos ⟨d2.1, by omega, by omega⟩]
            decide
          · rw [if_neg d2, if_neg (by omega)]
            rfl
      · rw [h7]
        show (if q = 122 ∧ 60 * i + (j + 1) ≤ b ∧ b < 60 * i + 60 then 0 else (if q = 122 ∧ b = 60 * i + j then 0 else zJ t q b)) = _
        by_cases d : q = 122 ∧ 60 * i + (j + 1) ≤ b ∧ b < 60 * i + 60
        · rw [if_pos d, if_pos ⟨d.1, by omega, d.2.2⟩]
        · rw [if_neg d]
          by_cases d2 : q = 122 ∧ b = 60 * i + j
          · rw [if_pos d2, if_pos ⟨d2.1, by omega, by omega⟩]
          · rw [if_neg d2, if_neg (by omega)]
    · rw [if_neg (by rw [jlt, tj, e60]; omega)]
      refine ⟨t, rfl, rfl, rfl, fun q b => ?_, fun q b => ?_, fun I => I⟩
      · rw [if_neg (by omega)]
      · rw [if_neg (by omega)]
theorem st_row {s : SS} (G : GI s) (a0 : Int32) (a1 : Int32) (a2 : Int32) : ∃ (rx : Int32) (s1 : SS) (rm : Int32) (s2 : SS), f_X11_row s a0 a1 a2 = some (rx, s1) ∧ f_X12_row s1 a0 a1 a2 = some (rm, s2) ∧ GI s2 ∧ rx = rm := by
  by_cases c : 0 ≤ a0.toInt ∧ a0.toInt < 6
  · by_cases b : 0 ≤ a1.toInt ∧ a1.toInt ≤ 4
    · have bx : ¬ a1 < 0 ∧ ¬ 4 < a1 := ⟨by rw [jlt, jl0]; omega, by rw [jlt, jl4]; omega⟩
      by_cases d : 60 < a2
      · refine ⟨-1, s, -1, s, ?_, ?_, G, rfl⟩
        · unfold f_X11_row
          rw [shelf_t G.1 c, b1_some, on_some, if_neg bx.1, if_neg bx.2, if_pos d]
        · unfold f_X12_row
          rw [issh_t c, b1_some, if_neg (by decide), in_t (by rw [jl0, jl4]; omega), b1_some, if_neg (by decide), if_pos d]
      by_cases d2 : a2 < 0
      · refine ⟨-14, s, -14, s, ?_, ?_, G, rfl⟩
        · unfold f_X11_row
          rw [shelf_t G.1 c, b1_some, on_some, if_neg bx.1, if_neg bx.2, if_neg d, if_pos d2]
        · unfold f_X12_row
          rw [issh_t c, b1_some, if_neg (by decide), in_t (by rw [jl0, jl4]; omega), b1_some, if_neg (by decide), if_neg d, if_pos d2]
      have hl : 0 ≤ a2.toInt ∧ a2.toInt ≤ 60 := by rw [jlt, jl60] at d; rw [jlt, jl0] at d2; omega
      obtain ⟨i, ei⟩ : ∃ i, i = a0.toInt.toNat := ⟨_, rfl⟩
      have hi : i < 6 := by omega
      have ha : a0 = nI i := by rw [ei]; exact toN_ c.1
      have I1 : Iv (pG (pS (pS (pS s (47 + 2 * i) 0 2) (47 + 2 * i) 2 a1) (47 + 2 * i) 3 a2) (47 + 2 * i + 1) 0) := (((G.1.wV (okVi hi) (k := 0) trivial).wV (okVi hi) (k := 2) trivial).wV (okVi hi) (k := 3) ⟨hl.1, hl.2⟩).wG
      have n2 : (-2 - a1).toInt = -2 - a1.toInt := by rw [i32_sub (by rw [jn2]; omega) (by rw [jn2]; omega), jn2]
      have I2 := (I1.wI (q := 120) (i := i) (v := -2 - a1) (by decide) ⟨by omega, by omega⟩).wI (q := 121) (i := i) (v := a2) (by decide) ⟨hl.1, hl.2⟩
      obtain ⟨u, h3, h4, h5, h6, h7, h8⟩ := rowL ha hi 4000 (pI (pI (pG (pS (pS (pS s (47 + 2 * i) 0 2) (47 + 2 * i) 2 a1) (47 + 2 * i) 3 a2) (47 + 2 * i + 1) 0) 120 i (-2 - a1)) 121 i a2) 0 (by decide) (by decide)
      refine ⟨1, pG (pS (pS (pS s (47 + 2 * i) 0 2) (47 + 2 * i) 2 a1) (47 + 2 * i) 3 a2) (47 + 2 * i + 1) 0, 1, u, ?_, ?_, ⟨h8 I2, ?_⟩, rfl⟩
      · unfold f_X11_row f_X8_becomesRow
        rw [shelf_t G.1 c, b1_some, on_some, if_neg bx.1, if_neg bx.2, if_neg d, if_neg d2, ← ei]
        rfl
      · unfold f_X12_row
        rw [issh_t c, b1_some, if_neg (by decide), in_t (by rw [jl0, jl4]; omega), b1_some, if_neg (by decide), if_neg d, if_neg d2]
        dsimp only [vl, st]
        rw [gd_t ⟨c.1, c.2⟩, gd_t ⟨c.1, c.2⟩, ← ei]
        have e60 : (60 : Int32) * a0 = nI (60 * i + 0) := by
          apply Int32.toInt_inj.1
          have j60 : (60 : Int32).toInt = 60 := rfl
          rw [i32_mul (by rw [j60]; omega) (by rw [j60]; omega), j60, nI_t (by omega)]
          omega
        rw [e60]
        exact h3
      · have z : ∀ q k, zS u q k = zS (pS (pS (pS s (47 + 2 * i) 0 2) (47 + 2 * i) 2 a1) (47 + 2 * i) 3 a2) q k := fun q k => by
          show u.1 q k = _
          rw [h4]
          rfl
        have hJ : ∀ q b, zJ (pI (pI (pG (pS (pS (pS s (47 + 2 * i) 0 2) (47 + 2 * i) 2 a1) (47 + 2 * i) 3 a2) (47 + 2 * i + 1) 0) 120 i (-2 - a1)) 121 i a2) q b = if q = 47 + 2 * i + 1 then 0 else zJ s q b := fun _ _ => rfl
        refine RG.sh (i0 := i) G.2 (fun q k _ h => ?_) (fun q j _ h h' h'' => ?_) (fun j h => ?_) (fun j h => ?_) (fun j l h hl => ?_) (fun j l h hj => ?_) (fun j l h hl => ?_) (fun j => ?_) hi ?_
        · rw [z, zS_pS, if_neg (fun y => h y.1), zS_pS, if_neg (fun y => h y.1), zS_pS, if_neg (fun y => h y.1)]
        · rw [h6, if_neg (by omega), zI_pI, if_neg (by omega), zI_pI, if_neg (by omega)]; rfl
        · rw [h6, if_neg (by omega), zI_pI, if_neg (by omega), zI_pI, if_neg (by omega)]; rfl
        · rw [h6, if_neg (by omega), zI_pI, if_neg (by omega), zI_pI, if_neg (by omega)]; rfl
        · rw [h6, if_neg (by omega), zI_pI, if_neg (by omega), zI_pI, if_neg (by omega)]; rfl
        · rw [h7, if_neg (by omega), hJ, if_neg (by omega)]
        · rw [h7, if_neg (by omega), hJ, if_neg (by omega)]
        · show u.2.2.2.1 17 j = _
          rw [h5]
          rfl
        · refine Or.inr (Or.inr ⟨?_, ?_, ?_, ?_, fun j hj => Or.inl ⟨?_, ?_⟩⟩)
          · rw [z, zS_pS, if_neg (fun y => absurd y.2 (by decide)), zS_pS, if_neg (fun y => absurd y.2 (by decide)), zS_pS, if_pos ⟨rfl, rfl⟩]
          · rw [h6, if_neg (by omega), zI_pI, if_neg (by omega), zI_pI, if_pos ⟨rfl, rfl⟩, z, zS_pS, if_neg (fun y => absurd y.2 (by decide)), zS_pS, if_pos ⟨rfl, rfl⟩]
          · rw [z, zS_pS, if_neg (fun y => absurd y.2 (by decide)), zS_pS, if_pos ⟨rfl, rfl⟩]
            exact b
          · rw [h6, if_neg (by omega), zI_pI, if_pos ⟨rfl, rfl⟩, z, zS_pS, if_pos ⟨rfl, rfl⟩]
          · rw [h6, if_pos ⟨rfl, by omega, by omega⟩]
          · rw [h7, if_neg (by omega), hJ, if_pos (by omega), h7, if_pos ⟨rfl, by omega, by omega⟩]
    · refine ⟨-1, s, -1, s, ?_, ?_, G, rfl⟩
      · unfold f_X11_row
        rw [shelf_t G.1 c, b1_some, on_some]
        by_cases h : a1 < 0
        · rw [if_pos h]
        · rw [if_neg h, if_pos (by rw [jlt, jl4]; rw [jlt, jl0] at h; omega)]
      · unfold f_X12_row
        rw [issh_t c, b1_some, if_neg (by decide), in_f (by rw [jl0, jl4]; omega), b1_some, if_pos rfl]
  · refine ⟨-1, s, -1, s, ?_, ?_, G, rfl⟩
    · unfold f_X11_row
      rw [shelf_f c, b1_some, on_none]
    · unfold f_X12_row
      rw [issh_f c, b1_some, if_pos rfl]
/-! PUT, BLANK, ELEMENT, TAKEN -/
/-- what shelf i says, in both -/
theorem SR.row {s : SS} {i : Nat} (R : SR s i) (h : zS s (47 + 2 * i) 0 = 2) : zI s 120 i = -2 - zS s (47 + 2 * i) 2 ∧ (0 ≤ (zS s (47 + 2 * i) 2).toInt ∧ (zS s (47 + 2 * i) 2).toInt ≤ 4) ∧ zS s (47 + 2 * i) 3 = zI s 121 i ∧ ∀ j, j < 60 → (zI s 123 (60 * i + j) = 0 ∧ zJ s (48 + 2 * i) j = zJ s 122 (60 * i + j)) ∨ (zI s 123 (60 * i + j) = 1 ∧ zJ s (48 + 2 * i) j = 9223372036854775807) := by
  rcases R with R | R | R
  · rw [R.1] at h; exact absurd h (by decide)
  · rw [R.1] at h; exact absurd h (by decide)
  · exact R.2
theorem SR.neg {s : SS} {i : Nat} (R : SR s i) (h : zS s (47 + 2 * i) 0 = 2) : (zI s 120 i).toInt = -2 - (zS s (47 + 2 * i) 2).toInt := by
  obtain ⟨r1, r2, _⟩ := R.row h
  rw [r1, i32_sub (by rw [jn2]; omega) (by rw [jn2]; omega), jn2]
theorem SR.case {s : SS} {i : Nat} (R : SR s i) : (zS s (47 + 2 * i) 0 = 0 ∧ zI s 120 i = -1) ∨ (zS s (47 + 2 * i) 0 = 1 ∧ 0 ≤ (zI s 120 i).toInt) ∨ zS s (47 + 2 * i) 0 = 2 := by
  rcases R with R | R | R
  · exact Or.inl R
  · exact Or.inr (Or.inl ⟨R.1, R.2.2.1⟩)
  · exact Or.inr (Or.inr R.1)
def RPl (s : SS) (i : Nat) (a : Int32) : Prop := 0 ≤ a.toInt ∧ a.toInt < (zS s (47 + 2 * i) 3).toInt
theorem why_t {s : SS} {a0 a1 : Int32} {i : Nat} (I : Iv s) (R : SR s i) (c : 0 ≤ a0.toInt ∧ a0.toInt < 6) (ei : i = a0.toInt.toNat) (h2 : zS s (47 + 2 * i) 0 = 2) (h : RPl s i a1) : f_X12_whyNoPlace s a0 a1 = some 0 ∧ f_X8_refusal s (47 + 2 * i) a1 = some 0 := by
  have hv := I.v3 (okVi (show i < 6 by omega))
  have hn := R.neg h2
  obtain ⟨r1, r2, r3, _⟩ := R.row h2
  obtain ⟨p1, p2⟩ := h
  refine ⟨?_, ?_⟩
  · unfold f_X12_whyNoPlace
    rw [issh_t c, b1_some, if_neg (by decide), gd_t ⟨c.1, c.2⟩, ← ei, if_neg (fun z => by rw [z, jn1] at hn; omega), gd_t ⟨c.1, c.2⟩, if_pos (by rw [jlt, jl0]; omega), gd_t ⟨c.1, c.2⟩, in_t (by rw [jl0, ← r3, i32_sub (by rw [jl1]; omega) (by rw [jl1]; omega), jl1]; omega), b1_some, if_neg (by decide)]
  · unfold f_X8_refusal
    rw [if_neg (by rw [h2]; decide), if_pos h2, if_neg (by rw [jlt, jl0]; omega), if_pos (by rw [jlt]; omega)]
theorem why_f {s : SS} {a0 a1 : Int32} {i : Nat} (I : Iv s) (R : SR s i) (c : 0 ≤ a0.toInt ∧ a0.toInt < 6) (ei : i = a0.toInt.toNat) (h : ¬ (zS s (47 + 2 * i) 0 = 2 ∧ RPl s i a1)) : ∃ v : Int32, v < 0 ∧ ¬ v = 0 ∧ f_X12_whyNoPlace s a0 a1 = some v ∧ f_X8_refusal s (47 + 2 * i) a1 = some v := by
  have hv := I.v3 (okVi (show i < 6 by omega))
  rcases R.case with R1 | R1 | R1
  · refine ⟨-11, by decide, by decide, ?_, ?_⟩
    · unfold f_X12_whyNoPlace
      rw [issh_t c, b1_some, if_neg (by decide), gd_t ⟨c.1, c.2⟩, ← ei, if_pos R1.2]
    · unfold f_X8_refusal
      rw [if_pos R1.1]
  · refine ⟨-12, by decide, by decide, ?_, ?_⟩
    · unfold f_X12_whyNoPlace
      rw [issh_t c, b1_some, if_neg (by decide), gd_t ⟨c.1, c.2⟩, ← ei, if_neg (fun z => by rw [z, jn1] at R1; omega), gd_t ⟨c.1, c.2⟩, if_neg (by rw [jlt, jl0]; omega)]
    · unfold f_X8_refusal
      rw [if_neg (by rw [R1.1]; decide), if_neg (by rw [R1.1]; decide)]
  · have hp : ¬ RPl s i a1 := fun z => h ⟨R1, z⟩
    have hn := R.neg R1
    obtain ⟨r1, r2, r3, _⟩ := R.row R1
    unfold RPl at hp
    refine ⟨-13, by decide, by decide, ?_, ?_⟩
    · unfold f_X12_whyNoPlace
      rw [issh_t c, b1_some, if_neg (by decide), gd_t ⟨c.1, c.2⟩, ← ei, if_neg (fun z => by rw [z, jn1] at hn; omega), gd_t ⟨c.1, c.2⟩, if_pos (by rw [jlt, jl0]; omega), gd_t ⟨c.1, c.2⟩, in_f (by rw [jl0, ← r3, i32_sub (by rw [jl1]; omega) (by rw [jl1]; omega), jl1]; omega), b1_some, if_pos rfl]
    · unfold f_X8_refusal
      rw [if_neg (by rw [R1]; decide), if_pos R1]
      by_cases d : a1 < 0
      · rw [if_pos d]
      · rw [if_neg d, if_neg (by rw [jlt]; rw [jlt, jl0] at d; omega)]
theorem st_element {s : SS} (G : GI s) (a0 : Int32) (a1 : Int32) : ∃ (rx : Int64) (s1 : SS) (rm : Int64) (s2 : SS), f_X11_element s a0 a1 = some rx ∧ f_X12_element s a0 a1 = some rm ∧ GI s ∧ rx = rm := by
  by_cases c : 0 ≤ a0.toInt ∧ a0.toInt < 6
  · obtain ⟨i, ei⟩ : ∃ i, i = a0.toInt.toNat := ⟨_, rfl⟩
    have hi : i < 6 := by omega
    have R := G.2.2.2.2.2 i hi
    have hv := G.1.v3 (okVi hi)
    by_cases d : zS s (47 + 2 * i) 0 = 2 ∧ RPl s i a1
    · obtain ⟨w1, w2⟩ := why_t G.1 R c ei d.1 d.2
      obtain ⟨p1, p2⟩ := d.2
      have ex : ((60 : Int32) * a0 + a1).toInt = 60 * a0.toInt + a1.toInt := by
        have j60 : (60 : Int32).toInt = 60 := rfl
        have m1 : ((60 : Int32) * a0).toInt = 60 * a0.toInt := by rw [i32_mul (by rw [j60]; omega) (by rw [j60]; omega), j60]
        rw [i32_add (by rw [m1]; omega) (by rw [m1]; omega), m1]
      have nx : ((60 : Int32) * a0 + a1).toInt.toNat = 60 * i + a1.toInt.toNat := by omega
      have gx : inB ((60 : Int32) * a0 + a1) 360 := ⟨by omega, by omega⟩
      obtain ⟨_, _, _, r4⟩ := R.row d.1
      have hx : f_X11_element s a0 a1 = some (zJ s (48 + 2 * i) a1.toInt.toNat) := by
        unfold f_X11_element
        rw [shelf_t G.1 c, b1_some, on_some, ← ei, w2, b1_some, if_pos rfl, gd_t ⟨by omega, by omega⟩, show 47 + 2 * i + 1 = 48 + 2 * i by omega]
      rcases r4 a1.toInt.toNat (by omega) with z | z
      · refine ⟨_, s, _, s, hx, ?_, G, z.2⟩
        unfold f_X12_element
        rw [w1, b1_some, if_neg (by decide)]
        dsimp only [vl]
        rw [gd_t gx, nx, if_pos z.1, gd_t gx]
      · refine ⟨_, s, 9223372036854775807, s, hx, ?_, G, z.2⟩
        unfold f_X12_element
        rw [w1, b1_some, if_neg (by decide)]
        dsimp only [vl]
        rw [gd_t gx, nx, if_neg (by rw [z.1]; decide)]
    · obtain ⟨v, v1, v2, v3, v4⟩ := why_f G.1 R c ei d
      refine ⟨-9223372036854775808, s, -9223372036854775808, s, ?_, ?_, G, rfl⟩
      · unfold f_X11_element
        rw [shelf_t G.1 c, b1_some, on_some, ← ei, v4, b1_some, if_neg v2]
      · unfold f_X12_element
        rw [v3, b1_some, if_pos v1]
  · refine ⟨-9223372036854775808, s, -9223372036854775808, s, ?_, ?_, G, rfl⟩
    · unfold f_X11_element
      rw [shelf_f c, b1_some, on_none]
    · unfold f_X12_element f_X12_whyNoPlace
      rw [issh_f c, b1_some, if_pos rfl, b1_some, if_pos (by decide)]
theorem ch16 (a : Int64) : ((a.toInt32.toUInt32 % 65536).toInt32).toInt64 = a &&& 65535 := by
  apply Int64.toBitVec_inj.1
  have e1 : (a.toInt32.toUInt32 % 65536).toInt32.toBitVec = (a.toBitVec.setWidth 32) % 65536#32 := by
    show (a.toInt32.toUInt32 % 65536).toBitVec = _
    rw [UInt32.toBitVec_mod]
    show a.toInt32.toBitVec % _ = _
    rw [Int64.toBitVec_toInt32, BitVec.signExtend_eq_setWidth_of_le _ (by decide)]
    rfl
  have e2 : ((a.toInt32.toUInt32 % 65536).toInt32).toInt64.toBitVec = ((a.toInt32.toUInt32 % 65536).toInt32.toBitVec).signExtend 64 := rfl
  have e3 : (a &&& 65535).toBitVec = a.toBitVec &&& 65535#64 := by rw [Int64.toBitVec_and]; rfl
  rw [e2, e1, e3]
  have hm : ((a.toBitVec.setWidth 32) % 65536#32).msb = false := by
    rw [BitVec.msb_eq_decide, BitVec.toNat_umod]
    simp only [decide_eq_false_iff_not]
    have : (BitVec.setWidth 32 a.toBitVec).toNat % (65536#32).toNat < 65536 := Nat.mod_lt _ (by decide)
    omega
  rw [BitVec.signExtend_eq_setWidth_of_msb_false hm]
  apply BitVec.eq_of_toNat_eq
  rw [BitVec.toNat_setWidth, BitVec.toNat_umod, BitVec.toNat_setWidth, BitVec.toNat_and]
  show a.toBitVec.toNat % 4294967296 % 65536 % 18446744073709551616 = a.toBitVec.toNat &&& (2 ^ 16 - 1)
  rw [Nat.and_two_pow_sub_one_eq_mod]
  omega
theorem real_e {s : SS} {a0 : Int32} {i : Nat} (R : SR s i) (c : 0 ≤ a0.toInt ∧ a0.toInt < 6) (ei : i = a0.toInt.toNat) : ∃ v, f_X8_isReal s (47 + 2 * i) = some v ∧ f_X12_isReals s a0 = some v ∧ (v = 0 ∨ (v = 1 ∧ zS s (47 + 2 * i) 0 = 2)) := by
  unfold f_X8_isReal f_X12_isReals
  rcases R.case with R1 | R1 | R1
  · refine ⟨0, ?_, ?_, Or.inl rfl⟩
    · rw [if_neg (by rw [R1.1]; decide)]
    · rw [gd_t ⟨c.1, c.2⟩, ← ei, if_neg (by rw [R1.2]; decide), gd_t ⟨c.1, c.2⟩, if_neg (by rw [R1.2]; decide)]
  · refine ⟨0, ?_, ?_, Or.inl rfl⟩
    · rw [if_neg (by rw [R1.1]; decide)]
    · rw [gd_t ⟨c.1, c.2⟩, ← ei, if_neg (fun z => by rw [z, jn5] at R1; omega), gd_t ⟨c.1, c.2⟩, if_neg (fun z => by rw [z, jn6] at R1; omega)]
  · have hn := R.neg R1
    obtain ⟨r1, r2, _⟩ := R.row R1
    rw [if_pos R1, gd_t ⟨c.1, c.2⟩, ← ei, gd_t ⟨c.1, c.2⟩]
    by_cases d : zS s (47 + 2 * i) 2 = 3
    · refine ⟨1, by rw [if_pos d], ?_, Or.inr ⟨rfl, R1⟩⟩
      rw [if_pos (by rw [r1, d]; decide)]
    · by_cases d2 : zS s (47 + 2 * i) 2 = 4
      · refine ⟨1, by rw [if_neg d, if_pos d2], ?_, Or.inr ⟨rfl, R1⟩⟩
        rw [if_neg (by rw [r1, d2]; decide), if_pos (by rw [r1, d2]; decide)]
      · rw [jeq, show (3 : Int32).toInt = 3 from rfl] at d
        rw [jeq, show (4 : Int32).toInt = 4 from rfl] at d2
        refine ⟨0, ?_, ?_, Or.inl rfl⟩
        · rw [if_neg (by rw [jeq]; exact d), if_neg (by rw [jeq]; exact d2)]
        · rw [if_neg (fun z => by rw [z, jn5] at hn; omega), if_neg (fun z => by rw [z, jn6] at hn; omega)]
theorem nar {s : SS} {i : Nat} {a : Int64} (R : SR s i) (h : zS s (47 + 2 * i) 0 = 2) : ∃ v, f_X8_narrowed s (47 + 2 * i) a = some v ∧ ∀ (ρ : Type) (k : Int64 → Option ρ), (if -2 - zI s 120 i = (0 : Int32) then k a.toInt32.toInt8.toInt32.toInt64 else (if -2 - zI s 120 i = (1 : Int32) then k (a &&& 65535) else (if -2 - zI s 120 i = (2 : Int32) then k a.toInt32.toInt64 else k a))) = k v := by
  obtain ⟨r1, r2, _⟩ := R.row h
  have e : -2 - zI s 120 i = zS s (47 + 2 * i) 2 := by
    rw [r1]
    apply Int32.toInt_inj.1
    have n2 : (-2 - zS s (47 + 2 * i) 2).toInt = -2 - (zS s (47 + 2 * i) 2).toInt := by rw [i32_sub (by rw [jn2]; omega) (by rw [jn2]; omega), jn2]
    rw [i32_sub (by rw [jn2, n2]; omega) (by rw [jn2, n2]; omega), n2, jn2]
    omega
  unfold f_X8_narrowed
  by_cases c0 : zS s (47 + 2 * i) 2 = 0
  · exact ⟨_, by rw [if_pos c0], fun ρ k => by rw [if_pos (by rw [e]; exact c0)]⟩
  by_cases c1 : zS s (47 + 2 * i) 2 = 1
  · exact ⟨_, by rw [if_neg c0, if_pos c1, ch16], fun ρ k => by rw [if_neg (by rw [e]; exact c0), if_pos (by rw [e]; exact c1)]⟩
  by_cases c2 : zS s (47 + 2 * i) 2 = 2
  · exact ⟨_, by rw [if_neg c0, if_neg c1, if_pos c2], fun ρ k => by rw [if_neg (by rw [e]; exact c0), if_neg (by rw [e]; exact c1), if_pos (by rw [e]; exact c2)]⟩
  · exact ⟨_, by rw [if_neg c0, if_neg c1, if_neg c2], fun ρ k => by rw [if_neg (by rw [e]; exact c0), if_neg (by rw [e]; exact c1), if_neg (by rw [e]; exact c2)]⟩
theorem ix60 {a b : Int32} (ha : 0 ≤ a.toInt ∧ a.toInt < 6) (hb : 0 ≤ b.toInt ∧ b.toInt ≤ 60) : ((60 : Int32) * a + b).toInt = 60 * a.toInt + b.toInt := by
  have j60 : (60 : Int32).toInt = 60 := rfl
  have m1 : ((60 : Int32) * a).toInt = 60 * a.toInt := by rw [i32_mul (by rw [j60]; omega) (by rw [j60]; omega), j60]
  rw [i32_add (by rw [m1]; omega) (by rw [m1]; omega), m1]
theorem zJ_pJ (s : SS) (q k a b : Nat) (w : Int64) : zJ (pJ s q k w) a b = if a = q ∧ b = k then w else zJ s a b := rfl
theorem zI_J (s : SS) (q i : Nat) (w : Int64) (a : Nat) : zI (pJ s q i w) a = zI s a := rfl
theorem reals_c {s t : SS} (h : zI t 120 = zI s 120) (a : Int32) : f_X12_isReals t a = f_X12_isReals s a := by
  unfold f_X12_isReals
  rw [h]
theorem why_c {s t : SS} (h : zI t 120 = zI s 120) (h' : zI t 121 = zI s 121) (a b : Int32) : f_X12_whyNoPlace t a b = f_X12_whyNoPlace s a b := by
  unfold f_X12_whyNoPlace
  rw [h, h']
/-- an element of a row is written in both -/
theorem RG.elt {s : SS} {i m : Nat} {w w' : Int64} {f : Int32} (G : GI s) (hi : i < 6) (h2 : zS s (47 + 2 * i) 0 = 2) (hm : m < 60) (hf : (f = 0 ∧ w = w') ∨ (f = 1 ∧ w = 9223372036854775807)) : RG (pI (pJ (pJ s (48 + 2 * i) m w) 122 (60 * i + m) w') 123 (60 * i + m) f) := by
  obtain ⟨r1, r2, r3, r4⟩ := (G.2.2.2.2.2 i hi).row h2
  refine RG.sh (i0 := i) G.2 (fun q k _ _ => rfl) (fun q j _ h h' h'' => ?_) (fun j h => rfl) (fun j h => rfl) (fun j l h hl => ?_) (fun j l h hj => ?_) (fun j l h hl => ?_) (fun j => rfl) hi ?_
  · rw [zI_pI, if_neg (by omega)]; rfl
  · rw [zI_pI, if_neg (by omega)]; rfl
  · show zJ (pJ (pJ s (48 + 2 * i) m w) 122 (60 * i + m) w') (48 + 2 * j) l = _
    rw [zJ_pJ, if_neg (by omega), zJ_pJ, if_neg (by omega)]
  · show zJ (pJ (pJ s (48 + 2 * i) m w) 122 (60 * i + m) w') 122 (60 * j + l) = _
    rw [zJ_pJ, if_neg (by omega), zJ_pJ, if_neg (by omega)]
  · refine Or.inr (Or.inr ⟨h2, r1, r2, r3, fun j hj => ?_⟩)
    have e1 : zI (pI (pJ (pJ s (48 + 2 * i) m w) 122 (60 * i + m) w') 123 (60 * i + m) f) 123 (60 * i + j) = if j = m then f else zI s 123 (60 * i + j) := by
      rw [zI_pI]
      by_cases c : j = m
      · rw [if_pos ⟨rfl, by omega⟩, if_pos c]
      · rw [if_neg (by omega), if_neg c]; rfl
    have e2 : zJ (pI (pJ (pJ s (48 + 2 * i) m w) 122 (60 * i + m) w') 123 (60 * i + m) f) (48 + 2 * i) j = if j = m then w else zJ s (48 + 2 * i) j := by
      show zJ (pJ (pJ s (48 + 2 * i) m w) 122 (60 * i + m) w') (48 + 2 * i) j = _
      rw [zJ_pJ, if_neg (by omega), zJ_pJ]
      by_cases c : j = m
      · rw [if_pos ⟨rfl, c⟩, if_pos c]
      · rw [if_neg (by omega), if_neg c]
    have e3 : zJ (pI (pJ (pJ s (48 + 2 * i) m w) 122 (60 * i + m) w') 123 (60 * i + m) f) 122 (60 * i + j) = if j = m then w' else zJ s 122 (60 * i + j) := by
      show zJ (pJ (pJ s (48 + 2 * i) m w) 122 (60 * i + m) w') 122 (60 * i + j) = _
      rw [zJ_pJ]
      by_cases c : j = m
      · rw [if_pos ⟨rfl, by omega⟩, if_pos c]
      · rw [if_neg (by omega), if_neg c, zJ_pJ, if_neg (by omega)]
    rw [e1, e2, e3]
    by_cases c : j = m
    · rw [if_pos c, if_pos c, if_pos c]
      exact hf
    · rw [if_neg c, if_neg c, if_neg c]
      exact r4 j hj
theorem st_put {s : SS} (G : GI s) (a0 : Int32) (a1 : Int32) (a2 : Int64) : ∃ (rx : Int32) (s1 : SS) (rm : Int32) (s2 : SS), f_X11_put s a0 a1 a2 = some (rx, s1) ∧ f_X12_put s1 a0 a1 a2 = some (rm, s2) ∧ GI s2 ∧ rx = rm := by
  by_cases c : 0 ≤ a0.toInt ∧ a0.toInt < 6
  · obtain ⟨i, ei⟩ : ∃ i, i = a0.toInt.toNat := ⟨_, rfl⟩
    have hi : i < 6 := by omega
    have R := G.2.2.2.2.2 i hi
    have hv := G.1.v3 (okVi hi)
    obtain ⟨v, v1, v2, v3⟩ := real_e R c ei
    by_cases b : v = 0 ∨ (¬ lg_cmp a2 (-9999) < 0 ∧ ¬ 0 < lg_cmp a2 9999)
    · have bx : ∀ (ρ : Type) (A k : Option ρ), (if v = 0 then k else (if lg_cmp a2 (-9999) < 0 then A else (if 0 < lg_cmp a2 9999 then A else k))) = k := fun ρ A k => by
        rcases b with b | b
        · rw [if_pos b]
        · by_cases z : v = 0
          · rw [if_pos z]
          · rw [if_neg z, if_neg b.1, if_neg b.2]
      by_cases d : zS s (47 + 2 * i) 0 = 2 ∧ RPl s i a1
      · obtain ⟨w1, w2⟩ := why_t G.1 R c ei d.1 d.2
        obtain ⟨p1, p2⟩ := d.2
        obtain ⟨x, x1, x2⟩ := nar (a := a2) R d.1
        have ex := ix60 c (b := a1) (by omega)
        have nx : ((60 : Int32) * a0 + a1).toInt.toNat = 60 * i + a1.toInt.toNat := by omega
        have gx : inB ((60 : Int32) * a0 + a1) 360 := ⟨by omega, by omega⟩
        have hx : f_X11_put s a0 a1 a2 = some (1, pJ s (48 + 2 * i) a1.toInt.toNat x) := by
          unfold f_X11_put
          rw [shelf_t G.1 c, b1_some, on_some, ← ei, v1, b1_some]
          dsimp only [jn, st]
          rw [bx, w2, b1_some, if_pos rfl, x1, b1_some, gd_t ⟨by omega, by omega⟩, if_pos rfl, show 47 + 2 * i + 1 = 48 + 2 * i by omega]
        have hM : ∀ t, zI t 120 = zI s 120 → f_X12_isReals t a0 = some v → f_X12_whyNoPlace t a0 a1 = some 0 → f_X12_put t a0 a1 a2 = some (1, pI (pJ t 122 (60 * i + a1.toInt.toNat) x) 123 (60 * i + a1.toInt.toNat) (0 &&& 1)) := by
          intro t e1 e2 e3
          have bj : ∀ K A : Option (Int32 × SS), (jn K fun k4 => if v = 0 then k4 else (if lg_cmp a2 (-9999) < 0 then A else (if 0 < lg_cmp a2 9999 then A else k4))) = K := fun K A => bx _ A K
          have xj : ∀ K : Int64 → Option (Int32 × SS), (vl (-2 - zI s 120 i) fun v8 => jn K fun k10 => (if v8 = (0 : Int32) then (k10 a2.toInt32.toInt8.toInt32.toInt64) else (if v8 = (1 : Int32) then (k10 (a2 &&& 65535)) else (if v8 = (2 : Int32) then (k10 a2.toInt32.toInt64) else (k10 a2))))) = K x := fun K => by
            rw [vl, jn]
            exact x2 _ K
          unfold f_X12_put
          rw [issh_t c, b1_some, if_neg (by decide), e2, b1_some, bj, e3, b1_some, if_neg (by decide), gd_t ⟨c.1, c.2⟩, ← ei, e1, xj]
          show gd _ _ = _
          rw [gd_t gx]
          show gd _ _ = _
          rw [gd_t gx, nx]
          rfl
        refine ⟨1, pJ s (48 + 2 * i) a1.toInt.toNat x, 1, pI (pJ (pJ s (48 + 2 * i) a1.toInt.toNat x) 122 (60 * i + a1.toInt.toNat) x) 123 (60 * i + a1.toInt.toNat) (0 &&& 1), hx, ?_, ⟨?_, ?_⟩, rfl⟩
        · exact hM _ (zI_J s _ _ _ 120) (by rw [reals_c (zI_J s _ _ _ 120)]; exact v2) (by rw [why_c (zI_J s _ _ _ 120) (zI_J s _ _ _ 121)]; exact w1)
        · exact (G.1.wJ.wJ).wI (q := 123) (by decide) trivial
        · exact RG.elt G hi d.1 (by omega) (Or.inl ⟨by decide, rfl⟩)
      · obtain ⟨y, y1, y2, y3, y4⟩ := why_f G.1 R c ei d
        refine ⟨y, s, y, s, ?_, ?_, G, rfl⟩
        · unfold f_X11_put
          rw [shelf_t G.1 c, b1_some, on_some, ← ei, v1, b1_some]
          dsimp only [jn, st]
          rw [bx, y4, b1_some, if_neg y2, if_neg y2]
        · unfold f_X12_put
          rw [issh_t c, b1_some, if_neg (by decide), v2, b1_some]
          dsimp only [jn]
          rw [bx, y3, b1_some, if_pos y1]
    · have b0 : ¬ v = 0 := fun z => b (Or.inl z)
      have b1' : ¬ (¬ lg_cmp a2 (-9999) < 0 ∧ ¬ 0 < lg_cmp a2 9999) := fun z => b (Or.inr z)
      refine ⟨-1, s, -1, s, ?_, ?_, G, rfl⟩
      · unfold f_X11_put
        rw [shelf_t G.1 c, b1_some, on_some, ← ei, v1, b1_some]
        dsimp only [jn]
        rw [if_neg b0]
        by_cases z : lg_cmp a2 (-9999) < 0
        · rw [if_pos z]
        · rw [if_neg z, if_pos (Classical.byContradiction fun y => b1' ⟨z, y⟩)]
      · unfold f_X12_put
        rw [issh_t c, b1_some, if_neg (by decide), v2, b1_some]
        dsimp only [jn]
        rw [if_neg b0]
        by_cases z : lg_cmp a2 (-9999) < 0
        · rw [if_pos z]
        · rw [if_neg z, if_pos (Classical.byContradiction fun y => b1' ⟨z, y⟩)]
  · refine ⟨-1, s, -1, s, ?_, ?_, G, rfl⟩
    · unfold f_X11_put
      rw [shelf_f c, b1_some, on_none]
    · unfold f_X12_put
      rw [issh_f c, b1_some, if_pos rfl]
theorem st_blank {s : SS} (G : GI s) (a0 : Int32) (a1 : Int32) : ∃ (rx : Int32) (s1 : SS) (rm : Int32) (s2 : SS), f_X11_blank s a0 a1 = some (rx, s1) ∧ f_X12_blank s1 a0 a1 = some (rm, s2) ∧ GI s2 ∧ rx = rm := by
  by_cases c : 0 ≤ a0.toInt ∧ a0.toInt < 6
  · obtain ⟨i, ei⟩ : ∃ i, i = a0.toInt.toNat := ⟨_, rfl⟩
    have hi : i < 6 := by omega
    have R := G.2.2.2.2.2 i hi
    have hv := G.1.v3 (okVi hi)
    obtain ⟨v, v1, v2, v3⟩ := real_e R c ei
    rcases R.case with R1 | R1 | R1
    · refine ⟨-11, s, -11, s, ?_, ?_, G, rfl⟩
      · unfold f_X11_blank f_X8_refusal
        rw [shelf_t G.1 c, b1_some, on_some, ← ei]
        dsimp only [jn, st]
        rw [if_neg (by rw [R1.1]; decide), if_pos R1.1, b1_some, if_neg (by decide), if_neg (by decide)]
      · unfold f_X12_blank
        rw [issh_t c, b1_some, if_neg (by decide), gd_t ⟨c.1, c.2⟩, ← ei, if_pos R1.2]
    · refine ⟨-12, s, -12, s, ?_, ?_, G, rfl⟩
      · unfold f_X11_blank f_X8_refusal
        rw [shelf_t G.1 c, b1_some, on_some, ← ei]
        dsimp only [jn, st]
        rw [if_neg (by rw [R1.1]; decide), if_neg (by rw [R1.1]; decide), if_neg (by rw [R1.1]; decide), b1_some, if_neg (by decide), if_neg (by decide)]
      · have v0 : v = 0 := v3.resolve_right (fun z => by rw [R1.1] at z; exact absurd z.2 (by decide))
        unfold f_X12_blank
        rw [issh_t c, b1_some, if_neg (by decide), gd_t ⟨c.1, c.2⟩, ← ei, if_neg (fun z => by rw [z, jn1] at R1; omega), v2, b1_some, if_pos v0]
    · have hn := R.neg R1
      obtain ⟨r1, r2, r3, _⟩ := R.row R1
      have n1 : ¬ zI s 120 i = -1 := fun z => by rw [z, jn1] at hn; omega
      by_cases b : v = 0
      · refine ⟨-12, s, -12, s, ?_, ?_, G, rfl⟩
        · unfold f_X11_blank
          rw [shelf_t G.1 c, b1_some, on_some, ← ei]
          dsimp only [jn, st]
          rw [if_pos R1, v1, b1_some, if_pos b]
        · unfold f_X12_blank
          rw [issh_t c, b1_some, if_neg (by decide), gd_t ⟨c.1, c.2⟩, ← ei, if_neg n1, v2, b1_some, if_pos b]
      by_cases d : RPl s i a1
      · obtain ⟨w1, w2⟩ := why_t G.1 R c ei R1 d
        obtain ⟨p1, p2⟩ := d
        have ex := ix60 c (b := a1) (by omega)
        have nx : ((60 : Int32) * a0 + a1).toInt.toNat = 60 * i + a1.toInt.toNat := by omega
        have gx : inB ((60 : Int32) * a0 + a1) 360 := ⟨by omega, by omega⟩
        have hM : ∀ t, zI t = zI s → f_X12_isReals t a0 = some v → f_X12_blank t a0 a1 = some (1, pI t 123 (60 * i + a1.toInt.toNat) (1 &&& 1)) := by
          intro t e1 e2
          unfold f_X12_blank
          rw [issh_t c, b1_some, if_neg (by decide), gd_t ⟨c.1, c.2⟩, ← ei, e1, if_neg n1, e2, b1_some, if_neg b, gd_t ⟨c.1, c.2⟩, in_t (by rw [jl0, ← r3, i32_sub (by rw [jl1]; omega) (by rw [jl1]; omega), jl1]; omega), b1_some, if_neg (by decide)]
          dsimp only [vl, st]
          rw [gd_t gx, nx]
        refine ⟨1, pJ s (48 + 2 * i) a1.toInt.toNat 9223372036854775807, 1, pI (pJ s (48 + 2 * i) a1.toInt.toNat 9223372036854775807) 123 (60 * i + a1.toInt.toNat) (1 &&& 1), ?_, hM _ rfl (by rw [reals_c (zI_J s _ _ _ 120)]; exact v2), ⟨?_, ?_⟩, rfl⟩
        · unfold f_X11_blank
          rw [shelf_t G.1 c, b1_some, on_some, ← ei]
          dsimp only [jn, st]
          rw [if_pos R1, v1, b1_some, if_neg b, w2, b1_some, if_pos rfl, gd_t ⟨by omega, by omega⟩, if_pos rfl, show 47 + 2 * i + 1 = 48 + 2 * i by omega]
        · exact (G.1.wJ).wI (q := 123) (by decide) trivial
        · have e := RG.elt G hi R1 (m := a1.toInt.toNat) (by omega) (w := 9223372036854775807) (w' := zJ s 122 (60 * i + a1.toInt.toNat)) (f := 1 &&& 1) (Or.inr ⟨by decide, rfl⟩)
          have es : pJ (pJ s (48 + 2 * i) a1.toInt.toNat 9223372036854775807) 122 (60 * i + a1.toInt.toNat) (zJ s 122 (60 * i + a1.toInt.toNat)) = pJ s (48 + 2 * i) a1.toInt.toNat 9223372036854775807 := by
            have hz : up2 (up2 s.2.2.1 (48 + 2 * i) a1.toInt.toNat 9223372036854775807) 122 (60 * i + a1.toInt.toNat) (zJ s 122 (60 * i + a1.toInt.toNat)) = up2 s.2.2.1 (48 + 2 * i) a1.toInt.toNat 9223372036854775807 := by
              funext q b
              unfold up2
              by_cases z : q = 122 ∧ b = 60 * i + a1.toInt.toNat
              · rw [if_pos z, if_neg (by omega), z.1, z.2]
                rfl
              · rw [if_neg z]
            show (s.1, s.2.1, up2 (up2 s.2.2.1 (48 + 2 * i) a1.toInt.toNat 9223372036854775807) 122 (60 * i + a1.toInt.toNat) (zJ s 122 (60 * i + a1.toInt.toNat)), s.2.2.2) = _
            rw [hz]
            rfl
          rw [es] at e
          exact e
      · obtain ⟨y, y1, y2, y3, y4⟩ := why_f G.1 R c ei (fun z => d z.2)
        refine ⟨-13, s, -13, s, ?_, ?_, G, rfl⟩
        · unfold RPl at d
          unfold f_X11_blank f_X8_refusal
          rw [shelf_t G.1 c, b1_some, on_some, ← ei]
          dsimp only [jn, st]
          rw [if_pos R1, v1, b1_some, if_neg b, if_neg (by rw [R1]; decide), if_pos R1]
          by_cases z : a1 < 0
          · rw [if_pos z, b1_some, if_neg (by decide), if_neg (by decide)]
          · rw [if_neg z, if_neg (by rw [jlt]; rw [jlt, jl0] at z; omega), b1_some, if_neg (by decide), if_neg (by decide)]
        · unfold RPl at d
          unfold f_X12_blank
          rw [issh_t c, b1_some, if_neg (by decide), gd_t ⟨c.1, c.2⟩, ← ei, if_neg n1, v2, b1_some, if_neg b, gd_t ⟨c.1, c.2⟩, in_f (by rw [jl0, ← r3, i32_sub (by rw [jl1]; omega) (by rw [jl1]; omega), jl1]; omega), b1_some, if_pos rfl]
  · refine ⟨-1, s, -1, s, ?_, ?_, G, rfl⟩
    · unfold f_X11_blank
      rw [shelf_f c, b1_some, on_none]
    · unfold f_X12_blank
      rw [issh_f c, b1_some, if_pos rfl]
/-! SHIFT -/
theorem ix3 {a b : Int32} {x i p : Nat} (ha : a.toInt = (i : Int)) (hb : b.toInt = (p : Int)) (hi : i < 6) (hp : p + x < 60) : ((60 : Int32) * a + b + nI x).toInt = ((60 * i + p + x : Nat) : Int) := by
  have j60 : (60 : Int32).toInt = 60 := rfl
  have tx : (nI x).toInt = (x : Int) := nI_t (by omega)
  have m1 : ((60 : Int32) * a).toInt = 60 * a.toInt := by rw [i32_mul (by rw [j60]; omega) (by rw [j60]; omega), j60]
  have m2 : ((60 : Int32) * a + b).toInt = 60 * a.toInt + b.toInt := by rw [i32_add (by rw [m1]; omega) (by rw [m1]; omega), m1]
  rw [i32_add (by rw [m2, tx]; omega) (by rw [m2, tx]; omega), m2, tx]
  omega
theorem shA {a0 a1 a2 a3 a4 : Int32} {i p m : Nat} {q0 : SS → Option (Int32 × SS)} (ha : a0.toInt = (i : Int)) (hp : a1.toInt = (p : Int)) (hm : a4.toInt = (m : Int)) (hi : i < 6) (hpm : p + m ≤ 60) : ∀ (n : Nat) (t : SS) (j : Nat), j ≤ m → m - j < n → ∃ u, f_X12_shift_L113 q0 a0 a1 a2 a3 a4 n t (nI j) = q0 u ∧ u.1 = t.1 ∧ u.2.2.2 = t.2.2.2 ∧ (∀ q b, zI u q b = if q = 125 ∧ j ≤ b ∧ b < m then zI t 123 (60 * i + p + b) &&& 1 else zI t q b) ∧ (∀ q b, zJ u q b = if q = 124 ∧ j ≤ b ∧ b < m then zJ t 122 (60 * i + p + b) else zJ t q b) ∧ (Iv t → Iv u) := by
  intro n
  induction n with
  | zero => intro t j h1 h2; omega
  | succ n ih =>
    intro t j h1 h2
    have tj : (nI j).toInt = (j : Int) := nI_t (by omega)
    have un : f_X12_shift_L113 q0 a0 a1 a2 a3 a4 (n + 1) t (nI j) = f_X12_shift_L113_b q0 a0 a1 a2 a3 a4 (f_X12_shift_L113 q0 a0 a1 a2 a3 a4 n) t (nI j) := rfl
    rw [un]
    unfold f_X12_shift_L113_b
    by_cases c : j < m
    · have ex := ix3 ha hp hi (x := j) (by omega)
      have gx : inB ((60 : Int32) * a0 + a1 + nI j) 360 := ⟨by omega, by omega⟩
      have gj : inB (nI j) 60 := ⟨by omega, by omega⟩
      have nx : ((60 : Int32) * a0 + a1 + nI j).toInt.toNat = 60 * i + p + j := by omega
      have k1 : nI j + 1 = nI (j + 1) := by
        apply Int32.toInt_inj.1
        rw [i32_add (by rw [tj, jl1]; omega) (by rw [tj, jl1]; omega), tj, jl1, nI_t (by omega)]
        omega
      rw [if_pos (by rw [jlt]; omega), vl, gd_t gx, wl, gd_t gj, st, vl, gd_t gx, vl, gd_t gj, st, vl, k1, nx, show (nI j).toInt.toNat = j by omega]
      obtain ⟨u, h3, h4, h5, h6, h7, h8⟩ := ih (pI (pJ t 124 j (zJ t 122 (60 * i + p + j))) 125 j (zI (pJ t 124 j (zJ t 122 (60 * i + p + j))) 123 (60 * i + p + j) &&& 1)) (j + 1) (by omega) (by omega)
      refine ⟨u, h3, h4, h5, fun q b => ?_, fun q b => ?_, fun I => h8 ((I.wJ).wI (q := 125) (by decide) trivial)⟩
      · rw [h6, zI_pI, if_neg (show ¬ (123 = 125 ∧ 60 * i + p + b = j) by omega), zI_pI]
        by_cases d : q = 125 ∧ j + 1 ≤ b ∧ b < m
        · rw [if_pos d, if_pos ⟨d.1, by omega, d.2.2⟩]; rfl
        · rw [if_neg d]
          by_cases d2 : q = 125 ∧ b = j
          · rw [if_pos d2, if_pos ⟨d2.1, by omega, by omega⟩, d2.2]; rfl
          · rw [if_neg d2, if_neg (by omega)]; rfl
      · rw [h7]
        have e1 : ∀ a b', zJ (pI (pJ t 124 j (zJ t 122 (60 * i + p + j))) 125 j (zI (pJ t 124 j (zJ t 122 (60 * i + p + j))) 123 (60 * i + p + j) &&& 1)) a b' = if a = 124 ∧ b' = j then zJ t 122 (60 * i + p + j) else zJ t a b' := fun _ _ => rfl
        rw [e1, e1, if_neg (show ¬ (122 = 124 ∧ 60 * i + p + b = j) by omega)]
        by_cases d : q = 124 ∧ j + 1 ≤ b ∧ b < m
        · rw [if_pos d, if_pos ⟨d.1, by omega, d.2.2⟩]
        · rw [if_neg d]
          by_cases d2 : q = 124 ∧ b = j
          · rw [if_pos d2, if_pos ⟨d2.1, by omega, by omega⟩, d2.2]
          · rw [if_neg d2, if_neg (by omega)]
    · rw [if_neg (by rw [jlt]; omega)]
      refine ⟨t, rfl, rfl, rfl, fun q b => ?_, fun q b => ?_, fun I => I⟩
      · rw [if_neg (by omega)]
      · rw [if_neg (by omega)]
theorem shB {a2 a3 a4 : Int32} {i p m : Nat} (ha : a2.toInt = (i : Int)) (hp : a3.toInt = (p : Int)) (hm : a4.toInt = (m : Int)) (hi : i < 6) (hpm : p + m ≤ 60) : ∀ (n : Nat) (t : SS) (j : Nat), j ≤ m → m - j < n → ∃ u, f_X12_shift_L171 a2 a3 a4 n t (nI j) = some (a4, u) ∧ u.1 = t.1 ∧ u.2.2.2 = t.2.2.2 ∧ (∀ q b, zI u q b = if q = 123 ∧ 60 * i + p + j ≤ b ∧ b < 60 * i + p + m then zI t 125 (b - (60 * i + p)) &&& 1 else zI t q b) ∧ (∀ q b, zJ u q b = if q = 122 ∧ 60 * i + p + j ≤ b ∧ b < 60 * i + p + m then zJ t 124 (b - (60 * i + p)) else zJ t q b) ∧ (Iv t → Iv u) := by
  intro n
  induction n with
  | zero => intro t j h1 h2; omega
  | succ n ih =>
    intro t j h1 h2
    have tj : (nI j).toInt = (j : Int) := nI_t (by omega)
    have un : f_X12_shift_L171 a2 a3 a4 (n + 1) t (nI j) = f_X12_shift_L171_b a2 a3 a4 (f_X12_shift_L171 a2 a3 a4 n) t (nI j) := rfl
    rw [un]
    unfold f_X12_shift_L171_b
    by_cases c : j < m
    · have ex := ix3 ha hp hi (x := j) (by omega)
      have gx : inB ((60 : Int32) * a2 + a3 + nI j) 360 := ⟨by omega, by omega⟩
      have gj : inB (nI j) 60 := ⟨by omega, by omega⟩
      have nx : ((60 : Int32) * a2 + a3 + nI j).toInt.toNat = 60 * i + p + j := by omega
      have k1 : nI j + 1 = nI (j + 1) := by
        apply Int32.toInt_inj.1
        rw [i32_add (by rw [tj, jl1]; omega) (by rw [tj, jl1]; omega), tj, jl1, nI_t (by omega)]
        omega
      rw [if_pos (by rw [jlt]; omega), gd_t gj, wl, vl, gd_t gx, st, gd_t gj, vl, vl, gd_t gx, st, vl, k1, nx, show (nI j).toInt.toNat = j by omega]
      obtain ⟨u, h3, h4, h5, h6, h7, h8⟩ := ih (pI (pJ t 122 (60 * i + p + j) (zJ t 124 j)) 123 (60 * i + p + j) (zI (pJ t 122 (60 * i + p + j) (zJ t 124 j)) 125 j &&& 1)) (j + 1) (by omega) (by omega)
      refine ⟨u, h3, h4, h5, fun q b => ?_, fun q b => ?_, fun I => h8 ((I.wJ).wI (q := 123) (by decide) trivial)⟩
      · rw [h6, zI_pI, if_neg (show ¬ (125 = 123 ∧ b - (60 * i + p) = 60 * i + p + j) by omega), zI_pI]
        by_cases d : q = 123 ∧ 60 * i + p + (j + 1) ≤ b ∧ b < 60 * i + p + m
        · rw [if_pos d, if_pos ⟨d.1, by omega, d.2.2⟩]; rfl
        · rw [if_neg d]
          by_cases d2 : q = 123 ∧ b = 60 * i + p + j
          · rw [if_pos d2, if_pos ⟨d2.1, by omega, by omega⟩, d2.2, show 60 * i + p + j - (60 * i + p) = j by omega]; rfl
          · rw [if_neg d2, if_neg (by omega)]; rfl
      · rw [h7]
        have e1 : ∀ a b', zJ (pI (pJ t 122 (60 * i + p + j) (zJ t 124 j)) 123 (60 * i + p + j) (zI (pJ t 122 (60 * i + p + j) (zJ t 124 j)) 125 j &&& 1)) a b' = if a = 122 ∧ b' = 60 * i + p + j then zJ t 124 j else zJ t a b' := fun _ _ => rfl
        rw [e1, e1, if_neg (show ¬ (124 = 122 ∧ b - (60 * i + p) = 60 * i + p + j) by omega)]
        by_cases d : q = 122 ∧ 60 * i + p + (j + 1) ≤ b ∧ b < 60 * i + p + m
        · rw [if_pos d, if_pos ⟨d.1, by omega, d.2.2⟩]
        · rw [if_neg d]
          by_cases d2 : q = 122 ∧ b = 60 * i + p + j
          · rw [if_pos d2, if_pos ⟨d2.1, by omega, by omega⟩, d2.2, show 60 * i + p + j - (60 * i + p) = j by omega]
          · rw [if_neg d2, if_neg (by omega)]
    · rw [if_neg (by rw [jlt]; omega)]
      refine ⟨t, rfl, rfl, rfl, fun q b => ?_, fun q b => ?_, fun I => I⟩
      · rw [if_neg (by omega)]
      · rw [if_neg (by omega)]
def HP (s : SS) (i : Nat) (a c : Int32) : Prop := 0 ≤ a.toInt ∧ 0 ≤ c.toInt ∧ a.toInt + c.toInt ≤ (zS s (47 + 2 * i) 3).toInt
theorem hp_t {s : SS} {i : Nat} {a c : Int32} (I : Iv s) (hi : i < 6) (h : HP s i a c) : f_X8_hasPlaces s (47 + 2 * i) a c = some 1 := by
  have hv := I.v3 (okVi hi)
  obtain ⟨h1, h2, h3⟩ := h
  unfold f_X8_hasPlaces
  rw [if_neg (by rw [jlt, jl0]; omega), if_neg (by rw [jlt, jl0]; omega), if_neg (by rw [jlt]; omega), if_neg (by rw [jlt, i32_sub (by omega) (by omega)]; omega)]
theorem hp_f {s : SS} {i : Nat} {a c : Int32} (I : Iv s) (hi : i < 6) (h : ¬ HP s i a c) : f_X8_hasPlaces s (47 + 2 * i) a c = some 0 := by
  have hv := I.v3 (okVi hi)
  unfold HP at h
  unfold f_X8_hasPlaces
  by_cases c1 : a < 0
  · rw [if_pos c1]
  rw [if_neg c1]
  by_cases c2 : c < 0
  · rw [if_pos c2]
  rw [if_neg c2]
  by_cases c3 : zS s (47 + 2 * i) 3 < c
  · rw [if_pos c3]
  rw [jlt, jl0] at c1 c2
  rw [if_neg c3, if_pos]
  rw [jlt] at c3
  rw [jlt, i32_sub (by omega) (by omega)]
  omega
theorem fl1 {f : Int32} (h : f = 0 ∨ f = 1) : (f &&& 1) &&& 1 = f := by
  rcases h with rfl | rfl <;> decide
theorem st_shift {s : SS} (G : GI s) (a0 : Int32) (a1 : Int32) (a2 : Int32) (a3 : Int32) (a4 : Int32) : ∃ (rx : Int32) (s1 : SS) (rm : Int32) (s2 : SS), f_X11_shift s a0 a1 a2 a3 a4 = some (rx, s1) ∧ f_X12_shift s1 a0 a1 a2 a3 a4 = some (rm, s2) ∧ GI s2 ∧ rx = rm := by
  by_cases c : 0 ≤ a0.toInt ∧ a0.toInt < 6
  · by_cases b : 0 ≤ a2.toInt ∧ a2.toInt < 6
    · obtain ⟨i, ei⟩ : ∃ i, i = a0.toInt.toNat := ⟨_, rfl⟩
      obtain ⟨k, ek⟩ : ∃ k, k = a2.toInt.toNat := ⟨_, rfl⟩
      have hi : i < 6 := by omega
      have hk : k < 6 := by omega
      have Ri := G.2.2.2.2.2 i hi
      have Rk := G.2.2.2.2.2 k hk
      have vi := G.1.v3 (okVi hi)
      have vk := G.1.v3 (okVi hk)
      have g0 : inB a0 6 := ⟨c.1, c.2⟩
      have g2 : inB a2 6 := ⟨b.1, b.2⟩
      have X : f_X11_shift s a0 a1 a2 a3 a4 = (if (zS s (47 + 2 * i) 0) = (0 : Int32) then some ((-11), s) else (if (zS s (47 + 2 * k) 0) = (0 : Int32) then some ((-11), s) else (if (zS s (47 + 2 * i) 0) = (2 : Int32) then (if (zS s (47 + 2 * k) 0) = (2 : Int32) then (if (zS s (47 + 2 * i) 2) = (zS s (47 + 2 * k) 2) then (b1 (f_X8_hasPlaces s (47 + 2 * i) a1 a4) fun r10 => (if r10 = (0 : Int32) then some ((-13), s) else (b1 (f_X8_hasPlaces s (47 + 2 * k) a3 a4) fun r12 => (if r12 = (0 : Int32) then some ((-13), s) else (gd (¬ a1 < 0 ∧ ¬ a3 < 0 ∧ ¬ a4 < 0 ∧ a1.toNatClampNeg + a4.toNatClampNeg ≤ 60 ∧ a3.toNatClampNeg + a4.toNatClampNeg ≤ 60) (st (pK s (47 + 2 * i + 1) (47 + 2 * k + 1) a1.toNatClampNeg a3.toNatClampNeg a4.toNatClampNeg) fun s14 => some (a4, s14))))))) else some ((-12), s)) else some ((-12), s)) else some ((-12), s)))) := by
        unfold f_X11_shift
        rw [shelf_t G.1 c, b1_some, on_some, shelf_t G.1 b, b1_some, on_some, ← ei, ← ek]
      have M : ∀ t, f_X12_shift t a0 a1 a2 a3 a4 = (if (zI t 120 i) = ((-1) : Int32) then some ((-11), t) else (if (zI t 120 k) = ((-1) : Int32) then some ((-11), t) else (if (zI t 120 i) < (0 : Int32) then (if (zI t 120 i) = (zI t 120 k) then (if a4 < (0 : Int32) then some ((-13), t) else (if a1 < (0 : Int32) then some ((-13), t) else (if a3 < (0 : Int32) then some ((-13), t) else (if ((zI t 121 i) - a4) < a1 then some ((-13), t) else (if ((zI t 121 k) - a4) < a3 then some ((-13), t) else (f_X12_shift_L113 (fun (s34 : SS)  => (f_X12_shift_L171 a2 a3 a4 4000 s34 0)) a0 a1 a2 a3 a4 4000 t 0)))))) else some ((-12), t)) else some ((-12), t)))) := by
        intro t
        unfold f_X12_shift
        rw [issh_t c, b1_some, if_neg (by decide), issh_t b, b1_some, if_neg (by decide), gd_t g0, gd_t g2, gd_t g0, gd_t g0, gd_t g2, gd_t g0, gd_t g2, ← ei, ← ek]
      rcases Ri.case with R1 | R1 | R1
      · refine ⟨-11, s, -11, s, ?_, ?_, G, rfl⟩
        · rw [X, if_pos R1.1]
        · rw [M, if_pos R1.2]
      · have n1 : ¬ zI s 120 i = -1 := fun z => by rw [z, jn1] at R1; omega
        rcases Rk.case with Q1 | Q1 | Q1
        · refine ⟨-11, s, -11, s, ?_, ?_, G, rfl⟩
          · rw [X, if_neg (by rw [R1.1]; decide), if_pos Q1.1]
          · rw [M, if_neg n1, if_pos Q1.2]
        · refine ⟨-12, s, -12, s, ?_, ?_, G, rfl⟩
          · rw [X, if_neg (by rw [R1.1]; decide), if_neg (by rw [Q1.1]; decide), if_neg (by rw [R1.1]; decide)]
          · rw [M, if_neg n1, if_neg (fun z => by rw [z, jn1] at Q1; omega), if_neg (by rw [jlt, jl0]; omega)]
        · have hn := Rk.neg Q1
          have r2 := (Rk.row Q1).2.1
          refine ⟨-12, s, -12, s, ?_, ?_, G, rfl⟩
          · rw [X, if_neg (by rw [R1.1]; decide), if_neg (by rw [Q1]; decide), if_neg (by rw [R1.1]; decide)]
          · rw [M, if_neg n1, if_neg (fun z => by rw [z, jn1] at hn; omega), if_neg (by rw [jlt, jl0]; omega)]
      · have hn := Ri.neg R1
        obtain ⟨r1, r2, r3, r4⟩ := Ri.row R1
        have n1 : ¬ zI s 120 i = -1 := fun z => by rw [z, jn1] at hn; omega
        have n2 : zI s 120 i < 0 := by rw [jlt, jl0]; omega
        have nz : ¬ zS s (47 + 2 * i) 0 = 0 := by rw [R1]; decide
        rcases Rk.case with Q1 | Q1 | Q1
        · refine ⟨-11, s, -11, s, ?_, ?_, G, rfl⟩
          · rw [X, if_neg nz, if_pos Q1.1]
          · rw [M, if_neg n1, if_pos Q1.2]
        · refine ⟨-12, s, -12, s, ?_, ?_, G, rfl⟩
          · rw [X, if_neg nz, if_neg (by rw [Q1.1]; decide), if_pos R1, if_neg (by rw [Q1.1]; decide)]
          · rw [M, if_neg n1, if_neg (fun z => by rw [z, jn1] at Q1; omega), if_pos n2, if_neg (fun z => by rw [z] at n2; rw [jlt, jl0] at n2; omega)]
        · have hq := Rk.neg Q1
          obtain ⟨q1, q2, q3, q4⟩ := Rk.row Q1
          have m1 : ¬ zI s 120 k = -1 := fun z => by rw [z, jn1] at hq; omega
          have mz : ¬ zS s (47 + 2 * k) 0 = 0 := by rw [Q1]; decide
          by_cases d : zS s (47 + 2 * i) 2 = zS s (47 + 2 * k) 2
          · have d' : zI s 120 i = zI s 120 k := by rw [r1, q1, d]
            by_cases h1 : HP s i a1 a4 ∧ HP s k a3 a4
            · obtain ⟨⟨p1, p2, p3⟩, ⟨p4, p5, p6⟩⟩ := h1
              obtain ⟨sp, esp⟩ : ∃ x, x = a1.toInt.toNat := ⟨_, rfl⟩
              obtain ⟨dp, edp⟩ : ∃ x, x = a3.toInt.toNat := ⟨_, rfl⟩
              obtain ⟨m, em⟩ : ∃ x, x = a4.toInt.toNat := ⟨_, rfl⟩
              obtain ⟨t, et⟩ : ∃ t, t = pK s (47 + 2 * i + 1) (47 + 2 * k + 1) sp dp m := ⟨_, rfl⟩
              have tI : ∀ q, zI t q = zI s q := fun q => by rw [et]; rfl
              have tS : ∀ q x, zS t q x = zS s q x := fun q x => by rw [et]; rfl
              have tR : t.2.2.2 = s.2.2.2 := by rw [et]; rfl
              have tJ : ∀ q x, zJ t q x = if q = 47 + 2 * k + 1 then va_cpy (zJ s (47 + 2 * i + 1)) (zJ s (47 + 2 * k + 1)) sp dp m x else zJ s q x := fun q x => by rw [et]; rfl
              have It : Iv t := by rw [et]; exact G.1.wK
              obtain ⟨u, h3, h4, h5, h6, h7, h8⟩ := shA (a0 := a0) (a1 := a1) (a2 := a2) (a3 := a3) (a4 := a4) (i := i) (p := sp) (m := m) (q0 := fun (s34 : SS)  => (f_X12_shift_L171 a2 a3 a4 4000 s34 0)) (by omega) (by omega) (by omega) hi (by omega) 4000 t 0 (by omega) (by omega)
              obtain ⟨w, k3, k4, k5, k6, k7, k8⟩ := shB (a2 := a2) (a3 := a3) (a4 := a4) (i := k) (p := dp) (m := m) (by omega) (by omega) (by omega) hk (by omega) 4000 u 0 (by omega) (by omega)
              refine ⟨a4, t, a4, w, ?_, ?_, ⟨k8 (h8 It), ?_⟩, rfl⟩
              · rw [X, if_neg nz, if_neg mz, if_pos R1, if_pos Q1, if_pos d, hp_t G.1 hi ⟨p1, p2, p3⟩, b1_some, if_neg (by decide), hp_t G.1 hk ⟨p4, p5, p6⟩, b1_some, if_neg (by decide), gd_t ⟨by rw [jlt, jl0]; omega, by rw [jlt, jl0]; omega, by rw [jlt, jl0]; omega, by rw [jcl, jcl]; omega, by rw [jcl, jcl]; omega⟩, et, esp, edp, em]
                rfl
              · rw [M, tI, tI, if_neg n1, if_neg m1, if_pos n2, if_pos d', if_neg (by rw [jlt, jl0]; omega), if_neg (by rw [jlt, jl0]; omega), if_neg (by rw [jlt, jl0]; omega), if_neg (by rw [← r3, jlt, i32_sub (by omega) (by omega)]; omega), if_neg (by rw [← q3, jlt, i32_sub (by omega) (by omega)]; omega)]
                exact h3.trans k3
              · have wS : ∀ q x, zS w q x = zS s q x := fun q x => by
                  show w.1 q x = _
                  rw [k4, h4]
                  exact tS q x
                have wI : ∀ q x, q ≠ 123 → q ≠ 125 → zI w q x = zI s q x := fun q x z1 z2 => by rw [k6, if_neg (by omega), h6, if_neg (by omega), tI]
                refine RG.sh (i0 := k) G.2 (fun q x _ _ => wS q x) (fun q j hq _ _ h123 => wI q j h123 (fun z => by rw [z] at hq; exact absurd hq (by decide))) (fun j _ => wI 120 j (by decide) (by decide)) (fun j _ => wI 121 j (by decide) (by decide)) (fun j l hj hl => ?_) (fun j l hj hl => ?_) (fun j l hj hl => ?_) (fun j => ?_) hk ?_
                · rw [k6, if_neg (by omega), h6, if_neg (by omega), tI]
                · rw [k7, if_neg (by omega), h7, if_neg (by omega), tJ, if_neg (by omega)]
                · rw [k7, if_neg (by omega), h7, if_neg (by omega), tJ, if_neg (by omega)]
                · show w.2.2.2.1 17 j = _
                  rw [k5, h5, tR]
                  rfl
                · refine Or.inr (Or.inr ⟨?_, ?_, ?_, ?_, fun j hj => ?_⟩)
                  · rw [wS]; exact Q1
                  · rw [wS, wI 120 k (by decide) (by decide)]; exact q1
                  · rw [wS]; exact q2
                  · rw [wS, wI 121 k (by decide) (by decide)]; exact q3
                  · have E2 : zJ w (48 + 2 * k) j = if dp ≤ j ∧ j < dp + m then zJ s (48 + 2 * i) (sp + (j - dp)) else zJ s (48 + 2 * k) j := by
                      rw [k7, if_neg (by omega), h7, if_neg (by omega), tJ, if_pos (by omega), show 47 + 2 * i + 1 = 48 + 2 * i by omega, show 47 + 2 * k + 1 = 48 + 2 * k by omega]
                      rfl
                    by_cases z : dp ≤ j ∧ j < dp + m
                    · have y := r4 (sp + (j - dp)) (by omega)
                      have E1 : zI w 123 (60 * k + j) = zI s 123 (60 * i + (sp + (j - dp))) := by
                        rw [k6, if_pos ⟨rfl, by omega, by omega⟩, h6, if_pos ⟨rfl, by omega, by omega⟩, tI, show 60 * i + sp + (60 * k + j - (60 * k + dp)) = 60 * i + (sp + (j - dp)) by omega]
                        exact fl1 (y.imp (fun z => z.1) (fun z => z.1))
                      have E3 : zJ w 122 (60 * k + j) = zJ s 122 (60 * i + (sp + (j - dp))) := by
                        rw [k7, if_pos ⟨rfl, by omega, by omega⟩, h7, if_pos ⟨rfl, by omega, by omega⟩, tJ, if_neg (by omega), show 60 * i + sp + (60 * k + j - (60 * k + dp)) = 60 * i + (sp + (j - dp)) by omega]
                      rw [if_pos z] at E2
                      rw [E1, E2, E3]
                      exact y
                    · have E1 : zI w 123 (60 * k + j) = zI s 123 (60 * k + j) := by rw [k6, if_neg (by omega), h6, if_neg (by omega), tI]
                      have E3 : zJ w 122 (60 * k + j) = zJ s 122 (60 * k + j) := by rw [k7, if_neg (by omega), h7, if_neg (by omega), tJ, if_neg (by omega)]
                      rw [if_neg z] at E2
                      rw [E1, E2, E3]
                      exact q4 j hj
            · refine ⟨-13, s, -13, s, ?_, ?_, G, rfl⟩
              · rw [X, if_neg nz, if_neg mz, if_pos R1, if_pos Q1, if_pos d]
                by_cases h2 : HP s i a1 a4
                · rw [hp_t G.1 hi h2, b1_some, if_neg (by decide), hp_f G.1 hk (fun z => h1 ⟨h2, z⟩), b1_some, if_pos rfl]
                · rw [hp_f G.1 hi h2, b1_some, if_pos rfl]
              · rw [M, if_neg n1, if_neg m1, if_pos n2, if_pos d']
                unfold HP at h1
                by_cases y1 : a4 < 0
                · rw [if_pos y1]
                rw [if_neg y1]
                by_cases y2 : a1 < 0
                · rw [if_pos y2]
                rw [if_neg y2]
                by_cases y3 : a3 < 0
                · rw [if_pos y3]
                rw [if_neg y3]
                rw [jlt, jl0] at y1 y2 y3
                have l4 := jlo a4
                by_cases y4 : zI s 121 i - a4 < a1
                · rw [if_pos y4]
                rw [if_neg y4, if_pos]
                rw [← r3, jlt, i32_sub (by omega) (by omega)] at y4
                rw [← q3, jlt, i32_sub (by omega) (by omega)]
                omega
          · refine ⟨-12, s, -12, s, ?_, ?_, G, rfl⟩
            · rw [X, if_neg nz, if_neg mz, if_pos R1, if_pos Q1, if_neg d]
            · rw [M, if_neg n1, if_neg m1, if_pos n2, if_neg]
              intro z
              apply d
              apply Int32.toInt_inj.1
              rw [z] at hn
              omega
    · refine ⟨-1, s, -1, s, ?_, ?_, G, rfl⟩
      · unfold f_X11_shift
        rw [shelf_t G.1 c, b1_some, on_some, shelf_f b, b1_some, on_none]
      · unfold f_X12_shift
        rw [issh_t c, b1_some, if_neg (by decide), issh_f b, b1_some, if_pos rfl]
  · refine ⟨-1, s, -1, s, ?_, ?_, G, rfl⟩
    · unfold f_X11_shift
      rw [shelf_f c, b1_some, on_none]
      by_cases b : 0 ≤ a2.toInt ∧ a2.toInt < 6
      · rw [shelf_t G.1 b, b1_some, on_some]
      · rw [shelf_f b, b1_some, on_none]
    · unfold f_X12_shift
      rw [issh_f c, b1_some, if_pos rfl]
/-! TAKEN -/
theorem under_L {s : SS} {a : Int32} (n : Nat) : ∀ k : Nat, k < 8 → ∀ m : Nat, m < 8 → a = nI m → f_X0_isUnder_L9 (fun x => if x = a then some 1 else some 0) s a (n + 9) (nI k) 0 = f_X12_isUnder (nI k) (nI m) := by
  intro k hk m hm ha
  subst ha
  have h1 : k = 0 ∨ k = 1 ∨ k = 2 ∨ k = 3 ∨ k = 4 ∨ k = 5 ∨ k = 6 ∨ k = 7 := by omega
  have h2 : m = 0 ∨ m = 1 ∨ m = 2 ∨ m = 3 ∨ m = 4 ∨ m = 5 ∨ m = 6 ∨ m = 7 := by omega
  rcases h1 with rfl | rfl | rfl | rfl | rfl | rfl | rfl | rfl <;> rcases h2 with rfl | rfl | rfl | rfl | rfl | rfl | rfl | rfl <;> rfl
theorem under_e {s : SS} {k a : Int32} (hk : 0 ≤ k.toInt ∧ k.toInt ≤ 7) (ha : 0 ≤ a.toInt ∧ a.toInt ≤ 7) : f_X0_isUnder_L9 (fun x => if x = a then some 1 else some 0) s a 4000 k 0 = f_X12_isUnder k a := by
  have h := under_L (s := s) (a := a) 3991 k.toInt.toNat (by omega) a.toInt.toNat (by omega) (toN_ ha.1)
  rw [← toN_ hk.1, ← toN_ ha.1] at h
  exact h
theorem under_01 (k a : Int32) : f_X12_isUnder k a = some 0 ∨ f_X12_isUnder k a = some 1 := by
  unfold f_X12_isUnder
  by_cases h1 : a = 0
  · rw [if_pos h1]; exact Or.inr rfl
  rw [if_neg h1]
  by_cases h2 : k = a
  · rw [if_pos h2]; exact Or.inr rfl
  rw [if_neg h2]
  split
  · split
    · exact Or.inr rfl
    · split
      · exact Or.inr rfl
      · split
        · exact Or.inr rfl
        · split
          · exact Or.inr rfl
          · split
            · exact Or.inr rfl
            · exact Or.inl rfl
  · split
    · split
      · exact Or.inr rfl
      · split
        · exact Or.inr rfl
        · split
          · exact Or.inr rfl
          · exact Or.inl rfl
    · split
      · split
        · exact Or.inr rfl
        · exact Or.inl rfl
      · exact Or.inl rfl
theorem st_taken {s : SS} (G : GI s) (a0 : Int32) (a1 : Int32) : ∃ (rx : Int32) (s1 : SS) (rm : Int32) (s2 : SS), f_X11_taken s a0 a1 = some rx ∧ f_X12_taken s a0 a1 = some rm ∧ GI s ∧ rx = rm := by
  have hf : 0 ≤ (zS s 15 3).toInt ∧ (zS s 15 3).toInt ≤ 120 := G.1.f (q := 15) (k := 3) rfl
  by_cases c : 0 ≤ a0.toInt ∧ a0.toInt < 6
  · by_cases b : 0 ≤ a1.toInt ∧ a1.toInt ≤ 7
    · have bx : ¬ a1 < 0 ∧ ¬ 7 < a1 := ⟨by rw [jlt, jl0]; omega, by rw [jlt, jl7]; omega⟩
      obtain ⟨i, ei⟩ : ∃ i, i = a0.toInt.toNat := ⟨_, rfl⟩
      have hi : i < 6 := by omega
      have R := G.2.2.2.2.2 i hi
      have g0 : inB a0 6 := ⟨c.1, c.2⟩
      rcases R with R1 | R1 | R1
      · refine ⟨-11, s, -11, s, ?_, ?_, G, rfl⟩
        · unfold f_X11_taken
          rw [shelf_t G.1 c, b1_some, on_some, if_neg bx.1, if_neg bx.2, ← ei, if_pos R1.1]
        · unfold f_X12_taken
          rw [issh_t c, b1_some, if_neg (by decide), in_t (by rw [jl0, jl7]; omega), b1_some, if_neg (by decide), gd_t g0, ← ei, if_pos R1.2]
      · obtain ⟨f0, f1, f2, f3⟩ := R1
        have gk : inB (zI s 120 i) 120 := ⟨f2, by omega⟩
        have kk : f_X0_kindOf s (zS s (47 + 2 * i) 1) = some (zI s 16 (zI s 120 i).toInt.toNat) := by
          rw [← f1]
          exact kind_t G.1 ⟨f2, f3⟩
        have kr : 0 ≤ (zI s 16 (zI s 120 i).toInt.toNat).toInt ∧ (zI s 16 (zI s 120 i).toInt.toNat).toInt ≤ 7 := G.1.a (q := 16) (i := (zI s 120 i).toInt.toNat) rfl
        have ek : zI s 16 (zI s 120 i).toInt.toNat = zI s 62 (zI s 120 i).toInt.toNat := G.2.2.1.2.1 _
        have uu : f_X0_isUnder s (zS s (47 + 2 * i) 1) a1 = f_X12_isUnder (zI s 16 (zI s 120 i).toInt.toNat) a1 := by
          unfold f_X0_isUnder
          rw [kk, b1_some]
          exact under_e kr b
        have nn : ¬ zI s 120 i = -1 ∧ ¬ zI s 120 i < 0 := ⟨fun z => by rw [z, jn1] at f2; omega, by rw [jlt, jl0]; omega⟩
        rcases under_01 (zI s 16 (zI s 120 i).toInt.toNat) a1 with u | u
        · refine ⟨-12, s, -12, s, ?_, ?_, G, rfl⟩
          · unfold f_X11_taken
            rw [shelf_t G.1 c, b1_some, on_some, if_neg bx.1, if_neg bx.2, ← ei, if_neg (by rw [f0]; decide), if_neg (by rw [f0]; decide), uu, u, b1_some, if_pos rfl]
          · unfold f_X12_taken
            rw [issh_t c, b1_some, if_neg (by decide), in_t (by rw [jl0, jl7]; omega), b1_some, if_neg (by decide), gd_t g0, ← ei, if_neg nn.1, gd_t g0, if_neg nn.2, gd_t g0, vl, gd_t gk, ← ek, u, b1_some, if_pos rfl]
        · refine ⟨zI s 16 (zI s 120 i).toInt.toNat, s, zI s 62 (zI s 120 i).toInt.toNat, s, ?_, ?_, G, ek⟩
          · unfold f_X11_taken
            rw [shelf_t G.1 c, b1_some, on_some, if_neg bx.1, if_neg bx.2, ← ei, if_neg (by rw [f0]; decide), if_neg (by rw [f0]; decide), uu, u, b1_some, if_neg (by decide), kk, b1_some]
          · unfold f_X12_taken
            rw [issh_t c, b1_some, if_neg (by decide), in_t (by rw [jl0, jl7]; omega), b1_some, if_neg (by decide), gd_t g0, ← ei, if_neg nn.1, gd_t g0, if_neg nn.2, gd_t g0, vl, gd_t gk, ← ek, u, b1_some, if_neg (by decide), gd_t g0, vl, gd_t gk, ek]
      · have hn := SR.neg (Or.inr (Or.inr R1)) R1.1
        have r2 := R1.2.2.1
        refine ⟨-12, s, -12, s, ?_, ?_, G, rfl⟩
        · unfold f_X11_taken
          rw [shelf_t G.1 c, b1_some, on_some, if_neg bx.1, if_neg bx.2, ← ei, if_neg (by rw [R1.1]; decide), if_pos R1.1]
        · unfold f_X12_taken
          rw [issh_t c, b1_some, if_neg (by decide), in_t (by rw [jl0, jl7]; omega), b1_some, if_neg (by decide), gd_t g0, ← ei, if_neg (fun z => by rw [z, jn1] at hn; omega), gd_t g0, if_pos (by rw [jlt, jl0]; omega)]
    · refine ⟨-1, s, -1, s, ?_, ?_, G, rfl⟩
      · unfold f_X11_taken
        rw [shelf_t G.1 c, b1_some, on_some]
        by_cases h : a1 < 0
        · rw [if_pos h]
        · rw [if_neg h, if_pos (by rw [jlt, jl7]; rw [jlt, jl0] at h; omega)]
      · unfold f_X12_taken
        rw [issh_t c, b1_some, if_neg (by decide), in_f (by rw [jl0, jl7]; omega), b1_some, if_pos rfl]
  · refine ⟨-1, s, -1, s, ?_, ?_, G, rfl⟩
    · unfold f_X11_taken
      rw [shelf_f c, b1_some, on_none]
    · unfold f_X12_taken
      rw [issh_f c, b1_some, if_pos rfl]
/-! THE FRESH STATE -/
theorem GI_fr : GI sFr := by
  refine ⟨Iv_fr, ⟨rfl, rfl, rfl, rfl, rfl, rfl⟩, ⟨fun _ => rfl, fun _ => rfl, fun _ => rfl⟩, fun i hi => ?_, fun i hi => ?_, fun i hi => ?_⟩
  · have h : i = 0 ∨ i = 1 ∨ i = 2 := by omega
    rcases h with rfl | rfl | rfl <;> exact ⟨rfl, rfl⟩
  · refine ⟨fun _ z => ?_, fun _ => rfl⟩
    have h0 : (zS sFr 15 3).toInt = 0 := by decide
    have := z.1
    omega
  · have h : i = 0 ∨ i = 1 ∨ i = 2 ∨ i = 3 ∨ i = 4 ∨ i = 5 := by omega
    rcases h with rfl | rfl | rfl | rfl | rfl | rfl <;> exact Or.inl ⟨rfl, rfl⟩
