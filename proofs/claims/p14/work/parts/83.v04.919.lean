/-! BORING, ONE HOLE -/
section BOs
variable {s t s' t' : SS}
/-- what boring the hole n at p does -/
def BW (p n : Nat) (s t s' t' : SS) : Prop := HX s' p t' n ∧ hW p s s' ∧ (∀ q k, q < 126 → ¬ (q = 0 ∧ 16 ≤ k ∧ k ≤ 18) → zS s' q k = zS s q k) ∧ (∀ q j, q < 126 → zI s' q j = zI s q j) ∧ mW n t t' ∧ (∀ q k, zS t' q k = zS t q k) ∧ ((zS s' 0 16).toInt = (zS s 0 16).toInt + ((zS s' p 4).toInt - (zS s p 4).toInt) ∧ (zS s p 4).toInt ≤ (zS s' p 4).toInt) ∧ (zS s' 0 17).toInt = (zS s 0 17).toInt + ((zS s' p 6).toInt - (zS s p 6).toInt) ∧ ((zS s' p 6 = zS s p 6 ∧ zS s' 0 18 = zS s 0 18) ∨ (zS s p 6 = 0 ∧ zS s' p 6 = 1 ∧ zS s' 0 18 = (if zS s 0 14 < zS s 0 18 then zS s 0 14 else zS s 0 18))) ∧ (zI t' 69 n = zI t 69 n ∨ (zI t 69 n = 0 ∧ zI t' 69 n = zS t 59 1 + 1)) ∧ zS s' p 3 = zS s p 3 ∧ 0 ≤ (zI t' 68 n).toInt ∧ (zI t' 68 n).toInt ≤ (zI t 68 n).toInt
theorem BW.rf {p n : Nat} (h : HX s p t n) (h68 : 0 ≤ (zI t 68 n).toInt) : BW p n s t s t := ⟨h, hW.rf, fun _ _ _ _ => rfl, fun _ _ _ => rfl, mW.rf, fun _ _ => rfl, ⟨by omega, Int.le_refl _⟩, by omega, Or.inl ⟨rfl, rfl⟩, Or.inl rfl, rfl, h68, Int.le_refl _⟩
/-- what both need to be alike for it -/
def BE (s t : SS) : Prop := RKx s t ∧ zS s 0 14 = zS t 59 1 ∧ (0 ≤ (zS s 0 14).toInt ∧ (zS s 0 14).toInt ≤ 1699) ∧ zS s 15 5 = zS t 59 21 ∧ zS s 15 6 = zS t 59 22 ∧ zS s 15 7 = zS t 59 23 ∧ zS s 15 8 = zS t 59 24
theorem BE.w {p n : Nat} (E : BE s t) (W : BW p n s t s' t') : BE s' t' := by
  obtain ⟨e1, e2, e3, e4, e5, e6, e7⟩ := E
  obtain ⟨_, _, w3, w4, w5, w6, _⟩ := W
  refine ⟨fun c y h1 h2 h3 => ?_, by rw [w3 0 14 (by omega) (by omega), w6]; exact e2, by rw [w3 0 14 (by omega) (by omega)]; exact e3, by rw [w3 15 5 (by omega) (by omega), w6]; exact e4, by rw [w3 15 6 (by omega) (by omega), w6]; exact e5, by rw [w3 15 7 (by omega) (by omega), w6]; exact e6, by rw [w3 15 8 (by omega) (by omega), w6]; exact e7⟩
  rw [w4 2 _ (by omega), w4 3 _ (by omega), w5.2.2 60 _ (by omega) (by omega), w5.2.2 61 _ (by omega) (by omega)]
  exact e1 c y h1 h2 h3
theorem refX (c y : Int32) : f_X0_isRefuge s c y = some (if ¬ zS s 15 5 < 0 ∧ y = zS s 15 8 ∧ ¬ c < zS s 15 6 ∧ ¬ zS s 15 7 < c then 1 else 0) := by
  unfold f_X0_isRefuge
  by_cases a : zS s 15 5 < 0
  · rw [if_pos a, if_neg (fun z => z.1 a)]
  rw [if_neg a]
  by_cases b : y = zS s 15 8
  · rw [if_pos b]
    by_cases d : c < zS s 15 6
    · rw [if_pos d, if_neg (fun z => z.2.2.1 d)]
    rw [if_neg d]
    by_cases e : zS s 15 7 < c
    · rw [if_pos e, if_neg (fun z => z.2.2.2 e)]
    · rw [if_neg e, if_pos ⟨a, b, d, e⟩]
  · rw [if_neg b, if_neg (fun z => b z.2.1)]
/-- the states behind one yard -/
def b1X (s : SS) (p : Nat) (m c y f : Int32) : SS := pI (pS (pS (pS (pS s p 5 m) p 2 c) p 4 y) 0 16 (zS s 0 16 + 1)) (p + 2) y.toInt.toNat f
def b2X (s : SS) (p : Nat) (m c y f : Int32) : SS := pS (pS (pS (b1X s p m c y f) p 6 1) 0 17 (zS s 0 17 + 1)) 0 18 (if zS s 0 14 < zS s 0 18 then zS s 0 14 else zS s 0 18)
def b1M (t : SS) (n : Nat) (m c y f : Int32) : SS := pI (pI (pI (pI t 68 n m) 67 n y) 65 n c) 71 (61 * n + y.toInt.toNat) f
def b2M (t : SS) (n : Nat) (m c y f : Int32) : SS := pI (b1M t n m c y f) 69 n (zS t 59 1 + 1)
theorem BW.one {p n : Nat} {m c y f : Int32} (o : okH s p) (hn : n < 120) (h : HX s p t n) (hy : y.toInt = (zS s p 4).toInt + 1) (hy2 : 1 ≤ y.toInt ∧ y.toInt ≤ 60) (hm : 0 ≤ m.toInt ∧ m.toInt ≤ (zI t 68 n).toInt) (h16 : 0 ≤ (zS s 0 16).toInt ∧ (zS s 0 16).toInt ≤ 20000) : BW p n s t (b1X s p m c y f) (b1M t n m c y f) := by
  have o1 := o.1
  have e16 : (zS s 0 16 + 1).toInt = (zS s 0 16).toInt + 1 := by rw [i32_add (by rw [jl1]; omega) (by rw [jl1]; omega), jl1]
  have zp : ∀ k, zS (b1X s p m c y f) p k = if k = 4 then y else if k = 2 then c else if k = 5 then m else zS s p k := fun k => by
    unfold b1X
    rw [zS_pI, zS_pS, if_neg (by omega), zS_pS]
    by_cases k4 : k = 4
    · rw [if_pos ⟨rfl, k4⟩, if_pos k4]
    rw [if_neg (fun z => k4 z.2), if_neg k4, zS_pS]
    by_cases k2 : k = 2
    · rw [if_pos ⟨rfl, k2⟩, if_pos k2]
    rw [if_neg (fun z => k2 z.2), if_neg k2, zS_pS]
    by_cases k5 : k = 5
    · rw [if_pos ⟨rfl, k5⟩, if_pos k5]
    · rw [if_neg (fun z => k5 z.2), if_neg k5]
  have sS : ∀ q k, q ≠ p → ¬ (q = 0 ∧ k = 16) → zS (b1X s p m c y f) q k = zS s q k := fun q k h1 h2 => by
    unfold b1X
    rw [zS_pI, zS_pS, if_neg h2, zS_pS, if_neg (fun z => h1 z.1), zS_pS, if_neg (fun z => h1 z.1), zS_pS, if_neg (fun z => h1 z.1)]
  have s16 : zS (b1X s p m c y f) 0 16 = zS s 0 16 + 1 := by
    unfold b1X
    rw [zS_pI, zS_pS, if_pos ⟨rfl, rfl⟩]
  have sI : ∀ q j, ¬ (q = p + 2 ∧ j = y.toInt.toNat) → zI (b1X s p m c y f) q j = zI s q j := fun q j h1 => by
    unfold b1X
    rw [zI_pI, if_neg h1]; rfl
  have s2 : zI (b1X s p m c y f) (p + 2) y.toInt.toNat = f := by
    unfold b1X
    rw [zI_pI, if_pos ⟨rfl, rfl⟩]
  have tS : ∀ q k, zS (b1M t n m c y f) q k = zS t q k := fun _ _ => rfl
  have tI : ∀ q j, q ≠ 65 → q ≠ 67 → q ≠ 68 → ¬ (q = 71 ∧ j = 61 * n + y.toInt.toNat) → zI (b1M t n m c y f) q j = zI t q j := fun q j h1 h2 h3 h4 => by
    unfold b1M
    rw [zI_pI, if_neg h4, zI_pI, if_neg (fun z => h1 z.1), zI_pI, if_neg (fun z => h2 z.1), zI_pI, if_neg (fun z => h3 z.1)]
  have t71 : zI (b1M t n m c y f) 71 (61 * n + y.toInt.toNat) = f := by
    unfold b1M
    rw [zI_pI, if_pos ⟨rfl, rfl⟩]
  have t65 : zI (b1M t n m c y f) 65 n = c := by
    unfold b1M
    rw [zI_pI, if_neg (by omega), zI_pI, if_pos ⟨rfl, rfl⟩]
  have t67 : zI (b1M t n m c y f) 67 n = y := by
    unfold b1M
    rw [zI_pI, if_neg (by omega), zI_pI, if_neg (by omega), zI_pI, if_pos ⟨rfl, rfl⟩]
  have t68 : zI (b1M t n m c y f) 68 n = m := by
    unfold b1M
    rw [zI_pI, if_neg (by omega), zI_pI, if_neg (by omega), zI_pI, if_neg (by omega), zI_pI, if_pos ⟨rfl, rfl⟩]
  have M : mW n t (b1M t n m c y f) := ((((mW.rf.wI (by omega) (by omega)).wI (by omega) (by omega)).wI (by omega) (by omega)).wY (by omega) (by omega) (by omega))
  have W : hW p s (b1X s p m c y f) := ((((hW.rf.wS).wS).wS).sS (by omega)).wI (Or.inr (Or.inl rfl))
  obtain ⟨x0, x1, x2, x3, x4, x5, x6, x7, x8⟩ := h
  refine ⟨⟨by rw [zp, if_neg (by omega), if_neg (by omega), if_neg (by omega), tI 63 _ (by omega) (by omega) (by omega) (by omega)]; exact x0, by rw [zp, if_neg (by omega), if_neg (by omega), if_neg (by omega), tI 64 _ (by omega) (by omega) (by omega) (by omega)]; exact x1, by rw [zp, if_neg (by omega), if_pos rfl, t65], by rw [zp, if_neg (by omega), if_neg (by omega), if_neg (by omega), tI 66 _ (by omega) (by omega) (by omega) (by omega)]; exact x3, by rw [zp, if_pos rfl, t67], by rw [zp, if_neg (by omega), if_neg (by omega), if_pos rfl, t68], by rw [zp, if_neg (by omega), if_neg (by omega), if_neg (by omega), tI 69 _ (by omega) (by omega) (by omega) (by omega)]; exact x6, by rw [zp, if_neg (by omega), if_neg (by omega), if_neg (by omega), tI 104 _ (by omega) (by omega) (by omega) (by omega)]; exact x7, fun z z1 z2 => ?_⟩, W, fun q k h1 h2 => sS q k (by omega) (by omega), fun q j h1 => sI q j (by omega), M, tS, ⟨by rw [s16, e16, zp, if_pos rfl]; omega, by rw [zp, if_pos rfl]; omega⟩, ?_, Or.inl ⟨by rw [zp, if_neg (by omega), if_neg (by omega), if_neg (by omega)], sS 0 18 (by omega) (by omega)⟩, Or.inl (tI 69 _ (by omega) (by omega) (by omega) (by omega)), by rw [zp, if_neg (by omega), if_neg (by omega), if_neg (by omega)], by rw [t68]; exact hm.1, by rw [t68]; exact hm.2⟩
  · obtain ⟨w1, w2, w3, w4⟩ := x8 z z1 z2
    refine ⟨by rw [sI _ _ (by omega), tI 70 _ (by omega) (by omega) (by omega) (by omega)]; exact w1, ?_, by rw [sI _ _ (by omega), tI 72 _ (by omega) (by omega) (by omega) (by omega), tI 73 _ (by omega) (by omega) (by omega) (by omega)]; exact w3, by rw [tI 73 _ (by omega) (by omega) (by omega) (by omega)]; exact w4⟩
    by_cases zy : z = y.toInt.toNat
    · rw [zy, s2, t71]
    · rw [sI _ _ (fun u => zy u.2), tI 71 _ (by omega) (by omega) (by omega) (by omega)]; exact w2
  · rw [sS 0 17 (by omega) (by omega), zp, if_neg (by omega), if_neg (by omega), if_neg (by omega)]
    omega
theorem BW.two {p n : Nat} {m c y f : Int32} (o : okH s p) (hn : n < 120) (h : HX s p t n) (h6 : zS s p 6 = 0) (h69 : zI t 69 n = 0) (hh : zS s 0 14 = zS t 59 1) (hr : 0 ≤ (zS s 0 14).toInt ∧ (zS s 0 14).toInt ≤ 1699) (W : BW p n s t (b1X s p m c y f) (b1M t n m c y f)) (h17 : 0 ≤ (zS s 0 17).toInt ∧ (zS s 0 17).toInt ≤ 20000) : BW p n s t (b2X s p m c y f) (b2M t n m c y f) := by
  have o1 := o.1
  obtain ⟨⟨x0, x1, x2, x3, x4, x5, x6, x7, x8⟩, w2, w3, w4, w5, w6, w7, w8, w9, w10, w11, w12⟩ := W
  have e17 : (zS s 0 17 + 1).toInt = (zS s 0 17).toInt + 1 := by rw [i32_add (by rw [jl1]; omega) (by rw [jl1]; omega), jl1]
  have eh : (zS t 59 1 + 1).toInt = (zS s 0 14).toInt + 1 := by rw [← hh, i32_add (by rw [jl1]; omega) (by rw [jl1]; omega), jl1]
  have zp : ∀ k, k ≠ 6 → zS (b2X s p m c y f) p k = zS (b1X s p m c y f) p k := fun k hk => by
    unfold b2X
    rw [zS_pS, if_neg (by omega), zS_pS, if_neg (by omega), zS_pS, if_neg (fun z => hk z.2)]
  have z6 : zS (b2X s p m c y f) p 6 = 1 := by
    unfold b2X
    rw [zS_pS, if_neg (by omega), zS_pS, if_neg (by omega), zS_pS, if_pos ⟨rfl, rfl⟩]
  have sS : ∀ q k, q ≠ p → ¬ (q = 0 ∧ (k = 17 ∨ k = 18)) → zS (b2X s p m c y f) q k = zS (b1X s p m c y f) q k := fun q k h1 h2 => by
    unfold b2X
    rw [zS_pS, if_neg (by omega), zS_pS, if_neg (by omega), zS_pS, if_neg (fun z => h1 z.1)]
  have sI : ∀ q j, zI (b2X s p m c y f) q j = zI (b1X s p m c y f) q j := fun _ _ => rfl
  have tI : ∀ q j, ¬ (q = 69 ∧ j = n) → zI (b2M t n m c y f) q j = zI (b1M t n m c y f) q j := fun q j h1 => by
    unfold b2M
    rw [zI_pI, if_neg h1]
  have t69 : zI (b2M t n m c y f) 69 n = zS t 59 1 + 1 := by
    unfold b2M
    rw [zI_pI, if_pos ⟨rfl, rfl⟩]
  refine ⟨⟨by rw [zp 0 (by omega), tI 63 _ (by omega)]; exact x0, by rw [zp 1 (by omega), tI 64 _ (by omega)]; exact x1, by rw [zp 2 (by omega), tI 65 _ (by omega)]; exact x2, by rw [zp 3 (by omega), tI 66 _ (by omega)]; exact x3, by rw [zp 4 (by omega), tI 67 _ (by omega)]; exact x4, by rw [zp 5 (by omega), tI 68 _ (by omega)]; exact x5, by rw [z6, t69, if_pos (by omega)], by rw [zp 7 (by omega), tI 104 _ (by omega)]; exact x7, fun z z1 z2 => ?_⟩, (w2.wS.sS (by omega)).sS (by omega), fun q k h1 h2 => by rw [sS q k (by omega) (by omega)]; exact w3 q k h1 h2, fun q j h1 => by rw [sI]; exact w4 q j h1, w5.wI (by omega) (by omega), fun q k => w6 q k, ⟨by rw [sS 0 16 (by omega) (by omega), zp 4 (by omega)]; exact w7.1, by rw [zp 4 (by omega)]; exact w7.2⟩, ?_, Or.inr ⟨h6, z6, ?_⟩, Or.inr ⟨h69, t69⟩, by rw [zp 3 (by omega)]; exact w11, by rw [tI 68 _ (by omega)]; exact w12⟩
  · rw [sI, sI, sI, tI 70 _ (by omega), tI 71 _ (by omega), tI 72 _ (by omega), tI 73 _ (by omega)]
    exact x8 z z1 z2
  · have : zS (b2X s p m c y f) 0 17 = zS s 0 17 + 1 := by
      unfold b2X
      rw [zS_pS, if_neg (by omega), zS_pS, if_pos ⟨rfl, rfl⟩]
    rw [this, e17, z6, h6, jl1, jl0]
    omega
  · unfold b2X
    rw [zS_pS, if_pos ⟨rfl, rfl⟩]
theorem BW.tr {p n : Nat} {r u : SS} (h : BW p n s t s' t') (g : BW p n s' t' r u) : BW p n s t r u := by
  obtain ⟨_, a2, a3, a4, a5, a6, a7, a8, a9, a10, a11, a12⟩ := h
  obtain ⟨b1, b2, b3, b4, b5, b6, b7, b8, b9, b10, b11, b12⟩ := g
  have e14 : zS s' 0 14 = zS s 0 14 := a3 0 14 (by omega) (by omega)
  refine ⟨b1, a2.tr b2, fun q k h1 h2 => (b3 q k h1 h2).trans (a3 q k h1 h2), fun q j h1 => (b4 q j h1).trans (a4 q j h1), a5.tr b5, fun q k => (b6 q k).trans (a6 q k), ⟨by omega, by omega⟩, by omega, ?_, ?_, b11.trans a11, by omega, by omega⟩
  · rcases a9 with ⟨p1, p2⟩ | ⟨p1, p2, p3⟩
    · rcases b9 with ⟨q1, q2⟩ | ⟨q1, q2, q3⟩
      · exact Or.inl ⟨q1.trans p1, q2.trans p2⟩
      · exact Or.inr ⟨p1 ▸ q1, q2, by rw [q3, e14, p2]⟩
    · rcases b9 with ⟨q1, q2⟩ | ⟨q1, q2, q3⟩
      · exact Or.inr ⟨p1, q1.trans p2, q2.trans p3⟩
      · rw [q1] at p2; exact absurd p2 (by decide)
  · rcases a10 with p1 | ⟨p1, p2⟩
    · rcases b10 with q1 | ⟨q1, q2⟩
      · exact Or.inl (q1.trans p1)
      · exact Or.inr ⟨p1 ▸ q1, by rw [q2, a6]⟩
    · rcases b10 with q1 | ⟨q1, q2⟩
      · exact Or.inr ⟨p1, q1.trans p2⟩
      · exact Or.inr ⟨p1, by rw [q2, a6]⟩
end BOs
