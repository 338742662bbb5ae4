/-! THE HOUR: class first, then reference -/
def Hit (A B : Nat → Int32) (h : Int32) (i c y : Nat) : Prop := B i = h ∧ Vc (A i) ∧ cC (A i) = c ∧ cY (A i) = y
def MvQ (H : Nat → Nat → Nat → Prop) (lo hi : Nat) (v : Int32) (f g f' g' : Nat → Nat → Int32) : Prop := ∀ c y, c < 32 → 1 ≤ y → y ≤ 60 → ((∃ i, lo ≤ i ∧ i < hi ∧ H i c y) → f' c y = v ∧ g' c y = 0) ∧ ((¬ ∃ i, lo ≤ i ∧ i < hi ∧ H i c y) → f' c y = f c y ∧ g' c y = g c y)
theorem MvQ.no {H : Nat → Nat → Nat → Prop} {lo hi : Nat} {v : Int32} {f g : Nat → Nat → Int32} (h : hi ≤ lo) : MvQ H lo hi v f g f g := fun c y _ _ _ => ⟨fun ⟨i, a, b, _⟩ => by omega, fun _ => ⟨rfl, rfl⟩⟩
theorem MvQ.st {H : Nat → Nat → Nat → Prop} {lo hi : Nat} {v : Int32} {f g f1 g1 f2 g2 : Nat → Nat → Int32} (hl : lo < hi) (h1 : ∀ c y, c < 32 → 1 ≤ y → y ≤ 60 → (H lo c y → f1 c y = v ∧ g1 c y = 0) ∧ (¬ H lo c y → f1 c y = f c y ∧ g1 c y = g c y)) (h2 : MvQ H (lo + 1) hi v f1 g1 f2 g2) : MvQ H lo hi v f g f2 g2 := by
  intro c y a1 a2 a3
  obtain ⟨p1, p2⟩ := h1 c y a1 a2 a3
  obtain ⟨q1, q2⟩ := h2 c y a1 a2 a3
  by_cases z : ∃ i, lo + 1 ≤ i ∧ i < hi ∧ H i c y
  · obtain ⟨i, i1, i2, i3⟩ := z
    exact ⟨fun _ => q1 ⟨i, i1, i2, i3⟩, fun n => absurd ⟨i, by omega, i2, i3⟩ n⟩
  · obtain ⟨e1, e2⟩ := q2 z
    rw [e1, e2]
    refine ⟨fun ⟨i, i1, i2, i3⟩ => p1 ?_, fun n => p2 (fun w => n ⟨lo, by omega, hl, w⟩)⟩
    by_cases w : i = lo
    · rw [← w]; exact i3
    · exact absurd ⟨i, by omega, i2, i3⟩ z
def x2 (s : SS) (c y : Nat) : Int32 := zI s 2 (60 * c + y - 1)
def x3 (s : SS) (c y : Nat) : Int32 := zI s 3 (60 * c + y - 1)
def m2 (s : SS) (c y : Nat) : Int32 := zI s 60 (61 * c + y)
def m3 (s : SS) (c y : Nat) : Int32 := zI s 61 (61 * c + y)
/-- what the class's hour keeps; what the reference's hour keeps -/
def KX (s r : SS) : Prop := FrA s r ∧ r.2.2.2 = s.2.2.2 ∧ (∀ q k, fSB q k = true → ¬ (q = 0 ∧ k = 14) → zS r q k = zS s q k) ∧ (∀ q i, fIB q = true → 4 ≤ q → zI r q i = zI s q i)
def KM (s r : SS) : Prop := FrA s r ∧ r.2.2.2 = s.2.2.2 ∧ (∀ q k, fSB q k = true → ¬ (q = 59 ∧ k = 1) → zS r q k = zS s q k) ∧ (∀ q i, fIB q = true → q ≠ 60 ∧ q ≠ 61 → zI r q i = zI s q i)
theorem FrA.rf {s : SS} : FrA s s := ⟨fun _ _ _ => rfl, fun _ _ _ => rfl, fun _ _ _ => rfl⟩
theorem FrA.tr {a b c : SS} (h1 : FrA a b) (h2 : FrA b c) : FrA a c := ⟨fun q k h => (h2.1 q k h).trans (h1.1 q k h), fun q i h => (h2.2.1 q i h).trans (h1.2.1 q i h), fun q i h => (h2.2.2 q i h).trans (h1.2.2 q i h)⟩
theorem FrA.pS {b s : SS} {q k : Nat} {v : Int32} (h : FrA b s) (hq : fSA q k = false) : FrA b (pS s q k v) := ⟨fun a c e => by rw [zSf e hq]; exact h.1 a c e, h.2.1, h.2.2⟩
theorem FrA.pI {b s : SS} {q i : Nat} {v : Int32} (h : FrA b s) (hq : fIA q = false) : FrA b (pI s q i v) := ⟨h.1, fun a c e => by rw [zIf e hq]; exact h.2.1 a c e, h.2.2⟩
theorem KX.rf {s : SS} : KX s s := ⟨FrA.rf, rfl, fun _ _ _ _ => rfl, fun _ _ _ _ => rfl⟩
theorem KX.tr {a b c : SS} (h1 : KX a b) (h2 : KX b c) : KX a c := ⟨h1.1.tr h2.1, h2.2.1.trans h1.2.1, fun q k x y => (h2.2.2.1 q k x y).trans (h1.2.2.1 q k x y), fun q i x y => (h2.2.2.2 q i x y).trans (h1.2.2.2 q i x y)⟩
theorem KM.rf {s : SS} : KM s s := ⟨FrA.rf, rfl, fun _ _ _ _ => rfl, fun _ _ _ _ => rfl⟩
theorem KM.tr {a b c : SS} (h1 : KM a b) (h2 : KM b c) : KM a c := ⟨h1.1.tr h2.1, h2.2.1.trans h1.2.1, fun q k x y => (h2.2.2.1 q k x y).trans (h1.2.2.1 q k x y), fun q i x y => (h2.2.2.2 q i x y).trans (h1.2.2.2 q i x y)⟩
theorem Lk.KX {b s : SS} (K : Lk b s) : KX b s := ⟨K.2.2.a, K.2.1, fun q k x _ => K.2.2.b.1 q k x, fun q i x _ => K.2.2.b.2 q i x⟩
theorem Lk.KM {b s : SS} (K : Lk b s) : KM b s := ⟨K.2.2.a, K.2.1, fun q k x _ => K.2.2.b.1 q k x, fun q i x _ => K.2.2.b.2 q i x⟩
/-- one place of the class's rock -/
theorem x_hit {s : SS} {a : Int32} (h : Vc a) (c y : Nat) (h1 : c < 32) (h2 : 1 ≤ y) (h3 : y ≤ 60) : (cC a = c ∧ cY a = y → x2 (pI (pI s 3 (60 * cC a + cY a - 1) 0) 2 (60 * cC a + cY a - 1) 9) c y = 9 ∧ x3 (pI (pI s 3 (60 * cC a + cY a - 1) 0) 2 (60 * cC a + cY a - 1) 9) c y = 0) ∧ (¬ (cC a = c ∧ cY a = y) → x2 (pI (pI s 3 (60 * cC a + cY a - 1) 0) 2 (60 * cC a + cY a - 1) 9) c y = x2 s c y ∧ x3 (pI (pI s 3 (60 * cC a + cY a - 1) 0) 2 (60 * cC a + cY a - 1) 9) c y = x3 s c y) := by
  obtain ⟨b1, b2, b3⟩ := h.b
  unfold x2 x3
  refine ⟨fun ⟨z1, z2⟩ => ⟨?_, ?_⟩, fun z => ⟨?_, ?_⟩⟩
  · rw [zI_pI, if_pos ⟨rfl, by rw [z1, z2]⟩]
  · rw [zI_pI, if_neg (by omega), zI_pI, if_pos ⟨rfl, by rw [z1, z2]⟩]
  · rw [zI_pI, if_neg (by omega), zI_pI, if_neg (by omega)]
  · rw [zI_pI, if_neg (by omega), zI_pI, if_neg (by omega)]
theorem m_hit {s : SS} {a v : Int32} (h : cellOK a) (hv : v = 0) (c y : Nat) (h1 : c < 32) (h2 : 1 ≤ y) (h3 : y ≤ 60) : (cC a = c ∧ cY a = y → m2 (pI (pI s 61 (61 * cC a + cY a) v) 60 (61 * cC a + cY a) 6) c y = 6 ∧ m3 (pI (pI s 61 (61 * cC a + cY a) v) 60 (61 * cC a + cY a) 6) c y = 0) ∧ (¬ (cC a = c ∧ cY a = y) → m2 (pI (pI s 61 (61 * cC a + cY a) v) 60 (61 * cC a + cY a) 6) c y = m2 s c y ∧ m3 (pI (pI s 61 (61 * cC a + cY a) v) 60 (61 * cC a + cY a) 6) c y = m3 s c y) := by
  obtain ⟨b1, b2, b3⟩ := h
  have b4 : cC a < 32 ∧ cY a ≤ 60 := by unfold cC cY; omega
  unfold m2 m3
  refine ⟨fun ⟨z1, z2⟩ => ⟨?_, ?_⟩, fun z => ⟨?_, ?_⟩⟩
  · rw [zI_pI, if_pos ⟨rfl, by rw [z1, z2]⟩]
  · rw [zI_pI, if_neg (by omega), zI_pI, if_pos ⟨rfl, by rw [z1, z2]⟩]; exact hv
  · rw [zI_pI, if_neg (by omega), zI_pI, if_neg (by omega)]
  · rw [zI_pI, if_neg (by omega), zI_pI, if_neg (by omega)]
theorem Vc_of {a : Int32} {y : Nat} (h : cellOK a) (h2 : 1 ≤ y) (e : cY a = y) : Vc a := by
  obtain ⟨b1, b2, b3⟩ := h
  unfold cY at e
  exact ⟨b1, by omega, by omega, b3⟩
theorem rmX : ∀ (n : Nat) (s : SS) (x : Int32), Iv s → 0 ≤ x.toInt → x.toInt ≤ (zS s 1 4).toInt → (zS s 1 4).toInt - x.toInt < n → ∃ r, f_X11_rockMoves_L2 n s x = some r ∧ Iv r ∧ (KX s r ∧ zS r 0 14 = zS s 0 14) ∧ MvQ (Hit (zI s 4) (zI s 5) (zS s 0 14)) x.toInt.toNat (zS s 1 4).toInt.toNat 9 (x2 s) (x3 s) (x2 r) (x3 r)
  | 0, s, x, _, _, _, h => by omega
  | n + 1, s, x, I, hx0, hx1, hn => by
    have hf : 0 ≤ (zS s 1 4).toInt ∧ (zS s 1 4).toInt ≤ 60 := I.f (q := 1) (k := 4) rfl
    rw [f_X11_rockMoves_L2, f_X11_rockMoves_L2_b]
    by_cases hl : x < zS s 1 4
    · rw [if_pos hl]
      rw [jlt] at hl
      have gn : inB x 60 := ⟨by omega, by omega⟩
      have n1 : (x + 1).toInt = x.toInt + 1 := by rw [i32_add (by rw [jl1]; omega) (by rw [jl1]; omega), jl1]
      have key : ∀ s', Iv s' → KX s s' → zS s' 0 14 = zS s 0 14 → (∀ c y, c < 32 → 1 ≤ y → y ≤ 60 → (Hit (zI s 4) (zI s 5) (zS s 0 14) x.toInt.toNat c y → x2 s' c y = 9 ∧ x3 s' c y = 0) ∧ (¬ Hit (zI s 4) (zI s 5) (zS s 0 14) x.toInt.toNat c y → x2 s' c y = x2 s c y ∧ x3 s' c y = x3 s c y)) → ∃ r, f_X11_rockMoves_L2 n s' (x + 1) = some r ∧ Iv r ∧ (KX s r ∧ zS r 0 14 = zS s 0 14) ∧ MvQ (Hit (zI s 4) (zI s 5) (zS s 0 14)) x.toInt.toNat (zS s 1 4).toInt.toNat 9 (x2 s) (x3 s) (x2 r) (x3 r) := by
        intro s' I' K' h14 hs
        have ec : zS s' 1 4 = zS s 1 4 := K'.2.2.1 1 4 rfl (by omega)
        obtain ⟨r, e, Ir, ⟨Kr, hr⟩, M⟩ := rmX n s' (x + 1) I' (by omega) (by rw [ec]; omega) (by rw [ec]; omega)
        refine ⟨r, e, Ir, ⟨K'.tr Kr, hr.trans h14⟩, MvQ.st (by omega) hs ?_⟩
        have e4 : zI s' 4 = zI s 4 := funext fun i => K'.2.2.2 4 i rfl (by omega)
        have e5 : zI s' 5 = zI s 5 := funext fun i => K'.2.2.2 5 i rfl (by omega)
        rw [e4, e5, h14, ec, n1] at M
        have en : (x.toInt + 1).toNat = x.toInt.toNat + 1 := by omega
        rw [en] at M
        exact M
      rw [gd_t gn, vl]
      by_cases hh : zI s 5 x.toInt.toNat = zS s 0 14
      · by_cases hv : Vc (zI s 4 x.toInt.toNat)
        · obtain ⟨u1, u2, u3⟩ := hv.b
          have nx := nnI (k := 60 * cC (zI s 4 x.toInt.toNat) + cY (zI s 4 x.toInt.toNat) - 1) (by omega)
          have I2 : Iv (pI (pI s 3 (60 * cC (zI s 4 x.toInt.toNat) + cY (zI s 4 x.toInt.toNat) - 1) 0) 2 (60 * cC (zI s 4 x.toInt.toNat) + cY (zI s 4 x.toInt.toNat) - 1) 9) := (I.wI (q := 3) (by decide) trivial).wI (q := 2) (by decide) trivial
          have K2 : KX s (pI (pI s 3 (60 * cC (zI s 4 x.toInt.toNat) + cY (zI s 4 x.toInt.toNat) - 1) 0) 2 (60 * cC (zI s 4 x.toInt.toNat) + cY (zI s 4 x.toInt.toNat) - 1) 9) := ⟨(FrA.rf.pI (by decide)).pI (by decide), rfl, fun _ _ _ _ => rfl, fun q i _ h4 => by rw [zI_pI, if_neg (by omega), zI_pI, if_neg (by omega)]⟩
          have S2 : ∀ c y, c < 32 → 1 ≤ y → y ≤ 60 → (Hit (zI s 4) (zI s 5) (zS s 0 14) x.toInt.toNat c y → x2 (pI (pI s 3 (60 * cC (zI s 4 x.toInt.toNat) + cY (zI s 4 x.toInt.toNat) - 1) 0) 2 (60 * cC (zI s 4 x.toInt.toNat) + cY (zI s 4 x.toInt.toNat) - 1) 9) c y = 9 ∧ x3 (pI (pI s 3 (60 * cC (zI s 4 x.toInt.toNat) + cY (zI s 4 x.toInt.toNat) - 1) 0) 2 (60 * cC (zI s 4 x.toInt.toNat) + cY (zI s 4 x.toInt.toNat) - 1) 9) c y = 0) ∧ (¬ Hit (zI s 4) (zI s 5) (zS s 0 14) x.toInt.toNat c y → x2 (pI (pI s 3 (60 * cC (zI s 4 x.toInt.toNat) + cY (zI s 4 x.toInt.toNat) - 1) 0) 2 (60 * cC (zI s 4 x.toInt.toNat) + cY (zI s 4 x.toInt.toNat) - 1) 9) c y = x2 s c y ∧ x3 (pI (pI s 3 (60 * cC (zI s 4 x.toInt.toNat) + cY (zI s 4 x.toInt.toNat) - 1) 0) 2 (60 * cC (zI s 4 x.toInt.toNat) + cY (zI s 4 x.toInt.toNat) - 1) 9) c y = x3 s c y) := fun c y h1 h2 h3 => ⟨fun z => (x_hit hv c y h1 h2 h3).1 z.2.2, fun z => (x_hit hv c y h1 h2 h3).2 (fun w => z ⟨hh, hv, w⟩)⟩
          rw [plX_t hv, b1_some, gd_t gn, jn, if_pos hh, if_neg (by rw [jlt, jl0]; omega), gd_t ⟨by omega, by omega⟩, st, gd_t ⟨by omega, by omega⟩, st, nx.2]
          obtain ⟨r15, e15, -⟩ := w_X0_isRefuge (a0 := zI s 4 x.toInt.toNat / 100) (a1 := zI s 4 x.toInt.toNat % 100) (Lk.rf I2)
          rw [e15, b1_some]
          by_cases z : r15 = 0
          · rw [if_pos z]
            exact key _ I2 K2 rfl S2
          · rw [if_neg z, st]
            exact key _ (I2.wF (q := 15) (k := 9) (by decide) (by decide) trivial) (K2.tr ⟨FrA.rf.pS (by decide), rfl, fun q k h _ => by rw [zS_pS, if_neg (fun z => by rw [z.1, z.2] at h; cases h)], fun _ _ _ _ => rfl⟩) rfl S2
        · rw [plX_f hv, b1_some, gd_t gn, jn, if_pos hh, if_pos (by decide)]
          exact key s I KX.rf rfl (fun c y _ _ _ => ⟨fun z => absurd z.2.1 hv, fun _ => ⟨rfl, rfl⟩⟩)
      · obtain ⟨r4, e4⟩ : ∃ r4, f_X11_placeOf (zI s 4 x.toInt.toNat) = some r4 := by
          by_cases hv : Vc (zI s 4 x.toInt.toNat)
          · exact ⟨_, plX_t hv⟩
          · exact ⟨_, plX_f hv⟩
        rw [e4, b1_some, gd_t gn, jn, if_neg hh]
        exact key s I KX.rf rfl (fun c y _ _ _ => ⟨fun z => absurd z.1 hh, fun _ => ⟨rfl, rfl⟩⟩)
    · rw [if_neg hl]
      rw [jlt] at hl
      exact ⟨s, rfl, I, ⟨KX.rf, rfl⟩, MvQ.no (by omega)⟩
theorem rmM (q0 : SS → Option (Int32 × SS)) (y1 y2 : Int32) : ∀ (n : Nat) (s : SS) (x : Int32), Iv s → 0 ≤ x.toInt → x.toInt ≤ (zS s 59 56).toInt → (zS s 59 56).toInt - x.toInt < n → ∃ r, f_X12_hours_L65 q0 y1 y2 n s x = q0 r ∧ Iv r ∧ (KM s r ∧ zS r 59 1 = zS s 59 1) ∧ MvQ (Hit (zI s 97) (zI s 98) (zS s 59 1)) x.toInt.toNat (zS s 59 56).toInt.toNat 6 (m2 s) (m3 s) (m2 r) (m3 r)
  | 0, s, x, _, _, _, h => by omega
  | n + 1, s, x, I, hx0, hx1, hn => by
    have hf : 0 ≤ (zS s 59 56).toInt ∧ (zS s 59 56).toInt ≤ 60 := I.f (q := 59) (k := 56) rfl
    rw [f_X12_hours_L65, f_X12_hours_L65_b]
    by_cases hl : x < zS s 59 56
    · rw [if_pos hl]
      rw [jlt] at hl
      have gn : inB x 60 := ⟨by omega, by omega⟩
      have n1 : (x + 1).toInt = x.toInt + 1 := by rw [i32_add (by rw [jl1]; omega) (by rw [jl1]; omega), jl1]
      have key : ∀ s', Iv s' → KM s s' → zS s' 59 1 = zS s 59 1 → (∀ c y, c < 32 → 1 ≤ y → y ≤ 60 → (Hit (zI s 97) (zI s 98) (zS s 59 1) x.toInt.toNat c y → m2 s' c y = 6 ∧ m3 s' c y = 0) ∧ (¬ Hit (zI s 97) (zI s 98) (zS s 59 1) x.toInt.toNat c y → m2 s' c y = m2 s c y ∧ m3 s' c y = m3 s c y)) → ∃ r, f_X12_hours_L65 q0 y1 y2 n s' (x + 1) = q0 r ∧ Iv r ∧ (KM s r ∧ zS r 59 1 = zS s 59 1) ∧ MvQ (Hit (zI s 97) (zI s 98) (zS s 59 1)) x.toInt.toNat (zS s 59 56).toInt.toNat 6 (m2 s) (m3 s) (m2 r) (m3 r) := by
        intro s' I' K' h14 hs
        have ec : zS s' 59 56 = zS s 59 56 := K'.2.2.1 59 56 rfl (by omega)
        obtain ⟨r, e, Ir, ⟨Kr, hr⟩, M⟩ := rmM q0 y1 y2 n s' (x + 1) I' (by omega) (by rw [ec]; omega) (by rw [ec]; omega)
        refine ⟨r, e, Ir, ⟨K'.tr Kr, hr.trans h14⟩, MvQ.st (by omega) hs ?_⟩
        have e4 : zI s' 97 = zI s 97 := funext fun i => K'.2.2.2 97 i rfl (by omega)
        have e5 : zI s' 98 = zI s 98 := funext fun i => K'.2.2.2 98 i rfl (by omega)
        rw [e4, e5, h14, ec, n1] at M
        have en : (x.toInt + 1).toNat = x.toInt.toNat + 1 := by omega
        rw [en] at M
        exact M
      rw [gd_t gn, jn]
      by_cases hh : zI s 98 x.toInt.toNat = zS s 59 1
      · have hv : cellOK (zI s 97 x.toInt.toNat) := I.a (q := 97) rfl
        obtain ⟨a, ea⟩ : ∃ a, a = zI s 97 x.toInt.toNat := ⟨_, rfl⟩
        have hv' : cellOK a := by rw [ea]; exact hv
        obtain ⟨v1, v2, v3⟩ := hv'
        have u : cC a < 32 ∧ cY a ≤ 60 := by unfold cC cY; omega
        have nx := nnI (k := 61 * cC a + cY a) (by omega)
        have I2 : Iv (pI (pI s 61 (61 * cC a + cY a) ((0 : Int32) &&& 1)) 60 (61 * cC a + cY a) 6) := (I.wI (q := 61) (by decide) trivial).wI (q := 60) (by decide) trivial
        have K2 : KM s (pI (pI s 61 (61 * cC a + cY a) ((0 : Int32) &&& 1)) 60 (61 * cC a + cY a) 6) := ⟨(FrA.rf.pI (by decide)).pI (by decide), rfl, fun _ _ _ _ => rfl, fun q i _ h4 => by rw [zI_pI, if_neg (by omega), zI_pI, if_neg (by omega)]⟩
        have S2 : ∀ c y, c < 32 → 1 ≤ y → y ≤ 60 → (Hit (zI s 97) (zI s 98) (zS s 59 1) x.toInt.toNat c y → m2 (pI (pI s 61 (61 * cC a + cY a) ((0 : Int32) &&& 1)) 60 (61 * cC a + cY a) 6) c y = 6 ∧ m3 (pI (pI s 61 (61 * cC a + cY a) ((0 : Int32) &&& 1)) 60 (61 * cC a + cY a) 6) c y = 0) ∧ (¬ Hit (zI s 97) (zI s 98) (zS s 59 1) x.toInt.toNat c y → m2 (pI (pI s 61 (61 * cC a + cY a) ((0 : Int32) &&& 1)) 60 (61 * cC a + cY a) 6) c y = m2 s c y ∧ m3 (pI (pI s 61 (61 * cC a + cY a) ((0 : Int32) &&& 1)) 60 (61 * cC a + cY a) 6) c y = m3 s c y) := fun c y h1 h2 h3 => ⟨fun z => (m_hit (by exact ⟨v1, v2, v3⟩) (by decide) c y h1 h2 h3).1 (by rw [ea]; exact z.2.2), fun z => (m_hit (by exact ⟨v1, v2, v3⟩) (by decide) c y h1 h2 h3).2 (fun w => z ⟨hh, by rw [← ea]; exact Vc_of ⟨v1, v2, v3⟩ h2 w.2, by rw [← ea]; exact w⟩)⟩
        rw [if_pos hh, gd_t gn, ← ea, plM v1 v2, b1_some, gd_t ⟨by omega, by omega⟩, st, gd_t ⟨by omega, by omega⟩, st, nx.2]
        have fin1 := key _ I2 K2 rfl S2
        have fin2 := key _ (I2.wF (q := 59) (k := 25) (v := 1) (by decide) (by decide) trivial) (K2.tr ⟨FrA.rf.pS (by decide), rfl, fun q k h _ => by rw [zS_pS, if_neg (fun z => by rw [z.1, z.2] at h; cases h)], fun _ _ _ _ => rfl⟩) rfl S2
        by_cases z : zS (pI (pI s 61 (61 * cC a + cY a) ((0 : Int32) &&& 1)) 60 (61 * cC a + cY a) 6) 59 21 < 0
        · rw [if_pos z]
          exact fin1
        · rw [if_neg z, gd_t gn]
          by_cases z2 : zI (pI (pI s 61 (61 * cC a + cY a) ((0 : Int32) &&& 1)) 60 (61 * cC a + cY a) 6) 97 x.toInt.toNat % 100 = zS (pI (pI s 61 (61 * cC a + cY a) ((0 : Int32) &&& 1)) 60 (61 * cC a + cY a) 6) 59 24
          · rw [if_pos z2, gd_t gn]
            obtain ⟨r26, e26, -⟩ := w_X12_in (a0 := zI (pI (pI s 61 (61 * cC a + cY a) ((0 : Int32) &&& 1)) 60 (61 * cC a + cY a) 6) 97 x.toInt.toNat / 100) (a1 := zS (pI (pI s 61 (61 * cC a + cY a) ((0 : Int32) &&& 1)) 60 (61 * cC a + cY a) 6) 59 22) (a2 := zS (pI (pI s 61 (61 * cC a + cY a) ((0 : Int32) &&& 1)) 60 (61 * cC a + cY a) 6) 59 23)
            rw [e26, b1_some]
            by_cases z3 : r26 = 0
            · rw [if_pos z3]
              exact fin1
            · rw [if_neg z3, st]
              exact fin2
          · rw [if_neg z2]
            exact fin1
      · rw [if_neg hh]
        exact key s I KM.rf rfl (fun c y _ _ _ => ⟨fun z => absurd z.1 hh, fun _ => ⟨rfl, rfl⟩⟩)
    · rw [if_neg hl]
      rw [jlt] at hl
      exact ⟨s, rfl, I, ⟨KM.rf, rfl⟩, MvQ.no (by omega)⟩
theorem hourX {s : SS} (I : Iv s) : ∃ r, f_X11_hourGoesBy s = some r ∧ Iv r ∧ KX s r ∧ zS r 0 14 = zS s 0 14 + 1 ∧ MvQ (Hit (zI s 4) (zI s 5) (zS s 0 14 + 1)) 0 (zS s 1 4).toInt.toNat 9 (x2 s) (x3 s) (x2 r) (x3 r) := by
  have Ib : Iv (pS s 0 14 (zS s 0 14 + 1)) := I.wF (q := 0) (k := 14) (by decide) (by decide) trivial
  have K0 : KX s (pS s 0 14 (zS s 0 14 + 1)) := ⟨FrA.rf.pS (by decide), rfl, fun q k _ h => by rw [zS_pS, if_neg h], fun _ _ _ _ => rfl⟩
  have fin : ∀ s7, Lk (pS s 0 14 (zS s 0 14 + 1)) s7 → ∃ r, (b1 (f_X11_rockMoves s7) fun s8 => some s8) = some r ∧ Iv r ∧ KX s r ∧ zS r 0 14 = zS s 0 14 + 1 ∧ MvQ (Hit (zI s 4) (zI s 5) (zS s 0 14 + 1)) 0 (zS s 1 4).toInt.toNat 9 (x2 s) (x3 s) (x2 r) (x3 r) := by
    intro s7 K7
    have hf : 0 ≤ (zS s7 1 4).toInt ∧ (zS s7 1 4).toInt ≤ 60 := K7.1.f (q := 1) (k := 4) rfl
    obtain ⟨r, e, Ir, ⟨Kr, hr⟩, M⟩ := rmX 4000 s7 0 K7.1 (by decide) (by rw [jl0]; exact hf.1) (by rw [jl0]; omega)
    have h14 : zS s7 0 14 = zS s 0 14 + 1 := K7.2.2.1 0 14 rfl
    have hc : zS s7 1 4 = zS s 1 4 := K7.2.2.1 1 4 rfl
    have e4 : zI s7 4 = zI s 4 := funext fun i => K7.2.2.2.1 4 i rfl
    have e5 : zI s7 5 = zI s 5 := funext fun i => K7.2.2.2.1 5 i rfl
    have f2 : x2 s7 = x2 s := funext fun c => funext fun y => K7.2.2.2.1 2 _ rfl
    have f3 : x3 s7 = x3 s := funext fun c => funext fun y => K7.2.2.2.1 3 _ rfl
    rw [e4, e5, h14, hc, f2, f3] at M
    refine ⟨r, ?_, Ir, K0.tr (K7.KX.tr Kr), hr.trans h14, M⟩
    unfold f_X11_rockMoves
    rw [e, b1_some]
  have mid : ∀ s5, Lk (pS s 0 14 (zS s 0 14 + 1)) s5 → ∃ r, (b1 (f_X9_arrivals s5 (zS s5 0 14)) fun s6 => (jn (fun (s7 : SS)  => (b1 (f_X11_rockMoves s7) fun s8 => some s8)) fun k7 => (if ((zS s6 0 14) % (24 : Int32)) = (0 : Int32) then (b1 (f_X11_menEat s6) fun s11 => (k7 s11)) else (k7 s6)))) = some r ∧ Iv r ∧ KX s r ∧ zS r 0 14 = zS s 0 14 + 1 ∧ MvQ (Hit (zI s 4) (zI s 5) (zS s 0 14 + 1)) 0 (zS s 1 4).toInt.toNat 9 (x2 s) (x3 s) (x2 r) (x3 r) := by
    intro s5 K5
    obtain ⟨s6, e6, K6⟩ := w_X9_arrivals (a0 := zS s5 0 14) K5
    rw [e6, b1_some, jn]
    by_cases z : zS s6 0 14 % 24 = 0
    · rw [if_pos z]
      obtain ⟨s11, e11, K11⟩ := w_X11_menEat K6
      rw [e11, b1_some]
      exact fin s11 K11
    · rw [if_neg z]
      exact fin s6 K6
  unfold f_X11_hourGoesBy
  rw [vl, st]
  obtain ⟨r3, e3, -⟩ := w_X11_latestText (a0 := 0) (a1 := 2) (a2 := zS (pS s 0 14 (zS s 0 14 + 1)) 0 14) (a3 := zS (pS s 0 14 (zS s 0 14 + 1)) 0 14) (Lk.rf Ib)
  rw [e3, b1_some]
  obtain ⟨⟨r4, s4⟩, e4, K4⟩ := w_X11_given (a0 := r3) (a1 := 2) (a2 := -1) (Lk.rf Ib)
  rw [e4, bd_some, jn]
  by_cases z : r4 = 0
  · rw [if_pos z]
    obtain ⟨s13, e13, K13⟩ := w_X11_machinesWork K4
    rw [e13, b1_some]
    exact mid s13 K13
  · rw [if_neg z]
    exact mid s4 K4
/-- the reference's hour, what follows it apart -/
theorem hourM {s : SS} (I : Iv s) (y1 x : Int32) (n : Nat) (hl : x < y1) : ∃ r, f_X12_hours_L26 y1 (n + 1) s x = f_X12_hours_L26 y1 n r (x + 1) ∧ Iv r ∧ KM s r ∧ zS r 59 1 = zS s 59 1 + 1 ∧ MvQ (Hit (zI s 97) (zI s 98) (zS s 59 1 + 1)) 0 (zS s 59 56).toInt.toNat 6 (m2 s) (m3 s) (m2 r) (m3 r) := by
  have Ib : Iv (pS s 59 1 (zS s 59 1 + 1)) := I.wF (q := 59) (k := 1) (by decide) (by decide) trivial
  have K0 : KM s (pS s 59 1 (zS s 59 1 + 1)) := ⟨FrA.rf.pS (by decide), rfl, fun q k _ h => by rw [zS_pS, if_neg h], fun _ _ _ _ => rfl⟩
  have fin : ∀ s7, Lk (pS s 59 1 (zS s 59 1 + 1)) s7 → ∃ r, f_X12_hours_L65 (fun (s29 : SS)  => (vl (x + 1) fun v30 => (f_X12_hours_L26 y1 n s29 v30))) y1 x 4000 s7 0 = f_X12_hours_L26 y1 n r (x + 1) ∧ Iv r ∧ KM s r ∧ zS r 59 1 = zS s 59 1 + 1 ∧ MvQ (Hit (zI s 97) (zI s 98) (zS s 59 1 + 1)) 0 (zS s 59 56).toInt.toNat 6 (m2 s) (m3 s) (m2 r) (m3 r) := by
    intro s7 K7
    have hf : 0 ≤ (zS s7 59 56).toInt ∧ (zS s7 59 56).toInt ≤ 60 := K7.1.f (q := 59) (k := 56) rfl
    obtain ⟨r, e, Ir, ⟨Kr, hr⟩, M⟩ := rmM (fun (s29 : SS)  => (vl (x + 1) fun v30 => (f_X12_hours_L26 y1 n s29 v30))) y1 x 4000 s7 0 K7.1 (by decide) (by rw [jl0]; exact hf.1) (by rw [jl0]; omega)
    have h14 : zS s7 59 1 = zS s 59 1 + 1 := K7.2.2.1 59 1 rfl
    have hc : zS s7 59 56 = zS s 59 56 := K7.2.2.1 59 56 rfl
    have e4 : zI s7 97 = zI s 97 := funext fun i => K7.2.2.2.1 97 i rfl
    have e5 : zI s7 98 = zI s 98 := funext fun i => K7.2.2.2.1 98 i rfl
    have f2 : m2 s7 = m2 s := funext fun c => funext fun y => K7.2.2.2.1 60 _ rfl
    have f3 : m3 s7 = m3 s := funext fun c => funext fun y => K7.2.2.2.1 61 _ rfl
    rw [e4, e5, h14, hc, f2, f3] at M
    exact ⟨r, by rw [e, vl], Ir, K0.tr (K7.KM.tr Kr), hr.trans h14, M⟩
  rw [f_X12_hours_L26, f_X12_hours_L26_b, if_pos hl, vl, st]
  obtain ⟨s7, e7, K7⟩ := w_X12_drill (Lk.rf Ib)
  obtain ⟨s8, e8, K8⟩ := w_X12_comeDown K7
  rw [e7, b1_some, e8, b1_some, jn]
  by_cases z : zS s8 59 1 % 24 = 0
  · rw [if_pos z]
    obtain ⟨s32, e32, K32⟩ := w_X12_eat K8
    rw [e32, b1_some]
    exact fin s32 K32
  · rw [if_neg z]
    exact fin s8 K8
theorem hrs (y1 : Int32) : ∀ (m n n' : Nat) (s t : SS) (x : Int32), Iv s → Iv t → RTx s t → RKx s t → y1.toInt - x.toInt = m → m < n → m < n' → (zS s 0 14).toInt + m ≤ 1699 → ∃ r u, f_X11_hours_L27 y1 n s x = some (zS r 0 14, r) ∧ f_X12_hours_L26 y1 n' t x = some (zS u 59 1, u) ∧ Iv r ∧ Iv u ∧ RTx r u ∧ RKx r u ∧ KX s r ∧ KM t u
  | 0, n + 1, n' + 1, s, t, x, I, J, T, R, hm, _, _, _ => by
    have hl : ¬ x < y1 := by rw [jlt]; omega
    refine ⟨s, t, ?_, ?_, I, J, T, R, KX.rf, KM.rf⟩
    · rw [f_X11_hours_L27, f_X11_hours_L27_b, if_neg hl]
    · rw [f_X12_hours_L26, f_X12_hours_L26_b, if_neg hl]
  | m + 1, n + 1, n' + 1, s, t, x, I, J, T, R, hm, hn, hn', hh => by
    have hl : x < y1 := by rw [jlt]; omega
    have ly := jlo y1
    have lx := jlo x
    have n1 : (x + 1).toInt = x.toInt + 1 := by rw [i32_add (by rw [jl1]; omega) (by rw [jl1]; omega), jl1]
    obtain ⟨t1, t2, t3, t4, t5, t6⟩ := T
    have n2 : (zS s 0 14 + 1).toInt = (zS s 0 14).toInt + 1 := by rw [i32_add (by rw [jl1]; omega) (by rw [jl1]; omega), jl1]
    obtain ⟨s1, e1, I1, K1, h1, M1⟩ := hourX I
    obtain ⟨u1, f1, J1, L1, g1, N1⟩ := hourM J y1 x n' hl
    have T1 : RTx s1 u1 := by
      refine ⟨by rw [h1, g1, t1], by rw [K1.2.2.1 1 4 rfl (by omega), L1.2.2.1 59 56 rfl (by omega), t2], fun i => ?_, fun i => ?_, by rw [h1, n2]; omega, by rw [h1, n2]; omega⟩
      · rw [K1.2.2.2 4 i rfl (by omega), L1.2.2.2 97 i rfl (by omega)]; exact t3 i
      · rw [K1.2.2.2 5 i rfl (by omega), L1.2.2.2 98 i rfl (by omega)]; exact t4 i
    have e97 : zI t 97 = zI s 4 := funext fun i => (t3 i).symm
    have e98 : zI t 98 = zI s 5 := funext fun i => (t4 i).symm
    rw [e97, e98, ← t1, ← t2] at N1
    have R1 : RKx s1 u1 := by
      intro c y a1 a2 a3
      obtain ⟨p1, p2⟩ := M1 c y a1 a2 a3
      obtain ⟨q1, q2⟩ := N1 c y a1 a2 a3
      show x2 s1 c y = 3 + m2 u1 c y ∧ x3 s1 c y = m3 u1 c y ∧ (m3 u1 c y = 0 ∨ m3 u1 c y = 1)
      by_cases z : ∃ i, 0 ≤ i ∧ i < (zS s 1 4).toInt.toNat ∧ Hit (zI s 4) (zI s 5) (zS s 0 14 + 1) i c y
      · rw [(p1 z).1, (p1 z).2, (q1 z).1, (q1 z).2]
        exact ⟨by decide, rfl, Or.inl rfl⟩
      · rw [(p2 z).1, (p2 z).2, (q2 z).1, (q2 z).2]
        exact R c y a1 a2 a3
    obtain ⟨r, u, e2, f2, I2, J2, T2, R2, K2, L2⟩ := hrs y1 m n n' s1 u1 (x + 1) I1 J1 T1 R1 (by omega) (by omega) (by omega) (by rw [h1, n2]; omega)
    refine ⟨r, u, ?_, f1.trans f2, I2, J2, T2, R2, K1.tr K2, L1.tr L2⟩
    rw [f_X11_hours_L27, f_X11_hours_L27_b, if_pos hl, e1, b1_some, vl]
    exact e2
theorem st_hours {s : SS} (G : GI s) (a0 : Int32) : ∃ (rx : Int32) (s1 : SS) (rm : Int32) (s2 : SS), f_X11_hours s a0 = some (rx, s1) ∧ f_X12_hours s1 a0 = some (rm, s2) ∧ GI s2 ∧ rx = rm := by
  obtain ⟨T, R, TR1⟩ := G.2
  obtain ⟨t1, t2, t3, t4, t5, t6⟩ := id T
  by_cases c : 1 ≤ a0.toInt ∧ a0.toInt ≤ 48
  · have na : (zS s 0 14 + a0).toInt = (zS s 0 14).toInt + a0.toInt := i32_add (by omega) (by omega)
    by_cases d : (zS s 0 14).toInt + a0.toInt ≤ 1699
    · obtain ⟨m, em⟩ : ∃ m : Nat, a0.toInt = m := ⟨a0.toInt.toNat, by omega⟩
      obtain ⟨r, _, er, _, Ir, _, _, _, Kr, _⟩ := hrs a0 m 4000 4000 s s 0 G.1.1 G.1.1 T R (by rw [jl0]; omega) (by omega) (by omega) (by omega)
      have Tr : RTx s r := ⟨by rw [Kr.2.2.1 59 1 rfl (by omega)]; exact t1, by rw [Kr.2.2.1 59 56 rfl (by omega)]; exact t2, fun i => by rw [Kr.2.2.2 97 i rfl (by omega)]; exact t3 i, fun i => by rw [Kr.2.2.2 98 i rfl (by omega)]; exact t4 i, t5, t6⟩
      have Rr : RKx s r := fun c y h1 h2 h3 => by rw [Kr.2.2.2 60 _ rfl (by omega), Kr.2.2.2 61 _ rfl (by omega)]; exact R c y h1 h2 h3
      obtain ⟨r', u, er', fu, Ir', Iu, Tu, Ru, Ku, Lu⟩ := hrs a0 m 4000 4000 s r 0 G.1.1 Ir Tr Rr (by rw [jl0]; omega) (by omega) (by omega) (by omega)
      have err : r' = r := by
        have := er'.symm.trans er
        exact congrArg Prod.snd (Option.some.inj this)
      rw [err] at er' Tu Ru Ku
      obtain ⟨u1, u2, u3, u4, u5⟩ := id Tu
      refine ⟨zS r 0 14, r, zS u 59 1, u, ?_, ?_, ⟨G.1.go (Ku.1.tr Lu.1) (fun i => ?_) Iu, ⟨?_, ?_, ?_⟩⟩, u1⟩
      · unfold f_X11_hours
        rw [if_neg (by rw [jlt, jl1]; omega), if_neg (by rw [jlt, show (48 : Int32).toInt = 48 from rfl]; omega), if_neg (by rw [jlt, jl1699]; omega), er']
      · unfold f_X12_hours
        rw [in_t (by rw [jl1, show (48 : Int32).toInt = 48 from rfl]; omega), b1_some, if_neg (by decide), if_neg (by rw [jlt, jl1699, ← Tr.1]; omega), fu]
      · show u.2.2.2.1 17 i = _
        rw [Lu.2.1, Ku.2.1]
        rfl
      · refine ⟨by rw [Lu.2.2.1 0 14 rfl (by omega)]; exact u1, by rw [Lu.2.2.1 1 4 rfl (by omega)]; exact u2, fun i => by rw [Lu.2.2.2 4 i rfl (by omega)]; exact u3 i, fun i => by rw [Lu.2.2.2 5 i rfl (by omega)]; exact u4 i, ?_⟩
        rw [Lu.2.2.1 0 14 rfl (by omega)]
        exact u5
      · intro c y h1 h2 h3
        rw [Lu.2.2.2 2 _ rfl (by omega), Lu.2.2.2 3 _ rfl (by omega)]
        exact Ru c y h1 h2 h3
      · have w : ∀ q k, fSB q k = true → ¬ (q = 0 ∧ k = 14) → ¬ (q = 59 ∧ k = 1) → zS u q k = zS s q k := fun q k h a b => (Lu.2.2.1 q k h b).trans (Ku.2.2.1 q k h a)
        have wI : ∀ q i, fIB q = true → 4 ≤ q → q ≠ 60 ∧ q ≠ 61 → zI u q i = zI s q i := fun q i h a b => (Lu.2.2.2 q i h b).trans (Ku.2.2.2 q i h a)
        obtain ⟨⟨r1, r2⟩, ⟨a1, a2, a3⟩, b⟩ := TR1
        refine ⟨⟨by rw [w 15 11 rfl (by omega) (by omega), w 59 87 rfl (by omega) (by omega)]; exact r1, fun i => by rw [wI 18 i rfl (by omega) (by omega), wI 119 i rfl (by omega) (by omega)]; exact r2 i⟩, ⟨by rw [w 24 1 rfl (by omega) (by omega), w 59 37 rfl (by omega) (by omega)]; exact a1, by unfold xn; rw [w 24 1 rfl (by omega) (by omega)]; exact a2, fun i hi => by rw [wI 25 i rfl (by omega) (by omega), wI 86 i rfl (by omega) (by omega)]; exact a3 i hi⟩, by rw [w 0 8 rfl (by omega) (by omega), w 59 38 rfl (by omega) (by omega)]; exact b⟩
    · refine ⟨-1, s, -1, s, ?_, ?_, G, rfl⟩
      · unfold f_X11_hours
        rw [if_neg (by rw [jlt, jl1]; omega), if_neg (by rw [jlt, show (48 : Int32).toInt = 48 from rfl]; omega), if_pos (by rw [jlt, jl1699]; omega)]
      · unfold f_X12_hours
        rw [in_t (by rw [jl1, show (48 : Int32).toInt = 48 from rfl]; omega), b1_some, if_neg (by decide), if_pos (by rw [jlt, jl1699, ← t1]; omega)]
  · refine ⟨-1, s, -1, s, ?_, ?_, G, rfl⟩
    · unfold f_X11_hours
      by_cases h : a0 < 1
      · rw [if_pos h]
      · rw [if_neg h, if_pos (by rw [jlt, show (48 : Int32).toInt = 48 from rfl]; rw [jlt, jl1] at h; omega)]
    · unfold f_X12_hours
      rw [in_f (by rw [jl1, show (48 : Int32).toInt = 48 from rfl]; omega), b1_some, if_pos rfl]
