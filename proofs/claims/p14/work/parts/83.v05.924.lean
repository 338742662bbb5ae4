/-! THE REFERENCE BORES, HOLE BY HOLE; the class's hole where another is bored -/
section DHs
variable {s s' t t' u0 : SS}
/-- the rows of hole i as before -/
def sRw (i : Nat) (t t' : SS) : Prop := (∀ q, 63 ≤ q → q ≤ 69 ∨ q = 104 → zI t' q i = zI t q i) ∧ ∀ q y, 70 ≤ q → q ≤ 73 → 1 ≤ y → y ≤ 60 → zI t' q (61 * i + y) = zI t q (61 * i + y)
theorem sRw.rf {i : Nat} : sRw i t t := ⟨fun _ _ _ => rfl, fun _ _ _ _ _ _ => rfl⟩
theorem sRw.tr {i : Nat} {r : SS} (h : sRw i t t') (g : sRw i t' r) : sRw i t r := ⟨fun q a b => (g.1 q a b).trans (h.1 q a b), fun q y a b c d => (g.2 q y a b c d).trans (h.2 q y a b c d)⟩
theorem mW.row {i n : Nat} (h : mW n t t') (ne : i ≠ n) : sRw i t t' := ⟨fun q a b => h.1 q i a b ne, fun q y a b c d => h.2.1 q i y a b ne c d⟩
/-- all but the holes' rows as before -/
def dFr (t t' : SS) : Prop := (∀ q k, zS t' q k = zS t q k) ∧ ∀ q j, q < 63 ∨ 73 < q → q ≠ 104 → zI t' q j = zI t q j
theorem dFr.rf : dFr t t := ⟨fun _ _ => rfl, fun _ _ _ _ => rfl⟩
theorem dFr.w {n : Nat} {r : SS} (h : dFr t t') (g : mW n t' r) (e : ∀ q k, zS r q k = zS t' q k) : dFr t r := ⟨fun q k => (e q k).trans (h.1 q k), fun q j a b => (g.2.2 q j a b).trans (h.2 q j a b)⟩
theorem dr119_l {G : Nat → SS → Prop} (hN : 0 ≤ (zS u0 59 4).toInt ∧ (zS u0 59 4).toInt ≤ 120) (hG : ∀ i u u', sRw i u u' → G i u → G i u') (h0 : ∀ (i : Nat) u, (i : Int) < (zS u0 59 4).toInt → zI u0 99 i = 0 → sRw i u0 u → G i u) (hb : ∀ (i : Nat) u (x : Int32), x.toInt = i → (i : Int) < (zS u0 59 4).toInt → ¬ zI u0 99 i = 0 → dFr u0 u → sRw i u0 u → Pc (f_X12_bore u x (zI u0 100 i)) (fun u' => G i u' ∧ mW i u u' ∧ ∀ q k, zS u' q k = zS u q k)) : ∀ (n : Nat) (u : SS) (x : Int32) (k : Nat), x.toInt = k → (k : Int) ≤ (zS u0 59 4).toInt → dFr u0 u → (∀ i, k ≤ i → sRw i u0 u) → (∀ i, i < k → G i u) → Pc (f_X12_drill_L119 n u x) (fun r => dFr u0 r ∧ (∀ i : Nat, (zS u0 59 4).toInt ≤ i → sRw i u0 r) ∧ ∀ i : Nat, (i : Int) < (zS u0 59 4).toInt → G i r)
  | 0, _, _, _, _, _, _, _, _ => Pc_none
  | n + 1, u, x, k, hx, hk, F, a1, a2 => by
    show Pc (f_X12_drill_L119_b (f_X12_drill_L119 n) u x) _
    unfold f_X12_drill_L119_b
    have xt : x.toInt.toNat = k := by omega
    rw [F.1 59 4, xt]
    have e99 : zI u 99 k = zI u0 99 k := F.2 99 k (by omega) (by omega)
    have e100 : zI u 100 k = zI u0 100 k := F.2 100 k (by omega) (by omega)
    rw [e99, e100]
    refine Pc_lt (fun c => Pc_gd fun _ => Pc_jn (Pc_if (fun z => ?_) (fun z => ?_))) (fun c => Pc_some ⟨F, fun i hi => a1 i (by omega), fun i hi => a2 i (by omega)⟩)
    · have n1 : (x + 1).toInt = ((k + 1 : Nat) : Int) := by rw [i32_add (by rw [jl1]; omega) (by rw [jl1]; omega), jl1]; omega
      refine Pc_vl (dr119_l hN hG h0 hb n u (x + 1) (k + 1) n1 (by omega) F (fun i hi => a1 i (by omega)) (fun i hi => ?_))
      by_cases d : i = k
      · rw [d]; exact h0 k u (by omega) z (a1 k (Nat.le_refl k))
      · exact a2 i (by omega)
    · have n1 : (x + 1).toInt = ((k + 1 : Nat) : Int) := by rw [i32_add (by rw [jl1]; omega) (by rw [jl1]; omega), jl1]; omega
      refine Pc_gd fun _ => Pc_b1 (Pc.mono (hb k u x hx (by omega) z F (a1 k (Nat.le_refl k))) (fun u' h => ?_))
      obtain ⟨g1, g2, g3⟩ := h
      refine Pc_vl (dr119_l hN hG h0 hb n u' (x + 1) (k + 1) n1 (by omega) (F.w g2 g3) (fun i hi => (a1 i (by omega)).tr (g2.row (by omega))) (fun i hi => ?_))
      by_cases d : i = k
      · rw [d]; exact g1
      · exact hG i u u' (g2.row d) (a2 i (by omega))
/-- the class's hole at p as before -/
def sHp (p : Nat) (s s' : SS) : Prop := (∀ k, zS s' p k = zS s p k) ∧ (∀ j, zI s' (p + 1) j = zI s (p + 1) j) ∧ (∀ j, zI s' (p + 2) j = zI s (p + 2) j) ∧ ∀ j, zI s' (p + 3) j = zI s (p + 3) j
theorem sHp.rf {p : Nat} : sHp p s s := ⟨fun _ => rfl, fun _ => rfl, fun _ => rfl, fun _ => rfl⟩
theorem sHp.tr {p : Nat} {r : SS} (h : sHp p s s') (g : sHp p s' r) : sHp p s r := ⟨fun k => (g.1 k).trans (h.1 k), fun j => (g.2.1 j).trans (h.2.1 j), fun j => (g.2.2.1 j).trans (h.2.2.1 j), fun j => (g.2.2.2 j).trans (h.2.2.2 j)⟩
theorem HX.h {p i : Nat} (x : HX s p t i) (h : sHp p s s') (g : sRw i t t') : HX s' p t' i := by
  obtain ⟨x0, x1, x2, x3, x4, x5, x6, x7, x8⟩ := x
  refine ⟨?_, ?_, ?_, ?_, ?_, ?_, ?_, ?_, fun y y1 y2 => ?_⟩
  · rw [h.1, g.1 63 (by omega) (by omega)]; exact x0
  · rw [h.1, g.1 64 (by omega) (by omega)]; exact x1
  · rw [h.1, g.1 65 (by omega) (by omega)]; exact x2
  · rw [h.1, g.1 66 (by omega) (by omega)]; exact x3
  · rw [h.1, g.1 67 (by omega) (by omega)]; exact x4
  · rw [h.1, g.1 68 (by omega) (by omega)]; exact x5
  · rw [h.1, g.1 69 (by omega) (by omega)]; exact x6
  · rw [h.1, g.1 104 (by omega) (by omega)]; exact x7
  · rw [h.2.1, h.2.2.1, h.2.2.2, g.2 70 y (by omega) (by omega) y1 y2, g.2 71 y (by omega) (by omega) y1 y2, g.2 72 y (by omega) (by omega) y1 y2, g.2 73 y (by omega) (by omega) y1 y2]
    exact x8 y y1 y2
theorem MD.h {p q : Nat} (o : okH s p) (o' : okH s q) (ne : q ≠ p) (h : MD p s s') : sHp q s s' := by
  obtain ⟨⟨a1, a2, a3⟩, b1, b2, b3⟩ := apart o o' ne
  have q1 := o'.1
  have h1 := h.1
  exact ⟨fun k => h1.1 q k q1 ne, fun j => h1.2.1 (q + 1) j (by omega) (by omega) (by omega) (by omega), fun j => h1.2.1 (q + 2) j (by omega) (by omega) (by omega) (by omega), fun j => h1.2.1 (q + 3) j (by omega) (by omega) (by omega) (by omega)⟩
end DHs
