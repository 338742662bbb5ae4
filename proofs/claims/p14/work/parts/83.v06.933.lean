/-! THE HOUR'S LAST PART: the rock moves, both sides in lockstep -/
section MVs
variable {s t s0 t0 : SS} {a : Int32}
def s2v (s : SS) (a : Int32) : SS := pI (pI s 3 (60 * cC a + cY a - 1) 0) 2 (60 * cC a + cY a - 1) 9
def t2v (t : SS) (a : Int32) : SS := pI (pI t 61 (61 * cC a + cY a) ((0 : Int32) &&& 1)) 60 (61 * cC a + cY a) 6
def hitX (s : SS) (a : Int32) : Prop := ¬ zS s 15 5 < 0 ∧ a % 100 = zS s 15 8 ∧ ¬ a / 100 < zS s 15 6 ∧ ¬ zS s 15 7 < a / 100
def hitM (t : SS) (a : Int32) : Prop := ¬ zS t 59 21 < 0 ∧ a % 100 = zS t 59 24 ∧ ¬ a / 100 < zS t 59 22 ∧ ¬ zS t 59 23 < a / 100
theorem mvM {q0 : SS → Option (Int32 × SS)} {y1 y2 x : Int32} {m : Nat} {R : Int32 × SS → Prop} (cm : x < zS t 59 56) (ea : zI t 97 x.toInt.toNat = a) (hh : zI t 98 x.toInt.toNat = zS t 59 1) (ok : cellOK a) (h1 : hitM t a → Pc (f_X12_hours_L65 q0 y1 y2 m (pS (t2v t a) 59 25 1) (x + 1)) R) (h2 : ¬ hitM t a → Pc (f_X12_hours_L65 q0 y1 y2 m (t2v t a) (x + 1)) R) : Pc (f_X12_hours_L65 q0 y1 y2 (m + 1) t x) R := by
  obtain ⟨v1, v2, v3⟩ := ok
  have u : cC a < 32 ∧ cY a ≤ 60 := by unfold cC cY; omega
  have nm := nnI (k := 61 * cC a + cY a) (by omega)
  show Pc (f_X12_hours_L65_b q0 y1 y2 (f_X12_hours_L65 q0 y1 y2 m) t x) R
  unfold f_X12_hours_L65_b
  refine Pc_ift cm (Pc_gd fun _ => Pc_jn (Pc_ift hh (Pc_gd fun _ => ?_)))
  rw [ea, plM v1 v2]
  refine Pc_b1S (Pc_gd fun _ => Pc_st (Pc_gd fun _ => Pc_st ?_))
  rw [nm.2]
  have e97 : zI (t2v t a) 97 x.toInt.toNat = a := by unfold t2v; rw [zI_pI, if_neg (by omega), zI_pI, if_neg (by omega)]; exact ea
  have et : pI (pI t 61 (61 * cC a + cY a) ((0 : Int32) &&& 1)) 60 (61 * cC a + cY a) 6 = t2v t a := rfl
  rw [et]
  have z : ∀ k, zS (t2v t a) 59 k = zS t 59 k := fun _ => rfl
  rw [e97, z, z, z, z]
  refine Pc_if (fun c => Pc_vl (h2 (fun w => w.1 c))) (fun c => Pc_gd fun _ => Pc_if (fun d => Pc_gd fun _ => ?_) (fun d => Pc_vl (h2 (fun w => d w.2.1))))
  by_cases e : (zS t 59 22).toInt ≤ (a / 100).toInt ∧ (a / 100).toInt ≤ (zS t 59 23).toInt
  · rw [in_t e]
    exact Pc_b1S (Pc_iff (by decide) (Pc_st (Pc_vl (h1 ⟨c, d, by rw [jlt]; omega, by rw [jlt]; omega⟩))))
  · rw [in_f e]
    refine Pc_b1S (Pc_ift rfl (Pc_vl (h2 (fun w => e ?_))))
    have w1 := w.2.2.1
    have w2 := w.2.2.2
    rw [jlt] at w1 w2
    omega
theorem mvX {x : Int32} {n : Nat} {P : SS → Prop} (c : x < zS s 1 4) (ea : zI s 4 x.toInt.toNat = a) (hh : zI s 5 x.toInt.toNat = zS s 0 14) (hv : Vc a) (h1 : hitX s a → Pc (f_X11_rockMoves_L2 n (pS (s2v s a) 15 9 1) (x + 1)) P) (h2 : ¬ hitX s a → Pc (f_X11_rockMoves_L2 n (s2v s a) (x + 1)) P) : Pc (f_X11_rockMoves_L2 (n + 1) s x) P := by
  obtain ⟨u1, u2, u3⟩ := hv.b
  have nx := nnI (k := 60 * cC a + cY a - 1) (by omega)
  show Pc (f_X11_rockMoves_L2_b (f_X11_rockMoves_L2 n) s x) P
  unfold f_X11_rockMoves_L2_b
  refine Pc_ift c (Pc_gd fun _ => Pc_vl ?_)
  rw [ea, plX_t hv]
  refine Pc_b1S (Pc_gd fun _ => Pc_jn (Pc_ift hh (Pc_iff (by rw [jlt, jl0]; omega) (Pc_gd fun _ => Pc_st (Pc_gd fun _ => Pc_st ?_)))))
  rw [nx.2]
  have es : pI (pI s 3 (60 * cC a + cY a - 1) 0) 2 (60 * cC a + cY a - 1) 9 = s2v s a := rfl
  rw [es]
  by_cases z : hitX s a
  · have rr : f_X0_isRefuge (s2v s a) (a / 100) (a % 100) = some 1 := by
      rw [refX, if_pos (show ¬ zS (s2v s a) 15 5 < 0 ∧ a % 100 = zS (s2v s a) 15 8 ∧ ¬ a / 100 < zS (s2v s a) 15 6 ∧ ¬ zS (s2v s a) 15 7 < a / 100 from z)]
    rw [rr]
    exact Pc_b1S (Pc_iff (by decide) (Pc_st (Pc_vl (h1 z))))
  · have rr : f_X0_isRefuge (s2v s a) (a / 100) (a % 100) = some 0 := by
      rw [refX, if_neg (show ¬ (¬ zS (s2v s a) 15 5 < 0 ∧ a % 100 = zS (s2v s a) 15 8 ∧ ¬ a / 100 < zS (s2v s a) 15 6 ∧ ¬ zS (s2v s a) 15 7 < a / 100) from z)]
    rw [rr]
    exact Pc_b1S (Pc_ift rfl (Pc_vl (h2 z)))
/-- where the moves have come to -/
def MVq (s0 t0 s t : SS) : Prop := RKx s t ∧ zS s 15 9 = zS t 59 25 ∧ Frm [(15, 9)] [2, 3] [] s0 s ∧ Frm [(59, 25)] [60, 61] [] t0 t ∧ (∀ j, zI s 2 j = zI s0 2 j ∨ zI s 2 j = 9) ∧ Iv s ∧ Iv t
theorem MVq.b (M : MVq s0 t0 s t) (hv : Vc a) : MVq s0 t0 (s2v s a) (t2v t a) := by
  obtain ⟨rk, e, F, G, h9, I1, I2⟩ := M
  obtain ⟨u1, u2, u3⟩ := hv.b
  refine ⟨fun c y h1 h2 h3 => ?_, e, (F.pI (by decide)).pI (by decide), (G.pI (by decide)).pI (by decide), fun j => ?_, (I1.wI (q := 3) (by decide) trivial).wI (q := 2) (by decide) trivial, (I2.wI (q := 61) (by decide) trivial).wI (q := 60) (by decide) trivial⟩
  · unfold s2v t2v
    by_cases z : c = cC a ∧ y = cY a
    · rw [z.1, z.2, zI_pI, if_pos ⟨rfl, rfl⟩, zI_pI, if_pos ⟨rfl, rfl⟩, zI_pI, if_neg (by omega), zI_pI, if_pos ⟨rfl, rfl⟩, zI_pI, if_neg (by omega), zI_pI, if_pos ⟨rfl, rfl⟩]
      exact ⟨by decide, by decide, Or.inl (by decide)⟩
    · rw [zI_pI, if_neg (by omega), zI_pI, if_neg (by omega), zI_pI, if_neg (by omega), zI_pI, if_neg (by omega), zI_pI, if_neg (by omega), zI_pI, if_neg (by omega), zI_pI, if_neg (by omega), zI_pI, if_neg (by omega)]
      exact rk c y h1 h2 h3
  · unfold s2v
    rw [zI_pI]
    by_cases z : j = 60 * cC a + cY a - 1
    · rw [if_pos ⟨rfl, z⟩]; exact Or.inr rfl
    · rw [if_neg (fun w => z w.2), zI_pI, if_neg (by omega)]; exact h9 j
theorem MVq.m (M : MVq s0 t0 s t) (h0 : cY a = 0) : MVq s0 t0 s (t2v t a) := by
  obtain ⟨rk, e, F, G, h9, I1, I2⟩ := M
  refine ⟨fun c y h1 h2 h3 => ?_, e, F, (G.pI (by decide)).pI (by decide), h9, I1, (I2.wI (q := 61) (by decide) trivial).wI (q := 60) (by decide) trivial⟩
  unfold t2v
  rw [zI_pI, if_neg (by omega), zI_pI, if_neg (by omega), zI_pI, if_neg (by omega), zI_pI, if_neg (by omega)]
  exact rk c y h1 h2 h3
theorem MVq.h (M : MVq s0 t0 s t) : MVq s0 t0 (pS s 15 9 1) (pS t 59 25 1) := by
  obtain ⟨rk, e, F, G, h9, I1, I2⟩ := M
  exact ⟨rk, by rw [zS_pS, if_pos ⟨rfl, rfl⟩, zS_pS, if_pos ⟨rfl, rfl⟩], F.pS (by decide), G.pS (by decide), h9, I1.wF (q := 15) (k := 9) (by decide) (by decide) trivial, I2.wF (q := 59) (k := 25) (by decide) (by decide) trivial⟩
theorem mv_l {q0 : SS → Option (Int32 × SS)} {y1 y2 : Int32} (B : B1 s0 t0) (hR : QRef s0 t0) : ∀ (n m : Nat) (s t : SS) (x : Int32), 0 ≤ x.toInt → MVq s0 t0 s t → Pc (f_X11_rockMoves_L2 n s x) (fun r => ∀ R : Int32 × SS → Prop, (∀ u, MVq s0 t0 r u → Pc (q0 u) R) → Pc (f_X12_hours_L65 q0 y1 y2 m t x) R)
  | 0, _, _, _, _, _, _ => Pc_none
  | n + 1, 0, _, _, _, _, _ => fun _ _ _ _ => Pc_none
  | n + 1, m + 1, s, t, x, hx, M => by
    obtain ⟨rk, e25, F, G, h9, _, _⟩ := id M
    have bf : 0 ≤ (zS s 1 4).toInt ∧ (zS s 1 4).toInt ≤ 60 := by rw [F.1 1 4 rfl]; exact B.1.fx (q := 1) (k := 4) (by omega)
    have c1 : zS s 1 4 = zS t 59 56 := (F.1 1 4 rfl).trans (B.2.1.2.1.trans (G.1 59 56 rfl).symm)
    have ca : zI s 4 x.toInt.toNat = zI t 97 x.toInt.toNat := (F.2.1 4 _ rfl).trans ((B.2.1.2.2.1 _).trans (G.2.1 97 _ rfl).symm)
    have c5 : zI s 5 x.toInt.toNat = zI t 98 x.toInt.toNat := (F.2.1 5 _ rfl).trans ((B.2.1.2.2.2.1 _).trans (G.2.1 98 _ rfl).symm)
    have ch : zS s 0 14 = zS t 59 1 := (F.1 0 14 rfl).trans (B.2.1.1.trans (G.1 59 1 rfl).symm)
    have ok : cellOK (zI t 97 x.toInt.toNat) := by rw [G.2.1 97 _ rfl]; exact B.2.2.2 _
    have k5 : zS s 15 5 = zS t 59 21 := (F.1 15 5 rfl).trans (B.1.1.2.1.trans (G.1 59 21 rfl).symm)
    have k6 : zS s 15 6 = zS t 59 22 := (F.1 15 6 rfl).trans (hR.1.trans (G.1 59 22 rfl).symm)
    have k7 : zS s 15 7 = zS t 59 23 := (F.1 15 7 rfl).trans (hR.2.1.trans (G.1 59 23 rfl).symm)
    have k8 : zS s 15 8 = zS t 59 24 := (F.1 15 8 rfl).trans (hR.2.2.1.trans (G.1 59 24 rfl).symm)
    have r8 : 0 ≤ (zS s 15 5).toInt → 1 ≤ (zS s 15 8).toInt := by rw [F.1 15 5 rfl, F.1 15 8 rfl]; exact hR.2.2.2.2
    by_cases c : x < zS s 1 4
    case neg =>
      show Pc (f_X11_rockMoves_L2_b (f_X11_rockMoves_L2 n) s x) _
      unfold f_X11_rockMoves_L2_b
      refine Pc_iff c (Pc_some (fun R h => ?_))
      show Pc (f_X12_hours_L65_b q0 y1 y2 (f_X12_hours_L65 q0 y1 y2 m) t x) R
      unfold f_X12_hours_L65_b
      exact Pc_iff (by rw [← c1]; exact c) (h t M)
    have cm : x < zS t 59 56 := by rw [← c1]; exact c
    have c' := c
    rw [jlt] at c'
    have n1 : (x + 1).toInt = x.toInt + 1 := by rw [i32_add (by rw [jl1]; omega) (by rw [jl1]; omega), jl1]
    have nxt : ∀ s' t', MVq s0 t0 s' t' → Pc (f_X11_rockMoves_L2 n s' (x + 1)) (fun r => ∀ R : Int32 × SS → Prop, (∀ u, MVq s0 t0 r u → Pc (q0 u) R) → Pc (f_X12_hours_L65 q0 y1 y2 m t' (x + 1)) R) := fun s' t' M' => mv_l B hR n m s' t' (x + 1) (by omega) M'
    by_cases hh : zI s 5 x.toInt.toNat = zS s 0 14
    case neg =>
      show Pc (f_X11_rockMoves_L2_b (f_X11_rockMoves_L2 n) s x) _
      unfold f_X11_rockMoves_L2_b
      refine Pc_ift c (Pc_gd fun _ => Pc_vl (Pc_b1x (fun r4 => Pc_gd fun _ => Pc_jn (Pc_iff hh (Pc_vl ?_)))))
      refine Pc.mono (nxt s t M) (fun r h R hq => ?_)
      show Pc (f_X12_hours_L65_b q0 y1 y2 (f_X12_hours_L65 q0 y1 y2 m) t x) R
      unfold f_X12_hours_L65_b
      exact Pc_ift cm (Pc_gd fun _ => Pc_jn (Pc_iff (by rw [← c5, ← ch]; exact hh) (Pc_vl (h R hq))))
    have hh' : zI t 98 x.toInt.toNat = zS t 59 1 := by rw [← c5, ← ch]; exact hh
    generalize ea : zI t 97 x.toInt.toNat = a at ca ok
    have hx' : hitX s a ↔ hitM t a := by unfold hitX hitM; rw [k5, k6, k7, k8]
    by_cases hv : Vc a
    · have M2 := M.b hv
      refine mvX c ca hh hv (fun z => ?_) (fun z => ?_)
      · exact Pc.mono (nxt _ _ M2.h) (fun r h R hq => mvM cm ea hh' ok (fun _ => h R hq) (fun w => absurd (hx'.1 z) w))
      · exact Pc.mono (nxt _ _ M2) (fun r h R hq => mvM cm ea hh' ok (fun w => absurd (hx'.2 w) z) (fun _ => h R hq))
    · obtain ⟨v1, v2, v3⟩ := id ok
      have y0 : a.toInt % 100 = 0 := by
        by_cases w : a.toInt % 100 = 0
        · exact w
        · exact absurd ⟨v1, by omega, by omega, v3⟩ hv
      have M2 := M.m (a := a) (by unfold cY; omega)
      show Pc (f_X11_rockMoves_L2_b (f_X11_rockMoves_L2 n) s x) _
      unfold f_X11_rockMoves_L2_b
      refine Pc_ift c (Pc_gd fun _ => Pc_vl ?_)
      rw [ca, plX_f hv]
      refine Pc_b1S (Pc_gd fun _ => Pc_jn (Pc_ift hh (Pc_ift (by decide) (Pc_vl ?_))))
      refine Pc.mono (nxt _ _ M2) (fun r h R hq => mvM cm ea hh' ok (fun w => ?_) (fun _ => h R hq))
      have w1 := w.1
      rw [← k5, jlt, jl0] at w1
      have w3 := r8 (by omega)
      rw [k8, ← w.2.1, m100 v1] at w3
      omega
end MVs
