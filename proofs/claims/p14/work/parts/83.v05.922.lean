/-! MACHINES AT WORK, THE CLASS -/
section MWs
variable {s s' t : SS}
def act (s : SS) (m : Nat) : Option Nat := if zS s (20 + m) 2 < zS s 0 14 then hO s (zS s (20 + m) 1) else none
def mSt (m : Nat) (s s' : SS) : Prop := (act s m = none ∧ s' = s) ∨ ∃ p, act s m = some p ∧ f_X11_boreOn (pS s p 5 (zS s p 5 + 60)) p (zS s (20 + m) 0) = some s'
theorem holeOf_p (a : Int32) : Pc (f_X0_holeOf s a) (fun r => r = hO s a) := by
  unfold f_X0_holeOf hO
  refine Pc_lt (fun c => Pc_some ?_) (fun c => Pc_lt (fun d => Pc_gd (fun _ => ?_)) (fun d => Pc_some ?_))
  · rw [if_neg (by rw [jl0] at c; omega)]
  · rw [if_pos ⟨by rw [jl0] at c; exact c, d⟩]
    cases zR s 17 a.toInt.toNat <;> exact Pc_some rfl
  · rw [if_neg (by omega)]
theorem hO_ok (S : Sh s) (b : (zS s 15 3).toInt ≤ 120) {a : Int32} {p : Nat} (h : hO s a = some p) : a.toInt.toNat < 120 ∧ zR s 17 a.toInt.toNat = some p ∧ okH s p := by
  unfold hO at h
  by_cases c : 0 ≤ a.toInt ∧ a.toInt < (zS s 15 3).toInt
  · rw [if_pos c] at h
    exact ⟨by omega, h, S.2.2.1 _ p (by omega) h⟩
  · rw [if_neg c] at h
    cases h
theorem mw_s {R : SS → Prop} {m n : Nat} {x : Int32} (S : Sh s) (b : (zS s 15 3).toInt ≤ 120) (hx : x.toInt = m) (hm : m < 3) (h : ∀ s', mSt m s s' → Pc (f_X11_machinesWork_L2 n s' (x + 1)) R) : Pc (f_X11_machinesWork_L2 (n + 1) s x) R := by
  show Pc (f_X11_machinesWork_L2_b (f_X11_machinesWork_L2 n) s x) R
  unfold f_X11_machinesWork_L2_b
  have e19 : zR s 19 x.toInt.toNat = some (20 + m) := by rw [show x.toInt.toNat = m by omega]; exact S.2.2.2.1 m hm
  refine Pc_ift (by rw [jlt, jl3]; omega) (Pc_gd (fun _ => ?_))
  rw [e19]
  refine Pc_onS (Pc_b1 (Pc.mono (holeOf_p _) (fun r4 h4 => ?_)))
  rw [h4]
  cases hp : hO s (zS s (20 + m) 1) with
  | none =>
    refine Pc_onN (Pc_vl (h s (Or.inl ⟨?_, rfl⟩)))
    unfold act
    rw [hp]
    by_cases z : zS s (20 + m) 2 < zS s 0 14
    · rw [if_pos z]
    · rw [if_neg z]
  | some p =>
    obtain ⟨i1, i2, o⟩ := hO_ok S b hp
    have o1 := o.1
    refine Pc_onS (Pc_gd (fun _ => Pc_onS (Pc_if (fun z => Pc_vl (Pc_st (Pc_gd (fun _ => ?_)))) (fun z => Pc_vl (h s (Or.inl ⟨?_, rfl⟩))))))
    · have e19' : zR (pS s p 5 (zS s p 5 + 60)) 19 x.toInt.toNat = some (20 + m) := e19
      rw [e19']
      have e0 : zS (pS s p 5 (zS s p 5 + 60)) (20 + m) 0 = zS s (20 + m) 0 := by rw [zS_pS, if_neg (by omega)]
      refine Pc_onS (Pc_b1 (fun s15 e15 => Pc_vl (h s15 (Or.inr ⟨p, ?_, ?_⟩))))
      · unfold act
        rw [if_pos z, hp]
      · rw [e0] at e15
        exact e15
    · unfold act
      rw [if_neg z]
/-- a hole in order; sums -/
def CH (s : SS) (p : Nat) : Prop := (0 ≤ (zS s p 4).toInt ∧ (zS s p 4).toInt ≤ 60) ∧ (zS s p 3).toInt ≤ 60 ∧ (zS s p 6 = 0 ∨ zS s p 6 = 1)
def cb (s : SS) (i : Nat) : Int := match zR s 17 i with
  | some p => (zS s p 4).toInt
  | none => 0
def ct (s : SS) (i : Nat) : Int := match zR s 17 i with
  | some p => (zS s p 6).toInt
  | none => 0
def CI (s : SS) : Prop := Sh s ∧ (zS s 15 3).toInt ≤ 120 ∧ (∀ i j p, i < 120 → j < 120 → zR s 17 i = some p → zR s 17 j = some p → i = j) ∧ (∀ i p, i < 120 → zR s 17 i = some p → CH s p) ∧ (zS s 0 16).toInt = ySum (cb s) 120 ∧ (zS s 0 17).toInt = ySum (ct s) 120
theorem cb_t {i p : Nat} (h : zR s 17 i = some p) : cb s i = (zS s p 4).toInt := by
  unfold cb
  rw [h]
theorem ct_t {i p : Nat} (h : zR s 17 i = some p) : ct s i = (zS s p 6).toInt := by
  unfold ct
  rw [h]
theorem CI.b (C : CI s) : (0 ≤ (zS s 0 16).toInt ∧ (zS s 0 16).toInt ≤ 7200) ∧ (0 ≤ (zS s 0 17).toInt ∧ (zS s 0 17).toInt ≤ 120) := by
  obtain ⟨_, _, _, c4, c5, c6⟩ := C
  have h1 : ySum (fun i => if i < 120 then cb s i else 0) 120 = ySum (cb s) 120 := ySum_c (fun i hi => by rw [if_pos hi])
  have h2 : ySum (fun i => if i < 120 then ct s i else 0) 120 = ySum (ct s) 120 := ySum_c (fun i hi => by rw [if_pos hi])
  have g1 := ySum_b (f := fun i => if i < 120 then cb s i else 0) (c := 60) (fun i => by
    by_cases z : i < 120
    · rw [if_pos z]
      cases e : zR s 17 i with
      | none => unfold cb; rw [e]; exact ⟨Int.le_refl 0, show (0 : Int) ≤ 60 by omega⟩
      | some p => rw [cb_t e]; exact (c4 i p z e).1
    · rw [if_neg z]; decide) 120
  have g2 := ySum_b (f := fun i => if i < 120 then ct s i else 0) (c := 1) (fun i => by
    by_cases z : i < 120
    · rw [if_pos z]
      cases e : zR s 17 i with
      | none => unfold ct; rw [e]; exact ⟨Int.le_refl 0, show (0 : Int) ≤ 1 by omega⟩
      | some p =>
        rw [ct_t e]
        rcases (c4 i p z e).2.2 with w | w <;> rw [w] <;> decide
    · rw [if_neg z]; decide) 120
  rw [h1] at g1
  rw [h2] at g2
  omega
/-- two holes lie apart -/
theorem apart {p q : Nat} (o : okH s p) (o' : okH s q) (ne : q ≠ p) : (q ≠ p + 1 ∧ q ≠ p + 2 ∧ q ≠ p + 3) ∧ p ≠ q + 1 ∧ p ≠ q + 2 ∧ p ≠ q + 3 := ⟨⟨fun w => by have := o'.2.2.1; rw [w, o.2.2.2.1.1] at this; omega, fun w => by have := o'.2.2.1; rw [w, o.2.2.2.2.1.1] at this; omega, fun w => by have := o'.2.2.1; rw [w, o.2.2.2.2.2.1] at this; omega⟩, fun w => by have := o.2.2.1; rw [w, o'.2.2.2.1.1] at this; omega, fun w => by have := o.2.2.1; rw [w, o'.2.2.2.2.1.1] at this; omega, fun w => by have := o.2.2.1; rw [w, o'.2.2.2.2.2.1] at this; omega⟩
/-- what one machine's hour does to the class -/
def MD (p : Nat) (s s' : SS) : Prop := hW p s s' ∧ (∀ q k, q < 126 → ¬ (q = 0 ∧ 16 ≤ k ∧ k ≤ 18) → zS s' q k = zS s q k) ∧ (∀ q j, q < 126 → zI s' q j = zI s q j) ∧ ((zS s' p 6 = zS s p 6 ∧ zS s' 0 18 = zS s 0 18) ∨ (zS s p 6 = 0 ∧ zS s' p 6 = 1 ∧ zS s' 0 18 = (if zS s 0 14 < zS s 0 18 then zS s 0 14 else zS s 0 18)))
theorem mSt.ci {m : Nat} (C : CI s) (h : mSt m s s') : CI s' ∧ ((act s m = none ∧ s' = s) ∨ ∃ p, act s m = some p ∧ MD p s s') := by
  rcases h with ⟨h1, h2⟩ | ⟨p, ha, hb⟩
  · rw [h2]
    exact ⟨C, Or.inl ⟨h1, rfl⟩⟩
  have hO' : hO s (zS s (20 + m) 1) = some p := by
    unfold act at ha
    by_cases z : zS s (20 + m) 2 < zS s 0 14
    · rw [if_pos z] at ha; exact ha
    · rw [if_neg z] at ha; cases ha
  have bb := C.b
  obtain ⟨c1, c2, c3, c4, c5, c6⟩ := C
  obtain ⟨i1, i2, o⟩ := hO_ok c1 c2 hO'
  generalize hn : (zS s (20 + m) 1).toInt.toNat = n at i1 i2
  have o1 := o.1
  obtain ⟨d1, d2, d3⟩ := c4 n p i1 i2
  have zk : ∀ k, k ≠ 5 → zS (pS s p 5 (zS s p 5 + 60)) p k = zS s p k := fun k hk => by rw [zS_pS, if_neg (by omega)]
  have zs : ∀ q k, q ≠ p → zS (pS s p 5 (zS s p 5 + 60)) q k = zS s q k := fun q k hq => by rw [zS_pS, if_neg (by omega)]
  have B := boX_p (s := pS s p 5 (zS s p 5 + 60)) (p := p) (y2 := zS s (20 + m) 0) (o.hW hW.rf.wS) (by rw [zk 4 (by omega)]; exact d1) (by rw [zk 3 (by omega)]; exact d2) (by rw [zs 0 16 (by omega)]; omega) (by rw [zs 0 17 (by omega)]; omega) (by rw [zk 6 (by omega)]; exact d3) s' hb
  obtain ⟨q1, q2, q3, q4, q5, q6, q7, q8⟩ := B
  rw [zk 4 (by omega), zs 0 16 (by omega)] at q4
  rw [zk 6 (by omega), zs 0 17 (by omega)] at q5
  rw [zk 6 (by omega), zs 0 18 (by omega), zs 0 14 (by omega)] at q6
  rw [zk 3 (by omega)] at q7
  rw [zk 4 (by omega), zk 3 (by omega)] at q8
  have W : hW p s s' := hW.rf.wS.tr q1
  have eR : ∀ i, zR s' 17 i = zR s 17 i := fun i => W.R 17 i
  have oth : ∀ j q, j < 120 → j ≠ n → zR s 17 j = some q → ∀ k, zS s' q k = zS s q k := fun j q hj ne hq k => W.1 q k (c1.2.2.1 j q hj hq).1 (fun z => ne (c3 j n p hj i1 (z ▸ hq) i2))
  have cbn : ∀ j, j ≠ n → j < 120 → cb s' j = cb s j ∧ ct s' j = ct s j := fun j ne hj => by
    unfold cb ct
    rw [eR]
    cases e : zR s 17 j with
    | none => exact ⟨rfl, rfl⟩
    | some q =>
      show (zS s' q 4).toInt = (zS s q 4).toInt ∧ (zS s' q 6).toInt = (zS s q 6).toInt
      rw [oth j q hj ne e 4, oth j q hj ne e 6]
      exact ⟨rfl, rfl⟩
  refine ⟨⟨W.S c1, by rw [q2 15 3 (by omega) (by omega), zs 15 3 (by omega)]; exact c2, fun i j q hi hj e f => c3 i j q hi hj ((eR i).symm.trans e) ((eR j).symm.trans f), fun j q hj e => ?_, ?_, ?_⟩, Or.inr ⟨p, ha, W, fun q k h1 h2 => (q2 q k h1 h2).trans (zs q k (by omega)), fun q j h1 => q3 q j h1, q6⟩⟩
  · have e' := (eR j).symm.trans e
    by_cases z : j = n
    · rw [z, i2] at e'
      have : p = q := Option.some.inj e'
      rw [← this]
      refine ⟨⟨by omega, by omega⟩, by rw [q7]; exact d2, ?_⟩
      rcases q6 with ⟨w, _⟩ | ⟨_, w, _⟩
      · rw [w]; exact d3
      · exact Or.inr w
    · have := oth j q hj z e'
      unfold CH
      rw [this, this, this]
      exact c4 j q hj e'
  · have up := ySum_up (f := fun i => if i < 120 then cb s i else 0) (g := fun i => if i < 120 then cb s' i else 0) (j := n) (fun i hi => by
      by_cases z : i < 120
      · rw [if_pos z, if_pos z]; exact (cbn i hi z).1
      · rw [if_neg z, if_neg z]) 120
    have h1 : ySum (fun i => if i < 120 then cb s i else 0) 120 = ySum (cb s) 120 := ySum_c (fun i hi => by rw [if_pos hi])
    have h2 : ySum (fun i => if i < 120 then cb s' i else 0) 120 = ySum (cb s') 120 := ySum_c (fun i hi => by rw [if_pos hi])
    rw [h1, h2, if_pos i1, if_pos i1, if_pos i1, cb_t i2, cb_t ((eR n).trans i2)] at up
    rw [up, q4.1, c5]
  · have up := ySum_up (f := fun i => if i < 120 then ct s i else 0) (g := fun i => if i < 120 then ct s' i else 0) (j := n) (fun i hi => by
      by_cases z : i < 120
      · rw [if_pos z, if_pos z]; exact (cbn i hi z).2
      · rw [if_neg z, if_neg z]) 120
    have h1 : ySum (fun i => if i < 120 then ct s i else 0) 120 = ySum (ct s) 120 := ySum_c (fun i hi => by rw [if_pos hi])
    have h2 : ySum (fun i => if i < 120 then ct s' i else 0) 120 = ySum (ct s') 120 := ySum_c (fun i hi => by rw [if_pos hi])
    rw [h1, h2, if_pos i1, if_pos i1, if_pos i1, ct_t i2, ct_t ((eR n).trans i2)] at up
    rw [up, q5, c6]
theorem mw_p (C : CI s) : Pc (f_X11_machinesWork s) (fun s3 => ∃ s1 s2, mSt 0 s s1 ∧ mSt 1 s1 s2 ∧ mSt 2 s2 s3) := by
  unfold f_X11_machinesWork
  refine mw_s (m := 0) C.1 C.2.1 rfl (by omega) (fun s1 h1 => ?_)
  obtain ⟨C1, _⟩ := h1.ci C
  refine mw_s (m := 1) C1.1 C1.2.1 rfl (by omega) (fun s2 h2 => ?_)
  obtain ⟨C2, _⟩ := h2.ci C1
  refine mw_s (m := 2) C2.1 C2.2.1 rfl (by omega) (fun s3 h3 => ?_)
  show Pc (f_X11_machinesWork_L2_b (f_X11_machinesWork_L2 3996) s3 (0 + 1 + 1 + 1)) _
  unfold f_X11_machinesWork_L2_b
  exact Pc_iff (by decide) (Pc_some ⟨s1, s2, h1, h2, h3⟩)
end MWs
