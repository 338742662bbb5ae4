/-! BORING, THE CLASS ALONE -/
section BXs
variable {s s' : SS}
def BX (p : Nat) (s s' : SS) : Prop := hW p s s' ∧ (∀ q k, q < 126 → ¬ (q = 0 ∧ 16 ≤ k ∧ k ≤ 18) → zS s' q k = zS s q k) ∧ (∀ q j, q < 126 → zI s' q j = zI s q j) ∧ ((zS s' 0 16).toInt = (zS s 0 16).toInt + ((zS s' p 4).toInt - (zS s p 4).toInt) ∧ (zS s p 4).toInt ≤ (zS s' p 4).toInt) ∧ (zS s' 0 17).toInt = (zS s 0 17).toInt + ((zS s' p 6).toInt - (zS s p 6).toInt) ∧ ((zS s' p 6 = zS s p 6 ∧ zS s' 0 18 = zS s 0 18) ∨ (zS s p 6 = 0 ∧ zS s' p 6 = 1 ∧ zS s' 0 18 = (if zS s 0 14 < zS s 0 18 then zS s 0 14 else zS s 0 18))) ∧ zS s' p 3 = zS s p 3 ∧ ((zS s' p 4).toInt ≤ (zS s p 4).toInt ∨ (zS s' p 4).toInt ≤ (zS s p 3).toInt)
theorem BX.rf {p : Nat} : BX p s s := ⟨hW.rf, fun _ _ _ _ => rfl, fun _ _ _ => rfl, ⟨by omega, Int.le_refl _⟩, by omega, Or.inl ⟨rfl, rfl⟩, rfl, Or.inl (Int.le_refl _)⟩
theorem BX.tr {p : Nat} {r : SS} (h : BX p s s') (g : BX p s' r) : BX p s r := by
  obtain ⟨a2, a3, a4, a7, a8, a9, a11, a12⟩ := h
  obtain ⟨b2, b3, b4, b7, b8, b9, b11, b12⟩ := g
  have e14 : zS s' 0 14 = zS s 0 14 := a3 0 14 (by omega) (by omega)
  refine ⟨a2.tr b2, fun q k h1 h2 => (b3 q k h1 h2).trans (a3 q k h1 h2), fun q j h1 => (b4 q j h1).trans (a4 q j h1), ⟨by omega, by omega⟩, by omega, ?_, b11.trans a11, by rw [a11] at b12; omega⟩
  rcases a9 with ⟨p1, p2⟩ | ⟨p1, p2, p3⟩
  · rcases b9 with ⟨q1, q2⟩ | ⟨q1, q2, q3⟩
    · exact Or.inl ⟨q1.trans p1, q2.trans p2⟩
    · exact Or.inr ⟨p1 ▸ q1, q2, by rw [q3, e14, p2]⟩
  · rcases b9 with ⟨q1, q2⟩ | ⟨q1, q2, q3⟩
    · exact Or.inr ⟨p1, q1.trans p2, q2.trans p3⟩
    · rw [q1] at p2; exact absurd p2 (by decide)
theorem BX.one {p : Nat} {m c y f : Int32} (o : okH s p) (hyt : y.toInt ≤ (zS s p 3).toInt) (hy : y.toInt = (zS s p 4).toInt + 1) (h16 : 0 ≤ (zS s 0 16).toInt ∧ (zS s 0 16).toInt ≤ 20000) : BX p s (b1X s p m c y f) ∧ zS (b1X s p m c y f) p 4 = y ∧ zS (b1X s p m c y f) p 6 = zS s p 6 := by
  have o1 := o.1
  have e16 : (zS s 0 16 + 1).toInt = (zS s 0 16).toInt + 1 := by rw [i32_add (by rw [jl1]; omega) (by rw [jl1]; omega), jl1]
  have z4 : zS (b1X s p m c y f) p 4 = y := by
    unfold b1X
    rw [zS_pI, zS_pS, if_neg (by omega), zS_pS, if_pos ⟨rfl, rfl⟩]
  have zk : ∀ k, k = 3 ∨ k = 6 → zS (b1X s p m c y f) p k = zS s p k := fun k hk => by
    unfold b1X
    rw [zS_pI, zS_pS, if_neg (by omega), zS_pS, if_neg (by omega), zS_pS, if_neg (by omega), zS_pS, if_neg (by omega)]
  have sS : ∀ q k, q ≠ p → ¬ (q = 0 ∧ k = 16) → zS (b1X s p m c y f) q k = zS s q k := fun q k h1 h2 => by
    unfold b1X
    rw [zS_pI, zS_pS, if_neg h2, zS_pS, if_neg (fun z => h1 z.1), zS_pS, if_neg (fun z => h1 z.1), zS_pS, if_neg (fun z => h1 z.1)]
  have s16 : zS (b1X s p m c y f) 0 16 = zS s 0 16 + 1 := by
    unfold b1X
    rw [zS_pI, zS_pS, if_pos ⟨rfl, rfl⟩]
  have sI : ∀ q j, q ≠ p + 2 → zI (b1X s p m c y f) q j = zI s q j := fun q j h1 => by
    unfold b1X
    rw [zI_pI, if_neg (fun z => h1 z.1)]; rfl
  refine ⟨⟨((((hW.rf.wS).wS).wS).sS (by omega)).wI (Or.inr (Or.inl rfl)), fun q k h1 h2 => sS q k (by omega) (by omega), fun q j h1 => sI q j (by omega), ⟨by rw [s16, e16, z4]; omega, by rw [z4]; omega⟩, by rw [sS 0 17 (by omega) (by omega), zk 6 (by omega)]; omega, Or.inl ⟨zk 6 (by omega), sS 0 18 (by omega) (by omega)⟩, zk 3 (by omega), Or.inr (by rw [z4]; exact hyt)⟩, z4, zk 6 (by omega)⟩
theorem BX.two {p : Nat} {m c y f : Int32} (o : okH s p) (h6 : zS s p 6 = 0) (h17 : 0 ≤ (zS s 0 17).toInt ∧ (zS s 0 17).toInt ≤ 20000) (W : BX p s (b1X s p m c y f)) (z4 : zS (b1X s p m c y f) p 4 = y) : BX p s (b2X s p m c y f) ∧ zS (b2X s p m c y f) p 4 = y ∧ zS (b2X s p m c y f) p 6 = 1 := by
  have o1 := o.1
  obtain ⟨w2, w3, w4, w7, w8, w9, w11, w13⟩ := W
  have e17 : (zS s 0 17 + 1).toInt = (zS s 0 17).toInt + 1 := by rw [i32_add (by rw [jl1]; omega) (by rw [jl1]; omega), jl1]
  have zp : ∀ k, k ≠ 6 → zS (b2X s p m c y f) p k = zS (b1X s p m c y f) p k := fun k hk => by
    unfold b2X
    rw [zS_pS, if_neg (by omega), zS_pS, if_neg (by omega), zS_pS, if_neg (fun z => hk z.2)]
  have z6 : zS (b2X s p m c y f) p 6 = 1 := by
    unfold b2X
    rw [zS_pS, if_neg (by omega), zS_pS, if_neg (by omega), zS_pS, if_pos ⟨rfl, rfl⟩]
  have sS : ∀ q k, q ≠ p → ¬ (q = 0 ∧ (k = 17 ∨ k = 18)) → zS (b2X s p m c y f) q k = zS (b1X s p m c y f) q k := fun q k h1 h2 => by
    unfold b2X
    rw [zS_pS, if_neg (by omega), zS_pS, if_neg (by omega), zS_pS, if_neg (fun z => h1 z.1)]
  refine ⟨⟨(w2.wS.sS (by omega)).sS (by omega), fun q k h1 h2 => by rw [sS q k (by omega) (by omega)]; exact w3 q k h1 h2, fun q j h1 => w4 q j h1, ⟨by rw [sS 0 16 (by omega) (by omega), zp 4 (by omega)]; exact w7.1, by rw [zp 4 (by omega)]; exact w7.2⟩, ?_, Or.inr ⟨h6, z6, ?_⟩, by rw [zp 3 (by omega)]; exact w11, by rw [zp 4 (by omega)]; exact w13⟩, by rw [zp 4 (by omega)]; exact z4, z6⟩
  · have : zS (b2X s p m c y f) 0 17 = zS s 0 17 + 1 := by
      unfold b2X
      rw [zS_pS, if_neg (by omega), zS_pS, if_pos ⟨rfl, rfl⟩]
    rw [this, e17, z6, h6, jl1, jl0]
    omega
  · unfold b2X
    rw [zS_pS, if_pos ⟨rfl, rfl⟩]
theorem okH.hW {p q : Nat} (o : okH s p) (h : hW q s s') : okH s' p := by
  have e := h.2.2
  unfold okH zT zN zL at *
  rw [e]
  exact o
theorem boX_l {p : Nat} {y2 : Int32} : ∀ (n : Nat) (s : SS) (x : Int32), okH s p → x.toInt = (zS s p 4).toInt + 1 → 0 ≤ (zS s p 4).toInt → (zS s p 3).toInt ≤ 60 → (0 ≤ (zS s 0 16).toInt ∧ (zS s 0 16).toInt ≤ 10000 + (zS s p 4).toInt) → (0 ≤ (zS s 0 17).toInt ∧ (zS s 0 17).toInt ≤ 10000 + (zS s p 6).toInt) → (zS s p 6 = 0 ∨ zS s p 6 = 1) → Pc (f_X11_boreOn_L7 p y2 n s x) (fun r => BX p s r)
  | 0, _, _, _, _, _, _, _, _, _ => Pc_none
  | n + 1, s, x, o, hx, hb, h3, h16, h17, h6 => by
    have o1 := o.1
    show Pc (f_X11_boreOn_L7_b p y2 (f_X11_boreOn_L7 p y2 n) s x) _
    unfold f_X11_boreOn_L7_b
    refine Pc_lt (fun _ => Pc_some BX.rf) (fun c1 => Pc_if (fun z6 => Pc_gd (fun _ => Pc_b1x (fun c => Pc_vl (Pc_gd (fun _ => Pc_jn ?_))))) (fun _ => Pc_some BX.rf))
    have nx : (x + 1).toInt = x.toInt + 1 := by rw [i32_add (by rw [jl1]; omega) (by rw [jl1]; omega), jl1]
    have rec_ : ∀ s1, BX p s s1 → zS s1 p 4 = x → (zS s1 p 6 = 0 ∨ zS s1 p 6 = 1) → Pc (f_X11_boreOn_L7 p y2 n s1 (x + 1)) (fun r => BX p s r) := by
      intro s1 W e4 e6
      have W' := W
      obtain ⟨q1, q2, q3, q4, q5, q6, q7, _⟩ := W'
      refine Pc.mono (boX_l n s1 (x + 1) (o.hW q1) (by rw [nx, e4]) (by rw [e4]; omega) (by rw [q7]; exact h3) ⟨by omega, by omega⟩ ⟨?_, by rw [q5]; omega⟩ e6) (fun r hr => W.tr hr)
      rw [q5]
      rw [z6, jl0]
      rcases e6 with e | e <;> rw [e] <;> first | (rw [jl0]; omega) | (rw [jl1]; omega)
    have core : ∀ op cost : Int32, Pc (if (zS s p 5) < cost then some s else (vl (((zS s p 5) - cost)) fun v12 => (st (pS s p 5 v12) fun s13 => (st (pS s13 p 2 c) fun s14 => (st (pS s14 p 4 x) fun s15 => (vl (((zS s15 0 16) + (1 : Int32))) fun v16 => (st (pS s15 0 16 v16) fun s17 => (b1 (f_X0_isRefuge s17 c x) fun r18 => (jn (fun (t19_0 : Int32) => (gd (inB x 61) (st (pI s17 (p + 2) (x.toInt.toNat) t19_0) fun s21 => (jn (fun (s22 : SS)  => (vl (x + 1) fun v23 => (f_X11_boreOn_L7 p y2 n s22 v23))) fun k22 => (if r18 = (0 : Int32) then (k22 s21) else (st (pS s21 p 6 1) fun s25 => (vl (((zS s25 0 17) + (1 : Int32))) fun v26 => (st (pS s25 0 17 v26) fun s27 => (b1 (f_J9_min_7cf53 (zS s27 0 18) (zS s27 0 14)) fun r28 => (st (pS s27 0 18 r28) fun s29 => (k22 s29))))))))))) fun k19 => (if r18 = (0 : Int32) then (if op = (0 : Int32) then (k19 0) else (k19 1)) else (k19 2))))))))))) (fun r => BX p s r) := by
      intro op cost
      refine Pc_if (fun _ => Pc_some BX.rf) (fun _ => Pc_vl (Pc_st (Pc_st (Pc_st (Pc_vl (Pc_st ?_))))))
      have r16 : zS (pS (pS (pS s p 5 (zS s p 5 - cost)) p 2 c) p 4 x) 0 16 = zS s 0 16 := by rw [zS_pS, if_neg (by omega), zS_pS, if_neg (by omega), zS_pS, if_neg (by omega)]
      rw [r16]
      obtain ⟨W1, p4, p6⟩ : (∀ f, BX p s (b1X s p (zS s p 5 - cost) c x f)) ∧ (∀ f, zS (b1X s p (zS s p 5 - cost) c x f) p 4 = x) ∧ ∀ f, zS (b1X s p (zS s p 5 - cost) c x f) p 6 = zS s p 6 := ⟨fun f => (BX.one o c1 hx ⟨by omega, by omega⟩).1, fun f => (BX.one o c1 hx ⟨by omega, by omega⟩).2.1, fun f => (BX.one o c1 hx ⟨by omega, by omega⟩).2.2⟩
      have K : ∀ r f : Int32, Pc (gd (inB x 61) (st (pI (pS (pS (pS (pS s p 5 (zS s p 5 - cost)) p 2 c) p 4 x) 0 16 (zS s 0 16 + 1)) (p + 2) (x.toInt.toNat) f) fun s21 => (jn (fun (s22 : SS)  => (vl (x + 1) fun v23 => (f_X11_boreOn_L7 p y2 n s22 v23))) fun k22 => (if r = (0 : Int32) then (k22 s21) else (st (pS s21 p 6 1) fun s25 => (vl (((zS s25 0 17) + (1 : Int32))) fun v26 => (st (pS s25 0 17 v26) fun s27 => (b1 (f_J9_min_7cf53 (zS s27 0 18) (zS s27 0 14)) fun r28 => (st (pS s27 0 18 r28) fun s29 => (k22 s29)))))))))) (fun r => BX p s r) := by
        intro r f
        refine Pc_gd (fun _ => Pc_st (Pc_jn (Pc_if (fun _ => Pc_vl ?_) (fun _ => Pc_st (Pc_vl (Pc_st ?_))))))
        · exact rec_ _ (W1 f) (p4 f) (Or.inl ((p6 f).trans z6))
        · rw [minJ]
          refine Pc_b1S (Pc_st (Pc_vl ?_))
          obtain ⟨W2, q4, q6⟩ := BX.two (f := f) o z6 ⟨h17.1, by rw [z6, jl0] at h17; omega⟩ (W1 f) (p4 f)
          have g : ∀ k, k = 14 ∨ k = 17 ∨ k = 18 → zS (pS (pI (pS (pS (pS (pS s p 5 (zS s p 5 - cost)) p 2 c) p 4 x) 0 16 (zS s 0 16 + 1)) (p + 2) x.toInt.toNat f) p 6 1) 0 k = zS s 0 k := fun k hk => by rw [zS_pS, if_neg (by omega), zS_pI, zS_pS, if_neg (by omega), zS_pS, if_neg (by omega), zS_pS, if_neg (by omega), zS_pS, if_neg (by omega)]
          have g2 : ∀ v k, k = 14 ∨ k = 18 → zS (pS (pS (pI (pS (pS (pS (pS s p 5 (zS s p 5 - cost)) p 2 c) p 4 x) 0 16 (zS s 0 16 + 1)) (p + 2) x.toInt.toNat f) p 6 1) 0 17 v) 0 k = zS s 0 k := fun v k hk => by rw [zS_pS, if_neg (by omega)]; exact g k (by omega)
          rw [g2 _ 14 (by omega), g2 _ 18 (by omega), g 17 (by omega)]
          exact rec_ _ W2 q4 (Or.inr q6)
      exact Pc_b1x (fun r => Pc_jn (Pc_if (fun _ => Pc_if (fun _ => K r 0) (fun _ => K r 1)) (fun _ => K r 2)))
    have two : ∀ op : Int32, Pc (jn (fun (cost : Int32) => (if (zS s p 5) < cost then some s else (vl (((zS s p 5) - cost)) fun v12 => (st (pS s p 5 v12) fun s13 => (st (pS s13 p 2 c) fun s14 => (st (pS s14 p 4 x) fun s15 => (vl (((zS s15 0 16) + (1 : Int32))) fun v16 => (st (pS s15 0 16 v16) fun s17 => (b1 (f_X0_isRefuge s17 c x) fun r18 => (jn (fun (t19_0 : Int32) => (gd (inB x 61) (st (pI s17 (p + 2) (x.toInt.toNat) t19_0) fun s21 => (jn (fun (s22 : SS)  => (vl (x + 1) fun v23 => (f_X11_boreOn_L7 p y2 n s22 v23))) fun k22 => (if r18 = (0 : Int32) then (k22 s21) else (st (pS s21 p 6 1) fun s25 => (vl (((zS s25 0 17) + (1 : Int32))) fun v26 => (st (pS s25 0 17 v26) fun s27 => (b1 (f_J9_min_7cf53 (zS s27 0 18) (zS s27 0 14)) fun r28 => (st (pS s27 0 18 r28) fun s29 => (k22 s29))))))))))) fun k19 => (if r18 = (0 : Int32) then (if op = (0 : Int32) then (k19 0) else (k19 1)) else (k19 2)))))))))))) fun k10 => (if op = (0 : Int32) then (gd (inB ((((c * (60 : Int32)) + x) - (1 : Int32))) 1920) (k10 (y2 * (zI s 2 (((((c * (60 : Int32)) + x) - (1 : Int32))).toInt.toNat))))) else (k10 0))) (fun r => BX p s r) := fun op => Pc_jn (Pc_if (fun _ => Pc_gd (fun _ => core op _)) (fun _ => core op _))
    exact Pc_if (fun _ => two 1) (fun _ => two 0)
theorem boX_p {p : Nat} {y2 : Int32} (o : okH s p) (hb : 0 ≤ (zS s p 4).toInt ∧ (zS s p 4).toInt ≤ 60) (h3 : (zS s p 3).toInt ≤ 60) (h16 : 0 ≤ (zS s 0 16).toInt ∧ (zS s 0 16).toInt ≤ 10000) (h17 : 0 ≤ (zS s 0 17).toInt ∧ (zS s 0 17).toInt ≤ 10000) (h6 : zS s p 6 = 0 ∨ zS s p 6 = 1) : Pc (f_X11_boreOn s p y2) (fun r => BX p s r) := by
  unfold f_X11_boreOn
  refine Pc_vl (boX_l 4000 s _ o (by rw [i32_add (by rw [jl1]; omega) (by rw [jl1]; omega), jl1]) hb.1 h3 ⟨h16.1, by omega⟩ ⟨h17.1, ?_⟩ h6)
  rcases h6 with e | e <;> rw [e] <;> first | (rw [jl0]; omega) | (rw [jl1]; omega)
end BXs
/-! MACHINES AT WORK, THE CLASS -/
section MWs
variable {s s' t : SS}
def act (s : SS) (m : Nat) : Option Nat := if zS s (20 + m) 2 < zS s 0 14 then hO s (zS s (20 + m) 1) else none
def mSt (m : Nat) (s s' : SS) : Prop := (act s m = none ∧ s' = s) ∨ ∃ p, act s m = some p ∧ f_X11_boreOn (pS s p 5 (zS s p 5 + 60)) p (zS s (20 + m) 0) = some s'
theorem holeOf_p (a : Int32) : Pc (f_X0_holeOf s a) (fun r => r = hO s a) := by
  unfold f_X0_holeOf hO
  refine Pc_lt (fun c => Pc_some ?_) (fun c => Pc_lt (fun d => Pc_gd (fun _ => ?_)) (fun d => Pc_some ?_))
  · rw [if_neg (by rw [jl0] at c; omega)]
  · rw [if_pos ⟨by rw [jl0] at c; exact c, d⟩]
    cases zR s 17 a.toInt.toNat <;> exact Pc_some rfl
  · rw [if_neg (by omega)]
theorem hO_ok (S : Sh s) (b : (zS s 15 3).toInt ≤ 120) {a : Int32} {p : Nat} (h : hO s a = some p) : a.toInt.toNat < 120 ∧ zR s 17 a.toInt.toNat = some p ∧ okH s p := by
  unfold hO at h
  by_cases c : 0 ≤ a.toInt ∧ a.toInt < (zS s 15 3).toInt
  · rw [if_pos c] at h
    exact ⟨by omega, h, S.2.2.1 _ p (by omega) h⟩
  · rw [if_neg c] at h
    cases h
theorem mw_s {R : SS → Prop} {m n : Nat} {x : Int32} (S : Sh s) (b : (zS s 15 3).toInt ≤ 120) (hx : x.toInt = m) (hm : m < 3) (h : ∀ s', mSt m s s' → Pc (f_X11_machinesWork_L2 n s' (x + 1)) R) : Pc (f_X11_machinesWork_L2 (n + 1) s x) R := by
  show Pc (f_X11_machinesWork_L2_b (f_X11_machinesWork_L2 n) s x) R
  unfold f_X11_machinesWork_L2_b
  have e19 : zR s 19 x.toInt.toNat = some (20 + m) := by rw [show x.toInt.toNat = m by omega]; exact S.2.2.2.1 m hm
  refine Pc_ift (by rw [jlt, jl3]; omega) (Pc_gd (fun _ => ?_))
  rw [e19]
  refine Pc_onS (Pc_b1 (Pc.mono (holeOf_p _) (fun r4 h4 => ?_)))
  rw [h4]
  cases hp : hO s (zS s (20 + m) 1) with
  | none =>
    refine Pc_onN (Pc_vl (h s (Or.inl ⟨?_, rfl⟩)))
    unfold act
    rw [hp]
    by_cases z : zS s (20 + m) 2 < zS s 0 14
    · rw [if_pos z]
    · rw [if_neg z]
  | some p =>
    obtain ⟨i1, i2, o⟩ := hO_ok S b hp
    have o1 := o.1
    refine Pc_onS (Pc_gd (fun _ => Pc_onS (Pc_if (fun z => Pc_vl (Pc_st (Pc_gd (fun _ => ?_)))) (fun z => Pc_vl (h s (Or.inl ⟨?_, rfl⟩))))))
    · have e19' : zR (pS s p 5 (zS s p 5 + 60)) 19 x.toInt.toNat = some (20 + m) := e19
      rw [e19']
      have e0 : zS (pS s p 5 (zS s p 5 + 60)) (20 + m) 0 = zS s (20 + m) 0 := by rw [zS_pS, if_neg (by omega)]
      refine Pc_onS (Pc_b1 (fun s15 e15 => Pc_vl (h s15 (Or.inr ⟨p, ?_, ?_⟩))))
      · unfold act
        rw [if_pos z, hp]
      · rw [e0] at e15
        exact e15
    · unfold act
      rw [if_neg z]
/-- a hole in order; sums -/
def CH (s : SS) (p : Nat) : Prop := (0 ≤ (zS s p 4).toInt ∧ (zS s p 4).toInt ≤ 60) ∧ (zS s p 3).toInt ≤ 60 ∧ (zS s p 6 = 0 ∨ zS s p 6 = 1)
def cb (s : SS) (i : Nat) : Int := match zR s 17 i with
  | some p => (zS s p 4).toInt
  | none => 0
def ct (s : SS) (i : Nat) : Int := match zR s 17 i with
  | some p => (zS s p 6).toInt
  | none => 0
def CI (s : SS) : Prop := Sh s ∧ (zS s 15 3).toInt ≤ 120 ∧ (∀ i j p, i < 120 → j < 120 → zR s 17 i = some p → zR s 17 j = some p → i = j) ∧ (∀ i p, i < 120 → zR s 17 i = some p → CH s p) ∧ (zS s 0 16).toInt = ySum (cb s) 120 ∧ (zS s 0 17).toInt = ySum (ct s) 120
theorem cb_t {i p : Nat} (h : zR s 17 i = some p) : cb s i = (zS s p 4).toInt := by
  unfold cb
  rw [h]
theorem ct_t {i p : Nat} (h : zR s 17 i = some p) : ct s i = (zS s p 6).toInt := by
  unfold ct
  rw [h]
theorem CI.b (C : CI s) : (0 ≤ (zS s 0 16).toInt ∧ (zS s 0 16).toInt ≤ 7200) ∧ (0 ≤ (zS s 0 17).toInt ∧ (zS s 0 17).toInt ≤ 120) := by
  obtain ⟨_, _, _, c4, c5, c6⟩ := C
  have h1 : ySum (fun i => if i < 120 then cb s i else 0) 120 = ySum (cb s) 120 := ySum_c (fun i hi => by rw [if_pos hi])
  have h2 : ySum (fun i => if i < 120 then ct s i else 0) 120 = ySum (ct s) 120 := ySum_c (fun i hi => by rw [if_pos hi])
  have g1 := ySum_b (f := fun i => if i < 120 then cb s i else 0) (c := 60) (fun i => by
    by_cases z : i < 120
    · rw [if_pos z]
      cases e : zR s 17 i with
      | none => unfold cb; rw [e]; exact ⟨Int.le_refl 0, show (0 : Int) ≤ 60 by omega⟩
      | some p => rw [cb_t e]; exact (c4 i p z e).1
    · rw [if_neg z]; decide) 120
  have g2 := ySum_b (f := fun i => if i < 120 then ct s i else 0) (c := 1) (fun i => by
    by_cases z : i < 120
    · rw [if_pos z]
      cases e : zR s 17 i with
      | none => unfold ct; rw [e]; exact ⟨Int.le_refl 0, show (0 : Int) ≤ 1 by omega⟩
      | some p =>
        rw [ct_t e]
        rcases (c4 i p z e).2.2 with w | w <;> rw [w] <;> decide
    · rw [if_neg z]; decide) 120
  rw [h1] at g1
  rw [h2] at g2
  omega
/-- two holes lie apart -/
theorem apart {p q : Nat} (o : okH s p) (o' : okH s q) (ne : q ≠ p) : (q ≠ p + 1 ∧ q ≠ p + 2 ∧ q ≠ p + 3) ∧ p ≠ q + 1 ∧ p ≠ q + 2 ∧ p ≠ q + 3 := ⟨⟨fun w => by have := o'.2.2.1; rw [w, o.2.2.2.1.1] at this; omega, fun w => by have := o'.2.2.1; rw [w, o.2.2.2.2.1.1] at this; omega, fun w => by have := o'.2.2.1; rw [w, o.2.2.2.2.2.1] at this; omega⟩, fun w => by have := o.2.2.1; rw [w, o'.2.2.2.1.1] at this; omega, fun w => by have := o.2.2.1; rw [w, o'.2.2.2.2.1.1] at this; omega, fun w => by have := o.2.2.1; rw [w, o'.2.2.2.2.2.1] at this; omega⟩
/-- what one machine's hour does to the class -/
def MD (p : Nat) (s s' : SS) : Prop := hW p s s' ∧ (∀ q k, q < 126 → ¬ (q = 0 ∧ 16 ≤ k ∧ k ≤ 18) → zS s' q k = zS s q k) ∧ (∀ q j, q < 126 → zI s' q j = zI s q j) ∧ ((zS s' p 6 = zS s p 6 ∧ zS s' 0 18 = zS s 0 18) ∨ (zS s p 6 = 0 ∧ zS s' p 6 = 1 ∧ zS s' 0 18 = (if zS s 0 14 < zS s 0 18 then zS s 0 14 else zS s 0 18)))
theorem mSt.ci {m : Nat} (C : CI s) (h : mSt m s s') : CI s' ∧ ((act s m = none ∧ s' = s) ∨ ∃ p, act s m = some p ∧ MD p s s') := by
  rcases h with ⟨h1, h2⟩ | ⟨p, ha, hb⟩
  · rw [h2]
    exact ⟨C, Or.inl ⟨h1, rfl⟩⟩
  have hO' : hO s (zS s (20 + m) 1) = some p := by
    unfold act at ha
    by_cases z : zS s (20 + m) 2 < zS s 0 14
    · rw [if_pos z] at ha; exact ha
    · rw [if_neg z] at ha; cases ha
  have bb := C.b
  obtain ⟨c1, c2, c3, c4, c5, c6⟩ := C
  obtain ⟨i1, i2, o⟩ := hO_ok c1 c2 hO'
  generalize hn : (zS s (20 + m) 1).toInt.toNat = n at i1 i2
  have o1 := o.1
  obtain ⟨d1, d2, d3⟩ := c4 n p i1 i2
  have zk : ∀ k, k ≠ 5 → zS (pS s p 5 (zS s p 5 + 60)) p k = zS s p k := fun k hk => by rw [zS_pS, if_neg (by omega)]
  have zs : ∀ q k, q ≠ p → zS (pS s p 5 (zS s p 5 + 60)) q k = zS s q k := fun q k hq => by rw [zS_pS, if_neg (by omega)]
  have B := boX_p (s := pS s p 5 (zS s p 5 + 60)) (p := p) (y2 := zS s (20 + m) 0) (o.hW hW.rf.wS) (by rw [zk 4 (by omega)]; exact d1) (by rw [zk 3 (by omega)]; exact d2) (by rw [zs 0 16 (by omega)]; omega) (by rw [zs 0 17 (by omega)]; omega) (by rw [zk 6 (by omega)]; exact d3) s' hb
  obtain ⟨q1, q2, q3, q4, q5, q6, q7, q8⟩ := B
  rw [zk 4 (by omega), zs 0 16 (by omega)] at q4
  rw [zk 6 (by omega), zs 0 17 (by omega)] at q5
  rw [zk 6 (by omega), zs 0 18 (by omega), zs 0 14 (by omega)] at q6
  rw [zk 3 (by omega)] at q7
  rw [zk 4 (by omega), zk 3 (by omega)] at q8
  have W : hW p s s' := hW.rf.wS.tr q1
  have eR : ∀ i, zR s' 17 i = zR s 17 i := fun i => W.R 17 i
  have oth : ∀ j q, j < 120 → j ≠ n → zR s 17 j = some q → ∀ k, zS s' q k = zS s q k := fun j q hj ne hq k => W.1 q k (c1.2.2.1 j q hj hq).1 (fun z => ne (c3 j n p hj i1 (z ▸ hq) i2))
  have cbn : ∀ j, j ≠ n → j < 120 → cb s' j = cb s j ∧ ct s' j = ct s j := fun j ne hj => by
    unfold cb ct
    rw [eR]
    cases e : zR s 17 j with
    | none => exact ⟨rfl, rfl⟩
    | some q =>
      show (zS s' q 4).toInt = (zS s q 4).toInt ∧ (zS s' q 6).toInt = (zS s q 6).toInt
      rw [oth j q hj ne e 4, oth j q hj ne e 6]
      exact ⟨rfl, rfl⟩
  refine ⟨⟨W.S c1, by rw [q2 15 3 (by omega) (by omega), zs 15 3 (by omega)]; exact c2, fun i j q hi hj e f => c3 i j q hi hj ((eR i).symm.trans e) ((eR j).symm.trans f), fun j q hj e => ?_, ?_, ?_⟩, Or.inr ⟨p, ha, W, fun q k h1 h2 => (q2 q k h1 h2).trans (zs q k (by omega)), fun q j h1 => q3 q j h1, q6⟩⟩
  · have e' := (eR j).symm.trans e
    by_cases z : j = n
    · rw [z, i2] at e'
      have : p = q := Option.some.inj e'
      rw [← this]
      refine ⟨⟨by omega, by omega⟩, by rw [q7]; exact d2, ?_⟩
      rcases q6 with ⟨w, _⟩ | ⟨_, w, _⟩
      · rw [w]; exact d3
      · exact Or.inr w
    · have := oth j q hj z e'
      unfold CH
      rw [this, this, this]
      exact c4 j q hj e'
  · have up := ySum_up (f := fun i => if i < 120 then cb s i else 0) (g := fun i => if i < 120 then cb s' i else 0) (j := n) (fun i hi => by
      by_cases z : i < 120
      · rw [if_pos z, if_pos z]; exact (cbn i hi z).1
      · rw [if_neg z, if_neg z]) 120
    have h1 : ySum (fun i => if i < 120 then cb s i else 0) 120 = ySum (cb s) 120 := ySum_c (fun i hi => by rw [if_pos hi])
    have h2 : ySum (fun i => if i < 120 then cb s' i else 0) 120 = ySum (cb s') 120 := ySum_c (fun i hi => by rw [if_pos hi])
    rw [h1, h2, if_pos i1, if_pos i1, if_pos i1, cb_t i2, cb_t ((eR n).trans i2)] at up
    rw [up, q4.1, c5]
  · have up := ySum_up (f := fun i => if i < 120 then ct s i else 0) (g := fun i => if i < 120 then ct s' i else 0) (j := n) (fun i hi => by
      by_cases z : i < 120
      · rw [if_pos z, if_pos z]; exact (cbn i hi z).2
      · rw [if_neg z, if_neg z]) 120
    have h1 : ySum (fun i => if i < 120 then ct s i else 0) 120 = ySum (ct s) 120 := ySum_c (fun i hi => by rw [if_pos hi])
    have h2 : ySum (fun i => if i < 120 then ct s' i else 0) 120 = ySum (ct s') 120 := ySum_c (fun i hi => by rw [if_pos hi])
    rw [h1, h2, if_pos i1, if_pos i1, if_pos i1, ct_t i2, ct_t ((eR n).trans i2)] at up
    rw [up, q5, c6]
theorem mw_p (C : CI s) : Pc (f_X11_machinesWork s) (fun s3 => ∃ s1 s2, mSt 0 s s1 ∧ mSt 1 s1 s2 ∧ mSt 2 s2 s3) := by
  unfold f_X11_machinesWork
  refine mw_s (m := 0) C.1 C.2.1 rfl (by omega) (fun s1 h1 => ?_)
  obtain ⟨C1, _⟩ := h1.ci C
  refine mw_s (m := 1) C1.1 C1.2.1 rfl (by omega) (fun s2 h2 => ?_)
  obtain ⟨C2, _⟩ := h2.ci C1
  refine mw_s (m := 2) C2.1 C2.2.1 rfl (by omega) (fun s3 h3 => ?_)
  show Pc (f_X11_machinesWork_L2_b (f_X11_machinesWork_L2 3996) s3 (0 + 1 + 1 + 1)) _
  unfold f_X11_machinesWork_L2_b
  exact Pc_iff (by decide) (Pc_some ⟨s1, s2, h1, h2, h3⟩)
end MWs
/-! THE REFERENCE DRILLS: flags, then minutes by machines -/
section DRs
variable {s t : SS}
theorem dr2_l {t0 : SS} {q0 : SS → Option SS} {R : SS → Prop} (hb : 0 ≤ (zS t0 59 4).toInt ∧ (zS t0 59 4).toInt ≤ 120) (hq : ∀ u, Frm [] [99] [] t0 u → (∀ i : Nat, (i : Int) < (zS t0 59 4).toInt → zI u 99 i = 0) → Pc (q0 u) R) : ∀ (n : Nat) (t : SS) (x : Int32), 0 ≤ x.toInt → x.toInt ≤ (zS t0 59 4).toInt → Frm [] [99] [] t0 t → (∀ i : Nat, (i : Int) < x.toInt → zI t 99 i = 0) → Pc (f_X12_drill_L2 q0 n t x) R
  | 0, _, _, _, _, _, _ => Pc_none
  | n + 1, t, x, h0, h1, F, hz => by
    show Pc (f_X12_drill_L2_b q0 (f_X12_drill_L2 q0 n) t x) R
    unfold f_X12_drill_L2_b
    rw [F.1 59 4 (by decide)]
    refine Pc_lt (fun c => Pc_gd (fun _ => Pc_st (Pc_vl ?_))) (fun c => hq t F (fun i hi => hz i (by omega)))
    have n1 : (x + 1).toInt = x.toInt + 1 := by rw [i32_add (by rw [jl1]; omega) (by rw [jl1]; omega), jl1]
    refine dr2_l hb hq n _ _ (by omega) (by omega) (F.pI (by decide)) (fun i hi => ?_)
    rw [zI_pI]
    by_cases z : i = x.toInt.toNat
    · rw [if_pos ⟨rfl, z⟩]; decide
    · rw [if_neg (fun w => z w.2)]
      exact hz i (by omega)
/-- a machine of the reference that gives minutes; where -/
def mac (t : SS) (m : Nat) : Prop := 0 ≤ (zI t 79 m).toInt ∧ zI t 80 m < zS t 59 1
def mat (t : SS) (m : Nat) : Nat := (zI t 79 m).toInt.toNat
def DK (t u : SS) (k : Nat) : Prop := Frm [] [68, 99, 100] [] t u ∧ (∀ i, (∀ m, m < k → mac t m → mat t m ≠ i) → zI u 68 i = zI t 68 i ∧ zI u 99 i = zI t 99 i) ∧ ∀ m, m < k → mac t m → zI u 68 (mat t m) = zI t 68 (mat t m) + 60 ∧ zI u 99 (mat t m) = 1 ∧ zI u 100 (mat t m) = zI t 78 m
theorem dr36_l {t0 : SS} {q0 : SS → Option SS} {R : SS → Prop} (hd : ∀ i j, i < 3 → j < 3 → i ≠ j → 0 ≤ (zI t0 79 i).toInt → zI t0 79 i ≠ zI t0 79 j) (hq : ∀ u, DK t0 u 3 → Pc (q0 u) R) : ∀ (n : Nat) (t : SS) (x : Int32) (k : Nat), x.toInt = k → k ≤ 3 → DK t0 t k → Pc (f_X12_drill_L36 q0 n t x) R
  | 0, _, _, _, _, _, _ => Pc_none
  | n + 1, t, x, k, hx, hk, D => by
    show Pc (f_X12_drill_L36_b q0 (f_X12_drill_L36 q0 n) t x) R
    unfold f_X12_drill_L36_b
    obtain ⟨F, d1, d2⟩ := id D
    by_cases c : k < 3
    case neg => exact Pc_iff (by rw [jlt, jl3]; omega) (hq t (by rw [show k = 3 by omega] at D; exact D))
    have n1 : (x + 1).toInt = ((k + 1 : Nat) : Int) := by rw [i32_add (by rw [jl1]; omega) (by rw [jl1]; omega), jl1]; omega
    have xt : x.toInt.toNat = k := by omega
    have e79 : zI t 79 k = zI t0 79 k := F.2.1 79 k (by decide)
    have e80 : zI t 80 k = zI t0 80 k := F.2.1 80 k (by decide)
    have e1 : zS t 59 1 = zS t0 59 1 := F.1 59 1 (by decide)
    have skip : ¬ mac t0 k → Pc (f_X12_drill_L36 q0 n t (x + 1)) R := fun h => dr36_l hd hq n t (x + 1) (k + 1) n1 (by omega) ⟨F, fun i hi => d1 i (fun m hm => hi m (by omega)), fun m hm hma => d2 m (by
      by_cases z : m = k
      · rw [z] at hma; exact absurd hma h
      · omega) hma⟩
    rw [xt]
    refine Pc_ift (by rw [jlt, jl3]; omega) (Pc_gd fun _ => Pc_jn (Pc_lt (fun z => ?_) (fun z => Pc_gd fun _ => Pc_if (fun w => ?_) (fun w => ?_))))
    · refine Pc_vl (skip (fun h => ?_))
      rw [e79, jl0] at z
      have := h.1
      omega
    · refine Pc_gd fun _ => Pc_vl (Pc_gd fun _ => Pc_vl (Pc_vl (Pc_gd fun _ => Pc_st ?_)))
      refine Pc_gd fun _ => Pc_vl (Pc_gd fun _ => Pc_st ?_)
      refine Pc_gd fun _ => Pc_gd fun _ => Pc_vl (Pc_vl (Pc_gd fun _ => Pc_st (Pc_vl ?_)))
      rw [e79, jl0] at z
      rw [e80, e1] at w
      have hma : mac t0 k := ⟨z, w⟩
      have q79a : zI (pI t 68 (zI t 79 k).toInt.toNat (zI t 68 (zI t 79 k).toInt.toNat + 60)) 79 k = zI t 79 k := by rw [zI_pI, if_neg (by omega)]
      have q79b : zI (pI (pI t 68 (zI t 79 k).toInt.toNat (zI t 68 (zI t 79 k).toInt.toNat + 60)) 99 (zI t 79 k).toInt.toNat (1 &&& 1)) 79 k = zI t 79 k := by rw [zI_pI, if_neg (by omega), zI_pI, if_neg (by omega)]
      have q78 : zI (pI (pI t 68 (zI t 79 k).toInt.toNat (zI t 68 (zI t 79 k).toInt.toNat + 60)) 99 (zI t 79 k).toInt.toNat (1 &&& 1)) 78 k = zI t0 78 k := by rw [zI_pI, if_neg (by omega), zI_pI, if_neg (by omega)]; exact F.2.1 78 k (by decide)
      rw [q79a, q79b, q78, e79]
      have hm : (zI t0 79 k).toInt.toNat = mat t0 k := rfl
      rw [hm]
      have dist : ∀ m, m < k → mac t0 m → mat t0 m ≠ mat t0 k := fun m hm' hma' e => by
        have := hd m k (by omega) c (by omega) hma'.1
        unfold mat at e
        exact this (Int32.toInt_inj.1 (by have := hma'.1; omega))
      obtain ⟨u1, u2⟩ := d1 (mat t0 k) dist
      have c68 : ∀ i v w y, zI (pI (pI (pI t 68 (mat t0 k) v) 99 (mat t0 k) w) 100 (mat t0 k) y) 68 i = if i = mat t0 k then v else zI t 68 i := fun i v w y => by
        rw [zI_pI, if_neg (by omega), zI_pI, if_neg (by omega), zI_pI]
        by_cases z : i = mat t0 k
        · rw [if_pos ⟨rfl, z⟩, if_pos z]
        · rw [if_neg (fun q => z q.2), if_neg z]
      have c99 : ∀ i v w y, zI (pI (pI (pI t 68 (mat t0 k) v) 99 (mat t0 k) w) 100 (mat t0 k) y) 99 i = if i = mat t0 k then w else zI t 99 i := fun i v w y => by
        rw [zI_pI, if_neg (by omega), zI_pI]
        by_cases z : i = mat t0 k
        · rw [if_pos ⟨rfl, z⟩, if_pos z]
        · rw [if_neg (fun q => z q.2), if_neg z, zI_pI, if_neg (by omega)]
      have c100 : ∀ i v w y, zI (pI (pI (pI t 68 (mat t0 k) v) 99 (mat t0 k) w) 100 (mat t0 k) y) 100 i = if i = mat t0 k then y else zI t 100 i := fun i v w y => by
        rw [zI_pI]
        by_cases z : i = mat t0 k
        · rw [if_pos ⟨rfl, z⟩, if_pos z]
        · rw [if_neg (fun q => z q.2), if_neg z, zI_pI, if_neg (by omega), zI_pI, if_neg (by omega)]
      refine dr36_l hd hq n _ (x + 1) (k + 1) n1 (by omega) ⟨((F.pI (by decide)).pI (by decide)).pI (by decide), fun i hi => ?_, fun m hm' hma' => ?_⟩
      · have ne : i ≠ mat t0 k := fun e => hi k (by omega) hma e.symm
        rw [c68, c99, if_neg ne, if_neg ne]
        exact d1 i (fun m hm' => hi m (by omega))
      · by_cases z : m = k
        · rw [z, c68, c99, c100, if_pos rfl, if_pos rfl, if_pos rfl, u1]
          exact ⟨rfl, by decide, rfl⟩
        · have ne : mat t0 m ≠ mat t0 k := dist m (by omega) hma'
          rw [c68, c99, c100, if_neg ne, if_neg ne, if_neg ne]
          exact d2 m (by omega) hma'
    · refine Pc_vl (skip (fun h => w ?_))
      rw [e80, e1]
      exact h.2
end DRs
/-! THE REFERENCE BORES, HOLE BY HOLE; the class's hole where another is bored -/
section DHs
variable {s s' t t' u0 : SS}
/-- the rows of hole i as before -/
def sRw (i : Nat) (t t' : SS) : Prop := (∀ q, 63 ≤ q → q ≤ 69 ∨ q = 104 → zI t' q i = zI t q i) ∧ ∀ q y, 70 ≤ q → q ≤ 73 → 1 ≤ y → y ≤ 60 → zI t' q (61 * i + y) = zI t q (61 * i + y)
theorem sRw.rf {i : Nat} : sRw i t t := ⟨fun _ _ _ => rfl, fun _ _ _ _ _ _ => rfl⟩
theorem sRw.tr {i : Nat} {r : SS} (h : sRw i t t') (g : sRw i t' r) : sRw i t r := ⟨fun q a b => (g.1 q a b).trans (h.1 q a b), fun q y a b c d => (g.2 q y a b c d).trans (h.2 q y a b c d)⟩
theorem mW.row {i n : Nat} (h : mW n t t') (ne : i ≠ n) : sRw i t t' := ⟨fun q a b => h.1 q i a b ne, fun q y a b c d => h.2.1 q i y a b ne c d⟩
/-- all but the holes' rows as before -/
def dFr (t t' : SS) : Prop := (∀ q k, zS t' q k = zS t q k) ∧ ∀ q j, q < 63 ∨ 73 < q → q ≠ 104 → zI t' q j = zI t q j
theorem dFr.rf : dFr t t := ⟨fun _ _ => rfl, fun _ _ _ _ => rfl⟩
theorem dFr.w {n : Nat} {r : SS} (h : dFr t t') (g : mW n t' r) (e : ∀ q k, zS r q k = zS t' q k) : dFr t r := ⟨fun q k => (e q k).trans (h.1 q k), fun q j a b => (g.2.2 q j a b).trans (h.2 q j a b)⟩
theorem dr119_l {G : Nat → SS → Prop} (hN : 0 ≤ (zS u0 59 4).toInt ∧ (zS u0 59 4).toInt ≤ 120) (hG : ∀ i u u', sRw i u u' → G i u → G i u') (h0 : ∀ (i : Nat) u, (i : Int) < (zS u0 59 4).toInt → zI u0 99 i = 0 → sRw i u0 u → G i u) (hb : ∀ (i : Nat) u (x : Int32), x.toInt = i → (i : Int) < (zS u0 59 4).toInt → ¬ zI u0 99 i = 0 → dFr u0 u → sRw i u0 u → Pc (f_X12_bore u x (zI u0 100 i)) (fun u' => G i u' ∧ mW i u u' ∧ ∀ q k, zS u' q k = zS u q k)) : ∀ (n : Nat) (u : SS) (x : Int32) (k : Nat), x.toInt = k → (k : Int) ≤ (zS u0 59 4).toInt → dFr u0 u → (∀ i, k ≤ i → sRw i u0 u) → (∀ i, i < k → G i u) → Pc (f_X12_drill_L119 n u x) (fun r => dFr u0 r ∧ (∀ i : Nat, (zS u0 59 4).toInt ≤ i → sRw i u0 r) ∧ ∀ i : Nat, (i : Int) < (zS u0 59 4).toInt → G i r)
  | 0, _, _, _, _, _, _, _, _ => Pc_none
  | n + 1, u, x, k, hx, hk, F, a1, a2 => by
    show Pc (f_X12_drill_L119_b (f_X12_drill_L119 n) u x) _
    unfold f_X12_drill_L119_b
    have xt : x.toInt.toNat = k := by omega
    rw [F.1 59 4, xt]
    have e99 : zI u 99 k = zI u0 99 k := F.2 99 k (by omega) (by omega)
    have e100 : zI u 100 k = zI u0 100 k := F.2 100 k (by omega) (by omega)
    rw [e99, e100]
    refine Pc_lt (fun c => Pc_gd fun _ => Pc_jn (Pc_if (fun z => ?_) (fun z => ?_))) (fun c => Pc_some ⟨F, fun i hi => a1 i (by omega), fun i hi => a2 i (by omega)⟩)
    · have n1 : (x + 1).toInt = ((k + 1 : Nat) : Int) := by rw [i32_add (by rw [jl1]; omega) (by rw [jl1]; omega), jl1]; omega
      refine Pc_vl (dr119_l hN hG h0 hb n u (x + 1) (k + 1) n1 (by omega) F (fun i hi => a1 i (by omega)) (fun i hi => ?_))
      by_cases d : i = k
      · rw [d]; exact h0 k u (by omega) z (a1 k (Nat.le_refl k))
      · exact a2 i (by omega)
    · have n1 : (x + 1).toInt = ((k + 1 : Nat) : Int) := by rw [i32_add (by rw [jl1]; omega) (by rw [jl1]; omega), jl1]; omega
      refine Pc_gd fun _ => Pc_b1 (Pc.mono (hb k u x hx (by omega) z F (a1 k (Nat.le_refl k))) (fun u' h => ?_))
      obtain ⟨g1, g2, g3⟩ := h
      refine Pc_vl (dr119_l hN hG h0 hb n u' (x + 1) (k + 1) n1 (by omega) (F.w g2 g3) (fun i hi => (a1 i (by omega)).tr (g2.row (by omega))) (fun i hi => ?_))
      by_cases d : i = k
      · rw [d]; exact g1
      · exact hG i u u' (g2.row d) (a2 i (by omega))
/-- the class's hole at p as before -/
def sHp (p : Nat) (s s' : SS) : Prop := (∀ k, zS s' p k = zS s p k) ∧ (∀ j, zI s' (p + 1) j = zI s (p + 1) j) ∧ (∀ j, zI s' (p + 2) j = zI s (p + 2) j) ∧ ∀ j, zI s' (p + 3) j = zI s (p + 3) j
theorem sHp.rf {p : Nat} : sHp p s s := ⟨fun _ => rfl, fun _ => rfl, fun _ => rfl, fun _ => rfl⟩
theorem sHp.tr {p : Nat} {r : SS} (h : sHp p s s') (g : sHp p s' r) : sHp p s r := ⟨fun k => (g.1 k).trans (h.1 k), fun j => (g.2.1 j).trans (h.2.1 j), fun j => (g.2.2.1 j).trans (h.2.2.1 j), fun j => (g.2.2.2 j).trans (h.2.2.2 j)⟩
theorem HX.h {p i : Nat} (x : HX s p t i) (h : sHp p s s') (g : sRw i t t') : HX s' p t' i := by
  obtain ⟨x0, x1, x2, x3, x4, x5, x6, x7, x8⟩ := x
  refine ⟨?_, ?_, ?_, ?_, ?_, ?_, ?_, ?_, fun y y1 y2 => ?_⟩
  · rw [h.1, g.1 63 (by omega) (by omega)]; exact x0
  · rw [h.1, g.1 64 (by omega) (by omega)]; exact x1
  · rw [h.1, g.1 65 (by omega) (by omega)]; exact x2
  · rw [h.1, g.1 66 (by omega) (by omega)]; exact x3
  · rw [h.1, g.1 67 (by omega) (by omega)]; exact x4
  · rw [h.1, g.1 68 (by omega) (by omega)]; exact x5
  · rw [h.1, g.1 69 (by omega) (by omega)]; exact x6
  · rw [h.1, g.1 104 (by omega) (by omega)]; exact x7
  · rw [h.2.1, h.2.2.1, h.2.2.2, g.2 70 y (by omega) (by omega) y1 y2, g.2 71 y (by omega) (by omega) y1 y2, g.2 72 y (by omega) (by omega) y1 y2, g.2 73 y (by omega) (by omega) y1 y2]
    exact x8 y y1 y2
theorem MD.h {p q : Nat} (o : okH s p) (o' : okH s q) (ne : q ≠ p) (h : MD p s s') : sHp q s s' := by
  obtain ⟨⟨a1, a2, a3⟩, b1, b2, b3⟩ := apart o o' ne
  have q1 := o'.1
  have h1 := h.1
  exact ⟨fun k => h1.1 q k q1 ne, fun j => h1.2.1 (q + 1) j (by omega) (by omega) (by omega) (by omega), fun j => h1.2.1 (q + 2) j (by omega) (by omega) (by omega) (by omega), fun j => h1.2.1 (q + 3) j (by omega) (by omega) (by omega) (by omega)⟩
end DHs
/-! THREE MACHINES, THE CLASS: what each hole sees of them -/
section TMs
variable {s s' s1 s2 s3 u : SS}
/-- low cells as before, but for the three counts -/
def cL (s s' : SS) : Prop := (∀ q k, q < 126 → ¬ (q = 0 ∧ 16 ≤ k ∧ k ≤ 18) → zS s' q k = zS s q k) ∧ (∀ q j, q < 126 → zI s' q j = zI s q j) ∧ s'.2.2.2 = s.2.2.2
theorem cL.rf : cL s s := ⟨fun _ _ _ _ => rfl, fun _ _ _ => rfl, rfl⟩
theorem cL.tr {r : SS} (h : cL s s') (g : cL s' r) : cL s r := ⟨fun q k a b => (g.1 q k a b).trans (h.1 q k a b), fun q j a => (g.2.1 q j a).trans (h.2.1 q j a), g.2.2.trans h.2.2⟩
theorem cL.R (h : cL s s') (a i : Nat) : zR s' a i = zR s a i := by unfold zR; rw [h.2.2]
theorem cL.a {m : Nat} (h : cL s s') (hm : m < 3) : act s' m = act s m := by
  unfold act hO
  rw [h.1 (20 + m) 2 (by omega) (by omega), h.1 0 14 (by omega) (by omega), h.1 (20 + m) 1 (by omega) (by omega), h.1 15 3 (by omega) (by omega), h.R]
theorem MD.l {p : Nat} (h : MD p s s') : cL s s' := ⟨h.2.1, h.2.2.1, h.1.2.2⟩
theorem act_o {m p : Nat} (C : CI s) (h : act s m = some p) : okH s p := by
  unfold act at h
  by_cases z : zS s (20 + m) 2 < zS s 0 14
  · rw [if_pos z] at h
    exact (hO_ok C.1 C.2.1 h).2.2
  · rw [if_neg z] at h
    cases h
theorem mSt.o {m : Nat} (C : CI s) (h : mSt m s s') : CI s' ∧ cL s s' ∧ ∀ i q, i < 120 → zR s 17 i = some q → act s m ≠ some q → sHp q s s' := by
  obtain ⟨c, d⟩ := h.ci C
  refine ⟨c, ?_, fun i q hi hq ne => ?_⟩
  · rcases d with ⟨_, e⟩ | ⟨p, _, M⟩
    · rw [e]; exact cL.rf
    · exact M.l
  · rcases d with ⟨_, e⟩ | ⟨p, ha, M⟩
    · rw [e]; exact sHp.rf
    · exact M.h (act_o C ha) (C.1.2.2.1 i q hi hq) (fun z => ne (by rw [ha, z]))
theorem mSt.e {m q : Nat} (h : mSt m s s') (ha : act s m = some q) : f_X11_boreOn (pS s q 5 (zS s q 5 + 60)) q (zS s (20 + m) 0) = some s' := by
  rcases h with ⟨n, _⟩ | ⟨p, hp, e⟩
  · rw [n] at ha; cases ha
  · rw [hp] at ha
    rw [← Option.some.inj ha]
    exact e
/-- what a hole with one machine sees: as it was up to a, bored from a to b, as in b to the end -/
def oneM (s s3 : SS) (m q : Nat) : Prop := ∃ a b, CI a ∧ cL s a ∧ sHp q s a ∧ f_X11_boreOn (pS a q 5 (zS a q 5 + 60)) q (zS s (20 + m) 0) = some b ∧ sHp q b s3
theorem m3_o (C : CI s) (h0 : mSt 0 s s1) (h1 : mSt 1 s1 s2) (h2 : mSt 2 s2 s3) : CI s3 ∧ cL s s3 ∧ (∀ i q, i < 120 → zR s 17 i = some q → (∀ m, m < 3 → act s m ≠ some q) → sHp q s s3) ∧ ∀ m i q, m < 3 → i < 120 → zR s 17 i = some q → act s m = some q → (∀ m', m' < 3 → m' ≠ m → act s m' ≠ some q) → oneM s s3 m q := by
  obtain ⟨C1, L1, k1⟩ := h0.o C
  obtain ⟨C2, L2, k2⟩ := h1.o C1
  obtain ⟨C3, L3, k3⟩ := h2.o C2
  have L12 := L1.tr L2
  have a1 : act s1 1 = act s 1 := L1.a (by omega)
  have a2 : act s2 2 = act s 2 := L12.a (by omega)
  have r1 : ∀ i, zR s1 17 i = zR s 17 i := fun i => L1.R 17 i
  have r2 : ∀ i, zR s2 17 i = zR s 17 i := fun i => L12.R 17 i
  refine ⟨C3, L12.tr L3, fun i q hi hq n => ?_, fun m i q hm hi hq ha n => ?_⟩
  · exact ((k1 i q hi hq (n 0 (by omega))).tr (k2 i q hi ((r1 i).trans hq) (by rw [a1]; exact n 1 (by omega)))).tr (k3 i q hi ((r2 i).trans hq) (by rw [a2]; exact n 2 (by omega)))
  · have j1 : m ≠ 0 → sHp q s s1 := fun z => k1 i q hi hq (n 0 (by omega) (fun w => z w.symm))
    have j2 : m ≠ 1 → sHp q s1 s2 := fun z => k2 i q hi ((r1 i).trans hq) (by rw [a1]; exact n 1 (by omega) (fun w => z w.symm))
    have j3 : m ≠ 2 → sHp q s2 s3 := fun z => k3 i q hi ((r2 i).trans hq) (by rw [a2]; exact n 2 (by omega) (fun w => z w.symm))
    have cs : m = 0 ∨ m = 1 ∨ m = 2 := by omega
    rcases cs with z | z | z
    · rw [z] at ha j2 j3 ⊢
      exact ⟨s, s1, C, cL.rf, sHp.rf, h0.e ha, (j2 (by omega)).tr (j3 (by omega))⟩
    · rw [z] at ha j1 j3 ⊢
      have e := h1.e (a1.trans ha)
      rw [L1.1 (20 + 1) 0 (by omega) (by omega)] at e
      exact ⟨s1, s2, C1, L1, j1 (by omega), e, j3 (by omega)⟩
    · rw [z] at ha j1 j2 ⊢
      have e := h2.e (a2.trans ha)
      rw [L12.1 (20 + 2) 0 (by omega) (by omega)] at e
      exact ⟨s2, s3, C2, L12, (j1 (by omega)).tr (j2 (by omega)), e, sHp.rf⟩
/-- one hole bored on both sides -/
theorem bm_l {p i : Nat} {x v : Int32} (hx : x.toInt = i) (hi : i < 120) (hp : 0 ≤ v.toInt ∧ v.toInt ≤ 60) (o : okH s p) (c : CH s p) (h16 : 0 ≤ (zS s 0 16).toInt ∧ (zS s 0 16).toInt ≤ 7200) (h17 : 0 ≤ (zS s 0 17).toInt ∧ (zS s 0 17).toInt ≤ 120) (hd : ∀ j, 0 ≤ (zI s 2 j).toInt ∧ (zI s 2 j).toInt ≤ 9) (X : HX (pS s p 5 (zS s p 5 + 60)) p u i) (E : BE s u) (h69 : 0 ≤ (zI u 69 i).toInt ∧ (zI u 69 i).toInt ≤ 1700) (h68 : 0 ≤ (zI u 68 i).toInt) (e : f_X11_boreOn (pS s p 5 (zS s p 5 + 60)) p v = some s') : Pc (f_X12_bore u x v) (fun u' => BW p i (pS s p 5 (zS s p 5 + 60)) u s' u') := by
  have o1 := o.1
  obtain ⟨d1, d2, d3⟩ := c
  have zk : ∀ k, k ≠ 5 → zS (pS s p 5 (zS s p 5 + 60)) p k = zS s p k := fun k hk => by rw [zS_pS, if_neg (by omega)]
  have zs : ∀ q k, q ≠ p → zS (pS s p 5 (zS s p 5 + 60)) q k = zS s q k := fun q k hq => by rw [zS_pS, if_neg (by omega)]
  have o' : okH (pS s p 5 (zS s p 5 + 60)) p := o.hW hW.rf.wS
  have E' : BE (pS s p 5 (zS s p 5 + 60)) u := by
    obtain ⟨e1, e2, e3, e4, e5, e6, e7⟩ := E
    refine ⟨e1, ?_, ?_, ?_, ?_, ?_, ?_⟩
    · rw [zs 0 14 (by omega)]; exact e2
    · rw [zs 0 14 (by omega)]; exact e3
    · rw [zs 15 5 (by omega)]; exact e4
    · rw [zs 15 6 (by omega)]; exact e5
    · rw [zs 15 7 (by omega)]; exact e6
    · rw [zs 15 8 (by omega)]; exact e7
  have p6 : 0 ≤ (zS s p 6).toInt := by
    rcases d3 with w | w
    · rw [w, jl0]; omega
    · rw [w, jl1]; omega
  have n1 : (zS (pS s p 5 (zS s p 5 + 60)) p 4 + 1).toInt = (zS (pS s p 5 (zS s p 5 + 60)) p 4).toInt + 1 := by
    rw [zk 4 (by omega), i32_add (by rw [jl1]; omega) (by rw [jl1]; omega), jl1]
  exact bore_l hx hi hp 4000 4000 (pS s p 5 (zS s p 5 + 60)) u _ o' X E' n1 (by rw [zk 4 (by omega)]; exact d1.1) (by rw [zk 3 (by omega)]; exact d2) h69 h68 (by rw [zs 0 16 (by omega), zk 4 (by omega)]; omega) (by rw [zs 0 17 (by omega), zk 6 (by omega)]; omega) hd s' e
end TMs
/-! A DRILLING HOUR, HOLE BY HOLE -/
section DQs
variable {s s3 t u u0 : SS}
/-- where the machines are: alike -/
def MA (s t : SS) : Prop := ∀ m, m < 3 → zS s (20 + m) 0 = zI t 78 m ∧ zS s (20 + m) 1 = zI t 79 m ∧ zS s (20 + m) 2 = zI t 80 m
theorem act_m {m p : Nat} (A : MA s t) (hh : zS s 0 14 = zS t 59 1) (b : (zS s 15 3).toInt ≤ 120) (hm : m < 3) (h : act s m = some p) : mac t m ∧ mat t m < 120 ∧ zR s 17 (mat t m) = some p := by
  obtain ⟨_, a1, a2⟩ := A m hm
  unfold act at h
  rw [a1, a2, hh] at h
  by_cases z : zI t 80 m < zS t 59 1
  · rw [if_pos z] at h
    unfold hO at h
    by_cases c : 0 ≤ (zI t 79 m).toInt ∧ (zI t 79 m).toInt < (zS s 15 3).toInt
    · rw [if_pos c] at h
      exact ⟨⟨c.1, z⟩, by unfold mat; omega, h⟩
    · rw [if_neg c] at h; cases h
  · rw [if_neg z] at h; cases h
theorem m_act {m : Nat} (A : MA s t) (hh : zS s 0 14 = zS t 59 1) (b : (zS s 15 3).toInt ≤ 120) (Q : QSet s t) (hm : m < 3) (h : mac t m) : (mat t m : Int) < (zS s 15 3).toInt ∧ ∃ p, act s m = some p ∧ zR s 17 (mat t m) = some p := by
  obtain ⟨_, a1, a2⟩ := A m hm
  obtain ⟨h1, h2⟩ := h
  rcases Q.1 m hm with w | ⟨w1, w2, w3⟩
  · omega
  refine ⟨by unfold mat; omega, ?_⟩
  cases e : zR s 17 (zI t 79 m).toInt.toNat with
  | none => exact absurd e w3
  | some p =>
    refine ⟨p, ?_, e⟩
    unfold act hO
    rw [a1, a2, hh, if_pos h2, if_pos ⟨w1, w2⟩]
    exact e
theorem mat_1 {m m' : Nat} (Q : QSet s t) (hm : m < 3) (hm' : m' < 3) (h : mac t m) (h' : mac t m') (e : mat t m' = mat t m) : m' = m := by
  by_cases z : m' = m
  · exact z
  · have n := Q.2 m' m hm' hm z h'.1
    unfold mat at e
    have a := h.1
    have b := h'.1
    exact absurd (Int32.toInt_inj.1 (by omega)) n
/-- hole i when the hour's boring is over -/
def GH (s s3 t : SS) (i : Nat) (u : SS) : Prop := (∀ p, zR s 17 i = some p → HX s3 p u i) ∧ (zR s 17 i = none → sRw i t u) ∧ (0 ≤ (zI u 69 i).toInt ∧ (zI u 69 i).toInt ≤ 1700) ∧ (zI u 69 i = zI t 69 i ∨ (zI t 69 i = 0 ∧ zI u 69 i = zS t 59 1 + 1)) ∧ 0 ≤ (zI u 68 i).toInt ∧ (zI u 68 i).toInt ≤ 60 * (zS t 59 1).toInt
theorem GH.g {i : Nat} {u u' : SS} (h : sRw i u u') (g : GH s s3 t i u) : GH s s3 t i u' := by
  obtain ⟨g1, g2, g3, g4, g5⟩ := g
  have e9 := h.1 69 (by omega) (by omega)
  have e8 := h.1 68 (by omega) (by omega)
  refine ⟨fun p hp => (g1 p hp).h sHp.rf h, fun n => (g2 n).tr h, ?_, ?_, ?_⟩
  · rw [e9]; exact g3
  · rw [e9]; exact g4
  · rw [e8]; exact g5
/-- the row of a hole without a machine, after the minutes -/
theorem DK.n {i : Nat} (D : DK t u0 3) (h : ∀ m, m < 3 → mac t m → mat t m ≠ i) : sRw i t u0 := by
  obtain ⟨F, d1, _⟩ := D
  refine ⟨fun q a b => ?_, fun q y a b _ _ => F.2.1 q _ ?_⟩
  · by_cases z : q = 68
    · rw [z]; exact (d1 i h).1
    · refine F.2.1 q i ?_
      have : q = 63 ∨ q = 64 ∨ q = 65 ∨ q = 66 ∨ q = 67 ∨ q = 69 ∨ q = 104 := by omega
      rcases this with w | w | w | w | w | w | w <;> subst w <;> decide
  · have : q = 70 ∨ q = 71 ∨ q = 72 ∨ q = 73 := by omega
    rcases this with w | w | w | w <;> subst w <;> decide
theorem GH.n {i : Nat} (C : CI s) (A : MA s t) (hh : zS s 0 14 = zS t 59 1) (hr : 0 ≤ (zS s 0 14).toInt) (H : QHol s t) (K : QKep ((zS t 59 1).toInt - 1) t) (k3 : ∀ i q, i < 120 → zR s 17 i = some q → (∀ m, m < 3 → act s m ≠ some q) → sHp q s s3) (D : DK t u0 3) (hi : i < 120) (h : ∀ m, m < 3 → mac t m → mat t m ≠ i) (hu : sRw i u0 u) : GH s s3 t i u := by
  have r := (D.n h).tr hu
  have e9 := r.1 69 (by omega) (by omega)
  have e8 := r.1 68 (by omega) (by omega)
  have k := K i hi
  refine ⟨fun p hp => (H.1 i p hi hp).h (k3 i p hi hp (fun m hm ha => ?_)) r, fun _ => r, ?_, Or.inl e9, ?_⟩
  · obtain ⟨x1, x2, x3⟩ := act_m A hh C.2.1 hm ha
    exact h m hm x1 (H.2.2.1 (mat t m) i p x2 hi x3 hp)
  · rw [e9]; exact H.2.2.2 i hi
  · rw [e8]; omega
end DQs
/-! A DRILLING HOUR: both sides -/
section DRx
variable {s s3 t u u0 : SS}
theorem GH.m {i m : Nat} {x : Int32} (C : CI s) (A : MA s t) (E : BE s t) (H : QHol s t) (Q : QSet s t) (K : QKep ((zS t 59 1).toInt - 1) t) (hp : ∀ m, m < 3 → 0 ≤ (zI t 78 m).toInt ∧ (zI t 78 m).toInt ≤ 60) (hd : ∀ j, 0 ≤ (zI s 2 j).toInt ∧ (zI s 2 j).toInt ≤ 9) (k4 : ∀ m i q, m < 3 → i < 120 → zR s 17 i = some q → act s m = some q → (∀ m', m' < 3 → m' ≠ m → act s m' ≠ some q) → oneM s s3 m q) (D : DK t u0 3) (hx : x.toInt = i) (hi : i < 120) (hm : m < 3) (ha : mac t m) (hi' : mat t m = i) (F : dFr u0 u) (R : sRw i u0 u) : Pc (f_X12_bore u x (zI u0 100 i)) (fun u' => GH s s3 t i u' ∧ mW i u u' ∧ ∀ q k, zS u' q k = zS u q k) := by
  obtain ⟨e1, e2, e3, e4, e5, e6, e7⟩ := id E
  obtain ⟨_, p, ap, rp⟩ := m_act A e2 C.2.1 Q hm ha
  rw [hi'] at rp
  have oth : ∀ m', m' < 3 → m' ≠ m → act s m' ≠ some p := fun m' hm' ne h => by
    obtain ⟨y1, y2, y3⟩ := act_m A e2 C.2.1 hm' h
    exact ne (mat_1 Q hm hm' ha y1 ((H.2.2.1 _ _ p y2 hi y3 rp).trans hi'.symm))
  obtain ⟨a, b, Ca, La, Sa, eb, Sb⟩ := k4 m i p hm hi rp ap oth
  obtain ⟨FD, d1, d2⟩ := id D
  obtain ⟨f1, f2, f3⟩ := d2 m hm ha
  rw [hi'] at f1 f2 f3
  have ra : zR a 17 i = some p := (La.R 17 i).trans rp
  have oa := Ca.1.2.2.1 i p hi ra
  have o1 := oa.1
  have bb := Ca.b
  have e3' : 0 ≤ (zS t 59 1).toInt ∧ (zS t 59 1).toInt ≤ 1699 := by rw [← e2]; exact e3
  have K' := K i hi
  have u68 : zI u 68 i = zI t 68 i + 60 := (R.1 68 (by omega) (by omega)).trans f1
  have n60 : (zI t 68 i + 60).toInt = (zI t 68 i).toInt + 60 := by rw [i32_add (by rw [jl60]; omega) (by rw [jl60]; omega), jl60]
  have rw' : ∀ q, q = 63 ∨ q = 64 ∨ q = 65 ∨ q = 66 ∨ q = 67 ∨ q = 69 ∨ q = 104 → zI u q i = zI t q i := fun q w => (R.1 q (by omega) (by omega)).trans (FD.2.1 q i (by rcases w with w | w | w | w | w | w | w <;> subst w <;> decide))
  have ry : ∀ q y, q = 70 ∨ q = 71 ∨ q = 72 ∨ q = 73 → 1 ≤ y → y ≤ 60 → zI u q (61 * i + y) = zI t q (61 * i + y) := fun q y w h1 h2 => (R.2 q y (by omega) (by omega) h1 h2).trans (FD.2.1 q _ (by rcases w with w | w | w | w <;> subst w <;> decide))
  have zk : ∀ k, k ≠ 5 → zS (pS a p 5 (zS a p 5 + 60)) p k = zS s p k := fun k hk => by rw [zS_pS, if_neg (by omega)]; exact Sa.1 k
  have z5 : zS (pS a p 5 (zS a p 5 + 60)) p 5 = zS s p 5 + 60 := by rw [zS_pS, if_pos ⟨rfl, rfl⟩, Sa.1 5]
  obtain ⟨x0, x1, x2, x3, x4, x5, x6, x7, x8⟩ := H.1 i p hi rp
  have X : HX (pS a p 5 (zS a p 5 + 60)) p u i := by
    refine ⟨?_, ?_, ?_, ?_, ?_, ?_, ?_, ?_, fun y y1 y2 => ?_⟩
    · rw [zk 0 (by omega), rw' 63 (by omega)]; exact x0
    · rw [zk 1 (by omega), rw' 64 (by omega)]; exact x1
    · rw [zk 2 (by omega), rw' 65 (by omega)]; exact x2
    · rw [zk 3 (by omega), rw' 66 (by omega)]; exact x3
    · rw [zk 4 (by omega), rw' 67 (by omega)]; exact x4
    · rw [z5, u68, x5]
    · rw [zk 6 (by omega), rw' 69 (by omega)]; exact x6
    · rw [zk 7 (by omega), rw' 104 (by omega)]; exact x7
    · have v := x8 y y1 y2
      have g1 : zI (pS a p 5 (zS a p 5 + 60)) (p + 1) y = zI s (p + 1) y := Sa.2.1 y
      have g2 : zI (pS a p 5 (zS a p 5 + 60)) (p + 2) y = zI s (p + 2) y := Sa.2.2.1 y
      have g3 : zI (pS a p 5 (zS a p 5 + 60)) (p + 3) y = zI s (p + 3) y := Sa.2.2.2 y
      rw [g1, g2, g3, ry 70 y (by omega) y1 y2, ry 71 y (by omega) y1 y2, ry 72 y (by omega) y1 y2, ry 73 y (by omega) y1 y2]
      exact v
  have us : ∀ k, zS u 59 k = zS t 59 k := fun k => (F.1 59 k).trans (FD.1 59 k rfl)
  have E' : BE a u := by
    refine ⟨fun c y h1 h2 h3 => ?_, ?_, ?_, ?_, ?_, ?_, ?_⟩
    · rw [La.2.1 2 _ (by omega), La.2.1 3 _ (by omega), F.2 60 _ (by omega) (by omega), F.2 61 _ (by omega) (by omega), FD.2.1 60 _ (by decide), FD.2.1 61 _ (by decide)]
      exact e1 c y h1 h2 h3
    · rw [La.1 0 14 (by omega) (by omega), us]; exact e2
    · rw [La.1 0 14 (by omega) (by omega)]; exact e3
    · rw [La.1 15 5 (by omega) (by omega), us]; exact e4
    · rw [La.1 15 6 (by omega) (by omega), us]; exact e5
    · rw [La.1 15 7 (by omega) (by omega), us]; exact e6
    · rw [La.1 15 8 (by omega) (by omega), us]; exact e7
  have hv := hp m hm
  rw [(A m hm).1] at eb
  rw [f3]
  have u69 := rw' 69 (by omega)
  refine Pc.mono (bm_l hx hi hv oa (Ca.2.2.2.1 i p hi ra) bb.1 bb.2 (fun j => by rw [La.2.1 2 j (by omega)]; exact hd j) X E' (by rw [u69]; exact H.2.2.2 i hi) (by rw [u68, n60]; omega) eb) (fun u' W => ?_)
  obtain ⟨w1, _, _, _, w5, w6, _, _, _, w10, _, w12, w13⟩ := W
  rw [u69, us] at w10
  have nh : (zS t 59 1 + 1).toInt = (zS t 59 1).toInt + 1 := by rw [i32_add (by rw [jl1]; omega) (by rw [jl1]; omega), jl1]
  refine ⟨⟨fun q hq => ?_, fun n => ?_, ?_, w10, w12, ?_⟩, w5, w6⟩
  · have : p = q := Option.some.inj (rp.symm.trans hq)
    rw [← this]
    exact w1.h Sb sRw.rf
  · rw [rp] at n; cases n
  · rcases w10 with w | ⟨_, w⟩
    · rw [w]; exact H.2.2.2 i hi
    · rw [w, nh]; omega
  · rw [u68, n60] at w13
    omega
/-- the two loops of the reference, after the flags -/
theorem dr_g (C : CI s) (A : MA s t) (E : BE s t) (H : QHol s t) (Q : QSet s t) (K : QKep ((zS t 59 1).toInt - 1) t) (hp : ∀ m, m < 3 → 0 ≤ (zI t 78 m).toInt ∧ (zI t 78 m).toInt ≤ 60) (hd : ∀ j, 0 ≤ (zI s 2 j).toInt ∧ (zI s 2 j).toInt ≤ 9) (hn : zS s 15 3 = zS t 59 4) (hn0 : 0 ≤ (zS s 15 3).toInt) (z99 : ∀ i : Nat, (i : Int) < (zS t 59 4).toInt → zI t 99 i = 0) (k3 : ∀ i q, i < 120 → zR s 17 i = some q → (∀ m, m < 3 → act s m ≠ some q) → sHp q s s3) (k4 : ∀ m i q, m < 3 → i < 120 → zR s 17 i = some q → act s m = some q → (∀ m', m' < 3 → m' ≠ m → act s m' ≠ some q) → oneM s s3 m q) : Pc (f_X12_drill_L36 (fun (s33 : SS) => (f_X12_drill_L119 4000 s33 0)) 4000 t 0) (fun r => (∀ q k, zS r q k = zS t q k) ∧ (∀ q j, q < 63 ∨ 73 < q → q ≠ 99 → q ≠ 100 → q ≠ 104 → zI r q j = zI t q j) ∧ ∀ i, i < 120 → GH s s3 t i r) := by
  obtain ⟨_, e2, e3, _⟩ := id E
  have b := C.2.1
  refine dr36_l Q.2 (fun u0 D => ?_) 4000 t 0 0 (by rw [jl0]; rfl) (by omega) ⟨Frm.rf, fun _ _ => ⟨rfl, rfl⟩, fun m hm => by omega⟩
  have F0 := D.1
  have n0 : zS u0 59 4 = zS t 59 4 := F0.1 59 4 rfl
  have noM : ∀ (i : Nat) u, i < 120 → (∀ m, m < 3 → mac t m → mat t m ≠ i) → sRw i u0 u → GH s s3 t i u := fun i u hi h hu => GH.n C A e2 e3.1 H K k3 D hi h hu
  have bN : (zS u0 59 4).toInt = (zS s 15 3).toInt := by rw [n0, hn]
  refine Pc.mono (dr119_l (u0 := u0) (G := GH s s3 t) ⟨by omega, by omega⟩ (fun i u u' h g => GH.g h g) (fun i u hi z hu => noM i u (by omega) (fun m hm ha e => ?_) hu) (fun i u x hx hi z F R => ?_) 4000 u0 0 0 (by rw [jl0]; rfl) (by omega) dFr.rf (fun _ _ => sRw.rf) (fun i hi => by omega)) (fun r h => ?_)
  · have := (D.2.2 m hm ha).2.1
    rw [e, z] at this
    exact absurd this (by decide)
  · by_cases c : ∃ m, m < 3 ∧ mac t m ∧ mat t m = i
    · obtain ⟨m, hm, ha, hi'⟩ := c
      exact GH.m C A E H Q K hp hd k4 D hx (by omega) hm ha hi' F R
    · refine absurd ?_ z
      rw [(D.2.1 i (fun m hm ha e => c ⟨m, hm, ha, e⟩)).2]
      exact z99 i (by rw [← n0]; exact hi)
  · obtain ⟨h1, h2, h3⟩ := h
    refine ⟨fun q k => (h1.1 q k).trans (F0.1 q k rfl), fun q j a1 a2 a3 a4 => (h1.2 q j a1 a4).trans (F0.2.1 q j ?_), fun i hi => ?_⟩
    · have : q ≠ 68 := by omega
      simp [this, a2, a3]
    · by_cases c : (i : Int) < (zS u0 59 4).toInt
      · exact h3 i c
      · refine noM i r hi (fun m hm ha e => ?_) (h2 i (by omega))
        have := (m_act A e2 b Q hm ha).1
        omega
end DRx
/-! A DRILLING HOUR: the relation behind it -/
section DEs
variable {s s' s1 s2 s3 t r : SS}
/-- through or not, and the first: what steps of the class did -/
def TF (s s' : SS) : Prop := (∀ i p, i < 120 → zR s 17 i = some p → zS s' p 6 = zS s p 6 ∨ (zS s p 6 = 0 ∧ zS s' p 6 = 1)) ∧ ((zS s' 0 18 = zS s 0 18 ∧ ∀ i p, i < 120 → zR s 17 i = some p → zS s' p 6 = zS s p 6) ∨ (zS s' 0 18 = (if zS s 0 14 < zS s 0 18 then zS s 0 14 else zS s 0 18) ∧ ∃ i p, i < 120 ∧ zR s 17 i = some p ∧ zS s p 6 = 0 ∧ zS s' p 6 = 1))
theorem TF.rf : TF s s := ⟨fun _ _ _ _ => Or.inl rfl, Or.inl ⟨rfl, fun _ _ _ _ => rfl⟩⟩
theorem TF.tr {r : SS} (L : cL s s') (h : TF s s') (g : TF s' r) : TF s r := by
  have e14 : zS s' 0 14 = zS s 0 14 := L.1 0 14 (by omega) (by omega)
  have R : ∀ i, zR s' 17 i = zR s 17 i := fun i => L.R 17 i
  have n10 : ¬ (1 : Int32) = 0 := by decide
  have m1 : ∀ i p, i < 120 → zR s 17 i = some p → zS s' p 6 = 1 → zS r p 6 = 1 := fun i p hi hp e => by
    rcases g.1 i p hi ((R i).trans hp) with w | ⟨w, _⟩
    · rw [w]; exact e
    · rw [e] at w; exact absurd w n10
  refine ⟨fun i p hi hp => ?_, ?_⟩
  · rcases h.1 i p hi hp with w | ⟨w1, w2⟩
    · rcases g.1 i p hi ((R i).trans hp) with v | ⟨v1, v2⟩
      · exact Or.inl (v.trans w)
      · exact Or.inr ⟨w.symm.trans v1, v2⟩
    · exact Or.inr ⟨w1, m1 i p hi hp w2⟩
  · rcases h.2 with ⟨a1, a2⟩ | ⟨a1, i, p, hi, hp, a2, a3⟩
    · rcases g.2 with ⟨b1, b2⟩ | ⟨b1, i, p, hi, hp, b2, b3⟩
      · exact Or.inl ⟨b1.trans a1, fun i p hi hp => (b2 i p hi ((R i).trans hp)).trans (a2 i p hi hp)⟩
      · have hp' := (R i).symm.trans hp
        exact Or.inr ⟨by rw [b1, e14, a1], i, p, hi, hp', (a2 i p hi hp').symm.trans b2, b3⟩
    · refine Or.inr ⟨?_, i, p, hi, hp, a2, m1 i p hi hp a3⟩
      rcases g.2 with ⟨b1, _⟩ | ⟨b1, _⟩
      · rw [b1, a1]
      · rw [b1, e14, a1]
        by_cases z : zS s 0 14 < zS s 0 18
        · rw [if_pos z, if_neg (by rw [jlt]; omega)]
        · rw [if_neg z, if_neg z]
theorem mSt.tf {m : Nat} (C : CI s) (h : mSt m s s') : TF s s' := by
  obtain ⟨_, d⟩ := h.ci C
  rcases d with ⟨_, e⟩ | ⟨p, ha, M⟩
  · rw [e]; exact TF.rf
  · have o := act_o C ha
    have oth : ∀ i q, i < 120 → zR s 17 i = some q → q ≠ p → zS s' q 6 = zS s q 6 := fun i q hi hq ne => (M.h o (C.1.2.2.1 i q hi hq) ne).1 6
    have hp : ∃ i, i < 120 ∧ zR s 17 i = some p := by
      unfold act at ha
      by_cases z : zS s (20 + m) 2 < zS s 0 14
      · rw [if_pos z] at ha
        exact ⟨_, (hO_ok C.1 C.2.1 ha).1, (hO_ok C.1 C.2.1 ha).2.1⟩
      · rw [if_neg z] at ha; cases ha
    obtain ⟨j, hj, hjp⟩ := hp
    rcases M.2.2.2 with ⟨w1, w2⟩ | ⟨w1, w2, w3⟩
    · have all : ∀ i q, i < 120 → zR s 17 i = some q → zS s' q 6 = zS s q 6 := fun i q hi hq => by
        by_cases z : q = p
        · rw [z]; exact w1
        · exact oth i q hi hq z
      exact ⟨fun i q hi hq => Or.inl (all i q hi hq), Or.inl ⟨w2, all⟩⟩
    · refine ⟨fun i q hi hq => ?_, Or.inr ⟨w3, j, p, hj, hjp, w1, w2⟩⟩
      by_cases z : q = p
      · rw [z]; exact Or.inr ⟨w1, w2⟩
      · exact Or.inl (oth i q hi hq z)
theorem m3_t (C : CI s) (h0 : mSt 0 s s1) (h1 : mSt 1 s1 s2) (h2 : mSt 2 s2 s3) : TF s s3 := by
  obtain ⟨C1, L1, _⟩ := h0.o C
  obtain ⟨C2, L2, _⟩ := h1.o C1
  exact TF.tr (L1.tr L2) (TF.tr L1 (h0.tf C) (h1.tf C1)) (h2.tf C2)
theorem HZ.w {i : Nat} (h : HZ t i) (g : sRw i t r) : HZ r i := by
  obtain ⟨a1, a2, a3, a4, a5, a6⟩ := h
  refine ⟨?_, ?_, ?_, ?_, ?_, fun y y1 y2 => ?_⟩
  · rw [g.1 66 (by omega) (by omega)]; exact a1
  · rw [g.1 67 (by omega) (by omega)]; exact a2
  · rw [g.1 68 (by omega) (by omega)]; exact a3
  · rw [g.1 69 (by omega) (by omega)]; exact a4
  · rw [g.1 104 (by omega) (by omega)]; exact a5
  · rw [g.2 70 y (by omega) (by omega) y1 y2, g.2 71 y (by omega) (by omega) y1 y2, g.2 72 y (by omega) (by omega) y1 y2, g.2 73 y (by omega) (by omega) y1 y2]
    exact a6 y y1 y2
theorem drH (L : cL s s3) (H : QHol s t) (g : ∀ i, i < 120 → GH s s3 t i r) : QHol s3 r := by
  have R : ∀ i, zR s3 17 i = zR s 17 i := fun i => L.R 17 i
  exact ⟨fun i p hi hp => (g i hi).1 p ((R i).symm.trans hp), fun i hi hn => (H.2.1 i hi ((R i).symm.trans hn)).w ((g i hi).2.1 ((R i).symm.trans hn)), fun i j p hi hj a b => H.2.2.1 i j p hi hj ((R i).symm.trans a) ((R j).symm.trans b), fun i hi => (g i hi).2.2.1⟩
theorem drC (C : CI s3) (L : cL s s3) (Q : QCnt s t) (H : QHol s3 r) : QCnt s3 r := by
  obtain ⟨_, _, _, _, c5, c6⟩ := C
  refine ⟨c5.trans (ySum_c fun i hi => ?_), c6.trans (ySum_c fun i hi => ?_), ?_⟩
  · cases e : zR s3 17 i with
    | none =>
      have := (H.2.1 i hi e).2.1
      unfold cb
      rw [e, this]
      rfl
    | some p =>
      rw [cb_t e]
      rw [(H.1 i p hi e).2.2.2.2.1]
  · cases e : zR s3 17 i with
    | none =>
      have := (H.2.1 i hi e).2.2.2.1
      unfold ct
      rw [e, this]
      rfl
    | some p =>
      rw [ct_t e, (H.1 i p hi e).2.2.2.2.2.2.1]
      by_cases z : 0 < (zI r 69 i).toInt
      · rw [if_pos z, if_pos z]; rfl
      · rw [if_neg z, if_neg z]; rfl
  · rw [L.1 15 4 (by omega) (by omega), Q.2.2]
    exact ySum_c fun i hi => by rw [L.R]
end DEs
/-! A DRILLING HOUR: the first through; all of it -/
section DFs
variable {s s3 t r : SS}
theorem thr1 {v : Int32} {x : Int} (h : v = (if 0 < x then 1 else 0)) : (v = 1 → 0 < x) ∧ (v = 0 → ¬ 0 < x) := by
  by_cases z : 0 < x
  · rw [if_pos z] at h
    exact ⟨fun _ => z, fun e => by rw [h] at e; exact absurd e (by decide)⟩
  · rw [if_neg z] at h
    exact ⟨fun e => by rw [h] at e; exact absurd e (by decide), fun _ => z⟩
theorem drF (L : cL s s3) (hh : zS s 0 14 = zS t 59 1) (hr : 0 ≤ (zS s 0 14).toInt ∧ (zS s 0 14).toInt ≤ 1699) (H : QHol s t) (g : ∀ i, i < 120 → GH s s3 t i r) (T : TF s s3) (Q : QFst s t) : QFst s3 r := by
  have e14 : zS s3 0 14 = zS s 0 14 := L.1 0 14 (by omega) (by omega)
  have nh : (zS t 59 1 + 1).toInt = (zS s 0 14).toInt + 1 := by rw [← hh, i32_add (by rw [jl1]; omega) (by rw [jl1]; omega), jl1]
  have w : ∀ i, i < 120 → zI r 69 i = zI t 69 i ∨ ((zI t 69 i).toInt = 0 ∧ (zI r 69 i).toInt = (zS s 0 14).toInt + 1) := fun i hi => by
    rcases (g i hi).2.2.2.1 with a | ⟨a, b⟩
    · exact Or.inl a
    · exact Or.inr ⟨by rw [a, jl0], by rw [b, nh]⟩
  have x : ∀ i p, i < 120 → zR s 17 i = some p → zS s p 6 = (if 0 < (zI t 69 i).toInt then 1 else 0) ∧ zS s3 p 6 = (if 0 < (zI r 69 i).toInt then 1 else 0) := fun i p hi hp => ⟨(H.1 i p hi hp).2.2.2.2.2.2.1, ((g i hi).1 p hp).2.2.2.2.2.2.1⟩
  rcases T.2 with ⟨t1, t2⟩ | ⟨t1, j, p, hj, hp, t2, t3⟩
  · have e : ∀ i, i < 120 → zI r 69 i = zI t 69 i := fun i hi => by
      rcases w i hi with a | ⟨a, b⟩
      · exact a
      · cases q : zR s 17 i with
        | none => exact ((g i hi).2.1 q).1 69 (by omega) (by omega)
        | some p =>
          obtain ⟨x1, x2⟩ := x i p hi q
          rw [t2 i p hi q, x1, if_neg (by omega), if_pos (by omega)] at x2
          exact absurd x2 (by decide)
    rcases Q with ⟨q1, q2⟩ | ⟨q1, q2, i, hi, q3, q4⟩
    · exact Or.inl ⟨by rw [t1]; exact q1, fun i hi => by rw [e i hi]; exact q2 i hi⟩
    · exact Or.inr ⟨by rw [t1, e14]; exact q1, fun i hi h => by rw [e i hi] at h ⊢; rw [t1]; exact q2 i hi h, i, hi, by rw [e i hi]; exact q3, by rw [t1, e i hi]; exact q4⟩
  · obtain ⟨x1, x2⟩ := x j p hj hp
    have y1 := (thr1 x1).2 t2
    have y2 := (thr1 x2).1 t3
    have y3 : (zI r 69 j).toInt = (zS s 0 14).toInt + 1 := by
      rcases w j hj with a | ⟨_, b⟩
      · rw [a] at y2; exact absurd y2 y1
      · exact b
    rcases Q with ⟨q1, q2⟩ | ⟨q1, q2, i, hi, q3, q4⟩
    · rw [if_pos (by rw [jlt]; omega)] at t1
      refine Or.inr ⟨by rw [t1, e14]; exact Int.le_refl _, fun i hi h => ?_, j, hj, y2, by rw [t1, y3]; omega⟩
      rw [t1]
      rcases w i hi with a | ⟨_, b⟩
      · rw [a] at h; exact absurd h (q2 i hi)
      · omega
    · rw [if_neg (by rw [jlt]; omega)] at t1
      have k : zI r 69 i = zI t 69 i := by
        rcases w i hi with a | ⟨a, _⟩
        · exact a
        · omega
      refine Or.inr ⟨by rw [t1, e14]; exact q1, fun i hi h => ?_, i, hi, by rw [k]; exact q3, by rw [t1, k]; exact q4⟩
      rw [t1]
      rcases w i hi with a | ⟨_, b⟩
      · rw [a] at h ⊢; exact q2 i hi h
      · omega
/-- what a drilling hour leaves on both sides -/
def DRe (s t s3 r : SS) : Prop := QHol s3 r ∧ QCnt s3 r ∧ QFst s3 r ∧ QKep (zS t 59 1).toInt r ∧ cL s s3 ∧ CI s3 ∧ (∀ q k, zS r q k = zS t q k) ∧ ∀ q j, q < 63 ∨ 73 < q → q ≠ 99 → q ≠ 100 → q ≠ 104 → zI r q j = zI t q j
theorem dr_e (C : CI s) (A : MA s t) (E : BE s t) (H : QHol s t) (QC : QCnt s t) (QF : QFst s t) (Q : QSet s t) (K : QKep ((zS t 59 1).toInt - 1) t) (hp : ∀ m, m < 3 → 0 ≤ (zI t 78 m).toInt ∧ (zI t 78 m).toInt ≤ 60) (hd : ∀ j, 0 ≤ (zI s 2 j).toInt ∧ (zI s 2 j).toInt ≤ 9) (hn : zS s 15 3 = zS t 59 4) (hn0 : 0 ≤ (zS s 15 3).toInt) (z99 : ∀ i : Nat, (i : Int) < (zS t 59 4).toInt → zI t 99 i = 0) : Pc (f_X11_machinesWork s) (fun s3 => Pc (f_X12_drill_L36 (fun (s33 : SS) => (f_X12_drill_L119 4000 s33 0)) 4000 t 0) (fun r => DRe s t s3 r)) := by
  refine Pc.mono (mw_p C) (fun s3 h => ?_)
  obtain ⟨s1, s2, h0, h1, h2⟩ := h
  obtain ⟨C3, L, k3, k4⟩ := m3_o C h0 h1 h2
  have T := m3_t C h0 h1 h2
  refine Pc.mono (dr_g C A E H Q K hp hd hn hn0 z99 k3 k4) (fun r h => ?_)
  obtain ⟨r1, r2, g⟩ := h
  have H3 := drH L H g
  exact ⟨H3, drC C3 L QC H3, drF L E.2.1 E.2.2.1 H g T QF, fun i hi => (g i hi).2.2.2.2, L, C3, r1, r2⟩
end DFs
