/-! BORING, THE CLASS ALONE -/
section BXs
variable {s s' : SS}
def BX (p : Nat) (s s' : SS) : Prop := hW p s s' ∧ (∀ q k, q < 126 → ¬ (q = 0 ∧ 16 ≤ k ∧ k ≤ 18) → zS s' q k = zS s q k) ∧ (∀ q j, q < 126 → zI s' q j = zI s q j) ∧ ((zS s' 0 16).toInt = (zS s 0 16).toInt + ((zS s' p 4).toInt - (zS s p 4).toInt) ∧ (zS s p 4).toInt ≤ (zS s' p 4).toInt) ∧ (zS s' 0 17).toInt = (zS s 0 17).toInt + ((zS s' p 6).toInt - (zS s p 6).toInt) ∧ ((zS s' p 6 = zS s p 6 ∧ zS s' 0 18 = zS s 0 18) ∨ (zS s p 6 = 0 ∧ zS s' p 6 = 1 ∧ zS s' 0 18 = (if zS s 0 14 < zS s 0 18 then zS s 0 14 else zS s 0 18))) ∧ zS s' p 3 = zS s p 3 ∧ ((zS s' p 4).toInt ≤ (zS s p 4).toInt ∨ (zS s' p 4).toInt ≤ (zS s p 3).toInt)
theorem BX.rf {p : Nat} : BX p s s := ⟨hW.rf, fun _ _ _ _ => rfl, fun _ _ _ => rfl, ⟨by omega, Int.le_refl _⟩, by omega, Or.inl ⟨rfl, rfl⟩, rfl, Or.inl (Int.le_refl _)⟩
theorem BX.tr {p : Nat} {r : SS} (h : BX p s s') (g : BX p s' r) : BX p s r := by
  obtain ⟨a2, a3, a4, a7, a8, a9, a11, a12⟩ := h
  obtain ⟨b2, b3, b4, b7, b8, b9, b11, b12⟩ := g
  have e14 : zS s' 0 14 = zS s 0 14 := a3 0 14 (by omega) (by omega)
  refine ⟨a2.tr b2, fun q k h1 h2 => (b3 q k h1 h2).trans (a3 q k h1 h2), fun q j h1 => (b4 q j h1).trans (a4 q j h1), ⟨by omega, by omega⟩, by omega, ?_, b11.trans a11, by rw [a11] at b12; omega⟩
  rcases a9 with ⟨p1, p2⟩ | ⟨p1, p2, p3⟩
  · rcases b9 with ⟨q1, q2⟩ | ⟨q1, q2, q3⟩
    · exact Or.inl ⟨q1.trans p1, q2.trans p2⟩
    · exact Or.inr ⟨p1 ▸ q1, q2, by rw [q3, e14, p2]⟩
  · rcases b9 with ⟨q1, q2⟩ | ⟨q1, q2, q3⟩
    · exact Or.inr ⟨p1, q1.trans p2, q2.trans p3⟩
    · rw [q1] at p2; exact absurd p2 (by decide)
theorem BX.one {p : Nat} {m c y f : Int32} (o : okH s p) (hyt : y.toInt ≤ (zS s p 3).toInt) (hy : y.toInt = (zS s p 4).toInt + 1) (h16 : 0 ≤ (zS s 0 16).toInt ∧ (zS s 0 16).toInt ≤ 20000) : BX p s (b1X s p m c y f) ∧ zS (b1X s p m c y f) p 4 = y ∧ zS (b1X s p m c y f) p 6 = zS s p 6 := by
  have o1 := o.1
  have e16 : (zS s 0 16 + 1).toInt = (zS s 0 16).toInt + 1 := by rw [i32_add (by rw [jl1]; omega) (by rw [jl1]; omega), jl1]
  have z4 : zS (b1X s p m c y f) p 4 = y := by
    unfold b1X
    rw [zS_pI, zS_pS, if_neg (by omega), zS_pS, if_pos ⟨rfl, rfl⟩]
  have zk : ∀ k, k = 3 ∨ k = 6 → zS (b1X s p m c y f) p k = zS s p k := fun k hk => by
    unfold b1X
    rw [zS_pI, zS_pS, if_neg (by omega), zS_pS, if_neg (by omega), zS_pS, if_neg (by omega), zS_pS, if_neg (by omega)]
  have sS : ∀ q k, q ≠ p → ¬ (q = 0 ∧ k = 16) → zS (b1X s p m c y f) q k = zS s q k := fun q k h1 h2 => by
    unfold b1X
    rw [zS_pI, zS_pS, if_neg h2, zS_pS, if_neg (fun z => h1 z.1), zS_pS, if_neg (fun z => h1 z.1), zS_pS, if_neg (fun z => h1 z.1)]
  have s16 : zS (b1X s p m c y f) 0 16 = zS s 0 16 + 1 := by
    unfold b1X
    rw [zS_pI, zS_pS, if_pos ⟨rfl, rfl⟩]
  have sI : ∀ q j, q ≠ p + 2 → zI (b1X s p m c y f) q j = zI s q j := fun q j h1 => by
    unfold b1X
    rw [zI_pI, if_neg (fun z => h1 z.1)]; rfl
  refine ⟨⟨((((hW.rf.wS).wS).wS).sS (by omega)).wI (Or.inr (Or.inl rfl)), fun q k h1 h2 => sS q k (by omega) (by omega), fun q j h1 => sI q j (by omega), ⟨by rw [s16, e16, z4]; omega, by rw [z4]; omega⟩, by rw [sS 0 17 (by omega) (by omega), zk 6 (by omega)]; omega, Or.inl ⟨zk 6 (by omega), sS 0 18 (by omega) (by omega)⟩, zk 3 (by omega), Or.inr (by rw [z4]; exact hyt)⟩, z4, zk 6 (by omega)⟩
theorem BX.two {p : Nat} {m c y f : Int32} (o : okH s p) (h6 : zS s p 6 = 0) (h17 : 0 ≤ (zS s 0 17).toInt ∧ (zS s 0 17).toInt ≤ 20000) (W : BX p s (b1X s p m c y f)) (z4 : zS (b1X s p m c y f) p 4 = y) : BX p s (b2X s p m c y f) ∧ zS (b2X s p m c y f) p 4 = y ∧ zS (b2X s p m c y f) p 6 = 1 := by
  have o1 := o.1
  obtain ⟨w2, w3, w4, w7, w8, w9, w11, w13⟩ := W
  have e17 : (zS s 0 17 + 1).toInt = (zS s 0 17).toInt + 1 := by rw [i32_add (by rw [jl1]; omega) (by rw [jl1]; omega), jl1]
  have zp : ∀ k, k ≠ 6 → zS (b2X s p m c y f) p k = zS (b1X s p m c y f) p k := fun k hk => by
    unfold b2X
    rw [zS_pS, if_neg (by omega), zS_pS, if_neg (by omega), zS_pS, if_neg (fun z => hk z.2)]
  have z6 : zS (b2X s p m c y f) p 6 = 1 := by
    unfold b2X
    rw [zS_pS, if_neg (by omega), zS_pS, if_neg (by omega), zS_pS, if_pos ⟨rfl, rfl⟩]
  have sS : ∀ q k, q ≠ p → ¬ (q = 0 ∧ (k = 17 ∨ k = 18)) → zS (b2X s p m c y f) q k = zS (b1X s p m c y f) q k := fun q k h1 h2 => by
    unfold b2X
    rw [zS_pS, if_neg (by omega), zS_pS, if_neg (by omega), zS_pS, if_neg (fun z => h1 z.1)]
  refine ⟨⟨(w2.wS.sS (by omega)).sS (by omega), fun q k h1 h2 => by rw [sS q k (by omega) (by omega)]; exact w3 q k h1 h2, fun q j h1 => w4 q j h1, ⟨by rw [sS 0 16 (by omega) (by omega), zp 4 (by omega)]; exact w7.1, by rw [zp 4 (by omega)]; exact w7.2⟩, ?_, Or.inr ⟨h6, z6, ?_⟩, by rw [zp 3 (by omega)]; exact w11, by rw [zp 4 (by omega)]; exact w13⟩, by rw [zp 4 (by omega)]; exact z4, z6⟩
  · have : zS (b2X s p m c y f) 0 17 = zS s 0 17 + 1 := by
      unfold b2X
      rw [zS_pS, if_neg (by omega), zS_pS, if_pos ⟨rfl, rfl⟩]
    rw [this, e17, z6, h6, jl1, jl0]
    omega
  · unfold b2X
    rw [zS_pS, if_pos ⟨rfl, rfl⟩]
theorem okH.hW {p q : Nat} (o : okH s p) (h : hW q s s') : okH s' p := by
  have e := h.2.2
  unfold okH zT zN zL at *
  rw [e]
  exact o
theorem boX_l {p : Nat} {y2 : Int32} : ∀ (n : Nat) (s : SS) (x : Int32), okH s p → x.toInt = (zS s p 4).toInt + 1 → 0 ≤ (zS s p 4).toInt → (zS s p 3).toInt ≤ 60 → (0 ≤ (zS s 0 16).toInt ∧ (zS s 0 16).toInt ≤ 10000 + (zS s p 4).toInt) → (0 ≤ (zS s 0 17).toInt ∧ (zS s 0 17).toInt ≤ 10000 + (zS s p 6).toInt) → (zS s p 6 = 0 ∨ zS s p 6 = 1) → Pc (f_X11_boreOn_L7 p y2 n s x) (fun r => BX p s r)
  | 0, _, _, _, _, _, _, _, _, _ => Pc_none
  | n + 1, s, x, o, hx, hb, h3, h16, h17, h6 => by
    have o1 := o.1
    show Pc (f_X11_boreOn_L7_b p y2 (f_X11_boreOn_L7 p y2 n) s x) _
    unfold f_X11_boreOn_L7_b
    refine Pc_lt (fun _ => Pc_some BX.rf) (fun c1 => Pc_if (fun z6 => Pc_gd (fun _ => Pc_b1x (fun c => Pc_vl (Pc_gd (fun _ => Pc_jn ?_))))) (fun _ => Pc_some BX.rf))
    have nx : (x + 1).toInt = x.toInt + 1 := by rw [i32_add (by rw [jl1]; omega) (by rw [jl1]; omega), jl1]
    have rec_ : ∀ s1, BX p s s1 → zS s1 p 4 = x → (zS s1 p 6 = 0 ∨ zS s1 p 6 = 1) → Pc (f_X11_boreOn_L7 p y2 n s1 (x + 1)) (fun r => BX p s r) := by
      intro s1 W e4 e6
      have W' := W
      obtain ⟨q1, q2, q3, q4, q5, q6, q7, _⟩ := W'
      refine Pc.mono (boX_l n s1 (x + 1) (o.hW q1) (by rw [nx, e4]) (by rw [e4]; omega) (by rw [q7]; exact h3) ⟨by omega, by omega⟩ ⟨?_, by rw [q5]; omega⟩ e6) (fun r hr => W.tr hr)
      rw [q5]
      rw [z6, jl0]
      rcases e6 with e | e <;> rw [e] <;> first | (rw [jl0]; omega) | (rw [jl1]; omega)
    have core : ∀ op cost : Int32, Pc (if (zS s p 5) < cost then some s else (vl (((zS s p 5) - cost)) fun v12 => (st (pS s p 5 v12) fun s13 => (st (pS s13 p 2 c) fun s14 => (st (pS s14 p 4 x) fun s15 => (vl (((zS s15 0 16) + (1 : Int32))) fun v16 => (st (pS s15 0 16 v16) fun s17 => (b1 (f_X0_isRefuge s17 c x) fun r18 => (jn (fun (t19_0 : Int32) => (gd (inB x 61) (st (pI s17 (p + 2) (x.toInt.toNat) t19_0) fun s21 => (jn (fun (s22 : SS)  => (vl (x + 1) fun v23 => (f_X11_boreOn_L7 p y2 n s22 v23))) fun k22 => (if r18 = (0 : Int32) then (k22 s21) else (st (pS s21 p 6 1) fun s25 => (vl (((zS s25 0 17) + (1 : Int32))) fun v26 => (st (pS s25 0 17 v26) fun s27 => (b1 (f_J9_min_7cf53 (zS s27 0 18) (zS s27 0 14)) fun r28 => (st (pS s27 0 18 r28) fun s29 => (k22 s29))))))))))) fun k19 => (if r18 = (0 : Int32) then (if op = (0 : Int32) then (k19 0) else (k19 1)) else (k19 2))))))))))) (fun r => BX p s r) := by
      intro op cost
      refine Pc_if (fun _ => Pc_some BX.rf) (fun _ => Pc_vl (Pc_st (Pc_st (Pc_st (Pc_vl (Pc_st ?_))))))
      have r16 : zS (pS (pS (pS s p 5 (zS s p 5 - cost)) p 2 c) p 4 x) 0 16 = zS s 0 16 := by rw [zS_pS, if_neg (by omega), zS_pS, if_neg (by omega), zS_pS, if_neg (by omega)]
      rw [r16]
      obtain ⟨W1, p4, p6⟩ : (∀ f, BX p s (b1X s p (zS s p 5 - cost) c x f)) ∧ (∀ f, zS (b1X s p (zS s p 5 - cost) c x f) p 4 = x) ∧ ∀ f, zS (b1X s p (zS s p 5 - cost) c x f) p 6 = zS s p 6 := ⟨fun f => (BX.one o c1 hx ⟨by omega, by omega⟩).1, fun f => (BX.one o c1 hx ⟨by omega, by omega⟩).2.1, fun f => (BX.one o c1 hx ⟨by omega, by omega⟩).2.2⟩
      have K : ∀ r f : Int32, Pc (gd (inB x 61) (st (pI (pS (pS (pS (pS s p 5 (zS s p 5 - cost)) p 2 c) p 4 x) 0 16 (zS s 0 16 + 1)) (p + 2) (x.toInt.toNat) f) fun s21 => (jn (fun (s22 : SS)  => (vl (x + 1) fun v23 => (f_X11_boreOn_L7 p y2 n s22 v23))) fun k22 => (if r = (0 : Int32) then (k22 s21) else (st (pS s21 p 6 1) fun s25 => (vl (((zS s25 0 17) + (1 : Int32))) fun v26 => (st (pS s25 0 17 v26) fun s27 => (b1 (f_J9_min_7cf53 (zS s27 0 18) (zS s27 0 14)) fun r28 => (st (pS s27 0 18 r28) fun s29 => (k22 s29)))))))))) (fun r => BX p s r) := by
        intro r f
        refine Pc_gd (fun _ => Pc_st (Pc_jn (Pc_if (fun _ => Pc_vl ?_) (fun _ => Pc_st (Pc_vl (Pc_st ?_))))))
        · exact rec_ _ (W1 f) (p4 f) (Or.inl ((p6 f).trans z6))
        · rw [minJ]
          refine Pc_b1S (Pc_st (Pc_vl ?_))
          obtain ⟨W2, q4, q6⟩ := BX.two (f := f) o z6 ⟨h17.1, by rw [z6, jl0] at h17; omega⟩ (W1 f) (p4 f)
          have g : ∀ k, k = 14 ∨ k = 17 ∨ k = 18 → zS (pS (pI (pS (pS (pS (pS s p 5 (zS s p 5 - cost)) p 2 c) p 4 x) 0 16 (zS s 0 16 + 1)) (p + 2) x.toInt.toNat f) p 6 1) 0 k = zS s 0 k := fun k hk => by rw [zS_pS, if_neg (by omega), zS_pI, zS_pS, if_neg (by omega), zS_pS, if_neg (by omega), zS_pS, if_neg (by omega), zS_pS, if_neg (by omega)]
          have g2 : ∀ v k, k = 14 ∨ k = 18 → zS (pS (pS (pI (pS (pS (pS (pS s p 5 (zS s p 5 - cost)) p 2 c) p 4 x) 0 16 (zS s 0 16 + 1)) (p + 2) x.toInt.toNat f) p 6 1) 0 17 v) 0 k = zS s 0 k := fun v k hk => by rw [zS_pS, if_neg (by omega)]; exact g k (by omega)
          rw [g2 _ 14 (by omega), g2 _ 18 (by omega), g 17 (by omega)]
          exact rec_ _ W2 q4 (Or.inr q6)
      exact Pc_b1x (fun r => Pc_jn (Pc_if (fun _ => Pc_if (fun _ => K r 0) (fun _ => K r 1)) (fun _ => K r 2)))
    have two : ∀ op : Int32, Pc (jn (fun (cost : Int32) => (if (zS s p 5) < cost then some s else (vl (((zS s p 5) - cost)) fun v12 => (st (pS s p 5 v12) fun s13 => (st (pS s13 p 2 c) fun s14 => (st (pS s14 p 4 x) fun s15 => (vl (((zS s15 0 16) + (1 : Int32))) fun v16 => (st (pS s15 0 16 v16) fun s17 => (b1 (f_X0_isRefuge s17 c x) fun r18 => (jn (fun (t19_0 : Int32) => (gd (inB x 61) (st (pI s17 (p + 2) (x.toInt.toNat) t19_0) fun s21 => (jn (fun (s22 : SS)  => (vl (x + 1) fun v23 => (f_X11_boreOn_L7 p y2 n s22 v23))) fun k22 => (if r18 = (0 : Int32) then (k22 s21) else (st (pS s21 p 6 1) fun s25 => (vl (((zS s25 0 17) + (1 : Int32))) fun v26 => (st (pS s25 0 17 v26) fun s27 => (b1 (f_J9_min_7cf53 (zS s27 0 18) (zS s27 0 14)) fun r28 => (st (pS s27 0 18 r28) fun s29 => (k22 s29))))))))))) fun k19 => (if r18 = (0 : Int32) then (if op = (0 : Int32) then (k19 0) else (k19 1)) else (k19 2)))))))))))) fun k10 => (if op = (0 : Int32) then (gd (inB ((((c * (60 : Int32)) + x) - (1 : Int32))) 1920) (k10 (y2 * (zI s 2 (((((c * (60 : Int32)) + x) - (1 : Int32))).toInt.toNat))))) else (k10 0))) (fun r => BX p s r) := fun op => Pc_jn (Pc_if (fun _ => Pc_gd (fun _ => core op _)) (fun _ => core op _))
    exact Pc_if (fun _ => two 1) (fun _ => two 0)
theorem boX_p {p : Nat} {y2 : Int32} (o : okH s p) (hb : 0 ≤ (zS s p 4).toInt ∧ (zS s p 4).toInt ≤ 60) (h3 : (zS s p 3).toInt ≤ 60) (h16 : 0 ≤ (zS s 0 16).toInt ∧ (zS s 0 16).toInt ≤ 10000) (h17 : 0 ≤ (zS s 0 17).toInt ∧ (zS s 0 17).toInt ≤ 10000) (h6 : zS s p 6 = 0 ∨ zS s p 6 = 1) : Pc (f_X11_boreOn s p y2) (fun r => BX p s r) := by
  unfold f_X11_boreOn
  refine Pc_vl (boX_l 4000 s _ o (by rw [i32_add (by rw [jl1]; omega) (by rw [jl1]; omega), jl1]) hb.1 h3 ⟨h16.1, by omega⟩ ⟨h17.1, ?_⟩ h6)
  rcases h6 with e | e <;> rw [e] <;> first | (rw [jl0]; omega) | (rw [jl1]; omega)
end BXs
