/-! Pc: where a function answers, Q holds of its answer -/
def Pc {ρ : Type} (o : Option ρ) (Q : ρ → Prop) : Prop := ∀ r, o = some r → Q r
section PCs
variable {α ρ : Type} {Q : ρ → Prop}
theorem Pc_some {r : ρ} (h : Q r) : Pc (some r) Q := fun _ e => Option.some.inj e ▸ h
theorem Pc_none : Pc (none : Option ρ) Q := fun _ e => by cases e
theorem Pc_gd {b : Prop} {i : Decidable b} {k : Option ρ} (h : b → Pc k Q) : Pc (@gd ρ b i k) Q := by
  unfold gd
  by_cases hb : b
  · rw [if_pos hb]; exact h hb
  · rw [if_neg hb]; exact Pc_none
theorem Pc_vl {v : Int32} {k : Int32 → Option ρ} (h : Pc (k v) Q) : Pc (vl v k) Q := h
theorem Pc_wl {v : Int64} {k : Int64 → Option ρ} (h : Pc (k v) Q) : Pc (wl v k) Q := h
theorem Pc_st {s : SS} {k : SS → Option ρ} (h : Pc (k s) Q) : Pc (st s k) Q := h
theorem Pc_jn {K : α} {B : α → Option ρ} (h : Pc (B K) Q) : Pc (jn K B) Q := h
theorem Pc_b1 {a : Option α} {k : α → Option ρ} (h : Pc a fun x => Pc (k x) Q) : Pc (b1 a k) Q := by
  cases a with
  | none => exact Pc_none
  | some x => exact h x rfl
theorem Pc_bd {a : Option (α × SS)} {k : α → SS → Option ρ} (h : Pc a fun x => Pc (k x.1 x.2) Q) : Pc (bd a k) Q := by
  cases a with
  | none => exact Pc_none
  | some x => exact h x rfl
theorem Pc_b1x {a : Option α} {k : α → Option ρ} (h : ∀ x, Pc (k x) Q) : Pc (b1 a k) Q := Pc_b1 (fun x _ => h x)
theorem Pc_if {c : Prop} {i : Decidable c} {A B : Option ρ} (h1 : c → Pc A Q) (h2 : ¬ c → Pc B Q) : Pc (@ite _ c i A B) Q := by
  by_cases h : c
  · rw [if_pos h]; exact h1 h
  · rw [if_neg h]; exact h2 h
theorem Pc_ift {c : Prop} {i : Decidable c} {A B : Option ρ} (h : c) (h1 : Pc A Q) : Pc (@ite _ c i A B) Q := by rw [if_pos h]; exact h1
theorem Pc_iff {c : Prop} {i : Decidable c} {A B : Option ρ} (h : ¬ c) (h1 : Pc B Q) : Pc (@ite _ c i A B) Q := by rw [if_neg h]; exact h1
theorem Pc_on {o : Option Nat} {A : Option ρ} {B : Nat → Option ρ} (h0 : o = none → Pc A Q) (h : ∀ p, o = some p → Pc (B p) Q) : Pc (on o A B) Q := by
  cases o with
  | none => exact h0 rfl
  | some p => exact h p rfl
theorem Pc_onN {A : Option ρ} {B : Nat → Option ρ} (h : Pc A Q) : Pc (on none A B) Q := h
theorem Pc_onS {A : Option ρ} {B : Nat → Option ρ} {p : Nat} (h : Pc (B p) Q) : Pc (on (some p) A B) Q := h
theorem Pc.mono {o : Option ρ} {P : ρ → Prop} (h : Pc o P) (hq : ∀ r, P r → Q r) : Pc o Q := fun r e => hq r (h r e)
theorem Pc.and {o : Option ρ} {P : ρ → Prop} (h : Pc o P) (g : Pc o Q) : Pc o (fun r => P r ∧ Q r) := fun r e => ⟨h r e, g r e⟩
/-- joins: what follows, once -/
theorem Pc_jn0 {K : Option ρ} {B : Option ρ → Option ρ} (hK : Pc K Q) (h : ∀ k, Pc k Q → Pc (B k) Q) : Pc (jn K B) Q := h K hK
theorem Pc_jn1 {K : Int32 → Option ρ} {B : (Int32 → Option ρ) → Option ρ} (hK : ∀ t, Pc (K t) Q) (h : ∀ k, (∀ t, Pc (k t) Q) → Pc (B k) Q) : Pc (jn K B) Q := h K hK
theorem Pc_jn8 {K : Int64 → Option ρ} {B : (Int64 → Option ρ) → Option ρ} (hK : ∀ t, Pc (K t) Q) (h : ∀ k, (∀ t, Pc (k t) Q) → Pc (B k) Q) : Pc (jn K B) Q := h K hK
theorem Pc_jn2 {K : Int32 → Int32 → Option ρ} {B : (Int32 → Int32 → Option ρ) → Option ρ} (hK : ∀ t u, Pc (K t u) Q) (h : ∀ k, (∀ t u, Pc (k t u) Q) → Pc (B k) Q) : Pc (jn K B) Q := h K hK
theorem Pc_jnS {P : SS → Prop} {K : SS → Option ρ} {B : (SS → Option ρ) → Option ρ} (hK : ∀ s, P s → Pc (K s) Q) (h : ∀ k, (∀ s, P s → Pc (k s) Q) → Pc (B k) Q) : Pc (jn K B) Q := h K hK
theorem Pc_jnS1 {P : SS → Prop} {K : SS → Int32 → Option ρ} {B : (SS → Int32 → Option ρ) → Option ρ} (hK : ∀ s t, P s → Pc (K s t) Q) (h : ∀ k, (∀ s t, P s → Pc (k s t) Q) → Pc (B k) Q) : Pc (jn K B) Q := h K hK
theorem Pc_jnS2 {P : SS → Prop} {K : SS → Int32 → Int32 → Option ρ} {B : (SS → Int32 → Int32 → Option ρ) → Option ρ} (hK : ∀ s t u, P s → Pc (K s t u) Q) (h : ∀ k, (∀ s t u, P s → Pc (k s t u) Q) → Pc (B k) Q) : Pc (jn K B) Q := h K hK
end PCs
/-! Frm: all but the named fields and arrays is as in b, and so is the layout -/
def Frm (WS : List (Nat × Nat)) (WI WJ : List Nat) (b s : SS) : Prop := (∀ q k, WS.contains (q, k) = false → zS s q k = zS b q k) ∧ (∀ q i, WI.contains q = false → zI s q i = zI b q i) ∧ (∀ q i, WJ.contains q = false → zJ s q i = zJ b q i) ∧ s.2.2.2 = b.2.2.2
section FRm
variable {WS : List (Nat × Nat)} {WI WJ : List Nat} {b s r : SS} {q k i : Nat} {v : Int32} {w : Int64}
theorem Frm.rf : Frm WS WI WJ s s := ⟨fun _ _ _ => rfl, fun _ _ _ => rfl, fun _ _ _ => rfl, rfl⟩
theorem Frm.tr (h : Frm WS WI WJ b s) (g : Frm WS WI WJ s r) : Frm WS WI WJ b r := ⟨fun q k e => (g.1 q k e).trans (h.1 q k e), fun q i e => (g.2.1 q i e).trans (h.2.1 q i e), fun q i e => (g.2.2.1 q i e).trans (h.2.2.1 q i e), g.2.2.2.trans h.2.2.2⟩
theorem Frm.pS (h : Frm WS WI WJ b s) (m : WS.contains (q, k) = true) : Frm WS WI WJ b (pS s q k v) := ⟨fun a c e => by
  rw [zS_pS, if_neg (fun z => by rw [z.1, z.2, m] at e; cases e)]
  exact h.1 a c e, h.2⟩
theorem Frm.pI (h : Frm WS WI WJ b s) (m : WI.contains q = true) : Frm WS WI WJ b (pI s q i v) := ⟨h.1, fun a c e => by
  rw [zI_pI, if_neg (fun z => by rw [z.1, m] at e; cases e)]
  exact h.2.1 a c e, h.2.2⟩
theorem Frm.pF (h : Frm WS WI WJ b s) (m : WI.contains q = true) : Frm WS WI WJ b (pF s q v) := ⟨h.1, fun a c e => by
  rw [zI_pF, if_neg (fun z => by rw [z, m] at e; cases e)]
  exact h.2.1 a c e, h.2.2⟩
theorem Frm.pJ (h : Frm WS WI WJ b s) (m : WJ.contains q = true) : Frm WS WI WJ b (pJ s q i w) := ⟨h.1, h.2.1, fun a c e => by
  show (if a = q ∧ c = i then w else zJ s a c) = _
  rw [if_neg (fun z => by rw [z.1, m] at e; cases e)]
  exact h.2.2.1 a c e, h.2.2.2⟩
theorem Frm.pG (h : Frm WS WI WJ b s) (m : WJ.contains q = true) : Frm WS WI WJ b (pG s q w) := ⟨h.1, h.2.1, fun a c e => by
  show (if a = q then w else zJ s a c) = _
  rw [if_neg (fun z => by rw [z, m] at e; cases e)]
  exact h.2.2.1 a c e, h.2.2.2⟩
theorem Frm.pK {q0 sp dp n : Nat} (h : Frm WS WI WJ b s) (m : WJ.contains q = true) : Frm WS WI WJ b (pK s q0 q sp dp n) := ⟨h.1, h.2.1, fun a c e => by
  show (if a = q then va_cpy (s.2.2.1 q0) (s.2.2.1 q) sp dp n c else zJ s a c) = _
  rw [if_neg (fun z => by rw [z, m] at e; cases e)]
  exact h.2.2.1 a c e, h.2.2.2⟩
theorem Pc_some2 {ρ : Type} {x : ρ} (h : Frm WS WI WJ b s) : Pc (some (x, s)) (fun r => Frm WS WI WJ b r.2) := Pc_some h
theorem Frm.zR_ (h : Frm WS WI WJ b s) (a c : Nat) : zR s a c = zR b a c := by unfold zR; rw [h.2.2.2]
theorem Frm.zN_ (h : Frm WS WI WJ b s) (a : Nat) : zN s a = zN b a := by unfold zN; rw [h.2.2.2]
theorem Frm.zL_ (h : Frm WS WI WJ b s) : zL s = zL b := by unfold zL; rw [h.2.2.2]
theorem Frm.Sh_ (h : Frm WS WI WJ b s) (S : Sh b) : Sh s := S.same (by rw [h.2.2.2]) (by rw [h.2.2.2])
/-- a machine, a shelf: where it lies -/
theorem Pc_onM {ρ : Type} {Q : ρ → Prop} {x : Int32} {A : Option ρ} {B : Nat → Option ρ} (S : Sh b) (F : Frm WS WI WJ b s) (hi : inB x 3) (h : ∀ p, p = 20 ∨ p = 21 ∨ p = 22 → Pc (B p) Q) : Pc (on (zR s 19 x.toInt.toNat) A B) Q := by
  rw [F.zR_, S.2.2.2.1 _ (by have := hi.1; have := hi.2; omega)]
  exact h _ (by have := hi.1; have := hi.2; omega)
theorem Pc_onV {ρ : Type} {Q : ρ → Prop} {x : Int32} {A : Option ρ} {B : Nat → Option ρ} (S : Sh b) (F : Frm WS WI WJ b s) (hi : inB x 6) (h : ∀ p, p = 47 ∨ p = 49 ∨ p = 51 ∨ p = 53 ∨ p = 55 ∨ p = 57 → Pc (B p) Q) : Pc (on (zR s 46 x.toInt.toNat) A B) Q := by
  rw [F.zR_, S.2.2.2.2.2.2 _ (by have := hi.1; have := hi.2; omega)]
  exact h _ (by have := hi.1; have := hi.2; omega)
end FRm
/-! frames of the functions: printed by vgen.py -/
theorem v_X11_machineOf {WS : List (Nat × Nat)} {WI WJ : List Nat} {b s0 : SS} {a0 : Int32} (S : Sh b) (F0 : Frm WS WI WJ b s0) : Pc (f_X11_machineOf s0 a0) (fun r => ∀ p, r = some p → p = 20 ∨ p = 21 ∨ p = 22) := by
  unfold f_X11_machineOf
  exact Pc_if (fun _ => Pc_some (fun _ e => by cases e)) (fun _ => Pc_if (fun _ => Pc_gd (fun g => Pc_onM S F0 g (fun p hp => Pc_some (fun _ e => Option.some.inj e ▸ hp)))) (fun _ => Pc_some (fun _ e => by cases e)))
theorem v_X11_shelfOf {WS : List (Nat × Nat)} {WI WJ : List Nat} {b s0 : SS} {a0 : Int32} (S : Sh b) (F0 : Frm WS WI WJ b s0) : Pc (f_X11_shelfOf s0 a0) (fun r => ∀ p, r = some p → p = 47 ∨ p = 49 ∨ p = 51 ∨ p = 53 ∨ p = 55 ∨ p = 57) := by
  unfold f_X11_shelfOf
  exact Pc_if (fun _ => Pc_some (fun _ e => by cases e)) (fun _ => Pc_if (fun _ => Pc_gd (fun g => Pc_onV S F0 g (fun p hp => Pc_some (fun _ e => Option.some.inj e ▸ hp)))) (fun _ => Pc_some (fun _ e => by cases e)))
theorem v_X11_hard {WS : List (Nat × Nat)} {WI WJ : List Nat} {b : SS} {s0 : SS} {a0 : Int32} {a1 : Int32} (S : Sh b) (mI_2 : WI.contains 2 = true) (F0 : Frm WS WI WJ b s0) : Pc (f_X11_hard s0 a0 a1) (fun r => Frm WS WI WJ b r.2) := by
  unfold f_X11_hard
  exact (Pc_b1x (fun _ => (Pc_if (fun _ => (Pc_some2 F0)) (fun _ => (Pc_if (fun _ => (Pc_some2 F0)) (fun _ => (Pc_if (fun _ => (Pc_some2 F0)) (fun _ => (Pc_gd (fun g1 => (Pc_vl (Pc_gd (fun g2 => (Pc_st (Pc_some2 (Frm.pI F0 mI_2))))))))))))))))
theorem v_X11_open {WS : List (Nat × Nat)} {WI WJ : List Nat} {b : SS} {s0 : SS} {a0 : Int32} {a1 : Int32} (S : Sh b) (mI_3 : WI.contains 3 = true) (F0 : Frm WS WI WJ b s0) : Pc (f_X11_open s0 a0 a1) (fun r => Frm WS WI WJ b r.2) := by
  unfold f_X11_open
  exact (Pc_b1x (fun _ => (Pc_if (fun _ => (Pc_some2 F0)) (fun _ => (Pc_if (fun _ => (Pc_some2 F0)) (fun _ => (Pc_if (fun _ => (Pc_some2 F0)) (fun _ => (Pc_gd (fun g1 => (Pc_vl (Pc_gd (fun g2 => (Pc_st (Pc_some2 (Frm.pI F0 mI_3))))))))))))))))
theorem v_X0_added {WS : List (Nat × Nat)} {WI WJ : List Nat} {b : SS} {s0 : SS} {a0 : Int32} (S : Sh b) (mI_16 : WI.contains 16 = true) (mS_15_3 : WS.contains (15, 3) = true) (F0 : Frm WS WI WJ b s0) : Pc (f_X0_added s0 a0) (fun r => Frm WS WI WJ b r.2) := by
  unfold f_X0_added
  exact (Pc_if (fun _ => (Pc_vl (Pc_gd (fun g1 => (Pc_st (Pc_vl (Pc_st (Pc_some2 (Frm.pS (Frm.pI F0 mI_16) mS_15_3))))))))) (fun _ => (Pc_some2 F0)))
theorem v_X11_body {WS : List (Nat × Nat)} {WI WJ : List Nat} {b : SS} {s0 : SS} {a0 : Int32} (S : Sh b) (mI_16 : WI.contains 16 = true) (mS_15_3 : WS.contains (15, 3) = true) (F0 : Frm WS WI WJ b s0) : Pc (f_X11_body s0 a0) (fun r => Frm WS WI WJ b r.2) := by
  unfold f_X11_body
  exact (Pc_jn0 (Pc_bd (Pc.mono (v_X0_added S mI_16 mS_15_3 F0) (fun _ F2 => (Pc_some2 F2)))) (fun _ hk1 => (Pc_if (fun _ => hk1) (fun _ => (Pc_if (fun _ => hk1) (fun _ => (Pc_some2 F0)))))))
theorem v_X0_addedRefuge {WS : List (Nat × Nat)} {WI WJ : List Nat} {b : SS} {s0 : SS} {a0 : Int32} {a1 : Int32} {a2 : Int32} (S : Sh b) (mI_16 : WI.contains 16 = true) (mS_15_3 : WS.contains (15, 3) = true) (mS_15_5 : WS.contains (15, 5) = true) (mS_15_6 : WS.contains (15, 6) = true) (mS_15_7 : WS.contains (15, 7) = true) (mS_15_8 : WS.contains (15, 8) = true) (F0 : Frm WS WI WJ b s0) : Pc (f_X0_addedRefuge s0 a0 a1 a2) (fun r => Frm WS WI WJ b r.2) := by
  unfold f_X0_addedRefuge
  exact (Pc_bd (Pc.mono (v_X0_added S mI_16 mS_15_3 F0) (fun _ F1 => (Pc_if (fun _ => (Pc_some2 F1)) (fun _ => (Pc_st (Pc_st (Pc_st (Pc_st (Pc_some2 (Frm.pS (Frm.pS (Frm.pS (Frm.pS F1 mS_15_5) mS_15_6) mS_15_7) mS_15_8)))))))))))
theorem v_X11_shelter {WS : List (Nat × Nat)} {WI WJ : List Nat} {b : SS} {s0 : SS} {a0 : Int32} {a1 : Int32} (S : Sh b) (mI_16 : WI.contains 16 = true) (mS_15_3 : WS.contains (15, 3) = true) (mS_15_5 : WS.contains (15, 5) = true) (mS_15_6 : WS.contains (15, 6) = true) (mS_15_7 : WS.contains (15, 7) = true) (mS_15_8 : WS.contains (15, 8) = true) (F0 : Frm WS WI WJ b s0) : Pc (f_X11_shelter s0 a0 a1) (fun r => Frm WS WI WJ b r.2) := by
  unfold f_X11_shelter
  exact (Pc_b1x (fun _ => (Pc_if (fun _ => (Pc_some2 F0)) (fun _ => (Pc_b1x (fun _ => (Pc_if (fun _ => (Pc_some2 F0)) (fun _ => (Pc_if (fun _ => (Pc_bd (Pc.mono (v_X0_addedRefuge S mI_16 mS_15_3 mS_15_5 mS_15_6 mS_15_7 mS_15_8 F0) (fun _ F1 => (Pc_some2 F1))))) (fun _ => (Pc_some2 F0)))))))))))
theorem v_X2_comes {WS : List (Nat × Nat)} {WI WJ : List Nat} {b : SS} {s0 : SS} {a0 : Int32} {a1 : Int32} {a2 : Int32} {a3 : Int32} (S : Sh b) (mI_7 : WI.contains 7 = true) (mI_8 : WI.contains 8 = true) (mI_9 : WI.contains 9 = true) (mI_10 : WI.contains 10 = true) (mS_6_4 : WS.contains (6, 4) = true) (F0 : Frm WS WI WJ b s0) : Pc (f_X2_comes s0 a0 a1 a2 a3) (fun r => Frm WS WI WJ b r) := by
  unfold f_X2_comes
  exact (Pc_if (fun _ => (Pc_some F0)) (fun _ => (Pc_if (fun _ => (Pc_gd (fun g1 => (Pc_st (Pc_gd (fun g2 => (Pc_st (Pc_gd (fun g3 => (Pc_st (Pc_gd (fun g4 => (Pc_st (Pc_vl (Pc_st (Pc_some (Frm.pS (Frm.pI (Frm.pI (Frm.pI (Frm.pI F0 mI_7) mI_8) mI_9) mI_10) mS_6_4))))))))))))))))) (fun _ => (Pc_some F0)))))
theorem v_X11_man {WS : List (Nat × Nat)} {WI WJ : List Nat} {b : SS} {s0 : SS} {a0 : Int32} {a1 : Int32} (S : Sh b) (mI_7 : WI.contains 7 = true) (mI_8 : WI.contains 8 = true) (mI_9 : WI.contains 9 = true) (mI_10 : WI.contains 10 = true) (mI_16 : WI.contains 16 = true) (mS_6_4 : WS.contains (6, 4) = true) (mS_15_3 : WS.contains (15, 3) = true) (F0 : Frm WS WI WJ b s0) : Pc (f_X11_man s0 a0 a1) (fun r => Frm WS WI WJ b r.2) := by
  unfold f_X11_man
  exact (Pc_if (fun _ => (Pc_some2 F0)) (fun _ => (Pc_if (fun _ => (Pc_some2 F0)) (fun _ => (Pc_if (fun _ => (Pc_some2 F0)) (fun _ => (Pc_if (fun _ => (Pc_some2 F0)) (fun _ => (Pc_bd (Pc.mono (v_X0_added S mI_16 mS_15_3 F0) (fun _ F1 => (Pc_if (fun _ => (Pc_some2 F1)) (fun _ => (Pc_b1 (Pc.mono (v_X2_comes S mI_7 mI_8 mI_9 mI_10 mS_6_4 F1) (fun _ F2 => (Pc_some2 F2)))))))))))))))))
theorem v_X11_ill {WS : List (Nat × Nat)} {WI WJ : List Nat} {b : SS} {s0 : SS} {a0 : Int32} {a1 : Int32} (S : Sh b) (mI_9 : WI.contains 9 = true) (F0 : Frm WS WI WJ b s0) : Pc (f_X11_ill s0 a0 a1) (fun r => Frm WS WI WJ b r.2) := by
  unfold f_X11_ill
  exact (Pc_b1x (fun _ => (Pc_if (fun _ => (Pc_if (fun _ => (Pc_some2 F0)) (fun _ => (Pc_if (fun _ => (Pc_some2 F0)) (fun _ => (Pc_gd (fun g1 => (Pc_vl (Pc_gd (fun g2 => (Pc_st (Pc_some2 (Frm.pI F0 mI_9))))))))))))) (fun _ => (Pc_some2 F0)))))
theorem v_X11_speed {WS : List (Nat × Nat)} {WI WJ : List Nat} {b : SS} {s0 : SS} {a0 : Int32} {a1 : Int32} (S : Sh b) (mM_0 : ∀ p, p = 20 ∨ p = 21 ∨ p = 22 → WS.contains (p, 0) = true) (F0 : Frm WS WI WJ b s0) : Pc (f_X11_speed s0 a0 a1) (fun r => Frm WS WI WJ b r.2) := by
  unfold f_X11_speed
  exact (Pc_b1 (Pc.mono (v_X11_machineOf S F0) (fun _ hr1 => (Pc_on (fun _ => (Pc_some2 F0)) (fun _ hp2 => (Pc_if (fun _ => (Pc_some2 F0)) (fun _ => (Pc_if (fun _ => (Pc_some2 F0)) (fun _ => (Pc_vl (Pc_st (Pc_some2 (Frm.pS F0 (mM_0 _ (hr1 _ hp2)))))))))))))))
theorem v_X11_set_L32 {WS : List (Nat × Nat)} {WI WJ : List Nat} {b : SS} {q0 : Option (Int32 × SS)} {sb : SS} {y1 : Int32} {y2 : Int32} {p3 : Nat} {Q : Int32 × SS → Prop} (S : Sh b) (F0 : Frm WS WI WJ b sb) (hr : ∀ v s, Frm WS WI WJ b s → Q (v, s)) (hq0 :  Pc (q0) Q) : ∀ (n : Nat) (x4 : Int32), Pc (f_X11_set_L32 q0 sb y1 y2 p3 n x4) Q := by
  intro n
  induction n with
  | zero => intro x4; exact Pc_none
  | succ n ih =>
    intro x4
    show Pc (f_X11_set_L32_b q0 sb y1 y2 p3 (f_X11_set_L32 q0 sb y1 y2 p3 n) x4) Q
    unfold f_X11_set_L32_b
    exact (Pc_if (fun _ => (Pc_jn0 (Pc_vl (ih _)) (fun _ hk1 => (Pc_if (fun _ => hk1) (fun _ => (Pc_if (fun _ => hk1) (fun _ => (Pc_gd (fun g2 => (Pc_onM S F0 g2 (fun _ hp3 => (Pc_if (fun _ => (Pc_some (hr _ _ F0))) (fun _ => hk1))))))))))))) (fun _ => hq0))
theorem v_X11_set {WS : List (Nat × Nat)} {WI WJ : List Nat} {b : SS} {s0 : SS} {a0 : Int32} {a1 : Int32} (S : Sh b) (mM_1 : ∀ p, p = 20 ∨ p = 21 ∨ p = 22 → WS.contains (p, 1) = true) (F0 : Frm WS WI WJ b s0) : Pc (f_X11_set s0 a0 a1) (fun r => Frm WS WI WJ b r.2) := by
  unfold f_X11_set
  exact (Pc_b1 (Pc.mono (v_X11_machineOf S F0) (fun _ hr1 => (Pc_on (fun _ => (Pc_some2 F0)) (fun _ hp2 => (Pc_jn0 (v_X11_set_L32 S F0 (fun _ _ h => h) (Pc_vl (Pc_st (Pc_some2 (Frm.pS F0 (mM_1 _ (hr1 _ hp2)))))) _ _) (fun _ hk3 => (Pc_if (fun _ => hk3) (fun _ => (Pc_b1x (fun _ => (Pc_on (fun _ => (Pc_some2 F0)) (fun _ hp4 => hk3)))))))))))))
theorem v_X11_breaks {WS : List (Nat × Nat)} {WI WJ : List Nat} {b : SS} {s0 : SS} {a0 : Int32} {a1 : Int32} (S : Sh b) (mM_2 : ∀ p, p = 20 ∨ p = 21 ∨ p = 22 → WS.contains (p, 2) = true) (F0 : Frm WS WI WJ b s0) : Pc (f_X11_breaks s0 a0 a1) (fun r => Frm WS WI WJ b r.2) := by
  unfold f_X11_breaks
  exact (Pc_b1 (Pc.mono (v_X11_machineOf S F0) (fun _ hr1 => (Pc_on (fun _ => (Pc_some2 F0)) (fun _ hp2 => (Pc_if (fun _ => (Pc_some2 F0)) (fun _ => (Pc_if (fun _ => (Pc_some2 F0)) (fun _ => (Pc_st (Pc_some2 (Frm.pS F0 (mM_2 _ (hr1 _ hp2))))))))))))))
theorem v_X11_spread {WS : List (Nat × Nat)} {WI WJ : List Nat} {b : SS} {s0 : SS} {a0 : Int32} (S : Sh b) (mS_0_15 : WS.contains (0, 15) = true) (F0 : Frm WS WI WJ b s0) : Pc (f_X11_spread s0 a0) (fun r => Frm WS WI WJ b r.2) := by
  unfold f_X11_spread
  exact (Pc_if (fun _ => (Pc_some2 F0)) (fun _ => (Pc_if (fun _ => (Pc_some2 F0)) (fun _ => (Pc_vl (Pc_st (Pc_some2 (Frm.pS F0 mS_0_15))))))))
theorem v_X7_fed_L17 {WS : List (Nat × Nat)} {WI WJ : List Nat} {b : SS} {y1 : Int32} {y2 : Int32} {Q : Int32 × SS → Prop} (S : Sh b) (mI_25 : WI.contains 25 = true) (mS_24_1 : WS.contains (24, 1) = true) (hr : ∀ v s, Frm WS WI WJ b s → Q (v, s)) : ∀ (n : Nat) (s : SS) (x3 : Int32), Frm WS WI WJ b s → Pc (f_X7_fed_L17 y1 y2 n s x3) Q := by
  intro n
  induction n with
  | zero => intro s x3 F1; exact Pc_none
  | succ n ih =>
    intro s x3 F1
    show Pc (f_X7_fed_L17_b y1 y2 (f_X7_fed_L17 y1 y2 n) s x3) Q
    unfold f_X7_fed_L17_b
    exact (Pc_if (fun _ => (Pc_vl (Pc_vl (Pc_gd (fun g1 => (Pc_st (Pc_vl (Pc_st (Pc_vl (ih _ _ (Frm.pS (Frm.pI F1 mI_25) mS_24_1))))))))))) (fun _ => (Pc_some (hr _ _ F1))))
theorem v_X7_fed {WS : List (Nat × Nat)} {WI WJ : List Nat} {b : SS} {s0 : SS} {a0 : Int32} {a1 : Int32} (S : Sh b) (mI_25 : WI.contains 25 = true) (mS_24_1 : WS.contains (24, 1) = true) (F0 : Frm WS WI WJ b s0) : Pc (f_X7_fed s0 a0 a1) (fun r => Frm WS WI WJ b r.2) := by
  unfold f_X7_fed
  exact (Pc_if (fun _ => (Pc_some2 F0)) (fun _ => (v_X7_fed_L17 S mI_25 mS_24_1 (fun _ _ h => h) _ _ _ F0)))
theorem v_X11_feed {WS : List (Nat × Nat)} {WI WJ : List Nat} {b : SS} {s0 : SS} {a0 : Int32} {a1 : Int32} (S : Sh b) (mI_25 : WI.contains 25 = true) (mS_24_1 : WS.contains (24, 1) = true) (F0 : Frm WS WI WJ b s0) : Pc (f_X11_feed s0 a0 a1) (fun r => Frm WS WI WJ b r.2) := by
  unfold f_X11_feed
  exact (Pc_if (fun _ => (Pc_some2 F0)) (fun _ => (Pc_if (fun _ => (Pc_some2 F0)) (fun _ => (Pc_bd (Pc.mono (v_X7_fed S mI_25 mS_24_1 F0) (fun _ F1 => (Pc_some2 F1))))))))
theorem v_X11_spoons {WS : List (Nat × Nat)} {WI WJ : List Nat} {b : SS} {s0 : SS} {a0 : Int32} (S : Sh b) (mS_30_0 : WS.contains (30, 0) = true) (F0 : Frm WS WI WJ b s0) : Pc (f_X11_spoons s0 a0) (fun r => Frm WS WI WJ b r.2) := by
  unfold f_X11_spoons
  exact (Pc_if (fun _ => (Pc_some2 F0)) (fun _ => (Pc_if (fun _ => (Pc_some2 F0)) (fun _ => (Pc_vl (Pc_st (Pc_some2 (Frm.pS F0 mS_30_0))))))))
theorem v_X5_moveTold {WS : List (Nat × Nat)} {WI WJ : List Nat} {b : SS} {s0 : SS} {a0 : Int32} {a1 : Int32} (S : Sh b) (mI_4 : WI.contains 4 = true) (mI_5 : WI.contains 5 = true) (mS_1_4 : WS.contains (1, 4) = true) (F0 : Frm WS WI WJ b s0) : Pc (f_X5_moveTold s0 a0 a1) (fun r => Frm WS WI WJ b r.2) := by
  unfold f_X5_moveTold
  exact (Pc_if (fun _ => (Pc_vl (Pc_gd (fun g1 => (Pc_st (Pc_vl (Pc_gd (fun g2 => (Pc_st (Pc_vl (Pc_st (Pc_some2 (Frm.pS (Frm.pI (Frm.pI F0 mI_4) mI_5) mS_1_4))))))))))))) (fun _ => (Pc_some2 F0)))
theorem v_X11_move {WS : List (Nat × Nat)} {WI WJ : List Nat} {b : SS} {s0 : SS} {a0 : Int32} {a1 : Int32} (S : Sh b) (mI_4 : WI.contains 4 = true) (mI_5 : WI.contains 5 = true) (mS_1_4 : WS.contains (1, 4) = true) (F0 : Frm WS WI WJ b s0) : Pc (f_X11_move s0 a0 a1) (fun r => Frm WS WI WJ b r.2) := by
  unfold f_X11_move
  exact (Pc_b1x (fun _ => (Pc_if (fun _ => (Pc_some2 F0)) (fun _ => (Pc_if (fun _ => (Pc_if (fun _ => (Pc_some2 F0)) (fun _ => (Pc_bd (Pc.mono (v_X5_moveTold S mI_4 mI_5 mS_1_4 F0) (fun _ F1 => (Pc_some2 F1))))))) (fun _ => (Pc_some2 F0)))))))
theorem v_X2_daysKept_L6 {WS : List (Nat × Nat)} {WI WJ : List Nat} {b : SS} {q0 : SS → Int32 → Option (Int32 × SS)} {y1 : Int32} {y2 : Int32} {y3 : Int32} {Q : Int32 × SS → Prop} (S : Sh b) (mI_11 : WI.contains 11 = true) (hr : ∀ v s, Frm WS WI WJ b s → Q (v, s)) (hq0 : ∀ (z0 : SS) (z1 : Int32), Frm WS WI WJ b z0 → Pc (q0 z0 z1) Q) : ∀ (n : Nat) (s : SS) (x4 : Int32) (x5 : Int32), Frm WS WI WJ b s → Pc (f_X2_daysKept_L6 q0 y1 y2 y3 n s x4 x5) Q := by
  intro n
  induction n with
  | zero => intro s x4 x5 F1; exact Pc_none
  | succ n ih =>
    intro s x4 x5 F1
    show Pc (f_X2_daysKept_L6_b q0 y1 y2 y3 (f_X2_daysKept_L6 q0 y1 y2 y3 n) s x4 x5) Q
    unfold f_X2_daysKept_L6_b
    exact (Pc_if (fun _ => (Pc_gd (fun g1 => (Pc_jnS1 (P := Frm WS WI WJ b) (fun _ _ F3 => (Pc_vl (ih _ _ _ F3))) (fun _ hk2 => (Pc_if (fun _ => (Pc_gd (fun g4 => (Pc_if (fun _ => (Pc_gd (fun g5 => (Pc_vl (Pc_gd (fun g6 => (Pc_st (Pc_vl (hk2 _ _ (Frm.pI F1 mI_11)))))))))) (fun _ => (Pc_some (hr _ _ F1))))))) (fun _ => (hk2 _ _ F1)))))))) (fun _ => (hq0 _ _ F1)))
theorem v_X2_daysKept_L76 {WS : List (Nat × Nat)} {WI WJ : List Nat} {b : SS} {q0 : SS → Int32 → Option (Int32 × SS)} {y1 : Int32} {y2 : Int32} {y4 : Int32} {y6 : Int32} {Q : Int32 × SS → Prop} (S : Sh b) (mI_11 : WI.contains 11 = true) (hr : ∀ v s, Frm WS WI WJ b s → Q (v, s)) (hq0 : ∀ (z0 : SS) (z1 : Int32), Frm WS WI WJ b z0 → Pc (q0 z0 z1) Q) : ∀ (n : Nat) (s : SS) (x5 : Int32) (x7 : Int32), Frm WS WI WJ b s → Pc (f_X2_daysKept_L76 q0 y1 y2 y4 y6 n s x5 x7) Q := by
  intro n
  induction n with
  | zero => intro s x5 x7 F1; exact Pc_none
  | succ n ih =>
    intro s x5 x7 F1
    show Pc (f_X2_daysKept_L76_b q0 y1 y2 y4 y6 (f_X2_daysKept_L76 q0 y1 y2 y4 y6 n) s x5 x7) Q
    unfold f_X2_daysKept_L76_b
    exact (Pc_if (fun _ => (Pc_b1x (fun _ => (Pc_vl (Pc_gd (fun g1 => (Pc_b1x (fun _ => (Pc_gd (fun g2 => (Pc_st (Pc_gd (fun g3 => (Pc_if (fun _ => (Pc_vl (ih _ _ _ (Frm.pI F1 mI_11)))) (fun _ => (Pc_some (hr _ _ (Frm.pI F1 mI_11)))))))))))))))))) (fun _ => (hq0 _ _ F1)))
theorem v_X2_daysKept_L66 {WS : List (Nat × Nat)} {WI WJ : List Nat} {b : SS} {y1 : Int32} {y2 : Int32} {y4 : Int32} {Q : Int32 × SS → Prop} (S : Sh b) (mI_11 : WI.contains 11 = true) (hr : ∀ v s, Frm WS WI WJ b s → Q (v, s)) : ∀ (n : Nat) (s : SS) (x5 : Int32) (x6 : Int32), Frm WS WI WJ b s → Pc (f_X2_daysKept_L66 y1 y2 y4 n s x5 x6) Q := by
  intro n
  induction n with
  | zero => intro s x5 x6 F1; exact Pc_none
  | succ n ih =>
    intro s x5 x6 F1
    show Pc (f_X2_daysKept_L66_b y1 y2 y4 (f_X2_daysKept_L66 y1 y2 y4 n) s x5 x6) Q
    unfold f_X2_daysKept_L66_b
    exact (Pc_if (fun _ => (v_X2_daysKept_L76 S mI_11 hr (fun _ _ F1 => by exact (Pc_vl (ih _ _ _ F1))) _ _ _ _ F1)) (fun _ => (Pc_some (hr _ _ F1))))
theorem v_X2_daysKept {WS : List (Nat × Nat)} {WI WJ : List Nat} {b : SS} {s0 : SS} {a0 : Int32} {a1 : Int32} {a2 : Int32} (S : Sh b) (mI_11 : WI.contains 11 = true) (F0 : Frm WS WI WJ b s0) : Pc (f_X2_daysKept s0 a0 a1 a2) (fun r => Frm WS WI WJ b r.2) := by
  unfold f_X2_daysKept
  exact (v_X2_daysKept_L6 S mI_11 (fun _ _ h => h) (fun _ _ F1 => by exact (v_X2_daysKept_L66 S mI_11 (fun _ _ h => h) _ _ _ _ F1)) _ _ _ _ F0)
theorem v_X11_last {WS : List (Nat × Nat)} {WI WJ : List Nat} {b : SS} {s0 : SS} {a0 : Int32} {a1 : Int32} (S : Sh b) (mI_11 : WI.contains 11 = true) (F0 : Frm WS WI WJ b s0) : Pc (f_X11_last s0 a0 a1) (fun r => Frm WS WI WJ b r.2) := by
  unfold f_X11_last
  exact (Pc_if (fun _ => (Pc_some2 F0)) (fun _ => (Pc_if (fun _ => (Pc_some2 F0)) (fun _ => (Pc_if (fun _ => (Pc_some2 F0)) (fun _ => (Pc_if (fun _ => (Pc_some2 F0)) (fun _ => (Pc_if (fun _ => (Pc_some2 F0)) (fun _ => (Pc_bd (Pc.mono (v_X2_daysKept S mI_11 F0) (fun _ F1 => (Pc_some2 F1))))))))))))))
theorem v_X11_best_L33 {WS : List (Nat × Nat)} {WI WJ : List Nat} {b : SS} {y1 : Int32} {Q : Int32 × SS → Prop} (S : Sh b) (mI_11 : WI.contains 11 = true) (hr : ∀ v s, Frm WS WI WJ b s → Q (v, s)) : ∀ (n : Nat) (s : SS) (x2 : Int32) (x3 : Int32) (x4 : Int32), Frm WS WI WJ b s → Pc (f_X11_best_L33 y1 n s x2 x3 x4) Q := by
  intro n
  induction n with
  | zero => intro s x2 x3 x4 F1; exact Pc_none
  | succ n ih =>
    intro s x2 x3 x4 F1
    show Pc (f_X11_best_L33_b y1 (f_X11_best_L33 y1 n) s x2 x3 x4) Q
    unfold f_X11_best_L33_b
    exact (Pc_if (fun _ => (Pc_some (hr _ _ F1))) (fun _ => (Pc_bd (Pc.mono (v_X2_daysKept S mI_11 F1) (fun _ F1 => (Pc_jn2 (fun _ _ => (Pc_vl (ih _ _ _ _ F1))) (fun _ hk2 => (Pc_if (fun _ => (hk2 _ _)) (fun _ => (hk2 _ _))))))))))
theorem v_X11_best {WS : List (Nat × Nat)} {WI WJ : List Nat} {b : SS} {s0 : SS} {a0 : Int32} (S : Sh b) (mI_11 : WI.contains 11 = true) (F0 : Frm WS WI WJ b s0) : Pc (f_X11_best s0 a0) (fun r => Frm WS WI WJ b r.2) := by
  unfold f_X11_best
  exact (Pc_if (fun _ => (Pc_some2 F0)) (fun _ => (Pc_if (fun _ => (Pc_some2 F0)) (fun _ => (Pc_if (fun _ => (Pc_some2 F0)) (fun _ => (v_X11_best_L33 S mI_11 (fun _ _ h => h) _ _ _ _ _ F0)))))))
theorem v_X6_needTold {WS : List (Nat × Nat)} {WI WJ : List Nat} {b : SS} {s0 : SS} {a0 : Int32} {a1 : Int32} {a2 : Int32} (S : Sh b) (mI_35 : WI.contains 35 = true) (mI_36 : WI.contains 36 = true) (mI_37 : WI.contains 37 = true) (mS_34_3 : WS.contains (34, 3) = true) (F0 : Frm WS WI WJ b s0) : Pc (f_X6_needTold s0 a0 a1 a2) (fun r => Frm WS WI WJ b r.2) := by
  unfold f_X6_needTold
  exact (Pc_if (fun _ => (Pc_vl (Pc_gd (fun g1 => (Pc_st (Pc_vl (Pc_gd (fun g2 => (Pc_st (Pc_vl (Pc_gd (fun g3 => (Pc_st (Pc_vl (Pc_st (Pc_some2 (Frm.pS (Frm.pI (Frm.pI (Frm.pI F0 mI_35) mI_36) mI_37) mS_34_3))))))))))))))))) (fun _ => (Pc_some2 F0)))
theorem v_X11_need {WS : List (Nat × Nat)} {WI WJ : List Nat} {b : SS} {s0 : SS} {a0 : Int32} {a1 : Int32} (S : Sh b) (mI_35 : WI.contains 35 = true) (mI_36 : WI.contains 36 = true) (mI_37 : WI.contains 37 = true) (mS_34_3 : WS.contains (34, 3) = true) (F0 : Frm WS WI WJ b s0) : Pc (f_X11_need s0 a0 a1) (fun r => Frm WS WI WJ b r.2) := by
  unfold f_X11_need
  exact (Pc_if (fun _ => (Pc_some2 F0)) (fun _ => (Pc_if (fun _ => (Pc_some2 F0)) (fun _ => (Pc_if (fun _ => (Pc_some2 F0)) (fun _ => (Pc_if (fun _ => (Pc_some2 F0)) (fun _ => (Pc_if (fun _ => (Pc_some2 F0)) (fun _ => (Pc_bd (Pc.mono (v_X6_needTold S mI_35 mI_36 mI_37 mS_34_3 F0) (fun _ F1 => (Pc_some2 F1))))))))))))))
theorem v_X6_leastLateness_L28 {WS : List (Nat × Nat)} {WI WJ : List Nat} {b : SS} {q0 : SS → Option (Int32 × SS)} {y1 : Int32} {y2 : Int32} {Q : Int32 × SS → Prop} (S : Sh b) (mI_39 : WI.contains 39 = true) (hq0 : ∀ (z0 : SS), Frm WS WI WJ b z0 → Pc (q0 z0) Q) : ∀ (n : Nat) (s : SS) (x3 : Int32), Frm WS WI WJ b s → Pc (f_X6_leastLateness_L28 q0 y1 y2 n s x3) Q := by
  intro n
  induction n with
  | zero => intro s x3 F1; exact Pc_none
  | succ n ih =>
    intro s x3 F1
    show Pc (f_X6_leastLateness_L28_b q0 y1 y2 (f_X6_leastLateness_L28 q0 y1 y2 n) s x3) Q
    unfold f_X6_leastLateness_L28_b
    exact (Pc_if (fun _ => (Pc_gd (fun g1 => (Pc_gd (fun g2 => (Pc_vl (Pc_vl (Pc_gd (fun g3 => (Pc_st (Pc_vl (ih _ _ (Frm.pI F1 mI_39))))))))))))) (fun _ => (hq0 _ F1)))
theorem v_X6_leastLateness_L18 {WS : List (Nat × Nat)} {WI WJ : List Nat} {b : SS} {q0 : SS → Option (Int32 × SS)} {y1 : Int32} {Q : Int32 × SS → Prop} (S : Sh b) (mI_39 : WI.contains 39 = true) (hq0 : ∀ (z0 : SS), Frm WS WI WJ b z0 → Pc (q0 z0) Q) : ∀ (n : Nat) (s : SS) (x2 : Int32), Frm WS WI WJ b s → Pc (f_X6_leastLateness_L18 q0 y1 n s x2) Q := by
  intro n
  induction n with
  | zero => intro s x2 F1; exact Pc_none
  | succ n ih =>
    intro s x2 F1
    show Pc (f_X6_leastLateness_L18_b q0 y1 (f_X6_leastLateness_L18 q0 y1 n) s x2) Q
    unfold f_X6_leastLateness_L18_b
    exact (Pc_if (fun _ => (v_X6_leastLateness_L28 S mI_39 (fun _ F1 => by exact (Pc_vl (ih _ _ F1))) _ _ _ F1)) (fun _ => (hq0 _ F1)))
theorem v_X6_leastLateness_L91 {WS : List (Nat × Nat)} {WI WJ : List Nat} {b : SS} {q0 : Int32 → Option (Int32 × SS)} {sb : SS} {y2 : Int32} {Q : Int32 × SS → Prop} (S : Sh b) (F0 : Frm WS WI WJ b sb) (hq0 : ∀ (z0 : Int32), Pc (q0 z0) Q) : ∀ (n : Nat) (x3 : Int32) (x4 : Int32), Pc (f_X6_leastLateness_L91 q0 sb y2 n x3 x4) Q := by
  intro n
  induction n with
  | zero => intro x3 x4; exact Pc_none
  | succ n ih =>
    intro x3 x4
    show Pc (f_X6_leastLateness_L91_b q0 sb y2 (f_X6_leastLateness_L91 q0 sb y2 n) x3 x4) Q
    unfold f_X6_leastLateness_L91_b
    exact (Pc_if (fun _ => (Pc_jn1 (fun _ => (Pc_vl (ih _ _))) (fun _ hk1 => (Pc_if (fun _ => (Pc_b1x (fun _ => (Pc_b1x (fun _ => (hk1 _)))))) (fun _ => (hk1 _)))))) (fun _ => (hq0 _)))
theorem v_X6_leastLateness_L81 {WS : List (Nat × Nat)} {WI WJ : List Nat} {b : SS} {q0 : SS → Option (Int32 × SS)} {Q : Int32 × SS → Prop} (S : Sh b) (mI_38 : WI.contains 38 = true) (hq0 : ∀ (z0 : SS), Frm WS WI WJ b z0 → Pc (q0 z0) Q) : ∀ (n : Nat) (s : SS) (x2 : Int32), Frm WS WI WJ b s → Pc (f_X6_leastLateness_L81 q0 n s x2) Q := by
  intro n
  induction n with
  | zero => intro s x2 F1; exact Pc_none
  | succ n ih =>
    intro s x2 F1
    show Pc (f_X6_leastLateness_L81_b q0 (f_X6_leastLateness_L81 q0 n) s x2) Q
    unfold f_X6_leastLateness_L81_b
    exact (Pc_if (fun _ => (hq0 _ F1)) (fun _ => (v_X6_leastLateness_L91 S F1 (fun _ => by exact (Pc_gd (fun g1 => (Pc_st (Pc_vl (ih _ _ (Frm.pI F1 mI_38))))))) _ _ _)))
theorem v_X6_placesFollow_L14 {WS : List (Nat × Nat)} {WI WJ : List Nat} {b : SS} {q0 : Int32 → Option SS} {sb : SS} {y1 : Int32} {y2 : Int32} {Q : SS → Prop} (S : Sh b) (F0 : Frm WS WI WJ b sb) (hq0 : ∀ (z0 : Int32), Pc (q0 z0) Q) : ∀ (n : Nat) (x3 : Int32), Pc (f_X6_placesFollow_L14 q0 sb y1 y2 n x3) Q := by
  intro n
  induction n with
  | zero => intro x3; exact Pc_none
  | succ n ih =>
    intro x3
    show Pc (f_X6_placesFollow_L14_b q0 sb y1 y2 (f_X6_placesFollow_L14 q0 sb y1 y2 n) x3) Q
    unfold f_X6_placesFollow_L14_b
    exact (Pc_if (fun _ => (Pc_jn0 (Pc_vl (ih _)) (fun _ hk1 => (Pc_if (fun _ => (Pc_b1x (fun _ => (Pc_gd (fun g2 => (Pc_if (fun _ => (hq0 _)) (fun _ => hk1))))))) (fun _ => hk1))))) (fun _ => (hq0 _)))
theorem v_X6_placesFollow_L4 {WS : List (Nat × Nat)} {WI WJ : List Nat} {b : SS} {q0 : SS → Option SS} {Q : SS → Prop} (S : Sh b) (mI_40 : WI.contains 40 = true) (hq0 : ∀ (z0 : SS), Frm WS WI WJ b z0 → Pc (q0 z0) Q) : ∀ (n : Nat) (s : SS) (x1 : Int32) (x2 : Int32), Frm WS WI WJ b s → Pc (f_X6_placesFollow_L4 q0 n s x1 x2) Q := by
  intro n
  induction n with
  | zero => intro s x1 x2 F1; exact Pc_none
  | succ n ih =>
    intro s x1 x2 F1
    show Pc (f_X6_placesFollow_L4_b q0 (f_X6_placesFollow_L4 q0 n) s x1 x2) Q
    unfold f_X6_placesFollow_L4_b
    exact (Pc_if (fun _ => (v_X6_placesFollow_L14 S F1 (fun _ => by exact (Pc_gd (fun g1 => (Pc_st (Pc_vl (Pc_vl (ih _ _ _ (Frm.pI F1 mI_40)))))))) _ _)) (fun _ => (hq0 _ F1)))
theorem v_X6_placesFollow {WS : List (Nat × Nat)} {WI WJ : List Nat} {b : SS} {s0 : SS} (S : Sh b) (mI_40 : WI.contains 40 = true) (mS_34_7 : WS.contains (34, 7) = true) (F0 : Frm WS WI WJ b s0) : Pc (f_X6_placesFollow s0) (fun r => Frm WS WI WJ b r) := by
  unfold f_X6_placesFollow
  exact (v_X6_placesFollow_L4 S mI_40 (fun _ F1 => by exact (Pc_vl (Pc_st (Pc_some (Frm.pS F1 mS_34_7))))) _ _ _ _ F0)
theorem v_X6_leastLateness {WS : List (Nat × Nat)} {WI WJ : List Nat} {b : SS} {s0 : SS} (S : Sh b) (mI_38 : WI.contains 38 = true) (mI_39 : WI.contains 39 = true) (mI_40 : WI.contains 40 = true) (mS_34_3 : WS.contains (34, 3) = true) (mS_34_7 : WS.contains (34, 7) = true) (F0 : Frm WS WI WJ b s0) : Pc (f_X6_leastLateness s0) (fun r => Frm WS WI WJ b r.2) := by
  unfold f_X6_leastLateness
  exact (Pc_vl (Pc_st (v_X6_leastLateness_L18 S mI_39 (fun _ F1 => by exact (Pc_gd (fun g2 => (Pc_st (Pc_vl (v_X6_leastLateness_L81 S mI_38 (fun _ F3 => by exact (Pc_b1 (Pc.mono (v_X6_placesFollow S mI_40 mS_34_7 F3) (fun _ F4 => (Pc_st (Pc_some2 (Frm.pS F4 mS_34_3))))))) _ _ _ (Frm.pI F1 mI_38))))))) _ _ _ (Frm.pI F0 mI_39))))
theorem v_X11_order {WS : List (Nat × Nat)} {WI WJ : List Nat} {b : SS} {s0 : SS} (S : Sh b) (mI_38 : WI.contains 38 = true) (mI_39 : WI.contains 39 = true) (mI_40 : WI.contains 40 = true) (mS_34_3 : WS.contains (34, 3) = true) (mS_34_7 : WS.contains (34, 7) = true) (F0 : Frm WS WI WJ b s0) : Pc (f_X11_order s0) (fun r => Frm WS WI WJ b r.2) := by
  unfold f_X11_order
  exact (Pc_if (fun _ => (Pc_some2 F0)) (fun _ => (Pc_bd (Pc.mono (v_X6_leastLateness S mI_38 mI_39 mI_40 mS_34_3 mS_34_7 F0) (fun _ F1 => (Pc_some2 F1))))))
theorem v_X2_watchesMade_L22 {WS : List (Nat × Nat)} {WI WJ : List Nat} {b : SS} {y1 : Int32} {y2 : Int32} {Q : Int32 × SS → Prop} (S : Sh b) (mI_12 : WI.contains 12 = true) (hr : ∀ v s, Frm WS WI WJ b s → Q (v, s)) : ∀ (n : Nat) (s : SS) (x3 : Int32) (x4 : Int32) (x5 : Int32), Frm WS WI WJ b s → Pc (f_X2_watchesMade_L22 y1 y2 n s x3 x4 x5) Q := by
  intro n
  induction n with
  | zero => intro s x3 x4 x5 F1; exact Pc_none
  | succ n ih =>
    intro s x3 x4 x5 F1
    show Pc (f_X2_watchesMade_L22_b y1 y2 (f_X2_watchesMade_L22 y1 y2 n) s x3 x4 x5) Q
    unfold f_X2_watchesMade_L22_b
    exact (Pc_if (fun _ => (Pc_if (fun _ => (Pc_if (fun _ => (Pc_gd (fun g1 => (Pc_jnS2 (P := Frm WS WI WJ b) (fun _ _ _ F3 => (Pc_vl (ih _ _ _ _ F3))) (fun _ hk2 => (Pc_if (fun _ => (Pc_vl (Pc_gd (fun g4 => (Pc_if (fun _ => (hk2 _ _ _ F1)) (fun _ => (Pc_gd (fun g5 => (Pc_st (Pc_vl (hk2 _ _ _ (Frm.pI F1 mI_12)))))))))))) (fun _ => (hk2 _ _ _ F1)))))))) (fun _ => (Pc_some (hr _ _ F1))))) (fun _ => (Pc_some (hr _ _ F1))))) (fun _ => (Pc_some (hr _ _ F1))))
theorem v_X2_watchesMade {WS : List (Nat × Nat)} {WI WJ : List Nat} {b : SS} {s0 : SS} {a0 : Int32} {a1 : Int32} (S : Sh b) (mI_12 : WI.contains 12 = true) (mS_6_7 : WS.contains (6, 7) = true) (F0 : Frm WS WI WJ b s0) : Pc (f_X2_watchesMade s0 a0 a1) (fun r => Frm WS WI WJ b r.2) := by
  unfold f_X2_watchesMade
  exact (Pc_st (Pc_st (v_X2_watchesMade_L22 S mI_12 (fun _ _ h => h) _ _ _ _ _ (Frm.pF (Frm.pS F0 mS_6_7) mI_12))))
theorem v_X11_watch {WS : List (Nat × Nat)} {WI WJ : List Nat} {b : SS} {s0 : SS} {a0 : Int32} {a1 : Int32} (S : Sh b) (mI_12 : WI.contains 12 = true) (mS_6_7 : WS.contains (6, 7) = true) (F0 : Frm WS WI WJ b s0) : Pc (f_X11_watch s0 a0 a1) (fun r => Frm WS WI WJ b r.2) := by
  unfold f_X11_watch
  exact (Pc_if (fun _ => (Pc_some2 F0)) (fun _ => (Pc_if (fun _ => (Pc_some2 F0)) (fun _ => (Pc_if (fun _ => (Pc_some2 F0)) (fun _ => (Pc_if (fun _ => (Pc_some2 F0)) (fun _ => (Pc_bd (Pc.mono (v_X2_watchesMade S mI_12 mS_6_7 F0) (fun _ F1 => (Pc_some2 F1))))))))))))
theorem v_X6_aimTold {WS : List (Nat × Nat)} {WI WJ : List Nat} {b : SS} {s0 : SS} {a0 : Int32} (S : Sh b) (mI_41 : WI.contains 41 = true) (mS_34_9 : WS.contains (34, 9) = true) (F0 : Frm WS WI WJ b s0) : Pc (f_X6_aimTold s0 a0) (fun r => Frm WS WI WJ b r.2) := by
  unfold f_X6_aimTold
  exact (Pc_if (fun _ => (Pc_vl (Pc_gd (fun g1 => (Pc_st (Pc_vl (Pc_st (Pc_some2 (Frm.pS (Frm.pI F0 mI_41) mS_34_9))))))))) (fun _ => (Pc_some2 F0)))
theorem v_X11_aim {WS : List (Nat × Nat)} {WI WJ : List Nat} {b : SS} {s0 : SS} {a0 : Int32} {a1 : Int32} (S : Sh b) (mI_41 : WI.contains 41 = true) (mS_34_9 : WS.contains (34, 9) = true) (F0 : Frm WS WI WJ b s0) : Pc (f_X11_aim s0 a0 a1) (fun r => Frm WS WI WJ b r.2) := by
  unfold f_X11_aim
  exact (Pc_if (fun _ => (Pc_some2 F0)) (fun _ => (Pc_if (fun _ => (Pc_if (fun _ => (Pc_some2 F0)) (fun _ => (Pc_if (fun _ => (Pc_some2 F0)) (fun _ => (Pc_bd (Pc.mono (v_X6_aimTold S mI_41 mS_34_9 F0) (fun _ F1 => (Pc_some2 F1))))))))) (fun _ => (Pc_some2 F0)))))
theorem v_X11_rock {WS : List (Nat × Nat)} {WI WJ : List Nat} {b : SS} {s0 : SS} {a0 : Int32} {a1 : Int32} {a2 : Int32} (S : Sh b) (mI_42 : WI.contains 42 = true) (F0 : Frm WS WI WJ b s0) : Pc (f_X11_rock s0 a0 a1 a2) (fun r => Frm WS WI WJ b r.2) := by
  unfold f_X11_rock
  exact (Pc_if (fun _ => (Pc_some2 F0)) (fun _ => (Pc_if (fun _ => (Pc_if (fun _ => (Pc_some2 F0)) (fun _ => (Pc_if (fun _ => (Pc_if (fun _ => (Pc_some2 F0)) (fun _ => (Pc_if (fun _ => (Pc_some2 F0)) (fun _ => (Pc_vl (Pc_gd (fun g1 => (Pc_vl (Pc_gd (fun g2 => (Pc_st (Pc_some2 (Frm.pI F0 mI_42)))))))))))))) (fun _ => (Pc_some2 F0)))))) (fun _ => (Pc_some2 F0)))))
theorem v_X6_weighPlaces_L16 {WS : List (Nat × Nat)} {WI WJ : List Nat} {b : SS} {q0 : Int32 → Option SS} {sb : SS} {y1 : Int32} {y2 : Int32} {y3 : Int32} {Q : SS → Prop} (S : Sh b) (F0 : Frm WS WI WJ b sb) (hq0 : ∀ (z0 : Int32), Pc (q0 z0) Q) : ∀ (n : Nat) (x4 : Int32) (x5 : Int32), Pc (f_X6_weighPlaces_L16 q0 sb y1 y2 y3 n x4 x5) Q := by
  intro n
  induction n with
  | zero => intro x4 x5; exact Pc_none
  | succ n ih =>
    intro x4 x5
    show Pc (f_X6_weighPlaces_L16_b q0 sb y1 y2 y3 (f_X6_weighPlaces_L16 q0 sb y1 y2 y3 n) x4 x5) Q
    unfold f_X6_weighPlaces_L16_b
    exact (Pc_if (fun _ => (Pc_if (fun _ => (Pc_vl (Pc_gd (fun g1 => (Pc_b1x (fun _ => (Pc_vl (ih _ _)))))))) (fun _ => (hq0 _)))) (fun _ => (hq0 _)))
theorem v_X6_weighPlaces_L2 {WS : List (Nat × Nat)} {WI WJ : List Nat} {b : SS} {y1 : Int32} {y2 : Int32} {Q : SS → Prop} (S : Sh b) (mI_43 : WI.contains 43 = true) (hr : ∀ s, Frm WS WI WJ b s → Q s) : ∀ (n : Nat) (s : SS) (x3 : Int32), Frm WS WI WJ b s → Pc (f_X6_weighPlaces_L2 y1 y2 n s x3) Q := by
  intro n
  induction n with
  | zero => intro s x3 F1; exact Pc_none
  | succ n ih =>
    intro s x3 F1
    show Pc (f_X6_weighPlaces_L2_b y1 y2 (f_X6_weighPlaces_L2 y1 y2 n) s x3) Q
    unfold f_X6_weighPlaces_L2_b
    exact (Pc_if (fun _ => (v_X6_weighPlaces_L16 S F1 (fun _ => by exact (Pc_gd (fun g1 => (Pc_vl (Pc_gd (fun g2 => (Pc_st (Pc_vl (ih _ _ (Frm.pI F1 mI_43)))))))))) _ _ _)) (fun _ => (Pc_some (hr _ F1))))
theorem v_X6_weighPlaces {WS : List (Nat × Nat)} {WI WJ : List Nat} {b : SS} {s0 : SS} {a0 : Int32} {a1 : Int32} (S : Sh b) (mI_43 : WI.contains 43 = true) (F0 : Frm WS WI WJ b s0) : Pc (f_X6_weighPlaces s0 a0 a1) (fun r => Frm WS WI WJ b r) := by
  unfold f_X6_weighPlaces
  exact (v_X6_weighPlaces_L2 S mI_43 (fun _ h => h) _ _ _ F0)
theorem v_X6_soonestOne_L16 {WS : List (Nat × Nat)} {WI WJ : List Nat} {b : SS} {q0 : SS → Int32 → Option (Int32 × SS)} {y3 : Int32} {Q : Int32 × SS → Prop} (S : Sh b) (mI_44 : WI.contains 44 = true) (mI_45 : WI.contains 45 = true) (hq0 : ∀ (z0 : SS) (z1 : Int32), Frm WS WI WJ b z0 → Pc (q0 z0 z1) Q) : ∀ (n : Nat) (s : SS) (x2 : Int32) (x4 : Int32), Frm WS WI WJ b s → Pc (f_X6_soonestOne_L16 q0 y3 n s x2 x4) Q := by
  intro n
  induction n with
  | zero => intro s x2 x4 F1; exact Pc_none
  | succ n ih =>
    intro s x2 x4 F1
    show Pc (f_X6_soonestOne_L16_b q0 y3 (f_X6_soonestOne_L16 q0 y3 n) s x2 x4) Q
    unfold f_X6_soonestOne_L16_b
    exact (Pc_if (fun _ => (Pc_gd (fun g1 => (Pc_gd (fun g2 => (Pc_onM S F1 g2 (fun _ hp3 => (Pc_vl (Pc_jnS1 (P := Frm WS WI WJ b) (fun _ _ F5 => (Pc_vl (ih _ _ _ F5))) (fun _ hk4 => (Pc_if (fun _ => (Pc_st (Pc_st (hk4 _ _ (Frm.pI (Frm.pI F1 mI_44) mI_45))))) (fun _ => (hk4 _ _ F1))))))))))))) (fun _ => (hq0 _ _ F1)))
theorem v_X6_soonestOne_L5 {WS : List (Nat × Nat)} {WI WJ : List Nat} {b : SS} {q0 : SS → Int32 → Option (Int32 × SS)} {Q : Int32 × SS → Prop} (S : Sh b) (mI_44 : WI.contains 44 = true) (mI_45 : WI.contains 45 = true) (hq0 : ∀ (z0 : SS) (z1 : Int32), Frm WS WI WJ b z0 → Pc (q0 z0 z1) Q) : ∀ (n : Nat) (s : SS) (x2 : Int32) (x3 : Int32), Frm WS WI WJ b s → Pc (f_X6_soonestOne_L5 q0 n s x2 x3) Q := by
  intro n
  induction n with
  | zero => intro s x2 x3 F1; exact Pc_none
  | succ n ih =>
    intro s x2 x3 F1
    show Pc (f_X6_soonestOne_L5_b q0 (f_X6_soonestOne_L5 q0 n) s x2 x3) Q
    unfold f_X6_soonestOne_L5_b
    exact (Pc_if (fun _ => (v_X6_soonestOne_L16 S mI_44 mI_45 (fun _ _ F1 => by exact (Pc_vl (ih _ _ _ F1))) _ _ _ _ F1)) (fun _ => (hq0 _ _ F1)))
theorem v_X6_soonestOne {WS : List (Nat × Nat)} {WI WJ : List Nat} {b : SS} {s0 : SS} (S : Sh b) (mI_44 : WI.contains 44 = true) (mI_45 : WI.contains 45 = true) (mS_34_14 : WS.contains (34, 14) = true) (F0 : Frm WS WI WJ b s0) : Pc (f_X6_soonestOne s0) (fun r => Frm WS WI WJ b r.2) := by
  unfold f_X6_soonestOne
  exact (v_X6_soonestOne_L5 S mI_44 mI_45 (fun _ _ F1 => by exact (Pc_st (Pc_some2 (Frm.pS F1 mS_34_14)))) _ _ _ _ F0)
theorem v_X6_soonestPair_L20 {WS : List (Nat × Nat)} {WI WJ : List Nat} {b : SS} {q0 : SS → Int32 → Option (Int32 × SS)} {y2 : Int32} {y3 : Int32} {y6 : Int32} {Q : Int32 × SS → Prop} (S : Sh b) (mI_44 : WI.contains 44 = true) (mI_45 : WI.contains 45 = true) (hq0 : ∀ (z0 : SS) (z1 : Int32), Frm WS WI WJ b z0 → Pc (q0 z0 z1) Q) : ∀ (n : Nat) (s : SS) (x5 : Int32) (x7 : Int32), Frm WS WI WJ b s → Pc (f_X6_soonestPair_L20 q0 y2 y3 y6 n s x5 x7) Q := by
  intro n
  induction n with
  | zero => intro s x5 x7 F1; exact Pc_none
  | succ n ih =>
    intro s x5 x7 F1
    show Pc (f_X6_soonestPair_L20_b q0 y2 y3 y6 (f_X6_soonestPair_L20 q0 y2 y3 y6 n) s x5 x7) Q
    unfold f_X6_soonestPair_L20_b
    exact (Pc_if (fun _ => (Pc_gd (fun g1 => (Pc_gd (fun g2 => (Pc_onM S F1 g2 (fun _ hp3 => (Pc_gd (fun g4 => (Pc_gd (fun g5 => (Pc_onM S F1 g5 (fun _ hp6 => (Pc_b1x (fun _ => (Pc_jnS1 (P := Frm WS WI WJ b) (fun _ _ F8 => (Pc_vl (ih _ _ _ F8))) (fun _ hk7 => (Pc_if (fun _ => (Pc_st (Pc_st (Pc_st (Pc_st (hk7 _ _ (Frm.pI (Frm.pI (Frm.pI (Frm.pI F1 mI_44) mI_45) mI_44) mI_45))))))) (fun _ => (hk7 _ _ F1)))))))))))))))))))) (fun _ => (hq0 _ _ F1)))
theorem v_X6_soonestPair_L7 {WS : List (Nat × Nat)} {WI WJ : List Nat} {b : SS} {y2 : Int32} {y3 : Int32} {Q : Int32 × SS → Prop} (S : Sh b) (mI_44 : WI.contains 44 = true) (mI_45 : WI.contains 45 = true) (hr : ∀ v s, Frm WS WI WJ b s → Q (v, s)) : ∀ (n : Nat) (s : SS) (x5 : Int32) (x6 : Int32), Frm WS WI WJ b s → Pc (f_X6_soonestPair_L7 y2 y3 n s x5 x6) Q := by
  intro n
  induction n with
  | zero => intro s x5 x6 F1; exact Pc_none
  | succ n ih =>
    intro s x5 x6 F1
    show Pc (f_X6_soonestPair_L7_b y2 y3 (f_X6_soonestPair_L7 y2 y3 n) s x5 x6) Q
    unfold f_X6_soonestPair_L7_b
    exact (Pc_if (fun _ => (Pc_vl (v_X6_soonestPair_L20 S mI_44 mI_45 (fun _ _ F1 => by exact (Pc_vl (ih _ _ _ F1))) _ _ _ _ F1))) (fun _ => (Pc_some (hr _ _ F1))))
theorem v_X6_soonestPair {WS : List (Nat × Nat)} {WI WJ : List Nat} {b : SS} {s0 : SS} {a1 : Int32} {a2 : Int32} {a3 : Int32} (S : Sh b) (mI_44 : WI.contains 44 = true) (mI_45 : WI.contains 45 = true) (F0 : Frm WS WI WJ b s0) : Pc (f_X6_soonestPair s0 a1 a2 a3) (fun r => Frm WS WI WJ b r.2) := by
  unfold f_X6_soonestPair
  exact (v_X6_soonestPair_L7 S mI_44 mI_45 (fun _ _ h => h) _ _ _ _ F0)
theorem v_X6_soonestTwo_L16 {WS : List (Nat × Nat)} {WI WJ : List Nat} {b : SS} {q0 : SS → Int32 → Option (Int32 × SS)} {y3 : Int32} {Q : Int32 × SS → Prop} (S : Sh b) (mI_44 : WI.contains 44 = true) (mI_45 : WI.contains 45 = true) (hq0 : ∀ (z0 : SS) (z1 : Int32), Frm WS WI WJ b z0 → Pc (q0 z0 z1) Q) : ∀ (n : Nat) (s : SS) (x2 : Int32) (x4 : Int32), Frm WS WI WJ b s → Pc (f_X6_soonestTwo_L16 q0 y3 n s x2 x4) Q := by
  intro n
  induction n with
  | zero => intro s x2 x4 F1; exact Pc_none
  | succ n ih =>
    intro s x2 x4 F1
    show Pc (f_X6_soonestTwo_L16_b q0 y3 (f_X6_soonestTwo_L16 q0 y3 n) s x2 x4) Q
    unfold f_X6_soonestTwo_L16_b
    exact (Pc_if (fun _ => (Pc_jnS1 (P := Frm WS WI WJ b) (fun _ _ F2 => (Pc_vl (ih _ _ _ F2))) (fun _ hk1 => (Pc_if (fun _ => (hk1 _ _ F1)) (fun _ => (Pc_bd (Pc.mono (v_X6_soonestPair S mI_44 mI_45 F1) (fun _ F3 => (hk1 _ _ F3))))))))) (fun _ => (hq0 _ _ F1)))
theorem v_X6_soonestTwo_L5 {WS : List (Nat × Nat)} {WI WJ : List Nat} {b : SS} {q0 : SS → Int32 → Option (Int32 × SS)} {Q : Int32 × SS → Prop} (S : Sh b) (mI_44 : WI.contains 44 = true) (mI_45 : WI.contains 45 = true) (hq0 : ∀ (z0 : SS) (z1 : Int32), Frm WS WI WJ b z0 → Pc (q0 z0 z1) Q) : ∀ (n : Nat) (s : SS) (x2 : Int32) (x3 : Int32), Frm WS WI WJ b s → Pc (f_X6_soonestTwo_L5 q0 n s x2 x3) Q := by
  intro n
  induction n with
  | zero => intro s x2 x3 F1; exact Pc_none
  | succ n ih =>
    intro s x2 x3 F1
    show Pc (f_X6_soonestTwo_L5_b q0 (f_X6_soonestTwo_L5 q0 n) s x2 x3) Q
    unfold f_X6_soonestTwo_L5_b
    exact (Pc_if (fun _ => (v_X6_soonestTwo_L16 S mI_44 mI_45 (fun _ _ F1 => by exact (Pc_vl (ih _ _ _ F1))) _ _ _ _ F1)) (fun _ => (hq0 _ _ F1)))
theorem v_X6_soonestTwo {WS : List (Nat × Nat)} {WI WJ : List Nat} {b : SS} {s0 : SS} (S : Sh b) (mI_44 : WI.contains 44 = true) (mI_45 : WI.contains 45 = true) (mS_34_14 : WS.contains (34, 14) = true) (F0 : Frm WS WI WJ b s0) : Pc (f_X6_soonestTwo s0) (fun r => Frm WS WI WJ b r.2) := by
  unfold f_X6_soonestTwo
  exact (v_X6_soonestTwo_L5 S mI_44 mI_45 (fun _ _ F1 => by exact (Pc_st (Pc_some2 (Frm.pS F1 mS_34_14)))) _ _ _ _ F0)
theorem v_X11_aimed {WS : List (Nat × Nat)} {WI WJ : List Nat} {b : SS} {s0 : SS} {a0 : Int32} {a1 : Int32} {a2 : Int32} (S : Sh b) (mI_43 : WI.contains 43 = true) (mI_44 : WI.contains 44 = true) (mI_45 : WI.contains 45 = true) (mS_34_9 : WS.contains (34, 9) = true) (mS_34_14 : WS.contains (34, 14) = true) (F0 : Frm WS WI WJ b s0) : Pc (f_X11_aimed s0 a0 a1 a2) (fun r => Frm WS WI WJ b r.2) := by
  unfold f_X11_aimed
  exact (Pc_if (fun _ => (Pc_some2 F0)) (fun _ => (Pc_if (fun _ => (Pc_some2 F0)) (fun _ => (Pc_b1x (fun _ => (Pc_if (fun _ => (Pc_some2 F0)) (fun _ => (Pc_if (fun _ => (Pc_some2 F0)) (fun _ => (Pc_if (fun _ => (Pc_some2 F0)) (fun _ => (Pc_if (fun _ => (Pc_some2 F0)) (fun _ => (Pc_jn0 (Pc_b1 (Pc.mono (v_X6_weighPlaces S mI_43 F0) (fun _ F2 => (Pc_jnS1 (P := Frm WS WI WJ b) (fun _ _ F4 => (Pc_st (Pc_some2 (Frm.pS F4 mS_34_9)))) (fun _ hk3 => (Pc_if (fun _ => (Pc_bd (Pc.mono (v_X6_soonestOne S mI_44 mI_45 mS_34_14 F2) (fun _ F5 => (hk3 _ _ F5))))) (fun _ => (Pc_bd (Pc.mono (v_X6_soonestTwo S mI_44 mI_45 mS_34_14 F2) (fun _ F6 => (hk3 _ _ F6))))))))))) (fun _ hk1 => (Pc_if (fun _ => (Pc_if (fun _ => (Pc_some2 F0)) (fun _ => hk1))) (fun _ => hk1))))))))))))))))))
theorem v_X2_liftBegins {WS : List (Nat × Nat)} {WI WJ : List Nat} {b : SS} {s0 : SS} {a0 : Int32} {a1 : Int32} (S : Sh b) (mS_6_10 : WS.contains (6, 10) = true) (mS_6_11 : WS.contains (6, 11) = true) (mS_6_12 : WS.contains (6, 12) = true) (F0 : Frm WS WI WJ b s0) : Pc (f_X2_liftBegins s0 a0 a1) (fun r => Frm WS WI WJ b r) := by
  unfold f_X2_liftBegins
  exact (Pc_st (Pc_st (Pc_st (Pc_some (Frm.pS (Frm.pS (Frm.pS F0 mS_6_10) mS_6_11) mS_6_12)))))
theorem v_X10_worth_L8 {WS : List (Nat × Nat)} {WI WJ : List Nat} {b : SS} {q0 : SS → Int32 → Option (Int32 × SS)} {p0 : Nat} {Q : Int32 × SS → Prop} (S : Sh b) (mI_29 : WI.contains 29 = true) (hr : ∀ v s, Frm WS WI WJ b s → Q (v, s)) (hq0 : ∀ (z0 : SS) (z1 : Int32), Frm WS WI WJ b z0 → Pc (q0 z0 z1) Q) : ∀ (n : Nat) (s : SS) (x3 : Int32) (x4 : Int32) (x5 : Int32), Frm WS WI WJ b s → Pc (f_X10_worth_L8 q0 p0 n s x3 x4 x5) Q := by
  intro n
  induction n with
  | zero => intro s x3 x4 x5 F1; exact Pc_none
  | succ n ih =>
    intro s x3 x4 x5 F1
    show Pc (f_X10_worth_L8_b q0 p0 (f_X10_worth_L8 q0 p0 n) s x3 x4 x5) Q
    unfold f_X10_worth_L8_b
    exact (Pc_if (fun _ => (Pc_gd (fun g1 => (Pc_vl (Pc_jnS2 (P := Frm WS WI WJ b) (fun _ _ _ F3 => (Pc_vl (ih _ _ _ _ F3))) (fun _ hk2 => (Pc_if (fun _ => (Pc_b1x (fun _ => (Pc_jn1 (fun _ => (Pc_gd (fun g5 => (Pc_st (hk2 _ _ _ (Frm.pI F1 mI_29)))))) (fun _ hk4 => (Pc_if (fun _ => (Pc_b1x (fun _ => (hk4 _)))) (fun _ => (hk4 _)))))))) (fun _ => (Pc_if (fun _ => (Pc_some (hr _ _ F1))) (fun _ => (Pc_if (fun _ => (Pc_if (fun _ => (Pc_vl (hk2 _ _ _ F1))) (fun _ => (hq0 _ _ F1)))) (fun _ => (Pc_if (fun _ => (Pc_gd (fun g6 => (Pc_jn1 (fun _ => (Pc_vl (hk2 _ _ _ F1))) (fun _ hk7 => (Pc_if (fun _ => (hk7 _)) (fun _ => (hk7 _)))))))) (fun _ => (Pc_if (fun _ => (Pc_gd (fun g8 => (Pc_jn1 (fun _ => (Pc_gd (fun g10 => (Pc_st (hk2 _ _ _ (Frm.pI F1 mI_29)))))) (fun _ hk9 => (Pc_if (fun _ => (hk9 _)) (fun _ => (hk9 _)))))))) (fun _ => (Pc_if (fun _ => (Pc_gd (fun g11 => (Pc_vl (Pc_gd (fun g12 => (Pc_st (hk2 _ _ _ (Frm.pI F1 mI_29))))))))) (fun _ => (Pc_if (fun _ => (Pc_vl (Pc_gd (fun g13 => (Pc_vl (Pc_gd (fun g14 => (Pc_b1x (fun _ => (Pc_gd (fun g15 => (Pc_st (hk2 _ _ _ (Frm.pI F1 mI_29)))))))))))))) (fun _ => (hk2 _ _ _ F1))))))))))))))))))))) (fun _ => (Pc_some (hr _ _ F1))))
theorem v_X10_worth {WS : List (Nat × Nat)} {WI WJ : List Nat} {b : SS} {s0 : SS} {pt : Nat} (S : Sh b) (mI_29 : WI.contains 29 = true) (F0 : Frm WS WI WJ b s0) : Pc (f_X10_worth s0 pt) (fun r => Frm WS WI WJ b r.2) := by
  unfold f_X10_worth
  exact (v_X10_worth_L8 S mI_29 (fun _ _ h => h) (fun _ _ F1 => by exact (Pc_gd (fun g2 => (Pc_some2 F1)))) _ _ _ _ _ F0)
theorem v_X11_given {WS : List (Nat × Nat)} {WI WJ : List Nat} {b : SS} {s0 : SS} {a0 : Int32} {a1 : Int32} {a2 : Int32} (S : Sh b) (mI_28 : WI.contains 28 = true) (mI_29 : WI.contains 29 = true) (F0 : Frm WS WI WJ b s0) : Pc (f_X11_given s0 a0 a1 a2) (fun r => Frm WS WI WJ b r.2) := by
  unfold f_X11_given
  exact (Pc_jn0 (Pc_if (fun _ => (Pc_some2 F0)) (fun _ => (Pc_some2 F0))) (fun _ hk1 => (Pc_if (fun _ => hk1) (fun _ => (Pc_if (fun _ => (Pc_gd (fun g2 => (Pc_on (fun _ => (Pc_if (fun _ => (Pc_some2 F0)) (fun _ => (Pc_some2 F0)))) (fun _ _ => (Pc_b1x (fun _ => (Pc_jn1 (fun _ => (Pc_vl (Pc_st (Pc_vl (Pc_st (Pc_jn1 (fun _ => (Pc_st (Pc_jn1 (fun _ => (Pc_st (Pc_jn1 (fun _ => (Pc_st (Pc_vl (Pc_st (Pc_vl (Pc_st (Pc_vl (Pc_st (Pc_bd (Pc.mono (v_X10_worth S mI_29 (Frm.pI (Frm.pI (Frm.pI (Frm.pI (Frm.pI (Frm.pI (Frm.pI (Frm.pI F0 mI_28) mI_28) mI_28) mI_28) mI_28) mI_28) mI_28) mI_28)) (fun _ F7 => (Pc_some2 F7)))))))))))) (fun _ hk6 => (Pc_if (fun _ => (hk6 _)) (fun _ => (Pc_gd (fun g8 => (hk6 _))))))))) (fun _ hk5 => (Pc_if (fun _ => (hk5 _)) (fun _ => (Pc_gd (fun g9 => (hk5 _))))))))) (fun _ hk4 => (Pc_if (fun _ => (hk4 _)) (fun _ => (Pc_gd (fun g10 => (hk4 _)))))))))))) (fun _ hk3 => (Pc_if (fun _ => (hk3 _)) (fun _ => (hk3 _)))))))))))) (fun _ => hk1))))))
theorem v_X2_liftTakes_L15 {WS : List (Nat × Nat)} {WI WJ : List Nat} {b : SS} {q0 : SS → Int32 → Option SS} {y1 : Int32} {y2 : Int32} {Q : SS → Prop} (S : Sh b) (mI_13 : WI.contains 13 = true) (mI_14 : WI.contains 14 = true) (hq0 : ∀ (z0 : SS) (z1 : Int32), Frm WS WI WJ b z0 → Pc (q0 z0 z1) Q) : ∀ (n : Nat) (s : SS) (x3 : Int32), Frm WS WI WJ b s → Pc (f_X2_liftTakes_L15 q0 y1 y2 n s x3) Q := by
  intro n
  induction n with
  | zero => intro s x3 F1; exact Pc_none
  | succ n ih =>
    intro s x3 F1
    show Pc (f_X2_liftTakes_L15_b q0 y1 y2 (f_X2_liftTakes_L15 q0 y1 y2 n) s x3) Q
    unfold f_X2_liftTakes_L15_b
    exact (Pc_if (fun _ => (Pc_vl (Pc_gd (fun g1 => (Pc_if (fun _ => (Pc_vl (Pc_gd (fun g2 => (Pc_vl (Pc_gd (fun g3 => (Pc_st (Pc_vl (Pc_gd (fun g4 => (Pc_vl (Pc_gd (fun g5 => (Pc_st (Pc_vl (ih _ _ (Frm.pI (Frm.pI F1 mI_13) mI_14)))))))))))))))))) (fun _ => (hq0 _ _ F1))))))) (fun _ => (hq0 _ _ F1)))
theorem v_X2_liftTakes {WS : List (Nat × Nat)} {WI WJ : List Nat} {b : SS} {s0 : SS} {a0 : Int32} {a1 : Int32} (S : Sh b) (mI_13 : WI.contains 13 = true) (mI_14 : WI.contains 14 = true) (mS_6_10 : WS.contains (6, 10) = true) (F0 : Frm WS WI WJ b s0) : Pc (f_X2_liftTakes s0 a0 a1) (fun r => Frm WS WI WJ b r) := by
  unfold f_X2_liftTakes
  exact (Pc_if (fun _ => (Pc_vl (v_X2_liftTakes_L15 S mI_13 mI_14 (fun _ _ F1 => by exact (Pc_gd (fun g2 => (Pc_st (Pc_gd (fun g3 => (Pc_st (Pc_vl (Pc_st (Pc_some (Frm.pS (Frm.pI (Frm.pI F1 mI_13) mI_14) mS_6_10))))))))))) _ _ _ F0))) (fun _ => (Pc_some F0)))
theorem v_X11_capsule_L93 {WS : List (Nat × Nat)} {WI WJ : List Nat} {b : SS} {q0 : SS → Option (Int32 × SS)} {y4 : Int32} {Q : Int32 × SS → Prop} (S : Sh b) (mI_13 : WI.contains 13 = true) (mI_14 : WI.contains 14 = true) (mI_28 : WI.contains 28 = true) (mI_29 : WI.contains 29 = true) (mS_6_10 : WS.contains (6, 10) = true) (hq0 : ∀ (z0 : SS), Frm WS WI WJ b z0 → Pc (q0 z0) Q) : ∀ (n : Nat) (s : SS) (x5 : Int32), Frm WS WI WJ b s → Pc (f_X11_capsule_L93 q0 y4 n s x5) Q := by
  intro n
  induction n with
  | zero => intro s x5 F1; exact Pc_none
  | succ n ih =>
    intro s x5 F1
    show Pc (f_X11_capsule_L93_b q0 y4 (f_X11_capsule_L93 q0 y4 n) s x5) Q
    unfold f_X11_capsule_L93_b
    exact (Pc_if (fun _ => (Pc_gd (fun g1 => (Pc_jnS (P := Frm WS WI WJ b) (fun _ F3 => (Pc_vl (ih _ _ F3))) (fun _ hk2 => (Pc_if (fun _ => (Pc_bd (Pc.mono (v_X11_given S mI_28 mI_29 F1) (fun _ F4 => (Pc_b1 (Pc.mono (v_X2_liftTakes S mI_13 mI_14 mS_6_10 F4) (fun _ F5 => (hk2 _ F5)))))))) (fun _ => (hk2 _ F1)))))))) (fun _ => (hq0 _ F1)))
theorem v_X11_capsule {WS : List (Nat × Nat)} {WI WJ : List Nat} {b : SS} {s0 : SS} {a0 : Int32} (S : Sh b) (mI_13 : WI.contains 13 = true) (mI_14 : WI.contains 14 = true) (mI_28 : WI.contains 28 = true) (mI_29 : WI.contains 29 = true) (mS_6_10 : WS.contains (6, 10) = true) (mS_6_11 : WS.contains (6, 11) = true) (mS_6_12 : WS.contains (6, 12) = true) (F0 : Frm WS WI WJ b s0) : Pc (f_X11_capsule s0 a0) (fun r => Frm WS WI WJ b r.2) := by
  unfold f_X11_capsule
  exact (Pc_b1x (fun _ => (Pc_on (fun _ => (Pc_b1x (fun _ => (Pc_some2 F0)))) (fun _ hp1 => (Pc_b1x (fun _ => (Pc_jn0 (Pc_if (fun _ => (Pc_some2 F0)) (fun _ => (Pc_if (fun _ => (Pc_some2 F0)) (fun _ => (Pc_b1 (Pc.mono (v_X2_liftBegins S mS_6_10 mS_6_11 mS_6_12 F0) (fun _ F3 => (Pc_b1x (fun _ => (v_X11_capsule_L93 S mI_13 mI_14 mI_28 mI_29 mS_6_10 (fun _ F4 => by exact (Pc_b1x (fun _ => (Pc_some2 F4)))) _ _ _ F3)))))))))) (fun _ hk2 => (Pc_if (fun _ => hk2) (fun _ => (Pc_if (fun _ => hk2) (fun _ => (Pc_some2 F0)))))))))))))
theorem v_X2_raisedWithin_L4 {WS : List (Nat × Nat)} {WI WJ : List Nat} {b : SS} {y1 : Int32} {Q : Int32 × SS → Prop} (S : Sh b) (mI_10 : WI.contains 10 = true) (mS_6_4 : WS.contains (6, 4) = true) (hr : ∀ v s, Frm WS WI WJ b s → Q (v, s)) : ∀ (n : Nat) (s : SS) (x2 : Int32) (x3 : Int32), Frm WS WI WJ b s → Pc (f_X2_raisedWithin_L4 y1 n s x2 x3) Q := by
  intro n
  induction n with
  | zero => intro s x2 x3 F1; exact Pc_none
  | succ n ih =>
    intro s x2 x3 F1
    show Pc (f_X2_raisedWithin_L4_b y1 (f_X2_raisedWithin_L4 y1 n) s x2 x3) Q
    unfold f_X2_raisedWithin_L4_b
    exact (Pc_if (fun _ => (Pc_if (fun _ => (Pc_some (hr _ _ F1))) (fun _ => (Pc_gd (fun g1 => (Pc_vl (Pc_jnS1 (P := Frm WS WI WJ b) (fun _ _ F3 => (Pc_vl (ih _ _ _ F3))) (fun _ hk2 => (Pc_if (fun _ => (hk2 _ _ F1)) (fun _ => (Pc_if (fun _ => (Pc_gd (fun g4 => (Pc_if (fun _ => (Pc_gd (fun g5 => (Pc_st (Pc_vl (Pc_st (Pc_vl (hk2 _ _ (Frm.pS (Frm.pI F1 mI_10) mS_6_4))))))))) (fun _ => (hk2 _ _ F1)))))) (fun _ => (hk2 _ _ F1))))))))))))) (fun _ => (Pc_some (hr _ _ F1))))
theorem v_X2_raisedWithin {WS : List (Nat × Nat)} {WI WJ : List Nat} {b : SS} {s0 : SS} {a0 : Int32} (S : Sh b) (mI_10 : WI.contains 10 = true) (mS_6_4 : WS.contains (6, 4) = true) (F0 : Frm WS WI WJ b s0) : Pc (f_X2_raisedWithin s0 a0) (fun r => Frm WS WI WJ b r.2) := by
  unfold f_X2_raisedWithin
  exact (v_X2_raisedWithin_L4 S mI_10 mS_6_4 (fun _ _ h => h) _ _ _ _ F0)
theorem v_X11_raise {WS : List (Nat × Nat)} {WI WJ : List Nat} {b : SS} {s0 : SS} {a0 : Int32} (S : Sh b) (mI_10 : WI.contains 10 = true) (mS_6_4 : WS.contains (6, 4) = true) (F0 : Frm WS WI WJ b s0) : Pc (f_X11_raise s0 a0) (fun r => Frm WS WI WJ b r.2) := by
  unfold f_X11_raise
  exact (Pc_if (fun _ => (Pc_some2 F0)) (fun _ => (Pc_if (fun _ => (Pc_some2 F0)) (fun _ => (Pc_if (fun _ => (Pc_some2 F0)) (fun _ => (Pc_bd (Pc.mono (v_X2_raisedWithin S mI_10 mS_6_4 F0) (fun _ F1 => (Pc_some2 F1))))))))))
theorem v_X0_runs {WS : List (Nat × Nat)} {WI WJ : List Nat} {b : SS} {s0 : SS} {a0 : Int32} (S : Sh b) (mI_18 : WI.contains 18 = true) (mS_15_11 : WS.contains (15, 11) = true) (F0 : Frm WS WI WJ b s0) : Pc (f_X0_runs s0 a0) (fun r => Frm WS WI WJ b r) := by
  unfold f_X0_runs
  exact (Pc_jnS (P := Frm WS WI WJ b) (fun _ F2 => (Pc_vl (Pc_st (Pc_some (Frm.pS F2 mS_15_11))))) (fun _ hk1 => (Pc_if (fun _ => (Pc_vl (Pc_gd (fun g3 => (Pc_st (hk1 _ (Frm.pI F0 mI_18))))))) (fun _ => (hk1 _ F0)))))
theorem v_X0_boresFrom {WS : List (Nat × Nat)} {WI WJ : List Nat} {b : SS} (S : Sh b) (mI_18 : WI.contains 18 = true) (mS_15_11 : WS.contains (15, 11) = true) : ∀ (n : Nat) (s0 : SS) (a0 : Int32) (a1 : Int32) (a2 : Int32) (a3 : Int32), Frm WS WI WJ b s0 → Pc (f_X0_boresFrom n s0 a0 a1 a2 a3) (fun r => Frm WS WI WJ b r.2) := by
  intro n
  induction n with
  | zero => intro s0 a0 a1 a2 a3 F1; exact Pc_none
  | succ n ih =>
    intro s0 a0 a1 a2 a3 F1
    show Pc (f_X0_boresFrom_r (f_X0_boresFrom n) s0 a0 a1 a2 a3) _
    unfold f_X0_boresFrom_r
    exact (Pc_if (fun _ => (Pc_some2 F1)) (fun _ => (Pc_jn0 (Pc_b1 (Pc.mono (v_X0_runs S mI_18 mS_15_11 F1) (fun _ F2 => (Pc_bd (Pc.mono (ih _ _ _ _ _  F2) (fun _ F3 => (Pc_some2 F3))))))) (fun _ hk1 => (Pc_if (fun _ => hk1) (fun _ => (Pc_if (fun _ => hk1) (fun _ => (Pc_if (fun _ => hk1) (fun _ => (Pc_if (fun _ => (Pc_b1 (Pc.mono (v_X0_runs S mI_18 mS_15_11 F1) (fun _ F4 => (Pc_bd (Pc.mono (ih _ _ _ _ _  F4) (fun _ F5 => (Pc_some2 F5)))))))) (fun _ => (Pc_if (fun _ => (Pc_b1 (Pc.mono (v_X0_runs S mI_18 mS_15_11 F1) (fun _ F6 => (Pc_bd (Pc.mono (ih _ _ _ _ _  F6) (fun _ F7 => (Pc_some2 F7)))))))) (fun _ => (Pc_if (fun _ => hk1) (fun _ => (Pc_b1 (Pc.mono (v_X0_runs S mI_18 mS_15_11 F1) (fun _ F8 => (Pc_some2 F8))))))))))))))))))))
theorem v_X0_carriesFrom {WS : List (Nat × Nat)} {WI WJ : List Nat} {b : SS} (S : Sh b) (mI_18 : WI.contains 18 = true) (mS_15_11 : WS.contains (15, 11) = true) : ∀ (n : Nat) (s0 : SS) (a0 : Int32) (a1 : Int32) (a2 : Int32) (a3 : Int32), Frm WS WI WJ b s0 → Pc (f_X0_carriesFrom n s0 a0 a1 a2 a3) (fun r => Frm WS WI WJ b r.2) := by
  intro n
  induction n with
  | zero => intro s0 a0 a1 a2 a3 F1; exact Pc_none
  | succ n ih =>
    intro s0 a0 a1 a2 a3 F1
    show Pc (f_X0_carriesFrom_r (f_X0_carriesFrom n) s0 a0 a1 a2 a3) _
    unfold f_X0_carriesFrom_r
    exact (Pc_if (fun _ => (Pc_some2 F1)) (fun _ => (Pc_jn0 (Pc_b1 (Pc.mono (v_X0_runs S mI_18 mS_15_11 F1) (fun _ F2 => (Pc_bd (Pc.mono (ih _ _ _ _ _  F2) (fun _ F3 => (Pc_b1x (fun _ => (Pc_some2 F3))))))))) (fun _ hk1 => (Pc_jn0 (Pc_b1 (Pc.mono (v_X0_runs S mI_18 mS_15_11 F1) (fun _ F5 => (Pc_b1x (fun _ => (Pc_bd (Pc.mono (v_X0_boresFrom S mI_18 mS_15_11 _ _ _ _ _ _  F5) (fun _ F6 => (Pc_some2 F6))))))))) (fun _ hk4 => (Pc_if (fun _ => hk1) (fun _ => (Pc_if (fun _ => hk1) (fun _ => (Pc_if (fun _ => hk1) (fun _ => (Pc_if (fun _ => hk1) (fun _ => (Pc_if (fun _ => hk4) (fun _ => (Pc_if (fun _ => (Pc_b1 (Pc.mono (v_X0_runs S mI_18 mS_15_11 F1) (fun _ F7 => (Pc_bd (Pc.mono (ih _ _ _ _ _  F7) (fun _ F8 => (Pc_b1x (fun _ => (Pc_some2 F8)))))))))) (fun _ => hk4))))))))))))))))))
theorem v_X0_holdsFrom {WS : List (Nat × Nat)} {WI WJ : List Nat} {b : SS} (S : Sh b) (mI_18 : WI.contains 18 = true) (mS_15_11 : WS.contains (15, 11) = true) : ∀ (n : Nat) (s0 : SS) (a0 : Int32) (a1 : Int32) (a2 : Int32) (a3 : Int32), Frm WS WI WJ b s0 → Pc (f_X0_holdsFrom n s0 a0 a1 a2 a3) (fun r => Frm WS WI WJ b r.2) := by
  intro n
  induction n with
  | zero => intro s0 a0 a1 a2 a3 F1; exact Pc_none
  | succ n ih =>
    intro s0 a0 a1 a2 a3 F1
    show Pc (f_X0_holdsFrom_r (f_X0_holdsFrom n) s0 a0 a1 a2 a3) _
    unfold f_X0_holdsFrom_r
    exact (Pc_if (fun _ => (Pc_some2 F1)) (fun _ => (Pc_jn0 (Pc_b1 (Pc.mono (v_X0_runs S mI_18 mS_15_11 F1) (fun _ F2 => (Pc_some2 F2)))) (fun _ hk1 => (Pc_if (fun _ => (Pc_b1 (Pc.mono (v_X0_runs S mI_18 mS_15_11 F1) (fun _ F3 => (Pc_bd (Pc.mono (ih _ _ _ _ _  F3) (fun _ F4 => (Pc_b1x (fun _ => (Pc_bd (Pc.mono (v_X0_carriesFrom S mI_18 mS_15_11 _ _ _ _ _ _  F4) (fun _ F5 => (Pc_some2 F5))))))))))))) (fun _ => (Pc_if (fun _ => hk1) (fun _ => (Pc_if (fun _ => (Pc_b1 (Pc.mono (v_X0_runs S mI_18 mS_15_11 F1) (fun _ F6 => (Pc_bd (Pc.mono (ih _ _ _ _ _  F6) (fun _ F7 => (Pc_some2 F7)))))))) (fun _ => (Pc_if (fun _ => (Pc_b1 (Pc.mono (v_X0_runs S mI_18 mS_15_11 F1) (fun _ F8 => (Pc_bd (Pc.mono (ih _ _ _ _ _  F8) (fun _ F9 => (Pc_bd (Pc.mono (v_X0_carriesFrom S mI_18 mS_15_11 _ _ _ _ _ _  F9) (fun _ F10 => (Pc_some2 F10))))))))))) (fun _ => hk1))))))))))))
theorem v_X0_tellsFrom {WS : List (Nat × Nat)} {WI WJ : List Nat} {b : SS} (S : Sh b) (mI_18 : WI.contains 18 = true) (mS_15_11 : WS.contains (15, 11) = true) : ∀ (n : Nat) (s0 : SS) (a0 : Int32) (a1 : Int32) (a2 : Int32) (a3 : Int32), Frm WS WI WJ b s0 → Pc (f_X0_tellsFrom n s0 a0 a1 a2 a3) (fun r => Frm WS WI WJ b r.2) := by
  intro n
  induction n with
  | zero => intro s0 a0 a1 a2 a3 F1; exact Pc_none
  | succ n ih =>
    intro s0 a0 a1 a2 a3 F1
    show Pc (f_X0_tellsFrom_r (f_X0_tellsFrom n) s0 a0 a1 a2 a3) _
    unfold f_X0_tellsFrom_r
    exact (Pc_if (fun _ => (Pc_some2 F1)) (fun _ => (Pc_jn0 (Pc_b1 (Pc.mono (v_X0_runs S mI_18 mS_15_11 F1) (fun _ F2 => (Pc_bd (Pc.mono (ih _ _ _ _ _  F2) (fun _ F3 => (Pc_some2 F3))))))) (fun _ hk1 => (Pc_if (fun _ => hk1) (fun _ => (Pc_if (fun _ => hk1) (fun _ => (Pc_b1 (Pc.mono (v_X0_runs S mI_18 mS_15_11 F1) (fun _ F4 => (Pc_b1x (fun _ => (Pc_bd (Pc.mono (v_X0_carriesFrom S mI_18 mS_15_11 _ _ _ _ _ _  F4) (fun _ F5 => (Pc_b1x (fun _ => (Pc_bd (Pc.mono (v_X0_holdsFrom S mI_18 mS_15_11 _ _ _ _ _ _  F5) (fun _ F6 => (Pc_some2 F6))))))))))))))))))))))
theorem v_X0_acted {WS : List (Nat × Nat)} {WI WJ : List Nat} {b : SS} {s0 : SS} {a0 : Int32} {a1 : Int32} {a2 : Int32} (S : Sh b) (mI_18 : WI.contains 18 = true) (mS_15_11 : WS.contains (15, 11) = true) (F0 : Frm WS WI WJ b s0) : Pc (f_X0_acted s0 a0 a1 a2) (fun r => Frm WS WI WJ b r.2) := by
  unfold f_X0_acted
  exact (Pc_st (Pc_b1x (fun _ => (Pc_if (fun _ => (Pc_some2 (Frm.pS F0 mS_15_11))) (fun _ => (Pc_if (fun _ => (Pc_bd (Pc.mono (v_X0_boresFrom S mI_18 mS_15_11 _ _ _ _ _ _  (Frm.pS F0 mS_15_11)) (fun _ F1 => (Pc_some2 F1))))) (fun _ => (Pc_if (fun _ => (Pc_bd (Pc.mono (v_X0_carriesFrom S mI_18 mS_15_11 _ _ _ _ _ _  (Frm.pS F0 mS_15_11)) (fun _ F2 => (Pc_some2 F2))))) (fun _ => (Pc_if (fun _ => (Pc_bd (Pc.mono (v_X0_holdsFrom S mI_18 mS_15_11 _ _ _ _ _ _  (Frm.pS F0 mS_15_11)) (fun _ F3 => (Pc_some2 F3))))) (fun _ => (Pc_if (fun _ => (Pc_bd (Pc.mono (v_X0_tellsFrom S mI_18 mS_15_11 _ _ _ _ _ _  (Frm.pS F0 mS_15_11)) (fun _ F4 => (Pc_some2 F4))))) (fun _ => (Pc_some2 (Frm.pS F0 mS_15_11)))))))))))))))
theorem v_X11_act {WS : List (Nat × Nat)} {WI WJ : List Nat} {b : SS} {s0 : SS} {a0 : Int32} {a1 : Int32} {a2 : Int32} (S : Sh b) (mI_18 : WI.contains 18 = true) (mS_15_11 : WS.contains (15, 11) = true) (F0 : Frm WS WI WJ b s0) : Pc (f_X11_act s0 a0 a1 a2) (fun r => Frm WS WI WJ b r.2) := by
  unfold f_X11_act
  exact (Pc_bd (Pc.mono (v_X0_acted S mI_18 mS_15_11 F0) (fun _ F1 => (Pc_some2 F1))))
theorem v_X11_keep {WS : List (Nat × Nat)} {WI WJ : List Nat} {b : SS} {s0 : SS} {a0 : Int32} {a1 : Int32} (S : Sh b) (mV_0 : ∀ p, p = 47 ∨ p = 49 ∨ p = 51 ∨ p = 53 ∨ p = 55 ∨ p = 57 → WS.contains (p, 0) = true) (mV_1 : ∀ p, p = 47 ∨ p = 49 ∨ p = 51 ∨ p = 53 ∨ p = 55 ∨ p = 57 → WS.contains (p, 1) = true) (F0 : Frm WS WI WJ b s0) : Pc (f_X11_keep s0 a0 a1) (fun r => Frm WS WI WJ b r.2) := by
  unfold f_X11_keep
  exact (Pc_b1 (Pc.mono (v_X11_shelfOf S F0) (fun _ hr1 => (Pc_on (fun _ => (Pc_some2 F0)) (fun _ hp2 => (Pc_jn0 (Pc_jn1 (fun _ => (Pc_st (Pc_st (Pc_some2 (Frm.pS (Frm.pS F0 (mV_0 _ (hr1 _ hp2))) (mV_1 _ (hr1 _ hp2))))))) (fun _ hk4 => (Pc_if (fun _ => (hk4 _)) (fun _ => (hk4 _))))) (fun _ hk3 => (Pc_if (fun _ => hk3) (fun _ => (Pc_b1x (fun _ => (Pc_if (fun _ => (Pc_some2 F0)) (fun _ => hk3)))))))))))))
theorem v_X8_becomesRow {WS : List (Nat × Nat)} {WI WJ : List Nat} {b : SS} {s0 : SS} {pt : Nat} {a0 : Int32} {a1 : Int32} (S : Sh b) (mV_0 : ∀ p, p = 47 ∨ p = 49 ∨ p = 51 ∨ p = 53 ∨ p = 55 ∨ p = 57 → WS.contains (p, 0) = true) (mV_2 : ∀ p, p = 47 ∨ p = 49 ∨ p = 51 ∨ p = 53 ∨ p = 55 ∨ p = 57 → WS.contains (p, 2) = true) (mV_3 : ∀ p, p = 47 ∨ p = 49 ∨ p = 51 ∨ p = 53 ∨ p = 55 ∨ p = 57 → WS.contains (p, 3) = true) (mW : ∀ p, p = 47 ∨ p = 49 ∨ p = 51 ∨ p = 53 ∨ p = 55 ∨ p = 57 → WJ.contains (p + 1) = true) (hpt : pt = 47 ∨ pt = 49 ∨ pt = 51 ∨ pt = 53 ∨ pt = 55 ∨ pt = 57) (F0 : Frm WS WI WJ b s0) : Pc (f_X8_becomesRow s0 pt a0 a1) (fun r => Frm WS WI WJ b r) := by
  unfold f_X8_becomesRow
  exact (Pc_st (Pc_st (Pc_st (Pc_st (Pc_some (Frm.pG (Frm.pS (Frm.pS (Frm.pS F0 (mV_0 _ hpt)) (mV_2 _ hpt)) (mV_3 _ hpt)) (mW _ hpt)))))))
theorem v_X11_row {WS : List (Nat × Nat)} {WI WJ : List Nat} {b : SS} {s0 : SS} {a0 : Int32} {a1 : Int32} {a2 : Int32} (S : Sh b) (mV_0 : ∀ p, p = 47 ∨ p = 49 ∨ p = 51 ∨ p = 53 ∨ p = 55 ∨ p = 57 → WS.contains (p, 0) = true) (mV_2 : ∀ p, p = 47 ∨ p = 49 ∨ p = 51 ∨ p = 53 ∨ p = 55 ∨ p = 57 → WS.contains (p, 2) = true) (mV_3 : ∀ p, p = 47 ∨ p = 49 ∨ p = 51 ∨ p = 53 ∨ p = 55 ∨ p = 57 → WS.contains (p, 3) = true) (mW : ∀ p, p = 47 ∨ p = 49 ∨ p = 51 ∨ p = 53 ∨ p = 55 ∨ p = 57 → WJ.contains (p + 1) = true) (F0 : Frm WS WI WJ b s0) : Pc (f_X11_row s0 a0 a1 a2) (fun r => Frm WS WI WJ b r.2) := by
  unfold f_X11_row
  exact (Pc_b1 (Pc.mono (v_X11_shelfOf S F0) (fun _ hr1 => (Pc_on (fun _ => (Pc_some2 F0)) (fun _ hp2 => (Pc_if (fun _ => (Pc_some2 F0)) (fun _ => (Pc_if (fun _ => (Pc_some2 F0)) (fun _ => (Pc_if (fun _ => (Pc_some2 F0)) (fun _ => (Pc_if (fun _ => (Pc_some2 F0)) (fun _ => (Pc_b1 (Pc.mono (v_X8_becomesRow S mV_0 mV_2 mV_3 mW (hr1 _ hp2) F0) (fun _ F3 => (Pc_some2 F3)))))))))))))))))
theorem v_X11_put {WS : List (Nat × Nat)} {WI WJ : List Nat} {b : SS} {s0 : SS} {a0 : Int32} {a1 : Int32} {a2 : Int64} (S : Sh b) (mW : ∀ p, p = 47 ∨ p = 49 ∨ p = 51 ∨ p = 53 ∨ p = 55 ∨ p = 57 → WJ.contains (p + 1) = true) (F0 : Frm WS WI WJ b s0) : Pc (f_X11_put s0 a0 a1 a2) (fun r => Frm WS WI WJ b r.2) := by
  unfold f_X11_put
  exact (Pc_b1 (Pc.mono (v_X11_shelfOf S F0) (fun _ hr1 => (Pc_on (fun _ => (Pc_some2 F0)) (fun _ hp2 => (Pc_b1x (fun _ => (Pc_jn0 (Pc_b1x (fun _ => (Pc_jnS (P := Frm WS WI WJ b) (fun _ F5 => (Pc_if (fun _ => (Pc_some2 F5)) (fun _ => (Pc_some2 F5)))) (fun _ hk4 => (Pc_if (fun _ => (Pc_b1x (fun _ => (Pc_gd (fun g6 => (Pc_st (hk4 _ (Frm.pJ F0 (mW _ (hr1 _ hp2)))))))))) (fun _ => (hk4 _ F0))))))) (fun _ hk3 => (Pc_if (fun _ => hk3) (fun _ => (Pc_if (fun _ => (Pc_some2 F0)) (fun _ => (Pc_if (fun _ => (Pc_some2 F0)) (fun _ => hk3)))))))))))))))
theorem v_X11_blank {WS : List (Nat × Nat)} {WI WJ : List Nat} {b : SS} {s0 : SS} {a0 : Int32} {a1 : Int32} (S : Sh b) (mW : ∀ p, p = 47 ∨ p = 49 ∨ p = 51 ∨ p = 53 ∨ p = 55 ∨ p = 57 → WJ.contains (p + 1) = true) (F0 : Frm WS WI WJ b s0) : Pc (f_X11_blank s0 a0 a1) (fun r => Frm WS WI WJ b r.2) := by
  unfold f_X11_blank
  exact (Pc_b1 (Pc.mono (v_X11_shelfOf S F0) (fun _ hr1 => (Pc_on (fun _ => (Pc_some2 F0)) (fun _ hp2 => (Pc_jn0 (Pc_b1x (fun _ => (Pc_jnS (P := Frm WS WI WJ b) (fun _ F5 => (Pc_if (fun _ => (Pc_some2 F5)) (fun _ => (Pc_some2 F5)))) (fun _ hk4 => (Pc_if (fun _ => (Pc_gd (fun g6 => (Pc_st (hk4 _ (Frm.pJ F0 (mW _ (hr1 _ hp2)))))))) (fun _ => (hk4 _ F0))))))) (fun _ hk3 => (Pc_if (fun _ => (Pc_b1x (fun _ => (Pc_if (fun _ => (Pc_some2 F0)) (fun _ => hk3))))) (fun _ => hk3)))))))))
theorem v_X11_shift {WS : List (Nat × Nat)} {WI WJ : List Nat} {b : SS} {s0 : SS} {a0 : Int32} {a1 : Int32} {a2 : Int32} {a3 : Int32} {a4 : Int32} (S : Sh b) (mW : ∀ p, p = 47 ∨ p = 49 ∨ p = 51 ∨ p = 53 ∨ p = 55 ∨ p = 57 → WJ.contains (p + 1) = true) (F0 : Frm WS WI WJ b s0) : Pc (f_X11_shift s0 a0 a1 a2 a3 a4) (fun r => Frm WS WI WJ b r.2) := by
  unfold f_X11_shift
  exact (Pc_b1 (Pc.mono (v_X11_shelfOf S F0) (fun _ hr1 => (Pc_on (fun _ => (Pc_b1 (Pc.mono (v_X11_shelfOf S F0) (fun _ hr3 => (Pc_on (fun _ => (Pc_some2 F0)) (fun _ hp4 => (Pc_some2 F0))))))) (fun _ hp2 => (Pc_b1 (Pc.mono (v_X11_shelfOf S F0) (fun _ hr5 => (Pc_on (fun _ => (Pc_some2 F0)) (fun _ hp6 => (Pc_if (fun _ => (Pc_some2 F0)) (fun _ => (Pc_if (fun _ => (Pc_some2 F0)) (fun _ => (Pc_if (fun _ => (Pc_if (fun _ => (Pc_if (fun _ => (Pc_b1x (fun _ => (Pc_if (fun _ => (Pc_some2 F0)) (fun _ => (Pc_b1x (fun _ => (Pc_if (fun _ => (Pc_some2 F0)) (fun _ => (Pc_gd (fun g7 => (Pc_st (Pc_some2 (Frm.pK F0 (mW _ (hr5 _ hp6)))))))))))))))) (fun _ => (Pc_some2 F0)))) (fun _ => (Pc_some2 F0)))) (fun _ => (Pc_some2 F0)))))))))))))))))
theorem v_X11_says {WS : List (Nat × Nat)} {WI WJ : List Nat} {b : SS} {s0 : SS} {a0 : Int32} {a1 : Int32} (S : Sh b) (mI_28 : WI.contains 28 = true) (mI_29 : WI.contains 29 = true) (F0 : Frm WS WI WJ b s0) : Pc (f_X11_says s0 a0 a1) (fun r => Frm WS WI WJ b r.2) := by
  unfold f_X11_says
  exact (Pc_b1x (fun _ => (Pc_if (fun _ => (Pc_some2 F0)) (fun _ => (Pc_vl (Pc_jn0 (Pc_b1x (fun _ => (Pc_bd (Pc.mono (v_X11_given S mI_28 mI_29 F0) (fun _ F2 => (Pc_some2 F2)))))) (fun _ hk1 => (Pc_if (fun _ => (Pc_if (fun _ => hk1) (fun _ => (Pc_some2 F0)))) (fun _ => (Pc_b1x (fun _ => (Pc_if (fun _ => hk1) (fun _ => (Pc_some2 F0))))))))))))))
theorem v_X12_hard {WS : List (Nat × Nat)} {WI WJ : List Nat} {b : SS} {s0 : SS} {a0 : Int32} {a1 : Int32} (mI_60 : WI.contains 60 = true) (F0 : Frm WS WI WJ b s0) : Pc (f_X12_hard s0 a0 a1) (fun r => Frm WS WI WJ b r.2) := by
  unfold f_X12_hard
  exact (Pc_b1x (fun _ => (Pc_if (fun _ => (Pc_some2 F0)) (fun _ => (Pc_b1x (fun _ => (Pc_if (fun _ => (Pc_some2 F0)) (fun _ => (Pc_b1x (fun _ => (Pc_gd (fun g1 => (Pc_vl (Pc_b1x (fun _ => (Pc_vl (Pc_gd (fun g2 => (Pc_st (Pc_some2 (Frm.pI F0 mI_60)))))))))))))))))))))
theorem v_X12_open {WS : List (Nat × Nat)} {WI WJ : List Nat} {b : SS} {s0 : SS} {a0 : Int32} {a1 : Int32} (mI_61 : WI.contains 61 = true) (F0 : Frm WS WI WJ b s0) : Pc (f_X12_open s0 a0 a1) (fun r => Frm WS WI WJ b r.2) := by
  unfold f_X12_open
  exact (Pc_b1x (fun _ => (Pc_if (fun _ => (Pc_some2 F0)) (fun _ => (Pc_b1x (fun _ => (Pc_if (fun _ => (Pc_some2 F0)) (fun _ => (Pc_b1x (fun _ => (Pc_gd (fun g1 => (Pc_jn1 (fun _ => (Pc_b1x (fun _ => (Pc_jn1 (fun _ => (Pc_gd (fun g4 => (Pc_st (Pc_some2 (Frm.pI F0 mI_61)))))) (fun _ hk3 => (Pc_if (fun _ => (hk3 _)) (fun _ => (hk3 _)))))))) (fun _ hk2 => (Pc_if (fun _ => (hk2 _)) (fun _ => (hk2 _)))))))))))))))))
theorem v_X12_add {WS : List (Nat × Nat)} {WI WJ : List Nat} {b : SS} {s0 : SS} {a0 : Int32} (mI_62 : WI.contains 62 = true) (mS_59_4 : WS.contains (59, 4) = true) (F0 : Frm WS WI WJ b s0) : Pc (f_X12_add s0 a0) (fun r => Frm WS WI WJ b r.2) := by
  unfold f_X12_add
  exact (Pc_vl (Pc_gd (fun g1 => (Pc_st (Pc_vl (Pc_st (Pc_some2 (Frm.pS (Frm.pI F0 mI_62) mS_59_4))))))))
theorem v_X12_body {WS : List (Nat × Nat)} {WI WJ : List Nat} {b : SS} {s0 : SS} {a0 : Int32} (mI_62 : WI.contains 62 = true) (mS_59_4 : WS.contains (59, 4) = true) (F0 : Frm WS WI WJ b s0) : Pc (f_X12_body s0 a0) (fun r => Frm WS WI WJ b r.2) := by
  unfold f_X12_body
  exact (Pc_b1x (fun _ => (Pc_if (fun _ => (Pc_some2 F0)) (fun _ => (Pc_if (fun _ => (Pc_some2 F0)) (fun _ => (Pc_bd (Pc.mono (v_X12_add mI_62 mS_59_4 F0) (fun _ F1 => (Pc_some2 F1))))))))))
theorem v_X12_hole {WS : List (Nat × Nat)} {WI WJ : List Nat} {b : SS} {s0 : SS} {a0 : Int32} {a1 : Int32} (mI_62 : WI.contains 62 = true) (mI_63 : WI.contains 63 = true) (mI_64 : WI.contains 64 = true) (mI_65 : WI.contains 65 = true) (mS_59_4 : WS.contains (59, 4) = true) (F0 : Frm WS WI WJ b s0) : Pc (f_X12_hole s0 a0 a1) (fun r => Frm WS WI WJ b r.2) := by
  unfold f_X12_hole
  exact (Pc_b1x (fun _ => (Pc_if (fun _ => (Pc_some2 F0)) (fun _ => (Pc_if (fun _ => (Pc_some2 F0)) (fun _ => (Pc_if (fun _ => (Pc_if (fun _ => (Pc_some2 F0)) (fun _ => (Pc_if (fun _ => (Pc_some2 F0)) (fun _ => (Pc_bd (Pc.mono (v_X12_add mI_62 mS_59_4 F0) (fun _ F1 => (Pc_vl (Pc_gd (fun g2 => (Pc_st (Pc_vl (Pc_gd (fun g3 => (Pc_st (Pc_vl (Pc_gd (fun g4 => (Pc_st (Pc_some2 (Frm.pI (Frm.pI (Frm.pI F1 mI_63) mI_65) mI_64)))))))))))))))))))))) (fun _ => (Pc_some2 F0)))))))))
theorem v_X12_shelter {WS : List (Nat × Nat)} {WI WJ : List Nat} {b : SS} {s0 : SS} {a0 : Int32} {a1 : Int32} (mI_62 : WI.contains 62 = true) (mS_59_4 : WS.contains (59, 4) = true) (mS_59_21 : WS.contains (59, 21) = true) (mS_59_22 : WS.contains (59, 22) = true) (mS_59_23 : WS.contains (59, 23) = true) (mS_59_24 : WS.contains (59, 24) = true) (F0 : Frm WS WI WJ b s0) : Pc (f_X12_shelter s0 a0 a1) (fun r => Frm WS WI WJ b r.2) := by
  unfold f_X12_shelter
  exact (Pc_b1x (fun _ => (Pc_if (fun _ => (Pc_some2 F0)) (fun _ => (Pc_b1x (fun _ => (Pc_if (fun _ => (Pc_some2 F0)) (fun _ => (Pc_if (fun _ => (Pc_if (fun _ => (Pc_some2 F0)) (fun _ => (Pc_bd (Pc.mono (v_X12_add mI_62 mS_59_4 F0) (fun _ F1 => (Pc_st (Pc_vl (Pc_st (Pc_vl (Pc_st (Pc_st (Pc_some2 (Frm.pS (Frm.pS (Frm.pS (Frm.pS F1 mS_59_21) mS_59_22) mS_59_23) mS_59_24)))))))))))))) (fun _ => (Pc_some2 F0)))))))))))
theorem v_X12_man {WS : List (Nat × Nat)} {WI WJ : List Nat} {b : SS} {s0 : SS} {a0 : Int32} {a1 : Int32} (mI_62 : WI.contains 62 = true) (mI_74 : WI.contains 74 = true) (mI_75 : WI.contains 75 = true) (mI_76 : WI.contains 76 = true) (mI_77 : WI.contains 77 = true) (mS_59_4 : WS.contains (59, 4) = true) (F0 : Frm WS WI WJ b s0) : Pc (f_X12_man s0 a0 a1) (fun r => Frm WS WI WJ b r.2) := by
  unfold f_X12_man
  exact (Pc_b1x (fun _ => (Pc_if (fun _ => (Pc_some2 F0)) (fun _ => (Pc_b1x (fun _ => (Pc_if (fun _ => (Pc_some2 F0)) (fun _ => (Pc_if (fun _ => (Pc_some2 F0)) (fun _ => (Pc_bd (Pc.mono (v_X12_add mI_62 mS_59_4 F0) (fun _ F1 => (Pc_gd (fun g2 => (Pc_st (Pc_vl (Pc_gd (fun g3 => (Pc_st (Pc_vl (Pc_gd (fun g4 => (Pc_st (Pc_gd (fun g5 => (Pc_st (Pc_some2 (Frm.pI (Frm.pI (Frm.pI (Frm.pI F1 mI_74) mI_75) mI_76) mI_77)))))))))))))))))))))))))))))
theorem v_X12_ill {WS : List (Nat × Nat)} {WI WJ : List Nat} {b : SS} {s0 : SS} {a0 : Int32} {a1 : Int32} (mI_76 : WI.contains 76 = true) (F0 : Frm WS WI WJ b s0) : Pc (f_X12_ill s0 a0 a1) (fun r => Frm WS WI WJ b r.2) := by
  unfold f_X12_ill
  exact (Pc_b1x (fun _ => (Pc_if (fun _ => (Pc_some2 F0)) (fun _ => (Pc_b1x (fun _ => (Pc_if (fun _ => (Pc_some2 F0)) (fun _ => (Pc_gd (fun g1 => (Pc_vl (Pc_gd (fun g2 => (Pc_st (Pc_some2 (Frm.pI F0 mI_76))))))))))))))))
theorem v_X12_speed {WS : List (Nat × Nat)} {WI WJ : List Nat} {b : SS} {s0 : SS} {a0 : Int32} {a1 : Int32} (mI_78 : WI.contains 78 = true) (F0 : Frm WS WI WJ b s0) : Pc (f_X12_speed s0 a0 a1) (fun r => Frm WS WI WJ b r.2) := by
  unfold f_X12_speed
  exact (Pc_b1x (fun _ => (Pc_if (fun _ => (Pc_some2 F0)) (fun _ => (Pc_b1x (fun _ => (Pc_if (fun _ => (Pc_some2 F0)) (fun _ => (Pc_gd (fun g1 => (Pc_vl (Pc_gd (fun g2 => (Pc_st (Pc_some2 (Frm.pI F0 mI_78))))))))))))))))
theorem v_X12_set_L26 {WS : List (Nat × Nat)} {WI WJ : List Nat} {b : SS} {q0 : Option (Int32 × SS)} {sb : SS} {y1 : Int32} {y2 : Int32} {Q : Int32 × SS → Prop} (F0 : Frm WS WI WJ b sb) (hr : ∀ v s, Frm WS WI WJ b s → Q (v, s)) (hq0 :  Pc (q0) Q) : ∀ (n : Nat) (x3 : Int32), Pc (f_X12_set_L26 q0 sb y1 y2 n x3) Q := by
  intro n
  induction n with
  | zero => intro x3; exact Pc_none
  | succ n ih =>
    intro x3
    show Pc (f_X12_set_L26_b q0 sb y1 y2 (f_X12_set_L26 q0 sb y1 y2 n) x3) Q
    unfold f_X12_set_L26_b
    exact (Pc_if (fun _ => (Pc_jn0 (Pc_vl (ih _)) (fun _ hk1 => (Pc_if (fun _ => hk1) (fun _ => (Pc_if (fun _ => hk1) (fun _ => (Pc_gd (fun g2 => (Pc_if (fun _ => (Pc_some (hr _ _ F0))) (fun _ => hk1))))))))))) (fun _ => hq0))
theorem v_X12_set {WS : List (Nat × Nat)} {WI WJ : List Nat} {b : SS} {s0 : SS} {a0 : Int32} {a1 : Int32} (mI_79 : WI.contains 79 = true) (F0 : Frm WS WI WJ b s0) : Pc (f_X12_set s0 a0 a1) (fun r => Frm WS WI WJ b r.2) := by
  unfold f_X12_set
  exact (Pc_b1x (fun _ => (Pc_if (fun _ => (Pc_some2 F0)) (fun _ => (Pc_jn0 (v_X12_set_L26 F0 (fun _ _ h => h) (Pc_gd (fun g2 => (Pc_vl (Pc_gd (fun g3 => (Pc_st (Pc_some2 (Frm.pI F0 mI_79)))))))) _ _) (fun _ hk1 => (Pc_if (fun _ => hk1) (fun _ => (Pc_b1x (fun _ => (Pc_if (fun _ => (Pc_some2 F0)) (fun _ => hk1))))))))))))
theorem v_X12_breaks {WS : List (Nat × Nat)} {WI WJ : List Nat} {b : SS} {s0 : SS} {a0 : Int32} {a1 : Int32} (mI_80 : WI.contains 80 = true) (F0 : Frm WS WI WJ b s0) : Pc (f_X12_breaks s0 a0 a1) (fun r => Frm WS WI WJ b r.2) := by
  unfold f_X12_breaks
  exact (Pc_b1x (fun _ => (Pc_if (fun _ => (Pc_some2 F0)) (fun _ => (Pc_b1x (fun _ => (Pc_if (fun _ => (Pc_some2 F0)) (fun _ => (Pc_gd (fun g1 => (Pc_st (Pc_some2 (Frm.pI F0 mI_80)))))))))))))
theorem v_X12_yard {WS : List (Nat × Nat)} {WI WJ : List Nat} {b : SS} {s0 : SS} {a0 : Int32} {a1 : Int32} (mI_66 : WI.contains 66 = true) (mI_70 : WI.contains 70 = true) (F0 : Frm WS WI WJ b s0) : Pc (f_X12_yard s0 a0 a1) (fun r => Frm WS WI WJ b r.2) := by
  unfold f_X12_yard
  exact (Pc_b1x (fun _ => (Pc_if (fun _ => (Pc_some2 F0)) (fun _ => (Pc_b1x (fun _ => (Pc_if (fun _ => (Pc_some2 F0)) (fun _ => (Pc_gd (fun g1 => (Pc_if (fun _ => (Pc_some2 F0)) (fun _ => (Pc_gd (fun g2 => (Pc_if (fun _ => (Pc_some2 F0)) (fun _ => (Pc_gd (fun g3 => (Pc_vl (Pc_gd (fun g4 => (Pc_st (Pc_gd (fun g5 => (Pc_vl (Pc_gd (fun g6 => (Pc_st (Pc_gd (fun g7 => (Pc_some2 (Frm.pI (Frm.pI F0 mI_66) mI_70))))))))))))))))))))))))))))))))
theorem v_X12_log_L63 {WS : List (Nat × Nat)} {WI WJ : List Nat} {b : SS} {q0 : SS → Int32 → Int32 → Option (Int32 × SS)} {y1 : Int32} {y2 : Int32} {y3 : Int32} {y4 : Int32} {y5 : Int32} {Q : Int32 × SS → Prop} (mI_72 : WI.contains 72 = true) (mI_73 : WI.contains 73 = true) (hr : ∀ v s, Frm WS WI WJ b s → Q (v, s)) (hq0 : ∀ (z0 : SS) (z1 : Int32) (z2 : Int32), Frm WS WI WJ b z0 → Pc (q0 z0 z1 z2) Q) : ∀ (n : Nat) (s : SS) (x6 : Int32), Frm WS WI WJ b s → Pc (f_X12_log_L63 q0 y1 y2 y3 y4 y5 n s x6) Q := by
  intro n
  induction n with
  | zero => intro s x6 F1; exact Pc_none
  | succ n ih =>
    intro s x6 F1
    show Pc (f_X12_log_L63_b q0 y1 y2 y3 y4 y5 (f_X12_log_L63 q0 y1 y2 y3 y4 y5 n) s x6) Q
    unfold f_X12_log_L63_b
    exact (Pc_if (fun _ => (Pc_vl (Pc_if (fun _ => (Pc_some (hr _ _ F1))) (fun _ => (Pc_wl (Pc_gd (fun g1 => (Pc_if (fun _ => (hq0 _ _ _ F1)) (fun _ => (Pc_if (fun _ => (hq0 _ _ _ F1)) (fun _ => (Pc_gd (fun g2 => (Pc_if (fun _ => (Pc_vl (Pc_jn1 (fun _ => (Pc_gd (fun g4 => (Pc_jn1 (fun _ => (Pc_vl (Pc_gd (fun g6 => (Pc_st (Pc_vl (Pc_gd (fun g7 => (Pc_st (Pc_vl (ih _ _ (Frm.pI (Frm.pI F1 mI_73) mI_72)))))))))))) (fun _ hk5 => (Pc_if (fun _ => (Pc_gd (fun g8 => (hk5 _)))) (fun _ => (hk5 _)))))))) (fun _ hk3 => (Pc_jn0 (hk3 _) (fun _ hk9 => (Pc_if (fun _ => (Pc_vl (Pc_gd (fun g10 => (Pc_if (fun _ => hk9) (fun _ => (Pc_vl (Pc_gd (fun g11 => (hk3 _)))))))))) (fun _ => hk9)))))))) (fun _ => (hq0 _ _ _ F1)))))))))))))))) (fun _ => (Pc_some (hr _ _ F1))))
theorem v_X12_log_L129 {WS : List (Nat × Nat)} {WI WJ : List Nat} {b : SS} {y1 : Int32} {y6 : Int32} {Q : Int32 × SS → Prop} (mI_72 : WI.contains 72 = true) (hr : ∀ v s, Frm WS WI WJ b s → Q (v, s)) : ∀ (n : Nat) (s : SS) (x10 : Int32), Frm WS WI WJ b s → Pc (f_X12_log_L129 y1 y6 n s x10) Q := by
  intro n
  induction n with
  | zero => intro s x10 F1; exact Pc_none
  | succ n ih =>
    intro s x10 F1
    show Pc (f_X12_log_L129_b y1 y6 (f_X12_log_L129 y1 y6 n) s x10) Q
    unfold f_X12_log_L129_b
    exact (Pc_if (fun _ => (Pc_some (hr _ _ F1))) (fun _ => (Pc_vl (Pc_gd (fun g1 => (Pc_st (Pc_vl (ih _ _ (Frm.pI F1 mI_72)))))))))
theorem v_X12_log {WS : List (Nat × Nat)} {WI WJ : List Nat} {b : SS} {s0 : SS} {a0 : Int32} {a1 : Int32} {a2 : Int32} {a3 : Int32} {a4 : Int32} (mI_72 : WI.contains 72 = true) (mI_73 : WI.contains 73 = true) (F0 : Frm WS WI WJ b s0) : Pc (f_X12_log s0 a0 a1 a2 a3 a4) (fun r => Frm WS WI WJ b r.2) := by
  unfold f_X12_log
  exact (Pc_b1x (fun _ => (Pc_if (fun _ => (Pc_some2 F0)) (fun _ => (Pc_b1x (fun _ => (Pc_if (fun _ => (Pc_some2 F0)) (fun _ => (Pc_b1x (fun _ => (Pc_if (fun _ => (Pc_some2 F0)) (fun _ => (Pc_b1x (fun _ => (Pc_if (fun _ => (Pc_some2 F0)) (fun _ => (Pc_gd (fun g1 => (Pc_jn0 (v_X12_log_L63 mI_72 mI_73 (fun _ _ h => h) (fun _ _ _ F3 => by exact (v_X12_log_L129 mI_72 (fun _ _ h => h) _ _ _ F3)) _ _ _ F0) (fun _ hk2 => (Pc_if (fun _ => hk2) (fun _ => (Pc_b1x (fun _ => (Pc_if (fun _ => (Pc_some2 F0)) (fun _ => hk2))))))))))))))))))))))))))
theorem v_X12_spread {WS : List (Nat × Nat)} {WI WJ : List Nat} {b : SS} {s0 : SS} {a0 : Int32} (mS_59_29 : WS.contains (59, 29) = true) (F0 : Frm WS WI WJ b s0) : Pc (f_X12_spread s0 a0) (fun r => Frm WS WI WJ b r.2) := by
  unfold f_X12_spread
  exact (Pc_b1x (fun _ => (Pc_if (fun _ => (Pc_some2 F0)) (fun _ => (Pc_vl (Pc_st (Pc_some2 (Frm.pS F0 mS_59_29))))))))
theorem v_X12_map {WS : List (Nat × Nat)} {WI WJ : List Nat} {b : SS} {s0 : SS} {a0 : Int32} {a1 : Int32} (mI_81 : WI.contains 81 = true) (mI_82 : WI.contains 82 = true) (mI_83 : WI.contains 83 = true) (mS_59_30 : WS.contains (59, 30) = true) (F0 : Frm WS WI WJ b s0) : Pc (f_X12_map s0 a0 a1) (fun r => Frm WS WI WJ b r.2) := by
  unfold f_X12_map
  exact (Pc_b1x (fun _ => (Pc_if (fun _ => (Pc_some2 F0)) (fun _ => (Pc_b1x (fun _ => (Pc_if (fun _ => (Pc_some2 F0)) (fun _ => (Pc_if (fun _ => (Pc_some2 F0)) (fun _ => (Pc_vl (Pc_vl (Pc_gd (fun g1 => (Pc_st (Pc_vl (Pc_vl (Pc_gd (fun g2 => (Pc_st (Pc_vl (Pc_gd (fun g3 => (Pc_st (Pc_vl (Pc_st (Pc_some2 (Frm.pS (Frm.pI (Frm.pI (Frm.pI F0 mI_81) mI_82) mI_83) mS_59_30))))))))))))))))))))))))))))
theorem v_X12_old {WS : List (Nat × Nat)} {WI WJ : List Nat} {b : SS} {s0 : SS} {a0 : Int32} {a1 : Int32} (mI_84 : WI.contains 84 = true) (mI_85 : WI.contains 85 = true) (F0 : Frm WS WI WJ b s0) : Pc (f_X12_old s0 a0 a1) (fun r => Frm WS WI WJ b r.2) := by
  unfold f_X12_old
  exact (Pc_b1x (fun _ => (Pc_if (fun _ => (Pc_some2 F0)) (fun _ => (Pc_b1x (fun _ => (Pc_if (fun _ => (Pc_some2 F0)) (fun _ => (Pc_b1x (fun _ => (Pc_if (fun _ => (Pc_gd (fun g1 => (Pc_if (fun _ => (Pc_some2 F0)) (fun _ => (Pc_gd (fun g2 => (Pc_vl (Pc_gd (fun g3 => (Pc_st (Pc_gd (fun g4 => (Pc_vl (Pc_gd (fun g5 => (Pc_st (Pc_gd (fun g6 => (Pc_some2 (Frm.pI (Frm.pI F0 mI_85) mI_84))))))))))))))))))))) (fun _ => (Pc_some2 F0)))))))))))))
theorem v_X12_feed_L28 {WS : List (Nat × Nat)} {WI WJ : List Nat} {b : SS} {y1 : Int32} {y2 : Int32} {Q : Int32 × SS → Prop} (mI_86 : WI.contains 86 = true) (mS_59_37 : WS.contains (59, 37) = true) (hr : ∀ v s, Frm WS WI WJ b s → Q (v, s)) : ∀ (n : Nat) (s : SS) (x3 : Int32), Frm WS WI WJ b s → Pc (f_X12_feed_L28 y1 y2 n s x3) Q := by
  intro n
  induction n with
  | zero => intro s x3 F1; exact Pc_none
  | succ n ih =>
    intro s x3 F1
    show Pc (f_X12_feed_L28_b y1 y2 (f_X12_feed_L28 y1 y2 n) s x3) Q
    unfold f_X12_feed_L28_b
    exact (Pc_if (fun _ => (Pc_vl (Pc_vl (Pc_gd (fun g1 => (Pc_st (Pc_vl (Pc_st (Pc_vl (ih _ _ (Frm.pS (Frm.pI F1 mI_86) mS_59_37))))))))))) (fun _ => (Pc_some (hr _ _ F1))))
theorem v_X12_feed {WS : List (Nat × Nat)} {WI WJ : List Nat} {b : SS} {s0 : SS} {a0 : Int32} {a1 : Int32} (mI_86 : WI.contains 86 = true) (mS_59_37 : WS.contains (59, 37) = true) (F0 : Frm WS WI WJ b s0) : Pc (f_X12_feed s0 a0 a1) (fun r => Frm WS WI WJ b r.2) := by
  unfold f_X12_feed
  exact (Pc_b1x (fun _ => (Pc_if (fun _ => (Pc_some2 F0)) (fun _ => (Pc_if (fun _ => (Pc_some2 F0)) (fun _ => (v_X12_feed_L28 mI_86 mS_59_37 (fun _ _ h => h) _ _ _ F0)))))))
theorem v_X12_drill_L2 {WS : List (Nat × Nat)} {WI WJ : List Nat} {b : SS} {q0 : SS → Option SS} {Q : SS → Prop} (mI_99 : WI.contains 99 = true) (hq0 : ∀ (z0 : SS), Frm WS WI WJ b z0 → Pc (q0 z0) Q) : ∀ (n : Nat) (s : SS) (x1 : Int32), Frm WS WI WJ b s → Pc (f_X12_drill_L2 q0 n s x1) Q := by
  intro n
  induction n with
  | zero => intro s x1 F1; exact Pc_none
  | succ n ih =>
    intro s x1 F1
    show Pc (f_X12_drill_L2_b q0 (f_X12_drill_L2 q0 n) s x1) Q
    unfold f_X12_drill_L2_b
    exact (Pc_if (fun _ => (Pc_gd (fun g1 => (Pc_st (Pc_vl (ih _ _ (Frm.pI F1 mI_99))))))) (fun _ => (hq0 _ F1)))
theorem v_X12_saysNow_L28 {WS : List (Nat × Nat)} {WI WJ : List Nat} {b : SS} {q0 : Int32 → Option (Int32 × SS)} {sb : SS} {y2 : Int32} {y4 : Int32} {Q : Int32 × SS → Prop} (F0 : Frm WS WI WJ b sb) (hq0 : ∀ (z0 : Int32), Pc (q0 z0) Q) : ∀ (n : Nat) (x5 : Int32) (x6 : Int32), Pc (f_X12_saysNow_L28 q0 sb y2 y4 n x5 x6) Q := by
  intro n
  induction n with
  | zero => intro x5 x6; exact Pc_none
  | succ n ih =>
    intro x5 x6
    show Pc (f_X12_saysNow_L28_b q0 sb y2 y4 (f_X12_saysNow_L28 q0 sb y2 y4 n) x5 x6) Q
    unfold f_X12_saysNow_L28_b
    exact (Pc_if (fun _ => (Pc_gd (fun g1 => (Pc_jn1 (fun _ => (Pc_vl (Pc_vl (ih _ _)))) (fun _ hk2 => (Pc_if (fun _ => (hk2 _)) (fun _ => (hk2 _)))))))) (fun _ => (hq0 _)))
theorem v_X12_worked_L12 {WS : List (Nat × Nat)} {WI WJ : List Nat} {b : SS} {q0 : SS → Option (Int32 × SS)} {y1 : Int32} {y3 : Int32} {Q : Int32 × SS → Prop} (mI_96 : WI.contains 96 = true) (hq0 : ∀ (z0 : SS), Frm WS WI WJ b z0 → Pc (q0 z0) Q) : ∀ (n : Nat) (s : SS) (x4 : Int32) (x5 : Int32), Frm WS WI WJ b s → Pc (f_X12_worked_L12 q0 y1 y3 n s x4 x5) Q := by
  intro n
  induction n with
  | zero => intro s x4 x5 F1; exact Pc_none
  | succ n ih =>
    intro s x4 x5 F1
    show Pc (f_X12_worked_L12_b q0 y1 y3 (f_X12_worked_L12 q0 y1 y3 n) s x4 x5) Q
    unfold f_X12_worked_L12_b
    exact (Pc_if (fun _ => (Pc_gd (fun g1 => (Pc_vl (Pc_jnS1 (P := Frm WS WI WJ b) (fun _ _ F3 => (Pc_vl (ih _ _ _ F3))) (fun _ hk2 => (Pc_jn0 (Pc_jn1 (fun _ => (Pc_gd (fun g6 => (Pc_st (Pc_vl (hk2 _ _ (Frm.pI F1 mI_96))))))) (fun _ hk5 => (Pc_if (fun _ => (Pc_gd (fun g7 => (hk5 _)))) (fun _ => (Pc_gd (fun g8 => (Pc_vl (Pc_gd (fun g9 => (hk5 _)))))))))) (fun _ hk4 => (Pc_if (fun _ => hk4) (fun _ => (Pc_if (fun _ => hk4) (fun _ => (Pc_if (fun _ => (Pc_vl (Pc_gd (fun g10 => (Pc_jn1 (fun _ => (Pc_vl (Pc_gd (fun g12 => (Pc_st (hk2 _ _ (Frm.pI F1 mI_96))))))) (fun _ hk11 => (Pc_if (fun _ => (hk11 _)) (fun _ => (hk11 _))))))))) (fun _ => (Pc_if (fun _ => (Pc_vl (Pc_gd (fun g13 => (Pc_vl (Pc_vl (Pc_gd (fun g14 => (Pc_st (hk2 _ _ (Frm.pI F1 mI_96))))))))))) (fun _ => (Pc_vl (Pc_vl (Pc_gd (fun g15 => (Pc_gd (fun g16 => (Pc_b1x (fun _ => (Pc_vl (Pc_gd (fun g17 => (Pc_st (hk2 _ _ (Frm.pI F1 mI_96)))))))))))))))))))))))))))))) (fun _ => (hq0 _ F1)))
theorem v_X12_worked {WS : List (Nat × Nat)} {WI WJ : List Nat} {b : SS} {s0 : SS} {a0 : Int32} {a1 : Int32} {a2 : Int32} (mI_96 : WI.contains 96 = true) (F0 : Frm WS WI WJ b s0) : Pc (f_X12_worked s0 a0 a1 a2) (fun r => Frm WS WI WJ b r.2) := by
  unfold f_X12_worked
  exact (Pc_vl (v_X12_worked_L12 mI_96 (fun _ F1 => by exact (Pc_some2 F1)) _ _ _ _ F0))
theorem v_X12_gives_L4 {WS : List (Nat × Nat)} {WI WJ : List Nat} {b : SS} {q0 : SS → Int32 → Option (Int32 × SS)} {y1 : Int32} {Q : Int32 × SS → Prop} (mI_96 : WI.contains 96 = true) (hr : ∀ v s, Frm WS WI WJ b s → Q (v, s)) (hq0 : ∀ (z0 : SS) (z1 : Int32), Frm WS WI WJ b z0 → Pc (q0 z0 z1) Q) : ∀ (n : Nat) (s : SS) (x2 : Int32) (x3 : Int32), Frm WS WI WJ b s → Pc (f_X12_gives_L4 q0 y1 n s x2 x3) Q := by
  intro n
  induction n with
  | zero => intro s x2 x3 F1; exact Pc_none
  | succ n ih =>
    intro s x2 x3 F1
    show Pc (f_X12_gives_L4_b q0 y1 (f_X12_gives_L4 q0 y1 n) s x2 x3) Q
    unfold f_X12_gives_L4_b
    exact (Pc_gd (fun g1 => (Pc_if (fun _ => (Pc_vl (Pc_gd (fun g2 => (Pc_if (fun _ => (hq0 _ _ F1)) (fun _ => (Pc_gd (fun g3 => (Pc_bd (Pc.mono (v_X12_worked mI_96 F1) (fun _ F4 => (Pc_if (fun _ => (Pc_gd (fun g5 => (Pc_vl (Pc_vl (ih _ _ _ F4)))))) (fun _ => (hq0 _ _ F4)))))))))))))) (fun _ => (Pc_some (hr _ _ F1))))))
theorem v_X12_gives {WS : List (Nat × Nat)} {WI WJ : List Nat} {b : SS} {s0 : SS} {a0 : Int32} (mI_96 : WI.contains 96 = true) (F0 : Frm WS WI WJ b s0) : Pc (f_X12_gives s0 a0) (fun r => Frm WS WI WJ b r.2) := by
  unfold f_X12_gives
  exact (v_X12_gives_L4 mI_96 (fun _ _ h => h) (fun _ _ F1 => by exact (Pc_gd (fun g2 => (Pc_gd (fun g3 => (Pc_bd (Pc.mono (v_X12_worked mI_96 F1) (fun _ F4 => (Pc_some2 F4))))))))) _ _ _ _ F0)
theorem v_X12_saysNow {WS : List (Nat × Nat)} {WI WJ : List Nat} {b : SS} {s0 : SS} {a0 : Int32} {a1 : Int32} {a2 : Int32} (mI_95 : WI.contains 95 = true) (mI_96 : WI.contains 96 = true) (F0 : Frm WS WI WJ b s0) : Pc (f_X12_saysNow s0 a0 a1 a2) (fun r => Frm WS WI WJ b r.2) := by
  unfold f_X12_saysNow
  exact (Pc_b1x (fun _ => (Pc_if (fun _ => (Pc_some2 F0)) (fun _ => (v_X12_saysNow_L28 F0 (fun _ => by exact (Pc_vl (Pc_st (Pc_vl (Pc_st (Pc_jn1 (fun _ => (Pc_st (Pc_jn1 (fun _ => (Pc_st (Pc_jn1 (fun _ => (Pc_st (Pc_b1x (fun _ => (Pc_st (Pc_vl (Pc_st (Pc_st (Pc_bd (Pc.mono (v_X12_gives mI_96 (Frm.pI (Frm.pI (Frm.pI (Frm.pI (Frm.pI (Frm.pI (Frm.pI (Frm.pI F0 mI_95) mI_95) mI_95) mI_95) mI_95) mI_95) mI_95) mI_95)) (fun _ F4 => (Pc_some2 F4)))))))))))) (fun _ hk3 => (Pc_if (fun _ => (hk3 _)) (fun _ => (Pc_gd (fun g5 => (hk3 _))))))))) (fun _ hk2 => (Pc_if (fun _ => (hk2 _)) (fun _ => (Pc_gd (fun g6 => (hk2 _))))))))) (fun _ hk1 => (Pc_if (fun _ => (hk1 _)) (fun _ => (Pc_gd (fun g7 => (hk1 _)))))))))))) _ _ _)))))
theorem v_X12_drill_L36 {WS : List (Nat × Nat)} {WI WJ : List Nat} {b : SS} {q0 : SS → Option SS} {Q : SS → Prop} (mI_68 : WI.contains 68 = true) (mI_99 : WI.contains 99 = true) (mI_100 : WI.contains 100 = true) (hq0 : ∀ (z0 : SS), Frm WS WI WJ b z0 → Pc (q0 z0) Q) : ∀ (n : Nat) (s : SS) (x1 : Int32), Frm WS WI WJ b s → Pc (f_X12_drill_L36 q0 n s x1) Q := by
  intro n
  induction n with
  | zero => intro s x1 F1; exact Pc_none
  | succ n ih =>
    intro s x1 F1
    show Pc (f_X12_drill_L36_b q0 (f_X12_drill_L36 q0 n) s x1) Q
    unfold f_X12_drill_L36_b
    exact (Pc_if (fun _ => (Pc_gd (fun g1 => (Pc_jnS (P := Frm WS WI WJ b) (fun _ F3 => (Pc_vl (ih _ _ F3))) (fun _ hk2 => (Pc_if (fun _ => (hk2 _ F1)) (fun _ => (Pc_gd (fun g4 => (Pc_if (fun _ => (Pc_gd (fun g5 => (Pc_vl (Pc_gd (fun g6 => (Pc_vl (Pc_vl (Pc_gd (fun g7 => (Pc_st (Pc_gd (fun g8 => (Pc_vl (Pc_gd (fun g9 => (Pc_st (Pc_gd (fun g10 => (Pc_gd (fun g11 => (Pc_vl (Pc_vl (Pc_gd (fun g12 => (Pc_st (hk2 _ (Frm.pI (Frm.pI (Frm.pI F1 mI_68) mI_99) mI_100)))))))))))))))))))))))))))) (fun _ => (hk2 _ F1)))))))))))) (fun _ => (hq0 _ F1)))
theorem v_X12_bore_L0 {WS : List (Nat × Nat)} {WI WJ : List Nat} {b : SS} {y1 : Int32} {y2 : Int32} {Q : SS → Prop} (mI_65 : WI.contains 65 = true) (mI_67 : WI.contains 67 = true) (mI_68 : WI.contains 68 = true) (mI_69 : WI.contains 69 = true) (mI_71 : WI.contains 71 = true) (hr : ∀ s, Frm WS WI WJ b s → Q s) : ∀ (n : Nat) (s : SS), Frm WS WI WJ b s → Pc (f_X12_bore_L0 y1 y2 n s) Q := by
  intro n
  induction n with
  | zero => intro s F1; exact Pc_none
  | succ n ih =>
    intro s F1
    show Pc (f_X12_bore_L0_b y1 y2 (f_X12_bore_L0 y1 y2 n) s) Q
    unfold f_X12_bore_L0_b
    exact (Pc_gd (fun g1 => (Pc_gd (fun g2 => (Pc_if (fun _ => (Pc_gd (fun g3 => (Pc_if (fun _ => (Pc_gd (fun g4 => (Pc_vl (Pc_gd (fun g5 => (Pc_vl (Pc_gd (fun g6 => (Pc_b1x (fun _ => (Pc_vl (Pc_gd (fun g7 => (Pc_jn1 (fun _ => (Pc_gd (fun g9 => (Pc_if (fun _ => (Pc_some (hr _ F1))) (fun _ => (Pc_gd (fun g10 => (Pc_vl (Pc_gd (fun g11 => (Pc_st (Pc_gd (fun g12 => (Pc_st (Pc_gd (fun g13 => (Pc_st (Pc_jn1 (fun _ => (Pc_jn1 (fun _ => (Pc_vl (Pc_gd (fun g16 => (Pc_st (Pc_jnS (P := Frm WS WI WJ b) (fun _ F18 => (ih _ F18)) (fun _ hk17 => (Pc_if (fun _ => (hk17 _ (Frm.pI (Frm.pI (Frm.pI (Frm.pI F1 mI_68) mI_67) mI_65) mI_71))) (fun _ => (Pc_vl (Pc_gd (fun g19 => (Pc_st (hk17 _ (Frm.pI (Frm.pI (Frm.pI (Frm.pI (Frm.pI F1 mI_68) mI_67) mI_65) mI_71) mI_69))))))))))))))) (fun _ hk15 => (Pc_if (fun _ => (Pc_gd (fun g20 => (Pc_if (fun _ => (hk15 _)) (fun _ => (hk15 _)))))) (fun _ => (hk15 _)))))) (fun _ hk14 => (Pc_jn0 (hk14 _) (fun _ hk21 => (Pc_if (fun _ => hk21) (fun _ => (Pc_if (fun _ => (Pc_b1x (fun _ => (Pc_if (fun _ => hk21) (fun _ => (hk14 _)))))) (fun _ => hk21))))))))))))))))))))))))) (fun _ hk8 => (Pc_if (fun _ => (Pc_gd (fun g22 => (hk8 _)))) (fun _ => (hk8 _))))))))))))))))))) (fun _ => (Pc_some (hr _ F1))))))) (fun _ => (Pc_some (hr _ F1))))))))
theorem v_X12_bore {WS : List (Nat × Nat)} {WI WJ : List Nat} {b : SS} {s0 : SS} {a0 : Int32} {a1 : Int32} (mI_65 : WI.contains 65 = true) (mI_67 : WI.contains 67 = true) (mI_68 : WI.contains 68 = true) (mI_69 : WI.contains 69 = true) (mI_71 : WI.contains 71 = true) (F0 : Frm WS WI WJ b s0) : Pc (f_X12_bore s0 a0 a1) (fun r => Frm WS WI WJ b r) := by
  unfold f_X12_bore
  exact (v_X12_bore_L0 mI_65 mI_67 mI_68 mI_69 mI_71 (fun _ h => h) _ _ F0)
theorem v_X12_drill_L119 {WS : List (Nat × Nat)} {WI WJ : List Nat} {b : SS}  {Q : SS → Prop} (mI_65 : WI.contains 65 = true) (mI_67 : WI.contains 67 = true) (mI_68 : WI.contains 68 = true) (mI_69 : WI.contains 69 = true) (mI_71 : WI.contains 71 = true) (hr : ∀ s, Frm WS WI WJ b s → Q s) : ∀ (n : Nat) (s : SS) (x1 : Int32), Frm WS WI WJ b s → Pc (f_X12_drill_L119  n s x1) Q := by
  intro n
  induction n with
  | zero => intro s x1 F1; exact Pc_none
  | succ n ih =>
    intro s x1 F1
    show Pc (f_X12_drill_L119_b  (f_X12_drill_L119  n) s x1) Q
    unfold f_X12_drill_L119_b
    exact (Pc_if (fun _ => (Pc_gd (fun g1 => (Pc_jnS (P := Frm WS WI WJ b) (fun _ F3 => (Pc_vl (ih _ _ F3))) (fun _ hk2 => (Pc_if (fun _ => (hk2 _ F1)) (fun _ => (Pc_gd (fun g4 => (Pc_b1 (Pc.mono (v_X12_bore mI_65 mI_67 mI_68 mI_69 mI_71 F1) (fun _ F5 => (hk2 _ F5))))))))))))) (fun _ => (Pc_some (hr _ F1))))
theorem v_X12_drill {WS : List (Nat × Nat)} {WI WJ : List Nat} {b : SS} {s0 : SS} (mI_65 : WI.contains 65 = true) (mI_67 : WI.contains 67 = true) (mI_68 : WI.contains 68 = true) (mI_69 : WI.contains 69 = true) (mI_71 : WI.contains 71 = true) (mI_95 : WI.contains 95 = true) (mI_96 : WI.contains 96 = true) (mI_99 : WI.contains 99 = true) (mI_100 : WI.contains 100 = true) (F0 : Frm WS WI WJ b s0) : Pc (f_X12_drill s0) (fun r => Frm WS WI WJ b r) := by
  unfold f_X12_drill
  exact (v_X12_drill_L2 mI_99 (fun _ F1 => by exact (Pc_bd (Pc.mono (v_X12_saysNow mI_95 mI_96 F1) (fun _ F2 => (Pc_if (fun _ => (v_X12_drill_L36 mI_68 mI_99 mI_100 (fun _ F3 => by exact (v_X12_drill_L119 mI_65 mI_67 mI_68 mI_69 mI_71 (fun _ h => h) _ _ _ F3)) _ _ _ F2)) (fun _ => (Pc_some F2))))))) _ _ _ F0)
theorem v_X12_comeDown_L4 {WS : List (Nat × Nat)} {WI WJ : List Nat} {b : SS} {q0 : SS → Int32 → Option SS} {Q : SS → Prop} (mI_102 : WI.contains 102 = true) (mI_103 : WI.contains 103 = true) (mI_105 : WI.contains 105 = true) (mS_59_54 : WS.contains (59, 54) = true) (hq0 : ∀ (z0 : SS) (z1 : Int32), Frm WS WI WJ b z0 → Pc (q0 z0 z1) Q) : ∀ (n : Nat) (s : SS) (x1 : Int32) (x2 : Int32), Frm WS WI WJ b s → Pc (f_X12_comeDown_L4 q0 n s x1 x2) Q := by
  intro n
  induction n with
  | zero => intro s x1 x2 F1; exact Pc_none
  | succ n ih =>
    intro s x1 x2 F1
    show Pc (f_X12_comeDown_L4_b q0 (f_X12_comeDown_L4 q0 n) s x1 x2) Q
    unfold f_X12_comeDown_L4_b
    exact (Pc_if (fun _ => (Pc_gd (fun g1 => (Pc_jnS1 (P := Frm WS WI WJ b) (fun _ _ F3 => (Pc_vl (ih _ _ _ F3))) (fun _ hk2 => (Pc_if (fun _ => (Pc_gd (fun g4 => (Pc_if (fun _ => (Pc_gd (fun g5 => (Pc_vl (Pc_st (hk2 _ _ (Frm.pS F1 mS_59_54))))))) (fun _ => (Pc_gd (fun g6 => (Pc_vl (Pc_gd (fun g7 => (Pc_vl (Pc_vl (Pc_gd (fun g8 => (Pc_st (hk2 _ _ (Frm.pI F1 mI_105))))))))))))))))) (fun _ => (Pc_gd (fun g9 => (Pc_vl (Pc_gd (fun g10 => (Pc_st (Pc_gd (fun g11 => (Pc_vl (Pc_gd (fun g12 => (Pc_st (Pc_vl (hk2 _ _ (Frm.pI (Frm.pI F1 mI_102) mI_103)))))))))))))))))))))) (fun _ => (hq0 _ _ F1)))
theorem v_X12_comeDown {WS : List (Nat × Nat)} {WI WJ : List Nat} {b : SS} {s0 : SS} (mI_102 : WI.contains 102 = true) (mI_103 : WI.contains 103 = true) (mI_105 : WI.contains 105 = true) (mS_59_54 : WS.contains (59, 54) = true) (mS_59_62 : WS.contains (59, 62) = true) (F0 : Frm WS WI WJ b s0) : Pc (f_X12_comeDown s0) (fun r => Frm WS WI WJ b r) := by
  unfold f_X12_comeDown
  exact (v_X12_comeDown_L4 mI_102 mI_103 mI_105 mS_59_54 (fun _ _ F1 => by exact (Pc_st (Pc_some (Frm.pS F1 mS_59_62)))) _ _ _ _ F0)
theorem v_X12_hours_L65 {WS : List (Nat × Nat)} {WI WJ : List Nat} {b : SS} {q0 : SS → Option (Int32 × SS)} {y1 : Int32} {y2 : Int32} {Q : Int32 × SS → Prop} (mI_60 : WI.contains 60 = true) (mI_61 : WI.contains 61 = true) (mS_59_25 : WS.contains (59, 25) = true) (hq0 : ∀ (z0 : SS), Frm WS WI WJ b z0 → Pc (q0 z0) Q) : ∀ (n : Nat) (s : SS) (x3 : Int32), Frm WS WI WJ b s → Pc (f_X12_hours_L65 q0 y1 y2 n s x3) Q := by
  intro n
  induction n with
  | zero => intro s x3 F1; exact Pc_none
  | succ n ih =>
    intro s x3 F1
    show Pc (f_X12_hours_L65_b q0 y1 y2 (f_X12_hours_L65 q0 y1 y2 n) s x3) Q
    unfold f_X12_hours_L65_b
    exact (Pc_if (fun _ => (Pc_gd (fun g1 => (Pc_jnS (P := Frm WS WI WJ b) (fun _ F3 => (Pc_vl (ih _ _ F3))) (fun _ hk2 => (Pc_if (fun _ => (Pc_gd (fun g4 => (Pc_b1x (fun _ => (Pc_gd (fun g5 => (Pc_st (Pc_gd (fun g6 => (Pc_st (Pc_if (fun _ => (hk2 _ (Frm.pI (Frm.pI F1 mI_61) mI_60))) (fun _ => (Pc_gd (fun g7 => (Pc_if (fun _ => (Pc_gd (fun g8 => (Pc_b1x (fun _ => (Pc_if (fun _ => (hk2 _ (Frm.pI (Frm.pI F1 mI_61) mI_60))) (fun _ => (Pc_st (hk2 _ (Frm.pS (Frm.pI (Frm.pI F1 mI_61) mI_60) mS_59_25)))))))))) (fun _ => (hk2 _ (Frm.pI (Frm.pI F1 mI_61) mI_60))))))))))))))))))) (fun _ => (hk2 _ F1)))))))) (fun _ => (hq0 _ F1)))
theorem v_X12_eat_L2 {WS : List (Nat × Nat)} {WI WJ : List Nat} {b : SS}  {Q : SS → Prop} (mI_74 : WI.contains 74 = true) (mI_95 : WI.contains 95 = true) (mI_96 : WI.contains 96 = true) (mS_59_54 : WS.contains (59, 54) = true) (mS_59_55 : WS.contains (59, 55) = true) (hr : ∀ s, Frm WS WI WJ b s → Q s) : ∀ (n : Nat) (s : SS) (x1 : Int32), Frm WS WI WJ b s → Pc (f_X12_eat_L2  n s x1) Q := by
  intro n
  induction n with
  | zero => intro s x1 F1; exact Pc_none
  | succ n ih =>
    intro s x1 F1
    show Pc (f_X12_eat_L2_b  (f_X12_eat_L2  n) s x1) Q
    unfold f_X12_eat_L2_b
    exact (Pc_if (fun _ => (Pc_gd (fun g1 => (Pc_jnS (P := Frm WS WI WJ b) (fun _ F3 => (Pc_vl (ih _ _ F3))) (fun _ hk2 => (Pc_if (fun _ => (hk2 _ F1)) (fun _ => (Pc_bd (Pc.mono (v_X12_saysNow mI_95 mI_96 F1) (fun _ F4 => (Pc_b1x (fun _ => (Pc_jn1 (fun _ => (Pc_vl (Pc_st (Pc_vl (Pc_st (Pc_gd (fun g6 => (Pc_b1x (fun _ => (Pc_gd (fun g7 => (Pc_st (hk2 _ (Frm.pI (Frm.pS (Frm.pS F4 mS_59_54) mS_59_55) mI_74)))))))))))))) (fun _ hk5 => (Pc_if (fun _ => (hk5 _)) (fun _ => (hk5 _))))))))))))))))) (fun _ => (Pc_some (hr _ F1))))
theorem v_X12_eat {WS : List (Nat × Nat)} {WI WJ : List Nat} {b : SS} {s0 : SS} (mI_74 : WI.contains 74 = true) (mI_95 : WI.contains 95 = true) (mI_96 : WI.contains 96 = true) (mS_59_54 : WS.contains (59, 54) = true) (mS_59_55 : WS.contains (59, 55) = true) (F0 : Frm WS WI WJ b s0) : Pc (f_X12_eat s0) (fun r => Frm WS WI WJ b r) := by
  unfold f_X12_eat
  exact (v_X12_eat_L2 mI_74 mI_95 mI_96 mS_59_54 mS_59_55 (fun _ h => h) _ _ _ F0)
theorem v_X12_hours_L26 {WS : List (Nat × Nat)} {WI WJ : List Nat} {b : SS} {y1 : Int32} {Q : Int32 × SS → Prop} (mI_60 : WI.contains 60 = true) (mI_61 : WI.contains 61 = true) (mI_65 : WI.contains 65 = true) (mI_67 : WI.contains 67 = true) (mI_68 : WI.contains 68 = true) (mI_69 : WI.contains 69 = true) (mI_71 : WI.contains 71 = true) (mI_74 : WI.contains 74 = true) (mI_95 : WI.contains 95 = true) (mI_96 : WI.contains 96 = true) (mI_99 : WI.contains 99 = true) (mI_100 : WI.contains 100 = true) (mI_102 : WI.contains 102 = true) (mI_103 : WI.contains 103 = true) (mI_105 : WI.contains 105 = true) (mS_59_1 : WS.contains (59, 1) = true) (mS_59_25 : WS.contains (59, 25) = true) (mS_59_54 : WS.contains (59, 54) = true) (mS_59_55 : WS.contains (59, 55) = true) (mS_59_62 : WS.contains (59, 62) = true) (hr : ∀ v s, Frm WS WI WJ b s → Q (v, s)) : ∀ (n : Nat) (s : SS) (x2 : Int32), Frm WS WI WJ b s → Pc (f_X12_hours_L26 y1 n s x2) Q := by
  intro n
  induction n with
  | zero => intro s x2 F1; exact Pc_none
  | succ n ih =>
    intro s x2 F1
    show Pc (f_X12_hours_L26_b y1 (f_X12_hours_L26 y1 n) s x2) Q
    unfold f_X12_hours_L26_b
    exact (Pc_if (fun _ => (Pc_vl (Pc_st (Pc_b1 (Pc.mono (v_X12_drill mI_65 mI_67 mI_68 mI_69 mI_71 mI_95 mI_96 mI_99 mI_100 (Frm.pS F1 mS_59_1)) (fun _ F1 => (Pc_b1 (Pc.mono (v_X12_comeDown mI_102 mI_103 mI_105 mS_59_54 mS_59_62 F1) (fun _ F2 => (Pc_jnS (P := Frm WS WI WJ b) (fun _ F4 => (v_X12_hours_L65 mI_60 mI_61 mS_59_25 (fun _ F5 => by exact (Pc_vl (ih _ _ F5))) _ _ _ F4)) (fun _ hk3 => (Pc_if (fun _ => (Pc_b1 (Pc.mono (v_X12_eat mI_74 mI_95 mI_96 mS_59_54 mS_59_55 F2) (fun _ F6 => (hk3 _ F6))))) (fun _ => (hk3 _ F2)))))))))))))) (fun _ => (Pc_some (hr _ _ F1))))
theorem v_X12_hours {WS : List (Nat × Nat)} {WI WJ : List Nat} {b : SS} {s0 : SS} {a0 : Int32} (mI_60 : WI.contains 60 = true) (mI_61 : WI.contains 61 = true) (mI_65 : WI.contains 65 = true) (mI_67 : WI.contains 67 = true) (mI_68 : WI.contains 68 = true) (mI_69 : WI.contains 69 = true) (mI_71 : WI.contains 71 = true) (mI_74 : WI.contains 74 = true) (mI_95 : WI.contains 95 = true) (mI_96 : WI.contains 96 = true) (mI_99 : WI.contains 99 = true) (mI_100 : WI.contains 100 = true) (mI_102 : WI.contains 102 = true) (mI_103 : WI.contains 103 = true) (mI_105 : WI.contains 105 = true) (mS_59_1 : WS.contains (59, 1) = true) (mS_59_25 : WS.contains (59, 25) = true) (mS_59_54 : WS.contains (59, 54) = true) (mS_59_55 : WS.contains (59, 55) = true) (mS_59_62 : WS.contains (59, 62) = true) (F0 : Frm WS WI WJ b s0) : Pc (f_X12_hours s0 a0) (fun r => Frm WS WI WJ b r.2) := by
  unfold f_X12_hours
  exact (Pc_b1x (fun _ => (Pc_if (fun _ => (Pc_some2 F0)) (fun _ => (Pc_if (fun _ => (Pc_some2 F0)) (fun _ => (v_X12_hours_L26 mI_60 mI_61 mI_65 mI_67 mI_68 mI_69 mI_71 mI_74 mI_95 mI_96 mI_99 mI_100 mI_102 mI_103 mI_105 mS_59_1 mS_59_25 mS_59_54 mS_59_55 mS_59_62 (fun _ _ h => h) _ _ _ F0)))))))
theorem v_X12_spoons {WS : List (Nat × Nat)} {WI WJ : List Nat} {b : SS} {s0 : SS} {a0 : Int32} (mS_59_54 : WS.contains (59, 54) = true) (F0 : Frm WS WI WJ b s0) : Pc (f_X12_spoons s0 a0) (fun r => Frm WS WI WJ b r.2) := by
  unfold f_X12_spoons
  exact (Pc_b1x (fun _ => (Pc_if (fun _ => (Pc_some2 F0)) (fun _ => (Pc_vl (Pc_st (Pc_some2 (Frm.pS F0 mS_59_54))))))))
theorem v_X12_move {WS : List (Nat × Nat)} {WI WJ : List Nat} {b : SS} {s0 : SS} {a0 : Int32} {a1 : Int32} (mI_97 : WI.contains 97 = true) (mI_98 : WI.contains 98 = true) (mS_59_56 : WS.contains (59, 56) = true) (F0 : Frm WS WI WJ b s0) : Pc (f_X12_move s0 a0 a1) (fun r => Frm WS WI WJ b r.2) := by
  unfold f_X12_move
  exact (Pc_b1x (fun _ => (Pc_if (fun _ => (Pc_some2 F0)) (fun _ => (Pc_b1x (fun _ => (Pc_if (fun _ => (Pc_some2 F0)) (fun _ => (Pc_if (fun _ => (Pc_some2 F0)) (fun _ => (Pc_vl (Pc_gd (fun g1 => (Pc_st (Pc_vl (Pc_gd (fun g2 => (Pc_st (Pc_vl (Pc_st (Pc_some2 (Frm.pS (Frm.pI (Frm.pI F0 mI_97) mI_98) mS_59_56))))))))))))))))))))))
theorem v_X12_lastsBy_L2 {WS : List (Nat × Nat)} {WI WJ : List Nat} {b : SS} {q0 : SS → Option (Int32 × SS)} {y1 : Int32} {y2 : Int32} {Q : Int32 × SS → Prop} (mI_101 : WI.contains 101 = true) (hq0 : ∀ (z0 : SS), Frm WS WI WJ b z0 → Pc (q0 z0) Q) : ∀ (n : Nat) (s : SS) (x3 : Int32), Frm WS WI WJ b s → Pc (f_X12_lastsBy_L2 q0 y1 y2 n s x3) Q := by
  intro n
  induction n with
  | zero => intro s x3 F1; exact Pc_none
  | succ n ih =>
    intro s x3 F1
    show Pc (f_X12_lastsBy_L2_b q0 y1 y2 (f_X12_lastsBy_L2 q0 y1 y2 n) s x3) Q
    unfold f_X12_lastsBy_L2_b
    exact (Pc_if (fun _ => (Pc_gd (fun g1 => (Pc_vl (Pc_gd (fun g2 => (Pc_st (Pc_vl (ih _ _ (Frm.pI F1 mI_101)))))))))) (fun _ => (hq0 _ F1)))
theorem v_X12_lastsBy_L49 {WS : List (Nat × Nat)} {WI WJ : List Nat} {b : SS} {q0 : SS → Int32 → Int32 → Option (Int32 × SS)} {y1 : Int32} {y2 : Int32} {y4 : Int32} {Q : Int32 × SS → Prop} (mI_101 : WI.contains 101 = true) (hq0 : ∀ (z0 : SS) (z1 : Int32) (z2 : Int32), Frm WS WI WJ b z0 → Pc (q0 z0 z1 z2) Q) : ∀ (n : Nat) (s : SS) (x3 : Int32) (x5 : Int32) (x6 : Int32), Frm WS WI WJ b s → Pc (f_X12_lastsBy_L49 q0 y1 y2 y4 n s x3 x5 x6) Q := by
  intro n
  induction n with
  | zero => intro s x3 x5 x6 F1; exact Pc_none
  | succ n ih =>
    intro s x3 x5 x6 F1
    show Pc (f_X12_lastsBy_L49_b q0 y1 y2 y4 (f_X12_lastsBy_L49 q0 y1 y2 y4 n) s x3 x5 x6) Q
    unfold f_X12_lastsBy_L49_b
    exact (Pc_if (fun _ => (Pc_gd (fun g1 => (Pc_jnS2 (P := Frm WS WI WJ b) (fun _ _ _ F3 => (Pc_vl (ih _ _ _ _ F3))) (fun _ hk2 => (Pc_if (fun _ => (hk2 _ _ _ F1)) (fun _ => (Pc_jn1 (fun _ => (Pc_vl (Pc_gd (fun g5 => (Pc_b1x (fun _ => (Pc_gd (fun g6 => (Pc_st (Pc_jn1 (fun _ => (hk2 _ _ _ (Frm.pI F1 mI_101))) (fun _ hk7 => (Pc_jn0 (hk7 _) (fun _ hk8 => (Pc_if (fun _ => hk8) (fun _ => (Pc_gd (fun g9 => (Pc_if (fun _ => (hk7 _)) (fun _ => hk8))))))))))))))))))) (fun _ hk4 => (Pc_if (fun _ => (hk4 _)) (fun _ => (hk4 _)))))))))))) (fun _ => (hq0 _ _ _ F1)))
theorem v_X12_lastsBy_L36 {WS : List (Nat × Nat)} {WI WJ : List Nat} {b : SS} {y1 : Int32} {y2 : Int32} {Q : Int32 × SS → Prop} (mI_101 : WI.contains 101 = true) (hr : ∀ v s, Frm WS WI WJ b s → Q (v, s)) : ∀ (n : Nat) (s : SS) (x3 : Int32) (x4 : Int32), Frm WS WI WJ b s → Pc (f_X12_lastsBy_L36 y1 y2 n s x3 x4) Q := by
  intro n
  induction n with
  | zero => intro s x3 x4 F1; exact Pc_none
  | succ n ih =>
    intro s x3 x4 F1
    show Pc (f_X12_lastsBy_L36_b y1 y2 (f_X12_lastsBy_L36 y1 y2 n) s x3 x4) Q
    unfold f_X12_lastsBy_L36_b
    exact (Pc_if (fun _ => (Pc_some (hr _ _ F1))) (fun _ => (v_X12_lastsBy_L49 mI_101 (fun _ _ _ F1 => by exact (Pc_if (fun _ => (Pc_some (hr _ _ F1))) (fun _ => (Pc_vl (ih _ _ _ F1))))) _ _ _ _ _ F1)))
theorem v_X12_lastsBy {WS : List (Nat × Nat)} {WI WJ : List Nat} {b : SS} {s0 : SS} {a0 : Int32} {a1 : Int32} (mI_101 : WI.contains 101 = true) (F0 : Frm WS WI WJ b s0) : Pc (f_X12_lastsBy s0 a0 a1) (fun r => Frm WS WI WJ b r.2) := by
  unfold f_X12_lastsBy
  exact (v_X12_lastsBy_L2 mI_101 (fun _ F1 => by exact (Pc_vl (v_X12_lastsBy_L36 mI_101 (fun _ _ h => h) _ _ _ _ F1))) _ _ _ F0)
theorem v_X12_last {WS : List (Nat × Nat)} {WI WJ : List Nat} {b : SS} {s0 : SS} {a0 : Int32} {a1 : Int32} (mI_101 : WI.contains 101 = true) (F0 : Frm WS WI WJ b s0) : Pc (f_X12_last s0 a0 a1) (fun r => Frm WS WI WJ b r.2) := by
  unfold f_X12_last
  exact (Pc_b1x (fun _ => (Pc_if (fun _ => (Pc_some2 F0)) (fun _ => (Pc_b1x (fun _ => (Pc_if (fun _ => (Pc_some2 F0)) (fun _ => (Pc_b1x (fun _ => (Pc_if (fun _ => (Pc_some2 F0)) (fun _ => (Pc_bd (Pc.mono (v_X12_lastsBy mI_101 F0) (fun _ F1 => (Pc_some2 F1))))))))))))))))
theorem v_X12_best_L27 {WS : List (Nat × Nat)} {WI WJ : List Nat} {b : SS} {y1 : Int32} {Q : Int32 × SS → Prop} (mI_101 : WI.contains 101 = true) (hr : ∀ v s, Frm WS WI WJ b s → Q (v, s)) : ∀ (n : Nat) (s : SS) (x2 : Int32) (x3 : Int32), Frm WS WI WJ b s → Pc (f_X12_best_L27 y1 n s x2 x3) Q := by
  intro n
  induction n with
  | zero => intro s x2 x3 F1; exact Pc_none
  | succ n ih =>
    intro s x2 x3 F1
    show Pc (f_X12_best_L27_b y1 (f_X12_best_L27 y1 n) s x2 x3) Q
    unfold f_X12_best_L27_b
    exact (Pc_if (fun _ => (Pc_bd (Pc.mono (v_X12_lastsBy mI_101 F1) (fun _ F1 => (Pc_bd (Pc.mono (v_X12_lastsBy mI_101 F1) (fun _ F2 => (Pc_jn1 (fun _ => (Pc_vl (ih _ _ _ F2))) (fun _ hk3 => (Pc_if (fun _ => (hk3 _)) (fun _ => (hk3 _)))))))))))) (fun _ => (Pc_some (hr _ _ F1))))
theorem v_X12_best {WS : List (Nat × Nat)} {WI WJ : List Nat} {b : SS} {s0 : SS} {a0 : Int32} (mI_101 : WI.contains 101 = true) (F0 : Frm WS WI WJ b s0) : Pc (f_X12_best s0 a0) (fun r => Frm WS WI WJ b r.2) := by
  unfold f_X12_best
  exact (Pc_b1x (fun _ => (Pc_if (fun _ => (Pc_some2 F0)) (fun _ => (Pc_b1x (fun _ => (Pc_if (fun _ => (Pc_some2 F0)) (fun _ => (v_X12_best_L27 mI_101 (fun _ _ h => h) _ _ _ _ F0)))))))))
theorem v_X12_down {WS : List (Nat × Nat)} {WI WJ : List Nat} {b : SS} {s0 : SS} {a0 : Int32} {a1 : Int32} {a2 : Int32} (mI_102 : WI.contains 102 = true) (mI_103 : WI.contains 103 = true) (mI_104 : WI.contains 104 = true) (mS_59_62 : WS.contains (59, 62) = true) (F0 : Frm WS WI WJ b s0) : Pc (f_X12_down s0 a0 a1 a2) (fun r => Frm WS WI WJ b r.2) := by
  unfold f_X12_down
  exact (Pc_b1x (fun _ => (Pc_if (fun _ => (Pc_some2 F0)) (fun _ => (Pc_gd (fun g1 => (Pc_if (fun _ => (Pc_b1x (fun _ => (Pc_if (fun _ => (Pc_some2 F0)) (fun _ => (Pc_jn1 (fun _ => (Pc_jn0 (Pc_gd (fun g4 => (Pc_if (fun _ => (Pc_some2 F0)) (fun _ => (Pc_if (fun _ => (Pc_some2 F0)) (fun _ => (Pc_gd (fun g5 => (Pc_jn1 (fun _ => (Pc_vl (Pc_gd (fun g7 => (Pc_st (Pc_vl (Pc_gd (fun g8 => (Pc_st (Pc_vl (Pc_vl (Pc_gd (fun g9 => (Pc_st (Pc_vl (Pc_st (Pc_some2 (Frm.pS (Frm.pI (Frm.pI (Frm.pI F0 mI_104) mI_102) mI_103) mS_59_62)))))))))))))))))) (fun _ hk6 => (Pc_if (fun _ => (Pc_gd (fun g10 => (hk6 _)))) (fun _ => (hk6 _))))))))))))) (fun _ hk3 => (Pc_if (fun _ => (Pc_b1x (fun _ => (Pc_if (fun _ => (Pc_some2 F0)) (fun _ => hk3))))) (fun _ => hk3))))) (fun _ hk2 => (Pc_jn0 (hk2 _) (fun _ hk11 => (Pc_if (fun _ => (Pc_if (fun _ => (Pc_if (fun _ => hk11) (fun _ => (hk2 _)))) (fun _ => hk11))) (fun _ => hk11))))))))))) (fun _ => (Pc_some2 F0)))))))))
theorem v_X12_need {WS : List (Nat × Nat)} {WI WJ : List Nat} {b : SS} {s0 : SS} {a0 : Int32} {a1 : Int32} (mI_106 : WI.contains 106 = true) (mI_107 : WI.contains 107 = true) (mI_108 : WI.contains 108 = true) (mS_59_67 : WS.contains (59, 67) = true) (F0 : Frm WS WI WJ b s0) : Pc (f_X12_need s0 a0 a1) (fun r => Frm WS WI WJ b r.2) := by
  unfold f_X12_need
  exact (Pc_if (fun _ => (Pc_some2 F0)) (fun _ => (Pc_b1x (fun _ => (Pc_if (fun _ => (Pc_some2 F0)) (fun _ => (Pc_if (fun _ => (Pc_some2 F0)) (fun _ => (Pc_b1x (fun _ => (Pc_if (fun _ => (Pc_some2 F0)) (fun _ => (Pc_if (fun _ => (Pc_some2 F0)) (fun _ => (Pc_vl (Pc_vl (Pc_gd (fun g1 => (Pc_st (Pc_vl (Pc_vl (Pc_gd (fun g2 => (Pc_st (Pc_vl (Pc_gd (fun g3 => (Pc_st (Pc_vl (Pc_st (Pc_some2 (Frm.pS (Frm.pI (Frm.pI (Frm.pI F0 mI_106) mI_107) mI_108) mS_59_67))))))))))))))))))))))))))))))))
theorem v_X12_order_L32 {WS : List (Nat × Nat)} {WI WJ : List Nat} {b : SS} {q0 : SS → Option (Int32 × SS)} {y1 : Int32} {Q : Int32 × SS → Prop} (mI_109 : WI.contains 109 = true) (hq0 : ∀ (z0 : SS), Frm WS WI WJ b z0 → Pc (q0 z0) Q) : ∀ (n : Nat) (s : SS) (x2 : Int32), Frm WS WI WJ b s → Pc (f_X12_order_L32 q0 y1 n s x2) Q := by
  intro n
  induction n with
  | zero => intro s x2 F1; exact Pc_none
  | succ n ih =>
    intro s x2 F1
    show Pc (f_X12_order_L32_b q0 y1 (f_X12_order_L32 q0 y1 n) s x2) Q
    unfold f_X12_order_L32_b
    exact (Pc_if (fun _ => (Pc_jnS (P := Frm WS WI WJ b) (fun _ F2 => (Pc_vl (ih _ _ F2))) (fun _ hk1 => (Pc_if (fun _ => (hk1 _ F1)) (fun _ => (Pc_b1x (fun _ => (Pc_vl (Pc_gd (fun g3 => (Pc_vl (Pc_gd (fun g4 => (Pc_if (fun _ => (Pc_gd (fun g5 => (Pc_st (hk1 _ (Frm.pI F1 mI_109)))))) (fun _ => (hk1 _ F1)))))))))))))))) (fun _ => (hq0 _ F1)))
theorem v_X12_order_L11 {WS : List (Nat × Nat)} {WI WJ : List Nat} {b : SS} {q0 : SS → Option (Int32 × SS)} {Q : Int32 × SS → Prop} (mI_109 : WI.contains 109 = true) (hq0 : ∀ (z0 : SS), Frm WS WI WJ b z0 → Pc (q0 z0) Q) : ∀ (n : Nat) (s : SS) (x1 : Int32), Frm WS WI WJ b s → Pc (f_X12_order_L11 q0 n s x1) Q := by
  intro n
  induction n with
  | zero => intro s x1 F1; exact Pc_none
  | succ n ih =>
    intro s x1 F1
    show Pc (f_X12_order_L11_b q0 (f_X12_order_L11 q0 n) s x1) Q
    unfold f_X12_order_L11_b
    exact (Pc_if (fun _ => (Pc_gd (fun g1 => (Pc_st (v_X12_order_L32 mI_109 (fun _ F2 => by exact (Pc_vl (ih _ _ F2))) _ _ _ (Frm.pI F1 mI_109)))))) (fun _ => (hq0 _ F1)))
theorem v_X12_order_L129 {WS : List (Nat × Nat)} {WI WJ : List Nat} {b : SS} {q0 : Int32 → Option (Int32 × SS)} {sb : SS} {y1 : Int32} {y2 : Int32} {y3 : Int32} {Q : Int32 × SS → Prop} (F0 : Frm WS WI WJ b sb) (hq0 : ∀ (z0 : Int32), Pc (q0 z0) Q) : ∀ (n : Nat) (x4 : Int32), Pc (f_X12_order_L129 q0 sb y1 y2 y3 n x4) Q := by
  intro n
  induction n with
  | zero => intro x4; exact Pc_none
  | succ n ih =>
    intro x4
    show Pc (f_X12_order_L129_b q0 sb y1 y2 y3 (f_X12_order_L129 q0 sb y1 y2 y3 n) x4) Q
    unfold f_X12_order_L129_b
    exact (Pc_jn0 (Pc_vl (ih _)) (fun _ hk1 => (Pc_if (fun _ => hk1) (fun _ => (Pc_b1x (fun _ => (Pc_vl (Pc_gd (fun g2 => (Pc_gd (fun g3 => (Pc_if (fun _ => (hq0 _)) (fun _ => hk1)))))))))))))
theorem v_X12_order_L118 {WS : List (Nat × Nat)} {WI WJ : List Nat} {b : SS} {q0 : SS → Option (Int32 × SS)} {y2 : Int32} {Q : Int32 × SS → Prop} (mI_110 : WI.contains 110 = true) (hq0 : ∀ (z0 : SS), Frm WS WI WJ b z0 → Pc (q0 z0) Q) : ∀ (n : Nat) (s : SS) (x1 : Int32) (x3 : Int32), Frm WS WI WJ b s → Pc (f_X12_order_L118 q0 y2 n s x1 x3) Q := by
  intro n
  induction n with
  | zero => intro s x1 x3 F1; exact Pc_none
  | succ n ih =>
    intro s x1 x3 F1
    show Pc (f_X12_order_L118_b q0 y2 (f_X12_order_L118 q0 y2 n) s x1 x3) Q
    unfold f_X12_order_L118_b
    exact (Pc_if (fun _ => (v_X12_order_L129 F1 (fun _ => by exact (Pc_gd (fun g1 => (Pc_st (Pc_vl (Pc_vl (ih _ _ _ (Frm.pI F1 mI_110)))))))) _ _)) (fun _ => (hq0 _ F1)))
theorem v_X12_order {WS : List (Nat × Nat)} {WI WJ : List Nat} {b : SS} {s0 : SS} (mI_109 : WI.contains 109 = true) (mI_110 : WI.contains 110 = true) (mS_59_67 : WS.contains (59, 67) = true) (mS_59_72 : WS.contains (59, 72) = true) (F0 : Frm WS WI WJ b s0) : Pc (f_X12_order s0) (fun r => Frm WS WI WJ b r.2) := by
  unfold f_X12_order
  exact (Pc_if (fun _ => (Pc_some2 F0)) (fun _ => (v_X12_order_L11 mI_109 (fun _ F1 => by exact (Pc_vl (Pc_gd (fun g2 => (Pc_vl (v_X12_order_L118 mI_110 (fun _ F3 => by exact (Pc_vl (Pc_st (Pc_st (Pc_some2 (Frm.pS (Frm.pS F3 mS_59_72) mS_59_67)))))) _ _ _ _ F1)))))) _ _ _ F0)))
theorem v_X12_watch_L29 {WS : List (Nat × Nat)} {WI WJ : List Nat} {b : SS} {q0 : SS → Int32 → Option (Int32 × SS)} {y1 : Int32} {y2 : Int32} {Q : Int32 × SS → Prop} (mI_111 : WI.contains 111 = true) (hq0 : ∀ (z0 : SS) (z1 : Int32), Frm WS WI WJ b z0 → Pc (q0 z0 z1) Q) : ∀ (n : Nat) (s : SS) (x3 : Int32) (x4 : Int32) (x5 : Int32), Frm WS WI WJ b s → Pc (f_X12_watch_L29 q0 y1 y2 n s x3 x4 x5) Q := by
  intro n
  induction n with
  | zero => intro s x3 x4 x5 F1; exact Pc_none
  | succ n ih =>
    intro s x3 x4 x5 F1
    show Pc (f_X12_watch_L29_b q0 y1 y2 (f_X12_watch_L29 q0 y1 y2 n) s x3 x4 x5) Q
    unfold f_X12_watch_L29_b
    exact (Pc_if (fun _ => (Pc_if (fun _ => (Pc_gd (fun g1 => (Pc_jnS2 (P := Frm WS WI WJ b) (fun _ _ _ F3 => (Pc_vl (ih _ _ _ _ F3))) (fun _ hk2 => (Pc_if (fun _ => (hk2 _ _ _ F1)) (fun _ => (Pc_vl (Pc_gd (fun g4 => (Pc_if (fun _ => (hk2 _ _ _ F1)) (fun _ => (Pc_if (fun _ => (hk2 _ _ _ F1)) (fun _ => (Pc_gd (fun g5 => (Pc_st (Pc_vl (hk2 _ _ _ (Frm.pI F1 mI_111)))))))))))))))))))) (fun _ => (hq0 _ _ F1)))) (fun _ => (hq0 _ _ F1)))
theorem v_X12_watch_L102 {WS : List (Nat × Nat)} {WI WJ : List Nat} {b : SS} {q0 : SS → Option (Int32 × SS)} {y1 : Int32} {y3 : Int32} {Q : Int32 × SS → Prop} (mI_111 : WI.contains 111 = true) (hq0 : ∀ (z0 : SS), Frm WS WI WJ b z0 → Pc (q0 z0) Q) : ∀ (n : Nat) (s : SS) (x5 : Int32), Frm WS WI WJ b s → Pc (f_X12_watch_L102 q0 y1 y3 n s x5) Q := by
  intro n
  induction n with
  | zero => intro s x5 F1; exact Pc_none
  | succ n ih =>
    intro s x5 F1
    show Pc (f_X12_watch_L102_b q0 y1 y3 (f_X12_watch_L102 q0 y1 y3 n) s x5) Q
    unfold f_X12_watch_L102_b
    exact (Pc_if (fun _ => (Pc_gd (fun g1 => (Pc_st (Pc_vl (ih _ _ (Frm.pI F1 mI_111))))))) (fun _ => (hq0 _ F1)))
theorem v_X12_watch {WS : List (Nat × Nat)} {WI WJ : List Nat} {b : SS} {s0 : SS} {a0 : Int32} {a1 : Int32} (mI_111 : WI.contains 111 = true) (mS_59_74 : WS.contains (59, 74) = true) (F0 : Frm WS WI WJ b s0) : Pc (f_X12_watch s0 a0 a1) (fun r => Frm WS WI WJ b r.2) := by
  unfold f_X12_watch
  exact (Pc_b1x (fun _ => (Pc_if (fun _ => (Pc_some2 F0)) (fun _ => (Pc_b1x (fun _ => (Pc_if (fun _ => (Pc_some2 F0)) (fun _ => (v_X12_watch_L29 mI_111 (fun _ _ F1 => by exact (v_X12_watch_L102 mI_111 (fun _ F2 => by exact (Pc_st (Pc_some2 (Frm.pS F2 mS_59_74)))) _ _ _ F1)) _ _ _ _ _ F0)))))))))
theorem v_X12_aim {WS : List (Nat × Nat)} {WI WJ : List Nat} {b : SS} {s0 : SS} {a0 : Int32} {a1 : Int32} (mI_112 : WI.contains 112 = true) (mS_59_76 : WS.contains (59, 76) = true) (F0 : Frm WS WI WJ b s0) : Pc (f_X12_aim s0 a0 a1) (fun r => Frm WS WI WJ b r.2) := by
  unfold f_X12_aim
  exact (Pc_b1x (fun _ => (Pc_if (fun _ => (Pc_some2 F0)) (fun _ => (Pc_b1x (fun _ => (Pc_if (fun _ => (Pc_some2 F0)) (fun _ => (Pc_if (fun _ => (Pc_some2 F0)) (fun _ => (Pc_vl (Pc_gd (fun g1 => (Pc_st (Pc_vl (Pc_st (Pc_some2 (Frm.pS (Frm.pI F0 mI_112) mS_59_76))))))))))))))))))
theorem v_X12_rock {WS : List (Nat × Nat)} {WI WJ : List Nat} {b : SS} {s0 : SS} {a0 : Int32} {a1 : Int32} {a2 : Int32} (mI_113 : WI.contains 113 = true) (F0 : Frm WS WI WJ b s0) : Pc (f_X12_rock s0 a0 a1 a2) (fun r => Frm WS WI WJ b r.2) := by
  unfold f_X12_rock
  exact (Pc_b1x (fun _ => (Pc_if (fun _ => (Pc_some2 F0)) (fun _ => (Pc_b1x (fun _ => (Pc_if (fun _ => (Pc_some2 F0)) (fun _ => (Pc_b1x (fun _ => (Pc_if (fun _ => (Pc_some2 F0)) (fun _ => (Pc_vl (Pc_gd (fun g1 => (Pc_vl (Pc_vl (Pc_gd (fun g2 => (Pc_st (Pc_some2 (Frm.pI F0 mI_113))))))))))))))))))))))
theorem v_X12_aimed_L130 {WS : List (Nat × Nat)} {WI WJ : List Nat} {b : SS} {q0 : SS → Int32 → Option (Int32 × SS)} {y1 : Int32} {y2 : Int32} {y3 : Int32} {y5 : Int32} {y6 : Int32} {y7 : Int32} {Q : Int32 × SS → Prop} (mI_114 : WI.contains 114 = true) (mI_115 : WI.contains 115 = true) (hq0 : ∀ (z0 : SS) (z1 : Int32), Frm WS WI WJ b z0 → Pc (q0 z0 z1) Q) : ∀ (n : Nat) (s : SS) (x4 : Int32) (x8 : Int32), Frm WS WI WJ b s → Pc (f_X12_aimed_L130 q0 y1 y2 y3 y5 y6 y7 n s x4 x8) Q := by
  intro n
  induction n with
  | zero => intro s x4 x8 F1; exact Pc_none
  | succ n ih =>
    intro s x4 x8 F1
    show Pc (f_X12_aimed_L130_b q0 y1 y2 y3 y5 y6 y7 (f_X12_aimed_L130 q0 y1 y2 y3 y5 y6 y7 n) s x4 x8) Q
    unfold f_X12_aimed_L130_b
    exact (Pc_if (fun _ => (Pc_b1x (fun _ => (Pc_jn1 (fun _ => (Pc_jn1 (fun _ => (Pc_jnS1 (P := Frm WS WI WJ b) (fun _ _ F4 => (Pc_vl (ih _ _ _ F4))) (fun _ hk3 => (Pc_if (fun _ => (Pc_st (Pc_st (Pc_st (Pc_st (hk3 _ _ (Frm.pI (Frm.pI (Frm.pI (Frm.pI F1 mI_114) mI_115) mI_114) mI_115))))))) (fun _ => (hk3 _ _ F1)))))) (fun _ hk2 => (Pc_if (fun _ => (hk2 _)) (fun _ => (hk2 _)))))) (fun _ hk1 => (Pc_if (fun _ => (Pc_b1x (fun _ => (hk1 _)))) (fun _ => (hk1 _)))))))) (fun _ => (hq0 _ _ F1)))
theorem v_X12_aimed_L109 {WS : List (Nat × Nat)} {WI WJ : List Nat} {b : SS} {q0 : SS → Int32 → Option (Int32 × SS)} {y1 : Int32} {y2 : Int32} {y3 : Int32} {y5 : Int32} {y6 : Int32} {Q : Int32 × SS → Prop} (mI_114 : WI.contains 114 = true) (mI_115 : WI.contains 115 = true) (hq0 : ∀ (z0 : SS) (z1 : Int32), Frm WS WI WJ b z0 → Pc (q0 z0 z1) Q) : ∀ (n : Nat) (s : SS) (x4 : Int32) (x7 : Int32), Frm WS WI WJ b s → Pc (f_X12_aimed_L109 q0 y1 y2 y3 y5 y6 n s x4 x7) Q := by
  intro n
  induction n with
  | zero => intro s x4 x7 F1; exact Pc_none
  | succ n ih =>
    intro s x4 x7 F1
    show Pc (f_X12_aimed_L109_b q0 y1 y2 y3 y5 y6 (f_X12_aimed_L109 q0 y1 y2 y3 y5 y6 n) s x4 x7) Q
    unfold f_X12_aimed_L109_b
    exact (Pc_if (fun _ => (Pc_jn1 (fun _ => (v_X12_aimed_L130 mI_114 mI_115 (fun _ _ F2 => by exact (Pc_vl (ih _ _ _ F2))) _ _ _ _ F1)) (fun _ hk1 => (Pc_if (fun _ => (hk1 _)) (fun _ => (hk1 _)))))) (fun _ => (hq0 _ _ F1)))
theorem v_X12_aimed_L73 {WS : List (Nat × Nat)} {WI WJ : List Nat} {b : SS} {q0 : SS → Int32 → Option (Int32 × SS)} {y1 : Int32} {y2 : Int32} {y3 : Int32} {y5 : Int32} {Q : Int32 × SS → Prop} (mI_114 : WI.contains 114 = true) (mI_115 : WI.contains 115 = true) (hq0 : ∀ (z0 : SS) (z1 : Int32), Frm WS WI WJ b z0 → Pc (q0 z0 z1) Q) : ∀ (n : Nat) (s : SS) (x4 : Int32) (x6 : Int32), Frm WS WI WJ b s → Pc (f_X12_aimed_L73 q0 y1 y2 y3 y5 n s x4 x6) Q := by
  intro n
  induction n with
  | zero => intro s x4 x6 F1; exact Pc_none
  | succ n ih =>
    intro s x4 x6 F1
    show Pc (f_X12_aimed_L73_b q0 y1 y2 y3 y5 (f_X12_aimed_L73 q0 y1 y2 y3 y5 n) s x4 x6) Q
    unfold f_X12_aimed_L73_b
    exact (Pc_jn1 (fun _ => (Pc_if (fun _ => (Pc_jnS1 (P := Frm WS WI WJ b) (fun _ _ F3 => (Pc_vl (ih _ _ _ F3))) (fun _ hk2 => (Pc_jn0 (v_X12_aimed_L109 mI_114 mI_115 (fun _ _ F5 => by exact (hk2 _ _ F5)) _ _ _ _ F1) (fun _ hk4 => (Pc_if (fun _ => (Pc_if (fun _ => (hk2 _ _ F1)) (fun _ => hk4))) (fun _ => hk4))))))) (fun _ => (hq0 _ _ F1)))) (fun _ hk1 => (Pc_if (fun _ => (hk1 _)) (fun _ => (hk1 _)))))
theorem v_X12_aimed_L61 {WS : List (Nat × Nat)} {WI WJ : List Nat} {b : SS} {q0 : SS → Int32 → Option (Int32 × SS)} {y1 : Int32} {y2 : Int32} {y3 : Int32} {Q : Int32 × SS → Prop} (mI_114 : WI.contains 114 = true) (mI_115 : WI.contains 115 = true) (hq0 : ∀ (z0 : SS) (z1 : Int32), Frm WS WI WJ b z0 → Pc (q0 z0 z1) Q) : ∀ (n : Nat) (s : SS) (x4 : Int32) (x5 : Int32), Frm WS WI WJ b s → Pc (f_X12_aimed_L61 q0 y1 y2 y3 n s x4 x5) Q := by
  intro n
  induction n with
  | zero => intro s x4 x5 F1; exact Pc_none
  | succ n ih =>
    intro s x4 x5 F1
    show Pc (f_X12_aimed_L61_b q0 y1 y2 y3 (f_X12_aimed_L61 q0 y1 y2 y3 n) s x4 x5) Q
    unfold f_X12_aimed_L61_b
    exact (Pc_if (fun _ => (v_X12_aimed_L73 mI_114 mI_115 (fun _ _ F1 => by exact (Pc_vl (ih _ _ _ F1))) _ _ _ _ F1)) (fun _ => (hq0 _ _ F1)))
theorem v_X12_aimed {WS : List (Nat × Nat)} {WI WJ : List Nat} {b : SS} {s0 : SS} {a0 : Int32} {a1 : Int32} {a2 : Int32} (mI_114 : WI.contains 114 = true) (mI_115 : WI.contains 115 = true) (mS_59_76 : WS.contains (59, 76) = true) (mS_59_79 : WS.contains (59, 79) = true) (F0 : Frm WS WI WJ b s0) : Pc (f_X12_aimed s0 a0 a1 a2) (fun r => Frm WS WI WJ b r.2) := by
  unfold f_X12_aimed
  exact (Pc_b1x (fun _ => (Pc_if (fun _ => (Pc_some2 F0)) (fun _ => (Pc_b1x (fun _ => (Pc_if (fun _ => (Pc_some2 F0)) (fun _ => (Pc_b1x (fun _ => (Pc_if (fun _ => (Pc_some2 F0)) (fun _ => (Pc_if (fun _ => (Pc_some2 F0)) (fun _ => (Pc_jn0 (v_X12_aimed_L61 mI_114 mI_115 (fun _ _ F2 => by exact (Pc_st (Pc_st (Pc_some2 (Frm.pS (Frm.pS F2 mS_59_79) mS_59_76))))) _ _ _ _ F0) (fun _ hk1 => (Pc_if (fun _ => (Pc_if (fun _ => (Pc_some2 F0)) (fun _ => hk1))) (fun _ => hk1))))))))))))))))))
theorem v_X12_capsule_L85 {WS : List (Nat × Nat)} {WI WJ : List Nat} {b : SS} {q0 : SS → Int32 → Option (Int32 × SS)} {y1 : Int32} {y2 : Int32} {y3 : Int32} {y4 : Int32} {Q : Int32 × SS → Prop} (mI_116 : WI.contains 116 = true) (mI_117 : WI.contains 117 = true) (hq0 : ∀ (z0 : SS) (z1 : Int32), Frm WS WI WJ b z0 → Pc (q0 z0 z1) Q) : ∀ (n : Nat) (s : SS) (x5 : Int32), Frm WS WI WJ b s → Pc (f_X12_capsule_L85 q0 y1 y2 y3 y4 n s x5) Q := by
  intro n
  induction n with
  | zero => intro s x5 F1; exact Pc_none
  | succ n ih =>
    intro s x5 F1
    show Pc (f_X12_capsule_L85_b q0 y1 y2 y3 y4 (f_X12_capsule_L85 q0 y1 y2 y3 y4 n) s x5) Q
    unfold f_X12_capsule_L85_b
    exact (Pc_if (fun _ => (Pc_vl (Pc_gd (fun g1 => (Pc_if (fun _ => (Pc_vl (Pc_gd (fun g2 => (Pc_vl (Pc_gd (fun g3 => (Pc_st (Pc_vl (Pc_gd (fun g4 => (Pc_vl (Pc_gd (fun g5 => (Pc_st (Pc_vl (ih _ _ (Frm.pI (Frm.pI F1 mI_116) mI_117)))))))))))))))))) (fun _ => (hq0 _ _ F1))))))) (fun _ => (hq0 _ _ F1)))
theorem v_X12_capsule_L53 {WS : List (Nat × Nat)} {WI WJ : List Nat} {b : SS} {q0 : SS → Int32 → Option (Int32 × SS)} {y1 : Int32} {Q : Int32 × SS → Prop} (mI_95 : WI.contains 95 = true) (mI_96 : WI.contains 96 = true) (mI_116 : WI.contains 116 = true) (mI_117 : WI.contains 117 = true) (hq0 : ∀ (z0 : SS) (z1 : Int32), Frm WS WI WJ b z0 → Pc (q0 z0 z1) Q) : ∀ (n : Nat) (s : SS) (x2 : Int32) (x3 : Int32), Frm WS WI WJ b s → Pc (f_X12_capsule_L53 q0 y1 n s x2 x3) Q := by
  intro n
  induction n with
  | zero => intro s x2 x3 F1; exact Pc_none
  | succ n ih =>
    intro s x2 x3 F1
    show Pc (f_X12_capsule_L53_b q0 y1 (f_X12_capsule_L53 q0 y1 n) s x2 x3) Q
    unfold f_X12_capsule_L53_b
    exact (Pc_if (fun _ => (Pc_gd (fun g1 => (Pc_jnS1 (P := Frm WS WI WJ b) (fun _ _ F3 => (Pc_vl (ih _ _ _ F3))) (fun _ hk2 => (Pc_if (fun _ => (hk2 _ _ F1)) (fun _ => (Pc_bd (Pc.mono (v_X12_saysNow mI_95 mI_96 F1) (fun _ F4 => (v_X12_capsule_L85 mI_116 mI_117 (fun _ _ F5 => by exact (Pc_gd (fun g6 => (Pc_st (Pc_gd (fun g7 => (Pc_st (Pc_vl (hk2 _ _ (Frm.pI (Frm.pI F5 mI_116) mI_117)))))))))) _ _ _ F4))))))))))) (fun _ => (hq0 _ _ F1)))
theorem v_X12_capsule_L170 {WS : List (Nat × Nat)} {WI WJ : List Nat} {b : SS} {q0 : SS → Option (Int32 × SS)} {y1 : Int32} {y2 : Int32} {Q : Int32 × SS → Prop} (mI_118 : WI.contains 118 = true) (hq0 : ∀ (z0 : SS), Frm WS WI WJ b z0 → Pc (q0 z0) Q) : ∀ (n : Nat) (s : SS) (x3 : Int32), Frm WS WI WJ b s → Pc (f_X12_capsule_L170 q0 y1 y2 n s x3) Q := by
  intro n
  induction n with
  | zero => intro s x3 F1; exact Pc_none
  | succ n ih =>
    intro s x3 F1
    show Pc (f_X12_capsule_L170_b q0 y1 y2 (f_X12_capsule_L170 q0 y1 y2 n) s x3) Q
    unfold f_X12_capsule_L170_b
    exact (Pc_if (fun _ => (Pc_gd (fun g1 => (Pc_vl (Pc_gd (fun g2 => (Pc_st (Pc_vl (ih _ _ (Frm.pI F1 mI_118)))))))))) (fun _ => (hq0 _ F1)))
theorem v_X12_capsule {WS : List (Nat × Nat)} {WI WJ : List Nat} {b : SS} {s0 : SS} {a0 : Int32} (mI_95 : WI.contains 95 = true) (mI_96 : WI.contains 96 = true) (mI_116 : WI.contains 116 = true) (mI_117 : WI.contains 117 = true) (mI_118 : WI.contains 118 = true) (mS_59_82 : WS.contains (59, 82) = true) (mS_59_83 : WS.contains (59, 83) = true) (F0 : Frm WS WI WJ b s0) : Pc (f_X12_capsule s0 a0) (fun r => Frm WS WI WJ b r.2) := by
  unfold f_X12_capsule
  exact (Pc_b1x (fun _ => (Pc_if (fun _ => (Pc_some2 F0)) (fun _ => (Pc_gd (fun g1 => (Pc_jn0 (Pc_gd (fun g3 => (Pc_if (fun _ => (Pc_some2 F0)) (fun _ => (Pc_b1x (fun _ => (Pc_if (fun _ => (Pc_some2 F0)) (fun _ => (v_X12_capsule_L53 mI_95 mI_96 mI_116 mI_117 (fun _ _ F4 => by exact (v_X12_capsule_L170 mI_118 (fun _ F5 => by exact (Pc_st (Pc_vl (Pc_st (Pc_vl (Pc_gd (fun g6 => (Pc_some2 (Frm.pS (Frm.pS F5 mS_59_82) mS_59_83))))))))) _ _ _ F4)) _ _ _ _ F0))))))))) (fun _ hk2 => (Pc_if (fun _ => hk2) (fun _ => (Pc_gd (fun g7 => (Pc_if (fun _ => hk2) (fun _ => (Pc_some2 F0)))))))))))))))
theorem v_X12_raise_L27 {WS : List (Nat × Nat)} {WI WJ : List Nat} {b : SS} {y1 : Int32} {Q : Int32 × SS → Prop} (mI_77 : WI.contains 77 = true) (hr : ∀ v s, Frm WS WI WJ b s → Q (v, s)) : ∀ (n : Nat) (s : SS) (x2 : Int32) (x3 : Int32), Frm WS WI WJ b s → Pc (f_X12_raise_L27 y1 n s x2 x3) Q := by
  intro n
  induction n with
  | zero => intro s x2 x3 F1; exact Pc_none
  | succ n ih =>
    intro s x2 x3 F1
    show Pc (f_X12_raise_L27_b y1 (f_X12_raise_L27 y1 n) s x2 x3) Q
    unfold f_X12_raise_L27_b
    exact (Pc_if (fun _ => (Pc_gd (fun g1 => (Pc_jnS1 (P := Frm WS WI WJ b) (fun _ _ F3 => (Pc_vl (ih _ _ _ F3))) (fun _ hk2 => (Pc_if (fun _ => (hk2 _ _ F1)) (fun _ => (Pc_gd (fun g4 => (Pc_vl (Pc_gd (fun g5 => (Pc_if (fun _ => (hk2 _ _ F1)) (fun _ => (Pc_gd (fun g6 => (Pc_vl (Pc_gd (fun g7 => (Pc_st (Pc_vl (hk2 _ _ (Frm.pI F1 mI_77))))))))))))))))))))))) (fun _ => (Pc_some (hr _ _ F1))))
theorem v_X12_raise {WS : List (Nat × Nat)} {WI WJ : List Nat} {b : SS} {s0 : SS} {a0 : Int32} (mI_77 : WI.contains 77 = true) (F0 : Frm WS WI WJ b s0) : Pc (f_X12_raise s0 a0) (fun r => Frm WS WI WJ b r.2) := by
  unfold f_X12_raise
  exact (Pc_b1x (fun _ => (Pc_if (fun _ => (Pc_some2 F0)) (fun _ => (Pc_if (fun _ => (Pc_some2 F0)) (fun _ => (v_X12_raise_L27 mI_77 (fun _ _ h => h) _ _ _ _ F0)))))))
theorem v_X12_ran {WS : List (Nat × Nat)} {WI WJ : List Nat} {b : SS} {s0 : SS} {a0 : Int32} (mI_119 : WI.contains 119 = true) (mS_59_87 : WS.contains (59, 87) = true) (F0 : Frm WS WI WJ b s0) : Pc (f_X12_ran s0 a0) (fun r => Frm WS WI WJ b r) := by
  unfold f_X12_ran
  exact (Pc_jnS (P := Frm WS WI WJ b) (fun _ F2 => (Pc_vl (Pc_st (Pc_some (Frm.pS F2 mS_59_87))))) (fun _ hk1 => (Pc_if (fun _ => (Pc_vl (Pc_gd (fun g3 => (Pc_st (hk1 _ (Frm.pI F0 mI_119))))))) (fun _ => (hk1 _ F0)))))
theorem v_X12_plainBores {WS : List (Nat × Nat)} {WI WJ : List Nat} {b : SS} {s0 : SS} {a0 : Int32} {a1 : Int32} (mI_119 : WI.contains 119 = true) (mS_59_87 : WS.contains (59, 87) = true) (F0 : Frm WS WI WJ b s0) : Pc (f_X12_plainBores s0 a0 a1) (fun r => Frm WS WI WJ b r.2) := by
  unfold f_X12_plainBores
  exact (Pc_b1 (Pc.mono (v_X12_ran mI_119 mS_59_87 F0) (fun _ F1 => (Pc_some2 F1))))
theorem v_X12_wayBores {WS : List (Nat × Nat)} {WI WJ : List Nat} {b : SS} {s0 : SS} {a0 : Int32} {a1 : Int32} (mI_119 : WI.contains 119 = true) (mS_59_87 : WS.contains (59, 87) = true) (F0 : Frm WS WI WJ b s0) : Pc (f_X12_wayBores s0 a0 a1) (fun r => Frm WS WI WJ b r.2) := by
  unfold f_X12_wayBores
  exact (Pc_b1 (Pc.mono (v_X12_ran mI_119 mS_59_87 F0) (fun _ F1 => (Pc_bd (Pc.mono (v_X12_plainBores mI_119 mS_59_87 F1) (fun _ F2 => (Pc_some2 F2)))))))
theorem v_X12_shaftBores {WS : List (Nat × Nat)} {WI WJ : List Nat} {b : SS} {s0 : SS} {a0 : Int32} {a1 : Int32} (mI_119 : WI.contains 119 = true) (mS_59_87 : WS.contains (59, 87) = true) (F0 : Frm WS WI WJ b s0) : Pc (f_X12_shaftBores s0 a0 a1) (fun r => Frm WS WI WJ b r.2) := by
  unfold f_X12_shaftBores
  exact (Pc_b1 (Pc.mono (v_X12_ran mI_119 mS_59_87 F0) (fun _ F1 => (Pc_bd (Pc.mono (v_X12_wayBores mI_119 mS_59_87 F1) (fun _ F2 => (Pc_some2 F2)))))))
theorem v_X12_bores {WS : List (Nat × Nat)} {WI WJ : List Nat} {b : SS} {s0 : SS} {a0 : Int32} {a1 : Int32} (mI_119 : WI.contains 119 = true) (mS_59_87 : WS.contains (59, 87) = true) (F0 : Frm WS WI WJ b s0) : Pc (f_X12_bores s0 a0 a1) (fun r => Frm WS WI WJ b r.2) := by
  unfold f_X12_bores
  exact (Pc_gd (fun g1 => (Pc_if (fun _ => (Pc_b1 (Pc.mono (v_X12_ran mI_119 mS_59_87 F0) (fun _ F2 => (Pc_bd (Pc.mono (v_X12_shaftBores mI_119 mS_59_87 F2) (fun _ F3 => (Pc_some2 F3)))))))) (fun _ => (Pc_gd (fun g4 => (Pc_if (fun _ => (Pc_bd (Pc.mono (v_X12_shaftBores mI_119 mS_59_87 F0) (fun _ F5 => (Pc_some2 F5))))) (fun _ => (Pc_gd (fun g6 => (Pc_b1x (fun _ => (Pc_if (fun _ => (Pc_bd (Pc.mono (v_X12_plainBores mI_119 mS_59_87 F0) (fun _ F7 => (Pc_some2 F7))))) (fun _ => (Pc_bd (Pc.mono (v_X12_wayBores mI_119 mS_59_87 F0) (fun _ F8 => (Pc_some2 F8))))))))))))))))))
theorem v_X12_plainCarries {WS : List (Nat × Nat)} {WI WJ : List Nat} {b : SS} {s0 : SS} {a0 : Int32} {a1 : Int32} (mI_119 : WI.contains 119 = true) (mS_59_87 : WS.contains (59, 87) = true) (F0 : Frm WS WI WJ b s0) : Pc (f_X12_plainCarries s0 a0 a1) (fun r => Frm WS WI WJ b r.2) := by
  unfold f_X12_plainCarries
  exact (Pc_b1 (Pc.mono (v_X12_ran mI_119 mS_59_87 F0) (fun _ F1 => (Pc_bd (Pc.mono (v_X12_bores mI_119 mS_59_87 F1) (fun _ F2 => (Pc_some2 F2)))))))
theorem v_X12_carries {WS : List (Nat × Nat)} {WI WJ : List Nat} {b : SS} {s0 : SS} {a0 : Int32} {a1 : Int32} (mI_119 : WI.contains 119 = true) (mS_59_87 : WS.contains (59, 87) = true) (F0 : Frm WS WI WJ b s0) : Pc (f_X12_carries s0 a0 a1) (fun r => Frm WS WI WJ b r.2) := by
  unfold f_X12_carries
  exact (Pc_gd (fun g1 => (Pc_b1x (fun _ => (Pc_if (fun _ => (Pc_gd (fun g2 => (Pc_if (fun _ => (Pc_b1 (Pc.mono (v_X12_ran mI_119 mS_59_87 F0) (fun _ F3 => (Pc_bd (Pc.mono (v_X12_plainCarries mI_119 mS_59_87 F3) (fun _ F4 => (Pc_gd (fun g5 => (Pc_some2 F4)))))))))) (fun _ => (Pc_bd (Pc.mono (v_X12_plainCarries mI_119 mS_59_87 F0) (fun _ F6 => (Pc_some2 F6))))))))) (fun _ => (Pc_b1 (Pc.mono (v_X12_ran mI_119 mS_59_87 F0) (fun _ F7 => (Pc_bd (Pc.mono (v_X12_plainCarries mI_119 mS_59_87 F7) (fun _ F8 => (Pc_gd (fun g9 => (Pc_some2 F8)))))))))))))))
theorem v_X12_plainHolds {WS : List (Nat × Nat)} {WI WJ : List Nat} {b : SS} {s0 : SS} {a0 : Int32} {a1 : Int32} (mI_119 : WI.contains 119 = true) (mS_59_87 : WS.contains (59, 87) = true) (F0 : Frm WS WI WJ b s0) : Pc (f_X12_plainHolds s0 a0 a1) (fun r => Frm WS WI WJ b r.2) := by
  unfold f_X12_plainHolds
  exact (Pc_b1 (Pc.mono (v_X12_ran mI_119 mS_59_87 F0) (fun _ F1 => (Pc_some2 F1))))
theorem v_X12_holdsBy {WS : List (Nat × Nat)} {WI WJ : List Nat} {b : SS} {s0 : SS} {a0 : Int32} {a1 : Int32} (mI_119 : WI.contains 119 = true) (mS_59_87 : WS.contains (59, 87) = true) (F0 : Frm WS WI WJ b s0) : Pc (f_X12_holdsBy s0 a0 a1) (fun r => Frm WS WI WJ b r.2) := by
  unfold f_X12_holdsBy
  exact (Pc_gd (fun g1 => (Pc_jn0 (Pc_bd (Pc.mono (v_X12_plainHolds mI_119 mS_59_87 F0) (fun _ F3 => (Pc_some2 F3)))) (fun _ hk2 => (Pc_if (fun _ => (Pc_b1 (Pc.mono (v_X12_ran mI_119 mS_59_87 F0) (fun _ F4 => (Pc_bd (Pc.mono (v_X12_plainHolds mI_119 mS_59_87 F4) (fun _ F5 => (Pc_bd (Pc.mono (v_X12_carries mI_119 mS_59_87 F5) (fun _ F6 => (Pc_some2 F6))))))))))) (fun _ => (Pc_if (fun _ => hk2) (fun _ => (Pc_if (fun _ => (Pc_b1 (Pc.mono (v_X12_ran mI_119 mS_59_87 F0) (fun _ F7 => (Pc_bd (Pc.mono (v_X12_plainHolds mI_119 mS_59_87 F7) (fun _ F8 => (Pc_some2 F8)))))))) (fun _ => (Pc_if (fun _ => (Pc_b1 (Pc.mono (v_X12_ran mI_119 mS_59_87 F0) (fun _ F9 => (Pc_bd (Pc.mono (v_X12_plainHolds mI_119 mS_59_87 F9) (fun _ F10 => (Pc_bd (Pc.mono (v_X12_plainCarries mI_119 mS_59_87 F10) (fun _ F11 => (Pc_some2 F11))))))))))) (fun _ => hk2))))))))))))
theorem v_X12_plainTells {WS : List (Nat × Nat)} {WI WJ : List Nat} {b : SS} {s0 : SS} {a0 : Int32} {a1 : Int32} (mI_119 : WI.contains 119 = true) (mS_59_87 : WS.contains (59, 87) = true) (F0 : Frm WS WI WJ b s0) : Pc (f_X12_plainTells s0 a0 a1) (fun r => Frm WS WI WJ b r.2) := by
  unfold f_X12_plainTells
  exact (Pc_b1 (Pc.mono (v_X12_ran mI_119 mS_59_87 F0) (fun _ F1 => (Pc_bd (Pc.mono (v_X12_carries mI_119 mS_59_87 F1) (fun _ F2 => (Pc_bd (Pc.mono (v_X12_holdsBy mI_119 mS_59_87 F2) (fun _ F3 => (Pc_some2 F3))))))))))
theorem v_X12_tells {WS : List (Nat × Nat)} {WI WJ : List Nat} {b : SS} {s0 : SS} {a0 : Int32} {a1 : Int32} (mI_119 : WI.contains 119 = true) (mS_59_87 : WS.contains (59, 87) = true) (F0 : Frm WS WI WJ b s0) : Pc (f_X12_tells s0 a0 a1) (fun r => Frm WS WI WJ b r.2) := by
  unfold f_X12_tells
  exact (Pc_gd (fun g1 => (Pc_b1x (fun _ => (Pc_if (fun _ => (Pc_bd (Pc.mono (v_X12_plainTells mI_119 mS_59_87 F0) (fun _ F2 => (Pc_some2 F2))))) (fun _ => (Pc_b1 (Pc.mono (v_X12_ran mI_119 mS_59_87 F0) (fun _ F3 => (Pc_bd (Pc.mono (v_X12_plainTells mI_119 mS_59_87 F3) (fun _ F4 => (Pc_some2 F4)))))))))))))
theorem v_X12_act {WS : List (Nat × Nat)} {WI WJ : List Nat} {b : SS} {s0 : SS} {a0 : Int32} {a1 : Int32} {a2 : Int32} (mI_119 : WI.contains 119 = true) (mS_59_87 : WS.contains (59, 87) = true) (F0 : Frm WS WI WJ b s0) : Pc (f_X12_act s0 a0 a1 a2) (fun r => Frm WS WI WJ b r.2) := by
  unfold f_X12_act
  exact (Pc_st (Pc_b1x (fun _ => (Pc_if (fun _ => (Pc_some2 (Frm.pS F0 mS_59_87))) (fun _ => (Pc_b1x (fun _ => (Pc_if (fun _ => (Pc_some2 (Frm.pS F0 mS_59_87))) (fun _ => (Pc_if (fun _ => (Pc_bd (Pc.mono (v_X12_bores mI_119 mS_59_87 (Frm.pS F0 mS_59_87)) (fun _ F1 => (Pc_some2 F1))))) (fun _ => (Pc_if (fun _ => (Pc_bd (Pc.mono (v_X12_carries mI_119 mS_59_87 (Frm.pS F0 mS_59_87)) (fun _ F2 => (Pc_some2 F2))))) (fun _ => (Pc_if (fun _ => (Pc_bd (Pc.mono (v_X12_holdsBy mI_119 mS_59_87 (Frm.pS F0 mS_59_87)) (fun _ F3 => (Pc_some2 F3))))) (fun _ => (Pc_bd (Pc.mono (v_X12_tells mI_119 mS_59_87 (Frm.pS F0 mS_59_87)) (fun _ F4 => (Pc_some2 F4)))))))))))))))))))
theorem v_X12_keep {WS : List (Nat × Nat)} {WI WJ : List Nat} {b : SS} {s0 : SS} {a0 : Int32} {a1 : Int32} (mI_120 : WI.contains 120 = true) (F0 : Frm WS WI WJ b s0) : Pc (f_X12_keep s0 a0 a1) (fun r => Frm WS WI WJ b r.2) := by
  unfold f_X12_keep
  exact (Pc_b1x (fun _ => (Pc_if (fun _ => (Pc_some2 F0)) (fun _ => (Pc_jn0 (Pc_gd (fun g2 => (Pc_st (Pc_some2 (Frm.pI F0 mI_120))))) (fun _ hk1 => (Pc_if (fun _ => hk1) (fun _ => (Pc_b1x (fun _ => (Pc_if (fun _ => (Pc_some2 F0)) (fun _ => hk1))))))))))))
theorem v_X12_row_L54 {WS : List (Nat × Nat)} {WI WJ : List Nat} {b : SS} {y1 : Int32} {Q : Int32 × SS → Prop} (mI_123 : WI.contains 123 = true) (mJ_122 : WJ.contains 122 = true) (hr : ∀ v s, Frm WS WI WJ b s → Q (v, s)) : ∀ (n : Nat) (s : SS) (x4 : Int32), Frm WS WI WJ b s → Pc (f_X12_row_L54 y1 n s x4) Q := by
  intro n
  induction n with
  | zero => intro s x4 F1; exact Pc_none
  | succ n ih =>
    intro s x4 F1
    show Pc (f_X12_row_L54_b y1 (f_X12_row_L54 y1 n) s x4) Q
    unfold f_X12_row_L54_b
    exact (Pc_if (fun _ => (Pc_gd (fun g1 => (Pc_st (Pc_gd (fun g2 => (Pc_st (Pc_vl (ih _ _ (Frm.pI (Frm.pJ F1 mJ_122) mI_123)))))))))) (fun _ => (Pc_some (hr _ _ F1))))
theorem v_X12_row {WS : List (Nat × Nat)} {WI WJ : List Nat} {b : SS} {s0 : SS} {a0 : Int32} {a1 : Int32} {a2 : Int32} (mI_120 : WI.contains 120 = true) (mI_121 : WI.contains 121 = true) (mI_123 : WI.contains 123 = true) (mJ_122 : WJ.contains 122 = true) (F0 : Frm WS WI WJ b s0) : Pc (f_X12_row s0 a0 a1 a2) (fun r => Frm WS WI WJ b r.2) := by
  unfold f_X12_row
  exact (Pc_b1x (fun _ => (Pc_if (fun _ => (Pc_some2 F0)) (fun _ => (Pc_b1x (fun _ => (Pc_if (fun _ => (Pc_some2 F0)) (fun _ => (Pc_if (fun _ => (Pc_some2 F0)) (fun _ => (Pc_if (fun _ => (Pc_some2 F0)) (fun _ => (Pc_vl (Pc_gd (fun g1 => (Pc_st (Pc_gd (fun g2 => (Pc_st (Pc_vl (v_X12_row_L54 mI_123 mJ_122 (fun _ _ h => h) _ _ _ (Frm.pI (Frm.pI F0 mI_120) mI_121))))))))))))))))))))))
theorem v_X12_put {WS : List (Nat × Nat)} {WI WJ : List Nat} {b : SS} {s0 : SS} {a0 : Int32} {a1 : Int32} {a2 : Int64} (mI_123 : WI.contains 123 = true) (mJ_122 : WJ.contains 122 = true) (F0 : Frm WS WI WJ b s0) : Pc (f_X12_put s0 a0 a1 a2) (fun r => Frm WS WI WJ b r.2) := by
  unfold f_X12_put
  exact (Pc_b1x (fun _ => (Pc_if (fun _ => (Pc_some2 F0)) (fun _ => (Pc_b1x (fun _ => (Pc_jn0 (Pc_b1x (fun _ => (Pc_if (fun _ => (Pc_some2 F0)) (fun _ => (Pc_gd (fun g2 => (Pc_vl (Pc_jn8 (fun _ => (Pc_vl (Pc_gd (fun g4 => (Pc_st (Pc_vl (Pc_gd (fun g5 => (Pc_st (Pc_some2 (Frm.pI (Frm.pJ F0 mJ_122) mI_123))))))))))) (fun _ hk3 => (Pc_if (fun _ => (hk3 _)) (fun _ => (Pc_if (fun _ => (hk3 _)) (fun _ => (Pc_if (fun _ => (hk3 _)) (fun _ => (hk3 _)))))))))))))))) (fun _ hk1 => (Pc_if (fun _ => hk1) (fun _ => (Pc_if (fun _ => (Pc_some2 F0)) (fun _ => (Pc_if (fun _ => (Pc_some2 F0)) (fun _ => hk1))))))))))))))
theorem v_X12_blank {WS : List (Nat × Nat)} {WI WJ : List Nat} {b : SS} {s0 : SS} {a0 : Int32} {a1 : Int32} (mI_123 : WI.contains 123 = true) (F0 : Frm WS WI WJ b s0) : Pc (f_X12_blank s0 a0 a1) (fun r => Frm WS WI WJ b r.2) := by
  unfold f_X12_blank
  exact (Pc_b1x (fun _ => (Pc_if (fun _ => (Pc_some2 F0)) (fun _ => (Pc_gd (fun g1 => (Pc_if (fun _ => (Pc_some2 F0)) (fun _ => (Pc_b1x (fun _ => (Pc_if (fun _ => (Pc_some2 F0)) (fun _ => (Pc_gd (fun g2 => (Pc_b1x (fun _ => (Pc_if (fun _ => (Pc_some2 F0)) (fun _ => (Pc_vl (Pc_gd (fun g3 => (Pc_st (Pc_some2 (Frm.pI F0 mI_123))))))))))))))))))))))))
theorem v_X12_shift_L113 {WS : List (Nat × Nat)} {WI WJ : List Nat} {b : SS} {q0 : SS → Option (Int32 × SS)} {y1 : Int32} {y2 : Int32} {y3 : Int32} {y4 : Int32} {y5 : Int32} {Q : Int32 × SS → Prop} (mI_125 : WI.contains 125 = true) (mJ_124 : WJ.contains 124 = true) (hq0 : ∀ (z0 : SS), Frm WS WI WJ b z0 → Pc (q0 z0) Q) : ∀ (n : Nat) (s : SS) (x6 : Int32), Frm WS WI WJ b s → Pc (f_X12_shift_L113 q0 y1 y2 y3 y4 y5 n s x6) Q := by
  intro n
  induction n with
  | zero => intro s x6 F1; exact Pc_none
  | succ n ih =>
    intro s x6 F1
    show Pc (f_X12_shift_L113_b q0 y1 y2 y3 y4 y5 (f_X12_shift_L113 q0 y1 y2 y3 y4 y5 n) s x6) Q
    unfold f_X12_shift_L113_b
    exact (Pc_if (fun _ => (Pc_vl (Pc_gd (fun g1 => (Pc_wl (Pc_gd (fun g2 => (Pc_st (Pc_vl (Pc_gd (fun g3 => (Pc_vl (Pc_gd (fun g4 => (Pc_st (Pc_vl (ih _ _ (Frm.pI (Frm.pJ F1 mJ_124) mI_125)))))))))))))))))) (fun _ => (hq0 _ F1)))
theorem v_X12_shift_L171 {WS : List (Nat × Nat)} {WI WJ : List Nat} {b : SS} {y3 : Int32} {y4 : Int32} {y5 : Int32} {Q : Int32 × SS → Prop} (mI_123 : WI.contains 123 = true) (mJ_122 : WJ.contains 122 = true) (hr : ∀ v s, Frm WS WI WJ b s → Q (v, s)) : ∀ (n : Nat) (s : SS) (x6 : Int32), Frm WS WI WJ b s → Pc (f_X12_shift_L171 y3 y4 y5 n s x6) Q := by
  intro n
  induction n with
  | zero => intro s x6 F1; exact Pc_none
  | succ n ih =>
    intro s x6 F1
    show Pc (f_X12_shift_L171_b y3 y4 y5 (f_X12_shift_L171 y3 y4 y5 n) s x6) Q
    unfold f_X12_shift_L171_b
    exact (Pc_if (fun _ => (Pc_gd (fun g1 => (Pc_wl (Pc_vl (Pc_gd (fun g2 => (Pc_st (Pc_gd (fun g3 => (Pc_vl (Pc_vl (Pc_gd (fun g4 => (Pc_st (Pc_vl (ih _ _ (Frm.pI (Frm.pJ F1 mJ_122) mI_123)))))))))))))))))) (fun _ => (Pc_some (hr _ _ F1))))
theorem v_X12_shift {WS : List (Nat × Nat)} {WI WJ : List Nat} {b : SS} {s0 : SS} {a0 : Int32} {a1 : Int32} {a2 : Int32} {a3 : Int32} {a4 : Int32} (mI_123 : WI.contains 123 = true) (mI_125 : WI.contains 125 = true) (mJ_122 : WJ.contains 122 = true) (mJ_124 : WJ.contains 124 = true) (F0 : Frm WS WI WJ b s0) : Pc (f_X12_shift s0 a0 a1 a2 a3 a4) (fun r => Frm WS WI WJ b r.2) := by
  unfold f_X12_shift
  exact (Pc_b1x (fun _ => (Pc_if (fun _ => (Pc_some2 F0)) (fun _ => (Pc_b1x (fun _ => (Pc_if (fun _ => (Pc_some2 F0)) (fun _ => (Pc_gd (fun g1 => (Pc_if (fun _ => (Pc_some2 F0)) (fun _ => (Pc_gd (fun g2 => (Pc_if (fun _ => (Pc_some2 F0)) (fun _ => (Pc_gd (fun g3 => (Pc_if (fun _ => (Pc_gd (fun g4 => (Pc_gd (fun g5 => (Pc_if (fun _ => (Pc_if (fun _ => (Pc_some2 F0)) (fun _ => (Pc_if (fun _ => (Pc_some2 F0)) (fun _ => (Pc_if (fun _ => (Pc_some2 F0)) (fun _ => (Pc_gd (fun g6 => (Pc_if (fun _ => (Pc_some2 F0)) (fun _ => (Pc_gd (fun g7 => (Pc_if (fun _ => (Pc_some2 F0)) (fun _ => (v_X12_shift_L113 mI_125 mJ_124 (fun _ F8 => by exact (v_X12_shift_L171 mI_123 mJ_122 (fun _ _ h => h) _ _ _ F8)) _ _ _ F0)))))))))))))))) (fun _ => (Pc_some2 F0)))))))) (fun _ => (Pc_some2 F0)))))))))))))))))))))
theorem v_X12_says {WS : List (Nat × Nat)} {WI WJ : List Nat} {b : SS} {s0 : SS} {a0 : Int32} {a1 : Int32} (mI_95 : WI.contains 95 = true) (mI_96 : WI.contains 96 = true) (F0 : Frm WS WI WJ b s0) : Pc (f_X12_says s0 a0 a1) (fun r => Frm WS WI WJ b r.2) := by
  unfold f_X12_says
  exact (Pc_b1x (fun _ => (Pc_if (fun _ => (Pc_some2 F0)) (fun _ => (Pc_jn0 (Pc_jn1 (fun _ => (Pc_bd (Pc.mono (v_X12_saysNow mI_95 mI_96 F0) (fun _ F3 => (Pc_some2 F3))))) (fun _ hk2 => (Pc_if (fun _ => (hk2 _)) (fun _ => (hk2 _))))) (fun _ hk1 => (Pc_if (fun _ => (Pc_if (fun _ => hk1) (fun _ => (Pc_some2 F0)))) (fun _ => (Pc_b1x (fun _ => (Pc_if (fun _ => (Pc_some2 F0)) (fun _ => hk1))))))))))))
theorem v_X9_comesBelow {WS : List (Nat × Nat)} {WI WJ : List Nat} {b : SS} {s0 : SS} {a0 : Int32} (S : Sh b) (mI_31 : WI.contains 31 = true) (mS_30_0 : WS.contains (30, 0) = true) (F0 : Frm WS WI WJ b s0) : Pc (f_X9_comesBelow s0 a0) (fun r => Frm WS WI WJ b r) := by
  unfold f_X9_comesBelow
  exact (Pc_vl (Pc_if (fun _ => (Pc_vl (Pc_st (Pc_some (Frm.pS F0 mS_30_0))))) (fun _ => (Pc_if (fun _ => (Pc_gd (fun g1 => (Pc_vl (Pc_gd (fun g2 => (Pc_st (Pc_some (Frm.pI F0 mI_31))))))))) (fun _ => (Pc_some F0))))))
theorem v_X9_arrivals_L4 {WS : List (Nat × Nat)} {WI WJ : List Nat} {b : SS} {q0 : SS → Int32 → Option SS} {y1 : Int32} {Q : SS → Prop} (S : Sh b) (mI_31 : WI.contains 31 = true) (mI_32 : WI.contains 32 = true) (mI_33 : WI.contains 33 = true) (mS_30_0 : WS.contains (30, 0) = true) (hq0 : ∀ (z0 : SS) (z1 : Int32), Frm WS WI WJ b z0 → Pc (q0 z0 z1) Q) : ∀ (n : Nat) (s : SS) (x2 : Int32) (x3 : Int32), Frm WS WI WJ b s → Pc (f_X9_arrivals_L4 q0 y1 n s x2 x3) Q := by
  intro n
  induction n with
  | zero => intro s x2 x3 F1; exact Pc_none
  | succ n ih =>
    intro s x2 x3 F1
    show Pc (f_X9_arrivals_L4_b q0 y1 (f_X9_arrivals_L4 q0 y1 n) s x2 x3) Q
    unfold f_X9_arrivals_L4_b
    exact (Pc_if (fun _ => (Pc_gd (fun g1 => (Pc_jnS1 (P := Frm WS WI WJ b) (fun _ _ F3 => (Pc_vl (ih _ _ _ F3))) (fun _ hk2 => (Pc_if (fun _ => (Pc_gd (fun g4 => (Pc_vl (Pc_gd (fun g5 => (Pc_st (Pc_gd (fun g6 => (Pc_vl (Pc_gd (fun g7 => (Pc_st (Pc_vl (hk2 _ _ (Frm.pI (Frm.pI F1 mI_32) mI_33)))))))))))))))) (fun _ => (Pc_gd (fun g8 => (Pc_b1 (Pc.mono (v_X9_comesBelow S mI_31 mS_30_0 F1) (fun _ F9 => (hk2 _ _ F9))))))))))))) (fun _ => (hq0 _ _ F1)))
theorem v_X9_arrivals {WS : List (Nat × Nat)} {WI WJ : List Nat} {b : SS} {s0 : SS} {a0 : Int32} (S : Sh b) (mI_31 : WI.contains 31 = true) (mI_32 : WI.contains 32 = true) (mI_33 : WI.contains 33 = true) (mS_30_0 : WS.contains (30, 0) = true) (mS_30_5 : WS.contains (30, 5) = true) (F0 : Frm WS WI WJ b s0) : Pc (f_X9_arrivals s0 a0) (fun r => Frm WS WI WJ b r) := by
  unfold f_X9_arrivals
  exact (v_X9_arrivals_L4 S mI_31 mI_32 mI_33 mS_30_0 (fun _ _ F1 => by exact (Pc_st (Pc_some (Frm.pS F1 mS_30_5)))) _ _ _ _ F0)
theorem v_X9_eats {WS : List (Nat × Nat)} {WI WJ : List Nat} {b : SS} {s0 : SS} {a0 : Int32} (S : Sh b) (mS_30_0 : WS.contains (30, 0) = true) (mS_30_1 : WS.contains (30, 1) = true) (F0 : Frm WS WI WJ b s0) : Pc (f_X9_eats s0 a0) (fun r => Frm WS WI WJ b r.2) := by
  unfold f_X9_eats
  exact (Pc_b1x (fun _ => (Pc_vl (Pc_st (Pc_vl (Pc_st (Pc_some2 (Frm.pS (Frm.pS F0 mS_30_0) mS_30_1))))))))
theorem v_X11_menEat_L17 {WS : List (Nat × Nat)} {WI WJ : List Nat} {b : SS} {y1 : Int32} {Q : SS → Prop} (S : Sh b) (mI_7 : WI.contains 7 = true) (mI_28 : WI.contains 28 = true) (mI_29 : WI.contains 29 = true) (mS_30_0 : WS.contains (30, 0) = true) (mS_30_1 : WS.contains (30, 1) = true) (hr : ∀ s, Frm WS WI WJ b s → Q s) : ∀ (n : Nat) (s : SS) (x2 : Int32), Frm WS WI WJ b s → Pc (f_X11_menEat_L17 y1 n s x2) Q := by
  intro n
  induction n with
  | zero => intro s x2 F1; exact Pc_none
  | succ n ih =>
    intro s x2 F1
    show Pc (f_X11_menEat_L17_b y1 (f_X11_menEat_L17 y1 n) s x2) Q
    unfold f_X11_menEat_L17_b
    exact (Pc_if (fun _ => (Pc_gd (fun g1 => (Pc_jnS (P := Frm WS WI WJ b) (fun _ F3 => (Pc_vl (ih _ _ F3))) (fun _ hk2 => (Pc_if (fun _ => (Pc_bd (Pc.mono (v_X11_given S mI_28 mI_29 F1) (fun _ F4 => (Pc_b1x (fun _ => (Pc_bd (Pc.mono (v_X9_eats S mS_30_0 mS_30_1 F4) (fun _ F5 => (Pc_gd (fun g6 => (Pc_b1x (fun _ => (Pc_gd (fun g7 => (Pc_st (hk2 _ (Frm.pI F5 mI_7)))))))))))))))))) (fun _ => (hk2 _ F1)))))))) (fun _ => (Pc_some (hr _ F1))))
theorem v_X11_menEat {WS : List (Nat × Nat)} {WI WJ : List Nat} {b : SS} {s0 : SS} (S : Sh b) (mI_7 : WI.contains 7 = true) (mI_28 : WI.contains 28 = true) (mI_29 : WI.contains 29 = true) (mS_30_0 : WS.contains (30, 0) = true) (mS_30_1 : WS.contains (30, 1) = true) (F0 : Frm WS WI WJ b s0) : Pc (f_X11_menEat s0) (fun r => Frm WS WI WJ b r) := by
  unfold f_X11_menEat
  exact (Pc_b1x (fun _ => (v_X11_menEat_L17 S mI_7 mI_28 mI_29 mS_30_0 mS_30_1 (fun _ h => h) _ _ _ F0)))
theorem v_X11_rockMoves_L2 {WS : List (Nat × Nat)} {WI WJ : List Nat} {b : SS}  {Q : SS → Prop} (S : Sh b) (mI_2 : WI.contains 2 = true) (mI_3 : WI.contains 3 = true) (mS_15_9 : WS.contains (15, 9) = true) (hr : ∀ s, Frm WS WI WJ b s → Q s) : ∀ (n : Nat) (s : SS) (x1 : Int32), Frm WS WI WJ b s → Pc (f_X11_rockMoves_L2  n s x1) Q := by
  intro n
  induction n with
  | zero => intro s x1 F1; exact Pc_none
  | succ n ih =>
    intro s x1 F1
    show Pc (f_X11_rockMoves_L2_b  (f_X11_rockMoves_L2  n) s x1) Q
    unfold f_X11_rockMoves_L2_b
    exact (Pc_if (fun _ => (Pc_gd (fun g1 => (Pc_vl (Pc_b1x (fun _ => (Pc_gd (fun g2 => (Pc_jnS (P := Frm WS WI WJ b) (fun _ F4 => (Pc_vl (ih _ _ F4))) (fun _ hk3 => (Pc_if (fun _ => (Pc_if (fun _ => (hk3 _ F1)) (fun _ => (Pc_gd (fun g5 => (Pc_st (Pc_gd (fun g6 => (Pc_st (Pc_b1x (fun _ => (Pc_if (fun _ => (hk3 _ (Frm.pI (Frm.pI F1 mI_3) mI_2))) (fun _ => (Pc_st (hk3 _ (Frm.pS (Frm.pI (Frm.pI F1 mI_3) mI_2) mS_15_9)))))))))))))))) (fun _ => (hk3 _ F1))))))))))))) (fun _ => (Pc_some (hr _ F1))))
theorem v_X11_rockMoves {WS : List (Nat × Nat)} {WI WJ : List Nat} {b : SS} {s0 : SS} (S : Sh b) (mI_2 : WI.contains 2 = true) (mI_3 : WI.contains 3 = true) (mS_15_9 : WS.contains (15, 9) = true) (F0 : Frm WS WI WJ b s0) : Pc (f_X11_rockMoves s0) (fun r => Frm WS WI WJ b r) := by
  unfold f_X11_rockMoves
  exact (v_X11_rockMoves_L2 S mI_2 mI_3 mS_15_9 (fun _ h => h) _ _ _ F0)
