/-! THE CLASS LEAVES THE REFERENCE'S CELLS ALONE: methods that write objects -/
section MKs
variable {s r : SS}
theorem mSm.tr {u : SS} (h : mSm s r) (g : mSm r u) : mSm s u := ⟨fun q k a b => (g.1 q k a b).trans (h.1 q k a b), fun q k a b => (g.2.1 q k a b).trans (h.2.1 q k a b), fun q k a b => (g.2.2 q k a b).trans (h.2.2 q k a b)⟩
def mH (s r : SS) : Prop := mSm s r ∧ Sh r
theorem mH.rf (S : Sh s) : mH s s := ⟨mSm.rf, S⟩
theorem mH.wS {q k : Nat} {v : Int32} (h : mH s r) (hq : q < 59 ∨ 126 ≤ q) : mH s (pS r q k v) := ⟨⟨fun a b h1 h2 => by rw [zS_pS, if_neg (by omega)]; exact h.1.1 a b h1 h2, h.1.2⟩, h.2.same rfl rfl⟩
theorem mH.wI {q i : Nat} {v : Int32} (h : mH s r) (hq : q < 59 ∨ 126 ≤ q) : mH s (pI r q i v) := ⟨⟨h.1.1, fun a b h1 h2 => by rw [zI_pI, if_neg (by omega)]; exact h.1.2.1 a b h1 h2, h.1.2.2⟩, h.2.same rfl rfl⟩
theorem mH.f {WS : List (Nat × Nat)} {WI WJ : List Nat} {u : SS} (h : mH s r) (F : Frm WS WI WJ r u) (c : clW WS WI WJ = true) : mH s u := ⟨h.1.tr (F.ms c), F.Sh_ h.2⟩
theorem hol_o (S : Sh s) (a : Int32) : Pc (f_X0_holeOf s a) (fun o => ∀ p, o = some p → okH s p) := by
  unfold f_X0_holeOf
  exact Pc_if (fun _ => Pc_some (fun _ e => by cases e)) (fun _ => Pc_if (fun _ => Pc_gd (fun g => Pc_on (fun _ => Pc_some (fun _ e => by cases e)) (fun p hp => Pc_some (fun _ e => by cases e; exact S.2.2.1 _ _ (by have := g.1; have := g.2; omega) hp)))) (fun _ => Pc_some (fun _ e => by cases e)))
theorem cha_o (S : Sh s) (a : Int32) : Pc (f_X11_chartOf s a) (fun o => ∀ p, o = some p → okC s p) := by
  unfold f_X11_chartOf
  exact Pc_if (fun _ => Pc_some (fun _ e => by cases e)) (fun _ => Pc_if (fun _ => Pc_gd (fun g => Pc_on (fun _ => Pc_some (fun _ e => by cases e)) (fun p hp => Pc_some (fun _ e => by cases e; exact S.2.2.2.2.1 _ _ (by have := g.1; have := g.2; omega) hp)))) (fun _ => Pc_some (fun _ e => by cases e)))
theorem K_yard (S : Sh s) (a0 a1 : Int32) : Pc (f_X11_yard s a0 a1) (fun x => mH s x.2) := by
  have R : mH s s := mH.rf S
  unfold f_X11_yard
  refine Pc_b1 (Pc.mono (hol_o S a0) (fun r1 h1 => Pc_on (fun _ => Pc_some R) (fun p1 hp => ?_)))
  have o := (h1 p1 hp).1
  exact Pc_if (fun _ => Pc_some R) (fun _ => Pc_if (fun _ => Pc_some R) (fun _ => Pc_if (fun _ => Pc_if (fun _ => Pc_vl (Pc_st (Pc_vl (Pc_gd (fun _ => Pc_st (Pc_some ((R.wS (Or.inr o)).wI (Or.inr (by omega))))))))) (fun _ => Pc_some R)) (fun _ => Pc_some R)))
theorem K_sends {a0 a1 : Int32} (H : mH s r) : Pc (f_X9_sends r a0 a1) (fun x => mH s x) := by
  unfold f_X9_sends
  exact Pc_if (fun _ => Pc_vl (Pc_gd (fun _ => Pc_st (Pc_vl (Pc_gd (fun _ => Pc_st (Pc_vl (Pc_st (Pc_some (((H.wI (Or.inl (by omega))).wI (Or.inl (by omega))).wS (Or.inl (by omega)))))))))))) (fun _ => Pc_some H)
theorem K_down (S : Sh s) (a0 a1 a2 : Int32) : Pc (f_X11_down s a0 a1 a2) (fun x => mH s x.2) := by
  have R : mH s s := mH.rf S
  unfold f_X11_down
  refine Pc_b1 (Pc.mono (hol_o S a0) (fun r1 h1 => Pc_on (fun _ => Pc_some R) (fun p1 hp => ?_)))
  have o := (h1 p1 hp).1
  refine Pc_b1x (fun _ => Pc_if (fun _ => Pc_b1x (fun _ => Pc_if (fun _ => Pc_some R) (fun _ => Pc_if (fun _ => Pc_some R) (fun _ => Pc_if (fun _ => Pc_some R) (fun _ => ?_))))) (fun _ => Pc_some R))
  refine Pc_if (fun _ => Pc_some R) (fun _ => Pc_if (fun _ => Pc_b1x (fun _ => Pc_vl (Pc_st ?_))) (fun _ => Pc_some R))
  exact Pc_b1 (Pc.mono (K_sends (R.wS (Or.inr o))) (fun _ h => Pc_some h))
theorem K_listed {p : Nat} {a0 a1 : Int32} (o : 126 ≤ p) (H : mH s r) : Pc (f_X1_listed r p a0 a1) (fun x => mH s x.2) := by
  unfold f_X1_listed
  exact Pc_if (fun _ => Pc_b1x (fun _ => Pc_if (fun _ => Pc_some H) (fun _ => Pc_gd (fun _ => Pc_b1x (fun _ => Pc_vl (Pc_gd (fun _ => Pc_st (Pc_vl (Pc_st (Pc_some ((H.wI (Or.inr (by omega))).wS (Or.inr o)))))))))))) (fun _ => Pc_some H)
theorem K_old (S : Sh s) (a0 a1 : Int32) : Pc (f_X11_old s a0 a1) (fun x => mH s x.2) := by
  have R : mH s s := mH.rf S
  unfold f_X11_old
  refine Pc_b1 (Pc.mono (cha_o S a0) (fun r1 h1 => Pc_on (fun _ => Pc_some R) (fun p1 hp => ?_)))
  exact Pc_b1x (fun _ => Pc_if (fun _ => Pc_some R) (fun _ => Pc_b1x (fun _ => Pc_if (fun _ => Pc_bd (Pc.mono (K_listed (h1 p1 hp).1 R) (fun _ h => Pc_some h))) (fun _ => Pc_some R))))
theorem K_lost {p : Nat} (o : 126 ≤ p) : ∀ (n : Nat) (r : SS) (x : Int32), mH s r → Pc (f_X3_lostFrom_L6 p n r x) (fun u => mH s u)
  | 0, _, _, _ => Pc_none
  | n + 1, r, x, H => by
    show Pc (f_X3_lostFrom_L6_b p (f_X3_lostFrom_L6 p n) r x) _
    unfold f_X3_lostFrom_L6_b
    exact Pc_if (fun _ => Pc_some H) (fun _ => Pc_gd (fun _ => Pc_st (Pc_vl (K_lost o n _ _ (H.wI (Or.inr (by omega)))))))
theorem K_logged {q0 : SS → Int32 → Int32 → Option (Int32 × SS)} {p p1 : Nat} {y2 y3 y4 : Int32} (o : 126 ≤ p) (hq : ∀ r x y, mH s r → Pc (q0 r x y) (fun x => mH s x.2)) : ∀ (n : Nat) (r : SS) (x5 x6 : Int32), mH s r → Pc (f_X3_logged_L6 q0 p p1 y2 y3 y4 n r x5 x6) (fun x => mH s x.2)
  | 0, _, _, _, _ => Pc_none
  | n + 1, r, x5, x6, H => by
    show Pc (f_X3_logged_L6_b q0 p p1 y2 y3 y4 (f_X3_logged_L6 q0 p p1 y2 y3 y4 n) r x5 x6) _
    unfold f_X3_logged_L6_b
    refine Pc_if (fun _ => Pc_if (fun _ => Pc_some H) (fun _ => Pc_vl (Pc_b1x (fun _ => Pc_if (fun _ => ?_) (fun _ => hq _ _ _ H))))) (fun _ => Pc_some H)
    refine Pc_vl (Pc_gd (fun _ => Pc_wl (Pc_jn1 (fun t => ?_) (fun k hk => Pc_if (fun _ => Pc_b1x (fun _ => hk _)) (fun _ => hk _)))))
    exact Pc_gd (fun _ => Pc_st (Pc_vl (Pc_vl (K_logged o hq n _ _ _ (H.wI (Or.inr (by omega)))))))
theorem K_log (S : Sh s) (a0 a1 a2 a3 a4 : Int32) : Pc (f_X11_log s a0 a1 a2 a3 a4) (fun x => mH s x.2) := by
  have R : mH s s := mH.rf S
  unfold f_X11_log
  refine Pc_b1 (Pc.mono (hol_o S a0) (fun r1 h1 => Pc_on (fun _ => Pc_b1x (fun _ => Pc_on (fun _ => Pc_some R) (fun _ _ => Pc_some R))) (fun p1 hp => ?_)))
  have o := (h1 p1 hp).1
  refine Pc_b1x (fun _ => Pc_on (fun _ => Pc_some R) (fun p3 _ => Pc_b1x (fun _ => Pc_if (fun _ => Pc_some R) (fun _ => Pc_if (fun _ => Pc_some R) (fun _ => Pc_if (fun _ => Pc_some R) (fun _ => ?_))))))
  refine Pc_if (fun _ => Pc_some R) (fun _ => Pc_jn0 ?_ (fun k hk => Pc_if (fun _ => Pc_b1x (fun _ => Pc_if (fun _ => Pc_some R) (fun _ => hk))) (fun _ => hk)))
  unfold f_X3_logged f_X3_lostFrom
  exact Pc_bd (Pc.mono (K_logged o (fun r x y H => Pc_b1 (Pc_b1x (fun _ => Pc.mono (K_lost o 4000 _ _ H) (fun _ h => Pc_some h)))) 4000 s 0 0 R) (fun _ h => Pc_some h))
theorem K_bore {p : Nat} {y : Int32} (o : 126 ≤ p) : ∀ (n : Nat) (r : SS) (x : Int32), mH s r → Pc (f_X11_boreOn_L7 p y n r x) (fun u => mH s u)
  | 0, _, _, _ => Pc_none
  | n + 1, r, x, H => by
    show Pc (f_X11_boreOn_L7_b p y (f_X11_boreOn_L7 p y n) r x) _
    unfold f_X11_boreOn_L7_b
    refine Pc_if (fun _ => Pc_some H) (fun _ => Pc_if (fun _ => Pc_gd (fun _ => Pc_b1x (fun c => Pc_vl (Pc_gd (fun _ => Pc_jn1 (fun t8 => ?_) (fun k hk => Pc_if (fun _ => hk _) (fun _ => hk _))))))) (fun _ => Pc_some H))
    refine Pc_jn1 (fun t10 => ?_) (fun k hk => Pc_if (fun _ => Pc_gd (fun _ => hk _)) (fun _ => hk _))
    refine Pc_if (fun _ => Pc_some H) (fun _ => Pc_vl (Pc_st (Pc_st (Pc_st (Pc_vl (Pc_st (Pc_b1x (fun r18 => ?_))))))))
    have H1 := (((H.wS (k := 5) (v := zS r p 5 - t10) (Or.inr o)).wS (k := 2) (v := c) (Or.inr o)).wS (k := 4) (v := x) (Or.inr o))
    have H2 := H1.wS (q := 0) (k := 16) (v := zS (pS (pS (pS r p 5 (zS r p 5 - t10)) p 2 c) p 4 x) 0 16 + 1) (Or.inl (by omega))
    generalize pS (pS (pS (pS r p 5 (zS r p 5 - t10)) p 2 c) p 4 x) 0 16 (zS (pS (pS (pS r p 5 (zS r p 5 - t10)) p 2 c) p 4 x) 0 16 + 1) = r2 at H2 ⊢
    refine Pc_jn1 (fun t19 => Pc_gd (fun _ => Pc_st (Pc_jnS (P := mH s) (fun u hu => Pc_vl (K_bore o n u _ hu)) (fun k hk => ?_)))) (fun k hk => Pc_if (fun _ => Pc_if (fun _ => hk _) (fun _ => hk _)) (fun _ => hk _))
    have H3 := H2.wI (q := p + 2) (i := x.toInt.toNat) (v := t19) (Or.inr (by omega))
    exact Pc_if (fun _ => hk _ H3) (fun _ => Pc_st (Pc_vl (Pc_st (Pc_b1x (fun _ => Pc_st (hk _ (((H3.wS (Or.inr o)).wS (Or.inl (by omega))).wS (Or.inl (by omega)))))))))
theorem K_mw : ∀ (n : Nat) (r : SS) (x : Int32), mH s r → Pc (f_X11_machinesWork_L2 n r x) (fun u => mH s u)
  | 0, _, _, _ => Pc_none
  | n + 1, r, x, H => by
    show Pc (f_X11_machinesWork_L2_b (f_X11_machinesWork_L2 n) r x) _
    unfold f_X11_machinesWork_L2_b
    refine Pc_if (fun _ => Pc_gd (fun _ => Pc_on (fun _ => Pc_none) (fun p3 _ => Pc_b1 (Pc.mono (hol_o H.2 _) (fun r4 h4 => Pc_on (fun _ => Pc_vl (K_mw n _ _ H)) (fun p4 hp => ?_)))))) (fun _ => Pc_some H)
    have o := (h4 p4 hp).1
    refine Pc_gd (fun _ => Pc_on (fun _ => Pc_none) (fun p7 _ => Pc_if (fun _ => Pc_vl (Pc_st (Pc_gd (fun _ => Pc_on (fun _ => Pc_none) (fun p14 _ => Pc_b1 ?_))))) (fun _ => Pc_vl (K_mw n _ _ H))))
    unfold f_X11_boreOn
    exact Pc_vl (Pc.mono (K_bore o 4000 _ _ (H.wS (Or.inr o))) (fun u hu => Pc_vl (K_mw n _ _ hu)))
theorem K_hour (H : mH s r) : Pc (f_X11_hourGoesBy r) (fun u => mH s u) := by
  unfold f_X11_hourGoesBy
  refine Pc_vl (Pc_st (Pc_b1x (fun r3 => ?_)))
  have H1 : mH s (pS r 0 14 (zS r 0 14 + 1)) := H.wS (Or.inl (by omega))
  generalize pS r 0 14 (zS r 0 14 + 1) = r2 at H1 ⊢
  refine Pc_bd (Pc.mono (v_X11_given (WS := []) (WI := [28, 29]) (WJ := []) (b := r2) H1.2 rfl rfl Frm.rf) (fun x F => ?_))
  have H2 := H1.f F rfl
  refine Pc_jnS (P := mH s) (fun s5 h5 => ?_) (fun k hk => Pc_if (fun _ => Pc_b1 (Pc.mono (K_mw 4000 _ _ H2) (fun u hu => hk u hu))) (fun _ => hk _ H2))
  refine Pc_b1 (Pc.mono (v_X9_arrivals (WS := [(30, 0), (30, 5)]) (WI := [31, 32, 33]) (WJ := []) (b := s5) h5.2 rfl rfl rfl rfl rfl Frm.rf) (fun s6 F6 => ?_))
  have H6 := h5.f F6 rfl
  refine Pc_jnS (P := mH s) (fun s7 h7 => ?_) (fun k hk => Pc_if (fun _ => Pc_b1 (Pc.mono (v_X11_menEat (WS := [(30, 0), (30, 1)]) (WI := [7, 28, 29]) (WJ := []) (b := s6) H6.2 rfl rfl rfl rfl rfl Frm.rf) (fun s8 F8 => hk _ (H6.f F8 rfl)))) (fun _ => hk _ H6))
  exact Pc_b1 (Pc.mono (v_X11_rockMoves (WS := [(15, 9)]) (WI := [2, 3]) (WJ := []) (b := s7) h7.2 rfl rfl rfl Frm.rf) (fun s8 F8 => Pc_some (h7.f F8 rfl)))
theorem K_hrs {y : Int32} : ∀ (n : Nat) (r : SS) (x : Int32), mH s r → Pc (f_X11_hours_L27 y n r x) (fun u => mH s u.2)
  | 0, _, _, _ => Pc_none
  | n + 1, r, x, H => by
    show Pc (f_X11_hours_L27_b y (f_X11_hours_L27 y n) r x) _
    unfold f_X11_hours_L27_b
    exact Pc_if (fun _ => Pc_b1 (Pc.mono (K_hour H) (fun u hu => Pc_vl (K_hrs n _ _ hu)))) (fun _ => Pc_some H)
theorem K_hours (S : Sh s) (a : Int32) : Pc (f_X11_hours s a) (fun x => mH s x.2) := by
  have R : mH s s := mH.rf S
  unfold f_X11_hours
  exact Pc_if (fun _ => Pc_some R) (fun _ => Pc_if (fun _ => Pc_some R) (fun _ => Pc_if (fun _ => Pc_some R) (fun _ => K_hrs 4000 s 0 R)))
end MKs
