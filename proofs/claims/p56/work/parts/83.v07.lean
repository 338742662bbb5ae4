/-! THE CLASS LEAVES THE REFERENCE'S CELLS ALONE: methods that write objects -/
section MKs
variable {s r : SS}
theorem mSm.tr {u : SS} (h : mSm s r) (g : mSm r u) : mSm s u := ⟨fun q k a b => (g.1 q k a b).trans (h.1 q k a b), fun q k a b => (g.2.1 q k a b).trans (h.2.1 q k a b), fun q k a b => (g.2.2 q k a b).trans (h.2.2 q k a b)⟩
def mH (s r : SS) : Prop := mSm s r ∧ Sh r
theorem mH.rf (S : Sh s) : mH s s := ⟨mSm.rf, S⟩
theorem mH.wS {q k : Nat} {v : Int32} (h : mH s r) (hq : q < 59 ∨ 126 ≤ q) : mH s (pS r q k v) := ⟨⟨fun a b h1 h2 => by rw [zS_pS, if_neg (by omega)]; exact h.1.1 a b h1 h2, h.1.2⟩, h.2.same rfl rfl⟩
theorem mH.wI {q i : Nat} {v : Int32} (h : mH s r) (hq : q < 59 ∨ 126 ≤ q) : mH s (pI r q i v) := ⟨⟨h.1.1, fun a b h1 h2 => by rw [zI_pI, if_neg (by omega)]; exact h.1.2.1 a b h1 h2, h.1.2.2⟩, h.2.same rfl rfl⟩
theorem mH.f {WS : List (Nat × Nat)} {WI WJ : List Nat} {u : SS} (h : mH s r) (F : Frm WS WI WJ r u) (c : clW WS WI WJ = true) : mH s u := ⟨h.1.tr (F.ms c), F.Sh_ h.2⟩
theorem hol_o (S : Sh s) (a : Int32) : Pc (f_X0_holeOf s a) (fun o => ∀ p, o = some p → okH s p) := by
  unfold f_X0_holeOf
  exact Pc_if (fun _ => Pc_some (fun _ e => by cases e)) (fun _ => Pc_if (fun _ => Pc_gd (fun g => Pc_on (fun _ => Pc_some (fun _ e => by cases e)) (fun p hp => Pc_some (fun _ e => by cases e; exact S.2.2.1 _ _ (by have := g.1; have := g.2; omega) hp)))) (fun _ => Pc_some (fun _ e => by cases e)))
theorem cha_o (S : Sh s) (a : Int32) : Pc (f_X11_chartOf s a) (fun o => ∀ p, o = some p → okC s p) := by
  unfold f_X11_chartOf
  exact Pc_if (fun _ => Pc_some (fun _ e => by cases e)) (fun _ => Pc_if (fun _ => Pc_gd (fun g => Pc_on (fun _ => Pc_some (fun _ e => by cases e)) (fun p hp => Pc_some (fun _ e => by cases e; exact S.2.2.2.2.1 _ _ (by have := g.1; have := g.2; omega) hp)))) (fun _ => Pc_some (fun _ e => by cases e)))
theorem K_yard (S : Sh s) (a0 a1 : Int32) : Pc (f_X11_yard s a0 a1) (fun x => mH s x.2) := by
  have R : mH s s := mH.rf S
  unfold f_X11_yard
  refine Pc_b1 (Pc.mono (hol_o S a0) (fun r1 h1 => Pc_on (fun _ => Pc_some R) (fun p1 hp => ?_)))
  have o := (h1 p1 hp).1
  exact Pc_if (fun _ => Pc_some R) (fun _ => Pc_if (fun _ => Pc_some R) (fun _ => Pc_if (fun _ => Pc_if (fun _ => Pc_vl (Pc_st (Pc_vl (Pc_gd (fun _ => Pc_st (Pc_some ((R.wS (Or.inr o)).wI (Or.inr (by omega))))))))) (fun _ => Pc_some R)) (fun _ => Pc_some R)))
theorem K_sends {a0 a1 : Int32} (H : mH s r) : Pc (f_X9_sends r a0 a1) (fun x => mH s x) := by
  unfold f_X9_sends
  exact Pc_if (fun _ => Pc_vl (Pc_gd (fun _ => Pc_st (Pc_vl (Pc_gd (fun _ => Pc_st (Pc_vl (Pc_st (Pc_some (((H.wI (Or.inl (by omega))).wI (Or.inl (by omega))).wS (Or.inl (by omega)))))))))))) (fun _ => Pc_some H)
theorem K_down (S : Sh s) (a0 a1 a2 : Int32) : Pc (f_X11_down s a0 a1 a2) (fun x => mH s x.2) := by
  have R : mH s s := mH.rf S
  unfold f_X11_down
  refine Pc_b1 (Pc.mono (hol_o S a0) (fun r1 h1 => Pc_on (fun _ => Pc_some R) (fun p1 hp => ?_)))
  have o := (h1 p1 hp).1
  refine Pc_b1x (fun _ => Pc_if (fun _ => Pc_b1x (fun _ => Pc_if (fun _ => Pc_some R) (fun _ => Pc_if (fun _ => Pc_some R) (fun _ => Pc_if (fun _ => Pc_some R) (fun _ => ?_))))) (fun _ => Pc_some R))
  refine Pc_if (fun _ => Pc_some R) (fun _ => Pc_if (fun _ => Pc_b1x (fun _ => Pc_vl (Pc_st ?_))) (fun _ => Pc_some R))
  exact Pc_b1 (Pc.mono (K_sends (R.wS (Or.inr o))) (fun _ h => Pc_some h))
theorem K_listed {p : Nat} {a0 a1 : Int32} (o : 126 ≤ p) (H : mH s r) : Pc (f_X1_listed r p a0 a1) (fun x => mH s x.2) := by
  unfold f_X1_listed
  exact Pc_if (fun _ => Pc_b1x (fun _ => Pc_if (fun _ => Pc_some H) (fun _ => Pc_gd (fun _ => Pc_b1x (fun _ => Pc_vl (Pc_gd (fun _ => Pc_st (Pc_vl (Pc_st (Pc_some ((H.wI (Or.inr (by omega))).wS (Or.inr o)))))))))))) (fun _ => Pc_some H)
theorem K_old (S : Sh s) (a0 a1 : Int32) : Pc (f_X11_old s a0 a1) (fun x => mH s x.2) := by
  have R : mH s s := mH.rf S
  unfold f_X11_old
  refine Pc_b1 (Pc.mono (cha_o S a0) (fun r1 h1 => Pc_on (fun _ => Pc_some R) (fun p1 hp => ?_)))
  exact Pc_b1x (fun _ => Pc_if (fun _ => Pc_some R) (fun _ => Pc_b1x (fun _ => Pc_if (fun _ => Pc_bd (Pc.mono (K_listed (h1 p1 hp).1 R) (fun _ h => Pc_some h))) (fun _ => Pc_some R))))
theorem K_lost {p : Nat} (o : 126 ≤ p) : ∀ (n : Nat) (r : SS) (x : Int32), mH s r → Pc (f_X3_lostFrom_L6 p n r x) (fun u => mH s u)
  | 0, _, _, _ => Pc_none
  | n + 1, r, x, H => by
    show Pc (f_X3_lostFrom_L6_b p (f_X3_lostFrom_L6 p n) r x) _
    unfold f_X3_lostFrom_L6_b
    exact Pc_if (fun _ => Pc_some H) (fun _ => Pc_gd (fun _ => Pc_st (Pc_vl (K_lost o n _ _ (H.wI (Or.inr (by omega)))))))
theorem K_logged {q0 : SS → Int32 → Int32 → Option (Int32 × SS)} {p p1 : Nat} {y2 y3 y4 : Int32} (o : 126 ≤ p) (hq : ∀ r x y, mH s r → Pc (q0 r x y) (fun x => mH s x.2)) : ∀ (n : Nat) (r : SS) (x5 x6 : Int32), mH s r → Pc (f_X3_logged_L6 q0 p p1 y2 y3 y4 n r x5 x6) (fun x => mH s x.2)
  | 0, _, _, _, _ => Pc_none
  | n + 1, r, x5, x6, H => by
    show Pc (f_X3_logged_L6_b q0 p p1 y2 y3 y4 (f_X3_logged_L6 q0 p p1 y2 y3 y4 n) r x5 x6) _
    unfold f_X3_logged_L6_b
    refine Pc_if (fun _ => Pc_if (fun _ => Pc_some H) (fun _ => Pc_vl (Pc_b1x (fun _ => Pc_if (fun _ => ?_) (fun _ => hq _ _ _ H))))) (fun _ => Pc_some H)
    refine Pc_vl (Pc_gd (fun _ => Pc_wl (Pc_jn1 (fun t => ?_) (fun k hk => Pc_if (fun _ => Pc_b1x (fun _ => hk _)) (fun _ => hk _)))))
    exact Pc_gd (fun _ => Pc_st (Pc_vl (Pc_vl (K_logged o hq n _ _ _ (H.wI (Or.inr (by omega)))))))
theorem K_log (S : Sh s) (a0 a1 a2 a3 a4 : Int32) : Pc (f_X11_log s a0 a1 a2 a3 a4) (fun x => mH s x.2) := by
  have R : mH s s := mH.rf S
  unfold f_X11_log
  refine Pc_b1 (Pc.mono (hol_o S a0) (fun r1 h1 => Pc_on (fun _ => Pc_b1x (fun _ => Pc_on (fun _ => Pc_some R) (fun _ _ => Pc_some R))) (fun p1 hp => ?_)))
  have o := (h1 p1 hp).1
  refine Pc_b1x (fun _ => Pc_on (fun _ => Pc_some R) (fun p3 _ => Pc_b1x (fun _ => Pc_if (fun _ => Pc_some R) (fun _ => Pc_if (fun _ => Pc_some R) (fun _ => Pc_if (fun _ => Pc_some R) (fun _ => ?_))))))
  refine Pc_if (fun _ => Pc_some R) (fun _ => Pc_jn0 ?_ (fun k hk => Pc_if (fun _ => Pc_b1x (fun _ => Pc_if (fun _ => Pc_some R) (fun _ => hk))) (fun _ => hk)))
  unfold f_X3_logged f_X3_lostFrom
  exact Pc_bd (Pc.mono (K_logged o (fun r x y H => Pc_b1 (Pc_b1x (fun _ => Pc.mono (K_lost o 4000 _ _ H) (fun _ h => Pc_some h)))) 4000 s 0 0 R) (fun _ h => Pc_some h))
theorem K_bore {p : Nat} {y : Int32} (o : 126 ≤ p) : ∀ (n : Nat) (r : SS) (x : Int32), mH s r → Pc (f_X11_boreOn_L7 p y n r x) (fun u => mH s u)
  | 0, _, _, _ => Pc_none
  | n + 1, r, x, H => by
    show Pc (f_X11_boreOn_L7_b p y (f_X11_boreOn_L7 p y n) r x) _
    unfold f_X11_boreOn_L7_b
    refine Pc_if (fun _ => Pc_some H) (fun _ => Pc_if (fun _ => Pc_gd (fun _ => Pc_b1x (fun c => Pc_vl (Pc_gd (fun _ => Pc_jn1 (fun t8 => ?_) (fun k hk => Pc_if (fun _ => hk _) (fun _ => hk _))))))) (fun _ => Pc_some H))
    refine Pc_jn1 (fun t10 => ?_) (fun k hk => Pc_if (fun _ => Pc_gd (fun _ => hk _)) (fun _ => hk _))
    refine Pc_if (fun _ => Pc_some H) (fun _ => Pc_vl (Pc_st (Pc_st (Pc_st (Pc_vl (Pc_st (Pc_b1x (fun r18 => ?_))))))))
    have H1 := (((H.wS (k := 5) (v := zS r p 5 - t10) (Or.inr o)).wS (k := 2) (v := c) (Or.inr o)).wS (k := 4) (v := x) (Or.inr o))
    have H2 := H1.wS (q := 0) (k := 16) (v := zS (pS (pS (pS r p 5 (zS r p 5 - t10)) p 2 c) p 4 x) 0 16 + 1) (Or.inl (by omega))
    generalize pS (pS (pS (pS r p 5 (zS r p 5 - t10)) p 2 c) p 4 x) 0 16 (zS (pS (pS (pS r p 5 (zS r p 5 - t10)) p 2 c) p 4 x) 0 16 + 1) = r2 at H2 ⊢
    refine Pc_jn1 (fun t19 => Pc_gd (fun _ => Pc_st (Pc_jnS (P := mH s) (fun u hu => Pc_vl (K_bore o n u _ hu)) (fun k hk => ?_)))) (fun k hk => Pc_if (fun _ => Pc_if (fun _ => hk _) (fun _ => hk _)) (fun _ => hk _))
    have H3 := H2.wI (q := p + 2) (i := x.toInt.toNat) (v := t19) (Or.inr (by omega))
    exact Pc_if (fun _ => hk _ H3) (fun _ => Pc_st (Pc_vl (Pc_st (Pc_b1x (fun _ => Pc_st (hk _ (((H3.wS (Or.inr o)).wS (Or.inl (by omega))).wS (Or.inl (by omega)))))))))
theorem K_mw : ∀ (n : Nat) (r : SS) (x : Int32), mH s r → Pc (f_X11_machinesWork_L2 n r x) (fun u => mH s u)
  | 0, _, _, _ => Pc_none
  | n + 1, r, x, H => by
    show Pc (f_X11_machinesWork_L2_b (f_X11_machinesWork_L2 n) r x) _
    unfold f_X11_machinesWork_L2_b
    refine Pc_if (fun _ => Pc_gd (fun _ => Pc_on (fun _ => Pc_none) (fun p3 _ => Pc_b1 (Pc.mono (hol_o H.2 _) (fun r4 h4 => Pc_on (fun _ => Pc_vl (K_mw n _ _ H)) (fun p4 hp => ?_)))))) (fun _ => Pc_some H)
    have o := (h4 p4 hp).1
    refine Pc_gd (fun _ => Pc_on (fun _ => Pc_none) (fun p7 _ => Pc_if (fun _ => Pc_vl (Pc_st (Pc_gd (fun _ => Pc_on (fun _ => Pc_none) (fun p14 _ => Pc_b1 ?_))))) (fun _ => Pc_vl (K_mw n _ _ H))))
    unfold f_X11_boreOn
    exact Pc_vl (Pc.mono (K_bore o 4000 _ _ (H.wS (Or.inr o))) (fun u hu => Pc_vl (K_mw n _ _ hu)))
theorem K_hour (H : mH s r) : Pc (f_X11_hourGoesBy r) (fun u => mH s u) := by
  unfold f_X11_hourGoesBy
  refine Pc_vl (Pc_st (Pc_b1x (fun r3 => ?_)))
  have H1 : mH s (pS r 0 14 (zS r 0 14 + 1)) := H.wS (Or.inl (by omega))
  generalize pS r 0 14 (zS r 0 14 + 1) = r2 at H1 ⊢
  refine Pc_bd (Pc.mono (v_X11_given (WS := []) (WI := [28, 29]) (WJ := []) (b := r2) H1.2 rfl rfl Frm.rf) (fun x F => ?_))
  have H2 := H1.f F rfl
  refine Pc_jnS (P := mH s) (fun s5 h5 => ?_) (fun k hk => Pc_if (fun _ => Pc_b1 (Pc.mono (K_mw 4000 _ _ H2) (fun u hu => hk u hu))) (fun _ => hk _ H2))
  refine Pc_b1 (Pc.mono (v_X9_arrivals (WS := [(30, 0), (30, 5)]) (WI := [31, 32, 33]) (WJ := []) (b := s5) h5.2 rfl rfl rfl rfl rfl Frm.rf) (fun s6 F6 => ?_))
  have H6 := h5.f F6 rfl
  refine Pc_jnS (P := mH s) (fun s7 h7 => ?_) (fun k hk => Pc_if (fun _ => Pc_b1 (Pc.mono (v_X11_menEat (WS := [(30, 0), (30, 1)]) (WI := [7, 28, 29]) (WJ := []) (b := s6) H6.2 rfl rfl rfl rfl rfl Frm.rf) (fun s8 F8 => hk _ (H6.f F8 rfl)))) (fun _ => hk _ H6))
  exact Pc_b1 (Pc.mono (v_X11_rockMoves (WS := [(15, 9)]) (WI := [2, 3]) (WJ := []) (b := s7) h7.2 rfl rfl rfl Frm.rf) (fun s8 F8 => Pc_some (h7.f F8 rfl)))
theorem K_hrs {y : Int32} : ∀ (n : Nat) (r : SS) (x : Int32), mH s r → Pc (f_X11_hours_L27 y n r x) (fun u => mH s u.2)
  | 0, _, _, _ => Pc_none
  | n + 1, r, x, H => by
    show Pc (f_X11_hours_L27_b y (f_X11_hours_L27 y n) r x) _
    unfold f_X11_hours_L27_b
    exact Pc_if (fun _ => Pc_b1 (Pc.mono (K_hour H) (fun u hu => Pc_vl (K_hrs n _ _ hu)))) (fun _ => Pc_some H)
theorem K_hours (S : Sh s) (a : Int32) : Pc (f_X11_hours s a) (fun x => mH s x.2) := by
  have R : mH s s := mH.rf S
  unfold f_X11_hours
  exact Pc_if (fun _ => Pc_some R) (fun _ => Pc_if (fun _ => Pc_some R) (fun _ => Pc_if (fun _ => Pc_some R) (fun _ => K_hrs 4000 s 0 R)))
end MKs
/-! LOGS ALIKE -/
theorem lgc_eq {x y : Int64} (h : lg_cmp x y = 0) : x = y := by
  unfold lg_cmp at h
  split at h
  · exact absurd h (by decide)
  · split at h
    · assumption
    · exact absurd h (by decide)
section LGs
variable {s0 t0 s t : SS} {p n i : Nat}
/-- what is logged is small -/
def QLgs (t : SS) : Prop := ∀ j, -9999 ≤ (zI t 73 j).toInt ∧ (zI t 73 j).toInt ≤ 9999
theorem sml {v : Int32} (h : -9999 ≤ v.toInt ∧ v.toInt ≤ 9999) : v ≠ -2000000000 := fun z => by
  rw [z, show (-2000000000 : Int32).toInt = -2000000000 from rfl] at h
  omega
/-- only the logs of hole n, at p, have changed, and they are alike -/
def LG (s0 t0 : SS) (p n : Nat) (s t : SS) : Prop := ((∀ q k, zS s q k = zS s0 q k) ∧ (∀ q j, q ≠ p + 3 → zI s q j = zI s0 q j) ∧ s.2.2 = s0.2.2) ∧ (mW n t0 t ∧ (∀ q k, zS t q k = zS t0 q k) ∧ t.2.2 = t0.2.2 ∧ ∀ q j, q ≠ 72 → q ≠ 73 → zI t q j = zI t0 q j) ∧ (∀ y, 1 ≤ y → y ≤ 60 → zI s (p + 3) y = lgV (zI t 72 (61 * n + y)) (zI t 73 (61 * n + y))) ∧ QLgs t
theorem LG.w {y : Nat} {v b : Int32} (L : LG s0 t0 p n s t) (h1 : 1 ≤ y) (h2 : y ≤ 60) (hv : -9999 ≤ v.toInt ∧ v.toInt ≤ 9999) (hb : b = 1) : LG s0 t0 p n (pI s (p + 3) y v) (pI (pI t 73 (61 * n + y) v) 72 (61 * n + y) b) := by
  obtain ⟨⟨a1, a2, a3⟩, ⟨b1, b2, b3, b4⟩, c, g⟩ := L
  refine ⟨⟨a1, fun q j h => by rw [zI_pI, if_neg (by omega)]; exact a2 q j h, a3⟩, ⟨(b1.wY (by omega) (by omega) h2).wY (by omega) (by omega) h2, b2, b3, fun q j h h' => by rw [zI_pI, if_neg (by omega), zI_pI, if_neg (by omega)]; exact b4 q j h h'⟩, fun z z1 z2 => ?_, fun j => ?_⟩
  · by_cases e : z = y
    · subst e
      have e1 : zI (pI s (p + 3) z v) (p + 3) z = v := by rw [zI_pI, if_pos ⟨rfl, rfl⟩]
      have e2 : zI (pI (pI t 73 (61 * n + z) v) 72 (61 * n + z) b) 72 (61 * n + z) = b := by rw [zI_pI, if_pos ⟨rfl, rfl⟩]
      have e3 : zI (pI (pI t 73 (61 * n + z) v) 72 (61 * n + z) b) 73 (61 * n + z) = v := by rw [zI_pI, if_neg (by omega), zI_pI, if_pos ⟨rfl, rfl⟩]
      rw [e1, e2, e3, hb]
      unfold lgV
      rw [if_neg n10]
    · have e1 : zI (pI s (p + 3) y v) (p + 3) z = zI s (p + 3) z := by rw [zI_pI, if_neg (by omega)]
      have e2 : ∀ q, zI (pI (pI t 73 (61 * n + y) v) 72 (61 * n + y) b) q (61 * n + z) = zI t q (61 * n + z) := fun q => by rw [zI_pI, if_neg (by omega), zI_pI, if_neg (by omega)]
      rw [e1, e2, e2]
      exact c z z1 z2
  · rw [zI_pI, if_neg (by omega), zI_pI]
    by_cases e : 73 = 73 ∧ j = 61 * n + y
    · rw [if_pos e]; exact hv
    · rw [if_neg e]; exact g j
theorem LG.o {y : Nat} {b : Int32} (L : LG s0 t0 p n s t) (h2 : y ≤ 60) (hb : b = 0) : LG s0 t0 p n (pI s (p + 3) y (-2000000000)) (pI t 72 (61 * n + y) b) := by
  obtain ⟨⟨a1, a2, a3⟩, ⟨b1, b2, b3, b4⟩, c, g⟩ := L
  have e3 : ∀ j, zI (pI t 72 (61 * n + y) b) 73 j = zI t 73 j := fun j => by rw [zI_pI, if_neg (by omega)]
  refine ⟨⟨a1, fun q j h => by rw [zI_pI, if_neg (by omega)]; exact a2 q j h, a3⟩, ⟨b1.wY (by omega) (by omega) h2, b2, b3, fun q j h h' => by rw [zI_pI, if_neg (by omega)]; exact b4 q j h h'⟩, fun z z1 z2 => ?_, fun j => by rw [e3]; exact g j⟩
  rw [e3]
  by_cases e : z = y
  · subst e
    rw [zI_pI, if_pos ⟨rfl, rfl⟩, zI_pI, if_pos ⟨rfl, rfl⟩, hb]
    unfold lgV
    rw [if_pos rfl]
  · rw [zI_pI, if_neg (by omega), zI_pI, if_neg (by omega)]
    exact c z z1 z2
theorem ix61 {a x : Int32} (ha : a.toInt = n) (hn : n < 120) (hx : 0 ≤ x.toInt ∧ x.toInt ≤ 60) : ((61 : Int32) * a + x).toInt = 61 * n + x.toInt := by
  have m1 : ((61 : Int32) * a).toInt = 61 * a.toInt := by rw [i32_mul (by rw [jl61]; omega) (by rw [jl61]; omega), jl61]
  rw [i32_add (by rw [m1]; omega) (by rw [m1]; omega), m1, ha]
theorem lost_l {y1 y6 : Int32} (hy : y1.toInt = n) (hn : n < 120) : ∀ (k m : Nat) (s t : SS) (x : Int32), LG s0 t0 p n s t → 1 ≤ x.toInt → Pc (f_X3_lostFrom_L6 p k s x) (fun a => Pc (f_X12_log_L129 y1 y6 m t x) (fun b => LG s0 t0 p n a b.2))
  | 0, _, _, _, _, _, _ => Pc_none
  | k + 1, 0, _, _, _, _, _ => fun _ _ => Pc_none
  | k + 1, m + 1, s, t, x, L, hx => by
    have j60 : (60 : Int32).toInt = 60 := rfl
    show Pc (f_X3_lostFrom_L6_b p (f_X3_lostFrom_L6 p k) s x) _
    unfold f_X3_lostFrom_L6_b
    refine Pc_if (fun c => Pc_some ?_) (fun c => Pc_gd (fun g => Pc_st (Pc_vl ?_)))
    · show Pc (f_X12_log_L129_b y1 y6 (f_X12_log_L129 y1 y6 m) t x) _
      unfold f_X12_log_L129_b
      exact Pc_ift c (Pc_some L)
    · have c' : x.toInt ≤ 60 := by rw [jlt, j60] at c; omega
      have n1 : (x + 1).toInt = x.toInt + 1 := by rw [i32_add (by rw [jl1]; omega) (by rw [jl1]; omega), jl1]
      have e : ((61 : Int32) * y1 + x).toInt.toNat = 61 * n + x.toInt.toNat := by rw [ix61 hy hn (by omega)]; omega
      refine Pc.mono (lost_l (y6 := y6) hy hn k m _ (pI t 72 (61 * n + x.toInt.toNat) ((0 : Int32) &&& 1)) (x + 1) (L.o (by omega) (by decide)) (by omega)) (fun a ha => ?_)
      show Pc (f_X12_log_L129_b y1 y6 (f_X12_log_L129 y1 y6 m) t x) _
      unfold f_X12_log_L129_b
      refine Pc_iff c (Pc_vl (Pc_gd (fun _ => Pc_st (Pc_vl ?_))))
      rw [e]
      exact ha
/-- the shelf: nothing, or a row of numbers -/
def LSh (s0 t0 : SS) (i : Nat) : Prop := (zS s0 (47 + 2 * i) 0 = 0 ∧ zI t0 120 i = -1) ∨ (zS s0 (47 + 2 * i) 0 = 2 ∧ zI t0 120 i ≠ -1 ∧ zS s0 (47 + 2 * i) 3 = zI t0 121 i ∧ (0 ≤ (zI t0 121 i).toInt ∧ (zI t0 121 i).toInt ≤ 60) ∧ ∀ j, j < 60 → (zI t0 123 (60 * i + j) = 0 ∧ zJ s0 (47 + 2 * i + 1) j = zJ t0 122 (60 * i + j) ∧ -9999 ≤ (zJ t0 122 (60 * i + j)).toInt ∧ (zJ t0 122 (60 * i + j)).toInt ≤ 9999) ∨ (zI t0 123 (60 * i + j) = 1 ∧ zJ s0 (47 + 2 * i + 1) j = 9223372036854775807))
noncomputable def lqX (p : Nat) : SS → Int32 → Int32 → Option (Int32 × SS) := fun (s17 : SS) (x17_5 : Int32) (x17_7 : Int32) => (b1 (f_X3_lostFrom s17 p x17_7) fun s18 => some (x17_5, s18))
noncomputable def lqM (a0 : Int32) : SS → Int32 → Int32 → Option (Int32 × SS) := fun (s41 : SS) (x41_6 : Int32) (x41_7 : Int32) => (f_X12_log_L129 a0 x41_6 4000 s41 x41_7)
/-- the reference, one yard: a number -/
theorem lgM1 {a0 a1 y2 y3 y4 x : Int32} {m j : Nat} {R : Int32 × SS → Prop} (ha0 : a0.toInt = n) (hn : n < 120) (ha1 : a1.toInt = i) (hi : i < 6) (h3 : 1 ≤ y3.toInt ∧ y3.toInt ≤ 60) (hx : 0 ≤ x.toInt) (c : x.toInt < y4.toInt) (h4 : y4.toInt ≤ 60) (hy : y3.toInt + x.toInt ≤ 60) (hj : (j : Int) = y2.toInt + x.toInt) (h0 : zI t 120 i ≠ -1) (hl : (j : Int) < (zI t 121 i).toInt) (hl60 : (zI t 121 i).toInt ≤ 60) (g : ∀ t22 : Int32, (t22 = 0 ∧ (y3 + x = 1 ∨ zI t 72 (61 * n + (y3 + x).toInt.toNat - 1) = 0)) ∨ (1 < (y3 + x).toInt ∧ zI t 72 (61 * n + (y3 + x).toInt.toNat - 1) ≠ 0 ∧ t22 = zI t 73 (61 * n + (y3 + x).toInt.toNat - 1)) → Pc (f_X12_log_L63 (lqM a0) a0 a1 y2 y3 y4 m (pI (pI t 73 (61 * n + (y3 + x).toInt.toNat) (if zI t 123 (60 * i + j) = 0 then (zJ t 122 (60 * i + j)).toInt32 else t22)) 72 (61 * n + (y3 + x).toInt.toNat) ((1 : Int32) &&& 1)) (x + 1)) R) : Pc (f_X12_log_L63 (lqM a0) a0 a1 y2 y3 y4 (m + 1) t x) R := by
  have j60 : (60 : Int32).toInt = 60 := rfl
  have a3 : (y3 + x).toInt = y3.toInt + x.toInt := i32_add (by omega) (by omega)
  have ls := lgsum y2 x
  have e1 : a1.toInt.toNat = i := by omega
  have hv15 : ((y2.toInt64 + x.toInt64).toInt32).toInt = j := by
    rw [Int64.toInt_toInt32, ls, ← hj]
    exact Int.bmod_eq_of_le (by omega) (by omega)
  have m60 : ((60 : Int32) * a1).toInt = 60 * i := by rw [i32_mul (by rw [j60]; omega) (by rw [j60]; omega), j60, ha1]
  have hv21 : ((60 : Int32) * a1 + (y2.toInt64 + x.toInt64).toInt32).toInt.toNat = 60 * i + j := by
    rw [i32_add (by rw [m60, hv15]; omega) (by rw [m60, hv15]; omega), m60, hv15]
    omega
  have hv25 : ((61 : Int32) * a0 + (y3 + x)).toInt = 61 * n + (y3 + x).toInt := ix61 ha0 hn (by omega)
  have hv25n : ((61 : Int32) * a0 + (y3 + x)).toInt.toNat = 61 * n + (y3 + x).toInt.toNat := by omega
  have hv36 : ((61 : Int32) * a0 + (y3 + x) - 1).toInt.toNat = 61 * n + (y3 + x).toInt.toNat - 1 := by
    rw [i32_sub (by rw [hv25, jl1]; omega) (by rw [hv25, jl1]; omega), hv25, jl1]
    omega
  show Pc (f_X12_log_L63_b (lqM a0) a0 a1 y2 y3 y4 (f_X12_log_L63 (lqM a0) a0 a1 y2 y3 y4 m) t x) R
  unfold f_X12_log_L63_b
  refine Pc_ift (by rw [jlt]; exact c) (Pc_vl (Pc_iff (by rw [jlt, j60, a3]; omega) (Pc_wl (Pc_gd (fun _ => ?_)))))
  rw [e1]
  refine Pc_iff h0 (Pc_iff (fun z => ?_) (Pc_gd (fun _ => Pc_if (fun _ => Pc_vl ?_) (fun z => ?_))))
  · have := lgc_lt z
    rw [ls, show (0 : Int64).toInt = 0 from rfl] at this
    omega
  · have k22 : ∀ t22 : Int32, (t22 = 0 ∧ (y3 + x = 1 ∨ zI t 72 (61 * n + (y3 + x).toInt.toNat - 1) = 0)) ∨ (1 < (y3 + x).toInt ∧ zI t 72 (61 * n + (y3 + x).toInt.toNat - 1) ≠ 0 ∧ t22 = zI t 73 (61 * n + (y3 + x).toInt.toNat - 1)) → Pc (gd (inB ((60 : Int32) * a1 + (y2.toInt64 + x.toInt64).toInt32) 360) (jn (fun (t24_0 : Int32) => (vl ((((61 : Int32) * a0) + (y3 + x))) fun v25 => (gd (inB v25 7320) (st (pI t 73 (v25.toInt.toNat) t24_0) fun s27 => (vl ((((61 : Int32) * a0) + (y3 + x))) fun v28 => (gd (inB v28 7320) (st (pI s27 72 (v28.toInt.toNat) ((1 : Int32) &&& 1)) fun s30 => (vl (x + 1) fun v31 => (f_X12_log_L63 (lqM a0) a0 a1 y2 y3 y4 m s30 v31))))))))) fun k24 => (if (zI t 123 (((60 : Int32) * a1 + (y2.toInt64 + x.toInt64).toInt32).toInt.toNat)) = (0 : Int32) then (gd (inB ((60 : Int32) * a1 + (y2.toInt64 + x.toInt64).toInt32) 360) (k24 ((zJ t 122 (((60 : Int32) * a1 + (y2.toInt64 + x.toInt64).toInt32).toInt.toNat)).toInt32))) else (k24 t22)))) R := by
      intro t22 h22
      have G := g t22 h22
      rw [hv21]
      refine Pc_gd (fun _ => Pc_jn (Pc_if (fun z => Pc_gd (fun _ => Pc_vl (Pc_gd (fun _ => Pc_st (Pc_vl (Pc_gd (fun _ => Pc_st (Pc_vl ?_)))))))) (fun z => Pc_vl (Pc_gd (fun _ => Pc_st (Pc_vl (Pc_gd (fun _ => Pc_st (Pc_vl ?_)))))))))
      · rw [if_pos z] at G
        rw [hv25n]
        exact G
      · rw [if_neg z] at G
        rw [hv25n]
        exact G
    refine Pc_jn (Pc_jn (Pc_lt (fun z => Pc_vl (Pc_gd (fun _ => ?_))) (fun z => ?_)))
    · rw [jl1] at z
      rw [hv36]
      refine Pc_if (fun w => k22 0 (Or.inl ⟨rfl, Or.inr w⟩)) (fun w => Pc_vl (Pc_gd (fun _ => ?_)))
      rw [hv36]
      exact k22 _ (Or.inr ⟨z, w, rfl⟩)
    · rw [jl1] at z
      exact k22 0 (Or.inl ⟨rfl, Or.inl (Int32.toInt_inj.1 (by rw [jl1]; omega))⟩)
  · have := lgc_ge z
    rw [ls, Int32.toInt_toInt64] at this
    omega
/-- the reference, a yard that the row does not have -/
theorem lgM0 {a0 a1 y2 y3 y4 x : Int32} {m : Nat} {R : Int32 × SS → Prop} (ha1 : a1.toInt = i) (h3 : 1 ≤ y3.toInt ∧ y3.toInt ≤ 60) (hx : 0 ≤ x.toInt) (c : x.toInt < y4.toInt) (h4 : y4.toInt ≤ 60) (hy : y3.toInt + x.toInt ≤ 60) (h : zI t 120 i = -1 ∨ ¬ (0 ≤ y2.toInt + x.toInt ∧ y2.toInt + x.toInt < (zI t 121 i).toInt)) (g : Pc (f_X12_log_L129 a0 x 4000 t (y3 + x)) R) : Pc (f_X12_log_L63 (lqM a0) a0 a1 y2 y3 y4 (m + 1) t x) R := by
  have j60 : (60 : Int32).toInt = 60 := rfl
  have a3 : (y3 + x).toInt = y3.toInt + x.toInt := i32_add (by omega) (by omega)
  have ls := lgsum y2 x
  have e1 : a1.toInt.toNat = i := by omega
  show Pc (f_X12_log_L63_b (lqM a0) a0 a1 y2 y3 y4 (f_X12_log_L63 (lqM a0) a0 a1 y2 y3 y4 m) t x) R
  unfold f_X12_log_L63_b
  refine Pc_ift (by rw [jlt]; exact c) (Pc_vl (Pc_iff (by rw [jlt, j60, a3]; omega) (Pc_wl (Pc_gd (fun _ => ?_)))))
  rw [e1]
  refine Pc_if (fun _ => g) (fun w => Pc_if (fun _ => g) (fun z0 => Pc_gd (fun _ => Pc_if (fun z1 => ?_) (fun _ => g))))
  exfalso
  have b0 := lgc_ge z0
  have b1 := lgc_lt z1
  rw [ls, show (0 : Int64).toInt = 0 from rfl] at b0
  rw [ls, Int32.toInt_toInt64] at b1
  rcases h with h | h
  · exact w h
  · exact h ⟨b0, b1⟩
theorem max1 {v : Int32} (h : 1 ≤ v.toInt) : f_J9_max_7cf53 1 v = some v := by
  rw [maxJ]
  by_cases c : (1 : Int32) < v
  · rw [if_pos c]
  · rw [if_neg c]
    rw [jlt, jl1] at c
    exact congrArg some (Int32.toInt_inj.1 (by rw [jl1]; omega))
theorem lg_l {a0 a1 y2 y3 y4 : Int32} (ha0 : a0.toInt = n) (hn : n < 120) (ha1 : a1.toInt = i) (hi : i < 6) (h3 : 1 ≤ y3.toInt ∧ y3.toInt ≤ 60) (h4 : y4.toInt ≤ 60) (hp : 126 ≤ p) (V : LSh s0 t0 i) : ∀ (k m : Nat) (s t : SS) (x : Int32), LG s0 t0 p n s t → 0 ≤ x.toInt → Pc (f_X3_logged_L6 (lqX p) p (47 + 2 * i) y2 y3 y4 k s x x) (fun a => Pc (f_X12_log_L63 (lqM a0) a0 a1 y2 y3 y4 m t x) (fun b => LG s0 t0 p n a.2 b.2))
  | 0, _, _, _, _, _, _ => Pc_none
  | k + 1, 0, _, _, _, _, _ => fun _ _ => Pc_none
  | k + 1, m + 1, s, t, x, L, hx => by
    have j60 : (60 : Int32).toInt = 60 := rfl
    obtain ⟨⟨a1', a2', a3'⟩, ⟨b1', b2', b3', b4'⟩, c', g'⟩ := id L
    have eJ : ∀ q j, zJ s q j = zJ s0 q j := fun q j => by unfold zJ; rw [a3']
    have fJ : ∀ q j, zJ t q j = zJ t0 q j := fun q j => by unfold zJ; rw [b3']
    show Pc (f_X3_logged_L6_b (lqX p) p (47 + 2 * i) y2 y3 y4 (f_X3_logged_L6 (lqX p) p (47 + 2 * i) y2 y3 y4 k) s x x) _
    unfold f_X3_logged_L6_b
    refine Pc_lt (fun c => ?_) (fun c => Pc_some ?_)
    · have a3 : (y3 + x).toInt = y3.toInt + x.toInt := i32_add (by omega) (by omega)
      have n1 : (x + 1).toInt = x.toInt + 1 := by rw [i32_add (by rw [jl1]; omega) (by rw [jl1]; omega), jl1]
      refine Pc_if (fun hy => Pc_some ?_) (fun hy => Pc_vl ?_)
      · show Pc (f_X12_log_L63_b (lqM a0) a0 a1 y2 y3 y4 (f_X12_log_L63 (lqM a0) a0 a1 y2 y3 y4 m) t x) _
        unfold f_X12_log_L63_b
        exact Pc_ift (by rw [jlt]; exact c) (Pc_vl (Pc_ift hy (Pc_some L)))
      have hy' : y3.toInt + x.toInt ≤ 60 := by rw [jlt, j60, a3] at hy; omega
      -- the row does not have it
      have out : ∀ r4 : Int32, ¬ r4 = 0 → (zI t 120 i = -1 ∨ ¬ (0 ≤ y2.toInt + x.toInt ∧ y2.toInt + x.toInt < (zI t 121 i).toInt)) → Pc (if r4 = (0 : Int32) then (vl ((y2 + x)) fun v6 => (gd (inB v6 60) (wl ((zJ s (47 + 2 * i + 1) (v6.toInt.toNat))) fun v8 => (jn (fun (t10_0 : Int32) => (gd (inB (y3 + x) 61) (st (pI s (p + 3) ((y3 + x).toInt.toNat) t10_0) fun s12 => (vl (x + 1) fun v13 => (vl (x + 1) fun v14 => (f_X3_logged_L6 (lqX p) p (47 + 2 * i) y2 y3 y4 k s12 v13 v14)))))) fun k10 => (if (lg_cmp v8 9223372036854775807) = (0 : Int32) then (b1 (f_X3_logAhead s p (y3 + x)) fun r16 => (k10 r16)) else (k10 v8.toInt32)))))) else (lqX p s x (y3 + x))) (fun a => Pc (f_X12_log_L63 (lqM a0) a0 a1 y2 y3 y4 (m + 1) t x) (fun b => LG s0 t0 p n a.2 b.2)) := by
        intro r4 h4' hm
        refine Pc_iff h4' ?_
        unfold lqX f_X3_lostFrom
        rw [max1 (by rw [a3]; omega)]
        refine Pc_b1 (Pc_b1S (Pc.mono (lost_l (y6 := x) ha0 hn 4000 4000 s t (y3 + x) L (by rw [a3]; omega)) (fun u hu => Pc_some ?_)))
        exact lgM0 ha1 h3 hx c h4 hy' hm hu
      have e0 : zS s (47 + 2 * i) 0 = zS s0 (47 + 2 * i) 0 := a1' _ _
      have e3 : zS s (47 + 2 * i) 3 = zS s0 (47 + 2 * i) 3 := a1' _ _
      have f0 : zI t 120 i = zI t0 120 i := b4' _ _ (by omega) (by omega)
      have f1 : zI t 121 i = zI t0 121 i := b4' _ _ (by omega) (by omega)
      unfold f_X8_refusal
      rcases V with ⟨v0, w0⟩ | ⟨v0, w0, v3, vb, vj⟩
      · exact Pc_b1 (Pc_ift (e0.trans v0) (Pc_some (out _ (by decide) (Or.inl (f0.trans w0)))))
      refine Pc_b1 (Pc_iff (by rw [e0, v0]; decide) (Pc_ift (e0.trans v0) ?_))
      refine Pc_if (fun ng => Pc_some (out _ (by decide) (Or.inr (fun z => ?_)))) (fun ng => Pc_if (fun lt => Pc_some ?_) (fun lt => Pc_some (out _ (by decide) (Or.inr (fun z => ?_)))))
      · have a2 : (y2 + x).toInt = y2.toInt + x.toInt := i32_add (by omega) (by rw [f1] at z; omega)
        rw [jlt, jl0, a2] at ng
        omega
      · rw [jlt, jl0] at ng
        rw [jlt, e3, v3] at lt
        have l2 := jlo y2
        have a2 : (y2 + x).toInt = y2.toInt + x.toInt := by
          by_cases ov : y2.toInt + x.toInt < 2147483648
          · exact i32_add (by omega) ov
          · have := i32_ge (a := y2) hx (by omega) (Int.not_lt.mp ov)
            omega
        obtain ⟨j, hj⟩ : ∃ j : Nat, j = (y2 + x).toInt.toNat := ⟨_, rfl⟩
        have hjj : (j : Int) = y2.toInt + x.toInt := by omega
        have hj60 : j < 60 := by omega
        -- class and reference write v
        have kk : ∀ v : Int32, (-9999 ≤ v.toInt ∧ v.toInt ≤ 9999) → (∀ t22 : Int32, (t22 = 0 ∧ (y3 + x = 1 ∨ zI t 72 (61 * n + (y3 + x).toInt.toNat - 1) = 0)) ∨ (1 < (y3 + x).toInt ∧ zI t 72 (61 * n + (y3 + x).toInt.toNat - 1) ≠ 0 ∧ t22 = zI t 73 (61 * n + (y3 + x).toInt.toNat - 1)) → (if zI t 123 (60 * i + j) = 0 then (zJ t 122 (60 * i + j)).toInt32 else t22) = v) → Pc (gd (inB (y3 + x) 61) (st (pI s (p + 3) ((y3 + x).toInt.toNat) v) fun s12 => (vl (x + 1) fun v13 => (vl (x + 1) fun v14 => (f_X3_logged_L6 (lqX p) p (47 + 2 * i) y2 y3 y4 k s12 v13 v14))))) (fun a => Pc (f_X12_log_L63 (lqM a0) a0 a1 y2 y3 y4 (m + 1) t x) (fun b => LG s0 t0 p n a.2 b.2)) := by
          intro v hv ht
          refine Pc_gd (fun _ => Pc_st (Pc_vl (Pc_vl ?_)))
          refine Pc.mono (lg_l ha0 hn ha1 hi h3 h4 hp (Or.inr ⟨v0, w0, v3, vb, vj⟩) k m _ _ (x + 1) (L.w (y := (y3 + x).toInt.toNat) (v := v) (b := (1 : Int32) &&& 1) (by omega) (by omega) hv (by decide)) (by omega)) (fun a ha => ?_)
          refine lgM1 (j := j) ha0 hn ha1 hi h3 hx c h4 hy' hjj (by rw [f0]; exact w0) (by rw [f1]; omega) (by rw [f1]; exact vb.2) (fun t22 h22 => ?_)
          rw [ht t22 h22]
          exact ha
        refine Pc_ift rfl (Pc_vl (Pc_gd (fun _ => Pc_wl (Pc_jn ?_))))
        rw [eJ, ← hj]
        have g123 : zI t 123 (60 * i + j) = zI t0 123 (60 * i + j) := b4' _ _ (by omega) (by omega)
        rcases vj j hj60 with ⟨u1, u2, u3⟩ | ⟨u1, u2⟩
        · rw [u2]
          have jm : (9223372036854775807 : Int64).toInt = 9223372036854775807 := rfl
          have e : ((zJ t0 122 (60 * i + j)).toInt32).toInt = (zJ t0 122 (60 * i + j)).toInt := by
            rw [Int64.toInt_toInt32]
            exact Int.bmod_eq_of_le (by omega) (by omega)
          refine Pc_iff (fun z => ?_) (kk _ (by rw [e]; exact u3) (fun t22 _ => ?_))
          · have := lgc_eq z
            rw [this, jm] at u3
            omega
          · rw [g123, u1, if_pos rfl, fJ]
        · rw [u2]
          refine Pc_ift (by decide) ?_
          unfold f_X3_logAhead
          have ne : ¬ zI t 123 (60 * i + j) = 0 := by rw [g123, u1]; decide
          refine Pc_b1 (Pc_if (fun z => Pc_iff hy (Pc_vl (Pc_gd (fun _ => ?_)))) (fun z => Pc_some (kk 0 (by decide) (fun t22 h22 => ?_))))
          · have z' := z
            rw [jlt, jl1] at z'
            have ep : (y3 + x - 1).toInt = (y3 + x).toInt - 1 := by rw [i32_sub (by rw [jl1]; omega) (by rw [jl1]; omega), jl1]
            have epn : (y3 + x - 1).toInt.toNat = (y3 + x).toInt.toNat - 1 := by omega
            have ei : 61 * n + ((y3 + x).toInt.toNat - 1) = 61 * n + (y3 + x).toInt.toNat - 1 := by omega
            have d1 := c' ((y3 + x).toInt.toNat - 1) (by omega) (by omega)
            rw [ei] at d1
            have d2 := g' (61 * n + (y3 + x).toInt.toNat - 1)
            rw [epn, d1]
            unfold lgV
            by_cases w : zI t 72 (61 * n + (y3 + x).toInt.toNat - 1) = 0
            · rw [if_pos w]
              refine Pc_ift rfl (Pc_some (kk 0 (by decide) (fun t22 h22 => ?_)))
              rw [if_neg ne]
              rcases h22 with h | h
              · exact h.1
              · exact absurd w h.2.1
            · rw [if_neg w]
              refine Pc_iff (sml d2) (Pc_vl (Pc_gd (fun _ => Pc_some ?_)))
              rw [epn, d1]
              unfold lgV
              rw [if_neg w]
              refine kk _ d2 (fun t22 h22 => ?_)
              rw [if_neg ne]
              rcases h22 with ⟨h, h' | h'⟩ | h
              · rw [h', jl1] at z'
                omega
              · exact absurd h' w
              · exact h.2.2
          · rw [if_neg ne]
            rcases h22 with h | h
            · exact h.1
            · exact absurd (by rw [jlt, jl1]; exact h.1) z
      · rw [jlt, jl0] at ng
        have a2 : (y2 + x).toInt = y2.toInt + x.toInt := i32_add (by omega) (by rw [f1] at z; omega)
        rw [f1] at z
        rw [jlt, e3, v3, a2] at lt
        omega
    · show Pc (f_X12_log_L63_b (lqM a0) a0 a1 y2 y3 y4 (f_X12_log_L63 (lqM a0) a0 a1 y2 y3 y4 m) t x) _
      unfold f_X12_log_L63_b
      exact Pc_iff (by rw [jlt]; omega) (Pc_some L)
end LGs
/-! LOG -/
section LKs
variable {s t s' t' : SS} {p n i : Nat}
theorem LSh_of (R : SR s i) (hi : i < 6) (m : mSm s t) (Qr : QRow t) (hb : 0 ≤ (zI s 121 i).toInt ∧ (zI s 121 i).toInt ≤ 60) (o : lgO s i) : LSh s t i := by
  have e0 : zI t 120 i = zI s 120 i := m.2.1 _ _ (by omega) (by omega)
  have e1 : zI t 121 i = zI s 121 i := m.2.1 _ _ (by omega) (by omega)
  have hq : 47 + 2 * i + 1 = 48 + 2 * i := by omega
  rcases R with ⟨h1, h2⟩ | ⟨h1, _⟩ | ⟨h1, h2, h3, h4, h5⟩
  · exact Or.inl ⟨h1, e0.trans h2⟩
  · rcases o with z | z
    · rw [h1] at z; exact absurd z (by decide)
    · have := z.1
      rw [h1] at this; exact absurd this (by decide)
  · have h56 : zI t 120 i = -5 ∨ zI t 120 i = -6 := by
      rw [e0, h2]
      rcases o with z | ⟨_, z | z⟩
      · rw [h1] at z; exact absurd z (by decide)
      · rw [z]; exact Or.inl (by decide)
      · rw [z]; exact Or.inr (by decide)
    refine Or.inr ⟨h1, ?_, by rw [e1]; exact h4, by rw [e1]; exact hb, fun j hj => ?_⟩
    · rcases h56 with z | z <;> rw [z] <;> decide
    · rw [hq]
      have e3 : zI t 123 (60 * i + j) = zI s 123 (60 * i + j) := m.2.1 _ _ (by omega) (by omega)
      have e2 : zJ t 122 (60 * i + j) = zJ s 122 (60 * i + j) := m.2.2 _ _ (by omega) (by omega)
      rcases h5 j hj with ⟨u1, u2⟩ | ⟨u1, u2⟩
      · have z3 : zI t 123 (60 * i + j) = 0 := e3.trans u1
        exact Or.inl ⟨z3, by rw [e2]; exact u2, Qr.2 i hi h56 j hj z3⟩
      · exact Or.inr ⟨e3.trans u1, u2⟩
theorem Q4.lg (Q : Q4 s t) (S : Sh s) (b3 : (zS s 15 3).toInt ≤ 120) (hn : n < 120) (hp : zR s 17 n = some p) (L : LG s t p n s' t') : Q4 s' t' := by
  obtain ⟨⟨a1, a2, a3⟩, ⟨b1, b2, b3', b4⟩, c, g⟩ := L
  have o := S.2.2.1 n p hn hp
  have W : hW p s s' := ⟨fun q k _ _ => a1 q k, fun q j _ _ _ h => a2 q j h, congrArg Prod.snd a3⟩
  have sI : ∀ q j, q < 126 → zI s' q j = zI s q j := fun q j h => a2 q j (by have := o.1; omega)
  obtain ⟨Q1, Q2, Q3, Q5, Q6, Q7, Q8, Q9, Q10, Q11, Q12, Q13, Q14⟩ := Q
  obtain ⟨x0, x1, x2, x3, x4, x5, x6, x7, x8⟩ := Q1.1 n p hn hp
  refine ⟨Q1.up S hn hp W b1.v ?_ (by rw [b4 69 n (by omega) (by omega)]; exact Q1.2.2.2 n hn), Q2.c (fun i => sI 7 i (by omega)) (fun i => sI 8 i (by omega)) (fun i => sI 10 i (by omega)) (fun i => sI 16 i (by omega)) (a1 15 3) (a1 6 4) (fun i => b4 74 i (by omega) (by omega)) (fun i => b4 75 i (by omega) (by omega)) (fun i => b4 77 i (by omega) (by omega)), Q3.c (fun k _ => a1 0 k) (a1 15 4) (W.R 17) (fun i => b4 67 i (by omega) (by omega)) (fun i => b4 69 i (by omega) (by omega)), Q5.c (a1 0 18) (a1 0 14) (fun i => b4 69 i (by omega) (by omega)), Q6.c (fun k => a1 30 k) (a1 0 14) (fun q i _ h => sI q i (by omega)) (fun k _ => b2 59 k) (fun q i h1 h2 => b4 q i (by omega) (by omega)), Q7.c (fun k _ _ => a1 15 k) (fun k _ _ => b2 59 k), Q8.c (fun i hi => a1 _ _) (fun i => b4 80 i (by omega) (by omega)), Q9.c (fun k _ _ => a1 6 k) (fun i => sI 13 i (by omega)) (fun k _ => b2 59 k) (fun i => b4 116 i (by omega) (by omega)) (fun i => b4 118 i (by omega) (by omega)), Q10.c (by rw [a1]; exact Int.le_refl _) (fun i _ h => by rw [W.R]; exact h) b3 (fun i => b4 79 i (by omega) (by omega)), Q11.d S (a1 0 5) (W.d o) (W.R 23) (fun q j h1 h2 => b4 q j (by omega) (by omega)), Q12.d S (a1 0 8) (W.d o) (W.R 27) (fun q _ => W.N q) (fun q j h1 h2 => b4 q j (by omega) (by omega)), Q13.c (fun q i h => b4 q i (by omega) (by omega)) (fun i => by unfold zJ; rw [b3']), Q14.c (a1 0 14) (fun i => b4 68 i (by omega) (by omega))⟩
  refine ⟨by rw [a1, b4 63 _ (by omega) (by omega)]; exact x0, by rw [a1, b4 64 _ (by omega) (by omega)]; exact x1, by rw [a1, b4 65 _ (by omega) (by omega)]; exact x2, by rw [a1, b4 66 _ (by omega) (by omega)]; exact x3, by rw [a1, b4 67 _ (by omega) (by omega)]; exact x4, by rw [a1, b4 68 _ (by omega) (by omega)]; exact x5, by rw [a1, b4 69 _ (by omega) (by omega)]; exact x6, by rw [a1, b4 104 _ (by omega) (by omega)]; exact x7, fun y y1 y2 => ?_⟩
  obtain ⟨w1, w2, _, _⟩ := x8 y y1 y2
  exact ⟨by rw [a2 (p + 1) y (by omega), b4 70 _ (by omega) (by omega)]; exact w1, by rw [a2 (p + 2) y (by omega), b4 71 _ (by omega) (by omega)]; exact w2, c y y1 y2, sml (g _)⟩
theorem L_log (G : GI s) (mm : mSm s t) (B : B1 s t) (Q : Q4 s t) (N : QLgs t) (a0 a1 a2 a3 a4 : Int32) : Pc (f_X11_log s a0 a1 a2 a3 a4) fun x => Pc (f_X12_log t a0 a1 a2 a3 a4) fun m => Q4 x.2 m.2 ∧ QLgs m.2 := by
  have j60 : (60 : Int32).toInt = 60 := rfl
  have j5 : (5 : Int32).toInt = 5 := rfl
  unfold f_X11_log f_X12_log
  rw [holeOfX B, isHoleO B]
  have b := B.1.tot
  by_cases c : hO s a0 = none
  · rw [c, if_pos rfl]
    exact Pc_b1S (Pc_onN (Pc_b1x (fun _ => Pc_on (fun _ => Pc_some (Pc_b1S (Pc_if00 (Pc_some ⟨Q, N⟩)))) (fun _ _ => Pc_some (Pc_b1S (Pc_if00 (Pc_some ⟨Q, N⟩)))))))
  rw [if_neg c]
  unfold hO at c ⊢
  by_cases d : 0 ≤ a0.toInt ∧ a0.toInt < (zS s 15 3).toInt
  · rw [if_pos d] at c ⊢
    cases hp : zR s 17 a0.toInt.toNat with
    | none => exact absurd hp c
    | some p =>
    have hn : a0.toInt.toNat < 120 := by omega
    have S := B.1.sh
    have o := S.2.2.1 _ _ hn hp
    refine Pc_b1S (Pc_onS ?_)
    by_cases e : 0 ≤ a1.toInt ∧ a1.toInt < 6
    · have ms : f_X12_isShelf a1 = some 1 := by
        unfold f_X12_isShelf
        rw [in_t (by rw [jl0, j5]; omega), b1_some]
      rw [shelf_t G.1.1 e, ms]
      refine Pc_b1S (Pc_onS ?_)
      obtain ⟨i, ei⟩ : ∃ i, i = a1.toInt.toNat := ⟨_, rfl⟩
      have hi : i < 6 := by omega
      rw [← ei]
      have SRi : SR s i := G.1.2.2.2.2.2 i hi
      have R1 := (lgO_M SRi).1
      by_cases y1 : 1 ≤ a3.toInt ∧ a3.toInt ≤ 60
      · rw [yard_t y1, in_t (a := a3) (by rw [jl1, j60]; exact y1)]
        refine Pc_b1S (Pc_if10 ?_)
        by_cases y2 : 1 ≤ a4.toInt ∧ a4.toInt ≤ 60
        · rw [in_t (a := a4) (by rw [jl1, j60]; exact y2)]
          refine Pc_iff (by rw [jlt, jl1]; omega) (Pc_iff (by rw [jlt, j60]; omega) ?_)
          have e120 : zI t 120 i = zI s 120 i := mm.2.1 _ _ (by omega) (by omega)
          -- the reference's end
          have mdl : ∀ (K : Option (Int32 × SS)) (R : Int32 × SS → Prop), (lgO s i → Pc K R) → (¬ lgO s i → R (-12, t)) → Pc (b1 (some (1 : Int32)) fun r1 => (if r1 = (0 : Int32) then some ((-1), t) else (b1 (some (1 : Int32)) fun r3 => (if r3 = (0 : Int32) then some ((-1), t) else (b1 (some (1 : Int32)) fun r5 => (if r5 = (0 : Int32) then some ((-1), t) else (b1 (some (1 : Int32)) fun r7 => (if r7 = (0 : Int32) then some ((-1), t) else (gd (inB a1 6) (jn K fun k11 => (if (zI t 120 i) = ((-1) : Int32) then k11 else (b1 (f_X12_isReals t a1) fun r48 => (if r48 = (0 : Int32) then some ((-12), t) else k11))))))))))))) R := by
            intro K R h1 h2
            refine Pc_b1S (Pc_if10 (Pc_b1S (Pc_if10 (Pc_b1S (Pc_if10 (Pc_b1S (Pc_if10 (Pc_gd (fun _ => Pc_jn ?_)))))))))
            refine Pc_if (fun z => h1 (R1.2 (Or.inl (e120.symm.trans z)))) (fun z => Pc_b1 (Pc.mono (reals_p a1) (fun r hr => ?_)))
            rw [← ei, e120] at hr
            rcases hr with ⟨hr, w⟩ | ⟨hr, w⟩
            · rw [hr]
              exact Pc_if10 (h1 (R1.2 (Or.inr w)))
            · rw [hr]
              refine Pc_if00 (Pc_some (h2 (fun z' => ?_)))
              rcases R1.1 z' with v | v
              · exact z (e120.trans v)
              · exact w v
          by_cases og : lgO s i
          · have hd1 : ¬ zS s (47 + 2 * i) 0 = 1 := by
              rcases og with z | z
              · rw [z]; decide
              · rw [z.1]; decide
            refine Pc_iff hd1 (Pc_jn0 ?_ (fun k hk => Pc_if (fun z => Pc_b1 ?_) (fun _ => hk)))
            · unfold f_X3_logged
              have L0 : LG s t p a0.toInt.toNat s t := ⟨⟨fun _ _ => rfl, fun _ _ _ => rfl, rfl⟩, ⟨mW.rf, fun _ _ => rfl, rfl, fun _ _ _ _ => rfl⟩, fun y h1 h2 => ((Q.1.1 _ _ hn hp).2.2.2.2.2.2.2.2 y h1 h2).2.2.1, N⟩
              have V : LSh s t i := LSh_of SRi hi mm Q.2.2.2.2.2.2.2.2.2.2.2.1 (G.1.1.1.a (q := 121) rfl) og
              refine Pc_bd (Pc.mono (lg_l (y2 := a2) (y4 := a4) (n := a0.toInt.toNat) (a0 := a0) (a1 := a1) (by omega) hn (by omega) hi y1 y2.2 o.1 V 4000 4000 s t 0 L0 (by decide)) (fun a ha => Pc_some ?_))
              exact mdl _ _ (fun _ => Pc.mono ha (fun u L => ⟨Q.lg S b.2.2 hn hp L, L.2.2.2⟩)) (fun z => absurd og z)
            · unfold f_X8_isReal
              refine Pc_ift z (Pc_if (fun _ => Pc_some (Pc_if10 hk)) (fun w => Pc_if (fun _ => Pc_some (Pc_if10 hk)) (fun w' => ?_)))
              exfalso
              rcases og with v | ⟨_, v | v⟩
              · rw [z] at v; exact absurd v (by decide)
              · exact w v
              · exact w' v
          · refine Pc_if (fun _ => Pc_some (mdl _ _ (fun z => absurd z og) (fun _ => ⟨Q, N⟩))) (fun n1 => Pc_jn ?_)
            have n0 : ¬ zS s (47 + 2 * i) 0 = 0 := fun z => og (Or.inl z)
            have z2 : zS s (47 + 2 * i) 0 = 2 := by
              rcases SRi with h | h | h
              · exact absurd h.1 n0
              · exact absurd h.1 n1
              · exact h.1
            refine Pc_ift z2 (Pc_b1 ?_)
            unfold f_X8_isReal
            exact Pc_ift z2 (Pc_iff (fun z => og (Or.inr ⟨z2, Or.inl z⟩)) (Pc_iff (fun z => og (Or.inr ⟨z2, Or.inr z⟩)) (Pc_some (Pc_if00 (Pc_some (mdl _ _ (fun z => absurd z og) (fun _ => ⟨Q, N⟩)))))))
        · rw [in_f (a := a4) (by rw [jl1, j60]; exact y2)]
          have M : ∀ K : Option (Int32 × SS), Pc (b1 (some (1 : Int32)) fun r1 => (if r1 = (0 : Int32) then some ((-1), t) else (b1 (some (1 : Int32)) fun r3 => (if r3 = (0 : Int32) then some ((-1), t) else (b1 (some (1 : Int32)) fun r5 => (if r5 = (0 : Int32) then some ((-1), t) else (b1 (some (0 : Int32)) fun r7 => (if r7 = (0 : Int32) then some ((-1), t) else K)))))))) (fun m => Q4 s m.2 ∧ QLgs m.2) := fun K => Pc_b1S (Pc_if10 (Pc_b1S (Pc_if10 (Pc_b1S (Pc_if10 (Pc_b1S (Pc_if00 (Pc_some ⟨Q, N⟩))))))))
          refine Pc_lt (fun _ => Pc_some (M _)) (fun z => Pc_lt (fun _ => Pc_some (M _)) (fun w => ?_))
          rw [jl1] at z
          rw [j60] at w
          exact absurd ⟨z, w⟩ y2
      · rw [yard_f y1, in_f (a := a3) (by rw [jl1, j60]; exact y1)]
        exact Pc_b1S (Pc_if00 (Pc_some (Pc_b1S (Pc_if10 (Pc_b1S (Pc_if10 (Pc_b1S (Pc_if00 (Pc_some ⟨Q, N⟩)))))))))
    · have ms : f_X12_isShelf a1 = some 0 := by
        unfold f_X12_isShelf
        rw [in_f (by rw [jl0, j5]; omega), b1_some]
      rw [shelf_f e, ms]
      exact Pc_b1S (Pc_onN (Pc_some (Pc_b1S (Pc_if10 (Pc_b1S (Pc_if00 (Pc_some ⟨Q, N⟩)))))))
  · rw [if_neg d] at c
    exact absurd rfl c
end LKs
/-! RAISE -/
section RSs
variable {s t s0 t0 : SS}
theorem QMen.dn {m : Nat} {b : Int32} (R : QMen s t) (hm : m < 120) (h : zI s 10 m = 1) (hb : b = 0) : QMen (pS (pI s 10 m 0) 6 4 (zS (pI s 10 m 0) 6 4 - 1)) (pI t 77 m b) := by
  obtain ⟨R1, R2⟩ := R
  refine ⟨fun i hi => ?_, ?_⟩
  · obtain ⟨m1, m2, m3, m4, m5⟩ := R1 i hi
    have e7 : ∀ q, q ≠ 10 → zI (pS (pI s 10 m 0) 6 4 (zS (pI s 10 m 0) 6 4 - 1)) q i = zI s q i := fun q hq => by rw [zI_pS, zI_pI, if_neg (by omega)]
    have f7 : ∀ q, q ≠ 77 → zI (pI t 77 m b) q i = zI t q i := fun q hq => by rw [zI_pI, if_neg (by omega)]
    have e3 : zS (pS (pI s 10 m 0) 6 4 (zS (pI s 10 m 0) 6 4 - 1)) 15 3 = zS s 15 3 := rfl
    rw [e7 7 (by omega), e7 8 (by omega), e7 16 (by omega), f7 74 (by omega), f7 75 (by omega), e3]
    rw [zI_pS, zI_pI, zI_pI]
    by_cases z : i = m
    · rw [if_pos ⟨rfl, z⟩, if_pos ⟨rfl, z⟩]
      exact ⟨m1, m2, hb.symm, Or.inl rfl, fun w => absurd w (by decide)⟩
    · rw [if_neg (fun w => z w.2), if_neg (fun w => z w.2)]
      exact ⟨m1, m2, m3, m4, m5⟩
  · have hb := ySum_b (f := fun i => if i < 120 then (zI s 10 i).toInt else 0) (c := 1) (fun i => by
      by_cases z : i < 120
      · rw [if_pos z]
        rcases (R1 i z).2.2.2.1 with y | y <;> rw [y] <;> decide
      · rw [if_neg z]; decide) 120
    have hb2 : ySum (fun i => if i < 120 then (zI s 10 i).toInt else 0) 120 = ySum (fun i => (zI s 10 i).toInt) 120 := ySum_c (fun i hi => by rw [if_pos hi])
    have e4 : (zS s 6 4 - 1).toInt = (zS s 6 4).toInt - 1 := by
      rw [i32_sub (by rw [jl1]; omega) (by rw [jl1]; omega), jl1]
    show (zS s 6 4 - 1).toInt = ySum (fun i => (if 10 = 10 ∧ i = m then (0 : Int32) else zI s 10 i).toInt) 120
    rw [ySum_up (f := fun i => (zI s 10 i).toInt) (j := m) (fun i hi => by rw [if_neg (by omega)]), if_pos hm, if_pos ⟨rfl, rfl⟩, h, e4, R2, jl1, jl0]
    omega
/-- when the hour is past, the reference goes on and takes nobody -/
theorem rai_t {y1 x2 : Int32} (h83 : 0 ≤ (zS t 59 83).toInt ∧ (zS t 59 83).toInt ≤ 1699) (hy : 0 ≤ y1.toInt ∧ y1.toInt ≤ 199) (h82 : (zS t 59 82).toInt ≤ 120) {R : Int32 × SS → Prop} (r : R (x2, t)) : ∀ (m : Nat) (x3 : Int32), 0 ≤ x3.toInt → (∀ i : Nat, x3.toInt ≤ i → (i : Int) < (zS t 59 82).toInt → (zS t 59 83).toInt + y1.toInt < (zI t 118 i).toInt) → Pc (f_X12_raise_L27 y1 m t x2 x3) R
  | 0, _, _, _ => Pc_none
  | m + 1, x3, h0, h => by
    show Pc (f_X12_raise_L27_b y1 (f_X12_raise_L27 y1 m) t x2 x3) R
    unfold f_X12_raise_L27_b
    have e : (zS t 59 83 + y1).toInt = (zS t 59 83).toInt + y1.toInt := i32_add (by omega) (by omega)
    refine Pc_lt (fun c => Pc_gd (fun _ => Pc_jn (Pc_ift ?_ (Pc_vl ?_)))) (fun _ => Pc_some r)
    · have := h x3.toInt.toNat (by omega) (by omega)
      rw [jlt, e]
      exact this
    · have n1 : (x3 + 1).toInt = x3.toInt + 1 := by rw [i32_add (by rw [jl1]; omega) (by rw [jl1]; omega), jl1]
      exact rai_t h83 hy h82 r m (x3 + 1) (by omega) (fun i h1 h2 => h i (by omega) h2)
def RZ (s0 t0 s t : SS) : Prop := Frm [(6, 4)] [10] [] s0 s ∧ Frm [] [77] [] t0 t ∧ QMen s t
theorem rai_l {y1 : Int32} (hy : 0 ≤ y1.toInt ∧ y1.toInt ≤ 199) (h10 : (zS s0 6 10).toInt ≤ 120) (e10 : zS s0 6 10 = zS t0 59 82) (e11 : zS s0 6 11 = zS t0 59 83) (b11 : 0 ≤ (zS s0 6 11).toInt ∧ (zS s0 6 11).toInt ≤ 1699) (b12 : 1 ≤ (zS s0 6 12).toInt ∧ (zS s0 6 12).toInt ≤ 4) (hm : ∀ i : Nat, i < 120 → (i : Int) < (zS s0 6 10).toInt → zI s0 13 i = zI t0 116 i ∧ (zI t0 118 i).toInt = (zS s0 6 11).toInt + ((i : Int) + 1) * (zS s0 6 12).toInt) : ∀ (n m : Nat) (s t : SS) (x2 x3 : Int32), RZ s0 t0 s t → 0 ≤ x3.toInt → Pc (f_X2_raisedWithin_L4 y1 n s x2 x3) (fun a => Pc (f_X12_raise_L27 y1 m t x2 x3) (fun b => a.1 = b.1 ∧ RZ s0 t0 a.2 b.2))
  | 0, _, _, _, _, _, _, _ => Pc_none
  | n + 1, 0, _, _, _, _, _, _ => fun _ _ => Pc_none
  | n + 1, m + 1, s, t, x2, x3, Z, h0 => by
    obtain ⟨F, F', M⟩ := id Z
    have f10 : zS s 6 10 = zS s0 6 10 := F.1 6 10 rfl
    have f12 : zS s 6 12 = zS s0 6 12 := F.1 6 12 rfl
    have f13 : ∀ i, zI s 13 i = zI s0 13 i := fun i => F.2.1 13 i rfl
    have g82 : zS t 59 82 = zS t0 59 82 := F'.1 59 82 rfl
    have g83 : zS t 59 83 = zS t0 59 83 := F'.1 59 83 rfl
    have g116 : ∀ i, zI t 116 i = zI t0 116 i := fun i => F'.2.1 116 i rfl
    have g118 : ∀ i, zI t 118 i = zI t0 118 i := fun i => F'.2.1 118 i rfl
    show Pc (f_X2_raisedWithin_L4_b y1 (f_X2_raisedWithin_L4 y1 n) s x2 x3) _
    unfold f_X2_raisedWithin_L4_b
    rw [f10, f12]
    refine Pc_lt (fun c => ?_) (fun c => Pc_some ?_)
    · have n1 : (x3 + 1).toInt = x3.toInt + 1 := by rw [i32_add (by rw [jl1]; omega) (by rw [jl1]; omega), jl1]
      have hx : x3.toInt.toNat < 120 := by omega
      obtain ⟨m1, m2⟩ := hm x3.toInt.toNat hx (by omega)
      have hxn : ((x3.toInt.toNat : Nat) : Int) = x3.toInt := by omega
      rw [hxn] at m2
      have pb : 0 ≤ (x3.toInt + 1) * (zS s0 6 12).toInt ∧ (x3.toInt + 1) * (zS s0 6 12).toInt ≤ 480 := by
        have h12 : (zS s0 6 12).toInt = 1 ∨ (zS s0 6 12).toInt = 2 ∨ (zS s0 6 12).toInt = 3 ∨ (zS s0 6 12).toInt = 4 := by omega
        rcases h12 with w | w | w | w <;> rw [w] <;> omega
      have mu : ((x3 + 1) * zS s0 6 12).toInt = (x3.toInt + 1) * (zS s0 6 12).toInt := by rw [i32_mul (by rw [n1]; omega) (by rw [n1]; omega), n1]
      have ad : (zS t 59 83 + y1).toInt = (zS s0 6 11).toInt + y1.toInt := by rw [g83, ← e11, i32_add (by omega) (by omega)]
      refine Pc_if (fun z => Pc_some ?_) (fun z => Pc_gd (fun g => Pc_vl (Pc_jn ?_)))
      · -- past the hours
        rw [jlt, mu] at z
        refine rai_t (by rw [g83, ← e11]; exact b11) hy (by rw [g82, ← e10]; exact h10) ⟨rfl, Z⟩ (m + 1) x3 h0 (fun i h1 h2 => ?_)
        rw [g82, ← e10] at h2
        rw [g83, ← e11, g118, (hm i (by omega) h2).2]
        have : (x3.toInt + 1) * (zS s0 6 12).toInt ≤ ((i : Int) + 1) * (zS s0 6 12).toInt := Int.mul_le_mul_of_nonneg_right (by omega) (by omega)
        omega
      · rw [jlt, mu] at z
        -- the reference, one man
        have skp : ∀ R : Int32 × SS → Prop, (∀ v, v = zI t 116 x3.toInt.toNat → inB v 120 → zI t 77 v.toInt.toNat = 0) → Pc (f_X12_raise_L27 y1 m t x2 (x3 + 1)) R → Pc (f_X12_raise_L27 y1 (m + 1) t x2 x3) R := by
          intro R hz k
          show Pc (f_X12_raise_L27_b y1 (f_X12_raise_L27 y1 m) t x2 x3) R
          unfold f_X12_raise_L27_b
          rw [g82, ← e10]
          refine Pc_ift (by rw [jlt]; exact c) (Pc_gd (fun _ => Pc_jn (Pc_iff (by rw [jlt, ad, g118, m2]; omega) (Pc_gd (fun _ => Pc_vl (Pc_gd (fun gv => ?_)))))))
          exact Pc_ift (hz _ rfl gv) (Pc_vl k)
        have tak : ∀ R : Int32 × SS → Prop, (∀ v, v = zI t 116 x3.toInt.toNat → inB v 120 → ¬ zI t 77 v.toInt.toNat = 0 ∧ Pc (f_X12_raise_L27 y1 m (pI t 77 v.toInt.toNat ((0 : Int32) &&& 1)) (x2 + 1) (x3 + 1)) R) → Pc (f_X12_raise_L27 y1 (m + 1) t x2 x3) R := by
          intro R hz
          show Pc (f_X12_raise_L27_b y1 (f_X12_raise_L27 y1 m) t x2 x3) R
          unfold f_X12_raise_L27_b
          rw [g82, ← e10]
          refine Pc_ift (by rw [jlt]; exact c) (Pc_gd (fun _ => Pc_jn (Pc_iff (by rw [jlt, ad, g118, m2]; omega) (Pc_gd (fun _ => Pc_vl (Pc_gd (fun gv => ?_)))))))
          obtain ⟨h1, h2⟩ := hz _ rfl gv
          exact Pc_iff h1 (Pc_gd (fun _ => Pc_vl (Pc_gd (fun _ => Pc_st (Pc_vl (Pc_vl h2))))))
        have ev : zI s 13 x3.toInt.toNat = zI t 116 x3.toInt.toNat := by rw [f13, g116]; exact m1
        have go : (∀ v, v = zI t 116 x3.toInt.toNat → inB v 120 → zI t 77 v.toInt.toNat = 0) → Pc (vl (x3 + 1) fun v6 => f_X2_raisedWithin_L4 y1 n s x2 v6) (fun a => Pc (f_X12_raise_L27 y1 (m + 1) t x2 x3) (fun b => a.1 = b.1 ∧ RZ s0 t0 a.2 b.2)) := fun hz => Pc_vl (Pc.mono (rai_l hy h10 e10 e11 b11 b12 hm n m s t x2 (x3 + 1) Z (by omega)) (fun a ha => skp _ hz ha))
        rw [ev]
        have j120 : (120 : Int32).toInt = 120 := rfl
        refine Pc_lt (fun w => go (fun v e gv => ?_)) (fun w => Pc_lt (fun w2 => Pc_gd (fun gv => Pc_if (fun e1 => Pc_gd (fun _ => Pc_st (Pc_vl (Pc_st (Pc_vl (Pc_vl ?_)))))) (fun e1 => go (fun v e gv => ?_)))) (fun w2 => go (fun v e gv => ?_)))
        · rw [e] at gv
          have := gv.1
          rw [jl0] at w
          omega
        · have hv : (zI t 116 x3.toInt.toNat).toInt.toNat < 120 := by have := gv.1; have := gv.2; omega
          have Z1 : RZ s0 t0 (pS (pI s 10 (zI t 116 x3.toInt.toNat).toInt.toNat 0) 6 4 (zS (pI s 10 (zI t 116 x3.toInt.toNat).toInt.toNat 0) 6 4 - 1)) (pI t 77 (zI t 116 x3.toInt.toNat).toInt.toNat ((0 : Int32) &&& 1)) := ⟨(F.pI rfl).pS rfl, F'.pI rfl, M.dn hv e1 (by decide)⟩
          refine Pc.mono (rai_l hy h10 e10 e11 b11 b12 hm n m _ _ (x2 + 1) (x3 + 1) Z1 (by omega)) (fun a ha => tak _ (fun v e gv => ?_))
          rw [e]
          refine ⟨?_, ha⟩
          rw [← (M.1 _ hv).2.2.1, e1]
          decide
        · have hv : (zI t 116 x3.toInt.toNat).toInt.toNat < 120 := by rw [e] at gv; have := gv.1; have := gv.2; omega
          rw [e, ← (M.1 _ hv).2.2.1]
          rcases (M.1 _ hv).2.2.2.1 with y | y
          · exact y
          · exact absurd y e1
        · rw [e] at gv
          have := gv.2
          rw [j120] at w2
          omega
    · show Pc (f_X12_raise_L27_b y1 (f_X12_raise_L27 y1 m) t x2 x3) _
      unfold f_X12_raise_L27_b
      rw [g82, ← e10]
      exact Pc_iff (by rw [jlt]; omega) (Pc_some ⟨rfl, Z⟩)
theorem L_raise (B : B1 s t) (Q : Q4 s t) (a0 : Int32) : Pc (f_X11_raise s a0) fun x => Pc (f_X12_raise t a0) fun m => x.1 = m.1 ∧ Q4 x.2 m.2 := by
  have j199 : (199 : Int32).toInt = 199 := rfl
  unfold f_X11_raise f_X12_raise
  by_cases c : 0 ≤ a0.toInt ∧ a0.toInt ≤ 199
  · rw [in_t (by rw [jl0, j199]; exact c)]
    refine Pc_iff (by rw [jlt, jl0]; omega) (Pc_iff (by rw [jlt, j199]; omega) ?_)
    rcases Q.2.2.2.2.2.2.2.1 with ⟨l1, l2⟩ | ⟨l1, l2, l3, l4, l5, l6⟩
    · exact Pc_ift l1 (Pc_some (Pc_b1S (Pc_if10 (Pc_ift (by rw [l2]; decide) (Pc_some ⟨rfl, Q⟩)))))
    · refine Pc_iff (fun z => by rw [z, jl0] at l1; omega) (Pc_bd ?_)
      have h10 : (zS s 6 10).toInt ≤ 120 := (B.1.fx (q := 6) (k := 10) (by omega) : 0 ≤ (zS s 6 10).toInt ∧ (zS s 6 10).toInt ≤ 120).2
      refine Pc.mono (rai_l c h10 l2 l3 l4 l5 l6 4000 4000 s t 0 0 ⟨Frm.rf, Frm.rf, Q.2.1⟩ (by decide)) (fun a ha => Pc_some (Pc_b1S (Pc_if10 (Pc_iff (by rw [← l2, jlt, jl0]; omega) (Pc.mono ha (fun b hb => ?_))))))
      obtain ⟨v, F, F', M⟩ := hb
      refine ⟨v, ?_⟩
      obtain ⟨Q1, Q2, Q3, Q5, Q6, Q7, Q8, Q9, Q10, Q11, Q12, Q13, Q14⟩ := Q
      have eS : ∀ q k, ¬ (q = 6 ∧ k = 4) → zS a.2 q k = zS s q k := fun q k w => F.1 q k (by
        cases z : ([(6, 4)] : List (Nat × Nat)).contains (q, k) with
        | false => rfl
        | true =>
          have : (q, k) = (6, 4) := by simpa using z
          exact absurd ⟨congrArg Prod.fst this, congrArg Prod.snd this⟩ w)
      have eI : ∀ q j, q ≠ 10 → zI a.2 q j = zI s q j := fun q j w => F.2.1 q j (by simp [w])
      have gS : ∀ k, zS b.2 59 k = zS t 59 k := fun k => F'.1 59 k rfl
      have gI : ∀ q j, q ≠ 77 → zI b.2 q j = zI t q j := fun q j w => F'.2.1 q j (by simp [w])
      have S := B.1.sh
      exact ⟨Q1.c S (fun q k w => eS q k (by omega)) (fun q j w => eI q j (by omega)) (fun i => F.zR_ 17 i) (fun q j w1 w2 => gI q j (by omega)), M, Q3.c (fun k _ => eS 0 k (by omega)) (eS 15 4 (by omega)) (fun i => F.zR_ 17 i) (fun i => gI 67 i (by omega)) (fun i => gI 69 i (by omega)), Q5.c (eS 0 18 (by omega)) (eS 0 14 (by omega)) (fun i => gI 69 i (by omega)), Q6.c (fun k => eS 30 k (by omega)) (eS 0 14 (by omega)) (fun q i w1 w2 => eI q i (by omega)) (fun k _ => gS k) (fun q i w1 w2 => gI q i (by omega)), Q7.c (fun k _ _ => eS 15 k (by omega)) (fun k _ _ => gS k), Q8.c (fun i hi => eS _ _ (by omega)) (fun i => gI 80 i (by omega)), Q9.c (fun k w1 w2 => eS 6 k (by omega)) (fun i => eI 13 i (by omega)) (fun k _ => gS k) (fun i => gI 116 i (by omega)) (fun i => gI 118 i (by omega)), Q10.c (by rw [eS 15 3 (by omega)]; exact Int.le_refl _) (fun i _ h => by rw [F.zR_]; exact h) B.1.tot.2.2 (fun i => gI 79 i (by omega)), Q11.c S (eS 0 5 (by omega)) (fun q k w => eS q k (by omega)) (fun q j w => eI q j (by omega)) (fun i => F.zR_ 23 i) (fun q j w1 w2 => gI q j (by omega)), Q12.c S (eS 0 8 (by omega)) (fun q k w => eS q k (by omega)) (fun q j w => eI q j (by omega)) (fun i => F.zR_ 27 i) (fun q _ => F.zN_ q) (fun q j w1 w2 => gI q j (by omega)), Q13.c (fun q i w => gI q i (by omega)) (fun i => F'.2.2.1 122 i rfl), Q14.c (eS 0 14 (by omega)) (fun i => gI 68 i (by omega))⟩
  · rw [in_f (by rw [jl0, j199]; exact c)]
    refine Pc_lt (fun _ => Pc_some (Pc_b1S (Pc_if00 (Pc_some ⟨rfl, Q⟩)))) (fun z => Pc_lt (fun _ => Pc_some (Pc_b1S (Pc_if00 (Pc_some ⟨rfl, Q⟩)))) (fun w => ?_))
    rw [jl0] at z
    rw [j199] at w
    exact absurd ⟨z, w⟩ c
end RSs
/-! THE CAPSULE -/
section CPs
variable {s t s0 t0 : SS}
theorem nS1 {q k : Nat} {x y : Nat} (w : ¬ (q = x ∧ k = y)) : ([(x, y)] : List (Nat × Nat)).contains (q, k) = false := by
  cases z : ([(x, y)] : List (Nat × Nat)).contains (q, k) with
  | false => rfl
  | true =>
    have : (q, k) = (x, y) := by simpa using z
    exact absurd ⟨congrArg Prod.fst this, congrArg Prod.snd this⟩ w
theorem Q4w.cp {h : Int} (Q : Q4w h s t) (S : Sh s) (b3 : (zS s 15 3).toInt ≤ 120) {s' t' : SS} (F : Frm [(6, 10), (6, 11), (6, 12)] [13, 14, 28, 29] [] s s') (G : Frm [(59, 82), (59, 83)] [95, 96, 116, 117, 118] [] t t') : Q4w h s' t' := by
  obtain ⟨Q1, Q2, Q3, Q5, Q6, Q7, Q8, Q9, Q10, Q11, Q12, Q13, Q14⟩ := Q
  have eS : ∀ q k, ¬ (q = 6 ∧ 10 ≤ k ∧ k ≤ 12) → zS s' q k = zS s q k := fun q k w => F.1 q k (by
    cases z : ([(6, 10), (6, 11), (6, 12)] : List (Nat × Nat)).contains (q, k) with
    | false => rfl
    | true =>
      have : (q, k) = (6, 10) ∨ (q, k) = (6, 11) ∨ (q, k) = (6, 12) := by simpa using z
      rcases this with e | e | e <;> exact absurd ⟨congrArg Prod.fst e, by have := congrArg Prod.snd e; dsimp only at this; omega⟩ w)
  have eI : ∀ q j, q < 13 ∨ q = 16 ∨ (30 ≤ q) → zI s' q j = zI s q j := fun q j w => F.2.1 q j (by
    cases z : ([13, 14, 28, 29] : List Nat).contains q with
    | false => rfl
    | true =>
      have : q = 13 ∨ q = 14 ∨ q = 28 ∨ q = 29 := by simpa using z
      omega)
  have gS : ∀ k, k < 82 → zS t' 59 k = zS t 59 k := fun k w => G.1 59 k (by
    cases z : ([(59, 82), (59, 83)] : List (Nat × Nat)).contains (59, k) with
    | false => rfl
    | true =>
      have : (59, k) = (59, 82) ∨ (59, k) = (59, 83) := by simpa using z
      rcases this with e | e <;> (have := congrArg Prod.snd e; dsimp only at this; omega))
  have gI : ∀ q j, q < 95 ∨ (97 ≤ q ∧ q < 116) ∨ 119 ≤ q → zI t' q j = zI t q j := fun q j w => G.2.1 q j (by
    cases z : ([95, 96, 116, 117, 118] : List Nat).contains q with
    | false => rfl
    | true =>
      have : q = 95 ∨ q = 96 ∨ q = 116 ∨ q = 117 ∨ q = 118 := by simpa using z
      omega)
  exact ⟨Q1.c S (fun q k w => eS q k (by omega)) (fun q j w => eI q j (by omega)) (fun i => F.zR_ 17 i) (fun q j w1 w2 => gI q j (by omega)), Q2.c (fun i => eI 7 i (by omega)) (fun i => eI 8 i (by omega)) (fun i => eI 10 i (by omega)) (fun i => eI 16 i (by omega)) (eS 15 3 (by omega)) (eS 6 4 (by omega)) (fun i => gI 74 i (by omega)) (fun i => gI 75 i (by omega)) (fun i => gI 77 i (by omega)), Q3.c (fun k _ => eS 0 k (by omega)) (eS 15 4 (by omega)) (fun i => F.zR_ 17 i) (fun i => gI 67 i (by omega)) (fun i => gI 69 i (by omega)), Q5.c (eS 0 18 (by omega)) (eS 0 14 (by omega)) (fun i => gI 69 i (by omega)), Q6.d (fun k => eS 30 k (by omega)) (fun q i w1 w2 => eI q i (by omega)) (fun k w => gS k (by omega)) (fun q i w1 w2 => gI q i (by omega)), Q7.c (fun k _ _ => eS 15 k (by omega)) (fun k w1 w2 => gS k (by omega)), Q8.c (fun i hi => eS _ _ (by omega)) (fun i => gI 80 i (by omega)), trivial, Q10.c (by rw [eS 15 3 (by omega)]; exact Int.le_refl _) (fun i _ h => by rw [F.zR_]; exact h) b3 (fun i => gI 79 i (by omega)), Q11.c S (eS 0 5 (by omega)) (fun q k w => eS q k (by omega)) (fun q j w => eI q j (by omega)) (fun i => F.zR_ 23 i) (fun q j w1 w2 => gI q j (by omega)), Q12.c S (eS 0 8 (by omega)) (fun q k w => eS q k (by omega)) (fun q j w => eI q j (by omega)) (fun i => F.zR_ 27 i) (fun q _ => F.zN_ q) (fun q j w1 w2 => gI q j (by omega)), Q13.c (fun q i w => gI q i (by omega)) (fun i => G.2.2.1 122 i rfl), Q14.d (fun i => gI 68 i (by omega))⟩
/-- frames while they are taken -/
def CP (s0 t0 s t : SS) : Prop := Frm [(6, 10)] [13, 14, 28, 29] [] s0 s ∧ Frm [] [95, 96, 116, 117] [] t0 t
def LLx (s t : SS) (c x : Int) : Prop := ∀ i : Nat, (i : Int) ≤ c → (i : Int) ≠ x → zI s 13 i = zI t 116 i ∧ zI s 14 i = zI t 117 i
def qLx (man first : Int32) : SS → Int32 → Option SS := fun (s19 : SS) (x19_3 : Int32) => (gd (inB x19_3 120) (st (pI s19 13 (x19_3.toInt.toNat) man) fun s21 => (gd (inB x19_3 120) (st (pI s21 14 (x19_3.toInt.toNat) first) fun s23 => (vl (((zS s23 6 10) + (1 : Int32))) fun v24 => (st (pS s23 6 10 v24) fun s25 => some s25))))))
def qLm (kM : SS → Option (Int32 × SS)) (man first : Int32) : SS → Int32 → Option (Int32 × SS) := fun (s31 : SS) (x31_5 : Int32) => (gd (inB x31_5 120) (st (pI s31 116 (x31_5.toInt.toNat) man) fun s33 => (gd (inB x31_5 120) (st (pI s33 117 (x31_5.toInt.toNat) first) fun s35 => kM s35))))
theorem ins_l {kM : SS → Option (Int32 × SS)} {man first y1 y2 y3 : Int32} {c : Int} (hc : 0 ≤ c ∧ c < 120) : ∀ (n m : Nat) (s t : SS) (x : Int32), CP s0 t0 s t → (zS s 6 10).toInt = c → 0 ≤ x.toInt → x.toInt ≤ c → LLx s t c x.toInt → Pc (f_X2_liftTakes_L15 (qLx man first) man first n s x) (fun r => ∀ R : Int32 × SS → Prop, (∀ u, CP s0 t0 r u → (zS r 6 10).toInt = c + 1 → LLx r u c (c + 1) → Pc (kM u) R) → Pc (f_X12_capsule_L85 (qLm kM man first) y1 y2 y3 first m t x) R)
  | 0, _, _, _, _, _, _, _, _, _ => Pc_none
  | n + 1, 0, _, _, _, _, _, _, _, _ => fun _ _ _ _ => Pc_none
  | n + 1, m + 1, s, t, x, C, h10, h0, h1, L => by
    show Pc (f_X2_liftTakes_L15_b (qLx man first) man first (f_X2_liftTakes_L15 (qLx man first) man first n) s x) _
    unfold f_X2_liftTakes_L15_b
    -- the place is found
    have put : (¬ ((0 : Int32) < x) ∨ ((0 : Int32) < x ∧ ¬ zI t 117 (x - 1).toInt.toNat < first)) → Pc (qLx man first s x) (fun r => ∀ R : Int32 × SS → Prop, (∀ u, CP s0 t0 r u → (zS r 6 10).toInt = c + 1 → LLx r u c (c + 1) → Pc (kM u) R) → Pc (f_X12_capsule_L85 (qLm kM man first) y1 y2 y3 first (m + 1) t x) R) := by
      intro hp
      unfold qLx
      refine Pc_gd (fun _ => Pc_st (Pc_gd (fun _ => Pc_st (Pc_vl (Pc_st (Pc_some (fun R hk => ?_)))))))
      show Pc (f_X12_capsule_L85_b (qLm kM man first) y1 y2 y3 first (f_X12_capsule_L85 (qLm kM man first) y1 y2 y3 first m) t x) R
      have fin : Pc (qLm kM man first t x) R := by
        unfold qLm
        refine Pc_gd (fun _ => Pc_st (Pc_gd (fun _ => Pc_st (hk _ ⟨((C.1.pI rfl).pI rfl).pS rfl, (C.2.pI rfl).pI rfl⟩ ?_ ?_))))
        · have e : zS (pI (pI s 13 x.toInt.toNat man) 14 x.toInt.toNat first) 6 10 = zS s 6 10 := rfl
          rw [zS_pS, if_pos ⟨rfl, rfl⟩, e, i32_add (by rw [jl1]; omega) (by rw [jl1]; omega), jl1, h10]
        · intro i hi _
          by_cases z : i = x.toInt.toNat
          · rw [zI_pS, zI_pS, zI_pI, if_neg (by omega), zI_pI, if_pos ⟨rfl, z⟩, zI_pI, if_neg (by omega), zI_pI, if_pos ⟨rfl, z⟩, zI_pI, if_pos ⟨rfl, z⟩, zI_pI, if_pos ⟨rfl, z⟩]
            exact ⟨rfl, rfl⟩
          · rw [zI_pS, zI_pS, zI_pI, if_neg (by omega), zI_pI, if_neg (by omega), zI_pI, if_neg (by omega), zI_pI, if_neg (by omega), zI_pI, if_neg (by omega), zI_pI, if_neg (by omega), zI_pI, if_neg (by omega), zI_pI, if_neg (by omega)]
            exact L i hi (by omega)
      unfold f_X12_capsule_L85_b
      rcases hp with hp | ⟨hp, hq⟩
      · exact Pc_iff hp fin
      · exact Pc_ift hp (Pc_vl (Pc_gd (fun _ => Pc_iff hq fin)))
    refine Pc_if (fun z => ?_) (fun z => put (Or.inl z))
    have z' := z
    rw [jlt, jl0] at z'
    have e1 : (x - 1).toInt = x.toInt - 1 := by rw [i32_sub (by rw [jl1]; omega) (by rw [jl1]; omega), jl1]
    have e2 : (x + -1).toInt = x.toInt - 1 := by
      have jn1 : (-1 : Int32).toInt = -1 := rfl
      rw [i32_add (by rw [jn1]; omega) (by rw [jn1]; omega), jn1]
      omega
    obtain ⟨l1, l2⟩ := L (x - 1).toInt.toNat (by omega) (by omega)
    refine Pc_vl (Pc_gd (fun _ => ?_))
    rw [l2]
    refine Pc_if (fun w => Pc_vl (Pc_gd (fun _ => Pc_vl (Pc_gd (fun _ => Pc_st (Pc_vl (Pc_gd (fun _ => Pc_vl (Pc_gd (fun _ => Pc_st (Pc_vl ?_))))))))))) (fun w => put (Or.inr ⟨z, w⟩))
    have s14 : zI (pI s 13 x.toInt.toNat (zI s 13 (x - 1).toInt.toNat)) 14 (x - 1).toInt.toNat = zI s 14 (x - 1).toInt.toNat := by rw [zI_pI, if_neg (by omega)]
    have t17 : zI (pI t 116 x.toInt.toNat (zI t 116 (x - 1).toInt.toNat)) 117 (x - 1).toInt.toNat = zI t 117 (x - 1).toInt.toNat := by rw [zI_pI, if_neg (by omega)]
    rw [s14, l1, l2]
    refine Pc.mono (ins_l (kM := kM) (y1 := y1) (y2 := y2) (y3 := y3) hc n m _ (pI (pI t 116 x.toInt.toNat (zI t 116 (x - 1).toInt.toNat)) 117 x.toInt.toNat (zI t 117 (x - 1).toInt.toNat)) (x + -1) ⟨(C.1.pI rfl).pI rfl, (C.2.pI rfl).pI rfl⟩ h10 (by omega) (by omega) ?_) (fun r hr R hk => ?_)
    · intro i hi hn
      by_cases zx : i = x.toInt.toNat
      · rw [zI_pI, if_neg (by omega), zI_pI, if_pos ⟨rfl, zx⟩, zI_pI, if_neg (by omega), zI_pI, if_pos ⟨rfl, zx⟩, zI_pI, if_pos ⟨rfl, zx⟩, zI_pI, if_pos ⟨rfl, zx⟩]
        exact ⟨rfl, rfl⟩
      · rw [zI_pI, if_neg (by omega), zI_pI, if_neg (by omega), zI_pI, if_neg (by omega), zI_pI, if_neg (by omega), zI_pI, if_neg (by omega), zI_pI, if_neg (by omega), zI_pI, if_neg (by omega), zI_pI, if_neg (by omega)]
        exact L i hi (by omega)
    · show Pc (f_X12_capsule_L85_b (qLm kM man first) y1 y2 y3 first (f_X12_capsule_L85 (qLm kM man first) y1 y2 y3 first m) t x) R
      unfold f_X12_capsule_L85_b
      refine Pc_ift z (Pc_vl (Pc_gd (fun _ => Pc_ift w (Pc_vl (Pc_gd (fun _ => Pc_vl (Pc_gd (fun _ => Pc_st (Pc_vl (Pc_gd (fun _ => Pc_vl (Pc_gd (fun _ => Pc_st (Pc_vl ?_))))))))))))))
      rw [t17]
      exact hr R hk
/-- all who are below, one by one -/
theorem cap_l {h : Int} {y4 y1 : Int32} {qX : SS → Option (Int32 × SS)} {qM : SS → Int32 → Option (Int32 × SS)} {P : Int32 × SS → Int32 × SS → Prop} (B : B1 s0 t0) (Q : Q4w h s0 t0) (hy : y4 = -2 ∨ (0 ≤ y4.toInt ∧ y4.toInt < (zS s0 0 8).toInt)) (hf : ∀ r', f_X12_forceOf t0 1 (zS t0 59 1) (zS t0 59 1) = some r' → r' = y4) (hq : ∀ s t x2, CP s0 t0 s t → (zS s 6 10).toInt = x2.toInt → x2.toInt = (zS s0 6 4).toInt → LLx s t (x2.toInt - 1) x2.toInt → Pc (qX s) (fun a => Pc (qM t x2) (P a))) : ∀ (n m : Nat) (s t : SS) (x2 x3 : Int32), Iv s → CP s0 t0 s t → (zS s 6 10).toInt = x2.toInt → x2.toInt = ySum (fun i => (zI s0 10 i).toInt) x3.toInt.toNat → 0 ≤ x3.toInt → x3.toInt ≤ (zS s0 15 3).toInt → LLx s t (x2.toInt - 1) x2.toInt → Pc (f_X11_capsule_L93 qX y4 n s x3) (fun a => Pc (f_X12_capsule_L53 qM y1 m t x2 x3) (P a))
  | 0, _, _, _, _, _, _, _, _, _, _, _, _ => Pc_none
  | n + 1, 0, _, _, _, _, _, _, _, _, _, _, _ => fun _ _ => Pc_none
  | n + 1, m + 1, s, t, x2, x3, I, C, h10, hs, h0, h1, L => by
    obtain ⟨b1, b2, b3⟩ := B.1.tot
    have F : Frm [(6, 10), (6, 11), (6, 12)] [13, 14, 28, 29] [] s0 s := C.1.mo rfl rfl rfl
    have G : Frm [(59, 82), (59, 83)] [95, 96, 116, 117, 118] [] t0 t := C.2.mo rfl rfl rfl
    have e3 : zS s 15 3 = zS s0 15 3 := C.1.1 15 3 rfl
    have e4 : zS t 59 4 = zS s0 15 3 := (C.2.1 59 4 rfl).trans b1.symm
    have e10 : ∀ i, zI s 10 i = zI s0 10 i := fun i => C.1.2.1 10 i rfl
    have e77 : ∀ i, i < 120 → zI t 77 i = zI s0 10 i := fun i hi => (C.2.2.1 77 i rfl).trans (Q.2.1.1 i hi).2.2.1.symm
    have sb : 0 ≤ x2.toInt ∧ x2.toInt ≤ x3.toInt := by
      have hb := ySum_b (f := fun i => if i < 120 then (zI s0 10 i).toInt else 0) (c := 1) (fun i => by
        by_cases z : i < 120
        · rw [if_pos z]
          rcases (Q.2.1.1 i z).2.2.2.1 with y | y <;> rw [y] <;> decide
        · rw [if_neg z]; decide) x3.toInt.toNat
      have hb2 : ySum (fun i => if i < 120 then (zI s0 10 i).toInt else 0) x3.toInt.toNat = ySum (fun i => (zI s0 10 i).toInt) x3.toInt.toNat := ySum_c (fun i hi => by rw [if_pos (by omega)])
      omega
    show Pc (f_X11_capsule_L93_b qX y4 (f_X11_capsule_L93 qX y4 n) s x3) _
    unfold f_X11_capsule_L93_b
    rw [e3]
    refine Pc_lt (fun c => Pc_gd (fun _ => Pc_jn ?_)) (fun c => ?_)
    · have n1 : (x3 + 1).toInt = x3.toInt + 1 := by rw [i32_add (by rw [jl1]; omega) (by rw [jl1]; omega), jl1]
      have hx : x3.toInt.toNat < 120 := by omega
      have et : (x3 + 1).toInt.toNat = x3.toInt.toNat + 1 := by omega
      rw [e10]
      refine Pc_if (fun z => ?_) (fun z => Pc_vl ?_)
      · -- he is below
        have kd := (Q.2.1.1 _ hx).2.2.2.2 z
        have hs' : x2.toInt + 1 = ySum (fun i => (zI s0 10 i).toInt) (x3 + 1).toInt.toNat := by
          rw [et]
          show x2.toInt + 1 = ySum (fun i => (zI s0 10 i).toInt) x3.toInt.toNat + (zI s0 10 x3.toInt.toNat).toInt
          rw [z, ← hs, jl1]
        have n2 : (x2 + 1).toInt = x2.toInt + 1 := by rw [i32_add (by rw [jl1]; omega) (by rw [jl1]; omega), jl1]
        have Qs : Q4w h s t := Q.cp B.1.sh b3 F G
        have Bs : B1 s t := B.fi I F G rfl rfl rfl rfl
        have gv := gv_p (w := 1) (use := 1) (man := x3) (wo := 0) (r := y4) Bs Qs rfl (Or.inr ⟨h0, by rw [e3]; exact c, by rw [C.1.2.1 16 _ rfl]; exact kd.2⟩) (by rw [C.1.1 0 8 rfl]; exact hy) (fun r' er => hf r' (by
          rw [C.2.1 59 1 rfl] at er
          rw [← er]
          exact (frc_c (C.2.1 59 4 rfl) (C.2.1 59 38 rfl) (fun i => C.2.2.1 69 i rfl) (fun q i w1 w2 => C.2.2.1 q i (by
            cases z : ([95, 96, 116, 117] : List Nat).contains q with
            | false => rfl
            | true =>
              have : q = 95 ∨ q = 96 ∨ q = 116 ∨ q = 117 := by simpa using z
              omega))).symm))
        refine Pc_bd (fun x15 ex => ?_)
        have F15 : Frm [(6, 10)] [13, 14, 28, 29] [] s0 x15.2 := v_X11_given (b := s0) B.1.sh rfl rfl C.1 _ ex
        have F15' : Frm [] [28, 29] [] s x15.2 := v_X11_given (b := s) (F.Sh_ B.1.sh) rfl rfl Frm.rf _ ex
        have I15 : Iv x15.2 := ((w_X11_given (a0 := y4) (a1 := 1) (a2 := x3) (Lk.rf I)).at ex).1
        have h15 : zS x15.2 6 10 = zS s 6 10 := F15'.1 6 10 rfl
        -- the reference, this man
        have mdl : ∀ R : Int32 × SS → Prop, (∀ t15, CP s0 t0 x15.2 t15 → LLx x15.2 t15 x2.toInt x2.toInt → Pc (f_X12_capsule_L85 (qLm (fun s35 => (vl (x2 + 1) fun v36 => (vl (x3 + 1) fun v13 => (f_X12_capsule_L53 qM y1 m s35 v36 v13)))) x3 x15.1) y1 x2 x3 x15.1 4000 t15 x2) R) → Pc (f_X12_capsule_L53 qM y1 (m + 1) t x2 x3) R := by
          intro R hk
          show Pc (f_X12_capsule_L53_b qM y1 (f_X12_capsule_L53 qM y1 m) t x2 x3) R
          unfold f_X12_capsule_L53_b
          rw [e4]
          refine Pc_ift (by rw [jlt]; exact c) (Pc_gd (fun _ => Pc_jn (Pc_iff (by rw [e77 _ hx, z]; decide) (Pc_bd (fun y15 ey => ?_)))))
          have ev := gv x15 ex y15 ey
          show Pc _ R
          rw [ev]
          have G15 : Frm [] [95, 96, 116, 117] [] t0 y15.2 := v_X12_saysNow (b := t0) rfl rfl C.2 _ ey
          have G15' : Frm [] [95, 96] [] t y15.2 := v_X12_saysNow (b := t) rfl rfl Frm.rf _ ey
          refine hk y15.2 ⟨F15, G15⟩ (fun i hi hn => ?_)
          rw [F15'.2.1 13 i rfl, F15'.2.1 14 i rfl, G15'.2.1 116 i rfl, G15'.2.1 117 i rfl]
          exact L i (by omega) (by omega)
        have j120 : (120 : Int32).toInt = 120 := rfl
        unfold f_X2_liftTakes
        show Pc _ (fun a => Pc (f_X12_capsule_L53 qM y1 (m + 1) t x2 x3) (P a))
        rw [h15]
        refine Pc_b1 (Pc_ift (by rw [jlt, j120, h10]; omega) (Pc_vl ?_))
        intro r16 e16
        have I16 : Iv r16 := by
          have W := (w_X2_liftTakes (a0 := x3) (a1 := x15.1) (Lk.rf I15))
          refine (W.at (r := r16) ?_).1
          unfold f_X2_liftTakes
          rw [h15, if_pos (by rw [jlt, j120, h10]; omega), vl]
          exact e16
        refine Pc_vl (fun a ea => mdl _ (fun t15 C15 L15 => ?_))
        have ix : zS s 6 10 = x2 := Int32.toInt_inj.1 h10
        rw [ix] at e16
        refine ins_l (s0 := s0) (t0 := t0) (c := x2.toInt) ⟨sb.1, by omega⟩ 4000 4000 x15.2 t15 x2 C15 (by rw [h15]; exact h10) sb.1 (Int.le_refl _) L15 r16 e16 (P a) (fun u Cu h10u Lu => ?_)
        refine Pc_vl (Pc_vl ?_)
        exact cap_l B Q hy hf hq n m r16 u (x2 + 1) (x3 + 1) I16 Cu (by rw [n2]; exact h10u) (by rw [n2]; exact hs') (by omega) (by omega) (by rw [n2]; intro i hi hn; exact Lu i (by omega) hn) a ea
      · -- he is not
        have z0 : zI s0 10 x3.toInt.toNat = 0 := by
          rcases (Q.2.1.1 _ hx).2.2.2.1 with w | w
          · exact w
          · exact absurd w z
        have hs' : x2.toInt = ySum (fun i => (zI s0 10 i).toInt) (x3 + 1).toInt.toNat := by
          rw [et]
          show x2.toInt = ySum (fun i => (zI s0 10 i).toInt) x3.toInt.toNat + (zI s0 10 x3.toInt.toNat).toInt
          rw [z0, ← hs, jl0]
          omega
        refine Pc.mono (cap_l (y1 := y1) B Q hy hf hq n m s t x2 (x3 + 1) I C h10 hs' (by omega) (by omega) L) (fun a ha => ?_)
        show Pc (f_X12_capsule_L53_b qM y1 (f_X12_capsule_L53 qM y1 m) t x2 x3) _
        unfold f_X12_capsule_L53_b
        rw [e4]
        exact Pc_ift (by rw [jlt]; exact c) (Pc_gd (fun _ => Pc_jn (Pc_ift (by rw [e77 _ hx, z0]) (Pc_vl ha))))
    · have ex : x3.toInt.toNat = (zS s0 15 3).toInt.toNat := by omega
      have all : x2.toInt = (zS s0 6 4).toInt := by
        rw [hs, ex, Q.2.1.2]
        exact (ySum_z (by omega) (fun i w1 w2 => by
          rcases (Q.2.1.1 i w2).2.2.2.1 with z | z
          · rw [z]; rfl
          · have := (Q.2.1.1 i w2).2.2.2.2 z
            omega)).symm
      refine Pc.mono (hq s t x2 C h10 all L) (fun a ha => ?_)
      show Pc (f_X12_capsule_L53_b qM y1 (f_X12_capsule_L53 qM y1 m) t x2 x3) _
      unfold f_X12_capsule_L53_b
      rw [e4]
      exact Pc_iff (by rw [jlt]; omega) ha
/-- the hours of the reference's list -/
theorem l170 {t1 : SS} {y1 y2 : Int32} {k : Int} {qM : SS → Option (Int32 × SS)} {R : Int32 × SS → Prop} (hh : 0 ≤ (zS t1 59 1).toInt ∧ (zS t1 59 1).toInt ≤ 1699) (hk : k = 1 + (zI t1 67 y1.toInt.toNat).toInt / 20) (h67 : 0 ≤ (zI t1 67 y1.toInt.toNat).toInt ∧ (zI t1 67 y1.toInt.toNat).toInt ≤ 60) (hy : y2.toInt ≤ 120) (hq : ∀ u, Frm [] [118] [] t1 u → (∀ i : Nat, (i : Int) < y2.toInt → (zI u 118 i).toInt = (zS t1 59 1).toInt + ((i : Int) + 1) * k) → Pc (qM u) R) : ∀ (m : Nat) (t : SS) (x3 : Int32), 0 ≤ x3.toInt → Frm [] [118] [] t1 t → (∀ i : Nat, (i : Int) < x3.toInt → (i : Int) < y2.toInt → (zI t 118 i).toInt = (zS t1 59 1).toInt + ((i : Int) + 1) * k) → Pc (f_X12_capsule_L170 qM y1 y2 m t x3) R
  | 0, _, _, _, _, _ => Pc_none
  | m + 1, t, x3, h0, F, hi => by
    show Pc (f_X12_capsule_L170_b qM y1 y2 (f_X12_capsule_L170 qM y1 y2 m) t x3) R
    unfold f_X12_capsule_L170_b
    refine Pc_lt (fun c => Pc_gd (fun _ => Pc_vl (Pc_gd (fun _ => Pc_st (Pc_vl ?_))))) (fun c => hq t F (fun i w => hi i (by omega) w))
    have n1 : (x3 + 1).toInt = x3.toInt + 1 := by rw [i32_add (by rw [jl1]; omega) (by rw [jl1]; omega), jl1]
    have e1 : zS t 59 1 = zS t1 59 1 := F.1 59 1 rfl
    have e67 : zI t 67 y1.toInt.toNat = zI t1 67 y1.toInt.toNat := F.2.1 67 _ rfl
    have d20 : (zI t1 67 y1.toInt.toNat / 20).toInt = (zI t1 67 y1.toInt.toNat).toInt / 20 := by rw [jd20, if_pos h67.1]
    have k4 : 1 ≤ k ∧ k ≤ 4 := by omega
    have ek : ((1 : Int32) + zI t1 67 y1.toInt.toNat / 20).toInt = k := by rw [i32_add (by rw [jl1, d20]; omega) (by rw [jl1, d20]; omega), jl1, d20, hk]
    have pb : 0 ≤ (x3.toInt + 1) * k ∧ (x3.toInt + 1) * k ≤ 480 := by
      have h12 : k = 1 ∨ k = 2 ∨ k = 3 ∨ k = 4 := by omega
      rcases h12 with w | w | w | w <;> rw [w] <;> omega
    have em : ((x3 + 1) * ((1 : Int32) + zI t1 67 y1.toInt.toNat / 20)).toInt = (x3.toInt + 1) * k := by rw [i32_mul (by rw [ek, n1]; omega) (by rw [ek, n1]; omega), ek, n1]
    have ea : (zS t1 59 1 + (x3 + 1) * ((1 : Int32) + zI t1 67 y1.toInt.toNat / 20)).toInt = (zS t1 59 1).toInt + (x3.toInt + 1) * k := by rw [i32_add (by rw [em]; omega) (by rw [em]; omega), em]
    rw [e1, e67]
    refine l170 hh hk h67 hy hq m _ (x3 + 1) (by omega) (F.pI rfl) (fun i w1 w2 => ?_)
    rw [zI_pI]
    by_cases z : i = x3.toInt.toNat
    · rw [if_pos ⟨rfl, z⟩, ea, show (i : Int) = x3.toInt by omega]
    · rw [if_neg (fun w => z w.2)]
      exact hi i (by omega) w2
end CPs
section CQs
variable {s t s0 t0 : SS}
theorem QMen.b (Q : QMen s t) : 0 ≤ (zS s 6 4).toInt ∧ (zS s 6 4).toInt ≤ 120 := by
  have hb := ySum_b (f := fun i => if i < 120 then (zI s 10 i).toInt else 0) (c := 1) (fun i => by
    by_cases z : i < 120
    · rw [if_pos z]
      rcases (Q.1 i z).2.2.2.1 with y | y <;> rw [y] <;> decide
    · rw [if_neg z]; decide) 120
  have hb2 : ySum (fun i => if i < 120 then (zI s 10 i).toInt else 0) 120 = ySum (fun i => (zI s 10 i).toInt) 120 := ySum_c (fun i hi => by rw [if_pos hi])
  rw [Q.2]
  omega
theorem L_capsule (I : Iv s) (J : Iv t) (B : B1 s t) (Q : Q4 s t) (a0 : Int32) : Pc (f_X11_capsule s a0) fun x => Pc (f_X12_capsule t a0) fun m => x.1 = m.1 ∧ Q4 x.2 m.2 := by
  obtain ⟨b1', b2, b3⟩ := B.1.tot
  have S := B.1.sh
  unfold f_X11_capsule f_X12_capsule
  rw [holeOfX B, bodyM B]
  unfold hO
  by_cases d : 0 ≤ a0.toInt ∧ a0.toInt < (zS s 15 3).toInt
  · rw [if_pos d, if_pos d, kindX B d]
    have hn : a0.toInt.toNat < 120 := by omega
    have ek : zI s 16 a0.toInt.toNat = zI t 62 a0.toInt.toNat := B.1.kd _
    have rh := B.1.rh a0.toInt.toNat hn
    cases hp : zR s 17 a0.toInt.toNat with
    | none =>
      have nh : ¬ isH (zI s 16 a0.toInt.toNat) := fun z => rh.mp hp ⟨by omega, z⟩
      refine Pc_b1S (Pc_onN (Pc_b1S (Pc_some (Pc_b1S (Pc_if10 (Pc_gd (fun _ => Pc_jn ?_)))))))
      rw [← ek]
      refine Pc_iff (fun z => nh (Or.inr (Or.inr (Or.inl z)))) (Pc_gd (fun _ => Pc_iff (fun z => nh (Or.inr (Or.inr (Or.inr z)))) (Pc_some ⟨rfl, Q⟩)))
    | some p =>
      have o := S.2.2.1 _ _ hn hp
      obtain ⟨x0, x1, x2, x3, x4, x5, x6, x7, x8⟩ := Q.1.1 _ _ hn hp
      have h4 := B.1.h4 o
      have hb := Q.2.1.b
      have hr := B.2.1.2.2.2.2
      rw [← ek]
      refine Pc_b1S (Pc_onS (Pc_b1S ?_))
      -- the reference's head
      have hd : ∀ (K : Option (Int32 × SS)) (R : Int32 × SS → Prop), (zI s 16 a0.toInt.toNat = 4 ∨ zI s 16 a0.toInt.toNat = 5 → Pc K R) → (¬ (zI s 16 a0.toInt.toNat = 4 ∨ zI s 16 a0.toInt.toNat = 5) → R (-1, t)) → Pc (b1 (some (1 : Int32)) fun r1 => (if r1 = (0 : Int32) then some ((-1), t) else (gd (inB a0 120) (jn K fun k4 => (if (zI s 16 (a0.toInt.toNat)) = (4 : Int32) then k4 else (gd (inB a0 120) (if (zI s 16 (a0.toInt.toNat)) = (5 : Int32) then k4 else some ((-1), t)))))))) R := fun K R k1 k2 => Pc_b1S (Pc_if10 (Pc_gd (fun _ => Pc_jn (Pc_if (fun z => k1 (Or.inl z)) (fun z => Pc_gd (fun _ => Pc_if (fun w => k1 (Or.inr w)) (fun w => Pc_some (k2 (fun v => v.elim z w)))))))))
      by_cases kd : zI s 16 a0.toInt.toNat = 4 ∨ zI s 16 a0.toInt.toNat = 5
      · refine Pc_jn0 ?_ (fun k hk => Pc_if (fun _ => hk) (fun z => Pc_if (fun _ => hk) (fun w => absurd kd (fun v => v.elim z w))))
        have t69 := Q.1.2.2.2 _ hn
        rw [x6]
        by_cases th : 0 < (zI t 69 a0.toInt.toNat).toInt
        · rw [if_pos th]
          refine Pc_if10 (Pc_if (fun z => Pc_some (hd _ _ (fun _ => ?_) (fun v => absurd kd v))) (fun z => ?_))
          · refine Pc_gd (fun _ => Pc_iff (fun w => by rw [w, jl0] at th; omega) (Pc_b1 (Pc.mono (men_p ⟨b1', b2, b3⟩ Q.2.1) (fun r hr => ?_))))
            exact Pc_ift (hr.trans z) (Pc_some ⟨rfl, Q⟩)
          · -- they come
            have h67 : (zI t 67 a0.toInt.toNat) = zS s p 4 := x4.symm
            have d20 : (zS s p 4 / 20).toInt = (zS s p 4).toInt / 20 := by rw [jd20, if_pos h4.1]
            have e12 : ((1 : Int32) + zS s p 4 / 20).toInt = 1 + (zS s p 4).toInt / 20 := by rw [i32_add (by rw [jl1, d20]; omega) (by rw [jl1, d20]; omega), jl1, d20]
            unfold f_X2_liftBegins
            refine Pc_b1 (Pc_st (Pc_st (Pc_st (Pc_some ?_))))
            have F7 : Frm [(6, 10), (6, 11), (6, 12)] [13, 14, 28, 29] [] s (pS (pS (pS s 6 10 0) 6 11 (zS s 0 14)) 6 12 ((1 : Int32) + zS s p 4 / 20)) := ((Frm.rf.pS rfl).pS rfl).pS rfl
            have I7 : Iv (pS (pS (pS s 6 10 0) 6 11 (zS s 0 14)) 6 12 ((1 : Int32) + zS s p 4 / 20)) := ((I.wF (q := 6) (k := 10) (by decide) (by decide) ⟨by decide, by decide⟩).wF (q := 6) (k := 11) (by decide) (by decide) trivial).wF (q := 6) (k := 12) (by decide) (by decide) trivial
            have g10 : zS (pS (pS (pS s 6 10 0) 6 11 (zS s 0 14)) 6 12 ((1 : Int32) + zS s p 4 / 20)) 6 10 = 0 := rfl
            have g11 : zS (pS (pS (pS s 6 10 0) 6 11 (zS s 0 14)) 6 12 ((1 : Int32) + zS s p 4 / 20)) 6 11 = zS s 0 14 := rfl
            have g12 : zS (pS (pS (pS s 6 10 0) 6 11 (zS s 0 14)) 6 12 ((1 : Int32) + zS s p 4 / 20)) 6 12 = (1 : Int32) + zS s p 4 / 20 := rfl
            generalize pS (pS (pS s 6 10 0) 6 11 (zS s 0 14)) 6 12 ((1 : Int32) + zS s p 4 / 20) = s7 at F7 I7 g10 g11 g12 ⊢
            have G7 : Frm [(59, 82), (59, 83)] [95, 96, 116, 117, 118] [] t t := Frm.rf
            have B7 : B1 s7 t := B.fi I7 F7 G7 rfl rfl rfl rfl
            have Q7 : Q4w (zS s 0 14).toInt s7 t := Q4w.cp (Q4h.w Q) S b3 F7 G7
            refine Pc_b1 (fun r8 e8 => ?_)
            obtain ⟨r', ef, -⟩ := w_X12_forceOf (a0 := 1) (a1 := zS s7 0 14) (a2 := zS s7 0 14) (Lk.rf J)
            obtain ⟨g1, g2⟩ := frc_p (w := 1) (side := 0) (use := 1) (h := zS s7 0 14) (k := zS s7 0 14) B7 Q7 (by decide) (by decide) (by decide) r8 e8 r' ef
            have f64 : zS s7 6 4 = zS s 6 4 := F7.1 6 4 rfl
            -- the end of both
            have hq : ∀ s' t' x2, CP s7 t s' t' → (zS s' 6 10).toInt = x2.toInt → x2.toInt = (zS s7 6 4).toInt → LLx s' t' (x2.toInt - 1) x2.toInt → Pc (b1 (f_X2_upAt s' ((zS s' 6 10) - (1 : Int32))) fun r18 => some (r18, s')) (fun a => Pc (f_X12_capsule_L170 (fun (s44 : SS)  => (st (pS s44 59 82 x2) fun s45 => (vl ((zS s45 59 1)) fun v46 => (st (pS s45 59 83 v46) fun s47 => (vl ((x2 - (1 : Int32))) fun v48 => (gd (inB v48 120) (some ((zI s47 118 (v48.toInt.toNat)), s47)))))))) a0 x2 4000 t' 0) (fun m => a.1 = m.1 ∧ Q4 a.2 m.2)) := by
              intro s' t' x2 C h10 h64 L
              rw [f64] at h64
              have x1 : 1 ≤ x2.toInt ∧ x2.toInt ≤ 120 := by
                have : (zS s 6 4).toInt ≠ 0 := fun w => z (Int32.toInt_inj.1 (by rw [w, jl0]))
                omega
              have i11 : zS s' 6 11 = zS s 0 14 := (C.1.1 6 11 rfl).trans g11
              have i12 : zS s' 6 12 = (1 : Int32) + zS s p 4 / 20 := (C.1.1 6 12 rfl).trans g12
              have m1 : zS t' 59 1 = zS s 0 14 := (C.2.1 59 1 rfl).trans B.2.1.1.symm
              have m67 : zI t' 67 a0.toInt.toNat = zS s p 4 := (C.2.2.1 67 _ rfl).trans h67
              have ex2 : zS s' 6 10 = x2 := Int32.toInt_inj.1 h10
              have es1 : (x2 - 1).toInt = x2.toInt - 1 := by rw [i32_sub (by rw [jl1]; omega) (by rw [jl1]; omega), jl1]
              unfold f_X2_upAt
              refine Pc_b1S (Pc_some ?_)
              refine l170 (t1 := t') (k := 1 + (zS s p 4).toInt / 20) (by rw [m1]; exact hr) (by rw [m67]) (by rw [m67]; exact h4) x1.2 (fun u Fu hu => ?_) 4000 t' 0 (by decide) Frm.rf (fun i w => by rw [jl0] at w; omega)
              refine Pc_st (Pc_vl (Pc_st (Pc_vl (Pc_gd (fun _ => Pc_some ⟨?_, ?_⟩)))))
              · -- the hour when all are up
                apply Int32.toInt_inj.1
                show (zS s' 6 11 + (zS s' 6 10 - 1 + 1) * zS s' 6 12).toInt = (zI u 118 (x2 - 1).toInt.toNat).toInt
                have hu1 := hu (x2 - 1).toInt.toNat (by omega)
                have ei : (((x2 - 1).toInt.toNat : Nat) : Int) + 1 = x2.toInt := by omega
                rw [ei] at hu1
                rw [hu1, m1, i11, i12, ex2]
                have e0 : (x2 - 1 + 1).toInt = x2.toInt := by rw [i32_add (by rw [jl1]; omega) (by rw [jl1]; omega), jl1, es1]; omega
                have pb : 0 ≤ x2.toInt * (1 + (zS s p 4).toInt / 20) ∧ x2.toInt * (1 + (zS s p 4).toInt / 20) ≤ 480 := by
                  have h12 : 1 + (zS s p 4).toInt / 20 = 1 ∨ 1 + (zS s p 4).toInt / 20 = 2 ∨ 1 + (zS s p 4).toInt / 20 = 3 ∨ 1 + (zS s p 4).toInt / 20 = 4 := by omega
                  rcases h12 with w | w | w | w <;> rw [w] <;> omega
                have em : ((x2 - 1 + 1) * ((1 : Int32) + zS s p 4 / 20)).toInt = x2.toInt * (1 + (zS s p 4).toInt / 20) := by rw [i32_mul (by rw [e0, e12]; omega) (by rw [e0, e12]; omega), e0, e12]
                rw [i32_add (by rw [em]; omega) (by rw [em]; omega), em]
              · have Fa : Frm [(6, 10), (6, 11), (6, 12)] [13, 14, 28, 29] [] s s' := F7.tr (C.1.mo rfl rfl rfl)
                have Ga0 : Frm [(59, 82), (59, 83)] [95, 96, 116, 117, 118] [] t u := (C.2.mo (WS' := [(59, 82), (59, 83)]) (WI' := [95, 96, 116, 117, 118]) (WJ' := []) rfl rfl rfl).tr (Fu.mo rfl rfl rfl)
                have Ga : Frm [(59, 82), (59, 83)] [95, 96, 116, 117, 118] [] t (pS (pS u 59 82 x2) 59 83 (zS (pS u 59 82 x2) 59 1)) := (Ga0.pS rfl).pS rfl
                have Qn := Q4w.cp (Q4h.w Q) S b3 Fa Ga
                have e14 : zS s' 0 14 = zS s 0 14 := Fa.1 0 14 rfl
                show Q4h (zS s' 0 14).toInt s' _
                rw [e14]
                refine Qn.l (Or.inr ⟨by omega, ?_, ?_, ?_, ?_, fun i hi w => ?_⟩)
                · rw [zS_pS, if_neg (by omega), zS_pS, if_pos ⟨rfl, rfl⟩]; exact ex2
                · rw [zS_pS, if_pos ⟨rfl, rfl⟩, zS_pS, if_neg (by omega), Fu.1 59 1 rfl, m1]; exact i11
                · rw [i11]; exact hr
                · rw [i12, e12]; omega
                · rw [h10] at w
                  rw [zI_pS, zI_pS, zI_pS, zI_pS, Fu.2.1 116 i rfl, hu i w, i11, i12, e12, m1]
                  exact ⟨(L i (by omega) (by omega)).1, rfl⟩
            have K := cap_l (y1 := a0) (qX := fun (s17 : SS)  => (b1 (f_X2_upAt s17 ((zS s17 6 10) - (1 : Int32))) fun r18 => some (r18, s17))) (qM := fun (s37 : SS) (x37_2 : Int32) => (f_X12_capsule_L170 (fun (s44 : SS)  => (st (pS s44 59 82 x37_2) fun s45 => (vl ((zS s45 59 1)) fun v46 => (st (pS s45 59 83 v46) fun s47 => (vl ((x37_2 - (1 : Int32))) fun v48 => (gd (inB v48 120) (some ((zI s47 118 (v48.toInt.toNat)), s47)))))))) a0 x37_2 4000 s37 0)) (P := fun a m => a.1 = m.1 ∧ Q4 a.2 m.2) B7 Q7 g2 (fun r'' er => by rw [← B7.2.1.1, ef] at er; exact (Option.some.inj er).symm.trans g1) hq 4000 4000 s7 t 0 0 I7 ⟨Frm.rf, Frm.rf⟩ (by rw [g10]) rfl (by decide) (by rw [jl0]; exact B7.1.tot.2.1) (fun i w _ => by rw [jl0] at w; omega)
            refine Pc.mono K (fun a ha => hd _ _ (fun _ => ?_) (fun v => absurd kd v))
            refine Pc_gd (fun _ => Pc_iff (fun w => by rw [w, jl0] at th; omega) (Pc_b1 (Pc.mono (men_p ⟨b1', b2, b3⟩ Q.2.1) (fun r hr => ?_))))
            exact Pc_iff (fun w => z (hr.symm.trans w)) ha
        · rw [if_neg th]
          refine Pc_if00 (Pc_some (hd _ _ (fun _ => ?_) (fun v => absurd kd v)))
          exact Pc_gd (fun _ => Pc_ift (Int32.toInt_inj.1 (by rw [jl0]; omega)) (Pc_some ⟨rfl, Q⟩))
      · exact Pc_jn (Pc_iff (fun z => kd (Or.inl z)) (Pc_iff (fun z => kd (Or.inr z)) (Pc_some (hd _ _ (fun v => absurd v kd) (fun _ => ⟨rfl, Q⟩)))))
  · rw [if_neg d, if_neg d]
    exact Pc_b1S (Pc_onN (Pc_b1x (fun _ => Pc_some (Pc_b1S (Pc_if00 (Pc_some ⟨rfl, Q⟩))))))
end CQs
