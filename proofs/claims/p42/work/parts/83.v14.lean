/-! ORDERS, WATCHES, AIMS: what leaves them alone -/
section Z5s
variable {s t r u s' t' s1 s2 : SS}
theorem QWat.c (Q : QWat s t) (a : zS s' 6 7 = zS s 6 7) (b : ∀ i, zI s' 12 i = zI s 12 i) (d : zS t' 59 74 = zS t 59 74) (e : ∀ i, zI t' 111 i = zI t 111 i) : QWat s' t' := by
  unfold QWat
  rw [a, d]
  exact Q.imp (fun h => h) (fun h => ⟨h.1, h.2.1, fun i hi => by rw [b, e]; exact h.2.2 i hi⟩)
theorem QAm.c (Q : QAm s t) (a1 : zS s' 34 9 = zS s 34 9) (a2 : zS s' 34 14 = zS s 34 14) (b : ∀ q i, 41 ≤ q ∧ q ≤ 45 → zI s' q i = zI s q i) (d1 : zS t' 59 76 = zS t 59 76) (d2 : zS t' 59 79 = zS t 59 79) (e : ∀ q i, 112 ≤ q ∧ q ≤ 115 → zI t' q i = zI t q i) : QAm s' t' := by
  obtain ⟨q1, q2, q3, q4, ⟨q5, q6⟩, q7, q8, q9⟩ := Q
  refine ⟨by rw [a1, d1]; exact q1, by rw [a1]; exact q2, fun j => by rw [b 42 j (by omega), e 113 j (by omega)]; exact q3 j, fun i hi h => ?_, ⟨fun j => by rw [e 113 j (by omega)]; exact q5 j, fun i => by rw [e 112 i (by omega)]; exact q6 i⟩, by rw [a2, d2]; exact q7, by rw [a2]; exact q8, fun i hi h => ?_⟩
  · rw [a1] at h
    rw [b 41 i (by omega), e 112 i (by omega)]
    exact q4 i hi h
  · rw [a2] at h
    rw [b 44 i (by omega), b 45 i (by omega), e 114 i (by omega), e 115 i (by omega)]
    exact q9 i hi h
theorem QNed.c (Q : QNed s t) (a : zS s' 34 3 = zS s 34 3) (b : ∀ q i, 35 ≤ q ∧ q ≤ 37 → zI s' q i = zI s q i) (d : zS t' 59 67 = zS t 59 67) (e : ∀ q i, 106 ≤ q ∧ q ≤ 108 → zI t' q i = zI t q i) : QNed s' t' := by
  obtain ⟨q1, q2, q3⟩ := Q
  refine ⟨by rw [a, d]; exact q1, by rw [a]; exact q2, fun i h => ?_⟩
  rw [a] at h
  rw [b 35 i (by omega), b 36 i (by omega), b 37 i (by omega), e 106 i (by omega), e 107 i (by omega), e 108 i (by omega)]
  exact q3 i h
theorem QOrd.c (Q : QOrd s t) (a : zS s' 34 7 = zS s 34 7) (b : ∀ i, zI s' 40 i = zI s 40 i) (d : zS t' 59 72 = zS t 59 72) (e : ∀ i, zI t' 110 i = zI t 110 i) : QOrd s' t' := by
  unfold QOrd
  rw [a, d]
  exact Q.imp (fun h => h) (fun h => ⟨h.1, h.2.1, fun i hi => by rw [b, e]; exact h.2.2 i hi⟩)
def Z5 (s t : SS) : Prop := QWat s t ∧ QAm s t ∧ QNed s t ∧ QOrd s t
def cZ (s r : SS) : Prop := (zS r 6 7 = zS s 6 7 ∧ ∀ k, zS r 34 k = zS s 34 k) ∧ ∀ q j, q = 12 ∨ (35 ≤ q ∧ q ≤ 45) → zI r q j = zI s q j
def mZ (s r : SS) : Prop := (∀ k, k = 67 ∨ k = 72 ∨ k = 74 ∨ k = 76 ∨ k = 79 → zS r 59 k = zS s 59 k) ∧ ∀ q j, 106 ≤ q ∧ q ≤ 115 → zI r q j = zI s q j
theorem Z5.e (Z : Z5 s t) (h : cZ s s') (m : mZ t t') : Z5 s' t' := by
  obtain ⟨z1, z2, z3, z4⟩ := Z
  obtain ⟨⟨h1, h2⟩, h3⟩ := h
  exact ⟨z1.c h1 (fun i => h3 12 i (by omega)) (m.1 74 (by omega)) (fun i => m.2 111 i (by omega)), z2.c (h2 9) (h2 14) (fun q i g => h3 q i (by omega)) (m.1 76 (by omega)) (m.1 79 (by omega)) (fun q i g => m.2 q i (by omega)), z3.c (h2 3) (fun q i g => h3 q i (by omega)) (m.1 67 (by omega)) (fun q i g => m.2 q i (by omega)), z4.c (h2 7) (fun i => h3 40 i (by omega)) (m.1 72 (by omega)) (fun i => m.2 110 i (by omega))⟩
def zcS (q k : Nat) : Bool := decide (q = 34 ∨ (q = 6 ∧ k = 7))
def zcI (q : Nat) : Bool := decide (q = 12 ∨ (35 ≤ q ∧ q ≤ 45))
def zmS (q k : Nat) : Bool := decide (q = 59 ∧ (k = 67 ∨ k = 72 ∨ k = 74 ∨ k = 76 ∨ k = 79))
def zmI (q : Nat) : Bool := decide (106 ≤ q ∧ q ≤ 115)
def zcl (WS : List (Nat × Nat)) (WI : List Nat) : Bool := WS.all (fun p => !zcS p.1 p.2) && WI.all (fun q => !zcI q)
def zml (WS : List (Nat × Nat)) (WI : List Nat) : Bool := WS.all (fun p => !zmS p.1 p.2) && WI.all (fun q => !zmI q)
theorem Frm.cZ {WS : List (Nat × Nat)} {WI WJ : List Nat} (F : Frm WS WI WJ s r) (c : zcl WS WI = true) : cZ s r := by
  unfold zcl at c
  rw [Bool.and_eq_true] at c
  have g1 : ∀ q k, (q = 34 ∨ (q = 6 ∧ k = 7)) → zS r q k = zS s q k := fun q k h => F.1 q k (nct c.1 (by show (!zcS q k) = false; unfold zcS; rw [decide_eq_true h]; rfl))
  exact ⟨⟨g1 6 7 (by omega), fun k => g1 34 k (by omega)⟩, fun q j h => F.2.1 q j (nct c.2 (by show (!zcI q) = false; unfold zcI; rw [decide_eq_true h]; rfl))⟩
theorem Frm.mZ {WS : List (Nat × Nat)} {WI WJ : List Nat} (F : Frm WS WI WJ s r) (c : zml WS WI = true) : mZ s r := by
  unfold zml at c
  rw [Bool.and_eq_true] at c
  exact ⟨fun k h => F.1 59 k (nct c.1 (by show (!zmS 59 k) = false; unfold zmS; rw [decide_eq_true ⟨rfl, h⟩]; rfl)), fun q j h => F.2.1 q j (nct c.2 (by show (!zmI q) = false; unfold zmI; rw [decide_eq_true h]; rfl))⟩
theorem Z5.f {WS : List (Nat × Nat)} {WI WJ : List Nat} (Z : Z5 s s) (F : Frm WS WI WJ s r) (c : zcl WS WI = true) (d : zml WS WI = true) : Z5 r r := Z.e (F.cZ c) (F.mZ d)
theorem mSm.mZ (m : mSm s r) : mZ s r := ⟨fun k h => m.1 59 k (by omega) (by omega), fun q j h => m.2.1 q j (by omega) (by omega)⟩
def mQ (s r : SS) : Prop := cZ s r ∧ Sh r
theorem cZ.rf : cZ s s := ⟨⟨rfl, fun _ => rfl⟩, fun _ _ _ => rfl⟩
theorem cZ.tr (h : cZ s r) (g : cZ r u) : cZ s u := ⟨⟨g.1.1.trans h.1.1, fun k => (g.1.2 k).trans (h.1.2 k)⟩, fun q j w => (g.2 q j w).trans (h.2 q j w)⟩
theorem cZ.wS {q k : Nat} {v : Int32} (h : cZ s r) (hq : (q ≠ 6 ∧ q ≠ 34 ∧ q < 59) ∨ 126 ≤ q) : cZ s (pS r q k v) := ⟨⟨by rw [zS_pS, if_neg (by omega)]; exact h.1.1, fun k => by rw [zS_pS, if_neg (by omega)]; exact h.1.2 k⟩, h.2⟩
theorem cZ.wI {q i : Nat} {v : Int32} (h : cZ s r) (hq : (q < 12 ∨ (12 < q ∧ q < 35) ∨ (45 < q ∧ q < 59)) ∨ 126 ≤ q) : cZ s (pI r q i v) := ⟨h.1, fun a j w => by rw [zI_pI, if_neg (by omega)]; exact h.2 a j w⟩
theorem mQ.rf (S : Sh s) : mQ s s := ⟨cZ.rf, S⟩
theorem mQ.wS {q k : Nat} {v : Int32} (h : mQ s r) (hq : (q ≠ 6 ∧ q ≠ 34 ∧ q < 59) ∨ 126 ≤ q) : mQ s (pS r q k v) := ⟨h.1.wS hq, h.2.same rfl rfl⟩
theorem mQ.wI {q i : Nat} {v : Int32} (h : mQ s r) (hq : (q < 12 ∨ (12 < q ∧ q < 35) ∨ (45 < q ∧ q < 59)) ∨ 126 ≤ q) : mQ s (pI r q i v) := ⟨h.1.wI hq, h.2.same rfl rfl⟩
theorem mQ.f {WS : List (Nat × Nat)} {WI WJ : List Nat} (h : mQ s r) (F : Frm WS WI WJ r u) (c : zcl WS WI = true) : mQ s u := ⟨h.1.tr (F.cZ c), F.Sh_ h.2⟩
theorem Z_yard (S : Sh s) (a0 a1 : Int32) : Pc (f_X11_yard s a0 a1) (fun x => mQ s x.2) := by
  have R : mQ s s := mQ.rf S
  unfold f_X11_yard
  refine Pc_b1 (Pc.mono (hol_o S a0) (fun r1 h1 => Pc_on (fun _ => Pc_some R) (fun p1 hp => ?_)))
  have o := (h1 p1 hp).1
  exact Pc_if (fun _ => Pc_some R) (fun _ => Pc_if (fun _ => Pc_some R) (fun _ => Pc_if (fun _ => Pc_if (fun _ => Pc_vl (Pc_st (Pc_vl (Pc_gd (fun _ => Pc_st (Pc_some ((R.wS (Or.inr o)).wI (Or.inr (by omega))))))))) (fun _ => Pc_some R)) (fun _ => Pc_some R)))
theorem Z_sends {a0 a1 : Int32} (H : mQ s r) : Pc (f_X9_sends r a0 a1) (fun x => mQ s x) := by
  unfold f_X9_sends
  exact Pc_if (fun _ => Pc_vl (Pc_gd (fun _ => Pc_st (Pc_vl (Pc_gd (fun _ => Pc_st (Pc_vl (Pc_st (Pc_some (((H.wI (Or.inl (by omega))).wI (Or.inl (by omega))).wS (Or.inl (by omega)))))))))))) (fun _ => Pc_some H)
theorem Z_down (S : Sh s) (a0 a1 a2 : Int32) : Pc (f_X11_down s a0 a1 a2) (fun x => mQ s x.2) := by
  have R : mQ s s := mQ.rf S
  unfold f_X11_down
  refine Pc_b1 (Pc.mono (hol_o S a0) (fun r1 h1 => Pc_on (fun _ => Pc_some R) (fun p1 hp => ?_)))
  have o := (h1 p1 hp).1
  refine Pc_b1x (fun _ => Pc_if (fun _ => Pc_b1x (fun _ => Pc_if (fun _ => Pc_some R) (fun _ => Pc_if (fun _ => Pc_some R) (fun _ => Pc_if (fun _ => Pc_some R) (fun _ => ?_))))) (fun _ => Pc_some R))
  refine Pc_if (fun _ => Pc_some R) (fun _ => Pc_if (fun _ => Pc_b1x (fun _ => Pc_vl (Pc_st ?_))) (fun _ => Pc_some R))
  exact Pc_b1 (Pc.mono (Z_sends (R.wS (Or.inr o))) (fun _ h => Pc_some h))
theorem Z_listed {p : Nat} {a0 a1 : Int32} (o : 126 ≤ p) (H : mQ s r) : Pc (f_X1_listed r p a0 a1) (fun x => mQ s x.2) := by
  unfold f_X1_listed
  exact Pc_if (fun _ => Pc_b1x (fun _ => Pc_if (fun _ => Pc_some H) (fun _ => Pc_gd (fun _ => Pc_b1x (fun _ => Pc_vl (Pc_gd (fun _ => Pc_st (Pc_vl (Pc_st (Pc_some ((H.wI (Or.inr (by omega))).wS (Or.inr o)))))))))))) (fun _ => Pc_some H)
theorem Z_old (S : Sh s) (a0 a1 : Int32) : Pc (f_X11_old s a0 a1) (fun x => mQ s x.2) := by
  have R : mQ s s := mQ.rf S
  unfold f_X11_old
  refine Pc_b1 (Pc.mono (cha_o S a0) (fun r1 h1 => Pc_on (fun _ => Pc_some R) (fun p1 hp => ?_)))
  exact Pc_b1x (fun _ => Pc_if (fun _ => Pc_some R) (fun _ => Pc_b1x (fun _ => Pc_if (fun _ => Pc_bd (Pc.mono (Z_listed (h1 p1 hp).1 R) (fun _ h => Pc_some h))) (fun _ => Pc_some R))))
theorem Z_lost {p : Nat} (o : 126 ≤ p) : ∀ (n : Nat) (r : SS) (x : Int32), mQ s r → Pc (f_X3_lostFrom_L6 p n r x) (fun u => mQ s u)
  | 0, _, _, _ => Pc_none
  | n + 1, r, x, H => by
    show Pc (f_X3_lostFrom_L6_b p (f_X3_lostFrom_L6 p n) r x) _
    unfold f_X3_lostFrom_L6_b
    exact Pc_if (fun _ => Pc_some H) (fun _ => Pc_gd (fun _ => Pc_st (Pc_vl (Z_lost o n _ _ (H.wI (Or.inr (by omega)))))))
theorem Z_logged {q0 : SS → Int32 → Int32 → Option (Int32 × SS)} {p p1 : Nat} {y2 y3 y4 : Int32} (o : 126 ≤ p) (hq : ∀ r x y, mQ s r → Pc (q0 r x y) (fun x => mQ s x.2)) : ∀ (n : Nat) (r : SS) (x5 x6 : Int32), mQ s r → Pc (f_X3_logged_L6 q0 p p1 y2 y3 y4 n r x5 x6) (fun x => mQ s x.2)
  | 0, _, _, _, _ => Pc_none
  | n + 1, r, x5, x6, H => by
    show Pc (f_X3_logged_L6_b q0 p p1 y2 y3 y4 (f_X3_logged_L6 q0 p p1 y2 y3 y4 n) r x5 x6) _
    unfold f_X3_logged_L6_b
    refine Pc_if (fun _ => Pc_if (fun _ => Pc_some H) (fun _ => Pc_vl (Pc_b1x (fun _ => Pc_if (fun _ => ?_) (fun _ => hq _ _ _ H))))) (fun _ => Pc_some H)
    refine Pc_vl (Pc_gd (fun _ => Pc_wl (Pc_jn1 (fun t => ?_) (fun k hk => Pc_if (fun _ => Pc_b1x (fun _ => hk _)) (fun _ => hk _)))))
    exact Pc_gd (fun _ => Pc_st (Pc_vl (Pc_vl (Z_logged o hq n _ _ _ (H.wI (Or.inr (by omega)))))))
theorem Z_log (S : Sh s) (a0 a1 a2 a3 a4 : Int32) : Pc (f_X11_log s a0 a1 a2 a3 a4) (fun x => mQ s x.2) := by
  have R : mQ s s := mQ.rf S
  unfold f_X11_log
  refine Pc_b1 (Pc.mono (hol_o S a0) (fun r1 h1 => Pc_on (fun _ => Pc_b1x (fun _ => Pc_on (fun _ => Pc_some R) (fun _ _ => Pc_some R))) (fun p1 hp => ?_)))
  have o := (h1 p1 hp).1
  refine Pc_b1x (fun _ => Pc_on (fun _ => Pc_some R) (fun p3 _ => Pc_b1x (fun _ => Pc_if (fun _ => Pc_some R) (fun _ => Pc_if (fun _ => Pc_some R) (fun _ => Pc_if (fun _ => Pc_some R) (fun _ => ?_))))))
  refine Pc_if (fun _ => Pc_some R) (fun _ => Pc_jn0 ?_ (fun k hk => Pc_if (fun _ => Pc_b1x (fun _ => Pc_if (fun _ => Pc_some R) (fun _ => hk))) (fun _ => hk)))
  unfold f_X3_logged f_X3_lostFrom
  exact Pc_bd (Pc.mono (Z_logged o (fun r x y H => Pc_b1 (Pc_b1x (fun _ => Pc.mono (Z_lost o 4000 _ _ H) (fun _ h => Pc_some h)))) 4000 s 0 0 R) (fun _ h => Pc_some h))
theorem Z_bore {p : Nat} {y : Int32} (o : 126 ≤ p) : ∀ (n : Nat) (r : SS) (x : Int32), mQ s r → Pc (f_X11_boreOn_L7 p y n r x) (fun u => mQ s u)
  | 0, _, _, _ => Pc_none
  | n + 1, r, x, H => by
    show Pc (f_X11_boreOn_L7_b p y (f_X11_boreOn_L7 p y n) r x) _
    unfold f_X11_boreOn_L7_b
    refine Pc_if (fun _ => Pc_some H) (fun _ => Pc_if (fun _ => Pc_gd (fun _ => Pc_b1x (fun c => Pc_vl (Pc_gd (fun _ => Pc_jn1 (fun t8 => ?_) (fun k hk => Pc_if (fun _ => hk _) (fun _ => hk _))))))) (fun _ => Pc_some H))
    refine Pc_jn1 (fun t10 => ?_) (fun k hk => Pc_if (fun _ => Pc_gd (fun _ => hk _)) (fun _ => hk _))
    refine Pc_if (fun _ => Pc_some H) (fun _ => Pc_vl (Pc_st (Pc_st (Pc_st (Pc_vl (Pc_st (Pc_b1x (fun r18 => ?_))))))))
    have H1 := (((H.wS (k := 5) (v := zS r p 5 - t10) (Or.inr o)).wS (k := 2) (v := c) (Or.inr o)).wS (k := 4) (v := x) (Or.inr o))
    have H2 := H1.wS (q := 0) (k := 16) (v := zS (pS (pS (pS r p 5 (zS r p 5 - t10)) p 2 c) p 4 x) 0 16 + 1) (Or.inl (by omega))
    generalize pS (pS (pS (pS r p 5 (zS r p 5 - t10)) p 2 c) p 4 x) 0 16 (zS (pS (pS (pS r p 5 (zS r p 5 - t10)) p 2 c) p 4 x) 0 16 + 1) = r2 at H2 ⊢
    refine Pc_jn1 (fun t19 => Pc_gd (fun _ => Pc_st (Pc_jnS (P := mQ s) (fun u hu => Pc_vl (Z_bore o n u _ hu)) (fun k hk => ?_)))) (fun k hk => Pc_if (fun _ => Pc_if (fun _ => hk _) (fun _ => hk _)) (fun _ => hk _))
    have H3 := H2.wI (q := p + 2) (i := x.toInt.toNat) (v := t19) (Or.inr (by omega))
    exact Pc_if (fun _ => hk _ H3) (fun _ => Pc_st (Pc_vl (Pc_st (Pc_b1x (fun _ => Pc_st (hk _ (((H3.wS (Or.inr o)).wS (Or.inl (by omega))).wS (Or.inl (by omega)))))))))
theorem Z_mw : ∀ (n : Nat) (r : SS) (x : Int32), mQ s r → Pc (f_X11_machinesWork_L2 n r x) (fun u => mQ s u)
  | 0, _, _, _ => Pc_none
  | n + 1, r, x, H => by
    show Pc (f_X11_machinesWork_L2_b (f_X11_machinesWork_L2 n) r x) _
    unfold f_X11_machinesWork_L2_b
    refine Pc_if (fun _ => Pc_gd (fun _ => Pc_on (fun _ => Pc_none) (fun p3 _ => Pc_b1 (Pc.mono (hol_o H.2 _) (fun r4 h4 => Pc_on (fun _ => Pc_vl (Z_mw n _ _ H)) (fun p4 hp => ?_)))))) (fun _ => Pc_some H)
    have o := (h4 p4 hp).1
    refine Pc_gd (fun _ => Pc_on (fun _ => Pc_none) (fun p7 _ => Pc_if (fun _ => Pc_vl (Pc_st (Pc_gd (fun _ => Pc_on (fun _ => Pc_none) (fun p14 _ => Pc_b1 ?_))))) (fun _ => Pc_vl (Z_mw n _ _ H))))
    unfold f_X11_boreOn
    exact Pc_vl (Pc.mono (Z_bore o 4000 _ _ (H.wS (Or.inr o))) (fun u hu => Pc_vl (Z_mw n _ _ hu)))
theorem Z_hour (H : mQ s r) : Pc (f_X11_hourGoesBy r) (fun u => mQ s u) := by
  unfold f_X11_hourGoesBy
  refine Pc_vl (Pc_st (Pc_b1x (fun r3 => ?_)))
  have H1 : mQ s (pS r 0 14 (zS r 0 14 + 1)) := H.wS (Or.inl (by omega))
  generalize pS r 0 14 (zS r 0 14 + 1) = r2 at H1 ⊢
  refine Pc_bd (Pc.mono (v_X11_given (WS := []) (WI := [28, 29]) (WJ := []) (b := r2) H1.2 rfl rfl Frm.rf) (fun x F => ?_))
  have H2 := H1.f F rfl
  refine Pc_jnS (P := mQ s) (fun s5 h5 => ?_) (fun k hk => Pc_if (fun _ => Pc_b1 (Pc.mono (Z_mw 4000 _ _ H2) (fun u hu => hk u hu))) (fun _ => hk _ H2))
  refine Pc_b1 (Pc.mono (v_X9_arrivals (WS := [(30, 0), (30, 5)]) (WI := [31, 32, 33]) (WJ := []) (b := s5) h5.2 rfl rfl rfl rfl rfl Frm.rf) (fun s6 F6 => ?_))
  have H6 := h5.f F6 rfl
  refine Pc_jnS (P := mQ s) (fun s7 h7 => ?_) (fun k hk => Pc_if (fun _ => Pc_b1 (Pc.mono (v_X11_menEat (WS := [(30, 0), (30, 1)]) (WI := [7, 28, 29]) (WJ := []) (b := s6) H6.2 rfl rfl rfl rfl rfl Frm.rf) (fun s8 F8 => hk _ (H6.f F8 rfl)))) (fun _ => hk _ H6))
  exact Pc_b1 (Pc.mono (v_X11_rockMoves (WS := [(15, 9)]) (WI := [2, 3]) (WJ := []) (b := s7) h7.2 rfl rfl rfl Frm.rf) (fun s8 F8 => Pc_some (h7.f F8 rfl)))
theorem Z_hrs {y : Int32} : ∀ (n : Nat) (r : SS) (x : Int32), mQ s r → Pc (f_X11_hours_L27 y n r x) (fun u => mQ s u.2)
  | 0, _, _, _ => Pc_none
  | n + 1, r, x, H => by
    show Pc (f_X11_hours_L27_b y (f_X11_hours_L27 y n) r x) _
    unfold f_X11_hours_L27_b
    exact Pc_if (fun _ => Pc_b1 (Pc.mono (Z_hour H) (fun u hu => Pc_vl (Z_hrs n _ _ hu)))) (fun _ => Pc_some H)
theorem Z_hours (S : Sh s) (a : Int32) : Pc (f_X11_hours s a) (fun x => mQ s x.2) := by
  have R : mQ s s := mQ.rf S
  unfold f_X11_hours
  exact Pc_if (fun _ => Pc_some R) (fun _ => Pc_if (fun _ => Pc_some R) (fun _ => Pc_if (fun _ => Pc_some R) (fun _ => Z_hrs 4000 s 0 R)))
abbrev mP (s r : SS) : Prop := cZ s r
theorem mP_wI {q i : Nat} {v : Int32} (h : cZ s r) (hq : (q < 12 ∨ (12 < q ∧ q < 35) ∨ (45 < q ∧ q < 59)) ∨ 126 ≤ q) (_ : q ≠ 2) : cZ s (pI r q i v) := h.wI hq
theorem cZ.nh {c w : Int32} {i : Nat} {o : Option Nat} (h : cZ s r) (hl : 126 ≤ zL r) : cZ s (pR (pHole r c w) 17 i o) := by
  have g1 : ∀ a b, a < 126 → zS (pR (pHole r c w) 17 i o) a b = zS r a b := fun a b ha => by
    show (if a = zL r then holeF c w b else zS r a b) = _
    rw [if_neg (by omega)]
  have g2 : ∀ a b, a < 126 → zI (pR (pHole r c w) 17 i o) a b = zI r a b := fun a b ha => by
    show (if a = zL r + 1 then 0 else if a = zL r + 2 then 0 else if a = zL r + 3 then (-2000000000) else zI r a b) = _
    rw [if_neg (by omega), if_neg (by omega), if_neg (by omega)]
  exact ⟨⟨(g1 6 7 (by omega)).trans h.1.1, fun k => (g1 34 k (by omega)).trans (h.1.2 k)⟩, fun q j w => (g2 q j (by omega)).trans (h.2 q j w)⟩
theorem cZ.nm {c w y : Int32} {i : Nat} {o : Option Nat} (h : cZ s r) (hl : 126 ≤ zL r) : cZ s (pR (pMap r c w y) 23 i o) := by
  have g1 : ∀ a b, a < 126 → zS (pR (pMap r c w y) 23 i o) a b = zS r a b := fun a b ha => by
    show (if a = zL r then mapF c w y b else zS r a b) = _
    rw [if_neg (by omega)]
  have g2 : ∀ a b, a < 126 → zI (pR (pMap r c w y) 23 i o) a b = zI r a b := fun a b ha => by
    show (if a = zL r + 1 then 0 else zI r a b) = _
    rw [if_neg (by omega)]
  exact ⟨⟨(g1 6 7 (by omega)).trans h.1.1, fun k => (g1 34 k (by omega)).trans (h.1.2 k)⟩, fun q j w => (g2 q j (by omega)).trans (h.2 q j w)⟩
theorem cZ.nt {x y c e : Int32} {N i : Nat} {o : Option Nat} (h : cZ s r) (hl : 126 ≤ zL r) : cZ s (pR (pText r x y c e N) 27 i o) := by
  have g1 : ∀ a b, a < 126 → zS (pR (pText r x y c e N) 27 i o) a b = zS r a b := fun a b ha => by
    show (if a = zL r then textF x y c e b else zS r a b) = _
    rw [if_neg (by omega)]
  have g2 : ∀ a b, a < 126 → zI (pR (pText r x y c e N) 27 i o) a b = zI r a b := fun a b ha => by
    show (if a = zL r + 1 then zI r 26 b else zI r a b) = _
    rw [if_neg (by omega)]
  exact ⟨⟨(g1 6 7 (by omega)).trans h.1.1, fun k => (g1 34 k (by omega)).trans (h.1.2 k)⟩, fun q j w => (g2 q j (by omega)).trans (h.2 q j w)⟩
theorem Z_hole (S : Sh s) (a0 a1 : Int32) : Pc (f_X11_hole s a0 a1) (fun x => mP s x.2) := by
  have R : mP s s := cZ.rf
  have hL := S.1
  unfold f_X11_hole
  refine Pc_if (fun _ => Pc_some R) (fun _ => Pc_if (fun _ => Pc_some R) (fun _ => Pc_if (fun _ => Pc_some R) (fun _ => Pc_vl (Pc_vl (Pc_if (fun _ => Pc_if (fun _ => Pc_some R) (fun _ => Pc_bd ?_)) (fun _ => Pc_some R))))))
  unfold f_X0_addedHole
  have A : Pc (f_X0_added s a0) (fun x => mP s x.2 ∧ 126 ≤ zL x.2) := by
    unfold f_X0_added
    exact Pc_if (fun _ => Pc_vl (Pc_gd (fun _ => Pc_st (Pc_vl (Pc_st (Pc_some ⟨(R.wI (Or.inl (by omega))).wS (Or.inl (by omega)), hL⟩)))))) (fun _ => Pc_some ⟨R, hL⟩)
  exact Pc_bd (Pc.mono A (fun x hx => Pc_if (fun _ => Pc_some (Pc_some hx.1)) (fun _ => Pc_gd (fun _ => Pc_st (Pc_vl (Pc_st (Pc_some (Pc_some ((hx.1.nh hx.2).wS (Or.inl (by omega)))))))))))
theorem Z_map (S : Sh s) (a0 a1 : Int32) : Pc (f_X11_map s a0 a1) (fun x => mP s x.2) := by
  have R : mP s s := cZ.rf
  have hL := S.1
  unfold f_X11_map
  exact Pc_b1x (fun _ => Pc_if (fun _ => Pc_some R) (fun _ => Pc_b1x (fun _ => Pc_if (fun _ => Pc_some R) (fun _ => Pc_if (fun _ => Pc_vl (Pc_gd (fun _ => Pc_st (Pc_vl (Pc_st (Pc_some ((R.nm hL).wS (Or.inl (by omega))))))))) (fun _ => Pc_some R)))))
theorem Z_textX (S : Sh s) (T : TP s s) (hr : 0 ≤ (zS s 59 38).toInt ∧ (zS s 59 38).toInt ≤ 16) (e8 : zS s 0 8 = zS s 59 38) (a0 a1 : Int32) : Pc (f_X11_text s a0 a1) (fun x => mP s x.2) := by
  have R : mP s s := cZ.rf
  have j16 : (16 : Int32).toInt = 16 := rfl
  unfold f_X11_text
  refine Pc_b1x (fun _ => Pc_if (fun _ => Pc_some R) (fun _ => Pc_if (fun _ => Pc_some R) (fun _ => Pc_if (fun _ => Pc_some R) (fun _ => Pc_lt (fun f => ?_) (fun _ => Pc_some R)))))
  rw [e8, j16] at f
  obtain ⟨fx, s6, t', ec, eQ, PX, PR, O⟩ := comp_l WoE T ⟨hr.1, by omega⟩ a0 a1 (fun u => some (0, u))
  rw [ec]
  have R6 : mP s s6 := ⟨⟨PX.1 6 7 (by omega), fun k => PX.1 34 k (by omega)⟩, fun q j h => PX.2.1 q j (by omega)⟩
  have R7 : mP s (pS s6 24 1 0) := R6.wS (Or.inl (by omega))
  have l7 : 126 ≤ zL (pS s6 24 1 0) := by
    have : zL (pS s6 24 1 0) = zL s := by
      show s6.2.2.2.2.2.2 = s.2.2.2.2.2.2
      rw [PX.2.2]
    rw [this]; exact S.1
  refine Pc_bdS (Pc_st (Pc_if (fun _ => Pc_vl (Pc_gd (fun _ => Pc_gd (fun _ => Pc_st (Pc_vl (Pc_st (Pc_some ((R7.nt l7).wS (Or.inl (by omega))))))))) ) (fun _ => Pc_some R7)))
def G5 (c : Nat) (s : SS) : Prop := GW c s ∧ Z5 s s
theorem G5.m (h : cZ s s1) (m : mSm s s1) (Z : Z5 s s) : Z5 s1 s1 := Z.e h m.mZ
end Z5s
theorem G5_fr : G5 0 sFr := by
  have i0 : ∀ i : Nat, ¬ (i : Int) < (0 : Int32).toInt := fun i => by rw [z32]; omega
  refine ⟨GW_fr, Or.inl ⟨rfl, rfl⟩, ⟨rfl, ?_, fun _ => rfl, fun i _ h => absurd h (i0 i), ⟨fun j => ?_, fun i => ?_⟩, rfl, ?_, fun i _ h => absurd h (i0 i)⟩, ⟨rfl, ?_, fun i h => absurd h (i0 i)⟩, Or.inl ⟨rfl, rfl⟩⟩
  · show 0 ≤ (0 : Int32).toInt ∧ (0 : Int32).toInt ≤ 6
    decide
  · show 1 ≤ (1 : Int32).toInt ∧ (1 : Int32).toInt ≤ 9
    decide
  · show 0 ≤ (0 : Int32).toInt ∧ (0 : Int32).toInt ≤ 9
    decide
  · show 0 ≤ (0 : Int32).toInt ∧ (0 : Int32).toInt ≤ 2
    decide
  · show 0 ≤ (0 : Int32).toInt ∧ (0 : Int32).toInt ≤ 10
    decide
/-! the six methods that write orders, watches, aims: both halves -/
section Z6s
variable {s s1 s2 r : SS}
theorem QWat.m (Q : QWat s s) (m : mSm s s1) : QWat s s1 := Q.c rfl (fun _ => rfl) (m.1 59 74 (by omega) (by omega)) (fun i => m.2.1 111 i (by omega) (by omega))
theorem QWat.k (Q : QWat s1 s2) (k : cSm s1 s2) : QWat s2 s2 := Q.c (k.1 6 7 (by omega)) (fun i => k.2.1 12 i (by omega)) rfl (fun _ => rfl)
theorem QAm.m (Q : QAm s s) (m : mSm s s1) : QAm s s1 := Q.c rfl rfl (fun _ _ _ => rfl) (m.1 59 76 (by omega) (by omega)) (m.1 59 79 (by omega) (by omega)) (fun q i h => m.2.1 q i (by omega) (by omega))
theorem QAm.k (Q : QAm s1 s2) (k : cSm s1 s2) : QAm s2 s2 := Q.c (k.1 34 9 (by omega)) (k.1 34 14 (by omega)) (fun q i h => k.2.1 q i (by omega)) rfl rfl (fun _ _ _ => rfl)
theorem QNed.m (Q : QNed s s) (m : mSm s s1) : QNed s s1 := Q.c rfl (fun _ _ _ => rfl) (m.1 59 67 (by omega) (by omega)) (fun q i h => m.2.1 q i (by omega) (by omega))
theorem QNed.k (Q : QNed s1 s2) (k : cSm s1 s2) : QNed s2 s2 := Q.c (k.1 34 3 (by omega)) (fun q i h => k.2.1 q i (by omega)) rfl (fun _ _ _ => rfl)
theorem QOrd.m (Q : QOrd s s) (m : mSm s s1) : QOrd s s1 := Q.c rfl (fun _ => rfl) (m.1 59 72 (by omega) (by omega)) (fun i => m.2.1 110 i (by omega) (by omega))
theorem QOrd.k (Q : QOrd s1 s2) (k : cSm s1 s2) : QOrd s2 s2 := Q.c (k.1 34 7 (by omega)) (fun i => k.2.1 40 i (by omega)) rfl (fun _ => rfl)
def wSa (WS : List (Nat × Nat)) (f : Nat → Nat → Bool) : Bool := WS.all (fun p => !f p.1 p.2)
def wIa (WI : List Nat) (f : Nat → Bool) : Bool := WI.all (fun q => !f q)
def zWS (q k : Nat) : Bool := decide ((q = 6 ∧ k = 7) ∨ (q = 59 ∧ k = 74))
def zWI (q : Nat) : Bool := decide (q = 12 ∨ q = 111)
def zAS (q k : Nat) : Bool := decide ((q = 34 ∧ (k = 9 ∨ k = 14)) ∨ (q = 59 ∧ (k = 76 ∨ k = 79)))
def zAI (q : Nat) : Bool := decide ((41 ≤ q ∧ q ≤ 45) ∨ (112 ≤ q ∧ q ≤ 115))
def zNS (q k : Nat) : Bool := decide ((q = 34 ∧ k = 3) ∨ (q = 59 ∧ k = 67))
def zNI (q : Nat) : Bool := decide ((35 ≤ q ∧ q ≤ 37) ∨ (106 ≤ q ∧ q ≤ 108))
def zOS (q k : Nat) : Bool := decide ((q = 34 ∧ k = 7) ∨ (q = 59 ∧ k = 72))
def zOI (q : Nat) : Bool := decide (q = 40 ∨ q = 110)
section FFs
variable {WS : List (Nat × Nat)} {WI WJ : List Nat}
theorem QWat.f (Q : QWat s s) (F : Frm WS WI WJ s r) (h1 : wSa WS zWS = true) (h2 : wIa WI zWI = true) : QWat r r := by
  have g1 : ∀ q k, ((q = 6 ∧ k = 7) ∨ (q = 59 ∧ k = 74)) → zS r q k = zS s q k := fun q k h => F.1 q k (nct h1 (by show (!zWS q k) = false; unfold zWS; rw [decide_eq_true h]; rfl))
  have g2 : ∀ q i, (q = 12 ∨ q = 111) → zI r q i = zI s q i := fun q i h => F.2.1 q i (nct h2 (by show (!zWI q) = false; unfold zWI; rw [decide_eq_true h]; rfl))
  exact Q.c (g1 6 7 (by omega)) (fun i => g2 12 i (by omega)) (g1 59 74 (by omega)) (fun i => g2 111 i (by omega))
theorem QAm.f (Q : QAm s s) (F : Frm WS WI WJ s r) (h1 : wSa WS zAS = true) (h2 : wIa WI zAI = true) : QAm r r := by
  have g1 : ∀ q k, ((q = 34 ∧ (k = 9 ∨ k = 14)) ∨ (q = 59 ∧ (k = 76 ∨ k = 79))) → zS r q k = zS s q k := fun q k h => F.1 q k (nct h1 (by show (!zAS q k) = false; unfold zAS; rw [decide_eq_true h]; rfl))
  have g2 : ∀ q i, ((41 ≤ q ∧ q ≤ 45) ∨ (112 ≤ q ∧ q ≤ 115)) → zI r q i = zI s q i := fun q i h => F.2.1 q i (nct h2 (by show (!zAI q) = false; unfold zAI; rw [decide_eq_true h]; rfl))
  exact Q.c (g1 34 9 (by omega)) (g1 34 14 (by omega)) (fun q i h => g2 q i (by omega)) (g1 59 76 (by omega)) (g1 59 79 (by omega)) (fun q i h => g2 q i (by omega))
theorem QNed.f (Q : QNed s s) (F : Frm WS WI WJ s r) (h1 : wSa WS zNS = true) (h2 : wIa WI zNI = true) : QNed r r := by
  have g1 : ∀ q k, ((q = 34 ∧ k = 3) ∨ (q = 59 ∧ k = 67)) → zS r q k = zS s q k := fun q k h => F.1 q k (nct h1 (by show (!zNS q k) = false; unfold zNS; rw [decide_eq_true h]; rfl))
  have g2 : ∀ q i, ((35 ≤ q ∧ q ≤ 37) ∨ (106 ≤ q ∧ q ≤ 108)) → zI r q i = zI s q i := fun q i h => F.2.1 q i (nct h2 (by show (!zNI q) = false; unfold zNI; rw [decide_eq_true h]; rfl))
  exact Q.c (g1 34 3 (by omega)) (fun q i h => g2 q i (by omega)) (g1 59 67 (by omega)) (fun q i h => g2 q i (by omega))
theorem QOrd.f (Q : QOrd s s) (F : Frm WS WI WJ s r) (h1 : wSa WS zOS = true) (h2 : wIa WI zOI = true) : QOrd r r := by
  have g1 : ∀ q k, ((q = 34 ∧ k = 7) ∨ (q = 59 ∧ k = 72)) → zS r q k = zS s q k := fun q k h => F.1 q k (nct h1 (by show (!zOS q k) = false; unfold zOS; rw [decide_eq_true h]; rfl))
  have g2 : ∀ q i, (q = 40 ∨ q = 110) → zI r q i = zI s q i := fun q i h => F.2.1 q i (nct h2 (by show (!zOI q) = false; unfold zOI; rw [decide_eq_true h]; rfl))
  exact Q.c (g1 34 7 (by omega)) (fun i => g2 40 i (by omega)) (g1 59 72 (by omega)) (fun i => g2 110 i (by omega))
end FFs
theorem G5.rd {c : Nat} (W : G5 c s) : G5 (c + 1) s := ⟨W.1.rd, W.2⟩
end Z6s
