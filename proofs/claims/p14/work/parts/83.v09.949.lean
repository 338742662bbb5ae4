/-! COUNTS, RACES; whether the shelter holds -/
section VMs
variable {s t : SS}
def H25 (s : SS) : Prop := zS s 59 25 = 0 ∨ zS s 59 25 = 1
theorem H25.f {WS : List (Nat × Nat)} {WI WJ : List Nat} {u : SS} (h : H25 s) (F : Frm WS WI WJ s u) (c : WS.contains (59, 25) = false) : H25 u := by
  unfold H25
  rw [F.1 59 25 c]
  exact h
theorem h25_m {q0 : SS → Option (Int32 × SS)} {y1 y2 : Int32} {R : Int32 × SS → Prop} (hq : ∀ u, H25 u → Pc (q0 u) R) : ∀ (n : Nat) (s : SS) (x : Int32), H25 s → Pc (f_X12_hours_L65 q0 y1 y2 n s x) R
  | 0, _, _, _ => Pc_none
  | n + 1, s, x, h => by
    show Pc (f_X12_hours_L65_b q0 y1 y2 (f_X12_hours_L65 q0 y1 y2 n) s x) R
    unfold f_X12_hours_L65_b
    refine Pc_if (fun _ => Pc_gd (fun _ => Pc_jnS (P := H25) (fun u hu => Pc_vl (h25_m hq n u _ hu)) (fun k hk => Pc_if (fun _ => Pc_gd (fun _ => Pc_b1x (fun _ => Pc_gd (fun _ => Pc_st (Pc_gd (fun _ => Pc_st ?_)))))) (fun _ => hk _ h)))) (fun _ => hq s h)
    exact Pc_if (fun _ => hk _ h) (fun _ => Pc_gd (fun _ => Pc_if (fun _ => Pc_gd (fun _ => Pc_b1x (fun _ => Pc_if (fun _ => hk _ h) (fun _ => Pc_st (hk _ (Or.inr rfl)))))) (fun _ => hk _ h)))
theorem h25_l {y1 : Int32} : ∀ (n : Nat) (s : SS) (x : Int32), H25 s → Pc (f_X12_hours_L26 y1 n s x) (fun m => H25 m.2)
  | 0, _, _, _ => Pc_none
  | n + 1, s, x, h => by
    show Pc (f_X12_hours_L26_b y1 (f_X12_hours_L26 y1 n) s x) _
    unfold f_X12_hours_L26_b
    refine Pc_if (fun _ => Pc_vl (Pc_st ?_)) (fun _ => Pc_some h)
    have h6 : H25 (pS s 59 1 (zS s 59 1 + 1)) := h
    generalize pS s 59 1 (zS s 59 1 + 1) = s6 at h6 ⊢
    refine Pc_b1 (Pc.mono (v_X12_drill (WS := []) (WI := [65, 67, 68, 69, 71, 95, 96, 99, 100]) (WJ := []) (b := s6) rfl rfl rfl rfl rfl rfl rfl rfl rfl Frm.rf) (fun s7 F7 => ?_))
    have h7 := h6.f F7 rfl
    refine Pc_b1 (Pc.mono (v_X12_comeDown (WS := [(59, 54), (59, 62)]) (WI := [102, 103, 105]) (WJ := []) (b := s7) rfl rfl rfl rfl rfl Frm.rf) (fun s8 F8 => ?_))
    have h8 := h7.f F8 rfl
    refine Pc_jnS (P := H25) (fun u hu => h25_m (fun w hw => Pc_vl (h25_l n w _ hw)) 4000 u 0 hu) (fun k hk => Pc_if (fun _ => Pc_b1 (Pc.mono (v_X12_eat (WS := [(59, 54), (59, 55)]) (WI := [74, 95, 96]) (WJ := []) (b := s8) rfl rfl rfl rfl rfl Frm.rf) (fun s9 F9 => hk _ (h8.f F9 rfl)))) (fun _ => hk _ h8))
theorem K_h25 (h : H25 t) (a : Int32) : Pc (f_X12_hours t a) (fun m => H25 m.2) := by
  unfold f_X12_hours
  exact Pc_b1x (fun _ => Pc_if (fun _ => Pc_some h) (fun _ => Pc_if (fun _ => Pc_some h) (fun _ => h25_l 4000 t 0 h)))
/-- holes -/
theorem cnt71 (B : B1 s t) : ∀ (n : Nat) (x2 x3 : Int32), 0 ≤ x3.toInt → x3.toInt ≤ (zS s 15 3).toInt → x2.toInt = ySum (fun i => if zR s 17 i = none then 0 else 1) x3.toInt.toNat → 0 ≤ x2.toInt ∧ x2.toInt ≤ x3.toInt → Pc (f_X12_count_L71 t n x2 x3) (fun r => r.toInt = ySum (fun i => if zR s 17 i = none then 0 else 1) (zS s 15 3).toInt.toNat)
  | 0, _, _, _, _, _, _ => Pc_none
  | n + 1, x2, x3, h0, h1, hs, hb => by
    obtain ⟨b1, b2, b3⟩ := B.1.tot
    show Pc (f_X12_count_L71_b t (f_X12_count_L71 t n) x2 x3) _
    unfold f_X12_count_L71_b
    rw [← b1, isHoleO B]
    refine Pc_lt (fun c => Pc_b1S (Pc_jn ?_)) (fun c => Pc_some (by rw [hs, show x3.toInt.toNat = (zS s 15 3).toInt.toNat by omega]))
    have n1 : (x3 + 1).toInt = x3.toInt + 1 := by rw [i32_add (by rw [jl1]; omega) (by rw [jl1]; omega), jl1]
    have et : (x3 + 1).toInt.toNat = x3.toInt.toNat + 1 := by omega
    have eh : hO s x3 = zR s 17 x3.toInt.toNat := if_pos ⟨h0, c⟩
    have go : ∀ w : Int32, (0 ≤ w.toInt ∧ w.toInt ≤ 1) → w.toInt = (if zR s 17 x3.toInt.toNat = none then 0 else 1) → Pc (vl ((x2 + w)) fun v6 => (vl (x3 + 1) fun v7 => (f_X12_count_L71 t n v6 v7))) (fun r => r.toInt = ySum (fun i => if zR s 17 i = none then 0 else 1) (zS s 15 3).toInt.toNat) := by
      intro w hw e
      have e2 : (x2 + w).toInt = x2.toInt + w.toInt := i32_add (by omega) (by omega)
      refine Pc_vl (Pc_vl (cnt71 B n _ _ (by omega) (by omega) ?_ (by omega)))
      rw [e2, et, hs, e]
      rfl
    rw [eh]
    by_cases z : zR s 17 x3.toInt.toNat = none
    · rw [if_pos z]
      exact Pc_if00 (go 0 (by decide) (by rw [if_pos z]; rfl))
    · rw [if_neg z]
      exact Pc_if10 (go 1 (by decide) (by rw [if_neg z]; rfl))
theorem cnt105 (hb : 0 ≤ (zS t 59 4).toInt ∧ (zS t 59 4).toInt ≤ 120) : ∀ (n : Nat) (x2 x3 : Int32), 0 ≤ x3.toInt → x3.toInt ≤ (zS t 59 4).toInt → x2.toInt = ySum (fun i => if 0 < (zI t 69 i).toInt then 1 else 0) x3.toInt.toNat → 0 ≤ x2.toInt ∧ x2.toInt ≤ x3.toInt → Pc (f_X12_count_L105 t n x2 x3) (fun r => r.toInt = ySum (fun i => if 0 < (zI t 69 i).toInt then 1 else 0) (zS t 59 4).toInt.toNat)
  | 0, _, _, _, _, _, _ => Pc_none
  | n + 1, x2, x3, h0, h1, hs, hr => by
    show Pc (f_X12_count_L105_b t (f_X12_count_L105 t n) x2 x3) _
    unfold f_X12_count_L105_b
    refine Pc_lt (fun c => Pc_gd (fun _ => Pc_jn ?_)) (fun c => Pc_some (by rw [hs, show x3.toInt.toNat = (zS t 59 4).toInt.toNat by omega]))
    have n1 : (x3 + 1).toInt = x3.toInt + 1 := by rw [i32_add (by rw [jl1]; omega) (by rw [jl1]; omega), jl1]
    have et : (x3 + 1).toInt.toNat = x3.toInt.toNat + 1 := by omega
    have go : ∀ w : Int32, (0 ≤ w.toInt ∧ w.toInt ≤ 1) → w.toInt = (if 0 < (zI t 69 x3.toInt.toNat).toInt then 1 else 0) → Pc (vl ((x2 + w)) fun v6 => (vl (x3 + 1) fun v7 => (f_X12_count_L105 t n v6 v7))) (fun r => r.toInt = ySum (fun i => if 0 < (zI t 69 i).toInt then 1 else 0) (zS t 59 4).toInt.toNat) := by
      intro w hw e
      have e2 : (x2 + w).toInt = x2.toInt + w.toInt := i32_add (by omega) (by omega)
      refine Pc_vl (Pc_vl (cnt105 hb n _ _ (by omega) (by omega) ?_ (by omega)))
      rw [e2, et, hs, e]
      rfl
    exact Pc_lt (fun z => go 1 (by decide) (by rw [jl0] at z; rw [if_pos z]; rfl)) (fun z => go 0 (by decide) (by rw [jl0] at z; rw [if_neg (by omega)]; rfl))
theorem cnt165 (hb : 0 ≤ (zS t 59 4).toInt ∧ (zS t 59 4).toInt ≤ 120) (h67 : ∀ i, 0 ≤ (zI t 67 i).toInt ∧ (zI t 67 i).toInt ≤ 60) : ∀ (n : Nat) (x2 x3 : Int32), 0 ≤ x3.toInt → x3.toInt ≤ (zS t 59 4).toInt → x2.toInt = ySum (fun i => (zI t 67 i).toInt) x3.toInt.toNat → 0 ≤ x2.toInt ∧ x2.toInt ≤ 60 * x3.toInt → Pc (f_X12_count_L165 t n x2 x3) (fun r => r.toInt = ySum (fun i => (zI t 67 i).toInt) (zS t 59 4).toInt.toNat)
  | 0, _, _, _, _, _, _ => Pc_none
  | n + 1, x2, x3, h0, h1, hs, hr => by
    show Pc (f_X12_count_L165_b t (f_X12_count_L165 t n) x2 x3) _
    unfold f_X12_count_L165_b
    refine Pc_lt (fun c => Pc_gd (fun _ => Pc_vl (Pc_vl ?_))) (fun c => Pc_some (by rw [hs, show x3.toInt.toNat = (zS t 59 4).toInt.toNat by omega]))
    have n1 : (x3 + 1).toInt = x3.toInt + 1 := by rw [i32_add (by rw [jl1]; omega) (by rw [jl1]; omega), jl1]
    have et : (x3 + 1).toInt.toNat = x3.toInt.toNat + 1 := by omega
    have h6 := h67 x3.toInt.toNat
    have e2 : (x2 + zI t 67 x3.toInt.toNat).toInt = x2.toInt + (zI t 67 x3.toInt.toNat).toInt := i32_add (by omega) (by omega)
    refine cnt165 hb h67 n _ _ (by omega) (by omega) ?_ (by omega)
    rw [e2, et, hs]
    rfl
theorem V_count (G : GI s) (Q : Q4 s s) (a0 : Int32) : Pc (f_X11_count s a0) fun x => Pc (f_X12_count s a0) fun m => x = m := by
  have B := G.B1
  obtain ⟨b1, b2, b3⟩ := B.1.tot
  have bm : 0 ≤ (zS s 59 4).toInt ∧ (zS s 59 4).toInt ≤ 120 := by rw [← b1]; exact ⟨b2, b3⟩
  obtain ⟨c1, c2, c3⟩ := Q.2.2.1
  unfold f_X11_count f_X12_count
  by_cases y0 : a0 = 0
  · subst y0
    repeat' (first
      | with_reducible refine Pc_bdS ?_
      | with_reducible refine Pc_b1S ?_
      | with_reducible refine Pc_onS ?_
      | with_reducible refine Pc_onN ?_
      | with_reducible refine Pc_ift (by assumption) ?_
      | with_reducible refine Pc_iff (by assumption) ?_
      | with_reducible refine Pc_ift (by decide) ?_
      | with_reducible refine Pc_iff (by decide) ?_
      | with_reducible refine Pc_gd (fun _ => ?_)
      | with_reducible refine Pc_vl ?_
      | with_reducible refine Pc_b1 ?_
      | with_reducible refine Pc_some ?_)
    exact b1
  by_cases y1 : a0 = 1
  · subst y1
    refine Pc_iff (by decide) (Pc_ift rfl (Pc_some (Pc_iff (by decide) (Pc_ift rfl ?_))))
    refine Pc.mono (cnt71 B 4000 0 0 (by decide) (by rw [jl0]; exact b2) rfl (by decide)) (fun r hr => Int32.toInt_inj.1 ?_)
    rw [hr, c3]
    exact ySum_z (by omega) (fun i h1 h2 => if_pos (noH B (by omega) h2))
  by_cases y2 : a0 = 2
  · subst y2
    refine Pc_iff (by decide) (Pc_iff (by decide) (Pc_ift rfl (Pc_some (Pc_iff (by decide) (Pc_iff (by decide) (Pc_ift rfl ?_))))))
    refine Pc.mono (cnt105 bm 4000 0 0 (by decide) (by rw [jl0]; exact bm.1) rfl (by decide)) (fun r hr => Int32.toInt_inj.1 ?_)
    rw [hr]
    exact (thr_t B (Q4h.w Q)).symm
  by_cases y3 : a0 = 3
  · subst y3
    refine Pc_iff (by decide) (Pc_iff (by decide) (Pc_iff (by decide) (Pc_ift rfl (Pc_some (Pc_iff (by decide) (Pc_iff (by decide) (Pc_iff (by decide) (Pc_ift rfl ?_))))))))
    exact Pc_b1 (Pc.mono (men_p ⟨b1, b2, b3⟩ Q.2.1) (fun r hr => Pc_some hr.symm))
  by_cases y4 : a0 = 4
  · subst y4
    repeat' (first
      | with_reducible refine Pc_bdS ?_
      | with_reducible refine Pc_b1S ?_
      | with_reducible refine Pc_onS ?_
      | with_reducible refine Pc_onN ?_
      | with_reducible refine Pc_ift (by assumption) ?_
      | with_reducible refine Pc_iff (by assumption) ?_
      | with_reducible refine Pc_ift (by decide) ?_
      | with_reducible refine Pc_iff (by decide) ?_
      | with_reducible refine Pc_gd (fun _ => ?_)
      | with_reducible refine Pc_vl ?_
      | with_reducible refine Pc_b1 ?_
      | with_reducible refine Pc_some ?_)
    exact B.2.1.1
  by_cases y5 : a0 = 5
  · subst y5
    repeat' (first
      | with_reducible refine Pc_bdS ?_
      | with_reducible refine Pc_b1S ?_
      | with_reducible refine Pc_onS ?_
      | with_reducible refine Pc_onN ?_
      | with_reducible refine Pc_ift (by assumption) ?_
      | with_reducible refine Pc_iff (by assumption) ?_
      | with_reducible refine Pc_ift (by decide) ?_
      | with_reducible refine Pc_iff (by decide) ?_
      | with_reducible refine Pc_gd (fun _ => ?_)
      | with_reducible refine Pc_vl ?_
      | with_reducible refine Pc_b1 ?_
      | with_reducible refine Pc_some ?_)
    exact B.1.1.2.2.1
  by_cases y6 : a0 = 6
  · subst y6
    repeat' (first
      | with_reducible refine Pc_bdS ?_
      | with_reducible refine Pc_b1S ?_
      | with_reducible refine Pc_onS ?_
      | with_reducible refine Pc_onN ?_
      | with_reducible refine Pc_ift (by assumption) ?_
      | with_reducible refine Pc_iff (by assumption) ?_
      | with_reducible refine Pc_ift (by decide) ?_
      | with_reducible refine Pc_iff (by decide) ?_
      | with_reducible refine Pc_gd (fun _ => ?_)
      | with_reducible refine Pc_vl ?_
      | with_reducible refine Pc_b1 ?_
      | with_reducible refine Pc_some ?_)
    exact B.1.1.2.2.2.1
  by_cases y7 : a0 = 7
  · subst y7
    repeat' (first
      | with_reducible refine Pc_bdS ?_
      | with_reducible refine Pc_b1S ?_
      | with_reducible refine Pc_onS ?_
      | with_reducible refine Pc_onN ?_
      | with_reducible refine Pc_ift (by assumption) ?_
      | with_reducible refine Pc_iff (by assumption) ?_
      | with_reducible refine Pc_ift (by decide) ?_
      | with_reducible refine Pc_iff (by decide) ?_
      | with_reducible refine Pc_gd (fun _ => ?_)
      | with_reducible refine Pc_vl ?_
      | with_reducible refine Pc_b1 ?_
      | with_reducible refine Pc_some ?_)
    exact G.2.2.2.2.1.1
  by_cases y8 : a0 = 8
  · subst y8
    refine Pc_iff (by decide) (Pc_iff (by decide) (Pc_iff (by decide) (Pc_iff (by decide) (Pc_iff (by decide) (Pc_iff (by decide) (Pc_iff (by decide) (Pc_iff (by decide) (Pc_ift rfl (Pc_some ?_)))))))))
    refine Pc_iff (by decide) (Pc_iff (by decide) (Pc_iff (by decide) (Pc_iff (by decide) (Pc_iff (by decide) (Pc_iff (by decide) (Pc_iff (by decide) (Pc_iff (by decide) (Pc_ift rfl ?_))))))))
    refine Pc.mono (cnt165 bm (fun i => G.1.1.1.a (q := 67) rfl) 4000 0 0 (by decide) (by rw [jl0]; exact bm.1) rfl (by decide)) (fun r hr => Int32.toInt_inj.1 ?_)
    rw [hr, c1]
    exact ySum_z (by omega) (fun i h1 h2 => by rw [(Q.1.2.1 i h2 (noH B (by rw [b1]; omega) h2)).2.1]; rfl)
  by_cases y9 : a0 = 9
  · subst y9
    repeat' (first
      | with_reducible refine Pc_bdS ?_
      | with_reducible refine Pc_b1S ?_
      | with_reducible refine Pc_onS ?_
      | with_reducible refine Pc_onN ?_
      | with_reducible refine Pc_ift (by assumption) ?_
      | with_reducible refine Pc_iff (by assumption) ?_
      | with_reducible refine Pc_ift (by decide) ?_
      | with_reducible refine Pc_iff (by decide) ?_
      | with_reducible refine Pc_gd (fun _ => ?_)
      | with_reducible refine Pc_vl ?_
      | with_reducible refine Pc_b1 ?_
      | with_reducible refine Pc_some ?_)
    exact Q.2.2.2.2.1.2.1
  by_cases y10 : a0 = 10
  · subst y10
    repeat' (first
      | with_reducible refine Pc_bdS ?_
      | with_reducible refine Pc_b1S ?_
      | with_reducible refine Pc_onS ?_
      | with_reducible refine Pc_onN ?_
      | with_reducible refine Pc_ift (by assumption) ?_
      | with_reducible refine Pc_iff (by assumption) ?_
      | with_reducible refine Pc_ift (by decide) ?_
      | with_reducible refine Pc_iff (by decide) ?_
      | with_reducible refine Pc_gd (fun _ => ?_)
      | with_reducible refine Pc_vl ?_
      | with_reducible refine Pc_b1 ?_
      | with_reducible refine Pc_some ?_)
    exact Q.2.2.2.2.1.2.2.1
  by_cases y11 : a0 = 11
  · subst y11
    repeat' (first
      | with_reducible refine Pc_bdS ?_
      | with_reducible refine Pc_b1S ?_
      | with_reducible refine Pc_onS ?_
      | with_reducible refine Pc_onN ?_
      | with_reducible refine Pc_ift (by assumption) ?_
      | with_reducible refine Pc_iff (by assumption) ?_
      | with_reducible refine Pc_ift (by decide) ?_
      | with_reducible refine Pc_iff (by decide) ?_
      | with_reducible refine Pc_gd (fun _ => ?_)
      | with_reducible refine Pc_vl ?_
      | with_reducible refine Pc_b1 ?_
      | with_reducible refine Pc_some ?_)
    exact G.2.2.2.1.1
  repeat' (first
    | with_reducible refine Pc_bdS ?_
    | with_reducible refine Pc_b1S ?_
    | with_reducible refine Pc_onS ?_
    | with_reducible refine Pc_onN ?_
    | with_reducible refine Pc_ift (by assumption) ?_
    | with_reducible refine Pc_iff (by assumption) ?_
    | with_reducible refine Pc_ift (by decide) ?_
    | with_reducible refine Pc_iff (by decide) ?_
    | with_reducible refine Pc_gd (fun _ => ?_)
    | with_reducible refine Pc_vl ?_
    | with_reducible refine Pc_b1 ?_
    | with_reducible refine Pc_some ?_)
  exact rfl
theorem d6060 : ((1 : Int32) + 59) / 60 = 1 := by
  apply Int32.toInt_inj.1
  have j59 : (59 : Int32).toInt = 59 := rfl
  have a59 : ((1 : Int32) + 59).toInt = 60 := by rw [i32_add (by rw [jl1, j59]; omega) (by rw [jl1, j59]; omega), jl1, j59]; rfl
  rw [jd60, if_pos (by rw [a59]; omega), a59, jl1]
  rfl
theorem racK {V : Int32} (vb : -110000 ≤ V.toInt ∧ V.toInt ≤ 32400) : ∃ k : Int32, ((if (1 : Int32) < V then V else 1) + 59) / 60 = k ∧ (1 ≤ k.toInt ∧ k.toInt ≤ 600) ∧ ((60 < V ∧ k = (V + 59) / 60) ∨ (¬ 60 < V ∧ k = 1)) := by
  have j60 : (60 : Int32).toInt = 60 := rfl
  have j59 : (59 : Int32).toInt = 59 := rfl
  refine ⟨_, rfl, ?_⟩
  by_cases z : (1 : Int32) < V
  · rw [if_pos z]
    rw [jlt, jl1] at z
    have a59 : (V + 59).toInt = V.toInt + 59 := by rw [i32_add (by rw [j59]; omega) (by rw [j59]; omega), j59]
    have dv : ((V + 59) / 60).toInt = (V.toInt + 59) / 60 := by rw [jd60, if_pos (by rw [a59]; omega), a59]
    refine ⟨by rw [dv]; omega, ?_⟩
    by_cases y : (60 : Int32) < V
    · exact Or.inl ⟨y, rfl⟩
    · refine Or.inr ⟨y, Int32.toInt_inj.1 ?_⟩
      rw [jlt, j60] at y
      rw [dv, jl1]
      omega
  · rw [if_neg z, d6060]
    rw [jlt, jl1] at z
    exact ⟨by rw [jl1]; omega, Or.inr ⟨by rw [jlt, j60]; omega, rfl⟩⟩
theorem V_race (B : B1 s t) (Q : Q4 s t) (N : QRng s t) (hb : ∀ i, i < 3 → (zI t 80 i).toInt ≤ 1699) (a0 a1 a2 : Int32) : Pc (f_X11_race s a0 a1 a2) fun x => Pc (f_X12_race t a0 a1 a2) fun m => x = m := by
  have j3 : (3 : Int32).toInt = 3 := rfl
  have j2 : (2 : Int32).toInt = 2 := rfl
  have j9 : (9 : Int32).toInt = 9 := rfl
  have j60 : (60 : Int32).toInt = 60 := rfl
  have j59 : (59 : Int32).toInt = 59 := rfl
  have j9999 : (9999 : Int32).toInt = 9999 := rfl
  unfold f_X11_race f_X12_race f_X12_isMachine f_X11_machineOf
  by_cases c : 0 ≤ a0.toInt ∧ a0.toInt < 3
  · rw [in_t (a := a0) (by rw [jl0, j2]; omega)]
    obtain ⟨i, hi⟩ : ∃ i : Nat, a0.toInt = i := ⟨_, (Int.toNat_of_nonneg c.1).symm⟩
    have ei : a0.toInt.toNat = i := by omega
    have h3 : i < 3 := by omega
    rw [ei, B.1.sh.2.2.2.1 i h3]
    refine Pc_b1 (Pc_iff (by rw [jlt, jl0]; omega) (Pc_ift (by rw [jlt, j3]; omega) (Pc_gd (fun _ => Pc_onS (Pc_some (Pc_onS ?_))))))
    by_cases y1 : 1 ≤ a1.toInt ∧ a1.toInt ≤ 60
    · rw [yard_t y1, in_t (a := a1) (by rw [jl1, j60]; exact y1)]
      refine Pc_b1S (Pc_if10 ?_)
      by_cases y2 : 1 ≤ a2.toInt ∧ a2.toInt ≤ 9
      · rw [in_t (a := a2) (by rw [jl1, j9]; exact y2)]
        refine Pc_iff (by rw [jlt, jl1]; omega) (Pc_iff (by rw [jlt, j9]; omega) ?_)
        obtain ⟨p0, p1⟩ := B.1.2.2.2.1 i h3
        rw [holeOfX B, p1, p0]
        have M : ∀ (K : Option Int32) (R : Int32 → Prop), Pc K R → Pc (b1 (b1 (some (1 : Int32)) fun r1 => some r1) fun r1 => (if r1 = (0 : Int32) then some (-1) else (b1 (some (1 : Int32)) fun r3 => (if r3 = (0 : Int32) then some (-1) else (b1 (some (1 : Int32)) fun r5 => (if r5 = (0 : Int32) then some (-1) else K)))))) R := fun K R h => Pc_b1 (Pc_b1S (Pc_some (Pc_if10 (Pc_b1S (Pc_if10 (Pc_b1S (Pc_if10 h)))))))
        rcases Q.2.2.2.2.2.2.2.2.1.1 i h3 with z | ⟨z1, z2, z3⟩
        · have eo : hO s (zI t 79 i) = none := if_neg (by omega)
          rw [eo]
          exact Pc_b1S (Pc_onN (Pc_some (M _ _ (Pc_gd (fun _ => Pc_vl (Pc_ift (by rw [jlt, jl0]; omega) (Pc_some rfl)))))))
        · have eo : hO s (zI t 79 i) = zR s 17 (zI t 79 i).toInt.toNat := if_pos ⟨z1, z2⟩
          have b := B.1.tot
          have hn : (zI t 79 i).toInt.toNat < 120 := by omega
          rw [eo]
          cases hp : zR s 17 (zI t 79 i).toInt.toNat with
          | none => exact absurd hp z3
          | some p =>
          obtain ⟨x0, x1, x2, x3, x4, x5, x6, x7, x8⟩ := Q.1.1 _ _ hn hp
          have b4 := B.1.h4 (B.1.sh.2.2.1 _ _ hn hp)
          have kp := Q.2.2.2.2.2.2.2.2.2.2.2.2 _ hn
          have hr := B.2.1.2.2.2.2
          have n78 := N.1 i h3
          have n80 := hb i h3
          have e80 : zS s (20 + i) 2 = zI t 80 i := Q.2.2.2.2.2.2.1 i h3
          have e1 : zS s 0 14 = zS t 59 1 := B.2.1.1
          refine Pc_b1S (Pc_onS ?_)
          rw [x6]
          by_cases th : 0 < (zI t 69 (zI t 79 i).toInt.toNat).toInt
          · rw [if_pos th]
            exact Pc_if10 (Pc_some (M _ _ (Pc_gd (fun _ => Pc_vl (Pc_iff (by rw [jlt, jl0]; omega) (Pc_gd (fun _ => Pc_ift (by rw [jlt, jl0]; exact th) (Pc_some rfl))))))))
          · rw [if_neg th, x4]
            have hd : ∀ (K : Option Int32) (R : Int32 → Prop), (zI t 67 (zI t 79 i).toInt.toNat < a1 → Pc K R) → (¬ zI t 67 (zI t 79 i).toInt.toNat < a1 → R (-2)) → Pc (if zI t 79 i < (0 : Int32) then some (-2) else (gd (inB (zI t 79 i) 120) (if (0 : Int32) < (zI t 69 ((zI t 79 i).toInt.toNat)) then some (-2) else (gd (inB (zI t 79 i) 120) (if (zI t 67 ((zI t 79 i).toInt.toNat)) < a1 then K else some (-2)))))) R := fun K R h1 h2 => Pc_iff (by rw [jlt, jl0]; omega) (Pc_gd (fun _ => Pc_iff (by rw [jlt, jl0]; exact th) (Pc_gd (fun _ => Pc_if (fun z => h1 z) (fun z => Pc_some (h2 z))))))
            refine Pc_if00 (Pc_if (fun lt => ?_) (fun lt => Pc_some (M _ _ (Pc_gd (fun _ => Pc_vl (hd _ _ (fun z => absurd z lt) (fun _ => rfl)))))))
            have lt' := lt
            rw [jlt] at lt'
            rw [x4] at b4
            rw [x5, e80, e1]
            have d1 : (a1 - zI t 67 (zI t 79 i).toInt.toNat).toInt = a1.toInt - (zI t 67 (zI t 79 i).toInt.toNat).toInt := i32_sub (by omega) (by omega)
            have q1 : 0 ≤ (a1.toInt - (zI t 67 (zI t 79 i).toInt.toNat).toInt) * (zI t 78 i).toInt ∧ (a1.toInt - (zI t 67 (zI t 79 i).toInt.toNat).toInt) * (zI t 78 i).toInt ≤ 60 * 60 := ⟨Int.mul_nonneg (by omega) n78.1, Int.mul_le_mul (by omega) n78.2 n78.1 (by omega)⟩
            have d2 : ((a1 - zI t 67 (zI t 79 i).toInt.toNat) * zI t 78 i).toInt = (a1.toInt - (zI t 67 (zI t 79 i).toInt.toNat).toInt) * (zI t 78 i).toInt := by rw [i32_mul (by rw [d1]; omega) (by rw [d1]; omega), d1]
            have q2 : 0 ≤ ((a1 - zI t 67 (zI t 79 i).toInt.toNat) * zI t 78 i).toInt * a2.toInt ∧ ((a1 - zI t 67 (zI t 79 i).toInt.toNat) * zI t 78 i).toInt * a2.toInt ≤ 60 * 60 * 9 := ⟨Int.mul_nonneg (by omega) (by omega), Int.mul_le_mul (by omega) y2.2 (by omega) (by omega)⟩
            have d3 : ((a1 - zI t 67 (zI t 79 i).toInt.toNat) * zI t 78 i * a2).toInt = ((a1 - zI t 67 (zI t 79 i).toInt.toNat) * zI t 78 i).toInt * a2.toInt := i32_mul (by omega) (by omega)
            rw [← d3] at q2
            have d4 : ((a1 - zI t 67 (zI t 79 i).toInt.toNat) * zI t 78 i * a2 - zI t 68 (zI t 79 i).toInt.toNat).toInt = ((a1 - zI t 67 (zI t 79 i).toInt.toNat) * zI t 78 i * a2).toInt - (zI t 68 (zI t 79 i).toInt.toNat).toInt := i32_sub (by omega) (by omega)
            have vb : -110000 ≤ ((a1 - zI t 67 (zI t 79 i).toInt.toNat) * zI t 78 i * a2 - zI t 68 (zI t 79 i).toInt.toNat).toInt ∧ ((a1 - zI t 67 (zI t 79 i).toInt.toNat) * zI t 78 i * a2 - zI t 68 (zI t 79 i).toInt.toNat).toInt ≤ 32400 := by omega
            obtain ⟨V, hV⟩ : ∃ V, (a1 - zI t 67 (zI t 79 i).toInt.toNat) * zI t 78 i * a2 - zI t 68 (zI t 79 i).toInt.toNat = V := ⟨_, rfl⟩
            rw [hV] at vb
            rw [hV]
            clear d1 q1 d2 q2 d3 d4
            obtain ⟨W, hW⟩ : ∃ W : Int32, (if zS t 59 1 < zI t 80 i then zI t 80 i else zS t 59 1) = W := ⟨_, rfl⟩
            have Wb : 0 ≤ W.toInt ∧ W.toInt ≤ 1699 := by
              rw [← hW]
              by_cases z : zS t 59 1 < zI t 80 i
              · rw [if_pos z]
                rw [jlt] at z
                rw [e1] at hr
                omega
              · rw [if_neg z, ← e1]
                exact hr
            rw [maxJ, maxJ, hW]
            -- the hours that are missing
            obtain ⟨k, ek, kb, kc⟩ := racK vb
            refine Pc_b1S (Pc_b1S ?_)
            rw [ek, minJ]
            have sm : (W + k).toInt = W.toInt + k.toInt := i32_add (by omega) (by omega)
            rw [if_pos (by rw [jlt, sm, j9999]; omega)]
            refine Pc_b1S (Pc_some (M _ _ (Pc_gd (fun _ => Pc_vl (hd _ _ (fun _ => ?_) (fun z => absurd lt z))))))
            refine Pc_gd (fun _ => Pc_gd (fun _ => Pc_gd (fun _ => Pc_vl (Pc_jn ?_))))
            rw [hV]
            have tl : Pc (gd (inB a0 3) (jn (fun (t21_0 : Int32) => (b1 (f_X12_held (t21_0 + k) (0 : Int32) (9999 : Int32)) fun r22 => some r22)) fun k21 => (if (zS t 59 1) < (zI t 80 i) then (gd (inB a0 3) (k21 (zI t 80 i))) else (k21 (zS t 59 1))))) (fun m => W + k = m) := by
              have hl : Pc (b1 (f_X12_held (W + k) (0 : Int32) (9999 : Int32)) fun r22 => some r22) (fun m => W + k = m) := by
                rw [heldM, if_neg (by rw [jlt, sm, jl0]; omega), if_neg (by rw [jlt, sm, j9999]; omega)]
                exact Pc_b1S (Pc_some rfl)
              refine Pc_gd (fun _ => Pc_jn (Pc_if (fun z => Pc_gd (fun _ => ?_)) (fun z => ?_)))
              · rw [if_pos z] at hW
                rw [hW]
                exact hl
              · rw [if_neg z] at hW
                rw [hW]
                exact hl
            rcases kc with ⟨y, e⟩ | ⟨y, e⟩
            · refine Pc_ift y ?_
              rw [← e]
              exact tl
            · refine Pc_iff y ?_
              rw [← e]
              exact tl
      · rw [in_f (a := a2) (by rw [jl1, j9]; exact y2)]
        refine Pc_lt (fun _ => Pc_some (Pc_b1 (Pc_b1S (Pc_some (Pc_if10 (Pc_b1S (Pc_if10 (Pc_b1S (Pc_if00 (Pc_some rfl)))))))))) (fun z => Pc_lt (fun _ => Pc_some (Pc_b1 (Pc_b1S (Pc_some (Pc_if10 (Pc_b1S (Pc_if10 (Pc_b1S (Pc_if00 (Pc_some rfl)))))))))) (fun w => ?_))
        rw [jl1] at z
        rw [j9] at w
        exact absurd ⟨z, w⟩ y2
    · rw [yard_f y1, in_f (a := a1) (by rw [jl1, j60]; exact y1)]
      exact Pc_b1S (Pc_if00 (Pc_some (Pc_b1 (Pc_b1S (Pc_some (Pc_if10 (Pc_b1S (Pc_if00 (Pc_some rfl)))))))))
  · rw [in_f (a := a0) (by rw [jl0, j2]; omega)]
    have M : ∀ K : Option Int32, Pc (b1 (b1 (some (0 : Int32)) fun r1 => some r1) fun r1 => (if r1 = (0 : Int32) then some (-1) else K)) (fun m => (-1 : Int32) = m) := fun K => Pc_b1 (Pc_b1S (Pc_some (Pc_if00 (Pc_some rfl))))
    refine Pc_b1 (Pc_lt (fun _ => Pc_some (Pc_onN (Pc_some (M _)))) (fun z => Pc_lt (fun w => ?_) (fun _ => Pc_some (Pc_onN (Pc_some (M _))))))
    rw [jl0] at z
    rw [j3] at w
    exact absurd ⟨z, w⟩ c
end VMs
