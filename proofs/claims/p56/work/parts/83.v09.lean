/-! COUNTS, RACES; whether the shelter holds -/
section VMs
variable {s t : SS}
def H25 (s : SS) : Prop := zS s 59 25 = 0 ∨ zS s 59 25 = 1
theorem H25.f {WS : List (Nat × Nat)} {WI WJ : List Nat} {u : SS} (h : H25 s) (F : Frm WS WI WJ s u) (c : WS.contains (59, 25) = false) : H25 u := by
  unfold H25
  rw [F.1 59 25 c]
  exact h
theorem h25_m {q0 : SS → Option (Int32 × SS)} {y1 y2 : Int32} {R : Int32 × SS → Prop} (hq : ∀ u, H25 u → Pc (q0 u) R) : ∀ (n : Nat) (s : SS) (x : Int32), H25 s → Pc (f_X12_hours_L65 q0 y1 y2 n s x) R
  | 0, _, _, _ => Pc_none
  | n + 1, s, x, h => by
    show Pc (f_X12_hours_L65_b q0 y1 y2 (f_X12_hours_L65 q0 y1 y2 n) s x) R
    unfold f_X12_hours_L65_b
    refine Pc_if (fun _ => Pc_gd (fun _ => Pc_jnS (P := H25) (fun u hu => Pc_vl (h25_m hq n u _ hu)) (fun k hk => Pc_if (fun _ => Pc_gd (fun _ => Pc_b1x (fun _ => Pc_gd (fun _ => Pc_st (Pc_gd (fun _ => Pc_st ?_)))))) (fun _ => hk _ h)))) (fun _ => hq s h)
    exact Pc_if (fun _ => hk _ h) (fun _ => Pc_gd (fun _ => Pc_if (fun _ => Pc_gd (fun _ => Pc_b1x (fun _ => Pc_if (fun _ => hk _ h) (fun _ => Pc_st (hk _ (Or.inr rfl)))))) (fun _ => hk _ h)))
theorem h25_l {y1 : Int32} : ∀ (n : Nat) (s : SS) (x : Int32), H25 s → Pc (f_X12_hours_L26 y1 n s x) (fun m => H25 m.2)
  | 0, _, _, _ => Pc_none
  | n + 1, s, x, h => by
    show Pc (f_X12_hours_L26_b y1 (f_X12_hours_L26 y1 n) s x) _
    unfold f_X12_hours_L26_b
    refine Pc_if (fun _ => Pc_vl (Pc_st ?_)) (fun _ => Pc_some h)
    have h6 : H25 (pS s 59 1 (zS s 59 1 + 1)) := h
    generalize pS s 59 1 (zS s 59 1 + 1) = s6 at h6 ⊢
    refine Pc_b1 (Pc.mono (v_X12_drill (WS := []) (WI := [65, 67, 68, 69, 71, 95, 96, 99, 100]) (WJ := []) (b := s6) rfl rfl rfl rfl rfl rfl rfl rfl rfl Frm.rf) (fun s7 F7 => ?_))
    have h7 := h6.f F7 rfl
    refine Pc_b1 (Pc.mono (v_X12_comeDown (WS := [(59, 54), (59, 62)]) (WI := [102, 103, 105]) (WJ := []) (b := s7) rfl rfl rfl rfl rfl Frm.rf) (fun s8 F8 => ?_))
    have h8 := h7.f F8 rfl
    refine Pc_jnS (P := H25) (fun u hu => h25_m (fun w hw => Pc_vl (h25_l n w _ hw)) 4000 u 0 hu) (fun k hk => Pc_if (fun _ => Pc_b1 (Pc.mono (v_X12_eat (WS := [(59, 54), (59, 55)]) (WI := [74, 95, 96]) (WJ := []) (b := s8) rfl rfl rfl rfl rfl Frm.rf) (fun s9 F9 => hk _ (h8.f F9 rfl)))) (fun _ => hk _ h8))
theorem K_h25 (h : H25 t) (a : Int32) : Pc (f_X12_hours t a) (fun m => H25 m.2) := by
  unfold f_X12_hours
  exact Pc_b1x (fun _ => Pc_if (fun _ => Pc_some h) (fun _ => Pc_if (fun _ => Pc_some h) (fun _ => h25_l 4000 t 0 h)))
/-- holes -/
theorem cnt71 (B : B1 s t) : ∀ (n : Nat) (x2 x3 : Int32), 0 ≤ x3.toInt → x3.toInt ≤ (zS s 15 3).toInt → x2.toInt = ySum (fun i => if zR s 17 i = none then 0 else 1) x3.toInt.toNat → 0 ≤ x2.toInt ∧ x2.toInt ≤ x3.toInt → Pc (f_X12_count_L71 t n x2 x3) (fun r => r.toInt = ySum (fun i => if zR s 17 i = none then 0 else 1) (zS s 15 3).toInt.toNat)
  | 0, _, _, _, _, _, _ => Pc_none
  | n + 1, x2, x3, h0, h1, hs, hb => by
    obtain ⟨b1, b2, b3⟩ := B.1.tot
    show Pc (f_X12_count_L71_b t (f_X12_count_L71 t n) x2 x3) _
    unfold f_X12_count_L71_b
    rw [← b1, isHoleO B]
    refine Pc_lt (fun c => Pc_b1S (Pc_jn ?_)) (fun c => Pc_some (by rw [hs, show x3.toInt.toNat = (zS s 15 3).toInt.toNat by omega]))
    have n1 : (x3 + 1).toInt = x3.toInt + 1 := by rw [i32_add (by rw [jl1]; omega) (by rw [jl1]; omega), jl1]
    have et : (x3 + 1).toInt.toNat = x3.toInt.toNat + 1 := by omega
    have eh : hO s x3 = zR s 17 x3.toInt.toNat := if_pos ⟨h0, c⟩
    have go : ∀ w : Int32, (0 ≤ w.toInt ∧ w.toInt ≤ 1) → w.toInt = (if zR s 17 x3.toInt.toNat = none then 0 else 1) → Pc (vl ((x2 + w)) fun v6 => (vl (x3 + 1) fun v7 => (f_X12_count_L71 t n v6 v7))) (fun r => r.toInt = ySum (fun i => if zR s 17 i = none then 0 else 1) (zS s 15 3).toInt.toNat) := by
      intro w hw e
      have e2 : (x2 + w).toInt = x2.toInt + w.toInt := i32_add (by omega) (by omega)
      refine Pc_vl (Pc_vl (cnt71 B n _ _ (by omega) (by omega) ?_ (by omega)))
      rw [e2, et, hs, e]
      rfl
    rw [eh]
    by_cases z : zR s 17 x3.toInt.toNat = none
    · rw [if_pos z]
      exact Pc_if00 (go 0 (by decide) (by rw [if_pos z]; rfl))
    · rw [if_neg z]
      exact Pc_if10 (go 1 (by decide) (by rw [if_neg z]; rfl))
theorem cnt105 (hb : 0 ≤ (zS t 59 4).toInt ∧ (zS t 59 4).toInt ≤ 120) : ∀ (n : Nat) (x2 x3 : Int32), 0 ≤ x3.toInt → x3.toInt ≤ (zS t 59 4).toInt → x2.toInt = ySum (fun i => if 0 < (zI t 69 i).toInt then 1 else 0) x3.toInt.toNat → 0 ≤ x2.toInt ∧ x2.toInt ≤ x3.toInt → Pc (f_X12_count_L105 t n x2 x3) (fun r => r.toInt = ySum (fun i => if 0 < (zI t 69 i).toInt then 1 else 0) (zS t 59 4).toInt.toNat)
  | 0, _, _, _, _, _, _ => Pc_none
  | n + 1, x2, x3, h0, h1, hs, hr => by
    show Pc (f_X12_count_L105_b t (f_X12_count_L105 t n) x2 x3) _
    unfold f_X12_count_L105_b
    refine Pc_lt (fun c => Pc_gd (fun _ => Pc_jn ?_)) (fun c => Pc_some (by rw [hs, show x3.toInt.toNat = (zS t 59 4).toInt.toNat by omega]))
    have n1 : (x3 + 1).toInt = x3.toInt + 1 := by rw [i32_add (by rw [jl1]; omega) (by rw [jl1]; omega), jl1]
    have et : (x3 + 1).toInt.toNat = x3.toInt.toNat + 1 := by omega
    have go : ∀ w : Int32, (0 ≤ w.toInt ∧ w.toInt ≤ 1) → w.toInt = (if 0 < (zI t 69 x3.toInt.toNat).toInt then 1 else 0) → Pc (vl ((x2 + w)) fun v6 => (vl (x3 + 1) fun v7 => (f_X12_count_L105 t n v6 v7))) (fun r => r.toInt = ySum (fun i => if 0 < (zI t 69 i).toInt then 1 else 0) (zS t 59 4).toInt.toNat) := by
      intro w hw e
      have e2 : (x2 + w).toInt = x2.toInt + w.toInt := i32_add (by omega) (by omega)
      refine Pc_vl (Pc_vl (cnt105 hb n _ _ (by omega) (by omega) ?_ (by omega)))
      rw [e2, et, hs, e]
      rfl
    exact Pc_lt (fun z => go 1 (by decide) (by rw [jl0] at z; rw [if_pos z]; rfl)) (fun z => go 0 (by decide) (by rw [jl0] at z; rw [if_neg (by omega)]; rfl))
theorem cnt165 (hb : 0 ≤ (zS t 59 4).toInt ∧ (zS t 59 4).toInt ≤ 120) (h67 : ∀ i, 0 ≤ (zI t 67 i).toInt ∧ (zI t 67 i).toInt ≤ 60) : ∀ (n : Nat) (x2 x3 : Int32), 0 ≤ x3.toInt → x3.toInt ≤ (zS t 59 4).toInt → x2.toInt = ySum (fun i => (zI t 67 i).toInt) x3.toInt.toNat → 0 ≤ x2.toInt ∧ x2.toInt ≤ 60 * x3.toInt → Pc (f_X12_count_L165 t n x2 x3) (fun r => r.toInt = ySum (fun i => (zI t 67 i).toInt) (zS t 59 4).toInt.toNat)
  | 0, _, _, _, _, _, _ => Pc_none
  | n + 1, x2, x3, h0, h1, hs, hr => by
    show Pc (f_X12_count_L165_b t (f_X12_count_L165 t n) x2 x3) _
    unfold f_X12_count_L165_b
    refine Pc_lt (fun c => Pc_gd (fun _ => Pc_vl (Pc_vl ?_))) (fun c => Pc_some (by rw [hs, show x3.toInt.toNat = (zS t 59 4).toInt.toNat by omega]))
    have n1 : (x3 + 1).toInt = x3.toInt + 1 := by rw [i32_add (by rw [jl1]; omega) (by rw [jl1]; omega), jl1]
    have et : (x3 + 1).toInt.toNat = x3.toInt.toNat + 1 := by omega
    have h6 := h67 x3.toInt.toNat
    have e2 : (x2 + zI t 67 x3.toInt.toNat).toInt = x2.toInt + (zI t 67 x3.toInt.toNat).toInt := i32_add (by omega) (by omega)
    refine cnt165 hb h67 n _ _ (by omega) (by omega) ?_ (by omega)
    rw [e2, et, hs]
    rfl
theorem V_count (G : GI s) (Q : Q4 s s) (a0 : Int32) : Pc (f_X11_count s a0) fun x => Pc (f_X12_count s a0) fun m => x = m := by
  have B := G.B1
  obtain ⟨b1, b2, b3⟩ := B.1.tot
  have bm : 0 ≤ (zS s 59 4).toInt ∧ (zS s 59 4).toInt ≤ 120 := by rw [← b1]; exact ⟨b2, b3⟩
  obtain ⟨c1, c2, c3⟩ := Q.2.2.1
  unfold f_X11_count f_X12_count
  by_cases y0 : a0 = 0
  · subst y0
    repeat' (first
      | with_reducible refine Pc_bdS ?_
      | with_reducible refine Pc_b1S ?_
      | with_reducible refine Pc_onS ?_
      | with_reducible refine Pc_onN ?_
      | with_reducible refine Pc_ift (by assumption) ?_
      | with_reducible refine Pc_iff (by assumption) ?_
      | with_reducible refine Pc_ift (by decide) ?_
      | with_reducible refine Pc_iff (by decide) ?_
      | with_reducible refine Pc_gd (fun _ => ?_)
      | with_reducible refine Pc_vl ?_
      | with_reducible refine Pc_b1 ?_
      | with_reducible refine Pc_some ?_)
    exact b1
  by_cases y1 : a0 = 1
  · subst y1
    refine Pc_iff (by decide) (Pc_ift rfl (Pc_some (Pc_iff (by decide) (Pc_ift rfl ?_))))
    refine Pc.mono (cnt71 B 4000 0 0 (by decide) (by rw [jl0]; exact b2) rfl (by decide)) (fun r hr => Int32.toInt_inj.1 ?_)
    rw [hr, c3]
    exact ySum_z (by omega) (fun i h1 h2 => if_pos (noH B (by omega) h2))
  by_cases y2 : a0 = 2
  · subst y2
    refine Pc_iff (by decide) (Pc_iff (by decide) (Pc_ift rfl (Pc_some (Pc_iff (by decide) (Pc_iff (by decide) (Pc_ift rfl ?_))))))
    refine Pc.mono (cnt105 bm 4000 0 0 (by decide) (by rw [jl0]; exact bm.1) rfl (by decide)) (fun r hr => Int32.toInt_inj.1 ?_)
    rw [hr]
    exact (thr_t B (Q4h.w Q)).symm
  by_cases y3 : a0 = 3
  · subst y3
    refine Pc_iff (by decide) (Pc_iff (by decide) (Pc_iff (by decide) (Pc_ift rfl (Pc_some (Pc_iff (by decide) (Pc_iff (by decide) (Pc_iff (by decide) (Pc_ift rfl ?_))))))))
    exact Pc_b1 (Pc.mono (men_p ⟨b1, b2, b3⟩ Q.2.1) (fun r hr => Pc_some hr.symm))
  by_cases y4 : a0 = 4
  · subst y4
    repeat' (first
      | with_reducible refine Pc_bdS ?_
      | with_reducible refine Pc_b1S ?_
      | with_reducible refine Pc_onS ?_
      | with_reducible refine Pc_onN ?_
      | with_reducible refine Pc_ift (by assumption) ?_
      | with_reducible refine Pc_iff (by assumption) ?_
      | with_reducible refine Pc_ift (by decide) ?_
      | with_reducible refine Pc_iff (by decide) ?_
      | with_reducible refine Pc_gd (fun _ => ?_)
      | with_reducible refine Pc_vl ?_
      | with_reducible refine Pc_b1 ?_
      | with_reducible refine Pc_some ?_)
    exact B.2.1.1
  by_cases y5 : a0 = 5
  · subst y5
    repeat' (first
      | with_reducible refine Pc_bdS ?_
      | with_reducible refine Pc_b1S ?_
      | with_reducible refine Pc_onS ?_
      | with_reducible refine Pc_onN ?_
      | with_reducible refine Pc_ift (by assumption) ?_
      | with_reducible refine Pc_iff (by assumption) ?_
      | with_reducible refine Pc_ift (by decide) ?_
      | with_reducible refine Pc_iff (by decide) ?_
      | with_reducible refine Pc_gd (fun _ => ?_)
      | with_reducible refine Pc_vl ?_
      | with_reducible refine Pc_b1 ?_
      | with_reducible refine Pc_some ?_)
    exact B.1.1.2.2.1
  by_cases y6 : a0 = 6
  · subst y6
    repeat' (first
      | with_reducible refine Pc_bdS ?_
      | with_reducible refine Pc_b1S ?_
      | with_reducible refine Pc_onS ?_
      | with_reducible refine Pc_onN ?_
      | with_reducible refine Pc_ift (by assumption) ?_
      | with_reducible refine Pc_iff (by assumption) ?_
      | with_reducible refine Pc_ift (by decide) ?_
      | with_reducible refine Pc_iff (by decide) ?_
      | with_reducible refine Pc_gd (fun _ => ?_)
      | with_reducible refine Pc_vl ?_
      | with_reducible refine Pc_b1 ?_
      | with_reducible refine Pc_some ?_)
    exact B.1.1.2.2.2.1
  by_cases y7 : a0 = 7
  · subst y7
    repeat' (first
      | with_reducible refine Pc_bdS ?_
      | with_reducible refine Pc_b1S ?_
      | with_reducible refine Pc_onS ?_
      | with_reducible refine Pc_onN ?_
      | with_reducible refine Pc_ift (by assumption) ?_
      | with_reducible refine Pc_iff (by assumption) ?_
      | with_reducible refine Pc_ift (by decide) ?_
      | with_reducible refine Pc_iff (by decide) ?_
      | with_reducible refine Pc_gd (fun _ => ?_)
      | with_reducible refine Pc_vl ?_
      | with_reducible refine Pc_b1 ?_
      | with_reducible refine Pc_some ?_)
    exact G.2.2.2.2.1.1
  by_cases y8 : a0 = 8
  · subst y8
    refine Pc_iff (by decide) (Pc_iff (by decide) (Pc_iff (by decide) (Pc_iff (by decide) (Pc_iff (by decide) (Pc_iff (by decide) (Pc_iff (by decide) (Pc_iff (by decide) (Pc_ift rfl (Pc_some ?_)))))))))
    refine Pc_iff (by decide) (Pc_iff (by decide) (Pc_iff (by decide) (Pc_iff (by decide) (Pc_iff (by decide) (Pc_iff (by decide) (Pc_iff (by decide) (Pc_iff (by decide) (Pc_ift rfl ?_))))))))
    refine Pc.mono (cnt165 bm (fun i => G.1.1.1.a (q := 67) rfl) 4000 0 0 (by decide) (by rw [jl0]; exact bm.1) rfl (by decide)) (fun r hr => Int32.toInt_inj.1 ?_)
    rw [hr, c1]
    exact ySum_z (by omega) (fun i h1 h2 => by rw [(Q.1.2.1 i h2 (noH B (by rw [b1]; omega) h2)).2.1]; rfl)
  by_cases y9 : a0 = 9
  · subst y9
    repeat' (first
      | with_reducible refine Pc_bdS ?_
      | with_reducible refine Pc_b1S ?_
      | with_reducible refine Pc_onS ?_
      | with_reducible refine Pc_onN ?_
      | with_reducible refine Pc_ift (by assumption) ?_
      | with_reducible refine Pc_iff (by assumption) ?_
      | with_reducible refine Pc_ift (by decide) ?_
      | with_reducible refine Pc_iff (by decide) ?_
      | with_reducible refine Pc_gd (fun _ => ?_)
      | with_reducible refine Pc_vl ?_
      | with_reducible refine Pc_b1 ?_
      | with_reducible refine Pc_some ?_)
    exact Q.2.2.2.2.1.2.1
  by_cases y10 : a0 = 10
  · subst y10
    repeat' (first
      | with_reducible refine Pc_bdS ?_
      | with_reducible refine Pc_b1S ?_
      | with_reducible refine Pc_onS ?_
      | with_reducible refine Pc_onN ?_
      | with_reducible refine Pc_ift (by assumption) ?_
      | with_reducible refine Pc_iff (by assumption) ?_
      | with_reducible refine Pc_ift (by decide) ?_
      | with_reducible refine Pc_iff (by decide) ?_
      | with_reducible refine Pc_gd (fun _ => ?_)
      | with_reducible refine Pc_vl ?_
      | with_reducible refine Pc_b1 ?_
      | with_reducible refine Pc_some ?_)
    exact Q.2.2.2.2.1.2.2.1
  by_cases y11 : a0 = 11
  · subst y11
    repeat' (first
      | with_reducible refine Pc_bdS ?_
      | with_reducible refine Pc_b1S ?_
      | with_reducible refine Pc_onS ?_
      | with_reducible refine Pc_onN ?_
      | with_reducible refine Pc_ift (by assumption) ?_
      | with_reducible refine Pc_iff (by assumption) ?_
      | with_reducible refine Pc_ift (by decide) ?_
      | with_reducible refine Pc_iff (by decide) ?_
      | with_reducible refine Pc_gd (fun _ => ?_)
      | with_reducible refine Pc_vl ?_
      | with_reducible refine Pc_b1 ?_
      | with_reducible refine Pc_some ?_)
    exact G.2.2.2.1.1
  repeat' (first
    | with_reducible refine Pc_bdS ?_
    | with_reducible refine Pc_b1S ?_
    | with_reducible refine Pc_onS ?_
    | with_reducible refine Pc_onN ?_
    | with_reducible refine Pc_ift (by assumption) ?_
    | with_reducible refine Pc_iff (by assumption) ?_
    | with_reducible refine Pc_ift (by decide) ?_
    | with_reducible refine Pc_iff (by decide) ?_
    | with_reducible refine Pc_gd (fun _ => ?_)
    | with_reducible refine Pc_vl ?_
    | with_reducible refine Pc_b1 ?_
    | with_reducible refine Pc_some ?_)
  exact rfl
theorem d6060 : ((1 : Int32) + 59) / 60 = 1 := by
  apply Int32.toInt_inj.1
  have j59 : (59 : Int32).toInt = 59 := rfl
  have a59 : ((1 : Int32) + 59).toInt = 60 := by rw [i32_add (by rw [jl1, j59]; omega) (by rw [jl1, j59]; omega), jl1, j59]; rfl
  rw [jd60, if_pos (by rw [a59]; omega), a59, jl1]
  rfl
theorem racK {V : Int32} (vb : -110000 ≤ V.toInt ∧ V.toInt ≤ 32400) : ∃ k : Int32, ((if (1 : Int32) < V then V else 1) + 59) / 60 = k ∧ (1 ≤ k.toInt ∧ k.toInt ≤ 600) ∧ ((60 < V ∧ k = (V + 59) / 60) ∨ (¬ 60 < V ∧ k = 1)) := by
  have j60 : (60 : Int32).toInt = 60 := rfl
  have j59 : (59 : Int32).toInt = 59 := rfl
  refine ⟨_, rfl, ?_⟩
  by_cases z : (1 : Int32) < V
  · rw [if_pos z]
    rw [jlt, jl1] at z
    have a59 : (V + 59).toInt = V.toInt + 59 := by rw [i32_add (by rw [j59]; omega) (by rw [j59]; omega), j59]
    have dv : ((V + 59) / 60).toInt = (V.toInt + 59) / 60 := by rw [jd60, if_pos (by rw [a59]; omega), a59]
    refine ⟨by rw [dv]; omega, ?_⟩
    by_cases y : (60 : Int32) < V
    · exact Or.inl ⟨y, rfl⟩
    · refine Or.inr ⟨y, Int32.toInt_inj.1 ?_⟩
      rw [jlt, j60] at y
      rw [dv, jl1]
      omega
  · rw [if_neg z, d6060]
    rw [jlt, jl1] at z
    exact ⟨by rw [jl1]; omega, Or.inr ⟨by rw [jlt, j60]; omega, rfl⟩⟩
theorem V_race (B : B1 s t) (Q : Q4 s t) (N : QRng s t) (hb : ∀ i, i < 3 → (zI t 80 i).toInt ≤ 1699) (a0 a1 a2 : Int32) : Pc (f_X11_race s a0 a1 a2) fun x => Pc (f_X12_race t a0 a1 a2) fun m => x = m := by
  have j3 : (3 : Int32).toInt = 3 := rfl
  have j2 : (2 : Int32).toInt = 2 := rfl
  have j9 : (9 : Int32).toInt = 9 := rfl
  have j60 : (60 : Int32).toInt = 60 := rfl
  have j59 : (59 : Int32).toInt = 59 := rfl
  have j9999 : (9999 : Int32).toInt = 9999 := rfl
  unfold f_X11_race f_X12_race f_X12_isMachine f_X11_machineOf
  by_cases c : 0 ≤ a0.toInt ∧ a0.toInt < 3
  · rw [in_t (a := a0) (by rw [jl0, j2]; omega)]
    obtain ⟨i, hi⟩ : ∃ i : Nat, a0.toInt = i := ⟨_, (Int.toNat_of_nonneg c.1).symm⟩
    have ei : a0.toInt.toNat = i := by omega
    have h3 : i < 3 := by omega
    rw [ei, B.1.sh.2.2.2.1 i h3]
    refine Pc_b1 (Pc_iff (by rw [jlt, jl0]; omega) (Pc_ift (by rw [jlt, j3]; omega) (Pc_gd (fun _ => Pc_onS (Pc_some (Pc_onS ?_))))))
    by_cases y1 : 1 ≤ a1.toInt ∧ a1.toInt ≤ 60
    · rw [yard_t y1, in_t (a := a1) (by rw [jl1, j60]; exact y1)]
      refine Pc_b1S (Pc_if10 ?_)
      by_cases y2 : 1 ≤ a2.toInt ∧ a2.toInt ≤ 9
      · rw [in_t (a := a2) (by rw [jl1, j9]; exact y2)]
        refine Pc_iff (by rw [jlt, jl1]; omega) (Pc_iff (by rw [jlt, j9]; omega) ?_)
        obtain ⟨p0, p1⟩ := B.1.2.2.2.1 i h3
        rw [holeOfX B, p1, p0]
        have M : ∀ (K : Option Int32) (R : Int32 → Prop), Pc K R → Pc (b1 (b1 (some (1 : Int32)) fun r1 => some r1) fun r1 => (if r1 = (0 : Int32) then some (-1) else (b1 (some (1 : Int32)) fun r3 => (if r3 = (0 : Int32) then some (-1) else (b1 (some (1 : Int32)) fun r5 => (if r5 = (0 : Int32) then some (-1) else K)))))) R := fun K R h => Pc_b1 (Pc_b1S (Pc_some (Pc_if10 (Pc_b1S (Pc_if10 (Pc_b1S (Pc_if10 h)))))))
        rcases Q.2.2.2.2.2.2.2.2.1.1 i h3 with z | ⟨z1, z2, z3⟩
        · have eo : hO s (zI t 79 i) = none := if_neg (by omega)
          rw [eo]
          exact Pc_b1S (Pc_onN (Pc_some (M _ _ (Pc_gd (fun _ => Pc_vl (Pc_ift (by rw [jlt, jl0]; omega) (Pc_some rfl)))))))
        · have eo : hO s (zI t 79 i) = zR s 17 (zI t 79 i).toInt.toNat := if_pos ⟨z1, z2⟩
          have b := B.1.tot
          have hn : (zI t 79 i).toInt.toNat < 120 := by omega
          rw [eo]
          cases hp : zR s 17 (zI t 79 i).toInt.toNat with
          | none => exact absurd hp z3
          | some p =>
          obtain ⟨x0, x1, x2, x3, x4, x5, x6, x7, x8⟩ := Q.1.1 _ _ hn hp
          have b4 := B.1.h4 (B.1.sh.2.2.1 _ _ hn hp)
          have kp := Q.2.2.2.2.2.2.2.2.2.2.2.2 _ hn
          have hr := B.2.1.2.2.2.2
          have n78 := N.1 i h3
          have n80 := hb i h3
          have e80 : zS s (20 + i) 2 = zI t 80 i := Q.2.2.2.2.2.2.1 i h3
          have e1 : zS s 0 14 = zS t 59 1 := B.2.1.1
          refine Pc_b1S (Pc_onS ?_)
          rw [x6]
          by_cases th : 0 < (zI t 69 (zI t 79 i).toInt.toNat).toInt
          · rw [if_pos th]
            exact Pc_if10 (Pc_some (M _ _ (Pc_gd (fun _ => Pc_vl (Pc_iff (by rw [jlt, jl0]; omega) (Pc_gd (fun _ => Pc_ift (by rw [jlt, jl0]; exact th) (Pc_some rfl))))))))
          · rw [if_neg th, x4]
            have hd : ∀ (K : Option Int32) (R : Int32 → Prop), (zI t 67 (zI t 79 i).toInt.toNat < a1 → Pc K R) → (¬ zI t 67 (zI t 79 i).toInt.toNat < a1 → R (-2)) → Pc (if zI t 79 i < (0 : Int32) then some (-2) else (gd (inB (zI t 79 i) 120) (if (0 : Int32) < (zI t 69 ((zI t 79 i).toInt.toNat)) then some (-2) else (gd (inB (zI t 79 i) 120) (if (zI t 67 ((zI t 79 i).toInt.toNat)) < a1 then K else some (-2)))))) R := fun K R h1 h2 => Pc_iff (by rw [jlt, jl0]; omega) (Pc_gd (fun _ => Pc_iff (by rw [jlt, jl0]; exact th) (Pc_gd (fun _ => Pc_if (fun z => h1 z) (fun z => Pc_some (h2 z))))))
            refine Pc_if00 (Pc_if (fun lt => ?_) (fun lt => Pc_some (M _ _ (Pc_gd (fun _ => Pc_vl (hd _ _ (fun z => absurd z lt) (fun _ => rfl)))))))
            have lt' := lt
            rw [jlt] at lt'
            rw [x4] at b4
            rw [x5, e80, e1]
            have d1 : (a1 - zI t 67 (zI t 79 i).toInt.toNat).toInt = a1.toInt - (zI t 67 (zI t 79 i).toInt.toNat).toInt := i32_sub (by omega) (by omega)
            have q1 : 0 ≤ (a1.toInt - (zI t 67 (zI t 79 i).toInt.toNat).toInt) * (zI t 78 i).toInt ∧ (a1.toInt - (zI t 67 (zI t 79 i).toInt.toNat).toInt) * (zI t 78 i).toInt ≤ 60 * 60 := ⟨Int.mul_nonneg (by omega) n78.1, Int.mul_le_mul (by omega) n78.2 n78.1 (by omega)⟩
            have d2 : ((a1 - zI t 67 (zI t 79 i).toInt.toNat) * zI t 78 i).toInt = (a1.toInt - (zI t 67 (zI t 79 i).toInt.toNat).toInt) * (zI t 78 i).toInt := by rw [i32_mul (by rw [d1]; omega) (by rw [d1]; omega), d1]
            have q2 : 0 ≤ ((a1 - zI t 67 (zI t 79 i).toInt.toNat) * zI t 78 i).toInt * a2.toInt ∧ ((a1 - zI t 67 (zI t 79 i).toInt.toNat) * zI t 78 i).toInt * a2.toInt ≤ 60 * 60 * 9 := ⟨Int.mul_nonneg (by omega) (by omega), Int.mul_le_mul (by omega) y2.2 (by omega) (by omega)⟩
            have d3 : ((a1 - zI t 67 (zI t 79 i).toInt.toNat) * zI t 78 i * a2).toInt = ((a1 - zI t 67 (zI t 79 i).toInt.toNat) * zI t 78 i).toInt * a2.toInt := i32_mul (by omega) (by omega)
            rw [← d3] at q2
            have d4 : ((a1 - zI t 67 (zI t 79 i).toInt.toNat) * zI t 78 i * a2 - zI t 68 (zI t 79 i).toInt.toNat).toInt = ((a1 - zI t 67 (zI t 79 i).toInt.toNat) * zI t 78 i * a2).toInt - (zI t 68 (zI t 79 i).toInt.toNat).toInt := i32_sub (by omega) (by omega)
            have vb : -110000 ≤ ((a1 - zI t 67 (zI t 79 i).toInt.toNat) * zI t 78 i * a2 - zI t 68 (zI t 79 i).toInt.toNat).toInt ∧ ((a1 - zI t 67 (zI t 79 i).toInt.toNat) * zI t 78 i * a2 - zI t 68 (zI t 79 i).toInt.toNat).toInt ≤ 32400 := by omega
            obtain ⟨V, hV⟩ : ∃ V, (a1 - zI t 67 (zI t 79 i).toInt.toNat) * zI t 78 i * a2 - zI t 68 (zI t 79 i).toInt.toNat = V := ⟨_, rfl⟩
            rw [hV] at vb
            rw [hV]
            clear d1 q1 d2 q2 d3 d4
            obtain ⟨W, hW⟩ : ∃ W : Int32, (if zS t 59 1 < zI t 80 i then zI t 80 i else zS t 59 1) = W := ⟨_, rfl⟩
            have Wb : 0 ≤ W.toInt ∧ W.toInt ≤ 1699 := by
              rw [← hW]
              by_cases z : zS t 59 1 < zI t 80 i
              · rw [if_pos z]
                rw [jlt] at z
                rw [e1] at hr
                omega
              · rw [if_neg z, ← e1]
                exact hr
            rw [maxJ, maxJ, hW]
            -- the hours that are missing
            obtain ⟨k, ek, kb, kc⟩ := racK vb
            refine Pc_b1S (Pc_b1S ?_)
            rw [ek, minJ]
            have sm : (W + k).toInt = W.toInt + k.toInt := i32_add (by omega) (by omega)
            rw [if_pos (by rw [jlt, sm, j9999]; omega)]
            refine Pc_b1S (Pc_some (M _ _ (Pc_gd (fun _ => Pc_vl (hd _ _ (fun _ => ?_) (fun z => absurd lt z))))))
            refine Pc_gd (fun _ => Pc_gd (fun _ => Pc_gd (fun _ => Pc_vl (Pc_jn ?_))))
            rw [hV]
            have tl : Pc (gd (inB a0 3) (jn (fun (t21_0 : Int32) => (b1 (f_X12_held (t21_0 + k) (0 : Int32) (9999 : Int32)) fun r22 => some r22)) fun k21 => (if (zS t 59 1) < (zI t 80 i) then (gd (inB a0 3) (k21 (zI t 80 i))) else (k21 (zS t 59 1))))) (fun m => W + k = m) := by
              have hl : Pc (b1 (f_X12_held (W + k) (0 : Int32) (9999 : Int32)) fun r22 => some r22) (fun m => W + k = m) := by
                rw [heldM, if_neg (by rw [jlt, sm, jl0]; omega), if_neg (by rw [jlt, sm, j9999]; omega)]
                exact Pc_b1S (Pc_some rfl)
              refine Pc_gd (fun _ => Pc_jn (Pc_if (fun z => Pc_gd (fun _ => ?_)) (fun z => ?_)))
              · rw [if_pos z] at hW
                rw [hW]
                exact hl
              · rw [if_neg z] at hW
                rw [hW]
                exact hl
            rcases kc with ⟨y, e⟩ | ⟨y, e⟩
            · refine Pc_ift y ?_
              rw [← e]
              exact tl
            · refine Pc_iff y ?_
              rw [← e]
              exact tl
      · rw [in_f (a := a2) (by rw [jl1, j9]; exact y2)]
        refine Pc_lt (fun _ => Pc_some (Pc_b1 (Pc_b1S (Pc_some (Pc_if10 (Pc_b1S (Pc_if10 (Pc_b1S (Pc_if00 (Pc_some rfl)))))))))) (fun z => Pc_lt (fun _ => Pc_some (Pc_b1 (Pc_b1S (Pc_some (Pc_if10 (Pc_b1S (Pc_if10 (Pc_b1S (Pc_if00 (Pc_some rfl)))))))))) (fun w => ?_))
        rw [jl1] at z
        rw [j9] at w
        exact absurd ⟨z, w⟩ y2
    · rw [yard_f y1, in_f (a := a1) (by rw [jl1, j60]; exact y1)]
      exact Pc_b1S (Pc_if00 (Pc_some (Pc_b1 (Pc_b1S (Pc_some (Pc_if10 (Pc_b1S (Pc_if00 (Pc_some rfl)))))))))
  · rw [in_f (a := a0) (by rw [jl0, j2]; omega)]
    have M : ∀ K : Option Int32, Pc (b1 (b1 (some (0 : Int32)) fun r1 => some r1) fun r1 => (if r1 = (0 : Int32) then some (-1) else K)) (fun m => (-1 : Int32) = m) := fun K => Pc_b1 (Pc_b1S (Pc_some (Pc_if00 (Pc_some rfl))))
    refine Pc_b1 (Pc_lt (fun _ => Pc_some (Pc_onN (Pc_some (M _)))) (fun z => Pc_lt (fun w => ?_) (fun _ => Pc_some (Pc_onN (Pc_some (M _))))))
    rw [jl0] at z
    rw [j3] at w
    exact absurd ⟨z, w⟩ c
end VMs
/-! WHERE A HOLE CAN BE -/
theorem neg32 {x : Int32} (h : -2147483648 < x.toInt) : (-x).toInt = -x.toInt := by
  have := jlo x
  rw [Int32.toInt_neg]
  exact Int.bmod_eq_of_le (by omega) (by omega)
theorem xor4 (x : Int32) : ((x ^^^ 4) < 0) = (x < 0) := by
  rw [jlt, jlt, jl0]
  have h : ∀ y : Int32, (y.toInt < 0) = (y.toBitVec.msb = true) := fun y => by
    rw [BitVec.msb_eq_toInt]
    simp only [decide_eq_true_eq]
    rfl
  rw [h, h, Int32.toBitVec_xor, BitVec.msb_xor]
  have e : (4 : Int32).toBitVec.msb = false := by decide
  rw [e, Bool.xor_false]
def clp (z : Int) : Int := if z < 0 then 0 else if 31 < z then 31 else z
theorem clp_b (z : Int) : 0 ≤ clp z ∧ clp z ≤ 31 := by
  unfold clp
  split
  · omega
  · split <;> omega
theorem fdv {x : Int32} (hx : -1000000 ≤ x.toInt ∧ x.toInt ≤ 1000000) : ∃ v, f_J9_floorDiv_7cf53 x 4 = some v ∧ v.toInt = x.toInt / 4 := by
  have j4 : (4 : Int32).toInt = 4 := rfl
  unfold f_J9_floorDiv_7cf53
  rw [gd_t (by decide), vl]
  have hd : (x / 4).toInt = if 0 ≤ x.toInt then x.toInt / 4 else -((-x.toInt) / 4) := jd4 x
  by_cases c : x < 0
  · rw [if_pos (by rw [xor4]; exact c)]
    rw [jlt, jl0] at c
    rw [if_neg (by omega)] at hd
    have mu : (x / 4 * 4).toInt = -((-x.toInt) / 4) * 4 := by rw [i32_mul (by rw [hd, j4]; omega) (by rw [hd, j4]; omega), hd, j4]
    by_cases d : x / 4 * 4 = x
    · rw [if_pos d]
      rw [d] at mu
      exact ⟨_, rfl, by rw [hd]; omega⟩
    · rw [if_neg d]
      have d' : -((-x.toInt) / 4) * 4 ≠ x.toInt := fun z => d (Int32.toInt_inj.1 (mu.trans z))
      exact ⟨_, rfl, by rw [i32_sub (by rw [hd, jl1]; omega) (by rw [hd, jl1]; omega), hd, jl1]; omega⟩
  · rw [if_neg (by rw [xor4]; exact c)]
    rw [jlt, jl0] at c
    rw [if_pos (by omega)] at hd
    exact ⟨_, rfl, hd⟩
theorem dn4 {x : Int32} (hx : -1000000 ≤ x.toInt ∧ x.toInt ≤ 1000000) : ∃ v, f_X12_down4 x = some v ∧ v.toInt = x.toInt / 4 := by
  have j3 : (3 : Int32).toInt = 3 := rfl
  unfold f_X12_down4
  by_cases c : x < 0
  · rw [if_pos c]
    rw [jlt, jl0] at c
    have e1 : ((3 : Int32) - x).toInt = 3 - x.toInt := by rw [i32_sub (by rw [j3]; omega) (by rw [j3]; omega), j3]
    have hd : (((3 : Int32) - x) / 4).toInt = (3 - x.toInt) / 4 := by rw [jd4, if_pos (by rw [e1]; omega), e1]
    exact ⟨_, rfl, by rw [neg32 (by rw [hd]; omega), hd]; omega⟩
  · rw [if_neg c]
    rw [jlt, jl0] at c
    exact ⟨_, rfl, by rw [jd4, if_pos (by omega)]⟩
theorem hldX (v : Int32) : ∃ r, f_X11_held v 0 31 = some r ∧ r.toInt = clp v.toInt := by
  have j31 : (31 : Int32).toInt = 31 := rfl
  rw [heldXM (by decide)]
  refine ⟨_, rfl, ?_⟩
  unfold clp
  by_cases c : v < 0
  · rw [if_pos c]
    rw [jlt, jl0] at c
    rw [if_pos c, jl0]
  · rw [if_neg c]
    rw [jlt, jl0] at c
    rw [if_neg c]
    by_cases d : (31 : Int32) < v
    · rw [if_pos d]
      rw [jlt, j31] at d
      rw [if_pos d, j31]
    · rw [if_neg d]
      rw [jlt, j31] at d
      rw [if_neg d]
theorem hldM (v : Int32) : ∃ r, f_X12_held v 0 31 = some r ∧ r.toInt = clp v.toInt := by
  obtain ⟨r, e, h⟩ := hldX v
  rw [heldXM (by decide)] at e
  exact ⟨r, by rw [heldM]; exact e, h⟩
theorem cutD {x : Int32} (hx : -1000000 ≤ x.toInt ∧ x.toInt ≤ 1000000) : ∃ v, f_X11_cutDown x = some v ∧ v.toInt = clp (x.toInt / 4) := by
  obtain ⟨a, ea, ha⟩ := fdv hx
  obtain ⟨r, er, hr⟩ := hldX a
  unfold f_X11_cutDown
  rw [ea, b1_some, er, b1_some]
  exact ⟨r, rfl, by rw [hr, ha]⟩
theorem neg1 {x : Int32} (hx : -1000000 ≤ x.toInt ∧ x.toInt ≤ 1000000) : (-x).toInt = -x.toInt := neg32 (by omega)
theorem cutU {x : Int32} (hx : -1000000 ≤ x.toInt ∧ x.toInt ≤ 1000000) : ∃ v, f_X11_cutUp x = some v ∧ v.toInt = clp (-((-x.toInt) / 4)) := by
  have hn := neg1 hx
  obtain ⟨a, ea, ha⟩ := fdv (x := -x) (by rw [hn]; omega)
  obtain ⟨r, er, hr⟩ := hldX (-a)
  unfold f_X11_cutUp
  rw [ea, b1_some, er, b1_some]
  exact ⟨r, rfl, by rw [hr, neg32 (by rw [ha, hn]; omega), ha, hn]⟩
section CBs
variable {s t : SS} {n p : Nat}
/-- a yard's lean: least (w is 0), most -/
def stpL (t : SS) (n : Nat) (w : Int32) (y : Nat) : Int32 := if zI t 72 (61 * n + y) = 0 then (if w = 0 then -8 else 8) else zI t 73 (61 * n + y) + (if w = 0 then -(zS t 59 29) else zS t 59 29)
def sQ (t : SS) (n : Nat) (w : Int32) : Nat → Int32
  | 0 => 4 * zI t 63 n
  | k + 1 => sQ t n w k + stpL t n w (k + 1)
/-- the ranges that keep sums small -/
def QSm (t : SS) : Prop := QLgs t ∧ (0 ≤ (zS t 59 29).toInt ∧ (zS t 59 29).toInt ≤ 8) ∧ ∀ n, 0 ≤ (zI t 63 n).toInt ∧ (zI t 63 n).toInt ≤ 31
theorem stpL_b (M : QSm t) (w : Int32) (y : Nat) : -10007 ≤ (stpL t n w y).toInt ∧ (stpL t n w y).toInt ≤ 10007 := by
  obtain ⟨m1, m2, m3⟩ := M
  have g := m1 (61 * n + y)
  have j8 : (8 : Int32).toInt = 8 := rfl
  have jn8 : (-8 : Int32).toInt = -8 := rfl
  unfold stpL
  by_cases c : zI t 72 (61 * n + y) = 0
  · rw [if_pos c]
    by_cases d : w = 0
    · rw [if_pos d, jn8]; omega
    · rw [if_neg d, j8]; omega
  · rw [if_neg c]
    by_cases d : w = 0
    · have e : (-(zS t 59 29)).toInt = -(zS t 59 29).toInt := neg32 (by omega)
      rw [if_pos d, i32_add (by rw [e]; omega) (by rw [e]; omega), e]; omega
    · rw [if_neg d, i32_add (by omega) (by omega)]; omega
theorem sQ_b (M : QSm t) (w : Int32) : ∀ k : Nat, k ≤ 60 → -10007 * (k : Int) ≤ (sQ t n w k).toInt ∧ (sQ t n w k).toInt ≤ 124 + 10007 * (k : Int)
  | 0, _ => by
    have j4 : (4 : Int32).toInt = 4 := rfl
    have := M.2.2 n
    show -10007 * ((0 : Nat) : Int) ≤ (4 * zI t 63 n).toInt ∧ (4 * zI t 63 n).toInt ≤ 124 + 10007 * ((0 : Nat) : Int)
    rw [i32_mul (by rw [j4]; omega) (by rw [j4]; omega), j4]
    omega
  | k + 1, h => by
    have a := sQ_b M w k (by omega)
    have b := stpL_b (n := n) M w (k + 1)
    show -10007 * ((k + 1 : Nat) : Int) ≤ (sQ t n w k + stpL t n w (k + 1)).toInt ∧ (sQ t n w k + stpL t n w (k + 1)).toInt ≤ 124 + 10007 * ((k + 1 : Nat) : Int)
    rw [i32_add (by omega) (by omega)]
    omega
theorem sQ_s (M : QSm t) (w : Int32) {k : Nat} (h : k ≤ 60) : -1000000 ≤ (sQ t n w k).toInt ∧ (sQ t n w k).toInt ≤ 1000000 := by
  have := sQ_b (n := n) M w k h
  omega
/-- where it can be, in columns -/
def cLo (t : SS) (n y : Nat) : Int := clp ((sQ t n 0 y).toInt / 4)
def cHi (t : SS) (n y : Nat) : Int := clp (-((-(sQ t n 1 y).toInt) / 4))
/-- the class's leans are these -/
theorem leaX (X : HX s p t n) (e15 : zS s 0 15 = zS t 59 29) {a : Int32} {y : Nat} (ha : a.toInt = y) (h1 : 1 ≤ y) (h2 : y ≤ 60) : f_X3_leastLean s p a (zS s 0 15) = some (stpL t n 0 y) ∧ f_X3_mostLean s p a (zS s 0 15) = some (stpL t n 1 y) := by
  have j60 : (60 : Int32).toInt = 60 := rfl
  obtain ⟨_, _, w3, w4⟩ := X.2.2.2.2.2.2.2.2 y h1 h2
  have ea : a.toInt.toNat = y := by omega
  refine ⟨?_, ?_⟩
  · unfold f_X3_leastLean
    rw [if_neg (by rw [jlt, jl1]; omega), if_neg (by rw [jlt, j60]; omega), gd_t ⟨by omega, by omega⟩, ea, w3]
    unfold stpL lgV
    by_cases c : zI t 72 (61 * n + y) = 0
    · rw [if_pos c, if_pos rfl, if_pos c, if_pos rfl]
    · rw [if_neg c, if_neg w4, gd_t ⟨by omega, by omega⟩, if_neg c, if_pos rfl, e15, Int32.sub_eq_add_neg]
  · unfold f_X3_mostLean
    rw [if_neg (by rw [jlt, jl1]; omega), if_neg (by rw [jlt, j60]; omega), gd_t ⟨by omega, by omega⟩, ea, w3]
    unfold stpL lgV
    by_cases c : zI t 72 (61 * n + y) = 0
    · rw [if_pos c, if_pos rfl, if_pos c, if_neg n10]
    · rw [if_neg c, if_neg w4, gd_t ⟨by omega, by omega⟩, if_neg c, if_neg n10, e15]
/-- the reference's sum -/
theorem canL {y1 y2 y3 : Int32} {Y : Nat} {q0 : Int32 → Option Int32} {R : Int32 → Prop} (h1 : y1.toInt = n) (hn : n < 120) (h2 : y2.toInt = Y) (hY : Y ≤ 60) (h3 : y3 = 0 ∨ y3 = 1) (hq : Pc (q0 (sQ t n y3 Y)) R) : ∀ (m k : Nat) (x4 x5 : Int32), x5.toInt = k + 1 → k ≤ Y → x4 = sQ t n y3 k → Pc (f_X12_canBeAt_L13 q0 t y1 y2 y3 m x4 x5) R
  | 0, _, _, _, _, _, _ => Pc_none
  | m + 1, k, x4, x5, hx, hk, e => by
    show Pc (f_X12_canBeAt_L13_b q0 t y1 y2 y3 (f_X12_canBeAt_L13 q0 t y1 y2 y3 m) x4 x5) R
    unfold f_X12_canBeAt_L13_b
    refine Pc_if (fun c => ?_) (fun c => Pc_vl (Pc_gd (fun _ => Pc_jn ?_)))
    · rw [jlt] at c
      rw [e, show k = Y by omega]
      exact hq
    · rw [jlt] at c
      have n1 : (x5 + 1).toInt = x5.toInt + 1 := by rw [i32_add (by rw [jl1]; omega) (by rw [jl1]; omega), jl1]
      have ei : ((61 : Int32) * y1 + x5).toInt.toNat = 61 * n + (k + 1) := by rw [ix61 h1 hn (by omega)]; omega
      have go : ∀ v, v = stpL t n y3 (k + 1) → Pc (vl ((x4 + v)) fun v7 => (vl (x5 + 1) fun v8 => (f_X12_canBeAt_L13 q0 t y1 y2 y3 m v7 v8))) R := fun v hv => Pc_vl (Pc_vl (canL h1 hn h2 hY h3 hq m (k + 1) _ _ (by omega) (by omega) (by rw [e, hv]; rfl)))
      rw [ei]
      refine Pc_if (fun z => Pc_if (fun w => go _ ?_) (fun w => go _ ?_)) (fun z => Pc_gd (fun _ => Pc_jn (Pc_if (fun w => go _ ?_) (fun w => go _ ?_))))
      · unfold stpL; rw [if_pos z, if_pos w]
      · unfold stpL; rw [if_pos z, if_neg w]
      · unfold stpL; rw [if_neg z, if_pos w]
      · unfold stpL; rw [if_neg z, if_neg w]
theorem canM (M : QSm t) {a0 a1 a2 : Int32} {Y : Nat} (h1 : a0.toInt = n) (hn : n < 120) (h2 : a1.toInt = Y) (hY : Y ≤ 60) (h3 : a2 = 0 ∨ a2 = 1) : Pc (f_X12_canBeAt t a0 a1 a2) (fun r => r.toInt = if a2 = 0 then cLo t n Y else cHi t n Y) := by
  unfold f_X12_canBeAt
  have en : a0.toInt.toNat = n := by omega
  rw [en]
  refine Pc_gd (fun _ => Pc_vl (canL h1 hn h2 hY h3 ?_ 4000 0 _ _ (by decide) (by omega) rfl))
  refine Pc_jn ?_
  rcases h3 with h3 | h3
  · rw [h3]
    obtain ⟨v, ev, hv⟩ := dn4 (sQ_s (n := n) M 0 hY)
    obtain ⟨r, er, hr⟩ := hldM v
    refine Pc_ift rfl ?_
    rw [ev, if_pos rfl]
    refine Pc_b1S ?_
    show Pc (b1 (f_X12_held v 0 31) fun r17 => some r17) _
    rw [er]
    refine Pc_b1S (Pc_some ?_)
    unfold cLo
    rw [hr, hv]
  · rw [h3]
    have hn1 := neg1 (sQ_s (n := n) M 1 hY)
    have b := sQ_s (n := n) M 1 hY
    obtain ⟨v, ev, hv⟩ := dn4 (x := -(sQ t n 1 Y)) (by rw [hn1]; omega)
    obtain ⟨r, er, hr⟩ := hldM (-v)
    refine Pc_iff n10 ?_
    rw [ev, if_neg n10]
    refine Pc_b1S ?_
    show Pc (b1 (f_X12_held (-v) 0 31) fun r17 => some r17) _
    rw [er]
    refine Pc_b1S (Pc_some ?_)
    unfold cHi
    rw [hr, neg32 (by rw [hv, hn1]; omega), hv, hn1]
/-- the class's sum -/
theorem canX {y2 y3 : Int32} {Y : Nat} {q0 : Int32 → Option Int32} {R : Int32 → Prop} (X : HX s p t n) (e15 : zS s 0 15 = zS t 59 29) (h2 : y2.toInt = Y) (hY : Y ≤ 60) (h3 : y3 = 0 ∨ y3 = 1) (hq : Pc (q0 (sQ t n y3 Y)) R) : ∀ (m k : Nat) (x5 x6 : Int32), x6.toInt = k + 1 → k ≤ Y → x5 = sQ t n y3 k → Pc (f_X11_canBe_L52 q0 s y2 y3 p m x5 x6) R
  | 0, _, _, _, _, _, _ => Pc_none
  | m + 1, k, x5, x6, hx, hk, e => by
    show Pc (f_X11_canBe_L52_b q0 s y2 y3 p (f_X11_canBe_L52 q0 s y2 y3 p m) x5 x6) R
    unfold f_X11_canBe_L52_b
    refine Pc_if (fun c => ?_) (fun c => Pc_jn ?_)
    · rw [jlt] at c
      rw [e, show k = Y by omega]
      exact hq
    · rw [jlt] at c
      have n1 : (x6 + 1).toInt = x6.toInt + 1 := by rw [i32_add (by rw [jl1]; omega) (by rw [jl1]; omega), jl1]
      obtain ⟨l1, l2⟩ := leaX (a := x6) (y := k + 1) X e15 (by omega) (by omega) (by omega)
      have go : ∀ v, v = stpL t n y3 (k + 1) → Pc (vl ((x5 + v)) fun v10 => (vl (x6 + 1) fun v11 => (f_X11_canBe_L52 q0 s y2 y3 p m v10 v11))) R := fun v hv => Pc_vl (Pc_vl (canX X e15 h2 hY h3 hq m (k + 1) _ _ (by omega) (by omega) (by rw [e, hv]; rfl)))
      rw [l1, l2]
      rcases h3 with w | w
      · exact Pc_ift w (Pc_b1S (go _ (by rw [w])))
      · exact Pc_iff (by rw [w]; decide) (Pc_b1S (go _ (by rw [w])))
theorem V_canBe (B : B1 s t) (Q : Q4 s t) (M : QSm t) (a0 a1 a2 : Int32) : Pc (f_X11_canBe s a0 a1 a2) fun x => Pc (f_X12_canBe t a0 a1 a2) fun m => x = m := by
  have e15 : zS s 0 15 = zS t 59 29 := B.1.1.2.2.2.2
  unfold f_X11_canBe f_X12_canBe
  rw [holeOfX B, isHoleO B]
  rcases hsp B a0 with c | ⟨n, p, ha, hn, hp, ho, hl⟩
  · rw [c, if_pos rfl]
    exact Pc_b1S (Pc_onN (Pc_some (Pc_b1S (Pc_if00 (Pc_some rfl)))))
  · rw [ho, if_neg snn]
    have X := Q.1.1 n p hn hp
    obtain ⟨x0, x1, x2, x3, x4, x5, x6, x7, x8⟩ := id X
    have en : a0.toInt.toNat = n := by omega
    have b4 := B.1.h4 (B.1.sh.2.2.1 _ _ hn hp)
    rw [en, ← x4]
    refine Pc_b1S (Pc_onS ?_)
    by_cases c : 1 ≤ a1.toInt ∧ a1.toInt ≤ (zS s p 4).toInt
    · rw [in_t (a := a1) (by rw [jl1]; exact c)]
      refine Pc_iff (by rw [jlt, jl1]; omega) (Pc_iff (by rw [jlt]; omega) ?_)
      by_cases d : 0 ≤ a2.toInt ∧ a2.toInt ≤ 1
      · rw [in_t (a := a2) (by rw [jl0, jl1]; exact d)]
        have h01 : a2 = 0 ∨ a2 = 1 := by
          have : a2.toInt = 0 ∨ a2.toInt = 1 := by omega
          exact this.imp (fun z => Int32.toInt_inj.1 (by rw [z, jl0])) (fun z => Int32.toInt_inj.1 (by rw [z, jl1]))
        obtain ⟨Y, hY⟩ : ∃ Y : Nat, a1.toInt = Y := ⟨_, (Int.toNat_of_nonneg (by omega)).symm⟩
        have HM := canM (a0 := a0) (a1 := a1) (a2 := a2) M ha hn hY (by omega) h01
        refine Pc_iff (by rw [jlt, jl0]; omega) (Pc_iff (by rw [jlt, jl1]; omega) (Pc_vl ?_))
        refine canX X e15 hY (by omega) h01 ?_ 4000 0 _ _ (by decide) (by omega) (by rw [x0]; rfl)
        have MD : ∀ v : Int32, v.toInt = (if a2 = 0 then cLo t n Y else cHi t n Y) → Pc (b1 (some (1 : Int32)) fun r1 => (if r1 = (0 : Int32) then some (-1) else (gd (inB a0 120) (b1 (some (1 : Int32)) fun r4 => (if r4 = (0 : Int32) then some (-1) else (b1 (some (1 : Int32)) fun r6 => (if r6 = (0 : Int32) then some (-1) else (jn (fun (t8_0 : Int32) => (b1 (f_X12_canBeAt t a0 a1 t8_0) fun r10 => some r10)) fun k8 => (if a2 = (1 : Int32) then (k8 1) else (k8 0)))))))))) (fun m => v = m) := by
          intro v hv
          refine Pc_b1S (Pc_if10 (Pc_gd (fun _ => Pc_b1S (Pc_if10 (Pc_b1S (Pc_if10 (Pc_jn ?_)))))))
          rcases h01 with w | w
          · subst w
            exact Pc_iff (by decide) (Pc_b1 (Pc.mono HM (fun r hr => Pc_some (Int32.toInt_inj.1 (hv.trans hr.symm)))))
          · subst w
            exact Pc_ift rfl (Pc_b1 (Pc.mono HM (fun r hr => Pc_some (Int32.toInt_inj.1 (hv.trans hr.symm)))))
        rcases h01 with w | w
        · obtain ⟨v, ev, hv⟩ := cutD (sQ_s (n := n) (k := Y) M 0 (by omega))
          subst w
          refine Pc_ift rfl ?_
          rw [ev]
          exact Pc_b1S (Pc_some (MD v (by rw [hv, if_pos rfl]; rfl)))
        · obtain ⟨v, ev, hv⟩ := cutU (sQ_s (n := n) (k := Y) M 1 (by omega))
          subst w
          refine Pc_iff n10 ?_
          rw [ev]
          exact Pc_b1S (Pc_some (MD v (by rw [hv, if_neg n10]; rfl)))
      · rw [in_f (a := a2) (by rw [jl0, jl1]; exact d)]
        refine Pc_lt (fun _ => Pc_some (Pc_b1S (Pc_if10 (Pc_gd (fun _ => Pc_b1S (Pc_if10 (Pc_b1S (Pc_if00 (Pc_some rfl))))))))) (fun z => Pc_lt (fun _ => Pc_some (Pc_b1S (Pc_if10 (Pc_gd (fun _ => Pc_b1S (Pc_if10 (Pc_b1S (Pc_if00 (Pc_some rfl))))))))) (fun w => ?_))
        rw [jl0] at z
        rw [jl1] at w
        exact absurd ⟨z, w⟩ d
    · rw [in_f (a := a1) (by rw [jl1]; exact c)]
      refine Pc_lt (fun _ => Pc_some (Pc_b1S (Pc_if10 (Pc_gd (fun _ => Pc_b1S (Pc_if00 (Pc_some rfl))))))) (fun z => Pc_lt (fun _ => Pc_some (Pc_b1S (Pc_if10 (Pc_gd (fun _ => Pc_b1S (Pc_if00 (Pc_some rfl))))))) (fun w => ?_))
      rw [jl1] at z
      exact absurd ⟨z, w⟩ c
end CBs
/-! WRONG MAPS -/
section WRs
variable {s t : SS} {n p i : Nat}
/-- the shelter by a map -/
def sheB (t : SS) (i : Nat) (x y : Int) : Prop := y = (zI t 83 i).toInt ∧ (zI t 81 i).toInt ≤ x ∧ x ≤ (zI t 82 i).toInt
/-- a cell that is unlike what was met -/
def cnd (t : SS) (i : Nat) (f : Int32) (y x : Int) : Prop := if f = 0 then inL t i (100 * x + y) ∨ sheB t i x y else if f = 1 then ¬ inL t i (100 * x + y) else ¬ sheB t i x y
theorem shM {a0 a1 a2 : Int32} (h0 : a0.toInt = i) : Pc (f_X12_isShelterBy t a0 a1 a2) (fun r => (r = 1 ∧ sheB t i a1.toInt a2.toInt) ∨ (r = 0 ∧ ¬ sheB t i a1.toInt a2.toInt)) := by
  have e0 : a0.toInt.toNat = i := by omega
  unfold f_X12_isShelterBy
  rw [e0]
  refine Pc_gd (fun _ => Pc_if (fun z => Pc_gd (fun _ => Pc_gd (fun _ => ?_))) (fun z => Pc_some (Or.inr ⟨rfl, fun w => z (Int32.toInt_inj.1 w.1)⟩)))
  by_cases c : (zI t 81 i).toInt ≤ a1.toInt ∧ a1.toInt ≤ (zI t 82 i).toInt
  · rw [in_t c]
    exact Pc_b1S (Pc_if10 (Pc_some (Or.inl ⟨rfl, by rw [z], c.1, c.2⟩)))
  · rw [in_f c]
    exact Pc_b1S (Pc_if00 (Pc_some (Or.inr ⟨rfl, fun w => c w.2⟩)))
/-- the reference, column by column -/
theorem unlL {y1 y2 y3 y4 : Int32} {Y : Nat} (M : QSm t) (h1 : y1.toInt = i) (hi : i < 8) (h84 : (zI t 84 i).toInt ≤ 40) (h2 : y2.toInt = n) (hn : n < 120) (h3 : y3.toInt = Y) (hY : Y ≤ 60) (lo : Int) : ∀ (m : Nat) (x5 : Int32), 0 ≤ x5.toInt → x5.toInt ≤ 32 → lo ≤ x5.toInt → (∀ x : Int, lo ≤ x → x < x5.toInt → cnd t i y4 Y x) → Pc (f_X12_isUnlike_L22 t y1 y2 y3 y4 m x5) (fun r => (r = 1 ∧ ∀ x : Int, lo ≤ x → x ≤ cHi t n Y → cnd t i y4 Y x) ∨ (r = 0 ∧ ∃ x : Int, lo ≤ x ∧ x ≤ cHi t n Y ∧ ¬ cnd t i y4 Y x))
  | 0, _, _, _, _, _ => Pc_none
  | m + 1, x5, a0, a1, a2, ha => by
    show Pc (f_X12_isUnlike_L22_b t y1 y2 y3 y4 (f_X12_isUnlike_L22 t y1 y2 y3 y4 m) x5) _
    unfold f_X12_isUnlike_L22_b
    have j100 : (100 : Int32).toInt = 100 := rfl
    have cb := clp_b (-((-(sQ t n 1 Y).toInt) / 4))
    refine Pc_b1 (Pc.mono (canM M h2 hn h3 hY (Or.inr rfl)) (fun r5 hr5 => ?_))
    rw [if_neg n10] at hr5
    refine Pc_if (fun c => Pc_some (Or.inl ⟨rfl, fun x x1 x2 => ha x x1 ?_⟩)) (fun c => ?_)
    · rw [jlt, hr5] at c
      omega
    rw [jlt, hr5] at c
    have x31 : x5.toInt ≤ 31 := by
      unfold cHi at c
      omega
    have e1 : ((100 : Int32) * x5).toInt = 100 * x5.toInt := by rw [i32_mul (by rw [j100]; omega) (by rw [j100]; omega), j100]
    have e2 : ((100 : Int32) * x5 + y3).toInt = 100 * x5.toInt + Y := by rw [i32_add (by rw [e1]; omega) (by rw [e1]; omega), e1, h3]
    have n1 : (x5 + 1).toInt = x5.toInt + 1 := by rw [i32_add (by rw [jl1]; omega) (by rw [jl1]; omega), jl1]
    refine Pc_b1 (Pc.mono (oldM (y2 := (100 : Int32) * x5 + y3) h1 hi h84) (fun r7 h7 => Pc_b1 (Pc.mono (shM (a1 := x5) (a2 := y3) h1) (fun r8 h8 => Pc_jn ?_))))
    rw [e2] at h7
    rw [h3] at h8
    -- on, where it tells against; else out
    have on1 : cnd t i y4 Y x5.toInt → Pc (if (1 : Int32) = (0 : Int32) then some 0 else (vl (x5 + 1) fun v12 => (f_X12_isUnlike_L22 t y1 y2 y3 y4 m v12))) (fun r => (r = 1 ∧ ∀ x : Int, lo ≤ x → x ≤ cHi t n Y → cnd t i y4 Y x) ∨ (r = 0 ∧ ∃ x : Int, lo ≤ x ∧ x ≤ cHi t n Y ∧ ¬ cnd t i y4 Y x)) := fun hc => Pc_if10 (Pc_vl (unlL M h1 hi h84 h2 hn h3 hY lo m (x5 + 1) (by omega) (by omega) (by omega) (fun x x1 x2 => by
      by_cases z : x = x5.toInt
      · rw [z]; exact hc
      · exact ha x x1 (by omega))))
    have off : ¬ cnd t i y4 Y x5.toInt → Pc (if (0 : Int32) = (0 : Int32) then some 0 else (vl (x5 + 1) fun v12 => (f_X12_isUnlike_L22 t y1 y2 y3 y4 m v12))) (fun r => (r = 1 ∧ ∀ x : Int, lo ≤ x → x ≤ cHi t n Y → cnd t i y4 Y x) ∨ (r = 0 ∧ ∃ x : Int, lo ≤ x ∧ x ≤ cHi t n Y ∧ ¬ cnd t i y4 Y x)) := fun hc => Pc_if00 (Pc_some (Or.inr ⟨rfl, x5.toInt, a2, Int.not_lt.mp c, hc⟩))
    unfold cnd at on1 off
    by_cases f0 : y4 = 0
    · rw [if_pos f0] at on1 off
      refine Pc_ift f0 (Pc_jn ?_)
      rcases h7 with ⟨e7, w7⟩ | ⟨e7, w7⟩
      · rw [e7]
        exact Pc_iff n10 (on1 (Or.inl w7))
      · rw [e7]
        refine Pc_ift rfl ?_
        rcases h8 with ⟨e8, w8⟩ | ⟨e8, w8⟩
        · rw [e8]
          exact Pc_iff n10 (on1 (Or.inr w8))
        · rw [e8]
          exact Pc_ift rfl (off (fun z => z.elim w7 w8))
    · rw [if_neg f0] at on1 off
      refine Pc_iff f0 ?_
      by_cases f1 : y4 = 1
      · rw [if_pos f1] at on1 off
        refine Pc_ift f1 ?_
        rcases h7 with ⟨e7, w7⟩ | ⟨e7, w7⟩
        · rw [e7]
          exact Pc_iff n10 (off (fun z => z w7))
        · rw [e7]
          exact Pc_ift rfl (on1 w7)
      · rw [if_neg f1] at on1 off
        refine Pc_iff f1 ?_
        rcases h8 with ⟨e8, w8⟩ | ⟨e8, w8⟩
        · rw [e8]
          exact Pc_iff n10 (off (fun z => z w8))
        · rw [e8]
          exact Pc_ift rfl (on1 w8)
/-- all cells where it can be are unlike -/
def Unl (t : SS) (i n y : Nat) : Prop := ∀ x : Int, cLo t n y ≤ x → x ≤ cHi t n y → cnd t i (zI t 71 (61 * n + y)) y x
theorem unlM {a0 a1 a2 : Int32} {Y : Nat} (M : QSm t) (h1 : a0.toInt = i) (hi : i < 8) (h84 : (zI t 84 i).toInt ≤ 40) (h2 : a1.toInt = n) (hn : n < 120) (h3 : a2.toInt = Y) (hY : Y ≤ 60) : Pc (f_X12_isUnlike t a0 a1 a2) (fun r => (r = 1 ∧ Unl t i n Y) ∨ (r = 0 ∧ ¬ Unl t i n Y)) := by
  unfold f_X12_isUnlike
  have e : ((61 : Int32) * a1 + a2).toInt.toNat = 61 * n + Y := by rw [ix61 h2 hn (by omega)]; omega
  have cb := clp_b ((sQ t n 0 Y).toInt / 4)
  refine Pc_vl (Pc_gd (fun _ => ?_))
  rw [e]
  refine Pc_vl (Pc_b1 (Pc.mono (canM M h2 hn h3 hY (Or.inl rfl)) (fun r4 h4 => ?_)))
  rw [if_pos rfl] at h4
  have b4 : 0 ≤ r4.toInt ∧ r4.toInt ≤ 31 := by
    rw [h4]
    exact cb
  refine Pc.mono (unlL M h1 hi h84 h2 hn h3 hY (cLo t n Y) 4000 r4 (by omega) (by omega) (by omega) (fun x x1 x2 => by omega)) (fun r hr => ?_)
  rcases hr with ⟨e1, w⟩ | ⟨e1, x, x1, x2, x3⟩
  · exact Or.inl ⟨e1, w⟩
  · exact Or.inr ⟨e1, fun z => x3 (z x x1 x2)⟩
/-- bits that both have -/
theorem and0 {v m : Int32} : (v &&& m) = 0 ↔ ∀ k, k < 32 → m.toBitVec.getLsbD k = true → ¬ v.toBitVec.getLsbD k = true := and0_b (fun k => m.toBitVec.getLsbD k = true) (fun _ _ => Iff.rfl)
/-- the class, by bits -/
theorem unlX {a0 a1 a2 a3 : Int32} {Y : Nat} {lo hi : Int} (X : MX s p t i) (h0 : a0.toInt = Y) (hY : 1 ≤ Y ∧ Y ≤ 60) (h1 : a1.toInt = lo) (h2 : a2.toInt = hi) (bl : 0 ≤ lo ∧ lo ≤ 31) (bh : 0 ≤ hi ∧ hi ≤ 31) : Pc (f_X1_isUnlike s p a0 a1 a2 a3) (fun r => (r = 1 ∧ ∀ x : Int, lo ≤ x → x ≤ hi → cnd t i a3 Y x) ∨ (r = 0 ∧ ¬ ∀ x : Int, lo ≤ x → x ≤ hi → cnd t i a3 Y x)) := by
  obtain ⟨x0, x1, x2, x4, xr, yr, xb⟩ := X
  obtain ⟨r1, e1⟩ := bits_ex a1 a2
  have hb1 := bits_b (a := a1) (b := a2) (by omega) (by omega) e1
  rw [h1, h2] at hb1
  have e0 : a0.toInt.toNat = Y := by omega
  unfold f_X1_isUnlike
  rw [e1, yard_t (by omega), e0]
  -- with the shelter's bits
  have fin : ∀ t4 : Int32, (∀ k, k < 32 → (t4.toBitVec.getLsbD k = true ↔ sheB t i (k : Int) Y)) → Pc (if a3 = 0 then (if (r1 &&& ((zI s (p + 1) Y ||| t4) ^^^ ((-1) : Int32))) = (0 : Int32) then some (1 : Int32) else some 0) else (if a3 = 1 then (if (r1 &&& zI s (p + 1) Y) = (0 : Int32) then some (1 : Int32) else some 0) else (if (r1 &&& t4) = (0 : Int32) then some (1 : Int32) else some 0))) (fun r => (r = 1 ∧ ∀ x : Int, lo ≤ x → x ≤ hi → cnd t i a3 Y x) ∨ (r = 0 ∧ ¬ ∀ x : Int, lo ≤ x → x ≤ hi → cnd t i a3 Y x)) := by
    intro t4 ht
    -- a mask of what does not tell
    have go : ∀ m : Int32, (∀ k : Nat, k < 32 → (m.toBitVec.getLsbD k = true ↔ ¬ cnd t i a3 Y k)) → Pc (if (r1 &&& m) = (0 : Int32) then some (1 : Int32) else some 0) (fun r => (r = 1 ∧ ∀ x : Int, lo ≤ x → x ≤ hi → cnd t i a3 Y x) ∨ (r = 0 ∧ ¬ ∀ x : Int, lo ≤ x → x ≤ hi → cnd t i a3 Y x)) := by
      intro m hm
      refine Pc_if (fun z => Pc_some (Or.inl ⟨rfl, fun x w1 w2 => ?_⟩)) (fun z => Pc_some (Or.inr ⟨rfl, fun w => z (and0.mpr (fun k hk mk rk => ?_))⟩))
      · have hx : x.toNat < 32 := by omega
        have ex : ((x.toNat : Nat) : Int) = x := by omega
        have := and0.mp z x.toNat hx
        rw [hm _ hx, ex, hb1 _ hx, ex] at this
        exact Classical.byContradiction (fun nc => this nc ⟨w1, w2⟩)
      · rw [hm k hk] at mk
        rw [hb1 k hk] at rk
        exact mk (w k rk.1 rk.2)
    have bt : ∀ k : Nat, k < 32 → ((zI s (p + 1) Y).toBitVec.getLsbD k = true ↔ inL t i (100 * (k : Int) + Y)) := fun k hk => xb k Y hk hY.1 hY.2
    refine Pc_if (fun z => go _ (fun k hk => ?_)) (fun z => Pc_if (fun w => go _ (fun k hk => ?_)) (fun w => go _ (fun k hk => ?_)))
    · unfold cnd
      rw [if_pos z, Int32.toBitVec_xor, BitVec.getLsbD_xor, Int32.toBitVec_or, BitVec.getLsbD_or]
      have en : (-1 : Int32).toBitVec = BitVec.allOnes 32 := by decide
      rw [en, BitVec.getLsbD_allOnes, decide_eq_true hk, ← bt k hk, ← ht k hk]
      cases (zI s (p + 1) Y).toBitVec.getLsbD k <;> cases t4.toBitVec.getLsbD k <;> decide
    · unfold cnd
      rw [if_neg z, if_pos w, bt k hk]
      exact ⟨fun h nh => nh h, fun h => Classical.byContradiction h⟩
    · unfold cnd
      rw [if_neg z, if_neg w, ht k hk]
      exact ⟨fun h nh => nh h, fun h => Classical.byContradiction h⟩
  refine Pc_b1S (Pc_b1S (Pc_jn (Pc_if10 (Pc_gd (fun _ => Pc_jn ?_)))))
  refine Pc_if (fun z => ?_) (fun z => fin 0 (fun k hk => ?_))
  · obtain ⟨r12, e12⟩ := bits_ex (zS s p 0) (zS s p 1)
    have hb2 := bits_b (a := zS s p 0) (b := zS s p 1) (by omega) (by omega) e12
    rw [e12]
    refine Pc_b1S (fin r12 (fun k hk => ?_))
    rw [hb2 k hk]
    unfold sheB
    rw [← x0, ← x1, ← x2, ← z, h0]
    exact ⟨fun h => ⟨rfl, h⟩, fun h => h.2⟩
  · have z0 : (0 : Int32).toBitVec = 0#32 := rfl
    rw [z0, BitVec.getLsbD_zero]
    refine ⟨fun h => (by cases h), fun h => absurd (Int32.toInt_inj.1 ?_) z⟩
    rw [h0, x2]
    exact h.1
/-- the first yard that is unlike, or none (0) -/
def frsU (t : SS) (i n : Nat) (bo : Int) (r : Int32) : Prop := (r = 0 ∧ ∀ y : Nat, 1 ≤ y → (y : Int) ≤ bo → ¬ Unl t i n y) ∨ ∃ y : Nat, 1 ≤ y ∧ (y : Int) ≤ bo ∧ r.toInt = y ∧ Unl t i n y ∧ ∀ z : Nat, 1 ≤ z → z < y → ¬ Unl t i n z
theorem fuyL {p2 : Nat} (M : QSm t) (X : MX s p t i) (H : HX s p2 t n) (e15 : zS s 0 15 = zS t 59 29) (hb : 0 ≤ (zS s p2 4).toInt ∧ (zS s p2 4).toInt ≤ 60) : ∀ (m k : Nat) (x3 x4 x5 : Int32), x5.toInt = k + 1 → (k : Int) ≤ (zS s p2 4).toInt → x3 = sQ t n 0 k → x4 = sQ t n 1 k → (∀ y : Nat, 1 ≤ y → y ≤ k → ¬ Unl t i n y) → Pc (f_X11_firstUnlikeYard_L13 s p p2 m x3 x4 x5) (frsU t i n (zS s p2 4).toInt)
  | 0, _, _, _, _, _, _, _, _, _ => Pc_none
  | m + 1, k, x3, x4, x5, h5, hk, h3, h4, hu => by
    show Pc (f_X11_firstUnlikeYard_L13_b s p p2 (f_X11_firstUnlikeYard_L13 s p p2 m) x3 x4 x5) _
    unfold f_X11_firstUnlikeYard_L13_b
    refine Pc_if (fun c => Pc_some (Or.inl ⟨rfl, fun y y1 y2 => hu y y1 ?_⟩)) (fun c => ?_)
    · rw [jlt] at c
      omega
    rw [jlt] at c
    have k60 : k + 1 ≤ 60 := by omega
    obtain ⟨l1, l2⟩ := leaX (a := x5) (y := k + 1) H e15 (by omega) (by omega) k60
    have n1 : (x5 + 1).toInt = x5.toInt + 1 := by rw [i32_add (by rw [jl1]; omega) (by rw [jl1]; omega), jl1]
    rw [l1, l2]
    have q3 : x3 + stpL t n 0 (k + 1) = sQ t n 0 (k + 1) := by rw [h3]; rfl
    have q4 : x4 + stpL t n 1 (k + 1) = sQ t n 1 (k + 1) := by rw [h4]; rfl
    obtain ⟨v7, e7, w7⟩ := cutD (sQ_s (n := n) M 0 k60)
    obtain ⟨v8, e8, w8⟩ := cutU (sQ_s (n := n) M 1 k60)
    refine Pc_b1S (Pc_vl (Pc_b1S (Pc_vl ?_)))
    rw [q3, q4, e7, e8]
    refine Pc_b1S (Pc_b1S (Pc_gd (fun _ => ?_)))
    have e5 : x5.toInt.toNat = k + 1 := by omega
    have f5 := (H.2.2.2.2.2.2.2.2 (k + 1) (by omega) k60).2.1
    rw [e5, f5]
    refine Pc_b1 (Pc.mono (unlX (a3 := zI t 71 (61 * n + (k + 1))) (Y := k + 1) X (by omega) ⟨by omega, k60⟩ w7 w8 (clp_b _) (clp_b _)) (fun r hr => ?_))
    rcases hr with ⟨er, w⟩ | ⟨er, w⟩
    · rw [er]
      refine Pc_if10 (Pc_some (Or.inr ⟨k + 1, by omega, by omega, by omega, w, fun z z1 z2 => hu z z1 (by omega)⟩))
    · rw [er]
      refine Pc_if00 (Pc_vl (fuyL M X H e15 hb m (k + 1) _ _ _ (by omega) (by omega) rfl rfl (fun y y1 y2 => ?_)))
      by_cases z : y = k + 1
      · rw [z]; exact w
      · exact hu y y1 (by omega)
/-- the reference, yard by yard -/
theorem wyL {y1 y2 r : Int32} {q0 : Option Int32} {R : Int32 → Prop} (M : QSm t) (h1 : y1.toInt = i) (hi : i < 8) (h84 : (zI t 84 i).toInt ≤ 40) (h2 : y2.toInt = n) (hn : n < 120) (hb : 0 ≤ (zI t 67 n).toInt ∧ (zI t 67 n).toInt ≤ 60) (F : frsU t i n (zI t 67 n).toInt r) (hq : r = 0 → Pc q0 R) (hr : 1 ≤ r.toInt → R (100 * y2 + r)) : ∀ (m k : Nat) (x3 : Int32), x3.toInt = k + 1 → (k : Int) ≤ (zI t 67 n).toInt → (∀ y : Nat, 1 ≤ y → y ≤ k → ¬ Unl t i n y) → Pc (f_X12_wrongBy_L23 q0 t y1 y2 m x3) R
  | 0, _, _, _, _, _ => Pc_none
  | m + 1, k, x3, h3, hk, hu => by
    show Pc (f_X12_wrongBy_L23_b q0 t y1 y2 (f_X12_wrongBy_L23 q0 t y1 y2 m) x3) R
    unfold f_X12_wrongBy_L23_b
    have e2 : y2.toInt.toNat = n := by omega
    have n1 : (x3 + 1).toInt = x3.toInt + 1 := by rw [i32_add (by rw [jl1]; omega) (by rw [jl1]; omega), jl1]
    rw [e2]
    refine Pc_gd (fun _ => Pc_if (fun c => ?_) (fun c => ?_))
    · rw [jlt] at c
      rcases F with ⟨f1, f2⟩ | ⟨y, f1, f2, f3, f4, f5⟩
      · exact hq f1
      · exact absurd f4 (hu y f1 (by omega))
    · rw [jlt] at c
      refine Pc_b1 (Pc.mono (unlM (a2 := x3) (Y := k + 1) M h1 hi h84 h2 hn (by omega) (by omega)) (fun r8 h8 => ?_))
      rcases h8 with ⟨e8, w⟩ | ⟨e8, w⟩
      · rw [e8]
        refine Pc_iff n10 (Pc_some ?_)
        rcases F with ⟨f1, f2⟩ | ⟨y, f1, f2, f3, f4, f5⟩
        · exact absurd w (f2 (k + 1) (by omega) (by omega))
        · have ey : y = k + 1 := by
            by_cases z : y < k + 1
            · exact absurd f4 (hu y f1 (by omega))
            · by_cases z2 : k + 1 < y
              · exact absurd w (f5 (k + 1) (by omega) z2)
              · omega
          have : x3 = r := Int32.toInt_inj.1 (by omega)
          rw [this]
          exact hr (by omega)
      · rw [e8]
        refine Pc_ift rfl (Pc_vl (wyL M h1 hi h84 h2 hn hb F hq hr m (k + 1) _ (by omega) (by omega) (fun y y1 y2 => ?_)))
        by_cases z : y = k + 1
        · rw [z]; exact w
        · exact hu y y1 (by omega)
/-- hole by hole -/
theorem fu_l {a0 : Int32} (J : Iv t) (M : QSm t) (B : B1 s t) (Q : Q4 s t) (X : MX s p t i) (h1 : a0.toInt = i) (hi : i < 8) : ∀ (n m : Nat) (x : Int32), 0 ≤ x.toInt → Pc (f_X11_firstUnlike_L2 s p n x) (fun r => Pc (f_X12_wrongBy_L2 t a0 m x) (fun r' => r' = r))
  | 0, _, _, _ => Pc_none
  | n + 1, 0, _, _ => fun _ _ => Pc_none
  | n + 1, m + 1, x, h0 => by
    obtain ⟨b1, b2, b3⟩ := B.1.tot
    have e15 : zS s 0 15 = zS t 59 29 := B.1.1.2.2.2.2
    have h84 : (zI t 84 i).toInt ≤ 40 := (J.1.a (q := 84) rfl : 0 ≤ (zI t 84 i).toInt ∧ (zI t 84 i).toInt ≤ 40).2
    show Pc (f_X11_firstUnlike_L2_b s p (f_X11_firstUnlike_L2 s p n) x) (fun r => Pc (f_X12_wrongBy_L2_b t a0 (f_X12_wrongBy_L2 t a0 m) x) (fun r' => r' = r))
    unfold f_X11_firstUnlike_L2_b f_X12_wrongBy_L2_b
    rw [← b1, holeOfX B, isHoleO B]
    refine Pc_if (fun c => Pc_b1S ?_) (fun c => Pc_some (Pc_iff c (Pc_some rfl)))
    have c' := c
    rw [jlt] at c'
    have n1 : (x + 1).toInt = x.toInt + 1 := by rw [i32_add (by rw [jl1]; omega) (by rw [jl1]; omega), jl1]
    have ih := fu_l (a0 := a0) J M B Q X h1 hi n m (x + 1) (by omega)
    rcases hsp B x with ho | ⟨k, q, hx, hk, hq, ho, _⟩
    · rw [ho, if_pos rfl]
      exact Pc_onN (Pc_vl (Pc.mono ih (fun r hr => Pc_ift c (Pc_b1S (Pc_jn (Pc_if00 (Pc_vl hr)))))))
    · rw [ho, if_neg snn]
      have H := Q.1.1 k q hk hq
      have hb := B.1.h4 (B.1.sh.2.2.1 _ _ hk hq)
      have e4 : zS s q 4 = zI t 67 k := H.2.2.2.2.1
      refine Pc_onS (Pc_b1 ?_)
      unfold f_X11_firstUnlikeYard
      refine Pc_vl (Pc.mono (fuyL M X H e15 hb 4000 0 _ _ 1 (by decide) hb.1 (by rw [H.1]; rfl) (by rw [H.1]; rfl) (fun y y1 y2 => by omega)) (fun r4 F => ?_))
      rw [e4] at F hb
      refine Pc_lt (fun z => Pc_some ?_) (fun z => Pc_vl (Pc.mono ih (fun r hr => ?_)))
      · rw [jl0] at z
        refine Pc_ift c (Pc_b1S (Pc_jn (Pc_if10 ?_)))
        exact wyL (R := fun r' => r' = 100 * x + r4) M h1 hi h84 hx hk hb F (fun w => by rw [w, jl0] at z; omega) (fun _ => rfl) 4000 0 1 (by decide) hb.1 (fun y y1 y2 => by omega)
      · rw [jl0] at z
        refine Pc_ift c (Pc_b1S (Pc_jn (Pc_if10 ?_)))
        refine wyL M h1 hi h84 hx hk hb F (fun _ => Pc_vl hr) (fun w => by omega) 4000 0 1 (by decide) hb.1 (fun y y1 y2 => by omega)
theorem V_wrong (J : Iv t) (M : QSm t) (B : B1 s t) (Q : Q4 s t) (a0 : Int32) : Pc (f_X11_wrong s a0) fun x => Pc (f_X12_wrong t a0) fun m => x = m := by
  have b5 : zS s 0 5 = zS t 59 30 := B.1.1.2.2.1
  have r5 : 0 ≤ (zS s 0 5).toInt ∧ (zS s 0 5).toInt ≤ 8 := B.1.fx (q := 0) (k := 5) (by omega)
  have e5 : (zS t 59 30 - 1).toInt = (zS s 0 5).toInt - 1 := by rw [← b5, i32_sub (by rw [jl1]; omega) (by rw [jl1]; omega), jl1]
  unfold f_X11_wrong f_X12_wrong f_X11_chartOf
  by_cases d : 0 ≤ a0.toInt ∧ a0.toInt < (zS s 0 5).toInt
  · obtain ⟨i, ei⟩ : ∃ i, i = a0.toInt.toNat := ⟨_, rfl⟩
    have hi : i < 8 := by omega
    have ha : a0.toInt = i := by omega
    obtain ⟨p, hp, X⟩ := Q.2.2.2.2.2.2.2.2.2.1.1 i hi (by omega)
    rw [in_t (a := a0) (by rw [jl0, e5]; omega), ← ei, hp]
    refine Pc_b1 (Pc_iff (by rw [jlt, jl0]; omega) (Pc_ift (by rw [jlt]; exact d.2) (Pc_gd (fun _ => Pc_onS (Pc_some (Pc_onS (Pc_b1 ?_)))))))
    unfold f_X11_firstUnlike f_X12_wrongBy
    exact Pc.mono (fu_l J M B Q X ha hi 4000 4000 0 (by decide)) (fun r hr => Pc_some (Pc_b1S (Pc_if10 (Pc_b1 (Pc.mono hr (fun r' e => Pc_some e.symm))))))
  · rw [in_f (a := a0) (by rw [jl0, e5]; omega)]
    have M' : ∀ K : Option Int32, Pc (b1 (some (0 : Int32)) fun r1 => (if r1 = (0 : Int32) then some (-1) else K)) (fun m => (-1 : Int32) = m) := fun K => Pc_b1S (Pc_if00 (Pc_some rfl))
    refine Pc_b1 (Pc_lt (fun _ => Pc_some (Pc_onN (Pc_some (M' _)))) (fun z => Pc_lt (fun w => ?_) (fun _ => Pc_some (Pc_onN (Pc_some (M' _))))))
    rw [jl0] at z
    exact absurd ⟨z, w⟩ d
end WRs
/-! THE SHELTER BY MAPS; ACTS -/
theorem Pc_jif {ρ : Type} {Q : ρ → Prop} {K : Int32 → Option ρ} {c g : Prop} {i : Decidable c} {j : Decidable g} {A B : Int32} (h : Pc (K (if c then A else B)) Q) : Pc (jn K fun k => @ite _ c i (@gd ρ g j (k A)) (k B)) Q := by
  by_cases hc : c
  · rw [if_pos hc] at h
    exact Pc_jn (Pc_ift hc (Pc_gd (fun _ => h)))
  · rw [if_neg hc] at h
    exact Pc_jn (Pc_iff hc h)
theorem mnI {a b : Int32} : (if b < a then b else a).toInt = (if b.toInt < a.toInt then b.toInt else a.toInt) := by
  by_cases c : b < a
  · rw [if_pos c]
    rw [jlt] at c
    rw [if_pos c]
  · rw [if_neg c]
    rw [jlt] at c
    rw [if_neg c]
/-- what is asked for, of the six that the reference holds -/
def sel (a m2 m3 m4 m5 m6 m7 : Int) : Int := if a = 0 then m2 else if a = 1 then m5 else if a = 2 then m6 else if a = 3 then m7 else if a = 4 then m3 else m4
def KN (a x2 x3 x4 x5 x6 m2 m3 m4 m5 m6 m7 : Int) : Prop := x4 = m4 ∧ x5 = m3 ∧ ((m7 = 0 ∧ x2 = -2 ∧ x3 = 1 ∧ m2 = 32 ∧ m3 = -1 ∧ m4 = 32 ∧ m5 = -1 ∧ m6 = 61) ∨ ((1 ≤ m7 ∧ m7 ≤ 60) ∧ (0 ≤ m2 ∧ m2 ≤ 31) ∧ (0 ≤ m3 ∧ m3 ≤ 31) ∧ (0 ≤ m4 ∧ m4 ≤ 31) ∧ (0 ≤ m5 ∧ m5 ≤ 31) ∧ (1 ≤ m6 ∧ m6 ≤ m7) ∧ x2 = sel a m2 m3 m4 m5 m6 m7 ∧ ((x3 = 1 ∧ m6 = m7 ∧ x6 = m7) ∨ (x3 = 0 ∧ m6 < m7))))
/-- one map more -/
theorem KN.s {a x2 x3 x4 x5 x6 m2 m3 m4 m5 m6 m7 b e d y2 y3 : Int} (ha : 0 ≤ a ∧ a ≤ 5) (K : KN a x2 x3 x4 x5 x6 m2 m3 m4 m5 m6 m7) (hb : 0 ≤ b ∧ b ≤ e ∧ e ≤ 31) (hd : 1 ≤ d ∧ d ≤ 60) (h2 : y2 = if x2 = -2 then (if a = 0 ∨ a = 4 then b else if a = 1 ∨ a = 5 then e else d) else if a = 0 ∨ a = 2 ∨ a = 5 then (if (if a = 0 ∨ a = 4 then b else if a = 1 ∨ a = 5 then e else d) < x2 then (if a = 0 ∨ a = 4 then b else if a = 1 ∨ a = 5 then e else d) else x2) else (if x2 < (if a = 0 ∨ a = 4 then b else if a = 1 ∨ a = 5 then e else d) then (if a = 0 ∨ a = 4 then b else if a = 1 ∨ a = 5 then e else d) else x2)) (h3 : y3 = if x3 = 0 then 0 else if x2 = -2 then 1 else if d = x6 then 1 else 0) : KN a y2 y3 (if e < x4 then e else x4) (if x5 < b then b else x5) d (if b < m2 then b else m2) (if m3 < b then b else m3) (if e < m4 then e else m4) (if m5 < e then e else m5) (if d < m6 then d else m6) (if m7 < d then d else m7) := by
  obtain ⟨k1, k2, k3⟩ := K
  unfold KN
  refine ⟨by rw [k1], by rw [k2], Or.inr ?_⟩
  unfold sel at k3 ⊢
  rcases k3 with ⟨c7, c2, c3, d2, d3, d4, d5, d6⟩ | ⟨c7, d2, d3, d4, d5, d6, c2, c3⟩
  · rw [if_neg (by omega), if_pos c2] at h3
    rw [if_pos c2] at h2
    rw [if_pos (by omega), if_pos (by omega), if_pos (by omega), if_pos (by omega), if_pos (by omega), if_pos (by omega)]
    have h : a = 0 ∨ a = 1 ∨ a = 2 ∨ a = 3 ∨ a = 4 ∨ a = 5 := by omega
    refine ⟨by omega, by omega, by omega, by omega, by omega, by omega, ?_, Or.inl ⟨h3, rfl, rfl⟩⟩
    rcases h with h | h | h | h | h | h <;> subst h <;> simp at h2 ⊢ <;> exact h2
  · have x2n : 0 ≤ x2 := by
      have h : a = 0 ∨ a = 1 ∨ a = 2 ∨ a = 3 ∨ a = 4 ∨ a = 5 := by omega
      rcases h with h | h | h | h | h | h <;> subst h <;> simp at c2 <;> omega
    rw [if_neg (by omega)] at h2
    rw [if_neg (show ¬ x2 = -2 by omega)] at h3
    have s6 : (if d < m6 then d else m6) ≤ (if m7 < d then d else m7) ∧ 1 ≤ (if d < m6 then d else m6) ∧ (if m7 < d then d else m7) ≤ 60 ∧ 1 ≤ (if m7 < d then d else m7) := by
      refine ⟨?_, ?_, ?_, ?_⟩ <;> (repeat' split) <;> omega
    refine ⟨⟨s6.2.2.2, s6.2.2.1⟩, by split <;> omega, by split <;> omega, by split <;> omega, by split <;> omega, ⟨s6.2.1, s6.1⟩, ?_, ?_⟩
    · have h : a = 0 ∨ a = 1 ∨ a = 2 ∨ a = 3 ∨ a = 4 ∨ a = 5 := by omega
      rcases h with h | h | h | h | h | h <;> subst h <;> simp at h2 c2 ⊢ <;> rw [h2, c2]
    · rcases c3 with ⟨c3, e1, e2⟩ | ⟨c3, e1⟩
      · rw [if_neg (by omega)] at h3
        by_cases z : d = x6
        · rw [if_pos z] at h3
          exact Or.inl ⟨h3, by rw [if_neg (by omega), if_neg (by omega)]; exact e1, by rw [if_neg (by omega)]; omega⟩
        · rw [if_neg z] at h3
          exact Or.inr ⟨h3, by (repeat' split) <;> omega⟩
      · rw [if_pos c3] at h3
        exact Or.inr ⟨h3, by (repeat' split) <;> omega⟩
section KNs
variable {s t : SS}
theorem edgX {p : Nat} {a : Int32} (ha : 0 ≤ a.toInt ∧ a.toInt ≤ 5) : ∃ v, f_X1_edge s p a = some v ∧ v.toInt = if a.toInt = 0 ∨ a.toInt = 4 then (zS s p 0).toInt else if a.toInt = 1 ∨ a.toInt = 5 then (zS s p 1).toInt else (zS s p 2).toInt := by
  have h : a.toInt = 0 ∨ a.toInt = 1 ∨ a.toInt = 2 ∨ a.toInt = 3 ∨ a.toInt = 4 ∨ a.toInt = 5 := by omega
  unfold f_X1_edge
  rcases h with h | h | h | h | h | h
  · have e : a = 0 := Int32.toInt_inj.1 (by rw [h]; rfl)
    subst e
    exact ⟨_, rfl, rfl⟩
  · have e : a = 1 := Int32.toInt_inj.1 (by rw [h]; rfl)
    subst e
    exact ⟨_, rfl, rfl⟩
  · have e : a = 2 := Int32.toInt_inj.1 (by rw [h]; rfl)
    subst e
    exact ⟨_, rfl, rfl⟩
  · have e : a = 3 := Int32.toInt_inj.1 (by rw [h]; rfl)
    subst e
    exact ⟨_, rfl, rfl⟩
  · have e : a = 4 := Int32.toInt_inj.1 (by rw [h]; rfl)
    subst e
    exact ⟨_, rfl, rfl⟩
  · have e : a = 5 := Int32.toInt_inj.1 (by rw [h]; rfl)
    subst e
    exact ⟨_, rfl, rfl⟩
/-- the class, one map that is not wrong -/
theorem knX {a x2 x3 x4 x5 x6 x7 : Int32} {p : Nat} {rc : Int32 → Int32 → Int32 → Int32 → Int32 → Int32 → Option Int32} {q0 : Int32 → Int32 → Int32 → Int32 → Option Int32} {P : Int32 → Prop} (ha : 0 ≤ a.toInt ∧ a.toInt ≤ 5) (c : x7 < zS s 0 5) (hp : zR s 23 x7.toInt.toNat = some p) (hf : f_X11_firstUnlike s p = some (-2)) (h3 : x3 = 0 ∨ x3 = 1) (k : ∀ y2 y3 : Int32, (y2.toInt = if x2.toInt = -2 then (if a.toInt = 0 ∨ a.toInt = 4 then (zS s p 0).toInt else if a.toInt = 1 ∨ a.toInt = 5 then (zS s p 1).toInt else (zS s p 2).toInt) else if a.toInt = 0 ∨ a.toInt = 2 ∨ a.toInt = 5 then (if (if a.toInt = 0 ∨ a.toInt = 4 then (zS s p 0).toInt else if a.toInt = 1 ∨ a.toInt = 5 then (zS s p 1).toInt else (zS s p 2).toInt) < x2.toInt then (if a.toInt = 0 ∨ a.toInt = 4 then (zS s p 0).toInt else if a.toInt = 1 ∨ a.toInt = 5 then (zS s p 1).toInt else (zS s p 2).toInt) else x2.toInt) else (if x2.toInt < (if a.toInt = 0 ∨ a.toInt = 4 then (zS s p 0).toInt else if a.toInt = 1 ∨ a.toInt = 5 then (zS s p 1).toInt else (zS s p 2).toInt) then (if a.toInt = 0 ∨ a.toInt = 4 then (zS s p 0).toInt else if a.toInt = 1 ∨ a.toInt = 5 then (zS s p 1).toInt else (zS s p 2).toInt) else x2.toInt)) → (y3 = 0 ∨ y3 = 1) → y3.toInt = (if x3.toInt = 0 then 0 else if x2.toInt = -2 then 1 else if (zS s p 2).toInt = x6.toInt then 1 else 0) → Pc (rc y2 y3 (if zS s p 1 < x4 then zS s p 1 else x4) (if x5 < zS s p 0 then zS s p 0 else x5) (zS s p 2) (x7 + 1)) P) : Pc (f_X11_known_L29_b q0 s a rc x2 x3 x4 x5 x6 x7) P := by
  have jn2 : (-2 : Int32).toInt = -2 := rfl
  obtain ⟨v, ev, hv⟩ := edgX (s := s) (p := p) ha
  rw [← hv] at k
  unfold f_X11_known_L29_b
  rw [hp]
  refine Pc_ift c (Pc_gd (fun _ => Pc_onS ?_))
  rw [hf]
  refine Pc_b1S (Pc_ift rfl (Pc_jn ?_))
  -- what stands behind the flags
  have tl : ∀ t10 t11 : Int32, ((t10 = 1 ∧ x2 = -2) ∨ (t10 = 0 ∧ ¬ x2 = -2)) → (t11 = 0 ∨ t11 = 1) → t11.toInt = (if x3.toInt = 0 then 0 else if x2.toInt = -2 then 1 else if (zS s p 2).toInt = x6.toInt then 1 else 0) → Pc (vl ((zS s p 2)) fun v12 => (b1 (f_J9_max_7cf53 x5 (zS s p 0)) fun r13 => (b1 (f_J9_min_7cf53 x4 (zS s p 1)) fun r14 => (b1 (f_X1_edge s p a) fun r15 => (jn (fun (t16_0 : Int32) => (vl (x7 + 1) fun v17 => (rc t16_0 t11 r14 r13 v12 v17))) fun k16 => (if t10 = (0 : Int32) then (jn ((b1 (f_J9_min_7cf53 x2 r15) fun r20 => (k16 r20))) fun k19 => (if a = (0 : Int32) then k19 else (if a = (2 : Int32) then k19 else (if a = (5 : Int32) then k19 else (b1 (f_J9_max_7cf53 x2 r15) fun r24 => (k16 r24)))))) else (k16 r15))))))) P := by
    intro t10 t11 h10 h11 h12
    rw [maxJ, minJ, ev]
    refine Pc_vl (Pc_b1S (Pc_b1S (Pc_b1S (Pc_jn ?_))))
    rcases h10 with ⟨e, z⟩ | ⟨e, z⟩
    · rw [e]
      exact Pc_if10 (Pc_vl (k v t11 (by rw [if_pos (by rw [z, jn2])]) h11 h12))
    · rw [e]
      have z' : ¬ x2.toInt = -2 := fun w => z (Int32.toInt_inj.1 (by rw [w, jn2]))
      rw [minJ, maxJ]
      refine Pc_if00 (Pc_jn ?_)
      have mn : (a.toInt = 0 ∨ a.toInt = 2 ∨ a.toInt = 5) → Pc (b1 (some (if v < x2 then v else x2)) fun r20 => vl (x7 + 1) fun v17 => rc r20 t11 (if zS s p 1 < x4 then zS s p 1 else x4) (if x5 < zS s p 0 then zS s p 0 else x5) (zS s p 2) v17) P := fun hm => Pc_b1S (Pc_vl (k _ t11 (by rw [if_neg z', if_pos hm, mnI]) h11 h12))
      refine Pc_if (fun w => mn (Or.inl (by rw [w]; rfl))) (fun w0 => Pc_if (fun w => mn (Or.inr (Or.inl (by rw [w]; rfl)))) (fun w2 => Pc_if (fun w => mn (Or.inr (Or.inr (by rw [w]; rfl)))) (fun w5 => ?_)))
      refine Pc_b1S (Pc_vl (k _ t11 ?_ h11 h12))
      have nm : ¬ (a.toInt = 0 ∨ a.toInt = 2 ∨ a.toInt = 5) := by
        rintro (h | h | h)
        · exact w0 (Int32.toInt_inj.1 (by rw [h]; rfl))
        · exact w2 (Int32.toInt_inj.1 (by rw [h]; rfl))
        · exact w5 (Int32.toInt_inj.1 (by rw [h]; rfl))
      rw [if_neg z', if_neg nm]
      by_cases y : x2 < v
      · rw [if_pos y]
        rw [jlt] at y
        rw [if_pos y]
      · rw [if_neg y]
        rw [jlt] at y
        rw [if_neg y]
  have h30 : x3.toInt = 0 ↔ x3 = 0 := ⟨fun w => Int32.toInt_inj.1 (by rw [w, jl0]), fun w => by rw [w, jl0]⟩
  refine Pc_if (fun z => Pc_jn (Pc_jn ?_)) (fun z => Pc_jn (Pc_jn ?_))
  · refine Pc_if (fun w => tl 1 0 (Or.inl ⟨rfl, z⟩) (Or.inl rfl) (by rw [if_pos (h30.mpr w)]; rfl)) (fun w => Pc_jn (Pc_iff n10 (tl 1 1 (Or.inl ⟨rfl, z⟩) (Or.inr rfl) ?_)))
    rw [if_neg (fun q => w (h30.mp q)), if_pos (by rw [z, jn2])]
    rfl
  · have z' : ¬ x2.toInt = -2 := fun w => z (Int32.toInt_inj.1 (by rw [w, jn2]))
    refine Pc_if (fun w => tl 0 0 (Or.inr ⟨rfl, z⟩) (Or.inl rfl) (by rw [if_pos (h30.mpr w)]; rfl)) (fun w => Pc_jn (Pc_ift rfl (Pc_if (fun y => tl 0 1 (Or.inr ⟨rfl, z⟩) (Or.inr rfl) ?_) (fun y => tl 0 0 (Or.inr ⟨rfl, z⟩) (Or.inl rfl) ?_))))
    · rw [if_neg (fun q => w (h30.mp q)), if_neg z', if_pos (by rw [y])]
      rfl
    · rw [if_neg (fun q => w (h30.mp q)), if_neg z', if_neg (fun q => y (Int32.toInt_inj.1 q))]
      rfl
theorem mxI {a b : Int32} : (if a < b then b else a).toInt = (if a.toInt < b.toInt then b.toInt else a.toInt) := by
  by_cases c : a < b
  · rw [if_pos c]
    rw [jlt] at c
    rw [if_pos c]
  · rw [if_neg c]
    rw [jlt] at c
    rw [if_neg c]
def kqX (a0 : Int32) : Int32 → Int32 → Int32 → Int32 → Option Int32 := fun (x32_2 : Int32) (x32_3 : Int32) (x32_4 : Int32) (x32_5 : Int32) => (if a0 < (4 : Int32) then some x32_2 else (if x32_3 = (0 : Int32) then some (-2) else (if x32_4 < x32_5 then some (-2) else some x32_2)))
def kqM (a0 : Int32) : Int32 → Int32 → Int32 → Int32 → Int32 → Int32 → Option Int32 := fun (x33_2 : Int32) (x33_3 : Int32) (x33_4 : Int32) (x33_5 : Int32) (x33_6 : Int32) (x33_7 : Int32) => (if x33_7 = (0 : Int32) then some (-2) else (if a0 = 0 then some x33_2 else (if a0 = 1 then some x33_5 else (if a0 = 2 then some x33_6 else (if a0 = 3 then some x33_7 else (if x33_6 = x33_7 then (if x33_4 < x33_3 then some (-2) else (if a0 = (4 : Int32) then some x33_3 else some x33_4)) else some (-2)))))))
/-- the ends -/
theorem knE {a x2 x3 x4 x5 x6 m2 m3 m4 m5 m6 m7 : Int32} (ha : 0 ≤ a.toInt ∧ a.toInt ≤ 5) (K : KN a.toInt x2.toInt x3.toInt x4.toInt x5.toInt x6.toInt m2.toInt m3.toInt m4.toInt m5.toInt m6.toInt m7.toInt) : Pc (kqX a x2 x3 x4 x5) (fun r => Pc (kqM a m2 m3 m4 m5 m6 m7) (fun r' => r = r')) := by
  have j4 : (4 : Int32).toInt = 4 := rfl
  have jn2 : (-2 : Int32).toInt = -2 := rfl
  obtain ⟨k1, k2, k3⟩ := K
  unfold kqX kqM
  rcases k3 with ⟨c7, c2, c3, d2, d3, d4, d5, d6⟩ | ⟨c7, d2, d3, d4, d5, d6, c2, c3⟩
  · have e7 : m7 = 0 := Int32.toInt_inj.1 (by rw [c7, jl0])
    have e2 : x2 = -2 := Int32.toInt_inj.1 (by rw [c2, jn2])
    rw [e7, e2]
    refine Pc_if (fun _ => Pc_some (Pc_ift rfl (Pc_some rfl))) (fun _ => Pc_if (fun _ => Pc_some (Pc_ift rfl (Pc_some rfl))) (fun _ => Pc_if (fun _ => Pc_some (Pc_ift rfl (Pc_some rfl))) (fun _ => Pc_some (Pc_ift rfl (Pc_some rfl)))))
  · have n7 : ¬ m7 = 0 := fun z => by rw [z, jl0] at c7; omega
    unfold sel at c2
    have sl : ∀ {z : Int32}, x2.toInt = z.toInt → x2 = z := fun w => Int32.toInt_inj.1 w
    have h : a.toInt = 0 ∨ a.toInt = 1 ∨ a.toInt = 2 ∨ a.toInt = 3 ∨ a.toInt = 4 ∨ a.toInt = 5 := by omega
    -- the common end of 4 and 5
    have en : ∀ z : Int32, x2 = z → ¬ a < 4 → (∀ R : Int32 → Prop, R z → Pc (if a = (4 : Int32) then some m3 else some m4) R) → ¬ a = 0 → ¬ a = 1 → ¬ a = 2 → ¬ a = 3 → Pc (if a < (4 : Int32) then some x2 else (if x3 = (0 : Int32) then some (-2) else (if x4 < x5 then some (-2) else some x2))) (fun r => Pc (if m7 = (0 : Int32) then some (-2) else (if a = 0 then some m2 else (if a = 1 then some m5 else (if a = 2 then some m6 else (if a = 3 then some m7 else (if m6 = m7 then (if m4 < m3 then some (-2) else (if a = (4 : Int32) then some m3 else some m4)) else some (-2))))))) (fun r' => r = r')) := by
      intro z ez h4 hz n0 n1 n2 n3
      refine Pc_iff h4 (Pc_if (fun w => Pc_some ?_) (fun w => ?_))
      · refine Pc_iff n7 (Pc_iff n0 (Pc_iff n1 (Pc_iff n2 (Pc_iff n3 (Pc_iff (fun q => ?_) (Pc_some rfl))))))
        rcases c3 with ⟨c3, _⟩ | ⟨_, c3⟩
        · rw [w, jl0] at c3; omega
        · rw [q] at c3; omega
      · have e67 : m6 = m7 := by
          rcases c3 with ⟨_, c3, _⟩ | ⟨c3, _⟩
          · exact Int32.toInt_inj.1 c3
          · exact absurd (Int32.toInt_inj.1 (by rw [c3, jl0])) w
        have e43 : x4 < x5 ↔ m4 < m3 := by rw [jlt, jlt, k1, k2]
        refine Pc_if (fun y => Pc_some ?_) (fun y => Pc_some ?_)
        · exact Pc_iff n7 (Pc_iff n0 (Pc_iff n1 (Pc_iff n2 (Pc_iff n3 (Pc_ift e67 (Pc_ift (e43.mp y) (Pc_some rfl)))))))
        · exact Pc_iff n7 (Pc_iff n0 (Pc_iff n1 (Pc_iff n2 (Pc_iff n3 (Pc_ift e67 (Pc_iff (fun w => y (e43.mpr w)) (hz _ ez)))))))
    rcases h with h | h | h | h | h | h
    · have e : a = 0 := Int32.toInt_inj.1 (by rw [h]; rfl)
      rw [if_pos h] at c2
      exact Pc_ift (by rw [jlt, j4]; omega) (Pc_some (Pc_iff n7 (Pc_ift e (Pc_some (sl c2)))))
    · have e : a = 1 := Int32.toInt_inj.1 (by rw [h]; rfl)
      rw [if_neg (by omega), if_pos h] at c2
      exact Pc_ift (by rw [jlt, j4]; omega) (Pc_some (Pc_iff n7 (Pc_iff (by rw [e]; decide) (Pc_ift e (Pc_some (sl c2))))))
    · have e : a = 2 := Int32.toInt_inj.1 (by rw [h]; rfl)
      rw [if_neg (by omega), if_neg (by omega), if_pos h] at c2
      exact Pc_ift (by rw [jlt, j4]; omega) (Pc_some (Pc_iff n7 (Pc_iff (by rw [e]; decide) (Pc_iff (by rw [e]; decide) (Pc_ift e (Pc_some (sl c2)))))))
    · have e : a = 3 := Int32.toInt_inj.1 (by rw [h]; rfl)
      rw [if_neg (by omega), if_neg (by omega), if_neg (by omega), if_pos h] at c2
      exact Pc_ift (by rw [jlt, j4]; omega) (Pc_some (Pc_iff n7 (Pc_iff (by rw [e]; decide) (Pc_iff (by rw [e]; decide) (Pc_iff (by rw [e]; decide) (Pc_ift e (Pc_some (sl c2))))))))
    · have e : a = 4 := Int32.toInt_inj.1 (by rw [h]; rfl)
      rw [if_neg (by omega), if_neg (by omega), if_neg (by omega), if_neg (by omega), if_pos h] at c2
      exact en m3 (sl c2) (by rw [jlt, j4]; omega) (fun R hR => Pc_ift e (Pc_some hR)) (by rw [e]; decide) (by rw [e]; decide) (by rw [e]; decide) (by rw [e]; decide)
    · have e : a = 5 := Int32.toInt_inj.1 (by rw [h]; rfl)
      rw [if_neg (by omega), if_neg (by omega), if_neg (by omega), if_neg (by omega), if_neg (by omega)] at c2
      exact en m4 (sl c2) (by rw [jlt, j4]; omega) (fun R hR => Pc_iff (by rw [e]; decide) (Pc_some hR)) (by rw [e]; decide) (by rw [e]; decide) (by rw [e]; decide) (by rw [e]; decide)
theorem kn_l {a : Int32} (ha : 0 ≤ a.toInt ∧ a.toInt ≤ 5) (I : Iv s) (J : Iv t) (M : QSm t) (B : B1 s t) (Q : Q4 s t) : ∀ (n m : Nat) (x2 x3 x4 x5 x6 x7 m2 m3 m4 m5 m6 m7 : Int32), 0 ≤ x7.toInt → (x3 = 0 ∨ x3 = 1) → KN a.toInt x2.toInt x3.toInt x4.toInt x5.toInt x6.toInt m2.toInt m3.toInt m4.toInt m5.toInt m6.toInt m7.toInt → Pc (f_X11_known_L29 (kqX a) s a n x2 x3 x4 x5 x6 x7) (fun r => Pc (f_X12_known_L33 (kqM a) t a m m2 m3 m4 m5 m6 m7 x7) (fun r' => r = r'))
  | 0, _, _, _, _, _, _, _, _, _, _, _, _, _, _, _, _ => Pc_none
  | n + 1, 0, _, _, _, _, _, _, _, _, _, _, _, _, _, _, _ => fun _ _ => Pc_none
  | n + 1, m + 1, x2, x3, x4, x5, x6, x7, m2, m3, m4, m5, m6, m7, h0, h3, K => by
    have b5 : zS s 0 5 = zS t 59 30 := B.1.1.2.2.1
    have r5 : 0 ≤ (zS s 0 5).toInt ∧ (zS s 0 5).toInt ≤ 8 := B.1.fx (q := 0) (k := 5) (by omega)
    show Pc (f_X11_known_L29_b (kqX a) s a (f_X11_known_L29 (kqX a) s a n) x2 x3 x4 x5 x6 x7) (fun r => Pc (f_X12_known_L33_b (kqM a) t a (f_X12_known_L33 (kqM a) t a m) m2 m3 m4 m5 m6 m7 x7) (fun r' => r = r'))
    by_cases c : x7 < zS s 0 5
    · have c' := c
      rw [jlt] at c'
      have n1 : (x7 + 1).toInt = x7.toInt + 1 := by rw [i32_add (by rw [jl1]; omega) (by rw [jl1]; omega), jl1]
      obtain ⟨i, hi⟩ : ∃ i : Nat, x7.toInt = i := ⟨_, (Int.toNat_of_nonneg h0).symm⟩
      have ei : x7.toInt.toNat = i := by omega
      have h8 : i < 8 := by omega
      obtain ⟨p, hp, X⟩ := Q.2.2.2.2.2.2.2.2.2.1.1 i h8 (by omega)
      obtain ⟨v0, v1, v2, v4, xr, yr, xb⟩ := id X
      -- whether it is wrong, both sides
      obtain ⟨rf, ef, -⟩ := w_X11_firstUnlike (Lk.rf I) (B.1.sh.2.2.2.2.1 i p h8 hp)
      have wr : Pc (f_X12_wrongBy t x7) (fun r' => r' = rf) := by
        have := fu_l (a0 := x7) J M B Q X hi h8 4000 4000 0 (by decide) rf ef
        exact this
      by_cases z : rf = -2
      · rw [z] at ef wr
        refine knX ha c (by rw [ei]; exact hp) ef h3 (fun y2 y3 e2 e3 e4 => ?_)
        have K' := KN.s (b := (zS s p 0).toInt) (e := (zS s p 1).toInt) (d := (zS s p 2).toInt) ha K xr yr e2 e4
        rw [← mnI, ← mxI] at K'
        refine Pc.mono (kn_l ha I J M B Q n m y2 y3 _ _ _ (x7 + 1) (if zS s p 0 < m2 then zS s p 0 else m2) (if m3 < zS s p 0 then zS s p 0 else m3) (if zS s p 1 < m4 then zS s p 1 else m4) (if m5 < zS s p 1 then zS s p 1 else m5) (if zS s p 2 < m6 then zS s p 2 else m6) (if m7 < zS s p 2 then zS s p 2 else m7) (by omega) e3 (by rw [mnI, mxI, mnI, mxI, mnI, mxI, mnI, mxI]; rw [mnI, mxI] at K'; exact K')) (fun r hr => ?_)
        unfold f_X12_known_L33_b
        rw [← b5, ei, ← v0, ← v1, ← v2]
        refine Pc_ift c (Pc_b1 (Pc.mono wr (fun r4 h4 => Pc_jn (Pc_ift h4 (Pc_gd (fun _ => Pc_jif ?_))))))
        exact Pc_gd (fun _ => Pc_jif (Pc_gd (fun _ => Pc_jif (Pc_gd (fun _ => Pc_jif (Pc_gd (fun _ => Pc_jif (Pc_gd (fun _ => Pc_jif (Pc_vl hr))))))))))
      · unfold f_X11_known_L29_b
        rw [ei, hp]
        refine Pc_ift c (Pc_gd (fun _ => Pc_onS ?_))
        rw [ef]
        refine Pc_b1S (Pc_iff z (Pc_vl (Pc.mono (kn_l ha I J M B Q n m x2 x3 x4 x5 x6 (x7 + 1) m2 m3 m4 m5 m6 m7 (by omega) h3 K) (fun r hr => ?_))))
        unfold f_X12_known_L33_b
        rw [← b5]
        exact Pc_ift c (Pc_b1 (Pc.mono wr (fun r4 h4 => Pc_jn (Pc_iff (fun w => z (h4.symm.trans w)) (Pc_vl hr)))))
    · unfold f_X11_known_L29_b
      refine Pc_iff c (Pc.mono (knE ha K) (fun r hr => ?_))
      unfold f_X12_known_L33_b
      rw [← b5]
      exact Pc_iff c hr
theorem V_known (I : Iv s) (J : Iv t) (M : QSm t) (B : B1 s t) (Q : Q4 s t) (a0 : Int32) : Pc (f_X11_known s a0) fun x => Pc (f_X12_known t a0) fun m => x = m := by
  have j5 : (5 : Int32).toInt = 5 := rfl
  unfold f_X11_known f_X12_known
  by_cases c : 0 ≤ a0.toInt ∧ a0.toInt ≤ 5
  · rw [in_t (by rw [jl0, j5]; exact c)]
    refine Pc_iff (by rw [jlt, jl0]; omega) (Pc_iff (by rw [jlt, j5]; omega) ?_)
    exact Pc.mono (kn_l c I J M B Q 4000 4000 (-2) 1 32 (-1) 0 0 32 (-1) 32 (-1) 61 0 (by decide) (Or.inr rfl) ⟨rfl, rfl, Or.inl ⟨rfl, rfl, rfl, rfl, rfl, rfl, rfl, rfl⟩⟩) (fun r hr => Pc_b1S (Pc_if10 hr))
  · rw [in_f (by rw [jl0, j5]; exact c)]
    refine Pc_lt (fun _ => Pc_some (Pc_b1S (Pc_if00 (Pc_some rfl)))) (fun z => Pc_lt (fun _ => Pc_some (Pc_b1S (Pc_if00 (Pc_some rfl)))) (fun w => ?_))
    rw [jl0] at z
    rw [j5] at w
    exact absurd ⟨z, w⟩ c
theorem vC_c {k w g w' g' a x : Int32} (hw : isH k → w = w') (hg : k = 7 → g = g') : vC k w g a x = vC k w' g' a x := by
  unfold vC
  by_cases c : k = 2 ∨ k = 3 ∨ k = 4 ∨ k = 5
  · rw [if_pos c, if_pos c, hw c]
  · rw [if_neg c, if_neg c]
    by_cases d : k = 7
    · rw [if_pos d, if_pos d, hg d]
    · rw [if_neg d, if_neg d]
theorem vA_c {k w g w' g' a b x : Int32} (hw : isH k → w = w') (hg : k = 7 → g = g') : vA k w g a b x = vA k w' g' a b x := by
  unfold vA vT vH
  rw [vC_c (x := x) hw hg, vC_c (x := 1) hw hg]
theorem st4_act (G : GI s) (Q : Q4 s s) (a0 : Int32) (a1 : Int32) (a2 : Int32) : ∃ (rx : Int32) (s1 : SS) (rm : Int32) (s2 : SS), f_X11_act s a0 a1 a2 = some (rx, s1) ∧ f_X12_act s1 a0 a1 a2 = some (rm, s2) ∧ GI s2 ∧ rx = rm := by
  obtain ⟨rx, s1, rm, s2, ex, em, G2, -⟩ := st_act G a0 a1 a2
  refine ⟨rx, s1, rm, s2, ex, em, G2, ?_⟩
  have e := G.1.2.1.2.2.1
  have k7 := G.1.2.2.1.2.1
  have hf : 0 ≤ (zS s 15 3).toInt ∧ (zS s 15 3).toInt ≤ 120 := G.1.1.f (q := 15) (k := 3) rfl
  have IX : Iv (pS s 15 11 0) := G.1.1.wF (q := 15) (k := 11) (by decide) (by decide) trivial
  by_cases c : 0 ≤ a0.toInt ∧ a0.toInt < (zS s 15 3).toInt
  · have gb : inB a0 120 := ⟨by omega, by omega⟩
    have hn : a0.toInt.toNat < 120 := by omega
    obtain ⟨w, g, O⟩ := OX_of (s := pS s 15 11 0) (a := a0) IX (by rw [E0X.1 15 3 (by omega)]; exact c)
    rw [E0X.2.1 16 _ (by omega)] at O
    have hk : 0 ≤ (zI s 16 a0.toInt.toNat).toInt ∧ (zI s 16 a0.toInt.toNat).toInt ≤ 7 := G.1.1.a (q := 16) rfl
    obtain ⟨l, el⟩ : ∃ l, l = lA (zI s 16 a0.toInt.toNat) a1 := ⟨_, rfl⟩
    have EX1 : EX s (tX (pS s 15 11 0) l) := E0X.tr (EX.l l)
    have I1 : Iv (tX (pS s 15 11 0) l) := IvX l IX
    have I2 : Iv (pS (tX (pS s 15 11 0) l) 59 87 0) := I1.wF (q := 59) (k := 87) (by decide) (by decide) trivial
    have O2 := OM_of (s := pS (tX (pS s 15 11 0) l) 59 87 0) gb
    rw [E0M.2.1 62 _ (by omega), EX1.2.1 62 _ (by omega), ← k7, E0M.2.1 64 _ (by omega), EX1.2.1 64 _ (by omega), E0M.2.1 74 _ (by omega), EX1.2.1 74 _ (by omega)] at O2
    have hb : f_X12_isBody (pS (tX (pS s 15 11 0) l) 59 87 0) a0 = some 1 := body_t I2 (by rw [E0M.1 59 4 (by omega), EX1.1 59 4 (by omega), ← e]; exact c)
    have ex' := actX (b := a1) (x := a2) hk O
    rw [← el] at ex'
    have eq1 := Option.some.inj (ex.symm.trans ex')
    have es1 : s1 = tX (pS s 15 11 0) l := congrArg Prod.snd eq1
    rw [es1] at em
    have eq2 := Option.some.inj (em.symm.trans (actM (b := a1) (x := a2) hb O2))
    have r1 : rx = vA (zI s 16 a0.toInt.toNat) w g a0 a1 a2 := congrArg Prod.fst eq1
    have r2 : rm = vA (zI s 16 a0.toInt.toNat) (zI s 64 a0.toInt.toNat) (zI s 74 a0.toInt.toNat) a0 a1 a2 := congrArg Prod.fst eq2
    rw [r1, r2]
    obtain ⟨okd, ow, og⟩ := O (pS s 15 11 0) ⟨fun _ _ _ => rfl, fun _ _ _ => rfl, rfl⟩
    refine vA_c (fun hh => ?_) (fun h7 => ?_)
    · cases hp : zR s 17 a0.toInt.toNat with
      | none => exact absurd ⟨by omega, hh⟩ ((G.1.2.2.2.2.1 _ hn).mp hp)
      | some p =>
        have hx := (Q.1.1 _ _ hn hp).2.1
        have ez : zR (pS s 15 11 0) 17 a0.toInt.toNat = some p := hp
        unfold f_X0_widthOf f_X0_holeOf at ow
        rw [if_neg (by rw [jlt, jl0]; omega), if_pos (by rw [E0X.1 15 3 (by omega), jlt]; omega), gd_t gb, ez] at ow
        have ow' : some (zS (pS s 15 11 0) p 1) = some w := ow
        rw [← Option.some.inj ow', E0X.1 p 1 (by omega)]
        exact hx
    · unfold f_X0_strengthOf at og
      rw [okd, b1_some, if_pos h7, gd_t gb] at og
      rw [← Option.some.inj og]
      exact (Q.2.1.1 _ hn).1
  · have e1 : f_X11_act s a0 a1 a2 = some (0, pS s 15 11 0) := by
      unfold f_X11_act f_X0_acted
      rw [st, kind_f (by rw [E0X.1 15 3 (by omega)]; exact c), b1_some, if_pos (by decide), bd_some]
    have eq1 := Option.some.inj (ex.symm.trans e1)
    have es1 : s1 = pS s 15 11 0 := congrArg Prod.snd eq1
    have I2 : Iv (pS (pS s 15 11 0) 59 87 0) := IX.wF (q := 59) (k := 87) (by decide) (by decide) trivial
    rw [es1] at em
    have e2 : f_X12_act (pS s 15 11 0) a0 a1 a2 = some (0, pS (pS s 15 11 0) 59 87 0) := by
      unfold f_X12_act
      rw [st, body_f I2 (by rw [E0M.1 59 4 (by omega), E0X.1 59 4 (by omega), ← e]; exact c), b1_some, if_pos rfl]
    have eq2 := Option.some.inj (em.symm.trans e2)
    have r1 : rx = 0 := congrArg Prod.fst eq1
    have r2 : rm = 0 := congrArg Prod.fst eq2
    rw [r1, r2]
end KNs
