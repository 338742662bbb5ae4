/-! ThirtyThreeBelowModel.sum -/
noncomputable def f_X12_sum_L4_b (rec : SS → Option SS) (rc : SS → Option SS) (s : SS) : Option SS := (if (zS s 59 48) < (0 : Int32) then (b1 (f_X12_look s) fun r3 => (jn ((b1 (f_X12_look s) fun r5 => (vl (((zS s 59 47) + (1 : Int32))) fun v6 => (st (pS s 59 47 v6) fun s7 => (b1 (f_X12_product rec s7) fun s8 => (b1 (f_X12_lay s8 r5 0) fun s10 => (rc s10))))))) fun k4 => (if r3 = (43 : Int32) then k4 else (b1 (f_X12_look s) fun r12 => (if r12 = (45 : Int32) then k4 else some s))))) else some s)
noncomputable def f_X12_sum_L4 (rec : SS → Option SS) : Nat → SS → Option SS
  | 0, _ => none
  | n + 1, s => f_X12_sum_L4_b rec (f_X12_sum_L4 rec n) s
set_option maxRecDepth 4000 in
theorem t_X12_sum_L4 {Dr : Nat} {rec : SS → Option SS} (hrec : ∀ {s0 s9 : SS} {h0 : List aE}, HH s0 h0 → rec s0  = some s9 → AM mX12_operand Dr [.ref 67] h0 0 0 (PV fun h' => HH s9 h' ∧ Mo s0 s9)) {s0 sb s9 : SS} (mb : Mo s0 sb)  : ∀ (n : Nat) (s : SS) (h : List aE), HH s h → Mo sb s → f_X12_sum_L4 rec n s = some s9 → AW mX12_sum (rmD (Dr + 2) 0 0) (fin (PV fun h' => HH s9 h' ∧ Mo s0 s9) 0 0) 4 [some (.ref 67), none] [] h 0 0 := by
  intro n
  induction n with
  | zero =>
    intro s h H ms hf
    cases hf
  | succ n ih =>
    intro s h H ms hf
    replace hf : f_X12_sum_L4_b rec (f_X12_sum_L4 rec n) s = some s9 := hf
    unfold f_X12_sum_L4_b at hf
    refine aw_aload_n (pc' := 5) dX12_sum_4 rfl rfl rfl ?_
    refine aw_gi (q := 59) (pc' := 8) H (H.fo rfl rfl) (by decide) rfl dX12_sum_5 rfl fl_RX12_322 ?_
    refine aw_zge (tgt := 57) (pc' := 11) dX12_sum_8 rfl rfl (fun c2 => ?_) (fun c2 => ?_)
    · replace hf := ifn c2 hf
      obtain rfl := Option.some.inj hf
      exact aw_rv dX12_sum_57 rfl (Nat.le_of_ble_eq_true rfl) (Nat.le_of_ble_eq_true rfl) ⟨H, (mb.tr ms)⟩
    · replace hf := ifp c2 hf
      refine aw_aload_n (pc' := 12) dX12_sum_11 rfl rfl rfl ?_
      obtain ⟨r3, ec3, hf⟩ := b1_e hf
      refine aw_callVi (M' := mX12_look) (nc' := 0) (ns' := 0) (pc' := 15) dX12_sum_12 rfl ml_RX12_337 kX12_look (t_X12_look H ec3) (H.ob (H.fo rfl rfl) (by decide)) rfl rfl rfl (Nat.le_of_ble_eq_true rfl) (rokD (by omega) (Nat.le_of_ble_eq_true rfl) (Nat.le_of_ble_eq_true rfl) (Nat.le_of_ble_eq_true rfl)) rfl rfl (fun _ h3 q3 => ?_)
      obtain ⟨rfl, rfl⟩ := q3
      refine aw_bipush (v := 43) (pc' := 17) dX12_sum_15 rfl bp_43 ?_
      obtain ⟨k4, ek4, hf⟩ := jn_e hf
      have hk4 : k4 = some s9 → AW mX12_sum (rmD (Dr + 2) 0 0) (fin (PV fun h' => HH s9 h' ∧ Mo s0 s9) 0 0) 29 [some (.ref 67), none] [] h 0 0 := by
        intro hf
        subst ek4
        refine aw_aload_n (pc' := 30) dX12_sum_29 rfl rfl rfl ?_
        obtain ⟨r5, ec5, hf⟩ := b1_e hf
        refine aw_callVi (M' := mX12_look) (nc' := 0) (ns' := 0) (pc' := 33) dX12_sum_30 rfl ml_RX12_337 kX12_look (t_X12_look H ec5) (H.ob (H.fo rfl rfl) (by decide)) rfl rfl rfl (Nat.le_of_ble_eq_true rfl) (rokD (by omega) (Nat.le_of_ble_eq_true rfl) (Nat.le_of_ble_eq_true rfl) (Nat.le_of_ble_eq_true rfl)) rfl rfl (fun _ h5 q5 => ?_)
        obtain ⟨rfl, rfl⟩ := q5
        refine aw_istore_n (lv' := [_, _]) (pc' := 34) dX12_sum_33 rfl (Nat.le_of_ble_eq_true rfl) rfl ?_
        refine aw_aload_n (pc' := 35) dX12_sum_34 rfl rfl rfl ?_
        refine aw_dup (pc' := 36) dX12_sum_35 rfl rfl ?_
        refine aw_gi (q := 59) (pc' := 39) H (H.fo rfl rfl) (by decide) rfl dX12_sum_36 rfl fl_RX12_319 ?_
        refine aw_iconst (v := 1) (pc' := 40) dX12_sum_39 rfl ic_1 ?_
        refine aw_iadd (pc' := 41) dX12_sum_40 rfl ?_
        obtain ⟨v6, ev6, hf⟩ := vl_e hf
        refine aw_topi ev6 ?_
        obtain ⟨s7, es7, hf⟩ := st_e hf
        refine aw_pi (q := 59) (pc' := 44) es7 H (H.fo rfl rfl) (by decide) rfl dX12_sum_41 rfl fl_RX12_319 rfl (fun h7 H7 => ?_)
        have m7 := Mo.ofS es7
        refine aw_aload_n (pc' := 45) dX12_sum_44 rfl rfl rfl ?_
        obtain ⟨s8, ec8, hf⟩ := b1_e hf
        refine aw_callVv (M' := mX12_product) (nc' := 0) (ns' := 0) (pc' := 48) dX12_sum_45 rfl ml_RX12_358 kX12_product (t_X12_product hrec H7 ec8) (H7.ob (H7.fo rfl rfl) (by decide)) rfl rfl rfl (Nat.le_of_ble_eq_true rfl) (rokD (by omega) (Nat.le_of_ble_eq_true rfl) (Nat.le_of_ble_eq_true rfl) (Nat.le_of_ble_eq_true rfl)) rfl rfl (fun h8 q8 => ?_)
        obtain ⟨H8, m8⟩ := q8
        refine aw_aload_n (pc' := 49) dX12_sum_48 rfl rfl rfl ?_
        refine aw_iload_n (pc' := 50) dX12_sum_49 rfl rfl ?_
        refine aw_iconst (v := 0) (pc' := 51) dX12_sum_50 rfl ic_0 ?_
        obtain ⟨s10, ec10, hf⟩ := b1_e hf
        refine aw_callVv (M' := mX12_lay) (nc' := 0) (ns' := 0) (pc' := 54) dX12_sum_51 rfl ml_RX12_344 kX12_lay (t_X12_lay H8 ec10) (H8.ob (H8.fo rfl rfl) (by decide)) rfl rfl rfl (Nat.le_of_ble_eq_true rfl) (rokD (by omega) (Nat.le_of_ble_eq_true rfl) (Nat.le_of_ble_eq_true rfl) (Nat.le_of_ble_eq_true rfl)) rfl rfl (fun h10 q10 => ?_)
        obtain ⟨H10, m10⟩ := q10
        refine aw_goto (tgt := 4) dX12_sum_54 rfl ?_
        refine AW.lv_le (lz_k (lz_d lz_0)) ?_
        exact ih _ _ H10 (((ms.tr m7).tr m8).tr m10) hf
      clear ek4
      refine aw_icmp_eq (tgt := 29) (pc' := 20) dX12_sum_17 rfl rfl (fun c11 => ?_) (fun c11 => ?_)
      · replace hf := ifp c11 hf
        exact hk4  hf
      · replace hf := ifn c11 hf
        refine aw_aload_n (pc' := 21) dX12_sum_20 rfl rfl rfl ?_
        obtain ⟨r12, ec12, hf⟩ := b1_e hf
        refine aw_callVi (M' := mX12_look) (nc' := 0) (ns' := 0) (pc' := 24) dX12_sum_21 rfl ml_RX12_337 kX12_look (t_X12_look H ec12) (H.ob (H.fo rfl rfl) (by decide)) rfl rfl rfl (Nat.le_of_ble_eq_true rfl) (rokD (by omega) (Nat.le_of_ble_eq_true rfl) (Nat.le_of_ble_eq_true rfl) (Nat.le_of_ble_eq_true rfl)) rfl rfl (fun _ h12 q12 => ?_)
        obtain ⟨rfl, rfl⟩ := q12
        refine aw_bipush (v := 45) (pc' := 26) dX12_sum_24 rfl bp_45 ?_
        refine aw_icmp_ne (tgt := 57) (pc' := 29) dX12_sum_26 rfl rfl (fun c13 => ?_) (fun c13 => ?_)
        · replace hf := ifn c13 hf
          obtain rfl := Option.some.inj hf
          exact aw_rv dX12_sum_57 rfl (Nat.le_of_ble_eq_true rfl) (Nat.le_of_ble_eq_true rfl) ⟨H, (mb.tr ms)⟩
        · replace hf := ifp c13 hf
          exact hk4  hf
noncomputable def f_X12_sum (rec : SS → Option SS) (s0 : SS)  : Option SS := (b1 (f_X12_product rec s0) fun s1 => (f_X12_sum_L4 rec 4000 s1))
set_option maxRecDepth 4000 in
theorem t_X12_sum {Dr : Nat} {rec : SS → Option SS} (hrec : ∀ {s0 s9 : SS} {h0 : List aE}, HH s0 h0 → rec s0  = some s9 → AM mX12_operand Dr [.ref 67] h0 0 0 (PV fun h' => HH s9 h' ∧ Mo s0 s9)) {s0 s9 : SS} {h0 : List aE}  (H0 : HH s0 h0) (hf : f_X12_sum rec s0 = some s9) : AM mX12_sum (Dr + 2) [.ref 67] h0 0 0 (PV fun h' => HH s9 h' ∧ Mo s0 s9) := by
  unfold f_X12_sum at hf
  refine am_of (lv := [some (.ref 67), none]) rfl (Nat.le_of_ble_eq_true rfl) rfl ?_
  refine aw_aload_n (pc' := 1) dX12_sum_0 rfl rfl rfl ?_
  obtain ⟨s1, ec1, hf⟩ := b1_e hf
  refine aw_callVv (M' := mX12_product) (nc' := 0) (ns' := 0) (pc' := 4) dX12_sum_1 rfl ml_RX12_358 kX12_product (t_X12_product hrec H0 ec1) (H0.ob (H0.fo rfl rfl) (by decide)) rfl rfl rfl (Nat.le_of_ble_eq_true rfl) (rokD (by omega) (Nat.le_of_ble_eq_true rfl) (Nat.le_of_ble_eq_true rfl) (Nat.le_of_ble_eq_true rfl)) rfl rfl (fun h1 q1 => ?_)
  obtain ⟨H1, m1⟩ := q1
  refine t_X12_sum_L4 hrec m1  4000 _ _ H1 (Mo.rf _) hf
/-! ThirtyThreeBelowModel.compared -/
noncomputable def f_X12_compared (rec : SS → Option SS) (s0 : SS)  : Option SS := (b1 (f_X12_sum rec s0) fun s1 => (b1 (f_X12_look s1) fun r2 => (if (zS s1 59 48) < (0 : Int32) then (jn ((vl (((zS s1 59 47) + (1 : Int32))) fun v5 => (st (pS s1 59 47 v5) fun s6 => (b1 (f_X12_sum rec s6) fun s7 => (b1 (f_X12_lay s7 r2 0) fun s8 => some s8))))) fun k4 => (if r2 = (60 : Int32) then k4 else (if r2 = (61 : Int32) then k4 else (if r2 = (62 : Int32) then k4 else some s1)))) else some s1)))
set_option maxRecDepth 4000 in
theorem t_X12_compared {Dr : Nat} {rec : SS → Option SS} (hrec : ∀ {s0 s9 : SS} {h0 : List aE}, HH s0 h0 → rec s0  = some s9 → AM mX12_operand Dr [.ref 67] h0 0 0 (PV fun h' => HH s9 h' ∧ Mo s0 s9)) {s0 s9 : SS} {h0 : List aE}  (H0 : HH s0 h0) (hf : f_X12_compared rec s0 = some s9) : AM mX12_compared (Dr + 3) [.ref 67] h0 0 0 (PV fun h' => HH s9 h' ∧ Mo s0 s9) := by
  unfold f_X12_compared at hf
  refine am_of (lv := [some (.ref 67), none]) rfl (Nat.le_of_ble_eq_true rfl) rfl ?_
  refine aw_aload_n (pc' := 1) dX12_compared_0 rfl rfl rfl ?_
  obtain ⟨s1, ec1, hf⟩ := b1_e hf
  refine aw_callVv (M' := mX12_sum) (nc' := 0) (ns' := 0) (pc' := 4) dX12_compared_1 rfl ml_RX12_361 kX12_sum (t_X12_sum hrec H0 ec1) (H0.ob (H0.fo rfl rfl) (by decide)) rfl rfl rfl (Nat.le_of_ble_eq_true rfl) (rokD (by omega) (Nat.le_of_ble_eq_true rfl) (Nat.le_of_ble_eq_true rfl) (Nat.le_of_ble_eq_true rfl)) rfl rfl (fun h1 q1 => ?_)
  obtain ⟨H1, m1⟩ := q1
  refine aw_aload_n (pc' := 5) dX12_compared_4 rfl rfl rfl ?_
  obtain ⟨r2, ec2, hf⟩ := b1_e hf
  refine aw_callVi (M' := mX12_look) (nc' := 0) (ns' := 0) (pc' := 8) dX12_compared_5 rfl ml_RX12_337 kX12_look (t_X12_look H1 ec2) (H1.ob (H1.fo rfl rfl) (by decide)) rfl rfl rfl (Nat.le_of_ble_eq_true rfl) (rokD (by omega) (Nat.le_of_ble_eq_true rfl) (Nat.le_of_ble_eq_true rfl) (Nat.le_of_ble_eq_true rfl)) rfl rfl (fun _ h2 q2 => ?_)
  obtain ⟨rfl, rfl⟩ := q2
  refine aw_istore_n (lv' := [_, _]) (pc' := 9) dX12_compared_8 rfl (Nat.le_of_ble_eq_true rfl) rfl ?_
  refine aw_aload_n (pc' := 10) dX12_compared_9 rfl rfl rfl ?_
  refine aw_gi (q := 59) (pc' := 13) H1 (H1.fo rfl rfl) (l13 rfl) rfl dX12_compared_10 rfl fl_RX12_322 ?_
  refine aw_zge (tgt := 34) (pc' := 16) dX12_compared_13 rfl rfl (fun c3 => ?_) (fun c3 => ?_)
  · replace hf := ifn c3 hf
    obtain rfl := Option.some.inj hf
    exact aw_rv dX12_compared_34 rfl (Nat.le_of_ble_eq_true rfl) (Nat.le_of_ble_eq_true rfl) ⟨H1, m1⟩
  · replace hf := ifp c3 hf
    refine aw_iload_n (pc' := 17) dX12_compared_16 rfl rfl ?_
    refine aw_bipush (v := 60) (pc' := 19) dX12_compared_17 rfl bp_60 ?_
    obtain ⟨k4, ek4, hf⟩ := jn_e hf
    have hk4 : k4 = some s9 → AW mX12_compared (rmD (Dr + 3) 0 0) (fin (PV fun h' => HH s9 h' ∧ Mo s0 s9) 0 0) 35 [some (.ref 67), some (.int r2)] [] h1 0 0 := by
      intro hf
      subst ek4
      refine aw_aload_n (pc' := 36) dX12_compared_35 rfl rfl rfl ?_
      refine aw_dup (pc' := 37) dX12_compared_36 rfl rfl ?_
      refine aw_gi (q := 59) (pc' := 40) H1 (H1.fo rfl rfl) (l13 rfl) rfl dX12_compared_37 rfl fl_RX12_319 ?_
      refine aw_iconst (v := 1) (pc' := 41) dX12_compared_40 rfl ic_1 ?_
      refine aw_iadd (pc' := 42) dX12_compared_41 rfl ?_
      obtain ⟨v5, ev5, hf⟩ := vl_e hf
      refine aw_topi ev5 ?_
      obtain ⟨s6, es6, hf⟩ := st_e hf
      refine aw_pi (q := 59) (pc' := 45) es6 H1 (H1.fo rfl rfl) (by decide) rfl dX12_compared_42 rfl fl_RX12_319 rfl (fun h6 H6 => ?_)
      have m6 := Mo.ofS es6
      refine aw_aload_n (pc' := 46) dX12_compared_45 rfl rfl rfl ?_
      obtain ⟨s7, ec7, hf⟩ := b1_e hf
      refine aw_callVv (M' := mX12_sum) (nc' := 0) (ns' := 0) (pc' := 49) dX12_compared_46 rfl ml_RX12_361 kX12_sum (t_X12_sum hrec H6 ec7) (H6.ob (H6.fo rfl rfl) (by decide)) rfl rfl rfl (Nat.le_of_ble_eq_true rfl) (rokD (by omega) (Nat.le_of_ble_eq_true rfl) (Nat.le_of_ble_eq_true rfl) (Nat.le_of_ble_eq_true rfl)) rfl rfl (fun h7 q7 => ?_)
      obtain ⟨H7, m7⟩ := q7
      refine aw_aload_n (pc' := 50) dX12_compared_49 rfl rfl rfl ?_
      refine aw_iload_n (pc' := 51) dX12_compared_50 rfl rfl ?_
      refine aw_iconst (v := 0) (pc' := 52) dX12_compared_51 rfl ic_0 ?_
      obtain ⟨s8, ec8, hf⟩ := b1_e hf
      refine aw_callVv (M' := mX12_lay) (nc' := 0) (ns' := 0) (pc' := 55) dX12_compared_52 rfl ml_RX12_344 kX12_lay (t_X12_lay H7 ec8) (H7.ob (H7.fo rfl rfl) (by decide)) rfl rfl rfl (Nat.le_of_ble_eq_true rfl) (rokD (by omega) (Nat.le_of_ble_eq_true rfl) (Nat.le_of_ble_eq_true rfl) (Nat.le_of_ble_eq_true rfl)) rfl rfl (fun h8 q8 => ?_)
      obtain ⟨H8, m8⟩ := q8
      obtain rfl := Option.some.inj hf
      exact aw_rv dX12_compared_55 rfl (Nat.le_of_ble_eq_true rfl) (Nat.le_of_ble_eq_true rfl) ⟨H8, (((m1.tr m6).tr m7).tr m8)⟩
    clear ek4
    refine aw_icmp_eq (tgt := 35) (pc' := 22) dX12_compared_19 rfl rfl (fun c10 => ?_) (fun c10 => ?_)
    · replace hf := ifp c10 hf
      exact hk4  hf
    · replace hf := ifn c10 hf
      refine aw_iload_n (pc' := 23) dX12_compared_22 rfl rfl ?_
      refine aw_bipush (v := 61) (pc' := 25) dX12_compared_23 rfl bp_61 ?_
      refine aw_icmp_eq (tgt := 35) (pc' := 28) dX12_compared_25 rfl rfl (fun c11 => ?_) (fun c11 => ?_)
      · replace hf := ifp c11 hf
        exact hk4  hf
      · replace hf := ifn c11 hf
        refine aw_iload_n (pc' := 29) dX12_compared_28 rfl rfl ?_
        refine aw_bipush (v := 62) (pc' := 31) dX12_compared_29 rfl bp_62 ?_
        refine aw_icmp_eq (tgt := 35) (pc' := 34) dX12_compared_31 rfl rfl (fun c12 => ?_) (fun c12 => ?_)
        · replace hf := ifp c12 hf
          exact hk4  hf
        · replace hf := ifn c12 hf
          obtain rfl := Option.some.inj hf
          exact aw_rv dX12_compared_34 rfl (Nat.le_of_ble_eq_true rfl) (Nat.le_of_ble_eq_true rfl) ⟨H1, m1⟩
/-! ThirtyThreeBelowModel.all -/
noncomputable def f_X12_all_L4_b (rec : SS → Option SS) (rc : SS → Option SS) (s : SS) : Option SS := (if (zS s 59 48) < (0 : Int32) then (b1 (f_X12_look s) fun r3 => (if r3 = (38 : Int32) then (vl (((zS s 59 47) + (1 : Int32))) fun v5 => (st (pS s 59 47 v5) fun s6 => (b1 (f_X12_compared rec s6) fun s7 => (b1 (f_X12_lay s7 38 0) fun s8 => (rc s8))))) else some s)) else some s)
noncomputable def f_X12_all_L4 (rec : SS → Option SS) : Nat → SS → Option SS
  | 0, _ => none
  | n + 1, s => f_X12_all_L4_b rec (f_X12_all_L4 rec n) s
set_option maxRecDepth 4000 in
theorem t_X12_all_L4 {Dr : Nat} {rec : SS → Option SS} (hrec : ∀ {s0 s9 : SS} {h0 : List aE}, HH s0 h0 → rec s0  = some s9 → AM mX12_operand Dr [.ref 67] h0 0 0 (PV fun h' => HH s9 h' ∧ Mo s0 s9)) {s0 sb s9 : SS} (mb : Mo s0 sb)  : ∀ (n : Nat) (s : SS) (h : List aE), HH s h → Mo sb s → f_X12_all_L4 rec n s = some s9 → AW mX12_all (rmD (Dr + 4) 0 0) (fin (PV fun h' => HH s9 h' ∧ Mo s0 s9) 0 0) 4 [some (.ref 67)] [] h 0 0 := by
  intro n
  induction n with
  | zero =>
    intro s h H ms hf
    cases hf
  | succ n ih =>
    intro s h H ms hf
    replace hf : f_X12_all_L4_b rec (f_X12_all_L4 rec n) s = some s9 := hf
    unfold f_X12_all_L4_b at hf
    refine aw_aload_n (pc' := 5) dX12_all_4 rfl rfl rfl ?_
    refine aw_gi (q := 59) (pc' := 8) H (H.fo rfl rfl) (by decide) rfl dX12_all_5 rfl fl_RX12_322 ?_
    refine aw_zge (tgt := 44) (pc' := 11) dX12_all_8 rfl rfl (fun c2 => ?_) (fun c2 => ?_)
    · replace hf := ifn c2 hf
      obtain rfl := Option.some.inj hf
      exact aw_rv dX12_all_44 rfl (Nat.le_of_ble_eq_true rfl) (Nat.le_of_ble_eq_true rfl) ⟨H, (mb.tr ms)⟩
    · replace hf := ifp c2 hf
      refine aw_aload_n (pc' := 12) dX12_all_11 rfl rfl rfl ?_
      obtain ⟨r3, ec3, hf⟩ := b1_e hf
      refine aw_callVi (M' := mX12_look) (nc' := 0) (ns' := 0) (pc' := 15) dX12_all_12 rfl ml_RX12_337 kX12_look (t_X12_look H ec3) (H.ob (H.fo rfl rfl) (by decide)) rfl rfl rfl (Nat.le_of_ble_eq_true rfl) (rokD (by omega) (Nat.le_of_ble_eq_true rfl) (Nat.le_of_ble_eq_true rfl) (Nat.le_of_ble_eq_true rfl)) rfl rfl (fun _ h3 q3 => ?_)
      obtain ⟨rfl, rfl⟩ := q3
      refine aw_bipush (v := 38) (pc' := 17) dX12_all_15 rfl bp_38 ?_
      refine aw_icmp_ne (tgt := 44) (pc' := 20) dX12_all_17 rfl rfl (fun c4 => ?_) (fun c4 => ?_)
      · replace hf := ifn c4 hf
        obtain rfl := Option.some.inj hf
        exact aw_rv dX12_all_44 rfl (Nat.le_of_ble_eq_true rfl) (Nat.le_of_ble_eq_true rfl) ⟨H, (mb.tr ms)⟩
      · replace hf := ifp c4 hf
        refine aw_aload_n (pc' := 21) dX12_all_20 rfl rfl rfl ?_
        refine aw_dup (pc' := 22) dX12_all_21 rfl rfl ?_
        refine aw_gi (q := 59) (pc' := 25) H (H.fo rfl rfl) (by decide) rfl dX12_all_22 rfl fl_RX12_319 ?_
        refine aw_iconst (v := 1) (pc' := 26) dX12_all_25 rfl ic_1 ?_
        refine aw_iadd (pc' := 27) dX12_all_26 rfl ?_
        obtain ⟨v5, ev5, hf⟩ := vl_e hf
        refine aw_topi ev5 ?_
        obtain ⟨s6, es6, hf⟩ := st_e hf
        refine aw_pi (q := 59) (pc' := 30) es6 H (H.fo rfl rfl) (by decide) rfl dX12_all_27 rfl fl_RX12_319 rfl (fun h6 H6 => ?_)
        have m6 := Mo.ofS es6
        refine aw_aload_n (pc' := 31) dX12_all_30 rfl rfl rfl ?_
        obtain ⟨s7, ec7, hf⟩ := b1_e hf
        refine aw_callVv (M' := mX12_compared) (nc' := 0) (ns' := 0) (pc' := 34) dX12_all_31 rfl ml_RX12_364 kX12_compared (t_X12_compared hrec H6 ec7) (H6.ob (H6.fo rfl rfl) (by decide)) rfl rfl rfl (Nat.le_of_ble_eq_true rfl) (rokD (by omega) (Nat.le_of_ble_eq_true rfl) (Nat.le_of_ble_eq_true rfl) (Nat.le_of_ble_eq_true rfl)) rfl rfl (fun h7 q7 => ?_)
        obtain ⟨H7, m7⟩ := q7
        refine aw_aload_n (pc' := 35) dX12_all_34 rfl rfl rfl ?_
        refine aw_bipush (v := 38) (pc' := 37) dX12_all_35 rfl bp_38 ?_
        refine aw_iconst (v := 0) (pc' := 38) dX12_all_37 rfl ic_0 ?_
        obtain ⟨s8, ec8, hf⟩ := b1_e hf
        refine aw_callVv (M' := mX12_lay) (nc' := 0) (ns' := 0) (pc' := 41) dX12_all_38 rfl ml_RX12_344 kX12_lay (t_X12_lay H7 ec8) (H7.ob (H7.fo rfl rfl) (by decide)) rfl rfl rfl (Nat.le_of_ble_eq_true rfl) (rokD (by omega) (Nat.le_of_ble_eq_true rfl) (Nat.le_of_ble_eq_true rfl) (Nat.le_of_ble_eq_true rfl)) rfl rfl (fun h8 q8 => ?_)
        obtain ⟨H8, m8⟩ := q8
        refine aw_goto (tgt := 4) dX12_all_41 rfl ?_
        exact ih _ _ H8 (((ms.tr m6).tr m7).tr m8) hf
noncomputable def f_X12_all (rec : SS → Option SS) (s0 : SS)  : Option SS := (b1 (f_X12_compared rec s0) fun s1 => (f_X12_all_L4 rec 4000 s1))
set_option maxRecDepth 4000 in
theorem t_X12_all {Dr : Nat} {rec : SS → Option SS} (hrec : ∀ {s0 s9 : SS} {h0 : List aE}, HH s0 h0 → rec s0  = some s9 → AM mX12_operand Dr [.ref 67] h0 0 0 (PV fun h' => HH s9 h' ∧ Mo s0 s9)) {s0 s9 : SS} {h0 : List aE}  (H0 : HH s0 h0) (hf : f_X12_all rec s0 = some s9) : AM mX12_all (Dr + 4) [.ref 67] h0 0 0 (PV fun h' => HH s9 h' ∧ Mo s0 s9) := by
  unfold f_X12_all at hf
  refine am_of (lv := [some (.ref 67)]) rfl (Nat.le_of_ble_eq_true rfl) rfl ?_
  refine aw_aload_n (pc' := 1) dX12_all_0 rfl rfl rfl ?_
  obtain ⟨s1, ec1, hf⟩ := b1_e hf
  refine aw_callVv (M' := mX12_compared) (nc' := 0) (ns' := 0) (pc' := 4) dX12_all_1 rfl ml_RX12_364 kX12_compared (t_X12_compared hrec H0 ec1) (H0.ob (H0.fo rfl rfl) (by decide)) rfl rfl rfl (Nat.le_of_ble_eq_true rfl) (rokD (by omega) (Nat.le_of_ble_eq_true rfl) (Nat.le_of_ble_eq_true rfl) (Nat.le_of_ble_eq_true rfl)) rfl rfl (fun h1 q1 => ?_)
  obtain ⟨H1, m1⟩ := q1
  refine t_X12_all_L4 hrec m1  4000 _ _ H1 (Mo.rf _) hf
/-! ThirtyThreeBelowModel.either -/
noncomputable def f_X12_either_L4_b (rec : SS → Option SS) (rc : SS → Option SS) (s : SS) : Option SS := (if (zS s 59 48) < (0 : Int32) then (b1 (f_X12_look s) fun r3 => (if r3 = (124 : Int32) then (vl (((zS s 59 47) + (1 : Int32))) fun v5 => (st (pS s 59 47 v5) fun s6 => (b1 (f_X12_all rec s6) fun s7 => (b1 (f_X12_lay s7 124 0) fun s8 => (rc s8))))) else some s)) else some s)
noncomputable def f_X12_either_L4 (rec : SS → Option SS) : Nat → SS → Option SS
  | 0, _ => none
  | n + 1, s => f_X12_either_L4_b rec (f_X12_either_L4 rec n) s
set_option maxRecDepth 4000 in
theorem t_X12_either_L4 {Dr : Nat} {rec : SS → Option SS} (hrec : ∀ {s0 s9 : SS} {h0 : List aE}, HH s0 h0 → rec s0  = some s9 → AM mX12_operand Dr [.ref 67] h0 0 0 (PV fun h' => HH s9 h' ∧ Mo s0 s9)) {s0 sb s9 : SS} (mb : Mo s0 sb)  : ∀ (n : Nat) (s : SS) (h : List aE), HH s h → Mo sb s → f_X12_either_L4 rec n s = some s9 → AW mX12_either (rmD (Dr + 5) 0 0) (fin (PV fun h' => HH s9 h' ∧ Mo s0 s9) 0 0) 4 [some (.ref 67)] [] h 0 0 := by
  intro n
  induction n with
  | zero =>
    intro s h H ms hf
    cases hf
  | succ n ih =>
    intro s h H ms hf
    replace hf : f_X12_either_L4_b rec (f_X12_either_L4 rec n) s = some s9 := hf
    unfold f_X12_either_L4_b at hf
    refine aw_aload_n (pc' := 5) dX12_either_4 rfl rfl rfl ?_
    refine aw_gi (q := 59) (pc' := 8) H (H.fo rfl rfl) (by decide) rfl dX12_either_5 rfl fl_RX12_322 ?_
    refine aw_zge (tgt := 44) (pc' := 11) dX12_either_8 rfl rfl (fun c2 => ?_) (fun c2 => ?_)
    · replace hf := ifn c2 hf
      obtain rfl := Option.some.inj hf
      exact aw_rv dX12_either_44 rfl (Nat.le_of_ble_eq_true rfl) (Nat.le_of_ble_eq_true rfl) ⟨H, (mb.tr ms)⟩
    · replace hf := ifp c2 hf
      refine aw_aload_n (pc' := 12) dX12_either_11 rfl rfl rfl ?_
      obtain ⟨r3, ec3, hf⟩ := b1_e hf
      refine aw_callVi (M' := mX12_look) (nc' := 0) (ns' := 0) (pc' := 15) dX12_either_12 rfl ml_RX12_337 kX12_look (t_X12_look H ec3) (H.ob (H.fo rfl rfl) (by decide)) rfl rfl rfl (Nat.le_of_ble_eq_true rfl) (rokD (by omega) (Nat.le_of_ble_eq_true rfl) (Nat.le_of_ble_eq_true rfl) (Nat.le_of_ble_eq_true rfl)) rfl rfl (fun _ h3 q3 => ?_)
      obtain ⟨rfl, rfl⟩ := q3
      refine aw_bipush (v := 124) (pc' := 17) dX12_either_15 rfl bp_124 ?_
      refine aw_icmp_ne (tgt := 44) (pc' := 20) dX12_either_17 rfl rfl (fun c4 => ?_) (fun c4 => ?_)
      · replace hf := ifn c4 hf
        obtain rfl := Option.some.inj hf
        exact aw_rv dX12_either_44 rfl (Nat.le_of_ble_eq_true rfl) (Nat.le_of_ble_eq_true rfl) ⟨H, (mb.tr ms)⟩
      · replace hf := ifp c4 hf
        refine aw_aload_n (pc' := 21) dX12_either_20 rfl rfl rfl ?_
        refine aw_dup (pc' := 22) dX12_either_21 rfl rfl ?_
        refine aw_gi (q := 59) (pc' := 25) H (H.fo rfl rfl) (by decide) rfl dX12_either_22 rfl fl_RX12_319 ?_
        refine aw_iconst (v := 1) (pc' := 26) dX12_either_25 rfl ic_1 ?_
        refine aw_iadd (pc' := 27) dX12_either_26 rfl ?_
        obtain ⟨v5, ev5, hf⟩ := vl_e hf
        refine aw_topi ev5 ?_
        obtain ⟨s6, es6, hf⟩ := st_e hf
        refine aw_pi (q := 59) (pc' := 30) es6 H (H.fo rfl rfl) (by decide) rfl dX12_either_27 rfl fl_RX12_319 rfl (fun h6 H6 => ?_)
        have m6 := Mo.ofS es6
        refine aw_aload_n (pc' := 31) dX12_either_30 rfl rfl rfl ?_
        obtain ⟨s7, ec7, hf⟩ := b1_e hf
        refine aw_callVv (M' := mX12_all) (nc' := 0) (ns' := 0) (pc' := 34) dX12_either_31 rfl ml_RX12_367 kX12_all (t_X12_all hrec H6 ec7) (H6.ob (H6.fo rfl rfl) (by decide)) rfl rfl rfl (Nat.le_of_ble_eq_true rfl) (rokD (by omega) (Nat.le_of_ble_eq_true rfl) (Nat.le_of_ble_eq_true rfl) (Nat.le_of_ble_eq_true rfl)) rfl rfl (fun h7 q7 => ?_)
        obtain ⟨H7, m7⟩ := q7
        refine aw_aload_n (pc' := 35) dX12_either_34 rfl rfl rfl ?_
        refine aw_bipush (v := 124) (pc' := 37) dX12_either_35 rfl bp_124 ?_
        refine aw_iconst (v := 0) (pc' := 38) dX12_either_37 rfl ic_0 ?_
        obtain ⟨s8, ec8, hf⟩ := b1_e hf
        refine aw_callVv (M' := mX12_lay) (nc' := 0) (ns' := 0) (pc' := 41) dX12_either_38 rfl ml_RX12_344 kX12_lay (t_X12_lay H7 ec8) (H7.ob (H7.fo rfl rfl) (by decide)) rfl rfl rfl (Nat.le_of_ble_eq_true rfl) (rokD (by omega) (Nat.le_of_ble_eq_true rfl) (Nat.le_of_ble_eq_true rfl) (Nat.le_of_ble_eq_true rfl)) rfl rfl (fun h8 q8 => ?_)
        obtain ⟨H8, m8⟩ := q8
        refine aw_goto (tgt := 4) dX12_either_41 rfl ?_
        exact ih _ _ H8 (((ms.tr m6).tr m7).tr m8) hf
noncomputable def f_X12_either (rec : SS → Option SS) (s0 : SS)  : Option SS := (b1 (f_X12_all rec s0) fun s1 => (f_X12_either_L4 rec 4000 s1))
set_option maxRecDepth 4000 in
theorem t_X12_either {Dr : Nat} {rec : SS → Option SS} (hrec : ∀ {s0 s9 : SS} {h0 : List aE}, HH s0 h0 → rec s0  = some s9 → AM mX12_operand Dr [.ref 67] h0 0 0 (PV fun h' => HH s9 h' ∧ Mo s0 s9)) {s0 s9 : SS} {h0 : List aE}  (H0 : HH s0 h0) (hf : f_X12_either rec s0 = some s9) : AM mX12_either (Dr + 5) [.ref 67] h0 0 0 (PV fun h' => HH s9 h' ∧ Mo s0 s9) := by
  unfold f_X12_either at hf
  refine am_of (lv := [some (.ref 67)]) rfl (Nat.le_of_ble_eq_true rfl) rfl ?_
  refine aw_aload_n (pc' := 1) dX12_either_0 rfl rfl rfl ?_
  obtain ⟨s1, ec1, hf⟩ := b1_e hf
  refine aw_callVv (M' := mX12_all) (nc' := 0) (ns' := 0) (pc' := 4) dX12_either_1 rfl ml_RX12_367 kX12_all (t_X12_all hrec H0 ec1) (H0.ob (H0.fo rfl rfl) (by decide)) rfl rfl rfl (Nat.le_of_ble_eq_true rfl) (rokD (by omega) (Nat.le_of_ble_eq_true rfl) (Nat.le_of_ble_eq_true rfl) (Nat.le_of_ble_eq_true rfl)) rfl rfl (fun h1 q1 => ?_)
  obtain ⟨H1, m1⟩ := q1
  refine t_X12_either_L4 hrec m1  4000 _ _ H1 (Mo.rf _) hf
/-! ThirtyThreeBelowModel.operand -/
noncomputable def f_X12_operand_L148_b (rec : SS → Option SS) (q0 : SS → Int32 → Int32 → Option SS) (rc : SS → Int32 → Int32 → Option SS) (s : SS) (x2 : Int32) (x3 : Int32) : Option SS := (if x2 < (5 : Int32) then (b1 (f_X12_look s) fun r18 => (b1 (f_X12_in r18 (48 : Int32) (57 : Int32)) fun r19 => (if r19 = (0 : Int32) then (q0 s x2 x3) else (b1 (f_X12_look s) fun r21 => (vl (((((10 : Int32) * x3) + r21) - (48 : Int32))) fun v22 => (vl (x2 + 1) fun v23 => (vl (((zS s 59 47) + (1 : Int32))) fun v24 => (st (pS s 59 47 v24) fun s25 => (rc s25 v23 v22))))))))) else (q0 s x2 x3))
noncomputable def f_X12_operand_L148 (rec : SS → Option SS) (q0 : SS → Int32 → Int32 → Option SS) : Nat → SS → Int32 → Int32 → Option SS
  | 0, _, _, _ => none
  | n + 1, s, x2, x3 => f_X12_operand_L148_b rec q0 (f_X12_operand_L148 rec q0 n) s x2 x3
set_option maxRecDepth 4000 in
theorem t_X12_operand_L148 {Dr : Nat} {rec : SS → Option SS} (hrec : ∀ {s0 s9 : SS} {h0 : List aE}, HH s0 h0 → rec s0  = some s9 → AM mX12_operand Dr [.ref 67] h0 0 0 (PV fun h' => HH s9 h' ∧ Mo s0 s9)) {s0 sb s9 : SS} {q0 : SS → Int32 → Int32 → Option SS} (mb : Mo s0 sb) (hq0 : ∀ (s : SS) (h : List aE) (x2 : Int32) (x3 : Int32), HH s h → Mo sb s → q0 s x2 x3 = some s9 → AW mX12_operand (rmD (Dr + 6) 0 0) (fin (PV fun h' => HH s9 h' ∧ Mo s0 s9) 0 0) 196 [some (.ref 67), none, some (.int x2), some (.int x3)] [] h 0 0) : ∀ (n : Nat) (s : SS) (h : List aE) (x2 : Int32) (x3 : Int32), HH s h → Mo sb s → f_X12_operand_L148 rec q0 n s x2 x3 = some s9 → AW mX12_operand (rmD (Dr + 6) 0 0) (fin (PV fun h' => HH s9 h' ∧ Mo s0 s9) 0 0) 148 [some (.ref 67), none, some (.int x2), some (.int x3)] [] h 0 0 := by
  intro n
  induction n with
  | zero =>
    intro s h x2 x3 H ms hf
    cases hf
  | succ n ih =>
    intro s h x2 x3 H ms hf
    replace hf : f_X12_operand_L148_b rec q0 (f_X12_operand_L148 rec q0 n) s x2 x3 = some s9 := hf
    unfold f_X12_operand_L148_b at hf
    refine aw_iload_n (pc' := 149) dX12_operand_148 rfl rfl ?_
    refine aw_iconst (v := 5) (pc' := 150) dX12_operand_149 rfl ic_5 ?_
    refine aw_cge (tgt := 196) (pc' := 153) dX12_operand_150 rfl rfl (fun c17 => ?_) (fun c17 => ?_)
    · replace hf := ifn c17 hf
      exact hq0 _ _ _ _ H ms hf
    · replace hf := ifp c17 hf
      refine aw_aload_n (pc' := 154) dX12_operand_153 rfl rfl rfl ?_
      obtain ⟨r18, ec18, hf⟩ := b1_e hf
      refine aw_callVi (M' := mX12_look) (nc' := 0) (ns' := 0) (pc' := 157) dX12_operand_154 rfl ml_RX12_337 kX12_look (t_X12_look H ec18) (H.ob (H.fo rfl rfl) (by decide)) rfl rfl rfl (Nat.le_of_ble_eq_true rfl) (rokD (by omega) (Nat.le_of_ble_eq_true rfl) (Nat.le_of_ble_eq_true rfl) (Nat.le_of_ble_eq_true rfl)) rfl rfl (fun _ h18 q18 => ?_)
      obtain ⟨rfl, rfl⟩ := q18
      refine aw_bipush (v := 48) (pc' := 159) dX12_operand_157 rfl bp_48 ?_
      refine aw_bipush (v := 57) (pc' := 161) dX12_operand_159 rfl bp_57 ?_
      obtain ⟨r19, ec19, hf⟩ := b1_e hf
      refine aw_callSi (M' := mX12_in) (nc' := 0) (ns' := 0) (pc' := 164) dX12_operand_161 rfl ml_RX12_230 kX12_in (t_X12_in ec19) rfl rfl (Nat.le_of_ble_eq_true rfl) (rokD (by omega) (Nat.le_of_ble_eq_true rfl) (Nat.le_of_ble_eq_true rfl) (Nat.le_of_ble_eq_true rfl)) rfl rfl (fun _ h19 q19 => ?_)
      obtain ⟨rfl, rfl, zb19⟩ := q19
      refine aw_if_eq (tgt := 196) (pc' := 167) dX12_operand_164 rfl rfl (fun c20 => ?_) (fun c20 => ?_)
      · replace hf := ifp c20 hf
        exact hq0 _ _ _ _ H ms hf
      · replace hf := ifn c20 hf
        refine aw_bipush (v := 10) (pc' := 169) dX12_operand_167 rfl bp_10 ?_
        refine aw_iload_n (pc' := 170) dX12_operand_169 rfl rfl ?_
        refine aw_imul (pc' := 171) dX12_operand_170 rfl ?_
        refine aw_aload_n (pc' := 172) dX12_operand_171 rfl rfl rfl ?_
        obtain ⟨r21, ec21, hf⟩ := b1_e hf
        refine aw_callVi (M' := mX12_look) (nc' := 0) (ns' := 0) (pc' := 175) dX12_operand_172 rfl ml_RX12_337 kX12_look (t_X12_look H ec21) (H.ob (H.fo rfl rfl) (by decide)) rfl rfl rfl (Nat.le_of_ble_eq_true rfl) (rokD (by omega) (Nat.le_of_ble_eq_true rfl) (Nat.le_of_ble_eq_true rfl) (Nat.le_of_ble_eq_true rfl)) rfl rfl (fun _ h21 q21 => ?_)
        obtain ⟨rfl, rfl⟩ := q21
        refine aw_iadd (pc' := 176) dX12_operand_175 rfl ?_
        refine aw_bipush (v := 48) (pc' := 178) dX12_operand_176 rfl bp_48 ?_
        refine aw_isub (pc' := 179) dX12_operand_178 rfl ?_
        obtain ⟨v22, ev22, hf⟩ := vl_e hf
        refine aw_topi ev22 ?_
        refine aw_istore_n (lv' := [_, _, _, _]) (pc' := 180) dX12_operand_179 rfl (Nat.le_of_ble_eq_true rfl) rfl ?_
        obtain ⟨v23, ev23, hf⟩ := vl_e hf
        refine aw_iincV (y := v23) (lv' := [_, _, _, _]) (pc' := 183) dX12_operand_180 rfl rfl (Nat.le_of_ble_eq_true rfl) ev23 rfl ?_
        refine aw_aload_n (pc' := 184) dX12_operand_183 rfl rfl rfl ?_
        refine aw_dup (pc' := 185) dX12_operand_184 rfl rfl ?_
        refine aw_gi (q := 59) (pc' := 188) H (H.fo rfl rfl) (by decide) rfl dX12_operand_185 rfl fl_RX12_319 ?_
        refine aw_iconst (v := 1) (pc' := 189) dX12_operand_188 rfl ic_1 ?_
        refine aw_iadd (pc' := 190) dX12_operand_189 rfl ?_
        obtain ⟨v24, ev24, hf⟩ := vl_e hf
        refine aw_topi ev24 ?_
        obtain ⟨s25, es25, hf⟩ := st_e hf
        refine aw_pi (q := 59) (pc' := 193) es25 H (H.fo rfl rfl) (by decide) rfl dX12_operand_190 rfl fl_RX12_319 rfl (fun h25 H25 => ?_)
        have m25 := Mo.ofS es25
        refine aw_goto (tgt := 148) dX12_operand_193 rfl ?_
        exact ih _ _ _ _ H25 (ms.tr m25) hf
noncomputable def f_X12_operand_r (rec : SS → Option SS) (s0 : SS)  : Option SS := (b1 (f_X12_look s0) fun r1 => (b1 (f_X12_nameOf r1) fun r2 => (if r2 < (0 : Int32) then (jn ((bd (f_X12_opens s0) fun r5 s5 => (if r5 = (0 : Int32) then some s5 else (b1 (rec s5) fun s7 => (vl (((zS s7 59 49) - (1 : Int32))) fun v8 => (st (pS s7 59 49 v8) fun s10 => (jn (fun (t11_0 : Int32) => (b1 (f_X12_lay s10 t11_0 0) fun s12 => some s12)) fun k11 => (if r1 = (33 : Int32) then (k11 3) else (k11 4))))))))) fun k4 => (if r1 = (33 : Int32) then k4 else (if r1 = (45 : Int32) then k4 else (if r1 = (40 : Int32) then (bd (f_X12_opens s0) fun r34 s34 => (if r34 = (0 : Int32) then some s34 else (b1 (f_X12_either rec s34) fun s36 => (if (zS s36 59 48) < (0 : Int32) then (b1 (f_X12_look s36) fun r38 => (if r38 = (41 : Int32) then (vl (((zS s36 59 49) - (1 : Int32))) fun v40 => (st (pS s36 59 49 v40) fun s41 => (vl (((zS s41 59 47) + (1 : Int32))) fun v42 => (st (pS s41 59 47 v42) fun s43 => some s43)))) else (b1 (f_X12_faultHere s36) fun s44 => some s44))) else some s36)))) else (f_X12_operand_L148 rec (fun (s26 : SS) (x26_2 : Int32) (x26_3 : Int32) => (jn ((b1 (f_X12_faultHere s26) fun s28 => some s28)) fun k27 => (if x26_2 = (0 : Int32) then k27 else (b1 (f_X12_look s26) fun r30 => (b1 (f_X12_in r30 (48 : Int32) (57 : Int32)) fun r31 => (if r31 = (0 : Int32) then (b1 (f_X12_lay s26 1 x26_3) fun s33 => some s33) else k27)))))) 4000 s0 0 0))))) else (b1 (f_X12_nameOf r1) fun r45 => (b1 (f_X12_lay s0 2 r45) fun s46 => (vl (((zS s46 59 47) + (1 : Int32))) fun v47 => (st (pS s46 59 47 v47) fun s48 => some s48)))))))
set_option maxRecDepth 4000 in
theorem t_X12_operand_r {Dr : Nat} {rec : SS → Option SS} (hrec : ∀ {s0 s9 : SS} {h0 : List aE}, HH s0 h0 → rec s0  = some s9 → AM mX12_operand Dr [.ref 67] h0 0 0 (PV fun h' => HH s9 h' ∧ Mo s0 s9)) {s0 s9 : SS} {h0 : List aE}  (H0 : HH s0 h0) (hf : f_X12_operand_r rec s0 = some s9) : AM mX12_operand (Dr + 6) [.ref 67] h0 0 0 (PV fun h' => HH s9 h' ∧ Mo s0 s9) := by
  unfold f_X12_operand_r at hf
  refine am_of (lv := [some (.ref 67), none, none, none]) rfl (Nat.le_of_ble_eq_true rfl) rfl ?_
  refine aw_aload_n (pc' := 1) dX12_operand_0 rfl rfl rfl ?_
  obtain ⟨r1, ec1, hf⟩ := b1_e hf
  refine aw_callVi (M' := mX12_look) (nc' := 0) (ns' := 0) (pc' := 4) dX12_operand_1 rfl ml_RX12_337 kX12_look (t_X12_look H0 ec1) (H0.ob (H0.fo rfl rfl) (by decide)) rfl rfl rfl (Nat.le_of_ble_eq_true rfl) (rokD (by omega) (Nat.le_of_ble_eq_true rfl) (Nat.le_of_ble_eq_true rfl) (Nat.le_of_ble_eq_true rfl)) rfl rfl (fun _ h1 q1 => ?_)
  obtain ⟨rfl, rfl⟩ := q1
  refine aw_istore_n (lv' := [_, _, _, _]) (pc' := 5) dX12_operand_4 rfl (Nat.le_of_ble_eq_true rfl) rfl ?_
  refine aw_iload_n (pc' := 6) dX12_operand_5 rfl rfl ?_
  obtain ⟨r2, ec2, hf⟩ := b1_e hf
  refine aw_callSi (M' := mX12_nameOf) (nc' := 0) (ns' := 0) (pc' := 9) dX12_operand_6 rfl ml_RX12_341 kX12_nameOf (t_X12_nameOf ec2) rfl rfl (Nat.le_of_ble_eq_true rfl) (rokD (by omega) (Nat.le_of_ble_eq_true rfl) (Nat.le_of_ble_eq_true rfl) (Nat.le_of_ble_eq_true rfl)) rfl rfl (fun _ h2 q2 => ?_)
  obtain ⟨rfl, rfl⟩ := q2
  refine aw_zlt (tgt := 32) (pc' := 12) dX12_operand_9 rfl rfl (fun c3 => ?_) (fun c3 => ?_)
  · replace hf := ifp c3 hf
    refine aw_iload_n (pc' := 33) dX12_operand_32 rfl rfl ?_
    refine aw_bipush (v := 33) (pc' := 35) dX12_operand_33 rfl bp_33 ?_
    obtain ⟨k4, ek4, hf⟩ := jn_e hf
    have hk4 : k4 = some s9 → AW mX12_operand (rmD (Dr + 6) 0 0) (fin (PV fun h' => HH s9 h' ∧ Mo s0 s9) 0 0) 44 [some (.ref 67), some (.int r1), none, none] [] h0 0 0 := by
      intro hf
      subst ek4
      refine aw_aload_n (pc' := 45) dX12_operand_44 rfl rfl rfl ?_
      obtain ⟨r5, s5, ec5, hf⟩ := bd_e hf
      refine aw_callVi (M' := mX12_opens) (nc' := 0) (ns' := 0) (pc' := 48) dX12_operand_45 rfl ml_RX12_348 kX12_opens (t_X12_opens H0 ec5) (H0.ob (H0.fo rfl rfl) (by decide)) rfl rfl rfl (Nat.le_of_ble_eq_true rfl) (rokD (by omega) (Nat.le_of_ble_eq_true rfl) (Nat.le_of_ble_eq_true rfl) (Nat.le_of_ble_eq_true rfl)) rfl rfl (fun _ h5 q5 => ?_)
      obtain ⟨rfl, H5, m5, zb5⟩ := q5
      refine aw_if_ne (tgt := 52) (pc' := 51) dX12_operand_48 rfl rfl (fun c6 => ?_) (fun c6 => ?_)
      · replace hf := ifn c6 hf
        refine aw_aload_n (pc' := 53) dX12_operand_52 rfl rfl rfl ?_
        obtain ⟨s7, ec7, hf⟩ := b1_e hf
        refine aw_callVv (M' := mX12_operand) (nc' := 0) (ns' := 0) (pc' := 56) dX12_operand_53 rfl ml_RX12_352 kX12_operand (hrec H5 ec7) (H5.ob (H5.fo rfl rfl) (by decide)) rfl rfl rfl (Nat.le_of_ble_eq_true rfl) (rokD (by omega) (Nat.le_of_ble_eq_true rfl) (Nat.le_of_ble_eq_true rfl) (Nat.le_of_ble_eq_true rfl)) rfl rfl (fun h7 q7 => ?_)
        obtain ⟨H7, m7⟩ := q7
        refine aw_aload_n (pc' := 57) dX12_operand_56 rfl rfl rfl ?_
        refine aw_dup (pc' := 58) dX12_operand_57 rfl rfl ?_
        refine aw_gi (q := 59) (pc' := 61) H7 (H7.fo rfl rfl) (l13 rfl) rfl dX12_operand_58 rfl fl_RX12_331 ?_
        refine aw_iconst (v := 1) (pc' := 62) dX12_operand_61 rfl ic_1 ?_
        refine aw_isub (pc' := 63) dX12_operand_62 rfl ?_
        obtain ⟨v8, ev8, hf⟩ := vl_e hf
        refine aw_topi ev8 ?_
        obtain ⟨s10, es10, hf⟩ := st_e hf
        refine aw_pi (q := 59) (pc' := 66) es10 H7 (H7.fo rfl rfl) (by decide) rfl dX12_operand_63 rfl fl_RX12_331 rfl (fun h10 H10 => ?_)
        have m10 := Mo.ofS es10
        refine aw_aload_n (pc' := 67) dX12_operand_66 rfl rfl rfl ?_
        refine aw_iload_n (pc' := 68) dX12_operand_67 rfl rfl ?_
        refine aw_bipush (v := 33) (pc' := 70) dX12_operand_68 rfl bp_33 ?_
        obtain ⟨k11, ek11, hf⟩ := jn_e hf
        have hk11 : ∀ (t11_0 : Int32), k11 t11_0 = some s9 → AW mX12_operand (rmD (Dr + 6) 0 0) (fin (PV fun h' => HH s9 h' ∧ Mo s0 s9) 0 0) 78 [none, none, none, none] [.int t11_0, .ref 67] h10 0 0 := by
          intro t11_0 hf
          subst ek11
          refine aw_iconst (v := 0) (pc' := 79) dX12_operand_78 rfl ic_0 ?_
          obtain ⟨s12, ec12, hf⟩ := b1_e hf
          refine aw_callVv (M' := mX12_lay) (nc' := 0) (ns' := 0) (pc' := 82) dX12_operand_79 rfl ml_RX12_344 kX12_lay (t_X12_lay H10 ec12) (H10.ob (H10.fo rfl rfl) (by decide)) rfl rfl rfl (Nat.le_of_ble_eq_true rfl) (rokD (by omega) (Nat.le_of_ble_eq_true rfl) (Nat.le_of_ble_eq_true rfl) (Nat.le_of_ble_eq_true rfl)) rfl rfl (fun h12 q12 => ?_)
          obtain ⟨H12, m12⟩ := q12
          obtain rfl := Option.some.inj hf
          exact aw_rv dX12_operand_82 rfl (Nat.le_of_ble_eq_true rfl) (Nat.le_of_ble_eq_true rfl) ⟨H12, (((m5.tr m7).tr m10).tr m12)⟩
        clear ek11
        refine aw_icmp_ne (tgt := 77) (pc' := 73) dX12_operand_70 rfl rfl (fun c13 => ?_) (fun c13 => ?_)
        · replace hf := ifn c13 hf
          refine aw_iconst (v := 4) (pc' := 78) dX12_operand_77 rfl ic_4 ?_
          refine AW.lv_le (lz_d (lz_d (lz_d (lz_d lz_0)))) ?_
          exact hk11 _ hf
        · replace hf := ifp c13 hf
          refine aw_iconst (v := 3) (pc' := 74) dX12_operand_73 rfl ic_3 ?_
          refine aw_goto (tgt := 78) dX12_operand_74 rfl ?_
          refine AW.lv_le (lz_d (lz_d (lz_d (lz_d lz_0)))) ?_
          exact hk11 _ hf
      · replace hf := ifp c6 hf
        obtain rfl := Option.some.inj hf
        exact aw_rv dX12_operand_51 rfl (Nat.le_of_ble_eq_true rfl) (Nat.le_of_ble_eq_true rfl) ⟨H5, m5⟩
    clear ek4
    refine aw_icmp_eq (tgt := 44) (pc' := 38) dX12_operand_35 rfl rfl (fun c14 => ?_) (fun c14 => ?_)
    · replace hf := ifp c14 hf
      exact hk4  hf
    · replace hf := ifn c14 hf
      refine aw_iload_n (pc' := 39) dX12_operand_38 rfl rfl ?_
      refine aw_bipush (v := 45) (pc' := 41) dX12_operand_39 rfl bp_45 ?_
      refine aw_icmp_ne (tgt := 83) (pc' := 44) dX12_operand_41 rfl rfl (fun c15 => ?_) (fun c15 => ?_)
      · replace hf := ifn c15 hf
        refine aw_iload_n (pc' := 84) dX12_operand_83 rfl rfl ?_
        refine aw_bipush (v := 40) (pc' := 86) dX12_operand_84 rfl bp_40 ?_
        refine aw_icmp_ne (tgt := 144) (pc' := 89) dX12_operand_86 rfl rfl (fun c16 => ?_) (fun c16 => ?_)
        · replace hf := ifn c16 hf
          refine aw_iconst (v := 0) (pc' := 145) dX12_operand_144 rfl ic_0 ?_
          refine aw_istore_n (lv' := [_, _, _, _]) (pc' := 146) dX12_operand_145 rfl (Nat.le_of_ble_eq_true rfl) rfl ?_
          refine aw_iconst (v := 0) (pc' := 147) dX12_operand_146 rfl ic_0 ?_
          refine aw_istore_n (lv' := [_, _, _, _]) (pc' := 148) dX12_operand_147 rfl (Nat.le_of_ble_eq_true rfl) rfl ?_
          refine AW.lv_le (lz_k (lz_d (lz_k (lz_k lz_0)))) ?_
          refine t_X12_operand_L148 hrec (Mo.rf _) (fun s26 h26 x26_2 x26_3 H26 m26 hf => ?_) 4000 _ _ _ _ H0 (Mo.rf _) hf
          refine aw_iload_n (pc' := 197) dX12_operand_196 rfl rfl ?_
          obtain ⟨k27, ek27, hf⟩ := jn_e hf
          have hk27 : k27 = some s9 → AW mX12_operand (rmD (Dr + 6) 0 0) (fin (PV fun h' => HH s9 h' ∧ Mo s0 s9) 0 0) 214 [some (.ref 67), none, none, none] [] h26 0 0 := by
            intro hf
            subst ek27
            refine aw_aload_n (pc' := 215) dX12_operand_214 rfl rfl rfl ?_
            obtain ⟨s28, ec28, hf⟩ := b1_e hf
            refine aw_callVv (M' := mX12_faultHere) (nc' := 0) (ns' := 0) (pc' := 218) dX12_operand_215 rfl ml_RX12_334 kX12_faultHere (t_X12_faultHere H26 ec28) (H26.ob (H26.fo rfl rfl) (by decide)) rfl rfl rfl (Nat.le_of_ble_eq_true rfl) (rokD (by omega) (Nat.le_of_ble_eq_true rfl) (Nat.le_of_ble_eq_true rfl) (Nat.le_of_ble_eq_true rfl)) rfl rfl (fun h28 q28 => ?_)
            obtain ⟨H28, m28⟩ := q28
            refine aw_goto (tgt := 227) dX12_operand_218 rfl ?_
            obtain rfl := Option.some.inj hf
            exact aw_rv dX12_operand_227 rfl (Nat.le_of_ble_eq_true rfl) (Nat.le_of_ble_eq_true rfl) ⟨H28, (m26.tr m28)⟩
          clear ek27
          refine aw_if_eq (tgt := 214) (pc' := 200) dX12_operand_197 rfl rfl (fun c29 => ?_) (fun c29 => ?_)
          · replace hf := ifp c29 hf
            refine AW.lv_le (lz_k (lz_d (lz_d (lz_d lz_0)))) ?_
            exact hk27  hf
          · replace hf := ifn c29 hf
            refine aw_aload_n (pc' := 201) dX12_operand_200 rfl rfl rfl ?_
            obtain ⟨r30, ec30, hf⟩ := b1_e hf
            refine aw_callVi (M' := mX12_look) (nc' := 0) (ns' := 0) (pc' := 204) dX12_operand_201 rfl ml_RX12_337 kX12_look (t_X12_look H26 ec30) (H26.ob (H26.fo rfl rfl) (by decide)) rfl rfl rfl (Nat.le_of_ble_eq_true rfl) (rokD (by omega) (Nat.le_of_ble_eq_true rfl) (Nat.le_of_ble_eq_true rfl) (Nat.le_of_ble_eq_true rfl)) rfl rfl (fun _ h30 q30 => ?_)
            obtain ⟨rfl, rfl⟩ := q30
            refine aw_bipush (v := 48) (pc' := 206) dX12_operand_204 rfl bp_48 ?_
            refine aw_bipush (v := 57) (pc' := 208) dX12_operand_206 rfl bp_57 ?_
            obtain ⟨r31, ec31, hf⟩ := b1_e hf
            refine aw_callSi (M' := mX12_in) (nc' := 0) (ns' := 0) (pc' := 211) dX12_operand_208 rfl ml_RX12_230 kX12_in (t_X12_in ec31) rfl rfl (Nat.le_of_ble_eq_true rfl) (rokD (by omega) (Nat.le_of_ble_eq_true rfl) (Nat.le_of_ble_eq_true rfl) (Nat.le_of_ble_eq_true rfl)) rfl rfl (fun _ h31 q31 => ?_)
            obtain ⟨rfl, rfl, zb31⟩ := q31
            refine aw_if_eq (tgt := 221) (pc' := 214) dX12_operand_211 rfl rfl (fun c32 => ?_) (fun c32 => ?_)
            · replace hf := ifp c32 hf
              refine aw_aload_n (pc' := 222) dX12_operand_221 rfl rfl rfl ?_
              refine aw_iconst (v := 1) (pc' := 223) dX12_operand_222 rfl ic_1 ?_
              refine aw_iload_n (pc' := 224) dX12_operand_223 rfl rfl ?_
              obtain ⟨s33, ec33, hf⟩ := b1_e hf
              refine aw_callVv (M' := mX12_lay) (nc' := 0) (ns' := 0) (pc' := 227) dX12_operand_224 rfl ml_RX12_344 kX12_lay (t_X12_lay H26 ec33) (H26.ob (H26.fo rfl rfl) (by decide)) rfl rfl rfl (Nat.le_of_ble_eq_true rfl) (rokD (by omega) (Nat.le_of_ble_eq_true rfl) (Nat.le_of_ble_eq_true rfl) (Nat.le_of_ble_eq_true rfl)) rfl rfl (fun h33 q33 => ?_)
              obtain ⟨H33, m33⟩ := q33
              obtain rfl := Option.some.inj hf
              exact aw_rv dX12_operand_227 rfl (Nat.le_of_ble_eq_true rfl) (Nat.le_of_ble_eq_true rfl) ⟨H33, (m26.tr m33)⟩
            · replace hf := ifn c32 hf
              refine AW.lv_le (lz_k (lz_d (lz_d (lz_d lz_0)))) ?_
              exact hk27  hf
        · replace hf := ifp c16 hf
          refine aw_aload_n (pc' := 90) dX12_operand_89 rfl rfl rfl ?_
          obtain ⟨r34, s34, ec34, hf⟩ := bd_e hf
          refine aw_callVi (M' := mX12_opens) (nc' := 0) (ns' := 0) (pc' := 93) dX12_operand_90 rfl ml_RX12_348 kX12_opens (t_X12_opens H0 ec34) (H0.ob (H0.fo rfl rfl) (by decide)) rfl rfl rfl (Nat.le_of_ble_eq_true rfl) (rokD (by omega) (Nat.le_of_ble_eq_true rfl) (Nat.le_of_ble_eq_true rfl) (Nat.le_of_ble_eq_true rfl)) rfl rfl (fun _ h34 q34 => ?_)
          obtain ⟨rfl, H34, m34, zb34⟩ := q34
          refine aw_if_ne (tgt := 97) (pc' := 96) dX12_operand_93 rfl rfl (fun c35 => ?_) (fun c35 => ?_)
          · replace hf := ifn c35 hf
            refine aw_aload_n (pc' := 98) dX12_operand_97 rfl rfl rfl ?_
            obtain ⟨s36, ec36, hf⟩ := b1_e hf
            refine aw_callVv (M' := mX12_either) (nc' := 0) (ns' := 0) (pc' := 101) dX12_operand_98 rfl ml_RX12_355 kX12_either (t_X12_either hrec H34 ec36) (H34.ob (H34.fo rfl rfl) (by decide)) rfl rfl rfl (Nat.le_of_ble_eq_true rfl) (rokD (by omega) (Nat.le_of_ble_eq_true rfl) (Nat.le_of_ble_eq_true rfl) (Nat.le_of_ble_eq_true rfl)) rfl rfl (fun h36 q36 => ?_)
            obtain ⟨H36, m36⟩ := q36
            refine aw_aload_n (pc' := 102) dX12_operand_101 rfl rfl rfl ?_
            refine aw_gi (q := 59) (pc' := 105) H36 (H36.fo rfl rfl) (l13 rfl) rfl dX12_operand_102 rfl fl_RX12_322 ?_
            refine aw_zlt (tgt := 109) (pc' := 108) dX12_operand_105 rfl rfl (fun c37 => ?_) (fun c37 => ?_)
            · replace hf := ifp c37 hf
              refine aw_aload_n (pc' := 110) dX12_operand_109 rfl rfl rfl ?_
              obtain ⟨r38, ec38, hf⟩ := b1_e hf
              refine aw_callVi (M' := mX12_look) (nc' := 0) (ns' := 0) (pc' := 113) dX12_operand_110 rfl ml_RX12_337 kX12_look (t_X12_look H36 ec38) (H36.ob (H36.fo rfl rfl) (by decide)) rfl rfl rfl (Nat.le_of_ble_eq_true rfl) (rokD (by omega) (Nat.le_of_ble_eq_true rfl) (Nat.le_of_ble_eq_true rfl) (Nat.le_of_ble_eq_true rfl)) rfl rfl (fun _ h38 q38 => ?_)
              obtain ⟨rfl, rfl⟩ := q38
              refine aw_bipush (v := 41) (pc' := 115) dX12_operand_113 rfl bp_41 ?_
              refine aw_icmp_eq (tgt := 123) (pc' := 118) dX12_operand_115 rfl rfl (fun c39 => ?_) (fun c39 => ?_)
              · replace hf := ifp c39 hf
                refine aw_aload_n (pc' := 124) dX12_operand_123 rfl rfl rfl ?_
                refine aw_dup (pc' := 125) dX12_operand_124 rfl rfl ?_
                refine aw_gi (q := 59) (pc' := 128) H36 (H36.fo rfl rfl) (l13 rfl) rfl dX12_operand_125 rfl fl_RX12_331 ?_
                refine aw_iconst (v := 1) (pc' := 129) dX12_operand_128 rfl ic_1 ?_
                refine aw_isub (pc' := 130) dX12_operand_129 rfl ?_
                obtain ⟨v40, ev40, hf⟩ := vl_e hf
                refine aw_topi ev40 ?_
                obtain ⟨s41, es41, hf⟩ := st_e hf
                refine aw_pi (q := 59) (pc' := 133) es41 H36 (H36.fo rfl rfl) (by decide) rfl dX12_operand_130 rfl fl_RX12_331 rfl (fun h41 H41 => ?_)
                have m41 := Mo.ofS es41
                refine aw_aload_n (pc' := 134) dX12_operand_133 rfl rfl rfl ?_
                refine aw_dup (pc' := 135) dX12_operand_134 rfl rfl ?_
                refine aw_gi (q := 59) (pc' := 138) H41 (H41.fo rfl rfl) (l13 rfl) rfl dX12_operand_135 rfl fl_RX12_319 ?_
                refine aw_iconst (v := 1) (pc' := 139) dX12_operand_138 rfl ic_1 ?_
                refine aw_iadd (pc' := 140) dX12_operand_139 rfl ?_
                obtain ⟨v42, ev42, hf⟩ := vl_e hf
                refine aw_topi ev42 ?_
                obtain ⟨s43, es43, hf⟩ := st_e hf
                refine aw_pi (q := 59) (pc' := 143) es43 H41 (H41.fo rfl rfl) (by decide) rfl dX12_operand_140 rfl fl_RX12_319 rfl (fun h43 H43 => ?_)
                have m43 := Mo.ofS es43
                obtain rfl := Option.some.inj hf
                exact aw_rv dX12_operand_143 rfl (Nat.le_of_ble_eq_true rfl) (Nat.le_of_ble_eq_true rfl) ⟨H43, (((m34.tr m36).tr m41).tr m43)⟩
              · replace hf := ifn c39 hf
                refine aw_aload_n (pc' := 119) dX12_operand_118 rfl rfl rfl ?_
                obtain ⟨s44, ec44, hf⟩ := b1_e hf
                refine aw_callVv (M' := mX12_faultHere) (nc' := 0) (ns' := 0) (pc' := 122) dX12_operand_119 rfl ml_RX12_334 kX12_faultHere (t_X12_faultHere H36 ec44) (H36.ob (H36.fo rfl rfl) (by decide)) rfl rfl rfl (Nat.le_of_ble_eq_true rfl) (rokD (by omega) (Nat.le_of_ble_eq_true rfl) (Nat.le_of_ble_eq_true rfl) (Nat.le_of_ble_eq_true rfl)) rfl rfl (fun h44 q44 => ?_)
                obtain ⟨H44, m44⟩ := q44
                obtain rfl := Option.some.inj hf
                exact aw_rv dX12_operand_122 rfl (Nat.le_of_ble_eq_true rfl) (Nat.le_of_ble_eq_true rfl) ⟨H44, ((m34.tr m36).tr m44)⟩
            · replace hf := ifn c37 hf
              obtain rfl := Option.some.inj hf
              exact aw_rv dX12_operand_108 rfl (Nat.le_of_ble_eq_true rfl) (Nat.le_of_ble_eq_true rfl) ⟨H36, (m34.tr m36)⟩
          · replace hf := ifp c35 hf
            obtain rfl := Option.some.inj hf
            exact aw_rv dX12_operand_96 rfl (Nat.le_of_ble_eq_true rfl) (Nat.le_of_ble_eq_true rfl) ⟨H34, m34⟩
      · replace hf := ifp c15 hf
        exact hk4  hf
  · replace hf := ifn c3 hf
    refine aw_aload_n (pc' := 13) dX12_operand_12 rfl rfl rfl ?_
    refine aw_iconst (v := 2) (pc' := 14) dX12_operand_13 rfl ic_2 ?_
    refine aw_iload_n (pc' := 15) dX12_operand_14 rfl rfl ?_
    obtain ⟨r45, ec45, hf⟩ := b1_e hf
    refine aw_callSi (M' := mX12_nameOf) (nc' := 0) (ns' := 0) (pc' := 18) dX12_operand_15 rfl ml_RX12_341 kX12_nameOf (t_X12_nameOf ec45) rfl rfl (Nat.le_of_ble_eq_true rfl) (rokD (by omega) (Nat.le_of_ble_eq_true rfl) (Nat.le_of_ble_eq_true rfl) (Nat.le_of_ble_eq_true rfl)) rfl rfl (fun _ h45 q45 => ?_)
    obtain ⟨rfl, rfl⟩ := q45
    obtain ⟨s46, ec46, hf⟩ := b1_e hf
    refine aw_callVv (M' := mX12_lay) (nc' := 0) (ns' := 0) (pc' := 21) dX12_operand_18 rfl ml_RX12_344 kX12_lay (t_X12_lay H0 ec46) (H0.ob (H0.fo rfl rfl) (by decide)) rfl rfl rfl (Nat.le_of_ble_eq_true rfl) (rokD (by omega) (Nat.le_of_ble_eq_true rfl) (Nat.le_of_ble_eq_true rfl) (Nat.le_of_ble_eq_true rfl)) rfl rfl (fun h46 q46 => ?_)
    obtain ⟨H46, m46⟩ := q46
    refine aw_aload_n (pc' := 22) dX12_operand_21 rfl rfl rfl ?_
    refine aw_dup (pc' := 23) dX12_operand_22 rfl rfl ?_
    refine aw_gi (q := 59) (pc' := 26) H46 (H46.fo rfl rfl) (l13 rfl) rfl dX12_operand_23 rfl fl_RX12_319 ?_
    refine aw_iconst (v := 1) (pc' := 27) dX12_operand_26 rfl ic_1 ?_
    refine aw_iadd (pc' := 28) dX12_operand_27 rfl ?_
    obtain ⟨v47, ev47, hf⟩ := vl_e hf
    refine aw_topi ev47 ?_
    obtain ⟨s48, es48, hf⟩ := st_e hf
    refine aw_pi (q := 59) (pc' := 31) es48 H46 (H46.fo rfl rfl) (by decide) rfl dX12_operand_28 rfl fl_RX12_319 rfl (fun h48 H48 => ?_)
    have m48 := Mo.ofS es48
    obtain rfl := Option.some.inj hf
    exact aw_rv dX12_operand_31 rfl (Nat.le_of_ble_eq_true rfl) (Nat.le_of_ble_eq_true rfl) ⟨H48, (m46.tr m48)⟩
noncomputable def f_X12_operand : Nat → SS → Option SS
  | 0, _ => none
  | n + 1, s0 => f_X12_operand_r (f_X12_operand n) s0 
set_option maxRecDepth 4000 in
theorem t_X12_operand : ∀ (n : Nat) {s0 s9 : SS} {h0 : List aE}, HH s0 h0 → f_X12_operand n s0  = some s9 → AM mX12_operand (6 * n) [.ref 67] h0 0 0 (PV fun h' => HH s9 h' ∧ Mo s0 s9) := by
  intro n
  induction n with
  | zero =>
    intro s0 s9 h0  H0 hf
    cases hf
  | succ n ih =>
    intro s0 s9 h0  H0 hf
    exact t_X12_operand_r (Dr := 6 * n) ih H0 hf
/-! ThirtyThreeBelowModel.readLine -/
noncomputable def f_X12_readLine (s0 : SS)  : Option SS := (vl ((zS s0 59 50)) fun v1 => (gd (inB v1 17) (vl ((((90 : Int32) * (zS s0 59 50)) + (zI s0 90 (v1.toInt.toNat)))) fun v3 => (vl ((zS s0 59 51)) fun v4 => (b1 (f_X12_either (f_X12_operand 12) s0) fun s5 => (gd (inB v3 1530) (st (pI s5 91 (v3.toInt.toNat) v4) fun s7 => (jn (fun (s8 : SS)  => (vl ((zS s8 59 51)) fun v10 => (gd (inB v3 1530) (st (pI s8 92 (v3.toInt.toNat) v10) fun s12 => (vl ((zS s12 59 50)) fun v13 => (gd (inB v13 17) (vl (((zI s12 90 (v13.toInt.toNat)) + (1 : Int32))) fun v15 => (vl ((zS s12 59 50)) fun v16 => (gd (inB v16 17) (st (pI s12 90 (v16.toInt.toNat) v15) fun s18 => some s18)))))))))) fun k8 => (if (zS s7 59 48) < (0 : Int32) then (b1 (f_X12_look s7) fun r20 => (if r20 = (63 : Int32) then (vl (((zS s7 59 47) + (1 : Int32))) fun v22 => (st (pS s7 59 47 v22) fun s23 => (vl ((zS s23 59 51)) fun v24 => (gd (inB v3 1530) (st (pI s23 91 (v3.toInt.toNat) v24) fun s26 => (b1 (f_X12_either (f_X12_operand 12) s26) fun s27 => (k8 s27))))))) else (k8 s7))) else (k8 s7))))))))))
set_option maxRecDepth 4000 in
theorem t_X12_readLine {s0 s9 : SS} {h0 : List aE}  (H0 : HH s0 h0) (hf : f_X12_readLine s0 = some s9) : AM mX12_readLine (78) [.ref 67] h0 0 0 (PV fun h' => HH s9 h' ∧ Mo s0 s9) := by
  unfold f_X12_readLine at hf
  refine am_of (lv := [some (.ref 67), none, none]) rfl (Nat.le_of_ble_eq_true rfl) rfl ?_
  refine aw_bipush (v := 90) (pc' := 2) dX12_readLine_0 rfl bp_90 ?_
  refine aw_aload_n (pc' := 3) dX12_readLine_2 rfl rfl rfl ?_
  refine aw_gi (q := 59) (pc' := 6) H0 (H0.fo rfl rfl) (l13 rfl) rfl dX12_readLine_3 rfl fl_RX12_325 ?_
  refine aw_imul (pc' := 7) dX12_readLine_6 rfl ?_
  refine aw_aload_n (pc' := 8) dX12_readLine_7 rfl rfl rfl ?_
  refine aw_gr (q := 59) (e := 63) (v := .ref 98) (pc' := 11) H0 (H0.fo rfl rfl) (l13 rfl) rfl rfl dX12_readLine_8 rfl fl_RX12_109 ?_
  refine aw_aload_n (pc' := 12) dX12_readLine_11 rfl rfl rfl ?_
  refine aw_gi (q := 59) (pc' := 15) H0 (H0.fo rfl rfl) (l13 rfl) rfl dX12_readLine_12 rfl fl_RX12_325 ?_
  obtain ⟨v1, ev1, hf⟩ := vl_e hf
  refine aw_topi ev1 ?_
  obtain ⟨g2, hf⟩ := gd_e hf
  refine aw_ia (q := 90) (pc' := 16) H0 (H0.fa rfl rfl rfl) g2 dX12_readLine_15 rfl ?_
  refine aw_iadd (pc' := 17) dX12_readLine_16 rfl ?_
  obtain ⟨v3, ev3, hf⟩ := vl_e hf
  refine aw_topi ev3 ?_
  refine aw_istore_n (lv' := [_, _, _]) (pc' := 18) dX12_readLine_17 rfl (Nat.le_of_ble_eq_true rfl) rfl ?_
  refine aw_aload_n (pc' := 19) dX12_readLine_18 rfl rfl rfl ?_
  refine aw_gi (q := 59) (pc' := 22) H0 (H0.fo rfl rfl) (l13 rfl) rfl dX12_readLine_19 rfl fl_RX12_328 ?_
  obtain ⟨v4, ev4, hf⟩ := vl_e hf
  refine aw_topi ev4 ?_
  refine aw_istore_n (lv' := [_, _, _]) (pc' := 23) dX12_readLine_22 rfl (Nat.le_of_ble_eq_true rfl) rfl ?_
  refine aw_aload_n (pc' := 24) dX12_readLine_23 rfl rfl rfl ?_
  obtain ⟨s5, ec5, hf⟩ := b1_e hf
  refine aw_callVv (M' := mX12_either) (nc' := 0) (ns' := 0) (pc' := 27) dX12_readLine_24 rfl ml_RX12_355 kX12_either (t_X12_either (t_X12_operand 12) H0 ec5) (H0.ob (H0.fo rfl rfl) (by decide)) rfl rfl rfl (Nat.le_of_ble_eq_true rfl) (rokD (by omega) (Nat.le_of_ble_eq_true rfl) (Nat.le_of_ble_eq_true rfl) (Nat.le_of_ble_eq_true rfl)) rfl rfl (fun h5 q5 => ?_)
  obtain ⟨H5, m5⟩ := q5
  refine aw_aload_n (pc' := 28) dX12_readLine_27 rfl rfl rfl ?_
  refine aw_gr (q := 59) (e := 65) (v := .ref 99) (pc' := 31) H5 (H5.fo rfl rfl) (l13 rfl) rfl rfl dX12_readLine_28 rfl fl_RX12_112 ?_
  refine aw_iload_n (pc' := 32) dX12_readLine_31 rfl rfl ?_
  refine aw_iload_n (pc' := 33) dX12_readLine_32 rfl rfl ?_
  obtain ⟨g6, hf⟩ := gd_e hf
  obtain ⟨s7, es7, hf⟩ := st_e hf
  refine aw_is (q := 91) (pc' := 34) es7 H5 (H5.fa rfl rfl rfl) g6 dX12_readLine_33 rfl (fun h7 H7 => ?_)
  have m7 := Mo.ofI es7
  refine aw_aload_n (pc' := 35) dX12_readLine_34 rfl rfl rfl ?_
  refine aw_gi (q := 59) (pc' := 38) H7 (H7.fo rfl rfl) (l13 rfl) rfl dX12_readLine_35 rfl fl_RX12_322 ?_
  obtain ⟨k8, ek8, hf⟩ := jn_e hf
  have hk8 : ∀ (s8 : SS) (h8 : List aE), HH s8 h8 → Mo s7 s8 → k8 s8 = some s9 → AW mX12_readLine (rmD (78) 0 0) (fin (PV fun h' => HH s9 h' ∧ Mo s0 s9) 0 0) 74 [some (.ref 67), some (.int v3), none] [] h8 0 0 := by
    intro s8 h8 H8 m8 hf
    subst ek8
    refine aw_aload_n (pc' := 75) dX12_readLine_74 rfl rfl rfl ?_
    refine aw_gr (q := 59) (e := 67) (v := .ref 100) (pc' := 78) H8 (H8.fo rfl rfl) (l13 rfl) rfl rfl dX12_readLine_75 rfl fl_RX12_115 ?_
    refine aw_iload_n (pc' := 79) dX12_readLine_78 rfl rfl ?_
    refine aw_aload_n (pc' := 80) dX12_readLine_79 rfl rfl rfl ?_
    refine aw_gi (q := 59) (pc' := 83) H8 (H8.fo rfl rfl) (l13 rfl) rfl dX12_readLine_80 rfl fl_RX12_328 ?_
    obtain ⟨v10, ev10, hf⟩ := vl_e hf
    refine aw_topi ev10 ?_
    obtain ⟨g11, hf⟩ := gd_e hf
    obtain ⟨s12, es12, hf⟩ := st_e hf
    refine aw_is (q := 92) (pc' := 84) es12 H8 (H8.fa rfl rfl rfl) g11 dX12_readLine_83 rfl (fun h12 H12 => ?_)
    have m12 := Mo.ofI es12
    refine aw_aload_n (pc' := 85) dX12_readLine_84 rfl rfl rfl ?_
    refine aw_gr (q := 59) (e := 63) (v := .ref 98) (pc' := 88) H12 (H12.fo rfl rfl) (l13 rfl) rfl rfl dX12_readLine_85 rfl fl_RX12_109 ?_
    refine aw_aload_n (pc' := 89) dX12_readLine_88 rfl rfl rfl ?_
    refine aw_gi (q := 59) (pc' := 92) H12 (H12.fo rfl rfl) (l13 rfl) rfl dX12_readLine_89 rfl fl_RX12_325 ?_
    refine aw_dup2 (pc' := 93) dX12_readLine_92 rfl rfl rfl ?_
    obtain ⟨v13, ev13, hf⟩ := vl_e hf
    refine aw_topi ev13 ?_
    obtain ⟨g14, hf⟩ := gd_e hf
    refine aw_ia (q := 90) (pc' := 94) H12 (H12.fa rfl rfl rfl) g14 dX12_readLine_93 rfl ?_
    refine aw_iconst (v := 1) (pc' := 95) dX12_readLine_94 rfl ic_1 ?_
    refine aw_iadd (pc' := 96) dX12_readLine_95 rfl ?_
    obtain ⟨v15, ev15, hf⟩ := vl_e hf
    refine aw_topi ev15 ?_
    obtain ⟨v16, ev16, hf⟩ := vl_e hf
    refine aw_sndi ev16 ?_
    obtain ⟨g17, hf⟩ := gd_e hf
    obtain ⟨s18, es18, hf⟩ := st_e hf
    refine aw_is (q := 90) (pc' := 97) es18 H12 (H12.fa rfl rfl rfl) g17 dX12_readLine_96 rfl (fun h18 H18 => ?_)
    have m18 := Mo.ofI es18
    obtain rfl := Option.some.inj hf
    exact aw_rv dX12_readLine_97 rfl (Nat.le_of_ble_eq_true rfl) (Nat.le_of_ble_eq_true rfl) ⟨H18, ((((m5.tr m7).tr m8).tr m12).tr m18)⟩
  clear ek8
  refine aw_zge (tgt := 74) (pc' := 41) dX12_readLine_38 rfl rfl (fun c19 => ?_) (fun c19 => ?_)
  · replace hf := ifn c19 hf
    refine AW.lv_le (lz_k (lz_k (lz_d lz_0))) ?_
    exact hk8 _ _ H7 (Mo.rf _) hf
  · replace hf := ifp c19 hf
    refine aw_aload_n (pc' := 42) dX12_readLine_41 rfl rfl rfl ?_
    obtain ⟨r20, ec20, hf⟩ := b1_e hf
    refine aw_callVi (M' := mX12_look) (nc' := 0) (ns' := 0) (pc' := 45) dX12_readLine_42 rfl ml_RX12_337 kX12_look (t_X12_look H7 ec20) (H7.ob (H7.fo rfl rfl) (by decide)) rfl rfl rfl (Nat.le_of_ble_eq_true rfl) (rokD (by omega) (Nat.le_of_ble_eq_true rfl) (Nat.le_of_ble_eq_true rfl) (Nat.le_of_ble_eq_true rfl)) rfl rfl (fun _ h20 q20 => ?_)
    obtain ⟨rfl, rfl⟩ := q20
    refine aw_bipush (v := 63) (pc' := 47) dX12_readLine_45 rfl bp_63 ?_
    refine aw_icmp_ne (tgt := 74) (pc' := 50) dX12_readLine_47 rfl rfl (fun c21 => ?_) (fun c21 => ?_)
    · replace hf := ifn c21 hf
      refine AW.lv_le (lz_k (lz_k (lz_d lz_0))) ?_
      exact hk8 _ _ H7 (Mo.rf _) hf
    · replace hf := ifp c21 hf
      refine aw_aload_n (pc' := 51) dX12_readLine_50 rfl rfl rfl ?_
      refine aw_dup (pc' := 52) dX12_readLine_51 rfl rfl ?_
      refine aw_gi (q := 59) (pc' := 55) H7 (H7.fo rfl rfl) (l13 rfl) rfl dX12_readLine_52 rfl fl_RX12_319 ?_
      refine aw_iconst (v := 1) (pc' := 56) dX12_readLine_55 rfl ic_1 ?_
      refine aw_iadd (pc' := 57) dX12_readLine_56 rfl ?_
      obtain ⟨v22, ev22, hf⟩ := vl_e hf
      refine aw_topi ev22 ?_
      obtain ⟨s23, es23, hf⟩ := st_e hf
      refine aw_pi (q := 59) (pc' := 60) es23 H7 (H7.fo rfl rfl) (by decide) rfl dX12_readLine_57 rfl fl_RX12_319 rfl (fun h23 H23 => ?_)
      have m23 := Mo.ofS es23
      refine aw_aload_n (pc' := 61) dX12_readLine_60 rfl rfl rfl ?_
      refine aw_gr (q := 59) (e := 65) (v := .ref 99) (pc' := 64) H23 (H23.fo rfl rfl) (l13 rfl) rfl rfl dX12_readLine_61 rfl fl_RX12_112 ?_
      refine aw_iload_n (pc' := 65) dX12_readLine_64 rfl rfl ?_
      refine aw_aload_n (pc' := 66) dX12_readLine_65 rfl rfl rfl ?_
      refine aw_gi (q := 59) (pc' := 69) H23 (H23.fo rfl rfl) (l13 rfl) rfl dX12_readLine_66 rfl fl_RX12_328 ?_
      obtain ⟨v24, ev24, hf⟩ := vl_e hf
      refine aw_topi ev24 ?_
      obtain ⟨g25, hf⟩ := gd_e hf
      obtain ⟨s26, es26, hf⟩ := st_e hf
      refine aw_is (q := 91) (pc' := 70) es26 H23 (H23.fa rfl rfl rfl) g25 dX12_readLine_69 rfl (fun h26 H26 => ?_)
      have m26 := Mo.ofI es26
      refine aw_aload_n (pc' := 71) dX12_readLine_70 rfl rfl rfl ?_
      obtain ⟨s27, ec27, hf⟩ := b1_e hf
      refine aw_callVv (M' := mX12_either) (nc' := 0) (ns' := 0) (pc' := 74) dX12_readLine_71 rfl ml_RX12_355 kX12_either (t_X12_either (t_X12_operand 12) H26 ec27) (H26.ob (H26.fo rfl rfl) (by decide)) rfl rfl rfl (Nat.le_of_ble_eq_true rfl) (rokD (by omega) (Nat.le_of_ble_eq_true rfl) (Nat.le_of_ble_eq_true rfl) (Nat.le_of_ble_eq_true rfl)) rfl rfl (fun h27 q27 => ?_)
      obtain ⟨H27, m27⟩ := q27
      refine AW.lv_le (lz_k (lz_k (lz_d lz_0))) ?_
      exact hk8 _ _ H27 ((m23.tr m26).tr m27) hf
/-! ThirtyThreeBelowModel.isWhat -/
noncomputable def f_X12_isWhat (a0 : Int32) : Option Int32 := (b1 (f_X12_in a0 (0 : Int32) (12 : Int32)) fun r1 => (if r1 = (0 : Int32) then some 0 else (if (2 : Int32) < (a0 % (10 : Int32)) then some 0 else some 1)))
set_option maxRecDepth 4000 in
theorem t_X12_isWhat {r9 : Int32} {h0 : List aE} {a0 : Int32}  (hf : f_X12_isWhat a0 = some r9) : AM mX12_isWhat (1) [.int a0] h0 0 0 (PI fun r' h' => r9 = r' ∧ h0 = h' ∧ (r9 = 0 ∨ r9 = 1)) := by
  unfold f_X12_isWhat at hf
  refine am_of (lv := [some (.int a0)]) rfl (Nat.le_of_ble_eq_true rfl) rfl ?_
  refine aw_iload_n (pc' := 1) dX12_isWhat_0 rfl rfl ?_
  refine aw_iconst (v := 0) (pc' := 2) dX12_isWhat_1 rfl ic_0 ?_
  refine aw_bipush (v := 12) (pc' := 4) dX12_isWhat_2 rfl bp_12 ?_
  obtain ⟨r1, ec1, hf⟩ := b1_e hf
  refine aw_callSi (M' := mX12_in) (nc' := 0) (ns' := 0) (pc' := 7) dX12_isWhat_4 rfl ml_RX12_230 kX12_in (t_X12_in ec1) rfl rfl (Nat.le_of_ble_eq_true rfl) (rokD (by omega) (Nat.le_of_ble_eq_true rfl) (Nat.le_of_ble_eq_true rfl) (Nat.le_of_ble_eq_true rfl)) rfl rfl (fun _ h1 q1 => ?_)
  obtain ⟨rfl, rfl, zb1⟩ := q1
  refine aw_if_eq (tgt := 22) (pc' := 10) dX12_isWhat_7 rfl rfl (fun c2 => ?_) (fun c2 => ?_)
  · replace hf := ifp c2 hf
    refine aw_iconst (v := 0) (pc' := 23) dX12_isWhat_22 rfl ic_0 ?_
    obtain rfl := Option.some.inj hf
    exact aw_ri dX12_isWhat_23 rfl (by decide) (Nat.le_of_ble_eq_true rfl) (Nat.le_of_ble_eq_true rfl) ⟨rfl, rfl, Or.inl rfl⟩
  · replace hf := ifn c2 hf
    refine aw_iload_n (pc' := 11) dX12_isWhat_10 rfl rfl ?_
    refine aw_bipush (v := 10) (pc' := 13) dX12_isWhat_11 rfl bp_10 ?_
    refine aw_irem (pc' := 14) dX12_isWhat_13 rfl (by decide) ?_
    refine aw_iconst (v := 2) (pc' := 15) dX12_isWhat_14 rfl ic_2 ?_
    refine aw_cgt (tgt := 22) (pc' := 18) dX12_isWhat_15 rfl rfl (fun c3 => ?_) (fun c3 => ?_)
    · replace hf := ifp c3 hf
      refine aw_iconst (v := 0) (pc' := 23) dX12_isWhat_22 rfl ic_0 ?_
      obtain rfl := Option.some.inj hf
      exact aw_ri dX12_isWhat_23 rfl (by decide) (Nat.le_of_ble_eq_true rfl) (Nat.le_of_ble_eq_true rfl) ⟨rfl, rfl, Or.inl rfl⟩
    · replace hf := ifn c3 hf
      refine aw_iconst (v := 1) (pc' := 19) dX12_isWhat_18 rfl ic_1 ?_
      refine aw_goto (tgt := 23) dX12_isWhat_19 rfl ?_
      obtain rfl := Option.some.inj hf
      exact aw_ri dX12_isWhat_23 rfl (by decide) (Nat.le_of_ble_eq_true rfl) (Nat.le_of_ble_eq_true rfl) ⟨rfl, rfl, Or.inr rfl⟩
/-! ThirtyThreeBelowModel.text -/
noncomputable def f_X12_text_L77_b (q0 : SS → Option (Int32 × SS)) (y1 : Int32) (y2 : Int32) (rc : SS → Option (Int32 × SS)) (s : SS) : Option (Int32 × SS) := (if (zS s 59 48) < (0 : Int32) then (b1 (f_X12_look s) fun r18 => (if r18 = (59 : Int32) then (vl (((zS s 59 47) + (1 : Int32))) fun v20 => (st (pS s 59 47 v20) fun s21 => (b1 (f_X12_readLine s21) fun s22 => (rc s22)))) else (q0 s))) else (q0 s))
noncomputable def f_X12_text_L77 (q0 : SS → Option (Int32 × SS)) (y1 : Int32) (y2 : Int32) : Nat → SS → Option (Int32 × SS)
  | 0, _ => none
  | n + 1, s => f_X12_text_L77_b q0 y1 y2 (f_X12_text_L77 q0 y1 y2 n) s
set_option maxRecDepth 4000 in
theorem t_X12_text_L77 {r9 : Int32} {s0 sb s9 : SS} {q0 : SS → Option (Int32 × SS)} {y1 : Int32} {y2 : Int32} (mb : Mo s0 sb) (hq0 : ∀ (s : SS) (h : List aE), HH s h → Mo sb s → q0 s = some (r9, s9) → AW mX12_text (rmD (79) 0 0) (fin (PI fun r' h' => r9 = r' ∧ HH s9 h' ∧ Mo s0 s9) 0 0) 110 [some (.ref 67), some (.int y1), some (.int y2)] [] h 0 0) : ∀ (n : Nat) (s : SS) (h : List aE), HH s h → Mo sb s → f_X12_text_L77 q0 y1 y2 n s = some (r9, s9) → AW mX12_text (rmD (79) 0 0) (fin (PI fun r' h' => r9 = r' ∧ HH s9 h' ∧ Mo s0 s9) 0 0) 77 [some (.ref 67), some (.int y1), some (.int y2)] [] h 0 0 := by
  intro n
  induction n with
  | zero =>
    intro s h H ms hf
    cases hf
  | succ n ih =>
    intro s h H ms hf
    replace hf : f_X12_text_L77_b q0 y1 y2 (f_X12_text_L77 q0 y1 y2 n) s = some (r9, s9) := hf
    unfold f_X12_text_L77_b at hf
    refine aw_aload_n (pc' := 78) dX12_text_77 rfl rfl rfl ?_
    refine aw_gi (q := 59) (pc' := 81) H (H.fo rfl rfl) (by decide) rfl dX12_text_78 rfl fl_RX12_322 ?_
    refine aw_zge (tgt := 110) (pc' := 84) dX12_text_81 rfl rfl (fun c17 => ?_) (fun c17 => ?_)
    · replace hf := ifn c17 hf
      exact hq0 _ _ H ms hf
    · replace hf := ifp c17 hf
      refine aw_aload_n (pc' := 85) dX12_text_84 rfl rfl rfl ?_
      obtain ⟨r18, ec18, hf⟩ := b1_e hf
      refine aw_callVi (M' := mX12_look) (nc' := 0) (ns' := 0) (pc' := 88) dX12_text_85 rfl ml_RX12_337 kX12_look (t_X12_look H ec18) (H.ob (H.fo rfl rfl) (by decide)) rfl rfl rfl (Nat.le_of_ble_eq_true rfl) (rokD (by omega) (Nat.le_of_ble_eq_true rfl) (Nat.le_of_ble_eq_true rfl) (Nat.le_of_ble_eq_true rfl)) rfl rfl (fun _ h18 q18 => ?_)
      obtain ⟨rfl, rfl⟩ := q18
      refine aw_bipush (v := 59) (pc' := 90) dX12_text_88 rfl bp_59 ?_
      refine aw_icmp_ne (tgt := 110) (pc' := 93) dX12_text_90 rfl rfl (fun c19 => ?_) (fun c19 => ?_)
      · replace hf := ifn c19 hf
        exact hq0 _ _ H ms hf
      · replace hf := ifp c19 hf
        refine aw_aload_n (pc' := 94) dX12_text_93 rfl rfl rfl ?_
        refine aw_dup (pc' := 95) dX12_text_94 rfl rfl ?_
        refine aw_gi (q := 59) (pc' := 98) H (H.fo rfl rfl) (by decide) rfl dX12_text_95 rfl fl_RX12_319 ?_
        refine aw_iconst (v := 1) (pc' := 99) dX12_text_98 rfl ic_1 ?_
        refine aw_iadd (pc' := 100) dX12_text_99 rfl ?_
        obtain ⟨v20, ev20, hf⟩ := vl_e hf
        refine aw_topi ev20 ?_
        obtain ⟨s21, es21, hf⟩ := st_e hf
        refine aw_pi (q := 59) (pc' := 103) es21 H (H.fo rfl rfl) (by decide) rfl dX12_text_100 rfl fl_RX12_319 rfl (fun h21 H21 => ?_)
        have m21 := Mo.ofS es21
        refine aw_aload_n (pc' := 104) dX12_text_103 rfl rfl rfl ?_
        obtain ⟨s22, ec22, hf⟩ := b1_e hf
        refine aw_callVv (M' := mX12_readLine) (nc' := 0) (ns' := 0) (pc' := 107) dX12_text_104 rfl ml_RX12_376 kX12_readLine (t_X12_readLine H21 ec22) (H21.ob (H21.fo rfl rfl) (by decide)) rfl rfl rfl (Nat.le_of_ble_eq_true rfl) (rokD (by omega) (Nat.le_of_ble_eq_true rfl) (Nat.le_of_ble_eq_true rfl) (Nat.le_of_ble_eq_true rfl)) rfl rfl (fun h22 q22 => ?_)
        obtain ⟨H22, m22⟩ := q22
        refine aw_goto (tgt := 77) dX12_text_107 rfl ?_
        exact ih _ _ H22 ((ms.tr m21).tr m22) hf
noncomputable def f_X12_text (s0 : SS) (a0 : Int32) (a1 : Int32) : Option (Int32 × SS) := (b1 (f_X12_isWhat a0) fun r1 => (if r1 = (0 : Int32) then some ((-1), s0) else (b1 (f_X12_in a1 (zS s0 59 1) (1699 : Int32)) fun r3 => (if r3 = (0 : Int32) then some ((-1), s0) else (if (zS s0 59 38) = (16 : Int32) then some ((-3), s0) else (vl ((zS s0 59 38)) fun v6 => (st (pS s0 59 50 v6) fun s7 => (vl ((zS s7 59 50)) fun v8 => (gd (inB v8 17) (st (pI s7 90 (v8.toInt.toNat) 0) fun s11 => (st (pS s11 59 51 0) fun s12 => (st (pS s12 59 47 0) fun s13 => (st (pS s13 59 48 (-1)) fun s14 => (st (pS s14 59 49 0) fun s15 => (b1 (f_X12_readLine s15) fun s16 => (f_X12_text_L77 (fun (s23 : SS)  => (jn (fun (s24 : SS)  => (st (pS s24 59 37 0) fun s25 => (if (zS s25 59 48) < (0 : Int32) then (vl ((zS s25 59 38)) fun v27 => (gd (inB v27 16) (st (pI s25 87 (v27.toInt.toNat) a0) fun s29 => (vl ((zS s29 59 1)) fun v30 => (vl ((zS s29 59 38)) fun v31 => (gd (inB v31 16) (st (pI s29 88 (v31.toInt.toNat) v30) fun s33 => (vl ((zS s33 59 38)) fun v34 => (gd (inB v34 16) (st (pI s33 89 (v34.toInt.toNat) a1) fun s36 => (vl (((zS s36 59 38) + (1 : Int32))) fun v37 => (st (pS s36 59 38 v37) fun s38 => some (((zS s38 59 38) - (1 : Int32)), s38))))))))))))) else some ((((-100) : Int32) - (zS s25 59 48)), s25)))) fun k24 => (if (zS s23 59 48) < (0 : Int32) then (if (zS s23 59 47) < (zS s23 59 37) then (b1 (f_X12_faultHere s23) fun s41 => (k24 s41)) else (k24 s23)) else (k24 s23)))) a0 a1 4000 s16))))))))))))))))
set_option maxRecDepth 4000 in
theorem t_X12_text {r9 : Int32} {s0 s9 : SS} {h0 : List aE} {a0 : Int32} {a1 : Int32} (H0 : HH s0 h0) (hf : f_X12_text s0 a0 a1 = some (r9, s9)) : AM mX12_text (79) [.ref 67, .int a0, .int a1] h0 0 0 (PI fun r' h' => r9 = r' ∧ HH s9 h' ∧ Mo s0 s9) := by
  unfold f_X12_text at hf
  refine am_of (lv := [some (.ref 67), some (.int a0), some (.int a1)]) rfl (Nat.le_of_ble_eq_true rfl) rfl ?_
  refine aw_iload_n (pc' := 1) dX12_text_0 rfl rfl ?_
  obtain ⟨r1, ec1, hf⟩ := b1_e hf
  refine aw_callSi (M' := mX12_isWhat) (nc' := 0) (ns' := 0) (pc' := 4) dX12_text_1 rfl ml_RX12_370 kX12_isWhat (t_X12_isWhat ec1) rfl rfl (Nat.le_of_ble_eq_true rfl) (rokD (by omega) (Nat.le_of_ble_eq_true rfl) (Nat.le_of_ble_eq_true rfl) (Nat.le_of_ble_eq_true rfl)) rfl rfl (fun _ h1 q1 => ?_)
  obtain ⟨rfl, rfl, zb1⟩ := q1
  refine aw_if_eq (tgt := 21) (pc' := 7) dX12_text_4 rfl rfl (fun c2 => ?_) (fun c2 => ?_)
  · replace hf := ifp c2 hf
    refine aw_iconst (v := (-1)) (pc' := 22) dX12_text_21 rfl ic_m1 ?_
    obtain ⟨rfl, rfl⟩ := so2 hf
    exact aw_ri dX12_text_22 rfl rfl (Nat.le_of_ble_eq_true rfl) (Nat.le_of_ble_eq_true rfl) ⟨rfl, H0, (Mo.rf _)⟩
  · replace hf := ifn c2 hf
    refine aw_iload_n (pc' := 8) dX12_text_7 rfl rfl ?_
    refine aw_aload_n (pc' := 9) dX12_text_8 rfl rfl rfl ?_
    refine aw_gi (q := 59) (pc' := 12) H0 (H0.fo rfl rfl) (l13 rfl) rfl dX12_text_9 rfl fl_RX12_281 ?_
    refine aw_sipush (v := 1699) (pc' := 15) dX12_text_12 rfl sp_1699 ?_
    obtain ⟨r3, ec3, hf⟩ := b1_e hf
    refine aw_callSi (M' := mX12_in) (nc' := 0) (ns' := 0) (pc' := 18) dX12_text_15 rfl ml_RX12_230 kX12_in (t_X12_in ec3) rfl rfl (Nat.le_of_ble_eq_true rfl) (rokD (by omega) (Nat.le_of_ble_eq_true rfl) (Nat.le_of_ble_eq_true rfl) (Nat.le_of_ble_eq_true rfl)) rfl rfl (fun _ h3 q3 => ?_)
    obtain ⟨rfl, rfl, zb3⟩ := q3
    refine aw_if_ne (tgt := 23) (pc' := 21) dX12_text_18 rfl rfl (fun c4 => ?_) (fun c4 => ?_)
    · replace hf := ifn c4 hf
      refine aw_aload_n (pc' := 24) dX12_text_23 rfl rfl rfl ?_
      refine aw_gi (q := 59) (pc' := 27) H0 (H0.fo rfl rfl) (l13 rfl) rfl dX12_text_24 rfl fl_RX12_373 ?_
      refine aw_bipush (v := 16) (pc' := 29) dX12_text_27 rfl bp_16 ?_
      refine aw_icmp_ne (tgt := 35) (pc' := 32) dX12_text_29 rfl rfl (fun c5 => ?_) (fun c5 => ?_)
      · replace hf := ifn c5 hf
        refine aw_aload_n (pc' := 36) dX12_text_35 rfl rfl rfl ?_
        refine aw_aload_n (pc' := 37) dX12_text_36 rfl rfl rfl ?_
        refine aw_gi (q := 59) (pc' := 40) H0 (H0.fo rfl rfl) (l13 rfl) rfl dX12_text_37 rfl fl_RX12_373 ?_
        obtain ⟨v6, ev6, hf⟩ := vl_e hf
        refine aw_topi ev6 ?_
        obtain ⟨s7, es7, hf⟩ := st_e hf
        refine aw_pi (q := 59) (pc' := 43) es7 H0 (H0.fo rfl rfl) (by decide) rfl dX12_text_40 rfl fl_RX12_325 rfl (fun h7 H7 => ?_)
        have m7 := Mo.ofS es7
        refine aw_aload_n (pc' := 44) dX12_text_43 rfl rfl rfl ?_
        refine aw_gr (q := 59) (e := 63) (v := .ref 98) (pc' := 47) H7 (H7.fo rfl rfl) (l13 rfl) rfl rfl dX12_text_44 rfl fl_RX12_109 ?_
        refine aw_aload_n (pc' := 48) dX12_text_47 rfl rfl rfl ?_
        refine aw_gi (q := 59) (pc' := 51) H7 (H7.fo rfl rfl) (l13 rfl) rfl dX12_text_48 rfl fl_RX12_325 ?_
        refine aw_iconst (v := 0) (pc' := 52) dX12_text_51 rfl ic_0 ?_
        obtain ⟨v8, ev8, hf⟩ := vl_e hf
        refine aw_sndi ev8 ?_
        obtain ⟨g10, hf⟩ := gd_e hf
        obtain ⟨s11, es11, hf⟩ := st_e hf
        refine aw_is (q := 90) (pc' := 53) es11 H7 (H7.fa rfl rfl rfl) g10 dX12_text_52 rfl (fun h11 H11 => ?_)
        have m11 := Mo.ofI es11
        refine aw_aload_n (pc' := 54) dX12_text_53 rfl rfl rfl ?_
        refine aw_iconst (v := 0) (pc' := 55) dX12_text_54 rfl ic_0 ?_
        obtain ⟨s12, es12, hf⟩ := st_e hf
        refine aw_pi (q := 59) (pc' := 58) es12 H11 (H11.fo rfl rfl) (by decide) rfl dX12_text_55 rfl fl_RX12_328 rfl (fun h12 H12 => ?_)
        have m12 := Mo.ofS es12
        refine aw_aload_n (pc' := 59) dX12_text_58 rfl rfl rfl ?_
        refine aw_iconst (v := 0) (pc' := 60) dX12_text_59 rfl ic_0 ?_
        obtain ⟨s13, es13, hf⟩ := st_e hf
        refine aw_pi (q := 59) (pc' := 63) es13 H12 (H12.fo rfl rfl) (by decide) rfl dX12_text_60 rfl fl_RX12_319 rfl (fun h13 H13 => ?_)
        have m13 := Mo.ofS es13
        refine aw_aload_n (pc' := 64) dX12_text_63 rfl rfl rfl ?_
        refine aw_iconst (v := (-1)) (pc' := 65) dX12_text_64 rfl ic_m1 ?_
        obtain ⟨s14, es14, hf⟩ := st_e hf
        refine aw_pi (q := 59) (pc' := 68) es14 H13 (H13.fo rfl rfl) (by decide) rfl dX12_text_65 rfl fl_RX12_322 rfl (fun h14 H14 => ?_)
        have m14 := Mo.ofS es14
        refine aw_aload_n (pc' := 69) dX12_text_68 rfl rfl rfl ?_
        refine aw_iconst (v := 0) (pc' := 70) dX12_text_69 rfl ic_0 ?_
        obtain ⟨s15, es15, hf⟩ := st_e hf
        refine aw_pi (q := 59) (pc' := 73) es15 H14 (H14.fo rfl rfl) (by decide) rfl dX12_text_70 rfl fl_RX12_331 rfl (fun h15 H15 => ?_)
        have m15 := Mo.ofS es15
        refine aw_aload_n (pc' := 74) dX12_text_73 rfl rfl rfl ?_
        obtain ⟨s16, ec16, hf⟩ := b1_e hf
        refine aw_callVv (M' := mX12_readLine) (nc' := 0) (ns' := 0) (pc' := 77) dX12_text_74 rfl ml_RX12_376 kX12_readLine (t_X12_readLine H15 ec16) (H15.ob (H15.fo rfl rfl) (by decide)) rfl rfl rfl (Nat.le_of_ble_eq_true rfl) (rokD (by omega) (Nat.le_of_ble_eq_true rfl) (Nat.le_of_ble_eq_true rfl) (Nat.le_of_ble_eq_true rfl)) rfl rfl (fun h16 q16 => ?_)
        obtain ⟨H16, m16⟩ := q16
        refine t_X12_text_L77 ((((((m7.tr m11).tr m12).tr m13).tr m14).tr m15).tr m16) (fun s23 h23 H23 m23 hf => ?_) 4000 _ _ H16 (Mo.rf _) hf
        refine aw_aload_n (pc' := 111) dX12_text_110 rfl rfl rfl ?_
        refine aw_gi (q := 59) (pc' := 114) H23 (H23.fo rfl rfl) (l13 rfl) rfl dX12_text_111 rfl fl_RX12_322 ?_
        obtain ⟨k24, ek24, hf⟩ := jn_e hf
        have hk24 : ∀ (s24 : SS) (h24 : List aE), HH s24 h24 → Mo s23 s24 → k24 s24 = some (r9, s9) → AW mX12_text (rmD (79) 0 0) (fin (PI fun r' h' => r9 = r' ∧ HH s9 h' ∧ Mo s0 s9) 0 0) 132 [some (.ref 67), some (.int a0), some (.int a1)] [] h24 0 0 := by
          intro s24 h24 H24 m24 hf
          subst ek24
          refine aw_aload_n (pc' := 133) dX12_text_132 rfl rfl rfl ?_
          refine aw_iconst (v := 0) (pc' := 134) dX12_text_133 rfl ic_0 ?_
          obtain ⟨s25, es25, hf⟩ := st_e hf
          refine aw_pi (q := 59) (pc' := 137) es25 H24 (H24.fo rfl rfl) (by decide) rfl dX12_text_134 rfl fl_RX12_316 rfl (fun h25 H25 => ?_)
          have m25 := Mo.ofS es25
          refine aw_aload_n (pc' := 138) dX12_text_137 rfl rfl rfl ?_
          refine aw_gi (q := 59) (pc' := 141) H25 (H25.fo rfl rfl) (l13 rfl) rfl dX12_text_138 rfl fl_RX12_322 ?_
          refine aw_zlt (tgt := 152) (pc' := 144) dX12_text_141 rfl rfl (fun c26 => ?_) (fun c26 => ?_)
          · replace hf := ifp c26 hf
            refine aw_aload_n (pc' := 153) dX12_text_152 rfl rfl rfl ?_
            refine aw_gr (q := 59) (e := 57) (v := .ref 95) (pc' := 156) H25 (H25.fo rfl rfl) (l13 rfl) rfl rfl dX12_text_153 rfl fl_RX12_100 ?_
            refine aw_aload_n (pc' := 157) dX12_text_156 rfl rfl rfl ?_
            refine aw_gi (q := 59) (pc' := 160) H25 (H25.fo rfl rfl) (l13 rfl) rfl dX12_text_157 rfl fl_RX12_373 ?_
            refine aw_iload_n (pc' := 161) dX12_text_160 rfl rfl ?_
            obtain ⟨v27, ev27, hf⟩ := vl_e hf
            refine aw_sndi ev27 ?_
            obtain ⟨g28, hf⟩ := gd_e hf
            obtain ⟨s29, es29, hf⟩ := st_e hf
            refine aw_is (q := 87) (pc' := 162) es29 H25 (H25.fa rfl rfl rfl) g28 dX12_text_161 rfl (fun h29 H29 => ?_)
            have m29 := Mo.ofI es29
            refine aw_aload_n (pc' := 163) dX12_text_162 rfl rfl rfl ?_
            refine aw_gr (q := 59) (e := 59) (v := .ref 96) (pc' := 166) H29 (H29.fo rfl rfl) (l13 rfl) rfl rfl dX12_text_163 rfl fl_RX12_103 ?_
            refine aw_aload_n (pc' := 167) dX12_text_166 rfl rfl rfl ?_
            refine aw_gi (q := 59) (pc' := 170) H29 (H29.fo rfl rfl) (l13 rfl) rfl dX12_text_167 rfl fl_RX12_373 ?_
            refine aw_aload_n (pc' := 171) dX12_text_170 rfl rfl rfl ?_
            refine aw_gi (q := 59) (pc' := 174) H29 (H29.fo rfl rfl) (l13 rfl) rfl dX12_text_171 rfl fl_RX12_281 ?_
            obtain ⟨v30, ev30, hf⟩ := vl_e hf
            refine aw_topi ev30 ?_
            obtain ⟨v31, ev31, hf⟩ := vl_e hf
            refine aw_sndi ev31 ?_
            obtain ⟨g32, hf⟩ := gd_e hf
            obtain ⟨s33, es33, hf⟩ := st_e hf
            refine aw_is (q := 88) (pc' := 175) es33 H29 (H29.fa rfl rfl rfl) g32 dX12_text_174 rfl (fun h33 H33 => ?_)
            have m33 := Mo.ofI es33
            refine aw_aload_n (pc' := 176) dX12_text_175 rfl rfl rfl ?_
            refine aw_gr (q := 59) (e := 61) (v := .ref 97) (pc' := 179) H33 (H33.fo rfl rfl) (l13 rfl) rfl rfl dX12_text_176 rfl fl_RX12_106 ?_
            refine aw_aload_n (pc' := 180) dX12_text_179 rfl rfl rfl ?_
            refine aw_gi (q := 59) (pc' := 183) H33 (H33.fo rfl rfl) (l13 rfl) rfl dX12_text_180 rfl fl_RX12_373 ?_
            refine aw_iload_n (pc' := 184) dX12_text_183 rfl rfl ?_
            obtain ⟨v34, ev34, hf⟩ := vl_e hf
            refine aw_sndi ev34 ?_
            obtain ⟨g35, hf⟩ := gd_e hf
            obtain ⟨s36, es36, hf⟩ := st_e hf
            refine aw_is (q := 89) (pc' := 185) es36 H33 (H33.fa rfl rfl rfl) g35 dX12_text_184 rfl (fun h36 H36 => ?_)
            have m36 := Mo.ofI es36
            refine aw_aload_n (pc' := 186) dX12_text_185 rfl rfl rfl ?_
            refine aw_dup (pc' := 187) dX12_text_186 rfl rfl ?_
            refine aw_gi (q := 59) (pc' := 190) H36 (H36.fo rfl rfl) (l13 rfl) rfl dX12_text_187 rfl fl_RX12_373 ?_
            refine aw_iconst (v := 1) (pc' := 191) dX12_text_190 rfl ic_1 ?_
            refine aw_iadd (pc' := 192) dX12_text_191 rfl ?_
            obtain ⟨v37, ev37, hf⟩ := vl_e hf
            refine aw_topi ev37 ?_
            obtain ⟨s38, es38, hf⟩ := st_e hf
            refine aw_pi (q := 59) (pc' := 195) es38 H36 (H36.fo rfl rfl) (by decide) rfl dX12_text_192 rfl fl_RX12_373 rfl (fun h38 H38 => ?_)
            have m38 := Mo.ofS es38
            refine aw_aload_n (pc' := 196) dX12_text_195 rfl rfl rfl ?_
            refine aw_gi (q := 59) (pc' := 199) H38 (H38.fo rfl rfl) (l13 rfl) rfl dX12_text_196 rfl fl_RX12_373 ?_
            refine aw_iconst (v := 1) (pc' := 200) dX12_text_199 rfl ic_1 ?_
            refine aw_isub (pc' := 201) dX12_text_200 rfl ?_
            obtain ⟨rfl, rfl⟩ := so2 hf
            exact aw_ri dX12_text_201 rfl rfl (Nat.le_of_ble_eq_true rfl) (Nat.le_of_ble_eq_true rfl) ⟨rfl, H38, (((((((((((((m7.tr m11).tr m12).tr m13).tr m14).tr m15).tr m16).tr m23).tr m24).tr m25).tr m29).tr m33).tr m36).tr m38)⟩
          · replace hf := ifn c26 hf
            refine aw_bipush (v := (-100)) (pc' := 146) dX12_text_144 rfl bp_m100 ?_
            refine aw_aload_n (pc' := 147) dX12_text_146 rfl rfl rfl ?_
            refine aw_gi (q := 59) (pc' := 150) H25 (H25.fo rfl rfl) (l13 rfl) rfl dX12_text_147 rfl fl_RX12_322 ?_
            refine aw_isub (pc' := 151) dX12_text_150 rfl ?_
            obtain ⟨rfl, rfl⟩ := so2 hf
            exact aw_ri dX12_text_151 rfl rfl (Nat.le_of_ble_eq_true rfl) (Nat.le_of_ble_eq_true rfl) ⟨rfl, H25, (((((((((m7.tr m11).tr m12).tr m13).tr m14).tr m15).tr m16).tr m23).tr m24).tr m25)⟩
        clear ek24
        refine aw_zge (tgt := 132) (pc' := 117) dX12_text_114 rfl rfl (fun c39 => ?_) (fun c39 => ?_)
        · replace hf := ifn c39 hf
          exact hk24 _ _ H23 (Mo.rf _) hf
        · replace hf := ifp c39 hf
          refine aw_aload_n (pc' := 118) dX12_text_117 rfl rfl rfl ?_
          refine aw_gi (q := 59) (pc' := 121) H23 (H23.fo rfl rfl) (l13 rfl) rfl dX12_text_118 rfl fl_RX12_319 ?_
          refine aw_aload_n (pc' := 122) dX12_text_121 rfl rfl rfl ?_
          refine aw_gi (q := 59) (pc' := 125) H23 (H23.fo rfl rfl) (l13 rfl) rfl dX12_text_122 rfl fl_RX12_316 ?_
          refine aw_cge (tgt := 132) (pc' := 128) dX12_text_125 rfl rfl (fun c40 => ?_) (fun c40 => ?_)
          · replace hf := ifn c40 hf
            exact hk24 _ _ H23 (Mo.rf _) hf
          · replace hf := ifp c40 hf
            refine aw_aload_n (pc' := 129) dX12_text_128 rfl rfl rfl ?_
            obtain ⟨s41, ec41, hf⟩ := b1_e hf
            refine aw_callVv (M' := mX12_faultHere) (nc' := 0) (ns' := 0) (pc' := 132) dX12_text_129 rfl ml_RX12_334 kX12_faultHere (t_X12_faultHere H23 ec41) (H23.ob (H23.fo rfl rfl) (by decide)) rfl rfl rfl (Nat.le_of_ble_eq_true rfl) (rokD (by omega) (Nat.le_of_ble_eq_true rfl) (Nat.le_of_ble_eq_true rfl) (Nat.le_of_ble_eq_true rfl)) rfl rfl (fun h41 q41 => ?_)
            obtain ⟨H41, m41⟩ := q41
            exact hk24 _ _ H41 m41 hf
      · replace hf := ifp c5 hf
        refine aw_bipush (v := (-3)) (pc' := 34) dX12_text_32 rfl bp_m3 ?_
        obtain ⟨rfl, rfl⟩ := so2 hf
        exact aw_ri dX12_text_34 rfl rfl (Nat.le_of_ble_eq_true rfl) (Nat.le_of_ble_eq_true rfl) ⟨rfl, H0, (Mo.rf _)⟩
    · replace hf := ifp c4 hf
      refine aw_iconst (v := (-1)) (pc' := 22) dX12_text_21 rfl ic_m1 ?_
      obtain ⟨rfl, rfl⟩ := so2 hf
      exact aw_ri dX12_text_22 rfl rfl (Nat.le_of_ble_eq_true rfl) (Nat.le_of_ble_eq_true rfl) ⟨rfl, H0, (Mo.rf _)⟩
/-! ThirtyThreeBelowModel.forceOf -/
noncomputable def f_X12_forceOf_L23_b (s0 : SS) (y1 : Int32) (y2 : Int32) (y3 : Int32) (y4 : Int32) (rc : Int32 → Option Int32) (x5 : Int32) : Option Int32 := (if x5 < (0 : Int32) then some (-2) else (gd (inB x5 16) (jn ((vl (x5 + (-1)) fun v7 => (rc v7))) fun k6 => (if ((zI s0 87 (x5.toInt.toNat)) % (10 : Int32)) = (y1 % (10 : Int32)) then (gd (inB x5 16) (jn ((gd (inB x5 16) (if y3 < (zI s0 88 (x5.toInt.toNat)) then k6 else (gd (inB x5 16) (if y2 < (zI s0 89 (x5.toInt.toNat)) then k6 else some x5))))) fun k11 => (if ((zI s0 87 (x5.toInt.toNat)) / (10 : Int32)) = (y1 / (10 : Int32)) then k11 else (if y4 = (0 : Int32) then k6 else k11)))) else k6))))
noncomputable def f_X12_forceOf_L23 (s0 : SS) (y1 : Int32) (y2 : Int32) (y3 : Int32) (y4 : Int32) : Nat → Int32 → Option Int32
  | 0, _ => none
  | n + 1, x5 => f_X12_forceOf_L23_b s0 y1 y2 y3 y4 (f_X12_forceOf_L23 s0 y1 y2 y3 y4 n) x5
set_option maxRecDepth 4000 in
theorem t_X12_forceOf_L23 {r9 : Int32} {s0 : SS} {h0 : List aE} {y1 : Int32} {y2 : Int32} {y3 : Int32} {y4 : Int32} (H0 : HH s0 h0)  : ∀ (n : Nat) (x5 : Int32), f_X12_forceOf_L23 s0 y1 y2 y3 y4 n x5 = some r9 → AW mX12_forceOf (rmD (1) 0 0) (fin (PI fun r' h' => r9 = r' ∧ h0 = h') 0 0) 23 [some (.ref 67), some (.int y1), some (.int y2), some (.int y3), some (.int y4), some (.int x5)] [] h0 0 0 := by
  intro n
  induction n with
  | zero =>
    intro x5 hf
    cases hf
  | succ n ih =>
    intro x5 hf
    replace hf : f_X12_forceOf_L23_b s0 y1 y2 y3 y4 (f_X12_forceOf_L23 s0 y1 y2 y3 y4 n) x5 = some r9 := hf
    unfold f_X12_forceOf_L23_b at hf
    refine aw_iload (pc' := 25) dX12_forceOf_23 rfl rfl ?_
    refine aw_zlt (tgt := 98) (pc' := 28) dX12_forceOf_25 rfl rfl (fun c4 => ?_) (fun c4 => ?_)
    · replace hf := ifp c4 hf
      refine aw_bipush (v := (-2)) (pc' := 100) dX12_forceOf_98 rfl bp_m2 ?_
      obtain rfl := Option.some.inj hf
      exact aw_ri dX12_forceOf_100 rfl rfl (Nat.le_of_ble_eq_true rfl) (Nat.le_of_ble_eq_true rfl) ⟨rfl, rfl⟩
    · replace hf := ifn c4 hf
      refine aw_aload_n (pc' := 29) dX12_forceOf_28 rfl rfl rfl ?_
      refine aw_gr (q := 59) (e := 57) (v := .ref 95) (pc' := 32) H0 (H0.fo rfl rfl) (l13 rfl) rfl rfl dX12_forceOf_29 rfl fl_RX12_100 ?_
      refine aw_iload (pc' := 34) dX12_forceOf_32 rfl rfl ?_
      obtain ⟨g5, hf⟩ := gd_e hf
      refine aw_ia (q := 87) (pc' := 35) H0 (H0.fa rfl rfl rfl) g5 dX12_forceOf_34 rfl ?_
      refine aw_bipush (v := 10) (pc' := 37) dX12_forceOf_35 rfl bp_10 ?_
      refine aw_irem (pc' := 38) dX12_forceOf_37 rfl (by decide) ?_
      refine aw_iload_n (pc' := 39) dX12_forceOf_38 rfl rfl ?_
      refine aw_bipush (v := 10) (pc' := 41) dX12_forceOf_39 rfl bp_10 ?_
      refine aw_irem (pc' := 42) dX12_forceOf_41 rfl (by decide) ?_
      obtain ⟨k6, ek6, hf⟩ := jn_e hf
      have hk6 : k6 = some r9 → AW mX12_forceOf (rmD (1) 0 0) (fin (PI fun r' h' => r9 = r' ∧ h0 = h') 0 0) 92 [some (.ref 67), some (.int y1), some (.int y2), some (.int y3), some (.int y4), some (.int x5)] [] h0 0 0 := by
        intro hf
        subst ek6
        obtain ⟨v7, ev7, hf⟩ := vl_e hf
        refine aw_iincV (y := v7) (lv' := [_, _, _, _, _, _]) (pc' := 95) dX12_forceOf_92 rfl rfl (Nat.le_of_ble_eq_true rfl) ev7 rfl ?_
        refine aw_goto (tgt := 23) dX12_forceOf_95 rfl ?_
        exact ih _ hf
      clear ek6
      refine aw_icmp_ne (tgt := 92) (pc' := 45) dX12_forceOf_42 rfl rfl (fun c8 => ?_) (fun c8 => ?_)
      · replace hf := ifn c8 hf
        exact hk6  hf
      · replace hf := ifp c8 hf
        refine aw_aload_n (pc' := 46) dX12_forceOf_45 rfl rfl rfl ?_
        refine aw_gr (q := 59) (e := 57) (v := .ref 95) (pc' := 49) H0 (H0.fo rfl rfl) (l13 rfl) rfl rfl dX12_forceOf_46 rfl fl_RX12_100 ?_
        refine aw_iload (pc' := 51) dX12_forceOf_49 rfl rfl ?_
        obtain ⟨g10, hf⟩ := gd_e hf
        refine aw_ia (q := 87) (pc' := 52) H0 (H0.fa rfl rfl rfl) g10 dX12_forceOf_51 rfl ?_
        refine aw_bipush (v := 10) (pc' := 54) dX12_forceOf_52 rfl bp_10 ?_
        refine aw_idiv (pc' := 55) dX12_forceOf_54 rfl (by decide) ?_
        refine aw_iload_n (pc' := 56) dX12_forceOf_55 rfl rfl ?_
        refine aw_bipush (v := 10) (pc' := 58) dX12_forceOf_56 rfl bp_10 ?_
        refine aw_idiv (pc' := 59) dX12_forceOf_58 rfl (by decide) ?_
        obtain ⟨k11, ek11, hf⟩ := jn_e hf
        have hk11 : k11 = some r9 → AW mX12_forceOf (rmD (1) 0 0) (fin (PI fun r' h' => r9 = r' ∧ h0 = h') 0 0) 67 [some (.ref 67), some (.int y1), some (.int y2), some (.int y3), some (.int y4), some (.int x5)] [] h0 0 0 := by
          intro hf
          subst ek11
          refine aw_aload_n (pc' := 68) dX12_forceOf_67 rfl rfl rfl ?_
          refine aw_gr (q := 59) (e := 59) (v := .ref 96) (pc' := 71) H0 (H0.fo rfl rfl) (l13 rfl) rfl rfl dX12_forceOf_68 rfl fl_RX12_103 ?_
          refine aw_iload (pc' := 73) dX12_forceOf_71 rfl rfl ?_
          obtain ⟨g12, hf⟩ := gd_e hf
          refine aw_ia (q := 88) (pc' := 74) H0 (H0.fa rfl rfl rfl) g12 dX12_forceOf_73 rfl ?_
          refine aw_iload_n (pc' := 75) dX12_forceOf_74 rfl rfl ?_
          refine aw_cgt (tgt := 92) (pc' := 78) dX12_forceOf_75 rfl rfl (fun c13 => ?_) (fun c13 => ?_)
          · replace hf := ifp c13 hf
            exact hk6  hf
          · replace hf := ifn c13 hf
            refine aw_aload_n (pc' := 79) dX12_forceOf_78 rfl rfl rfl ?_
            refine aw_gr (q := 59) (e := 61) (v := .ref 97) (pc' := 82) H0 (H0.fo rfl rfl) (l13 rfl) rfl rfl dX12_forceOf_79 rfl fl_RX12_106 ?_
            refine aw_iload (pc' := 84) dX12_forceOf_82 rfl rfl ?_
            obtain ⟨g14, hf⟩ := gd_e hf
            refine aw_ia (q := 89) (pc' := 85) H0 (H0.fa rfl rfl rfl) g14 dX12_forceOf_84 rfl ?_
            refine aw_iload_n (pc' := 86) dX12_forceOf_85 rfl rfl ?_
            refine aw_cgt (tgt := 92) (pc' := 89) dX12_forceOf_86 rfl rfl (fun c15 => ?_) (fun c15 => ?_)
            · replace hf := ifp c15 hf
              exact hk6  hf
            · replace hf := ifn c15 hf
              refine aw_iload (pc' := 91) dX12_forceOf_89 rfl rfl ?_
              obtain rfl := Option.some.inj hf
              exact aw_ri dX12_forceOf_91 rfl rfl (Nat.le_of_ble_eq_true rfl) (Nat.le_of_ble_eq_true rfl) ⟨rfl, rfl⟩
        clear ek11
        refine aw_icmp_eq (tgt := 67) (pc' := 62) dX12_forceOf_59 rfl rfl (fun c16 => ?_) (fun c16 => ?_)
        · replace hf := ifp c16 hf
          exact hk11  hf
        · replace hf := ifn c16 hf
          refine aw_iload (pc' := 64) dX12_forceOf_62 rfl rfl ?_
          refine aw_if_eq (tgt := 92) (pc' := 67) dX12_forceOf_64 rfl rfl (fun c17 => ?_) (fun c17 => ?_)
          · replace hf := ifp c17 hf
            exact hk6  hf
          · replace hf := ifn c17 hf
            exact hk11  hf
noncomputable def f_X12_forceOf (s0 : SS) (a0 : Int32) (a1 : Int32) (a2 : Int32) : Option Int32 := (b1 (f_X12_firstThrough s0) fun r1 => (jn (fun (t2_0 : Int32) => (vl (((zS s0 59 38) - (1 : Int32))) fun v3 => (f_X12_forceOf_L23 s0 a0 a1 a2 t2_0 4000 v3))) fun k2 => (if a2 < r1 then (k2 0) else (k2 1))))
set_option maxRecDepth 4000 in
theorem t_X12_forceOf {r9 : Int32} {s0 : SS} {h0 : List aE} {a0 : Int32} {a1 : Int32} {a2 : Int32} (H0 : HH s0 h0) (hf : f_X12_forceOf s0 a0 a1 a2 = some r9) : AM mX12_forceOf (1) [.ref 67, .int a0, .int a1, .int a2] h0 0 0 (PI fun r' h' => r9 = r' ∧ h0 = h') := by
  unfold f_X12_forceOf at hf
  refine am_of (lv := [some (.ref 67), some (.int a0), some (.int a1), some (.int a2), none, none]) rfl (Nat.le_of_ble_eq_true rfl) rfl ?_
  refine aw_aload_n (pc' := 1) dX12_forceOf_0 rfl rfl rfl ?_
  obtain ⟨r1, ec1, hf⟩ := b1_e hf
  refine aw_callVi (M' := mX12_firstThrough) (nc' := 0) (ns' := 0) (pc' := 4) dX12_forceOf_1 rfl ml_RX12_379 kX12_firstThrough (t_X12_firstThrough H0 ec1) (H0.ob (H0.fo rfl rfl) (by decide)) rfl rfl rfl (Nat.le_of_ble_eq_true rfl) (rokD (by omega) (Nat.le_of_ble_eq_true rfl) (Nat.le_of_ble_eq_true rfl) (Nat.le_of_ble_eq_true rfl)) rfl rfl (fun _ h1 q1 => ?_)
  obtain ⟨rfl, rfl⟩ := q1
  refine aw_iload_n (pc' := 5) dX12_forceOf_4 rfl rfl ?_
  obtain ⟨k2, ek2, hf⟩ := jn_e hf
  have hk2 : ∀ (t2_0 : Int32), k2 t2_0 = some r9 → AW mX12_forceOf (rmD (1) 0 0) (fin (PI fun r' h' => r9 = r' ∧ h0 = h') 0 0) 13 [some (.ref 67), some (.int a0), some (.int a1), some (.int a2), none, none] [.int t2_0] h0 0 0 := by
    intro t2_0 hf
    subst ek2
    refine aw_istore (lv' := [_, _, _, _, _, _]) (pc' := 15) dX12_forceOf_13 rfl (Nat.le_of_ble_eq_true rfl) rfl ?_
    refine aw_aload_n (pc' := 16) dX12_forceOf_15 rfl rfl rfl ?_
    refine aw_gi (q := 59) (pc' := 19) H0 (H0.fo rfl rfl) (l13 rfl) rfl dX12_forceOf_16 rfl fl_RX12_373 ?_
    refine aw_iconst (v := 1) (pc' := 20) dX12_forceOf_19 rfl ic_1 ?_
    refine aw_isub (pc' := 21) dX12_forceOf_20 rfl ?_
    obtain ⟨v3, ev3, hf⟩ := vl_e hf
    refine aw_topi ev3 ?_
    refine aw_istore (lv' := [_, _, _, _, _, _]) (pc' := 23) dX12_forceOf_21 rfl (Nat.le_of_ble_eq_true rfl) rfl ?_
    refine t_X12_forceOf_L23 H0  4000 _ hf
  clear ek2
  refine aw_cgt (tgt := 12) (pc' := 8) dX12_forceOf_5 rfl rfl (fun c18 => ?_) (fun c18 => ?_)
  · replace hf := ifp c18 hf
    refine aw_iconst (v := 0) (pc' := 13) dX12_forceOf_12 rfl ic_0 ?_
    exact hk2 _ hf
  · replace hf := ifn c18 hf
    refine aw_iconst (v := 1) (pc' := 9) dX12_forceOf_8 rfl ic_1 ?_
    refine aw_goto (tgt := 13) dX12_forceOf_9 rfl ?_
    exact hk2 _ hf
/-! ThirtyThreeBelowModel.inForce -/
noncomputable def f_X12_inForce (s0 : SS) (a0 : Int32) (a1 : Int32) (a2 : Int32) : Option Int32 := (b1 (f_X12_isWhat a0) fun r1 => (if r1 = (0 : Int32) then some (-1) else (b1 (f_X12_isHour a1) fun r3 => (if r3 = (0 : Int32) then some (-1) else (b1 (f_X12_isHour a2) fun r5 => (if r5 = (0 : Int32) then some (-1) else (b1 (f_X12_forceOf s0 a0 a1 a2) fun r7 => some r7)))))))
set_option maxRecDepth 4000 in
theorem t_X12_inForce {r9 : Int32} {s0 : SS} {h0 : List aE} {a0 : Int32} {a1 : Int32} {a2 : Int32} (H0 : HH s0 h0) (hf : f_X12_inForce s0 a0 a1 a2 = some r9) : AM mX12_inForce (2) [.ref 67, .int a0, .int a1, .int a2] h0 0 0 (PI fun r' h' => r9 = r' ∧ h0 = h') := by
  unfold f_X12_inForce at hf
  refine am_of (lv := [some (.ref 67), some (.int a0), some (.int a1), some (.int a2)]) rfl (Nat.le_of_ble_eq_true rfl) rfl ?_
  refine aw_iload_n (pc' := 1) dX12_inForce_0 rfl rfl ?_
  obtain ⟨r1, ec1, hf⟩ := b1_e hf
  refine aw_callSi (M' := mX12_isWhat) (nc' := 0) (ns' := 0) (pc' := 4) dX12_inForce_1 rfl ml_RX12_370 kX12_isWhat (t_X12_isWhat ec1) rfl rfl (Nat.le_of_ble_eq_true rfl) (rokD (by omega) (Nat.le_of_ble_eq_true rfl) (Nat.le_of_ble_eq_true rfl) (Nat.le_of_ble_eq_true rfl)) rfl rfl (fun _ h1 q1 => ?_)
  obtain ⟨rfl, rfl, zb1⟩ := q1
  refine aw_if_eq (tgt := 31) (pc' := 7) dX12_inForce_4 rfl rfl (fun c2 => ?_) (fun c2 => ?_)
  · replace hf := ifp c2 hf
    refine aw_iconst (v := (-1)) (pc' := 32) dX12_inForce_31 rfl ic_m1 ?_
    obtain rfl := Option.some.inj hf
    exact aw_ri dX12_inForce_32 rfl rfl (Nat.le_of_ble_eq_true rfl) (Nat.le_of_ble_eq_true rfl) ⟨rfl, rfl⟩
  · replace hf := ifn c2 hf
    refine aw_iload_n (pc' := 8) dX12_inForce_7 rfl rfl ?_
    obtain ⟨r3, ec3, hf⟩ := b1_e hf
    refine aw_callSi (M' := mX12_isHour) (nc' := 0) (ns' := 0) (pc' := 11) dX12_inForce_8 rfl ml_RX12_382 kX12_isHour (t_X12_isHour ec3) rfl rfl (Nat.le_of_ble_eq_true rfl) (rokD (by omega) (Nat.le_of_ble_eq_true rfl) (Nat.le_of_ble_eq_true rfl) (Nat.le_of_ble_eq_true rfl)) rfl rfl (fun _ h3 q3 => ?_)
    obtain ⟨rfl, rfl, zb3⟩ := q3
    refine aw_if_eq (tgt := 31) (pc' := 14) dX12_inForce_11 rfl rfl (fun c4 => ?_) (fun c4 => ?_)
    · replace hf := ifp c4 hf
      refine aw_iconst (v := (-1)) (pc' := 32) dX12_inForce_31 rfl ic_m1 ?_
      obtain rfl := Option.some.inj hf
      exact aw_ri dX12_inForce_32 rfl rfl (Nat.le_of_ble_eq_true rfl) (Nat.le_of_ble_eq_true rfl) ⟨rfl, rfl⟩
    · replace hf := ifn c4 hf
      refine aw_iload_n (pc' := 15) dX12_inForce_14 rfl rfl ?_
      obtain ⟨r5, ec5, hf⟩ := b1_e hf
      refine aw_callSi (M' := mX12_isHour) (nc' := 0) (ns' := 0) (pc' := 18) dX12_inForce_15 rfl ml_RX12_382 kX12_isHour (t_X12_isHour ec5) rfl rfl (Nat.le_of_ble_eq_true rfl) (rokD (by omega) (Nat.le_of_ble_eq_true rfl) (Nat.le_of_ble_eq_true rfl) (Nat.le_of_ble_eq_true rfl)) rfl rfl (fun _ h5 q5 => ?_)
      obtain ⟨rfl, rfl, zb5⟩ := q5
      refine aw_if_eq (tgt := 31) (pc' := 21) dX12_inForce_18 rfl rfl (fun c6 => ?_) (fun c6 => ?_)
      · replace hf := ifp c6 hf
        refine aw_iconst (v := (-1)) (pc' := 32) dX12_inForce_31 rfl ic_m1 ?_
        obtain rfl := Option.some.inj hf
        exact aw_ri dX12_inForce_32 rfl rfl (Nat.le_of_ble_eq_true rfl) (Nat.le_of_ble_eq_true rfl) ⟨rfl, rfl⟩
      · replace hf := ifn c6 hf
        refine aw_aload_n (pc' := 22) dX12_inForce_21 rfl rfl rfl ?_
        refine aw_iload_n (pc' := 23) dX12_inForce_22 rfl rfl ?_
        refine aw_iload_n (pc' := 24) dX12_inForce_23 rfl rfl ?_
        refine aw_iload_n (pc' := 25) dX12_inForce_24 rfl rfl ?_
        obtain ⟨r7, ec7, hf⟩ := b1_e hf
        refine aw_callVi (M' := mX12_forceOf) (nc' := 0) (ns' := 0) (pc' := 28) dX12_inForce_25 rfl ml_RX12_385 kX12_forceOf (t_X12_forceOf H0 ec7) (H0.ob (H0.fo rfl rfl) (by decide)) rfl rfl rfl (Nat.le_of_ble_eq_true rfl) (rokD (by omega) (Nat.le_of_ble_eq_true rfl) (Nat.le_of_ble_eq_true rfl) (Nat.le_of_ble_eq_true rfl)) rfl rfl (fun _ h7 q7 => ?_)
        obtain ⟨rfl, rfl⟩ := q7
        refine aw_goto (tgt := 32) dX12_inForce_28 rfl ?_
        obtain rfl := Option.some.inj hf
        exact aw_ri dX12_inForce_32 rfl rfl (Nat.le_of_ble_eq_true rfl) (Nat.le_of_ble_eq_true rfl) ⟨rfl, rfl⟩
/-! ThirtyThreeBelowModel.both -/
noncomputable def f_X12_both (a0 : Int32) (a1 : Int32) (a2 : Int32) : Option Int32 := (jn ((if a1 = (0 : Int32) then (if a2 = (0 : Int32) then some 0 else some 1) else some 1)) fun k1 => (if a0 = 37 then (if a2 = (0 : Int32) then some 0 else (if a2 = ((-1) : Int32) then some 0 else (gd (¬ a2 = 0) (some (a1 % a2))))) else (if a0 = 38 then (if a1 = (0 : Int32) then some 0 else (if a2 = (0 : Int32) then some 0 else some 1)) else (if a0 = 39 then k1 else (if a0 = 40 then k1 else (if a0 = 41 then k1 else (if a0 = 42 then some (a1 * a2) else (if a0 = 43 then some (a1 + a2) else (if a0 = 44 then k1 else (if a0 = 45 then some (a1 - a2) else (if a0 = 46 then k1 else (if a0 = 47 then (if a2 = (0 : Int32) then some 0 else (if a2 = ((-1) : Int32) then some (-a1) else (gd (¬ a2 = 0) (some (a1 / a2))))) else (if a0 = 48 then k1 else (if a0 = 49 then k1 else (if a0 = 50 then k1 else (if a0 = 51 then k1 else (if a0 = 52 then k1 else (if a0 = 53 then k1 else (if a0 = 54 then k1 else (if a0 = 55 then k1 else (if a0 = 56 then k1 else (if a0 = 57 then k1 else (if a0 = 58 then k1 else (if a0 = 59 then k1 else (if a0 = 60 then (if a1 < a2 then some 1 else some 0) else (if a0 = 61 then (if a1 = a2 then some 1 else some 0) else (if a0 = 62 then (if a2 < a1 then some 1 else some 0) else k1)))))))))))))))))))))))))))
set_option maxRecDepth 4000 in
theorem t_X12_both {r9 : Int32} {h0 : List aE} {a0 : Int32} {a1 : Int32} {a2 : Int32}  (hf : f_X12_both a0 a1 a2 = some r9) : AM mX12_both (0) [.int a0, .int a1, .int a2] h0 0 0 (PI fun r' h' => r9 = r' ∧ h0 = h') := by
  unfold f_X12_both at hf
  refine am_of (lv := [some (.int a0), some (.int a1), some (.int a2)]) rfl (Nat.le_of_ble_eq_true rfl) rfl ?_
  refine aw_iload_n (pc' := 1) dX12_both_0 rfl rfl ?_
  obtain ⟨k1, ek1, hf⟩ := jn_e hf
  have hk1 : k1 = some r9 → AW mX12_both (rmD (0) 0 0) (fin (PI fun r' h' => r9 = r' ∧ h0 = h') 0 0) 218 [none, some (.int a1), some (.int a2)] [] h0 0 0 := by
    intro hf
    subst ek1
    refine aw_iload_n (pc' := 219) dX12_both_218 rfl rfl ?_
    refine aw_if_ne (tgt := 226) (pc' := 222) dX12_both_219 rfl rfl (fun c2 => ?_) (fun c2 => ?_)
    · replace hf := ifn c2 hf
      refine aw_iconst (v := 1) (pc' := 227) dX12_both_226 rfl ic_1 ?_
      refine aw_goto (tgt := 231) dX12_both_227 rfl ?_
      obtain rfl := Option.some.inj hf
      exact aw_ri dX12_both_231 rfl rfl (Nat.le_of_ble_eq_true rfl) (Nat.le_of_ble_eq_true rfl) ⟨rfl, rfl⟩
    · replace hf := ifp c2 hf
      refine aw_iload_n (pc' := 223) dX12_both_222 rfl rfl ?_
      refine aw_if_eq (tgt := 230) (pc' := 226) dX12_both_223 rfl rfl (fun c3 => ?_) (fun c3 => ?_)
      · replace hf := ifp c3 hf
        refine aw_iconst (v := 0) (pc' := 231) dX12_both_230 rfl ic_0 ?_
        obtain rfl := Option.some.inj hf
        exact aw_ri dX12_both_231 rfl rfl (Nat.le_of_ble_eq_true rfl) (Nat.le_of_ble_eq_true rfl) ⟨rfl, rfl⟩
      · replace hf := ifn c3 hf
        refine aw_iconst (v := 1) (pc' := 227) dX12_both_226 rfl ic_1 ?_
        refine aw_goto (tgt := 231) dX12_both_227 rfl ?_
        obtain rfl := Option.some.inj hf
        exact aw_ri dX12_both_231 rfl rfl (Nat.le_of_ble_eq_true rfl) (Nat.le_of_ble_eq_true rfl) ⟨rfl, rfl⟩
  clear ek1
  rcases Decidable.em (a0 = 37) with c4 | c4
  · replace hf := ifp c4 hf
    refine aw_tabIn (tgt := 154) (off := 153) dX12_both_1 (by rw [c4]; decide) (by rw [c4]; decide) (by rw [c4]; decide) (by decide) ?_
    refine aw_iload_n (pc' := 155) dX12_both_154 rfl rfl ?_
    refine aw_if_eq (tgt := 163) (pc' := 158) dX12_both_155 rfl rfl (fun c5 => ?_) (fun c5 => ?_)
    · replace hf := ifp c5 hf
      refine aw_iconst (v := 0) (pc' := 164) dX12_both_163 rfl ic_0 ?_
      refine aw_goto (tgt := 170) dX12_both_164 rfl ?_
      obtain rfl := Option.some.inj hf
      exact aw_ri dX12_both_170 rfl rfl (Nat.le_of_ble_eq_true rfl) (Nat.le_of_ble_eq_true rfl) ⟨rfl, rfl⟩
    · replace hf := ifn c5 hf
      refine aw_iload_n (pc' := 159) dX12_both_158 rfl rfl ?_
      refine aw_iconst (v := (-1)) (pc' := 160) dX12_both_159 rfl ic_m1 ?_
      refine aw_icmp_ne (tgt := 167) (pc' := 163) dX12_both_160 rfl rfl (fun c6 => ?_) (fun c6 => ?_)
      · replace hf := ifn c6 hf
        refine aw_iload_n (pc' := 168) dX12_both_167 rfl rfl ?_
        refine aw_iload_n (pc' := 169) dX12_both_168 rfl rfl ?_
        obtain ⟨g7, hf⟩ := gd_e hf
        refine aw_irem (pc' := 170) dX12_both_169 rfl g7 ?_
        obtain rfl := Option.some.inj hf
        exact aw_ri dX12_both_170 rfl rfl (Nat.le_of_ble_eq_true rfl) (Nat.le_of_ble_eq_true rfl) ⟨rfl, rfl⟩
      · replace hf := ifp c6 hf
        refine aw_iconst (v := 0) (pc' := 164) dX12_both_163 rfl ic_0 ?_
        refine aw_goto (tgt := 170) dX12_both_164 rfl ?_
        obtain rfl := Option.some.inj hf
        exact aw_ri dX12_both_170 rfl rfl (Nat.le_of_ble_eq_true rfl) (Nat.le_of_ble_eq_true rfl) ⟨rfl, rfl⟩
  replace hf := ifn c4 hf
  rcases Decidable.em (a0 = 38) with c8 | c8
  · replace hf := ifp c8 hf
    refine aw_tabIn (tgt := 204) (off := 203) dX12_both_1 (by rw [c8]; decide) (by rw [c8]; decide) (by rw [c8]; decide) (by decide) ?_
    refine aw_iload_n (pc' := 205) dX12_both_204 rfl rfl ?_
    refine aw_if_eq (tgt := 216) (pc' := 208) dX12_both_205 rfl rfl (fun c10 => ?_) (fun c10 => ?_)
    · replace hf := ifp c10 hf
      refine aw_iconst (v := 0) (pc' := 217) dX12_both_216 rfl ic_0 ?_
      obtain rfl := Option.some.inj hf
      exact aw_ri dX12_both_217 rfl rfl (Nat.le_of_ble_eq_true rfl) (Nat.le_of_ble_eq_true rfl) ⟨rfl, rfl⟩
    · replace hf := ifn c10 hf
      refine aw_iload_n (pc' := 209) dX12_both_208 rfl rfl ?_
      refine aw_if_eq (tgt := 216) (pc' := 212) dX12_both_209 rfl rfl (fun c11 => ?_) (fun c11 => ?_)
      · replace hf := ifp c11 hf
        refine aw_iconst (v := 0) (pc' := 217) dX12_both_216 rfl ic_0 ?_
        obtain rfl := Option.some.inj hf
        exact aw_ri dX12_both_217 rfl rfl (Nat.le_of_ble_eq_true rfl) (Nat.le_of_ble_eq_true rfl) ⟨rfl, rfl⟩
      · replace hf := ifn c11 hf
        refine aw_iconst (v := 1) (pc' := 213) dX12_both_212 rfl ic_1 ?_
        refine aw_goto (tgt := 217) dX12_both_213 rfl ?_
        obtain rfl := Option.some.inj hf
        exact aw_ri dX12_both_217 rfl rfl (Nat.le_of_ble_eq_true rfl) (Nat.le_of_ble_eq_true rfl) ⟨rfl, rfl⟩
  replace hf := ifn c8 hf
  rcases Decidable.em (a0 = 39) with c12 | c12
  · replace hf := ifp c12 hf
    refine aw_tabIn (tgt := 218) (off := 217) dX12_both_1 (by rw [c12]; decide) (by rw [c12]; decide) (by rw [c12]; decide) (by decide) ?_
    refine AW.lv_le (lz_d (lz_k (lz_k lz_0))) ?_
    exact hk1  hf
  replace hf := ifn c12 hf
  rcases Decidable.em (a0 = 40) with c13 | c13
  · replace hf := ifp c13 hf
    refine aw_tabIn (tgt := 218) (off := 217) dX12_both_1 (by rw [c13]; decide) (by rw [c13]; decide) (by rw [c13]; decide) (by decide) ?_
    refine AW.lv_le (lz_d (lz_k (lz_k lz_0))) ?_
    exact hk1  hf
  replace hf := ifn c13 hf
  rcases Decidable.em (a0 = 41) with c14 | c14
  · replace hf := ifp c14 hf
    refine aw_tabIn (tgt := 218) (off := 217) dX12_both_1 (by rw [c14]; decide) (by rw [c14]; decide) (by rw [c14]; decide) (by decide) ?_
    refine AW.lv_le (lz_d (lz_k (lz_k lz_0))) ?_
    exact hk1  hf
  replace hf := ifn c14 hf
  rcases Decidable.em (a0 = 42) with c15 | c15
  · replace hf := ifp c15 hf
    refine aw_tabIn (tgt := 128) (off := 127) dX12_both_1 (by rw [c15]; decide) (by rw [c15]; decide) (by rw [c15]; decide) (by decide) ?_
    refine aw_iload_n (pc' := 129) dX12_both_128 rfl rfl ?_
    refine aw_iload_n (pc' := 130) dX12_both_129 rfl rfl ?_
    refine aw_imul (pc' := 131) dX12_both_130 rfl ?_
    obtain rfl := Option.some.inj hf
    exact aw_ri dX12_both_131 rfl rfl (Nat.le_of_ble_eq_true rfl) (Nat.le_of_ble_eq_true rfl) ⟨rfl, rfl⟩
  replace hf := ifn c15 hf
  rcases Decidable.em (a0 = 43) with c16 | c16
  · replace hf := ifp c16 hf
    refine aw_tabIn (tgt := 120) (off := 119) dX12_both_1 (by rw [c16]; decide) (by rw [c16]; decide) (by rw [c16]; decide) (by decide) ?_
    refine aw_iload_n (pc' := 121) dX12_both_120 rfl rfl ?_
    refine aw_iload_n (pc' := 122) dX12_both_121 rfl rfl ?_
    refine aw_iadd (pc' := 123) dX12_both_122 rfl ?_
    obtain rfl := Option.some.inj hf
    exact aw_ri dX12_both_123 rfl rfl (Nat.le_of_ble_eq_true rfl) (Nat.le_of_ble_eq_true rfl) ⟨rfl, rfl⟩
  replace hf := ifn c16 hf
  rcases Decidable.em (a0 = 44) with c17 | c17
  · replace hf := ifp c17 hf
    refine aw_tabIn (tgt := 218) (off := 217) dX12_both_1 (by rw [c17]; decide) (by rw [c17]; decide) (by rw [c17]; decide) (by decide) ?_
    refine AW.lv_le (lz_d (lz_k (lz_k lz_0))) ?_
    exact hk1  hf
  replace hf := ifn c17 hf
  rcases Decidable.em (a0 = 45) with c18 | c18
  · replace hf := ifp c18 hf
    refine aw_tabIn (tgt := 124) (off := 123) dX12_both_1 (by rw [c18]; decide) (by rw [c18]; decide) (by rw [c18]; decide) (by decide) ?_
    refine aw_iload_n (pc' := 125) dX12_both_124 rfl rfl ?_
    refine aw_iload_n (pc' := 126) dX12_both_125 rfl rfl ?_
    refine aw_isub (pc' := 127) dX12_both_126 rfl ?_
    obtain rfl := Option.some.inj hf
    exact aw_ri dX12_both_127 rfl rfl (Nat.le_of_ble_eq_true rfl) (Nat.le_of_ble_eq_true rfl) ⟨rfl, rfl⟩
  replace hf := ifn c18 hf
  rcases Decidable.em (a0 = 46) with c19 | c19
  · replace hf := ifp c19 hf
    refine aw_tabIn (tgt := 218) (off := 217) dX12_both_1 (by rw [c19]; decide) (by rw [c19]; decide) (by rw [c19]; decide) (by decide) ?_
    refine AW.lv_le (lz_d (lz_k (lz_k lz_0))) ?_
    exact hk1  hf
  replace hf := ifn c19 hf
  rcases Decidable.em (a0 = 47) with c20 | c20
  · replace hf := ifp c20 hf
    refine aw_tabIn (tgt := 132) (off := 131) dX12_both_1 (by rw [c20]; decide) (by rw [c20]; decide) (by rw [c20]; decide) (by decide) ?_
    refine aw_iload_n (pc' := 133) dX12_both_132 rfl rfl ?_
    refine aw_if_ne (tgt := 140) (pc' := 136) dX12_both_133 rfl rfl (fun c21 => ?_) (fun c21 => ?_)
    · replace hf := ifn c21 hf
      refine aw_iload_n (pc' := 141) dX12_both_140 rfl rfl ?_
      refine aw_iconst (v := (-1)) (pc' := 142) dX12_both_141 rfl ic_m1 ?_
      refine aw_icmp_ne (tgt := 150) (pc' := 145) dX12_both_142 rfl rfl (fun c22 => ?_) (fun c22 => ?_)
      · replace hf := ifn c22 hf
        refine aw_iload_n (pc' := 151) dX12_both_150 rfl rfl ?_
        refine aw_iload_n (pc' := 152) dX12_both_151 rfl rfl ?_
        obtain ⟨g23, hf⟩ := gd_e hf
        refine aw_idiv (pc' := 153) dX12_both_152 rfl g23 ?_
        obtain rfl := Option.some.inj hf
        exact aw_ri dX12_both_153 rfl rfl (Nat.le_of_ble_eq_true rfl) (Nat.le_of_ble_eq_true rfl) ⟨rfl, rfl⟩
      · replace hf := ifp c22 hf
        refine aw_iload_n (pc' := 146) dX12_both_145 rfl rfl ?_
        refine aw_ineg (pc' := 147) dX12_both_146 rfl ?_
        refine aw_goto (tgt := 153) dX12_both_147 rfl ?_
        obtain rfl := Option.some.inj hf
        exact aw_ri dX12_both_153 rfl rfl (Nat.le_of_ble_eq_true rfl) (Nat.le_of_ble_eq_true rfl) ⟨rfl, rfl⟩
    · replace hf := ifp c21 hf
      refine aw_iconst (v := 0) (pc' := 137) dX12_both_136 rfl ic_0 ?_
      refine aw_goto (tgt := 153) dX12_both_137 rfl ?_
      obtain rfl := Option.some.inj hf
      exact aw_ri dX12_both_153 rfl rfl (Nat.le_of_ble_eq_true rfl) (Nat.le_of_ble_eq_true rfl) ⟨rfl, rfl⟩
  replace hf := ifn c20 hf
  rcases Decidable.em (a0 = 48) with c24 | c24
  · replace hf := ifp c24 hf
    refine aw_tabIn (tgt := 218) (off := 217) dX12_both_1 (by rw [c24]; decide) (by rw [c24]; decide) (by rw [c24]; decide) (by decide) ?_
    refine AW.lv_le (lz_d (lz_k (lz_k lz_0))) ?_
    exact hk1  hf
  replace hf := ifn c24 hf
  rcases Decidable.em (a0 = 49) with c25 | c25
  · replace hf := ifp c25 hf
    refine aw_tabIn (tgt := 218) (off := 217) dX12_both_1 (by rw [c25]; decide) (by rw [c25]; decide) (by rw [c25]; decide) (by decide) ?_
    refine AW.lv_le (lz_d (lz_k (lz_k lz_0))) ?_
    exact hk1  hf
  replace hf := ifn c25 hf
  rcases Decidable.em (a0 = 50) with c26 | c26
  · replace hf := ifp c26 hf
    refine aw_tabIn (tgt := 218) (off := 217) dX12_both_1 (by rw [c26]; decide) (by rw [c26]; decide) (by rw [c26]; decide) (by decide) ?_
    refine AW.lv_le (lz_d (lz_k (lz_k lz_0))) ?_
    exact hk1  hf
  replace hf := ifn c26 hf
  rcases Decidable.em (a0 = 51) with c27 | c27
  · replace hf := ifp c27 hf
    refine aw_tabIn (tgt := 218) (off := 217) dX12_both_1 (by rw [c27]; decide) (by rw [c27]; decide) (by rw [c27]; decide) (by decide) ?_
    refine AW.lv_le (lz_d (lz_k (lz_k lz_0))) ?_
    exact hk1  hf
  replace hf := ifn c27 hf
  rcases Decidable.em (a0 = 52) with c28 | c28
  · replace hf := ifp c28 hf
    refine aw_tabIn (tgt := 218) (off := 217) dX12_both_1 (by rw [c28]; decide) (by rw [c28]; decide) (by rw [c28]; decide) (by decide) ?_
    refine AW.lv_le (lz_d (lz_k (lz_k lz_0))) ?_
    exact hk1  hf
  replace hf := ifn c28 hf
  rcases Decidable.em (a0 = 53) with c29 | c29
  · replace hf := ifp c29 hf
    refine aw_tabIn (tgt := 218) (off := 217) dX12_both_1 (by rw [c29]; decide) (by rw [c29]; decide) (by rw [c29]; decide) (by decide) ?_
    refine AW.lv_le (lz_d (lz_k (lz_k lz_0))) ?_
    exact hk1  hf
  replace hf := ifn c29 hf
  rcases Decidable.em (a0 = 54) with c30 | c30
  · replace hf := ifp c30 hf
    refine aw_tabIn (tgt := 218) (off := 217) dX12_both_1 (by rw [c30]; decide) (by rw [c30]; decide) (by rw [c30]; decide) (by decide) ?_
    refine AW.lv_le (lz_d (lz_k (lz_k lz_0))) ?_
    exact hk1  hf
  replace hf := ifn c30 hf
  rcases Decidable.em (a0 = 55) with c31 | c31
  · replace hf := ifp c31 hf
    refine aw_tabIn (tgt := 218) (off := 217) dX12_both_1 (by rw [c31]; decide) (by rw [c31]; decide) (by rw [c31]; decide) (by decide) ?_
    refine AW.lv_le (lz_d (lz_k (lz_k lz_0))) ?_
    exact hk1  hf
  replace hf := ifn c31 hf
  rcases Decidable.em (a0 = 56) with c32 | c32
  · replace hf := ifp c32 hf
    refine aw_tabIn (tgt := 218) (off := 217) dX12_both_1 (by rw [c32]; decide) (by rw [c32]; decide) (by rw [c32]; decide) (by decide) ?_
    refine AW.lv_le (lz_d (lz_k (lz_k lz_0))) ?_
    exact hk1  hf
  replace hf := ifn c32 hf
  rcases Decidable.em (a0 = 57) with c33 | c33
  · replace hf := ifp c33 hf
    refine aw_tabIn (tgt := 218) (off := 217) dX12_both_1 (by rw [c33]; decide) (by rw [c33]; decide) (by rw [c33]; decide) (by decide) ?_
    refine AW.lv_le (lz_d (lz_k (lz_k lz_0))) ?_
    exact hk1  hf
  replace hf := ifn c33 hf
  rcases Decidable.em (a0 = 58) with c34 | c34
  · replace hf := ifp c34 hf
    refine aw_tabIn (tgt := 218) (off := 217) dX12_both_1 (by rw [c34]; decide) (by rw [c34]; decide) (by rw [c34]; decide) (by decide) ?_
    refine AW.lv_le (lz_d (lz_k (lz_k lz_0))) ?_
    exact hk1  hf
  replace hf := ifn c34 hf
  rcases Decidable.em (a0 = 59) with c35 | c35
  · replace hf := ifp c35 hf
    refine aw_tabIn (tgt := 218) (off := 217) dX12_both_1 (by rw [c35]; decide) (by rw [c35]; decide) (by rw [c35]; decide) (by decide) ?_
    refine AW.lv_le (lz_d (lz_k (lz_k lz_0))) ?_
    exact hk1  hf
  replace hf := ifn c35 hf
  rcases Decidable.em (a0 = 60) with c36 | c36
  · replace hf := ifp c36 hf
    refine aw_tabIn (tgt := 171) (off := 170) dX12_both_1 (by rw [c36]; decide) (by rw [c36]; decide) (by rw [c36]; decide) (by decide) ?_
    refine aw_iload_n (pc' := 172) dX12_both_171 rfl rfl ?_
    refine aw_iload_n (pc' := 173) dX12_both_172 rfl rfl ?_
    refine aw_cge (tgt := 180) (pc' := 176) dX12_both_173 rfl rfl (fun c37 => ?_) (fun c37 => ?_)
    · replace hf := ifn c37 hf
      refine aw_iconst (v := 0) (pc' := 181) dX12_both_180 rfl ic_0 ?_
      obtain rfl := Option.some.inj hf
      exact aw_ri dX12_both_181 rfl rfl (Nat.le_of_ble_eq_true rfl) (Nat.le_of_ble_eq_true rfl) ⟨rfl, rfl⟩
    · replace hf := ifp c37 hf
      refine aw_iconst (v := 1) (pc' := 177) dX12_both_176 rfl ic_1 ?_
      refine aw_goto (tgt := 181) dX12_both_177 rfl ?_
      obtain rfl := Option.some.inj hf
      exact aw_ri dX12_both_181 rfl rfl (Nat.le_of_ble_eq_true rfl) (Nat.le_of_ble_eq_true rfl) ⟨rfl, rfl⟩
  replace hf := ifn c36 hf
  rcases Decidable.em (a0 = 61) with c38 | c38
  · replace hf := ifp c38 hf
    refine aw_tabIn (tgt := 182) (off := 181) dX12_both_1 (by rw [c38]; decide) (by rw [c38]; decide) (by rw [c38]; decide) (by decide) ?_
    refine aw_iload_n (pc' := 183) dX12_both_182 rfl rfl ?_
    refine aw_iload_n (pc' := 184) dX12_both_183 rfl rfl ?_
    refine aw_icmp_ne (tgt := 191) (pc' := 187) dX12_both_184 rfl rfl (fun c39 => ?_) (fun c39 => ?_)
    · replace hf := ifn c39 hf
      refine aw_iconst (v := 0) (pc' := 192) dX12_both_191 rfl ic_0 ?_
      obtain rfl := Option.some.inj hf
      exact aw_ri dX12_both_192 rfl rfl (Nat.le_of_ble_eq_true rfl) (Nat.le_of_ble_eq_true rfl) ⟨rfl, rfl⟩
    · replace hf := ifp c39 hf
      refine aw_iconst (v := 1) (pc' := 188) dX12_both_187 rfl ic_1 ?_
      refine aw_goto (tgt := 192) dX12_both_188 rfl ?_
      obtain rfl := Option.some.inj hf
      exact aw_ri dX12_both_192 rfl rfl (Nat.le_of_ble_eq_true rfl) (Nat.le_of_ble_eq_true rfl) ⟨rfl, rfl⟩
  replace hf := ifn c38 hf
  rcases Decidable.em (a0 = 62) with c40 | c40
  · replace hf := ifp c40 hf
    refine aw_tabIn (tgt := 193) (off := 192) dX12_both_1 (by rw [c40]; decide) (by rw [c40]; decide) (by rw [c40]; decide) (by decide) ?_
    refine aw_iload_n (pc' := 194) dX12_both_193 rfl rfl ?_
    refine aw_iload_n (pc' := 195) dX12_both_194 rfl rfl ?_
    refine aw_cle (tgt := 202) (pc' := 198) dX12_both_195 rfl rfl (fun c41 => ?_) (fun c41 => ?_)
    · replace hf := ifn c41 hf
      refine aw_iconst (v := 0) (pc' := 203) dX12_both_202 rfl ic_0 ?_
      obtain rfl := Option.some.inj hf
      exact aw_ri dX12_both_203 rfl rfl (Nat.le_of_ble_eq_true rfl) (Nat.le_of_ble_eq_true rfl) ⟨rfl, rfl⟩
    · replace hf := ifp c41 hf
      refine aw_iconst (v := 1) (pc' := 199) dX12_both_198 rfl ic_1 ?_
      refine aw_goto (tgt := 203) dX12_both_199 rfl ?_
      obtain rfl := Option.some.inj hf
      exact aw_ri dX12_both_203 rfl rfl (Nat.le_of_ble_eq_true rfl) (Nat.le_of_ble_eq_true rfl) ⟨rfl, rfl⟩
  replace hf := ifn c40 hf
  refine aw_tabOut (tgt := 218) dX12_both_1 (by have a0 := tneK (K := 37) (by decide) c4; have a1 := tneK (K := 38) (by decide) c8; have a2 := tneK (K := 39) (by decide) c12; have a3 := tneK (K := 40) (by decide) c13; have a4 := tneK (K := 41) (by decide) c14; have a5 := tneK (K := 42) (by decide) c15; have a6 := tneK (K := 43) (by decide) c16; have a7 := tneK (K := 44) (by decide) c17; have a8 := tneK (K := 45) (by decide) c18; have a9 := tneK (K := 46) (by decide) c19; have a10 := tneK (K := 47) (by decide) c20; have a11 := tneK (K := 48) (by decide) c24; have a12 := tneK (K := 49) (by decide) c25; have a13 := tneK (K := 50) (by decide) c26; have a14 := tneK (K := 51) (by decide) c27; have a15 := tneK (K := 52) (by decide) c28; have a16 := tneK (K := 53) (by decide) c29; have a17 := tneK (K := 54) (by decide) c30; have a18 := tneK (K := 55) (by decide) c31; have a19 := tneK (K := 56) (by decide) c32; have a20 := tneK (K := 57) (by decide) c33; have a21 := tneK (K := 58) (by decide) c34; have a22 := tneK (K := 59) (by decide) c35; have a23 := tneK (K := 60) (by decide) c36; have a24 := tneK (K := 61) (by decide) c38; have a25 := tneK (K := 62) (by decide) c40; omega) (by decide) ?_
  refine AW.lv_le (lz_d (lz_k (lz_k lz_0))) ?_
  exact hk1  hf
