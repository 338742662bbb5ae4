/-! ThirtyThreeBelowModel.tells -/
noncomputable def f_X12_tells (s0 : SS) (a0 : Int32) (a1 : Int32) : Option (Int32 × SS) := (gd (inB a0 120) (b1 (f_X12_isUnder (zI s0 62 (a0.toInt.toNat)) (4 : Int32)) fun r2 => (if r2 = (0 : Int32) then (bd (f_X12_plainTells s0 a0 a1) fun r4 s4 => some (r4, s4)) else (b1 (f_X12_ran s0 51) fun s5 => (bd (f_X12_plainTells s5 a0 a1) fun r6 s6 => some ((r6 * (3 : Int32)), s6))))))
set_option maxRecDepth 4000 in
theorem t_X12_tells {r9 : Int32} {s0 s9 : SS} {h0 : List aE} {a0 : Int32} {a1 : Int32} (H0 : HH s0 h0) (hf : f_X12_tells s0 a0 a1 = some (r9, s9)) : AM mX12_tells (9) [.ref 67, .int a0, .int a1] h0 0 0 (PI fun r' h' => r9 = r' ∧ HH s9 h' ∧ Mo s0 s9) := by
  unfold f_X12_tells at hf
  refine am_of (lv := [some (.ref 67), some (.int a0), some (.int a1)]) rfl (Nat.le_of_ble_eq_true rfl) rfl ?_
  refine aw_aload_n (pc' := 1) dX12_tells_0 rfl rfl rfl ?_
  refine aw_gr (q := 59) (e := 7) (v := .ref 70) (pc' := 4) H0 (H0.fo rfl rfl) (l13 rfl) rfl rfl dX12_tells_1 rfl fl_RX12_17 ?_
  refine aw_iload_n (pc' := 5) dX12_tells_4 rfl rfl ?_
  obtain ⟨g1, hf⟩ := gd_e hf
  refine aw_ia (q := 62) (pc' := 6) H0 (H0.fa rfl rfl rfl) g1 dX12_tells_5 rfl ?_
  refine aw_iconst (v := 4) (pc' := 7) dX12_tells_6 rfl ic_4 ?_
  obtain ⟨r2, ec2, hf⟩ := b1_e hf
  refine aw_callSi (M' := mX12_isUnder) (nc' := 0) (ns' := 0) (pc' := 10) dX12_tells_7 rfl ml_RX12_248 kX12_isUnder (t_X12_isUnder ec2) rfl rfl (Nat.le_of_ble_eq_true rfl) (rokD (by omega) (Nat.le_of_ble_eq_true rfl) (Nat.le_of_ble_eq_true rfl) (Nat.le_of_ble_eq_true rfl)) rfl rfl (fun _ h2 q2 => ?_)
  obtain ⟨rfl, rfl, zb2⟩ := q2
  refine aw_if_eq (tgt := 28) (pc' := 13) dX12_tells_10 rfl rfl (fun c3 => ?_) (fun c3 => ?_)
  · replace hf := ifp c3 hf
    refine aw_aload_n (pc' := 29) dX12_tells_28 rfl rfl rfl ?_
    refine aw_iload_n (pc' := 30) dX12_tells_29 rfl rfl ?_
    refine aw_iload_n (pc' := 31) dX12_tells_30 rfl rfl ?_
    obtain ⟨r4, s4, ec4, hf⟩ := bd_e hf
    refine aw_callVi (M' := mX12_plainTells) (nc' := 0) (ns' := 0) (pc' := 34) dX12_tells_31 rfl ml_RX12_484 kX12_plainTells (t_X12_plainTells H0 ec4) (H0.ob (H0.fo rfl rfl) (by decide)) rfl rfl rfl (Nat.le_of_ble_eq_true rfl) (rokD (by omega) (Nat.le_of_ble_eq_true rfl) (Nat.le_of_ble_eq_true rfl) (Nat.le_of_ble_eq_true rfl)) rfl rfl (fun _ h4 q4 => ?_)
    obtain ⟨rfl, H4, m4⟩ := q4
    obtain ⟨rfl, rfl⟩ := so2 hf
    exact aw_ri dX12_tells_34 rfl rfl (Nat.le_of_ble_eq_true rfl) (Nat.le_of_ble_eq_true rfl) ⟨rfl, H4, m4⟩
  · replace hf := ifn c3 hf
    refine aw_aload_n (pc' := 14) dX12_tells_13 rfl rfl rfl ?_
    refine aw_bipush (v := 51) (pc' := 16) dX12_tells_14 rfl bp_51 ?_
    obtain ⟨s5, ec5, hf⟩ := b1_e hf
    refine aw_callVv (M' := mX12_ran) (nc' := 0) (ns' := 0) (pc' := 19) dX12_tells_16 rfl ml_RX12_456 kX12_ran (t_X12_ran H0 ec5) (H0.ob (H0.fo rfl rfl) (by decide)) rfl rfl rfl (Nat.le_of_ble_eq_true rfl) (rokD (by omega) (Nat.le_of_ble_eq_true rfl) (Nat.le_of_ble_eq_true rfl) (Nat.le_of_ble_eq_true rfl)) rfl rfl (fun h5 q5 => ?_)
    obtain ⟨H5, m5⟩ := q5
    refine aw_aload_n (pc' := 20) dX12_tells_19 rfl rfl rfl ?_
    refine aw_iload_n (pc' := 21) dX12_tells_20 rfl rfl ?_
    refine aw_iload_n (pc' := 22) dX12_tells_21 rfl rfl ?_
    obtain ⟨r6, s6, ec6, hf⟩ := bd_e hf
    refine aw_callVi (M' := mX12_plainTells) (nc' := 0) (ns' := 0) (pc' := 25) dX12_tells_22 rfl ml_RX12_484 kX12_plainTells (t_X12_plainTells H5 ec6) (H5.ob (H5.fo rfl rfl) (by decide)) rfl rfl rfl (Nat.le_of_ble_eq_true rfl) (rokD (by omega) (Nat.le_of_ble_eq_true rfl) (Nat.le_of_ble_eq_true rfl) (Nat.le_of_ble_eq_true rfl)) rfl rfl (fun _ h6 q6 => ?_)
    obtain ⟨rfl, H6, m6⟩ := q6
    refine aw_iconst (v := 3) (pc' := 26) dX12_tells_25 rfl ic_3 ?_
    refine aw_imul (pc' := 27) dX12_tells_26 rfl ?_
    obtain ⟨rfl, rfl⟩ := so2 hf
    exact aw_ri dX12_tells_27 rfl rfl (Nat.le_of_ble_eq_true rfl) (Nat.le_of_ble_eq_true rfl) ⟨rfl, H6, (m5.tr m6)⟩
/-! ThirtyThreeBelowModel.act -/
noncomputable def f_X12_act (s0 : SS) (a0 : Int32) (a1 : Int32) (a2 : Int32) : Option (Int32 × SS) := (st (pS s0 59 87 0) fun s1 => (b1 (f_X12_isBody s1 a0) fun r2 => (if r2 = (0 : Int32) then some (0, s1) else (b1 (f_X12_in a1 (0 : Int32) (3 : Int32)) fun r4 => (if r4 = (0 : Int32) then some (0, s1) else (if a1 = (0 : Int32) then (bd (f_X12_bores s1 a0 a2) fun r13 s13 => some (r13, s13)) else (if a1 = (1 : Int32) then (bd (f_X12_carries s1 a0 a2) fun r12 s12 => some (r12, s12)) else (if a1 = (2 : Int32) then (bd (f_X12_holdsBy s1 a0 a2) fun r11 s11 => some (r11, s11)) else (bd (f_X12_tells s1 a0 a2) fun r10 s10 => some (r10, s10))))))))))
set_option maxRecDepth 4000 in
theorem t_X12_act {r9 : Int32} {s0 s9 : SS} {h0 : List aE} {a0 : Int32} {a1 : Int32} {a2 : Int32} (H0 : HH s0 h0) (hf : f_X12_act s0 a0 a1 a2 = some (r9, s9)) : AM mX12_act (10) [.ref 67, .int a0, .int a1, .int a2] h0 0 0 (PI fun r' h' => r9 = r' ∧ HH s9 h' ∧ Mo s0 s9) := by
  unfold f_X12_act at hf
  refine am_of (lv := [some (.ref 67), some (.int a0), some (.int a1), some (.int a2)]) rfl (Nat.le_of_ble_eq_true rfl) rfl ?_
  refine aw_aload_n (pc' := 1) dX12_act_0 rfl rfl rfl ?_
  refine aw_iconst (v := 0) (pc' := 2) dX12_act_1 rfl ic_0 ?_
  obtain ⟨s1, es1, hf⟩ := st_e hf
  refine aw_pi (q := 59) (pc' := 5) es1 H0 (H0.fo rfl rfl) (by decide) rfl dX12_act_2 rfl fl_RX12_453 rfl (fun h1 H1 => ?_)
  have m1 := Mo.ofS es1
  refine aw_aload_n (pc' := 6) dX12_act_5 rfl rfl rfl ?_
  refine aw_iload_n (pc' := 7) dX12_act_6 rfl rfl ?_
  obtain ⟨r2, ec2, hf⟩ := b1_e hf
  refine aw_callVi (M' := mX12_isBody) (nc' := 0) (ns' := 0) (pc' := 10) dX12_act_7 rfl ml_RX12_245 kX12_isBody (t_X12_isBody H1 ec2) (H1.ob (H1.fo rfl rfl) (by decide)) rfl rfl rfl (Nat.le_of_ble_eq_true rfl) (rokD (by omega) (Nat.le_of_ble_eq_true rfl) (Nat.le_of_ble_eq_true rfl) (Nat.le_of_ble_eq_true rfl)) rfl rfl (fun _ h2 q2 => ?_)
  obtain ⟨rfl, rfl, zb2⟩ := q2
  refine aw_if_eq (tgt := 22) (pc' := 13) dX12_act_10 rfl rfl (fun c3 => ?_) (fun c3 => ?_)
  · replace hf := ifp c3 hf
    refine aw_iconst (v := 0) (pc' := 23) dX12_act_22 rfl ic_0 ?_
    obtain ⟨rfl, rfl⟩ := so2 hf
    exact aw_ri dX12_act_23 rfl rfl (Nat.le_of_ble_eq_true rfl) (Nat.le_of_ble_eq_true rfl) ⟨rfl, H1, m1⟩
  · replace hf := ifn c3 hf
    refine aw_iload_n (pc' := 14) dX12_act_13 rfl rfl ?_
    refine aw_iconst (v := 0) (pc' := 15) dX12_act_14 rfl ic_0 ?_
    refine aw_iconst (v := 3) (pc' := 16) dX12_act_15 rfl ic_3 ?_
    obtain ⟨r4, ec4, hf⟩ := b1_e hf
    refine aw_callSi (M' := mX12_in) (nc' := 0) (ns' := 0) (pc' := 19) dX12_act_16 rfl ml_RX12_230 kX12_in (t_X12_in ec4) rfl rfl (Nat.le_of_ble_eq_true rfl) (rokD (by omega) (Nat.le_of_ble_eq_true rfl) (Nat.le_of_ble_eq_true rfl) (Nat.le_of_ble_eq_true rfl)) rfl rfl (fun _ h4 q4 => ?_)
    obtain ⟨rfl, rfl, zb4⟩ := q4
    refine aw_if_ne (tgt := 24) (pc' := 22) dX12_act_19 rfl rfl (fun c5 => ?_) (fun c5 => ?_)
    · replace hf := ifn c5 hf
      refine aw_iload_n (pc' := 25) dX12_act_24 rfl rfl ?_
      refine aw_if_ne (tgt := 37) (pc' := 28) dX12_act_25 rfl rfl (fun c6 => ?_) (fun c6 => ?_)
      · replace hf := ifn c6 hf
        refine aw_iload_n (pc' := 38) dX12_act_37 rfl rfl ?_
        refine aw_iconst (v := 1) (pc' := 39) dX12_act_38 rfl ic_1 ?_
        refine aw_icmp_ne (tgt := 51) (pc' := 42) dX12_act_39 rfl rfl (fun c7 => ?_) (fun c7 => ?_)
        · replace hf := ifn c7 hf
          refine aw_iload_n (pc' := 52) dX12_act_51 rfl rfl ?_
          refine aw_iconst (v := 2) (pc' := 53) dX12_act_52 rfl ic_2 ?_
          refine aw_icmp_ne (tgt := 65) (pc' := 56) dX12_act_53 rfl rfl (fun c8 => ?_) (fun c8 => ?_)
          · replace hf := ifn c8 hf
            refine aw_aload_n (pc' := 66) dX12_act_65 rfl rfl rfl ?_
            refine aw_iload_n (pc' := 67) dX12_act_66 rfl rfl ?_
            refine aw_iload_n (pc' := 68) dX12_act_67 rfl rfl ?_
            obtain ⟨r10, s10, ec10, hf⟩ := bd_e hf
            refine aw_callVi (M' := mX12_tells) (nc' := 0) (ns' := 0) (pc' := 71) dX12_act_68 rfl ml_RX12_487 kX12_tells (t_X12_tells H1 ec10) (H1.ob (H1.fo rfl rfl) (by decide)) rfl rfl rfl (Nat.le_of_ble_eq_true rfl) (rokD (by omega) (Nat.le_of_ble_eq_true rfl) (Nat.le_of_ble_eq_true rfl) (Nat.le_of_ble_eq_true rfl)) rfl rfl (fun _ h10 q10 => ?_)
            obtain ⟨rfl, H10, m10⟩ := q10
            obtain ⟨rfl, rfl⟩ := so2 hf
            exact aw_ri dX12_act_71 rfl rfl (Nat.le_of_ble_eq_true rfl) (Nat.le_of_ble_eq_true rfl) ⟨rfl, H10, (m1.tr m10)⟩
          · replace hf := ifp c8 hf
            refine aw_aload_n (pc' := 57) dX12_act_56 rfl rfl rfl ?_
            refine aw_iload_n (pc' := 58) dX12_act_57 rfl rfl ?_
            refine aw_iload_n (pc' := 59) dX12_act_58 rfl rfl ?_
            obtain ⟨r11, s11, ec11, hf⟩ := bd_e hf
            refine aw_callVi (M' := mX12_holdsBy) (nc' := 0) (ns' := 0) (pc' := 62) dX12_act_59 rfl ml_RX12_481 kX12_holdsBy (t_X12_holdsBy H1 ec11) (H1.ob (H1.fo rfl rfl) (by decide)) rfl rfl rfl (Nat.le_of_ble_eq_true rfl) (rokD (by omega) (Nat.le_of_ble_eq_true rfl) (Nat.le_of_ble_eq_true rfl) (Nat.le_of_ble_eq_true rfl)) rfl rfl (fun _ h11 q11 => ?_)
            obtain ⟨rfl, H11, m11⟩ := q11
            refine aw_goto (tgt := 71) dX12_act_62 rfl ?_
            obtain ⟨rfl, rfl⟩ := so2 hf
            exact aw_ri dX12_act_71 rfl rfl (Nat.le_of_ble_eq_true rfl) (Nat.le_of_ble_eq_true rfl) ⟨rfl, H11, (m1.tr m11)⟩
        · replace hf := ifp c7 hf
          refine aw_aload_n (pc' := 43) dX12_act_42 rfl rfl rfl ?_
          refine aw_iload_n (pc' := 44) dX12_act_43 rfl rfl ?_
          refine aw_iload_n (pc' := 45) dX12_act_44 rfl rfl ?_
          obtain ⟨r12, s12, ec12, hf⟩ := bd_e hf
          refine aw_callVi (M' := mX12_carries) (nc' := 0) (ns' := 0) (pc' := 48) dX12_act_45 rfl ml_RX12_478 kX12_carries (t_X12_carries H1 ec12) (H1.ob (H1.fo rfl rfl) (by decide)) rfl rfl rfl (Nat.le_of_ble_eq_true rfl) (rokD (by omega) (Nat.le_of_ble_eq_true rfl) (Nat.le_of_ble_eq_true rfl) (Nat.le_of_ble_eq_true rfl)) rfl rfl (fun _ h12 q12 => ?_)
          obtain ⟨rfl, H12, m12⟩ := q12
          refine aw_goto (tgt := 71) dX12_act_48 rfl ?_
          obtain ⟨rfl, rfl⟩ := so2 hf
          exact aw_ri dX12_act_71 rfl rfl (Nat.le_of_ble_eq_true rfl) (Nat.le_of_ble_eq_true rfl) ⟨rfl, H12, (m1.tr m12)⟩
      · replace hf := ifp c6 hf
        refine aw_aload_n (pc' := 29) dX12_act_28 rfl rfl rfl ?_
        refine aw_iload_n (pc' := 30) dX12_act_29 rfl rfl ?_
        refine aw_iload_n (pc' := 31) dX12_act_30 rfl rfl ?_
        obtain ⟨r13, s13, ec13, hf⟩ := bd_e hf
        refine aw_callVi (M' := mX12_bores) (nc' := 0) (ns' := 0) (pc' := 34) dX12_act_31 rfl ml_RX12_469 kX12_bores (t_X12_bores H1 ec13) (H1.ob (H1.fo rfl rfl) (by decide)) rfl rfl rfl (Nat.le_of_ble_eq_true rfl) (rokD (by omega) (Nat.le_of_ble_eq_true rfl) (Nat.le_of_ble_eq_true rfl) (Nat.le_of_ble_eq_true rfl)) rfl rfl (fun _ h13 q13 => ?_)
        obtain ⟨rfl, H13, m13⟩ := q13
        refine aw_goto (tgt := 71) dX12_act_34 rfl ?_
        obtain ⟨rfl, rfl⟩ := so2 hf
        exact aw_ri dX12_act_71 rfl rfl (Nat.le_of_ble_eq_true rfl) (Nat.le_of_ble_eq_true rfl) ⟨rfl, H13, (m1.tr m13)⟩
    · replace hf := ifp c5 hf
      refine aw_iconst (v := 0) (pc' := 23) dX12_act_22 rfl ic_0 ?_
      obtain ⟨rfl, rfl⟩ := so2 hf
      exact aw_ri dX12_act_23 rfl rfl (Nat.le_of_ble_eq_true rfl) (Nat.le_of_ble_eq_true rfl) ⟨rfl, H1, m1⟩
/-! ThirtyThreeBelowModel.trace -/
noncomputable def f_X12_trace (s0 : SS) (a0 : Int32) : Option Int32 := (if a0 < (0 : Int32) then some (-1) else (if a0 < (zS s0 59 87) then (if a0 < (24 : Int32) then (gd (inB a0 24) (some (zI s0 119 (a0.toInt.toNat)))) else some (-1)) else some (-1)))
set_option maxRecDepth 4000 in
theorem t_X12_trace {r9 : Int32} {s0 : SS} {h0 : List aE} {a0 : Int32} (H0 : HH s0 h0) (hf : f_X12_trace s0 a0 = some r9) : AM mX12_trace (0) [.ref 67, .int a0] h0 0 0 (PI fun r' h' => r9 = r' ∧ h0 = h') := by
  unfold f_X12_trace at hf
  refine am_of (lv := [some (.ref 67), some (.int a0)]) rfl (Nat.le_of_ble_eq_true rfl) rfl ?_
  refine aw_iload_n (pc' := 1) dX12_trace_0 rfl rfl ?_
  refine aw_zlt (tgt := 27) (pc' := 4) dX12_trace_1 rfl rfl (fun c1 => ?_) (fun c1 => ?_)
  · replace hf := ifp c1 hf
    refine aw_iconst (v := (-1)) (pc' := 28) dX12_trace_27 rfl ic_m1 ?_
    obtain rfl := Option.some.inj hf
    exact aw_ri dX12_trace_28 rfl rfl (Nat.le_of_ble_eq_true rfl) (Nat.le_of_ble_eq_true rfl) ⟨rfl, rfl⟩
  · replace hf := ifn c1 hf
    refine aw_iload_n (pc' := 5) dX12_trace_4 rfl rfl ?_
    refine aw_aload_n (pc' := 6) dX12_trace_5 rfl rfl rfl ?_
    refine aw_gi (q := 59) (pc' := 9) H0 (H0.fo rfl rfl) (l13 rfl) rfl dX12_trace_6 rfl fl_RX12_453 ?_
    refine aw_cge (tgt := 27) (pc' := 12) dX12_trace_9 rfl rfl (fun c2 => ?_) (fun c2 => ?_)
    · replace hf := ifn c2 hf
      refine aw_iconst (v := (-1)) (pc' := 28) dX12_trace_27 rfl ic_m1 ?_
      obtain rfl := Option.some.inj hf
      exact aw_ri dX12_trace_28 rfl rfl (Nat.le_of_ble_eq_true rfl) (Nat.le_of_ble_eq_true rfl) ⟨rfl, rfl⟩
    · replace hf := ifp c2 hf
      refine aw_iload_n (pc' := 13) dX12_trace_12 rfl rfl ?_
      refine aw_bipush (v := 24) (pc' := 15) dX12_trace_13 rfl bp_24 ?_
      refine aw_cge (tgt := 27) (pc' := 18) dX12_trace_15 rfl rfl (fun c3 => ?_) (fun c3 => ?_)
      · replace hf := ifn c3 hf
        refine aw_iconst (v := (-1)) (pc' := 28) dX12_trace_27 rfl ic_m1 ?_
        obtain rfl := Option.some.inj hf
        exact aw_ri dX12_trace_28 rfl rfl (Nat.le_of_ble_eq_true rfl) (Nat.le_of_ble_eq_true rfl) ⟨rfl, rfl⟩
      · replace hf := ifp c3 hf
        refine aw_aload_n (pc' := 19) dX12_trace_18 rfl rfl rfl ?_
        refine aw_gr (q := 59) (e := 121) (v := .ref 127) (pc' := 22) H0 (H0.fo rfl rfl) (l13 rfl) rfl rfl dX12_trace_19 rfl fl_RX12_205 ?_
        refine aw_iload_n (pc' := 23) dX12_trace_22 rfl rfl ?_
        obtain ⟨g4, hf⟩ := gd_e hf
        refine aw_ia (q := 119) (pc' := 24) H0 (H0.fa rfl rfl rfl) g4 dX12_trace_23 rfl ?_
        refine aw_goto (tgt := 28) dX12_trace_24 rfl ?_
        obtain rfl := Option.some.inj hf
        exact aw_ri dX12_trace_28 rfl rfl (Nat.le_of_ble_eq_true rfl) (Nat.le_of_ble_eq_true rfl) ⟨rfl, rfl⟩
/-! ThirtyThreeBelowModel.count -/
noncomputable def f_X12_count_L71_b (s0 : SS) (rc : Int32 → Int32 → Option Int32) (x2 : Int32) (x3 : Int32) : Option Int32 := (if x3 < (zS s0 59 4) then (b1 (f_X12_isHole s0 x3) fun r4 => (jn (fun (t5_0 : Int32) => (vl ((x2 + t5_0)) fun v6 => (vl (x3 + 1) fun v7 => (rc v6 v7)))) fun k5 => (if r4 = (0 : Int32) then (k5 0) else (k5 1)))) else some x2)
noncomputable def f_X12_count_L71 (s0 : SS) : Nat → Int32 → Int32 → Option Int32
  | 0, _, _ => none
  | n + 1, x2, x3 => f_X12_count_L71_b s0 (f_X12_count_L71 s0 n) x2 x3
set_option maxRecDepth 4000 in
theorem t_X12_count_L71 {r9 : Int32} {s0 : SS} {h0 : List aE} (H0 : HH s0 h0)  : ∀ (n : Nat) (x2 : Int32) (x3 : Int32), f_X12_count_L71 s0 n x2 x3 = some r9 → AW mX12_count (rmD (3) 0 0) (fin (PI fun r' h' => r9 = r' ∧ h0 = h') 0 0) 71 [some (.ref 67), none, some (.int x2), some (.int x3)] [] h0 0 0 := by
  intro n
  induction n with
  | zero =>
    intro x2 x3 hf
    cases hf
  | succ n ih =>
    intro x2 x3 hf
    replace hf : f_X12_count_L71_b s0 (f_X12_count_L71 s0 n) x2 x3 = some r9 := hf
    unfold f_X12_count_L71_b at hf
    refine aw_iload_n (pc' := 72) dX12_count_71 rfl rfl ?_
    refine aw_aload_n (pc' := 73) dX12_count_72 rfl rfl rfl ?_
    refine aw_gi (q := 59) (pc' := 76) H0 (H0.fo rfl rfl) (l13 rfl) rfl dX12_count_73 rfl fl_RX12_242 ?_
    refine aw_cge (tgt := 101) (pc' := 79) dX12_count_76 rfl rfl (fun c3 => ?_) (fun c3 => ?_)
    · replace hf := ifn c3 hf
      refine aw_iload_n (pc' := 102) dX12_count_101 rfl rfl ?_
      obtain rfl := Option.some.inj hf
      exact aw_ri dX12_count_102 rfl rfl (Nat.le_of_ble_eq_true rfl) (Nat.le_of_ble_eq_true rfl) ⟨rfl, rfl⟩
    · replace hf := ifp c3 hf
      refine aw_iload_n (pc' := 80) dX12_count_79 rfl rfl ?_
      refine aw_aload_n (pc' := 81) dX12_count_80 rfl rfl rfl ?_
      refine aw_iload_n (pc' := 82) dX12_count_81 rfl rfl ?_
      obtain ⟨r4, ec4, hf⟩ := b1_e hf
      refine aw_callVi (M' := mX12_isHole) (nc' := 0) (ns' := 0) (pc' := 85) dX12_count_82 rfl ml_RX12_268 kX12_isHole (t_X12_isHole H0 ec4) (H0.ob (H0.fo rfl rfl) (by decide)) rfl rfl rfl (Nat.le_of_ble_eq_true rfl) (rokD (by omega) (Nat.le_of_ble_eq_true rfl) (Nat.le_of_ble_eq_true rfl) (Nat.le_of_ble_eq_true rfl)) rfl rfl (fun _ h4 q4 => ?_)
      obtain ⟨rfl, rfl, zb4⟩ := q4
      obtain ⟨k5, ek5, hf⟩ := jn_e hf
      have hk5 : ∀ (t5_0 : Int32), k5 t5_0 = some r9 → AW mX12_count (rmD (3) 0 0) (fin (PI fun r' h' => r9 = r' ∧ h0 = h') 0 0) 93 [some (.ref 67), none, none, some (.int x3)] [.int t5_0, .int x2] h0 0 0 := by
        intro t5_0 hf
        subst ek5
        refine aw_iadd (pc' := 94) dX12_count_93 rfl ?_
        obtain ⟨v6, ev6, hf⟩ := vl_e hf
        refine aw_topi ev6 ?_
        refine aw_istore_n (lv' := [_, _, _, _]) (pc' := 95) dX12_count_94 rfl (Nat.le_of_ble_eq_true rfl) rfl ?_
        obtain ⟨v7, ev7, hf⟩ := vl_e hf
        refine aw_iincV (y := v7) (lv' := [_, _, _, _]) (pc' := 98) dX12_count_95 rfl rfl (Nat.le_of_ble_eq_true rfl) ev7 rfl ?_
        refine aw_goto (tgt := 71) dX12_count_98 rfl ?_
        exact ih _ _ hf
      clear ek5
      refine aw_if_eq (tgt := 92) (pc' := 88) dX12_count_85 rfl rfl (fun c8 => ?_) (fun c8 => ?_)
      · replace hf := ifp c8 hf
        refine aw_iconst (v := 0) (pc' := 93) dX12_count_92 rfl ic_0 ?_
        refine AW.lv_le (lz_k (lz_d (lz_d (lz_k lz_0)))) ?_
        exact hk5 _ hf
      · replace hf := ifn c8 hf
        refine aw_iconst (v := 1) (pc' := 89) dX12_count_88 rfl ic_1 ?_
        refine aw_goto (tgt := 93) dX12_count_89 rfl ?_
        refine AW.lv_le (lz_k (lz_d (lz_d (lz_k lz_0)))) ?_
        exact hk5 _ hf
noncomputable def f_X12_count_L105_b (s0 : SS) (rc : Int32 → Int32 → Option Int32) (x2 : Int32) (x3 : Int32) : Option Int32 := (if x3 < (zS s0 59 4) then (gd (inB x3 120) (jn (fun (t13_0 : Int32) => (vl ((x2 + t13_0)) fun v14 => (vl (x3 + 1) fun v15 => (rc v14 v15)))) fun k13 => (if (0 : Int32) < (zI s0 69 (x3.toInt.toNat)) then (k13 1) else (k13 0)))) else some x2)
noncomputable def f_X12_count_L105 (s0 : SS) : Nat → Int32 → Int32 → Option Int32
  | 0, _, _ => none
  | n + 1, x2, x3 => f_X12_count_L105_b s0 (f_X12_count_L105 s0 n) x2 x3
set_option maxRecDepth 4000 in
theorem t_X12_count_L105 {r9 : Int32} {s0 : SS} {h0 : List aE} (H0 : HH s0 h0)  : ∀ (n : Nat) (x2 : Int32) (x3 : Int32), f_X12_count_L105 s0 n x2 x3 = some r9 → AW mX12_count (rmD (3) 0 0) (fin (PI fun r' h' => r9 = r' ∧ h0 = h') 0 0) 105 [some (.ref 67), none, some (.int x2), some (.int x3)] [] h0 0 0 := by
  intro n
  induction n with
  | zero =>
    intro x2 x3 hf
    cases hf
  | succ n ih =>
    intro x2 x3 hf
    replace hf : f_X12_count_L105_b s0 (f_X12_count_L105 s0 n) x2 x3 = some r9 := hf
    unfold f_X12_count_L105_b at hf
    refine aw_iload_n (pc' := 106) dX12_count_105 rfl rfl ?_
    refine aw_aload_n (pc' := 107) dX12_count_106 rfl rfl rfl ?_
    refine aw_gi (q := 59) (pc' := 110) H0 (H0.fo rfl rfl) (l13 rfl) rfl dX12_count_107 rfl fl_RX12_242 ?_
    refine aw_cge (tgt := 136) (pc' := 113) dX12_count_110 rfl rfl (fun c11 => ?_) (fun c11 => ?_)
    · replace hf := ifn c11 hf
      refine aw_iload_n (pc' := 137) dX12_count_136 rfl rfl ?_
      obtain rfl := Option.some.inj hf
      exact aw_ri dX12_count_137 rfl rfl (Nat.le_of_ble_eq_true rfl) (Nat.le_of_ble_eq_true rfl) ⟨rfl, rfl⟩
    · replace hf := ifp c11 hf
      refine aw_iload_n (pc' := 114) dX12_count_113 rfl rfl ?_
      refine aw_aload_n (pc' := 115) dX12_count_114 rfl rfl rfl ?_
      refine aw_gr (q := 59) (e := 21) (v := .ref 77) (pc' := 118) H0 (H0.fo rfl rfl) (l13 rfl) rfl rfl dX12_count_115 rfl fl_RX12_38 ?_
      refine aw_iload_n (pc' := 119) dX12_count_118 rfl rfl ?_
      obtain ⟨g12, hf⟩ := gd_e hf
      refine aw_ia (q := 69) (pc' := 120) H0 (H0.fa rfl rfl rfl) g12 dX12_count_119 rfl ?_
      obtain ⟨k13, ek13, hf⟩ := jn_e hf
      have hk13 : ∀ (t13_0 : Int32), k13 t13_0 = some r9 → AW mX12_count (rmD (3) 0 0) (fin (PI fun r' h' => r9 = r' ∧ h0 = h') 0 0) 128 [some (.ref 67), none, none, some (.int x3)] [.int t13_0, .int x2] h0 0 0 := by
        intro t13_0 hf
        subst ek13
        refine aw_iadd (pc' := 129) dX12_count_128 rfl ?_
        obtain ⟨v14, ev14, hf⟩ := vl_e hf
        refine aw_topi ev14 ?_
        refine aw_istore_n (lv' := [_, _, _, _]) (pc' := 130) dX12_count_129 rfl (Nat.le_of_ble_eq_true rfl) rfl ?_
        obtain ⟨v15, ev15, hf⟩ := vl_e hf
        refine aw_iincV (y := v15) (lv' := [_, _, _, _]) (pc' := 133) dX12_count_130 rfl rfl (Nat.le_of_ble_eq_true rfl) ev15 rfl ?_
        refine aw_goto (tgt := 105) dX12_count_133 rfl ?_
        exact ih _ _ hf
      clear ek13
      refine aw_zle (tgt := 127) (pc' := 123) dX12_count_120 rfl rfl (fun c16 => ?_) (fun c16 => ?_)
      · replace hf := ifn c16 hf
        refine aw_iconst (v := 0) (pc' := 128) dX12_count_127 rfl ic_0 ?_
        refine AW.lv_le (lz_k (lz_d (lz_d (lz_k lz_0)))) ?_
        exact hk13 _ hf
      · replace hf := ifp c16 hf
        refine aw_iconst (v := 1) (pc' := 124) dX12_count_123 rfl ic_1 ?_
        refine aw_goto (tgt := 128) dX12_count_124 rfl ?_
        refine AW.lv_le (lz_k (lz_d (lz_d (lz_k lz_0)))) ?_
        exact hk13 _ hf
noncomputable def f_X12_count_L165_b (s0 : SS) (rc : Int32 → Int32 → Option Int32) (x2 : Int32) (x3 : Int32) : Option Int32 := (if x3 < (zS s0 59 4) then (gd (inB x3 120) (vl ((x2 + (zI s0 67 (x3.toInt.toNat)))) fun v26 => (vl (x3 + 1) fun v27 => (rc v26 v27)))) else some x2)
noncomputable def f_X12_count_L165 (s0 : SS) : Nat → Int32 → Int32 → Option Int32
  | 0, _, _ => none
  | n + 1, x2, x3 => f_X12_count_L165_b s0 (f_X12_count_L165 s0 n) x2 x3
set_option maxRecDepth 4000 in
theorem t_X12_count_L165 {r9 : Int32} {s0 : SS} {h0 : List aE} (H0 : HH s0 h0)  : ∀ (n : Nat) (x2 : Int32) (x3 : Int32), f_X12_count_L165 s0 n x2 x3 = some r9 → AW mX12_count (rmD (3) 0 0) (fin (PI fun r' h' => r9 = r' ∧ h0 = h') 0 0) 165 [some (.ref 67), none, some (.int x2), some (.int x3)] [] h0 0 0 := by
  intro n
  induction n with
  | zero =>
    intro x2 x3 hf
    cases hf
  | succ n ih =>
    intro x2 x3 hf
    replace hf : f_X12_count_L165_b s0 (f_X12_count_L165 s0 n) x2 x3 = some r9 := hf
    unfold f_X12_count_L165_b at hf
    refine aw_iload_n (pc' := 166) dX12_count_165 rfl rfl ?_
    refine aw_aload_n (pc' := 167) dX12_count_166 rfl rfl rfl ?_
    refine aw_gi (q := 59) (pc' := 170) H0 (H0.fo rfl rfl) (l13 rfl) rfl dX12_count_167 rfl fl_RX12_242 ?_
    refine aw_cge (tgt := 188) (pc' := 173) dX12_count_170 rfl rfl (fun c24 => ?_) (fun c24 => ?_)
    · replace hf := ifn c24 hf
      refine aw_iload_n (pc' := 189) dX12_count_188 rfl rfl ?_
      obtain rfl := Option.some.inj hf
      exact aw_ri dX12_count_189 rfl rfl (Nat.le_of_ble_eq_true rfl) (Nat.le_of_ble_eq_true rfl) ⟨rfl, rfl⟩
    · replace hf := ifp c24 hf
      refine aw_iload_n (pc' := 174) dX12_count_173 rfl rfl ?_
      refine aw_aload_n (pc' := 175) dX12_count_174 rfl rfl rfl ?_
      refine aw_gr (q := 59) (e := 17) (v := .ref 75) (pc' := 178) H0 (H0.fo rfl rfl) (l13 rfl) rfl rfl dX12_count_175 rfl fl_RX12_32 ?_
      refine aw_iload_n (pc' := 179) dX12_count_178 rfl rfl ?_
      obtain ⟨g25, hf⟩ := gd_e hf
      refine aw_ia (q := 67) (pc' := 180) H0 (H0.fa rfl rfl rfl) g25 dX12_count_179 rfl ?_
      refine aw_iadd (pc' := 181) dX12_count_180 rfl ?_
      obtain ⟨v26, ev26, hf⟩ := vl_e hf
      refine aw_topi ev26 ?_
      refine aw_istore_n (lv' := [_, _, _, _]) (pc' := 182) dX12_count_181 rfl (Nat.le_of_ble_eq_true rfl) rfl ?_
      obtain ⟨v27, ev27, hf⟩ := vl_e hf
      refine aw_iincV (y := v27) (lv' := [_, _, _, _]) (pc' := 185) dX12_count_182 rfl rfl (Nat.le_of_ble_eq_true rfl) ev27 rfl ?_
      refine aw_goto (tgt := 165) dX12_count_185 rfl ?_
      exact ih _ _ hf
noncomputable def f_X12_count (s0 : SS) (a0 : Int32) : Option Int32 := (if a0 = 0 then some (zS s0 59 4) else (if a0 = 1 then (f_X12_count_L71 s0 4000 0 0) else (if a0 = 2 then (f_X12_count_L105 s0 4000 0 0) else (if a0 = 3 then (b1 (f_X12_menBelow s0) fun r18 => some r18) else (if a0 = 4 then some (zS s0 59 1) else (if a0 = 5 then some (zS s0 59 30) else (if a0 = 6 then some (zS s0 59 38) else (if a0 = 7 then some (zS s0 59 37) else (if a0 = 8 then (f_X12_count_L165 s0 4000 0 0) else (if a0 = 9 then some (zS s0 59 55) else (if a0 = 10 then some (zS s0 59 62) else (if a0 = 11 then some (zS s0 59 87) else some (-1)))))))))))))
set_option maxRecDepth 4000 in
theorem t_X12_count {r9 : Int32} {s0 : SS} {h0 : List aE} {a0 : Int32} (H0 : HH s0 h0) (hf : f_X12_count s0 a0 = some r9) : AM mX12_count (3) [.ref 67, .int a0] h0 0 0 (PI fun r' h' => r9 = r' ∧ h0 = h') := by
  unfold f_X12_count at hf
  refine am_of (lv := [some (.ref 67), some (.int a0), none, none]) rfl (Nat.le_of_ble_eq_true rfl) rfl ?_
  refine aw_iconst (v := 0) (pc' := 1) dX12_count_0 rfl ic_0 ?_
  refine aw_istore_n (lv' := [_, _, _, _]) (pc' := 2) dX12_count_1 rfl (Nat.le_of_ble_eq_true rfl) rfl ?_
  refine aw_iload_n (pc' := 3) dX12_count_2 rfl rfl ?_
  rcases Decidable.em (a0 = 0) with c1 | c1
  · replace hf := ifp c1 hf
    refine aw_tabIn (tgt := 64) (off := 61) dX12_count_3 (by rw [c1]; decide) (by rw [c1]; decide) (by rw [c1]; decide) (by decide) ?_
    refine aw_aload_n (pc' := 65) dX12_count_64 rfl rfl rfl ?_
    refine aw_gi (q := 59) (pc' := 68) H0 (H0.fo rfl rfl) (l13 rfl) rfl dX12_count_65 rfl fl_RX12_242 ?_
    obtain rfl := Option.some.inj hf
    exact aw_ri dX12_count_68 rfl rfl (Nat.le_of_ble_eq_true rfl) (Nat.le_of_ble_eq_true rfl) ⟨rfl, rfl⟩
  replace hf := ifn c1 hf
  rcases Decidable.em (a0 = 1) with c2 | c2
  · replace hf := ifp c2 hf
    refine aw_tabIn (tgt := 69) (off := 66) dX12_count_3 (by rw [c2]; decide) (by rw [c2]; decide) (by rw [c2]; decide) (by decide) ?_
    refine aw_iconst (v := 0) (pc' := 70) dX12_count_69 rfl ic_0 ?_
    refine aw_istore_n (lv' := [_, _, _, _]) (pc' := 71) dX12_count_70 rfl (Nat.le_of_ble_eq_true rfl) rfl ?_
    refine AW.lv_le (lz_k (lz_d (lz_k (lz_k lz_0)))) ?_
    refine t_X12_count_L71 H0  4000 _ _ hf
  replace hf := ifn c2 hf
  rcases Decidable.em (a0 = 2) with c10 | c10
  · replace hf := ifp c10 hf
    refine aw_tabIn (tgt := 103) (off := 100) dX12_count_3 (by rw [c10]; decide) (by rw [c10]; decide) (by rw [c10]; decide) (by decide) ?_
    refine aw_iconst (v := 0) (pc' := 104) dX12_count_103 rfl ic_0 ?_
    refine aw_istore_n (lv' := [_, _, _, _]) (pc' := 105) dX12_count_104 rfl (Nat.le_of_ble_eq_true rfl) rfl ?_
    refine AW.lv_le (lz_k (lz_d (lz_k (lz_k lz_0)))) ?_
    refine t_X12_count_L105 H0  4000 _ _ hf
  replace hf := ifn c10 hf
  rcases Decidable.em (a0 = 3) with c17 | c17
  · replace hf := ifp c17 hf
    refine aw_tabIn (tgt := 138) (off := 135) dX12_count_3 (by rw [c17]; decide) (by rw [c17]; decide) (by rw [c17]; decide) (by decide) ?_
    refine aw_aload_n (pc' := 139) dX12_count_138 rfl rfl rfl ?_
    obtain ⟨r18, ec18, hf⟩ := b1_e hf
    refine aw_callVi (M' := mX12_menBelow) (nc' := 0) (ns' := 0) (pc' := 142) dX12_count_139 rfl ml_RX12_394 kX12_menBelow (t_X12_menBelow H0 ec18) (H0.ob (H0.fo rfl rfl) (by decide)) rfl rfl rfl (Nat.le_of_ble_eq_true rfl) (rokD (by omega) (Nat.le_of_ble_eq_true rfl) (Nat.le_of_ble_eq_true rfl) (Nat.le_of_ble_eq_true rfl)) rfl rfl (fun _ h18 q18 => ?_)
    obtain ⟨rfl, rfl⟩ := q18
    obtain rfl := Option.some.inj hf
    exact aw_ri dX12_count_142 rfl rfl (Nat.le_of_ble_eq_true rfl) (Nat.le_of_ble_eq_true rfl) ⟨rfl, rfl⟩
  replace hf := ifn c17 hf
  rcases Decidable.em (a0 = 4) with c19 | c19
  · replace hf := ifp c19 hf
    refine aw_tabIn (tgt := 143) (off := 140) dX12_count_3 (by rw [c19]; decide) (by rw [c19]; decide) (by rw [c19]; decide) (by decide) ?_
    refine aw_aload_n (pc' := 144) dX12_count_143 rfl rfl rfl ?_
    refine aw_gi (q := 59) (pc' := 147) H0 (H0.fo rfl rfl) (l13 rfl) rfl dX12_count_144 rfl fl_RX12_281 ?_
    obtain rfl := Option.some.inj hf
    exact aw_ri dX12_count_147 rfl rfl (Nat.le_of_ble_eq_true rfl) (Nat.le_of_ble_eq_true rfl) ⟨rfl, rfl⟩
  replace hf := ifn c19 hf
  rcases Decidable.em (a0 = 5) with c20 | c20
  · replace hf := ifp c20 hf
    refine aw_tabIn (tgt := 148) (off := 145) dX12_count_3 (by rw [c20]; decide) (by rw [c20]; decide) (by rw [c20]; decide) (by decide) ?_
    refine aw_aload_n (pc' := 149) dX12_count_148 rfl rfl rfl ?_
    refine aw_gi (q := 59) (pc' := 152) H0 (H0.fo rfl rfl) (l13 rfl) rfl dX12_count_149 rfl fl_RX12_301 ?_
    obtain rfl := Option.some.inj hf
    exact aw_ri dX12_count_152 rfl rfl (Nat.le_of_ble_eq_true rfl) (Nat.le_of_ble_eq_true rfl) ⟨rfl, rfl⟩
  replace hf := ifn c20 hf
  rcases Decidable.em (a0 = 6) with c21 | c21
  · replace hf := ifp c21 hf
    refine aw_tabIn (tgt := 153) (off := 150) dX12_count_3 (by rw [c21]; decide) (by rw [c21]; decide) (by rw [c21]; decide) (by decide) ?_
    refine aw_aload_n (pc' := 154) dX12_count_153 rfl rfl rfl ?_
    refine aw_gi (q := 59) (pc' := 157) H0 (H0.fo rfl rfl) (l13 rfl) rfl dX12_count_154 rfl fl_RX12_373 ?_
    obtain rfl := Option.some.inj hf
    exact aw_ri dX12_count_157 rfl rfl (Nat.le_of_ble_eq_true rfl) (Nat.le_of_ble_eq_true rfl) ⟨rfl, rfl⟩
  replace hf := ifn c21 hf
  rcases Decidable.em (a0 = 7) with c22 | c22
  · replace hf := ifp c22 hf
    refine aw_tabIn (tgt := 158) (off := 155) dX12_count_3 (by rw [c22]; decide) (by rw [c22]; decide) (by rw [c22]; decide) (by decide) ?_
    refine aw_aload_n (pc' := 159) dX12_count_158 rfl rfl rfl ?_
    refine aw_gi (q := 59) (pc' := 162) H0 (H0.fo rfl rfl) (l13 rfl) rfl dX12_count_159 rfl fl_RX12_316 ?_
    obtain rfl := Option.some.inj hf
    exact aw_ri dX12_count_162 rfl rfl (Nat.le_of_ble_eq_true rfl) (Nat.le_of_ble_eq_true rfl) ⟨rfl, rfl⟩
  replace hf := ifn c22 hf
  rcases Decidable.em (a0 = 8) with c23 | c23
  · replace hf := ifp c23 hf
    refine aw_tabIn (tgt := 163) (off := 160) dX12_count_3 (by rw [c23]; decide) (by rw [c23]; decide) (by rw [c23]; decide) (by decide) ?_
    refine aw_iconst (v := 0) (pc' := 164) dX12_count_163 rfl ic_0 ?_
    refine aw_istore_n (lv' := [_, _, _, _]) (pc' := 165) dX12_count_164 rfl (Nat.le_of_ble_eq_true rfl) rfl ?_
    refine AW.lv_le (lz_k (lz_d (lz_k (lz_k lz_0)))) ?_
    refine t_X12_count_L165 H0  4000 _ _ hf
  replace hf := ifn c23 hf
  rcases Decidable.em (a0 = 9) with c28 | c28
  · replace hf := ifp c28 hf
    refine aw_tabIn (tgt := 190) (off := 187) dX12_count_3 (by rw [c28]; decide) (by rw [c28]; decide) (by rw [c28]; decide) (by decide) ?_
    refine aw_aload_n (pc' := 191) dX12_count_190 rfl rfl rfl ?_
    refine aw_gi (q := 59) (pc' := 194) H0 (H0.fo rfl rfl) (l13 rfl) rfl dX12_count_191 rfl fl_RX12_412 ?_
    obtain rfl := Option.some.inj hf
    exact aw_ri dX12_count_194 rfl rfl (Nat.le_of_ble_eq_true rfl) (Nat.le_of_ble_eq_true rfl) ⟨rfl, rfl⟩
  replace hf := ifn c28 hf
  rcases Decidable.em (a0 = 10) with c29 | c29
  · replace hf := ifp c29 hf
    refine aw_tabIn (tgt := 195) (off := 192) dX12_count_3 (by rw [c29]; decide) (by rw [c29]; decide) (by rw [c29]; decide) (by decide) ?_
    refine aw_aload_n (pc' := 196) dX12_count_195 rfl rfl rfl ?_
    refine aw_gi (q := 59) (pc' := 199) H0 (H0.fo rfl rfl) (l13 rfl) rfl dX12_count_196 rfl fl_RX12_428 ?_
    obtain rfl := Option.some.inj hf
    exact aw_ri dX12_count_199 rfl rfl (Nat.le_of_ble_eq_true rfl) (Nat.le_of_ble_eq_true rfl) ⟨rfl, rfl⟩
  replace hf := ifn c29 hf
  rcases Decidable.em (a0 = 11) with c30 | c30
  · replace hf := ifp c30 hf
    refine aw_tabIn (tgt := 200) (off := 197) dX12_count_3 (by rw [c30]; decide) (by rw [c30]; decide) (by rw [c30]; decide) (by decide) ?_
    refine aw_aload_n (pc' := 201) dX12_count_200 rfl rfl rfl ?_
    refine aw_gi (q := 59) (pc' := 204) H0 (H0.fo rfl rfl) (l13 rfl) rfl dX12_count_201 rfl fl_RX12_453 ?_
    obtain rfl := Option.some.inj hf
    exact aw_ri dX12_count_204 rfl rfl (Nat.le_of_ble_eq_true rfl) (Nat.le_of_ble_eq_true rfl) ⟨rfl, rfl⟩
  replace hf := ifn c30 hf
  refine aw_tabOut (tgt := 205) dX12_count_3 (by have a0 := tneK (K := 0) (by decide) c1; have a1 := tneK (K := 1) (by decide) c2; have a2 := tneK (K := 2) (by decide) c10; have a3 := tneK (K := 3) (by decide) c17; have a4 := tneK (K := 4) (by decide) c19; have a5 := tneK (K := 5) (by decide) c20; have a6 := tneK (K := 6) (by decide) c21; have a7 := tneK (K := 7) (by decide) c22; have a8 := tneK (K := 8) (by decide) c23; have a9 := tneK (K := 9) (by decide) c28; have a10 := tneK (K := 10) (by decide) c29; have a11 := tneK (K := 11) (by decide) c30; omega) (by decide) ?_
  refine aw_iconst (v := (-1)) (pc' := 206) dX12_count_205 rfl ic_m1 ?_
  obtain rfl := Option.some.inj hf
  exact aw_ri dX12_count_206 rfl rfl (Nat.le_of_ble_eq_true rfl) (Nat.le_of_ble_eq_true rfl) ⟨rfl, rfl⟩
/-! ThirtyThreeBelowModel.keep -/
noncomputable def f_X12_keep (s0 : SS) (a0 : Int32) (a1 : Int32) : Option (Int32 × SS) := (b1 (f_X12_isShelf a0) fun r1 => (if r1 = (0 : Int32) then some ((-1), s0) else (jn ((gd (inB a0 6) (st (pI s0 120 (a0.toInt.toNat) a1) fun s5 => some (1, s5)))) fun k3 => (if a1 = ((-1) : Int32) then k3 else (b1 (f_X12_isBody s0 a1) fun r7 => (if r7 = (0 : Int32) then some ((-1), s0) else k3))))))
set_option maxRecDepth 4000 in
theorem t_X12_keep {r9 : Int32} {s0 s9 : SS} {h0 : List aE} {a0 : Int32} {a1 : Int32} (H0 : HH s0 h0) (hf : f_X12_keep s0 a0 a1 = some (r9, s9)) : AM mX12_keep (2) [.ref 67, .int a0, .int a1] h0 0 0 (PI fun r' h' => r9 = r' ∧ HH s9 h' ∧ Mo s0 s9) := by
  unfold f_X12_keep at hf
  refine am_of (lv := [some (.ref 67), some (.int a0), some (.int a1)]) rfl (Nat.le_of_ble_eq_true rfl) rfl ?_
  refine aw_iload_n (pc' := 1) dX12_keep_0 rfl rfl ?_
  obtain ⟨r1, ec1, hf⟩ := b1_e hf
  refine aw_callSi (M' := mX12_isShelf) (nc' := 0) (ns' := 0) (pc' := 4) dX12_keep_1 rfl ml_RX12_288 kX12_isShelf (t_X12_isShelf ec1) rfl rfl (Nat.le_of_ble_eq_true rfl) (rokD (by omega) (Nat.le_of_ble_eq_true rfl) (Nat.le_of_ble_eq_true rfl) (Nat.le_of_ble_eq_true rfl)) rfl rfl (fun _ h1 q1 => ?_)
  obtain ⟨rfl, rfl, zb1⟩ := q1
  refine aw_if_eq (tgt := 20) (pc' := 7) dX12_keep_4 rfl rfl (fun c2 => ?_) (fun c2 => ?_)
  · replace hf := ifp c2 hf
    refine aw_iconst (v := (-1)) (pc' := 21) dX12_keep_20 rfl ic_m1 ?_
    obtain ⟨rfl, rfl⟩ := so2 hf
    exact aw_ri dX12_keep_21 rfl rfl (Nat.le_of_ble_eq_true rfl) (Nat.le_of_ble_eq_true rfl) ⟨rfl, H0, (Mo.rf _)⟩
  · replace hf := ifn c2 hf
    refine aw_iload_n (pc' := 8) dX12_keep_7 rfl rfl ?_
    refine aw_iconst (v := (-1)) (pc' := 9) dX12_keep_8 rfl ic_m1 ?_
    obtain ⟨k3, ek3, hf⟩ := jn_e hf
    have hk3 : k3 = some (r9, s9) → AW mX12_keep (rmD (2) 0 0) (fin (PI fun r' h' => r9 = r' ∧ HH s9 h' ∧ Mo s0 s9) 0 0) 22 [some (.ref 67), some (.int a0), some (.int a1)] [] h0 0 0 := by
      intro hf
      subst ek3
      refine aw_aload_n (pc' := 23) dX12_keep_22 rfl rfl rfl ?_
      refine aw_gr (q := 59) (e := 123) (v := .ref 128) (pc' := 26) H0 (H0.fo rfl rfl) (l13 rfl) rfl rfl dX12_keep_23 rfl fl_RX12_208 ?_
      refine aw_iload_n (pc' := 27) dX12_keep_26 rfl rfl ?_
      refine aw_iload_n (pc' := 28) dX12_keep_27 rfl rfl ?_
      obtain ⟨g4, hf⟩ := gd_e hf
      obtain ⟨s5, es5, hf⟩ := st_e hf
      refine aw_is (q := 120) (pc' := 29) es5 H0 (H0.fa rfl rfl rfl) g4 dX12_keep_28 rfl (fun h5 H5 => ?_)
      have m5 := Mo.ofI es5
      refine aw_iconst (v := 1) (pc' := 30) dX12_keep_29 rfl ic_1 ?_
      obtain ⟨rfl, rfl⟩ := so2 hf
      exact aw_ri dX12_keep_30 rfl rfl (Nat.le_of_ble_eq_true rfl) (Nat.le_of_ble_eq_true rfl) ⟨rfl, H5, m5⟩
    clear ek3
    refine aw_icmp_eq (tgt := 22) (pc' := 12) dX12_keep_9 rfl rfl (fun c6 => ?_) (fun c6 => ?_)
    · replace hf := ifp c6 hf
      exact hk3  hf
    · replace hf := ifn c6 hf
      refine aw_aload_n (pc' := 13) dX12_keep_12 rfl rfl rfl ?_
      refine aw_iload_n (pc' := 14) dX12_keep_13 rfl rfl ?_
      obtain ⟨r7, ec7, hf⟩ := b1_e hf
      refine aw_callVi (M' := mX12_isBody) (nc' := 0) (ns' := 0) (pc' := 17) dX12_keep_14 rfl ml_RX12_245 kX12_isBody (t_X12_isBody H0 ec7) (H0.ob (H0.fo rfl rfl) (by decide)) rfl rfl rfl (Nat.le_of_ble_eq_true rfl) (rokD (by omega) (Nat.le_of_ble_eq_true rfl) (Nat.le_of_ble_eq_true rfl) (Nat.le_of_ble_eq_true rfl)) rfl rfl (fun _ h7 q7 => ?_)
      obtain ⟨rfl, rfl, zb7⟩ := q7
      refine aw_if_ne (tgt := 22) (pc' := 20) dX12_keep_17 rfl rfl (fun c8 => ?_) (fun c8 => ?_)
      · replace hf := ifn c8 hf
        exact hk3  hf
      · replace hf := ifp c8 hf
        refine aw_iconst (v := (-1)) (pc' := 21) dX12_keep_20 rfl ic_m1 ?_
        obtain ⟨rfl, rfl⟩ := so2 hf
        exact aw_ri dX12_keep_21 rfl rfl (Nat.le_of_ble_eq_true rfl) (Nat.le_of_ble_eq_true rfl) ⟨rfl, H0, (Mo.rf _)⟩
/-! ThirtyThreeBelowModel.row -/
noncomputable def f_X12_row_L54_b (y1 : Int32) (rc : SS → Int32 → Option (Int32 × SS)) (s : SS) (x4 : Int32) : Option (Int32 × SS) := (if x4 < (((60 : Int32) * y1) + (60 : Int32)) then (gd (inB x4 360) (st (pJ s 122 (x4.toInt.toNat) 0) fun s16 => (gd (inB x4 360) (st (pI s16 123 (x4.toInt.toNat) ((0 : Int32) &&& 1)) fun s18 => (vl (x4 + 1) fun v19 => (rc s18 v19)))))) else some (1, s))
noncomputable def f_X12_row_L54 (y1 : Int32) : Nat → SS → Int32 → Option (Int32 × SS)
  | 0, _, _ => none
  | n + 1, s, x4 => f_X12_row_L54_b y1 (f_X12_row_L54 y1 n) s x4
set_option maxRecDepth 4000 in
theorem t_X12_row_L54 {r9 : Int32} {s0 sb s9 : SS} {y1 : Int32} (mb : Mo s0 sb)  : ∀ (n : Nat) (s : SS) (h : List aE) (x4 : Int32), HH s h → Mo sb s → f_X12_row_L54 y1 n s x4 = some (r9, s9) → AW mX12_row (rmD (2) 0 0) (fin (PI fun r' h' => r9 = r' ∧ HH s9 h' ∧ Mo s0 s9) 0 0) 54 [some (.ref 67), some (.int y1), none, none, some (.int x4)] [] h 0 0 := by
  intro n
  induction n with
  | zero =>
    intro s h x4 H ms hf
    cases hf
  | succ n ih =>
    intro s h x4 H ms hf
    replace hf : f_X12_row_L54_b y1 (f_X12_row_L54 y1 n) s x4 = some (r9, s9) := hf
    unfold f_X12_row_L54_b at hf
    refine aw_iload (pc' := 56) dX12_row_54 rfl rfl ?_
    refine aw_bipush (v := 60) (pc' := 58) dX12_row_56 rfl bp_60 ?_
    refine aw_iload_n (pc' := 59) dX12_row_58 rfl rfl ?_
    refine aw_imul (pc' := 60) dX12_row_59 rfl ?_
    refine aw_bipush (v := 60) (pc' := 62) dX12_row_60 rfl bp_60 ?_
    refine aw_iadd (pc' := 63) dX12_row_62 rfl ?_
    refine aw_cge (tgt := 88) (pc' := 66) dX12_row_63 rfl rfl (fun c14 => ?_) (fun c14 => ?_)
    · replace hf := ifn c14 hf
      refine aw_iconst (v := 1) (pc' := 89) dX12_row_88 rfl ic_1 ?_
      obtain ⟨rfl, rfl⟩ := so2 hf
      exact aw_ri dX12_row_89 rfl rfl (Nat.le_of_ble_eq_true rfl) (Nat.le_of_ble_eq_true rfl) ⟨rfl, H, (mb.tr ms)⟩
    · replace hf := ifp c14 hf
      refine aw_aload_n (pc' := 67) dX12_row_66 rfl rfl rfl ?_
      refine aw_gr (q := 59) (e := 127) (v := .ref 130) (pc' := 70) H (H.fo rfl rfl) (by decide) rfl rfl dX12_row_67 rfl fl_RX12_214 ?_
      refine aw_iload (pc' := 72) dX12_row_70 rfl rfl ?_
      refine aw_lconst (v := 0) (pc' := 73) dX12_row_72 rfl (by decide) ?_
      obtain ⟨g15, hf⟩ := gd_e hf
      obtain ⟨s16, es16, hf⟩ := st_e hf
      refine aw_js (q := 122) (pc' := 74) es16 H (H.fa rfl rfl rfl) g15 dX12_row_73 rfl (fun h16 H16 => ?_)
      have m16 := Mo.ofJ es16
      refine aw_aload_n (pc' := 75) dX12_row_74 rfl rfl rfl ?_
      refine aw_gr (q := 59) (e := 129) (v := .ref 131) (pc' := 78) H16 (H16.fo rfl rfl) (l13 rfl) rfl rfl dX12_row_75 rfl fl_RX12_218 ?_
      refine aw_iload (pc' := 80) dX12_row_78 rfl rfl ?_
      refine aw_iconst (v := 0) (pc' := 81) dX12_row_80 rfl ic_0 ?_
      obtain ⟨g17, hf⟩ := gd_e hf
      obtain ⟨s18, es18, hf⟩ := st_e hf
      refine aw_zs (q := 123) (pc' := 82) es18 H16 (H16.fa rfl rfl rfl) g17 dX12_row_81 rfl (fun h18 H18 => ?_)
      have m18 := Mo.ofI es18
      obtain ⟨v19, ev19, hf⟩ := vl_e hf
      refine aw_iincV (y := v19) (lv' := [_, _, _, _, _]) (pc' := 85) dX12_row_82 rfl rfl (Nat.le_of_ble_eq_true rfl) ev19 rfl ?_
      refine aw_goto (tgt := 54) dX12_row_85 rfl ?_
      exact ih _ _ _ H18 ((ms.tr m16).tr m18) hf
noncomputable def f_X12_row (s0 : SS) (a0 : Int32) (a1 : Int32) (a2 : Int32) : Option (Int32 × SS) := (b1 (f_X12_isShelf a0) fun r1 => (if r1 = (0 : Int32) then some ((-1), s0) else (b1 (f_X12_in a1 (0 : Int32) (4 : Int32)) fun r3 => (if r3 = (0 : Int32) then some ((-1), s0) else (if (60 : Int32) < a2 then some ((-1), s0) else (if a2 < (0 : Int32) then some ((-14), s0) else (vl ((((-2) : Int32) - a1)) fun v7 => (gd (inB a0 6) (st (pI s0 120 (a0.toInt.toNat) v7) fun s10 => (gd (inB a0 6) (st (pI s10 121 (a0.toInt.toNat) a2) fun s12 => (vl (((60 : Int32) * a0)) fun v13 => (f_X12_row_L54 a0 4000 s12 v13)))))))))))))
set_option maxRecDepth 4000 in
theorem t_X12_row {r9 : Int32} {s0 s9 : SS} {h0 : List aE} {a0 : Int32} {a1 : Int32} {a2 : Int32} (H0 : HH s0 h0) (hf : f_X12_row s0 a0 a1 a2 = some (r9, s9)) : AM mX12_row (2) [.ref 67, .int a0, .int a1, .int a2] h0 0 0 (PI fun r' h' => r9 = r' ∧ HH s9 h' ∧ Mo s0 s9) := by
  unfold f_X12_row at hf
  refine am_of (lv := [some (.ref 67), some (.int a0), some (.int a1), some (.int a2), none]) rfl (Nat.le_of_ble_eq_true rfl) rfl ?_
  refine aw_iload_n (pc' := 1) dX12_row_0 rfl rfl ?_
  obtain ⟨r1, ec1, hf⟩ := b1_e hf
  refine aw_callSi (M' := mX12_isShelf) (nc' := 0) (ns' := 0) (pc' := 4) dX12_row_1 rfl ml_RX12_288 kX12_isShelf (t_X12_isShelf ec1) rfl rfl (Nat.le_of_ble_eq_true rfl) (rokD (by omega) (Nat.le_of_ble_eq_true rfl) (Nat.le_of_ble_eq_true rfl) (Nat.le_of_ble_eq_true rfl)) rfl rfl (fun _ h1 q1 => ?_)
  obtain ⟨rfl, rfl, zb1⟩ := q1
  refine aw_if_eq (tgt := 22) (pc' := 7) dX12_row_4 rfl rfl (fun c2 => ?_) (fun c2 => ?_)
  · replace hf := ifp c2 hf
    refine aw_iconst (v := (-1)) (pc' := 23) dX12_row_22 rfl ic_m1 ?_
    obtain ⟨rfl, rfl⟩ := so2 hf
    exact aw_ri dX12_row_23 rfl rfl (Nat.le_of_ble_eq_true rfl) (Nat.le_of_ble_eq_true rfl) ⟨rfl, H0, (Mo.rf _)⟩
  · replace hf := ifn c2 hf
    refine aw_iload_n (pc' := 8) dX12_row_7 rfl rfl ?_
    refine aw_iconst (v := 0) (pc' := 9) dX12_row_8 rfl ic_0 ?_
    refine aw_iconst (v := 4) (pc' := 10) dX12_row_9 rfl ic_4 ?_
    obtain ⟨r3, ec3, hf⟩ := b1_e hf
    refine aw_callSi (M' := mX12_in) (nc' := 0) (ns' := 0) (pc' := 13) dX12_row_10 rfl ml_RX12_230 kX12_in (t_X12_in ec3) rfl rfl (Nat.le_of_ble_eq_true rfl) (rokD (by omega) (Nat.le_of_ble_eq_true rfl) (Nat.le_of_ble_eq_true rfl) (Nat.le_of_ble_eq_true rfl)) rfl rfl (fun _ h3 q3 => ?_)
    obtain ⟨rfl, rfl, zb3⟩ := q3
    refine aw_if_eq (tgt := 22) (pc' := 16) dX12_row_13 rfl rfl (fun c4 => ?_) (fun c4 => ?_)
    · replace hf := ifp c4 hf
      refine aw_iconst (v := (-1)) (pc' := 23) dX12_row_22 rfl ic_m1 ?_
      obtain ⟨rfl, rfl⟩ := so2 hf
      exact aw_ri dX12_row_23 rfl rfl (Nat.le_of_ble_eq_true rfl) (Nat.le_of_ble_eq_true rfl) ⟨rfl, H0, (Mo.rf _)⟩
    · replace hf := ifn c4 hf
      refine aw_iload_n (pc' := 17) dX12_row_16 rfl rfl ?_
      refine aw_bipush (v := 60) (pc' := 19) dX12_row_17 rfl bp_60 ?_
      refine aw_cle (tgt := 24) (pc' := 22) dX12_row_19 rfl rfl (fun c5 => ?_) (fun c5 => ?_)
      · replace hf := ifn c5 hf
        refine aw_iload_n (pc' := 25) dX12_row_24 rfl rfl ?_
        refine aw_zge (tgt := 31) (pc' := 28) dX12_row_25 rfl rfl (fun c6 => ?_) (fun c6 => ?_)
        · replace hf := ifn c6 hf
          refine aw_aload_n (pc' := 32) dX12_row_31 rfl rfl rfl ?_
          refine aw_gr (q := 59) (e := 123) (v := .ref 128) (pc' := 35) H0 (H0.fo rfl rfl) (l13 rfl) rfl rfl dX12_row_32 rfl fl_RX12_208 ?_
          refine aw_iload_n (pc' := 36) dX12_row_35 rfl rfl ?_
          refine aw_bipush (v := (-2)) (pc' := 38) dX12_row_36 rfl bp_m2 ?_
          refine aw_iload_n (pc' := 39) dX12_row_38 rfl rfl ?_
          refine aw_isub (pc' := 40) dX12_row_39 rfl ?_
          obtain ⟨v7, ev7, hf⟩ := vl_e hf
          refine aw_topi ev7 ?_
          obtain ⟨g8, hf⟩ := gd_e hf
          obtain ⟨s10, es10, hf⟩ := st_e hf
          refine aw_is (q := 120) (pc' := 41) es10 H0 (H0.fa rfl rfl rfl) g8 dX12_row_40 rfl (fun h10 H10 => ?_)
          have m10 := Mo.ofI es10
          refine aw_aload_n (pc' := 42) dX12_row_41 rfl rfl rfl ?_
          refine aw_gr (q := 59) (e := 125) (v := .ref 129) (pc' := 45) H10 (H10.fo rfl rfl) (l13 rfl) rfl rfl dX12_row_42 rfl fl_RX12_211 ?_
          refine aw_iload_n (pc' := 46) dX12_row_45 rfl rfl ?_
          refine aw_iload_n (pc' := 47) dX12_row_46 rfl rfl ?_
          obtain ⟨g11, hf⟩ := gd_e hf
          obtain ⟨s12, es12, hf⟩ := st_e hf
          refine aw_is (q := 121) (pc' := 48) es12 H10 (H10.fa rfl rfl rfl) g11 dX12_row_47 rfl (fun h12 H12 => ?_)
          have m12 := Mo.ofI es12
          refine aw_bipush (v := 60) (pc' := 50) dX12_row_48 rfl bp_60 ?_
          refine aw_iload_n (pc' := 51) dX12_row_50 rfl rfl ?_
          refine aw_imul (pc' := 52) dX12_row_51 rfl ?_
          obtain ⟨v13, ev13, hf⟩ := vl_e hf
          refine aw_topi ev13 ?_
          refine aw_istore (lv' := [_, _, _, _, _]) (pc' := 54) dX12_row_52 rfl (Nat.le_of_ble_eq_true rfl) rfl ?_
          refine AW.lv_le (lz_k (lz_k (lz_d (lz_d (lz_k lz_0))))) ?_
          refine t_X12_row_L54 (m10.tr m12)  4000 _ _ _ H12 (Mo.rf _) hf
        · replace hf := ifp c6 hf
          refine aw_bipush (v := (-14)) (pc' := 30) dX12_row_28 rfl bp_m14 ?_
          obtain ⟨rfl, rfl⟩ := so2 hf
          exact aw_ri dX12_row_30 rfl rfl (Nat.le_of_ble_eq_true rfl) (Nat.le_of_ble_eq_true rfl) ⟨rfl, H0, (Mo.rf _)⟩
      · replace hf := ifp c5 hf
        refine aw_iconst (v := (-1)) (pc' := 23) dX12_row_22 rfl ic_m1 ?_
        obtain ⟨rfl, rfl⟩ := so2 hf
        exact aw_ri dX12_row_23 rfl rfl (Nat.le_of_ble_eq_true rfl) (Nat.le_of_ble_eq_true rfl) ⟨rfl, H0, (Mo.rf _)⟩
/-! ThirtyThreeBelowModel.whyNoPlace -/
noncomputable def f_X12_whyNoPlace (s0 : SS) (a0 : Int32) (a1 : Int32) : Option Int32 := (b1 (f_X12_isShelf a0) fun r1 => (if r1 = (0 : Int32) then some (-1) else (gd (inB a0 6) (if (zI s0 120 (a0.toInt.toNat)) = ((-1) : Int32) then some (-11) else (gd (inB a0 6) (if (zI s0 120 (a0.toInt.toNat)) < (0 : Int32) then (gd (inB a0 6) (b1 (f_X12_in a1 (0 : Int32) ((zI s0 121 (a0.toInt.toNat)) - (1 : Int32))) fun r8 => (if r8 = (0 : Int32) then some (-13) else some 0))) else some (-12)))))))
set_option maxRecDepth 4000 in
theorem t_X12_whyNoPlace {r9 : Int32} {s0 : SS} {h0 : List aE} {a0 : Int32} {a1 : Int32} (H0 : HH s0 h0) (hf : f_X12_whyNoPlace s0 a0 a1 = some r9) : AM mX12_whyNoPlace (2) [.ref 67, .int a0, .int a1] h0 0 0 (PI fun r' h' => r9 = r' ∧ h0 = h') := by
  unfold f_X12_whyNoPlace at hf
  refine am_of (lv := [some (.ref 67), some (.int a0), some (.int a1)]) rfl (Nat.le_of_ble_eq_true rfl) rfl ?_
  refine aw_iload_n (pc' := 1) dX12_whyNoPlace_0 rfl rfl ?_
  obtain ⟨r1, ec1, hf⟩ := b1_e hf
  refine aw_callSi (M' := mX12_isShelf) (nc' := 0) (ns' := 0) (pc' := 4) dX12_whyNoPlace_1 rfl ml_RX12_288 kX12_isShelf (t_X12_isShelf ec1) rfl rfl (Nat.le_of_ble_eq_true rfl) (rokD (by omega) (Nat.le_of_ble_eq_true rfl) (Nat.le_of_ble_eq_true rfl) (Nat.le_of_ble_eq_true rfl)) rfl rfl (fun _ h1 q1 => ?_)
  obtain ⟨rfl, rfl, zb1⟩ := q1
  refine aw_if_ne (tgt := 9) (pc' := 7) dX12_whyNoPlace_4 rfl rfl (fun c2 => ?_) (fun c2 => ?_)
  · replace hf := ifn c2 hf
    refine aw_aload_n (pc' := 10) dX12_whyNoPlace_9 rfl rfl rfl ?_
    refine aw_gr (q := 59) (e := 123) (v := .ref 128) (pc' := 13) H0 (H0.fo rfl rfl) (l13 rfl) rfl rfl dX12_whyNoPlace_10 rfl fl_RX12_208 ?_
    refine aw_iload_n (pc' := 14) dX12_whyNoPlace_13 rfl rfl ?_
    obtain ⟨g3, hf⟩ := gd_e hf
    refine aw_ia (q := 120) (pc' := 15) H0 (H0.fa rfl rfl rfl) g3 dX12_whyNoPlace_14 rfl ?_
    refine aw_iconst (v := (-1)) (pc' := 16) dX12_whyNoPlace_15 rfl ic_m1 ?_
    refine aw_icmp_ne (tgt := 22) (pc' := 19) dX12_whyNoPlace_16 rfl rfl (fun c4 => ?_) (fun c4 => ?_)
    · replace hf := ifn c4 hf
      refine aw_aload_n (pc' := 23) dX12_whyNoPlace_22 rfl rfl rfl ?_
      refine aw_gr (q := 59) (e := 123) (v := .ref 128) (pc' := 26) H0 (H0.fo rfl rfl) (l13 rfl) rfl rfl dX12_whyNoPlace_23 rfl fl_RX12_208 ?_
      refine aw_iload_n (pc' := 27) dX12_whyNoPlace_26 rfl rfl ?_
      obtain ⟨g5, hf⟩ := gd_e hf
      refine aw_ia (q := 120) (pc' := 28) H0 (H0.fa rfl rfl rfl) g5 dX12_whyNoPlace_27 rfl ?_
      refine aw_zlt (tgt := 34) (pc' := 31) dX12_whyNoPlace_28 rfl rfl (fun c6 => ?_) (fun c6 => ?_)
      · replace hf := ifp c6 hf
        refine aw_iload_n (pc' := 35) dX12_whyNoPlace_34 rfl rfl ?_
        refine aw_iconst (v := 0) (pc' := 36) dX12_whyNoPlace_35 rfl ic_0 ?_
        refine aw_aload_n (pc' := 37) dX12_whyNoPlace_36 rfl rfl rfl ?_
        refine aw_gr (q := 59) (e := 125) (v := .ref 129) (pc' := 40) H0 (H0.fo rfl rfl) (l13 rfl) rfl rfl dX12_whyNoPlace_37 rfl fl_RX12_211 ?_
        refine aw_iload_n (pc' := 41) dX12_whyNoPlace_40 rfl rfl ?_
        obtain ⟨g7, hf⟩ := gd_e hf
        refine aw_ia (q := 121) (pc' := 42) H0 (H0.fa rfl rfl rfl) g7 dX12_whyNoPlace_41 rfl ?_
        refine aw_iconst (v := 1) (pc' := 43) dX12_whyNoPlace_42 rfl ic_1 ?_
        refine aw_isub (pc' := 44) dX12_whyNoPlace_43 rfl ?_
        obtain ⟨r8, ec8, hf⟩ := b1_e hf
        refine aw_callSi (M' := mX12_in) (nc' := 0) (ns' := 0) (pc' := 47) dX12_whyNoPlace_44 rfl ml_RX12_230 kX12_in (t_X12_in ec8) rfl rfl (Nat.le_of_ble_eq_true rfl) (rokD (by omega) (Nat.le_of_ble_eq_true rfl) (Nat.le_of_ble_eq_true rfl) (Nat.le_of_ble_eq_true rfl)) rfl rfl (fun _ h8 q8 => ?_)
        obtain ⟨rfl, rfl, zb8⟩ := q8
        refine aw_if_eq (tgt := 54) (pc' := 50) dX12_whyNoPlace_47 rfl rfl (fun c10 => ?_) (fun c10 => ?_)
        · replace hf := ifp c10 hf
          refine aw_bipush (v := (-13)) (pc' := 56) dX12_whyNoPlace_54 rfl bp_m13 ?_
          obtain rfl := Option.some.inj hf
          exact aw_ri dX12_whyNoPlace_56 rfl rfl (Nat.le_of_ble_eq_true rfl) (Nat.le_of_ble_eq_true rfl) ⟨rfl, rfl⟩
        · replace hf := ifn c10 hf
          refine aw_iconst (v := 0) (pc' := 51) dX12_whyNoPlace_50 rfl ic_0 ?_
          refine aw_goto (tgt := 56) dX12_whyNoPlace_51 rfl ?_
          obtain rfl := Option.some.inj hf
          exact aw_ri dX12_whyNoPlace_56 rfl rfl (Nat.le_of_ble_eq_true rfl) (Nat.le_of_ble_eq_true rfl) ⟨rfl, rfl⟩
      · replace hf := ifn c6 hf
        refine aw_bipush (v := (-12)) (pc' := 33) dX12_whyNoPlace_31 rfl bp_m12 ?_
        obtain rfl := Option.some.inj hf
        exact aw_ri dX12_whyNoPlace_33 rfl rfl (Nat.le_of_ble_eq_true rfl) (Nat.le_of_ble_eq_true rfl) ⟨rfl, rfl⟩
    · replace hf := ifp c4 hf
      refine aw_bipush (v := (-11)) (pc' := 21) dX12_whyNoPlace_19 rfl bp_m11 ?_
      obtain rfl := Option.some.inj hf
      exact aw_ri dX12_whyNoPlace_21 rfl rfl (Nat.le_of_ble_eq_true rfl) (Nat.le_of_ble_eq_true rfl) ⟨rfl, rfl⟩
  · replace hf := ifp c2 hf
    refine aw_iconst (v := (-1)) (pc' := 8) dX12_whyNoPlace_7 rfl ic_m1 ?_
    obtain rfl := Option.some.inj hf
    exact aw_ri dX12_whyNoPlace_8 rfl rfl (Nat.le_of_ble_eq_true rfl) (Nat.le_of_ble_eq_true rfl) ⟨rfl, rfl⟩
/-! ThirtyThreeBelowModel.put -/
noncomputable def f_X12_put (s0 : SS) (a0 : Int32) (a1 : Int32) (a2 : Int64) : Option (Int32 × SS) := (b1 (f_X12_isShelf a0) fun r1 => (if r1 = (0 : Int32) then some ((-1), s0) else (b1 (f_X12_isReals s0 a0) fun r3 => (jn ((b1 (f_X12_whyNoPlace s0 a0 a1) fun r5 => (if r5 < (0 : Int32) then some (r5, s0) else (gd (inB a0 6) (vl ((((-2) : Int32) - (zI s0 120 (a0.toInt.toNat)))) fun v8 => (jn (fun (t10_0 : Int64) => (vl ((((60 : Int32) * a0) + a1)) fun v11 => (gd (inB v11 360) (st (pJ s0 122 (v11.toInt.toNat) t10_0) fun s13 => (vl ((((60 : Int32) * a0) + a1)) fun v14 => (gd (inB v14 360) (st (pI s13 123 (v14.toInt.toNat) ((0 : Int32) &&& 1)) fun s16 => some (1, s16)))))))) fun k10 => (if v8 = (0 : Int32) then (k10 a2.toInt32.toInt8.toInt32.toInt64) else (if v8 = (1 : Int32) then (k10 (a2 &&& 65535)) else (if v8 = (2 : Int32) then (k10 a2.toInt32.toInt64) else (k10 a2)))))))))) fun k4 => (if r3 = (0 : Int32) then k4 else (if (lg_cmp a2 (-9999)) < (0 : Int32) then some ((-1), s0) else (if (0 : Int32) < (lg_cmp a2 9999) then some ((-1), s0) else k4)))))))
set_option maxRecDepth 4000 in
theorem t_X12_put {r9 : Int32} {s0 s9 : SS} {h0 : List aE} {a0 : Int32} {a1 : Int32} {a2 : Int64} (H0 : HH s0 h0) (hf : f_X12_put s0 a0 a1 a2 = some (r9, s9)) : AM mX12_put (3) [.ref 67, .int a0, .int a1, .long a2] h0 0 0 (PI fun r' h' => r9 = r' ∧ HH s9 h' ∧ Mo s0 s9) := by
  unfold f_X12_put at hf
  refine am_of (lv := [some (.ref 67), some (.int a0), some (.int a1), some (.long a2), none, none, none]) rfl (Nat.le_of_ble_eq_true rfl) rfl ?_
  refine aw_iload_n (pc' := 1) dX12_put_0 rfl rfl ?_
  obtain ⟨r1, ec1, hf⟩ := b1_e hf
  refine aw_callSi (M' := mX12_isShelf) (nc' := 0) (ns' := 0) (pc' := 4) dX12_put_1 rfl ml_RX12_288 kX12_isShelf (t_X12_isShelf ec1) rfl rfl (Nat.le_of_ble_eq_true rfl) (rokD (by omega) (Nat.le_of_ble_eq_true rfl) (Nat.le_of_ble_eq_true rfl) (Nat.le_of_ble_eq_true rfl)) rfl rfl (fun _ h1 q1 => ?_)
  obtain ⟨rfl, rfl, zb1⟩ := q1
  refine aw_if_eq (tgt := 31) (pc' := 7) dX12_put_4 rfl rfl (fun c2 => ?_) (fun c2 => ?_)
  · replace hf := ifp c2 hf
    refine aw_iconst (v := (-1)) (pc' := 32) dX12_put_31 rfl ic_m1 ?_
    obtain ⟨rfl, rfl⟩ := so2 hf
    exact aw_ri dX12_put_32 rfl rfl (Nat.le_of_ble_eq_true rfl) (Nat.le_of_ble_eq_true rfl) ⟨rfl, H0, (Mo.rf _)⟩
  · replace hf := ifn c2 hf
    refine aw_aload_n (pc' := 8) dX12_put_7 rfl rfl rfl ?_
    refine aw_iload_n (pc' := 9) dX12_put_8 rfl rfl ?_
    obtain ⟨r3, ec3, hf⟩ := b1_e hf
    refine aw_callVi (M' := mX12_isReals) (nc' := 0) (ns' := 0) (pc' := 12) dX12_put_9 rfl ml_RX12_291 kX12_isReals (t_X12_isReals H0 ec3) (H0.ob (H0.fo rfl rfl) (by decide)) rfl rfl rfl (Nat.le_of_ble_eq_true rfl) (rokD (by omega) (Nat.le_of_ble_eq_true rfl) (Nat.le_of_ble_eq_true rfl) (Nat.le_of_ble_eq_true rfl)) rfl rfl (fun _ h3 q3 => ?_)
    obtain ⟨rfl, rfl, zb3⟩ := q3
    obtain ⟨k4, ek4, hf⟩ := jn_e hf
    have hk4 : k4 = some (r9, s9) → AW mX12_put (rmD (3) 0 0) (fin (PI fun r' h' => r9 = r' ∧ HH s9 h' ∧ Mo s0 s9) 0 0) 33 [some (.ref 67), some (.int a0), some (.int a1), some (.long a2), none, none, none] [] h0 0 0 := by
      intro hf
      subst ek4
      refine aw_aload_n (pc' := 34) dX12_put_33 rfl rfl rfl ?_
      refine aw_iload_n (pc' := 35) dX12_put_34 rfl rfl ?_
      refine aw_iload_n (pc' := 36) dX12_put_35 rfl rfl ?_
      obtain ⟨r5, ec5, hf⟩ := b1_e hf
      refine aw_callVi (M' := mX12_whyNoPlace) (nc' := 0) (ns' := 0) (pc' := 39) dX12_put_36 rfl ml_RX12_494 kX12_whyNoPlace (t_X12_whyNoPlace H0 ec5) (H0.ob (H0.fo rfl rfl) (by decide)) rfl rfl rfl (Nat.le_of_ble_eq_true rfl) (rokD (by omega) (Nat.le_of_ble_eq_true rfl) (Nat.le_of_ble_eq_true rfl) (Nat.le_of_ble_eq_true rfl)) rfl rfl (fun _ h5 q5 => ?_)
      obtain ⟨rfl, rfl⟩ := q5
      refine aw_istore (lv' := [_, _, _, _, _, _, _]) (pc' := 41) dX12_put_39 rfl (Nat.le_of_ble_eq_true rfl) rfl ?_
      refine aw_iload (pc' := 43) dX12_put_41 rfl rfl ?_
      refine aw_zge (tgt := 49) (pc' := 46) dX12_put_43 rfl rfl (fun c6 => ?_) (fun c6 => ?_)
      · replace hf := ifn c6 hf
        refine aw_bipush (v := (-2)) (pc' := 51) dX12_put_49 rfl bp_m2 ?_
        refine aw_aload_n (pc' := 52) dX12_put_51 rfl rfl rfl ?_
        refine aw_gr (q := 59) (e := 123) (v := .ref 128) (pc' := 55) H0 (H0.fo rfl rfl) (l13 rfl) rfl rfl dX12_put_52 rfl fl_RX12_208 ?_
        refine aw_iload_n (pc' := 56) dX12_put_55 rfl rfl ?_
        obtain ⟨g7, hf⟩ := gd_e hf
        refine aw_ia (q := 120) (pc' := 57) H0 (H0.fa rfl rfl rfl) g7 dX12_put_56 rfl ?_
        refine aw_isub (pc' := 58) dX12_put_57 rfl ?_
        obtain ⟨v8, ev8, hf⟩ := vl_e hf
        refine aw_topi ev8 ?_
        refine aw_istore (lv' := [_, _, _, _, _, _, _]) (pc' := 60) dX12_put_58 rfl (Nat.le_of_ble_eq_true rfl) rfl ?_
        refine aw_aload_n (pc' := 61) dX12_put_60 rfl rfl rfl ?_
        refine aw_gr (q := 59) (e := 127) (v := .ref 130) (pc' := 64) H0 (H0.fo rfl rfl) (l13 rfl) rfl rfl dX12_put_61 rfl fl_RX12_214 ?_
        refine aw_bipush (v := 60) (pc' := 66) dX12_put_64 rfl bp_60 ?_
        refine aw_iload_n (pc' := 67) dX12_put_66 rfl rfl ?_
        refine aw_imul (pc' := 68) dX12_put_67 rfl ?_
        refine aw_iload_n (pc' := 69) dX12_put_68 rfl rfl ?_
        refine aw_iadd (pc' := 70) dX12_put_69 rfl ?_
        refine aw_iload (pc' := 72) dX12_put_70 rfl rfl ?_
        obtain ⟨k10, ek10, hf⟩ := jn_e hf
        have hk10 : ∀ (t10_0 : Int64), k10 t10_0 = some (r9, s9) → AW mX12_put (rmD (3) 0 0) (fin (PI fun r' h' => r9 = r' ∧ HH s9 h' ∧ Mo s0 s9) 0 0) 109 [some (.ref 67), some (.int a0), some (.int a1), none, none, none, none] [.long t10_0, .int (((60 : Int32) * a0) + a1), .ref 130] h0 0 0 := by
          intro t10_0 hf
          subst ek10
          obtain ⟨v11, ev11, hf⟩ := vl_e hf
          refine aw_sndi ev11 ?_
          obtain ⟨g12, hf⟩ := gd_e hf
          obtain ⟨s13, es13, hf⟩ := st_e hf
          refine aw_js (q := 122) (pc' := 110) es13 H0 (H0.fa rfl rfl rfl) g12 dX12_put_109 rfl (fun h13 H13 => ?_)
          have m13 := Mo.ofJ es13
          refine aw_aload_n (pc' := 111) dX12_put_110 rfl rfl rfl ?_
          refine aw_gr (q := 59) (e := 129) (v := .ref 131) (pc' := 114) H13 (H13.fo rfl rfl) (l13 rfl) rfl rfl dX12_put_111 rfl fl_RX12_218 ?_
          refine aw_bipush (v := 60) (pc' := 116) dX12_put_114 rfl bp_60 ?_
          refine aw_iload_n (pc' := 117) dX12_put_116 rfl rfl ?_
          refine aw_imul (pc' := 118) dX12_put_117 rfl ?_
          refine aw_iload_n (pc' := 119) dX12_put_118 rfl rfl ?_
          refine aw_iadd (pc' := 120) dX12_put_119 rfl ?_
          refine aw_iconst (v := 0) (pc' := 121) dX12_put_120 rfl ic_0 ?_
          obtain ⟨v14, ev14, hf⟩ := vl_e hf
          refine aw_sndi ev14 ?_
          obtain ⟨g15, hf⟩ := gd_e hf
          obtain ⟨s16, es16, hf⟩ := st_e hf
          refine aw_zs (q := 123) (pc' := 122) es16 H13 (H13.fa rfl rfl rfl) g15 dX12_put_121 rfl (fun h16 H16 => ?_)
          have m16 := Mo.ofI es16
          refine aw_iconst (v := 1) (pc' := 123) dX12_put_122 rfl ic_1 ?_
          obtain ⟨rfl, rfl⟩ := so2 hf
          exact aw_ri dX12_put_123 rfl rfl (Nat.le_of_ble_eq_true rfl) (Nat.le_of_ble_eq_true rfl) ⟨rfl, H16, (m13.tr m16)⟩
        clear ek10
        refine aw_if_ne (tgt := 82) (pc' := 75) dX12_put_72 rfl rfl (fun c17 => ?_) (fun c17 => ?_)
        · replace hf := ifn c17 hf
          refine aw_iload (pc' := 84) dX12_put_82 rfl rfl ?_
          refine aw_iconst (v := 1) (pc' := 85) dX12_put_84 rfl ic_1 ?_
          refine aw_icmp_ne (tgt := 96) (pc' := 88) dX12_put_85 rfl rfl (fun c18 => ?_) (fun c18 => ?_)
          · replace hf := ifn c18 hf
            refine aw_iload (pc' := 98) dX12_put_96 rfl rfl ?_
            refine aw_iconst (v := 2) (pc' := 99) dX12_put_98 rfl ic_2 ?_
            refine aw_icmp_ne (tgt := 108) (pc' := 102) dX12_put_99 rfl rfl (fun c19 => ?_) (fun c19 => ?_)
            · replace hf := ifn c19 hf
              refine aw_lload_n (pc' := 109) dX12_put_108 rfl rfl ?_
              refine AW.lv_le (lz_k (lz_k (lz_k (lz_d (lz_d (lz_d (lz_d lz_0))))))) ?_
              exact hk10 _ hf
            · replace hf := ifp c19 hf
              refine aw_lload_n (pc' := 103) dX12_put_102 rfl rfl ?_
              refine aw_l2i (pc' := 104) dX12_put_103 rfl ?_
              refine aw_i2l (pc' := 105) dX12_put_104 rfl ?_
              refine aw_goto (tgt := 109) dX12_put_105 rfl ?_
              refine AW.lv_le (lz_k (lz_k (lz_k (lz_d (lz_d (lz_d (lz_d lz_0))))))) ?_
              exact hk10 _ hf
          · replace hf := ifp c18 hf
            refine aw_lload_n (pc' := 89) dX12_put_88 rfl rfl ?_
            refine aw_ldc2 (pc' := 92) dX12_put_89 rfl ct_RX12_497 ?_
            refine aw_land (pc' := 93) dX12_put_92 rfl ?_
            refine aw_goto (tgt := 109) dX12_put_93 rfl ?_
            refine AW.lv_le (lz_k (lz_k (lz_k (lz_d (lz_d (lz_d (lz_d lz_0))))))) ?_
            exact hk10 _ hf
        · replace hf := ifp c17 hf
          refine aw_lload_n (pc' := 76) dX12_put_75 rfl rfl ?_
          refine aw_l2i (pc' := 77) dX12_put_76 rfl ?_
          refine aw_i2b (pc' := 78) dX12_put_77 rfl ?_
          refine aw_i2l (pc' := 79) dX12_put_78 rfl ?_
          refine aw_goto (tgt := 109) dX12_put_79 rfl ?_
          refine AW.lv_le (lz_k (lz_k (lz_k (lz_d (lz_d (lz_d (lz_d lz_0))))))) ?_
          exact hk10 _ hf
      · replace hf := ifp c6 hf
        refine aw_iload (pc' := 48) dX12_put_46 rfl rfl ?_
        obtain ⟨rfl, rfl⟩ := so2 hf
        exact aw_ri dX12_put_48 rfl rfl (Nat.le_of_ble_eq_true rfl) (Nat.le_of_ble_eq_true rfl) ⟨rfl, H0, (Mo.rf _)⟩
    clear ek4
    refine aw_if_eq (tgt := 33) (pc' := 15) dX12_put_12 rfl rfl (fun c20 => ?_) (fun c20 => ?_)
    · replace hf := ifp c20 hf
      exact hk4  hf
    · replace hf := ifn c20 hf
      refine aw_lload_n (pc' := 16) dX12_put_15 rfl rfl ?_
      refine aw_ldc2 (pc' := 19) dX12_put_16 rfl ct_RX12_490 ?_
      refine aw_lcmp (pc' := 20) dX12_put_19 rfl ?_
      refine aw_zlt (tgt := 31) (pc' := 23) dX12_put_20 rfl rfl (fun c21 => ?_) (fun c21 => ?_)
      · replace hf := ifp c21 hf
        refine aw_iconst (v := (-1)) (pc' := 32) dX12_put_31 rfl ic_m1 ?_
        obtain ⟨rfl, rfl⟩ := so2 hf
        exact aw_ri dX12_put_32 rfl rfl (Nat.le_of_ble_eq_true rfl) (Nat.le_of_ble_eq_true rfl) ⟨rfl, H0, (Mo.rf _)⟩
      · replace hf := ifn c21 hf
        refine aw_lload_n (pc' := 24) dX12_put_23 rfl rfl ?_
        refine aw_ldc2 (pc' := 27) dX12_put_24 rfl ct_RX12_492 ?_
        refine aw_lcmp (pc' := 28) dX12_put_27 rfl ?_
        refine aw_zle (tgt := 33) (pc' := 31) dX12_put_28 rfl rfl (fun c22 => ?_) (fun c22 => ?_)
        · replace hf := ifn c22 hf
          exact hk4  hf
        · replace hf := ifp c22 hf
          refine aw_iconst (v := (-1)) (pc' := 32) dX12_put_31 rfl ic_m1 ?_
          obtain ⟨rfl, rfl⟩ := so2 hf
          exact aw_ri dX12_put_32 rfl rfl (Nat.le_of_ble_eq_true rfl) (Nat.le_of_ble_eq_true rfl) ⟨rfl, H0, (Mo.rf _)⟩
/-! ThirtyThreeBelowModel.blank -/
noncomputable def f_X12_blank (s0 : SS) (a0 : Int32) (a1 : Int32) : Option (Int32 × SS) := (b1 (f_X12_isShelf a0) fun r1 => (if r1 = (0 : Int32) then some ((-1), s0) else (gd (inB a0 6) (if (zI s0 120 (a0.toInt.toNat)) = ((-1) : Int32) then some ((-11), s0) else (b1 (f_X12_isReals s0 a0) fun r5 => (if r5 = (0 : Int32) then some ((-12), s0) else (gd (inB a0 6) (b1 (f_X12_in a1 (0 : Int32) ((zI s0 121 (a0.toInt.toNat)) - (1 : Int32))) fun r8 => (if r8 = (0 : Int32) then some ((-13), s0) else (vl ((((60 : Int32) * a0) + a1)) fun v11 => (gd (inB v11 360) (st (pI s0 123 (v11.toInt.toNat) ((1 : Int32) &&& 1)) fun s13 => some (1, s13)))))))))))))
set_option maxRecDepth 4000 in
theorem t_X12_blank {r9 : Int32} {s0 s9 : SS} {h0 : List aE} {a0 : Int32} {a1 : Int32} (H0 : HH s0 h0) (hf : f_X12_blank s0 a0 a1 = some (r9, s9)) : AM mX12_blank (2) [.ref 67, .int a0, .int a1] h0 0 0 (PI fun r' h' => r9 = r' ∧ HH s9 h' ∧ Mo s0 s9) := by
  unfold f_X12_blank at hf
  refine am_of (lv := [some (.ref 67), some (.int a0), some (.int a1)]) rfl (Nat.le_of_ble_eq_true rfl) rfl ?_
  refine aw_iload_n (pc' := 1) dX12_blank_0 rfl rfl ?_
  obtain ⟨r1, ec1, hf⟩ := b1_e hf
  refine aw_callSi (M' := mX12_isShelf) (nc' := 0) (ns' := 0) (pc' := 4) dX12_blank_1 rfl ml_RX12_288 kX12_isShelf (t_X12_isShelf ec1) rfl rfl (Nat.le_of_ble_eq_true rfl) (rokD (by omega) (Nat.le_of_ble_eq_true rfl) (Nat.le_of_ble_eq_true rfl) (Nat.le_of_ble_eq_true rfl)) rfl rfl (fun _ h1 q1 => ?_)
  obtain ⟨rfl, rfl, zb1⟩ := q1
  refine aw_if_ne (tgt := 9) (pc' := 7) dX12_blank_4 rfl rfl (fun c2 => ?_) (fun c2 => ?_)
  · replace hf := ifn c2 hf
    refine aw_aload_n (pc' := 10) dX12_blank_9 rfl rfl rfl ?_
    refine aw_gr (q := 59) (e := 123) (v := .ref 128) (pc' := 13) H0 (H0.fo rfl rfl) (l13 rfl) rfl rfl dX12_blank_10 rfl fl_RX12_208 ?_
    refine aw_iload_n (pc' := 14) dX12_blank_13 rfl rfl ?_
    obtain ⟨g3, hf⟩ := gd_e hf
    refine aw_ia (q := 120) (pc' := 15) H0 (H0.fa rfl rfl rfl) g3 dX12_blank_14 rfl ?_
    refine aw_iconst (v := (-1)) (pc' := 16) dX12_blank_15 rfl ic_m1 ?_
    refine aw_icmp_ne (tgt := 22) (pc' := 19) dX12_blank_16 rfl rfl (fun c4 => ?_) (fun c4 => ?_)
    · replace hf := ifn c4 hf
      refine aw_aload_n (pc' := 23) dX12_blank_22 rfl rfl rfl ?_
      refine aw_iload_n (pc' := 24) dX12_blank_23 rfl rfl ?_
      obtain ⟨r5, ec5, hf⟩ := b1_e hf
      refine aw_callVi (M' := mX12_isReals) (nc' := 0) (ns' := 0) (pc' := 27) dX12_blank_24 rfl ml_RX12_291 kX12_isReals (t_X12_isReals H0 ec5) (H0.ob (H0.fo rfl rfl) (by decide)) rfl rfl rfl (Nat.le_of_ble_eq_true rfl) (rokD (by omega) (Nat.le_of_ble_eq_true rfl) (Nat.le_of_ble_eq_true rfl) (Nat.le_of_ble_eq_true rfl)) rfl rfl (fun _ h5 q5 => ?_)
      obtain ⟨rfl, rfl, zb5⟩ := q5
      refine aw_if_ne (tgt := 33) (pc' := 30) dX12_blank_27 rfl rfl (fun c6 => ?_) (fun c6 => ?_)
      · replace hf := ifn c6 hf
        refine aw_iload_n (pc' := 34) dX12_blank_33 rfl rfl ?_
        refine aw_iconst (v := 0) (pc' := 35) dX12_blank_34 rfl ic_0 ?_
        refine aw_aload_n (pc' := 36) dX12_blank_35 rfl rfl rfl ?_
        refine aw_gr (q := 59) (e := 125) (v := .ref 129) (pc' := 39) H0 (H0.fo rfl rfl) (l13 rfl) rfl rfl dX12_blank_36 rfl fl_RX12_211 ?_
        refine aw_iload_n (pc' := 40) dX12_blank_39 rfl rfl ?_
        obtain ⟨g7, hf⟩ := gd_e hf
        refine aw_ia (q := 121) (pc' := 41) H0 (H0.fa rfl rfl rfl) g7 dX12_blank_40 rfl ?_
        refine aw_iconst (v := 1) (pc' := 42) dX12_blank_41 rfl ic_1 ?_
        refine aw_isub (pc' := 43) dX12_blank_42 rfl ?_
        obtain ⟨r8, ec8, hf⟩ := b1_e hf
        refine aw_callSi (M' := mX12_in) (nc' := 0) (ns' := 0) (pc' := 46) dX12_blank_43 rfl ml_RX12_230 kX12_in (t_X12_in ec8) rfl rfl (Nat.le_of_ble_eq_true rfl) (rokD (by omega) (Nat.le_of_ble_eq_true rfl) (Nat.le_of_ble_eq_true rfl) (Nat.le_of_ble_eq_true rfl)) rfl rfl (fun _ h8 q8 => ?_)
        obtain ⟨rfl, rfl, zb8⟩ := q8
        refine aw_if_ne (tgt := 52) (pc' := 49) dX12_blank_46 rfl rfl (fun c10 => ?_) (fun c10 => ?_)
        · replace hf := ifn c10 hf
          refine aw_aload_n (pc' := 53) dX12_blank_52 rfl rfl rfl ?_
          refine aw_gr (q := 59) (e := 129) (v := .ref 131) (pc' := 56) H0 (H0.fo rfl rfl) (l13 rfl) rfl rfl dX12_blank_53 rfl fl_RX12_218 ?_
          refine aw_bipush (v := 60) (pc' := 58) dX12_blank_56 rfl bp_60 ?_
          refine aw_iload_n (pc' := 59) dX12_blank_58 rfl rfl ?_
          refine aw_imul (pc' := 60) dX12_blank_59 rfl ?_
          refine aw_iload_n (pc' := 61) dX12_blank_60 rfl rfl ?_
          refine aw_iadd (pc' := 62) dX12_blank_61 rfl ?_
          refine aw_iconst (v := 1) (pc' := 63) dX12_blank_62 rfl ic_1 ?_
          obtain ⟨v11, ev11, hf⟩ := vl_e hf
          refine aw_sndi ev11 ?_
          obtain ⟨g12, hf⟩ := gd_e hf
          obtain ⟨s13, es13, hf⟩ := st_e hf
          refine aw_zs (q := 123) (pc' := 64) es13 H0 (H0.fa rfl rfl rfl) g12 dX12_blank_63 rfl (fun h13 H13 => ?_)
          have m13 := Mo.ofI es13
          refine aw_iconst (v := 1) (pc' := 65) dX12_blank_64 rfl ic_1 ?_
          obtain ⟨rfl, rfl⟩ := so2 hf
          exact aw_ri dX12_blank_65 rfl rfl (Nat.le_of_ble_eq_true rfl) (Nat.le_of_ble_eq_true rfl) ⟨rfl, H13, m13⟩
        · replace hf := ifp c10 hf
          refine aw_bipush (v := (-13)) (pc' := 51) dX12_blank_49 rfl bp_m13 ?_
          obtain ⟨rfl, rfl⟩ := so2 hf
          exact aw_ri dX12_blank_51 rfl rfl (Nat.le_of_ble_eq_true rfl) (Nat.le_of_ble_eq_true rfl) ⟨rfl, H0, (Mo.rf _)⟩
      · replace hf := ifp c6 hf
        refine aw_bipush (v := (-12)) (pc' := 32) dX12_blank_30 rfl bp_m12 ?_
        obtain ⟨rfl, rfl⟩ := so2 hf
        exact aw_ri dX12_blank_32 rfl rfl (Nat.le_of_ble_eq_true rfl) (Nat.le_of_ble_eq_true rfl) ⟨rfl, H0, (Mo.rf _)⟩
    · replace hf := ifp c4 hf
      refine aw_bipush (v := (-11)) (pc' := 21) dX12_blank_19 rfl bp_m11 ?_
      obtain ⟨rfl, rfl⟩ := so2 hf
      exact aw_ri dX12_blank_21 rfl rfl (Nat.le_of_ble_eq_true rfl) (Nat.le_of_ble_eq_true rfl) ⟨rfl, H0, (Mo.rf _)⟩
  · replace hf := ifp c2 hf
    refine aw_iconst (v := (-1)) (pc' := 8) dX12_blank_7 rfl ic_m1 ?_
    obtain ⟨rfl, rfl⟩ := so2 hf
    exact aw_ri dX12_blank_8 rfl rfl (Nat.le_of_ble_eq_true rfl) (Nat.le_of_ble_eq_true rfl) ⟨rfl, H0, (Mo.rf _)⟩
/-! ThirtyThreeBelowModel.element -/
noncomputable def f_X12_element (s0 : SS) (a0 : Int32) (a1 : Int32) : Option Int64 := (b1 (f_X12_whyNoPlace s0 a0 a1) fun r1 => (if r1 < (0 : Int32) then some (-9223372036854775808) else (vl ((((60 : Int32) * a0) + a1)) fun v3 => (gd (inB v3 360) (if (zI s0 123 (v3.toInt.toNat)) = (0 : Int32) then (vl ((((60 : Int32) * a0) + a1)) fun v6 => (gd (inB v6 360) (some (zJ s0 122 (v6.toInt.toNat))))) else some 9223372036854775807)))))
set_option maxRecDepth 4000 in
theorem t_X12_element {r9 : Int64} {s0 : SS} {h0 : List aE} {a0 : Int32} {a1 : Int32} (H0 : HH s0 h0) (hf : f_X12_element s0 a0 a1 = some r9) : AM mX12_element (3) [.ref 67, .int a0, .int a1] h0 0 0 (PL fun r' h' => r9 = r' ∧ h0 = h') := by
  unfold f_X12_element at hf
  refine am_of (lv := [some (.ref 67), some (.int a0), some (.int a1)]) rfl (Nat.le_of_ble_eq_true rfl) rfl ?_
  refine aw_aload_n (pc' := 1) dX12_element_0 rfl rfl rfl ?_
  refine aw_iload_n (pc' := 2) dX12_element_1 rfl rfl ?_
  refine aw_iload_n (pc' := 3) dX12_element_2 rfl rfl ?_
  obtain ⟨r1, ec1, hf⟩ := b1_e hf
  refine aw_callVi (M' := mX12_whyNoPlace) (nc' := 0) (ns' := 0) (pc' := 6) dX12_element_3 rfl ml_RX12_494 kX12_whyNoPlace (t_X12_whyNoPlace H0 ec1) (H0.ob (H0.fo rfl rfl) (by decide)) rfl rfl rfl (Nat.le_of_ble_eq_true rfl) (rokD (by omega) (Nat.le_of_ble_eq_true rfl) (Nat.le_of_ble_eq_true rfl) (Nat.le_of_ble_eq_true rfl)) rfl rfl (fun _ h1 q1 => ?_)
  obtain ⟨rfl, rfl⟩ := q1
  refine aw_zge (tgt := 13) (pc' := 9) dX12_element_6 rfl rfl (fun c2 => ?_) (fun c2 => ?_)
  · replace hf := ifn c2 hf
    refine aw_aload_n (pc' := 14) dX12_element_13 rfl rfl rfl ?_
    refine aw_gr (q := 59) (e := 129) (v := .ref 131) (pc' := 17) H0 (H0.fo rfl rfl) (l13 rfl) rfl rfl dX12_element_14 rfl fl_RX12_218 ?_
    refine aw_bipush (v := 60) (pc' := 19) dX12_element_17 rfl bp_60 ?_
    refine aw_iload_n (pc' := 20) dX12_element_19 rfl rfl ?_
    refine aw_imul (pc' := 21) dX12_element_20 rfl ?_
    refine aw_iload_n (pc' := 22) dX12_element_21 rfl rfl ?_
    refine aw_iadd (pc' := 23) dX12_element_22 rfl ?_
    obtain ⟨v3, ev3, hf⟩ := vl_e hf
    refine aw_topi ev3 ?_
    obtain ⟨g4, hf⟩ := gd_e hf
    refine aw_za (q := 123) (pc' := 24) H0 (H0.fa rfl rfl rfl) g4 dX12_element_23 rfl ?_
    refine aw_if_eq (tgt := 33) (pc' := 27) dX12_element_24 rfl rfl (fun c5 => ?_) (fun c5 => ?_)
    · replace hf := ifp c5 hf
      refine aw_aload_n (pc' := 34) dX12_element_33 rfl rfl rfl ?_
      refine aw_gr (q := 59) (e := 127) (v := .ref 130) (pc' := 37) H0 (H0.fo rfl rfl) (l13 rfl) rfl rfl dX12_element_34 rfl fl_RX12_214 ?_
      refine aw_bipush (v := 60) (pc' := 39) dX12_element_37 rfl bp_60 ?_
      refine aw_iload_n (pc' := 40) dX12_element_39 rfl rfl ?_
      refine aw_imul (pc' := 41) dX12_element_40 rfl ?_
      refine aw_iload_n (pc' := 42) dX12_element_41 rfl rfl ?_
      refine aw_iadd (pc' := 43) dX12_element_42 rfl ?_
      obtain ⟨v6, ev6, hf⟩ := vl_e hf
      refine aw_topi ev6 ?_
      obtain ⟨g7, hf⟩ := gd_e hf
      refine aw_ja (q := 122) (pc' := 44) H0 (H0.fa rfl rfl rfl) g7 dX12_element_43 rfl ?_
      obtain rfl := Option.some.inj hf
      exact aw_rl dX12_element_44 rfl (Nat.le_of_ble_eq_true rfl) (Nat.le_of_ble_eq_true rfl) ⟨rfl, rfl⟩
    · replace hf := ifn c5 hf
      refine aw_ldc2 (pc' := 30) dX12_element_27 rfl ct_RX12_503 ?_
      refine aw_goto (tgt := 44) dX12_element_30 rfl ?_
      obtain rfl := Option.some.inj hf
      exact aw_rl dX12_element_44 rfl (Nat.le_of_ble_eq_true rfl) (Nat.le_of_ble_eq_true rfl) ⟨rfl, rfl⟩
  · replace hf := ifp c2 hf
    refine aw_ldc2 (pc' := 12) dX12_element_9 rfl ct_RX12_501 ?_
    obtain rfl := Option.some.inj hf
    exact aw_rl dX12_element_12 rfl (Nat.le_of_ble_eq_true rfl) (Nat.le_of_ble_eq_true rfl) ⟨rfl, rfl⟩
/-! ThirtyThreeBelowModel.shift -/
noncomputable def f_X12_shift_L113_b (q0 : SS → Option (Int32 × SS)) (y1 : Int32) (y2 : Int32) (y3 : Int32) (y4 : Int32) (y5 : Int32) (rc : SS → Int32 → Option (Int32 × SS)) (s : SS) (x6 : Int32) : Option (Int32 × SS) := (if x6 < y5 then (vl (((((60 : Int32) * y1) + y2) + x6)) fun v23 => (gd (inB v23 360) (wl ((zJ s 122 (v23.toInt.toNat))) fun v25 => (gd (inB x6 60) (st (pJ s 124 (x6.toInt.toNat) v25) fun s27 => (vl (((((60 : Int32) * y1) + y2) + x6)) fun v28 => (gd (inB v28 360) (vl ((zI s27 123 (v28.toInt.toNat))) fun v30 => (gd (inB x6 60) (st (pI s27 125 (x6.toInt.toNat) (v30 &&& 1)) fun s32 => (vl (x6 + 1) fun v33 => (rc s32 v33)))))))))))) else (q0 s))
noncomputable def f_X12_shift_L113 (q0 : SS → Option (Int32 × SS)) (y1 : Int32) (y2 : Int32) (y3 : Int32) (y4 : Int32) (y5 : Int32) : Nat → SS → Int32 → Option (Int32 × SS)
  | 0, _, _ => none
  | n + 1, s, x6 => f_X12_shift_L113_b q0 y1 y2 y3 y4 y5 (f_X12_shift_L113 q0 y1 y2 y3 y4 y5 n) s x6
set_option maxRecDepth 4000 in
theorem t_X12_shift_L113 {r9 : Int32} {s0 sb s9 : SS} {q0 : SS → Option (Int32 × SS)} {y1 : Int32} {y2 : Int32} {y3 : Int32} {y4 : Int32} {y5 : Int32} (mb : Mo s0 sb) (hq0 : ∀ (s : SS) (h : List aE), HH s h → Mo sb s → q0 s = some (r9, s9) → AW mX12_shift (rmD (2) 0 0) (fin (PI fun r' h' => r9 = r' ∧ HH s9 h' ∧ Mo s0 s9) 0 0) 168 [some (.ref 67), none, none, some (.int y3), some (.int y4), some (.int y5), none] [] h 0 0) : ∀ (n : Nat) (s : SS) (h : List aE) (x6 : Int32), HH s h → Mo sb s → f_X12_shift_L113 q0 y1 y2 y3 y4 y5 n s x6 = some (r9, s9) → AW mX12_shift (rmD (2) 0 0) (fin (PI fun r' h' => r9 = r' ∧ HH s9 h' ∧ Mo s0 s9) 0 0) 113 [some (.ref 67), some (.int y1), some (.int y2), some (.int y3), some (.int y4), some (.int y5), some (.int x6)] [] h 0 0 := by
  intro n
  induction n with
  | zero =>
    intro s h x6 H ms hf
    cases hf
  | succ n ih =>
    intro s h x6 H ms hf
    replace hf : f_X12_shift_L113_b q0 y1 y2 y3 y4 y5 (f_X12_shift_L113 q0 y1 y2 y3 y4 y5 n) s x6 = some (r9, s9) := hf
    unfold f_X12_shift_L113_b at hf
    refine aw_iload (pc' := 115) dX12_shift_113 rfl rfl ?_
    refine aw_iload (pc' := 117) dX12_shift_115 rfl rfl ?_
    refine aw_cge (tgt := 168) (pc' := 120) dX12_shift_117 rfl rfl (fun c22 => ?_) (fun c22 => ?_)
    · replace hf := ifn c22 hf
      refine AW.lv_le (lz_k (lz_d (lz_d (lz_k (lz_k (lz_k (lz_d lz_0))))))) ?_
      exact hq0 _ _ H ms hf
    · replace hf := ifp c22 hf
      refine aw_aload_n (pc' := 121) dX12_shift_120 rfl rfl rfl ?_
      refine aw_gr (q := 59) (e := 131) (v := .ref 132) (pc' := 124) H (H.fo rfl rfl) (by decide) rfl rfl dX12_shift_121 rfl fl_RX12_221 ?_
      refine aw_iload (pc' := 126) dX12_shift_124 rfl rfl ?_
      refine aw_aload_n (pc' := 127) dX12_shift_126 rfl rfl rfl ?_
      refine aw_gr (q := 59) (e := 127) (v := .ref 130) (pc' := 130) H (H.fo rfl rfl) (by decide) rfl rfl dX12_shift_127 rfl fl_RX12_214 ?_
      refine aw_bipush (v := 60) (pc' := 132) dX12_shift_130 rfl bp_60 ?_
      refine aw_iload_n (pc' := 133) dX12_shift_132 rfl rfl ?_
      refine aw_imul (pc' := 134) dX12_shift_133 rfl ?_
      refine aw_iload_n (pc' := 135) dX12_shift_134 rfl rfl ?_
      refine aw_iadd (pc' := 136) dX12_shift_135 rfl ?_
      refine aw_iload (pc' := 138) dX12_shift_136 rfl rfl ?_
      refine aw_iadd (pc' := 139) dX12_shift_138 rfl ?_
      obtain ⟨v23, ev23, hf⟩ := vl_e hf
      refine aw_topi ev23 ?_
      obtain ⟨g24, hf⟩ := gd_e hf
      refine aw_ja (q := 122) (pc' := 140) H (H.fa rfl rfl rfl) g24 dX12_shift_139 rfl ?_
      obtain ⟨v25, ev25, hf⟩ := wl_e hf
      refine aw_topl ev25 ?_
      obtain ⟨g26, hf⟩ := gd_e hf
      obtain ⟨s27, es27, hf⟩ := st_e hf
      refine aw_js (q := 124) (pc' := 141) es27 H (H.fa rfl rfl rfl) g26 dX12_shift_140 rfl (fun h27 H27 => ?_)
      have m27 := Mo.ofJ es27
      refine aw_aload_n (pc' := 142) dX12_shift_141 rfl rfl rfl ?_
      refine aw_gr (q := 59) (e := 133) (v := .ref 133) (pc' := 145) H27 (H27.fo rfl rfl) (l13 rfl) rfl rfl dX12_shift_142 rfl fl_RX12_224 ?_
      refine aw_iload (pc' := 147) dX12_shift_145 rfl rfl ?_
      refine aw_aload_n (pc' := 148) dX12_shift_147 rfl rfl rfl ?_
      refine aw_gr (q := 59) (e := 129) (v := .ref 131) (pc' := 151) H27 (H27.fo rfl rfl) (l13 rfl) rfl rfl dX12_shift_148 rfl fl_RX12_218 ?_
      refine aw_bipush (v := 60) (pc' := 153) dX12_shift_151 rfl bp_60 ?_
      refine aw_iload_n (pc' := 154) dX12_shift_153 rfl rfl ?_
      refine aw_imul (pc' := 155) dX12_shift_154 rfl ?_
      refine aw_iload_n (pc' := 156) dX12_shift_155 rfl rfl ?_
      refine aw_iadd (pc' := 157) dX12_shift_156 rfl ?_
      refine aw_iload (pc' := 159) dX12_shift_157 rfl rfl ?_
      refine aw_iadd (pc' := 160) dX12_shift_159 rfl ?_
      obtain ⟨v28, ev28, hf⟩ := vl_e hf
      refine aw_topi ev28 ?_
      obtain ⟨g29, hf⟩ := gd_e hf
      refine aw_za (q := 123) (pc' := 161) H27 (H27.fa rfl rfl rfl) g29 dX12_shift_160 rfl ?_
      obtain ⟨v30, ev30, hf⟩ := vl_e hf
      refine aw_topi ev30 ?_
      obtain ⟨g31, hf⟩ := gd_e hf
      obtain ⟨s32, es32, hf⟩ := st_e hf
      refine aw_zs (q := 125) (pc' := 162) es32 H27 (H27.fa rfl rfl rfl) g31 dX12_shift_161 rfl (fun h32 H32 => ?_)
      have m32 := Mo.ofI es32
      obtain ⟨v33, ev33, hf⟩ := vl_e hf
      refine aw_iincV (y := v33) (lv' := [_, _, _, _, _, _, _]) (pc' := 165) dX12_shift_162 rfl rfl (Nat.le_of_ble_eq_true rfl) ev33 rfl ?_
      refine aw_goto (tgt := 113) dX12_shift_165 rfl ?_
      exact ih _ _ _ H32 ((ms.tr m27).tr m32) hf
noncomputable def f_X12_shift_L171_b (y3 : Int32) (y4 : Int32) (y5 : Int32) (rc : SS → Int32 → Option (Int32 × SS)) (s : SS) (x6 : Int32) : Option (Int32 × SS) := (if x6 < y5 then (gd (inB x6 60) (wl ((zJ s 124 (x6.toInt.toNat))) fun v37 => (vl (((((60 : Int32) * y3) + y4) + x6)) fun v38 => (gd (inB v38 360) (st (pJ s 122 (v38.toInt.toNat) v37) fun s40 => (gd (inB x6 60) (vl ((zI s40 125 (x6.toInt.toNat))) fun v42 => (vl (((((60 : Int32) * y3) + y4) + x6)) fun v43 => (gd (inB v43 360) (st (pI s40 123 (v43.toInt.toNat) (v42 &&& 1)) fun s45 => (vl (x6 + 1) fun v46 => (rc s45 v46)))))))))))) else some (y5, s))
noncomputable def f_X12_shift_L171 (y3 : Int32) (y4 : Int32) (y5 : Int32) : Nat → SS → Int32 → Option (Int32 × SS)
  | 0, _, _ => none
  | n + 1, s, x6 => f_X12_shift_L171_b y3 y4 y5 (f_X12_shift_L171 y3 y4 y5 n) s x6
set_option maxRecDepth 4000 in
theorem t_X12_shift_L171 {r9 : Int32} {s0 sb s9 : SS} {y3 : Int32} {y4 : Int32} {y5 : Int32} (mb : Mo s0 sb)  : ∀ (n : Nat) (s : SS) (h : List aE) (x6 : Int32), HH s h → Mo sb s → f_X12_shift_L171 y3 y4 y5 n s x6 = some (r9, s9) → AW mX12_shift (rmD (2) 0 0) (fin (PI fun r' h' => r9 = r' ∧ HH s9 h' ∧ Mo s0 s9) 0 0) 171 [some (.ref 67), none, none, some (.int y3), some (.int y4), some (.int y5), some (.int x6)] [] h 0 0 := by
  intro n
  induction n with
  | zero =>
    intro s h x6 H ms hf
    cases hf
  | succ n ih =>
    intro s h x6 H ms hf
    replace hf : f_X12_shift_L171_b y3 y4 y5 (f_X12_shift_L171 y3 y4 y5 n) s x6 = some (r9, s9) := hf
    unfold f_X12_shift_L171_b at hf
    refine aw_iload (pc' := 173) dX12_shift_171 rfl rfl ?_
    refine aw_iload (pc' := 175) dX12_shift_173 rfl rfl ?_
    refine aw_cge (tgt := 228) (pc' := 178) dX12_shift_175 rfl rfl (fun c35 => ?_) (fun c35 => ?_)
    · replace hf := ifn c35 hf
      refine aw_iload (pc' := 230) dX12_shift_228 rfl rfl ?_
      obtain ⟨rfl, rfl⟩ := so2 hf
      exact aw_ri dX12_shift_230 rfl rfl (Nat.le_of_ble_eq_true rfl) (Nat.le_of_ble_eq_true rfl) ⟨rfl, H, (mb.tr ms)⟩
    · replace hf := ifp c35 hf
      refine aw_aload_n (pc' := 179) dX12_shift_178 rfl rfl rfl ?_
      refine aw_gr (q := 59) (e := 127) (v := .ref 130) (pc' := 182) H (H.fo rfl rfl) (by decide) rfl rfl dX12_shift_179 rfl fl_RX12_214 ?_
      refine aw_bipush (v := 60) (pc' := 184) dX12_shift_182 rfl bp_60 ?_
      refine aw_iload_n (pc' := 185) dX12_shift_184 rfl rfl ?_
      refine aw_imul (pc' := 186) dX12_shift_185 rfl ?_
      refine aw_iload (pc' := 188) dX12_shift_186 rfl rfl ?_
      refine aw_iadd (pc' := 189) dX12_shift_188 rfl ?_
      refine aw_iload (pc' := 191) dX12_shift_189 rfl rfl ?_
      refine aw_iadd (pc' := 192) dX12_shift_191 rfl ?_
      refine aw_aload_n (pc' := 193) dX12_shift_192 rfl rfl rfl ?_
      refine aw_gr (q := 59) (e := 131) (v := .ref 132) (pc' := 196) H (H.fo rfl rfl) (by decide) rfl rfl dX12_shift_193 rfl fl_RX12_221 ?_
      refine aw_iload (pc' := 198) dX12_shift_196 rfl rfl ?_
      obtain ⟨g36, hf⟩ := gd_e hf
      refine aw_ja (q := 124) (pc' := 199) H (H.fa rfl rfl rfl) g36 dX12_shift_198 rfl ?_
      obtain ⟨v37, ev37, hf⟩ := wl_e hf
      refine aw_topl ev37 ?_
      obtain ⟨v38, ev38, hf⟩ := vl_e hf
      refine aw_sndi ev38 ?_
      obtain ⟨g39, hf⟩ := gd_e hf
      obtain ⟨s40, es40, hf⟩ := st_e hf
      refine aw_js (q := 122) (pc' := 200) es40 H (H.fa rfl rfl rfl) g39 dX12_shift_199 rfl (fun h40 H40 => ?_)
      have m40 := Mo.ofJ es40
      refine aw_aload_n (pc' := 201) dX12_shift_200 rfl rfl rfl ?_
      refine aw_gr (q := 59) (e := 129) (v := .ref 131) (pc' := 204) H40 (H40.fo rfl rfl) (l13 rfl) rfl rfl dX12_shift_201 rfl fl_RX12_218 ?_
      refine aw_bipush (v := 60) (pc' := 206) dX12_shift_204 rfl bp_60 ?_
      refine aw_iload_n (pc' := 207) dX12_shift_206 rfl rfl ?_
      refine aw_imul (pc' := 208) dX12_shift_207 rfl ?_
      refine aw_iload (pc' := 210) dX12_shift_208 rfl rfl ?_
      refine aw_iadd (pc' := 211) dX12_shift_210 rfl ?_
      refine aw_iload (pc' := 213) dX12_shift_211 rfl rfl ?_
      refine aw_iadd (pc' := 214) dX12_shift_213 rfl ?_
      refine aw_aload_n (pc' := 215) dX12_shift_214 rfl rfl rfl ?_
      refine aw_gr (q := 59) (e := 133) (v := .ref 133) (pc' := 218) H40 (H40.fo rfl rfl) (l13 rfl) rfl rfl dX12_shift_215 rfl fl_RX12_224 ?_
      refine aw_iload (pc' := 220) dX12_shift_218 rfl rfl ?_
      obtain ⟨g41, hf⟩ := gd_e hf
      refine aw_za (q := 125) (pc' := 221) H40 (H40.fa rfl rfl rfl) g41 dX12_shift_220 rfl ?_
      obtain ⟨v42, ev42, hf⟩ := vl_e hf
      refine aw_topi ev42 ?_
      obtain ⟨v43, ev43, hf⟩ := vl_e hf
      refine aw_sndi ev43 ?_
      obtain ⟨g44, hf⟩ := gd_e hf
      obtain ⟨s45, es45, hf⟩ := st_e hf
      refine aw_zs (q := 123) (pc' := 222) es45 H40 (H40.fa rfl rfl rfl) g44 dX12_shift_221 rfl (fun h45 H45 => ?_)
      have m45 := Mo.ofI es45
      obtain ⟨v46, ev46, hf⟩ := vl_e hf
      refine aw_iincV (y := v46) (lv' := [_, _, _, _, _, _, _]) (pc' := 225) dX12_shift_222 rfl rfl (Nat.le_of_ble_eq_true rfl) ev46 rfl ?_
      refine aw_goto (tgt := 171) dX12_shift_225 rfl ?_
      exact ih _ _ _ H45 ((ms.tr m40).tr m45) hf
noncomputable def f_X12_shift (s0 : SS) (a0 : Int32) (a1 : Int32) (a2 : Int32) (a3 : Int32) (a4 : Int32) : Option (Int32 × SS) := (b1 (f_X12_isShelf a0) fun r1 => (if r1 = (0 : Int32) then some ((-1), s0) else (b1 (f_X12_isShelf a2) fun r3 => (if r3 = (0 : Int32) then some ((-1), s0) else (gd (inB a0 6) (if (zI s0 120 (a0.toInt.toNat)) = ((-1) : Int32) then some ((-11), s0) else (gd (inB a2 6) (if (zI s0 120 (a2.toInt.toNat)) = ((-1) : Int32) then some ((-11), s0) else (gd (inB a0 6) (if (zI s0 120 (a0.toInt.toNat)) < (0 : Int32) then (gd (inB a0 6) (gd (inB a2 6) (if (zI s0 120 (a0.toInt.toNat)) = (zI s0 120 (a2.toInt.toNat)) then (if a4 < (0 : Int32) then some ((-13), s0) else (if a1 < (0 : Int32) then some ((-13), s0) else (if a3 < (0 : Int32) then some ((-13), s0) else (gd (inB a0 6) (if ((zI s0 121 (a0.toInt.toNat)) - a4) < a1 then some ((-13), s0) else (gd (inB a2 6) (if ((zI s0 121 (a2.toInt.toNat)) - a4) < a3 then some ((-13), s0) else (f_X12_shift_L113 (fun (s34 : SS)  => (f_X12_shift_L171 a2 a3 a4 4000 s34 0)) a0 a1 a2 a3 a4 4000 s0 0)))))))) else some ((-12), s0)))) else some ((-12), s0)))))))))))
set_option maxRecDepth 4000 in
theorem t_X12_shift {r9 : Int32} {s0 s9 : SS} {h0 : List aE} {a0 : Int32} {a1 : Int32} {a2 : Int32} {a3 : Int32} {a4 : Int32} (H0 : HH s0 h0) (hf : f_X12_shift s0 a0 a1 a2 a3 a4 = some (r9, s9)) : AM mX12_shift (2) [.ref 67, .int a0, .int a1, .int a2, .int a3, .int a4] h0 0 0 (PI fun r' h' => r9 = r' ∧ HH s9 h' ∧ Mo s0 s9) := by
  unfold f_X12_shift at hf
  refine am_of (lv := [some (.ref 67), some (.int a0), some (.int a1), some (.int a2), some (.int a3), some (.int a4), none]) rfl (Nat.le_of_ble_eq_true rfl) rfl ?_
  refine aw_iload_n (pc' := 1) dX12_shift_0 rfl rfl ?_
  obtain ⟨r1, ec1, hf⟩ := b1_e hf
  refine aw_callSi (M' := mX12_isShelf) (nc' := 0) (ns' := 0) (pc' := 4) dX12_shift_1 rfl ml_RX12_288 kX12_isShelf (t_X12_isShelf ec1) rfl rfl (Nat.le_of_ble_eq_true rfl) (rokD (by omega) (Nat.le_of_ble_eq_true rfl) (Nat.le_of_ble_eq_true rfl) (Nat.le_of_ble_eq_true rfl)) rfl rfl (fun _ h1 q1 => ?_)
  obtain ⟨rfl, rfl, zb1⟩ := q1
  refine aw_if_eq (tgt := 14) (pc' := 7) dX12_shift_4 rfl rfl (fun c2 => ?_) (fun c2 => ?_)
  · replace hf := ifp c2 hf
    refine aw_iconst (v := (-1)) (pc' := 15) dX12_shift_14 rfl ic_m1 ?_
    obtain ⟨rfl, rfl⟩ := so2 hf
    exact aw_ri dX12_shift_15 rfl rfl (Nat.le_of_ble_eq_true rfl) (Nat.le_of_ble_eq_true rfl) ⟨rfl, H0, (Mo.rf _)⟩
  · replace hf := ifn c2 hf
    refine aw_iload_n (pc' := 8) dX12_shift_7 rfl rfl ?_
    obtain ⟨r3, ec3, hf⟩ := b1_e hf
    refine aw_callSi (M' := mX12_isShelf) (nc' := 0) (ns' := 0) (pc' := 11) dX12_shift_8 rfl ml_RX12_288 kX12_isShelf (t_X12_isShelf ec3) rfl rfl (Nat.le_of_ble_eq_true rfl) (rokD (by omega) (Nat.le_of_ble_eq_true rfl) (Nat.le_of_ble_eq_true rfl) (Nat.le_of_ble_eq_true rfl)) rfl rfl (fun _ h3 q3 => ?_)
    obtain ⟨rfl, rfl, zb3⟩ := q3
    refine aw_if_ne (tgt := 16) (pc' := 14) dX12_shift_11 rfl rfl (fun c4 => ?_) (fun c4 => ?_)
    · replace hf := ifn c4 hf
      refine aw_aload_n (pc' := 17) dX12_shift_16 rfl rfl rfl ?_
      refine aw_gr (q := 59) (e := 123) (v := .ref 128) (pc' := 20) H0 (H0.fo rfl rfl) (l13 rfl) rfl rfl dX12_shift_17 rfl fl_RX12_208 ?_
      refine aw_iload_n (pc' := 21) dX12_shift_20 rfl rfl ?_
      obtain ⟨g5, hf⟩ := gd_e hf
      refine aw_ia (q := 120) (pc' := 22) H0 (H0.fa rfl rfl rfl) g5 dX12_shift_21 rfl ?_
      refine aw_iconst (v := (-1)) (pc' := 23) dX12_shift_22 rfl ic_m1 ?_
      refine aw_icmp_eq (tgt := 36) (pc' := 26) dX12_shift_23 rfl rfl (fun c6 => ?_) (fun c6 => ?_)
      · replace hf := ifp c6 hf
        refine aw_bipush (v := (-11)) (pc' := 38) dX12_shift_36 rfl bp_m11 ?_
        obtain ⟨rfl, rfl⟩ := so2 hf
        exact aw_ri dX12_shift_38 rfl rfl (Nat.le_of_ble_eq_true rfl) (Nat.le_of_ble_eq_true rfl) ⟨rfl, H0, (Mo.rf _)⟩
      · replace hf := ifn c6 hf
        refine aw_aload_n (pc' := 27) dX12_shift_26 rfl rfl rfl ?_
        refine aw_gr (q := 59) (e := 123) (v := .ref 128) (pc' := 30) H0 (H0.fo rfl rfl) (l13 rfl) rfl rfl dX12_shift_27 rfl fl_RX12_208 ?_
        refine aw_iload_n (pc' := 31) dX12_shift_30 rfl rfl ?_
        obtain ⟨g7, hf⟩ := gd_e hf
        refine aw_ia (q := 120) (pc' := 32) H0 (H0.fa rfl rfl rfl) g7 dX12_shift_31 rfl ?_
        refine aw_iconst (v := (-1)) (pc' := 33) dX12_shift_32 rfl ic_m1 ?_
        refine aw_icmp_ne (tgt := 39) (pc' := 36) dX12_shift_33 rfl rfl (fun c8 => ?_) (fun c8 => ?_)
        · replace hf := ifn c8 hf
          refine aw_aload_n (pc' := 40) dX12_shift_39 rfl rfl rfl ?_
          refine aw_gr (q := 59) (e := 123) (v := .ref 128) (pc' := 43) H0 (H0.fo rfl rfl) (l13 rfl) rfl rfl dX12_shift_40 rfl fl_RX12_208 ?_
          refine aw_iload_n (pc' := 44) dX12_shift_43 rfl rfl ?_
          obtain ⟨g10, hf⟩ := gd_e hf
          refine aw_ia (q := 120) (pc' := 45) H0 (H0.fa rfl rfl rfl) g10 dX12_shift_44 rfl ?_
          refine aw_zge (tgt := 63) (pc' := 48) dX12_shift_45 rfl rfl (fun c11 => ?_) (fun c11 => ?_)
          · replace hf := ifn c11 hf
            refine aw_bipush (v := (-12)) (pc' := 65) dX12_shift_63 rfl bp_m12 ?_
            obtain ⟨rfl, rfl⟩ := so2 hf
            exact aw_ri dX12_shift_65 rfl rfl (Nat.le_of_ble_eq_true rfl) (Nat.le_of_ble_eq_true rfl) ⟨rfl, H0, (Mo.rf _)⟩
          · replace hf := ifp c11 hf
            refine aw_aload_n (pc' := 49) dX12_shift_48 rfl rfl rfl ?_
            refine aw_gr (q := 59) (e := 123) (v := .ref 128) (pc' := 52) H0 (H0.fo rfl rfl) (l13 rfl) rfl rfl dX12_shift_49 rfl fl_RX12_208 ?_
            refine aw_iload_n (pc' := 53) dX12_shift_52 rfl rfl ?_
            obtain ⟨g12, hf⟩ := gd_e hf
            refine aw_ia (q := 120) (pc' := 54) H0 (H0.fa rfl rfl rfl) g12 dX12_shift_53 rfl ?_
            refine aw_aload_n (pc' := 55) dX12_shift_54 rfl rfl rfl ?_
            refine aw_gr (q := 59) (e := 123) (v := .ref 128) (pc' := 58) H0 (H0.fo rfl rfl) (l13 rfl) rfl rfl dX12_shift_55 rfl fl_RX12_208 ?_
            refine aw_iload_n (pc' := 59) dX12_shift_58 rfl rfl ?_
            obtain ⟨g13, hf⟩ := gd_e hf
            refine aw_ia (q := 120) (pc' := 60) H0 (H0.fa rfl rfl rfl) g13 dX12_shift_59 rfl ?_
            refine aw_icmp_eq (tgt := 66) (pc' := 63) dX12_shift_60 rfl rfl (fun c14 => ?_) (fun c14 => ?_)
            · replace hf := ifp c14 hf
              refine aw_iload (pc' := 68) dX12_shift_66 rfl rfl ?_
              refine aw_zlt (tgt := 107) (pc' := 71) dX12_shift_68 rfl rfl (fun c15 => ?_) (fun c15 => ?_)
              · replace hf := ifp c15 hf
                refine aw_bipush (v := (-13)) (pc' := 109) dX12_shift_107 rfl bp_m13 ?_
                obtain ⟨rfl, rfl⟩ := so2 hf
                exact aw_ri dX12_shift_109 rfl rfl (Nat.le_of_ble_eq_true rfl) (Nat.le_of_ble_eq_true rfl) ⟨rfl, H0, (Mo.rf _)⟩
              · replace hf := ifn c15 hf
                refine aw_iload_n (pc' := 72) dX12_shift_71 rfl rfl ?_
                refine aw_zlt (tgt := 107) (pc' := 75) dX12_shift_72 rfl rfl (fun c16 => ?_) (fun c16 => ?_)
                · replace hf := ifp c16 hf
                  refine aw_bipush (v := (-13)) (pc' := 109) dX12_shift_107 rfl bp_m13 ?_
                  obtain ⟨rfl, rfl⟩ := so2 hf
                  exact aw_ri dX12_shift_109 rfl rfl (Nat.le_of_ble_eq_true rfl) (Nat.le_of_ble_eq_true rfl) ⟨rfl, H0, (Mo.rf _)⟩
                · replace hf := ifn c16 hf
                  refine aw_iload (pc' := 77) dX12_shift_75 rfl rfl ?_
                  refine aw_zlt (tgt := 107) (pc' := 80) dX12_shift_77 rfl rfl (fun c17 => ?_) (fun c17 => ?_)
                  · replace hf := ifp c17 hf
                    refine aw_bipush (v := (-13)) (pc' := 109) dX12_shift_107 rfl bp_m13 ?_
                    obtain ⟨rfl, rfl⟩ := so2 hf
                    exact aw_ri dX12_shift_109 rfl rfl (Nat.le_of_ble_eq_true rfl) (Nat.le_of_ble_eq_true rfl) ⟨rfl, H0, (Mo.rf _)⟩
                  · replace hf := ifn c17 hf
                    refine aw_iload_n (pc' := 81) dX12_shift_80 rfl rfl ?_
                    refine aw_aload_n (pc' := 82) dX12_shift_81 rfl rfl rfl ?_
                    refine aw_gr (q := 59) (e := 125) (v := .ref 129) (pc' := 85) H0 (H0.fo rfl rfl) (l13 rfl) rfl rfl dX12_shift_82 rfl fl_RX12_211 ?_
                    refine aw_iload_n (pc' := 86) dX12_shift_85 rfl rfl ?_
                    obtain ⟨g18, hf⟩ := gd_e hf
                    refine aw_ia (q := 121) (pc' := 87) H0 (H0.fa rfl rfl rfl) g18 dX12_shift_86 rfl ?_
                    refine aw_iload (pc' := 89) dX12_shift_87 rfl rfl ?_
                    refine aw_isub (pc' := 90) dX12_shift_89 rfl ?_
                    refine aw_cgt (tgt := 107) (pc' := 93) dX12_shift_90 rfl rfl (fun c19 => ?_) (fun c19 => ?_)
                    · replace hf := ifp c19 hf
                      refine aw_bipush (v := (-13)) (pc' := 109) dX12_shift_107 rfl bp_m13 ?_
                      obtain ⟨rfl, rfl⟩ := so2 hf
                      exact aw_ri dX12_shift_109 rfl rfl (Nat.le_of_ble_eq_true rfl) (Nat.le_of_ble_eq_true rfl) ⟨rfl, H0, (Mo.rf _)⟩
                    · replace hf := ifn c19 hf
                      refine aw_iload (pc' := 95) dX12_shift_93 rfl rfl ?_
                      refine aw_aload_n (pc' := 96) dX12_shift_95 rfl rfl rfl ?_
                      refine aw_gr (q := 59) (e := 125) (v := .ref 129) (pc' := 99) H0 (H0.fo rfl rfl) (l13 rfl) rfl rfl dX12_shift_96 rfl fl_RX12_211 ?_
                      refine aw_iload_n (pc' := 100) dX12_shift_99 rfl rfl ?_
                      obtain ⟨g20, hf⟩ := gd_e hf
                      refine aw_ia (q := 121) (pc' := 101) H0 (H0.fa rfl rfl rfl) g20 dX12_shift_100 rfl ?_
                      refine aw_iload (pc' := 103) dX12_shift_101 rfl rfl ?_
                      refine aw_isub (pc' := 104) dX12_shift_103 rfl ?_
                      refine aw_cle (tgt := 110) (pc' := 107) dX12_shift_104 rfl rfl (fun c21 => ?_) (fun c21 => ?_)
                      · replace hf := ifn c21 hf
                        refine aw_iconst (v := 0) (pc' := 111) dX12_shift_110 rfl ic_0 ?_
                        refine aw_istore (lv' := [_, _, _, _, _, _, _]) (pc' := 113) dX12_shift_111 rfl (Nat.le_of_ble_eq_true rfl) rfl ?_
                        refine t_X12_shift_L113 (Mo.rf _) (fun s34 h34 H34 m34 hf => ?_) 4000 _ _ _ H0 (Mo.rf _) hf
                        refine aw_iconst (v := 0) (pc' := 169) dX12_shift_168 rfl ic_0 ?_
                        refine aw_istore (lv' := [_, _, _, _, _, _, _]) (pc' := 171) dX12_shift_169 rfl (Nat.le_of_ble_eq_true rfl) rfl ?_
                        refine t_X12_shift_L171 m34  4000 _ _ _ H34 (Mo.rf _) hf
                      · replace hf := ifp c21 hf
                        refine aw_bipush (v := (-13)) (pc' := 109) dX12_shift_107 rfl bp_m13 ?_
                        obtain ⟨rfl, rfl⟩ := so2 hf
                        exact aw_ri dX12_shift_109 rfl rfl (Nat.le_of_ble_eq_true rfl) (Nat.le_of_ble_eq_true rfl) ⟨rfl, H0, (Mo.rf _)⟩
            · replace hf := ifn c14 hf
              refine aw_bipush (v := (-12)) (pc' := 65) dX12_shift_63 rfl bp_m12 ?_
              obtain ⟨rfl, rfl⟩ := so2 hf
              exact aw_ri dX12_shift_65 rfl rfl (Nat.le_of_ble_eq_true rfl) (Nat.le_of_ble_eq_true rfl) ⟨rfl, H0, (Mo.rf _)⟩
        · replace hf := ifp c8 hf
          refine aw_bipush (v := (-11)) (pc' := 38) dX12_shift_36 rfl bp_m11 ?_
          obtain ⟨rfl, rfl⟩ := so2 hf
          exact aw_ri dX12_shift_38 rfl rfl (Nat.le_of_ble_eq_true rfl) (Nat.le_of_ble_eq_true rfl) ⟨rfl, H0, (Mo.rf _)⟩
    · replace hf := ifp c4 hf
      refine aw_iconst (v := (-1)) (pc' := 15) dX12_shift_14 rfl ic_m1 ?_
      obtain ⟨rfl, rfl⟩ := so2 hf
      exact aw_ri dX12_shift_15 rfl rfl (Nat.le_of_ble_eq_true rfl) (Nat.le_of_ble_eq_true rfl) ⟨rfl, H0, (Mo.rf _)⟩
/-! ThirtyThreeBelowModel.taken -/
noncomputable def f_X12_taken (s0 : SS) (a0 : Int32) (a1 : Int32) : Option Int32 := (b1 (f_X12_isShelf a0) fun r1 => (if r1 = (0 : Int32) then some (-1) else (b1 (f_X12_in a1 (0 : Int32) (7 : Int32)) fun r3 => (if r3 = (0 : Int32) then some (-1) else (gd (inB a0 6) (if (zI s0 120 (a0.toInt.toNat)) = ((-1) : Int32) then some (-11) else (gd (inB a0 6) (if (zI s0 120 (a0.toInt.toNat)) < (0 : Int32) then some (-12) else (gd (inB a0 6) (vl ((zI s0 120 (a0.toInt.toNat))) fun v11 => (gd (inB v11 120) (b1 (f_X12_isUnder (zI s0 62 (v11.toInt.toNat)) a1) fun r13 => (if r13 = (0 : Int32) then some (-12) else (gd (inB a0 6) (vl ((zI s0 120 (a0.toInt.toNat))) fun v16 => (gd (inB v16 120) (some (zI s0 62 (v16.toInt.toNat)))))))))))))))))))
set_option maxRecDepth 4000 in
theorem t_X12_taken {r9 : Int32} {s0 : SS} {h0 : List aE} {a0 : Int32} {a1 : Int32} (H0 : HH s0 h0) (hf : f_X12_taken s0 a0 a1 = some r9) : AM mX12_taken (2) [.ref 67, .int a0, .int a1] h0 0 0 (PI fun r' h' => r9 = r' ∧ h0 = h') := by
  unfold f_X12_taken at hf
  refine am_of (lv := [some (.ref 67), some (.int a0), some (.int a1)]) rfl (Nat.le_of_ble_eq_true rfl) rfl ?_
  refine aw_iload_n (pc' := 1) dX12_taken_0 rfl rfl ?_
  obtain ⟨r1, ec1, hf⟩ := b1_e hf
  refine aw_callSi (M' := mX12_isShelf) (nc' := 0) (ns' := 0) (pc' := 4) dX12_taken_1 rfl ml_RX12_288 kX12_isShelf (t_X12_isShelf ec1) rfl rfl (Nat.le_of_ble_eq_true rfl) (rokD (by omega) (Nat.le_of_ble_eq_true rfl) (Nat.le_of_ble_eq_true rfl) (Nat.le_of_ble_eq_true rfl)) rfl rfl (fun _ h1 q1 => ?_)
  obtain ⟨rfl, rfl, zb1⟩ := q1
  refine aw_if_eq (tgt := 17) (pc' := 7) dX12_taken_4 rfl rfl (fun c2 => ?_) (fun c2 => ?_)
  · replace hf := ifp c2 hf
    refine aw_iconst (v := (-1)) (pc' := 18) dX12_taken_17 rfl ic_m1 ?_
    obtain rfl := Option.some.inj hf
    exact aw_ri dX12_taken_18 rfl rfl (Nat.le_of_ble_eq_true rfl) (Nat.le_of_ble_eq_true rfl) ⟨rfl, rfl⟩
  · replace hf := ifn c2 hf
    refine aw_iload_n (pc' := 8) dX12_taken_7 rfl rfl ?_
    refine aw_iconst (v := 0) (pc' := 9) dX12_taken_8 rfl ic_0 ?_
    refine aw_bipush (v := 7) (pc' := 11) dX12_taken_9 rfl bp_7 ?_
    obtain ⟨r3, ec3, hf⟩ := b1_e hf
    refine aw_callSi (M' := mX12_in) (nc' := 0) (ns' := 0) (pc' := 14) dX12_taken_11 rfl ml_RX12_230 kX12_in (t_X12_in ec3) rfl rfl (Nat.le_of_ble_eq_true rfl) (rokD (by omega) (Nat.le_of_ble_eq_true rfl) (Nat.le_of_ble_eq_true rfl) (Nat.le_of_ble_eq_true rfl)) rfl rfl (fun _ h3 q3 => ?_)
    obtain ⟨rfl, rfl, zb3⟩ := q3
    refine aw_if_ne (tgt := 19) (pc' := 17) dX12_taken_14 rfl rfl (fun c4 => ?_) (fun c4 => ?_)
    · replace hf := ifn c4 hf
      refine aw_aload_n (pc' := 20) dX12_taken_19 rfl rfl rfl ?_
      refine aw_gr (q := 59) (e := 123) (v := .ref 128) (pc' := 23) H0 (H0.fo rfl rfl) (l13 rfl) rfl rfl dX12_taken_20 rfl fl_RX12_208 ?_
      refine aw_iload_n (pc' := 24) dX12_taken_23 rfl rfl ?_
      obtain ⟨g5, hf⟩ := gd_e hf
      refine aw_ia (q := 120) (pc' := 25) H0 (H0.fa rfl rfl rfl) g5 dX12_taken_24 rfl ?_
      refine aw_iconst (v := (-1)) (pc' := 26) dX12_taken_25 rfl ic_m1 ?_
      refine aw_icmp_ne (tgt := 32) (pc' := 29) dX12_taken_26 rfl rfl (fun c6 => ?_) (fun c6 => ?_)
      · replace hf := ifn c6 hf
        refine aw_aload_n (pc' := 33) dX12_taken_32 rfl rfl rfl ?_
        refine aw_gr (q := 59) (e := 123) (v := .ref 128) (pc' := 36) H0 (H0.fo rfl rfl) (l13 rfl) rfl rfl dX12_taken_33 rfl fl_RX12_208 ?_
        refine aw_iload_n (pc' := 37) dX12_taken_36 rfl rfl ?_
        obtain ⟨g7, hf⟩ := gd_e hf
        refine aw_ia (q := 120) (pc' := 38) H0 (H0.fa rfl rfl rfl) g7 dX12_taken_37 rfl ?_
        refine aw_zlt (tgt := 73) (pc' := 41) dX12_taken_38 rfl rfl (fun c8 => ?_) (fun c8 => ?_)
        · replace hf := ifp c8 hf
          refine aw_bipush (v := (-12)) (pc' := 75) dX12_taken_73 rfl bp_m12 ?_
          obtain rfl := Option.some.inj hf
          exact aw_ri dX12_taken_75 rfl rfl (Nat.le_of_ble_eq_true rfl) (Nat.le_of_ble_eq_true rfl) ⟨rfl, rfl⟩
        · replace hf := ifn c8 hf
          refine aw_aload_n (pc' := 42) dX12_taken_41 rfl rfl rfl ?_
          refine aw_gr (q := 59) (e := 7) (v := .ref 70) (pc' := 45) H0 (H0.fo rfl rfl) (l13 rfl) rfl rfl dX12_taken_42 rfl fl_RX12_17 ?_
          refine aw_aload_n (pc' := 46) dX12_taken_45 rfl rfl rfl ?_
          refine aw_gr (q := 59) (e := 123) (v := .ref 128) (pc' := 49) H0 (H0.fo rfl rfl) (l13 rfl) rfl rfl dX12_taken_46 rfl fl_RX12_208 ?_
          refine aw_iload_n (pc' := 50) dX12_taken_49 rfl rfl ?_
          obtain ⟨g10, hf⟩ := gd_e hf
          refine aw_ia (q := 120) (pc' := 51) H0 (H0.fa rfl rfl rfl) g10 dX12_taken_50 rfl ?_
          obtain ⟨v11, ev11, hf⟩ := vl_e hf
          refine aw_topi ev11 ?_
          obtain ⟨g12, hf⟩ := gd_e hf
          refine aw_ia (q := 62) (pc' := 52) H0 (H0.fa rfl rfl rfl) g12 dX12_taken_51 rfl ?_
          refine aw_iload_n (pc' := 53) dX12_taken_52 rfl rfl ?_
          obtain ⟨r13, ec13, hf⟩ := b1_e hf
          refine aw_callSi (M' := mX12_isUnder) (nc' := 0) (ns' := 0) (pc' := 56) dX12_taken_53 rfl ml_RX12_248 kX12_isUnder (t_X12_isUnder ec13) rfl rfl (Nat.le_of_ble_eq_true rfl) (rokD (by omega) (Nat.le_of_ble_eq_true rfl) (Nat.le_of_ble_eq_true rfl) (Nat.le_of_ble_eq_true rfl)) rfl rfl (fun _ h13 q13 => ?_)
          obtain ⟨rfl, rfl, zb13⟩ := q13
          refine aw_if_eq (tgt := 73) (pc' := 59) dX12_taken_56 rfl rfl (fun c14 => ?_) (fun c14 => ?_)
          · replace hf := ifp c14 hf
            refine aw_bipush (v := (-12)) (pc' := 75) dX12_taken_73 rfl bp_m12 ?_
            obtain rfl := Option.some.inj hf
            exact aw_ri dX12_taken_75 rfl rfl (Nat.le_of_ble_eq_true rfl) (Nat.le_of_ble_eq_true rfl) ⟨rfl, rfl⟩
          · replace hf := ifn c14 hf
            refine aw_aload_n (pc' := 60) dX12_taken_59 rfl rfl rfl ?_
            refine aw_gr (q := 59) (e := 7) (v := .ref 70) (pc' := 63) H0 (H0.fo rfl rfl) (l13 rfl) rfl rfl dX12_taken_60 rfl fl_RX12_17 ?_
            refine aw_aload_n (pc' := 64) dX12_taken_63 rfl rfl rfl ?_
            refine aw_gr (q := 59) (e := 123) (v := .ref 128) (pc' := 67) H0 (H0.fo rfl rfl) (l13 rfl) rfl rfl dX12_taken_64 rfl fl_RX12_208 ?_
            refine aw_iload_n (pc' := 68) dX12_taken_67 rfl rfl ?_
            obtain ⟨g15, hf⟩ := gd_e hf
            refine aw_ia (q := 120) (pc' := 69) H0 (H0.fa rfl rfl rfl) g15 dX12_taken_68 rfl ?_
            obtain ⟨v16, ev16, hf⟩ := vl_e hf
            refine aw_topi ev16 ?_
            obtain ⟨g17, hf⟩ := gd_e hf
            refine aw_ia (q := 62) (pc' := 70) H0 (H0.fa rfl rfl rfl) g17 dX12_taken_69 rfl ?_
            refine aw_goto (tgt := 75) dX12_taken_70 rfl ?_
            obtain rfl := Option.some.inj hf
            exact aw_ri dX12_taken_75 rfl rfl (Nat.le_of_ble_eq_true rfl) (Nat.le_of_ble_eq_true rfl) ⟨rfl, rfl⟩
      · replace hf := ifp c6 hf
        refine aw_bipush (v := (-11)) (pc' := 31) dX12_taken_29 rfl bp_m11 ?_
        obtain rfl := Option.some.inj hf
        exact aw_ri dX12_taken_31 rfl rfl (Nat.le_of_ble_eq_true rfl) (Nat.le_of_ble_eq_true rfl) ⟨rfl, rfl⟩
    · replace hf := ifp c4 hf
      refine aw_iconst (v := (-1)) (pc' := 18) dX12_taken_17 rfl ic_m1 ?_
      obtain rfl := Option.some.inj hf
      exact aw_ri dX12_taken_18 rfl rfl (Nat.le_of_ble_eq_true rfl) (Nat.le_of_ble_eq_true rfl) ⟨rfl, rfl⟩
