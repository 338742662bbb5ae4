/-! ThirtyThreeBelow.blank -/
noncomputable def f_X11_blank (s0 : SS) (a0 : Int32) (a1 : Int32) : Option (Int32 × SS) := (b1 (f_X11_shelfOf s0 a0) fun r1 => (on r1 (some ((-1), s0)) fun p1 => (jn ((b1 (f_X8_refusal s0 p1 a1) fun r3 => (jn (fun (s4 : SS)  => (if r3 = (0 : Int32) then some (1, s4) else some (r3, s4))) fun k4 => (if r3 = (0 : Int32) then (gd (inB a1 60) (st (pJ s0 (p1 + 1) (a1.toInt.toNat) 9223372036854775807) fun s8 => (k4 s8))) else (k4 s0))))) fun k2 => (if (zS s0 p1 0) = (2 : Int32) then (b1 (f_X8_isReal s0 p1) fun r11 => (if r11 = (0 : Int32) then some ((-12), s0) else k2)) else k2))))
set_option maxRecDepth 4000 in
theorem t_X11_blank {r9 : Int32} {s0 s9 : SS} {h0 : List aE} {a0 : Int32} {a1 : Int32} (H0 : HH s0 h0) (hf : f_X11_blank s0 a0 a1 = some (r9, s9)) : AM mX11_blank (1) [.ref 8, .int a0, .int a1] h0 0 0 (PI fun r' h' => r9 = r' ∧ HH s9 h' ∧ Mo s0 s9) := by
  unfold f_X11_blank at hf
  refine am_of (lv := [some (.ref 8), some (.int a0), some (.int a1), none, none]) rfl (Nat.le_of_ble_eq_true rfl) rfl ?_
  refine aw_aload_n (pc' := 1) dX11_blank_0 rfl rfl rfl ?_
  refine aw_iload_n (pc' := 2) dX11_blank_1 rfl rfl ?_
  obtain ⟨r1, ec1, hf⟩ := b1_e hf
  replace hf := on_e hf
  rcases hf with ⟨rfl, hf⟩ | ⟨p1, rfl, hf⟩
  · refine aw_callVa (M' := mX11_shelfOf) (nc' := 0) (ns' := 0) (pc' := 5) dX11_blank_2 rfl ml_RX11_190 kX11_shelfOf (t_X11_shelfOf H0 ec1) (H0.ob (H0.fo rfl rfl) (by decide)) rfl rfl rfl (Nat.le_of_ble_eq_true rfl) (rokD (by omega) (Nat.le_of_ble_eq_true rfl) (Nat.le_of_ble_eq_true rfl) (Nat.le_of_ble_eq_true rfl)) rfl rfl (fun _ h1 q1 => ?_)
    obtain ⟨rfl, rfl, oo1⟩ := q1
    show AW _ _ _ _ _ (Value.null :: _) _ _ _
    refine aw_astore_n (lv' := [_, _, _, _, _]) (pc' := 6) dX11_blank_5 rfl (Nat.le_of_ble_eq_true rfl) rfl rfl ?_
    refine aw_aload_n (pc' := 7) dX11_blank_6 rfl rfl rfl ?_
    refine aw_ifnonnull_n (pc' := 10) dX11_blank_7 rfl ?_
    refine aw_iconst (v := (-1)) (pc' := 11) dX11_blank_10 rfl ic_m1 ?_
    obtain ⟨rfl, rfl⟩ := so2 hf
    exact aw_ri dX11_blank_11 rfl rfl (Nat.le_of_ble_eq_true rfl) (Nat.le_of_ble_eq_true rfl) ⟨rfl, H0, (Mo.rf _)⟩
  · refine aw_callVa (M' := mX11_shelfOf) (nc' := 0) (ns' := 0) (pc' := 5) dX11_blank_2 rfl ml_RX11_190 kX11_shelfOf (t_X11_shelfOf H0 ec1) (H0.ob (H0.fo rfl rfl) (by decide)) rfl rfl rfl (Nat.le_of_ble_eq_true rfl) (rokD (by omega) (Nat.le_of_ble_eq_true rfl) (Nat.le_of_ble_eq_true rfl) (Nat.le_of_ble_eq_true rfl)) rfl rfl (fun _ h1 q1 => ?_)
    obtain ⟨rfl, rfl, oo1⟩ := q1
    show AW _ _ _ _ _ (Value.ref (p1 + 8) :: _) _ _ _
    have o_p1 : okV p1 := oo1 _ rfl
    refine aw_astore_n (lv' := [_, _, _, _, _]) (pc' := 6) dX11_blank_5 rfl (Nat.le_of_ble_eq_true rfl) rfl rfl ?_
    refine aw_aload_n (pc' := 7) dX11_blank_6 rfl rfl rfl ?_
    refine aw_ifnonnull_r (tgt := 12) dX11_blank_7 (by decide) ?_
    refine aw_aload_n (pc' := 13) dX11_blank_12 rfl rfl rfl ?_
    refine aw_gi (q := p1) (pc' := 16) H0 (okV.ob o_p1 H0) (by decide) rfl dX11_blank_13 rfl fl_RX11_194 ?_
    refine aw_iconst (v := 2) (pc' := 17) dX11_blank_16 rfl ic_2 ?_
    obtain ⟨k2, ek2, hf⟩ := jn_e hf
    have hk2 : k2 = some (r9, s9) → AW mX11_blank (rmD (1) 0 0) (fin (PI fun r' h' => r9 = r' ∧ HH s9 h' ∧ Mo s0 s9) 0 0) 30 [none, none, some (.int a1), some (.ref (p1 + 8)), none] [] h0 0 0 := by
      intro hf
      subst ek2
      refine aw_aload_n (pc' := 31) dX11_blank_30 rfl rfl rfl ?_
      refine aw_iload_n (pc' := 32) dX11_blank_31 rfl rfl ?_
      obtain ⟨r3, ec3, hf⟩ := b1_e hf
      refine aw_callVi (M' := mX8_refusal) (nc' := 0) (ns' := 0) (pc' := 35) dX11_blank_32 rfl ml_RX11_421 kX8_refusal (t_X8_refusal H0 o_p1 ec3) (H0.ob (okV.ob o_p1 H0) (by decide)) rfl rfl rfl (Nat.le_of_ble_eq_true rfl) (rokD (by omega) (Nat.le_of_ble_eq_true rfl) (Nat.le_of_ble_eq_true rfl) (Nat.le_of_ble_eq_true rfl)) rfl rfl (fun _ h3 q3 => ?_)
      obtain ⟨rfl, rfl⟩ := q3
      refine aw_istore (lv' := [_, _, _, _, _]) (pc' := 37) dX11_blank_35 rfl (Nat.le_of_ble_eq_true rfl) rfl ?_
      refine aw_iload (pc' := 39) dX11_blank_37 rfl rfl ?_
      obtain ⟨k4, ek4, hf⟩ := jn_e hf
      have hk4 : ∀ (s4 : SS) (h4 : List aE), HH s4 h4 → Mo s0 s4 → k4 s4 = some (r9, s9) → AW mX11_blank (rmD (1) 0 0) (fin (PI fun r' h' => r9 = r' ∧ HH s9 h' ∧ Mo s0 s9) 0 0) 51 [none, none, none, none, some (.int r3)] [] h4 0 0 := by
        intro s4 h4 H4 m4 hf
        subst ek4
        refine aw_iload (pc' := 53) dX11_blank_51 rfl rfl ?_
        refine aw_if_ne (tgt := 60) (pc' := 56) dX11_blank_53 rfl rfl (fun c5 => ?_) (fun c5 => ?_)
        · replace hf := ifn c5 hf
          refine aw_iload (pc' := 62) dX11_blank_60 rfl rfl ?_
          obtain ⟨rfl, rfl⟩ := so2 hf
          exact aw_ri dX11_blank_62 rfl rfl (Nat.le_of_ble_eq_true rfl) (Nat.le_of_ble_eq_true rfl) ⟨rfl, H4, m4⟩
        · replace hf := ifp c5 hf
          refine aw_iconst (v := 1) (pc' := 57) dX11_blank_56 rfl ic_1 ?_
          refine aw_goto (tgt := 62) dX11_blank_57 rfl ?_
          obtain ⟨rfl, rfl⟩ := so2 hf
          exact aw_ri dX11_blank_62 rfl rfl (Nat.le_of_ble_eq_true rfl) (Nat.le_of_ble_eq_true rfl) ⟨rfl, H4, m4⟩
      clear ek4
      refine aw_if_ne (tgt := 51) (pc' := 42) dX11_blank_39 rfl rfl (fun c6 => ?_) (fun c6 => ?_)
      · replace hf := ifn c6 hf
        refine AW.lv_le (lz_d (lz_d (lz_d (lz_d (lz_k lz_0))))) ?_
        exact hk4 _ _ H0 (Mo.rf _) hf
      · replace hf := ifp c6 hf
        refine aw_aload_n (pc' := 43) dX11_blank_42 rfl rfl rfl ?_
        refine aw_gr (q := p1) (e := 3) (v := .ref (p1 + 1 + 8)) (pc' := 46) H0 (okV.ob o_p1 H0) (by decide) rfl rfl dX11_blank_43 rfl fl_RX11_424 ?_
        refine aw_iload_n (pc' := 47) dX11_blank_46 rfl rfl ?_
        refine aw_ldc2 (pc' := 50) dX11_blank_47 rfl ct_RX11_432 ?_
        obtain ⟨g7, hf⟩ := gd_e hf
        obtain ⟨s8, es8, hf⟩ := st_e hf
        refine aw_js (q := (p1 + 1)) (pc' := 51) es8 H0 (okV.a1 o_p1 H0) g7 dX11_blank_50 rfl (fun h8 H8 => ?_)
        have m8 := Mo.ofJ es8
        refine AW.lv_le (lz_d (lz_d (lz_d (lz_d (lz_k lz_0))))) ?_
        exact hk4 _ _ H8 m8 hf
    clear ek2
    refine aw_icmp_ne (tgt := 30) (pc' := 20) dX11_blank_17 rfl rfl (fun c10 => ?_) (fun c10 => ?_)
    · replace hf := ifn c10 hf
      refine AW.lv_le (lz_d (lz_d (lz_k (lz_k (lz_d lz_0))))) ?_
      exact hk2  hf
    · replace hf := ifp c10 hf
      refine aw_aload_n (pc' := 21) dX11_blank_20 rfl rfl rfl ?_
      obtain ⟨r11, ec11, hf⟩ := b1_e hf
      refine aw_callVi (M' := mX8_isReal) (nc' := 0) (ns' := 0) (pc' := 24) dX11_blank_21 rfl ml_RX11_197 kX8_isReal (t_X8_isReal H0 o_p1 ec11) (H0.ob (okV.ob o_p1 H0) (by decide)) rfl rfl rfl (Nat.le_of_ble_eq_true rfl) (rokD (by omega) (Nat.le_of_ble_eq_true rfl) (Nat.le_of_ble_eq_true rfl) (Nat.le_of_ble_eq_true rfl)) rfl rfl (fun _ h11 q11 => ?_)
      obtain ⟨rfl, rfl, zb11⟩ := q11
      refine aw_if_ne (tgt := 30) (pc' := 27) dX11_blank_24 rfl rfl (fun c12 => ?_) (fun c12 => ?_)
      · replace hf := ifn c12 hf
        refine AW.lv_le (lz_d (lz_d (lz_k (lz_k (lz_d lz_0))))) ?_
        exact hk2  hf
      · replace hf := ifp c12 hf
        refine aw_bipush (v := (-12)) (pc' := 29) dX11_blank_27 rfl bp_m12 ?_
        obtain ⟨rfl, rfl⟩ := so2 hf
        exact aw_ri dX11_blank_29 rfl rfl (Nat.le_of_ble_eq_true rfl) (Nat.le_of_ble_eq_true rfl) ⟨rfl, H0, (Mo.rf _)⟩
/-! ThirtyThreeBelow.element -/
noncomputable def f_X11_element (s0 : SS) (a0 : Int32) (a1 : Int32) : Option Int64 := (b1 (f_X11_shelfOf s0 a0) fun r1 => (on r1 (some (-9223372036854775808)) fun p1 => (b1 (f_X8_refusal s0 p1 a1) fun r2 => (if r2 = (0 : Int32) then (gd (inB a1 60) (some (zJ s0 (p1 + 1) (a1.toInt.toNat)))) else some (-9223372036854775808)))))
set_option maxRecDepth 4000 in
theorem t_X11_element {r9 : Int64} {s0 : SS} {h0 : List aE} {a0 : Int32} {a1 : Int32} (H0 : HH s0 h0) (hf : f_X11_element s0 a0 a1 = some r9) : AM mX11_element (1) [.ref 8, .int a0, .int a1] h0 0 0 (PL fun r' h' => r9 = r' ∧ h0 = h') := by
  unfold f_X11_element at hf
  refine am_of (lv := [some (.ref 8), some (.int a0), some (.int a1), none]) rfl (Nat.le_of_ble_eq_true rfl) rfl ?_
  refine aw_aload_n (pc' := 1) dX11_element_0 rfl rfl rfl ?_
  refine aw_iload_n (pc' := 2) dX11_element_1 rfl rfl ?_
  obtain ⟨r1, ec1, hf⟩ := b1_e hf
  replace hf := on_e hf
  rcases hf with ⟨rfl, hf⟩ | ⟨p1, rfl, hf⟩
  · refine aw_callVa (M' := mX11_shelfOf) (nc' := 0) (ns' := 0) (pc' := 5) dX11_element_2 rfl ml_RX11_190 kX11_shelfOf (t_X11_shelfOf H0 ec1) (H0.ob (H0.fo rfl rfl) (by decide)) rfl rfl rfl (Nat.le_of_ble_eq_true rfl) (rokD (by omega) (Nat.le_of_ble_eq_true rfl) (Nat.le_of_ble_eq_true rfl) (Nat.le_of_ble_eq_true rfl)) rfl rfl (fun _ h1 q1 => ?_)
    obtain ⟨rfl, rfl, oo1⟩ := q1
    show AW _ _ _ _ _ (Value.null :: _) _ _ _
    refine aw_astore_n (lv' := [_, _, _, _]) (pc' := 6) dX11_element_5 rfl (Nat.le_of_ble_eq_true rfl) rfl rfl ?_
    refine aw_aload_n (pc' := 7) dX11_element_6 rfl rfl rfl ?_
    refine aw_ifnull_n (tgt := 18) dX11_element_7 (by decide) ?_
    refine aw_ldc2 (pc' := 21) dX11_element_18 rfl ct_RX11_434 ?_
    obtain rfl := Option.some.inj hf
    exact aw_rl dX11_element_21 rfl (Nat.le_of_ble_eq_true rfl) (Nat.le_of_ble_eq_true rfl) ⟨rfl, rfl⟩
  · refine aw_callVa (M' := mX11_shelfOf) (nc' := 0) (ns' := 0) (pc' := 5) dX11_element_2 rfl ml_RX11_190 kX11_shelfOf (t_X11_shelfOf H0 ec1) (H0.ob (H0.fo rfl rfl) (by decide)) rfl rfl rfl (Nat.le_of_ble_eq_true rfl) (rokD (by omega) (Nat.le_of_ble_eq_true rfl) (Nat.le_of_ble_eq_true rfl) (Nat.le_of_ble_eq_true rfl)) rfl rfl (fun _ h1 q1 => ?_)
    obtain ⟨rfl, rfl, oo1⟩ := q1
    show AW _ _ _ _ _ (Value.ref (p1 + 8) :: _) _ _ _
    have o_p1 : okV p1 := oo1 _ rfl
    refine aw_astore_n (lv' := [_, _, _, _]) (pc' := 6) dX11_element_5 rfl (Nat.le_of_ble_eq_true rfl) rfl rfl ?_
    refine aw_aload_n (pc' := 7) dX11_element_6 rfl rfl rfl ?_
    refine aw_ifnull_r (pc' := 10) dX11_element_7 rfl ?_
    refine aw_aload_n (pc' := 11) dX11_element_10 rfl rfl rfl ?_
    refine aw_iload_n (pc' := 12) dX11_element_11 rfl rfl ?_
    obtain ⟨r2, ec2, hf⟩ := b1_e hf
    refine aw_callVi (M' := mX8_refusal) (nc' := 0) (ns' := 0) (pc' := 15) dX11_element_12 rfl ml_RX11_421 kX8_refusal (t_X8_refusal H0 o_p1 ec2) (H0.ob (okV.ob o_p1 H0) (by decide)) rfl rfl rfl (Nat.le_of_ble_eq_true rfl) (rokD (by omega) (Nat.le_of_ble_eq_true rfl) (Nat.le_of_ble_eq_true rfl) (Nat.le_of_ble_eq_true rfl)) rfl rfl (fun _ h2 q2 => ?_)
    obtain ⟨rfl, rfl⟩ := q2
    refine aw_if_eq (tgt := 22) (pc' := 18) dX11_element_15 rfl rfl (fun c3 => ?_) (fun c3 => ?_)
    · replace hf := ifp c3 hf
      refine aw_aload_n (pc' := 23) dX11_element_22 rfl rfl rfl ?_
      refine aw_gr (q := p1) (e := 3) (v := .ref (p1 + 1 + 8)) (pc' := 26) H0 (okV.ob o_p1 H0) (by decide) rfl rfl dX11_element_23 rfl fl_RX11_424 ?_
      refine aw_iload_n (pc' := 27) dX11_element_26 rfl rfl ?_
      obtain ⟨g4, hf⟩ := gd_e hf
      refine aw_ja (q := (p1 + 1)) (pc' := 28) H0 (okV.a1 o_p1 H0) g4 dX11_element_27 rfl ?_
      obtain rfl := Option.some.inj hf
      exact aw_rl dX11_element_28 rfl (Nat.le_of_ble_eq_true rfl) (Nat.le_of_ble_eq_true rfl) ⟨rfl, rfl⟩
    · replace hf := ifn c3 hf
      refine aw_ldc2 (pc' := 21) dX11_element_18 rfl ct_RX11_434 ?_
      obtain rfl := Option.some.inj hf
      exact aw_rl dX11_element_21 rfl (Nat.le_of_ble_eq_true rfl) (Nat.le_of_ble_eq_true rfl) ⟨rfl, rfl⟩
/-! ThirtyThreeBelow.shift -/
noncomputable def f_X11_shift (s0 : SS) (a0 : Int32) (a1 : Int32) (a2 : Int32) (a3 : Int32) (a4 : Int32) : Option (Int32 × SS) := (b1 (f_X11_shelfOf s0 a0) fun r1 => (on r1 (b1 (f_X11_shelfOf s0 a2) fun r2 => (on r2 (some ((-1), s0)) fun p2 => some ((-1), s0))) fun p1 => (b1 (f_X11_shelfOf s0 a2) fun r3 => (on r3 (some ((-1), s0)) fun p3 => (if (zS s0 p1 0) = (0 : Int32) then some ((-11), s0) else (if (zS s0 p3 0) = (0 : Int32) then some ((-11), s0) else (if (zS s0 p1 0) = (2 : Int32) then (if (zS s0 p3 0) = (2 : Int32) then (if (zS s0 p1 2) = (zS s0 p3 2) then (b1 (f_X8_hasPlaces s0 p1 a1 a4) fun r10 => (if r10 = (0 : Int32) then some ((-13), s0) else (b1 (f_X8_hasPlaces s0 p3 a3 a4) fun r12 => (if r12 = (0 : Int32) then some ((-13), s0) else (gd (¬ a1 < 0 ∧ ¬ a3 < 0 ∧ ¬ a4 < 0 ∧ a1.toNatClampNeg + a4.toNatClampNeg ≤ 60 ∧ a3.toNatClampNeg + a4.toNatClampNeg ≤ 60) (st (pK s0 (p1 + 1) (p3 + 1) a1.toNatClampNeg a3.toNatClampNeg a4.toNatClampNeg) fun s14 => some (a4, s14))))))) else some ((-12), s0)) else some ((-12), s0)) else some ((-12), s0))))))))
set_option maxRecDepth 4000 in
theorem t_X11_shift {r9 : Int32} {s0 s9 : SS} {h0 : List aE} {a0 : Int32} {a1 : Int32} {a2 : Int32} {a3 : Int32} {a4 : Int32} (H0 : HH s0 h0) (hf : f_X11_shift s0 a0 a1 a2 a3 a4 = some (r9, s9)) : AM mX11_shift (1) [.ref 8, .int a0, .int a1, .int a2, .int a3, .int a4] h0 0 0 (PI fun r' h' => r9 = r' ∧ HH s9 h' ∧ Mo s0 s9) := by
  unfold f_X11_shift at hf
  refine am_of (lv := [some (.ref 8), some (.int a0), some (.int a1), some (.int a2), some (.int a3), some (.int a4), none, none]) rfl (Nat.le_of_ble_eq_true rfl) rfl ?_
  refine aw_aload_n (pc' := 1) dX11_shift_0 rfl rfl rfl ?_
  refine aw_iload_n (pc' := 2) dX11_shift_1 rfl rfl ?_
  obtain ⟨r1, ec1, hf⟩ := b1_e hf
  replace hf := on_e hf
  rcases hf with ⟨rfl, hf⟩ | ⟨p1, rfl, hf⟩
  · refine aw_callVa (M' := mX11_shelfOf) (nc' := 0) (ns' := 0) (pc' := 5) dX11_shift_2 rfl ml_RX11_190 kX11_shelfOf (t_X11_shelfOf H0 ec1) (H0.ob (H0.fo rfl rfl) (by decide)) rfl rfl rfl (Nat.le_of_ble_eq_true rfl) (rokD (by omega) (Nat.le_of_ble_eq_true rfl) (Nat.le_of_ble_eq_true rfl) (Nat.le_of_ble_eq_true rfl)) rfl rfl (fun _ h1 q1 => ?_)
    obtain ⟨rfl, rfl, oo1⟩ := q1
    show AW _ _ _ _ _ (Value.null :: _) _ _ _
    refine aw_astore (lv' := [_, _, _, _, _, _, _, _]) (pc' := 7) dX11_shift_5 rfl (Nat.le_of_ble_eq_true rfl) rfl rfl ?_
    refine aw_aload_n (pc' := 8) dX11_shift_7 rfl rfl rfl ?_
    refine aw_iload_n (pc' := 9) dX11_shift_8 rfl rfl ?_
    obtain ⟨r2, ec2, hf⟩ := b1_e hf
    replace hf := on_e hf
    rcases hf with ⟨rfl, hf⟩ | ⟨p2, rfl, hf⟩
    · refine aw_callVa (M' := mX11_shelfOf) (nc' := 0) (ns' := 0) (pc' := 12) dX11_shift_9 rfl ml_RX11_190 kX11_shelfOf (t_X11_shelfOf H0 ec2) (H0.ob (H0.fo rfl rfl) (by decide)) rfl rfl rfl (Nat.le_of_ble_eq_true rfl) (rokD (by omega) (Nat.le_of_ble_eq_true rfl) (Nat.le_of_ble_eq_true rfl) (Nat.le_of_ble_eq_true rfl)) rfl rfl (fun _ h2 q2 => ?_)
      obtain ⟨rfl, rfl, oo2⟩ := q2
      show AW _ _ _ _ _ (Value.null :: _) _ _ _
      refine aw_astore (lv' := [_, _, _, _, _, _, _, _]) (pc' := 14) dX11_shift_12 rfl (Nat.le_of_ble_eq_true rfl) rfl rfl ?_
      refine aw_aload (pc' := 16) dX11_shift_14 rfl rfl rfl ?_
      refine aw_ifnull_n (tgt := 24) dX11_shift_16 (by decide) ?_
      refine aw_iconst (v := (-1)) (pc' := 25) dX11_shift_24 rfl ic_m1 ?_
      obtain ⟨rfl, rfl⟩ := so2 hf
      exact aw_ri dX11_shift_25 rfl rfl (Nat.le_of_ble_eq_true rfl) (Nat.le_of_ble_eq_true rfl) ⟨rfl, H0, (Mo.rf _)⟩
    · refine aw_callVa (M' := mX11_shelfOf) (nc' := 0) (ns' := 0) (pc' := 12) dX11_shift_9 rfl ml_RX11_190 kX11_shelfOf (t_X11_shelfOf H0 ec2) (H0.ob (H0.fo rfl rfl) (by decide)) rfl rfl rfl (Nat.le_of_ble_eq_true rfl) (rokD (by omega) (Nat.le_of_ble_eq_true rfl) (Nat.le_of_ble_eq_true rfl) (Nat.le_of_ble_eq_true rfl)) rfl rfl (fun _ h2 q2 => ?_)
      obtain ⟨rfl, rfl, oo2⟩ := q2
      show AW _ _ _ _ _ (Value.ref (p2 + 8) :: _) _ _ _
      have o_p2 : okV p2 := oo2 _ rfl
      refine aw_astore (lv' := [_, _, _, _, _, _, _, _]) (pc' := 14) dX11_shift_12 rfl (Nat.le_of_ble_eq_true rfl) rfl rfl ?_
      refine aw_aload (pc' := 16) dX11_shift_14 rfl rfl rfl ?_
      refine aw_ifnull_n (tgt := 24) dX11_shift_16 (by decide) ?_
      refine aw_iconst (v := (-1)) (pc' := 25) dX11_shift_24 rfl ic_m1 ?_
      obtain ⟨rfl, rfl⟩ := so2 hf
      exact aw_ri dX11_shift_25 rfl rfl (Nat.le_of_ble_eq_true rfl) (Nat.le_of_ble_eq_true rfl) ⟨rfl, H0, (Mo.rf _)⟩
  · refine aw_callVa (M' := mX11_shelfOf) (nc' := 0) (ns' := 0) (pc' := 5) dX11_shift_2 rfl ml_RX11_190 kX11_shelfOf (t_X11_shelfOf H0 ec1) (H0.ob (H0.fo rfl rfl) (by decide)) rfl rfl rfl (Nat.le_of_ble_eq_true rfl) (rokD (by omega) (Nat.le_of_ble_eq_true rfl) (Nat.le_of_ble_eq_true rfl) (Nat.le_of_ble_eq_true rfl)) rfl rfl (fun _ h1 q1 => ?_)
    obtain ⟨rfl, rfl, oo1⟩ := q1
    show AW _ _ _ _ _ (Value.ref (p1 + 8) :: _) _ _ _
    have o_p1 : okV p1 := oo1 _ rfl
    refine aw_astore (lv' := [_, _, _, _, _, _, _, _]) (pc' := 7) dX11_shift_5 rfl (Nat.le_of_ble_eq_true rfl) rfl rfl ?_
    refine aw_aload_n (pc' := 8) dX11_shift_7 rfl rfl rfl ?_
    refine aw_iload_n (pc' := 9) dX11_shift_8 rfl rfl ?_
    obtain ⟨r3, ec3, hf⟩ := b1_e hf
    replace hf := on_e hf
    rcases hf with ⟨rfl, hf⟩ | ⟨p3, rfl, hf⟩
    · refine aw_callVa (M' := mX11_shelfOf) (nc' := 0) (ns' := 0) (pc' := 12) dX11_shift_9 rfl ml_RX11_190 kX11_shelfOf (t_X11_shelfOf H0 ec3) (H0.ob (H0.fo rfl rfl) (by decide)) rfl rfl rfl (Nat.le_of_ble_eq_true rfl) (rokD (by omega) (Nat.le_of_ble_eq_true rfl) (Nat.le_of_ble_eq_true rfl) (Nat.le_of_ble_eq_true rfl)) rfl rfl (fun _ h3 q3 => ?_)
      obtain ⟨rfl, rfl, oo3⟩ := q3
      show AW _ _ _ _ _ (Value.null :: _) _ _ _
      refine aw_astore (lv' := [_, _, _, _, _, _, _, _]) (pc' := 14) dX11_shift_12 rfl (Nat.le_of_ble_eq_true rfl) rfl rfl ?_
      refine aw_aload (pc' := 16) dX11_shift_14 rfl rfl rfl ?_
      refine aw_ifnull_r (pc' := 19) dX11_shift_16 rfl ?_
      refine aw_aload (pc' := 21) dX11_shift_19 rfl rfl rfl ?_
      refine aw_ifnonnull_n (pc' := 24) dX11_shift_21 rfl ?_
      refine aw_iconst (v := (-1)) (pc' := 25) dX11_shift_24 rfl ic_m1 ?_
      obtain ⟨rfl, rfl⟩ := so2 hf
      exact aw_ri dX11_shift_25 rfl rfl (Nat.le_of_ble_eq_true rfl) (Nat.le_of_ble_eq_true rfl) ⟨rfl, H0, (Mo.rf _)⟩
    · refine aw_callVa (M' := mX11_shelfOf) (nc' := 0) (ns' := 0) (pc' := 12) dX11_shift_9 rfl ml_RX11_190 kX11_shelfOf (t_X11_shelfOf H0 ec3) (H0.ob (H0.fo rfl rfl) (by decide)) rfl rfl rfl (Nat.le_of_ble_eq_true rfl) (rokD (by omega) (Nat.le_of_ble_eq_true rfl) (Nat.le_of_ble_eq_true rfl) (Nat.le_of_ble_eq_true rfl)) rfl rfl (fun _ h3 q3 => ?_)
      obtain ⟨rfl, rfl, oo3⟩ := q3
      show AW _ _ _ _ _ (Value.ref (p3 + 8) :: _) _ _ _
      have o_p3 : okV p3 := oo3 _ rfl
      refine aw_astore (lv' := [_, _, _, _, _, _, _, _]) (pc' := 14) dX11_shift_12 rfl (Nat.le_of_ble_eq_true rfl) rfl rfl ?_
      refine aw_aload (pc' := 16) dX11_shift_14 rfl rfl rfl ?_
      refine aw_ifnull_r (pc' := 19) dX11_shift_16 rfl ?_
      refine aw_aload (pc' := 21) dX11_shift_19 rfl rfl rfl ?_
      refine aw_ifnonnull_r (tgt := 26) dX11_shift_21 (by decide) ?_
      refine aw_aload (pc' := 28) dX11_shift_26 rfl rfl rfl ?_
      refine aw_gi (q := p1) (pc' := 31) H0 (okV.ob o_p1 H0) (by decide) rfl dX11_shift_28 rfl fl_RX11_194 ?_
      refine aw_if_eq (tgt := 42) (pc' := 34) dX11_shift_31 rfl rfl (fun c4 => ?_) (fun c4 => ?_)
      · replace hf := ifp c4 hf
        refine aw_bipush (v := (-11)) (pc' := 44) dX11_shift_42 rfl bp_m11 ?_
        obtain ⟨rfl, rfl⟩ := so2 hf
        exact aw_ri dX11_shift_44 rfl rfl (Nat.le_of_ble_eq_true rfl) (Nat.le_of_ble_eq_true rfl) ⟨rfl, H0, (Mo.rf _)⟩
      · replace hf := ifn c4 hf
        refine aw_aload (pc' := 36) dX11_shift_34 rfl rfl rfl ?_
        refine aw_gi (q := p3) (pc' := 39) H0 (okV.ob o_p3 H0) (by decide) rfl dX11_shift_36 rfl fl_RX11_194 ?_
        refine aw_if_ne (tgt := 45) (pc' := 42) dX11_shift_39 rfl rfl (fun c5 => ?_) (fun c5 => ?_)
        · replace hf := ifn c5 hf
          refine aw_aload (pc' := 47) dX11_shift_45 rfl rfl rfl ?_
          refine aw_gi (q := p1) (pc' := 50) H0 (okV.ob o_p1 H0) (by decide) rfl dX11_shift_47 rfl fl_RX11_194 ?_
          refine aw_iconst (v := 2) (pc' := 51) dX11_shift_50 rfl ic_2 ?_
          refine aw_icmp_ne (tgt := 76) (pc' := 54) dX11_shift_51 rfl rfl (fun c6 => ?_) (fun c6 => ?_)
          · replace hf := ifn c6 hf
            refine aw_bipush (v := (-12)) (pc' := 78) dX11_shift_76 rfl bp_m12 ?_
            obtain ⟨rfl, rfl⟩ := so2 hf
            exact aw_ri dX11_shift_78 rfl rfl (Nat.le_of_ble_eq_true rfl) (Nat.le_of_ble_eq_true rfl) ⟨rfl, H0, (Mo.rf _)⟩
          · replace hf := ifp c6 hf
            refine aw_aload (pc' := 56) dX11_shift_54 rfl rfl rfl ?_
            refine aw_gi (q := p3) (pc' := 59) H0 (okV.ob o_p3 H0) (by decide) rfl dX11_shift_56 rfl fl_RX11_194 ?_
            refine aw_iconst (v := 2) (pc' := 60) dX11_shift_59 rfl ic_2 ?_
            refine aw_icmp_ne (tgt := 76) (pc' := 63) dX11_shift_60 rfl rfl (fun c7 => ?_) (fun c7 => ?_)
            · replace hf := ifn c7 hf
              refine aw_bipush (v := (-12)) (pc' := 78) dX11_shift_76 rfl bp_m12 ?_
              obtain ⟨rfl, rfl⟩ := so2 hf
              exact aw_ri dX11_shift_78 rfl rfl (Nat.le_of_ble_eq_true rfl) (Nat.le_of_ble_eq_true rfl) ⟨rfl, H0, (Mo.rf _)⟩
            · replace hf := ifp c7 hf
              refine aw_aload (pc' := 65) dX11_shift_63 rfl rfl rfl ?_
              refine aw_gi (q := p1) (pc' := 68) H0 (okV.ob o_p1 H0) (by decide) rfl dX11_shift_65 rfl fl_RX11_436 ?_
              refine aw_aload (pc' := 70) dX11_shift_68 rfl rfl rfl ?_
              refine aw_gi (q := p3) (pc' := 73) H0 (okV.ob o_p3 H0) (by decide) rfl dX11_shift_70 rfl fl_RX11_436 ?_
              refine aw_icmp_eq (tgt := 79) (pc' := 76) dX11_shift_73 rfl rfl (fun c8 => ?_) (fun c8 => ?_)
              · replace hf := ifp c8 hf
                refine aw_aload (pc' := 81) dX11_shift_79 rfl rfl rfl ?_
                refine aw_iload_n (pc' := 82) dX11_shift_81 rfl rfl ?_
                refine aw_iload (pc' := 84) dX11_shift_82 rfl rfl ?_
                obtain ⟨r10, ec10, hf⟩ := b1_e hf
                refine aw_callVi (M' := mX8_hasPlaces) (nc' := 0) (ns' := 0) (pc' := 87) dX11_shift_84 rfl ml_RX11_439 kX8_hasPlaces (t_X8_hasPlaces H0 o_p1 ec10) (H0.ob (okV.ob o_p1 H0) (by decide)) rfl rfl rfl (Nat.le_of_ble_eq_true rfl) (rokD (by omega) (Nat.le_of_ble_eq_true rfl) (Nat.le_of_ble_eq_true rfl) (Nat.le_of_ble_eq_true rfl)) rfl rfl (fun _ h10 q10 => ?_)
                obtain ⟨rfl, rfl, zb10⟩ := q10
                refine aw_if_eq (tgt := 102) (pc' := 90) dX11_shift_87 rfl rfl (fun c11 => ?_) (fun c11 => ?_)
                · replace hf := ifp c11 hf
                  refine aw_bipush (v := (-13)) (pc' := 104) dX11_shift_102 rfl bp_m13 ?_
                  obtain ⟨rfl, rfl⟩ := so2 hf
                  exact aw_ri dX11_shift_104 rfl rfl (Nat.le_of_ble_eq_true rfl) (Nat.le_of_ble_eq_true rfl) ⟨rfl, H0, (Mo.rf _)⟩
                · replace hf := ifn c11 hf
                  refine aw_aload (pc' := 92) dX11_shift_90 rfl rfl rfl ?_
                  refine aw_iload (pc' := 94) dX11_shift_92 rfl rfl ?_
                  refine aw_iload (pc' := 96) dX11_shift_94 rfl rfl ?_
                  obtain ⟨r12, ec12, hf⟩ := b1_e hf
                  refine aw_callVi (M' := mX8_hasPlaces) (nc' := 0) (ns' := 0) (pc' := 99) dX11_shift_96 rfl ml_RX11_439 kX8_hasPlaces (t_X8_hasPlaces H0 o_p3 ec12) (H0.ob (okV.ob o_p3 H0) (by decide)) rfl rfl rfl (Nat.le_of_ble_eq_true rfl) (rokD (by omega) (Nat.le_of_ble_eq_true rfl) (Nat.le_of_ble_eq_true rfl) (Nat.le_of_ble_eq_true rfl)) rfl rfl (fun _ h12 q12 => ?_)
                  obtain ⟨rfl, rfl, zb12⟩ := q12
                  refine aw_if_ne (tgt := 105) (pc' := 102) dX11_shift_99 rfl rfl (fun c13 => ?_) (fun c13 => ?_)
                  · replace hf := ifn c13 hf
                    refine aw_aload (pc' := 107) dX11_shift_105 rfl rfl rfl ?_
                    refine aw_gr (q := p1) (e := 3) (v := .ref (p1 + 1 + 8)) (pc' := 110) H0 (okV.ob o_p1 H0) (by decide) rfl rfl dX11_shift_107 rfl fl_RX11_424 ?_
                    refine aw_iload_n (pc' := 111) dX11_shift_110 rfl rfl ?_
                    refine aw_aload (pc' := 113) dX11_shift_111 rfl rfl rfl ?_
                    refine aw_gr (q := p3) (e := 3) (v := .ref (p3 + 1 + 8)) (pc' := 116) H0 (okV.ob o_p3 H0) (by decide) rfl rfl dX11_shift_113 rfl fl_RX11_424 ?_
                    refine aw_iload (pc' := 118) dX11_shift_116 rfl rfl ?_
                    refine aw_iload (pc' := 120) dX11_shift_118 rfl rfl ?_
                    obtain ⟨g15, hf⟩ := gd_e hf
                    obtain ⟨s14, es14, hf⟩ := st_e hf
                    refine aw_cpl (pc' := 123) dX11_shift_120 rfl ml_RX11_442 (H0.aj (okV.a1 o_p1 H0)) (H0.aj (okV.a1 o_p3 H0)) g15.1 g15.2.1 g15.2.2.1 g15.2.2.2.1 g15.2.2.2.2 (by show 1 ≤ 1; omega) (by show 0 + 40 ≤ 41 * (1); omega) (fun h14 q14 => ?_)
                    have H14 : HH s14 h14 := es14 ▸ (H0.putK (okV.a1 o_p3 H0) q14)
                    have m14 := Mo.ofK es14
                    refine aw_iload (pc' := 125) dX11_shift_123 rfl rfl ?_
                    obtain ⟨rfl, rfl⟩ := so2 hf
                    exact aw_ri dX11_shift_125 rfl rfl (Nat.le_of_ble_eq_true rfl) (Nat.le_of_ble_eq_true rfl) ⟨rfl, H14, m14⟩
                  · replace hf := ifp c13 hf
                    refine aw_bipush (v := (-13)) (pc' := 104) dX11_shift_102 rfl bp_m13 ?_
                    obtain ⟨rfl, rfl⟩ := so2 hf
                    exact aw_ri dX11_shift_104 rfl rfl (Nat.le_of_ble_eq_true rfl) (Nat.le_of_ble_eq_true rfl) ⟨rfl, H0, (Mo.rf _)⟩
              · replace hf := ifn c8 hf
                refine aw_bipush (v := (-12)) (pc' := 78) dX11_shift_76 rfl bp_m12 ?_
                obtain ⟨rfl, rfl⟩ := so2 hf
                exact aw_ri dX11_shift_78 rfl rfl (Nat.le_of_ble_eq_true rfl) (Nat.le_of_ble_eq_true rfl) ⟨rfl, H0, (Mo.rf _)⟩
        · replace hf := ifp c5 hf
          refine aw_bipush (v := (-11)) (pc' := 44) dX11_shift_42 rfl bp_m11 ?_
          obtain ⟨rfl, rfl⟩ := so2 hf
          exact aw_ri dX11_shift_44 rfl rfl (Nat.le_of_ble_eq_true rfl) (Nat.le_of_ble_eq_true rfl) ⟨rfl, H0, (Mo.rf _)⟩
/-! ThirtyThreeBelow.taken -/
noncomputable def f_X11_taken (s0 : SS) (a0 : Int32) (a1 : Int32) : Option Int32 := (b1 (f_X11_shelfOf s0 a0) fun r1 => (on r1 (some (-1)) fun p1 => (if a1 < (0 : Int32) then some (-1) else (if (7 : Int32) < a1 then some (-1) else (if (zS s0 p1 0) = (0 : Int32) then some (-11) else (if (zS s0 p1 0) = (2 : Int32) then some (-12) else (b1 (f_X0_isUnder s0 (zS s0 p1 1) a1) fun r6 => (if r6 = (0 : Int32) then some (-12) else (b1 (f_X0_kindOf s0 (zS s0 p1 1)) fun r8 => some r8)))))))))
set_option maxRecDepth 4000 in
theorem t_X11_taken {r9 : Int32} {s0 : SS} {h0 : List aE} {a0 : Int32} {a1 : Int32} (H0 : HH s0 h0) (hf : f_X11_taken s0 a0 a1 = some r9) : AM mX11_taken (2) [.ref 8, .int a0, .int a1] h0 0 0 (PI fun r' h' => r9 = r' ∧ h0 = h') := by
  unfold f_X11_taken at hf
  refine am_of (lv := [some (.ref 8), some (.int a0), some (.int a1), none]) rfl (Nat.le_of_ble_eq_true rfl) rfl ?_
  refine aw_aload_n (pc' := 1) dX11_taken_0 rfl rfl rfl ?_
  refine aw_iload_n (pc' := 2) dX11_taken_1 rfl rfl ?_
  obtain ⟨r1, ec1, hf⟩ := b1_e hf
  replace hf := on_e hf
  rcases hf with ⟨rfl, hf⟩ | ⟨p1, rfl, hf⟩
  · refine aw_callVa (M' := mX11_shelfOf) (nc' := 0) (ns' := 0) (pc' := 5) dX11_taken_2 rfl ml_RX11_190 kX11_shelfOf (t_X11_shelfOf H0 ec1) (H0.ob (H0.fo rfl rfl) (by decide)) rfl rfl rfl (Nat.le_of_ble_eq_true rfl) (rokD (by omega) (Nat.le_of_ble_eq_true rfl) (Nat.le_of_ble_eq_true rfl) (Nat.le_of_ble_eq_true rfl)) rfl rfl (fun _ h1 q1 => ?_)
    obtain ⟨rfl, rfl, oo1⟩ := q1
    show AW _ _ _ _ _ (Value.null :: _) _ _ _
    refine aw_astore_n (lv' := [_, _, _, _]) (pc' := 6) dX11_taken_5 rfl (Nat.le_of_ble_eq_true rfl) rfl rfl ?_
    refine aw_aload_n (pc' := 7) dX11_taken_6 rfl rfl rfl ?_
    refine aw_ifnull_n (tgt := 20) dX11_taken_7 (by decide) ?_
    refine aw_iconst (v := (-1)) (pc' := 21) dX11_taken_20 rfl ic_m1 ?_
    obtain rfl := Option.some.inj hf
    exact aw_ri dX11_taken_21 rfl rfl (Nat.le_of_ble_eq_true rfl) (Nat.le_of_ble_eq_true rfl) ⟨rfl, rfl⟩
  · refine aw_callVa (M' := mX11_shelfOf) (nc' := 0) (ns' := 0) (pc' := 5) dX11_taken_2 rfl ml_RX11_190 kX11_shelfOf (t_X11_shelfOf H0 ec1) (H0.ob (H0.fo rfl rfl) (by decide)) rfl rfl rfl (Nat.le_of_ble_eq_true rfl) (rokD (by omega) (Nat.le_of_ble_eq_true rfl) (Nat.le_of_ble_eq_true rfl) (Nat.le_of_ble_eq_true rfl)) rfl rfl (fun _ h1 q1 => ?_)
    obtain ⟨rfl, rfl, oo1⟩ := q1
    show AW _ _ _ _ _ (Value.ref (p1 + 8) :: _) _ _ _
    have o_p1 : okV p1 := oo1 _ rfl
    refine aw_astore_n (lv' := [_, _, _, _]) (pc' := 6) dX11_taken_5 rfl (Nat.le_of_ble_eq_true rfl) rfl rfl ?_
    refine aw_aload_n (pc' := 7) dX11_taken_6 rfl rfl rfl ?_
    refine aw_ifnull_r (pc' := 10) dX11_taken_7 rfl ?_
    refine aw_iload_n (pc' := 11) dX11_taken_10 rfl rfl ?_
    refine aw_zlt (tgt := 20) (pc' := 14) dX11_taken_11 rfl rfl (fun c2 => ?_) (fun c2 => ?_)
    · replace hf := ifp c2 hf
      refine aw_iconst (v := (-1)) (pc' := 21) dX11_taken_20 rfl ic_m1 ?_
      obtain rfl := Option.some.inj hf
      exact aw_ri dX11_taken_21 rfl rfl (Nat.le_of_ble_eq_true rfl) (Nat.le_of_ble_eq_true rfl) ⟨rfl, rfl⟩
    · replace hf := ifn c2 hf
      refine aw_iload_n (pc' := 15) dX11_taken_14 rfl rfl ?_
      refine aw_bipush (v := 7) (pc' := 17) dX11_taken_15 rfl bp_7 ?_
      refine aw_cle (tgt := 22) (pc' := 20) dX11_taken_17 rfl rfl (fun c3 => ?_) (fun c3 => ?_)
      · replace hf := ifn c3 hf
        refine aw_aload_n (pc' := 23) dX11_taken_22 rfl rfl rfl ?_
        refine aw_gi (q := p1) (pc' := 26) H0 (okV.ob o_p1 H0) (by decide) rfl dX11_taken_23 rfl fl_RX11_194 ?_
        refine aw_if_ne (tgt := 32) (pc' := 29) dX11_taken_26 rfl rfl (fun c4 => ?_) (fun c4 => ?_)
        · replace hf := ifn c4 hf
          refine aw_aload_n (pc' := 33) dX11_taken_32 rfl rfl rfl ?_
          refine aw_gi (q := p1) (pc' := 36) H0 (okV.ob o_p1 H0) (by decide) rfl dX11_taken_33 rfl fl_RX11_194 ?_
          refine aw_iconst (v := 2) (pc' := 37) dX11_taken_36 rfl ic_2 ?_
          refine aw_icmp_eq (tgt := 55) (pc' := 40) dX11_taken_37 rfl rfl (fun c5 => ?_) (fun c5 => ?_)
          · replace hf := ifp c5 hf
            refine aw_bipush (v := (-12)) (pc' := 57) dX11_taken_55 rfl bp_m12 ?_
            obtain rfl := Option.some.inj hf
            exact aw_ri dX11_taken_57 rfl rfl (Nat.le_of_ble_eq_true rfl) (Nat.le_of_ble_eq_true rfl) ⟨rfl, rfl⟩
          · replace hf := ifn c5 hf
            refine aw_aload_n (pc' := 41) dX11_taken_40 rfl rfl rfl ?_
            refine aw_gr (q := 0) (e := 31) (v := .ref 23) (pc' := 44) H0 (H0.fo rfl rfl) (l13 rfl) rfl rfl dX11_taken_41 rfl fl_RX11_28 ?_
            refine aw_aload_n (pc' := 45) dX11_taken_44 rfl rfl rfl ?_
            refine aw_gi (q := p1) (pc' := 48) H0 (okV.ob o_p1 H0) (by decide) rfl dX11_taken_45 rfl fl_RX11_411 ?_
            refine aw_iload_n (pc' := 49) dX11_taken_48 rfl rfl ?_
            obtain ⟨r6, ec6, hf⟩ := b1_e hf
            refine aw_callVi (M' := mX0_isUnder) (nc' := 0) (ns' := 0) (pc' := 52) dX11_taken_49 rfl ml_RX11_448 kX0_isUnder (t_X0_isUnder H0 ec6) (H0.ob (H0.fo rfl rfl) (by decide)) rfl rfl rfl (Nat.le_of_ble_eq_true rfl) (rokD (by omega) (Nat.le_of_ble_eq_true rfl) (Nat.le_of_ble_eq_true rfl) (Nat.le_of_ble_eq_true rfl)) rfl rfl (fun _ h6 q6 => ?_)
            obtain ⟨rfl, rfl, zb6⟩ := q6
            refine aw_if_ne (tgt := 58) (pc' := 55) dX11_taken_52 rfl rfl (fun c7 => ?_) (fun c7 => ?_)
            · replace hf := ifn c7 hf
              refine aw_aload_n (pc' := 59) dX11_taken_58 rfl rfl rfl ?_
              refine aw_gr (q := 0) (e := 31) (v := .ref 23) (pc' := 62) H0 (H0.fo rfl rfl) (l13 rfl) rfl rfl dX11_taken_59 rfl fl_RX11_28 ?_
              refine aw_aload_n (pc' := 63) dX11_taken_62 rfl rfl rfl ?_
              refine aw_gi (q := p1) (pc' := 66) H0 (okV.ob o_p1 H0) (by decide) rfl dX11_taken_63 rfl fl_RX11_411 ?_
              obtain ⟨r8, ec8, hf⟩ := b1_e hf
              refine aw_callVi (M' := mX0_kindOf) (nc' := 0) (ns' := 0) (pc' := 69) dX11_taken_66 rfl ml_RX11_135 kX0_kindOf (t_X0_kindOf H0 ec8) (H0.ob (H0.fo rfl rfl) (by decide)) rfl rfl rfl (Nat.le_of_ble_eq_true rfl) (rokD (by omega) (Nat.le_of_ble_eq_true rfl) (Nat.le_of_ble_eq_true rfl) (Nat.le_of_ble_eq_true rfl)) rfl rfl (fun _ h8 q8 => ?_)
              obtain ⟨rfl, rfl⟩ := q8
              obtain rfl := Option.some.inj hf
              exact aw_ri dX11_taken_69 rfl rfl (Nat.le_of_ble_eq_true rfl) (Nat.le_of_ble_eq_true rfl) ⟨rfl, rfl⟩
            · replace hf := ifp c7 hf
              refine aw_bipush (v := (-12)) (pc' := 57) dX11_taken_55 rfl bp_m12 ?_
              obtain rfl := Option.some.inj hf
              exact aw_ri dX11_taken_57 rfl rfl (Nat.le_of_ble_eq_true rfl) (Nat.le_of_ble_eq_true rfl) ⟨rfl, rfl⟩
        · replace hf := ifp c4 hf
          refine aw_bipush (v := (-11)) (pc' := 31) dX11_taken_29 rfl bp_m11 ?_
          obtain rfl := Option.some.inj hf
          exact aw_ri dX11_taken_31 rfl rfl (Nat.le_of_ble_eq_true rfl) (Nat.le_of_ble_eq_true rfl) ⟨rfl, rfl⟩
      · replace hf := ifp c3 hf
        refine aw_iconst (v := (-1)) (pc' := 21) dX11_taken_20 rfl ic_m1 ?_
        obtain rfl := Option.some.inj hf
        exact aw_ri dX11_taken_21 rfl rfl (Nat.le_of_ble_eq_true rfl) (Nat.le_of_ble_eq_true rfl) ⟨rfl, rfl⟩
/-! ThirtyThreeBelow.count -/
noncomputable def f_X11_count (s0 : SS) (a0 : Int32) : Option Int32 := (if a0 = 0 then some (zS s0 15 3) else (if a0 = 1 then some (zS s0 15 4) else (if a0 = 2 then some (zS s0 0 17) else (if a0 = 3 then some (zS s0 6 4) else (if a0 = 4 then some (zS s0 0 14) else (if a0 = 5 then some (zS s0 0 5) else (if a0 = 6 then some (zS s0 0 8) else (if a0 = 7 then some (zS s0 24 1) else (if a0 = 8 then some (zS s0 0 16) else (if a0 = 9 then some (zS s0 30 1) else (if a0 = 10 then some (zS s0 30 5) else (if a0 = 11 then some (zS s0 15 11) else some (-1)))))))))))))
set_option maxRecDepth 4000 in
theorem t_X11_count {r9 : Int32} {s0 : SS} {h0 : List aE} {a0 : Int32} (H0 : HH s0 h0) (hf : f_X11_count s0 a0 = some r9) : AM mX11_count (0) [.ref 8, .int a0] h0 0 0 (PI fun r' h' => r9 = r' ∧ h0 = h') := by
  unfold f_X11_count at hf
  refine am_of (lv := [some (.ref 8), some (.int a0)]) rfl (Nat.le_of_ble_eq_true rfl) rfl ?_
  refine aw_iload_n (pc' := 1) dX11_count_0 rfl rfl ?_
  rcases Decidable.em (a0 = 0) with c1 | c1
  · replace hf := ifp c1 hf
    refine aw_tabIn (tgt := 64) (off := 63) dX11_count_1 (by rw [c1]; decide) (by rw [c1]; decide) (by rw [c1]; decide) (by decide) ?_
    refine aw_aload_n (pc' := 65) dX11_count_64 rfl rfl rfl ?_
    refine aw_gr (q := 0) (e := 31) (v := .ref 23) (pc' := 68) H0 (H0.fo rfl rfl) (l13 rfl) rfl rfl dX11_count_65 rfl fl_RX11_28 ?_
    refine aw_gi (q := 15) (pc' := 71) H0 (H0.fo rfl rfl) (l13 rfl) rfl dX11_count_68 rfl fl_RX11_381 ?_
    obtain rfl := Option.some.inj hf
    exact aw_ri dX11_count_71 rfl rfl (Nat.le_of_ble_eq_true rfl) (Nat.le_of_ble_eq_true rfl) ⟨rfl, rfl⟩
  replace hf := ifn c1 hf
  rcases Decidable.em (a0 = 1) with c2 | c2
  · replace hf := ifp c2 hf
    refine aw_tabIn (tgt := 72) (off := 71) dX11_count_1 (by rw [c2]; decide) (by rw [c2]; decide) (by rw [c2]; decide) (by decide) ?_
    refine aw_aload_n (pc' := 73) dX11_count_72 rfl rfl rfl ?_
    refine aw_gr (q := 0) (e := 31) (v := .ref 23) (pc' := 76) H0 (H0.fo rfl rfl) (l13 rfl) rfl rfl dX11_count_73 rfl fl_RX11_28 ?_
    refine aw_gi (q := 15) (pc' := 79) H0 (H0.fo rfl rfl) (l13 rfl) rfl dX11_count_76 rfl fl_RX11_451 ?_
    obtain rfl := Option.some.inj hf
    exact aw_ri dX11_count_79 rfl rfl (Nat.le_of_ble_eq_true rfl) (Nat.le_of_ble_eq_true rfl) ⟨rfl, rfl⟩
  replace hf := ifn c2 hf
  rcases Decidable.em (a0 = 2) with c3 | c3
  · replace hf := ifp c3 hf
    refine aw_tabIn (tgt := 80) (off := 79) dX11_count_1 (by rw [c3]; decide) (by rw [c3]; decide) (by rw [c3]; decide) (by decide) ?_
    refine aw_aload_n (pc' := 81) dX11_count_80 rfl rfl rfl ?_
    refine aw_gi (q := 0) (pc' := 84) H0 (H0.fo rfl rfl) (l13 rfl) rfl dX11_count_81 rfl fl_RX11_454 ?_
    obtain rfl := Option.some.inj hf
    exact aw_ri dX11_count_84 rfl rfl (Nat.le_of_ble_eq_true rfl) (Nat.le_of_ble_eq_true rfl) ⟨rfl, rfl⟩
  replace hf := ifn c3 hf
  rcases Decidable.em (a0 = 3) with c4 | c4
  · replace hf := ifp c4 hf
    refine aw_tabIn (tgt := 85) (off := 84) dX11_count_1 (by rw [c4]; decide) (by rw [c4]; decide) (by rw [c4]; decide) (by decide) ?_
    refine aw_aload_n (pc' := 86) dX11_count_85 rfl rfl rfl ?_
    refine aw_gr (q := 0) (e := 13) (v := .ref 14) (pc' := 89) H0 (H0.fo rfl rfl) (l13 rfl) rfl rfl dX11_count_86 rfl fl_RX11_19 ?_
    refine aw_gi (q := 6) (pc' := 92) H0 (H0.fo rfl rfl) (l13 rfl) rfl dX11_count_89 rfl fl_RX11_301 ?_
    obtain rfl := Option.some.inj hf
    exact aw_ri dX11_count_92 rfl rfl (Nat.le_of_ble_eq_true rfl) (Nat.le_of_ble_eq_true rfl) ⟨rfl, rfl⟩
  replace hf := ifn c4 hf
  rcases Decidable.em (a0 = 4) with c5 | c5
  · replace hf := ifp c5 hf
    refine aw_tabIn (tgt := 93) (off := 92) dX11_count_1 (by rw [c5]; decide) (by rw [c5]; decide) (by rw [c5]; decide) (by decide) ?_
    refine aw_aload_n (pc' := 94) dX11_count_93 rfl rfl rfl ?_
    refine aw_gi (q := 0) (pc' := 97) H0 (H0.fo rfl rfl) (l13 rfl) rfl dX11_count_94 rfl fl_RX11_168 ?_
    obtain rfl := Option.some.inj hf
    exact aw_ri dX11_count_97 rfl rfl (Nat.le_of_ble_eq_true rfl) (Nat.le_of_ble_eq_true rfl) ⟨rfl, rfl⟩
  replace hf := ifn c5 hf
  rcases Decidable.em (a0 = 5) with c6 | c6
  · replace hf := ifp c6 hf
    refine aw_tabIn (tgt := 98) (off := 97) dX11_count_1 (by rw [c6]; decide) (by rw [c6]; decide) (by rw [c6]; decide) (by decide) ?_
    refine aw_aload_n (pc' := 99) dX11_count_98 rfl rfl rfl ?_
    refine aw_gi (q := 0) (pc' := 102) H0 (H0.fo rfl rfl) (l13 rfl) rfl dX11_count_99 rfl fl_RX11_220 ?_
    obtain rfl := Option.some.inj hf
    exact aw_ri dX11_count_102 rfl rfl (Nat.le_of_ble_eq_true rfl) (Nat.le_of_ble_eq_true rfl) ⟨rfl, rfl⟩
  replace hf := ifn c6 hf
  rcases Decidable.em (a0 = 6) with c7 | c7
  · replace hf := ifp c7 hf
    refine aw_tabIn (tgt := 103) (off := 102) dX11_count_1 (by rw [c7]; decide) (by rw [c7]; decide) (by rw [c7]; decide) (by decide) ?_
    refine aw_aload_n (pc' := 104) dX11_count_103 rfl rfl rfl ?_
    refine aw_gi (q := 0) (pc' := 107) H0 (H0.fo rfl rfl) (l13 rfl) rfl dX11_count_104 rfl fl_RX11_267 ?_
    obtain rfl := Option.some.inj hf
    exact aw_ri dX11_count_107 rfl rfl (Nat.le_of_ble_eq_true rfl) (Nat.le_of_ble_eq_true rfl) ⟨rfl, rfl⟩
  replace hf := ifn c7 hf
  rcases Decidable.em (a0 = 7) with c8 | c8
  · replace hf := ifp c8 hf
    refine aw_tabIn (tgt := 108) (off := 107) dX11_count_1 (by rw [c8]; decide) (by rw [c8]; decide) (by rw [c8]; decide) (by decide) ?_
    refine aw_aload_n (pc' := 109) dX11_count_108 rfl rfl rfl ?_
    refine aw_gr (q := 0) (e := 49) (v := .ref 32) (pc' := 112) H0 (H0.fo rfl rfl) (l13 rfl) rfl rfl dX11_count_109 rfl fl_RX11_48 ?_
    refine aw_gi (q := 24) (pc' := 115) H0 (H0.fo rfl rfl) (l13 rfl) rfl dX11_count_112 rfl fl_RX11_273 ?_
    obtain rfl := Option.some.inj hf
    exact aw_ri dX11_count_115 rfl rfl (Nat.le_of_ble_eq_true rfl) (Nat.le_of_ble_eq_true rfl) ⟨rfl, rfl⟩
  replace hf := ifn c8 hf
  rcases Decidable.em (a0 = 8) with c10 | c10
  · replace hf := ifp c10 hf
    refine aw_tabIn (tgt := 116) (off := 115) dX11_count_1 (by rw [c10]; decide) (by rw [c10]; decide) (by rw [c10]; decide) (by decide) ?_
    refine aw_aload_n (pc' := 117) dX11_count_116 rfl rfl rfl ?_
    refine aw_gi (q := 0) (pc' := 120) H0 (H0.fo rfl rfl) (l13 rfl) rfl dX11_count_117 rfl fl_RX11_457 ?_
    obtain rfl := Option.some.inj hf
    exact aw_ri dX11_count_120 rfl rfl (Nat.le_of_ble_eq_true rfl) (Nat.le_of_ble_eq_true rfl) ⟨rfl, rfl⟩
  replace hf := ifn c10 hf
  rcases Decidable.em (a0 = 9) with c11 | c11
  · replace hf := ifp c11 hf
    refine aw_tabIn (tgt := 121) (off := 120) dX11_count_1 (by rw [c11]; decide) (by rw [c11]; decide) (by rw [c11]; decide) (by decide) ?_
    refine aw_aload_n (pc' := 122) dX11_count_121 rfl rfl rfl ?_
    refine aw_gr (q := 0) (e := 61) (v := .ref 38) (pc' := 125) H0 (H0.fo rfl rfl) (l13 rfl) rfl rfl dX11_count_122 rfl fl_RX11_76 ?_
    refine aw_gi (q := 30) (pc' := 128) H0 (H0.fo rfl rfl) (l13 rfl) rfl dX11_count_125 rfl fl_RX11_460 ?_
    obtain rfl := Option.some.inj hf
    exact aw_ri dX11_count_128 rfl rfl (Nat.le_of_ble_eq_true rfl) (Nat.le_of_ble_eq_true rfl) ⟨rfl, rfl⟩
  replace hf := ifn c11 hf
  rcases Decidable.em (a0 = 10) with c12 | c12
  · replace hf := ifp c12 hf
    refine aw_tabIn (tgt := 129) (off := 128) dX11_count_1 (by rw [c12]; decide) (by rw [c12]; decide) (by rw [c12]; decide) (by decide) ?_
    refine aw_aload_n (pc' := 130) dX11_count_129 rfl rfl rfl ?_
    refine aw_gr (q := 0) (e := 61) (v := .ref 38) (pc' := 133) H0 (H0.fo rfl rfl) (l13 rfl) rfl rfl dX11_count_130 rfl fl_RX11_76 ?_
    refine aw_gi (q := 30) (pc' := 136) H0 (H0.fo rfl rfl) (l13 rfl) rfl dX11_count_133 rfl fl_RX11_310 ?_
    obtain rfl := Option.some.inj hf
    exact aw_ri dX11_count_136 rfl rfl (Nat.le_of_ble_eq_true rfl) (Nat.le_of_ble_eq_true rfl) ⟨rfl, rfl⟩
  replace hf := ifn c12 hf
  rcases Decidable.em (a0 = 11) with c13 | c13
  · replace hf := ifp c13 hf
    refine aw_tabIn (tgt := 137) (off := 136) dX11_count_1 (by rw [c13]; decide) (by rw [c13]; decide) (by rw [c13]; decide) (by decide) ?_
    refine aw_aload_n (pc' := 138) dX11_count_137 rfl rfl rfl ?_
    refine aw_gr (q := 0) (e := 31) (v := .ref 23) (pc' := 141) H0 (H0.fo rfl rfl) (l13 rfl) rfl rfl dX11_count_138 rfl fl_RX11_28 ?_
    refine aw_gi (q := 15) (pc' := 144) H0 (H0.fo rfl rfl) (l13 rfl) rfl dX11_count_141 rfl fl_RX11_405 ?_
    obtain rfl := Option.some.inj hf
    exact aw_ri dX11_count_144 rfl rfl (Nat.le_of_ble_eq_true rfl) (Nat.le_of_ble_eq_true rfl) ⟨rfl, rfl⟩
  replace hf := ifn c13 hf
  refine aw_tabOut (tgt := 145) dX11_count_1 (by have a0 := tneK (K := 0) (by decide) c1; have a1 := tneK (K := 1) (by decide) c2; have a2 := tneK (K := 2) (by decide) c3; have a3 := tneK (K := 3) (by decide) c4; have a4 := tneK (K := 4) (by decide) c5; have a5 := tneK (K := 5) (by decide) c6; have a6 := tneK (K := 6) (by decide) c7; have a7 := tneK (K := 7) (by decide) c8; have a8 := tneK (K := 8) (by decide) c10; have a9 := tneK (K := 9) (by decide) c11; have a10 := tneK (K := 10) (by decide) c12; have a11 := tneK (K := 11) (by decide) c13; omega) (by decide) ?_
  refine aw_iconst (v := (-1)) (pc' := 146) dX11_count_145 rfl ic_m1 ?_
  obtain rfl := Option.some.inj hf
  exact aw_ri dX11_count_146 rfl rfl (Nat.le_of_ble_eq_true rfl) (Nat.le_of_ble_eq_true rfl) ⟨rfl, rfl⟩
/-! ThirtyThreeBelowModel.in -/
noncomputable def f_X12_in (a0 : Int32) (a1 : Int32) (a2 : Int32) : Option Int32 := (if a0 < a1 then some 0 else (if a2 < a0 then some 0 else some 1))
set_option maxRecDepth 4000 in
theorem t_X12_in {r9 : Int32} {h0 : List aE} {a0 : Int32} {a1 : Int32} {a2 : Int32}  (hf : f_X12_in a0 a1 a2 = some r9) : AM mX12_in (0) [.int a0, .int a1, .int a2] h0 0 0 (PI fun r' h' => r9 = r' ∧ h0 = h' ∧ (r9 = 0 ∨ r9 = 1)) := by
  unfold f_X12_in at hf
  refine am_of (lv := [some (.int a0), some (.int a1), some (.int a2)]) rfl (Nat.le_of_ble_eq_true rfl) rfl ?_
  refine aw_iload_n (pc' := 1) dX12_in_0 rfl rfl ?_
  refine aw_iload_n (pc' := 2) dX12_in_1 rfl rfl ?_
  refine aw_clt (tgt := 14) (pc' := 5) dX12_in_2 rfl rfl (fun c1 => ?_) (fun c1 => ?_)
  · replace hf := ifp c1 hf
    refine aw_iconst (v := 0) (pc' := 15) dX12_in_14 rfl ic_0 ?_
    obtain rfl := Option.some.inj hf
    exact aw_ri dX12_in_15 rfl (by decide) (Nat.le_of_ble_eq_true rfl) (Nat.le_of_ble_eq_true rfl) ⟨rfl, rfl, Or.inl rfl⟩
  · replace hf := ifn c1 hf
    refine aw_iload_n (pc' := 6) dX12_in_5 rfl rfl ?_
    refine aw_iload_n (pc' := 7) dX12_in_6 rfl rfl ?_
    refine aw_cgt (tgt := 14) (pc' := 10) dX12_in_7 rfl rfl (fun c2 => ?_) (fun c2 => ?_)
    · replace hf := ifp c2 hf
      refine aw_iconst (v := 0) (pc' := 15) dX12_in_14 rfl ic_0 ?_
      obtain rfl := Option.some.inj hf
      exact aw_ri dX12_in_15 rfl (by decide) (Nat.le_of_ble_eq_true rfl) (Nat.le_of_ble_eq_true rfl) ⟨rfl, rfl, Or.inl rfl⟩
    · replace hf := ifn c2 hf
      refine aw_iconst (v := 1) (pc' := 11) dX12_in_10 rfl ic_1 ?_
      refine aw_goto (tgt := 15) dX12_in_11 rfl ?_
      obtain rfl := Option.some.inj hf
      exact aw_ri dX12_in_15 rfl (by decide) (Nat.le_of_ble_eq_true rfl) (Nat.le_of_ble_eq_true rfl) ⟨rfl, rfl, Or.inr rfl⟩
/-! ThirtyThreeBelowModel.isHour -/
noncomputable def f_X12_isHour (a0 : Int32) : Option Int32 := (b1 (f_X12_in a0 (0 : Int32) (1699 : Int32)) fun r1 => some r1)
set_option maxRecDepth 4000 in
theorem t_X12_isHour {r9 : Int32} {h0 : List aE} {a0 : Int32}  (hf : f_X12_isHour a0 = some r9) : AM mX12_isHour (1) [.int a0] h0 0 0 (PI fun r' h' => r9 = r' ∧ h0 = h' ∧ (r9 = 0 ∨ r9 = 1)) := by
  unfold f_X12_isHour at hf
  refine am_of (lv := [some (.int a0)]) rfl (Nat.le_of_ble_eq_true rfl) rfl ?_
  refine aw_iload_n (pc' := 1) dX12_isHour_0 rfl rfl ?_
  refine aw_iconst (v := 0) (pc' := 2) dX12_isHour_1 rfl ic_0 ?_
  refine aw_sipush (v := 1699) (pc' := 5) dX12_isHour_2 rfl sp_1699 ?_
  obtain ⟨r1, ec1, hf⟩ := b1_e hf
  refine aw_callSi (M' := mX12_in) (nc' := 0) (ns' := 0) (pc' := 8) dX12_isHour_5 rfl ml_RX12_230 kX12_in (t_X12_in ec1) rfl rfl (Nat.le_of_ble_eq_true rfl) (rokD (by omega) (Nat.le_of_ble_eq_true rfl) (Nat.le_of_ble_eq_true rfl) (Nat.le_of_ble_eq_true rfl)) rfl rfl (fun _ h1 q1 => ?_)
  obtain ⟨rfl, rfl, zb1⟩ := q1
  obtain rfl := Option.some.inj hf
  exact aw_ri dX12_isHour_8 rfl (nz zb1) (Nat.le_of_ble_eq_true rfl) (Nat.le_of_ble_eq_true rfl) ⟨rfl, rfl, zb1⟩
/-! ThirtyThreeBelowModel.held -/
noncomputable def f_X12_held (a0 : Int32) (a1 : Int32) (a2 : Int32) : Option Int32 := (if a0 < a1 then some a1 else (if a2 < a0 then some a2 else some a0))
set_option maxRecDepth 4000 in
theorem t_X12_held {r9 : Int32} {h0 : List aE} {a0 : Int32} {a1 : Int32} {a2 : Int32}  (hf : f_X12_held a0 a1 a2 = some r9) : AM mX12_held (0) [.int a0, .int a1, .int a2] h0 0 0 (PI fun r' h' => r9 = r' ∧ h0 = h') := by
  unfold f_X12_held at hf
  refine am_of (lv := [some (.int a0), some (.int a1), some (.int a2)]) rfl (Nat.le_of_ble_eq_true rfl) rfl ?_
  refine aw_iload_n (pc' := 1) dX12_held_0 rfl rfl ?_
  refine aw_iload_n (pc' := 2) dX12_held_1 rfl rfl ?_
  refine aw_cge (tgt := 9) (pc' := 5) dX12_held_2 rfl rfl (fun c1 => ?_) (fun c1 => ?_)
  · replace hf := ifn c1 hf
    refine aw_iload_n (pc' := 10) dX12_held_9 rfl rfl ?_
    refine aw_iload_n (pc' := 11) dX12_held_10 rfl rfl ?_
    refine aw_cle (tgt := 18) (pc' := 14) dX12_held_11 rfl rfl (fun c2 => ?_) (fun c2 => ?_)
    · replace hf := ifn c2 hf
      refine aw_iload_n (pc' := 19) dX12_held_18 rfl rfl ?_
      obtain rfl := Option.some.inj hf
      exact aw_ri dX12_held_19 rfl rfl (Nat.le_of_ble_eq_true rfl) (Nat.le_of_ble_eq_true rfl) ⟨rfl, rfl⟩
    · replace hf := ifp c2 hf
      refine aw_iload_n (pc' := 15) dX12_held_14 rfl rfl ?_
      refine aw_goto (tgt := 19) dX12_held_15 rfl ?_
      obtain rfl := Option.some.inj hf
      exact aw_ri dX12_held_19 rfl rfl (Nat.le_of_ble_eq_true rfl) (Nat.le_of_ble_eq_true rfl) ⟨rfl, rfl⟩
  · replace hf := ifp c1 hf
    refine aw_iload_n (pc' := 6) dX12_held_5 rfl rfl ?_
    refine aw_goto (tgt := 19) dX12_held_6 rfl ?_
    obtain rfl := Option.some.inj hf
    exact aw_ri dX12_held_19 rfl rfl (Nat.le_of_ble_eq_true rfl) (Nat.le_of_ble_eq_true rfl) ⟨rfl, rfl⟩
/-! ThirtyThreeBelowModel.isCell -/
noncomputable def f_X12_isCell (a0 : Int32) : Option Int32 := (if a0 < (0 : Int32) then some 0 else (if (a0 / (100 : Int32)) < (32 : Int32) then (b1 (f_X12_in (a0 % (100 : Int32)) (1 : Int32) (60 : Int32)) fun r3 => (if r3 = (0 : Int32) then some 0 else some 1)) else some 0))
set_option maxRecDepth 4000 in
theorem t_X12_isCell {r9 : Int32} {h0 : List aE} {a0 : Int32}  (hf : f_X12_isCell a0 = some r9) : AM mX12_isCell (1) [.int a0] h0 0 0 (PI fun r' h' => r9 = r' ∧ h0 = h' ∧ (r9 = 0 ∨ r9 = 1)) := by
  unfold f_X12_isCell at hf
  refine am_of (lv := [some (.int a0)]) rfl (Nat.le_of_ble_eq_true rfl) rfl ?_
  refine aw_iload_n (pc' := 1) dX12_isCell_0 rfl rfl ?_
  refine aw_zlt (tgt := 30) (pc' := 4) dX12_isCell_1 rfl rfl (fun c1 => ?_) (fun c1 => ?_)
  · replace hf := ifp c1 hf
    refine aw_iconst (v := 0) (pc' := 31) dX12_isCell_30 rfl ic_0 ?_
    obtain rfl := Option.some.inj hf
    exact aw_ri dX12_isCell_31 rfl (by decide) (Nat.le_of_ble_eq_true rfl) (Nat.le_of_ble_eq_true rfl) ⟨rfl, rfl, Or.inl rfl⟩
  · replace hf := ifn c1 hf
    refine aw_iload_n (pc' := 5) dX12_isCell_4 rfl rfl ?_
    refine aw_bipush (v := 100) (pc' := 7) dX12_isCell_5 rfl bp_100 ?_
    refine aw_idiv (pc' := 8) dX12_isCell_7 rfl (by decide) ?_
    refine aw_bipush (v := 32) (pc' := 10) dX12_isCell_8 rfl bp_32 ?_
    refine aw_cge (tgt := 30) (pc' := 13) dX12_isCell_10 rfl rfl (fun c2 => ?_) (fun c2 => ?_)
    · replace hf := ifn c2 hf
      refine aw_iconst (v := 0) (pc' := 31) dX12_isCell_30 rfl ic_0 ?_
      obtain rfl := Option.some.inj hf
      exact aw_ri dX12_isCell_31 rfl (by decide) (Nat.le_of_ble_eq_true rfl) (Nat.le_of_ble_eq_true rfl) ⟨rfl, rfl, Or.inl rfl⟩
    · replace hf := ifp c2 hf
      refine aw_iload_n (pc' := 14) dX12_isCell_13 rfl rfl ?_
      refine aw_bipush (v := 100) (pc' := 16) dX12_isCell_14 rfl bp_100 ?_
      refine aw_irem (pc' := 17) dX12_isCell_16 rfl (by decide) ?_
      refine aw_iconst (v := 1) (pc' := 18) dX12_isCell_17 rfl ic_1 ?_
      refine aw_bipush (v := 60) (pc' := 20) dX12_isCell_18 rfl bp_60 ?_
      obtain ⟨r3, ec3, hf⟩ := b1_e hf
      refine aw_callSi (M' := mX12_in) (nc' := 0) (ns' := 0) (pc' := 23) dX12_isCell_20 rfl ml_RX12_230 kX12_in (t_X12_in ec3) rfl rfl (Nat.le_of_ble_eq_true rfl) (rokD (by omega) (Nat.le_of_ble_eq_true rfl) (Nat.le_of_ble_eq_true rfl) (Nat.le_of_ble_eq_true rfl)) rfl rfl (fun _ h3 q3 => ?_)
      obtain ⟨rfl, rfl, zb3⟩ := q3
      refine aw_if_eq (tgt := 30) (pc' := 26) dX12_isCell_23 rfl rfl (fun c4 => ?_) (fun c4 => ?_)
      · replace hf := ifp c4 hf
        refine aw_iconst (v := 0) (pc' := 31) dX12_isCell_30 rfl ic_0 ?_
        obtain rfl := Option.some.inj hf
        exact aw_ri dX12_isCell_31 rfl (by decide) (Nat.le_of_ble_eq_true rfl) (Nat.le_of_ble_eq_true rfl) ⟨rfl, rfl, Or.inl rfl⟩
      · replace hf := ifn c4 hf
        refine aw_iconst (v := 1) (pc' := 27) dX12_isCell_26 rfl ic_1 ?_
        refine aw_goto (tgt := 31) dX12_isCell_27 rfl ?_
        obtain rfl := Option.some.inj hf
        exact aw_ri dX12_isCell_31 rfl (by decide) (Nat.le_of_ble_eq_true rfl) (Nat.le_of_ble_eq_true rfl) ⟨rfl, rfl, Or.inr rfl⟩
/-! ThirtyThreeBelowModel.placeOf -/
noncomputable def f_X12_placeOf (a0 : Int32) : Option Int32 := some (((61 : Int32) * (a0 / (100 : Int32))) + (a0 % (100 : Int32)))
set_option maxRecDepth 4000 in
theorem t_X12_placeOf {r9 : Int32} {h0 : List aE} {a0 : Int32}  (hf : f_X12_placeOf a0 = some r9) : AM mX12_placeOf (0) [.int a0] h0 0 0 (PI fun r' h' => r9 = r' ∧ h0 = h') := by
  unfold f_X12_placeOf at hf
  refine am_of (lv := [some (.int a0)]) rfl (Nat.le_of_ble_eq_true rfl) rfl ?_
  refine aw_bipush (v := 61) (pc' := 2) dX12_placeOf_0 rfl bp_61 ?_
  refine aw_iload_n (pc' := 3) dX12_placeOf_2 rfl rfl ?_
  refine aw_bipush (v := 100) (pc' := 5) dX12_placeOf_3 rfl bp_100 ?_
  refine aw_idiv (pc' := 6) dX12_placeOf_5 rfl (by decide) ?_
  refine aw_imul (pc' := 7) dX12_placeOf_6 rfl ?_
  refine aw_iload_n (pc' := 8) dX12_placeOf_7 rfl rfl ?_
  refine aw_bipush (v := 100) (pc' := 10) dX12_placeOf_8 rfl bp_100 ?_
  refine aw_irem (pc' := 11) dX12_placeOf_10 rfl (by decide) ?_
  refine aw_iadd (pc' := 12) dX12_placeOf_11 rfl ?_
  obtain rfl := Option.some.inj hf
  exact aw_ri dX12_placeOf_12 rfl rfl (Nat.le_of_ble_eq_true rfl) (Nat.le_of_ble_eq_true rfl) ⟨rfl, rfl⟩
/-! ThirtyThreeBelowModel.hard -/
noncomputable def f_X12_hard (s0 : SS) (a0 : Int32) (a1 : Int32) : Option (Int32 × SS) := (b1 (f_X12_isCell a0) fun r1 => (if r1 = (0 : Int32) then some ((-1), s0) else (b1 (f_X12_in a1 (1 : Int32) (9 : Int32)) fun r3 => (if r3 = (0 : Int32) then some ((-1), s0) else (b1 (f_X12_placeOf a0) fun r5 => (gd (inB r5 1952) (vl (((3 : Int32) + (zI s0 60 (r5.toInt.toNat)))) fun v7 => (b1 (f_X12_placeOf a0) fun r8 => (vl ((a1 - (3 : Int32))) fun v10 => (gd (inB r8 1952) (st (pI s0 60 (r8.toInt.toNat) v10) fun s12 => some (v7, s12))))))))))))
set_option maxRecDepth 4000 in
theorem t_X12_hard {r9 : Int32} {s0 s9 : SS} {h0 : List aE} {a0 : Int32} {a1 : Int32} (H0 : HH s0 h0) (hf : f_X12_hard s0 a0 a1 = some (r9, s9)) : AM mX12_hard (2) [.ref 67, .int a0, .int a1] h0 0 0 (PI fun r' h' => r9 = r' ∧ HH s9 h' ∧ Mo s0 s9) := by
  unfold f_X12_hard at hf
  refine am_of (lv := [some (.ref 67), some (.int a0), some (.int a1), none]) rfl (Nat.le_of_ble_eq_true rfl) rfl ?_
  refine aw_iload_n (pc' := 1) dX12_hard_0 rfl rfl ?_
  obtain ⟨r1, ec1, hf⟩ := b1_e hf
  refine aw_callSi (M' := mX12_isCell) (nc' := 0) (ns' := 0) (pc' := 4) dX12_hard_1 rfl ml_RX12_234 kX12_isCell (t_X12_isCell ec1) rfl rfl (Nat.le_of_ble_eq_true rfl) (rokD (by omega) (Nat.le_of_ble_eq_true rfl) (Nat.le_of_ble_eq_true rfl) (Nat.le_of_ble_eq_true rfl)) rfl rfl (fun _ h1 q1 => ?_)
  obtain ⟨rfl, rfl, zb1⟩ := q1
  refine aw_if_eq (tgt := 17) (pc' := 7) dX12_hard_4 rfl rfl (fun c2 => ?_) (fun c2 => ?_)
  · replace hf := ifp c2 hf
    refine aw_iconst (v := (-1)) (pc' := 18) dX12_hard_17 rfl ic_m1 ?_
    obtain ⟨rfl, rfl⟩ := so2 hf
    exact aw_ri dX12_hard_18 rfl rfl (Nat.le_of_ble_eq_true rfl) (Nat.le_of_ble_eq_true rfl) ⟨rfl, H0, (Mo.rf _)⟩
  · replace hf := ifn c2 hf
    refine aw_iload_n (pc' := 8) dX12_hard_7 rfl rfl ?_
    refine aw_iconst (v := 1) (pc' := 9) dX12_hard_8 rfl ic_1 ?_
    refine aw_bipush (v := 9) (pc' := 11) dX12_hard_9 rfl bp_9 ?_
    obtain ⟨r3, ec3, hf⟩ := b1_e hf
    refine aw_callSi (M' := mX12_in) (nc' := 0) (ns' := 0) (pc' := 14) dX12_hard_11 rfl ml_RX12_230 kX12_in (t_X12_in ec3) rfl rfl (Nat.le_of_ble_eq_true rfl) (rokD (by omega) (Nat.le_of_ble_eq_true rfl) (Nat.le_of_ble_eq_true rfl) (Nat.le_of_ble_eq_true rfl)) rfl rfl (fun _ h3 q3 => ?_)
    obtain ⟨rfl, rfl, zb3⟩ := q3
    refine aw_if_ne (tgt := 19) (pc' := 17) dX12_hard_14 rfl rfl (fun c4 => ?_) (fun c4 => ?_)
    · replace hf := ifn c4 hf
      refine aw_iconst (v := 3) (pc' := 20) dX12_hard_19 rfl ic_3 ?_
      refine aw_aload_n (pc' := 21) dX12_hard_20 rfl rfl rfl ?_
      refine aw_gr (q := 59) (e := 3) (v := .ref 68) (pc' := 24) H0 (H0.fo rfl rfl) (l13 rfl) rfl rfl dX12_hard_21 rfl fl_RX12_7 ?_
      refine aw_iload_n (pc' := 25) dX12_hard_24 rfl rfl ?_
      obtain ⟨r5, ec5, hf⟩ := b1_e hf
      refine aw_callSi (M' := mX12_placeOf) (nc' := 0) (ns' := 0) (pc' := 28) dX12_hard_25 rfl ml_RX12_238 kX12_placeOf (t_X12_placeOf ec5) rfl rfl (Nat.le_of_ble_eq_true rfl) (rokD (by omega) (Nat.le_of_ble_eq_true rfl) (Nat.le_of_ble_eq_true rfl) (Nat.le_of_ble_eq_true rfl)) rfl rfl (fun _ h5 q5 => ?_)
      obtain ⟨rfl, rfl⟩ := q5
      obtain ⟨g6, hf⟩ := gd_e hf
      refine aw_ia (q := 60) (pc' := 29) H0 (H0.fa rfl rfl rfl) g6 dX12_hard_28 rfl ?_
      refine aw_iadd (pc' := 30) dX12_hard_29 rfl ?_
      obtain ⟨v7, ev7, hf⟩ := vl_e hf
      refine aw_topi ev7 ?_
      refine aw_istore_n (lv' := [_, _, _, _]) (pc' := 31) dX12_hard_30 rfl (Nat.le_of_ble_eq_true rfl) rfl ?_
      refine aw_aload_n (pc' := 32) dX12_hard_31 rfl rfl rfl ?_
      refine aw_gr (q := 59) (e := 3) (v := .ref 68) (pc' := 35) H0 (H0.fo rfl rfl) (l13 rfl) rfl rfl dX12_hard_32 rfl fl_RX12_7 ?_
      refine aw_iload_n (pc' := 36) dX12_hard_35 rfl rfl ?_
      obtain ⟨r8, ec8, hf⟩ := b1_e hf
      refine aw_callSi (M' := mX12_placeOf) (nc' := 0) (ns' := 0) (pc' := 39) dX12_hard_36 rfl ml_RX12_238 kX12_placeOf (t_X12_placeOf ec8) rfl rfl (Nat.le_of_ble_eq_true rfl) (rokD (by omega) (Nat.le_of_ble_eq_true rfl) (Nat.le_of_ble_eq_true rfl) (Nat.le_of_ble_eq_true rfl)) rfl rfl (fun _ h8 q8 => ?_)
      obtain ⟨rfl, rfl⟩ := q8
      refine aw_iload_n (pc' := 40) dX12_hard_39 rfl rfl ?_
      refine aw_iconst (v := 3) (pc' := 41) dX12_hard_40 rfl ic_3 ?_
      refine aw_isub (pc' := 42) dX12_hard_41 rfl ?_
      obtain ⟨v10, ev10, hf⟩ := vl_e hf
      refine aw_topi ev10 ?_
      obtain ⟨g11, hf⟩ := gd_e hf
      obtain ⟨s12, es12, hf⟩ := st_e hf
      refine aw_is (q := 60) (pc' := 43) es12 H0 (H0.fa rfl rfl rfl) g11 dX12_hard_42 rfl (fun h12 H12 => ?_)
      have m12 := Mo.ofI es12
      refine aw_iload_n (pc' := 44) dX12_hard_43 rfl rfl ?_
      obtain ⟨rfl, rfl⟩ := so2 hf
      exact aw_ri dX12_hard_44 rfl rfl (Nat.le_of_ble_eq_true rfl) (Nat.le_of_ble_eq_true rfl) ⟨rfl, H12, m12⟩
    · replace hf := ifp c4 hf
      refine aw_iconst (v := (-1)) (pc' := 18) dX12_hard_17 rfl ic_m1 ?_
      obtain ⟨rfl, rfl⟩ := so2 hf
      exact aw_ri dX12_hard_18 rfl rfl (Nat.le_of_ble_eq_true rfl) (Nat.le_of_ble_eq_true rfl) ⟨rfl, H0, (Mo.rf _)⟩
/-! ThirtyThreeBelowModel.open -/
noncomputable def f_X12_open (s0 : SS) (a0 : Int32) (a1 : Int32) : Option (Int32 × SS) := (b1 (f_X12_isCell a0) fun r1 => (if r1 = (0 : Int32) then some ((-1), s0) else (b1 (f_X12_in a1 (0 : Int32) (1 : Int32)) fun r3 => (if r3 = (0 : Int32) then some ((-1), s0) else (b1 (f_X12_placeOf a0) fun r5 => (gd (inB r5 1952) (jn (fun (t7_0 : Int32) => (b1 (f_X12_placeOf a0) fun r8 => (jn (fun (t10_0 : Int32) => (gd (inB r8 1952) (st (pI s0 61 (r8.toInt.toNat) (t10_0 &&& 1)) fun s12 => some (t7_0, s12)))) fun k10 => (if a1 = (1 : Int32) then (k10 1) else (k10 0))))) fun k7 => (if (zI s0 61 (r5.toInt.toNat)) = (0 : Int32) then (k7 0) else (k7 1)))))))))
set_option maxRecDepth 4000 in
theorem t_X12_open {r9 : Int32} {s0 s9 : SS} {h0 : List aE} {a0 : Int32} {a1 : Int32} (H0 : HH s0 h0) (hf : f_X12_open s0 a0 a1 = some (r9, s9)) : AM mX12_open (2) [.ref 67, .int a0, .int a1] h0 0 0 (PI fun r' h' => r9 = r' ∧ HH s9 h' ∧ Mo s0 s9) := by
  unfold f_X12_open at hf
  refine am_of (lv := [some (.ref 67), some (.int a0), some (.int a1), none]) rfl (Nat.le_of_ble_eq_true rfl) rfl ?_
  refine aw_iload_n (pc' := 1) dX12_open_0 rfl rfl ?_
  obtain ⟨r1, ec1, hf⟩ := b1_e hf
  refine aw_callSi (M' := mX12_isCell) (nc' := 0) (ns' := 0) (pc' := 4) dX12_open_1 rfl ml_RX12_234 kX12_isCell (t_X12_isCell ec1) rfl rfl (Nat.le_of_ble_eq_true rfl) (rokD (by omega) (Nat.le_of_ble_eq_true rfl) (Nat.le_of_ble_eq_true rfl) (Nat.le_of_ble_eq_true rfl)) rfl rfl (fun _ h1 q1 => ?_)
  obtain ⟨rfl, rfl, zb1⟩ := q1
  refine aw_if_eq (tgt := 16) (pc' := 7) dX12_open_4 rfl rfl (fun c2 => ?_) (fun c2 => ?_)
  · replace hf := ifp c2 hf
    refine aw_iconst (v := (-1)) (pc' := 17) dX12_open_16 rfl ic_m1 ?_
    obtain ⟨rfl, rfl⟩ := so2 hf
    exact aw_ri dX12_open_17 rfl rfl (Nat.le_of_ble_eq_true rfl) (Nat.le_of_ble_eq_true rfl) ⟨rfl, H0, (Mo.rf _)⟩
  · replace hf := ifn c2 hf
    refine aw_iload_n (pc' := 8) dX12_open_7 rfl rfl ?_
    refine aw_iconst (v := 0) (pc' := 9) dX12_open_8 rfl ic_0 ?_
    refine aw_iconst (v := 1) (pc' := 10) dX12_open_9 rfl ic_1 ?_
    obtain ⟨r3, ec3, hf⟩ := b1_e hf
    refine aw_callSi (M' := mX12_in) (nc' := 0) (ns' := 0) (pc' := 13) dX12_open_10 rfl ml_RX12_230 kX12_in (t_X12_in ec3) rfl rfl (Nat.le_of_ble_eq_true rfl) (rokD (by omega) (Nat.le_of_ble_eq_true rfl) (Nat.le_of_ble_eq_true rfl) (Nat.le_of_ble_eq_true rfl)) rfl rfl (fun _ h3 q3 => ?_)
    obtain ⟨rfl, rfl, zb3⟩ := q3
    refine aw_if_ne (tgt := 18) (pc' := 16) dX12_open_13 rfl rfl (fun c4 => ?_) (fun c4 => ?_)
    · replace hf := ifn c4 hf
      refine aw_aload_n (pc' := 19) dX12_open_18 rfl rfl rfl ?_
      refine aw_gr (q := 59) (e := 5) (v := .ref 69) (pc' := 22) H0 (H0.fo rfl rfl) (l13 rfl) rfl rfl dX12_open_19 rfl fl_RX12_13 ?_
      refine aw_iload_n (pc' := 23) dX12_open_22 rfl rfl ?_
      obtain ⟨r5, ec5, hf⟩ := b1_e hf
      refine aw_callSi (M' := mX12_placeOf) (nc' := 0) (ns' := 0) (pc' := 26) dX12_open_23 rfl ml_RX12_238 kX12_placeOf (t_X12_placeOf ec5) rfl rfl (Nat.le_of_ble_eq_true rfl) (rokD (by omega) (Nat.le_of_ble_eq_true rfl) (Nat.le_of_ble_eq_true rfl) (Nat.le_of_ble_eq_true rfl)) rfl rfl (fun _ h5 q5 => ?_)
      obtain ⟨rfl, rfl⟩ := q5
      obtain ⟨g6, hf⟩ := gd_e hf
      refine aw_za (q := 61) (pc' := 27) H0 (H0.fa rfl rfl rfl) g6 dX12_open_26 rfl ?_
      obtain ⟨k7, ek7, hf⟩ := jn_e hf
      have hk7 : ∀ (t7_0 : Int32), k7 t7_0 = some (r9, s9) → AW mX12_open (rmD (2) 0 0) (fin (PI fun r' h' => r9 = r' ∧ HH s9 h' ∧ Mo s0 s9) 0 0) 35 [some (.ref 67), some (.int a0), some (.int a1), none] [.int t7_0] h0 0 0 := by
        intro t7_0 hf
        subst ek7
        refine aw_istore_n (lv' := [_, _, _, _]) (pc' := 36) dX12_open_35 rfl (Nat.le_of_ble_eq_true rfl) rfl ?_
        refine aw_aload_n (pc' := 37) dX12_open_36 rfl rfl rfl ?_
        refine aw_gr (q := 59) (e := 5) (v := .ref 69) (pc' := 40) H0 (H0.fo rfl rfl) (l13 rfl) rfl rfl dX12_open_37 rfl fl_RX12_13 ?_
        refine aw_iload_n (pc' := 41) dX12_open_40 rfl rfl ?_
        obtain ⟨r8, ec8, hf⟩ := b1_e hf
        refine aw_callSi (M' := mX12_placeOf) (nc' := 0) (ns' := 0) (pc' := 44) dX12_open_41 rfl ml_RX12_238 kX12_placeOf (t_X12_placeOf ec8) rfl rfl (Nat.le_of_ble_eq_true rfl) (rokD (by omega) (Nat.le_of_ble_eq_true rfl) (Nat.le_of_ble_eq_true rfl) (Nat.le_of_ble_eq_true rfl)) rfl rfl (fun _ h8 q8 => ?_)
        obtain ⟨rfl, rfl⟩ := q8
        refine aw_iload_n (pc' := 45) dX12_open_44 rfl rfl ?_
        refine aw_iconst (v := 1) (pc' := 46) dX12_open_45 rfl ic_1 ?_
        obtain ⟨k10, ek10, hf⟩ := jn_e hf
        have hk10 : ∀ (t10_0 : Int32), k10 t10_0 = some (r9, s9) → AW mX12_open (rmD (2) 0 0) (fin (PI fun r' h' => r9 = r' ∧ HH s9 h' ∧ Mo s0 s9) 0 0) 54 [none, none, none, some (.int t7_0)] [.int t10_0, .int r8, .ref 69] h0 0 0 := by
          intro t10_0 hf
          subst ek10
          obtain ⟨g11, hf⟩ := gd_e hf
          obtain ⟨s12, es12, hf⟩ := st_e hf
          refine aw_zs (q := 61) (pc' := 55) es12 H0 (H0.fa rfl rfl rfl) g11 dX12_open_54 rfl (fun h12 H12 => ?_)
          have m12 := Mo.ofI es12
          refine aw_iload_n (pc' := 56) dX12_open_55 rfl rfl ?_
          obtain ⟨rfl, rfl⟩ := so2 hf
          exact aw_ri dX12_open_56 rfl rfl (Nat.le_of_ble_eq_true rfl) (Nat.le_of_ble_eq_true rfl) ⟨rfl, H12, m12⟩
        clear ek10
        refine aw_icmp_ne (tgt := 53) (pc' := 49) dX12_open_46 rfl rfl (fun c13 => ?_) (fun c13 => ?_)
        · replace hf := ifn c13 hf
          refine aw_iconst (v := 0) (pc' := 54) dX12_open_53 rfl ic_0 ?_
          refine AW.lv_le (lz_d (lz_d (lz_d (lz_k lz_0)))) ?_
          exact hk10 _ hf
        · replace hf := ifp c13 hf
          refine aw_iconst (v := 1) (pc' := 50) dX12_open_49 rfl ic_1 ?_
          refine aw_goto (tgt := 54) dX12_open_50 rfl ?_
          refine AW.lv_le (lz_d (lz_d (lz_d (lz_k lz_0)))) ?_
          exact hk10 _ hf
      clear ek7
      refine aw_if_eq (tgt := 34) (pc' := 30) dX12_open_27 rfl rfl (fun c14 => ?_) (fun c14 => ?_)
      · replace hf := ifp c14 hf
        refine aw_iconst (v := 0) (pc' := 35) dX12_open_34 rfl ic_0 ?_
        exact hk7 _ hf
      · replace hf := ifn c14 hf
        refine aw_iconst (v := 1) (pc' := 31) dX12_open_30 rfl ic_1 ?_
        refine aw_goto (tgt := 35) dX12_open_31 rfl ?_
        exact hk7 _ hf
    · replace hf := ifp c4 hf
      refine aw_iconst (v := (-1)) (pc' := 17) dX12_open_16 rfl ic_m1 ?_
      obtain ⟨rfl, rfl⟩ := so2 hf
      exact aw_ri dX12_open_17 rfl rfl (Nat.le_of_ble_eq_true rfl) (Nat.le_of_ble_eq_true rfl) ⟨rfl, H0, (Mo.rf _)⟩
/-! ThirtyThreeBelowModel.ofCell -/
noncomputable def f_X12_ofCell (s0 : SS) (a0 : Int32) (a1 : Int32) : Option Int32 := (b1 (f_X12_isCell a0) fun r1 => (if r1 = (0 : Int32) then some (-1) else (b1 (f_X12_in a1 (0 : Int32) (1 : Int32)) fun r3 => (if r3 = (0 : Int32) then some (-1) else (if a1 = (0 : Int32) then (b1 (f_X12_placeOf a0) fun r10 => (gd (inB r10 1952) (some ((3 : Int32) + (zI s0 60 (r10.toInt.toNat)))))) else (b1 (f_X12_placeOf a0) fun r6 => (gd (inB r6 1952) (if (zI s0 61 (r6.toInt.toNat)) = (0 : Int32) then some 0 else some 1))))))))
set_option maxRecDepth 4000 in
theorem t_X12_ofCell {r9 : Int32} {s0 : SS} {h0 : List aE} {a0 : Int32} {a1 : Int32} (H0 : HH s0 h0) (hf : f_X12_ofCell s0 a0 a1 = some r9) : AM mX12_ofCell (2) [.ref 67, .int a0, .int a1] h0 0 0 (PI fun r' h' => r9 = r' ∧ h0 = h') := by
  unfold f_X12_ofCell at hf
  refine am_of (lv := [some (.ref 67), some (.int a0), some (.int a1)]) rfl (Nat.le_of_ble_eq_true rfl) rfl ?_
  refine aw_iload_n (pc' := 1) dX12_ofCell_0 rfl rfl ?_
  obtain ⟨r1, ec1, hf⟩ := b1_e hf
  refine aw_callSi (M' := mX12_isCell) (nc' := 0) (ns' := 0) (pc' := 4) dX12_ofCell_1 rfl ml_RX12_234 kX12_isCell (t_X12_isCell ec1) rfl rfl (Nat.le_of_ble_eq_true rfl) (rokD (by omega) (Nat.le_of_ble_eq_true rfl) (Nat.le_of_ble_eq_true rfl) (Nat.le_of_ble_eq_true rfl)) rfl rfl (fun _ h1 q1 => ?_)
  obtain ⟨rfl, rfl, zb1⟩ := q1
  refine aw_if_eq (tgt := 16) (pc' := 7) dX12_ofCell_4 rfl rfl (fun c2 => ?_) (fun c2 => ?_)
  · replace hf := ifp c2 hf
    refine aw_iconst (v := (-1)) (pc' := 17) dX12_ofCell_16 rfl ic_m1 ?_
    refine aw_goto (tgt := 55) dX12_ofCell_17 rfl ?_
    obtain rfl := Option.some.inj hf
    exact aw_ri dX12_ofCell_55 rfl rfl (Nat.le_of_ble_eq_true rfl) (Nat.le_of_ble_eq_true rfl) ⟨rfl, rfl⟩
  · replace hf := ifn c2 hf
    refine aw_iload_n (pc' := 8) dX12_ofCell_7 rfl rfl ?_
    refine aw_iconst (v := 0) (pc' := 9) dX12_ofCell_8 rfl ic_0 ?_
    refine aw_iconst (v := 1) (pc' := 10) dX12_ofCell_9 rfl ic_1 ?_
    obtain ⟨r3, ec3, hf⟩ := b1_e hf
    refine aw_callSi (M' := mX12_in) (nc' := 0) (ns' := 0) (pc' := 13) dX12_ofCell_10 rfl ml_RX12_230 kX12_in (t_X12_in ec3) rfl rfl (Nat.le_of_ble_eq_true rfl) (rokD (by omega) (Nat.le_of_ble_eq_true rfl) (Nat.le_of_ble_eq_true rfl) (Nat.le_of_ble_eq_true rfl)) rfl rfl (fun _ h3 q3 => ?_)
    obtain ⟨rfl, rfl, zb3⟩ := q3
    refine aw_if_ne (tgt := 20) (pc' := 16) dX12_ofCell_13 rfl rfl (fun c4 => ?_) (fun c4 => ?_)
    · replace hf := ifn c4 hf
      refine aw_iload_n (pc' := 21) dX12_ofCell_20 rfl rfl ?_
      refine aw_if_ne (tgt := 38) (pc' := 24) dX12_ofCell_21 rfl rfl (fun c5 => ?_) (fun c5 => ?_)
      · replace hf := ifn c5 hf
        refine aw_aload_n (pc' := 39) dX12_ofCell_38 rfl rfl rfl ?_
        refine aw_gr (q := 59) (e := 5) (v := .ref 69) (pc' := 42) H0 (H0.fo rfl rfl) (l13 rfl) rfl rfl dX12_ofCell_39 rfl fl_RX12_13 ?_
        refine aw_iload_n (pc' := 43) dX12_ofCell_42 rfl rfl ?_
        obtain ⟨r6, ec6, hf⟩ := b1_e hf
        refine aw_callSi (M' := mX12_placeOf) (nc' := 0) (ns' := 0) (pc' := 46) dX12_ofCell_43 rfl ml_RX12_238 kX12_placeOf (t_X12_placeOf ec6) rfl rfl (Nat.le_of_ble_eq_true rfl) (rokD (by omega) (Nat.le_of_ble_eq_true rfl) (Nat.le_of_ble_eq_true rfl) (Nat.le_of_ble_eq_true rfl)) rfl rfl (fun _ h6 q6 => ?_)
        obtain ⟨rfl, rfl⟩ := q6
        obtain ⟨g7, hf⟩ := gd_e hf
        refine aw_za (q := 61) (pc' := 47) H0 (H0.fa rfl rfl rfl) g7 dX12_ofCell_46 rfl ?_
        refine aw_if_eq (tgt := 54) (pc' := 50) dX12_ofCell_47 rfl rfl (fun c8 => ?_) (fun c8 => ?_)
        · replace hf := ifp c8 hf
          refine aw_iconst (v := 0) (pc' := 55) dX12_ofCell_54 rfl ic_0 ?_
          obtain rfl := Option.some.inj hf
          exact aw_ri dX12_ofCell_55 rfl rfl (Nat.le_of_ble_eq_true rfl) (Nat.le_of_ble_eq_true rfl) ⟨rfl, rfl⟩
        · replace hf := ifn c8 hf
          refine aw_iconst (v := 1) (pc' := 51) dX12_ofCell_50 rfl ic_1 ?_
          refine aw_goto (tgt := 55) dX12_ofCell_51 rfl ?_
          obtain rfl := Option.some.inj hf
          exact aw_ri dX12_ofCell_55 rfl rfl (Nat.le_of_ble_eq_true rfl) (Nat.le_of_ble_eq_true rfl) ⟨rfl, rfl⟩
      · replace hf := ifp c5 hf
        refine aw_iconst (v := 3) (pc' := 25) dX12_ofCell_24 rfl ic_3 ?_
        refine aw_aload_n (pc' := 26) dX12_ofCell_25 rfl rfl rfl ?_
        refine aw_gr (q := 59) (e := 3) (v := .ref 68) (pc' := 29) H0 (H0.fo rfl rfl) (l13 rfl) rfl rfl dX12_ofCell_26 rfl fl_RX12_7 ?_
        refine aw_iload_n (pc' := 30) dX12_ofCell_29 rfl rfl ?_
        obtain ⟨r10, ec10, hf⟩ := b1_e hf
        refine aw_callSi (M' := mX12_placeOf) (nc' := 0) (ns' := 0) (pc' := 33) dX12_ofCell_30 rfl ml_RX12_238 kX12_placeOf (t_X12_placeOf ec10) rfl rfl (Nat.le_of_ble_eq_true rfl) (rokD (by omega) (Nat.le_of_ble_eq_true rfl) (Nat.le_of_ble_eq_true rfl) (Nat.le_of_ble_eq_true rfl)) rfl rfl (fun _ h10 q10 => ?_)
        obtain ⟨rfl, rfl⟩ := q10
        obtain ⟨g11, hf⟩ := gd_e hf
        refine aw_ia (q := 60) (pc' := 34) H0 (H0.fa rfl rfl rfl) g11 dX12_ofCell_33 rfl ?_
        refine aw_iadd (pc' := 35) dX12_ofCell_34 rfl ?_
        refine aw_goto (tgt := 55) dX12_ofCell_35 rfl ?_
        obtain rfl := Option.some.inj hf
        exact aw_ri dX12_ofCell_55 rfl rfl (Nat.le_of_ble_eq_true rfl) (Nat.le_of_ble_eq_true rfl) ⟨rfl, rfl⟩
    · replace hf := ifp c4 hf
      refine aw_iconst (v := (-1)) (pc' := 17) dX12_ofCell_16 rfl ic_m1 ?_
      refine aw_goto (tgt := 55) dX12_ofCell_17 rfl ?_
      obtain rfl := Option.some.inj hf
      exact aw_ri dX12_ofCell_55 rfl rfl (Nat.le_of_ble_eq_true rfl) (Nat.le_of_ble_eq_true rfl) ⟨rfl, rfl⟩
/-! ThirtyThreeBelowModel.isBody -/
noncomputable def f_X12_isBody (s0 : SS) (a0 : Int32) : Option Int32 := (b1 (f_X12_in a0 (0 : Int32) ((zS s0 59 4) - (1 : Int32))) fun r1 => some r1)
set_option maxRecDepth 4000 in
theorem t_X12_isBody {r9 : Int32} {s0 : SS} {h0 : List aE} {a0 : Int32} (H0 : HH s0 h0) (hf : f_X12_isBody s0 a0 = some r9) : AM mX12_isBody (1) [.ref 67, .int a0] h0 0 0 (PI fun r' h' => r9 = r' ∧ h0 = h' ∧ (r9 = 0 ∨ r9 = 1)) := by
  unfold f_X12_isBody at hf
  refine am_of (lv := [some (.ref 67), some (.int a0)]) rfl (Nat.le_of_ble_eq_true rfl) rfl ?_
  refine aw_iload_n (pc' := 1) dX12_isBody_0 rfl rfl ?_
  refine aw_iconst (v := 0) (pc' := 2) dX12_isBody_1 rfl ic_0 ?_
  refine aw_aload_n (pc' := 3) dX12_isBody_2 rfl rfl rfl ?_
  refine aw_gi (q := 59) (pc' := 6) H0 (H0.fo rfl rfl) (l13 rfl) rfl dX12_isBody_3 rfl fl_RX12_242 ?_
  refine aw_iconst (v := 1) (pc' := 7) dX12_isBody_6 rfl ic_1 ?_
  refine aw_isub (pc' := 8) dX12_isBody_7 rfl ?_
  obtain ⟨r1, ec1, hf⟩ := b1_e hf
  refine aw_callSi (M' := mX12_in) (nc' := 0) (ns' := 0) (pc' := 11) dX12_isBody_8 rfl ml_RX12_230 kX12_in (t_X12_in ec1) rfl rfl (Nat.le_of_ble_eq_true rfl) (rokD (by omega) (Nat.le_of_ble_eq_true rfl) (Nat.le_of_ble_eq_true rfl) (Nat.le_of_ble_eq_true rfl)) rfl rfl (fun _ h1 q1 => ?_)
  obtain ⟨rfl, rfl, zb1⟩ := q1
  obtain rfl := Option.some.inj hf
  exact aw_ri dX12_isBody_11 rfl (nz zb1) (Nat.le_of_ble_eq_true rfl) (Nat.le_of_ble_eq_true rfl) ⟨rfl, rfl, zb1⟩
/-! ThirtyThreeBelowModel.isUnder -/
noncomputable def f_X12_isUnder (a0 : Int32) (a1 : Int32) : Option Int32 := (if a1 = (0 : Int32) then some 1 else (if a0 = a1 then some 1 else (if a1 = (1 : Int32) then (if a0 = (2 : Int32) then some 1 else (if a0 = (3 : Int32) then some 1 else (if a0 = (4 : Int32) then some 1 else (if a0 = (5 : Int32) then some 1 else (if a0 = (6 : Int32) then some 1 else some 0))))) else (if a1 = (2 : Int32) then (if a0 = (3 : Int32) then some 1 else (if a0 = (4 : Int32) then some 1 else (if a0 = (5 : Int32) then some 1 else some 0))) else (if a1 = (4 : Int32) then (if a0 = (5 : Int32) then some 1 else some 0) else some 0)))))
set_option maxRecDepth 4000 in
theorem t_X12_isUnder {r9 : Int32} {h0 : List aE} {a0 : Int32} {a1 : Int32}  (hf : f_X12_isUnder a0 a1 = some r9) : AM mX12_isUnder (0) [.int a0, .int a1] h0 0 0 (PI fun r' h' => r9 = r' ∧ h0 = h' ∧ (r9 = 0 ∨ r9 = 1)) := by
  unfold f_X12_isUnder at hf
  refine am_of (lv := [some (.int a0), some (.int a1)]) rfl (Nat.le_of_ble_eq_true rfl) rfl ?_
  refine aw_iload_n (pc' := 1) dX12_isUnder_0 rfl rfl ?_
  refine aw_if_eq (tgt := 9) (pc' := 4) dX12_isUnder_1 rfl rfl (fun c1 => ?_) (fun c1 => ?_)
  · replace hf := ifp c1 hf
    refine aw_iconst (v := 1) (pc' := 10) dX12_isUnder_9 rfl ic_1 ?_
    obtain rfl := Option.some.inj hf
    exact aw_ri dX12_isUnder_10 rfl (by decide) (Nat.le_of_ble_eq_true rfl) (Nat.le_of_ble_eq_true rfl) ⟨rfl, rfl, Or.inr rfl⟩
  · replace hf := ifn c1 hf
    refine aw_iload_n (pc' := 5) dX12_isUnder_4 rfl rfl ?_
    refine aw_iload_n (pc' := 6) dX12_isUnder_5 rfl rfl ?_
    refine aw_icmp_ne (tgt := 11) (pc' := 9) dX12_isUnder_6 rfl rfl (fun c2 => ?_) (fun c2 => ?_)
    · replace hf := ifn c2 hf
      refine aw_iload_n (pc' := 12) dX12_isUnder_11 rfl rfl ?_
      refine aw_iconst (v := 1) (pc' := 13) dX12_isUnder_12 rfl ic_1 ?_
      refine aw_icmp_ne (tgt := 48) (pc' := 16) dX12_isUnder_13 rfl rfl (fun c3 => ?_) (fun c3 => ?_)
      · replace hf := ifn c3 hf
        refine aw_iload_n (pc' := 49) dX12_isUnder_48 rfl rfl ?_
        refine aw_iconst (v := 2) (pc' := 50) dX12_isUnder_49 rfl ic_2 ?_
        refine aw_icmp_ne (tgt := 74) (pc' := 53) dX12_isUnder_50 rfl rfl (fun c4 => ?_) (fun c4 => ?_)
        · replace hf := ifn c4 hf
          refine aw_iload_n (pc' := 75) dX12_isUnder_74 rfl rfl ?_
          refine aw_iconst (v := 4) (pc' := 76) dX12_isUnder_75 rfl ic_4 ?_
          refine aw_icmp_ne (tgt := 88) (pc' := 79) dX12_isUnder_76 rfl rfl (fun c5 => ?_) (fun c5 => ?_)
          · replace hf := ifn c5 hf
            refine aw_iconst (v := 0) (pc' := 89) dX12_isUnder_88 rfl ic_0 ?_
            obtain rfl := Option.some.inj hf
            exact aw_ri dX12_isUnder_89 rfl (by decide) (Nat.le_of_ble_eq_true rfl) (Nat.le_of_ble_eq_true rfl) ⟨rfl, rfl, Or.inl rfl⟩
          · replace hf := ifp c5 hf
            refine aw_iload_n (pc' := 80) dX12_isUnder_79 rfl rfl ?_
            refine aw_iconst (v := 5) (pc' := 81) dX12_isUnder_80 rfl ic_5 ?_
            refine aw_icmp_ne (tgt := 88) (pc' := 84) dX12_isUnder_81 rfl rfl (fun c6 => ?_) (fun c6 => ?_)
            · replace hf := ifn c6 hf
              refine aw_iconst (v := 0) (pc' := 89) dX12_isUnder_88 rfl ic_0 ?_
              obtain rfl := Option.some.inj hf
              exact aw_ri dX12_isUnder_89 rfl (by decide) (Nat.le_of_ble_eq_true rfl) (Nat.le_of_ble_eq_true rfl) ⟨rfl, rfl, Or.inl rfl⟩
            · replace hf := ifp c6 hf
              refine aw_iconst (v := 1) (pc' := 85) dX12_isUnder_84 rfl ic_1 ?_
              refine aw_goto (tgt := 89) dX12_isUnder_85 rfl ?_
              obtain rfl := Option.some.inj hf
              exact aw_ri dX12_isUnder_89 rfl (by decide) (Nat.le_of_ble_eq_true rfl) (Nat.le_of_ble_eq_true rfl) ⟨rfl, rfl, Or.inr rfl⟩
        · replace hf := ifp c4 hf
          refine aw_iload_n (pc' := 54) dX12_isUnder_53 rfl rfl ?_
          refine aw_iconst (v := 3) (pc' := 55) dX12_isUnder_54 rfl ic_3 ?_
          refine aw_icmp_eq (tgt := 68) (pc' := 58) dX12_isUnder_55 rfl rfl (fun c7 => ?_) (fun c7 => ?_)
          · replace hf := ifp c7 hf
            refine aw_iconst (v := 1) (pc' := 69) dX12_isUnder_68 rfl ic_1 ?_
            refine aw_goto (tgt := 73) dX12_isUnder_69 rfl ?_
            obtain rfl := Option.some.inj hf
            exact aw_ri dX12_isUnder_73 rfl (by decide) (Nat.le_of_ble_eq_true rfl) (Nat.le_of_ble_eq_true rfl) ⟨rfl, rfl, Or.inr rfl⟩
          · replace hf := ifn c7 hf
            refine aw_iload_n (pc' := 59) dX12_isUnder_58 rfl rfl ?_
            refine aw_iconst (v := 4) (pc' := 60) dX12_isUnder_59 rfl ic_4 ?_
            refine aw_icmp_eq (tgt := 68) (pc' := 63) dX12_isUnder_60 rfl rfl (fun c8 => ?_) (fun c8 => ?_)
            · replace hf := ifp c8 hf
              refine aw_iconst (v := 1) (pc' := 69) dX12_isUnder_68 rfl ic_1 ?_
              refine aw_goto (tgt := 73) dX12_isUnder_69 rfl ?_
              obtain rfl := Option.some.inj hf
              exact aw_ri dX12_isUnder_73 rfl (by decide) (Nat.le_of_ble_eq_true rfl) (Nat.le_of_ble_eq_true rfl) ⟨rfl, rfl, Or.inr rfl⟩
            · replace hf := ifn c8 hf
              refine aw_iload_n (pc' := 64) dX12_isUnder_63 rfl rfl ?_
              refine aw_iconst (v := 5) (pc' := 65) dX12_isUnder_64 rfl ic_5 ?_
              refine aw_icmp_ne (tgt := 72) (pc' := 68) dX12_isUnder_65 rfl rfl (fun c10 => ?_) (fun c10 => ?_)
              · replace hf := ifn c10 hf
                refine aw_iconst (v := 0) (pc' := 73) dX12_isUnder_72 rfl ic_0 ?_
                obtain rfl := Option.some.inj hf
                exact aw_ri dX12_isUnder_73 rfl (by decide) (Nat.le_of_ble_eq_true rfl) (Nat.le_of_ble_eq_true rfl) ⟨rfl, rfl, Or.inl rfl⟩
              · replace hf := ifp c10 hf
                refine aw_iconst (v := 1) (pc' := 69) dX12_isUnder_68 rfl ic_1 ?_
                refine aw_goto (tgt := 73) dX12_isUnder_69 rfl ?_
                obtain rfl := Option.some.inj hf
                exact aw_ri dX12_isUnder_73 rfl (by decide) (Nat.le_of_ble_eq_true rfl) (Nat.le_of_ble_eq_true rfl) ⟨rfl, rfl, Or.inr rfl⟩
      · replace hf := ifp c3 hf
        refine aw_iload_n (pc' := 17) dX12_isUnder_16 rfl rfl ?_
        refine aw_iconst (v := 2) (pc' := 18) dX12_isUnder_17 rfl ic_2 ?_
        refine aw_icmp_eq (tgt := 42) (pc' := 21) dX12_isUnder_18 rfl rfl (fun c11 => ?_) (fun c11 => ?_)
        · replace hf := ifp c11 hf
          refine aw_iconst (v := 1) (pc' := 43) dX12_isUnder_42 rfl ic_1 ?_
          refine aw_goto (tgt := 47) dX12_isUnder_43 rfl ?_
          obtain rfl := Option.some.inj hf
          exact aw_ri dX12_isUnder_47 rfl (by decide) (Nat.le_of_ble_eq_true rfl) (Nat.le_of_ble_eq_true rfl) ⟨rfl, rfl, Or.inr rfl⟩
        · replace hf := ifn c11 hf
          refine aw_iload_n (pc' := 22) dX12_isUnder_21 rfl rfl ?_
          refine aw_iconst (v := 3) (pc' := 23) dX12_isUnder_22 rfl ic_3 ?_
          refine aw_icmp_eq (tgt := 42) (pc' := 26) dX12_isUnder_23 rfl rfl (fun c12 => ?_) (fun c12 => ?_)
          · replace hf := ifp c12 hf
            refine aw_iconst (v := 1) (pc' := 43) dX12_isUnder_42 rfl ic_1 ?_
            refine aw_goto (tgt := 47) dX12_isUnder_43 rfl ?_
            obtain rfl := Option.some.inj hf
            exact aw_ri dX12_isUnder_47 rfl (by decide) (Nat.le_of_ble_eq_true rfl) (Nat.le_of_ble_eq_true rfl) ⟨rfl, rfl, Or.inr rfl⟩
          · replace hf := ifn c12 hf
            refine aw_iload_n (pc' := 27) dX12_isUnder_26 rfl rfl ?_
            refine aw_iconst (v := 4) (pc' := 28) dX12_isUnder_27 rfl ic_4 ?_
            refine aw_icmp_eq (tgt := 42) (pc' := 31) dX12_isUnder_28 rfl rfl (fun c13 => ?_) (fun c13 => ?_)
            · replace hf := ifp c13 hf
              refine aw_iconst (v := 1) (pc' := 43) dX12_isUnder_42 rfl ic_1 ?_
              refine aw_goto (tgt := 47) dX12_isUnder_43 rfl ?_
              obtain rfl := Option.some.inj hf
              exact aw_ri dX12_isUnder_47 rfl (by decide) (Nat.le_of_ble_eq_true rfl) (Nat.le_of_ble_eq_true rfl) ⟨rfl, rfl, Or.inr rfl⟩
            · replace hf := ifn c13 hf
              refine aw_iload_n (pc' := 32) dX12_isUnder_31 rfl rfl ?_
              refine aw_iconst (v := 5) (pc' := 33) dX12_isUnder_32 rfl ic_5 ?_
              refine aw_icmp_eq (tgt := 42) (pc' := 36) dX12_isUnder_33 rfl rfl (fun c14 => ?_) (fun c14 => ?_)
              · replace hf := ifp c14 hf
                refine aw_iconst (v := 1) (pc' := 43) dX12_isUnder_42 rfl ic_1 ?_
                refine aw_goto (tgt := 47) dX12_isUnder_43 rfl ?_
                obtain rfl := Option.some.inj hf
                exact aw_ri dX12_isUnder_47 rfl (by decide) (Nat.le_of_ble_eq_true rfl) (Nat.le_of_ble_eq_true rfl) ⟨rfl, rfl, Or.inr rfl⟩
              · replace hf := ifn c14 hf
                refine aw_iload_n (pc' := 37) dX12_isUnder_36 rfl rfl ?_
                refine aw_bipush (v := 6) (pc' := 39) dX12_isUnder_37 rfl bp_6 ?_
                refine aw_icmp_ne (tgt := 46) (pc' := 42) dX12_isUnder_39 rfl rfl (fun c15 => ?_) (fun c15 => ?_)
                · replace hf := ifn c15 hf
                  refine aw_iconst (v := 0) (pc' := 47) dX12_isUnder_46 rfl ic_0 ?_
                  obtain rfl := Option.some.inj hf
                  exact aw_ri dX12_isUnder_47 rfl (by decide) (Nat.le_of_ble_eq_true rfl) (Nat.le_of_ble_eq_true rfl) ⟨rfl, rfl, Or.inl rfl⟩
                · replace hf := ifp c15 hf
                  refine aw_iconst (v := 1) (pc' := 43) dX12_isUnder_42 rfl ic_1 ?_
                  refine aw_goto (tgt := 47) dX12_isUnder_43 rfl ?_
                  obtain rfl := Option.some.inj hf
                  exact aw_ri dX12_isUnder_47 rfl (by decide) (Nat.le_of_ble_eq_true rfl) (Nat.le_of_ble_eq_true rfl) ⟨rfl, rfl, Or.inr rfl⟩
    · replace hf := ifp c2 hf
      refine aw_iconst (v := 1) (pc' := 10) dX12_isUnder_9 rfl ic_1 ?_
      obtain rfl := Option.some.inj hf
      exact aw_ri dX12_isUnder_10 rfl (by decide) (Nat.le_of_ble_eq_true rfl) (Nat.le_of_ble_eq_true rfl) ⟨rfl, rfl, Or.inr rfl⟩
/-! ThirtyThreeBelowModel.isHole -/
noncomputable def f_X12_isHole (s0 : SS) (a0 : Int32) : Option Int32 := (b1 (f_X12_isBody s0 a0) fun r1 => (if r1 = (0 : Int32) then some 0 else (gd (inB a0 120) (b1 (f_X12_isUnder (zI s0 62 (a0.toInt.toNat)) (2 : Int32)) fun r4 => (if r4 = (0 : Int32) then some 0 else some 1)))))
set_option maxRecDepth 4000 in
theorem t_X12_isHole {r9 : Int32} {s0 : SS} {h0 : List aE} {a0 : Int32} (H0 : HH s0 h0) (hf : f_X12_isHole s0 a0 = some r9) : AM mX12_isHole (2) [.ref 67, .int a0] h0 0 0 (PI fun r' h' => r9 = r' ∧ h0 = h' ∧ (r9 = 0 ∨ r9 = 1)) := by
  unfold f_X12_isHole at hf
  refine am_of (lv := [some (.ref 67), some (.int a0)]) rfl (Nat.le_of_ble_eq_true rfl) rfl ?_
  refine aw_aload_n (pc' := 1) dX12_isHole_0 rfl rfl rfl ?_
  refine aw_iload_n (pc' := 2) dX12_isHole_1 rfl rfl ?_
  obtain ⟨r1, ec1, hf⟩ := b1_e hf
  refine aw_callVi (M' := mX12_isBody) (nc' := 0) (ns' := 0) (pc' := 5) dX12_isHole_2 rfl ml_RX12_245 kX12_isBody (t_X12_isBody H0 ec1) (H0.ob (H0.fo rfl rfl) (by decide)) rfl rfl rfl (Nat.le_of_ble_eq_true rfl) (rokD (by omega) (Nat.le_of_ble_eq_true rfl) (Nat.le_of_ble_eq_true rfl) (Nat.le_of_ble_eq_true rfl)) rfl rfl (fun _ h1 q1 => ?_)
  obtain ⟨rfl, rfl, zb1⟩ := q1
  refine aw_if_eq (tgt := 25) (pc' := 8) dX12_isHole_5 rfl rfl (fun c2 => ?_) (fun c2 => ?_)
  · replace hf := ifp c2 hf
    refine aw_iconst (v := 0) (pc' := 26) dX12_isHole_25 rfl ic_0 ?_
    obtain rfl := Option.some.inj hf
    exact aw_ri dX12_isHole_26 rfl (by decide) (Nat.le_of_ble_eq_true rfl) (Nat.le_of_ble_eq_true rfl) ⟨rfl, rfl, Or.inl rfl⟩
  · replace hf := ifn c2 hf
    refine aw_aload_n (pc' := 9) dX12_isHole_8 rfl rfl rfl ?_
    refine aw_gr (q := 59) (e := 7) (v := .ref 70) (pc' := 12) H0 (H0.fo rfl rfl) (l13 rfl) rfl rfl dX12_isHole_9 rfl fl_RX12_17 ?_
    refine aw_iload_n (pc' := 13) dX12_isHole_12 rfl rfl ?_
    obtain ⟨g3, hf⟩ := gd_e hf
    refine aw_ia (q := 62) (pc' := 14) H0 (H0.fa rfl rfl rfl) g3 dX12_isHole_13 rfl ?_
    refine aw_iconst (v := 2) (pc' := 15) dX12_isHole_14 rfl ic_2 ?_
    obtain ⟨r4, ec4, hf⟩ := b1_e hf
    refine aw_callSi (M' := mX12_isUnder) (nc' := 0) (ns' := 0) (pc' := 18) dX12_isHole_15 rfl ml_RX12_248 kX12_isUnder (t_X12_isUnder ec4) rfl rfl (Nat.le_of_ble_eq_true rfl) (rokD (by omega) (Nat.le_of_ble_eq_true rfl) (Nat.le_of_ble_eq_true rfl) (Nat.le_of_ble_eq_true rfl)) rfl rfl (fun _ h4 q4 => ?_)
    obtain ⟨rfl, rfl, zb4⟩ := q4
    refine aw_if_eq (tgt := 25) (pc' := 21) dX12_isHole_18 rfl rfl (fun c5 => ?_) (fun c5 => ?_)
    · replace hf := ifp c5 hf
      refine aw_iconst (v := 0) (pc' := 26) dX12_isHole_25 rfl ic_0 ?_
      obtain rfl := Option.some.inj hf
      exact aw_ri dX12_isHole_26 rfl (by decide) (Nat.le_of_ble_eq_true rfl) (Nat.le_of_ble_eq_true rfl) ⟨rfl, rfl, Or.inl rfl⟩
    · replace hf := ifn c5 hf
      refine aw_iconst (v := 1) (pc' := 22) dX12_isHole_21 rfl ic_1 ?_
      refine aw_goto (tgt := 26) dX12_isHole_22 rfl ?_
      obtain rfl := Option.some.inj hf
      exact aw_ri dX12_isHole_26 rfl (by decide) (Nat.le_of_ble_eq_true rfl) (Nat.le_of_ble_eq_true rfl) ⟨rfl, rfl, Or.inr rfl⟩
/-! ThirtyThreeBelowModel.isMan -/
noncomputable def f_X12_isMan (s0 : SS) (a0 : Int32) : Option Int32 := (b1 (f_X12_isBody s0 a0) fun r1 => (if r1 = (0 : Int32) then some 0 else (gd (inB a0 120) (if (zI s0 62 (a0.toInt.toNat)) = (7 : Int32) then some 1 else some 0))))
set_option maxRecDepth 4000 in
theorem t_X12_isMan {r9 : Int32} {s0 : SS} {h0 : List aE} {a0 : Int32} (H0 : HH s0 h0) (hf : f_X12_isMan s0 a0 = some r9) : AM mX12_isMan (2) [.ref 67, .int a0] h0 0 0 (PI fun r' h' => r9 = r' ∧ h0 = h' ∧ (r9 = 0 ∨ r9 = 1)) := by
  unfold f_X12_isMan at hf
  refine am_of (lv := [some (.ref 67), some (.int a0)]) rfl (Nat.le_of_ble_eq_true rfl) rfl ?_
  refine aw_aload_n (pc' := 1) dX12_isMan_0 rfl rfl rfl ?_
  refine aw_iload_n (pc' := 2) dX12_isMan_1 rfl rfl ?_
  obtain ⟨r1, ec1, hf⟩ := b1_e hf
  refine aw_callVi (M' := mX12_isBody) (nc' := 0) (ns' := 0) (pc' := 5) dX12_isMan_2 rfl ml_RX12_245 kX12_isBody (t_X12_isBody H0 ec1) (H0.ob (H0.fo rfl rfl) (by decide)) rfl rfl rfl (Nat.le_of_ble_eq_true rfl) (rokD (by omega) (Nat.le_of_ble_eq_true rfl) (Nat.le_of_ble_eq_true rfl) (Nat.le_of_ble_eq_true rfl)) rfl rfl (fun _ h1 q1 => ?_)
  obtain ⟨rfl, rfl, zb1⟩ := q1
  refine aw_if_eq (tgt := 23) (pc' := 8) dX12_isMan_5 rfl rfl (fun c2 => ?_) (fun c2 => ?_)
  · replace hf := ifp c2 hf
    refine aw_iconst (v := 0) (pc' := 24) dX12_isMan_23 rfl ic_0 ?_
    obtain rfl := Option.some.inj hf
    exact aw_ri dX12_isMan_24 rfl (by decide) (Nat.le_of_ble_eq_true rfl) (Nat.le_of_ble_eq_true rfl) ⟨rfl, rfl, Or.inl rfl⟩
  · replace hf := ifn c2 hf
    refine aw_aload_n (pc' := 9) dX12_isMan_8 rfl rfl rfl ?_
    refine aw_gr (q := 59) (e := 7) (v := .ref 70) (pc' := 12) H0 (H0.fo rfl rfl) (l13 rfl) rfl rfl dX12_isMan_9 rfl fl_RX12_17 ?_
    refine aw_iload_n (pc' := 13) dX12_isMan_12 rfl rfl ?_
    obtain ⟨g3, hf⟩ := gd_e hf
    refine aw_ia (q := 62) (pc' := 14) H0 (H0.fa rfl rfl rfl) g3 dX12_isMan_13 rfl ?_
    refine aw_bipush (v := 7) (pc' := 16) dX12_isMan_14 rfl bp_7 ?_
    refine aw_icmp_ne (tgt := 23) (pc' := 19) dX12_isMan_16 rfl rfl (fun c4 => ?_) (fun c4 => ?_)
    · replace hf := ifn c4 hf
      refine aw_iconst (v := 0) (pc' := 24) dX12_isMan_23 rfl ic_0 ?_
      obtain rfl := Option.some.inj hf
      exact aw_ri dX12_isMan_24 rfl (by decide) (Nat.le_of_ble_eq_true rfl) (Nat.le_of_ble_eq_true rfl) ⟨rfl, rfl, Or.inl rfl⟩
    · replace hf := ifp c4 hf
      refine aw_iconst (v := 1) (pc' := 20) dX12_isMan_19 rfl ic_1 ?_
      refine aw_goto (tgt := 24) dX12_isMan_20 rfl ?_
      obtain rfl := Option.some.inj hf
      exact aw_ri dX12_isMan_24 rfl (by decide) (Nat.le_of_ble_eq_true rfl) (Nat.le_of_ble_eq_true rfl) ⟨rfl, rfl, Or.inr rfl⟩
/-! ThirtyThreeBelowModel.add -/
noncomputable def f_X12_add (s0 : SS) (a0 : Int32) : Option (Int32 × SS) := (vl ((zS s0 59 4)) fun v1 => (gd (inB v1 120) (st (pI s0 62 (v1.toInt.toNat) a0) fun s3 => (vl (((zS s3 59 4) + (1 : Int32))) fun v4 => (st (pS s3 59 4 v4) fun s5 => some (((zS s5 59 4) - (1 : Int32)), s5))))))
set_option maxRecDepth 4000 in
theorem t_X12_add {r9 : Int32} {s0 s9 : SS} {h0 : List aE} {a0 : Int32} (H0 : HH s0 h0) (hf : f_X12_add s0 a0 = some (r9, s9)) : AM mX12_add (0) [.ref 67, .int a0] h0 0 0 (PI fun r' h' => r9 = r' ∧ HH s9 h' ∧ Mo s0 s9) := by
  unfold f_X12_add at hf
  refine am_of (lv := [some (.ref 67), some (.int a0)]) rfl (Nat.le_of_ble_eq_true rfl) rfl ?_
  refine aw_aload_n (pc' := 1) dX12_add_0 rfl rfl rfl ?_
  refine aw_gr (q := 59) (e := 7) (v := .ref 70) (pc' := 4) H0 (H0.fo rfl rfl) (l13 rfl) rfl rfl dX12_add_1 rfl fl_RX12_17 ?_
  refine aw_aload_n (pc' := 5) dX12_add_4 rfl rfl rfl ?_
  refine aw_gi (q := 59) (pc' := 8) H0 (H0.fo rfl rfl) (l13 rfl) rfl dX12_add_5 rfl fl_RX12_242 ?_
  refine aw_iload_n (pc' := 9) dX12_add_8 rfl rfl ?_
  obtain ⟨v1, ev1, hf⟩ := vl_e hf
  refine aw_sndi ev1 ?_
  obtain ⟨g2, hf⟩ := gd_e hf
  obtain ⟨s3, es3, hf⟩ := st_e hf
  refine aw_is (q := 62) (pc' := 10) es3 H0 (H0.fa rfl rfl rfl) g2 dX12_add_9 rfl (fun h3 H3 => ?_)
  have m3 := Mo.ofI es3
  refine aw_aload_n (pc' := 11) dX12_add_10 rfl rfl rfl ?_
  refine aw_dup (pc' := 12) dX12_add_11 rfl rfl ?_
  refine aw_gi (q := 59) (pc' := 15) H3 (H3.fo rfl rfl) (l13 rfl) rfl dX12_add_12 rfl fl_RX12_242 ?_
  refine aw_iconst (v := 1) (pc' := 16) dX12_add_15 rfl ic_1 ?_
  refine aw_iadd (pc' := 17) dX12_add_16 rfl ?_
  obtain ⟨v4, ev4, hf⟩ := vl_e hf
  refine aw_topi ev4 ?_
  obtain ⟨s5, es5, hf⟩ := st_e hf
  refine aw_pi (q := 59) (pc' := 20) es5 H3 (H3.fo rfl rfl) (by decide) rfl dX12_add_17 rfl fl_RX12_242 rfl (fun h5 H5 => ?_)
  have m5 := Mo.ofS es5
  refine aw_aload_n (pc' := 21) dX12_add_20 rfl rfl rfl ?_
  refine aw_gi (q := 59) (pc' := 24) H5 (H5.fo rfl rfl) (l13 rfl) rfl dX12_add_21 rfl fl_RX12_242 ?_
  refine aw_iconst (v := 1) (pc' := 25) dX12_add_24 rfl ic_1 ?_
  refine aw_isub (pc' := 26) dX12_add_25 rfl ?_
  obtain ⟨rfl, rfl⟩ := so2 hf
  exact aw_ri dX12_add_26 rfl rfl (Nat.le_of_ble_eq_true rfl) (Nat.le_of_ble_eq_true rfl) ⟨rfl, H5, (m3.tr m5)⟩
/-! ThirtyThreeBelowModel.body -/
noncomputable def f_X12_body (s0 : SS) (a0 : Int32) : Option (Int32 × SS) := (b1 (f_X12_in a0 (0 : Int32) (1 : Int32)) fun r1 => (if r1 = (0 : Int32) then some ((-1), s0) else (if (zS s0 59 4) = (120 : Int32) then some ((-3), s0) else (bd (f_X12_add s0 a0) fun r4 s4 => some (r4, s4)))))
set_option maxRecDepth 4000 in
theorem t_X12_body {r9 : Int32} {s0 s9 : SS} {h0 : List aE} {a0 : Int32} (H0 : HH s0 h0) (hf : f_X12_body s0 a0 = some (r9, s9)) : AM mX12_body (1) [.ref 67, .int a0] h0 0 0 (PI fun r' h' => r9 = r' ∧ HH s9 h' ∧ Mo s0 s9) := by
  unfold f_X12_body at hf
  refine am_of (lv := [some (.ref 67), some (.int a0)]) rfl (Nat.le_of_ble_eq_true rfl) rfl ?_
  refine aw_iload_n (pc' := 1) dX12_body_0 rfl rfl ?_
  refine aw_iconst (v := 0) (pc' := 2) dX12_body_1 rfl ic_0 ?_
  refine aw_iconst (v := 1) (pc' := 3) dX12_body_2 rfl ic_1 ?_
  obtain ⟨r1, ec1, hf⟩ := b1_e hf
  refine aw_callSi (M' := mX12_in) (nc' := 0) (ns' := 0) (pc' := 6) dX12_body_3 rfl ml_RX12_230 kX12_in (t_X12_in ec1) rfl rfl (Nat.le_of_ble_eq_true rfl) (rokD (by omega) (Nat.le_of_ble_eq_true rfl) (Nat.le_of_ble_eq_true rfl) (Nat.le_of_ble_eq_true rfl)) rfl rfl (fun _ h1 q1 => ?_)
  obtain ⟨rfl, rfl, zb1⟩ := q1
  refine aw_if_ne (tgt := 11) (pc' := 9) dX12_body_6 rfl rfl (fun c2 => ?_) (fun c2 => ?_)
  · replace hf := ifn c2 hf
    refine aw_aload_n (pc' := 12) dX12_body_11 rfl rfl rfl ?_
    refine aw_gi (q := 59) (pc' := 15) H0 (H0.fo rfl rfl) (l13 rfl) rfl dX12_body_12 rfl fl_RX12_242 ?_
    refine aw_bipush (v := 120) (pc' := 17) dX12_body_15 rfl bp_120 ?_
    refine aw_icmp_ne (tgt := 25) (pc' := 20) dX12_body_17 rfl rfl (fun c3 => ?_) (fun c3 => ?_)
    · replace hf := ifn c3 hf
      refine aw_aload_n (pc' := 26) dX12_body_25 rfl rfl rfl ?_
      refine aw_iload_n (pc' := 27) dX12_body_26 rfl rfl ?_
      obtain ⟨r4, s4, ec4, hf⟩ := bd_e hf
      refine aw_callVi (M' := mX12_add) (nc' := 0) (ns' := 0) (pc' := 30) dX12_body_27 rfl ml_RX12_252 kX12_add (t_X12_add H0 ec4) (H0.ob (H0.fo rfl rfl) (by decide)) rfl rfl rfl (Nat.le_of_ble_eq_true rfl) (rokD (by omega) (Nat.le_of_ble_eq_true rfl) (Nat.le_of_ble_eq_true rfl) (Nat.le_of_ble_eq_true rfl)) rfl rfl (fun _ h4 q4 => ?_)
      obtain ⟨rfl, H4, m4⟩ := q4
      obtain ⟨rfl, rfl⟩ := so2 hf
      exact aw_ri dX12_body_30 rfl rfl (Nat.le_of_ble_eq_true rfl) (Nat.le_of_ble_eq_true rfl) ⟨rfl, H4, m4⟩
    · replace hf := ifp c3 hf
      refine aw_bipush (v := (-3)) (pc' := 22) dX12_body_20 rfl bp_m3 ?_
      refine aw_goto (tgt := 30) dX12_body_22 rfl ?_
      obtain ⟨rfl, rfl⟩ := so2 hf
      exact aw_ri dX12_body_30 rfl rfl (Nat.le_of_ble_eq_true rfl) (Nat.le_of_ble_eq_true rfl) ⟨rfl, H0, (Mo.rf _)⟩
  · replace hf := ifp c2 hf
    refine aw_iconst (v := (-1)) (pc' := 10) dX12_body_9 rfl ic_m1 ?_
    obtain ⟨rfl, rfl⟩ := so2 hf
    exact aw_ri dX12_body_10 rfl rfl (Nat.le_of_ble_eq_true rfl) (Nat.le_of_ble_eq_true rfl) ⟨rfl, H0, (Mo.rf _)⟩
/-! ThirtyThreeBelowModel.hole -/
noncomputable def f_X12_hole (s0 : SS) (a0 : Int32) (a1 : Int32) : Option (Int32 × SS) := (b1 (f_X12_in a0 (2 : Int32) (5 : Int32)) fun r1 => (if r1 = (0 : Int32) then some ((-1), s0) else (if a1 < (0 : Int32) then some ((-1), s0) else (if (a1 / (100 : Int32)) < (32 : Int32) then (if (a1 % (100 : Int32)) = (0 : Int32) then some ((-1), s0) else (if (zS s0 59 4) = (120 : Int32) then some ((-3), s0) else (bd (f_X12_add s0 a0) fun r7 s7 => (vl ((a1 / (100 : Int32))) fun v8 => (gd (inB r7 120) (st (pI s7 63 (r7.toInt.toNat) v8) fun s11 => (vl ((a1 / (100 : Int32))) fun v12 => (gd (inB r7 120) (st (pI s11 65 (r7.toInt.toNat) v12) fun s14 => (vl ((a1 % (100 : Int32))) fun v15 => (gd (inB r7 120) (st (pI s14 64 (r7.toInt.toNat) v15) fun s17 => some (r7, s17))))))))))))) else some ((-1), s0)))))
set_option maxRecDepth 4000 in
theorem t_X12_hole {r9 : Int32} {s0 s9 : SS} {h0 : List aE} {a0 : Int32} {a1 : Int32} (H0 : HH s0 h0) (hf : f_X12_hole s0 a0 a1 = some (r9, s9)) : AM mX12_hole (1) [.ref 67, .int a0, .int a1] h0 0 0 (PI fun r' h' => r9 = r' ∧ HH s9 h' ∧ Mo s0 s9) := by
  unfold f_X12_hole at hf
  refine am_of (lv := [some (.ref 67), some (.int a0), some (.int a1), none]) rfl (Nat.le_of_ble_eq_true rfl) rfl ?_
  refine aw_iload_n (pc' := 1) dX12_hole_0 rfl rfl ?_
  refine aw_iconst (v := 2) (pc' := 2) dX12_hole_1 rfl ic_2 ?_
  refine aw_iconst (v := 5) (pc' := 3) dX12_hole_2 rfl ic_5 ?_
  obtain ⟨r1, ec1, hf⟩ := b1_e hf
  refine aw_callSi (M' := mX12_in) (nc' := 0) (ns' := 0) (pc' := 6) dX12_hole_3 rfl ml_RX12_230 kX12_in (t_X12_in ec1) rfl rfl (Nat.le_of_ble_eq_true rfl) (rokD (by omega) (Nat.le_of_ble_eq_true rfl) (Nat.le_of_ble_eq_true rfl) (Nat.le_of_ble_eq_true rfl)) rfl rfl (fun _ h1 q1 => ?_)
  obtain ⟨rfl, rfl, zb1⟩ := q1
  refine aw_if_eq (tgt := 29) (pc' := 9) dX12_hole_6 rfl rfl (fun c2 => ?_) (fun c2 => ?_)
  · replace hf := ifp c2 hf
    refine aw_iconst (v := (-1)) (pc' := 30) dX12_hole_29 rfl ic_m1 ?_
    obtain ⟨rfl, rfl⟩ := so2 hf
    exact aw_ri dX12_hole_30 rfl rfl (Nat.le_of_ble_eq_true rfl) (Nat.le_of_ble_eq_true rfl) ⟨rfl, H0, (Mo.rf _)⟩
  · replace hf := ifn c2 hf
    refine aw_iload_n (pc' := 10) dX12_hole_9 rfl rfl ?_
    refine aw_zlt (tgt := 29) (pc' := 13) dX12_hole_10 rfl rfl (fun c3 => ?_) (fun c3 => ?_)
    · replace hf := ifp c3 hf
      refine aw_iconst (v := (-1)) (pc' := 30) dX12_hole_29 rfl ic_m1 ?_
      obtain ⟨rfl, rfl⟩ := so2 hf
      exact aw_ri dX12_hole_30 rfl rfl (Nat.le_of_ble_eq_true rfl) (Nat.le_of_ble_eq_true rfl) ⟨rfl, H0, (Mo.rf _)⟩
    · replace hf := ifn c3 hf
      refine aw_iload_n (pc' := 14) dX12_hole_13 rfl rfl ?_
      refine aw_bipush (v := 100) (pc' := 16) dX12_hole_14 rfl bp_100 ?_
      refine aw_idiv (pc' := 17) dX12_hole_16 rfl (by decide) ?_
      refine aw_bipush (v := 32) (pc' := 19) dX12_hole_17 rfl bp_32 ?_
      refine aw_cge (tgt := 29) (pc' := 22) dX12_hole_19 rfl rfl (fun c4 => ?_) (fun c4 => ?_)
      · replace hf := ifn c4 hf
        refine aw_iconst (v := (-1)) (pc' := 30) dX12_hole_29 rfl ic_m1 ?_
        obtain ⟨rfl, rfl⟩ := so2 hf
        exact aw_ri dX12_hole_30 rfl rfl (Nat.le_of_ble_eq_true rfl) (Nat.le_of_ble_eq_true rfl) ⟨rfl, H0, (Mo.rf _)⟩
      · replace hf := ifp c4 hf
        refine aw_iload_n (pc' := 23) dX12_hole_22 rfl rfl ?_
        refine aw_bipush (v := 100) (pc' := 25) dX12_hole_23 rfl bp_100 ?_
        refine aw_irem (pc' := 26) dX12_hole_25 rfl (by decide) ?_
        refine aw_if_ne (tgt := 31) (pc' := 29) dX12_hole_26 rfl rfl (fun c5 => ?_) (fun c5 => ?_)
        · replace hf := ifn c5 hf
          refine aw_aload_n (pc' := 32) dX12_hole_31 rfl rfl rfl ?_
          refine aw_gi (q := 59) (pc' := 35) H0 (H0.fo rfl rfl) (l13 rfl) rfl dX12_hole_32 rfl fl_RX12_242 ?_
          refine aw_bipush (v := 120) (pc' := 37) dX12_hole_35 rfl bp_120 ?_
          refine aw_icmp_ne (tgt := 43) (pc' := 40) dX12_hole_37 rfl rfl (fun c6 => ?_) (fun c6 => ?_)
          · replace hf := ifn c6 hf
            refine aw_aload_n (pc' := 44) dX12_hole_43 rfl rfl rfl ?_
            refine aw_iload_n (pc' := 45) dX12_hole_44 rfl rfl ?_
            obtain ⟨r7, s7, ec7, hf⟩ := bd_e hf
            refine aw_callVi (M' := mX12_add) (nc' := 0) (ns' := 0) (pc' := 48) dX12_hole_45 rfl ml_RX12_252 kX12_add (t_X12_add H0 ec7) (H0.ob (H0.fo rfl rfl) (by decide)) rfl rfl rfl (Nat.le_of_ble_eq_true rfl) (rokD (by omega) (Nat.le_of_ble_eq_true rfl) (Nat.le_of_ble_eq_true rfl) (Nat.le_of_ble_eq_true rfl)) rfl rfl (fun _ h7 q7 => ?_)
            obtain ⟨rfl, H7, m7⟩ := q7
            refine aw_istore_n (lv' := [_, _, _, _]) (pc' := 49) dX12_hole_48 rfl (Nat.le_of_ble_eq_true rfl) rfl ?_
            refine aw_aload_n (pc' := 50) dX12_hole_49 rfl rfl rfl ?_
            refine aw_gr (q := 59) (e := 9) (v := .ref 71) (pc' := 53) H7 (H7.fo rfl rfl) (l13 rfl) rfl rfl dX12_hole_50 rfl fl_RX12_20 ?_
            refine aw_iload_n (pc' := 54) dX12_hole_53 rfl rfl ?_
            refine aw_iload_n (pc' := 55) dX12_hole_54 rfl rfl ?_
            refine aw_bipush (v := 100) (pc' := 57) dX12_hole_55 rfl bp_100 ?_
            refine aw_idiv (pc' := 58) dX12_hole_57 rfl (by decide) ?_
            obtain ⟨v8, ev8, hf⟩ := vl_e hf
            refine aw_topi ev8 ?_
            obtain ⟨g10, hf⟩ := gd_e hf
            obtain ⟨s11, es11, hf⟩ := st_e hf
            refine aw_is (q := 63) (pc' := 59) es11 H7 (H7.fa rfl rfl rfl) g10 dX12_hole_58 rfl (fun h11 H11 => ?_)
            have m11 := Mo.ofI es11
            refine aw_aload_n (pc' := 60) dX12_hole_59 rfl rfl rfl ?_
            refine aw_gr (q := 59) (e := 13) (v := .ref 73) (pc' := 63) H11 (H11.fo rfl rfl) (l13 rfl) rfl rfl dX12_hole_60 rfl fl_RX12_26 ?_
            refine aw_iload_n (pc' := 64) dX12_hole_63 rfl rfl ?_
            refine aw_iload_n (pc' := 65) dX12_hole_64 rfl rfl ?_
            refine aw_bipush (v := 100) (pc' := 67) dX12_hole_65 rfl bp_100 ?_
            refine aw_idiv (pc' := 68) dX12_hole_67 rfl (by decide) ?_
            obtain ⟨v12, ev12, hf⟩ := vl_e hf
            refine aw_topi ev12 ?_
            obtain ⟨g13, hf⟩ := gd_e hf
            obtain ⟨s14, es14, hf⟩ := st_e hf
            refine aw_is (q := 65) (pc' := 69) es14 H11 (H11.fa rfl rfl rfl) g13 dX12_hole_68 rfl (fun h14 H14 => ?_)
            have m14 := Mo.ofI es14
            refine aw_aload_n (pc' := 70) dX12_hole_69 rfl rfl rfl ?_
            refine aw_gr (q := 59) (e := 11) (v := .ref 72) (pc' := 73) H14 (H14.fo rfl rfl) (l13 rfl) rfl rfl dX12_hole_70 rfl fl_RX12_23 ?_
            refine aw_iload_n (pc' := 74) dX12_hole_73 rfl rfl ?_
            refine aw_iload_n (pc' := 75) dX12_hole_74 rfl rfl ?_
            refine aw_bipush (v := 100) (pc' := 77) dX12_hole_75 rfl bp_100 ?_
            refine aw_irem (pc' := 78) dX12_hole_77 rfl (by decide) ?_
            obtain ⟨v15, ev15, hf⟩ := vl_e hf
            refine aw_topi ev15 ?_
            obtain ⟨g16, hf⟩ := gd_e hf
            obtain ⟨s17, es17, hf⟩ := st_e hf
            refine aw_is (q := 64) (pc' := 79) es17 H14 (H14.fa rfl rfl rfl) g16 dX12_hole_78 rfl (fun h17 H17 => ?_)
            have m17 := Mo.ofI es17
            refine aw_iload_n (pc' := 80) dX12_hole_79 rfl rfl ?_
            obtain ⟨rfl, rfl⟩ := so2 hf
            exact aw_ri dX12_hole_80 rfl rfl (Nat.le_of_ble_eq_true rfl) (Nat.le_of_ble_eq_true rfl) ⟨rfl, H17, (((m7.tr m11).tr m14).tr m17)⟩
          · replace hf := ifp c6 hf
            refine aw_bipush (v := (-3)) (pc' := 42) dX12_hole_40 rfl bp_m3 ?_
            obtain ⟨rfl, rfl⟩ := so2 hf
            exact aw_ri dX12_hole_42 rfl rfl (Nat.le_of_ble_eq_true rfl) (Nat.le_of_ble_eq_true rfl) ⟨rfl, H0, (Mo.rf _)⟩
        · replace hf := ifp c5 hf
          refine aw_iconst (v := (-1)) (pc' := 30) dX12_hole_29 rfl ic_m1 ?_
          obtain ⟨rfl, rfl⟩ := so2 hf
          exact aw_ri dX12_hole_30 rfl rfl (Nat.le_of_ble_eq_true rfl) (Nat.le_of_ble_eq_true rfl) ⟨rfl, H0, (Mo.rf _)⟩
/-! ThirtyThreeBelowModel.isSpan -/
noncomputable def f_X12_isSpan (a0 : Int32) : Option Int32 := (if a0 < (0 : Int32) then some 0 else (if (a0 % (100 : Int32)) < (a0 / (100 : Int32)) then some 0 else (if (a0 % (100 : Int32)) < (32 : Int32) then some 1 else some 0)))
set_option maxRecDepth 4000 in
theorem t_X12_isSpan {r9 : Int32} {h0 : List aE} {a0 : Int32}  (hf : f_X12_isSpan a0 = some r9) : AM mX12_isSpan (0) [.int a0] h0 0 0 (PI fun r' h' => r9 = r' ∧ h0 = h' ∧ (r9 = 0 ∨ r9 = 1)) := by
  unfold f_X12_isSpan at hf
  refine am_of (lv := [some (.int a0)]) rfl (Nat.le_of_ble_eq_true rfl) rfl ?_
  refine aw_iload_n (pc' := 1) dX12_isSpan_0 rfl rfl ?_
  refine aw_zlt (tgt := 28) (pc' := 4) dX12_isSpan_1 rfl rfl (fun c1 => ?_) (fun c1 => ?_)
  · replace hf := ifp c1 hf
    refine aw_iconst (v := 0) (pc' := 29) dX12_isSpan_28 rfl ic_0 ?_
    obtain rfl := Option.some.inj hf
    exact aw_ri dX12_isSpan_29 rfl (by decide) (Nat.le_of_ble_eq_true rfl) (Nat.le_of_ble_eq_true rfl) ⟨rfl, rfl, Or.inl rfl⟩
  · replace hf := ifn c1 hf
    refine aw_iload_n (pc' := 5) dX12_isSpan_4 rfl rfl ?_
    refine aw_bipush (v := 100) (pc' := 7) dX12_isSpan_5 rfl bp_100 ?_
    refine aw_idiv (pc' := 8) dX12_isSpan_7 rfl (by decide) ?_
    refine aw_iload_n (pc' := 9) dX12_isSpan_8 rfl rfl ?_
    refine aw_bipush (v := 100) (pc' := 11) dX12_isSpan_9 rfl bp_100 ?_
    refine aw_irem (pc' := 12) dX12_isSpan_11 rfl (by decide) ?_
    refine aw_cgt (tgt := 28) (pc' := 15) dX12_isSpan_12 rfl rfl (fun c2 => ?_) (fun c2 => ?_)
    · replace hf := ifp c2 hf
      refine aw_iconst (v := 0) (pc' := 29) dX12_isSpan_28 rfl ic_0 ?_
      obtain rfl := Option.some.inj hf
      exact aw_ri dX12_isSpan_29 rfl (by decide) (Nat.le_of_ble_eq_true rfl) (Nat.le_of_ble_eq_true rfl) ⟨rfl, rfl, Or.inl rfl⟩
    · replace hf := ifn c2 hf
      refine aw_iload_n (pc' := 16) dX12_isSpan_15 rfl rfl ?_
      refine aw_bipush (v := 100) (pc' := 18) dX12_isSpan_16 rfl bp_100 ?_
      refine aw_irem (pc' := 19) dX12_isSpan_18 rfl (by decide) ?_
      refine aw_bipush (v := 32) (pc' := 21) dX12_isSpan_19 rfl bp_32 ?_
      refine aw_cge (tgt := 28) (pc' := 24) dX12_isSpan_21 rfl rfl (fun c3 => ?_) (fun c3 => ?_)
      · replace hf := ifn c3 hf
        refine aw_iconst (v := 0) (pc' := 29) dX12_isSpan_28 rfl ic_0 ?_
        obtain rfl := Option.some.inj hf
        exact aw_ri dX12_isSpan_29 rfl (by decide) (Nat.le_of_ble_eq_true rfl) (Nat.le_of_ble_eq_true rfl) ⟨rfl, rfl, Or.inl rfl⟩
      · replace hf := ifp c3 hf
        refine aw_iconst (v := 1) (pc' := 25) dX12_isSpan_24 rfl ic_1 ?_
        refine aw_goto (tgt := 29) dX12_isSpan_25 rfl ?_
        obtain rfl := Option.some.inj hf
        exact aw_ri dX12_isSpan_29 rfl (by decide) (Nat.le_of_ble_eq_true rfl) (Nat.le_of_ble_eq_true rfl) ⟨rfl, rfl, Or.inr rfl⟩
/-! ThirtyThreeBelowModel.shelter -/
noncomputable def f_X12_shelter (s0 : SS) (a0 : Int32) (a1 : Int32) : Option (Int32 × SS) := (b1 (f_X12_isSpan a0) fun r1 => (if r1 = (0 : Int32) then some ((-1), s0) else (b1 (f_X12_in a1 (1 : Int32) (60 : Int32)) fun r3 => (if r3 = (0 : Int32) then some ((-1), s0) else (if (zS s0 59 21) < (0 : Int32) then (if (zS s0 59 4) = (120 : Int32) then some ((-3), s0) else (bd (f_X12_add s0 6) fun r7 s7 => (st (pS s7 59 21 r7) fun s8 => (vl ((a0 / (100 : Int32))) fun v10 => (st (pS s8 59 22 v10) fun s11 => (vl ((a0 % (100 : Int32))) fun v12 => (st (pS s11 59 23 v12) fun s13 => (st (pS s13 59 24 a1) fun s14 => some ((zS s14 59 21), s14))))))))) else some ((-2), s0))))))
set_option maxRecDepth 4000 in
theorem t_X12_shelter {r9 : Int32} {s0 s9 : SS} {h0 : List aE} {a0 : Int32} {a1 : Int32} (H0 : HH s0 h0) (hf : f_X12_shelter s0 a0 a1 = some (r9, s9)) : AM mX12_shelter (1) [.ref 67, .int a0, .int a1] h0 0 0 (PI fun r' h' => r9 = r' ∧ HH s9 h' ∧ Mo s0 s9) := by
  unfold f_X12_shelter at hf
  refine am_of (lv := [some (.ref 67), some (.int a0), some (.int a1)]) rfl (Nat.le_of_ble_eq_true rfl) rfl ?_
  refine aw_iload_n (pc' := 1) dX12_shelter_0 rfl rfl ?_
  obtain ⟨r1, ec1, hf⟩ := b1_e hf
  refine aw_callSi (M' := mX12_isSpan) (nc' := 0) (ns' := 0) (pc' := 4) dX12_shelter_1 rfl ml_RX12_255 kX12_isSpan (t_X12_isSpan ec1) rfl rfl (Nat.le_of_ble_eq_true rfl) (rokD (by omega) (Nat.le_of_ble_eq_true rfl) (Nat.le_of_ble_eq_true rfl) (Nat.le_of_ble_eq_true rfl)) rfl rfl (fun _ h1 q1 => ?_)
  obtain ⟨rfl, rfl, zb1⟩ := q1
  refine aw_if_eq (tgt := 17) (pc' := 7) dX12_shelter_4 rfl rfl (fun c2 => ?_) (fun c2 => ?_)
  · replace hf := ifp c2 hf
    refine aw_iconst (v := (-1)) (pc' := 18) dX12_shelter_17 rfl ic_m1 ?_
    obtain ⟨rfl, rfl⟩ := so2 hf
    exact aw_ri dX12_shelter_18 rfl rfl (Nat.le_of_ble_eq_true rfl) (Nat.le_of_ble_eq_true rfl) ⟨rfl, H0, (Mo.rf _)⟩
  · replace hf := ifn c2 hf
    refine aw_iload_n (pc' := 8) dX12_shelter_7 rfl rfl ?_
    refine aw_iconst (v := 1) (pc' := 9) dX12_shelter_8 rfl ic_1 ?_
    refine aw_bipush (v := 60) (pc' := 11) dX12_shelter_9 rfl bp_60 ?_
    obtain ⟨r3, ec3, hf⟩ := b1_e hf
    refine aw_callSi (M' := mX12_in) (nc' := 0) (ns' := 0) (pc' := 14) dX12_shelter_11 rfl ml_RX12_230 kX12_in (t_X12_in ec3) rfl rfl (Nat.le_of_ble_eq_true rfl) (rokD (by omega) (Nat.le_of_ble_eq_true rfl) (Nat.le_of_ble_eq_true rfl) (Nat.le_of_ble_eq_true rfl)) rfl rfl (fun _ h3 q3 => ?_)
    obtain ⟨rfl, rfl, zb3⟩ := q3
    refine aw_if_ne (tgt := 19) (pc' := 17) dX12_shelter_14 rfl rfl (fun c4 => ?_) (fun c4 => ?_)
    · replace hf := ifn c4 hf
      refine aw_aload_n (pc' := 20) dX12_shelter_19 rfl rfl rfl ?_
      refine aw_gi (q := 59) (pc' := 23) H0 (H0.fo rfl rfl) (l13 rfl) rfl dX12_shelter_20 rfl fl_RX12_65 ?_
      refine aw_zlt (tgt := 29) (pc' := 26) dX12_shelter_23 rfl rfl (fun c5 => ?_) (fun c5 => ?_)
      · replace hf := ifp c5 hf
        refine aw_aload_n (pc' := 30) dX12_shelter_29 rfl rfl rfl ?_
        refine aw_gi (q := 59) (pc' := 33) H0 (H0.fo rfl rfl) (l13 rfl) rfl dX12_shelter_30 rfl fl_RX12_242 ?_
        refine aw_bipush (v := 120) (pc' := 35) dX12_shelter_33 rfl bp_120 ?_
        refine aw_icmp_ne (tgt := 41) (pc' := 38) dX12_shelter_35 rfl rfl (fun c6 => ?_) (fun c6 => ?_)
        · replace hf := ifn c6 hf
          refine aw_aload_n (pc' := 42) dX12_shelter_41 rfl rfl rfl ?_
          refine aw_aload_n (pc' := 43) dX12_shelter_42 rfl rfl rfl ?_
          refine aw_bipush (v := 6) (pc' := 45) dX12_shelter_43 rfl bp_6 ?_
          obtain ⟨r7, s7, ec7, hf⟩ := bd_e hf
          refine aw_callVi (M' := mX12_add) (nc' := 0) (ns' := 0) (pc' := 48) dX12_shelter_45 rfl ml_RX12_252 kX12_add (t_X12_add H0 ec7) (H0.ob (H0.fo rfl rfl) (by decide)) rfl rfl rfl (Nat.le_of_ble_eq_true rfl) (rokD (by omega) (Nat.le_of_ble_eq_true rfl) (Nat.le_of_ble_eq_true rfl) (Nat.le_of_ble_eq_true rfl)) rfl rfl (fun _ h7 q7 => ?_)
          obtain ⟨rfl, H7, m7⟩ := q7
          obtain ⟨s8, es8, hf⟩ := st_e hf
          refine aw_pi (q := 59) (pc' := 51) es8 H7 (H7.fo rfl rfl) (by decide) rfl dX12_shelter_48 rfl fl_RX12_65 rfl (fun h8 H8 => ?_)
          have m8 := Mo.ofS es8
          refine aw_aload_n (pc' := 52) dX12_shelter_51 rfl rfl rfl ?_
          refine aw_iload_n (pc' := 53) dX12_shelter_52 rfl rfl ?_
          refine aw_bipush (v := 100) (pc' := 55) dX12_shelter_53 rfl bp_100 ?_
          refine aw_idiv (pc' := 56) dX12_shelter_55 rfl (by decide) ?_
          obtain ⟨v10, ev10, hf⟩ := vl_e hf
          refine aw_topi ev10 ?_
          obtain ⟨s11, es11, hf⟩ := st_e hf
          refine aw_pi (q := 59) (pc' := 59) es11 H8 (H8.fo rfl rfl) (by decide) rfl dX12_shelter_56 rfl fl_RX12_258 rfl (fun h11 H11 => ?_)
          have m11 := Mo.ofS es11
          refine aw_aload_n (pc' := 60) dX12_shelter_59 rfl rfl rfl ?_
          refine aw_iload_n (pc' := 61) dX12_shelter_60 rfl rfl ?_
          refine aw_bipush (v := 100) (pc' := 63) dX12_shelter_61 rfl bp_100 ?_
          refine aw_irem (pc' := 64) dX12_shelter_63 rfl (by decide) ?_
          obtain ⟨v12, ev12, hf⟩ := vl_e hf
          refine aw_topi ev12 ?_
          obtain ⟨s13, es13, hf⟩ := st_e hf
          refine aw_pi (q := 59) (pc' := 67) es13 H11 (H11.fo rfl rfl) (by decide) rfl dX12_shelter_64 rfl fl_RX12_261 rfl (fun h13 H13 => ?_)
          have m13 := Mo.ofS es13
          refine aw_aload_n (pc' := 68) dX12_shelter_67 rfl rfl rfl ?_
          refine aw_iload_n (pc' := 69) dX12_shelter_68 rfl rfl ?_
          obtain ⟨s14, es14, hf⟩ := st_e hf
          refine aw_pi (q := 59) (pc' := 72) es14 H13 (H13.fo rfl rfl) (by decide) rfl dX12_shelter_69 rfl fl_RX12_264 rfl (fun h14 H14 => ?_)
          have m14 := Mo.ofS es14
          refine aw_aload_n (pc' := 73) dX12_shelter_72 rfl rfl rfl ?_
          refine aw_gi (q := 59) (pc' := 76) H14 (H14.fo rfl rfl) (l13 rfl) rfl dX12_shelter_73 rfl fl_RX12_65 ?_
          obtain ⟨rfl, rfl⟩ := so2 hf
          exact aw_ri dX12_shelter_76 rfl rfl (Nat.le_of_ble_eq_true rfl) (Nat.le_of_ble_eq_true rfl) ⟨rfl, H14, ((((m7.tr m8).tr m11).tr m13).tr m14)⟩
        · replace hf := ifp c6 hf
          refine aw_bipush (v := (-3)) (pc' := 40) dX12_shelter_38 rfl bp_m3 ?_
          obtain ⟨rfl, rfl⟩ := so2 hf
          exact aw_ri dX12_shelter_40 rfl rfl (Nat.le_of_ble_eq_true rfl) (Nat.le_of_ble_eq_true rfl) ⟨rfl, H0, (Mo.rf _)⟩
      · replace hf := ifn c5 hf
        refine aw_bipush (v := (-2)) (pc' := 28) dX12_shelter_26 rfl bp_m2 ?_
        obtain ⟨rfl, rfl⟩ := so2 hf
        exact aw_ri dX12_shelter_28 rfl rfl (Nat.le_of_ble_eq_true rfl) (Nat.le_of_ble_eq_true rfl) ⟨rfl, H0, (Mo.rf _)⟩
    · replace hf := ifp c4 hf
      refine aw_iconst (v := (-1)) (pc' := 18) dX12_shelter_17 rfl ic_m1 ?_
      obtain ⟨rfl, rfl⟩ := so2 hf
      exact aw_ri dX12_shelter_18 rfl rfl (Nat.le_of_ble_eq_true rfl) (Nat.le_of_ble_eq_true rfl) ⟨rfl, H0, (Mo.rf _)⟩
/-! ThirtyThreeBelowModel.man -/
noncomputable def f_X12_man (s0 : SS) (a0 : Int32) (a1 : Int32) : Option (Int32 × SS) := (b1 (f_X12_in a0 (0 : Int32) (999 : Int32)) fun r1 => (if r1 = (0 : Int32) then some ((-1), s0) else (b1 (f_X12_in a1 (0 : Int32) (99 : Int32)) fun r3 => (if r3 = (0 : Int32) then some ((-1), s0) else (if (zS s0 59 4) = (120 : Int32) then some ((-3), s0) else (bd (f_X12_add s0 7) fun r6 s6 => (gd (inB r6 120) (st (pI s6 74 (r6.toInt.toNat) a0) fun s8 => (vl ((a1 / (10 : Int32))) fun v10 => (gd (inB r6 120) (st (pI s8 75 (r6.toInt.toNat) v10) fun s12 => (vl ((a1 % (10 : Int32))) fun v13 => (gd (inB r6 120) (st (pI s12 76 (r6.toInt.toNat) v13) fun s15 => (gd (inB r6 120) (st (pI s15 77 (r6.toInt.toNat) ((1 : Int32) &&& 1)) fun s17 => some (r6, s17)))))))))))))))))
set_option maxRecDepth 4000 in
theorem t_X12_man {r9 : Int32} {s0 s9 : SS} {h0 : List aE} {a0 : Int32} {a1 : Int32} (H0 : HH s0 h0) (hf : f_X12_man s0 a0 a1 = some (r9, s9)) : AM mX12_man (1) [.ref 67, .int a0, .int a1] h0 0 0 (PI fun r' h' => r9 = r' ∧ HH s9 h' ∧ Mo s0 s9) := by
  unfold f_X12_man at hf
  refine am_of (lv := [some (.ref 67), some (.int a0), some (.int a1), none]) rfl (Nat.le_of_ble_eq_true rfl) rfl ?_
  refine aw_iload_n (pc' := 1) dX12_man_0 rfl rfl ?_
  refine aw_iconst (v := 0) (pc' := 2) dX12_man_1 rfl ic_0 ?_
  refine aw_sipush (v := 999) (pc' := 5) dX12_man_2 rfl sp_999 ?_
  obtain ⟨r1, ec1, hf⟩ := b1_e hf
  refine aw_callSi (M' := mX12_in) (nc' := 0) (ns' := 0) (pc' := 8) dX12_man_5 rfl ml_RX12_230 kX12_in (t_X12_in ec1) rfl rfl (Nat.le_of_ble_eq_true rfl) (rokD (by omega) (Nat.le_of_ble_eq_true rfl) (Nat.le_of_ble_eq_true rfl) (Nat.le_of_ble_eq_true rfl)) rfl rfl (fun _ h1 q1 => ?_)
  obtain ⟨rfl, rfl, zb1⟩ := q1
  refine aw_if_eq (tgt := 21) (pc' := 11) dX12_man_8 rfl rfl (fun c2 => ?_) (fun c2 => ?_)
  · replace hf := ifp c2 hf
    refine aw_iconst (v := (-1)) (pc' := 22) dX12_man_21 rfl ic_m1 ?_
    obtain ⟨rfl, rfl⟩ := so2 hf
    exact aw_ri dX12_man_22 rfl rfl (Nat.le_of_ble_eq_true rfl) (Nat.le_of_ble_eq_true rfl) ⟨rfl, H0, (Mo.rf _)⟩
  · replace hf := ifn c2 hf
    refine aw_iload_n (pc' := 12) dX12_man_11 rfl rfl ?_
    refine aw_iconst (v := 0) (pc' := 13) dX12_man_12 rfl ic_0 ?_
    refine aw_bipush (v := 99) (pc' := 15) dX12_man_13 rfl bp_99 ?_
    obtain ⟨r3, ec3, hf⟩ := b1_e hf
    refine aw_callSi (M' := mX12_in) (nc' := 0) (ns' := 0) (pc' := 18) dX12_man_15 rfl ml_RX12_230 kX12_in (t_X12_in ec3) rfl rfl (Nat.le_of_ble_eq_true rfl) (rokD (by omega) (Nat.le_of_ble_eq_true rfl) (Nat.le_of_ble_eq_true rfl) (Nat.le_of_ble_eq_true rfl)) rfl rfl (fun _ h3 q3 => ?_)
    obtain ⟨rfl, rfl, zb3⟩ := q3
    refine aw_if_ne (tgt := 23) (pc' := 21) dX12_man_18 rfl rfl (fun c4 => ?_) (fun c4 => ?_)
    · replace hf := ifn c4 hf
      refine aw_aload_n (pc' := 24) dX12_man_23 rfl rfl rfl ?_
      refine aw_gi (q := 59) (pc' := 27) H0 (H0.fo rfl rfl) (l13 rfl) rfl dX12_man_24 rfl fl_RX12_242 ?_
      refine aw_bipush (v := 120) (pc' := 29) dX12_man_27 rfl bp_120 ?_
      refine aw_icmp_ne (tgt := 35) (pc' := 32) dX12_man_29 rfl rfl (fun c5 => ?_) (fun c5 => ?_)
      · replace hf := ifn c5 hf
        refine aw_aload_n (pc' := 36) dX12_man_35 rfl rfl rfl ?_
        refine aw_bipush (v := 7) (pc' := 38) dX12_man_36 rfl bp_7 ?_
        obtain ⟨r6, s6, ec6, hf⟩ := bd_e hf
        refine aw_callVi (M' := mX12_add) (nc' := 0) (ns' := 0) (pc' := 41) dX12_man_38 rfl ml_RX12_252 kX12_add (t_X12_add H0 ec6) (H0.ob (H0.fo rfl rfl) (by decide)) rfl rfl rfl (Nat.le_of_ble_eq_true rfl) (rokD (by omega) (Nat.le_of_ble_eq_true rfl) (Nat.le_of_ble_eq_true rfl) (Nat.le_of_ble_eq_true rfl)) rfl rfl (fun _ h6 q6 => ?_)
        obtain ⟨rfl, H6, m6⟩ := q6
        refine aw_istore_n (lv' := [_, _, _, _]) (pc' := 42) dX12_man_41 rfl (Nat.le_of_ble_eq_true rfl) rfl ?_
        refine aw_aload_n (pc' := 43) dX12_man_42 rfl rfl rfl ?_
        refine aw_gr (q := 59) (e := 31) (v := .ref 82) (pc' := 46) H6 (H6.fo rfl rfl) (l13 rfl) rfl rfl dX12_man_43 rfl fl_RX12_53 ?_
        refine aw_iload_n (pc' := 47) dX12_man_46 rfl rfl ?_
        refine aw_iload_n (pc' := 48) dX12_man_47 rfl rfl ?_
        obtain ⟨g7, hf⟩ := gd_e hf
        obtain ⟨s8, es8, hf⟩ := st_e hf
        refine aw_is (q := 74) (pc' := 49) es8 H6 (H6.fa rfl rfl rfl) g7 dX12_man_48 rfl (fun h8 H8 => ?_)
        have m8 := Mo.ofI es8
        refine aw_aload_n (pc' := 50) dX12_man_49 rfl rfl rfl ?_
        refine aw_gr (q := 59) (e := 33) (v := .ref 83) (pc' := 53) H8 (H8.fo rfl rfl) (l13 rfl) rfl rfl dX12_man_50 rfl fl_RX12_56 ?_
        refine aw_iload_n (pc' := 54) dX12_man_53 rfl rfl ?_
        refine aw_iload_n (pc' := 55) dX12_man_54 rfl rfl ?_
        refine aw_bipush (v := 10) (pc' := 57) dX12_man_55 rfl bp_10 ?_
        refine aw_idiv (pc' := 58) dX12_man_57 rfl (by decide) ?_
        obtain ⟨v10, ev10, hf⟩ := vl_e hf
        refine aw_topi ev10 ?_
        obtain ⟨g11, hf⟩ := gd_e hf
        obtain ⟨s12, es12, hf⟩ := st_e hf
        refine aw_is (q := 75) (pc' := 59) es12 H8 (H8.fa rfl rfl rfl) g11 dX12_man_58 rfl (fun h12 H12 => ?_)
        have m12 := Mo.ofI es12
        refine aw_aload_n (pc' := 60) dX12_man_59 rfl rfl rfl ?_
        refine aw_gr (q := 59) (e := 35) (v := .ref 84) (pc' := 63) H12 (H12.fo rfl rfl) (l13 rfl) rfl rfl dX12_man_60 rfl fl_RX12_59 ?_
        refine aw_iload_n (pc' := 64) dX12_man_63 rfl rfl ?_
        refine aw_iload_n (pc' := 65) dX12_man_64 rfl rfl ?_
        refine aw_bipush (v := 10) (pc' := 67) dX12_man_65 rfl bp_10 ?_
        refine aw_irem (pc' := 68) dX12_man_67 rfl (by decide) ?_
        obtain ⟨v13, ev13, hf⟩ := vl_e hf
        refine aw_topi ev13 ?_
        obtain ⟨g14, hf⟩ := gd_e hf
        obtain ⟨s15, es15, hf⟩ := st_e hf
        refine aw_is (q := 76) (pc' := 69) es15 H12 (H12.fa rfl rfl rfl) g14 dX12_man_68 rfl (fun h15 H15 => ?_)
        have m15 := Mo.ofI es15
        refine aw_aload_n (pc' := 70) dX12_man_69 rfl rfl rfl ?_
        refine aw_gr (q := 59) (e := 37) (v := .ref 85) (pc' := 73) H15 (H15.fo rfl rfl) (l13 rfl) rfl rfl dX12_man_70 rfl fl_RX12_62 ?_
        refine aw_iload_n (pc' := 74) dX12_man_73 rfl rfl ?_
        refine aw_iconst (v := 1) (pc' := 75) dX12_man_74 rfl ic_1 ?_
        obtain ⟨g16, hf⟩ := gd_e hf
        obtain ⟨s17, es17, hf⟩ := st_e hf
        refine aw_zs (q := 77) (pc' := 76) es17 H15 (H15.fa rfl rfl rfl) g16 dX12_man_75 rfl (fun h17 H17 => ?_)
        have m17 := Mo.ofI es17
        refine aw_iload_n (pc' := 77) dX12_man_76 rfl rfl ?_
        obtain ⟨rfl, rfl⟩ := so2 hf
        exact aw_ri dX12_man_77 rfl rfl (Nat.le_of_ble_eq_true rfl) (Nat.le_of_ble_eq_true rfl) ⟨rfl, H17, ((((m6.tr m8).tr m12).tr m15).tr m17)⟩
      · replace hf := ifp c5 hf
        refine aw_bipush (v := (-3)) (pc' := 34) dX12_man_32 rfl bp_m3 ?_
        obtain ⟨rfl, rfl⟩ := so2 hf
        exact aw_ri dX12_man_34 rfl rfl (Nat.le_of_ble_eq_true rfl) (Nat.le_of_ble_eq_true rfl) ⟨rfl, H0, (Mo.rf _)⟩
    · replace hf := ifp c4 hf
      refine aw_iconst (v := (-1)) (pc' := 22) dX12_man_21 rfl ic_m1 ?_
      obtain ⟨rfl, rfl⟩ := so2 hf
      exact aw_ri dX12_man_22 rfl rfl (Nat.le_of_ble_eq_true rfl) (Nat.le_of_ble_eq_true rfl) ⟨rfl, H0, (Mo.rf _)⟩
