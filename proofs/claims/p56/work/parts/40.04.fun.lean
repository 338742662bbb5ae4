/-! ThirtyThreeBelow.machineOf -/
noncomputable def f_X11_machineOf (s0 : SS) (a0 : Int32) : Option (Option Nat) := (if a0 < (0 : Int32) then some none else (if a0 < (3 : Int32) then (gd (inB a0 3) (on (zR s0 19 (a0.toInt.toNat)) (some none) fun p4 => some (some p4))) else some none))
set_option maxRecDepth 4000 in
theorem t_X11_machineOf {r9 : Option Nat} {s0 : SS} {h0 : List aE} {a0 : Int32} (H0 : HH s0 h0) (hf : f_X11_machineOf s0 a0 = some r9) : AM mX11_machineOf (0) [.ref 8, .int a0] h0 0 0 (PA fun v h' => va_rf (r9.map (· + 8)) = v ∧ h0 = h' ∧ ∀ p, r9 = some p → okM p) := by
  unfold f_X11_machineOf at hf
  refine am_of (lv := [some (.ref 8), some (.int a0)]) rfl (Nat.le_of_ble_eq_true rfl) rfl ?_
  refine aw_iload_n (pc' := 1) dX11_machineOf_0 rfl rfl ?_
  refine aw_zlt (tgt := 9) (pc' := 4) dX11_machineOf_1 rfl rfl (fun c1 => ?_) (fun c1 => ?_)
  · replace hf := ifp c1 hf
    refine aw_null (pc' := 10) dX11_machineOf_9 rfl ?_
    refine aw_goto (tgt := 19) dX11_machineOf_10 rfl ?_
    obtain rfl := Option.some.inj hf
    exact aw_ra (v := .null) dX11_machineOf_19 rfl (Or.inl ⟨_, rfl⟩) rfl (Nat.le_of_ble_eq_true rfl) (Nat.le_of_ble_eq_true rfl) ⟨rfl, rfl, (fun _ z => by cases z)⟩
  · replace hf := ifn c1 hf
    refine aw_iload_n (pc' := 5) dX11_machineOf_4 rfl rfl ?_
    refine aw_iconst (v := 3) (pc' := 6) dX11_machineOf_5 rfl ic_3 ?_
    refine aw_clt (tgt := 13) (pc' := 9) dX11_machineOf_6 rfl rfl (fun c2 => ?_) (fun c2 => ?_)
    · replace hf := ifp c2 hf
      refine aw_aload_n (pc' := 14) dX11_machineOf_13 rfl rfl rfl ?_
      refine aw_gr (q := 0) (e := 39) (v := .ref 27) (pc' := 17) H0 (H0.fo rfl rfl) (l13 rfl) rfl rfl dX11_machineOf_14 rfl fl_RX11_34 ?_
      refine aw_iload_n (pc' := 18) dX11_machineOf_17 rfl rfl ?_
      obtain ⟨g3, hf⟩ := gd_e hf
      replace hf := on_e hf
      rcases hf with ⟨eo4, hf⟩ | ⟨p4, eo4, hf⟩
      · refine aw_ra_ (q := 19) (t := 5) (pc' := 19) H0 (H0.fa rfl rfl rfl) (by decide) (by decide) rfl g3 eo4 dX11_machineOf_18 rfl ?_
        show AW _ _ _ _ _ (Value.null :: _) _ _ _
        obtain rfl := Option.some.inj hf
        exact aw_ra (v := .null) dX11_machineOf_19 rfl (Or.inl ⟨_, rfl⟩) rfl (Nat.le_of_ble_eq_true rfl) (Nat.le_of_ble_eq_true rfl) ⟨rfl, rfl, (fun _ z => by cases z)⟩
      · refine aw_ra_ (q := 19) (t := 5) (pc' := 19) H0 (H0.fa rfl rfl rfl) (by decide) (by decide) rfl g3 eo4 dX11_machineOf_18 rfl ?_
        show AW _ _ _ _ _ (Value.ref (p4 + 8) :: _) _ _ _
        have o_p4 : okM p4 := (ok4 H0 g3 eo4)
        obtain rfl := Option.some.inj hf
        exact aw_ra (v := .ref (p4 + 8)) dX11_machineOf_19 rfl (Or.inl ⟨_, rfl⟩) rfl (Nat.le_of_ble_eq_true rfl) (Nat.le_of_ble_eq_true rfl) ⟨rfl, rfl, (fun _ z => by cases z; exact o_p4)⟩
    · replace hf := ifn c2 hf
      refine aw_null (pc' := 10) dX11_machineOf_9 rfl ?_
      refine aw_goto (tgt := 19) dX11_machineOf_10 rfl ?_
      obtain rfl := Option.some.inj hf
      exact aw_ra (v := .null) dX11_machineOf_19 rfl (Or.inl ⟨_, rfl⟩) rfl (Nat.le_of_ble_eq_true rfl) (Nat.le_of_ble_eq_true rfl) ⟨rfl, rfl, (fun _ z => by cases z)⟩
/-! ThirtyThreeBelow.speed -/
noncomputable def f_X11_speed (s0 : SS) (a0 : Int32) (a1 : Int32) : Option (Int32 × SS) := (b1 (f_X11_machineOf s0 a0) fun r1 => (on r1 (some ((-1), s0)) fun p1 => (if a1 < (10 : Int32) then some ((-1), s0) else (if (60 : Int32) < a1 then some ((-1), s0) else (vl ((zS s0 p1 0)) fun v4 => (st (pS s0 p1 0 a1) fun s5 => some (v4, s5)))))))
set_option maxRecDepth 4000 in
theorem t_X11_speed {r9 : Int32} {s0 s9 : SS} {h0 : List aE} {a0 : Int32} {a1 : Int32} (H0 : HH s0 h0) (hf : f_X11_speed s0 a0 a1 = some (r9, s9)) : AM mX11_speed (1) [.ref 8, .int a0, .int a1] h0 0 0 (PI fun r' h' => r9 = r' ∧ HH s9 h' ∧ Mo s0 s9) := by
  unfold f_X11_speed at hf
  refine am_of (lv := [some (.ref 8), some (.int a0), some (.int a1), none, none]) rfl (Nat.le_of_ble_eq_true rfl) rfl ?_
  refine aw_aload_n (pc' := 1) dX11_speed_0 rfl rfl rfl ?_
  refine aw_iload_n (pc' := 2) dX11_speed_1 rfl rfl ?_
  obtain ⟨r1, ec1, hf⟩ := b1_e hf
  replace hf := on_e hf
  rcases hf with ⟨rfl, hf⟩ | ⟨p1, rfl, hf⟩
  · refine aw_callVa (M' := mX11_machineOf) (nc' := 0) (ns' := 0) (pc' := 5) dX11_speed_2 rfl ml_RX11_158 kX11_machineOf (t_X11_machineOf H0 ec1) (H0.ob (H0.fo rfl rfl) (by decide)) rfl rfl rfl (Nat.le_of_ble_eq_true rfl) (rokD (by omega) (Nat.le_of_ble_eq_true rfl) (Nat.le_of_ble_eq_true rfl) (Nat.le_of_ble_eq_true rfl)) rfl rfl (fun _ h1 q1 => ?_)
    obtain ⟨rfl, rfl, oo1⟩ := q1
    show AW _ _ _ _ _ (Value.null :: _) _ _ _
    refine aw_astore_n (lv' := [_, _, _, _, _]) (pc' := 6) dX11_speed_5 rfl (Nat.le_of_ble_eq_true rfl) rfl rfl ?_
    refine aw_aload_n (pc' := 7) dX11_speed_6 rfl rfl rfl ?_
    refine aw_ifnull_n (tgt := 22) dX11_speed_7 (by decide) ?_
    refine aw_iconst (v := (-1)) (pc' := 23) dX11_speed_22 rfl ic_m1 ?_
    obtain ⟨rfl, rfl⟩ := so2 hf
    exact aw_ri dX11_speed_23 rfl rfl (Nat.le_of_ble_eq_true rfl) (Nat.le_of_ble_eq_true rfl) ⟨rfl, H0, (Mo.rf _)⟩
  · refine aw_callVa (M' := mX11_machineOf) (nc' := 0) (ns' := 0) (pc' := 5) dX11_speed_2 rfl ml_RX11_158 kX11_machineOf (t_X11_machineOf H0 ec1) (H0.ob (H0.fo rfl rfl) (by decide)) rfl rfl rfl (Nat.le_of_ble_eq_true rfl) (rokD (by omega) (Nat.le_of_ble_eq_true rfl) (Nat.le_of_ble_eq_true rfl) (Nat.le_of_ble_eq_true rfl)) rfl rfl (fun _ h1 q1 => ?_)
    obtain ⟨rfl, rfl, oo1⟩ := q1
    show AW _ _ _ _ _ (Value.ref (p1 + 8) :: _) _ _ _
    have o_p1 : okM p1 := oo1 _ rfl
    refine aw_astore_n (lv' := [_, _, _, _, _]) (pc' := 6) dX11_speed_5 rfl (Nat.le_of_ble_eq_true rfl) rfl rfl ?_
    refine aw_aload_n (pc' := 7) dX11_speed_6 rfl rfl rfl ?_
    refine aw_ifnull_r (pc' := 10) dX11_speed_7 rfl ?_
    refine aw_iload_n (pc' := 11) dX11_speed_10 rfl rfl ?_
    refine aw_bipush (v := 10) (pc' := 13) dX11_speed_11 rfl bp_10 ?_
    refine aw_clt (tgt := 22) (pc' := 16) dX11_speed_13 rfl rfl (fun c2 => ?_) (fun c2 => ?_)
    · replace hf := ifp c2 hf
      refine aw_iconst (v := (-1)) (pc' := 23) dX11_speed_22 rfl ic_m1 ?_
      obtain ⟨rfl, rfl⟩ := so2 hf
      exact aw_ri dX11_speed_23 rfl rfl (Nat.le_of_ble_eq_true rfl) (Nat.le_of_ble_eq_true rfl) ⟨rfl, H0, (Mo.rf _)⟩
    · replace hf := ifn c2 hf
      refine aw_iload_n (pc' := 17) dX11_speed_16 rfl rfl ?_
      refine aw_bipush (v := 60) (pc' := 19) dX11_speed_17 rfl bp_60 ?_
      refine aw_cle (tgt := 24) (pc' := 22) dX11_speed_19 rfl rfl (fun c3 => ?_) (fun c3 => ?_)
      · replace hf := ifn c3 hf
        refine aw_aload_n (pc' := 25) dX11_speed_24 rfl rfl rfl ?_
        refine aw_gi (q := p1) (pc' := 28) H0 (okM.ob o_p1 H0) (by decide) rfl dX11_speed_25 rfl fl_RX11_162 ?_
        obtain ⟨v4, ev4, hf⟩ := vl_e hf
        refine aw_topi ev4 ?_
        refine aw_istore (lv' := [_, _, _, _, _]) (pc' := 30) dX11_speed_28 rfl (Nat.le_of_ble_eq_true rfl) rfl ?_
        refine aw_aload_n (pc' := 31) dX11_speed_30 rfl rfl rfl ?_
        refine aw_iload_n (pc' := 32) dX11_speed_31 rfl rfl ?_
        obtain ⟨s5, es5, hf⟩ := st_e hf
        refine aw_pi (q := p1) (pc' := 35) es5 H0 (okM.ob o_p1 H0) (by decide) rfl dX11_speed_32 rfl fl_RX11_162 rfl (fun h5 H5 => ?_)
        have m5 := Mo.ofS es5
        refine aw_iload (pc' := 37) dX11_speed_35 rfl rfl ?_
        obtain ⟨rfl, rfl⟩ := so2 hf
        exact aw_ri dX11_speed_37 rfl rfl (Nat.le_of_ble_eq_true rfl) (Nat.le_of_ble_eq_true rfl) ⟨rfl, H5, m5⟩
      · replace hf := ifp c3 hf
        refine aw_iconst (v := (-1)) (pc' := 23) dX11_speed_22 rfl ic_m1 ?_
        obtain ⟨rfl, rfl⟩ := so2 hf
        exact aw_ri dX11_speed_23 rfl rfl (Nat.le_of_ble_eq_true rfl) (Nat.le_of_ble_eq_true rfl) ⟨rfl, H0, (Mo.rf _)⟩
/-! ThirtyThreeBelow.set -/
noncomputable def f_X11_set_L32_b (q0 : Option (Int32 × SS)) (sb : SS) (y1 : Int32) (y2 : Int32) (p3 : Nat) (rc : Int32 → Option (Int32 × SS)) (x4 : Int32) : Option (Int32 × SS) := (if x4 < (3 : Int32) then (jn ((vl (x4 + 1) fun v5 => (rc v5))) fun k4 => (if x4 = y1 then k4 else (if y2 = ((-1) : Int32) then k4 else (gd (inB x4 3) (on (zR sb 19 (x4.toInt.toNat)) none fun p10 => (if (zS sb p10 1) = y2 then some ((-2000000000), sb) else k4)))))) else q0)
noncomputable def f_X11_set_L32 (q0 : Option (Int32 × SS)) (sb : SS) (y1 : Int32) (y2 : Int32) (p3 : Nat) : Nat → Int32 → Option (Int32 × SS)
  | 0, _ => none
  | n + 1, x4 => f_X11_set_L32_b q0 sb y1 y2 p3 (f_X11_set_L32 q0 sb y1 y2 p3 n) x4
set_option maxRecDepth 4000 in
theorem t_X11_set_L32 {r9 : Int32} {s0 sb s9 : SS} {hb : List aE} {q0 : Option (Int32 × SS)} {y1 : Int32} {y2 : Int32} {p3 : Nat} (Hb : HH sb hb) (mb : Mo s0 sb) (o_p3 : okM p3) (hq0 : q0 = some (r9, s9) → AW mX11_set (rmD (1) 0 0) (fin (PI fun r' h' => r9 = r' ∧ HH s9 h' ∧ Mo s0 s9) 0 0) 72 [none, none, some (.int y2), some (.ref (p3 + 8)), none] [] hb 0 0) : ∀ (n : Nat) (x4 : Int32), f_X11_set_L32 q0 sb y1 y2 p3 n x4 = some (r9, s9) → AW mX11_set (rmD (1) 0 0) (fin (PI fun r' h' => r9 = r' ∧ HH s9 h' ∧ Mo s0 s9) 0 0) 32 [some (.ref 8), some (.int y1), some (.int y2), some (.ref (p3 + 8)), some (.int x4)] [] hb 0 0 := by
  intro n
  induction n with
  | zero =>
    intro x4 hf
    cases hf
  | succ n ih =>
    intro x4 hf
    replace hf : f_X11_set_L32_b q0 sb y1 y2 p3 (f_X11_set_L32 q0 sb y1 y2 p3 n) x4 = some (r9, s9) := hf
    unfold f_X11_set_L32_b at hf
    refine aw_iload (pc' := 34) dX11_set_32 rfl rfl ?_
    refine aw_iconst (v := 3) (pc' := 35) dX11_set_34 rfl ic_3 ?_
    refine aw_cge (tgt := 72) (pc' := 38) dX11_set_35 rfl rfl (fun c3 => ?_) (fun c3 => ?_)
    · replace hf := ifn c3 hf
      refine AW.lv_le (lz_d (lz_d (lz_k (lz_k (lz_d lz_0))))) ?_
      exact hq0  hf
    · replace hf := ifp c3 hf
      refine aw_iload (pc' := 40) dX11_set_38 rfl rfl ?_
      refine aw_iload_n (pc' := 41) dX11_set_40 rfl rfl ?_
      obtain ⟨k4, ek4, hf⟩ := jn_e hf
      have hk4 : k4 = some (r9, s9) → AW mX11_set (rmD (1) 0 0) (fin (PI fun r' h' => r9 = r' ∧ HH s9 h' ∧ Mo s0 s9) 0 0) 66 [some (.ref 8), some (.int y1), some (.int y2), some (.ref (p3 + 8)), some (.int x4)] [] hb 0 0 := by
        intro hf
        subst ek4
        obtain ⟨v5, ev5, hf⟩ := vl_e hf
        refine aw_iincV (y := v5) (lv' := [_, _, _, _, _]) (pc' := 69) dX11_set_66 rfl rfl (Nat.le_of_ble_eq_true rfl) ev5 rfl ?_
        refine aw_goto (tgt := 32) dX11_set_69 rfl ?_
        exact ih _ hf
      clear ek4
      refine aw_icmp_eq (tgt := 66) (pc' := 44) dX11_set_41 rfl rfl (fun c6 => ?_) (fun c6 => ?_)
      · replace hf := ifp c6 hf
        exact hk4  hf
      · replace hf := ifn c6 hf
        refine aw_iload_n (pc' := 45) dX11_set_44 rfl rfl ?_
        refine aw_iconst (v := (-1)) (pc' := 46) dX11_set_45 rfl ic_m1 ?_
        refine aw_icmp_eq (tgt := 66) (pc' := 49) dX11_set_46 rfl rfl (fun c7 => ?_) (fun c7 => ?_)
        · replace hf := ifp c7 hf
          exact hk4  hf
        · replace hf := ifn c7 hf
          refine aw_aload_n (pc' := 50) dX11_set_49 rfl rfl rfl ?_
          refine aw_gr (q := 0) (e := 39) (v := .ref 27) (pc' := 53) Hb (Hb.fo rfl rfl) (by decide) rfl rfl dX11_set_50 rfl fl_RX11_34 ?_
          refine aw_iload (pc' := 55) dX11_set_53 rfl rfl ?_
          obtain ⟨g8, hf⟩ := gd_e hf
          replace hf := on_e hf
          rcases hf with ⟨eo10, hf⟩ | ⟨p10, eo10, hf⟩
          · refine aw_ra_ (q := 19) (t := 5) (pc' := 56) Hb (Hb.fa rfl rfl rfl) (by decide) (by decide) rfl g8 eo10 dX11_set_55 rfl ?_
            show AW _ _ _ _ _ (Value.null :: _) _ _ _
            cases hf
          · refine aw_ra_ (q := 19) (t := 5) (pc' := 56) Hb (Hb.fa rfl rfl rfl) (by decide) (by decide) rfl g8 eo10 dX11_set_55 rfl ?_
            show AW _ _ _ _ _ (Value.ref (p10 + 8) :: _) _ _ _
            have o_p10 : okM p10 := (ok4 Hb g8 eo10)
            refine aw_gi (q := p10) (pc' := 59) Hb (okM.ob o_p10 Hb) (by decide) rfl dX11_set_56 rfl fl_RX11_165 ?_
            refine aw_iload_n (pc' := 60) dX11_set_59 rfl rfl ?_
            refine aw_icmp_ne (tgt := 66) (pc' := 63) dX11_set_60 rfl rfl (fun c11 => ?_) (fun c11 => ?_)
            · replace hf := ifn c11 hf
              exact hk4  hf
            · replace hf := ifp c11 hf
              refine aw_ldc (pc' := 65) dX11_set_63 rfl ct_RX11_138 ?_
              obtain ⟨rfl, rfl⟩ := so2 hf
              exact aw_ri dX11_set_65 rfl rfl (Nat.le_of_ble_eq_true rfl) (Nat.le_of_ble_eq_true rfl) ⟨rfl, Hb, mb⟩
noncomputable def f_X11_set (s0 : SS) (a0 : Int32) (a1 : Int32) : Option (Int32 × SS) := (b1 (f_X11_machineOf s0 a0) fun r1 => (on r1 (some ((-2000000000), s0)) fun p1 => (jn ((f_X11_set_L32 (vl ((zS s0 p1 1)) fun v13 => (st (pS s0 p1 1 a1) fun s14 => some (v13, s14))) s0 a0 a1 p1 4000 0)) fun k2 => (if a1 = ((-1) : Int32) then k2 else (b1 (f_X0_holeOf s0 a1) fun r16 => (on r16 (some ((-2000000000), s0)) fun p16 => k2))))))
set_option maxRecDepth 4000 in
theorem t_X11_set {r9 : Int32} {s0 s9 : SS} {h0 : List aE} {a0 : Int32} {a1 : Int32} (H0 : HH s0 h0) (hf : f_X11_set s0 a0 a1 = some (r9, s9)) : AM mX11_set (1) [.ref 8, .int a0, .int a1] h0 0 0 (PI fun r' h' => r9 = r' ∧ HH s9 h' ∧ Mo s0 s9) := by
  unfold f_X11_set at hf
  refine am_of (lv := [some (.ref 8), some (.int a0), some (.int a1), none, none]) rfl (Nat.le_of_ble_eq_true rfl) rfl ?_
  refine aw_aload_n (pc' := 1) dX11_set_0 rfl rfl rfl ?_
  refine aw_iload_n (pc' := 2) dX11_set_1 rfl rfl ?_
  obtain ⟨r1, ec1, hf⟩ := b1_e hf
  replace hf := on_e hf
  rcases hf with ⟨rfl, hf⟩ | ⟨p1, rfl, hf⟩
  · refine aw_callVa (M' := mX11_machineOf) (nc' := 0) (ns' := 0) (pc' := 5) dX11_set_2 rfl ml_RX11_158 kX11_machineOf (t_X11_machineOf H0 ec1) (H0.ob (H0.fo rfl rfl) (by decide)) rfl rfl rfl (Nat.le_of_ble_eq_true rfl) (rokD (by omega) (Nat.le_of_ble_eq_true rfl) (Nat.le_of_ble_eq_true rfl) (Nat.le_of_ble_eq_true rfl)) rfl rfl (fun _ h1 q1 => ?_)
    obtain ⟨rfl, rfl, oo1⟩ := q1
    show AW _ _ _ _ _ (Value.null :: _) _ _ _
    refine aw_astore_n (lv' := [_, _, _, _, _]) (pc' := 6) dX11_set_5 rfl (Nat.le_of_ble_eq_true rfl) rfl rfl ?_
    refine aw_aload_n (pc' := 7) dX11_set_6 rfl rfl rfl ?_
    refine aw_ifnull_n (tgt := 26) dX11_set_7 (by decide) ?_
    refine aw_ldc (pc' := 28) dX11_set_26 rfl ct_RX11_138 ?_
    obtain ⟨rfl, rfl⟩ := so2 hf
    exact aw_ri dX11_set_28 rfl rfl (Nat.le_of_ble_eq_true rfl) (Nat.le_of_ble_eq_true rfl) ⟨rfl, H0, (Mo.rf _)⟩
  · refine aw_callVa (M' := mX11_machineOf) (nc' := 0) (ns' := 0) (pc' := 5) dX11_set_2 rfl ml_RX11_158 kX11_machineOf (t_X11_machineOf H0 ec1) (H0.ob (H0.fo rfl rfl) (by decide)) rfl rfl rfl (Nat.le_of_ble_eq_true rfl) (rokD (by omega) (Nat.le_of_ble_eq_true rfl) (Nat.le_of_ble_eq_true rfl) (Nat.le_of_ble_eq_true rfl)) rfl rfl (fun _ h1 q1 => ?_)
    obtain ⟨rfl, rfl, oo1⟩ := q1
    show AW _ _ _ _ _ (Value.ref (p1 + 8) :: _) _ _ _
    have o_p1 : okM p1 := oo1 _ rfl
    refine aw_astore_n (lv' := [_, _, _, _, _]) (pc' := 6) dX11_set_5 rfl (Nat.le_of_ble_eq_true rfl) rfl rfl ?_
    refine aw_aload_n (pc' := 7) dX11_set_6 rfl rfl rfl ?_
    refine aw_ifnull_r (pc' := 10) dX11_set_7 rfl ?_
    refine aw_iload_n (pc' := 11) dX11_set_10 rfl rfl ?_
    refine aw_iconst (v := (-1)) (pc' := 12) dX11_set_11 rfl ic_m1 ?_
    obtain ⟨k2, ek2, hf⟩ := jn_e hf
    have hk2 : k2 = some (r9, s9) → AW mX11_set (rmD (1) 0 0) (fin (PI fun r' h' => r9 = r' ∧ HH s9 h' ∧ Mo s0 s9) 0 0) 29 [some (.ref 8), some (.int a0), some (.int a1), some (.ref (p1 + 8)), none] [] h0 0 0 := by
      intro hf
      subst ek2
      refine aw_iconst (v := 0) (pc' := 30) dX11_set_29 rfl ic_0 ?_
      refine aw_istore (lv' := [_, _, _, _, _]) (pc' := 32) dX11_set_30 rfl (Nat.le_of_ble_eq_true rfl) rfl ?_
      refine t_X11_set_L32 H0 (Mo.rf _) o_p1 (fun hf => ?_) 4000 _ hf
      refine aw_aload_n (pc' := 73) dX11_set_72 rfl rfl rfl ?_
      refine aw_gi (q := p1) (pc' := 76) H0 (okM.ob o_p1 H0) (by decide) rfl dX11_set_73 rfl fl_RX11_165 ?_
      obtain ⟨v13, ev13, hf⟩ := vl_e hf
      refine aw_topi ev13 ?_
      refine aw_istore (lv' := [_, _, _, _, _]) (pc' := 78) dX11_set_76 rfl (Nat.le_of_ble_eq_true rfl) rfl ?_
      refine aw_aload_n (pc' := 79) dX11_set_78 rfl rfl rfl ?_
      refine aw_iload_n (pc' := 80) dX11_set_79 rfl rfl ?_
      obtain ⟨s14, es14, hf⟩ := st_e hf
      refine aw_pi (q := p1) (pc' := 83) es14 H0 (okM.ob o_p1 H0) (by decide) rfl dX11_set_80 rfl fl_RX11_165 rfl (fun h14 H14 => ?_)
      have m14 := Mo.ofS es14
      refine aw_iload (pc' := 85) dX11_set_83 rfl rfl ?_
      obtain ⟨rfl, rfl⟩ := so2 hf
      exact aw_ri dX11_set_85 rfl rfl (Nat.le_of_ble_eq_true rfl) (Nat.le_of_ble_eq_true rfl) ⟨rfl, H14, m14⟩
    clear ek2
    refine aw_icmp_eq (tgt := 29) (pc' := 15) dX11_set_12 rfl rfl (fun c15 => ?_) (fun c15 => ?_)
    · replace hf := ifp c15 hf
      exact hk2  hf
    · replace hf := ifn c15 hf
      refine aw_aload_n (pc' := 16) dX11_set_15 rfl rfl rfl ?_
      refine aw_gr (q := 0) (e := 31) (v := .ref 23) (pc' := 19) H0 (H0.fo rfl rfl) (l13 rfl) rfl rfl dX11_set_16 rfl fl_RX11_28 ?_
      refine aw_iload_n (pc' := 20) dX11_set_19 rfl rfl ?_
      obtain ⟨r16, ec16, hf⟩ := b1_e hf
      replace hf := on_e hf
      rcases hf with ⟨rfl, hf⟩ | ⟨p16, rfl, hf⟩
      · refine aw_callVa (M' := mX0_holeOf) (nc' := 0) (ns' := 0) (pc' := 23) dX11_set_20 rfl ml_RX11_139 kX0_holeOf (t_X0_holeOf H0 ec16) (H0.ob (H0.fo rfl rfl) (by decide)) rfl rfl rfl (Nat.le_of_ble_eq_true rfl) (rokD (by omega) (Nat.le_of_ble_eq_true rfl) (Nat.le_of_ble_eq_true rfl) (Nat.le_of_ble_eq_true rfl)) rfl rfl (fun _ h16 q16 => ?_)
        obtain ⟨rfl, rfl, oo16⟩ := q16
        show AW _ _ _ _ _ (Value.null :: _) _ _ _
        refine aw_ifnonnull_n (pc' := 26) dX11_set_23 rfl ?_
        refine aw_ldc (pc' := 28) dX11_set_26 rfl ct_RX11_138 ?_
        obtain ⟨rfl, rfl⟩ := so2 hf
        exact aw_ri dX11_set_28 rfl rfl (Nat.le_of_ble_eq_true rfl) (Nat.le_of_ble_eq_true rfl) ⟨rfl, H0, (Mo.rf _)⟩
      · refine aw_callVa (M' := mX0_holeOf) (nc' := 0) (ns' := 0) (pc' := 23) dX11_set_20 rfl ml_RX11_139 kX0_holeOf (t_X0_holeOf H0 ec16) (H0.ob (H0.fo rfl rfl) (by decide)) rfl rfl rfl (Nat.le_of_ble_eq_true rfl) (rokD (by omega) (Nat.le_of_ble_eq_true rfl) (Nat.le_of_ble_eq_true rfl) (Nat.le_of_ble_eq_true rfl)) rfl rfl (fun _ h16 q16 => ?_)
        obtain ⟨rfl, rfl, oo16⟩ := q16
        show AW _ _ _ _ _ (Value.ref (p16 + 8) :: _) _ _ _
        have o_p16 : okH s0 p16 := oo16 _ rfl
        refine aw_ifnonnull_r (tgt := 29) dX11_set_23 (by decide) ?_
        exact hk2  hf
/-! ThirtyThreeBelow.breaks -/
noncomputable def f_X11_breaks (s0 : SS) (a0 : Int32) (a1 : Int32) : Option (Int32 × SS) := (b1 (f_X11_machineOf s0 a0) fun r1 => (on r1 (some ((-1), s0)) fun p1 => (if a1 < (zS s0 0 14) then some ((-1), s0) else (if (1699 : Int32) < a1 then some ((-1), s0) else (st (pS s0 p1 2 a1) fun s4 => some (1, s4))))))
set_option maxRecDepth 4000 in
theorem t_X11_breaks {r9 : Int32} {s0 s9 : SS} {h0 : List aE} {a0 : Int32} {a1 : Int32} (H0 : HH s0 h0) (hf : f_X11_breaks s0 a0 a1 = some (r9, s9)) : AM mX11_breaks (1) [.ref 8, .int a0, .int a1] h0 0 0 (PI fun r' h' => r9 = r' ∧ HH s9 h' ∧ Mo s0 s9) := by
  unfold f_X11_breaks at hf
  refine am_of (lv := [some (.ref 8), some (.int a0), some (.int a1), none]) rfl (Nat.le_of_ble_eq_true rfl) rfl ?_
  refine aw_aload_n (pc' := 1) dX11_breaks_0 rfl rfl rfl ?_
  refine aw_iload_n (pc' := 2) dX11_breaks_1 rfl rfl ?_
  obtain ⟨r1, ec1, hf⟩ := b1_e hf
  replace hf := on_e hf
  rcases hf with ⟨rfl, hf⟩ | ⟨p1, rfl, hf⟩
  · refine aw_callVa (M' := mX11_machineOf) (nc' := 0) (ns' := 0) (pc' := 5) dX11_breaks_2 rfl ml_RX11_158 kX11_machineOf (t_X11_machineOf H0 ec1) (H0.ob (H0.fo rfl rfl) (by decide)) rfl rfl rfl (Nat.le_of_ble_eq_true rfl) (rokD (by omega) (Nat.le_of_ble_eq_true rfl) (Nat.le_of_ble_eq_true rfl) (Nat.le_of_ble_eq_true rfl)) rfl rfl (fun _ h1 q1 => ?_)
    obtain ⟨rfl, rfl, oo1⟩ := q1
    show AW _ _ _ _ _ (Value.null :: _) _ _ _
    refine aw_astore_n (lv' := [_, _, _, _]) (pc' := 6) dX11_breaks_5 rfl (Nat.le_of_ble_eq_true rfl) rfl rfl ?_
    refine aw_aload_n (pc' := 7) dX11_breaks_6 rfl rfl rfl ?_
    refine aw_ifnull_n (tgt := 25) dX11_breaks_7 (by decide) ?_
    refine aw_iconst (v := (-1)) (pc' := 26) dX11_breaks_25 rfl ic_m1 ?_
    obtain ⟨rfl, rfl⟩ := so2 hf
    exact aw_ri dX11_breaks_26 rfl rfl (Nat.le_of_ble_eq_true rfl) (Nat.le_of_ble_eq_true rfl) ⟨rfl, H0, (Mo.rf _)⟩
  · refine aw_callVa (M' := mX11_machineOf) (nc' := 0) (ns' := 0) (pc' := 5) dX11_breaks_2 rfl ml_RX11_158 kX11_machineOf (t_X11_machineOf H0 ec1) (H0.ob (H0.fo rfl rfl) (by decide)) rfl rfl rfl (Nat.le_of_ble_eq_true rfl) (rokD (by omega) (Nat.le_of_ble_eq_true rfl) (Nat.le_of_ble_eq_true rfl) (Nat.le_of_ble_eq_true rfl)) rfl rfl (fun _ h1 q1 => ?_)
    obtain ⟨rfl, rfl, oo1⟩ := q1
    show AW _ _ _ _ _ (Value.ref (p1 + 8) :: _) _ _ _
    have o_p1 : okM p1 := oo1 _ rfl
    refine aw_astore_n (lv' := [_, _, _, _]) (pc' := 6) dX11_breaks_5 rfl (Nat.le_of_ble_eq_true rfl) rfl rfl ?_
    refine aw_aload_n (pc' := 7) dX11_breaks_6 rfl rfl rfl ?_
    refine aw_ifnull_r (pc' := 10) dX11_breaks_7 rfl ?_
    refine aw_iload_n (pc' := 11) dX11_breaks_10 rfl rfl ?_
    refine aw_aload_n (pc' := 12) dX11_breaks_11 rfl rfl rfl ?_
    refine aw_gi (q := 0) (pc' := 15) H0 (H0.fo rfl rfl) (l13 rfl) rfl dX11_breaks_12 rfl fl_RX11_168 ?_
    refine aw_clt (tgt := 25) (pc' := 18) dX11_breaks_15 rfl rfl (fun c2 => ?_) (fun c2 => ?_)
    · replace hf := ifp c2 hf
      refine aw_iconst (v := (-1)) (pc' := 26) dX11_breaks_25 rfl ic_m1 ?_
      obtain ⟨rfl, rfl⟩ := so2 hf
      exact aw_ri dX11_breaks_26 rfl rfl (Nat.le_of_ble_eq_true rfl) (Nat.le_of_ble_eq_true rfl) ⟨rfl, H0, (Mo.rf _)⟩
    · replace hf := ifn c2 hf
      refine aw_iload_n (pc' := 19) dX11_breaks_18 rfl rfl ?_
      refine aw_sipush (v := 1699) (pc' := 22) dX11_breaks_19 rfl sp_1699 ?_
      refine aw_cle (tgt := 27) (pc' := 25) dX11_breaks_22 rfl rfl (fun c3 => ?_) (fun c3 => ?_)
      · replace hf := ifn c3 hf
        refine aw_aload_n (pc' := 28) dX11_breaks_27 rfl rfl rfl ?_
        refine aw_iload_n (pc' := 29) dX11_breaks_28 rfl rfl ?_
        obtain ⟨s4, es4, hf⟩ := st_e hf
        refine aw_pi (q := p1) (pc' := 32) es4 H0 (okM.ob o_p1 H0) (by decide) rfl dX11_breaks_29 rfl fl_RX11_171 rfl (fun h4 H4 => ?_)
        have m4 := Mo.ofS es4
        refine aw_iconst (v := 1) (pc' := 33) dX11_breaks_32 rfl ic_1 ?_
        obtain ⟨rfl, rfl⟩ := so2 hf
        exact aw_ri dX11_breaks_33 rfl rfl (Nat.le_of_ble_eq_true rfl) (Nat.le_of_ble_eq_true rfl) ⟨rfl, H4, m4⟩
      · replace hf := ifp c3 hf
        refine aw_iconst (v := (-1)) (pc' := 26) dX11_breaks_25 rfl ic_m1 ?_
        obtain ⟨rfl, rfl⟩ := so2 hf
        exact aw_ri dX11_breaks_26 rfl rfl (Nat.le_of_ble_eq_true rfl) (Nat.le_of_ble_eq_true rfl) ⟨rfl, H0, (Mo.rf _)⟩
/-! ThirtyThreeBelow.yard -/
noncomputable def f_X11_yard (s0 : SS) (a0 : Int32) (a1 : Int32) : Option (Int32 × SS) := (b1 (f_X0_holeOf s0 a0) fun r1 => (on r1 (some ((-1), s0)) fun p1 => (if a1 < ((-2) : Int32) then some ((-1), s0) else (if (2 : Int32) < a1 then some ((-1), s0) else (if (zS s0 p1 6) = (0 : Int32) then (if (zS s0 p1 3) < (60 : Int32) then (vl (((zS s0 p1 3) + (1 : Int32))) fun v6 => (st (pS s0 p1 3 v6) fun s7 => (vl ((zS s7 p1 3)) fun v8 => (gd (inB v8 61) (st (pI s7 (p1 + 1) (v8.toInt.toNat) a1) fun s11 => some ((zS s11 p1 3), s11)))))) else some ((-3), s0)) else some ((-2), s0))))))
set_option maxRecDepth 4000 in
theorem t_X11_yard {r9 : Int32} {s0 s9 : SS} {h0 : List aE} {a0 : Int32} {a1 : Int32} (H0 : HH s0 h0) (hf : f_X11_yard s0 a0 a1 = some (r9, s9)) : AM mX11_yard (1) [.ref 8, .int a0, .int a1] h0 0 0 (PI fun r' h' => r9 = r' ∧ HH s9 h' ∧ Mo s0 s9) := by
  unfold f_X11_yard at hf
  refine am_of (lv := [some (.ref 8), some (.int a0), some (.int a1), none]) rfl (Nat.le_of_ble_eq_true rfl) rfl ?_
  refine aw_aload_n (pc' := 1) dX11_yard_0 rfl rfl rfl ?_
  refine aw_gr (q := 0) (e := 31) (v := .ref 23) (pc' := 4) H0 (H0.fo rfl rfl) (l13 rfl) rfl rfl dX11_yard_1 rfl fl_RX11_28 ?_
  refine aw_iload_n (pc' := 5) dX11_yard_4 rfl rfl ?_
  obtain ⟨r1, ec1, hf⟩ := b1_e hf
  replace hf := on_e hf
  rcases hf with ⟨rfl, hf⟩ | ⟨p1, rfl, hf⟩
  · refine aw_callVa (M' := mX0_holeOf) (nc' := 0) (ns' := 0) (pc' := 8) dX11_yard_5 rfl ml_RX11_139 kX0_holeOf (t_X0_holeOf H0 ec1) (H0.ob (H0.fo rfl rfl) (by decide)) rfl rfl rfl (Nat.le_of_ble_eq_true rfl) (rokD (by omega) (Nat.le_of_ble_eq_true rfl) (Nat.le_of_ble_eq_true rfl) (Nat.le_of_ble_eq_true rfl)) rfl rfl (fun _ h1 q1 => ?_)
    obtain ⟨rfl, rfl, oo1⟩ := q1
    show AW _ _ _ _ _ (Value.null :: _) _ _ _
    refine aw_astore_n (lv' := [_, _, _, _]) (pc' := 9) dX11_yard_8 rfl (Nat.le_of_ble_eq_true rfl) rfl rfl ?_
    refine aw_aload_n (pc' := 10) dX11_yard_9 rfl rfl rfl ?_
    refine aw_ifnull_n (tgt := 24) dX11_yard_10 (by decide) ?_
    refine aw_iconst (v := (-1)) (pc' := 25) dX11_yard_24 rfl ic_m1 ?_
    obtain ⟨rfl, rfl⟩ := so2 hf
    exact aw_ri dX11_yard_25 rfl rfl (Nat.le_of_ble_eq_true rfl) (Nat.le_of_ble_eq_true rfl) ⟨rfl, H0, (Mo.rf _)⟩
  · refine aw_callVa (M' := mX0_holeOf) (nc' := 0) (ns' := 0) (pc' := 8) dX11_yard_5 rfl ml_RX11_139 kX0_holeOf (t_X0_holeOf H0 ec1) (H0.ob (H0.fo rfl rfl) (by decide)) rfl rfl rfl (Nat.le_of_ble_eq_true rfl) (rokD (by omega) (Nat.le_of_ble_eq_true rfl) (Nat.le_of_ble_eq_true rfl) (Nat.le_of_ble_eq_true rfl)) rfl rfl (fun _ h1 q1 => ?_)
    obtain ⟨rfl, rfl, oo1⟩ := q1
    show AW _ _ _ _ _ (Value.ref (p1 + 8) :: _) _ _ _
    have o_p1 : okH s0 p1 := oo1 _ rfl
    refine aw_astore_n (lv' := [_, _, _, _]) (pc' := 9) dX11_yard_8 rfl (Nat.le_of_ble_eq_true rfl) rfl rfl ?_
    refine aw_aload_n (pc' := 10) dX11_yard_9 rfl rfl rfl ?_
    refine aw_ifnull_r (pc' := 13) dX11_yard_10 rfl ?_
    refine aw_iload_n (pc' := 14) dX11_yard_13 rfl rfl ?_
    refine aw_bipush (v := (-2)) (pc' := 16) dX11_yard_14 rfl bp_m2 ?_
    refine aw_clt (tgt := 24) (pc' := 19) dX11_yard_16 rfl rfl (fun c2 => ?_) (fun c2 => ?_)
    · replace hf := ifp c2 hf
      refine aw_iconst (v := (-1)) (pc' := 25) dX11_yard_24 rfl ic_m1 ?_
      obtain ⟨rfl, rfl⟩ := so2 hf
      exact aw_ri dX11_yard_25 rfl rfl (Nat.le_of_ble_eq_true rfl) (Nat.le_of_ble_eq_true rfl) ⟨rfl, H0, (Mo.rf _)⟩
    · replace hf := ifn c2 hf
      refine aw_iload_n (pc' := 20) dX11_yard_19 rfl rfl ?_
      refine aw_iconst (v := 2) (pc' := 21) dX11_yard_20 rfl ic_2 ?_
      refine aw_cle (tgt := 26) (pc' := 24) dX11_yard_21 rfl rfl (fun c3 => ?_) (fun c3 => ?_)
      · replace hf := ifn c3 hf
        refine aw_aload_n (pc' := 27) dX11_yard_26 rfl rfl rfl ?_
        refine aw_gi (q := p1) (pc' := 30) H0 (okH.ob o_p1) (by decide) rfl dX11_yard_27 rfl fl_RX11_174 ?_
        refine aw_if_eq (tgt := 36) (pc' := 33) dX11_yard_30 rfl rfl (fun c4 => ?_) (fun c4 => ?_)
        · replace hf := ifp c4 hf
          refine aw_aload_n (pc' := 37) dX11_yard_36 rfl rfl rfl ?_
          refine aw_gi (q := p1) (pc' := 40) H0 (okH.ob o_p1) (by decide) rfl dX11_yard_37 rfl fl_RX11_178 ?_
          refine aw_bipush (v := 60) (pc' := 42) dX11_yard_40 rfl bp_60 ?_
          refine aw_clt (tgt := 48) (pc' := 45) dX11_yard_42 rfl rfl (fun c5 => ?_) (fun c5 => ?_)
          · replace hf := ifp c5 hf
            refine aw_aload_n (pc' := 49) dX11_yard_48 rfl rfl rfl ?_
            refine aw_dup (pc' := 50) dX11_yard_49 rfl rfl ?_
            refine aw_gi (q := p1) (pc' := 53) H0 (okH.ob o_p1) (by decide) rfl dX11_yard_50 rfl fl_RX11_178 ?_
            refine aw_iconst (v := 1) (pc' := 54) dX11_yard_53 rfl ic_1 ?_
            refine aw_iadd (pc' := 55) dX11_yard_54 rfl ?_
            obtain ⟨v6, ev6, hf⟩ := vl_e hf
            refine aw_topi ev6 ?_
            obtain ⟨s7, es7, hf⟩ := st_e hf
            refine aw_pi (q := p1) (pc' := 58) es7 H0 (okH.ob o_p1) (by decide) rfl dX11_yard_55 rfl fl_RX11_178 rfl (fun h7 H7 => ?_)
            have m7 := Mo.ofS es7
            refine aw_aload_n (pc' := 59) dX11_yard_58 rfl rfl rfl ?_
            refine aw_gr (q := p1) (e := 3) (v := .ref (p1 + 1 + 8)) (pc' := 62) H7 (okH.ob (okH.mo o_p1 m7)) (by decide) rfl rfl dX11_yard_59 rfl fl_RX11_181 ?_
            refine aw_aload_n (pc' := 63) dX11_yard_62 rfl rfl rfl ?_
            refine aw_gi (q := p1) (pc' := 66) H7 (okH.ob (okH.mo o_p1 m7)) (by decide) rfl dX11_yard_63 rfl fl_RX11_178 ?_
            refine aw_iload_n (pc' := 67) dX11_yard_66 rfl rfl ?_
            obtain ⟨v8, ev8, hf⟩ := vl_e hf
            refine aw_sndi ev8 ?_
            obtain ⟨g10, hf⟩ := gd_e hf
            obtain ⟨s11, es11, hf⟩ := st_e hf
            refine aw_is (q := (p1 + 1)) (pc' := 68) es11 H7 (okH.a1 (okH.mo o_p1 m7)) g10 dX11_yard_67 rfl (fun h11 H11 => ?_)
            have m11 := Mo.ofI es11
            refine aw_aload_n (pc' := 69) dX11_yard_68 rfl rfl rfl ?_
            refine aw_gi (q := p1) (pc' := 72) H11 (okH.ob (okH.mo o_p1 (m7.tr m11))) (by decide) rfl dX11_yard_69 rfl fl_RX11_178 ?_
            obtain ⟨rfl, rfl⟩ := so2 hf
            exact aw_ri dX11_yard_72 rfl rfl (Nat.le_of_ble_eq_true rfl) (Nat.le_of_ble_eq_true rfl) ⟨rfl, H11, (m7.tr m11)⟩
          · replace hf := ifn c5 hf
            refine aw_bipush (v := (-3)) (pc' := 47) dX11_yard_45 rfl bp_m3 ?_
            obtain ⟨rfl, rfl⟩ := so2 hf
            exact aw_ri dX11_yard_47 rfl rfl (Nat.le_of_ble_eq_true rfl) (Nat.le_of_ble_eq_true rfl) ⟨rfl, H0, (Mo.rf _)⟩
        · replace hf := ifn c4 hf
          refine aw_bipush (v := (-2)) (pc' := 35) dX11_yard_33 rfl bp_m2 ?_
          obtain ⟨rfl, rfl⟩ := so2 hf
          exact aw_ri dX11_yard_35 rfl rfl (Nat.le_of_ble_eq_true rfl) (Nat.le_of_ble_eq_true rfl) ⟨rfl, H0, (Mo.rf _)⟩
      · replace hf := ifp c3 hf
        refine aw_iconst (v := (-1)) (pc' := 25) dX11_yard_24 rfl ic_m1 ?_
        obtain ⟨rfl, rfl⟩ := so2 hf
        exact aw_ri dX11_yard_25 rfl rfl (Nat.le_of_ble_eq_true rfl) (Nat.le_of_ble_eq_true rfl) ⟨rfl, H0, (Mo.rf _)⟩
/-! ThirtyThreeBelow.met -/
noncomputable def f_X11_met (s0 : SS) (a0 : Int32) (a1 : Int32) : Option Int32 := (b1 (f_X0_holeOf s0 a0) fun r1 => (on r1 (some (-1)) fun p1 => (if a1 < (1 : Int32) then some (-1) else (if (zS s0 p1 4) < a1 then some (-1) else (gd (inB a1 61) (some (zI s0 (p1 + 2) (a1.toInt.toNat))))))))
set_option maxRecDepth 4000 in
theorem t_X11_met {r9 : Int32} {s0 : SS} {h0 : List aE} {a0 : Int32} {a1 : Int32} (H0 : HH s0 h0) (hf : f_X11_met s0 a0 a1 = some r9) : AM mX11_met (1) [.ref 8, .int a0, .int a1] h0 0 0 (PI fun r' h' => r9 = r' ∧ h0 = h') := by
  unfold f_X11_met at hf
  refine am_of (lv := [some (.ref 8), some (.int a0), some (.int a1), none]) rfl (Nat.le_of_ble_eq_true rfl) rfl ?_
  refine aw_aload_n (pc' := 1) dX11_met_0 rfl rfl rfl ?_
  refine aw_gr (q := 0) (e := 31) (v := .ref 23) (pc' := 4) H0 (H0.fo rfl rfl) (l13 rfl) rfl rfl dX11_met_1 rfl fl_RX11_28 ?_
  refine aw_iload_n (pc' := 5) dX11_met_4 rfl rfl ?_
  obtain ⟨r1, ec1, hf⟩ := b1_e hf
  replace hf := on_e hf
  rcases hf with ⟨rfl, hf⟩ | ⟨p1, rfl, hf⟩
  · refine aw_callVa (M' := mX0_holeOf) (nc' := 0) (ns' := 0) (pc' := 8) dX11_met_5 rfl ml_RX11_139 kX0_holeOf (t_X0_holeOf H0 ec1) (H0.ob (H0.fo rfl rfl) (by decide)) rfl rfl rfl (Nat.le_of_ble_eq_true rfl) (rokD (by omega) (Nat.le_of_ble_eq_true rfl) (Nat.le_of_ble_eq_true rfl) (Nat.le_of_ble_eq_true rfl)) rfl rfl (fun _ h1 q1 => ?_)
    obtain ⟨rfl, rfl, oo1⟩ := q1
    show AW _ _ _ _ _ (Value.null :: _) _ _ _
    refine aw_astore_n (lv' := [_, _, _, _]) (pc' := 9) dX11_met_8 rfl (Nat.le_of_ble_eq_true rfl) rfl rfl ?_
    refine aw_aload_n (pc' := 10) dX11_met_9 rfl rfl rfl ?_
    refine aw_ifnull_n (tgt := 26) dX11_met_10 (by decide) ?_
    refine aw_iconst (v := (-1)) (pc' := 27) dX11_met_26 rfl ic_m1 ?_
    obtain rfl := Option.some.inj hf
    exact aw_ri dX11_met_27 rfl rfl (Nat.le_of_ble_eq_true rfl) (Nat.le_of_ble_eq_true rfl) ⟨rfl, rfl⟩
  · refine aw_callVa (M' := mX0_holeOf) (nc' := 0) (ns' := 0) (pc' := 8) dX11_met_5 rfl ml_RX11_139 kX0_holeOf (t_X0_holeOf H0 ec1) (H0.ob (H0.fo rfl rfl) (by decide)) rfl rfl rfl (Nat.le_of_ble_eq_true rfl) (rokD (by omega) (Nat.le_of_ble_eq_true rfl) (Nat.le_of_ble_eq_true rfl) (Nat.le_of_ble_eq_true rfl)) rfl rfl (fun _ h1 q1 => ?_)
    obtain ⟨rfl, rfl, oo1⟩ := q1
    show AW _ _ _ _ _ (Value.ref (p1 + 8) :: _) _ _ _
    have o_p1 : okH s0 p1 := oo1 _ rfl
    refine aw_astore_n (lv' := [_, _, _, _]) (pc' := 9) dX11_met_8 rfl (Nat.le_of_ble_eq_true rfl) rfl rfl ?_
    refine aw_aload_n (pc' := 10) dX11_met_9 rfl rfl rfl ?_
    refine aw_ifnull_r (pc' := 13) dX11_met_10 rfl ?_
    refine aw_iload_n (pc' := 14) dX11_met_13 rfl rfl ?_
    refine aw_iconst (v := 1) (pc' := 15) dX11_met_14 rfl ic_1 ?_
    refine aw_clt (tgt := 26) (pc' := 18) dX11_met_15 rfl rfl (fun c2 => ?_) (fun c2 => ?_)
    · replace hf := ifp c2 hf
      refine aw_iconst (v := (-1)) (pc' := 27) dX11_met_26 rfl ic_m1 ?_
      obtain rfl := Option.some.inj hf
      exact aw_ri dX11_met_27 rfl rfl (Nat.le_of_ble_eq_true rfl) (Nat.le_of_ble_eq_true rfl) ⟨rfl, rfl⟩
    · replace hf := ifn c2 hf
      refine aw_iload_n (pc' := 19) dX11_met_18 rfl rfl ?_
      refine aw_aload_n (pc' := 20) dX11_met_19 rfl rfl rfl ?_
      refine aw_gi (q := p1) (pc' := 23) H0 (okH.ob o_p1) (by decide) rfl dX11_met_20 rfl fl_RX11_184 ?_
      refine aw_cle (tgt := 28) (pc' := 26) dX11_met_23 rfl rfl (fun c3 => ?_) (fun c3 => ?_)
      · replace hf := ifn c3 hf
        refine aw_aload_n (pc' := 29) dX11_met_28 rfl rfl rfl ?_
        refine aw_gr (q := p1) (e := 5) (v := .ref (p1 + 2 + 8)) (pc' := 32) H0 (okH.ob o_p1) (by decide) rfl rfl dX11_met_29 rfl fl_RX11_187 ?_
        refine aw_iload_n (pc' := 33) dX11_met_32 rfl rfl ?_
        obtain ⟨g4, hf⟩ := gd_e hf
        refine aw_ia (q := (p1 + 2)) (pc' := 34) H0 (okH.a2 o_p1) g4 dX11_met_33 rfl ?_
        obtain rfl := Option.some.inj hf
        exact aw_ri dX11_met_34 rfl rfl (Nat.le_of_ble_eq_true rfl) (Nat.le_of_ble_eq_true rfl) ⟨rfl, rfl⟩
      · replace hf := ifp c3 hf
        refine aw_iconst (v := (-1)) (pc' := 27) dX11_met_26 rfl ic_m1 ?_
        obtain rfl := Option.some.inj hf
        exact aw_ri dX11_met_27 rfl rfl (Nat.le_of_ble_eq_true rfl) (Nat.le_of_ble_eq_true rfl) ⟨rfl, rfl⟩
/-! ThirtyThreeBelow.shelfOf -/
noncomputable def f_X11_shelfOf (s0 : SS) (a0 : Int32) : Option (Option Nat) := (if a0 < (0 : Int32) then some none else (if a0 < (6 : Int32) then (gd (inB a0 6) (on (zR s0 46 (a0.toInt.toNat)) (some none) fun p4 => some (some p4))) else some none))
set_option maxRecDepth 4000 in
theorem t_X11_shelfOf {r9 : Option Nat} {s0 : SS} {h0 : List aE} {a0 : Int32} (H0 : HH s0 h0) (hf : f_X11_shelfOf s0 a0 = some r9) : AM mX11_shelfOf (0) [.ref 8, .int a0] h0 0 0 (PA fun v h' => va_rf (r9.map (· + 8)) = v ∧ h0 = h' ∧ ∀ p, r9 = some p → okV p) := by
  unfold f_X11_shelfOf at hf
  refine am_of (lv := [some (.ref 8), some (.int a0)]) rfl (Nat.le_of_ble_eq_true rfl) rfl ?_
  refine aw_iload_n (pc' := 1) dX11_shelfOf_0 rfl rfl ?_
  refine aw_zlt (tgt := 10) (pc' := 4) dX11_shelfOf_1 rfl rfl (fun c1 => ?_) (fun c1 => ?_)
  · replace hf := ifp c1 hf
    refine aw_null (pc' := 11) dX11_shelfOf_10 rfl ?_
    refine aw_goto (tgt := 20) dX11_shelfOf_11 rfl ?_
    obtain rfl := Option.some.inj hf
    exact aw_ra (v := .null) dX11_shelfOf_20 rfl (Or.inl ⟨_, rfl⟩) rfl (Nat.le_of_ble_eq_true rfl) (Nat.le_of_ble_eq_true rfl) ⟨rfl, rfl, (fun _ z => by cases z)⟩
  · replace hf := ifn c1 hf
    refine aw_iload_n (pc' := 5) dX11_shelfOf_4 rfl rfl ?_
    refine aw_bipush (v := 6) (pc' := 7) dX11_shelfOf_5 rfl bp_6 ?_
    refine aw_clt (tgt := 14) (pc' := 10) dX11_shelfOf_7 rfl rfl (fun c2 => ?_) (fun c2 => ?_)
    · replace hf := ifp c2 hf
      refine aw_aload_n (pc' := 15) dX11_shelfOf_14 rfl rfl rfl ?_
      refine aw_gr (q := 0) (e := 93) (v := .ref 54) (pc' := 18) H0 (H0.fo rfl rfl) (l13 rfl) rfl rfl dX11_shelfOf_15 rfl fl_RX11_89 ?_
      refine aw_iload_n (pc' := 19) dX11_shelfOf_18 rfl rfl ?_
      obtain ⟨g3, hf⟩ := gd_e hf
      replace hf := on_e hf
      rcases hf with ⟨eo4, hf⟩ | ⟨p4, eo4, hf⟩
      · refine aw_ra_ (q := 46) (t := 8) (pc' := 20) H0 (H0.fa rfl rfl rfl) (by decide) (by decide) rfl g3 eo4 dX11_shelfOf_19 rfl ?_
        show AW _ _ _ _ _ (Value.null :: _) _ _ _
        obtain rfl := Option.some.inj hf
        exact aw_ra (v := .null) dX11_shelfOf_20 rfl (Or.inl ⟨_, rfl⟩) rfl (Nat.le_of_ble_eq_true rfl) (Nat.le_of_ble_eq_true rfl) ⟨rfl, rfl, (fun _ z => by cases z)⟩
      · refine aw_ra_ (q := 46) (t := 8) (pc' := 20) H0 (H0.fa rfl rfl rfl) (by decide) (by decide) rfl g3 eo4 dX11_shelfOf_19 rfl ?_
        show AW _ _ _ _ _ (Value.ref (p4 + 8) :: _) _ _ _
        have o_p4 : okV p4 := (ok8 H0 g3 eo4)
        obtain rfl := Option.some.inj hf
        exact aw_ra (v := .ref (p4 + 8)) dX11_shelfOf_20 rfl (Or.inl ⟨_, rfl⟩) rfl (Nat.le_of_ble_eq_true rfl) (Nat.le_of_ble_eq_true rfl) ⟨rfl, rfl, (fun _ z => by cases z; exact o_p4)⟩
    · replace hf := ifn c2 hf
      refine aw_null (pc' := 11) dX11_shelfOf_10 rfl ?_
      refine aw_goto (tgt := 20) dX11_shelfOf_11 rfl ?_
      obtain rfl := Option.some.inj hf
      exact aw_ra (v := .null) dX11_shelfOf_20 rfl (Or.inl ⟨_, rfl⟩) rfl (Nat.le_of_ble_eq_true rfl) (Nat.le_of_ble_eq_true rfl) ⟨rfl, rfl, (fun _ z => by cases z)⟩
/-! ThirtyThreeBelow.log -/
noncomputable def f_X11_log (s0 : SS) (a0 : Int32) (a1 : Int32) (a2 : Int32) (a3 : Int32) (a4 : Int32) : Option (Int32 × SS) := (b1 (f_X0_holeOf s0 a0) fun r1 => (on r1 (b1 (f_X11_shelfOf s0 a1) fun r2 => (on r2 (some ((-1), s0)) fun p2 => some ((-1), s0))) fun p1 => (b1 (f_X11_shelfOf s0 a1) fun r3 => (on r3 (some ((-1), s0)) fun p3 => (b1 (f_X11_isYard a3) fun r4 => (if r4 = (0 : Int32) then some ((-1), s0) else (if a4 < (1 : Int32) then some ((-1), s0) else (if (60 : Int32) < a4 then some ((-1), s0) else (if (zS s0 p3 0) = (1 : Int32) then some ((-12), s0) else (jn ((bd (f_X3_logged s0 p1 p3 a2 a3 a4) fun r11 s11 => some (r11, s11))) fun k10 => (if (zS s0 p3 0) = (2 : Int32) then (b1 (f_X8_isReal s0 p3) fun r13 => (if r13 = (0 : Int32) then some ((-12), s0) else k10)) else k10)))))))))))
set_option maxRecDepth 4000 in
theorem t_X11_log {r9 : Int32} {s0 s9 : SS} {h0 : List aE} {a0 : Int32} {a1 : Int32} {a2 : Int32} {a3 : Int32} {a4 : Int32} (H0 : HH s0 h0) (hf : f_X11_log s0 a0 a1 a2 a3 a4 = some (r9, s9)) : AM mX11_log (3) [.ref 8, .int a0, .int a1, .int a2, .int a3, .int a4] h0 0 0 (PI fun r' h' => r9 = r' ∧ HH s9 h' ∧ Mo s0 s9) := by
  unfold f_X11_log at hf
  refine am_of (lv := [some (.ref 8), some (.int a0), some (.int a1), some (.int a2), some (.int a3), some (.int a4), none, none]) rfl (Nat.le_of_ble_eq_true rfl) rfl ?_
  refine aw_aload_n (pc' := 1) dX11_log_0 rfl rfl rfl ?_
  refine aw_gr (q := 0) (e := 31) (v := .ref 23) (pc' := 4) H0 (H0.fo rfl rfl) (l13 rfl) rfl rfl dX11_log_1 rfl fl_RX11_28 ?_
  refine aw_iload_n (pc' := 5) dX11_log_4 rfl rfl ?_
  obtain ⟨r1, ec1, hf⟩ := b1_e hf
  replace hf := on_e hf
  rcases hf with ⟨rfl, hf⟩ | ⟨p1, rfl, hf⟩
  · refine aw_callVa (M' := mX0_holeOf) (nc' := 0) (ns' := 0) (pc' := 8) dX11_log_5 rfl ml_RX11_139 kX0_holeOf (t_X0_holeOf H0 ec1) (H0.ob (H0.fo rfl rfl) (by decide)) rfl rfl rfl (Nat.le_of_ble_eq_true rfl) (rokD (by omega) (Nat.le_of_ble_eq_true rfl) (Nat.le_of_ble_eq_true rfl) (Nat.le_of_ble_eq_true rfl)) rfl rfl (fun _ h1 q1 => ?_)
    obtain ⟨rfl, rfl, oo1⟩ := q1
    show AW _ _ _ _ _ (Value.null :: _) _ _ _
    refine aw_astore (lv' := [_, _, _, _, _, _, _, _]) (pc' := 10) dX11_log_8 rfl (Nat.le_of_ble_eq_true rfl) rfl rfl ?_
    refine aw_aload_n (pc' := 11) dX11_log_10 rfl rfl rfl ?_
    refine aw_iload_n (pc' := 12) dX11_log_11 rfl rfl ?_
    obtain ⟨r2, ec2, hf⟩ := b1_e hf
    replace hf := on_e hf
    rcases hf with ⟨rfl, hf⟩ | ⟨p2, rfl, hf⟩
    · refine aw_callVa (M' := mX11_shelfOf) (nc' := 0) (ns' := 0) (pc' := 15) dX11_log_12 rfl ml_RX11_190 kX11_shelfOf (t_X11_shelfOf H0 ec2) (H0.ob (H0.fo rfl rfl) (by decide)) rfl rfl rfl (Nat.le_of_ble_eq_true rfl) (rokD (by omega) (Nat.le_of_ble_eq_true rfl) (Nat.le_of_ble_eq_true rfl) (Nat.le_of_ble_eq_true rfl)) rfl rfl (fun _ h2 q2 => ?_)
      obtain ⟨rfl, rfl, oo2⟩ := q2
      show AW _ _ _ _ _ (Value.null :: _) _ _ _
      refine aw_astore (lv' := [_, _, _, _, _, _, _, _]) (pc' := 17) dX11_log_15 rfl (Nat.le_of_ble_eq_true rfl) rfl rfl ?_
      refine aw_aload (pc' := 19) dX11_log_17 rfl rfl rfl ?_
      refine aw_ifnull_n (tgt := 48) dX11_log_19 (by decide) ?_
      refine aw_iconst (v := (-1)) (pc' := 49) dX11_log_48 rfl ic_m1 ?_
      obtain ⟨rfl, rfl⟩ := so2 hf
      exact aw_ri dX11_log_49 rfl rfl (Nat.le_of_ble_eq_true rfl) (Nat.le_of_ble_eq_true rfl) ⟨rfl, H0, (Mo.rf _)⟩
    · refine aw_callVa (M' := mX11_shelfOf) (nc' := 0) (ns' := 0) (pc' := 15) dX11_log_12 rfl ml_RX11_190 kX11_shelfOf (t_X11_shelfOf H0 ec2) (H0.ob (H0.fo rfl rfl) (by decide)) rfl rfl rfl (Nat.le_of_ble_eq_true rfl) (rokD (by omega) (Nat.le_of_ble_eq_true rfl) (Nat.le_of_ble_eq_true rfl) (Nat.le_of_ble_eq_true rfl)) rfl rfl (fun _ h2 q2 => ?_)
      obtain ⟨rfl, rfl, oo2⟩ := q2
      show AW _ _ _ _ _ (Value.ref (p2 + 8) :: _) _ _ _
      have o_p2 : okV p2 := oo2 _ rfl
      refine aw_astore (lv' := [_, _, _, _, _, _, _, _]) (pc' := 17) dX11_log_15 rfl (Nat.le_of_ble_eq_true rfl) rfl rfl ?_
      refine aw_aload (pc' := 19) dX11_log_17 rfl rfl rfl ?_
      refine aw_ifnull_n (tgt := 48) dX11_log_19 (by decide) ?_
      refine aw_iconst (v := (-1)) (pc' := 49) dX11_log_48 rfl ic_m1 ?_
      obtain ⟨rfl, rfl⟩ := so2 hf
      exact aw_ri dX11_log_49 rfl rfl (Nat.le_of_ble_eq_true rfl) (Nat.le_of_ble_eq_true rfl) ⟨rfl, H0, (Mo.rf _)⟩
  · refine aw_callVa (M' := mX0_holeOf) (nc' := 0) (ns' := 0) (pc' := 8) dX11_log_5 rfl ml_RX11_139 kX0_holeOf (t_X0_holeOf H0 ec1) (H0.ob (H0.fo rfl rfl) (by decide)) rfl rfl rfl (Nat.le_of_ble_eq_true rfl) (rokD (by omega) (Nat.le_of_ble_eq_true rfl) (Nat.le_of_ble_eq_true rfl) (Nat.le_of_ble_eq_true rfl)) rfl rfl (fun _ h1 q1 => ?_)
    obtain ⟨rfl, rfl, oo1⟩ := q1
    show AW _ _ _ _ _ (Value.ref (p1 + 8) :: _) _ _ _
    have o_p1 : okH s0 p1 := oo1 _ rfl
    refine aw_astore (lv' := [_, _, _, _, _, _, _, _]) (pc' := 10) dX11_log_8 rfl (Nat.le_of_ble_eq_true rfl) rfl rfl ?_
    refine aw_aload_n (pc' := 11) dX11_log_10 rfl rfl rfl ?_
    refine aw_iload_n (pc' := 12) dX11_log_11 rfl rfl ?_
    obtain ⟨r3, ec3, hf⟩ := b1_e hf
    replace hf := on_e hf
    rcases hf with ⟨rfl, hf⟩ | ⟨p3, rfl, hf⟩
    · refine aw_callVa (M' := mX11_shelfOf) (nc' := 0) (ns' := 0) (pc' := 15) dX11_log_12 rfl ml_RX11_190 kX11_shelfOf (t_X11_shelfOf H0 ec3) (H0.ob (H0.fo rfl rfl) (by decide)) rfl rfl rfl (Nat.le_of_ble_eq_true rfl) (rokD (by omega) (Nat.le_of_ble_eq_true rfl) (Nat.le_of_ble_eq_true rfl) (Nat.le_of_ble_eq_true rfl)) rfl rfl (fun _ h3 q3 => ?_)
      obtain ⟨rfl, rfl, oo3⟩ := q3
      show AW _ _ _ _ _ (Value.null :: _) _ _ _
      refine aw_astore (lv' := [_, _, _, _, _, _, _, _]) (pc' := 17) dX11_log_15 rfl (Nat.le_of_ble_eq_true rfl) rfl rfl ?_
      refine aw_aload (pc' := 19) dX11_log_17 rfl rfl rfl ?_
      refine aw_ifnull_r (pc' := 22) dX11_log_19 rfl ?_
      refine aw_aload (pc' := 24) dX11_log_22 rfl rfl rfl ?_
      refine aw_ifnull_n (tgt := 48) dX11_log_24 (by decide) ?_
      refine aw_iconst (v := (-1)) (pc' := 49) dX11_log_48 rfl ic_m1 ?_
      obtain ⟨rfl, rfl⟩ := so2 hf
      exact aw_ri dX11_log_49 rfl rfl (Nat.le_of_ble_eq_true rfl) (Nat.le_of_ble_eq_true rfl) ⟨rfl, H0, (Mo.rf _)⟩
    · refine aw_callVa (M' := mX11_shelfOf) (nc' := 0) (ns' := 0) (pc' := 15) dX11_log_12 rfl ml_RX11_190 kX11_shelfOf (t_X11_shelfOf H0 ec3) (H0.ob (H0.fo rfl rfl) (by decide)) rfl rfl rfl (Nat.le_of_ble_eq_true rfl) (rokD (by omega) (Nat.le_of_ble_eq_true rfl) (Nat.le_of_ble_eq_true rfl) (Nat.le_of_ble_eq_true rfl)) rfl rfl (fun _ h3 q3 => ?_)
      obtain ⟨rfl, rfl, oo3⟩ := q3
      show AW _ _ _ _ _ (Value.ref (p3 + 8) :: _) _ _ _
      have o_p3 : okV p3 := oo3 _ rfl
      refine aw_astore (lv' := [_, _, _, _, _, _, _, _]) (pc' := 17) dX11_log_15 rfl (Nat.le_of_ble_eq_true rfl) rfl rfl ?_
      refine aw_aload (pc' := 19) dX11_log_17 rfl rfl rfl ?_
      refine aw_ifnull_r (pc' := 22) dX11_log_19 rfl ?_
      refine aw_aload (pc' := 24) dX11_log_22 rfl rfl rfl ?_
      refine aw_ifnull_r (pc' := 27) dX11_log_24 rfl ?_
      refine aw_iload (pc' := 29) dX11_log_27 rfl rfl ?_
      obtain ⟨r4, ec4, hf⟩ := b1_e hf
      refine aw_callSi (M' := mX11_isYard) (nc' := 0) (ns' := 0) (pc' := 32) dX11_log_29 rfl ml_RX11_122 kX11_isYard (t_X11_isYard ec4) rfl rfl (Nat.le_of_ble_eq_true rfl) (rokD (by omega) (Nat.le_of_ble_eq_true rfl) (Nat.le_of_ble_eq_true rfl) (Nat.le_of_ble_eq_true rfl)) rfl rfl (fun _ h4 q4 => ?_)
      obtain ⟨rfl, rfl, zb4⟩ := q4
      refine aw_if_eq (tgt := 48) (pc' := 35) dX11_log_32 rfl rfl (fun c5 => ?_) (fun c5 => ?_)
      · replace hf := ifp c5 hf
        refine aw_iconst (v := (-1)) (pc' := 49) dX11_log_48 rfl ic_m1 ?_
        obtain ⟨rfl, rfl⟩ := so2 hf
        exact aw_ri dX11_log_49 rfl rfl (Nat.le_of_ble_eq_true rfl) (Nat.le_of_ble_eq_true rfl) ⟨rfl, H0, (Mo.rf _)⟩
      · replace hf := ifn c5 hf
        refine aw_iload (pc' := 37) dX11_log_35 rfl rfl ?_
        refine aw_iconst (v := 1) (pc' := 38) dX11_log_37 rfl ic_1 ?_
        refine aw_clt (tgt := 48) (pc' := 41) dX11_log_38 rfl rfl (fun c6 => ?_) (fun c6 => ?_)
        · replace hf := ifp c6 hf
          refine aw_iconst (v := (-1)) (pc' := 49) dX11_log_48 rfl ic_m1 ?_
          obtain ⟨rfl, rfl⟩ := so2 hf
          exact aw_ri dX11_log_49 rfl rfl (Nat.le_of_ble_eq_true rfl) (Nat.le_of_ble_eq_true rfl) ⟨rfl, H0, (Mo.rf _)⟩
        · replace hf := ifn c6 hf
          refine aw_iload (pc' := 43) dX11_log_41 rfl rfl ?_
          refine aw_bipush (v := 60) (pc' := 45) dX11_log_43 rfl bp_60 ?_
          refine aw_cle (tgt := 50) (pc' := 48) dX11_log_45 rfl rfl (fun c7 => ?_) (fun c7 => ?_)
          · replace hf := ifn c7 hf
            refine aw_aload (pc' := 52) dX11_log_50 rfl rfl rfl ?_
            refine aw_gi (q := p3) (pc' := 55) H0 (okV.ob o_p3 H0) (by decide) rfl dX11_log_52 rfl fl_RX11_194 ?_
            refine aw_iconst (v := 1) (pc' := 56) dX11_log_55 rfl ic_1 ?_
            refine aw_icmp_eq (tgt := 76) (pc' := 59) dX11_log_56 rfl rfl (fun c8 => ?_) (fun c8 => ?_)
            · replace hf := ifp c8 hf
              refine aw_bipush (v := (-12)) (pc' := 78) dX11_log_76 rfl bp_m12 ?_
              obtain ⟨rfl, rfl⟩ := so2 hf
              exact aw_ri dX11_log_78 rfl rfl (Nat.le_of_ble_eq_true rfl) (Nat.le_of_ble_eq_true rfl) ⟨rfl, H0, (Mo.rf _)⟩
            · replace hf := ifn c8 hf
              refine aw_aload (pc' := 61) dX11_log_59 rfl rfl rfl ?_
              refine aw_gi (q := p3) (pc' := 64) H0 (okV.ob o_p3 H0) (by decide) rfl dX11_log_61 rfl fl_RX11_194 ?_
              refine aw_iconst (v := 2) (pc' := 65) dX11_log_64 rfl ic_2 ?_
              obtain ⟨k10, ek10, hf⟩ := jn_e hf
              have hk10 : k10 = some (r9, s9) → AW mX11_log (rmD (3) 0 0) (fin (PI fun r' h' => r9 = r' ∧ HH s9 h' ∧ Mo s0 s9) 0 0) 79 [none, none, none, some (.int a2), some (.int a3), some (.int a4), some (.ref (p1 + 8)), some (.ref (p3 + 8))] [] h0 0 0 := by
                intro hf
                subst ek10
                refine aw_aload (pc' := 81) dX11_log_79 rfl rfl rfl ?_
                refine aw_aload (pc' := 83) dX11_log_81 rfl rfl rfl ?_
                refine aw_iload_n (pc' := 84) dX11_log_83 rfl rfl ?_
                refine aw_iload (pc' := 86) dX11_log_84 rfl rfl ?_
                refine aw_iload (pc' := 88) dX11_log_86 rfl rfl ?_
                obtain ⟨r11, s11, ec11, hf⟩ := bd_e hf
                refine aw_callVi (M' := mX3_logged) (nc' := 0) (ns' := 0) (pc' := 91) dX11_log_88 rfl ml_RX11_201 kX3_logged (t_X3_logged H0 o_p1 o_p3 ec11) (H0.ob (okH.ob o_p1) (by decide)) rfl rfl rfl (Nat.le_of_ble_eq_true rfl) (rokD (by omega) (Nat.le_of_ble_eq_true rfl) (Nat.le_of_ble_eq_true rfl) (Nat.le_of_ble_eq_true rfl)) rfl rfl (fun _ h11 q11 => ?_)
                obtain ⟨rfl, H11, m11⟩ := q11
                obtain ⟨rfl, rfl⟩ := so2 hf
                exact aw_ri dX11_log_91 rfl rfl (Nat.le_of_ble_eq_true rfl) (Nat.le_of_ble_eq_true rfl) ⟨rfl, H11, m11⟩
              clear ek10
              refine aw_icmp_ne (tgt := 79) (pc' := 68) dX11_log_65 rfl rfl (fun c12 => ?_) (fun c12 => ?_)
              · replace hf := ifn c12 hf
                refine AW.lv_le (lz_d (lz_d (lz_d (lz_k (lz_k (lz_k (lz_k (lz_k lz_0)))))))) ?_
                exact hk10  hf
              · replace hf := ifp c12 hf
                refine aw_aload (pc' := 70) dX11_log_68 rfl rfl rfl ?_
                obtain ⟨r13, ec13, hf⟩ := b1_e hf
                refine aw_callVi (M' := mX8_isReal) (nc' := 0) (ns' := 0) (pc' := 73) dX11_log_70 rfl ml_RX11_197 kX8_isReal (t_X8_isReal H0 o_p3 ec13) (H0.ob (okV.ob o_p3 H0) (by decide)) rfl rfl rfl (Nat.le_of_ble_eq_true rfl) (rokD (by omega) (Nat.le_of_ble_eq_true rfl) (Nat.le_of_ble_eq_true rfl) (Nat.le_of_ble_eq_true rfl)) rfl rfl (fun _ h13 q13 => ?_)
                obtain ⟨rfl, rfl, zb13⟩ := q13
                refine aw_if_ne (tgt := 79) (pc' := 76) dX11_log_73 rfl rfl (fun c14 => ?_) (fun c14 => ?_)
                · replace hf := ifn c14 hf
                  refine AW.lv_le (lz_d (lz_d (lz_d (lz_k (lz_k (lz_k (lz_k (lz_k lz_0)))))))) ?_
                  exact hk10  hf
                · replace hf := ifp c14 hf
                  refine aw_bipush (v := (-12)) (pc' := 78) dX11_log_76 rfl bp_m12 ?_
                  obtain ⟨rfl, rfl⟩ := so2 hf
                  exact aw_ri dX11_log_78 rfl rfl (Nat.le_of_ble_eq_true rfl) (Nat.le_of_ble_eq_true rfl) ⟨rfl, H0, (Mo.rf _)⟩
          · replace hf := ifp c7 hf
            refine aw_iconst (v := (-1)) (pc' := 49) dX11_log_48 rfl ic_m1 ?_
            obtain ⟨rfl, rfl⟩ := so2 hf
            exact aw_ri dX11_log_49 rfl rfl (Nat.le_of_ble_eq_true rfl) (Nat.le_of_ble_eq_true rfl) ⟨rfl, H0, (Mo.rf _)⟩
/-! ThirtyThreeBelow.spread -/
noncomputable def f_X11_spread (s0 : SS) (a0 : Int32) : Option (Int32 × SS) := (if a0 < (0 : Int32) then some ((-1), s0) else (if (8 : Int32) < a0 then some ((-1), s0) else (vl ((zS s0 0 15)) fun v3 => (st (pS s0 0 15 a0) fun s4 => some (v3, s4)))))
set_option maxRecDepth 4000 in
theorem t_X11_spread {r9 : Int32} {s0 s9 : SS} {h0 : List aE} {a0 : Int32} (H0 : HH s0 h0) (hf : f_X11_spread s0 a0 = some (r9, s9)) : AM mX11_spread (0) [.ref 8, .int a0] h0 0 0 (PI fun r' h' => r9 = r' ∧ HH s9 h' ∧ Mo s0 s9) := by
  unfold f_X11_spread at hf
  refine am_of (lv := [some (.ref 8), some (.int a0), none]) rfl (Nat.le_of_ble_eq_true rfl) rfl ?_
  refine aw_iload_n (pc' := 1) dX11_spread_0 rfl rfl ?_
  refine aw_zlt (tgt := 10) (pc' := 4) dX11_spread_1 rfl rfl (fun c1 => ?_) (fun c1 => ?_)
  · replace hf := ifp c1 hf
    refine aw_iconst (v := (-1)) (pc' := 11) dX11_spread_10 rfl ic_m1 ?_
    obtain ⟨rfl, rfl⟩ := so2 hf
    exact aw_ri dX11_spread_11 rfl rfl (Nat.le_of_ble_eq_true rfl) (Nat.le_of_ble_eq_true rfl) ⟨rfl, H0, (Mo.rf _)⟩
  · replace hf := ifn c1 hf
    refine aw_iload_n (pc' := 5) dX11_spread_4 rfl rfl ?_
    refine aw_bipush (v := 8) (pc' := 7) dX11_spread_5 rfl bp_8 ?_
    refine aw_cle (tgt := 12) (pc' := 10) dX11_spread_7 rfl rfl (fun c2 => ?_) (fun c2 => ?_)
    · replace hf := ifn c2 hf
      refine aw_aload_n (pc' := 13) dX11_spread_12 rfl rfl rfl ?_
      refine aw_gi (q := 0) (pc' := 16) H0 (H0.fo rfl rfl) (l13 rfl) rfl dX11_spread_13 rfl fl_RX11_94 ?_
      obtain ⟨v3, ev3, hf⟩ := vl_e hf
      refine aw_topi ev3 ?_
      refine aw_istore_n (lv' := [_, _, _]) (pc' := 17) dX11_spread_16 rfl (Nat.le_of_ble_eq_true rfl) rfl ?_
      refine aw_aload_n (pc' := 18) dX11_spread_17 rfl rfl rfl ?_
      refine aw_iload_n (pc' := 19) dX11_spread_18 rfl rfl ?_
      obtain ⟨s4, es4, hf⟩ := st_e hf
      refine aw_pi (q := 0) (pc' := 22) es4 H0 (H0.fo rfl rfl) (by decide) rfl dX11_spread_19 rfl fl_RX11_94 rfl (fun h4 H4 => ?_)
      have m4 := Mo.ofS es4
      refine aw_iload_n (pc' := 23) dX11_spread_22 rfl rfl ?_
      obtain ⟨rfl, rfl⟩ := so2 hf
      exact aw_ri dX11_spread_23 rfl rfl (Nat.le_of_ble_eq_true rfl) (Nat.le_of_ble_eq_true rfl) ⟨rfl, H4, m4⟩
    · replace hf := ifp c2 hf
      refine aw_iconst (v := (-1)) (pc' := 11) dX11_spread_10 rfl ic_m1 ?_
      obtain ⟨rfl, rfl⟩ := so2 hf
      exact aw_ri dX11_spread_11 rfl rfl (Nat.le_of_ble_eq_true rfl) (Nat.le_of_ble_eq_true rfl) ⟨rfl, H0, (Mo.rf _)⟩
/-! ThirtyThreeBelow.cutDown -/
noncomputable def f_X11_cutDown (a0 : Int32) : Option Int32 := (b1 (f_J9_floorDiv_7cf53 a0 (4 : Int32)) fun r1 => (b1 (f_X11_held r1 (0 : Int32) (31 : Int32)) fun r2 => some r2))
set_option maxRecDepth 4000 in
theorem t_X11_cutDown {r9 : Int32} {h0 : List aE} {a0 : Int32}  (hf : f_X11_cutDown a0 = some r9) : AM mX11_cutDown (2) [.int a0] h0 0 0 (PI fun r' h' => r9 = r' ∧ h0 = h') := by
  unfold f_X11_cutDown at hf
  refine am_of (lv := [some (.int a0)]) rfl (Nat.le_of_ble_eq_true rfl) rfl ?_
  refine aw_iload_n (pc' := 1) dX11_cutDown_0 rfl rfl ?_
  refine aw_iconst (v := 4) (pc' := 2) dX11_cutDown_1 rfl ic_4 ?_
  obtain ⟨r1, ec1, hf⟩ := b1_e hf
  refine aw_callSi (M' := mJ9_floorDiv_7cf53) (nc' := 0) (ns' := 0) (pc' := 5) dX11_cutDown_2 rfl ml_RX11_463 kJ9_floorDiv_7cf53 (t_J9_floorDiv_7cf53 ec1) rfl rfl (Nat.le_of_ble_eq_true rfl) (rokD (by omega) (Nat.le_of_ble_eq_true rfl) (Nat.le_of_ble_eq_true rfl) (Nat.le_of_ble_eq_true rfl)) rfl rfl (fun _ h1 q1 => ?_)
  obtain ⟨rfl, rfl⟩ := q1
  refine aw_iconst (v := 0) (pc' := 6) dX11_cutDown_5 rfl ic_0 ?_
  refine aw_bipush (v := 31) (pc' := 8) dX11_cutDown_6 rfl bp_31 ?_
  obtain ⟨r2, ec2, hf⟩ := b1_e hf
  refine aw_callSi (M' := mX11_held) (nc' := 0) (ns' := 0) (pc' := 11) dX11_cutDown_8 rfl ml_RX11_466 kX11_held (t_X11_held ec2) rfl rfl (Nat.le_of_ble_eq_true rfl) (rokD (by omega) (Nat.le_of_ble_eq_true rfl) (Nat.le_of_ble_eq_true rfl) (Nat.le_of_ble_eq_true rfl)) rfl rfl (fun _ h2 q2 => ?_)
  obtain ⟨rfl, rfl⟩ := q2
  obtain rfl := Option.some.inj hf
  exact aw_ri dX11_cutDown_11 rfl rfl (Nat.le_of_ble_eq_true rfl) (Nat.le_of_ble_eq_true rfl) ⟨rfl, rfl⟩
/-! ThirtyThreeBelow.cutUp -/
noncomputable def f_X11_cutUp (a0 : Int32) : Option Int32 := (b1 (f_J9_floorDiv_7cf53 (-a0) (4 : Int32)) fun r1 => (b1 (f_X11_held (-r1) (0 : Int32) (31 : Int32)) fun r2 => some r2))
set_option maxRecDepth 4000 in
theorem t_X11_cutUp {r9 : Int32} {h0 : List aE} {a0 : Int32}  (hf : f_X11_cutUp a0 = some r9) : AM mX11_cutUp (2) [.int a0] h0 0 0 (PI fun r' h' => r9 = r' ∧ h0 = h') := by
  unfold f_X11_cutUp at hf
  refine am_of (lv := [some (.int a0)]) rfl (Nat.le_of_ble_eq_true rfl) rfl ?_
  refine aw_iload_n (pc' := 1) dX11_cutUp_0 rfl rfl ?_
  refine aw_ineg (pc' := 2) dX11_cutUp_1 rfl ?_
  refine aw_iconst (v := 4) (pc' := 3) dX11_cutUp_2 rfl ic_4 ?_
  obtain ⟨r1, ec1, hf⟩ := b1_e hf
  refine aw_callSi (M' := mJ9_floorDiv_7cf53) (nc' := 0) (ns' := 0) (pc' := 6) dX11_cutUp_3 rfl ml_RX11_463 kJ9_floorDiv_7cf53 (t_J9_floorDiv_7cf53 ec1) rfl rfl (Nat.le_of_ble_eq_true rfl) (rokD (by omega) (Nat.le_of_ble_eq_true rfl) (Nat.le_of_ble_eq_true rfl) (Nat.le_of_ble_eq_true rfl)) rfl rfl (fun _ h1 q1 => ?_)
  obtain ⟨rfl, rfl⟩ := q1
  refine aw_ineg (pc' := 7) dX11_cutUp_6 rfl ?_
  refine aw_iconst (v := 0) (pc' := 8) dX11_cutUp_7 rfl ic_0 ?_
  refine aw_bipush (v := 31) (pc' := 10) dX11_cutUp_8 rfl bp_31 ?_
  obtain ⟨r2, ec2, hf⟩ := b1_e hf
  refine aw_callSi (M' := mX11_held) (nc' := 0) (ns' := 0) (pc' := 13) dX11_cutUp_10 rfl ml_RX11_466 kX11_held (t_X11_held ec2) rfl rfl (Nat.le_of_ble_eq_true rfl) (rokD (by omega) (Nat.le_of_ble_eq_true rfl) (Nat.le_of_ble_eq_true rfl) (Nat.le_of_ble_eq_true rfl)) rfl rfl (fun _ h2 q2 => ?_)
  obtain ⟨rfl, rfl⟩ := q2
  obtain rfl := Option.some.inj hf
  exact aw_ri dX11_cutUp_13 rfl rfl (Nat.le_of_ble_eq_true rfl) (Nat.le_of_ble_eq_true rfl) ⟨rfl, rfl⟩
/-! ThirtyThreeBelow.canBe -/
noncomputable def f_X11_canBe_L52_b (q0 : Int32 → Option Int32) (s0 : SS) (y2 : Int32) (y3 : Int32) (p4 : Nat) (rc : Int32 → Int32 → Option Int32) (x5 : Int32) (x6 : Int32) : Option Int32 := (if y2 < x6 then (q0 x5) else (jn (fun (t8_0 : Int32) => (vl ((x5 + t8_0)) fun v10 => (vl (x6 + 1) fun v11 => (rc v10 v11)))) fun k8 => (if y3 = (0 : Int32) then (b1 (f_X3_leastLean s0 p4 x6 (zS s0 0 15)) fun r14 => (k8 r14)) else (b1 (f_X3_mostLean s0 p4 x6 (zS s0 0 15)) fun r13 => (k8 r13)))))
noncomputable def f_X11_canBe_L52 (q0 : Int32 → Option Int32) (s0 : SS) (y2 : Int32) (y3 : Int32) (p4 : Nat) : Nat → Int32 → Int32 → Option Int32
  | 0, _, _ => none
  | n + 1, x5, x6 => f_X11_canBe_L52_b q0 s0 y2 y3 p4 (f_X11_canBe_L52 q0 s0 y2 y3 p4 n) x5 x6
set_option maxRecDepth 4000 in
theorem t_X11_canBe_L52 {r9 : Int32} {s0 : SS} {h0 : List aE} {q0 : Int32 → Option Int32} {y2 : Int32} {y3 : Int32} {p4 : Nat} (H0 : HH s0 h0) (o_p4 : okH s0 p4) (hq0 : ∀ (x5 : Int32), q0 x5 = some r9 → AW mX11_canBe (rmD (3) 0 0) (fin (PI fun r' h' => r9 = r' ∧ h0 = h') 0 0) 98 [none, none, none, some (.int y3), none, some (.int x5), none] [] h0 0 0) : ∀ (n : Nat) (x5 : Int32) (x6 : Int32), f_X11_canBe_L52 q0 s0 y2 y3 p4 n x5 x6 = some r9 → AW mX11_canBe (rmD (3) 0 0) (fin (PI fun r' h' => r9 = r' ∧ h0 = h') 0 0) 52 [some (.ref 8), none, some (.int y2), some (.int y3), some (.ref (p4 + 8)), some (.int x5), some (.int x6)] [] h0 0 0 := by
  intro n
  induction n with
  | zero =>
    intro x5 x6 hf
    cases hf
  | succ n ih =>
    intro x5 x6 hf
    replace hf : f_X11_canBe_L52_b q0 s0 y2 y3 p4 (f_X11_canBe_L52 q0 s0 y2 y3 p4 n) x5 x6 = some r9 := hf
    unfold f_X11_canBe_L52_b at hf
    refine aw_iload (pc' := 54) dX11_canBe_52 rfl rfl ?_
    refine aw_iload_n (pc' := 55) dX11_canBe_54 rfl rfl ?_
    refine aw_cgt (tgt := 98) (pc' := 58) dX11_canBe_55 rfl rfl (fun c7 => ?_) (fun c7 => ?_)
    · replace hf := ifp c7 hf
      refine AW.lv_le (lz_d (lz_d (lz_d (lz_k (lz_d (lz_k (lz_d lz_0))))))) ?_
      exact hq0 _ hf
    · replace hf := ifn c7 hf
      refine aw_iload (pc' := 60) dX11_canBe_58 rfl rfl ?_
      refine aw_iload_n (pc' := 61) dX11_canBe_60 rfl rfl ?_
      obtain ⟨k8, ek8, hf⟩ := jn_e hf
      have hk8 : ∀ (t8_0 : Int32), k8 t8_0 = some r9 → AW mX11_canBe (rmD (3) 0 0) (fin (PI fun r' h' => r9 = r' ∧ h0 = h') 0 0) 89 [some (.ref 8), none, some (.int y2), some (.int y3), some (.ref (p4 + 8)), none, some (.int x6)] [.int t8_0, .int x5] h0 0 0 := by
        intro t8_0 hf
        subst ek8
        refine aw_iadd (pc' := 90) dX11_canBe_89 rfl ?_
        obtain ⟨v10, ev10, hf⟩ := vl_e hf
        refine aw_topi ev10 ?_
        refine aw_istore (lv' := [_, _, _, _, _, _, _]) (pc' := 92) dX11_canBe_90 rfl (Nat.le_of_ble_eq_true rfl) rfl ?_
        obtain ⟨v11, ev11, hf⟩ := vl_e hf
        refine aw_iincV (y := v11) (lv' := [_, _, _, _, _, _, _]) (pc' := 95) dX11_canBe_92 rfl rfl (Nat.le_of_ble_eq_true rfl) ev11 rfl ?_
        refine aw_goto (tgt := 52) dX11_canBe_95 rfl ?_
        exact ih _ _ hf
      clear ek8
      refine aw_if_ne (tgt := 78) (pc' := 64) dX11_canBe_61 rfl rfl (fun c12 => ?_) (fun c12 => ?_)
      · replace hf := ifn c12 hf
        refine aw_aload (pc' := 80) dX11_canBe_78 rfl rfl rfl ?_
        refine aw_iload (pc' := 82) dX11_canBe_80 rfl rfl ?_
        refine aw_aload_n (pc' := 83) dX11_canBe_82 rfl rfl rfl ?_
        refine aw_gi (q := 0) (pc' := 86) H0 (H0.fo rfl rfl) (l13 rfl) rfl dX11_canBe_83 rfl fl_RX11_94 ?_
        obtain ⟨r13, ec13, hf⟩ := b1_e hf
        refine aw_callVi (M' := mX3_mostLean) (nc' := 0) (ns' := 0) (pc' := 89) dX11_canBe_86 rfl ml_RX11_211 kX3_mostLean (t_X3_mostLean H0 o_p4 ec13) (H0.ob (okH.ob o_p4) (by decide)) rfl rfl rfl (Nat.le_of_ble_eq_true rfl) (rokD (by omega) (Nat.le_of_ble_eq_true rfl) (Nat.le_of_ble_eq_true rfl) (Nat.le_of_ble_eq_true rfl)) rfl rfl (fun _ h13 q13 => ?_)
        obtain ⟨rfl, rfl⟩ := q13
        refine AW.lv_le (lz_k (lz_d (lz_k (lz_k (lz_k (lz_d (lz_k lz_0))))))) ?_
        exact hk8 _ hf
      · replace hf := ifp c12 hf
        refine aw_aload (pc' := 66) dX11_canBe_64 rfl rfl rfl ?_
        refine aw_iload (pc' := 68) dX11_canBe_66 rfl rfl ?_
        refine aw_aload_n (pc' := 69) dX11_canBe_68 rfl rfl rfl ?_
        refine aw_gi (q := 0) (pc' := 72) H0 (H0.fo rfl rfl) (l13 rfl) rfl dX11_canBe_69 rfl fl_RX11_94 ?_
        obtain ⟨r14, ec14, hf⟩ := b1_e hf
        refine aw_callVi (M' := mX3_leastLean) (nc' := 0) (ns' := 0) (pc' := 75) dX11_canBe_72 rfl ml_RX11_208 kX3_leastLean (t_X3_leastLean H0 o_p4 ec14) (H0.ob (okH.ob o_p4) (by decide)) rfl rfl rfl (Nat.le_of_ble_eq_true rfl) (rokD (by omega) (Nat.le_of_ble_eq_true rfl) (Nat.le_of_ble_eq_true rfl) (Nat.le_of_ble_eq_true rfl)) rfl rfl (fun _ h14 q14 => ?_)
        obtain ⟨rfl, rfl⟩ := q14
        refine aw_goto (tgt := 89) dX11_canBe_75 rfl ?_
        refine AW.lv_le (lz_k (lz_d (lz_k (lz_k (lz_k (lz_d (lz_k lz_0))))))) ?_
        exact hk8 _ hf
noncomputable def f_X11_canBe (s0 : SS) (a0 : Int32) (a1 : Int32) (a2 : Int32) : Option Int32 := (b1 (f_X0_holeOf s0 a0) fun r1 => (on r1 (some (-1)) fun p1 => (if a1 < (1 : Int32) then some (-1) else (if (zS s0 p1 4) < a1 then some (-1) else (if a2 < (0 : Int32) then some (-1) else (if (1 : Int32) < a2 then some (-1) else (vl (((4 : Int32) * (zS s0 p1 0))) fun v6 => (f_X11_canBe_L52 (fun (x15_5 : Int32) => (if a2 = (0 : Int32) then (b1 (f_X11_cutDown x15_5) fun r18 => some r18) else (b1 (f_X11_cutUp x15_5) fun r17 => some r17))) s0 a1 a2 p1 4000 v6 1))))))))
set_option maxRecDepth 4000 in
theorem t_X11_canBe {r9 : Int32} {s0 : SS} {h0 : List aE} {a0 : Int32} {a1 : Int32} {a2 : Int32} (H0 : HH s0 h0) (hf : f_X11_canBe s0 a0 a1 a2 = some r9) : AM mX11_canBe (3) [.ref 8, .int a0, .int a1, .int a2] h0 0 0 (PI fun r' h' => r9 = r' ∧ h0 = h') := by
  unfold f_X11_canBe at hf
  refine am_of (lv := [some (.ref 8), some (.int a0), some (.int a1), some (.int a2), none, none, none]) rfl (Nat.le_of_ble_eq_true rfl) rfl ?_
  refine aw_aload_n (pc' := 1) dX11_canBe_0 rfl rfl rfl ?_
  refine aw_gr (q := 0) (e := 31) (v := .ref 23) (pc' := 4) H0 (H0.fo rfl rfl) (l13 rfl) rfl rfl dX11_canBe_1 rfl fl_RX11_28 ?_
  refine aw_iload_n (pc' := 5) dX11_canBe_4 rfl rfl ?_
  obtain ⟨r1, ec1, hf⟩ := b1_e hf
  replace hf := on_e hf
  rcases hf with ⟨rfl, hf⟩ | ⟨p1, rfl, hf⟩
  · refine aw_callVa (M' := mX0_holeOf) (nc' := 0) (ns' := 0) (pc' := 8) dX11_canBe_5 rfl ml_RX11_139 kX0_holeOf (t_X0_holeOf H0 ec1) (H0.ob (H0.fo rfl rfl) (by decide)) rfl rfl rfl (Nat.le_of_ble_eq_true rfl) (rokD (by omega) (Nat.le_of_ble_eq_true rfl) (Nat.le_of_ble_eq_true rfl) (Nat.le_of_ble_eq_true rfl)) rfl rfl (fun _ h1 q1 => ?_)
    obtain ⟨rfl, rfl, oo1⟩ := q1
    show AW _ _ _ _ _ (Value.null :: _) _ _ _
    refine aw_astore (lv' := [_, _, _, _, _, _, _]) (pc' := 10) dX11_canBe_8 rfl (Nat.le_of_ble_eq_true rfl) rfl rfl ?_
    refine aw_aload (pc' := 12) dX11_canBe_10 rfl rfl rfl ?_
    refine aw_ifnull_n (tgt := 38) dX11_canBe_12 (by decide) ?_
    refine aw_iconst (v := (-1)) (pc' := 39) dX11_canBe_38 rfl ic_m1 ?_
    obtain rfl := Option.some.inj hf
    exact aw_ri dX11_canBe_39 rfl rfl (Nat.le_of_ble_eq_true rfl) (Nat.le_of_ble_eq_true rfl) ⟨rfl, rfl⟩
  · refine aw_callVa (M' := mX0_holeOf) (nc' := 0) (ns' := 0) (pc' := 8) dX11_canBe_5 rfl ml_RX11_139 kX0_holeOf (t_X0_holeOf H0 ec1) (H0.ob (H0.fo rfl rfl) (by decide)) rfl rfl rfl (Nat.le_of_ble_eq_true rfl) (rokD (by omega) (Nat.le_of_ble_eq_true rfl) (Nat.le_of_ble_eq_true rfl) (Nat.le_of_ble_eq_true rfl)) rfl rfl (fun _ h1 q1 => ?_)
    obtain ⟨rfl, rfl, oo1⟩ := q1
    show AW _ _ _ _ _ (Value.ref (p1 + 8) :: _) _ _ _
    have o_p1 : okH s0 p1 := oo1 _ rfl
    refine aw_astore (lv' := [_, _, _, _, _, _, _]) (pc' := 10) dX11_canBe_8 rfl (Nat.le_of_ble_eq_true rfl) rfl rfl ?_
    refine aw_aload (pc' := 12) dX11_canBe_10 rfl rfl rfl ?_
    refine aw_ifnull_r (pc' := 15) dX11_canBe_12 rfl ?_
    refine aw_iload_n (pc' := 16) dX11_canBe_15 rfl rfl ?_
    refine aw_iconst (v := 1) (pc' := 17) dX11_canBe_16 rfl ic_1 ?_
    refine aw_clt (tgt := 38) (pc' := 20) dX11_canBe_17 rfl rfl (fun c2 => ?_) (fun c2 => ?_)
    · replace hf := ifp c2 hf
      refine aw_iconst (v := (-1)) (pc' := 39) dX11_canBe_38 rfl ic_m1 ?_
      obtain rfl := Option.some.inj hf
      exact aw_ri dX11_canBe_39 rfl rfl (Nat.le_of_ble_eq_true rfl) (Nat.le_of_ble_eq_true rfl) ⟨rfl, rfl⟩
    · replace hf := ifn c2 hf
      refine aw_iload_n (pc' := 21) dX11_canBe_20 rfl rfl ?_
      refine aw_aload (pc' := 23) dX11_canBe_21 rfl rfl rfl ?_
      refine aw_gi (q := p1) (pc' := 26) H0 (okH.ob o_p1) (by decide) rfl dX11_canBe_23 rfl fl_RX11_184 ?_
      refine aw_cgt (tgt := 38) (pc' := 29) dX11_canBe_26 rfl rfl (fun c3 => ?_) (fun c3 => ?_)
      · replace hf := ifp c3 hf
        refine aw_iconst (v := (-1)) (pc' := 39) dX11_canBe_38 rfl ic_m1 ?_
        obtain rfl := Option.some.inj hf
        exact aw_ri dX11_canBe_39 rfl rfl (Nat.le_of_ble_eq_true rfl) (Nat.le_of_ble_eq_true rfl) ⟨rfl, rfl⟩
      · replace hf := ifn c3 hf
        refine aw_iload_n (pc' := 30) dX11_canBe_29 rfl rfl ?_
        refine aw_zlt (tgt := 38) (pc' := 33) dX11_canBe_30 rfl rfl (fun c4 => ?_) (fun c4 => ?_)
        · replace hf := ifp c4 hf
          refine aw_iconst (v := (-1)) (pc' := 39) dX11_canBe_38 rfl ic_m1 ?_
          obtain rfl := Option.some.inj hf
          exact aw_ri dX11_canBe_39 rfl rfl (Nat.le_of_ble_eq_true rfl) (Nat.le_of_ble_eq_true rfl) ⟨rfl, rfl⟩
        · replace hf := ifn c4 hf
          refine aw_iload_n (pc' := 34) dX11_canBe_33 rfl rfl ?_
          refine aw_iconst (v := 1) (pc' := 35) dX11_canBe_34 rfl ic_1 ?_
          refine aw_cle (tgt := 40) (pc' := 38) dX11_canBe_35 rfl rfl (fun c5 => ?_) (fun c5 => ?_)
          · replace hf := ifn c5 hf
            refine aw_iconst (v := 4) (pc' := 41) dX11_canBe_40 rfl ic_4 ?_
            refine aw_aload (pc' := 43) dX11_canBe_41 rfl rfl rfl ?_
            refine aw_gi (q := p1) (pc' := 46) H0 (okH.ob o_p1) (by decide) rfl dX11_canBe_43 rfl fl_RX11_205 ?_
            refine aw_imul (pc' := 47) dX11_canBe_46 rfl ?_
            obtain ⟨v6, ev6, hf⟩ := vl_e hf
            refine aw_topi ev6 ?_
            refine aw_istore (lv' := [_, _, _, _, _, _, _]) (pc' := 49) dX11_canBe_47 rfl (Nat.le_of_ble_eq_true rfl) rfl ?_
            refine aw_iconst (v := 1) (pc' := 50) dX11_canBe_49 rfl ic_1 ?_
            refine aw_istore (lv' := [_, _, _, _, _, _, _]) (pc' := 52) dX11_canBe_50 rfl (Nat.le_of_ble_eq_true rfl) rfl ?_
            refine AW.lv_le (lz_k (lz_d (lz_k (lz_k (lz_k (lz_k (lz_k lz_0))))))) ?_
            refine t_X11_canBe_L52 H0 o_p1 (fun x15_5 hf => ?_) 4000 _ _ hf
            refine aw_iload_n (pc' := 99) dX11_canBe_98 rfl rfl ?_
            refine aw_if_ne (tgt := 110) (pc' := 102) dX11_canBe_99 rfl rfl (fun c16 => ?_) (fun c16 => ?_)
            · replace hf := ifn c16 hf
              refine aw_iload (pc' := 112) dX11_canBe_110 rfl rfl ?_
              obtain ⟨r17, ec17, hf⟩ := b1_e hf
              refine aw_callSi (M' := mX11_cutUp) (nc' := 0) (ns' := 0) (pc' := 115) dX11_canBe_112 rfl ml_RX11_217 kX11_cutUp (t_X11_cutUp ec17) rfl rfl (Nat.le_of_ble_eq_true rfl) (rokD (by omega) (Nat.le_of_ble_eq_true rfl) (Nat.le_of_ble_eq_true rfl) (Nat.le_of_ble_eq_true rfl)) rfl rfl (fun _ h17 q17 => ?_)
              obtain ⟨rfl, rfl⟩ := q17
              obtain rfl := Option.some.inj hf
              exact aw_ri dX11_canBe_115 rfl rfl (Nat.le_of_ble_eq_true rfl) (Nat.le_of_ble_eq_true rfl) ⟨rfl, rfl⟩
            · replace hf := ifp c16 hf
              refine aw_iload (pc' := 104) dX11_canBe_102 rfl rfl ?_
              obtain ⟨r18, ec18, hf⟩ := b1_e hf
              refine aw_callSi (M' := mX11_cutDown) (nc' := 0) (ns' := 0) (pc' := 107) dX11_canBe_104 rfl ml_RX11_214 kX11_cutDown (t_X11_cutDown ec18) rfl rfl (Nat.le_of_ble_eq_true rfl) (rokD (by omega) (Nat.le_of_ble_eq_true rfl) (Nat.le_of_ble_eq_true rfl) (Nat.le_of_ble_eq_true rfl)) rfl rfl (fun _ h18 q18 => ?_)
              obtain ⟨rfl, rfl⟩ := q18
              refine aw_goto (tgt := 115) dX11_canBe_107 rfl ?_
              obtain rfl := Option.some.inj hf
              exact aw_ri dX11_canBe_115 rfl rfl (Nat.le_of_ble_eq_true rfl) (Nat.le_of_ble_eq_true rfl) ⟨rfl, rfl⟩
          · replace hf := ifp c5 hf
            refine aw_iconst (v := (-1)) (pc' := 39) dX11_canBe_38 rfl ic_m1 ?_
            obtain rfl := Option.some.inj hf
            exact aw_ri dX11_canBe_39 rfl rfl (Nat.le_of_ble_eq_true rfl) (Nat.le_of_ble_eq_true rfl) ⟨rfl, rfl⟩
/-! ThirtyThreeBelow.map -/
noncomputable def f_X11_map (s0 : SS) (a0 : Int32) (a1 : Int32) : Option (Int32 × SS) := (b1 (f_X11_isSpan a0) fun r1 => (if r1 = (0 : Int32) then some ((-1), s0) else (b1 (f_X11_isYard a1) fun r3 => (if r3 = (0 : Int32) then some ((-1), s0) else (if (zS s0 0 5) < (8 : Int32) then (vl ((zS s0 0 5)) fun v6 => (gd (inB v6 8) (st (pR (pMap s0 (a0 / (100 : Int32)) (a0 % (100 : Int32)) a1) 23 (v6.toInt.toNat) (some (zL s0))) fun s8 => (vl (((zS s8 0 5) + (1 : Int32))) fun v10 => (st (pS s8 0 5 v10) fun s11 => some (((zS s11 0 5) - (1 : Int32)), s11)))))) else some ((-3), s0))))))
set_option maxRecDepth 4000 in
theorem t_X11_map {r9 : Int32} {s0 s9 : SS} {h0 : List aE} {a0 : Int32} {a1 : Int32} (H0 : HH s0 h0) (hf : f_X11_map s0 a0 a1 = some (r9, s9)) : AM mX11_map (2) [.ref 8, .int a0, .int a1] h0 2 66 (PI fun r' h' => r9 = r' ∧ HH s9 h' ∧ Mo s0 s9) := by
  unfold f_X11_map at hf
  refine am_of (lv := [some (.ref 8), some (.int a0), some (.int a1)]) rfl (Nat.le_of_ble_eq_true rfl) rfl ?_
  refine aw_iload_n (pc' := 1) dX11_map_0 rfl rfl ?_
  obtain ⟨r1, ec1, hf⟩ := b1_e hf
  refine aw_callSi (M' := mX11_isSpan) (nc' := 0) (ns' := 0) (pc' := 4) dX11_map_1 rfl ml_RX11_118 kX11_isSpan (t_X11_isSpan ec1) rfl rfl (Nat.le_of_ble_eq_true rfl) (rokD (by omega) (Nat.le_of_ble_eq_true rfl) (Nat.le_of_ble_eq_true rfl) (Nat.le_of_ble_eq_true rfl)) rfl rfl (fun _ h1 q1 => ?_)
  obtain ⟨rfl, rfl, zb1⟩ := q1
  refine aw_if_eq (tgt := 14) (pc' := 7) dX11_map_4 rfl rfl (fun c2 => ?_) (fun c2 => ?_)
  · replace hf := ifp c2 hf
    refine aw_iconst (v := (-1)) (pc' := 15) dX11_map_14 rfl ic_m1 ?_
    obtain ⟨rfl, rfl⟩ := so2 hf
    exact aw_ri dX11_map_15 rfl rfl (Nat.le_of_ble_eq_true rfl) (Nat.le_of_ble_eq_true rfl) ⟨rfl, H0, (Mo.rf _)⟩
  · replace hf := ifn c2 hf
    refine aw_iload_n (pc' := 8) dX11_map_7 rfl rfl ?_
    obtain ⟨r3, ec3, hf⟩ := b1_e hf
    refine aw_callSi (M' := mX11_isYard) (nc' := 0) (ns' := 0) (pc' := 11) dX11_map_8 rfl ml_RX11_122 kX11_isYard (t_X11_isYard ec3) rfl rfl (Nat.le_of_ble_eq_true rfl) (rokD (by omega) (Nat.le_of_ble_eq_true rfl) (Nat.le_of_ble_eq_true rfl) (Nat.le_of_ble_eq_true rfl)) rfl rfl (fun _ h3 q3 => ?_)
    obtain ⟨rfl, rfl, zb3⟩ := q3
    refine aw_if_ne (tgt := 16) (pc' := 14) dX11_map_11 rfl rfl (fun c4 => ?_) (fun c4 => ?_)
    · replace hf := ifn c4 hf
      refine aw_aload_n (pc' := 17) dX11_map_16 rfl rfl rfl ?_
      refine aw_gi (q := 0) (pc' := 20) H0 (H0.fo rfl rfl) (l13 rfl) rfl dX11_map_17 rfl fl_RX11_220 ?_
      refine aw_bipush (v := 8) (pc' := 22) dX11_map_20 rfl bp_8 ?_
      refine aw_clt (tgt := 28) (pc' := 25) dX11_map_22 rfl rfl (fun c5 => ?_) (fun c5 => ?_)
      · replace hf := ifp c5 hf
        refine aw_aload_n (pc' := 29) dX11_map_28 rfl rfl rfl ?_
        refine aw_gr (q := 0) (e := 47) (v := .ref 31) (pc' := 32) H0 (H0.fo rfl rfl) (l13 rfl) rfl rfl dX11_map_29 rfl fl_RX11_41 ?_
        refine aw_aload_n (pc' := 33) dX11_map_32 rfl rfl rfl ?_
        refine aw_gi (q := 0) (pc' := 36) H0 (H0.fo rfl rfl) (l13 rfl) rfl dX11_map_33 rfl fl_RX11_220 ?_
        obtain ⟨v6, ev6, hf⟩ := vl_e hf
        refine aw_topi ev6 ?_
        obtain ⟨g7, hf⟩ := gd_e hf
        obtain ⟨s8, es8, hf⟩ := st_e hf
        refine aw_newG clsAll (ci := 1) (r := zL s0) (fs := [.int 0, .int 0, .int 0, .null, .int 0]) (nc' := 1) (ns' := 5) (pc' := 39) dX11_map_36 rfl rfl cl_RX11_39 ins_RX1 ini_RX1 tyX1_ok (by decide) (fun _ => rfl) (by decide) (by decide) H0.1 rfl rfl (fun hu8 eu8 => ?_)
        subst eu8
        refine aw_dup (pc' := 40) dX11_map_39 rfl rfl ?_
        refine aw_iload_n (pc' := 41) dX11_map_40 rfl rfl ?_
        refine aw_bipush (v := 100) (pc' := 43) dX11_map_41 rfl bp_100 ?_
        refine aw_idiv (pc' := 44) dX11_map_43 rfl (by decide) ?_
        refine aw_iload_n (pc' := 45) dX11_map_44 rfl rfl ?_
        refine aw_bipush (v := 100) (pc' := 47) dX11_map_45 rfl bp_100 ?_
        refine aw_irem (pc' := 48) dX11_map_47 rfl (by decide) ?_
        refine aw_iload_n (pc' := 49) dX11_map_48 rfl rfl ?_
        refine aw_callIv (M' := mX1_init) (nc' := 2) (ns' := 66) (pc' := 52) dX11_map_49 rfl ml_RX11_223 kX1_init (ci0_X1_init _ _ (a0 / (100 : Int32)) (a0 % (100 : Int32)) a1 H0.1) rfl rfl (Nat.le_of_ble_eq_true rfl) (rokD (by omega) (Nat.le_of_ble_eq_true rfl) (Nat.le_of_ble_eq_true rfl) (Nat.le_of_ble_eq_true rfl)) rfl rfl (fun hv8 qv8 => ?_)
        subst qv8
        have HT8 := H0.map (a0 / (100 : Int32)) (a0 % (100 : Int32)) a1
        have oT8 := okC.new H0 (a0 / (100 : Int32)) (a0 % (100 : Int32)) a1
        refine aw_aastG (t := 6) (q0 := (RX1, TX1, 5)) (pc' := 53) dX11_map_52 rfl (HT8.arr (HT8.fa rfl rfl rfl) (by decide) (by decide)) (by decide) rfl (HT8.ob (okC.ob oT8) (by decide)) rfl (inB_vp g7) (fun h8 e8 => ?_)
        have H8 : HH s8 h8 := es8 ▸ (HT8.putR (t := 6) (HT8.fa rfl rfl rfl) (by decide) (by decide) _ _ (HT8.2.2.putC oT8) e8)
        have m8 : Mo s0 s8 := ((Mo.map (a0 / (100 : Int32)) (a0 % (100 : Int32)) a1).tr (Mo.ofR es8))
        refine aw_aload_n (pc' := 54) dX11_map_53 rfl rfl rfl ?_
        refine aw_dup (pc' := 55) dX11_map_54 rfl rfl ?_
        refine aw_gi (q := 0) (pc' := 58) H8 (H8.fo rfl rfl) (l13 rfl) rfl dX11_map_55 rfl fl_RX11_220 ?_
        refine aw_iconst (v := 1) (pc' := 59) dX11_map_58 rfl ic_1 ?_
        refine aw_iadd (pc' := 60) dX11_map_59 rfl ?_
        obtain ⟨v10, ev10, hf⟩ := vl_e hf
        refine aw_topi ev10 ?_
        obtain ⟨s11, es11, hf⟩ := st_e hf
        refine aw_pi (q := 0) (pc' := 63) es11 H8 (H8.fo rfl rfl) (by decide) rfl dX11_map_60 rfl fl_RX11_220 rfl (fun h11 H11 => ?_)
        have m11 := Mo.ofS es11
        refine aw_aload_n (pc' := 64) dX11_map_63 rfl rfl rfl ?_
        refine aw_gi (q := 0) (pc' := 67) H11 (H11.fo rfl rfl) (l13 rfl) rfl dX11_map_64 rfl fl_RX11_220 ?_
        refine aw_iconst (v := 1) (pc' := 68) dX11_map_67 rfl ic_1 ?_
        refine aw_isub (pc' := 69) dX11_map_68 rfl ?_
        obtain ⟨rfl, rfl⟩ := so2 hf
        exact aw_ri dX11_map_69 rfl rfl (Nat.le_of_ble_eq_true rfl) (Nat.le_of_ble_eq_true rfl) ⟨rfl, H11, (m8.tr m11)⟩
      · replace hf := ifn c5 hf
        refine aw_bipush (v := (-3)) (pc' := 27) dX11_map_25 rfl bp_m3 ?_
        obtain ⟨rfl, rfl⟩ := so2 hf
        exact aw_ri dX11_map_27 rfl rfl (Nat.le_of_ble_eq_true rfl) (Nat.le_of_ble_eq_true rfl) ⟨rfl, H0, (Mo.rf _)⟩
    · replace hf := ifp c4 hf
      refine aw_iconst (v := (-1)) (pc' := 15) dX11_map_14 rfl ic_m1 ?_
      obtain ⟨rfl, rfl⟩ := so2 hf
      exact aw_ri dX11_map_15 rfl rfl (Nat.le_of_ble_eq_true rfl) (Nat.le_of_ble_eq_true rfl) ⟨rfl, H0, (Mo.rf _)⟩
/-! ThirtyThreeBelow.chartOf -/
noncomputable def f_X11_chartOf (s0 : SS) (a0 : Int32) : Option (Option Nat) := (if a0 < (0 : Int32) then some none else (if a0 < (zS s0 0 5) then (gd (inB a0 8) (on (zR s0 23 (a0.toInt.toNat)) (some none) fun p4 => some (some p4))) else some none))
set_option maxRecDepth 4000 in
theorem t_X11_chartOf {r9 : Option Nat} {s0 : SS} {h0 : List aE} {a0 : Int32} (H0 : HH s0 h0) (hf : f_X11_chartOf s0 a0 = some r9) : AM mX11_chartOf (0) [.ref 8, .int a0] h0 0 0 (PA fun v h' => va_rf (r9.map (· + 8)) = v ∧ h0 = h' ∧ ∀ p, r9 = some p → okC s0 p) := by
  unfold f_X11_chartOf at hf
  refine am_of (lv := [some (.ref 8), some (.int a0)]) rfl (Nat.le_of_ble_eq_true rfl) rfl ?_
  refine aw_iload_n (pc' := 1) dX11_chartOf_0 rfl rfl ?_
  refine aw_zlt (tgt := 12) (pc' := 4) dX11_chartOf_1 rfl rfl (fun c1 => ?_) (fun c1 => ?_)
  · replace hf := ifp c1 hf
    refine aw_null (pc' := 13) dX11_chartOf_12 rfl ?_
    refine aw_goto (tgt := 22) dX11_chartOf_13 rfl ?_
    obtain rfl := Option.some.inj hf
    exact aw_ra (v := .null) dX11_chartOf_22 rfl (Or.inl ⟨_, rfl⟩) rfl (Nat.le_of_ble_eq_true rfl) (Nat.le_of_ble_eq_true rfl) ⟨rfl, rfl, (fun _ z => by cases z)⟩
  · replace hf := ifn c1 hf
    refine aw_iload_n (pc' := 5) dX11_chartOf_4 rfl rfl ?_
    refine aw_aload_n (pc' := 6) dX11_chartOf_5 rfl rfl rfl ?_
    refine aw_gi (q := 0) (pc' := 9) H0 (H0.fo rfl rfl) (l13 rfl) rfl dX11_chartOf_6 rfl fl_RX11_220 ?_
    refine aw_clt (tgt := 16) (pc' := 12) dX11_chartOf_9 rfl rfl (fun c2 => ?_) (fun c2 => ?_)
    · replace hf := ifp c2 hf
      refine aw_aload_n (pc' := 17) dX11_chartOf_16 rfl rfl rfl ?_
      refine aw_gr (q := 0) (e := 47) (v := .ref 31) (pc' := 20) H0 (H0.fo rfl rfl) (l13 rfl) rfl rfl dX11_chartOf_17 rfl fl_RX11_41 ?_
      refine aw_iload_n (pc' := 21) dX11_chartOf_20 rfl rfl ?_
      obtain ⟨g3, hf⟩ := gd_e hf
      replace hf := on_e hf
      rcases hf with ⟨eo4, hf⟩ | ⟨p4, eo4, hf⟩
      · refine aw_ra_ (q := 23) (t := 6) (pc' := 22) H0 (H0.fa rfl rfl rfl) (by decide) (by decide) rfl g3 eo4 dX11_chartOf_21 rfl ?_
        show AW _ _ _ _ _ (Value.null :: _) _ _ _
        obtain rfl := Option.some.inj hf
        exact aw_ra (v := .null) dX11_chartOf_22 rfl (Or.inl ⟨_, rfl⟩) rfl (Nat.le_of_ble_eq_true rfl) (Nat.le_of_ble_eq_true rfl) ⟨rfl, rfl, (fun _ z => by cases z)⟩
      · refine aw_ra_ (q := 23) (t := 6) (pc' := 22) H0 (H0.fa rfl rfl rfl) (by decide) (by decide) rfl g3 eo4 dX11_chartOf_21 rfl ?_
        show AW _ _ _ _ _ (Value.ref (p4 + 8) :: _) _ _ _
        have o_p4 : okC s0 p4 := (H0.2.2.2.2.2.2.1 _ _ (ixl g3) eo4)
        obtain rfl := Option.some.inj hf
        exact aw_ra (v := .ref (p4 + 8)) dX11_chartOf_22 rfl (Or.inl ⟨_, rfl⟩) rfl (Nat.le_of_ble_eq_true rfl) (Nat.le_of_ble_eq_true rfl) ⟨rfl, rfl, (fun _ z => by cases z; exact o_p4)⟩
    · replace hf := ifn c2 hf
      refine aw_null (pc' := 13) dX11_chartOf_12 rfl ?_
      refine aw_goto (tgt := 22) dX11_chartOf_13 rfl ?_
      obtain rfl := Option.some.inj hf
      exact aw_ra (v := .null) dX11_chartOf_22 rfl (Or.inl ⟨_, rfl⟩) rfl (Nat.le_of_ble_eq_true rfl) (Nat.le_of_ble_eq_true rfl) ⟨rfl, rfl, (fun _ z => by cases z)⟩
/-! ThirtyThreeBelow.old -/
noncomputable def f_X11_old (s0 : SS) (a0 : Int32) (a1 : Int32) : Option (Int32 × SS) := (b1 (f_X11_chartOf s0 a0) fun r1 => (on r1 (some ((-1), s0)) fun p1 => (b1 (f_X11_placeOf a1) fun r2 => (if r2 < (0 : Int32) then some ((-1), s0) else (b1 (f_X1_lists s0 p1 (a1 / (100 : Int32)) (a1 % (100 : Int32))) fun r4 => (if r4 = (0 : Int32) then (bd (f_X1_listed s0 p1 (a1 / (100 : Int32)) (a1 % (100 : Int32))) fun r6 s6 => some (r6, s6)) else some ((-1), s0)))))))
set_option maxRecDepth 4000 in
theorem t_X11_old {r9 : Int32} {s0 s9 : SS} {h0 : List aE} {a0 : Int32} {a1 : Int32} (H0 : HH s0 h0) (hf : f_X11_old s0 a0 a1 = some (r9, s9)) : AM mX11_old (2) [.ref 8, .int a0, .int a1] h0 0 0 (PI fun r' h' => r9 = r' ∧ HH s9 h' ∧ Mo s0 s9) := by
  unfold f_X11_old at hf
  refine am_of (lv := [some (.ref 8), some (.int a0), some (.int a1), none]) rfl (Nat.le_of_ble_eq_true rfl) rfl ?_
  refine aw_aload_n (pc' := 1) dX11_old_0 rfl rfl rfl ?_
  refine aw_iload_n (pc' := 2) dX11_old_1 rfl rfl ?_
  obtain ⟨r1, ec1, hf⟩ := b1_e hf
  replace hf := on_e hf
  rcases hf with ⟨rfl, hf⟩ | ⟨p1, rfl, hf⟩
  · refine aw_callVa (M' := mX11_chartOf) (nc' := 0) (ns' := 0) (pc' := 5) dX11_old_2 rfl ml_RX11_226 kX11_chartOf (t_X11_chartOf H0 ec1) (H0.ob (H0.fo rfl rfl) (by decide)) rfl rfl rfl (Nat.le_of_ble_eq_true rfl) (rokD (by omega) (Nat.le_of_ble_eq_true rfl) (Nat.le_of_ble_eq_true rfl) (Nat.le_of_ble_eq_true rfl)) rfl rfl (fun _ h1 q1 => ?_)
    obtain ⟨rfl, rfl, oo1⟩ := q1
    show AW _ _ _ _ _ (Value.null :: _) _ _ _
    refine aw_astore_n (lv' := [_, _, _, _]) (pc' := 6) dX11_old_5 rfl (Nat.le_of_ble_eq_true rfl) rfl rfl ?_
    refine aw_aload_n (pc' := 7) dX11_old_6 rfl rfl rfl ?_
    refine aw_ifnull_n (tgt := 32) dX11_old_7 (by decide) ?_
    refine aw_iconst (v := (-1)) (pc' := 33) dX11_old_32 rfl ic_m1 ?_
    obtain ⟨rfl, rfl⟩ := so2 hf
    exact aw_ri dX11_old_33 rfl rfl (Nat.le_of_ble_eq_true rfl) (Nat.le_of_ble_eq_true rfl) ⟨rfl, H0, (Mo.rf _)⟩
  · refine aw_callVa (M' := mX11_chartOf) (nc' := 0) (ns' := 0) (pc' := 5) dX11_old_2 rfl ml_RX11_226 kX11_chartOf (t_X11_chartOf H0 ec1) (H0.ob (H0.fo rfl rfl) (by decide)) rfl rfl rfl (Nat.le_of_ble_eq_true rfl) (rokD (by omega) (Nat.le_of_ble_eq_true rfl) (Nat.le_of_ble_eq_true rfl) (Nat.le_of_ble_eq_true rfl)) rfl rfl (fun _ h1 q1 => ?_)
    obtain ⟨rfl, rfl, oo1⟩ := q1
    show AW _ _ _ _ _ (Value.ref (p1 + 8) :: _) _ _ _
    have o_p1 : okC s0 p1 := oo1 _ rfl
    refine aw_astore_n (lv' := [_, _, _, _]) (pc' := 6) dX11_old_5 rfl (Nat.le_of_ble_eq_true rfl) rfl rfl ?_
    refine aw_aload_n (pc' := 7) dX11_old_6 rfl rfl rfl ?_
    refine aw_ifnull_r (pc' := 10) dX11_old_7 rfl ?_
    refine aw_iload_n (pc' := 11) dX11_old_10 rfl rfl ?_
    obtain ⟨r2, ec2, hf⟩ := b1_e hf
    refine aw_callSi (M' := mX11_placeOf) (nc' := 0) (ns' := 0) (pc' := 14) dX11_old_11 rfl ml_RX11_101 kX11_placeOf (t_X11_placeOf ec2) rfl rfl (Nat.le_of_ble_eq_true rfl) (rokD (by omega) (Nat.le_of_ble_eq_true rfl) (Nat.le_of_ble_eq_true rfl) (Nat.le_of_ble_eq_true rfl)) rfl rfl (fun _ h2 q2 => ?_)
    obtain ⟨rfl, rfl⟩ := q2
    refine aw_zlt (tgt := 32) (pc' := 17) dX11_old_14 rfl rfl (fun c3 => ?_) (fun c3 => ?_)
    · replace hf := ifp c3 hf
      refine aw_iconst (v := (-1)) (pc' := 33) dX11_old_32 rfl ic_m1 ?_
      obtain ⟨rfl, rfl⟩ := so2 hf
      exact aw_ri dX11_old_33 rfl rfl (Nat.le_of_ble_eq_true rfl) (Nat.le_of_ble_eq_true rfl) ⟨rfl, H0, (Mo.rf _)⟩
    · replace hf := ifn c3 hf
      refine aw_aload_n (pc' := 18) dX11_old_17 rfl rfl rfl ?_
      refine aw_iload_n (pc' := 19) dX11_old_18 rfl rfl ?_
      refine aw_bipush (v := 100) (pc' := 21) dX11_old_19 rfl bp_100 ?_
      refine aw_idiv (pc' := 22) dX11_old_21 rfl (by decide) ?_
      refine aw_iload_n (pc' := 23) dX11_old_22 rfl rfl ?_
      refine aw_bipush (v := 100) (pc' := 25) dX11_old_23 rfl bp_100 ?_
      refine aw_irem (pc' := 26) dX11_old_25 rfl (by decide) ?_
      obtain ⟨r4, ec4, hf⟩ := b1_e hf
      refine aw_callVi (M' := mX1_lists) (nc' := 0) (ns' := 0) (pc' := 29) dX11_old_26 rfl ml_RX11_230 kX1_lists (t_X1_lists H0 o_p1 ec4) (H0.ob (okC.ob o_p1) (by decide)) rfl rfl rfl (Nat.le_of_ble_eq_true rfl) (rokD (by omega) (Nat.le_of_ble_eq_true rfl) (Nat.le_of_ble_eq_true rfl) (Nat.le_of_ble_eq_true rfl)) rfl rfl (fun _ h4 q4 => ?_)
      obtain ⟨rfl, rfl, zb4⟩ := q4
      refine aw_if_eq (tgt := 34) (pc' := 32) dX11_old_29 rfl rfl (fun c5 => ?_) (fun c5 => ?_)
      · replace hf := ifp c5 hf
        refine aw_aload_n (pc' := 35) dX11_old_34 rfl rfl rfl ?_
        refine aw_iload_n (pc' := 36) dX11_old_35 rfl rfl ?_
        refine aw_bipush (v := 100) (pc' := 38) dX11_old_36 rfl bp_100 ?_
        refine aw_idiv (pc' := 39) dX11_old_38 rfl (by decide) ?_
        refine aw_iload_n (pc' := 40) dX11_old_39 rfl rfl ?_
        refine aw_bipush (v := 100) (pc' := 42) dX11_old_40 rfl bp_100 ?_
        refine aw_irem (pc' := 43) dX11_old_42 rfl (by decide) ?_
        obtain ⟨r6, s6, ec6, hf⟩ := bd_e hf
        refine aw_callVi (M' := mX1_listed) (nc' := 0) (ns' := 0) (pc' := 46) dX11_old_43 rfl ml_RX11_234 kX1_listed (t_X1_listed H0 o_p1 ec6) (H0.ob (okC.ob o_p1) (by decide)) rfl rfl rfl (Nat.le_of_ble_eq_true rfl) (rokD (by omega) (Nat.le_of_ble_eq_true rfl) (Nat.le_of_ble_eq_true rfl) (Nat.le_of_ble_eq_true rfl)) rfl rfl (fun _ h6 q6 => ?_)
        obtain ⟨rfl, H6, m6⟩ := q6
        obtain ⟨rfl, rfl⟩ := so2 hf
        exact aw_ri dX11_old_46 rfl rfl (Nat.le_of_ble_eq_true rfl) (Nat.le_of_ble_eq_true rfl) ⟨rfl, H6, m6⟩
      · replace hf := ifn c5 hf
        refine aw_iconst (v := (-1)) (pc' := 33) dX11_old_32 rfl ic_m1 ?_
        obtain ⟨rfl, rfl⟩ := so2 hf
        exact aw_ri dX11_old_33 rfl rfl (Nat.le_of_ble_eq_true rfl) (Nat.le_of_ble_eq_true rfl) ⟨rfl, H0, (Mo.rf _)⟩
/-! ThirtyThreeBelow.firstUnlikeYard -/
noncomputable def f_X11_firstUnlikeYard_L13_b (s0 : SS) (p1 : Nat) (p2 : Nat) (rc : Int32 → Int32 → Int32 → Option Int32) (x3 : Int32) (x4 : Int32) (x5 : Int32) : Option Int32 := (if (zS s0 p2 4) < x5 then some 0 else (b1 (f_X3_leastLean s0 p2 x5 (zS s0 0 15)) fun r3 => (vl ((x3 + r3)) fun v4 => (b1 (f_X3_mostLean s0 p2 x5 (zS s0 0 15)) fun r5 => (vl ((x4 + r5)) fun v6 => (b1 (f_X11_cutDown v4) fun r7 => (b1 (f_X11_cutUp v6) fun r8 => (gd (inB x5 61) (b1 (f_X1_isUnlike s0 p1 x5 r7 r8 (zI s0 (p2 + 2) (x5.toInt.toNat))) fun r11 => (if r11 = (0 : Int32) then (vl (x5 + 1) fun v13 => (rc v4 v6 v13)) else some x5))))))))))
noncomputable def f_X11_firstUnlikeYard_L13 (s0 : SS) (p1 : Nat) (p2 : Nat) : Nat → Int32 → Int32 → Int32 → Option Int32
  | 0, _, _, _ => none
  | n + 1, x3, x4, x5 => f_X11_firstUnlikeYard_L13_b s0 p1 p2 (f_X11_firstUnlikeYard_L13 s0 p1 p2 n) x3 x4 x5
set_option maxRecDepth 4000 in
theorem t_X11_firstUnlikeYard_L13 {r9 : Int32} {s0 : SS} {h0 : List aE} {p1 : Nat} {p2 : Nat} (H0 : HH s0 h0) (o_p1 : okC s0 p1) (o_p2 : okH s0 p2)  : ∀ (n : Nat) (x3 : Int32) (x4 : Int32) (x5 : Int32), f_X11_firstUnlikeYard_L13 s0 p1 p2 n x3 x4 x5 = some r9 → AW mX11_firstUnlikeYard (rmD (3) 0 0) (fin (PI fun r' h' => r9 = r' ∧ h0 = h') 0 0) 13 [some (.ref 8), some (.ref (p1 + 8)), some (.ref (p2 + 8)), some (.int x3), some (.int x4), some (.int x5)] [] h0 0 0 := by
  intro n
  induction n with
  | zero =>
    intro x3 x4 x5 hf
    cases hf
  | succ n ih =>
    intro x3 x4 x5 hf
    replace hf : f_X11_firstUnlikeYard_L13_b s0 p1 p2 (f_X11_firstUnlikeYard_L13 s0 p1 p2 n) x3 x4 x5 = some r9 := hf
    unfold f_X11_firstUnlikeYard_L13_b at hf
    refine aw_iload (pc' := 15) dX11_firstUnlikeYard_13 rfl rfl ?_
    refine aw_aload_n (pc' := 16) dX11_firstUnlikeYard_15 rfl rfl rfl ?_
    refine aw_gi (q := p2) (pc' := 19) H0 (okH.ob o_p2) (by decide) rfl dX11_firstUnlikeYard_16 rfl fl_RX11_184 ?_
    refine aw_cgt (tgt := 84) (pc' := 22) dX11_firstUnlikeYard_19 rfl rfl (fun c2 => ?_) (fun c2 => ?_)
    · replace hf := ifp c2 hf
      refine aw_iconst (v := 0) (pc' := 85) dX11_firstUnlikeYard_84 rfl ic_0 ?_
      obtain rfl := Option.some.inj hf
      exact aw_ri dX11_firstUnlikeYard_85 rfl rfl (Nat.le_of_ble_eq_true rfl) (Nat.le_of_ble_eq_true rfl) ⟨rfl, rfl⟩
    · replace hf := ifn c2 hf
      refine aw_iload_n (pc' := 23) dX11_firstUnlikeYard_22 rfl rfl ?_
      refine aw_aload_n (pc' := 24) dX11_firstUnlikeYard_23 rfl rfl rfl ?_
      refine aw_iload (pc' := 26) dX11_firstUnlikeYard_24 rfl rfl ?_
      refine aw_aload_n (pc' := 27) dX11_firstUnlikeYard_26 rfl rfl rfl ?_
      refine aw_gi (q := 0) (pc' := 30) H0 (H0.fo rfl rfl) (l13 rfl) rfl dX11_firstUnlikeYard_27 rfl fl_RX11_94 ?_
      obtain ⟨r3, ec3, hf⟩ := b1_e hf
      refine aw_callVi (M' := mX3_leastLean) (nc' := 0) (ns' := 0) (pc' := 33) dX11_firstUnlikeYard_30 rfl ml_RX11_208 kX3_leastLean (t_X3_leastLean H0 o_p2 ec3) (H0.ob (okH.ob o_p2) (by decide)) rfl rfl rfl (Nat.le_of_ble_eq_true rfl) (rokD (by omega) (Nat.le_of_ble_eq_true rfl) (Nat.le_of_ble_eq_true rfl) (Nat.le_of_ble_eq_true rfl)) rfl rfl (fun _ h3 q3 => ?_)
      obtain ⟨rfl, rfl⟩ := q3
      refine aw_iadd (pc' := 34) dX11_firstUnlikeYard_33 rfl ?_
      obtain ⟨v4, ev4, hf⟩ := vl_e hf
      refine aw_topi ev4 ?_
      refine aw_istore_n (lv' := [_, _, _, _, _, _]) (pc' := 35) dX11_firstUnlikeYard_34 rfl (Nat.le_of_ble_eq_true rfl) rfl ?_
      refine aw_iload (pc' := 37) dX11_firstUnlikeYard_35 rfl rfl ?_
      refine aw_aload_n (pc' := 38) dX11_firstUnlikeYard_37 rfl rfl rfl ?_
      refine aw_iload (pc' := 40) dX11_firstUnlikeYard_38 rfl rfl ?_
      refine aw_aload_n (pc' := 41) dX11_firstUnlikeYard_40 rfl rfl rfl ?_
      refine aw_gi (q := 0) (pc' := 44) H0 (H0.fo rfl rfl) (l13 rfl) rfl dX11_firstUnlikeYard_41 rfl fl_RX11_94 ?_
      obtain ⟨r5, ec5, hf⟩ := b1_e hf
      refine aw_callVi (M' := mX3_mostLean) (nc' := 0) (ns' := 0) (pc' := 47) dX11_firstUnlikeYard_44 rfl ml_RX11_211 kX3_mostLean (t_X3_mostLean H0 o_p2 ec5) (H0.ob (okH.ob o_p2) (by decide)) rfl rfl rfl (Nat.le_of_ble_eq_true rfl) (rokD (by omega) (Nat.le_of_ble_eq_true rfl) (Nat.le_of_ble_eq_true rfl) (Nat.le_of_ble_eq_true rfl)) rfl rfl (fun _ h5 q5 => ?_)
      obtain ⟨rfl, rfl⟩ := q5
      refine aw_iadd (pc' := 48) dX11_firstUnlikeYard_47 rfl ?_
      obtain ⟨v6, ev6, hf⟩ := vl_e hf
      refine aw_topi ev6 ?_
      refine aw_istore (lv' := [_, _, _, _, _, _]) (pc' := 50) dX11_firstUnlikeYard_48 rfl (Nat.le_of_ble_eq_true rfl) rfl ?_
      refine aw_aload_n (pc' := 51) dX11_firstUnlikeYard_50 rfl rfl rfl ?_
      refine aw_iload (pc' := 53) dX11_firstUnlikeYard_51 rfl rfl ?_
      refine aw_iload_n (pc' := 54) dX11_firstUnlikeYard_53 rfl rfl ?_
      obtain ⟨r7, ec7, hf⟩ := b1_e hf
      refine aw_callSi (M' := mX11_cutDown) (nc' := 0) (ns' := 0) (pc' := 57) dX11_firstUnlikeYard_54 rfl ml_RX11_214 kX11_cutDown (t_X11_cutDown ec7) rfl rfl (Nat.le_of_ble_eq_true rfl) (rokD (by omega) (Nat.le_of_ble_eq_true rfl) (Nat.le_of_ble_eq_true rfl) (Nat.le_of_ble_eq_true rfl)) rfl rfl (fun _ h7 q7 => ?_)
      obtain ⟨rfl, rfl⟩ := q7
      refine aw_iload (pc' := 59) dX11_firstUnlikeYard_57 rfl rfl ?_
      obtain ⟨r8, ec8, hf⟩ := b1_e hf
      refine aw_callSi (M' := mX11_cutUp) (nc' := 0) (ns' := 0) (pc' := 62) dX11_firstUnlikeYard_59 rfl ml_RX11_217 kX11_cutUp (t_X11_cutUp ec8) rfl rfl (Nat.le_of_ble_eq_true rfl) (rokD (by omega) (Nat.le_of_ble_eq_true rfl) (Nat.le_of_ble_eq_true rfl) (Nat.le_of_ble_eq_true rfl)) rfl rfl (fun _ h8 q8 => ?_)
      obtain ⟨rfl, rfl⟩ := q8
      refine aw_aload_n (pc' := 63) dX11_firstUnlikeYard_62 rfl rfl rfl ?_
      refine aw_gr (q := p2) (e := 5) (v := .ref (p2 + 2 + 8)) (pc' := 66) H0 (okH.ob o_p2) (by decide) rfl rfl dX11_firstUnlikeYard_63 rfl fl_RX11_187 ?_
      refine aw_iload (pc' := 68) dX11_firstUnlikeYard_66 rfl rfl ?_
      obtain ⟨g10, hf⟩ := gd_e hf
      refine aw_ia (q := (p2 + 2)) (pc' := 69) H0 (okH.a2 o_p2) g10 dX11_firstUnlikeYard_68 rfl ?_
      obtain ⟨r11, ec11, hf⟩ := b1_e hf
      refine aw_callVi (M' := mX1_isUnlike) (nc' := 0) (ns' := 0) (pc' := 72) dX11_firstUnlikeYard_69 rfl ml_RX11_473 kX1_isUnlike (t_X1_isUnlike H0 o_p1 ec11) (H0.ob (okC.ob o_p1) (by decide)) rfl rfl rfl (Nat.le_of_ble_eq_true rfl) (rokD (by omega) (Nat.le_of_ble_eq_true rfl) (Nat.le_of_ble_eq_true rfl) (Nat.le_of_ble_eq_true rfl)) rfl rfl (fun _ h11 q11 => ?_)
      obtain ⟨rfl, rfl, zb11⟩ := q11
      refine aw_if_eq (tgt := 78) (pc' := 75) dX11_firstUnlikeYard_72 rfl rfl (fun c12 => ?_) (fun c12 => ?_)
      · replace hf := ifp c12 hf
        obtain ⟨v13, ev13, hf⟩ := vl_e hf
        refine aw_iincV (y := v13) (lv' := [_, _, _, _, _, _]) (pc' := 81) dX11_firstUnlikeYard_78 rfl rfl (Nat.le_of_ble_eq_true rfl) ev13 rfl ?_
        refine aw_goto (tgt := 13) dX11_firstUnlikeYard_81 rfl ?_
        exact ih _ _ _ hf
      · replace hf := ifn c12 hf
        refine aw_iload (pc' := 77) dX11_firstUnlikeYard_75 rfl rfl ?_
        obtain rfl := Option.some.inj hf
        exact aw_ri dX11_firstUnlikeYard_77 rfl rfl (Nat.le_of_ble_eq_true rfl) (Nat.le_of_ble_eq_true rfl) ⟨rfl, rfl⟩
noncomputable def f_X11_firstUnlikeYard (s0 : SS) (pa0 : Nat) (pa1 : Nat) : Option Int32 := (vl (((4 : Int32) * (zS s0 pa1 0))) fun v1 => (f_X11_firstUnlikeYard_L13 s0 pa0 pa1 4000 v1 v1 1))
set_option maxRecDepth 4000 in
theorem t_X11_firstUnlikeYard {r9 : Int32} {s0 : SS} {h0 : List aE} {pa0 : Nat} {pa1 : Nat} (H0 : HH s0 h0) (o_pa0 : okC s0 pa0) (o_pa1 : okH s0 pa1) (hf : f_X11_firstUnlikeYard s0 pa0 pa1 = some r9) : AM mX11_firstUnlikeYard (3) [.ref 8, .ref (pa0 + 8), .ref (pa1 + 8)] h0 0 0 (PI fun r' h' => r9 = r' ∧ h0 = h') := by
  unfold f_X11_firstUnlikeYard at hf
  refine am_of (lv := [some (.ref 8), some (.ref (pa0 + 8)), some (.ref (pa1 + 8)), none, none, none]) rfl (Nat.le_of_ble_eq_true rfl) rfl ?_
  refine aw_iconst (v := 4) (pc' := 1) dX11_firstUnlikeYard_0 rfl ic_4 ?_
  refine aw_aload_n (pc' := 2) dX11_firstUnlikeYard_1 rfl rfl rfl ?_
  refine aw_gi (q := pa1) (pc' := 5) H0 (okH.ob o_pa1) (by decide) rfl dX11_firstUnlikeYard_2 rfl fl_RX11_205 ?_
  refine aw_imul (pc' := 6) dX11_firstUnlikeYard_5 rfl ?_
  obtain ⟨v1, ev1, hf⟩ := vl_e hf
  refine aw_topi ev1 ?_
  refine aw_istore_n (lv' := [_, _, _, _, _, _]) (pc' := 7) dX11_firstUnlikeYard_6 rfl (Nat.le_of_ble_eq_true rfl) rfl ?_
  refine aw_iload_n (pc' := 8) dX11_firstUnlikeYard_7 rfl rfl ?_
  refine aw_istore (lv' := [_, _, _, _, _, _]) (pc' := 10) dX11_firstUnlikeYard_8 rfl (Nat.le_of_ble_eq_true rfl) rfl ?_
  refine aw_iconst (v := 1) (pc' := 11) dX11_firstUnlikeYard_10 rfl ic_1 ?_
  refine aw_istore (lv' := [_, _, _, _, _, _]) (pc' := 13) dX11_firstUnlikeYard_11 rfl (Nat.le_of_ble_eq_true rfl) rfl ?_
  refine t_X11_firstUnlikeYard_L13 H0 o_pa0 o_pa1  4000 _ _ _ hf
/-! ThirtyThreeBelow.firstUnlike -/
noncomputable def f_X11_firstUnlike_L2_b (s0 : SS) (p1 : Nat) (rc : Int32 → Option Int32) (x2 : Int32) : Option Int32 := (if x2 < (zS s0 15 3) then (b1 (f_X0_holeOf s0 x2) fun r2 => (on r2 (vl (x2 + 1) fun v3 => (rc v3)) fun p2 => (b1 (f_X11_firstUnlikeYard s0 p1 p2) fun r4 => (if (0 : Int32) < r4 then some (((100 : Int32) * x2) + r4) else (vl (x2 + 1) fun v6 => (rc v6)))))) else some (-2))
noncomputable def f_X11_firstUnlike_L2 (s0 : SS) (p1 : Nat) : Nat → Int32 → Option Int32
  | 0, _ => none
  | n + 1, x2 => f_X11_firstUnlike_L2_b s0 p1 (f_X11_firstUnlike_L2 s0 p1 n) x2
set_option maxRecDepth 4000 in
theorem t_X11_firstUnlike_L2 {r9 : Int32} {s0 : SS} {h0 : List aE} {p1 : Nat} (H0 : HH s0 h0) (o_p1 : okC s0 p1)  : ∀ (n : Nat) (x2 : Int32), f_X11_firstUnlike_L2 s0 p1 n x2 = some r9 → AW mX11_firstUnlike (rmD (4) 0 0) (fin (PI fun r' h' => r9 = r' ∧ h0 = h') 0 0) 2 [some (.ref 8), some (.ref (p1 + 8)), some (.int x2), none, none] [] h0 0 0 := by
  intro n
  induction n with
  | zero =>
    intro x2 hf
    cases hf
  | succ n ih =>
    intro x2 hf
    replace hf : f_X11_firstUnlike_L2_b s0 p1 (f_X11_firstUnlike_L2 s0 p1 n) x2 = some r9 := hf
    unfold f_X11_firstUnlike_L2_b at hf
    refine aw_iload_n (pc' := 3) dX11_firstUnlike_2 rfl rfl ?_
    refine aw_aload_n (pc' := 4) dX11_firstUnlike_3 rfl rfl rfl ?_
    refine aw_gr (q := 0) (e := 31) (v := .ref 23) (pc' := 7) H0 (H0.fo rfl rfl) (l13 rfl) rfl rfl dX11_firstUnlike_4 rfl fl_RX11_28 ?_
    refine aw_gi (q := 15) (pc' := 10) H0 (H0.fo rfl rfl) (l13 rfl) rfl dX11_firstUnlike_7 rfl fl_RX11_381 ?_
    refine aw_cge (tgt := 57) (pc' := 13) dX11_firstUnlike_10 rfl rfl (fun c1 => ?_) (fun c1 => ?_)
    · replace hf := ifn c1 hf
      refine aw_bipush (v := (-2)) (pc' := 59) dX11_firstUnlike_57 rfl bp_m2 ?_
      obtain rfl := Option.some.inj hf
      exact aw_ri dX11_firstUnlike_59 rfl rfl (Nat.le_of_ble_eq_true rfl) (Nat.le_of_ble_eq_true rfl) ⟨rfl, rfl⟩
    · replace hf := ifp c1 hf
      refine aw_aload_n (pc' := 14) dX11_firstUnlike_13 rfl rfl rfl ?_
      refine aw_gr (q := 0) (e := 31) (v := .ref 23) (pc' := 17) H0 (H0.fo rfl rfl) (l13 rfl) rfl rfl dX11_firstUnlike_14 rfl fl_RX11_28 ?_
      refine aw_iload_n (pc' := 18) dX11_firstUnlike_17 rfl rfl ?_
      obtain ⟨r2, ec2, hf⟩ := b1_e hf
      replace hf := on_e hf
      rcases hf with ⟨rfl, hf⟩ | ⟨p2, rfl, hf⟩
      · refine aw_callVa (M' := mX0_holeOf) (nc' := 0) (ns' := 0) (pc' := 21) dX11_firstUnlike_18 rfl ml_RX11_139 kX0_holeOf (t_X0_holeOf H0 ec2) (H0.ob (H0.fo rfl rfl) (by decide)) rfl rfl rfl (Nat.le_of_ble_eq_true rfl) (rokD (by omega) (Nat.le_of_ble_eq_true rfl) (Nat.le_of_ble_eq_true rfl) (Nat.le_of_ble_eq_true rfl)) rfl rfl (fun _ h2 q2 => ?_)
        obtain ⟨rfl, rfl, oo2⟩ := q2
        show AW _ _ _ _ _ (Value.null :: _) _ _ _
        refine aw_astore_n (lv' := [_, _, _, _, _]) (pc' := 22) dX11_firstUnlike_21 rfl (Nat.le_of_ble_eq_true rfl) rfl rfl ?_
        refine aw_aload_n (pc' := 23) dX11_firstUnlike_22 rfl rfl rfl ?_
        refine aw_ifnonnull_n (pc' := 26) dX11_firstUnlike_23 rfl ?_
        refine aw_iconst (v := 0) (pc' := 27) dX11_firstUnlike_26 rfl ic_0 ?_
        refine aw_goto (tgt := 36) dX11_firstUnlike_27 rfl ?_
        refine aw_istore (lv' := [_, _, _, _, _]) (pc' := 38) dX11_firstUnlike_36 rfl (Nat.le_of_ble_eq_true rfl) rfl ?_
        refine aw_iload (pc' := 40) dX11_firstUnlike_38 rfl rfl ?_
        refine aw_zle (tgt := 51) (pc' := 43) dX11_firstUnlike_40 rfl rfl (fun _ => ?_) (fun c => absurd c (by decide))
        obtain ⟨v3, ev3, hf⟩ := vl_e hf
        refine aw_iincV (y := v3) (lv' := [_, _, _, _, _]) (pc' := 54) dX11_firstUnlike_51 rfl rfl (Nat.le_of_ble_eq_true rfl) ev3 rfl ?_
        refine aw_goto (tgt := 2) dX11_firstUnlike_54 rfl ?_
        refine AW.lv_le (lz_k (lz_k (lz_k (lz_d (lz_d lz_0))))) ?_
        exact ih _ hf
      · refine aw_callVa (M' := mX0_holeOf) (nc' := 0) (ns' := 0) (pc' := 21) dX11_firstUnlike_18 rfl ml_RX11_139 kX0_holeOf (t_X0_holeOf H0 ec2) (H0.ob (H0.fo rfl rfl) (by decide)) rfl rfl rfl (Nat.le_of_ble_eq_true rfl) (rokD (by omega) (Nat.le_of_ble_eq_true rfl) (Nat.le_of_ble_eq_true rfl) (Nat.le_of_ble_eq_true rfl)) rfl rfl (fun _ h2 q2 => ?_)
        obtain ⟨rfl, rfl, oo2⟩ := q2
        show AW _ _ _ _ _ (Value.ref (p2 + 8) :: _) _ _ _
        have o_p2 : okH s0 p2 := oo2 _ rfl
        refine aw_astore_n (lv' := [_, _, _, _, _]) (pc' := 22) dX11_firstUnlike_21 rfl (Nat.le_of_ble_eq_true rfl) rfl rfl ?_
        refine aw_aload_n (pc' := 23) dX11_firstUnlike_22 rfl rfl rfl ?_
        refine aw_ifnonnull_r (tgt := 30) dX11_firstUnlike_23 (by decide) ?_
        refine aw_aload_n (pc' := 31) dX11_firstUnlike_30 rfl rfl rfl ?_
        refine aw_aload_n (pc' := 32) dX11_firstUnlike_31 rfl rfl rfl ?_
        refine aw_aload_n (pc' := 33) dX11_firstUnlike_32 rfl rfl rfl ?_
        obtain ⟨r4, ec4, hf⟩ := b1_e hf
        refine aw_callVi (M' := mX11_firstUnlikeYard) (nc' := 0) (ns' := 0) (pc' := 36) dX11_firstUnlike_33 rfl ml_RX11_469 kX11_firstUnlikeYard (t_X11_firstUnlikeYard H0 o_p1 o_p2 ec4) (H0.ob (H0.fo rfl rfl) (by decide)) rfl rfl rfl (Nat.le_of_ble_eq_true rfl) (rokD (by omega) (Nat.le_of_ble_eq_true rfl) (Nat.le_of_ble_eq_true rfl) (Nat.le_of_ble_eq_true rfl)) rfl rfl (fun _ h4 q4 => ?_)
        obtain ⟨rfl, rfl⟩ := q4
        refine aw_istore (lv' := [_, _, _, _, _]) (pc' := 38) dX11_firstUnlike_36 rfl (Nat.le_of_ble_eq_true rfl) rfl ?_
        refine aw_iload (pc' := 40) dX11_firstUnlike_38 rfl rfl ?_
        refine aw_zle (tgt := 51) (pc' := 43) dX11_firstUnlike_40 rfl rfl (fun c5 => ?_) (fun c5 => ?_)
        · replace hf := ifn c5 hf
          obtain ⟨v6, ev6, hf⟩ := vl_e hf
          refine aw_iincV (y := v6) (lv' := [_, _, _, _, _]) (pc' := 54) dX11_firstUnlike_51 rfl rfl (Nat.le_of_ble_eq_true rfl) ev6 rfl ?_
          refine aw_goto (tgt := 2) dX11_firstUnlike_54 rfl ?_
          refine AW.lv_le (lz_k (lz_k (lz_k (lz_d (lz_d lz_0))))) ?_
          exact ih _ hf
        · replace hf := ifp c5 hf
          refine aw_bipush (v := 100) (pc' := 45) dX11_firstUnlike_43 rfl bp_100 ?_
          refine aw_iload_n (pc' := 46) dX11_firstUnlike_45 rfl rfl ?_
          refine aw_imul (pc' := 47) dX11_firstUnlike_46 rfl ?_
          refine aw_iload (pc' := 49) dX11_firstUnlike_47 rfl rfl ?_
          refine aw_iadd (pc' := 50) dX11_firstUnlike_49 rfl ?_
          obtain rfl := Option.some.inj hf
          exact aw_ri dX11_firstUnlike_50 rfl rfl (Nat.le_of_ble_eq_true rfl) (Nat.le_of_ble_eq_true rfl) ⟨rfl, rfl⟩
noncomputable def f_X11_firstUnlike (s0 : SS) (pa0 : Nat) : Option Int32 := (f_X11_firstUnlike_L2 s0 pa0 4000 0)
set_option maxRecDepth 4000 in
theorem t_X11_firstUnlike {r9 : Int32} {s0 : SS} {h0 : List aE} {pa0 : Nat} (H0 : HH s0 h0) (o_pa0 : okC s0 pa0) (hf : f_X11_firstUnlike s0 pa0 = some r9) : AM mX11_firstUnlike (4) [.ref 8, .ref (pa0 + 8)] h0 0 0 (PI fun r' h' => r9 = r' ∧ h0 = h') := by
  unfold f_X11_firstUnlike at hf
  refine am_of (lv := [some (.ref 8), some (.ref (pa0 + 8)), none, none, none]) rfl (Nat.le_of_ble_eq_true rfl) rfl ?_
  refine aw_iconst (v := 0) (pc' := 1) dX11_firstUnlike_0 rfl ic_0 ?_
  refine aw_istore_n (lv' := [_, _, _, _, _]) (pc' := 2) dX11_firstUnlike_1 rfl (Nat.le_of_ble_eq_true rfl) rfl ?_
  refine t_X11_firstUnlike_L2 H0 o_pa0  4000 _ hf
/-! ThirtyThreeBelow.wrong -/
noncomputable def f_X11_wrong (s0 : SS) (a0 : Int32) : Option Int32 := (b1 (f_X11_chartOf s0 a0) fun r1 => (on r1 (some (-1)) fun p1 => (b1 (f_X11_firstUnlike s0 p1) fun r2 => some r2)))
set_option maxRecDepth 4000 in
theorem t_X11_wrong {r9 : Int32} {s0 : SS} {h0 : List aE} {a0 : Int32} (H0 : HH s0 h0) (hf : f_X11_wrong s0 a0 = some r9) : AM mX11_wrong (5) [.ref 8, .int a0] h0 0 0 (PI fun r' h' => r9 = r' ∧ h0 = h') := by
  unfold f_X11_wrong at hf
  refine am_of (lv := [some (.ref 8), some (.int a0), none]) rfl (Nat.le_of_ble_eq_true rfl) rfl ?_
  refine aw_aload_n (pc' := 1) dX11_wrong_0 rfl rfl rfl ?_
  refine aw_iload_n (pc' := 2) dX11_wrong_1 rfl rfl ?_
  obtain ⟨r1, ec1, hf⟩ := b1_e hf
  replace hf := on_e hf
  rcases hf with ⟨rfl, hf⟩ | ⟨p1, rfl, hf⟩
  · refine aw_callVa (M' := mX11_chartOf) (nc' := 0) (ns' := 0) (pc' := 5) dX11_wrong_2 rfl ml_RX11_226 kX11_chartOf (t_X11_chartOf H0 ec1) (H0.ob (H0.fo rfl rfl) (by decide)) rfl rfl rfl (Nat.le_of_ble_eq_true rfl) (rokD (by omega) (Nat.le_of_ble_eq_true rfl) (Nat.le_of_ble_eq_true rfl) (Nat.le_of_ble_eq_true rfl)) rfl rfl (fun _ h1 q1 => ?_)
    obtain ⟨rfl, rfl, oo1⟩ := q1
    show AW _ _ _ _ _ (Value.null :: _) _ _ _
    refine aw_astore_n (lv' := [_, _, _]) (pc' := 6) dX11_wrong_5 rfl (Nat.le_of_ble_eq_true rfl) rfl rfl ?_
    refine aw_aload_n (pc' := 7) dX11_wrong_6 rfl rfl rfl ?_
    refine aw_ifnonnull_n (pc' := 10) dX11_wrong_7 rfl ?_
    refine aw_iconst (v := (-1)) (pc' := 11) dX11_wrong_10 rfl ic_m1 ?_
    refine aw_goto (tgt := 19) dX11_wrong_11 rfl ?_
    obtain rfl := Option.some.inj hf
    exact aw_ri dX11_wrong_19 rfl rfl (Nat.le_of_ble_eq_true rfl) (Nat.le_of_ble_eq_true rfl) ⟨rfl, rfl⟩
  · refine aw_callVa (M' := mX11_chartOf) (nc' := 0) (ns' := 0) (pc' := 5) dX11_wrong_2 rfl ml_RX11_226 kX11_chartOf (t_X11_chartOf H0 ec1) (H0.ob (H0.fo rfl rfl) (by decide)) rfl rfl rfl (Nat.le_of_ble_eq_true rfl) (rokD (by omega) (Nat.le_of_ble_eq_true rfl) (Nat.le_of_ble_eq_true rfl) (Nat.le_of_ble_eq_true rfl)) rfl rfl (fun _ h1 q1 => ?_)
    obtain ⟨rfl, rfl, oo1⟩ := q1
    show AW _ _ _ _ _ (Value.ref (p1 + 8) :: _) _ _ _
    have o_p1 : okC s0 p1 := oo1 _ rfl
    refine aw_astore_n (lv' := [_, _, _]) (pc' := 6) dX11_wrong_5 rfl (Nat.le_of_ble_eq_true rfl) rfl rfl ?_
    refine aw_aload_n (pc' := 7) dX11_wrong_6 rfl rfl rfl ?_
    refine aw_ifnonnull_r (tgt := 14) dX11_wrong_7 (by decide) ?_
    refine aw_aload_n (pc' := 15) dX11_wrong_14 rfl rfl rfl ?_
    refine aw_aload_n (pc' := 16) dX11_wrong_15 rfl rfl rfl ?_
    obtain ⟨r2, ec2, hf⟩ := b1_e hf
    refine aw_callVi (M' := mX11_firstUnlike) (nc' := 0) (ns' := 0) (pc' := 19) dX11_wrong_16 rfl ml_RX11_237 kX11_firstUnlike (t_X11_firstUnlike H0 o_p1 ec2) (H0.ob (H0.fo rfl rfl) (by decide)) rfl rfl rfl (Nat.le_of_ble_eq_true rfl) (rokD (by omega) (Nat.le_of_ble_eq_true rfl) (Nat.le_of_ble_eq_true rfl) (Nat.le_of_ble_eq_true rfl)) rfl rfl (fun _ h2 q2 => ?_)
    obtain ⟨rfl, rfl⟩ := q2
    obtain rfl := Option.some.inj hf
    exact aw_ri dX11_wrong_19 rfl rfl (Nat.le_of_ble_eq_true rfl) (Nat.le_of_ble_eq_true rfl) ⟨rfl, rfl⟩
/-! ThirtyThreeBelow.known -/
noncomputable def f_X11_known_L29_b (q0 : Int32 → Int32 → Int32 → Int32 → Option Int32) (s0 : SS) (y1 : Int32) (rc : Int32 → Int32 → Int32 → Int32 → Int32 → Int32 → Option Int32) (x2 : Int32) (x3 : Int32) (x4 : Int32) (x5 : Int32) (x6 : Int32) (x7 : Int32) : Option Int32 := (if x7 < (zS s0 0 5) then (gd (inB x7 8) (on (zR s0 23 (x7.toInt.toNat)) (vl (x7 + 1) fun v6 => (rc x2 x3 x4 x5 x6 v6)) fun p5 => (b1 (f_X11_firstUnlike s0 p5) fun r7 => (if r7 = ((-2) : Int32) then (jn (fun (t10_0 : Int32) => (jn (fun (t11_0 : Int32) => (vl ((zS s0 p5 2)) fun v12 => (b1 (f_J9_max_7cf53 x5 (zS s0 p5 0)) fun r13 => (b1 (f_J9_min_7cf53 x4 (zS s0 p5 1)) fun r14 => (b1 (f_X1_edge s0 p5 y1) fun r15 => (jn (fun (t16_0 : Int32) => (vl (x7 + 1) fun v17 => (rc t16_0 t11_0 r14 r13 v12 v17))) fun k16 => (if t10_0 = (0 : Int32) then (jn ((b1 (f_J9_min_7cf53 x2 r15) fun r20 => (k16 r20))) fun k19 => (if y1 = (0 : Int32) then k19 else (if y1 = (2 : Int32) then k19 else (if y1 = (5 : Int32) then k19 else (b1 (f_J9_max_7cf53 x2 r15) fun r24 => (k16 r24)))))) else (k16 r15)))))))) fun k11 => (jn ((k11 0)) fun k25 => (if x3 = (0 : Int32) then k25 else (jn ((k11 1)) fun k27 => (if t10_0 = (0 : Int32) then (if (zS s0 p5 2) = x6 then k27 else k25) else k27)))))) fun k10 => (if x2 = ((-2) : Int32) then (k10 1) else (k10 0))) else (vl (x7 + 1) fun v31 => (rc x2 x3 x4 x5 x6 v31)))))) else (q0 x2 x3 x4 x5))
noncomputable def f_X11_known_L29 (q0 : Int32 → Int32 → Int32 → Int32 → Option Int32) (s0 : SS) (y1 : Int32) : Nat → Int32 → Int32 → Int32 → Int32 → Int32 → Int32 → Option Int32
  | 0, _, _, _, _, _, _ => none
  | n + 1, x2, x3, x4, x5, x6, x7 => f_X11_known_L29_b q0 s0 y1 (f_X11_known_L29 q0 s0 y1 n) x2 x3 x4 x5 x6 x7
set_option maxRecDepth 4000 in
theorem t_X11_known_L29 {r9 : Int32} {s0 : SS} {h0 : List aE} {q0 : Int32 → Int32 → Int32 → Int32 → Option Int32} {y1 : Int32} (H0 : HH s0 h0) (hq0 : ∀ (x2 : Int32) (x3 : Int32) (x4 : Int32) (x5 : Int32), q0 x2 x3 x4 x5 = some r9 → AW mX11_known (rmD (5) 0 0) (fin (PI fun r' h' => r9 = r' ∧ h0 = h') 0 0) 189 [none, some (.int y1), some (.int x2), some (.int x3), some (.int x4), some (.int x5), none, none, none, none, none] [] h0 0 0) : ∀ (n : Nat) (x2 : Int32) (x3 : Int32) (x4 : Int32) (x5 : Int32) (x6 : Int32) (x7 : Int32), f_X11_known_L29 q0 s0 y1 n x2 x3 x4 x5 x6 x7 = some r9 → AW mX11_known (rmD (5) 0 0) (fin (PI fun r' h' => r9 = r' ∧ h0 = h') 0 0) 29 [some (.ref 8), some (.int y1), some (.int x2), some (.int x3), some (.int x4), some (.int x5), some (.int x6), some (.int x7), none, none, none] [] h0 0 0 := by
  intro n
  induction n with
  | zero =>
    intro x2 x3 x4 x5 x6 x7 hf
    cases hf
  | succ n ih =>
    intro x2 x3 x4 x5 x6 x7 hf
    replace hf : f_X11_known_L29_b q0 s0 y1 (f_X11_known_L29 q0 s0 y1 n) x2 x3 x4 x5 x6 x7 = some r9 := hf
    unfold f_X11_known_L29_b at hf
    refine aw_iload (pc' := 31) dX11_known_29 rfl rfl ?_
    refine aw_aload_n (pc' := 32) dX11_known_31 rfl rfl rfl ?_
    refine aw_gi (q := 0) (pc' := 35) H0 (H0.fo rfl rfl) (l13 rfl) rfl dX11_known_32 rfl fl_RX11_220 ?_
    refine aw_cge (tgt := 189) (pc' := 38) dX11_known_35 rfl rfl (fun c3 => ?_) (fun c3 => ?_)
    · replace hf := ifn c3 hf
      refine AW.lv_le (lz_d (lz_k (lz_k (lz_k (lz_k (lz_k (lz_d (lz_d (lz_d (lz_d (lz_d lz_0))))))))))) ?_
      exact hq0 _ _ _ _ hf
    · replace hf := ifp c3 hf
      refine aw_aload_n (pc' := 39) dX11_known_38 rfl rfl rfl ?_
      refine aw_gr (q := 0) (e := 47) (v := .ref 31) (pc' := 42) H0 (H0.fo rfl rfl) (l13 rfl) rfl rfl dX11_known_39 rfl fl_RX11_41 ?_
      refine aw_iload (pc' := 44) dX11_known_42 rfl rfl ?_
      obtain ⟨g4, hf⟩ := gd_e hf
      replace hf := on_e hf
      rcases hf with ⟨eo5, hf⟩ | ⟨p5, eo5, hf⟩
      · refine aw_ra_ (q := 23) (t := 6) (pc' := 45) H0 (H0.fa rfl rfl rfl) (by decide) (by decide) rfl g4 eo5 dX11_known_44 rfl ?_
        show AW _ _ _ _ _ (Value.null :: _) _ _ _
        refine aw_astore (lv' := [_, _, _, _, _, _, _, _, _, _, _]) (pc' := 47) dX11_known_45 rfl (Nat.le_of_ble_eq_true rfl) rfl rfl ?_
        refine aw_aload (pc' := 49) dX11_known_47 rfl rfl rfl ?_
        refine aw_ifnull_n (tgt := 183) dX11_known_49 (by decide) ?_
        obtain ⟨v6, ev6, hf⟩ := vl_e hf
        refine aw_iincV (y := v6) (lv' := [_, _, _, _, _, _, _, _, _, _, _]) (pc' := 186) dX11_known_183 rfl rfl (Nat.le_of_ble_eq_true rfl) ev6 rfl ?_
        refine aw_goto (tgt := 29) dX11_known_186 rfl ?_
        refine AW.lv_le (lz_k (lz_k (lz_k (lz_k (lz_k (lz_k (lz_k (lz_k (lz_d (lz_d (lz_d lz_0))))))))))) ?_
        exact ih _ _ _ _ _ _ hf
      · refine aw_ra_ (q := 23) (t := 6) (pc' := 45) H0 (H0.fa rfl rfl rfl) (by decide) (by decide) rfl g4 eo5 dX11_known_44 rfl ?_
        show AW _ _ _ _ _ (Value.ref (p5 + 8) :: _) _ _ _
        have o_p5 : okC s0 p5 := (H0.2.2.2.2.2.2.1 _ _ (ixl g4) eo5)
        refine aw_astore (lv' := [_, _, _, _, _, _, _, _, _, _, _]) (pc' := 47) dX11_known_45 rfl (Nat.le_of_ble_eq_true rfl) rfl rfl ?_
        refine aw_aload (pc' := 49) dX11_known_47 rfl rfl rfl ?_
        refine aw_ifnull_r (pc' := 52) dX11_known_49 rfl ?_
        refine aw_aload_n (pc' := 53) dX11_known_52 rfl rfl rfl ?_
        refine aw_aload (pc' := 55) dX11_known_53 rfl rfl rfl ?_
        obtain ⟨r7, ec7, hf⟩ := b1_e hf
        refine aw_callVi (M' := mX11_firstUnlike) (nc' := 0) (ns' := 0) (pc' := 58) dX11_known_55 rfl ml_RX11_237 kX11_firstUnlike (t_X11_firstUnlike H0 o_p5 ec7) (H0.ob (H0.fo rfl rfl) (by decide)) rfl rfl rfl (Nat.le_of_ble_eq_true rfl) (rokD (by omega) (Nat.le_of_ble_eq_true rfl) (Nat.le_of_ble_eq_true rfl) (Nat.le_of_ble_eq_true rfl)) rfl rfl (fun _ h7 q7 => ?_)
        obtain ⟨rfl, rfl⟩ := q7
        refine aw_bipush (v := (-2)) (pc' := 60) dX11_known_58 rfl bp_m2 ?_
        refine aw_icmp_eq (tgt := 66) (pc' := 63) dX11_known_60 rfl rfl (fun c8 => ?_) (fun c8 => ?_)
        · replace hf := ifp c8 hf
          refine aw_iload_n (pc' := 67) dX11_known_66 rfl rfl ?_
          refine aw_bipush (v := (-2)) (pc' := 69) dX11_known_67 rfl bp_m2 ?_
          obtain ⟨k10, ek10, hf⟩ := jn_e hf
          have hk10 : ∀ (t10_0 : Int32), k10 t10_0 = some r9 → AW mX11_known (rmD (5) 0 0) (fin (PI fun r' h' => r9 = r' ∧ h0 = h') 0 0) 77 [some (.ref 8), some (.int y1), some (.int x2), some (.int x3), some (.int x4), some (.int x5), some (.int x6), some (.int x7), some (.ref (p5 + 8)), none, none] [.int t10_0] h0 0 0 := by
            intro t10_0 hf
            subst ek10
            refine aw_istore (lv' := [_, _, _, _, _, _, _, _, _, _, _]) (pc' := 79) dX11_known_77 rfl (Nat.le_of_ble_eq_true rfl) rfl ?_
            refine aw_iload_n (pc' := 80) dX11_known_79 rfl rfl ?_
            obtain ⟨k11, ek11, hf⟩ := jn_e hf
            have hk11 : ∀ (t11_0 : Int32), k11 t11_0 = some r9 → AW mX11_known (rmD (5) 0 0) (fin (PI fun r' h' => r9 = r' ∧ h0 = h') 0 0) 103 [some (.ref 8), some (.int y1), some (.int x2), none, some (.int x4), some (.int x5), none, some (.int x7), some (.ref (p5 + 8)), some (.int t10_0), none] [.int t11_0] h0 0 0 := by
              intro t11_0 hf
              subst ek11
              refine aw_istore_n (lv' := [_, _, _, _, _, _, _, _, _, _, _]) (pc' := 104) dX11_known_103 rfl (Nat.le_of_ble_eq_true rfl) rfl ?_
              refine aw_aload (pc' := 106) dX11_known_104 rfl rfl rfl ?_
              refine aw_gi (q := p5) (pc' := 109) H0 (okC.ob o_p5) (by decide) rfl dX11_known_106 rfl fl_RX11_241 ?_
              obtain ⟨v12, ev12, hf⟩ := vl_e hf
              refine aw_topi ev12 ?_
              refine aw_istore (lv' := [_, _, _, _, _, _, _, _, _, _, _]) (pc' := 111) dX11_known_109 rfl (Nat.le_of_ble_eq_true rfl) rfl ?_
              refine aw_iload (pc' := 113) dX11_known_111 rfl rfl ?_
              refine aw_aload (pc' := 115) dX11_known_113 rfl rfl rfl ?_
              refine aw_gi (q := p5) (pc' := 118) H0 (okC.ob o_p5) (by decide) rfl dX11_known_115 rfl fl_RX11_244 ?_
              obtain ⟨r13, ec13, hf⟩ := b1_e hf
              refine aw_callSi (M' := mJ9_max_7cf53) (nc' := 0) (ns' := 0) (pc' := 121) dX11_known_118 rfl ml_RX11_247 kJ9_max_7cf53 (t_J9_max_7cf53 ec13) rfl rfl (Nat.le_of_ble_eq_true rfl) (rokD (by omega) (Nat.le_of_ble_eq_true rfl) (Nat.le_of_ble_eq_true rfl) (Nat.le_of_ble_eq_true rfl)) rfl rfl (fun _ h13 q13 => ?_)
              obtain ⟨rfl, rfl⟩ := q13
              refine aw_istore (lv' := [_, _, _, _, _, _, _, _, _, _, _]) (pc' := 123) dX11_known_121 rfl (Nat.le_of_ble_eq_true rfl) rfl ?_
              refine aw_iload (pc' := 125) dX11_known_123 rfl rfl ?_
              refine aw_aload (pc' := 127) dX11_known_125 rfl rfl rfl ?_
              refine aw_gi (q := p5) (pc' := 130) H0 (okC.ob o_p5) (by decide) rfl dX11_known_127 rfl fl_RX11_252 ?_
              obtain ⟨r14, ec14, hf⟩ := b1_e hf
              refine aw_callSi (M' := mJ9_min_7cf53) (nc' := 0) (ns' := 0) (pc' := 133) dX11_known_130 rfl ml_RX11_255 kJ9_min_7cf53 (t_J9_min_7cf53 ec14) rfl rfl (Nat.le_of_ble_eq_true rfl) (rokD (by omega) (Nat.le_of_ble_eq_true rfl) (Nat.le_of_ble_eq_true rfl) (Nat.le_of_ble_eq_true rfl)) rfl rfl (fun _ h14 q14 => ?_)
              obtain ⟨rfl, rfl⟩ := q14
              refine aw_istore (lv' := [_, _, _, _, _, _, _, _, _, _, _]) (pc' := 135) dX11_known_133 rfl (Nat.le_of_ble_eq_true rfl) rfl ?_
              refine aw_aload (pc' := 137) dX11_known_135 rfl rfl rfl ?_
              refine aw_iload_n (pc' := 138) dX11_known_137 rfl rfl ?_
              obtain ⟨r15, ec15, hf⟩ := b1_e hf
              refine aw_callVi (M' := mX1_edge) (nc' := 0) (ns' := 0) (pc' := 141) dX11_known_138 rfl ml_RX11_258 kX1_edge (t_X1_edge H0 o_p5 ec15) (H0.ob (okC.ob o_p5) (by decide)) rfl rfl rfl (Nat.le_of_ble_eq_true rfl) (rokD (by omega) (Nat.le_of_ble_eq_true rfl) (Nat.le_of_ble_eq_true rfl) (Nat.le_of_ble_eq_true rfl)) rfl rfl (fun _ h15 q15 => ?_)
              obtain ⟨rfl, rfl⟩ := q15
              refine aw_istore (lv' := [_, _, _, _, _, _, _, _, _, _, _]) (pc' := 143) dX11_known_141 rfl (Nat.le_of_ble_eq_true rfl) rfl ?_
              refine aw_iload (pc' := 145) dX11_known_143 rfl rfl ?_
              obtain ⟨k16, ek16, hf⟩ := jn_e hf
              have hk16 : ∀ (t16_0 : Int32), k16 t16_0 = some r9 → AW mX11_known (rmD (5) 0 0) (fin (PI fun r' h' => r9 = r' ∧ h0 = h') 0 0) 182 [some (.ref 8), some (.int y1), none, some (.int t11_0), some (.int r14), some (.int r13), some (.int v12), some (.int x7), none, none, none] [.int t16_0] h0 0 0 := by
                intro t16_0 hf
                subst ek16
                refine aw_istore_n (lv' := [_, _, _, _, _, _, _, _, _, _, _]) (pc' := 183) dX11_known_182 rfl (Nat.le_of_ble_eq_true rfl) rfl ?_
                obtain ⟨v17, ev17, hf⟩ := vl_e hf
                refine aw_iincV (y := v17) (lv' := [_, _, _, _, _, _, _, _, _, _, _]) (pc' := 186) dX11_known_183 rfl rfl (Nat.le_of_ble_eq_true rfl) ev17 rfl ?_
                refine aw_goto (tgt := 29) dX11_known_186 rfl ?_
                exact ih _ _ _ _ _ _ hf
              clear ek16
              refine aw_if_eq (tgt := 153) (pc' := 148) dX11_known_145 rfl rfl (fun c18 => ?_) (fun c18 => ?_)
              · replace hf := ifp c18 hf
                refine aw_iload_n (pc' := 154) dX11_known_153 rfl rfl ?_
                obtain ⟨k19, ek19, hf⟩ := jn_e hf
                have hk19 : k19 = some r9 → AW mX11_known (rmD (5) 0 0) (fin (PI fun r' h' => r9 = r' ∧ h0 = h') 0 0) 167 [some (.ref 8), some (.int y1), some (.int x2), some (.int t11_0), some (.int r14), some (.int r13), some (.int v12), some (.int x7), none, none, some (.int r15)] [] h0 0 0 := by
                  intro hf
                  subst ek19
                  refine aw_iload_n (pc' := 168) dX11_known_167 rfl rfl ?_
                  refine aw_iload (pc' := 170) dX11_known_168 rfl rfl ?_
                  obtain ⟨r20, ec20, hf⟩ := b1_e hf
                  refine aw_callSi (M' := mJ9_min_7cf53) (nc' := 0) (ns' := 0) (pc' := 173) dX11_known_170 rfl ml_RX11_255 kJ9_min_7cf53 (t_J9_min_7cf53 ec20) rfl rfl (Nat.le_of_ble_eq_true rfl) (rokD (by omega) (Nat.le_of_ble_eq_true rfl) (Nat.le_of_ble_eq_true rfl) (Nat.le_of_ble_eq_true rfl)) rfl rfl (fun _ h20 q20 => ?_)
                  obtain ⟨rfl, rfl⟩ := q20
                  refine aw_goto (tgt := 182) dX11_known_173 rfl ?_
                  refine AW.lv_le (lz_k (lz_k (lz_d (lz_k (lz_k (lz_k (lz_k (lz_k (lz_d (lz_d (lz_d lz_0))))))))))) ?_
                  exact hk16 _ hf
                clear ek19
                refine aw_if_eq (tgt := 167) (pc' := 157) dX11_known_154 rfl rfl (fun c21 => ?_) (fun c21 => ?_)
                · replace hf := ifp c21 hf
                  refine AW.lv_le (lz_k (lz_k (lz_k (lz_k (lz_k (lz_k (lz_k (lz_k (lz_d (lz_d (lz_k lz_0))))))))))) ?_
                  exact hk19  hf
                · replace hf := ifn c21 hf
                  refine aw_iload_n (pc' := 158) dX11_known_157 rfl rfl ?_
                  refine aw_iconst (v := 2) (pc' := 159) dX11_known_158 rfl ic_2 ?_
                  refine aw_icmp_eq (tgt := 167) (pc' := 162) dX11_known_159 rfl rfl (fun c22 => ?_) (fun c22 => ?_)
                  · replace hf := ifp c22 hf
                    refine AW.lv_le (lz_k (lz_k (lz_k (lz_k (lz_k (lz_k (lz_k (lz_k (lz_d (lz_d (lz_k lz_0))))))))))) ?_
                    exact hk19  hf
                  · replace hf := ifn c22 hf
                    refine aw_iload_n (pc' := 163) dX11_known_162 rfl rfl ?_
                    refine aw_iconst (v := 5) (pc' := 164) dX11_known_163 rfl ic_5 ?_
                    refine aw_icmp_ne (tgt := 176) (pc' := 167) dX11_known_164 rfl rfl (fun c23 => ?_) (fun c23 => ?_)
                    · replace hf := ifn c23 hf
                      refine aw_iload_n (pc' := 177) dX11_known_176 rfl rfl ?_
                      refine aw_iload (pc' := 179) dX11_known_177 rfl rfl ?_
                      obtain ⟨r24, ec24, hf⟩ := b1_e hf
                      refine aw_callSi (M' := mJ9_max_7cf53) (nc' := 0) (ns' := 0) (pc' := 182) dX11_known_179 rfl ml_RX11_247 kJ9_max_7cf53 (t_J9_max_7cf53 ec24) rfl rfl (Nat.le_of_ble_eq_true rfl) (rokD (by omega) (Nat.le_of_ble_eq_true rfl) (Nat.le_of_ble_eq_true rfl) (Nat.le_of_ble_eq_true rfl)) rfl rfl (fun _ h24 q24 => ?_)
                      obtain ⟨rfl, rfl⟩ := q24
                      refine AW.lv_le (lz_k (lz_k (lz_d (lz_k (lz_k (lz_k (lz_k (lz_k (lz_d (lz_d (lz_d lz_0))))))))))) ?_
                      exact hk16 _ hf
                    · replace hf := ifp c23 hf
                      refine AW.lv_le (lz_k (lz_k (lz_k (lz_k (lz_k (lz_k (lz_k (lz_k (lz_d (lz_d (lz_k lz_0))))))))))) ?_
                      exact hk19  hf
              · replace hf := ifn c18 hf
                refine aw_iload (pc' := 150) dX11_known_148 rfl rfl ?_
                refine aw_goto (tgt := 182) dX11_known_150 rfl ?_
                refine AW.lv_le (lz_k (lz_k (lz_d (lz_k (lz_k (lz_k (lz_k (lz_k (lz_d (lz_d (lz_d lz_0))))))))))) ?_
                exact hk16 _ hf
            clear ek11
            obtain ⟨k25, ek25, hf⟩ := jn_e hf
            have hk25 : k25 = some r9 → AW mX11_known (rmD (5) 0 0) (fin (PI fun r' h' => r9 = r' ∧ h0 = h') 0 0) 102 [some (.ref 8), some (.int y1), some (.int x2), none, some (.int x4), some (.int x5), none, some (.int x7), some (.ref (p5 + 8)), some (.int t10_0), none] [] h0 0 0 := by
              intro hf
              subst ek25
              refine aw_iconst (v := 0) (pc' := 103) dX11_known_102 rfl ic_0 ?_
              exact hk11 _ hf
            clear ek25
            refine aw_if_eq (tgt := 102) (pc' := 83) dX11_known_80 rfl rfl (fun c26 => ?_) (fun c26 => ?_)
            · replace hf := ifp c26 hf
              refine AW.lv_le (lz_k (lz_k (lz_k (lz_d (lz_k (lz_k (lz_d (lz_k (lz_k (lz_k (lz_d lz_0))))))))))) ?_
              exact hk25  hf
            · replace hf := ifn c26 hf
              refine aw_iload (pc' := 85) dX11_known_83 rfl rfl ?_
              obtain ⟨k27, ek27, hf⟩ := jn_e hf
              have hk27 : k27 = some r9 → AW mX11_known (rmD (5) 0 0) (fin (PI fun r' h' => r9 = r' ∧ h0 = h') 0 0) 98 [some (.ref 8), some (.int y1), some (.int x2), none, some (.int x4), some (.int x5), none, some (.int x7), some (.ref (p5 + 8)), some (.int t10_0), none] [] h0 0 0 := by
                intro hf
                subst ek27
                refine aw_iconst (v := 1) (pc' := 99) dX11_known_98 rfl ic_1 ?_
                refine aw_goto (tgt := 103) dX11_known_99 rfl ?_
                exact hk11 _ hf
              clear ek27
              refine aw_if_ne (tgt := 98) (pc' := 88) dX11_known_85 rfl rfl (fun c28 => ?_) (fun c28 => ?_)
              · replace hf := ifn c28 hf
                refine AW.lv_le (lz_k (lz_k (lz_k (lz_d (lz_k (lz_k (lz_d (lz_k (lz_k (lz_k (lz_d lz_0))))))))))) ?_
                exact hk27  hf
              · replace hf := ifp c28 hf
                refine aw_aload (pc' := 90) dX11_known_88 rfl rfl rfl ?_
                refine aw_gi (q := p5) (pc' := 93) H0 (okC.ob o_p5) (by decide) rfl dX11_known_90 rfl fl_RX11_241 ?_
                refine aw_iload (pc' := 95) dX11_known_93 rfl rfl ?_
                refine aw_icmp_ne (tgt := 102) (pc' := 98) dX11_known_95 rfl rfl (fun c29 => ?_) (fun c29 => ?_)
                · replace hf := ifn c29 hf
                  refine AW.lv_le (lz_k (lz_k (lz_k (lz_d (lz_k (lz_k (lz_d (lz_k (lz_k (lz_k (lz_d lz_0))))))))))) ?_
                  exact hk25  hf
                · replace hf := ifp c29 hf
                  refine AW.lv_le (lz_k (lz_k (lz_k (lz_d (lz_k (lz_k (lz_d (lz_k (lz_k (lz_k (lz_d lz_0))))))))))) ?_
                  exact hk27  hf
          clear ek10
          refine aw_icmp_ne (tgt := 76) (pc' := 72) dX11_known_69 rfl rfl (fun c30 => ?_) (fun c30 => ?_)
          · replace hf := ifn c30 hf
            refine aw_iconst (v := 0) (pc' := 77) dX11_known_76 rfl ic_0 ?_
            exact hk10 _ hf
          · replace hf := ifp c30 hf
            refine aw_iconst (v := 1) (pc' := 73) dX11_known_72 rfl ic_1 ?_
            refine aw_goto (tgt := 77) dX11_known_73 rfl ?_
            exact hk10 _ hf
        · replace hf := ifn c8 hf
          refine aw_goto (tgt := 183) dX11_known_63 rfl ?_
          obtain ⟨v31, ev31, hf⟩ := vl_e hf
          refine aw_iincV (y := v31) (lv' := [_, _, _, _, _, _, _, _, _, _, _]) (pc' := 186) dX11_known_183 rfl rfl (Nat.le_of_ble_eq_true rfl) ev31 rfl ?_
          refine aw_goto (tgt := 29) dX11_known_186 rfl ?_
          refine AW.lv_le (lz_k (lz_k (lz_k (lz_k (lz_k (lz_k (lz_k (lz_k (lz_d (lz_d (lz_d lz_0))))))))))) ?_
          exact ih _ _ _ _ _ _ hf
noncomputable def f_X11_known (s0 : SS) (a0 : Int32) : Option Int32 := (if a0 < (0 : Int32) then some (-1) else (if (5 : Int32) < a0 then some (-1) else (f_X11_known_L29 (fun (x32_2 : Int32) (x32_3 : Int32) (x32_4 : Int32) (x32_5 : Int32) => (if a0 < (4 : Int32) then some x32_2 else (if x32_3 = (0 : Int32) then some (-2) else (if x32_4 < x32_5 then some (-2) else some x32_2)))) s0 a0 4000 (-2) 1 32 (-1) 0 0)))
set_option maxRecDepth 4000 in
theorem t_X11_known {r9 : Int32} {s0 : SS} {h0 : List aE} {a0 : Int32} (H0 : HH s0 h0) (hf : f_X11_known s0 a0 = some r9) : AM mX11_known (5) [.ref 8, .int a0] h0 0 0 (PI fun r' h' => r9 = r' ∧ h0 = h') := by
  unfold f_X11_known at hf
  refine am_of (lv := [some (.ref 8), some (.int a0), none, none, none, none, none, none, none, none, none]) rfl (Nat.le_of_ble_eq_true rfl) rfl ?_
  refine aw_iload_n (pc' := 1) dX11_known_0 rfl rfl ?_
  refine aw_zlt (tgt := 9) (pc' := 4) dX11_known_1 rfl rfl (fun c1 => ?_) (fun c1 => ?_)
  · replace hf := ifp c1 hf
    refine aw_iconst (v := (-1)) (pc' := 10) dX11_known_9 rfl ic_m1 ?_
    obtain rfl := Option.some.inj hf
    exact aw_ri dX11_known_10 rfl rfl (Nat.le_of_ble_eq_true rfl) (Nat.le_of_ble_eq_true rfl) ⟨rfl, rfl⟩
  · replace hf := ifn c1 hf
    refine aw_iload_n (pc' := 5) dX11_known_4 rfl rfl ?_
    refine aw_iconst (v := 5) (pc' := 6) dX11_known_5 rfl ic_5 ?_
    refine aw_cle (tgt := 11) (pc' := 9) dX11_known_6 rfl rfl (fun c2 => ?_) (fun c2 => ?_)
    · replace hf := ifn c2 hf
      refine aw_bipush (v := (-2)) (pc' := 13) dX11_known_11 rfl bp_m2 ?_
      refine aw_istore_n (lv' := [_, _, _, _, _, _, _, _, _, _, _]) (pc' := 14) dX11_known_13 rfl (Nat.le_of_ble_eq_true rfl) rfl ?_
      refine aw_iconst (v := 1) (pc' := 15) dX11_known_14 rfl ic_1 ?_
      refine aw_istore_n (lv' := [_, _, _, _, _, _, _, _, _, _, _]) (pc' := 16) dX11_known_15 rfl (Nat.le_of_ble_eq_true rfl) rfl ?_
      refine aw_bipush (v := 32) (pc' := 18) dX11_known_16 rfl bp_32 ?_
      refine aw_istore (lv' := [_, _, _, _, _, _, _, _, _, _, _]) (pc' := 20) dX11_known_18 rfl (Nat.le_of_ble_eq_true rfl) rfl ?_
      refine aw_iconst (v := (-1)) (pc' := 21) dX11_known_20 rfl ic_m1 ?_
      refine aw_istore (lv' := [_, _, _, _, _, _, _, _, _, _, _]) (pc' := 23) dX11_known_21 rfl (Nat.le_of_ble_eq_true rfl) rfl ?_
      refine aw_iconst (v := 0) (pc' := 24) dX11_known_23 rfl ic_0 ?_
      refine aw_istore (lv' := [_, _, _, _, _, _, _, _, _, _, _]) (pc' := 26) dX11_known_24 rfl (Nat.le_of_ble_eq_true rfl) rfl ?_
      refine aw_iconst (v := 0) (pc' := 27) dX11_known_26 rfl ic_0 ?_
      refine aw_istore (lv' := [_, _, _, _, _, _, _, _, _, _, _]) (pc' := 29) dX11_known_27 rfl (Nat.le_of_ble_eq_true rfl) rfl ?_
      refine t_X11_known_L29 H0 (fun x32_2 x32_3 x32_4 x32_5 hf => ?_) 4000 _ _ _ _ _ _ hf
      refine aw_iload_n (pc' := 190) dX11_known_189 rfl rfl ?_
      refine aw_iconst (v := 4) (pc' := 191) dX11_known_190 rfl ic_4 ?_
      refine aw_clt (tgt := 208) (pc' := 194) dX11_known_191 rfl rfl (fun c33 => ?_) (fun c33 => ?_)
      · replace hf := ifp c33 hf
        refine aw_iload_n (pc' := 209) dX11_known_208 rfl rfl ?_
        obtain rfl := Option.some.inj hf
        exact aw_ri dX11_known_209 rfl rfl (Nat.le_of_ble_eq_true rfl) (Nat.le_of_ble_eq_true rfl) ⟨rfl, rfl⟩
      · replace hf := ifn c33 hf
        refine aw_iload_n (pc' := 195) dX11_known_194 rfl rfl ?_
        refine aw_if_eq (tgt := 205) (pc' := 198) dX11_known_195 rfl rfl (fun c34 => ?_) (fun c34 => ?_)
        · replace hf := ifp c34 hf
          refine aw_bipush (v := (-2)) (pc' := 207) dX11_known_205 rfl bp_m2 ?_
          obtain rfl := Option.some.inj hf
          exact aw_ri dX11_known_207 rfl rfl (Nat.le_of_ble_eq_true rfl) (Nat.le_of_ble_eq_true rfl) ⟨rfl, rfl⟩
        · replace hf := ifn c34 hf
          refine aw_iload (pc' := 200) dX11_known_198 rfl rfl ?_
          refine aw_iload (pc' := 202) dX11_known_200 rfl rfl ?_
          refine aw_cle (tgt := 208) (pc' := 205) dX11_known_202 rfl rfl (fun c35 => ?_) (fun c35 => ?_)
          · replace hf := ifn c35 hf
            refine aw_iload_n (pc' := 209) dX11_known_208 rfl rfl ?_
            obtain rfl := Option.some.inj hf
            exact aw_ri dX11_known_209 rfl rfl (Nat.le_of_ble_eq_true rfl) (Nat.le_of_ble_eq_true rfl) ⟨rfl, rfl⟩
          · replace hf := ifp c35 hf
            refine aw_bipush (v := (-2)) (pc' := 207) dX11_known_205 rfl bp_m2 ?_
            obtain rfl := Option.some.inj hf
            exact aw_ri dX11_known_207 rfl rfl (Nat.le_of_ble_eq_true rfl) (Nat.le_of_ble_eq_true rfl) ⟨rfl, rfl⟩
    · replace hf := ifp c2 hf
      refine aw_iconst (v := (-1)) (pc' := 10) dX11_known_9 rfl ic_m1 ?_
      obtain rfl := Option.some.inj hf
      exact aw_ri dX11_known_10 rfl rfl (Nat.le_of_ble_eq_true rfl) (Nat.le_of_ble_eq_true rfl) ⟨rfl, rfl⟩
/-! ThirtyThreeBelow.feed -/
noncomputable def f_X11_feed (s0 : SS) (a0 : Int32) (a1 : Int32) : Option (Int32 × SS) := (if a0 < (1 : Int32) then some ((-1), s0) else (if (4 : Int32) < a0 then some ((-1), s0) else (bd (f_X7_fed s0 a0 a1) fun r3 s3 => some (r3, s3))))
set_option maxRecDepth 4000 in
theorem t_X11_feed {r9 : Int32} {s0 s9 : SS} {h0 : List aE} {a0 : Int32} {a1 : Int32} (H0 : HH s0 h0) (hf : f_X11_feed s0 a0 a1 = some (r9, s9)) : AM mX11_feed (1) [.ref 8, .int a0, .int a1] h0 0 0 (PI fun r' h' => r9 = r' ∧ HH s9 h' ∧ Mo s0 s9) := by
  unfold f_X11_feed at hf
  refine am_of (lv := [some (.ref 8), some (.int a0), some (.int a1)]) rfl (Nat.le_of_ble_eq_true rfl) rfl ?_
  refine aw_iload_n (pc' := 1) dX11_feed_0 rfl rfl ?_
  refine aw_iconst (v := 1) (pc' := 2) dX11_feed_1 rfl ic_1 ?_
  refine aw_clt (tgt := 10) (pc' := 5) dX11_feed_2 rfl rfl (fun c1 => ?_) (fun c1 => ?_)
  · replace hf := ifp c1 hf
    refine aw_iconst (v := (-1)) (pc' := 11) dX11_feed_10 rfl ic_m1 ?_
    obtain ⟨rfl, rfl⟩ := so2 hf
    exact aw_ri dX11_feed_11 rfl rfl (Nat.le_of_ble_eq_true rfl) (Nat.le_of_ble_eq_true rfl) ⟨rfl, H0, (Mo.rf _)⟩
  · replace hf := ifn c1 hf
    refine aw_iload_n (pc' := 6) dX11_feed_5 rfl rfl ?_
    refine aw_iconst (v := 4) (pc' := 7) dX11_feed_6 rfl ic_4 ?_
    refine aw_cle (tgt := 12) (pc' := 10) dX11_feed_7 rfl rfl (fun c2 => ?_) (fun c2 => ?_)
    · replace hf := ifn c2 hf
      refine aw_aload_n (pc' := 13) dX11_feed_12 rfl rfl rfl ?_
      refine aw_gr (q := 0) (e := 49) (v := .ref 32) (pc' := 16) H0 (H0.fo rfl rfl) (l13 rfl) rfl rfl dX11_feed_13 rfl fl_RX11_48 ?_
      refine aw_iload_n (pc' := 17) dX11_feed_16 rfl rfl ?_
      refine aw_iload_n (pc' := 18) dX11_feed_17 rfl rfl ?_
      obtain ⟨r3, s3, ec3, hf⟩ := bd_e hf
      refine aw_callVi (M' := mX7_fed) (nc' := 0) (ns' := 0) (pc' := 21) dX11_feed_18 rfl ml_RX11_261 kX7_fed (t_X7_fed H0 ec3) (H0.ob (H0.fo rfl rfl) (by decide)) rfl rfl rfl (Nat.le_of_ble_eq_true rfl) (rokD (by omega) (Nat.le_of_ble_eq_true rfl) (Nat.le_of_ble_eq_true rfl) (Nat.le_of_ble_eq_true rfl)) rfl rfl (fun _ h3 q3 => ?_)
      obtain ⟨rfl, H3, m3⟩ := q3
      obtain ⟨rfl, rfl⟩ := so2 hf
      exact aw_ri dX11_feed_21 rfl rfl (Nat.le_of_ble_eq_true rfl) (Nat.le_of_ble_eq_true rfl) ⟨rfl, H3, m3⟩
    · replace hf := ifp c2 hf
      refine aw_iconst (v := (-1)) (pc' := 11) dX11_feed_10 rfl ic_m1 ?_
      obtain ⟨rfl, rfl⟩ := so2 hf
      exact aw_ri dX11_feed_11 rfl rfl (Nat.le_of_ble_eq_true rfl) (Nat.le_of_ble_eq_true rfl) ⟨rfl, H0, (Mo.rf _)⟩
/-! ThirtyThreeBelow.isOrder -/
noncomputable def f_X11_isOrder (a0 : Int32) : Option Int32 := (if a0 < (0 : Int32) then some 0 else (if (1 : Int32) < (a0 / (10 : Int32)) then some 0 else (if (2 : Int32) < (a0 % (10 : Int32)) then some 0 else some 1)))
set_option maxRecDepth 4000 in
theorem t_X11_isOrder {r9 : Int32} {h0 : List aE} {a0 : Int32}  (hf : f_X11_isOrder a0 = some r9) : AM mX11_isOrder (0) [.int a0] h0 0 0 (PI fun r' h' => r9 = r' ∧ h0 = h' ∧ (r9 = 0 ∨ r9 = 1)) := by
  unfold f_X11_isOrder at hf
  refine am_of (lv := [some (.int a0)]) rfl (Nat.le_of_ble_eq_true rfl) rfl ?_
  refine aw_iload_n (pc' := 1) dX11_isOrder_0 rfl rfl ?_
  refine aw_zlt (tgt := 24) (pc' := 4) dX11_isOrder_1 rfl rfl (fun c1 => ?_) (fun c1 => ?_)
  · replace hf := ifp c1 hf
    refine aw_iconst (v := 0) (pc' := 25) dX11_isOrder_24 rfl ic_0 ?_
    obtain rfl := Option.some.inj hf
    exact aw_ri dX11_isOrder_25 rfl (by decide) (Nat.le_of_ble_eq_true rfl) (Nat.le_of_ble_eq_true rfl) ⟨rfl, rfl, Or.inl rfl⟩
  · replace hf := ifn c1 hf
    refine aw_iload_n (pc' := 5) dX11_isOrder_4 rfl rfl ?_
    refine aw_bipush (v := 10) (pc' := 7) dX11_isOrder_5 rfl bp_10 ?_
    refine aw_idiv (pc' := 8) dX11_isOrder_7 rfl (by decide) ?_
    refine aw_iconst (v := 1) (pc' := 9) dX11_isOrder_8 rfl ic_1 ?_
    refine aw_cgt (tgt := 24) (pc' := 12) dX11_isOrder_9 rfl rfl (fun c2 => ?_) (fun c2 => ?_)
    · replace hf := ifp c2 hf
      refine aw_iconst (v := 0) (pc' := 25) dX11_isOrder_24 rfl ic_0 ?_
      obtain rfl := Option.some.inj hf
      exact aw_ri dX11_isOrder_25 rfl (by decide) (Nat.le_of_ble_eq_true rfl) (Nat.le_of_ble_eq_true rfl) ⟨rfl, rfl, Or.inl rfl⟩
    · replace hf := ifn c2 hf
      refine aw_iload_n (pc' := 13) dX11_isOrder_12 rfl rfl ?_
      refine aw_bipush (v := 10) (pc' := 15) dX11_isOrder_13 rfl bp_10 ?_
      refine aw_irem (pc' := 16) dX11_isOrder_15 rfl (by decide) ?_
      refine aw_iconst (v := 2) (pc' := 17) dX11_isOrder_16 rfl ic_2 ?_
      refine aw_cgt (tgt := 24) (pc' := 20) dX11_isOrder_17 rfl rfl (fun c3 => ?_) (fun c3 => ?_)
      · replace hf := ifp c3 hf
        refine aw_iconst (v := 0) (pc' := 25) dX11_isOrder_24 rfl ic_0 ?_
        obtain rfl := Option.some.inj hf
        exact aw_ri dX11_isOrder_25 rfl (by decide) (Nat.le_of_ble_eq_true rfl) (Nat.le_of_ble_eq_true rfl) ⟨rfl, rfl, Or.inl rfl⟩
      · replace hf := ifn c3 hf
        refine aw_iconst (v := 1) (pc' := 21) dX11_isOrder_20 rfl ic_1 ?_
        refine aw_goto (tgt := 25) dX11_isOrder_21 rfl ?_
        obtain rfl := Option.some.inj hf
        exact aw_ri dX11_isOrder_25 rfl (by decide) (Nat.le_of_ble_eq_true rfl) (Nat.le_of_ble_eq_true rfl) ⟨rfl, rfl, Or.inr rfl⟩
