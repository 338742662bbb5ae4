/-! ThirtyThreeBelow.best -/
noncomputable def f_X11_best_L33_b (y1 : Int32) (rc : SS → Int32 → Int32 → Int32 → Option (Int32 × SS)) (s : SS) (x2 : Int32) (x3 : Int32) (x4 : Int32) : Option (Int32 × SS) := (if (9 : Int32) < x4 then some (x2, s) else (bd (f_X2_daysKept s y1 x4 (zS s 30 0)) fun r5 s5 => (jn (fun (j6_2 : Int32) (j6_3 : Int32) => (vl (x4 + 1) fun v7 => (rc s5 j6_2 j6_3 v7))) fun k6 => (if x3 < r5 then (k6 x4 r5) else (k6 x2 x3)))))
noncomputable def f_X11_best_L33 (y1 : Int32) : Nat → SS → Int32 → Int32 → Int32 → Option (Int32 × SS)
  | 0, _, _, _, _ => none
  | n + 1, s, x2, x3, x4 => f_X11_best_L33_b y1 (f_X11_best_L33 y1 n) s x2 x3 x4
set_option maxRecDepth 4000 in
theorem t_X11_best_L33 {r9 : Int32} {s0 sb s9 : SS} {y1 : Int32} (mb : Mo s0 sb)  : ∀ (n : Nat) (s : SS) (h : List aE) (x2 : Int32) (x3 : Int32) (x4 : Int32), HH s h → Mo sb s → f_X11_best_L33 y1 n s x2 x3 x4 = some (r9, s9) → AW mX11_best (rmD (4) 0 0) (fin (PI fun r' h' => r9 = r' ∧ HH s9 h' ∧ Mo s0 s9) 0 0) 33 [some (.ref 8), some (.int y1), some (.int x2), some (.int x3), some (.int x4), none] [] h 0 0 := by
  intro n
  induction n with
  | zero =>
    intro s h x2 x3 x4 H ms hf
    cases hf
  | succ n ih =>
    intro s h x2 x3 x4 H ms hf
    replace hf : f_X11_best_L33_b y1 (f_X11_best_L33 y1 n) s x2 x3 x4 = some (r9, s9) := hf
    unfold f_X11_best_L33_b at hf
    refine aw_iload (pc' := 35) dX11_best_33 rfl rfl ?_
    refine aw_bipush (v := 9) (pc' := 37) dX11_best_35 rfl bp_9 ?_
    refine aw_cgt (tgt := 77) (pc' := 40) dX11_best_37 rfl rfl (fun c4 => ?_) (fun c4 => ?_)
    · replace hf := ifp c4 hf
      refine aw_iload_n (pc' := 78) dX11_best_77 rfl rfl ?_
      obtain ⟨rfl, rfl⟩ := so2 hf
      exact aw_ri dX11_best_78 rfl rfl (Nat.le_of_ble_eq_true rfl) (Nat.le_of_ble_eq_true rfl) ⟨rfl, H, (mb.tr ms)⟩
    · replace hf := ifn c4 hf
      refine aw_aload_n (pc' := 41) dX11_best_40 rfl rfl rfl ?_
      refine aw_gr (q := 0) (e := 13) (v := .ref 14) (pc' := 44) H (H.fo rfl rfl) (by decide) rfl rfl dX11_best_41 rfl fl_RX11_19 ?_
      refine aw_iload_n (pc' := 45) dX11_best_44 rfl rfl ?_
      refine aw_iload (pc' := 47) dX11_best_45 rfl rfl ?_
      refine aw_aload_n (pc' := 48) dX11_best_47 rfl rfl rfl ?_
      refine aw_gr (q := 0) (e := 61) (v := .ref 38) (pc' := 51) H (H.fo rfl rfl) (by decide) rfl rfl dX11_best_48 rfl fl_RX11_76 ?_
      refine aw_gi (q := 30) (pc' := 54) H (H.fo rfl rfl) (by decide) rfl dX11_best_51 rfl fl_RX11_295 ?_
      obtain ⟨r5, s5, ec5, hf⟩ := bd_e hf
      refine aw_callVi (M' := mX2_daysKept) (nc' := 0) (ns' := 0) (pc' := 57) dX11_best_54 rfl ml_RX11_304 kX2_daysKept (t_X2_daysKept H ec5) (H.ob (H.fo rfl rfl) (by decide)) rfl rfl rfl (Nat.le_of_ble_eq_true rfl) (rokD (by omega) (Nat.le_of_ble_eq_true rfl) (Nat.le_of_ble_eq_true rfl) (Nat.le_of_ble_eq_true rfl)) rfl rfl (fun _ h5 q5 => ?_)
      obtain ⟨rfl, H5, m5⟩ := q5
      refine aw_istore (lv' := [_, _, _, _, _, _]) (pc' := 59) dX11_best_57 rfl (Nat.le_of_ble_eq_true rfl) rfl ?_
      refine aw_iload (pc' := 61) dX11_best_59 rfl rfl ?_
      refine aw_iload_n (pc' := 62) dX11_best_61 rfl rfl ?_
      obtain ⟨k6, ek6, hf⟩ := jn_e hf
      have hk6 : ∀ (j6_2 : Int32) (j6_3 : Int32), k6 j6_2 j6_3 = some (r9, s9) → AW mX11_best (rmD (4) 0 0) (fin (PI fun r' h' => r9 = r' ∧ HH s9 h' ∧ Mo s0 s9) 0 0) 71 [some (.ref 8), some (.int y1), some (.int j6_2), some (.int j6_3), some (.int x4), none] [] h5 0 0 := by
        intro j6_2 j6_3 hf
        subst ek6
        obtain ⟨v7, ev7, hf⟩ := vl_e hf
        refine aw_iincV (y := v7) (lv' := [_, _, _, _, _, _]) (pc' := 74) dX11_best_71 rfl rfl (Nat.le_of_ble_eq_true rfl) ev7 rfl ?_
        refine aw_goto (tgt := 33) dX11_best_74 rfl ?_
        exact ih _ _ _ _ _ H5 (ms.tr m5) hf
      clear ek6
      refine aw_cle (tgt := 71) (pc' := 65) dX11_best_62 rfl rfl (fun c8 => ?_) (fun c8 => ?_)
      · replace hf := ifn c8 hf
        refine AW.lv_le (lz_k (lz_k (lz_k (lz_k (lz_k (lz_d lz_0)))))) ?_
        exact hk6 _ _ hf
      · replace hf := ifp c8 hf
        refine aw_iload (pc' := 67) dX11_best_65 rfl rfl ?_
        refine aw_istore_n (lv' := [_, _, _, _, _, _]) (pc' := 68) dX11_best_67 rfl (Nat.le_of_ble_eq_true rfl) rfl ?_
        refine aw_iload (pc' := 70) dX11_best_68 rfl rfl ?_
        refine aw_istore_n (lv' := [_, _, _, _, _, _]) (pc' := 71) dX11_best_70 rfl (Nat.le_of_ble_eq_true rfl) rfl ?_
        refine AW.lv_le (lz_k (lz_k (lz_k (lz_k (lz_k (lz_d lz_0)))))) ?_
        exact hk6 _ _ hf
noncomputable def f_X11_best (s0 : SS) (a0 : Int32) : Option (Int32 × SS) := (if a0 < (0 : Int32) then some ((-1), s0) else (if (999 : Int32) < a0 then some ((-1), s0) else (if (zS s0 6 4) = (0 : Int32) then some ((-2), s0) else (f_X11_best_L33 a0 4000 s0 0 (-1) 0))))
set_option maxRecDepth 4000 in
theorem t_X11_best {r9 : Int32} {s0 s9 : SS} {h0 : List aE} {a0 : Int32} (H0 : HH s0 h0) (hf : f_X11_best s0 a0 = some (r9, s9)) : AM mX11_best (4) [.ref 8, .int a0] h0 0 0 (PI fun r' h' => r9 = r' ∧ HH s9 h' ∧ Mo s0 s9) := by
  unfold f_X11_best at hf
  refine am_of (lv := [some (.ref 8), some (.int a0), none, none, none, none]) rfl (Nat.le_of_ble_eq_true rfl) rfl ?_
  refine aw_iload_n (pc' := 1) dX11_best_0 rfl rfl ?_
  refine aw_zlt (tgt := 11) (pc' := 4) dX11_best_1 rfl rfl (fun c1 => ?_) (fun c1 => ?_)
  · replace hf := ifp c1 hf
    refine aw_iconst (v := (-1)) (pc' := 12) dX11_best_11 rfl ic_m1 ?_
    obtain ⟨rfl, rfl⟩ := so2 hf
    exact aw_ri dX11_best_12 rfl rfl (Nat.le_of_ble_eq_true rfl) (Nat.le_of_ble_eq_true rfl) ⟨rfl, H0, (Mo.rf _)⟩
  · replace hf := ifn c1 hf
    refine aw_iload_n (pc' := 5) dX11_best_4 rfl rfl ?_
    refine aw_sipush (v := 999) (pc' := 8) dX11_best_5 rfl sp_999 ?_
    refine aw_cle (tgt := 13) (pc' := 11) dX11_best_8 rfl rfl (fun c2 => ?_) (fun c2 => ?_)
    · replace hf := ifn c2 hf
      refine aw_aload_n (pc' := 14) dX11_best_13 rfl rfl rfl ?_
      refine aw_gr (q := 0) (e := 13) (v := .ref 14) (pc' := 17) H0 (H0.fo rfl rfl) (l13 rfl) rfl rfl dX11_best_14 rfl fl_RX11_19 ?_
      refine aw_gi (q := 6) (pc' := 20) H0 (H0.fo rfl rfl) (l13 rfl) rfl dX11_best_17 rfl fl_RX11_301 ?_
      refine aw_if_ne (tgt := 26) (pc' := 23) dX11_best_20 rfl rfl (fun c3 => ?_) (fun c3 => ?_)
      · replace hf := ifn c3 hf
        refine aw_iconst (v := 0) (pc' := 27) dX11_best_26 rfl ic_0 ?_
        refine aw_istore_n (lv' := [_, _, _, _, _, _]) (pc' := 28) dX11_best_27 rfl (Nat.le_of_ble_eq_true rfl) rfl ?_
        refine aw_iconst (v := (-1)) (pc' := 29) dX11_best_28 rfl ic_m1 ?_
        refine aw_istore_n (lv' := [_, _, _, _, _, _]) (pc' := 30) dX11_best_29 rfl (Nat.le_of_ble_eq_true rfl) rfl ?_
        refine aw_iconst (v := 0) (pc' := 31) dX11_best_30 rfl ic_0 ?_
        refine aw_istore (lv' := [_, _, _, _, _, _]) (pc' := 33) dX11_best_31 rfl (Nat.le_of_ble_eq_true rfl) rfl ?_
        refine t_X11_best_L33 (Mo.rf _)  4000 _ _ _ _ _ H0 (Mo.rf _) hf
      · replace hf := ifp c3 hf
        refine aw_bipush (v := (-2)) (pc' := 25) dX11_best_23 rfl bp_m2 ?_
        obtain ⟨rfl, rfl⟩ := so2 hf
        exact aw_ri dX11_best_25 rfl rfl (Nat.le_of_ble_eq_true rfl) (Nat.le_of_ble_eq_true rfl) ⟨rfl, H0, (Mo.rf _)⟩
    · replace hf := ifp c2 hf
      refine aw_iconst (v := (-1)) (pc' := 12) dX11_best_11 rfl ic_m1 ?_
      obtain ⟨rfl, rfl⟩ := so2 hf
      exact aw_ri dX11_best_12 rfl rfl (Nat.le_of_ble_eq_true rfl) (Nat.le_of_ble_eq_true rfl) ⟨rfl, H0, (Mo.rf _)⟩
/-! ThirtyThreeBelow.isThing -/
noncomputable def f_X11_isThing (a0 : Int32) : Option Int32 := (if a0 < (10 : Int32) then some 0 else (if (a0 % (10 : Int32)) = (0 : Int32) then (if (999 : Int32) < (a0 / (10 : Int32)) then some 0 else some 1) else (if (a0 / (10 : Int32)) = (1 : Int32) then some 1 else some 0)))
set_option maxRecDepth 4000 in
theorem t_X11_isThing {r9 : Int32} {h0 : List aE} {a0 : Int32}  (hf : f_X11_isThing a0 = some r9) : AM mX11_isThing (0) [.int a0] h0 0 0 (PI fun r' h' => r9 = r' ∧ h0 = h' ∧ (r9 = 0 ∨ r9 = 1)) := by
  unfold f_X11_isThing at hf
  refine am_of (lv := [some (.int a0)]) rfl (Nat.le_of_ble_eq_true rfl) rfl ?_
  refine aw_iload_n (pc' := 1) dX11_isThing_0 rfl rfl ?_
  refine aw_bipush (v := 10) (pc' := 3) dX11_isThing_1 rfl bp_10 ?_
  refine aw_cge (tgt := 8) (pc' := 6) dX11_isThing_3 rfl rfl (fun c1 => ?_) (fun c1 => ?_)
  · replace hf := ifn c1 hf
    refine aw_iload_n (pc' := 9) dX11_isThing_8 rfl rfl ?_
    refine aw_bipush (v := 10) (pc' := 11) dX11_isThing_9 rfl bp_10 ?_
    refine aw_irem (pc' := 12) dX11_isThing_11 rfl (by decide) ?_
    refine aw_if_ne (tgt := 33) (pc' := 15) dX11_isThing_12 rfl rfl (fun c2 => ?_) (fun c2 => ?_)
    · replace hf := ifn c2 hf
      refine aw_iload_n (pc' := 34) dX11_isThing_33 rfl rfl ?_
      refine aw_bipush (v := 10) (pc' := 36) dX11_isThing_34 rfl bp_10 ?_
      refine aw_idiv (pc' := 37) dX11_isThing_36 rfl (by decide) ?_
      refine aw_iconst (v := 1) (pc' := 38) dX11_isThing_37 rfl ic_1 ?_
      refine aw_icmp_ne (tgt := 45) (pc' := 41) dX11_isThing_38 rfl rfl (fun c3 => ?_) (fun c3 => ?_)
      · replace hf := ifn c3 hf
        refine aw_iconst (v := 0) (pc' := 46) dX11_isThing_45 rfl ic_0 ?_
        obtain rfl := Option.some.inj hf
        exact aw_ri dX11_isThing_46 rfl (by decide) (Nat.le_of_ble_eq_true rfl) (Nat.le_of_ble_eq_true rfl) ⟨rfl, rfl, Or.inl rfl⟩
      · replace hf := ifp c3 hf
        refine aw_iconst (v := 1) (pc' := 42) dX11_isThing_41 rfl ic_1 ?_
        refine aw_goto (tgt := 46) dX11_isThing_42 rfl ?_
        obtain rfl := Option.some.inj hf
        exact aw_ri dX11_isThing_46 rfl (by decide) (Nat.le_of_ble_eq_true rfl) (Nat.le_of_ble_eq_true rfl) ⟨rfl, rfl, Or.inr rfl⟩
    · replace hf := ifp c2 hf
      refine aw_iload_n (pc' := 16) dX11_isThing_15 rfl rfl ?_
      refine aw_bipush (v := 10) (pc' := 18) dX11_isThing_16 rfl bp_10 ?_
      refine aw_idiv (pc' := 19) dX11_isThing_18 rfl (by decide) ?_
      refine aw_sipush (v := 999) (pc' := 22) dX11_isThing_19 rfl sp_999 ?_
      refine aw_cgt (tgt := 29) (pc' := 25) dX11_isThing_22 rfl rfl (fun c4 => ?_) (fun c4 => ?_)
      · replace hf := ifp c4 hf
        refine aw_iconst (v := 0) (pc' := 30) dX11_isThing_29 rfl ic_0 ?_
        refine aw_goto (tgt := 46) dX11_isThing_30 rfl ?_
        obtain rfl := Option.some.inj hf
        exact aw_ri dX11_isThing_46 rfl (by decide) (Nat.le_of_ble_eq_true rfl) (Nat.le_of_ble_eq_true rfl) ⟨rfl, rfl, Or.inl rfl⟩
      · replace hf := ifn c4 hf
        refine aw_iconst (v := 1) (pc' := 26) dX11_isThing_25 rfl ic_1 ?_
        refine aw_goto (tgt := 46) dX11_isThing_26 rfl ?_
        obtain rfl := Option.some.inj hf
        exact aw_ri dX11_isThing_46 rfl (by decide) (Nat.le_of_ble_eq_true rfl) (Nat.le_of_ble_eq_true rfl) ⟨rfl, rfl, Or.inr rfl⟩
  · replace hf := ifp c1 hf
    refine aw_iconst (v := 0) (pc' := 7) dX11_isThing_6 rfl ic_0 ?_
    obtain rfl := Option.some.inj hf
    exact aw_ri dX11_isThing_7 rfl (by decide) (Nat.le_of_ble_eq_true rfl) (Nat.le_of_ble_eq_true rfl) ⟨rfl, rfl, Or.inl rfl⟩
/-! ThirtyThreeBelow.down -/
noncomputable def f_X11_down (s0 : SS) (a0 : Int32) (a1 : Int32) (a2 : Int32) : Option (Int32 × SS) := (b1 (f_X0_holeOf s0 a0) fun r1 => (on r1 (some ((-1), s0)) fun p1 => (b1 (f_X0_kindOf s0 a0) fun r2 => (if r2 = (3 : Int32) then (b1 (f_X11_isThing a1) fun r4 => (if r4 = (0 : Int32) then some ((-1), s0) else (if a2 < (1 : Int32) then some ((-1), s0) else (if (9 : Int32) < a2 then some ((-1), s0) else (if (zS s0 p1 6) = (0 : Int32) then some ((-2), s0) else (if (zS s0 30 5) < (40 : Int32) then (b1 (f_J9_max_7cf53 (zS s0 0 14) (zS s0 p1 7)) fun r11 => (vl ((r11 + a2)) fun v12 => (st (pS s0 p1 7 v12) fun s13 => (b1 (f_X9_sends s13 a1 (zS s13 p1 7)) fun s14 => some ((zS s14 p1 7), s14))))) else some ((-3), s0))))))) else some ((-1), s0)))))
set_option maxRecDepth 4000 in
theorem t_X11_down {r9 : Int32} {s0 s9 : SS} {h0 : List aE} {a0 : Int32} {a1 : Int32} {a2 : Int32} (H0 : HH s0 h0) (hf : f_X11_down s0 a0 a1 a2 = some (r9, s9)) : AM mX11_down (1) [.ref 8, .int a0, .int a1, .int a2] h0 0 0 (PI fun r' h' => r9 = r' ∧ HH s9 h' ∧ Mo s0 s9) := by
  unfold f_X11_down at hf
  refine am_of (lv := [some (.ref 8), some (.int a0), some (.int a1), some (.int a2), none]) rfl (Nat.le_of_ble_eq_true rfl) rfl ?_
  refine aw_aload_n (pc' := 1) dX11_down_0 rfl rfl rfl ?_
  refine aw_gr (q := 0) (e := 31) (v := .ref 23) (pc' := 4) H0 (H0.fo rfl rfl) (l13 rfl) rfl rfl dX11_down_1 rfl fl_RX11_28 ?_
  refine aw_iload_n (pc' := 5) dX11_down_4 rfl rfl ?_
  obtain ⟨r1, ec1, hf⟩ := b1_e hf
  replace hf := on_e hf
  rcases hf with ⟨rfl, hf⟩ | ⟨p1, rfl, hf⟩
  · refine aw_callVa (M' := mX0_holeOf) (nc' := 0) (ns' := 0) (pc' := 8) dX11_down_5 rfl ml_RX11_139 kX0_holeOf (t_X0_holeOf H0 ec1) (H0.ob (H0.fo rfl rfl) (by decide)) rfl rfl rfl (Nat.le_of_ble_eq_true rfl) (rokD (by omega) (Nat.le_of_ble_eq_true rfl) (Nat.le_of_ble_eq_true rfl) (Nat.le_of_ble_eq_true rfl)) rfl rfl (fun _ h1 q1 => ?_)
    obtain ⟨rfl, rfl, oo1⟩ := q1
    show AW _ _ _ _ _ (Value.null :: _) _ _ _
    refine aw_astore (lv' := [_, _, _, _, _]) (pc' := 10) dX11_down_8 rfl (Nat.le_of_ble_eq_true rfl) rfl rfl ?_
    refine aw_aload (pc' := 12) dX11_down_10 rfl rfl rfl ?_
    refine aw_ifnull_n (tgt := 45) dX11_down_12 (by decide) ?_
    refine aw_iconst (v := (-1)) (pc' := 46) dX11_down_45 rfl ic_m1 ?_
    obtain ⟨rfl, rfl⟩ := so2 hf
    exact aw_ri dX11_down_46 rfl rfl (Nat.le_of_ble_eq_true rfl) (Nat.le_of_ble_eq_true rfl) ⟨rfl, H0, (Mo.rf _)⟩
  · refine aw_callVa (M' := mX0_holeOf) (nc' := 0) (ns' := 0) (pc' := 8) dX11_down_5 rfl ml_RX11_139 kX0_holeOf (t_X0_holeOf H0 ec1) (H0.ob (H0.fo rfl rfl) (by decide)) rfl rfl rfl (Nat.le_of_ble_eq_true rfl) (rokD (by omega) (Nat.le_of_ble_eq_true rfl) (Nat.le_of_ble_eq_true rfl) (Nat.le_of_ble_eq_true rfl)) rfl rfl (fun _ h1 q1 => ?_)
    obtain ⟨rfl, rfl, oo1⟩ := q1
    show AW _ _ _ _ _ (Value.ref (p1 + 8) :: _) _ _ _
    have o_p1 : okH s0 p1 := oo1 _ rfl
    refine aw_astore (lv' := [_, _, _, _, _]) (pc' := 10) dX11_down_8 rfl (Nat.le_of_ble_eq_true rfl) rfl rfl ?_
    refine aw_aload (pc' := 12) dX11_down_10 rfl rfl rfl ?_
    refine aw_ifnull_r (pc' := 15) dX11_down_12 rfl ?_
    refine aw_aload_n (pc' := 16) dX11_down_15 rfl rfl rfl ?_
    refine aw_gr (q := 0) (e := 31) (v := .ref 23) (pc' := 19) H0 (H0.fo rfl rfl) (l13 rfl) rfl rfl dX11_down_16 rfl fl_RX11_28 ?_
    refine aw_iload_n (pc' := 20) dX11_down_19 rfl rfl ?_
    obtain ⟨r2, ec2, hf⟩ := b1_e hf
    refine aw_callVi (M' := mX0_kindOf) (nc' := 0) (ns' := 0) (pc' := 23) dX11_down_20 rfl ml_RX11_135 kX0_kindOf (t_X0_kindOf H0 ec2) (H0.ob (H0.fo rfl rfl) (by decide)) rfl rfl rfl (Nat.le_of_ble_eq_true rfl) (rokD (by omega) (Nat.le_of_ble_eq_true rfl) (Nat.le_of_ble_eq_true rfl) (Nat.le_of_ble_eq_true rfl)) rfl rfl (fun _ h2 q2 => ?_)
    obtain ⟨rfl, rfl⟩ := q2
    refine aw_iconst (v := 3) (pc' := 24) dX11_down_23 rfl ic_3 ?_
    refine aw_icmp_ne (tgt := 45) (pc' := 27) dX11_down_24 rfl rfl (fun c3 => ?_) (fun c3 => ?_)
    · replace hf := ifn c3 hf
      refine aw_iconst (v := (-1)) (pc' := 46) dX11_down_45 rfl ic_m1 ?_
      obtain ⟨rfl, rfl⟩ := so2 hf
      exact aw_ri dX11_down_46 rfl rfl (Nat.le_of_ble_eq_true rfl) (Nat.le_of_ble_eq_true rfl) ⟨rfl, H0, (Mo.rf _)⟩
    · replace hf := ifp c3 hf
      refine aw_iload_n (pc' := 28) dX11_down_27 rfl rfl ?_
      obtain ⟨r4, ec4, hf⟩ := b1_e hf
      refine aw_callSi (M' := mX11_isThing) (nc' := 0) (ns' := 0) (pc' := 31) dX11_down_28 rfl ml_RX11_307 kX11_isThing (t_X11_isThing ec4) rfl rfl (Nat.le_of_ble_eq_true rfl) (rokD (by omega) (Nat.le_of_ble_eq_true rfl) (Nat.le_of_ble_eq_true rfl) (Nat.le_of_ble_eq_true rfl)) rfl rfl (fun _ h4 q4 => ?_)
      obtain ⟨rfl, rfl, zb4⟩ := q4
      refine aw_if_eq (tgt := 45) (pc' := 34) dX11_down_31 rfl rfl (fun c5 => ?_) (fun c5 => ?_)
      · replace hf := ifp c5 hf
        refine aw_iconst (v := (-1)) (pc' := 46) dX11_down_45 rfl ic_m1 ?_
        obtain ⟨rfl, rfl⟩ := so2 hf
        exact aw_ri dX11_down_46 rfl rfl (Nat.le_of_ble_eq_true rfl) (Nat.le_of_ble_eq_true rfl) ⟨rfl, H0, (Mo.rf _)⟩
      · replace hf := ifn c5 hf
        refine aw_iload_n (pc' := 35) dX11_down_34 rfl rfl ?_
        refine aw_iconst (v := 1) (pc' := 36) dX11_down_35 rfl ic_1 ?_
        refine aw_clt (tgt := 45) (pc' := 39) dX11_down_36 rfl rfl (fun c6 => ?_) (fun c6 => ?_)
        · replace hf := ifp c6 hf
          refine aw_iconst (v := (-1)) (pc' := 46) dX11_down_45 rfl ic_m1 ?_
          obtain ⟨rfl, rfl⟩ := so2 hf
          exact aw_ri dX11_down_46 rfl rfl (Nat.le_of_ble_eq_true rfl) (Nat.le_of_ble_eq_true rfl) ⟨rfl, H0, (Mo.rf _)⟩
        · replace hf := ifn c6 hf
          refine aw_iload_n (pc' := 40) dX11_down_39 rfl rfl ?_
          refine aw_bipush (v := 9) (pc' := 42) dX11_down_40 rfl bp_9 ?_
          refine aw_cle (tgt := 47) (pc' := 45) dX11_down_42 rfl rfl (fun c7 => ?_) (fun c7 => ?_)
          · replace hf := ifn c7 hf
            refine aw_aload (pc' := 49) dX11_down_47 rfl rfl rfl ?_
            refine aw_gi (q := p1) (pc' := 52) H0 (okH.ob o_p1) (by decide) rfl dX11_down_49 rfl fl_RX11_174 ?_
            refine aw_if_ne (tgt := 58) (pc' := 55) dX11_down_52 rfl rfl (fun c8 => ?_) (fun c8 => ?_)
            · replace hf := ifn c8 hf
              refine aw_aload_n (pc' := 59) dX11_down_58 rfl rfl rfl ?_
              refine aw_gr (q := 0) (e := 61) (v := .ref 38) (pc' := 62) H0 (H0.fo rfl rfl) (l13 rfl) rfl rfl dX11_down_59 rfl fl_RX11_76 ?_
              refine aw_gi (q := 30) (pc' := 65) H0 (H0.fo rfl rfl) (l13 rfl) rfl dX11_down_62 rfl fl_RX11_310 ?_
              refine aw_bipush (v := 40) (pc' := 67) dX11_down_65 rfl bp_40 ?_
              refine aw_clt (tgt := 73) (pc' := 70) dX11_down_67 rfl rfl (fun c10 => ?_) (fun c10 => ?_)
              · replace hf := ifp c10 hf
                refine aw_aload (pc' := 75) dX11_down_73 rfl rfl rfl ?_
                refine aw_aload_n (pc' := 76) dX11_down_75 rfl rfl rfl ?_
                refine aw_gi (q := 0) (pc' := 79) H0 (H0.fo rfl rfl) (l13 rfl) rfl dX11_down_76 rfl fl_RX11_168 ?_
                refine aw_aload (pc' := 81) dX11_down_79 rfl rfl rfl ?_
                refine aw_gi (q := p1) (pc' := 84) H0 (okH.ob o_p1) (by decide) rfl dX11_down_81 rfl fl_RX11_313 ?_
                obtain ⟨r11, ec11, hf⟩ := b1_e hf
                refine aw_callSi (M' := mJ9_max_7cf53) (nc' := 0) (ns' := 0) (pc' := 87) dX11_down_84 rfl ml_RX11_247 kJ9_max_7cf53 (t_J9_max_7cf53 ec11) rfl rfl (Nat.le_of_ble_eq_true rfl) (rokD (by omega) (Nat.le_of_ble_eq_true rfl) (Nat.le_of_ble_eq_true rfl) (Nat.le_of_ble_eq_true rfl)) rfl rfl (fun _ h11 q11 => ?_)
                obtain ⟨rfl, rfl⟩ := q11
                refine aw_iload_n (pc' := 88) dX11_down_87 rfl rfl ?_
                refine aw_iadd (pc' := 89) dX11_down_88 rfl ?_
                obtain ⟨v12, ev12, hf⟩ := vl_e hf
                refine aw_topi ev12 ?_
                obtain ⟨s13, es13, hf⟩ := st_e hf
                refine aw_pi (q := p1) (pc' := 92) es13 H0 (okH.ob o_p1) (by decide) rfl dX11_down_89 rfl fl_RX11_313 rfl (fun h13 H13 => ?_)
                have m13 := Mo.ofS es13
                refine aw_aload_n (pc' := 93) dX11_down_92 rfl rfl rfl ?_
                refine aw_gr (q := 0) (e := 61) (v := .ref 38) (pc' := 96) H13 (H13.fo rfl rfl) (l13 rfl) rfl rfl dX11_down_93 rfl fl_RX11_76 ?_
                refine aw_iload_n (pc' := 97) dX11_down_96 rfl rfl ?_
                refine aw_aload (pc' := 99) dX11_down_97 rfl rfl rfl ?_
                refine aw_gi (q := p1) (pc' := 102) H13 (okH.ob (okH.mo o_p1 m13)) (by decide) rfl dX11_down_99 rfl fl_RX11_313 ?_
                obtain ⟨s14, ec14, hf⟩ := b1_e hf
                refine aw_callVv (M' := mX9_sends) (nc' := 0) (ns' := 0) (pc' := 105) dX11_down_102 rfl ml_RX11_316 kX9_sends (t_X9_sends H13 ec14) (H13.ob (H13.fo rfl rfl) (by decide)) rfl rfl rfl (Nat.le_of_ble_eq_true rfl) (rokD (by omega) (Nat.le_of_ble_eq_true rfl) (Nat.le_of_ble_eq_true rfl) (Nat.le_of_ble_eq_true rfl)) rfl rfl (fun h14 q14 => ?_)
                obtain ⟨H14, m14⟩ := q14
                refine aw_aload (pc' := 107) dX11_down_105 rfl rfl rfl ?_
                refine aw_gi (q := p1) (pc' := 110) H14 (okH.ob (okH.mo o_p1 (m13.tr m14))) (by decide) rfl dX11_down_107 rfl fl_RX11_313 ?_
                obtain ⟨rfl, rfl⟩ := so2 hf
                exact aw_ri dX11_down_110 rfl rfl (Nat.le_of_ble_eq_true rfl) (Nat.le_of_ble_eq_true rfl) ⟨rfl, H14, (m13.tr m14)⟩
              · replace hf := ifn c10 hf
                refine aw_bipush (v := (-3)) (pc' := 72) dX11_down_70 rfl bp_m3 ?_
                obtain ⟨rfl, rfl⟩ := so2 hf
                exact aw_ri dX11_down_72 rfl rfl (Nat.le_of_ble_eq_true rfl) (Nat.le_of_ble_eq_true rfl) ⟨rfl, H0, (Mo.rf _)⟩
            · replace hf := ifp c8 hf
              refine aw_bipush (v := (-2)) (pc' := 57) dX11_down_55 rfl bp_m2 ?_
              obtain ⟨rfl, rfl⟩ := so2 hf
              exact aw_ri dX11_down_57 rfl rfl (Nat.le_of_ble_eq_true rfl) (Nat.le_of_ble_eq_true rfl) ⟨rfl, H0, (Mo.rf _)⟩
          · replace hf := ifp c7 hf
            refine aw_iconst (v := (-1)) (pc' := 46) dX11_down_45 rfl ic_m1 ?_
            obtain ⟨rfl, rfl⟩ := so2 hf
            exact aw_ri dX11_down_46 rfl rfl (Nat.le_of_ble_eq_true rfl) (Nat.le_of_ble_eq_true rfl) ⟨rfl, H0, (Mo.rf _)⟩
/-! ThirtyThreeBelow.below -/
noncomputable def f_X11_below (s0 : SS) (a0 : Int32) : Option Int32 := (if a0 < (0 : Int32) then some (-1) else (if (9 : Int32) < a0 then some (-1) else (if a0 = (0 : Int32) then some (zS s0 30 0) else (gd (inB a0 10) (some (zI s0 31 (a0.toInt.toNat)))))))
set_option maxRecDepth 4000 in
theorem t_X11_below {r9 : Int32} {s0 : SS} {h0 : List aE} {a0 : Int32} (H0 : HH s0 h0) (hf : f_X11_below s0 a0 = some r9) : AM mX11_below (0) [.ref 8, .int a0] h0 0 0 (PI fun r' h' => r9 = r' ∧ h0 = h') := by
  unfold f_X11_below at hf
  refine am_of (lv := [some (.ref 8), some (.int a0)]) rfl (Nat.le_of_ble_eq_true rfl) rfl ?_
  refine aw_iload_n (pc' := 1) dX11_below_0 rfl rfl ?_
  refine aw_zlt (tgt := 10) (pc' := 4) dX11_below_1 rfl rfl (fun c1 => ?_) (fun c1 => ?_)
  · replace hf := ifp c1 hf
    refine aw_iconst (v := (-1)) (pc' := 11) dX11_below_10 rfl ic_m1 ?_
    obtain rfl := Option.some.inj hf
    exact aw_ri dX11_below_11 rfl rfl (Nat.le_of_ble_eq_true rfl) (Nat.le_of_ble_eq_true rfl) ⟨rfl, rfl⟩
  · replace hf := ifn c1 hf
    refine aw_iload_n (pc' := 5) dX11_below_4 rfl rfl ?_
    refine aw_bipush (v := 9) (pc' := 7) dX11_below_5 rfl bp_9 ?_
    refine aw_cle (tgt := 12) (pc' := 10) dX11_below_7 rfl rfl (fun c2 => ?_) (fun c2 => ?_)
    · replace hf := ifn c2 hf
      refine aw_iload_n (pc' := 13) dX11_below_12 rfl rfl ?_
      refine aw_if_ne (tgt := 26) (pc' := 16) dX11_below_13 rfl rfl (fun c3 => ?_) (fun c3 => ?_)
      · replace hf := ifn c3 hf
        refine aw_aload_n (pc' := 27) dX11_below_26 rfl rfl rfl ?_
        refine aw_gr (q := 0) (e := 61) (v := .ref 38) (pc' := 30) H0 (H0.fo rfl rfl) (l13 rfl) rfl rfl dX11_below_27 rfl fl_RX11_76 ?_
        refine aw_gr (q := 30) (e := 3) (v := .ref 39) (pc' := 33) H0 (H0.fo rfl rfl) (l13 rfl) rfl rfl dX11_below_30 rfl fl_RX11_320 ?_
        refine aw_iload_n (pc' := 34) dX11_below_33 rfl rfl ?_
        obtain ⟨g4, hf⟩ := gd_e hf
        refine aw_ia (q := 31) (pc' := 35) H0 (H0.fa rfl rfl rfl) g4 dX11_below_34 rfl ?_
        obtain rfl := Option.some.inj hf
        exact aw_ri dX11_below_35 rfl rfl (Nat.le_of_ble_eq_true rfl) (Nat.le_of_ble_eq_true rfl) ⟨rfl, rfl⟩
      · replace hf := ifp c3 hf
        refine aw_aload_n (pc' := 17) dX11_below_16 rfl rfl rfl ?_
        refine aw_gr (q := 0) (e := 61) (v := .ref 38) (pc' := 20) H0 (H0.fo rfl rfl) (l13 rfl) rfl rfl dX11_below_17 rfl fl_RX11_76 ?_
        refine aw_gi (q := 30) (pc' := 23) H0 (H0.fo rfl rfl) (l13 rfl) rfl dX11_below_20 rfl fl_RX11_295 ?_
        refine aw_goto (tgt := 35) dX11_below_23 rfl ?_
        obtain rfl := Option.some.inj hf
        exact aw_ri dX11_below_35 rfl rfl (Nat.le_of_ble_eq_true rfl) (Nat.le_of_ble_eq_true rfl) ⟨rfl, rfl⟩
    · replace hf := ifp c2 hf
      refine aw_iconst (v := (-1)) (pc' := 11) dX11_below_10 rfl ic_m1 ?_
      obtain rfl := Option.some.inj hf
      exact aw_ri dX11_below_11 rfl rfl (Nat.le_of_ble_eq_true rfl) (Nat.le_of_ble_eq_true rfl) ⟨rfl, rfl⟩
/-! ThirtyThreeBelow.need -/
noncomputable def f_X11_need (s0 : SS) (a0 : Int32) (a1 : Int32) : Option (Int32 × SS) := (if a0 < (100 : Int32) then some ((-1), s0) else (if (999 : Int32) < a0 then some ((-1), s0) else (if (a0 % (100 : Int32)) = (0 : Int32) then some ((-1), s0) else (if a1 < (0 : Int32) then some ((-1), s0) else (if (99 : Int32) < a1 then some ((-1), s0) else (bd (f_X6_needTold s0 (a0 / (100 : Int32)) (a0 % (100 : Int32)) a1) fun r6 s6 => some (r6, s6)))))))
set_option maxRecDepth 4000 in
theorem t_X11_need {r9 : Int32} {s0 s9 : SS} {h0 : List aE} {a0 : Int32} {a1 : Int32} (H0 : HH s0 h0) (hf : f_X11_need s0 a0 a1 = some (r9, s9)) : AM mX11_need (1) [.ref 8, .int a0, .int a1] h0 0 0 (PI fun r' h' => r9 = r' ∧ HH s9 h' ∧ Mo s0 s9) := by
  unfold f_X11_need at hf
  refine am_of (lv := [some (.ref 8), some (.int a0), some (.int a1)]) rfl (Nat.le_of_ble_eq_true rfl) rfl ?_
  refine aw_iload_n (pc' := 1) dX11_need_0 rfl rfl ?_
  refine aw_bipush (v := 100) (pc' := 3) dX11_need_1 rfl bp_100 ?_
  refine aw_clt (tgt := 30) (pc' := 6) dX11_need_3 rfl rfl (fun c1 => ?_) (fun c1 => ?_)
  · replace hf := ifp c1 hf
    refine aw_iconst (v := (-1)) (pc' := 31) dX11_need_30 rfl ic_m1 ?_
    obtain ⟨rfl, rfl⟩ := so2 hf
    exact aw_ri dX11_need_31 rfl rfl (Nat.le_of_ble_eq_true rfl) (Nat.le_of_ble_eq_true rfl) ⟨rfl, H0, (Mo.rf _)⟩
  · replace hf := ifn c1 hf
    refine aw_iload_n (pc' := 7) dX11_need_6 rfl rfl ?_
    refine aw_sipush (v := 999) (pc' := 10) dX11_need_7 rfl sp_999 ?_
    refine aw_cgt (tgt := 30) (pc' := 13) dX11_need_10 rfl rfl (fun c2 => ?_) (fun c2 => ?_)
    · replace hf := ifp c2 hf
      refine aw_iconst (v := (-1)) (pc' := 31) dX11_need_30 rfl ic_m1 ?_
      obtain ⟨rfl, rfl⟩ := so2 hf
      exact aw_ri dX11_need_31 rfl rfl (Nat.le_of_ble_eq_true rfl) (Nat.le_of_ble_eq_true rfl) ⟨rfl, H0, (Mo.rf _)⟩
    · replace hf := ifn c2 hf
      refine aw_iload_n (pc' := 14) dX11_need_13 rfl rfl ?_
      refine aw_bipush (v := 100) (pc' := 16) dX11_need_14 rfl bp_100 ?_
      refine aw_irem (pc' := 17) dX11_need_16 rfl (by decide) ?_
      refine aw_if_eq (tgt := 30) (pc' := 20) dX11_need_17 rfl rfl (fun c3 => ?_) (fun c3 => ?_)
      · replace hf := ifp c3 hf
        refine aw_iconst (v := (-1)) (pc' := 31) dX11_need_30 rfl ic_m1 ?_
        obtain ⟨rfl, rfl⟩ := so2 hf
        exact aw_ri dX11_need_31 rfl rfl (Nat.le_of_ble_eq_true rfl) (Nat.le_of_ble_eq_true rfl) ⟨rfl, H0, (Mo.rf _)⟩
      · replace hf := ifn c3 hf
        refine aw_iload_n (pc' := 21) dX11_need_20 rfl rfl ?_
        refine aw_zlt (tgt := 30) (pc' := 24) dX11_need_21 rfl rfl (fun c4 => ?_) (fun c4 => ?_)
        · replace hf := ifp c4 hf
          refine aw_iconst (v := (-1)) (pc' := 31) dX11_need_30 rfl ic_m1 ?_
          obtain ⟨rfl, rfl⟩ := so2 hf
          exact aw_ri dX11_need_31 rfl rfl (Nat.le_of_ble_eq_true rfl) (Nat.le_of_ble_eq_true rfl) ⟨rfl, H0, (Mo.rf _)⟩
        · replace hf := ifn c4 hf
          refine aw_iload_n (pc' := 25) dX11_need_24 rfl rfl ?_
          refine aw_bipush (v := 99) (pc' := 27) dX11_need_25 rfl bp_99 ?_
          refine aw_cle (tgt := 32) (pc' := 30) dX11_need_27 rfl rfl (fun c5 => ?_) (fun c5 => ?_)
          · replace hf := ifn c5 hf
            refine aw_aload_n (pc' := 33) dX11_need_32 rfl rfl rfl ?_
            refine aw_gr (q := 0) (e := 69) (v := .ref 42) (pc' := 36) H0 (H0.fo rfl rfl) (l13 rfl) rfl rfl dX11_need_33 rfl fl_RX11_83 ?_
            refine aw_iload_n (pc' := 37) dX11_need_36 rfl rfl ?_
            refine aw_bipush (v := 100) (pc' := 39) dX11_need_37 rfl bp_100 ?_
            refine aw_idiv (pc' := 40) dX11_need_39 rfl (by decide) ?_
            refine aw_iload_n (pc' := 41) dX11_need_40 rfl rfl ?_
            refine aw_bipush (v := 100) (pc' := 43) dX11_need_41 rfl bp_100 ?_
            refine aw_irem (pc' := 44) dX11_need_43 rfl (by decide) ?_
            refine aw_iload_n (pc' := 45) dX11_need_44 rfl rfl ?_
            obtain ⟨r6, s6, ec6, hf⟩ := bd_e hf
            refine aw_callVi (M' := mX6_needTold) (nc' := 0) (ns' := 0) (pc' := 48) dX11_need_45 rfl ml_RX11_323 kX6_needTold (t_X6_needTold H0 ec6) (H0.ob (H0.fo rfl rfl) (by decide)) rfl rfl rfl (Nat.le_of_ble_eq_true rfl) (rokD (by omega) (Nat.le_of_ble_eq_true rfl) (Nat.le_of_ble_eq_true rfl) (Nat.le_of_ble_eq_true rfl)) rfl rfl (fun _ h6 q6 => ?_)
            obtain ⟨rfl, H6, m6⟩ := q6
            obtain ⟨rfl, rfl⟩ := so2 hf
            exact aw_ri dX11_need_48 rfl rfl (Nat.le_of_ble_eq_true rfl) (Nat.le_of_ble_eq_true rfl) ⟨rfl, H6, m6⟩
          · replace hf := ifp c5 hf
            refine aw_iconst (v := (-1)) (pc' := 31) dX11_need_30 rfl ic_m1 ?_
            obtain ⟨rfl, rfl⟩ := so2 hf
            exact aw_ri dX11_need_31 rfl rfl (Nat.le_of_ble_eq_true rfl) (Nat.le_of_ble_eq_true rfl) ⟨rfl, H0, (Mo.rf _)⟩
/-! ThirtyThreeBelow.order -/
noncomputable def f_X11_order (s0 : SS)  : Option (Int32 × SS) := (if (zS s0 34 3) = (0 : Int32) then some ((-1), s0) else (bd (f_X6_leastLateness s0) fun r2 s2 => some (r2, s2)))
set_option maxRecDepth 4000 in
theorem t_X11_order {r9 : Int32} {s0 s9 : SS} {h0 : List aE}  (H0 : HH s0 h0) (hf : f_X11_order s0 = some (r9, s9)) : AM mX11_order (4) [.ref 8] h0 0 0 (PI fun r' h' => r9 = r' ∧ HH s9 h' ∧ Mo s0 s9) := by
  unfold f_X11_order at hf
  refine am_of (lv := [some (.ref 8)]) rfl (Nat.le_of_ble_eq_true rfl) rfl ?_
  refine aw_aload_n (pc' := 1) dX11_order_0 rfl rfl rfl ?_
  refine aw_gr (q := 0) (e := 69) (v := .ref 42) (pc' := 4) H0 (H0.fo rfl rfl) (l13 rfl) rfl rfl dX11_order_1 rfl fl_RX11_83 ?_
  refine aw_gi (q := 34) (pc' := 7) H0 (H0.fo rfl rfl) (l13 rfl) rfl dX11_order_4 rfl fl_RX11_326 ?_
  refine aw_if_ne (tgt := 14) (pc' := 10) dX11_order_7 rfl rfl (fun c1 => ?_) (fun c1 => ?_)
  · replace hf := ifn c1 hf
    refine aw_aload_n (pc' := 15) dX11_order_14 rfl rfl rfl ?_
    refine aw_gr (q := 0) (e := 69) (v := .ref 42) (pc' := 18) H0 (H0.fo rfl rfl) (l13 rfl) rfl rfl dX11_order_15 rfl fl_RX11_83 ?_
    obtain ⟨r2, s2, ec2, hf⟩ := bd_e hf
    refine aw_callVi (M' := mX6_leastLateness) (nc' := 0) (ns' := 0) (pc' := 21) dX11_order_18 rfl ml_RX11_329 kX6_leastLateness (t_X6_leastLateness H0 ec2) (H0.ob (H0.fo rfl rfl) (by decide)) rfl rfl rfl (Nat.le_of_ble_eq_true rfl) (rokD (by omega) (Nat.le_of_ble_eq_true rfl) (Nat.le_of_ble_eq_true rfl) (Nat.le_of_ble_eq_true rfl)) rfl rfl (fun _ h2 q2 => ?_)
    obtain ⟨rfl, H2, m2⟩ := q2
    obtain ⟨rfl, rfl⟩ := so2 hf
    exact aw_ri dX11_order_21 rfl rfl (Nat.le_of_ble_eq_true rfl) (Nat.le_of_ble_eq_true rfl) ⟨rfl, H2, m2⟩
  · replace hf := ifp c1 hf
    refine aw_iconst (v := (-1)) (pc' := 11) dX11_order_10 rfl ic_m1 ?_
    refine aw_goto (tgt := 21) dX11_order_11 rfl ?_
    obtain ⟨rfl, rfl⟩ := so2 hf
    exact aw_ri dX11_order_21 rfl rfl (Nat.le_of_ble_eq_true rfl) (Nat.le_of_ble_eq_true rfl) ⟨rfl, H0, (Mo.rf _)⟩
/-! ThirtyThreeBelow.ordered -/
noncomputable def f_X11_ordered (s0 : SS) (a0 : Int32) : Option Int32 := (if a0 < (0 : Int32) then some (-1) else (if a0 < (zS s0 34 7) then (gd (inB a0 10) (some (zI s0 40 (a0.toInt.toNat)))) else some (-1)))
set_option maxRecDepth 4000 in
theorem t_X11_ordered {r9 : Int32} {s0 : SS} {h0 : List aE} {a0 : Int32} (H0 : HH s0 h0) (hf : f_X11_ordered s0 a0 = some r9) : AM mX11_ordered (0) [.ref 8, .int a0] h0 0 0 (PI fun r' h' => r9 = r' ∧ h0 = h') := by
  unfold f_X11_ordered at hf
  refine am_of (lv := [some (.ref 8), some (.int a0)]) rfl (Nat.le_of_ble_eq_true rfl) rfl ?_
  refine aw_iload_n (pc' := 1) dX11_ordered_0 rfl rfl ?_
  refine aw_zlt (tgt := 15) (pc' := 4) dX11_ordered_1 rfl rfl (fun c1 => ?_) (fun c1 => ?_)
  · replace hf := ifp c1 hf
    refine aw_iconst (v := (-1)) (pc' := 16) dX11_ordered_15 rfl ic_m1 ?_
    refine aw_goto (tgt := 28) dX11_ordered_16 rfl ?_
    obtain rfl := Option.some.inj hf
    exact aw_ri dX11_ordered_28 rfl rfl (Nat.le_of_ble_eq_true rfl) (Nat.le_of_ble_eq_true rfl) ⟨rfl, rfl⟩
  · replace hf := ifn c1 hf
    refine aw_iload_n (pc' := 5) dX11_ordered_4 rfl rfl ?_
    refine aw_aload_n (pc' := 6) dX11_ordered_5 rfl rfl rfl ?_
    refine aw_gr (q := 0) (e := 69) (v := .ref 42) (pc' := 9) H0 (H0.fo rfl rfl) (l13 rfl) rfl rfl dX11_ordered_6 rfl fl_RX11_83 ?_
    refine aw_gi (q := 34) (pc' := 12) H0 (H0.fo rfl rfl) (l13 rfl) rfl dX11_ordered_9 rfl fl_RX11_332 ?_
    refine aw_clt (tgt := 19) (pc' := 15) dX11_ordered_12 rfl rfl (fun c2 => ?_) (fun c2 => ?_)
    · replace hf := ifp c2 hf
      refine aw_aload_n (pc' := 20) dX11_ordered_19 rfl rfl rfl ?_
      refine aw_gr (q := 0) (e := 69) (v := .ref 42) (pc' := 23) H0 (H0.fo rfl rfl) (l13 rfl) rfl rfl dX11_ordered_20 rfl fl_RX11_83 ?_
      refine aw_gr (q := 34) (e := 13) (v := .ref 48) (pc' := 26) H0 (H0.fo rfl rfl) (l13 rfl) rfl rfl dX11_ordered_23 rfl fl_RX11_335 ?_
      refine aw_iload_n (pc' := 27) dX11_ordered_26 rfl rfl ?_
      obtain ⟨g3, hf⟩ := gd_e hf
      refine aw_ia (q := 40) (pc' := 28) H0 (H0.fa rfl rfl rfl) g3 dX11_ordered_27 rfl ?_
      obtain rfl := Option.some.inj hf
      exact aw_ri dX11_ordered_28 rfl rfl (Nat.le_of_ble_eq_true rfl) (Nat.le_of_ble_eq_true rfl) ⟨rfl, rfl⟩
    · replace hf := ifn c2 hf
      refine aw_iconst (v := (-1)) (pc' := 16) dX11_ordered_15 rfl ic_m1 ?_
      refine aw_goto (tgt := 28) dX11_ordered_16 rfl ?_
      obtain rfl := Option.some.inj hf
      exact aw_ri dX11_ordered_28 rfl rfl (Nat.le_of_ble_eq_true rfl) (Nat.le_of_ble_eq_true rfl) ⟨rfl, rfl⟩
/-! ThirtyThreeBelow.watch -/
noncomputable def f_X11_watch (s0 : SS) (a0 : Int32) (a1 : Int32) : Option (Int32 × SS) := (if a0 < (1 : Int32) then some ((-1), s0) else (if (3 : Int32) < a0 then some ((-1), s0) else (if a1 < (0 : Int32) then some ((-1), s0) else (if (9 : Int32) < a1 then some ((-1), s0) else (bd (f_X2_watchesMade s0 a0 a1) fun r5 s5 => some (r5, s5))))))
set_option maxRecDepth 4000 in
theorem t_X11_watch {r9 : Int32} {s0 s9 : SS} {h0 : List aE} {a0 : Int32} {a1 : Int32} (H0 : HH s0 h0) (hf : f_X11_watch s0 a0 a1 = some (r9, s9)) : AM mX11_watch (2) [.ref 8, .int a0, .int a1] h0 0 0 (PI fun r' h' => r9 = r' ∧ HH s9 h' ∧ Mo s0 s9) := by
  unfold f_X11_watch at hf
  refine am_of (lv := [some (.ref 8), some (.int a0), some (.int a1)]) rfl (Nat.le_of_ble_eq_true rfl) rfl ?_
  refine aw_iload_n (pc' := 1) dX11_watch_0 rfl rfl ?_
  refine aw_iconst (v := 1) (pc' := 2) dX11_watch_1 rfl ic_1 ?_
  refine aw_clt (tgt := 20) (pc' := 5) dX11_watch_2 rfl rfl (fun c1 => ?_) (fun c1 => ?_)
  · replace hf := ifp c1 hf
    refine aw_iconst (v := (-1)) (pc' := 21) dX11_watch_20 rfl ic_m1 ?_
    obtain ⟨rfl, rfl⟩ := so2 hf
    exact aw_ri dX11_watch_21 rfl rfl (Nat.le_of_ble_eq_true rfl) (Nat.le_of_ble_eq_true rfl) ⟨rfl, H0, (Mo.rf _)⟩
  · replace hf := ifn c1 hf
    refine aw_iload_n (pc' := 6) dX11_watch_5 rfl rfl ?_
    refine aw_iconst (v := 3) (pc' := 7) dX11_watch_6 rfl ic_3 ?_
    refine aw_cgt (tgt := 20) (pc' := 10) dX11_watch_7 rfl rfl (fun c2 => ?_) (fun c2 => ?_)
    · replace hf := ifp c2 hf
      refine aw_iconst (v := (-1)) (pc' := 21) dX11_watch_20 rfl ic_m1 ?_
      obtain ⟨rfl, rfl⟩ := so2 hf
      exact aw_ri dX11_watch_21 rfl rfl (Nat.le_of_ble_eq_true rfl) (Nat.le_of_ble_eq_true rfl) ⟨rfl, H0, (Mo.rf _)⟩
    · replace hf := ifn c2 hf
      refine aw_iload_n (pc' := 11) dX11_watch_10 rfl rfl ?_
      refine aw_zlt (tgt := 20) (pc' := 14) dX11_watch_11 rfl rfl (fun c3 => ?_) (fun c3 => ?_)
      · replace hf := ifp c3 hf
        refine aw_iconst (v := (-1)) (pc' := 21) dX11_watch_20 rfl ic_m1 ?_
        obtain ⟨rfl, rfl⟩ := so2 hf
        exact aw_ri dX11_watch_21 rfl rfl (Nat.le_of_ble_eq_true rfl) (Nat.le_of_ble_eq_true rfl) ⟨rfl, H0, (Mo.rf _)⟩
      · replace hf := ifn c3 hf
        refine aw_iload_n (pc' := 15) dX11_watch_14 rfl rfl ?_
        refine aw_bipush (v := 9) (pc' := 17) dX11_watch_15 rfl bp_9 ?_
        refine aw_cle (tgt := 22) (pc' := 20) dX11_watch_17 rfl rfl (fun c4 => ?_) (fun c4 => ?_)
        · replace hf := ifn c4 hf
          refine aw_aload_n (pc' := 23) dX11_watch_22 rfl rfl rfl ?_
          refine aw_gr (q := 0) (e := 13) (v := .ref 14) (pc' := 26) H0 (H0.fo rfl rfl) (l13 rfl) rfl rfl dX11_watch_23 rfl fl_RX11_19 ?_
          refine aw_iload_n (pc' := 27) dX11_watch_26 rfl rfl ?_
          refine aw_iload_n (pc' := 28) dX11_watch_27 rfl rfl ?_
          obtain ⟨r5, s5, ec5, hf⟩ := bd_e hf
          refine aw_callVi (M' := mX2_watchesMade) (nc' := 0) (ns' := 0) (pc' := 31) dX11_watch_28 rfl ml_RX11_338 kX2_watchesMade (t_X2_watchesMade H0 ec5) (H0.ob (H0.fo rfl rfl) (by decide)) rfl rfl rfl (Nat.le_of_ble_eq_true rfl) (rokD (by omega) (Nat.le_of_ble_eq_true rfl) (Nat.le_of_ble_eq_true rfl) (Nat.le_of_ble_eq_true rfl)) rfl rfl (fun _ h5 q5 => ?_)
          obtain ⟨rfl, H5, m5⟩ := q5
          obtain ⟨rfl, rfl⟩ := so2 hf
          exact aw_ri dX11_watch_31 rfl rfl (Nat.le_of_ble_eq_true rfl) (Nat.le_of_ble_eq_true rfl) ⟨rfl, H5, m5⟩
        · replace hf := ifp c4 hf
          refine aw_iconst (v := (-1)) (pc' := 21) dX11_watch_20 rfl ic_m1 ?_
          obtain ⟨rfl, rfl⟩ := so2 hf
          exact aw_ri dX11_watch_21 rfl rfl (Nat.le_of_ble_eq_true rfl) (Nat.le_of_ble_eq_true rfl) ⟨rfl, H0, (Mo.rf _)⟩
/-! ThirtyThreeBelow.watched -/
noncomputable def f_X11_watched (s0 : SS) (a0 : Int32) (a1 : Int32) : Option Int32 := (if a0 < (0 : Int32) then some (-1) else (if (2 : Int32) < a0 then some (-1) else (if a1 < (0 : Int32) then some (-1) else (if a1 < (zS s0 6 7) then (vl (((a0 * (zS s0 6 7)) + a1)) fun v5 => (gd (inB v5 9) (some (zI s0 12 (v5.toInt.toNat))))) else some (-1)))))
set_option maxRecDepth 4000 in
theorem t_X11_watched {r9 : Int32} {s0 : SS} {h0 : List aE} {a0 : Int32} {a1 : Int32} (H0 : HH s0 h0) (hf : f_X11_watched s0 a0 a1 = some r9) : AM mX11_watched (0) [.ref 8, .int a0, .int a1] h0 0 0 (PI fun r' h' => r9 = r' ∧ h0 = h') := by
  unfold f_X11_watched at hf
  refine am_of (lv := [some (.ref 8), some (.int a0), some (.int a1)]) rfl (Nat.le_of_ble_eq_true rfl) rfl ?_
  refine aw_iload_n (pc' := 1) dX11_watched_0 rfl rfl ?_
  refine aw_zlt (tgt := 24) (pc' := 4) dX11_watched_1 rfl rfl (fun c1 => ?_) (fun c1 => ?_)
  · replace hf := ifp c1 hf
    refine aw_iconst (v := (-1)) (pc' := 25) dX11_watched_24 rfl ic_m1 ?_
    obtain rfl := Option.some.inj hf
    exact aw_ri dX11_watched_25 rfl rfl (Nat.le_of_ble_eq_true rfl) (Nat.le_of_ble_eq_true rfl) ⟨rfl, rfl⟩
  · replace hf := ifn c1 hf
    refine aw_iload_n (pc' := 5) dX11_watched_4 rfl rfl ?_
    refine aw_iconst (v := 2) (pc' := 6) dX11_watched_5 rfl ic_2 ?_
    refine aw_cgt (tgt := 24) (pc' := 9) dX11_watched_6 rfl rfl (fun c2 => ?_) (fun c2 => ?_)
    · replace hf := ifp c2 hf
      refine aw_iconst (v := (-1)) (pc' := 25) dX11_watched_24 rfl ic_m1 ?_
      obtain rfl := Option.some.inj hf
      exact aw_ri dX11_watched_25 rfl rfl (Nat.le_of_ble_eq_true rfl) (Nat.le_of_ble_eq_true rfl) ⟨rfl, rfl⟩
    · replace hf := ifn c2 hf
      refine aw_iload_n (pc' := 10) dX11_watched_9 rfl rfl ?_
      refine aw_zlt (tgt := 24) (pc' := 13) dX11_watched_10 rfl rfl (fun c3 => ?_) (fun c3 => ?_)
      · replace hf := ifp c3 hf
        refine aw_iconst (v := (-1)) (pc' := 25) dX11_watched_24 rfl ic_m1 ?_
        obtain rfl := Option.some.inj hf
        exact aw_ri dX11_watched_25 rfl rfl (Nat.le_of_ble_eq_true rfl) (Nat.le_of_ble_eq_true rfl) ⟨rfl, rfl⟩
      · replace hf := ifn c3 hf
        refine aw_iload_n (pc' := 14) dX11_watched_13 rfl rfl ?_
        refine aw_aload_n (pc' := 15) dX11_watched_14 rfl rfl rfl ?_
        refine aw_gr (q := 0) (e := 13) (v := .ref 14) (pc' := 18) H0 (H0.fo rfl rfl) (l13 rfl) rfl rfl dX11_watched_15 rfl fl_RX11_19 ?_
        refine aw_gi (q := 6) (pc' := 21) H0 (H0.fo rfl rfl) (l13 rfl) rfl dX11_watched_18 rfl fl_RX11_341 ?_
        refine aw_clt (tgt := 26) (pc' := 24) dX11_watched_21 rfl rfl (fun c4 => ?_) (fun c4 => ?_)
        · replace hf := ifp c4 hf
          refine aw_aload_n (pc' := 27) dX11_watched_26 rfl rfl rfl ?_
          refine aw_gr (q := 0) (e := 13) (v := .ref 14) (pc' := 30) H0 (H0.fo rfl rfl) (l13 rfl) rfl rfl dX11_watched_27 rfl fl_RX11_19 ?_
          refine aw_gr (q := 6) (e := 13) (v := .ref 20) (pc' := 33) H0 (H0.fo rfl rfl) (l13 rfl) rfl rfl dX11_watched_30 rfl fl_RX11_344 ?_
          refine aw_iload_n (pc' := 34) dX11_watched_33 rfl rfl ?_
          refine aw_aload_n (pc' := 35) dX11_watched_34 rfl rfl rfl ?_
          refine aw_gr (q := 0) (e := 13) (v := .ref 14) (pc' := 38) H0 (H0.fo rfl rfl) (l13 rfl) rfl rfl dX11_watched_35 rfl fl_RX11_19 ?_
          refine aw_gi (q := 6) (pc' := 41) H0 (H0.fo rfl rfl) (l13 rfl) rfl dX11_watched_38 rfl fl_RX11_341 ?_
          refine aw_imul (pc' := 42) dX11_watched_41 rfl ?_
          refine aw_iload_n (pc' := 43) dX11_watched_42 rfl rfl ?_
          refine aw_iadd (pc' := 44) dX11_watched_43 rfl ?_
          obtain ⟨v5, ev5, hf⟩ := vl_e hf
          refine aw_topi ev5 ?_
          obtain ⟨g6, hf⟩ := gd_e hf
          refine aw_ia (q := 12) (pc' := 45) H0 (H0.fa rfl rfl rfl) g6 dX11_watched_44 rfl ?_
          obtain rfl := Option.some.inj hf
          exact aw_ri dX11_watched_45 rfl rfl (Nat.le_of_ble_eq_true rfl) (Nat.le_of_ble_eq_true rfl) ⟨rfl, rfl⟩
        · replace hf := ifn c4 hf
          refine aw_iconst (v := (-1)) (pc' := 25) dX11_watched_24 rfl ic_m1 ?_
          obtain rfl := Option.some.inj hf
          exact aw_ri dX11_watched_25 rfl rfl (Nat.le_of_ble_eq_true rfl) (Nat.le_of_ble_eq_true rfl) ⟨rfl, rfl⟩
/-! ThirtyThreeBelow.aim -/
noncomputable def f_X11_aim (s0 : SS) (a0 : Int32) (a1 : Int32) : Option (Int32 × SS) := (if a0 < (0 : Int32) then some ((-1), s0) else (if a0 < (32 : Int32) then (if a1 < (0 : Int32) then some ((-1), s0) else (if (9 : Int32) < a1 then some ((-1), s0) else (bd (f_X6_aimTold s0 a1) fun r5 s5 => some (r5, s5)))) else some ((-1), s0)))
set_option maxRecDepth 4000 in
theorem t_X11_aim {r9 : Int32} {s0 s9 : SS} {h0 : List aE} {a0 : Int32} {a1 : Int32} (H0 : HH s0 h0) (hf : f_X11_aim s0 a0 a1 = some (r9, s9)) : AM mX11_aim (1) [.ref 8, .int a0, .int a1] h0 0 0 (PI fun r' h' => r9 = r' ∧ HH s9 h' ∧ Mo s0 s9) := by
  unfold f_X11_aim at hf
  refine am_of (lv := [some (.ref 8), some (.int a0), some (.int a1)]) rfl (Nat.le_of_ble_eq_true rfl) rfl ?_
  refine aw_iload_n (pc' := 1) dX11_aim_0 rfl rfl ?_
  refine aw_zlt (tgt := 20) (pc' := 4) dX11_aim_1 rfl rfl (fun c1 => ?_) (fun c1 => ?_)
  · replace hf := ifp c1 hf
    refine aw_iconst (v := (-1)) (pc' := 21) dX11_aim_20 rfl ic_m1 ?_
    obtain ⟨rfl, rfl⟩ := so2 hf
    exact aw_ri dX11_aim_21 rfl rfl (Nat.le_of_ble_eq_true rfl) (Nat.le_of_ble_eq_true rfl) ⟨rfl, H0, (Mo.rf _)⟩
  · replace hf := ifn c1 hf
    refine aw_iload_n (pc' := 5) dX11_aim_4 rfl rfl ?_
    refine aw_bipush (v := 32) (pc' := 7) dX11_aim_5 rfl bp_32 ?_
    refine aw_cge (tgt := 20) (pc' := 10) dX11_aim_7 rfl rfl (fun c2 => ?_) (fun c2 => ?_)
    · replace hf := ifn c2 hf
      refine aw_iconst (v := (-1)) (pc' := 21) dX11_aim_20 rfl ic_m1 ?_
      obtain ⟨rfl, rfl⟩ := so2 hf
      exact aw_ri dX11_aim_21 rfl rfl (Nat.le_of_ble_eq_true rfl) (Nat.le_of_ble_eq_true rfl) ⟨rfl, H0, (Mo.rf _)⟩
    · replace hf := ifp c2 hf
      refine aw_iload_n (pc' := 11) dX11_aim_10 rfl rfl ?_
      refine aw_zlt (tgt := 20) (pc' := 14) dX11_aim_11 rfl rfl (fun c3 => ?_) (fun c3 => ?_)
      · replace hf := ifp c3 hf
        refine aw_iconst (v := (-1)) (pc' := 21) dX11_aim_20 rfl ic_m1 ?_
        obtain ⟨rfl, rfl⟩ := so2 hf
        exact aw_ri dX11_aim_21 rfl rfl (Nat.le_of_ble_eq_true rfl) (Nat.le_of_ble_eq_true rfl) ⟨rfl, H0, (Mo.rf _)⟩
      · replace hf := ifn c3 hf
        refine aw_iload_n (pc' := 15) dX11_aim_14 rfl rfl ?_
        refine aw_bipush (v := 9) (pc' := 17) dX11_aim_15 rfl bp_9 ?_
        refine aw_cle (tgt := 22) (pc' := 20) dX11_aim_17 rfl rfl (fun c4 => ?_) (fun c4 => ?_)
        · replace hf := ifn c4 hf
          refine aw_aload_n (pc' := 23) dX11_aim_22 rfl rfl rfl ?_
          refine aw_gr (q := 0) (e := 69) (v := .ref 42) (pc' := 26) H0 (H0.fo rfl rfl) (l13 rfl) rfl rfl dX11_aim_23 rfl fl_RX11_83 ?_
          refine aw_iload_n (pc' := 27) dX11_aim_26 rfl rfl ?_
          obtain ⟨r5, s5, ec5, hf⟩ := bd_e hf
          refine aw_callVi (M' := mX6_aimTold) (nc' := 0) (ns' := 0) (pc' := 30) dX11_aim_27 rfl ml_RX11_347 kX6_aimTold (t_X6_aimTold H0 ec5) (H0.ob (H0.fo rfl rfl) (by decide)) rfl rfl rfl (Nat.le_of_ble_eq_true rfl) (rokD (by omega) (Nat.le_of_ble_eq_true rfl) (Nat.le_of_ble_eq_true rfl) (Nat.le_of_ble_eq_true rfl)) rfl rfl (fun _ h5 q5 => ?_)
          obtain ⟨rfl, H5, m5⟩ := q5
          obtain ⟨rfl, rfl⟩ := so2 hf
          exact aw_ri dX11_aim_30 rfl rfl (Nat.le_of_ble_eq_true rfl) (Nat.le_of_ble_eq_true rfl) ⟨rfl, H5, m5⟩
        · replace hf := ifp c4 hf
          refine aw_iconst (v := (-1)) (pc' := 21) dX11_aim_20 rfl ic_m1 ?_
          obtain ⟨rfl, rfl⟩ := so2 hf
          exact aw_ri dX11_aim_21 rfl rfl (Nat.le_of_ble_eq_true rfl) (Nat.le_of_ble_eq_true rfl) ⟨rfl, H0, (Mo.rf _)⟩
/-! ThirtyThreeBelow.rock -/
noncomputable def f_X11_rock (s0 : SS) (a0 : Int32) (a1 : Int32) (a2 : Int32) : Option (Int32 × SS) := (if a0 < (0 : Int32) then some ((-1), s0) else (if a0 < (4 : Int32) then (if a1 < (0 : Int32) then some ((-1), s0) else (if a1 < (6 : Int32) then (if a2 < (1 : Int32) then some ((-1), s0) else (if (9 : Int32) < a2 then some ((-1), s0) else (vl (((a0 * (6 : Int32)) + a1)) fun v7 => (gd (inB v7 24) (vl ((zI s0 42 (v7.toInt.toNat))) fun v10 => (gd (inB v7 24) (st (pI s0 42 (v7.toInt.toNat) a2) fun s12 => some (v10, s12)))))))) else some ((-1), s0))) else some ((-1), s0)))
set_option maxRecDepth 4000 in
theorem t_X11_rock {r9 : Int32} {s0 s9 : SS} {h0 : List aE} {a0 : Int32} {a1 : Int32} {a2 : Int32} (H0 : HH s0 h0) (hf : f_X11_rock s0 a0 a1 a2 = some (r9, s9)) : AM mX11_rock (0) [.ref 8, .int a0, .int a1, .int a2] h0 0 0 (PI fun r' h' => r9 = r' ∧ HH s9 h' ∧ Mo s0 s9) := by
  unfold f_X11_rock at hf
  refine am_of (lv := [some (.ref 8), some (.int a0), some (.int a1), some (.int a2), none, none]) rfl (Nat.le_of_ble_eq_true rfl) rfl ?_
  refine aw_iload_n (pc' := 1) dX11_rock_0 rfl rfl ?_
  refine aw_zlt (tgt := 30) (pc' := 4) dX11_rock_1 rfl rfl (fun c1 => ?_) (fun c1 => ?_)
  · replace hf := ifp c1 hf
    refine aw_iconst (v := (-1)) (pc' := 31) dX11_rock_30 rfl ic_m1 ?_
    obtain ⟨rfl, rfl⟩ := so2 hf
    exact aw_ri dX11_rock_31 rfl rfl (Nat.le_of_ble_eq_true rfl) (Nat.le_of_ble_eq_true rfl) ⟨rfl, H0, (Mo.rf _)⟩
  · replace hf := ifn c1 hf
    refine aw_iload_n (pc' := 5) dX11_rock_4 rfl rfl ?_
    refine aw_iconst (v := 4) (pc' := 6) dX11_rock_5 rfl ic_4 ?_
    refine aw_cge (tgt := 30) (pc' := 9) dX11_rock_6 rfl rfl (fun c2 => ?_) (fun c2 => ?_)
    · replace hf := ifn c2 hf
      refine aw_iconst (v := (-1)) (pc' := 31) dX11_rock_30 rfl ic_m1 ?_
      obtain ⟨rfl, rfl⟩ := so2 hf
      exact aw_ri dX11_rock_31 rfl rfl (Nat.le_of_ble_eq_true rfl) (Nat.le_of_ble_eq_true rfl) ⟨rfl, H0, (Mo.rf _)⟩
    · replace hf := ifp c2 hf
      refine aw_iload_n (pc' := 10) dX11_rock_9 rfl rfl ?_
      refine aw_zlt (tgt := 30) (pc' := 13) dX11_rock_10 rfl rfl (fun c3 => ?_) (fun c3 => ?_)
      · replace hf := ifp c3 hf
        refine aw_iconst (v := (-1)) (pc' := 31) dX11_rock_30 rfl ic_m1 ?_
        obtain ⟨rfl, rfl⟩ := so2 hf
        exact aw_ri dX11_rock_31 rfl rfl (Nat.le_of_ble_eq_true rfl) (Nat.le_of_ble_eq_true rfl) ⟨rfl, H0, (Mo.rf _)⟩
      · replace hf := ifn c3 hf
        refine aw_iload_n (pc' := 14) dX11_rock_13 rfl rfl ?_
        refine aw_bipush (v := 6) (pc' := 16) dX11_rock_14 rfl bp_6 ?_
        refine aw_cge (tgt := 30) (pc' := 19) dX11_rock_16 rfl rfl (fun c4 => ?_) (fun c4 => ?_)
        · replace hf := ifn c4 hf
          refine aw_iconst (v := (-1)) (pc' := 31) dX11_rock_30 rfl ic_m1 ?_
          obtain ⟨rfl, rfl⟩ := so2 hf
          exact aw_ri dX11_rock_31 rfl rfl (Nat.le_of_ble_eq_true rfl) (Nat.le_of_ble_eq_true rfl) ⟨rfl, H0, (Mo.rf _)⟩
        · replace hf := ifp c4 hf
          refine aw_iload_n (pc' := 20) dX11_rock_19 rfl rfl ?_
          refine aw_iconst (v := 1) (pc' := 21) dX11_rock_20 rfl ic_1 ?_
          refine aw_clt (tgt := 30) (pc' := 24) dX11_rock_21 rfl rfl (fun c5 => ?_) (fun c5 => ?_)
          · replace hf := ifp c5 hf
            refine aw_iconst (v := (-1)) (pc' := 31) dX11_rock_30 rfl ic_m1 ?_
            obtain ⟨rfl, rfl⟩ := so2 hf
            exact aw_ri dX11_rock_31 rfl rfl (Nat.le_of_ble_eq_true rfl) (Nat.le_of_ble_eq_true rfl) ⟨rfl, H0, (Mo.rf _)⟩
          · replace hf := ifn c5 hf
            refine aw_iload_n (pc' := 25) dX11_rock_24 rfl rfl ?_
            refine aw_bipush (v := 9) (pc' := 27) dX11_rock_25 rfl bp_9 ?_
            refine aw_cle (tgt := 32) (pc' := 30) dX11_rock_27 rfl rfl (fun c6 => ?_) (fun c6 => ?_)
            · replace hf := ifn c6 hf
              refine aw_iload_n (pc' := 33) dX11_rock_32 rfl rfl ?_
              refine aw_bipush (v := 6) (pc' := 35) dX11_rock_33 rfl bp_6 ?_
              refine aw_imul (pc' := 36) dX11_rock_35 rfl ?_
              refine aw_iload_n (pc' := 37) dX11_rock_36 rfl rfl ?_
              refine aw_iadd (pc' := 38) dX11_rock_37 rfl ?_
              obtain ⟨v7, ev7, hf⟩ := vl_e hf
              refine aw_topi ev7 ?_
              refine aw_istore (lv' := [_, _, _, _, _, _]) (pc' := 40) dX11_rock_38 rfl (Nat.le_of_ble_eq_true rfl) rfl ?_
              refine aw_aload_n (pc' := 41) dX11_rock_40 rfl rfl rfl ?_
              refine aw_gr (q := 0) (e := 69) (v := .ref 42) (pc' := 44) H0 (H0.fo rfl rfl) (l13 rfl) rfl rfl dX11_rock_41 rfl fl_RX11_83 ?_
              refine aw_gr (q := 34) (e := 17) (v := .ref 50) (pc' := 47) H0 (H0.fo rfl rfl) (l13 rfl) rfl rfl dX11_rock_44 rfl fl_RX11_350 ?_
              refine aw_iload (pc' := 49) dX11_rock_47 rfl rfl ?_
              obtain ⟨g8, hf⟩ := gd_e hf
              refine aw_ia (q := 42) (pc' := 50) H0 (H0.fa rfl rfl rfl) g8 dX11_rock_49 rfl ?_
              obtain ⟨v10, ev10, hf⟩ := vl_e hf
              refine aw_topi ev10 ?_
              refine aw_istore (lv' := [_, _, _, _, _, _]) (pc' := 52) dX11_rock_50 rfl (Nat.le_of_ble_eq_true rfl) rfl ?_
              refine aw_aload_n (pc' := 53) dX11_rock_52 rfl rfl rfl ?_
              refine aw_gr (q := 0) (e := 69) (v := .ref 42) (pc' := 56) H0 (H0.fo rfl rfl) (l13 rfl) rfl rfl dX11_rock_53 rfl fl_RX11_83 ?_
              refine aw_gr (q := 34) (e := 17) (v := .ref 50) (pc' := 59) H0 (H0.fo rfl rfl) (l13 rfl) rfl rfl dX11_rock_56 rfl fl_RX11_350 ?_
              refine aw_iload (pc' := 61) dX11_rock_59 rfl rfl ?_
              refine aw_iload_n (pc' := 62) dX11_rock_61 rfl rfl ?_
              obtain ⟨g11, hf⟩ := gd_e hf
              obtain ⟨s12, es12, hf⟩ := st_e hf
              refine aw_is (q := 42) (pc' := 63) es12 H0 (H0.fa rfl rfl rfl) g11 dX11_rock_62 rfl (fun h12 H12 => ?_)
              have m12 := Mo.ofI es12
              refine aw_iload (pc' := 65) dX11_rock_63 rfl rfl ?_
              obtain ⟨rfl, rfl⟩ := so2 hf
              exact aw_ri dX11_rock_65 rfl rfl (Nat.le_of_ble_eq_true rfl) (Nat.le_of_ble_eq_true rfl) ⟨rfl, H12, m12⟩
            · replace hf := ifp c6 hf
              refine aw_iconst (v := (-1)) (pc' := 31) dX11_rock_30 rfl ic_m1 ?_
              obtain ⟨rfl, rfl⟩ := so2 hf
              exact aw_ri dX11_rock_31 rfl rfl (Nat.le_of_ble_eq_true rfl) (Nat.le_of_ble_eq_true rfl) ⟨rfl, H0, (Mo.rf _)⟩
/-! ThirtyThreeBelow.aimed -/
noncomputable def f_X11_aimed (s0 : SS) (a0 : Int32) (a1 : Int32) (a2 : Int32) : Option (Int32 × SS) := (if a0 < (1 : Int32) then some ((-1), s0) else (if (4 : Int32) < a0 then some ((-1), s0) else (b1 (f_X11_isYard a1) fun r3 => (if r3 = (0 : Int32) then some ((-1), s0) else (if a2 < (1 : Int32) then some ((-1), s0) else (if (2 : Int32) < a2 then some ((-1), s0) else (if (zS s0 34 9) = (0 : Int32) then some ((-1), s0) else (jn ((b1 (f_X6_weighPlaces s0 a0 a1) fun s10 => (jn (fun (s11 : SS) (t11_0 : Int32) => (st (pS s11 34 9 0) fun s12 => some (t11_0, s12))) fun k11 => (if a2 = (1 : Int32) then (bd (f_X6_soonestOne s10) fun r15 s15 => (k11 s15 r15)) else (bd (f_X6_soonestTwo s10) fun r14 s14 => (k11 s14 r14)))))) fun k8 => (if a2 = (2 : Int32) then (if (zS s0 34 9) < (2 : Int32) then some ((-2), s0) else k8) else k8)))))))))
set_option maxRecDepth 4000 in
theorem t_X11_aimed {r9 : Int32} {s0 s9 : SS} {h0 : List aE} {a0 : Int32} {a1 : Int32} {a2 : Int32} (H0 : HH s0 h0) (hf : f_X11_aimed s0 a0 a1 a2 = some (r9, s9)) : AM mX11_aimed (3) [.ref 8, .int a0, .int a1, .int a2] h0 0 0 (PI fun r' h' => r9 = r' ∧ HH s9 h' ∧ Mo s0 s9) := by
  unfold f_X11_aimed at hf
  refine am_of (lv := [some (.ref 8), some (.int a0), some (.int a1), some (.int a2), none]) rfl (Nat.le_of_ble_eq_true rfl) rfl ?_
  refine aw_iload_n (pc' := 1) dX11_aimed_0 rfl rfl ?_
  refine aw_iconst (v := 1) (pc' := 2) dX11_aimed_1 rfl ic_1 ?_
  refine aw_clt (tgt := 37) (pc' := 5) dX11_aimed_2 rfl rfl (fun c1 => ?_) (fun c1 => ?_)
  · replace hf := ifp c1 hf
    refine aw_iconst (v := (-1)) (pc' := 38) dX11_aimed_37 rfl ic_m1 ?_
    obtain ⟨rfl, rfl⟩ := so2 hf
    exact aw_ri dX11_aimed_38 rfl rfl (Nat.le_of_ble_eq_true rfl) (Nat.le_of_ble_eq_true rfl) ⟨rfl, H0, (Mo.rf _)⟩
  · replace hf := ifn c1 hf
    refine aw_iload_n (pc' := 6) dX11_aimed_5 rfl rfl ?_
    refine aw_iconst (v := 4) (pc' := 7) dX11_aimed_6 rfl ic_4 ?_
    refine aw_cgt (tgt := 37) (pc' := 10) dX11_aimed_7 rfl rfl (fun c2 => ?_) (fun c2 => ?_)
    · replace hf := ifp c2 hf
      refine aw_iconst (v := (-1)) (pc' := 38) dX11_aimed_37 rfl ic_m1 ?_
      obtain ⟨rfl, rfl⟩ := so2 hf
      exact aw_ri dX11_aimed_38 rfl rfl (Nat.le_of_ble_eq_true rfl) (Nat.le_of_ble_eq_true rfl) ⟨rfl, H0, (Mo.rf _)⟩
    · replace hf := ifn c2 hf
      refine aw_iload_n (pc' := 11) dX11_aimed_10 rfl rfl ?_
      obtain ⟨r3, ec3, hf⟩ := b1_e hf
      refine aw_callSi (M' := mX11_isYard) (nc' := 0) (ns' := 0) (pc' := 14) dX11_aimed_11 rfl ml_RX11_122 kX11_isYard (t_X11_isYard ec3) rfl rfl (Nat.le_of_ble_eq_true rfl) (rokD (by omega) (Nat.le_of_ble_eq_true rfl) (Nat.le_of_ble_eq_true rfl) (Nat.le_of_ble_eq_true rfl)) rfl rfl (fun _ h3 q3 => ?_)
      obtain ⟨rfl, rfl, zb3⟩ := q3
      refine aw_if_eq (tgt := 37) (pc' := 17) dX11_aimed_14 rfl rfl (fun c4 => ?_) (fun c4 => ?_)
      · replace hf := ifp c4 hf
        refine aw_iconst (v := (-1)) (pc' := 38) dX11_aimed_37 rfl ic_m1 ?_
        obtain ⟨rfl, rfl⟩ := so2 hf
        exact aw_ri dX11_aimed_38 rfl rfl (Nat.le_of_ble_eq_true rfl) (Nat.le_of_ble_eq_true rfl) ⟨rfl, H0, (Mo.rf _)⟩
      · replace hf := ifn c4 hf
        refine aw_iload_n (pc' := 18) dX11_aimed_17 rfl rfl ?_
        refine aw_iconst (v := 1) (pc' := 19) dX11_aimed_18 rfl ic_1 ?_
        refine aw_clt (tgt := 37) (pc' := 22) dX11_aimed_19 rfl rfl (fun c5 => ?_) (fun c5 => ?_)
        · replace hf := ifp c5 hf
          refine aw_iconst (v := (-1)) (pc' := 38) dX11_aimed_37 rfl ic_m1 ?_
          obtain ⟨rfl, rfl⟩ := so2 hf
          exact aw_ri dX11_aimed_38 rfl rfl (Nat.le_of_ble_eq_true rfl) (Nat.le_of_ble_eq_true rfl) ⟨rfl, H0, (Mo.rf _)⟩
        · replace hf := ifn c5 hf
          refine aw_iload_n (pc' := 23) dX11_aimed_22 rfl rfl ?_
          refine aw_iconst (v := 2) (pc' := 24) dX11_aimed_23 rfl ic_2 ?_
          refine aw_cgt (tgt := 37) (pc' := 27) dX11_aimed_24 rfl rfl (fun c6 => ?_) (fun c6 => ?_)
          · replace hf := ifp c6 hf
            refine aw_iconst (v := (-1)) (pc' := 38) dX11_aimed_37 rfl ic_m1 ?_
            obtain ⟨rfl, rfl⟩ := so2 hf
            exact aw_ri dX11_aimed_38 rfl rfl (Nat.le_of_ble_eq_true rfl) (Nat.le_of_ble_eq_true rfl) ⟨rfl, H0, (Mo.rf _)⟩
          · replace hf := ifn c6 hf
            refine aw_aload_n (pc' := 28) dX11_aimed_27 rfl rfl rfl ?_
            refine aw_gr (q := 0) (e := 69) (v := .ref 42) (pc' := 31) H0 (H0.fo rfl rfl) (l13 rfl) rfl rfl dX11_aimed_28 rfl fl_RX11_83 ?_
            refine aw_gi (q := 34) (pc' := 34) H0 (H0.fo rfl rfl) (l13 rfl) rfl dX11_aimed_31 rfl fl_RX11_353 ?_
            refine aw_if_ne (tgt := 39) (pc' := 37) dX11_aimed_34 rfl rfl (fun c7 => ?_) (fun c7 => ?_)
            · replace hf := ifn c7 hf
              refine aw_iload_n (pc' := 40) dX11_aimed_39 rfl rfl ?_
              refine aw_iconst (v := 2) (pc' := 41) dX11_aimed_40 rfl ic_2 ?_
              obtain ⟨k8, ek8, hf⟩ := jn_e hf
              have hk8 : k8 = some (r9, s9) → AW mX11_aimed (rmD (3) 0 0) (fin (PI fun r' h' => r9 = r' ∧ HH s9 h' ∧ Mo s0 s9) 0 0) 58 [some (.ref 8), some (.int a0), some (.int a1), some (.int a2), none] [] h0 0 0 := by
                intro hf
                subst ek8
                refine aw_aload_n (pc' := 59) dX11_aimed_58 rfl rfl rfl ?_
                refine aw_gr (q := 0) (e := 69) (v := .ref 42) (pc' := 62) H0 (H0.fo rfl rfl) (l13 rfl) rfl rfl dX11_aimed_59 rfl fl_RX11_83 ?_
                refine aw_iload_n (pc' := 63) dX11_aimed_62 rfl rfl ?_
                refine aw_iload_n (pc' := 64) dX11_aimed_63 rfl rfl ?_
                obtain ⟨s10, ec10, hf⟩ := b1_e hf
                refine aw_callVv (M' := mX6_weighPlaces) (nc' := 0) (ns' := 0) (pc' := 67) dX11_aimed_64 rfl ml_RX11_356 kX6_weighPlaces (t_X6_weighPlaces H0 ec10) (H0.ob (H0.fo rfl rfl) (by decide)) rfl rfl rfl (Nat.le_of_ble_eq_true rfl) (rokD (by omega) (Nat.le_of_ble_eq_true rfl) (Nat.le_of_ble_eq_true rfl) (Nat.le_of_ble_eq_true rfl)) rfl rfl (fun h10 q10 => ?_)
                obtain ⟨H10, m10⟩ := q10
                refine aw_iload_n (pc' := 68) dX11_aimed_67 rfl rfl ?_
                refine aw_iconst (v := 1) (pc' := 69) dX11_aimed_68 rfl ic_1 ?_
                obtain ⟨k11, ek11, hf⟩ := jn_e hf
                have hk11 : ∀ (s11 : SS) (h11 : List aE) (t11_0 : Int32), HH s11 h11 → Mo s10 s11 → k11 s11 t11_0 = some (r9, s9) → AW mX11_aimed (rmD (3) 0 0) (fin (PI fun r' h' => r9 = r' ∧ HH s9 h' ∧ Mo s0 s9) 0 0) 97 [some (.ref 8), none, none, none, none] [.int t11_0] h11 0 0 := by
                  intro s11 h11 t11_0 H11 m11 hf
                  subst ek11
                  refine aw_istore (lv' := [_, _, _, _, _]) (pc' := 99) dX11_aimed_97 rfl (Nat.le_of_ble_eq_true rfl) rfl ?_
                  refine aw_aload_n (pc' := 100) dX11_aimed_99 rfl rfl rfl ?_
                  refine aw_gr (q := 0) (e := 69) (v := .ref 42) (pc' := 103) H11 (H11.fo rfl rfl) (l13 rfl) rfl rfl dX11_aimed_100 rfl fl_RX11_83 ?_
                  refine aw_iconst (v := 0) (pc' := 104) dX11_aimed_103 rfl ic_0 ?_
                  obtain ⟨s12, es12, hf⟩ := st_e hf
                  refine aw_pi (q := 34) (pc' := 107) es12 H11 (H11.fo rfl rfl) (by decide) rfl dX11_aimed_104 rfl fl_RX11_353 rfl (fun h12 H12 => ?_)
                  have m12 := Mo.ofS es12
                  refine aw_iload (pc' := 109) dX11_aimed_107 rfl rfl ?_
                  obtain ⟨rfl, rfl⟩ := so2 hf
                  exact aw_ri dX11_aimed_109 rfl rfl (Nat.le_of_ble_eq_true rfl) (Nat.le_of_ble_eq_true rfl) ⟨rfl, H12, ((m10.tr m11).tr m12)⟩
                clear ek11
                refine aw_icmp_ne (tgt := 86) (pc' := 72) dX11_aimed_69 rfl rfl (fun c13 => ?_) (fun c13 => ?_)
                · replace hf := ifn c13 hf
                  refine aw_aload_n (pc' := 87) dX11_aimed_86 rfl rfl rfl ?_
                  refine aw_gr (q := 0) (e := 69) (v := .ref 42) (pc' := 90) H10 (H10.fo rfl rfl) (l13 rfl) rfl rfl dX11_aimed_87 rfl fl_RX11_83 ?_
                  refine aw_aload_n (pc' := 91) dX11_aimed_90 rfl rfl rfl ?_
                  refine aw_gr (q := 0) (e := 39) (v := .ref 27) (pc' := 94) H10 (H10.fo rfl rfl) (l13 rfl) rfl rfl dX11_aimed_91 rfl fl_RX11_34 ?_
                  obtain ⟨r14, s14, ec14, hf⟩ := bd_e hf
                  refine aw_callVi (M' := mX6_soonestTwo) (nc' := 0) (ns' := 0) (pc' := 97) dX11_aimed_94 rfl ml_RX11_363 kX6_soonestTwo (t_X6_soonestTwo H10 ec14) (H10.ob (H10.fo rfl rfl) (by decide)) rfl rfl rfl (Nat.le_of_ble_eq_true rfl) (rokD (by omega) (Nat.le_of_ble_eq_true rfl) (Nat.le_of_ble_eq_true rfl) (Nat.le_of_ble_eq_true rfl)) rfl rfl (fun _ h14 q14 => ?_)
                  obtain ⟨rfl, H14, m14⟩ := q14
                  refine AW.lv_le (lz_k (lz_d (lz_d (lz_d (lz_d lz_0))))) ?_
                  exact hk11 _ _ _ H14 m14 hf
                · replace hf := ifp c13 hf
                  refine aw_aload_n (pc' := 73) dX11_aimed_72 rfl rfl rfl ?_
                  refine aw_gr (q := 0) (e := 69) (v := .ref 42) (pc' := 76) H10 (H10.fo rfl rfl) (l13 rfl) rfl rfl dX11_aimed_73 rfl fl_RX11_83 ?_
                  refine aw_aload_n (pc' := 77) dX11_aimed_76 rfl rfl rfl ?_
                  refine aw_gr (q := 0) (e := 39) (v := .ref 27) (pc' := 80) H10 (H10.fo rfl rfl) (l13 rfl) rfl rfl dX11_aimed_77 rfl fl_RX11_34 ?_
                  obtain ⟨r15, s15, ec15, hf⟩ := bd_e hf
                  refine aw_callVi (M' := mX6_soonestOne) (nc' := 0) (ns' := 0) (pc' := 83) dX11_aimed_80 rfl ml_RX11_359 kX6_soonestOne (t_X6_soonestOne H10 ec15) (H10.ob (H10.fo rfl rfl) (by decide)) rfl rfl rfl (Nat.le_of_ble_eq_true rfl) (rokD (by omega) (Nat.le_of_ble_eq_true rfl) (Nat.le_of_ble_eq_true rfl) (Nat.le_of_ble_eq_true rfl)) rfl rfl (fun _ h15 q15 => ?_)
                  obtain ⟨rfl, H15, m15⟩ := q15
                  refine aw_goto (tgt := 97) dX11_aimed_83 rfl ?_
                  refine AW.lv_le (lz_k (lz_d (lz_d (lz_d (lz_d lz_0))))) ?_
                  exact hk11 _ _ _ H15 m15 hf
              clear ek8
              refine aw_icmp_ne (tgt := 58) (pc' := 44) dX11_aimed_41 rfl rfl (fun c16 => ?_) (fun c16 => ?_)
              · replace hf := ifn c16 hf
                exact hk8  hf
              · replace hf := ifp c16 hf
                refine aw_aload_n (pc' := 45) dX11_aimed_44 rfl rfl rfl ?_
                refine aw_gr (q := 0) (e := 69) (v := .ref 42) (pc' := 48) H0 (H0.fo rfl rfl) (l13 rfl) rfl rfl dX11_aimed_45 rfl fl_RX11_83 ?_
                refine aw_gi (q := 34) (pc' := 51) H0 (H0.fo rfl rfl) (l13 rfl) rfl dX11_aimed_48 rfl fl_RX11_353 ?_
                refine aw_iconst (v := 2) (pc' := 52) dX11_aimed_51 rfl ic_2 ?_
                refine aw_cge (tgt := 58) (pc' := 55) dX11_aimed_52 rfl rfl (fun c17 => ?_) (fun c17 => ?_)
                · replace hf := ifn c17 hf
                  exact hk8  hf
                · replace hf := ifp c17 hf
                  refine aw_bipush (v := (-2)) (pc' := 57) dX11_aimed_55 rfl bp_m2 ?_
                  obtain ⟨rfl, rfl⟩ := so2 hf
                  exact aw_ri dX11_aimed_57 rfl rfl (Nat.le_of_ble_eq_true rfl) (Nat.le_of_ble_eq_true rfl) ⟨rfl, H0, (Mo.rf _)⟩
            · replace hf := ifp c7 hf
              refine aw_iconst (v := (-1)) (pc' := 38) dX11_aimed_37 rfl ic_m1 ?_
              obtain ⟨rfl, rfl⟩ := so2 hf
              exact aw_ri dX11_aimed_38 rfl rfl (Nat.le_of_ble_eq_true rfl) (Nat.le_of_ble_eq_true rfl) ⟨rfl, H0, (Mo.rf _)⟩
/-! ThirtyThreeBelow.aimedAt -/
noncomputable def f_X11_aimedAt (s0 : SS) (a0 : Int32) (a1 : Int32) : Option Int32 := (if a0 < (0 : Int32) then some (-1) else (if a0 < (zS s0 34 14) then (if a1 < (0 : Int32) then some (-1) else (if (1 : Int32) < a1 then some (-1) else (if a1 = (0 : Int32) then (gd (inB a0 2) (some (zI s0 44 (a0.toInt.toNat)))) else (gd (inB a0 2) (some (zI s0 45 (a0.toInt.toNat))))))) else some (-1)))
set_option maxRecDepth 4000 in
theorem t_X11_aimedAt {r9 : Int32} {s0 : SS} {h0 : List aE} {a0 : Int32} {a1 : Int32} (H0 : HH s0 h0) (hf : f_X11_aimedAt s0 a0 a1 = some r9) : AM mX11_aimedAt (0) [.ref 8, .int a0, .int a1] h0 0 0 (PI fun r' h' => r9 = r' ∧ h0 = h') := by
  unfold f_X11_aimedAt at hf
  refine am_of (lv := [some (.ref 8), some (.int a0), some (.int a1)]) rfl (Nat.le_of_ble_eq_true rfl) rfl ?_
  refine aw_iload_n (pc' := 1) dX11_aimedAt_0 rfl rfl ?_
  refine aw_zlt (tgt := 24) (pc' := 4) dX11_aimedAt_1 rfl rfl (fun c1 => ?_) (fun c1 => ?_)
  · replace hf := ifp c1 hf
    refine aw_iconst (v := (-1)) (pc' := 25) dX11_aimedAt_24 rfl ic_m1 ?_
    obtain rfl := Option.some.inj hf
    exact aw_ri dX11_aimedAt_25 rfl rfl (Nat.le_of_ble_eq_true rfl) (Nat.le_of_ble_eq_true rfl) ⟨rfl, rfl⟩
  · replace hf := ifn c1 hf
    refine aw_iload_n (pc' := 5) dX11_aimedAt_4 rfl rfl ?_
    refine aw_aload_n (pc' := 6) dX11_aimedAt_5 rfl rfl rfl ?_
    refine aw_gr (q := 0) (e := 69) (v := .ref 42) (pc' := 9) H0 (H0.fo rfl rfl) (l13 rfl) rfl rfl dX11_aimedAt_6 rfl fl_RX11_83 ?_
    refine aw_gi (q := 34) (pc' := 12) H0 (H0.fo rfl rfl) (l13 rfl) rfl dX11_aimedAt_9 rfl fl_RX11_366 ?_
    refine aw_cge (tgt := 24) (pc' := 15) dX11_aimedAt_12 rfl rfl (fun c2 => ?_) (fun c2 => ?_)
    · replace hf := ifn c2 hf
      refine aw_iconst (v := (-1)) (pc' := 25) dX11_aimedAt_24 rfl ic_m1 ?_
      obtain rfl := Option.some.inj hf
      exact aw_ri dX11_aimedAt_25 rfl rfl (Nat.le_of_ble_eq_true rfl) (Nat.le_of_ble_eq_true rfl) ⟨rfl, rfl⟩
    · replace hf := ifp c2 hf
      refine aw_iload_n (pc' := 16) dX11_aimedAt_15 rfl rfl ?_
      refine aw_zlt (tgt := 24) (pc' := 19) dX11_aimedAt_16 rfl rfl (fun c3 => ?_) (fun c3 => ?_)
      · replace hf := ifp c3 hf
        refine aw_iconst (v := (-1)) (pc' := 25) dX11_aimedAt_24 rfl ic_m1 ?_
        obtain rfl := Option.some.inj hf
        exact aw_ri dX11_aimedAt_25 rfl rfl (Nat.le_of_ble_eq_true rfl) (Nat.le_of_ble_eq_true rfl) ⟨rfl, rfl⟩
      · replace hf := ifn c3 hf
        refine aw_iload_n (pc' := 20) dX11_aimedAt_19 rfl rfl ?_
        refine aw_iconst (v := 1) (pc' := 21) dX11_aimedAt_20 rfl ic_1 ?_
        refine aw_cle (tgt := 26) (pc' := 24) dX11_aimedAt_21 rfl rfl (fun c4 => ?_) (fun c4 => ?_)
        · replace hf := ifn c4 hf
          refine aw_iload_n (pc' := 27) dX11_aimedAt_26 rfl rfl ?_
          refine aw_if_ne (tgt := 42) (pc' := 30) dX11_aimedAt_27 rfl rfl (fun c5 => ?_) (fun c5 => ?_)
          · replace hf := ifn c5 hf
            refine aw_aload_n (pc' := 43) dX11_aimedAt_42 rfl rfl rfl ?_
            refine aw_gr (q := 0) (e := 69) (v := .ref 42) (pc' := 46) H0 (H0.fo rfl rfl) (l13 rfl) rfl rfl dX11_aimedAt_43 rfl fl_RX11_83 ?_
            refine aw_gr (q := 34) (e := 23) (v := .ref 53) (pc' := 49) H0 (H0.fo rfl rfl) (l13 rfl) rfl rfl dX11_aimedAt_46 rfl fl_RX11_372 ?_
            refine aw_iload_n (pc' := 50) dX11_aimedAt_49 rfl rfl ?_
            obtain ⟨g6, hf⟩ := gd_e hf
            refine aw_ia (q := 45) (pc' := 51) H0 (H0.fa rfl rfl rfl) g6 dX11_aimedAt_50 rfl ?_
            obtain rfl := Option.some.inj hf
            exact aw_ri dX11_aimedAt_51 rfl rfl (Nat.le_of_ble_eq_true rfl) (Nat.le_of_ble_eq_true rfl) ⟨rfl, rfl⟩
          · replace hf := ifp c5 hf
            refine aw_aload_n (pc' := 31) dX11_aimedAt_30 rfl rfl rfl ?_
            refine aw_gr (q := 0) (e := 69) (v := .ref 42) (pc' := 34) H0 (H0.fo rfl rfl) (l13 rfl) rfl rfl dX11_aimedAt_31 rfl fl_RX11_83 ?_
            refine aw_gr (q := 34) (e := 21) (v := .ref 52) (pc' := 37) H0 (H0.fo rfl rfl) (l13 rfl) rfl rfl dX11_aimedAt_34 rfl fl_RX11_369 ?_
            refine aw_iload_n (pc' := 38) dX11_aimedAt_37 rfl rfl ?_
            obtain ⟨g7, hf⟩ := gd_e hf
            refine aw_ia (q := 44) (pc' := 39) H0 (H0.fa rfl rfl rfl) g7 dX11_aimedAt_38 rfl ?_
            refine aw_goto (tgt := 51) dX11_aimedAt_39 rfl ?_
            obtain rfl := Option.some.inj hf
            exact aw_ri dX11_aimedAt_51 rfl rfl (Nat.le_of_ble_eq_true rfl) (Nat.le_of_ble_eq_true rfl) ⟨rfl, rfl⟩
        · replace hf := ifp c4 hf
          refine aw_iconst (v := (-1)) (pc' := 25) dX11_aimedAt_24 rfl ic_m1 ?_
          obtain rfl := Option.some.inj hf
          exact aw_ri dX11_aimedAt_25 rfl rfl (Nat.le_of_ble_eq_true rfl) (Nat.le_of_ble_eq_true rfl) ⟨rfl, rfl⟩
/-! ThirtyThreeBelow.race -/
noncomputable def f_X11_race (s0 : SS) (a0 : Int32) (a1 : Int32) (a2 : Int32) : Option Int32 := (b1 (f_X11_machineOf s0 a0) fun r1 => (on r1 (some (-1)) fun p1 => (b1 (f_X11_isYard a1) fun r2 => (if r2 = (0 : Int32) then some (-1) else (if a2 < (1 : Int32) then some (-1) else (if (9 : Int32) < a2 then some (-1) else (b1 (f_X0_holeOf s0 (zS s0 p1 1)) fun r6 => (on r6 (some (-2)) fun p6 => (if (zS s0 p6 6) = (0 : Int32) then (if (zS s0 p6 4) < a1 then (b1 (f_J9_max_7cf53 (1 : Int32) ((((a1 - (zS s0 p6 4)) * (zS s0 p1 0)) * a2) - (zS s0 p6 5))) fun r10 => (b1 (f_J9_max_7cf53 (zS s0 0 14) (zS s0 p1 2)) fun r11 => (b1 (f_J9_min_7cf53 (9999 : Int32) (r11 + ((r10 + (59 : Int32)) / (60 : Int32)))) fun r12 => some r12))) else some (-2)) else some (-2))))))))))
set_option maxRecDepth 4000 in
theorem t_X11_race {r9 : Int32} {s0 : SS} {h0 : List aE} {a0 : Int32} {a1 : Int32} {a2 : Int32} (H0 : HH s0 h0) (hf : f_X11_race s0 a0 a1 a2 = some r9) : AM mX11_race (1) [.ref 8, .int a0, .int a1, .int a2] h0 0 0 (PI fun r' h' => r9 = r' ∧ h0 = h') := by
  unfold f_X11_race at hf
  refine am_of (lv := [some (.ref 8), some (.int a0), some (.int a1), some (.int a2), none, none, none]) rfl (Nat.le_of_ble_eq_true rfl) rfl ?_
  refine aw_aload_n (pc' := 1) dX11_race_0 rfl rfl rfl ?_
  refine aw_iload_n (pc' := 2) dX11_race_1 rfl rfl ?_
  obtain ⟨r1, ec1, hf⟩ := b1_e hf
  replace hf := on_e hf
  rcases hf with ⟨rfl, hf⟩ | ⟨p1, rfl, hf⟩
  · refine aw_callVa (M' := mX11_machineOf) (nc' := 0) (ns' := 0) (pc' := 5) dX11_race_2 rfl ml_RX11_158 kX11_machineOf (t_X11_machineOf H0 ec1) (H0.ob (H0.fo rfl rfl) (by decide)) rfl rfl rfl (Nat.le_of_ble_eq_true rfl) (rokD (by omega) (Nat.le_of_ble_eq_true rfl) (Nat.le_of_ble_eq_true rfl) (Nat.le_of_ble_eq_true rfl)) rfl rfl (fun _ h1 q1 => ?_)
    obtain ⟨rfl, rfl, oo1⟩ := q1
    show AW _ _ _ _ _ (Value.null :: _) _ _ _
    refine aw_astore (lv' := [_, _, _, _, _, _, _]) (pc' := 7) dX11_race_5 rfl (Nat.le_of_ble_eq_true rfl) rfl rfl ?_
    refine aw_aload (pc' := 9) dX11_race_7 rfl rfl rfl ?_
    refine aw_ifnull_n (tgt := 30) dX11_race_9 (by decide) ?_
    refine aw_iconst (v := (-1)) (pc' := 31) dX11_race_30 rfl ic_m1 ?_
    obtain rfl := Option.some.inj hf
    exact aw_ri dX11_race_31 rfl rfl (Nat.le_of_ble_eq_true rfl) (Nat.le_of_ble_eq_true rfl) ⟨rfl, rfl⟩
  · refine aw_callVa (M' := mX11_machineOf) (nc' := 0) (ns' := 0) (pc' := 5) dX11_race_2 rfl ml_RX11_158 kX11_machineOf (t_X11_machineOf H0 ec1) (H0.ob (H0.fo rfl rfl) (by decide)) rfl rfl rfl (Nat.le_of_ble_eq_true rfl) (rokD (by omega) (Nat.le_of_ble_eq_true rfl) (Nat.le_of_ble_eq_true rfl) (Nat.le_of_ble_eq_true rfl)) rfl rfl (fun _ h1 q1 => ?_)
    obtain ⟨rfl, rfl, oo1⟩ := q1
    show AW _ _ _ _ _ (Value.ref (p1 + 8) :: _) _ _ _
    have o_p1 : okM p1 := oo1 _ rfl
    refine aw_astore (lv' := [_, _, _, _, _, _, _]) (pc' := 7) dX11_race_5 rfl (Nat.le_of_ble_eq_true rfl) rfl rfl ?_
    refine aw_aload (pc' := 9) dX11_race_7 rfl rfl rfl ?_
    refine aw_ifnull_r (pc' := 12) dX11_race_9 rfl ?_
    refine aw_iload_n (pc' := 13) dX11_race_12 rfl rfl ?_
    obtain ⟨r2, ec2, hf⟩ := b1_e hf
    refine aw_callSi (M' := mX11_isYard) (nc' := 0) (ns' := 0) (pc' := 16) dX11_race_13 rfl ml_RX11_122 kX11_isYard (t_X11_isYard ec2) rfl rfl (Nat.le_of_ble_eq_true rfl) (rokD (by omega) (Nat.le_of_ble_eq_true rfl) (Nat.le_of_ble_eq_true rfl) (Nat.le_of_ble_eq_true rfl)) rfl rfl (fun _ h2 q2 => ?_)
    obtain ⟨rfl, rfl, zb2⟩ := q2
    refine aw_if_eq (tgt := 30) (pc' := 19) dX11_race_16 rfl rfl (fun c3 => ?_) (fun c3 => ?_)
    · replace hf := ifp c3 hf
      refine aw_iconst (v := (-1)) (pc' := 31) dX11_race_30 rfl ic_m1 ?_
      obtain rfl := Option.some.inj hf
      exact aw_ri dX11_race_31 rfl rfl (Nat.le_of_ble_eq_true rfl) (Nat.le_of_ble_eq_true rfl) ⟨rfl, rfl⟩
    · replace hf := ifn c3 hf
      refine aw_iload_n (pc' := 20) dX11_race_19 rfl rfl ?_
      refine aw_iconst (v := 1) (pc' := 21) dX11_race_20 rfl ic_1 ?_
      refine aw_clt (tgt := 30) (pc' := 24) dX11_race_21 rfl rfl (fun c4 => ?_) (fun c4 => ?_)
      · replace hf := ifp c4 hf
        refine aw_iconst (v := (-1)) (pc' := 31) dX11_race_30 rfl ic_m1 ?_
        obtain rfl := Option.some.inj hf
        exact aw_ri dX11_race_31 rfl rfl (Nat.le_of_ble_eq_true rfl) (Nat.le_of_ble_eq_true rfl) ⟨rfl, rfl⟩
      · replace hf := ifn c4 hf
        refine aw_iload_n (pc' := 25) dX11_race_24 rfl rfl ?_
        refine aw_bipush (v := 9) (pc' := 27) dX11_race_25 rfl bp_9 ?_
        refine aw_cle (tgt := 32) (pc' := 30) dX11_race_27 rfl rfl (fun c5 => ?_) (fun c5 => ?_)
        · replace hf := ifn c5 hf
          refine aw_aload_n (pc' := 33) dX11_race_32 rfl rfl rfl ?_
          refine aw_gr (q := 0) (e := 31) (v := .ref 23) (pc' := 36) H0 (H0.fo rfl rfl) (l13 rfl) rfl rfl dX11_race_33 rfl fl_RX11_28 ?_
          refine aw_aload (pc' := 38) dX11_race_36 rfl rfl rfl ?_
          refine aw_gi (q := p1) (pc' := 41) H0 (okM.ob o_p1 H0) (by decide) rfl dX11_race_38 rfl fl_RX11_165 ?_
          obtain ⟨r6, ec6, hf⟩ := b1_e hf
          replace hf := on_e hf
          rcases hf with ⟨rfl, hf⟩ | ⟨p6, rfl, hf⟩
          · refine aw_callVa (M' := mX0_holeOf) (nc' := 0) (ns' := 0) (pc' := 44) dX11_race_41 rfl ml_RX11_139 kX0_holeOf (t_X0_holeOf H0 ec6) (H0.ob (H0.fo rfl rfl) (by decide)) rfl rfl rfl (Nat.le_of_ble_eq_true rfl) (rokD (by omega) (Nat.le_of_ble_eq_true rfl) (Nat.le_of_ble_eq_true rfl) (Nat.le_of_ble_eq_true rfl)) rfl rfl (fun _ h6 q6 => ?_)
            obtain ⟨rfl, rfl, oo6⟩ := q6
            show AW _ _ _ _ _ (Value.null :: _) _ _ _
            refine aw_astore (lv' := [_, _, _, _, _, _, _]) (pc' := 46) dX11_race_44 rfl (Nat.le_of_ble_eq_true rfl) rfl rfl ?_
            refine aw_aload (pc' := 48) dX11_race_46 rfl rfl rfl ?_
            refine aw_ifnull_n (tgt := 68) dX11_race_48 (by decide) ?_
            refine aw_bipush (v := (-2)) (pc' := 70) dX11_race_68 rfl bp_m2 ?_
            obtain rfl := Option.some.inj hf
            exact aw_ri dX11_race_70 rfl rfl (Nat.le_of_ble_eq_true rfl) (Nat.le_of_ble_eq_true rfl) ⟨rfl, rfl⟩
          · refine aw_callVa (M' := mX0_holeOf) (nc' := 0) (ns' := 0) (pc' := 44) dX11_race_41 rfl ml_RX11_139 kX0_holeOf (t_X0_holeOf H0 ec6) (H0.ob (H0.fo rfl rfl) (by decide)) rfl rfl rfl (Nat.le_of_ble_eq_true rfl) (rokD (by omega) (Nat.le_of_ble_eq_true rfl) (Nat.le_of_ble_eq_true rfl) (Nat.le_of_ble_eq_true rfl)) rfl rfl (fun _ h6 q6 => ?_)
            obtain ⟨rfl, rfl, oo6⟩ := q6
            show AW _ _ _ _ _ (Value.ref (p6 + 8) :: _) _ _ _
            have o_p6 : okH s0 p6 := oo6 _ rfl
            refine aw_astore (lv' := [_, _, _, _, _, _, _]) (pc' := 46) dX11_race_44 rfl (Nat.le_of_ble_eq_true rfl) rfl rfl ?_
            refine aw_aload (pc' := 48) dX11_race_46 rfl rfl rfl ?_
            refine aw_ifnull_r (pc' := 51) dX11_race_48 rfl ?_
            refine aw_aload (pc' := 53) dX11_race_51 rfl rfl rfl ?_
            refine aw_gi (q := p6) (pc' := 56) H0 (okH.ob o_p6) (by decide) rfl dX11_race_53 rfl fl_RX11_174 ?_
            refine aw_if_ne (tgt := 68) (pc' := 59) dX11_race_56 rfl rfl (fun c7 => ?_) (fun c7 => ?_)
            · replace hf := ifn c7 hf
              refine aw_bipush (v := (-2)) (pc' := 70) dX11_race_68 rfl bp_m2 ?_
              obtain rfl := Option.some.inj hf
              exact aw_ri dX11_race_70 rfl rfl (Nat.le_of_ble_eq_true rfl) (Nat.le_of_ble_eq_true rfl) ⟨rfl, rfl⟩
            · replace hf := ifp c7 hf
              refine aw_aload (pc' := 61) dX11_race_59 rfl rfl rfl ?_
              refine aw_gi (q := p6) (pc' := 64) H0 (okH.ob o_p6) (by decide) rfl dX11_race_61 rfl fl_RX11_184 ?_
              refine aw_iload_n (pc' := 65) dX11_race_64 rfl rfl ?_
              refine aw_clt (tgt := 71) (pc' := 68) dX11_race_65 rfl rfl (fun c8 => ?_) (fun c8 => ?_)
              · replace hf := ifp c8 hf
                refine aw_iconst (v := 1) (pc' := 72) dX11_race_71 rfl ic_1 ?_
                refine aw_iload_n (pc' := 73) dX11_race_72 rfl rfl ?_
                refine aw_aload (pc' := 75) dX11_race_73 rfl rfl rfl ?_
                refine aw_gi (q := p6) (pc' := 78) H0 (okH.ob o_p6) (by decide) rfl dX11_race_75 rfl fl_RX11_184 ?_
                refine aw_isub (pc' := 79) dX11_race_78 rfl ?_
                refine aw_aload (pc' := 81) dX11_race_79 rfl rfl rfl ?_
                refine aw_gi (q := p1) (pc' := 84) H0 (okM.ob o_p1 H0) (by decide) rfl dX11_race_81 rfl fl_RX11_162 ?_
                refine aw_imul (pc' := 85) dX11_race_84 rfl ?_
                refine aw_iload_n (pc' := 86) dX11_race_85 rfl rfl ?_
                refine aw_imul (pc' := 87) dX11_race_86 rfl ?_
                refine aw_aload (pc' := 89) dX11_race_87 rfl rfl rfl ?_
                refine aw_gi (q := p6) (pc' := 92) H0 (okH.ob o_p6) (by decide) rfl dX11_race_89 rfl fl_RX11_375 ?_
                refine aw_isub (pc' := 93) dX11_race_92 rfl ?_
                obtain ⟨r10, ec10, hf⟩ := b1_e hf
                refine aw_callSi (M' := mJ9_max_7cf53) (nc' := 0) (ns' := 0) (pc' := 96) dX11_race_93 rfl ml_RX11_247 kJ9_max_7cf53 (t_J9_max_7cf53 ec10) rfl rfl (Nat.le_of_ble_eq_true rfl) (rokD (by omega) (Nat.le_of_ble_eq_true rfl) (Nat.le_of_ble_eq_true rfl) (Nat.le_of_ble_eq_true rfl)) rfl rfl (fun _ h10 q10 => ?_)
                obtain ⟨rfl, rfl⟩ := q10
                refine aw_istore (lv' := [_, _, _, _, _, _, _]) (pc' := 98) dX11_race_96 rfl (Nat.le_of_ble_eq_true rfl) rfl ?_
                refine aw_sipush (v := 9999) (pc' := 101) dX11_race_98 rfl sp_9999 ?_
                refine aw_aload_n (pc' := 102) dX11_race_101 rfl rfl rfl ?_
                refine aw_gi (q := 0) (pc' := 105) H0 (H0.fo rfl rfl) (l13 rfl) rfl dX11_race_102 rfl fl_RX11_168 ?_
                refine aw_aload (pc' := 107) dX11_race_105 rfl rfl rfl ?_
                refine aw_gi (q := p1) (pc' := 110) H0 (okM.ob o_p1 H0) (by decide) rfl dX11_race_107 rfl fl_RX11_171 ?_
                obtain ⟨r11, ec11, hf⟩ := b1_e hf
                refine aw_callSi (M' := mJ9_max_7cf53) (nc' := 0) (ns' := 0) (pc' := 113) dX11_race_110 rfl ml_RX11_247 kJ9_max_7cf53 (t_J9_max_7cf53 ec11) rfl rfl (Nat.le_of_ble_eq_true rfl) (rokD (by omega) (Nat.le_of_ble_eq_true rfl) (Nat.le_of_ble_eq_true rfl) (Nat.le_of_ble_eq_true rfl)) rfl rfl (fun _ h11 q11 => ?_)
                obtain ⟨rfl, rfl⟩ := q11
                refine aw_iload (pc' := 115) dX11_race_113 rfl rfl ?_
                refine aw_bipush (v := 59) (pc' := 117) dX11_race_115 rfl bp_59 ?_
                refine aw_iadd (pc' := 118) dX11_race_117 rfl ?_
                refine aw_bipush (v := 60) (pc' := 120) dX11_race_118 rfl bp_60 ?_
                refine aw_idiv (pc' := 121) dX11_race_120 rfl (by decide) ?_
                refine aw_iadd (pc' := 122) dX11_race_121 rfl ?_
                obtain ⟨r12, ec12, hf⟩ := b1_e hf
                refine aw_callSi (M' := mJ9_min_7cf53) (nc' := 0) (ns' := 0) (pc' := 125) dX11_race_122 rfl ml_RX11_255 kJ9_min_7cf53 (t_J9_min_7cf53 ec12) rfl rfl (Nat.le_of_ble_eq_true rfl) (rokD (by omega) (Nat.le_of_ble_eq_true rfl) (Nat.le_of_ble_eq_true rfl) (Nat.le_of_ble_eq_true rfl)) rfl rfl (fun _ h12 q12 => ?_)
                obtain ⟨rfl, rfl⟩ := q12
                obtain rfl := Option.some.inj hf
                exact aw_ri dX11_race_125 rfl rfl (Nat.le_of_ble_eq_true rfl) (Nat.le_of_ble_eq_true rfl) ⟨rfl, rfl⟩
              · replace hf := ifn c8 hf
                refine aw_bipush (v := (-2)) (pc' := 70) dX11_race_68 rfl bp_m2 ?_
                obtain rfl := Option.some.inj hf
                exact aw_ri dX11_race_70 rfl rfl (Nat.le_of_ble_eq_true rfl) (Nat.le_of_ble_eq_true rfl) ⟨rfl, rfl⟩
        · replace hf := ifp c5 hf
          refine aw_iconst (v := (-1)) (pc' := 31) dX11_race_30 rfl ic_m1 ?_
          obtain rfl := Option.some.inj hf
          exact aw_ri dX11_race_31 rfl rfl (Nat.le_of_ble_eq_true rfl) (Nat.le_of_ble_eq_true rfl) ⟨rfl, rfl⟩
/-! ThirtyThreeBelow.capsule -/
noncomputable def f_X11_capsule_L93_b (q0 : SS → Option (Int32 × SS)) (y4 : Int32) (rc : SS → Int32 → Option (Int32 × SS)) (s : SS) (x5 : Int32) : Option (Int32 × SS) := (if x5 < (zS s 15 3) then (gd (inB x5 120) (jn (fun (s12 : SS)  => (vl (x5 + 1) fun v13 => (rc s12 v13))) fun k12 => (if (zI s 10 (x5.toInt.toNat)) = (1 : Int32) then (bd (f_X11_given s y4 1 x5) fun r15 s15 => (b1 (f_X2_liftTakes s15 x5 r15) fun s16 => (k12 s16))) else (k12 s)))) else (q0 s))
noncomputable def f_X11_capsule_L93 (q0 : SS → Option (Int32 × SS)) (y4 : Int32) : Nat → SS → Int32 → Option (Int32 × SS)
  | 0, _, _ => none
  | n + 1, s, x5 => f_X11_capsule_L93_b q0 y4 (f_X11_capsule_L93 q0 y4 n) s x5
set_option maxRecDepth 4000 in
theorem t_X11_capsule_L93 {r9 : Int32} {s0 sb s9 : SS} {q0 : SS → Option (Int32 × SS)} {y4 : Int32} (mb : Mo s0 sb) (hq0 : ∀ (s : SS) (h : List aE), HH s h → Mo sb s → q0 s = some (r9, s9) → AW mX11_capsule (rmD (3) 0 0) (fin (PI fun r' h' => r9 = r' ∧ HH s9 h' ∧ Mo s0 s9) 0 0) 143 [some (.ref 8), none, none, none, none, none] [] h 0 0) : ∀ (n : Nat) (s : SS) (h : List aE) (x5 : Int32), HH s h → Mo sb s → f_X11_capsule_L93 q0 y4 n s x5 = some (r9, s9) → AW mX11_capsule (rmD (3) 0 0) (fin (PI fun r' h' => r9 = r' ∧ HH s9 h' ∧ Mo s0 s9) 0 0) 93 [some (.ref 8), none, none, none, some (.int y4), some (.int x5)] [] h 0 0 := by
  intro n
  induction n with
  | zero =>
    intro s h x5 H ms hf
    cases hf
  | succ n ih =>
    intro s h x5 H ms hf
    replace hf : f_X11_capsule_L93_b q0 y4 (f_X11_capsule_L93 q0 y4 n) s x5 = some (r9, s9) := hf
    unfold f_X11_capsule_L93_b at hf
    refine aw_iload (pc' := 95) dX11_capsule_93 rfl rfl ?_
    refine aw_aload_n (pc' := 96) dX11_capsule_95 rfl rfl rfl ?_
    refine aw_gr (q := 0) (e := 31) (v := .ref 23) (pc' := 99) H (H.fo rfl rfl) (by decide) rfl rfl dX11_capsule_96 rfl fl_RX11_28 ?_
    refine aw_gi (q := 15) (pc' := 102) H (H.fo rfl rfl) (by decide) rfl dX11_capsule_99 rfl fl_RX11_381 ?_
    refine aw_cge (tgt := 143) (pc' := 105) dX11_capsule_102 rfl rfl (fun c10 => ?_) (fun c10 => ?_)
    · replace hf := ifn c10 hf
      refine AW.lv_le (lz_k (lz_d (lz_d (lz_d (lz_d (lz_d lz_0)))))) ?_
      exact hq0 _ _ H ms hf
    · replace hf := ifp c10 hf
      refine aw_aload_n (pc' := 106) dX11_capsule_105 rfl rfl rfl ?_
      refine aw_gr (q := 0) (e := 13) (v := .ref 14) (pc' := 109) H (H.fo rfl rfl) (by decide) rfl rfl dX11_capsule_106 rfl fl_RX11_19 ?_
      refine aw_gr (q := 6) (e := 9) (v := .ref 18) (pc' := 112) H (H.fo rfl rfl) (by decide) rfl rfl dX11_capsule_109 rfl fl_RX11_384 ?_
      refine aw_iload (pc' := 114) dX11_capsule_112 rfl rfl ?_
      obtain ⟨g11, hf⟩ := gd_e hf
      refine aw_ia (q := 10) (pc' := 115) H (H.fa rfl rfl rfl) g11 dX11_capsule_114 rfl ?_
      refine aw_iconst (v := 1) (pc' := 116) dX11_capsule_115 rfl ic_1 ?_
      obtain ⟨k12, ek12, hf⟩ := jn_e hf
      have hk12 : ∀ (s12 : SS) (h12 : List aE), HH s12 h12 → Mo s s12 → k12 s12 = some (r9, s9) → AW mX11_capsule (rmD (3) 0 0) (fin (PI fun r' h' => r9 = r' ∧ HH s9 h' ∧ Mo s0 s9) 0 0) 137 [some (.ref 8), none, none, none, some (.int y4), some (.int x5)] [] h12 0 0 := by
        intro s12 h12 H12 m12 hf
        subst ek12
        obtain ⟨v13, ev13, hf⟩ := vl_e hf
        refine aw_iincV (y := v13) (lv' := [_, _, _, _, _, _]) (pc' := 140) dX11_capsule_137 rfl rfl (Nat.le_of_ble_eq_true rfl) ev13 rfl ?_
        refine aw_goto (tgt := 93) dX11_capsule_140 rfl ?_
        exact ih _ _ _ H12 (ms.tr m12) hf
      clear ek12
      refine aw_icmp_ne (tgt := 137) (pc' := 119) dX11_capsule_116 rfl rfl (fun c14 => ?_) (fun c14 => ?_)
      · replace hf := ifn c14 hf
        exact hk12 _ _ H (Mo.rf _) hf
      · replace hf := ifp c14 hf
        refine aw_aload_n (pc' := 120) dX11_capsule_119 rfl rfl rfl ?_
        refine aw_gr (q := 0) (e := 13) (v := .ref 14) (pc' := 123) H (H.fo rfl rfl) (by decide) rfl rfl dX11_capsule_120 rfl fl_RX11_19 ?_
        refine aw_iload (pc' := 125) dX11_capsule_123 rfl rfl ?_
        refine aw_aload_n (pc' := 126) dX11_capsule_125 rfl rfl rfl ?_
        refine aw_iload (pc' := 128) dX11_capsule_126 rfl rfl ?_
        refine aw_iconst (v := 1) (pc' := 129) dX11_capsule_128 rfl ic_1 ?_
        refine aw_iload (pc' := 131) dX11_capsule_129 rfl rfl ?_
        obtain ⟨r15, s15, ec15, hf⟩ := bd_e hf
        refine aw_callVi (M' := mX11_given) (nc' := 0) (ns' := 0) (pc' := 134) dX11_capsule_131 rfl ml_RX11_289 kX11_given (t_X11_given H ec15) (H.ob (H.fo rfl rfl) (by decide)) rfl rfl rfl (Nat.le_of_ble_eq_true rfl) (rokD (by omega) (Nat.le_of_ble_eq_true rfl) (Nat.le_of_ble_eq_true rfl) (Nat.le_of_ble_eq_true rfl)) rfl rfl (fun _ h15 q15 => ?_)
        obtain ⟨rfl, H15, m15⟩ := q15
        obtain ⟨s16, ec16, hf⟩ := b1_e hf
        refine aw_callVv (M' := mX2_liftTakes) (nc' := 0) (ns' := 0) (pc' := 137) dX11_capsule_134 rfl ml_RX11_387 kX2_liftTakes (t_X2_liftTakes H15 ec16) (H15.ob (H15.fo rfl rfl) (by decide)) rfl rfl rfl (Nat.le_of_ble_eq_true rfl) (rokD (by omega) (Nat.le_of_ble_eq_true rfl) (Nat.le_of_ble_eq_true rfl) (Nat.le_of_ble_eq_true rfl)) rfl rfl (fun h16 q16 => ?_)
        obtain ⟨H16, m16⟩ := q16
        exact hk12 _ _ H16 (m15.tr m16) hf
noncomputable def f_X11_capsule (s0 : SS) (a0 : Int32) : Option (Int32 × SS) := (b1 (f_X0_holeOf s0 a0) fun r1 => (on r1 (b1 (f_X0_kindOf s0 a0) fun r2 => some ((-1), s0)) fun p1 => (b1 (f_X0_kindOf s0 a0) fun r3 => (jn ((if (zS s0 p1 6) = (0 : Int32) then some ((-2), s0) else (if (zS s0 6 4) = (0 : Int32) then some ((-2), s0) else (b1 (f_X2_liftBegins s0 (zS s0 0 14) ((1 : Int32) + ((zS s0 p1 4) / (20 : Int32)))) fun s7 => (b1 (f_X11_latestText s7 0 1 (zS s7 0 14) (zS s7 0 14)) fun r8 => (f_X11_capsule_L93 (fun (s17 : SS)  => (b1 (f_X2_upAt s17 ((zS s17 6 10) - (1 : Int32))) fun r18 => some (r18, s17))) r8 4000 s7 0)))))) fun k4 => (if r3 = (4 : Int32) then k4 else (if r3 = (5 : Int32) then k4 else some ((-1), s0)))))))
set_option maxRecDepth 4000 in
theorem t_X11_capsule {r9 : Int32} {s0 s9 : SS} {h0 : List aE} {a0 : Int32} (H0 : HH s0 h0) (hf : f_X11_capsule s0 a0 = some (r9, s9)) : AM mX11_capsule (3) [.ref 8, .int a0] h0 0 0 (PI fun r' h' => r9 = r' ∧ HH s9 h' ∧ Mo s0 s9) := by
  unfold f_X11_capsule at hf
  refine am_of (lv := [some (.ref 8), some (.int a0), none, none, none, none]) rfl (Nat.le_of_ble_eq_true rfl) rfl ?_
  refine aw_aload_n (pc' := 1) dX11_capsule_0 rfl rfl rfl ?_
  refine aw_gr (q := 0) (e := 31) (v := .ref 23) (pc' := 4) H0 (H0.fo rfl rfl) (l13 rfl) rfl rfl dX11_capsule_1 rfl fl_RX11_28 ?_
  refine aw_iload_n (pc' := 5) dX11_capsule_4 rfl rfl ?_
  obtain ⟨r1, ec1, hf⟩ := b1_e hf
  replace hf := on_e hf
  rcases hf with ⟨rfl, hf⟩ | ⟨p1, rfl, hf⟩
  · refine aw_callVa (M' := mX0_holeOf) (nc' := 0) (ns' := 0) (pc' := 8) dX11_capsule_5 rfl ml_RX11_139 kX0_holeOf (t_X0_holeOf H0 ec1) (H0.ob (H0.fo rfl rfl) (by decide)) rfl rfl rfl (Nat.le_of_ble_eq_true rfl) (rokD (by omega) (Nat.le_of_ble_eq_true rfl) (Nat.le_of_ble_eq_true rfl) (Nat.le_of_ble_eq_true rfl)) rfl rfl (fun _ h1 q1 => ?_)
    obtain ⟨rfl, rfl, oo1⟩ := q1
    show AW _ _ _ _ _ (Value.null :: _) _ _ _
    refine aw_astore_n (lv' := [_, _, _, _, _, _]) (pc' := 9) dX11_capsule_8 rfl (Nat.le_of_ble_eq_true rfl) rfl rfl ?_
    refine aw_aload_n (pc' := 10) dX11_capsule_9 rfl rfl rfl ?_
    refine aw_gr (q := 0) (e := 31) (v := .ref 23) (pc' := 13) H0 (H0.fo rfl rfl) (l13 rfl) rfl rfl dX11_capsule_10 rfl fl_RX11_28 ?_
    refine aw_iload_n (pc' := 14) dX11_capsule_13 rfl rfl ?_
    obtain ⟨r2, ec2, hf⟩ := b1_e hf
    refine aw_callVi (M' := mX0_kindOf) (nc' := 0) (ns' := 0) (pc' := 17) dX11_capsule_14 rfl ml_RX11_135 kX0_kindOf (t_X0_kindOf H0 ec2) (H0.ob (H0.fo rfl rfl) (by decide)) rfl rfl rfl (Nat.le_of_ble_eq_true rfl) (rokD (by omega) (Nat.le_of_ble_eq_true rfl) (Nat.le_of_ble_eq_true rfl) (Nat.le_of_ble_eq_true rfl)) rfl rfl (fun _ h2 q2 => ?_)
    obtain ⟨rfl, rfl⟩ := q2
    refine aw_istore_n (lv' := [_, _, _, _, _, _]) (pc' := 18) dX11_capsule_17 rfl (Nat.le_of_ble_eq_true rfl) rfl ?_
    refine aw_aload_n (pc' := 19) dX11_capsule_18 rfl rfl rfl ?_
    refine aw_ifnull_n (tgt := 32) dX11_capsule_19 (by decide) ?_
    refine aw_iconst (v := (-1)) (pc' := 33) dX11_capsule_32 rfl ic_m1 ?_
    obtain ⟨rfl, rfl⟩ := so2 hf
    exact aw_ri dX11_capsule_33 rfl rfl (Nat.le_of_ble_eq_true rfl) (Nat.le_of_ble_eq_true rfl) ⟨rfl, H0, (Mo.rf _)⟩
  · refine aw_callVa (M' := mX0_holeOf) (nc' := 0) (ns' := 0) (pc' := 8) dX11_capsule_5 rfl ml_RX11_139 kX0_holeOf (t_X0_holeOf H0 ec1) (H0.ob (H0.fo rfl rfl) (by decide)) rfl rfl rfl (Nat.le_of_ble_eq_true rfl) (rokD (by omega) (Nat.le_of_ble_eq_true rfl) (Nat.le_of_ble_eq_true rfl) (Nat.le_of_ble_eq_true rfl)) rfl rfl (fun _ h1 q1 => ?_)
    obtain ⟨rfl, rfl, oo1⟩ := q1
    show AW _ _ _ _ _ (Value.ref (p1 + 8) :: _) _ _ _
    have o_p1 : okH s0 p1 := oo1 _ rfl
    refine aw_astore_n (lv' := [_, _, _, _, _, _]) (pc' := 9) dX11_capsule_8 rfl (Nat.le_of_ble_eq_true rfl) rfl rfl ?_
    refine aw_aload_n (pc' := 10) dX11_capsule_9 rfl rfl rfl ?_
    refine aw_gr (q := 0) (e := 31) (v := .ref 23) (pc' := 13) H0 (H0.fo rfl rfl) (l13 rfl) rfl rfl dX11_capsule_10 rfl fl_RX11_28 ?_
    refine aw_iload_n (pc' := 14) dX11_capsule_13 rfl rfl ?_
    obtain ⟨r3, ec3, hf⟩ := b1_e hf
    refine aw_callVi (M' := mX0_kindOf) (nc' := 0) (ns' := 0) (pc' := 17) dX11_capsule_14 rfl ml_RX11_135 kX0_kindOf (t_X0_kindOf H0 ec3) (H0.ob (H0.fo rfl rfl) (by decide)) rfl rfl rfl (Nat.le_of_ble_eq_true rfl) (rokD (by omega) (Nat.le_of_ble_eq_true rfl) (Nat.le_of_ble_eq_true rfl) (Nat.le_of_ble_eq_true rfl)) rfl rfl (fun _ h3 q3 => ?_)
    obtain ⟨rfl, rfl⟩ := q3
    refine aw_istore_n (lv' := [_, _, _, _, _, _]) (pc' := 18) dX11_capsule_17 rfl (Nat.le_of_ble_eq_true rfl) rfl ?_
    refine aw_aload_n (pc' := 19) dX11_capsule_18 rfl rfl rfl ?_
    refine aw_ifnull_r (pc' := 22) dX11_capsule_19 rfl ?_
    refine aw_iload_n (pc' := 23) dX11_capsule_22 rfl rfl ?_
    refine aw_iconst (v := 4) (pc' := 24) dX11_capsule_23 rfl ic_4 ?_
    obtain ⟨k4, ek4, hf⟩ := jn_e hf
    have hk4 : k4 = some (r9, s9) → AW mX11_capsule (rmD (3) 0 0) (fin (PI fun r' h' => r9 = r' ∧ HH s9 h' ∧ Mo s0 s9) 0 0) 34 [some (.ref 8), none, some (.ref (p1 + 8)), none, none, none] [] h0 0 0 := by
      intro hf
      subst ek4
      refine aw_aload_n (pc' := 35) dX11_capsule_34 rfl rfl rfl ?_
      refine aw_gi (q := p1) (pc' := 38) H0 (okH.ob o_p1) (by decide) rfl dX11_capsule_35 rfl fl_RX11_174 ?_
      refine aw_if_eq (tgt := 51) (pc' := 41) dX11_capsule_38 rfl rfl (fun c5 => ?_) (fun c5 => ?_)
      · replace hf := ifp c5 hf
        refine aw_bipush (v := (-2)) (pc' := 53) dX11_capsule_51 rfl bp_m2 ?_
        obtain ⟨rfl, rfl⟩ := so2 hf
        exact aw_ri dX11_capsule_53 rfl rfl (Nat.le_of_ble_eq_true rfl) (Nat.le_of_ble_eq_true rfl) ⟨rfl, H0, (Mo.rf _)⟩
      · replace hf := ifn c5 hf
        refine aw_aload_n (pc' := 42) dX11_capsule_41 rfl rfl rfl ?_
        refine aw_gr (q := 0) (e := 13) (v := .ref 14) (pc' := 45) H0 (H0.fo rfl rfl) (l13 rfl) rfl rfl dX11_capsule_42 rfl fl_RX11_19 ?_
        refine aw_gi (q := 6) (pc' := 48) H0 (H0.fo rfl rfl) (l13 rfl) rfl dX11_capsule_45 rfl fl_RX11_301 ?_
        refine aw_if_ne (tgt := 54) (pc' := 51) dX11_capsule_48 rfl rfl (fun c6 => ?_) (fun c6 => ?_)
        · replace hf := ifn c6 hf
          refine aw_aload_n (pc' := 55) dX11_capsule_54 rfl rfl rfl ?_
          refine aw_gr (q := 0) (e := 13) (v := .ref 14) (pc' := 58) H0 (H0.fo rfl rfl) (l13 rfl) rfl rfl dX11_capsule_55 rfl fl_RX11_19 ?_
          refine aw_aload_n (pc' := 59) dX11_capsule_58 rfl rfl rfl ?_
          refine aw_gi (q := 0) (pc' := 62) H0 (H0.fo rfl rfl) (l13 rfl) rfl dX11_capsule_59 rfl fl_RX11_168 ?_
          refine aw_iconst (v := 1) (pc' := 63) dX11_capsule_62 rfl ic_1 ?_
          refine aw_aload_n (pc' := 64) dX11_capsule_63 rfl rfl rfl ?_
          refine aw_gi (q := p1) (pc' := 67) H0 (okH.ob o_p1) (by decide) rfl dX11_capsule_64 rfl fl_RX11_184 ?_
          refine aw_bipush (v := 20) (pc' := 69) dX11_capsule_67 rfl bp_20 ?_
          refine aw_idiv (pc' := 70) dX11_capsule_69 rfl (by decide) ?_
          refine aw_iadd (pc' := 71) dX11_capsule_70 rfl ?_
          obtain ⟨s7, ec7, hf⟩ := b1_e hf
          refine aw_callVv (M' := mX2_liftBegins) (nc' := 0) (ns' := 0) (pc' := 74) dX11_capsule_71 rfl ml_RX11_378 kX2_liftBegins (t_X2_liftBegins H0 ec7) (H0.ob (H0.fo rfl rfl) (by decide)) rfl rfl rfl (Nat.le_of_ble_eq_true rfl) (rokD (by omega) (Nat.le_of_ble_eq_true rfl) (Nat.le_of_ble_eq_true rfl) (Nat.le_of_ble_eq_true rfl)) rfl rfl (fun h7 q7 => ?_)
          obtain ⟨H7, m7⟩ := q7
          refine aw_aload_n (pc' := 75) dX11_capsule_74 rfl rfl rfl ?_
          refine aw_iconst (v := 0) (pc' := 76) dX11_capsule_75 rfl ic_0 ?_
          refine aw_iconst (v := 1) (pc' := 77) dX11_capsule_76 rfl ic_1 ?_
          refine aw_aload_n (pc' := 78) dX11_capsule_77 rfl rfl rfl ?_
          refine aw_gi (q := 0) (pc' := 81) H7 (H7.fo rfl rfl) (l13 rfl) rfl dX11_capsule_78 rfl fl_RX11_168 ?_
          refine aw_aload_n (pc' := 82) dX11_capsule_81 rfl rfl rfl ?_
          refine aw_gi (q := 0) (pc' := 85) H7 (H7.fo rfl rfl) (l13 rfl) rfl dX11_capsule_82 rfl fl_RX11_168 ?_
          obtain ⟨r8, ec8, hf⟩ := b1_e hf
          refine aw_callVi (M' := mX11_latestText) (nc' := 0) (ns' := 0) (pc' := 88) dX11_capsule_85 rfl ml_RX11_285 kX11_latestText (t_X11_latestText H7 ec8) (H7.ob (H7.fo rfl rfl) (by decide)) rfl rfl rfl (Nat.le_of_ble_eq_true rfl) (rokD (by omega) (Nat.le_of_ble_eq_true rfl) (Nat.le_of_ble_eq_true rfl) (Nat.le_of_ble_eq_true rfl)) rfl rfl (fun _ h8 q8 => ?_)
          obtain ⟨rfl, rfl⟩ := q8
          refine aw_istore (lv' := [_, _, _, _, _, _]) (pc' := 90) dX11_capsule_88 rfl (Nat.le_of_ble_eq_true rfl) rfl ?_
          refine aw_iconst (v := 0) (pc' := 91) dX11_capsule_90 rfl ic_0 ?_
          refine aw_istore (lv' := [_, _, _, _, _, _]) (pc' := 93) dX11_capsule_91 rfl (Nat.le_of_ble_eq_true rfl) rfl ?_
          refine AW.lv_le (lz_k (lz_d (lz_d (lz_d (lz_k (lz_k lz_0)))))) ?_
          refine t_X11_capsule_L93 m7 (fun s17 h17 H17 m17 hf => ?_) 4000 _ _ _ H7 (Mo.rf _) hf
          refine aw_aload_n (pc' := 144) dX11_capsule_143 rfl rfl rfl ?_
          refine aw_gr (q := 0) (e := 13) (v := .ref 14) (pc' := 147) H17 (H17.fo rfl rfl) (l13 rfl) rfl rfl dX11_capsule_144 rfl fl_RX11_19 ?_
          refine aw_aload_n (pc' := 148) dX11_capsule_147 rfl rfl rfl ?_
          refine aw_gr (q := 0) (e := 13) (v := .ref 14) (pc' := 151) H17 (H17.fo rfl rfl) (l13 rfl) rfl rfl dX11_capsule_148 rfl fl_RX11_19 ?_
          refine aw_gi (q := 6) (pc' := 154) H17 (H17.fo rfl rfl) (l13 rfl) rfl dX11_capsule_151 rfl fl_RX11_390 ?_
          refine aw_iconst (v := 1) (pc' := 155) dX11_capsule_154 rfl ic_1 ?_
          refine aw_isub (pc' := 156) dX11_capsule_155 rfl ?_
          obtain ⟨r18, ec18, hf⟩ := b1_e hf
          refine aw_callVi (M' := mX2_upAt) (nc' := 0) (ns' := 0) (pc' := 159) dX11_capsule_156 rfl ml_RX11_393 kX2_upAt (t_X2_upAt H17 ec18) (H17.ob (H17.fo rfl rfl) (by decide)) rfl rfl rfl (Nat.le_of_ble_eq_true rfl) (rokD (by omega) (Nat.le_of_ble_eq_true rfl) (Nat.le_of_ble_eq_true rfl) (Nat.le_of_ble_eq_true rfl)) rfl rfl (fun _ h18 q18 => ?_)
          obtain ⟨rfl, rfl⟩ := q18
          obtain ⟨rfl, rfl⟩ := so2 hf
          exact aw_ri dX11_capsule_159 rfl rfl (Nat.le_of_ble_eq_true rfl) (Nat.le_of_ble_eq_true rfl) ⟨rfl, H17, (m7.tr m17)⟩
        · replace hf := ifp c6 hf
          refine aw_bipush (v := (-2)) (pc' := 53) dX11_capsule_51 rfl bp_m2 ?_
          obtain ⟨rfl, rfl⟩ := so2 hf
          exact aw_ri dX11_capsule_53 rfl rfl (Nat.le_of_ble_eq_true rfl) (Nat.le_of_ble_eq_true rfl) ⟨rfl, H0, (Mo.rf _)⟩
    clear ek4
    refine aw_icmp_eq (tgt := 34) (pc' := 27) dX11_capsule_24 rfl rfl (fun c19 => ?_) (fun c19 => ?_)
    · replace hf := ifp c19 hf
      refine AW.lv_le (lz_k (lz_d (lz_k (lz_d (lz_d (lz_d lz_0)))))) ?_
      exact hk4  hf
    · replace hf := ifn c19 hf
      refine aw_iload_n (pc' := 28) dX11_capsule_27 rfl rfl ?_
      refine aw_iconst (v := 5) (pc' := 29) dX11_capsule_28 rfl ic_5 ?_
      refine aw_icmp_eq (tgt := 34) (pc' := 32) dX11_capsule_29 rfl rfl (fun c20 => ?_) (fun c20 => ?_)
      · replace hf := ifp c20 hf
        refine AW.lv_le (lz_k (lz_d (lz_k (lz_d (lz_d (lz_d lz_0)))))) ?_
        exact hk4  hf
      · replace hf := ifn c20 hf
        refine aw_iconst (v := (-1)) (pc' := 33) dX11_capsule_32 rfl ic_m1 ?_
        obtain ⟨rfl, rfl⟩ := so2 hf
        exact aw_ri dX11_capsule_33 rfl rfl (Nat.le_of_ble_eq_true rfl) (Nat.le_of_ble_eq_true rfl) ⟨rfl, H0, (Mo.rf _)⟩
/-! ThirtyThreeBelow.up -/
noncomputable def f_X11_up (s0 : SS) (a0 : Int32) (a1 : Int32) : Option Int32 := (if a0 < (0 : Int32) then some (-1) else (if a0 < (zS s0 6 10) then (if a1 < (0 : Int32) then some (-1) else (if (1 : Int32) < a1 then some (-1) else (if a1 = (0 : Int32) then (gd (inB a0 120) (some (zI s0 13 (a0.toInt.toNat)))) else (b1 (f_X2_upAt s0 a0) fun r6 => some r6)))) else some (-1)))
set_option maxRecDepth 4000 in
theorem t_X11_up {r9 : Int32} {s0 : SS} {h0 : List aE} {a0 : Int32} {a1 : Int32} (H0 : HH s0 h0) (hf : f_X11_up s0 a0 a1 = some r9) : AM mX11_up (1) [.ref 8, .int a0, .int a1] h0 0 0 (PI fun r' h' => r9 = r' ∧ h0 = h') := by
  unfold f_X11_up at hf
  refine am_of (lv := [some (.ref 8), some (.int a0), some (.int a1)]) rfl (Nat.le_of_ble_eq_true rfl) rfl ?_
  refine aw_iload_n (pc' := 1) dX11_up_0 rfl rfl ?_
  refine aw_zlt (tgt := 24) (pc' := 4) dX11_up_1 rfl rfl (fun c1 => ?_) (fun c1 => ?_)
  · replace hf := ifp c1 hf
    refine aw_iconst (v := (-1)) (pc' := 25) dX11_up_24 rfl ic_m1 ?_
    obtain rfl := Option.some.inj hf
    exact aw_ri dX11_up_25 rfl rfl (Nat.le_of_ble_eq_true rfl) (Nat.le_of_ble_eq_true rfl) ⟨rfl, rfl⟩
  · replace hf := ifn c1 hf
    refine aw_iload_n (pc' := 5) dX11_up_4 rfl rfl ?_
    refine aw_aload_n (pc' := 6) dX11_up_5 rfl rfl rfl ?_
    refine aw_gr (q := 0) (e := 13) (v := .ref 14) (pc' := 9) H0 (H0.fo rfl rfl) (l13 rfl) rfl rfl dX11_up_6 rfl fl_RX11_19 ?_
    refine aw_gi (q := 6) (pc' := 12) H0 (H0.fo rfl rfl) (l13 rfl) rfl dX11_up_9 rfl fl_RX11_390 ?_
    refine aw_cge (tgt := 24) (pc' := 15) dX11_up_12 rfl rfl (fun c2 => ?_) (fun c2 => ?_)
    · replace hf := ifn c2 hf
      refine aw_iconst (v := (-1)) (pc' := 25) dX11_up_24 rfl ic_m1 ?_
      obtain rfl := Option.some.inj hf
      exact aw_ri dX11_up_25 rfl rfl (Nat.le_of_ble_eq_true rfl) (Nat.le_of_ble_eq_true rfl) ⟨rfl, rfl⟩
    · replace hf := ifp c2 hf
      refine aw_iload_n (pc' := 16) dX11_up_15 rfl rfl ?_
      refine aw_zlt (tgt := 24) (pc' := 19) dX11_up_16 rfl rfl (fun c3 => ?_) (fun c3 => ?_)
      · replace hf := ifp c3 hf
        refine aw_iconst (v := (-1)) (pc' := 25) dX11_up_24 rfl ic_m1 ?_
        obtain rfl := Option.some.inj hf
        exact aw_ri dX11_up_25 rfl rfl (Nat.le_of_ble_eq_true rfl) (Nat.le_of_ble_eq_true rfl) ⟨rfl, rfl⟩
      · replace hf := ifn c3 hf
        refine aw_iload_n (pc' := 20) dX11_up_19 rfl rfl ?_
        refine aw_iconst (v := 1) (pc' := 21) dX11_up_20 rfl ic_1 ?_
        refine aw_cle (tgt := 26) (pc' := 24) dX11_up_21 rfl rfl (fun c4 => ?_) (fun c4 => ?_)
        · replace hf := ifn c4 hf
          refine aw_iload_n (pc' := 27) dX11_up_26 rfl rfl ?_
          refine aw_if_ne (tgt := 42) (pc' := 30) dX11_up_27 rfl rfl (fun c5 => ?_) (fun c5 => ?_)
          · replace hf := ifn c5 hf
            refine aw_aload_n (pc' := 43) dX11_up_42 rfl rfl rfl ?_
            refine aw_gr (q := 0) (e := 13) (v := .ref 14) (pc' := 46) H0 (H0.fo rfl rfl) (l13 rfl) rfl rfl dX11_up_43 rfl fl_RX11_19 ?_
            refine aw_iload_n (pc' := 47) dX11_up_46 rfl rfl ?_
            obtain ⟨r6, ec6, hf⟩ := b1_e hf
            refine aw_callVi (M' := mX2_upAt) (nc' := 0) (ns' := 0) (pc' := 50) dX11_up_47 rfl ml_RX11_393 kX2_upAt (t_X2_upAt H0 ec6) (H0.ob (H0.fo rfl rfl) (by decide)) rfl rfl rfl (Nat.le_of_ble_eq_true rfl) (rokD (by omega) (Nat.le_of_ble_eq_true rfl) (Nat.le_of_ble_eq_true rfl) (Nat.le_of_ble_eq_true rfl)) rfl rfl (fun _ h6 q6 => ?_)
            obtain ⟨rfl, rfl⟩ := q6
            obtain rfl := Option.some.inj hf
            exact aw_ri dX11_up_50 rfl rfl (Nat.le_of_ble_eq_true rfl) (Nat.le_of_ble_eq_true rfl) ⟨rfl, rfl⟩
          · replace hf := ifp c5 hf
            refine aw_aload_n (pc' := 31) dX11_up_30 rfl rfl rfl ?_
            refine aw_gr (q := 0) (e := 13) (v := .ref 14) (pc' := 34) H0 (H0.fo rfl rfl) (l13 rfl) rfl rfl dX11_up_31 rfl fl_RX11_19 ?_
            refine aw_gr (q := 6) (e := 15) (v := .ref 21) (pc' := 37) H0 (H0.fo rfl rfl) (l13 rfl) rfl rfl dX11_up_34 rfl fl_RX11_396 ?_
            refine aw_iload_n (pc' := 38) dX11_up_37 rfl rfl ?_
            obtain ⟨g7, hf⟩ := gd_e hf
            refine aw_ia (q := 13) (pc' := 39) H0 (H0.fa rfl rfl rfl) g7 dX11_up_38 rfl ?_
            refine aw_goto (tgt := 50) dX11_up_39 rfl ?_
            obtain rfl := Option.some.inj hf
            exact aw_ri dX11_up_50 rfl rfl (Nat.le_of_ble_eq_true rfl) (Nat.le_of_ble_eq_true rfl) ⟨rfl, rfl⟩
        · replace hf := ifp c4 hf
          refine aw_iconst (v := (-1)) (pc' := 25) dX11_up_24 rfl ic_m1 ?_
          obtain rfl := Option.some.inj hf
          exact aw_ri dX11_up_25 rfl rfl (Nat.le_of_ble_eq_true rfl) (Nat.le_of_ble_eq_true rfl) ⟨rfl, rfl⟩
/-! ThirtyThreeBelow.raise -/
noncomputable def f_X11_raise (s0 : SS) (a0 : Int32) : Option (Int32 × SS) := (if a0 < (0 : Int32) then some ((-1), s0) else (if (199 : Int32) < a0 then some ((-1), s0) else (if (zS s0 6 10) = (0 : Int32) then some ((-2), s0) else (bd (f_X2_raisedWithin s0 a0) fun r4 s4 => some (r4, s4)))))
set_option maxRecDepth 4000 in
theorem t_X11_raise {r9 : Int32} {s0 s9 : SS} {h0 : List aE} {a0 : Int32} (H0 : HH s0 h0) (hf : f_X11_raise s0 a0 = some (r9, s9)) : AM mX11_raise (1) [.ref 8, .int a0] h0 0 0 (PI fun r' h' => r9 = r' ∧ HH s9 h' ∧ Mo s0 s9) := by
  unfold f_X11_raise at hf
  refine am_of (lv := [some (.ref 8), some (.int a0)]) rfl (Nat.le_of_ble_eq_true rfl) rfl ?_
  refine aw_iload_n (pc' := 1) dX11_raise_0 rfl rfl ?_
  refine aw_zlt (tgt := 11) (pc' := 4) dX11_raise_1 rfl rfl (fun c1 => ?_) (fun c1 => ?_)
  · replace hf := ifp c1 hf
    refine aw_iconst (v := (-1)) (pc' := 12) dX11_raise_11 rfl ic_m1 ?_
    obtain ⟨rfl, rfl⟩ := so2 hf
    exact aw_ri dX11_raise_12 rfl rfl (Nat.le_of_ble_eq_true rfl) (Nat.le_of_ble_eq_true rfl) ⟨rfl, H0, (Mo.rf _)⟩
  · replace hf := ifn c1 hf
    refine aw_iload_n (pc' := 5) dX11_raise_4 rfl rfl ?_
    refine aw_sipush (v := 199) (pc' := 8) dX11_raise_5 rfl sp_199 ?_
    refine aw_cle (tgt := 13) (pc' := 11) dX11_raise_8 rfl rfl (fun c2 => ?_) (fun c2 => ?_)
    · replace hf := ifn c2 hf
      refine aw_aload_n (pc' := 14) dX11_raise_13 rfl rfl rfl ?_
      refine aw_gr (q := 0) (e := 13) (v := .ref 14) (pc' := 17) H0 (H0.fo rfl rfl) (l13 rfl) rfl rfl dX11_raise_14 rfl fl_RX11_19 ?_
      refine aw_gi (q := 6) (pc' := 20) H0 (H0.fo rfl rfl) (l13 rfl) rfl dX11_raise_17 rfl fl_RX11_390 ?_
      refine aw_if_ne (tgt := 28) (pc' := 23) dX11_raise_20 rfl rfl (fun c3 => ?_) (fun c3 => ?_)
      · replace hf := ifn c3 hf
        refine aw_aload_n (pc' := 29) dX11_raise_28 rfl rfl rfl ?_
        refine aw_gr (q := 0) (e := 13) (v := .ref 14) (pc' := 32) H0 (H0.fo rfl rfl) (l13 rfl) rfl rfl dX11_raise_29 rfl fl_RX11_19 ?_
        refine aw_iload_n (pc' := 33) dX11_raise_32 rfl rfl ?_
        obtain ⟨r4, s4, ec4, hf⟩ := bd_e hf
        refine aw_callVi (M' := mX2_raisedWithin) (nc' := 0) (ns' := 0) (pc' := 36) dX11_raise_33 rfl ml_RX11_399 kX2_raisedWithin (t_X2_raisedWithin H0 ec4) (H0.ob (H0.fo rfl rfl) (by decide)) rfl rfl rfl (Nat.le_of_ble_eq_true rfl) (rokD (by omega) (Nat.le_of_ble_eq_true rfl) (Nat.le_of_ble_eq_true rfl) (Nat.le_of_ble_eq_true rfl)) rfl rfl (fun _ h4 q4 => ?_)
        obtain ⟨rfl, H4, m4⟩ := q4
        obtain ⟨rfl, rfl⟩ := so2 hf
        exact aw_ri dX11_raise_36 rfl rfl (Nat.le_of_ble_eq_true rfl) (Nat.le_of_ble_eq_true rfl) ⟨rfl, H4, m4⟩
      · replace hf := ifp c3 hf
        refine aw_bipush (v := (-2)) (pc' := 25) dX11_raise_23 rfl bp_m2 ?_
        refine aw_goto (tgt := 36) dX11_raise_25 rfl ?_
        obtain ⟨rfl, rfl⟩ := so2 hf
        exact aw_ri dX11_raise_36 rfl rfl (Nat.le_of_ble_eq_true rfl) (Nat.le_of_ble_eq_true rfl) ⟨rfl, H0, (Mo.rf _)⟩
    · replace hf := ifp c2 hf
      refine aw_iconst (v := (-1)) (pc' := 12) dX11_raise_11 rfl ic_m1 ?_
      obtain ⟨rfl, rfl⟩ := so2 hf
      exact aw_ri dX11_raise_12 rfl rfl (Nat.le_of_ble_eq_true rfl) (Nat.le_of_ble_eq_true rfl) ⟨rfl, H0, (Mo.rf _)⟩
/-! ThirtyThreeBelow.act -/
noncomputable def f_X11_act (s0 : SS) (a0 : Int32) (a1 : Int32) (a2 : Int32) : Option (Int32 × SS) := (bd (f_X0_acted s0 a0 a1 a2) fun r1 s1 => some (r1, s1))
set_option maxRecDepth 4000 in
theorem t_X11_act {r9 : Int32} {s0 s9 : SS} {h0 : List aE} {a0 : Int32} {a1 : Int32} {a2 : Int32} (H0 : HH s0 h0) (hf : f_X11_act s0 a0 a1 a2 = some (r9, s9)) : AM mX11_act (34) [.ref 8, .int a0, .int a1, .int a2] h0 0 0 (PI fun r' h' => r9 = r' ∧ HH s9 h' ∧ Mo s0 s9) := by
  unfold f_X11_act at hf
  refine am_of (lv := [some (.ref 8), some (.int a0), some (.int a1), some (.int a2)]) rfl (Nat.le_of_ble_eq_true rfl) rfl ?_
  refine aw_aload_n (pc' := 1) dX11_act_0 rfl rfl rfl ?_
  refine aw_gr (q := 0) (e := 31) (v := .ref 23) (pc' := 4) H0 (H0.fo rfl rfl) (l13 rfl) rfl rfl dX11_act_1 rfl fl_RX11_28 ?_
  refine aw_iload_n (pc' := 5) dX11_act_4 rfl rfl ?_
  refine aw_iload_n (pc' := 6) dX11_act_5 rfl rfl ?_
  refine aw_iload_n (pc' := 7) dX11_act_6 rfl rfl ?_
  obtain ⟨r1, s1, ec1, hf⟩ := bd_e hf
  refine aw_callVi (M' := mX0_acted) (nc' := 0) (ns' := 0) (pc' := 10) dX11_act_7 rfl ml_RX11_402 kX0_acted (t_X0_acted H0 ec1) (H0.ob (H0.fo rfl rfl) (by decide)) rfl rfl rfl (Nat.le_of_ble_eq_true rfl) (rokD (by omega) (Nat.le_of_ble_eq_true rfl) (Nat.le_of_ble_eq_true rfl) (Nat.le_of_ble_eq_true rfl)) rfl rfl (fun _ h1 q1 => ?_)
  obtain ⟨rfl, H1, m1⟩ := q1
  obtain ⟨rfl, rfl⟩ := so2 hf
  exact aw_ri dX11_act_10 rfl rfl (Nat.le_of_ble_eq_true rfl) (Nat.le_of_ble_eq_true rfl) ⟨rfl, H1, m1⟩
/-! ThirtyThreeBelow.trace -/
noncomputable def f_X11_trace (s0 : SS) (a0 : Int32) : Option Int32 := (if a0 < (0 : Int32) then some (-1) else (if a0 < (zS s0 15 11) then (if a0 < (24 : Int32) then (gd (inB a0 24) (some (zI s0 18 (a0.toInt.toNat)))) else some (-1)) else some (-1)))
set_option maxRecDepth 4000 in
theorem t_X11_trace {r9 : Int32} {s0 : SS} {h0 : List aE} {a0 : Int32} (H0 : HH s0 h0) (hf : f_X11_trace s0 a0 = some r9) : AM mX11_trace (0) [.ref 8, .int a0] h0 0 0 (PI fun r' h' => r9 = r' ∧ h0 = h') := by
  unfold f_X11_trace at hf
  refine am_of (lv := [some (.ref 8), some (.int a0)]) rfl (Nat.le_of_ble_eq_true rfl) rfl ?_
  refine aw_iload_n (pc' := 1) dX11_trace_0 rfl rfl ?_
  refine aw_zlt (tgt := 21) (pc' := 4) dX11_trace_1 rfl rfl (fun c1 => ?_) (fun c1 => ?_)
  · replace hf := ifp c1 hf
    refine aw_iconst (v := (-1)) (pc' := 22) dX11_trace_21 rfl ic_m1 ?_
    refine aw_goto (tgt := 34) dX11_trace_22 rfl ?_
    obtain rfl := Option.some.inj hf
    exact aw_ri dX11_trace_34 rfl rfl (Nat.le_of_ble_eq_true rfl) (Nat.le_of_ble_eq_true rfl) ⟨rfl, rfl⟩
  · replace hf := ifn c1 hf
    refine aw_iload_n (pc' := 5) dX11_trace_4 rfl rfl ?_
    refine aw_aload_n (pc' := 6) dX11_trace_5 rfl rfl rfl ?_
    refine aw_gr (q := 0) (e := 31) (v := .ref 23) (pc' := 9) H0 (H0.fo rfl rfl) (l13 rfl) rfl rfl dX11_trace_6 rfl fl_RX11_28 ?_
    refine aw_gi (q := 15) (pc' := 12) H0 (H0.fo rfl rfl) (l13 rfl) rfl dX11_trace_9 rfl fl_RX11_405 ?_
    refine aw_cge (tgt := 21) (pc' := 15) dX11_trace_12 rfl rfl (fun c2 => ?_) (fun c2 => ?_)
    · replace hf := ifn c2 hf
      refine aw_iconst (v := (-1)) (pc' := 22) dX11_trace_21 rfl ic_m1 ?_
      refine aw_goto (tgt := 34) dX11_trace_22 rfl ?_
      obtain rfl := Option.some.inj hf
      exact aw_ri dX11_trace_34 rfl rfl (Nat.le_of_ble_eq_true rfl) (Nat.le_of_ble_eq_true rfl) ⟨rfl, rfl⟩
    · replace hf := ifp c2 hf
      refine aw_iload_n (pc' := 16) dX11_trace_15 rfl rfl ?_
      refine aw_bipush (v := 24) (pc' := 18) dX11_trace_16 rfl bp_24 ?_
      refine aw_clt (tgt := 25) (pc' := 21) dX11_trace_18 rfl rfl (fun c3 => ?_) (fun c3 => ?_)
      · replace hf := ifp c3 hf
        refine aw_aload_n (pc' := 26) dX11_trace_25 rfl rfl rfl ?_
        refine aw_gr (q := 0) (e := 31) (v := .ref 23) (pc' := 29) H0 (H0.fo rfl rfl) (l13 rfl) rfl rfl dX11_trace_26 rfl fl_RX11_28 ?_
        refine aw_gr (q := 15) (e := 7) (v := .ref 26) (pc' := 32) H0 (H0.fo rfl rfl) (l13 rfl) rfl rfl dX11_trace_29 rfl fl_RX11_408 ?_
        refine aw_iload_n (pc' := 33) dX11_trace_32 rfl rfl ?_
        obtain ⟨g4, hf⟩ := gd_e hf
        refine aw_ia (q := 18) (pc' := 34) H0 (H0.fa rfl rfl rfl) g4 dX11_trace_33 rfl ?_
        obtain rfl := Option.some.inj hf
        exact aw_ri dX11_trace_34 rfl rfl (Nat.le_of_ble_eq_true rfl) (Nat.le_of_ble_eq_true rfl) ⟨rfl, rfl⟩
      · replace hf := ifn c3 hf
        refine aw_iconst (v := (-1)) (pc' := 22) dX11_trace_21 rfl ic_m1 ?_
        refine aw_goto (tgt := 34) dX11_trace_22 rfl ?_
        obtain rfl := Option.some.inj hf
        exact aw_ri dX11_trace_34 rfl rfl (Nat.le_of_ble_eq_true rfl) (Nat.le_of_ble_eq_true rfl) ⟨rfl, rfl⟩
/-! ThirtyThreeBelow.keep -/
noncomputable def f_X11_keep (s0 : SS) (a0 : Int32) (a1 : Int32) : Option (Int32 × SS) := (b1 (f_X11_shelfOf s0 a0) fun r1 => (on r1 (some ((-1), s0)) fun p1 => (jn ((jn (fun (t3_0 : Int32) => (st (pS s0 p1 0 t3_0) fun s4 => (st (pS s4 p1 1 a1) fun s5 => some (1, s5)))) fun k3 => (if a1 = ((-1) : Int32) then (k3 0) else (k3 1)))) fun k2 => (if a1 = ((-1) : Int32) then k2 else (b1 (f_X0_kindOf s0 a1) fun r8 => (if r8 < (0 : Int32) then some ((-1), s0) else k2))))))
set_option maxRecDepth 4000 in
theorem t_X11_keep {r9 : Int32} {s0 s9 : SS} {h0 : List aE} {a0 : Int32} {a1 : Int32} (H0 : HH s0 h0) (hf : f_X11_keep s0 a0 a1 = some (r9, s9)) : AM mX11_keep (1) [.ref 8, .int a0, .int a1] h0 0 0 (PI fun r' h' => r9 = r' ∧ HH s9 h' ∧ Mo s0 s9) := by
  unfold f_X11_keep at hf
  refine am_of (lv := [some (.ref 8), some (.int a0), some (.int a1), none]) rfl (Nat.le_of_ble_eq_true rfl) rfl ?_
  refine aw_aload_n (pc' := 1) dX11_keep_0 rfl rfl rfl ?_
  refine aw_iload_n (pc' := 2) dX11_keep_1 rfl rfl ?_
  obtain ⟨r1, ec1, hf⟩ := b1_e hf
  replace hf := on_e hf
  rcases hf with ⟨rfl, hf⟩ | ⟨p1, rfl, hf⟩
  · refine aw_callVa (M' := mX11_shelfOf) (nc' := 0) (ns' := 0) (pc' := 5) dX11_keep_2 rfl ml_RX11_190 kX11_shelfOf (t_X11_shelfOf H0 ec1) (H0.ob (H0.fo rfl rfl) (by decide)) rfl rfl rfl (Nat.le_of_ble_eq_true rfl) (rokD (by omega) (Nat.le_of_ble_eq_true rfl) (Nat.le_of_ble_eq_true rfl) (Nat.le_of_ble_eq_true rfl)) rfl rfl (fun _ h1 q1 => ?_)
    obtain ⟨rfl, rfl, oo1⟩ := q1
    show AW _ _ _ _ _ (Value.null :: _) _ _ _
    refine aw_astore_n (lv' := [_, _, _, _]) (pc' := 6) dX11_keep_5 rfl (Nat.le_of_ble_eq_true rfl) rfl rfl ?_
    refine aw_aload_n (pc' := 7) dX11_keep_6 rfl rfl rfl ?_
    refine aw_ifnull_n (tgt := 26) dX11_keep_7 (by decide) ?_
    refine aw_iconst (v := (-1)) (pc' := 27) dX11_keep_26 rfl ic_m1 ?_
    obtain ⟨rfl, rfl⟩ := so2 hf
    exact aw_ri dX11_keep_27 rfl rfl (Nat.le_of_ble_eq_true rfl) (Nat.le_of_ble_eq_true rfl) ⟨rfl, H0, (Mo.rf _)⟩
  · refine aw_callVa (M' := mX11_shelfOf) (nc' := 0) (ns' := 0) (pc' := 5) dX11_keep_2 rfl ml_RX11_190 kX11_shelfOf (t_X11_shelfOf H0 ec1) (H0.ob (H0.fo rfl rfl) (by decide)) rfl rfl rfl (Nat.le_of_ble_eq_true rfl) (rokD (by omega) (Nat.le_of_ble_eq_true rfl) (Nat.le_of_ble_eq_true rfl) (Nat.le_of_ble_eq_true rfl)) rfl rfl (fun _ h1 q1 => ?_)
    obtain ⟨rfl, rfl, oo1⟩ := q1
    show AW _ _ _ _ _ (Value.ref (p1 + 8) :: _) _ _ _
    have o_p1 : okV p1 := oo1 _ rfl
    refine aw_astore_n (lv' := [_, _, _, _]) (pc' := 6) dX11_keep_5 rfl (Nat.le_of_ble_eq_true rfl) rfl rfl ?_
    refine aw_aload_n (pc' := 7) dX11_keep_6 rfl rfl rfl ?_
    refine aw_ifnull_r (pc' := 10) dX11_keep_7 rfl ?_
    refine aw_iload_n (pc' := 11) dX11_keep_10 rfl rfl ?_
    refine aw_iconst (v := (-1)) (pc' := 12) dX11_keep_11 rfl ic_m1 ?_
    obtain ⟨k2, ek2, hf⟩ := jn_e hf
    have hk2 : k2 = some (r9, s9) → AW mX11_keep (rmD (1) 0 0) (fin (PI fun r' h' => r9 = r' ∧ HH s9 h' ∧ Mo s0 s9) 0 0) 28 [none, none, some (.int a1), some (.ref (p1 + 8))] [] h0 0 0 := by
      intro hf
      subst ek2
      refine aw_aload_n (pc' := 29) dX11_keep_28 rfl rfl rfl ?_
      refine aw_iload_n (pc' := 30) dX11_keep_29 rfl rfl ?_
      refine aw_iconst (v := (-1)) (pc' := 31) dX11_keep_30 rfl ic_m1 ?_
      obtain ⟨k3, ek3, hf⟩ := jn_e hf
      have hk3 : ∀ (t3_0 : Int32), k3 t3_0 = some (r9, s9) → AW mX11_keep (rmD (1) 0 0) (fin (PI fun r' h' => r9 = r' ∧ HH s9 h' ∧ Mo s0 s9) 0 0) 39 [none, none, some (.int a1), some (.ref (p1 + 8))] [.int t3_0, .ref (p1 + 8)] h0 0 0 := by
        intro t3_0 hf
        subst ek3
        obtain ⟨s4, es4, hf⟩ := st_e hf
        refine aw_pi (q := p1) (pc' := 42) es4 H0 (okV.ob o_p1 H0) (by decide) rfl dX11_keep_39 rfl fl_RX11_194 rfl (fun h4 H4 => ?_)
        have m4 := Mo.ofS es4
        refine aw_aload_n (pc' := 43) dX11_keep_42 rfl rfl rfl ?_
        refine aw_iload_n (pc' := 44) dX11_keep_43 rfl rfl ?_
        obtain ⟨s5, es5, hf⟩ := st_e hf
        refine aw_pi (q := p1) (pc' := 47) es5 H4 (okV.ob o_p1 H4) (by decide) rfl dX11_keep_44 rfl fl_RX11_411 rfl (fun h5 H5 => ?_)
        have m5 := Mo.ofS es5
        refine aw_iconst (v := 1) (pc' := 48) dX11_keep_47 rfl ic_1 ?_
        obtain ⟨rfl, rfl⟩ := so2 hf
        exact aw_ri dX11_keep_48 rfl rfl (Nat.le_of_ble_eq_true rfl) (Nat.le_of_ble_eq_true rfl) ⟨rfl, H5, (m4.tr m5)⟩
      clear ek3
      refine aw_icmp_ne (tgt := 38) (pc' := 34) dX11_keep_31 rfl rfl (fun c6 => ?_) (fun c6 => ?_)
      · replace hf := ifn c6 hf
        refine aw_iconst (v := 1) (pc' := 39) dX11_keep_38 rfl ic_1 ?_
        exact hk3 _ hf
      · replace hf := ifp c6 hf
        refine aw_iconst (v := 0) (pc' := 35) dX11_keep_34 rfl ic_0 ?_
        refine aw_goto (tgt := 39) dX11_keep_35 rfl ?_
        exact hk3 _ hf
    clear ek2
    refine aw_icmp_eq (tgt := 28) (pc' := 15) dX11_keep_12 rfl rfl (fun c7 => ?_) (fun c7 => ?_)
    · replace hf := ifp c7 hf
      refine AW.lv_le (lz_d (lz_d (lz_k (lz_k lz_0)))) ?_
      exact hk2  hf
    · replace hf := ifn c7 hf
      refine aw_aload_n (pc' := 16) dX11_keep_15 rfl rfl rfl ?_
      refine aw_gr (q := 0) (e := 31) (v := .ref 23) (pc' := 19) H0 (H0.fo rfl rfl) (l13 rfl) rfl rfl dX11_keep_16 rfl fl_RX11_28 ?_
      refine aw_iload_n (pc' := 20) dX11_keep_19 rfl rfl ?_
      obtain ⟨r8, ec8, hf⟩ := b1_e hf
      refine aw_callVi (M' := mX0_kindOf) (nc' := 0) (ns' := 0) (pc' := 23) dX11_keep_20 rfl ml_RX11_135 kX0_kindOf (t_X0_kindOf H0 ec8) (H0.ob (H0.fo rfl rfl) (by decide)) rfl rfl rfl (Nat.le_of_ble_eq_true rfl) (rokD (by omega) (Nat.le_of_ble_eq_true rfl) (Nat.le_of_ble_eq_true rfl) (Nat.le_of_ble_eq_true rfl)) rfl rfl (fun _ h8 q8 => ?_)
      obtain ⟨rfl, rfl⟩ := q8
      refine aw_zge (tgt := 28) (pc' := 26) dX11_keep_23 rfl rfl (fun c10 => ?_) (fun c10 => ?_)
      · replace hf := ifn c10 hf
        refine AW.lv_le (lz_d (lz_d (lz_k (lz_k lz_0)))) ?_
        exact hk2  hf
      · replace hf := ifp c10 hf
        refine aw_iconst (v := (-1)) (pc' := 27) dX11_keep_26 rfl ic_m1 ?_
        obtain ⟨rfl, rfl⟩ := so2 hf
        exact aw_ri dX11_keep_27 rfl rfl (Nat.le_of_ble_eq_true rfl) (Nat.le_of_ble_eq_true rfl) ⟨rfl, H0, (Mo.rf _)⟩
/-! ThirtyThreeBelow.row -/
noncomputable def f_X11_row (s0 : SS) (a0 : Int32) (a1 : Int32) (a2 : Int32) : Option (Int32 × SS) := (b1 (f_X11_shelfOf s0 a0) fun r1 => (on r1 (some ((-1), s0)) fun p1 => (if a1 < (0 : Int32) then some ((-1), s0) else (if (4 : Int32) < a1 then some ((-1), s0) else (if (60 : Int32) < a2 then some ((-1), s0) else (if a2 < (0 : Int32) then some ((-14), s0) else (b1 (f_X8_becomesRow s0 p1 a1 a2) fun s6 => some (1, s6))))))))
set_option maxRecDepth 4000 in
theorem t_X11_row {r9 : Int32} {s0 s9 : SS} {h0 : List aE} {a0 : Int32} {a1 : Int32} {a2 : Int32} (H0 : HH s0 h0) (hf : f_X11_row s0 a0 a1 a2 = some (r9, s9)) : AM mX11_row (2) [.ref 8, .int a0, .int a1, .int a2] h0 0 0 (PI fun r' h' => r9 = r' ∧ HH s9 h' ∧ Mo s0 s9) := by
  unfold f_X11_row at hf
  refine am_of (lv := [some (.ref 8), some (.int a0), some (.int a1), some (.int a2), none]) rfl (Nat.le_of_ble_eq_true rfl) rfl ?_
  refine aw_aload_n (pc' := 1) dX11_row_0 rfl rfl rfl ?_
  refine aw_iload_n (pc' := 2) dX11_row_1 rfl rfl ?_
  obtain ⟨r1, ec1, hf⟩ := b1_e hf
  replace hf := on_e hf
  rcases hf with ⟨rfl, hf⟩ | ⟨p1, rfl, hf⟩
  · refine aw_callVa (M' := mX11_shelfOf) (nc' := 0) (ns' := 0) (pc' := 5) dX11_row_2 rfl ml_RX11_190 kX11_shelfOf (t_X11_shelfOf H0 ec1) (H0.ob (H0.fo rfl rfl) (by decide)) rfl rfl rfl (Nat.le_of_ble_eq_true rfl) (rokD (by omega) (Nat.le_of_ble_eq_true rfl) (Nat.le_of_ble_eq_true rfl) (Nat.le_of_ble_eq_true rfl)) rfl rfl (fun _ h1 q1 => ?_)
    obtain ⟨rfl, rfl, oo1⟩ := q1
    show AW _ _ _ _ _ (Value.null :: _) _ _ _
    refine aw_astore (lv' := [_, _, _, _, _]) (pc' := 7) dX11_row_5 rfl (Nat.le_of_ble_eq_true rfl) rfl rfl ?_
    refine aw_aload (pc' := 9) dX11_row_7 rfl rfl rfl ?_
    refine aw_ifnull_n (tgt := 27) dX11_row_9 (by decide) ?_
    refine aw_iconst (v := (-1)) (pc' := 28) dX11_row_27 rfl ic_m1 ?_
    obtain ⟨rfl, rfl⟩ := so2 hf
    exact aw_ri dX11_row_28 rfl rfl (Nat.le_of_ble_eq_true rfl) (Nat.le_of_ble_eq_true rfl) ⟨rfl, H0, (Mo.rf _)⟩
  · refine aw_callVa (M' := mX11_shelfOf) (nc' := 0) (ns' := 0) (pc' := 5) dX11_row_2 rfl ml_RX11_190 kX11_shelfOf (t_X11_shelfOf H0 ec1) (H0.ob (H0.fo rfl rfl) (by decide)) rfl rfl rfl (Nat.le_of_ble_eq_true rfl) (rokD (by omega) (Nat.le_of_ble_eq_true rfl) (Nat.le_of_ble_eq_true rfl) (Nat.le_of_ble_eq_true rfl)) rfl rfl (fun _ h1 q1 => ?_)
    obtain ⟨rfl, rfl, oo1⟩ := q1
    show AW _ _ _ _ _ (Value.ref (p1 + 8) :: _) _ _ _
    have o_p1 : okV p1 := oo1 _ rfl
    refine aw_astore (lv' := [_, _, _, _, _]) (pc' := 7) dX11_row_5 rfl (Nat.le_of_ble_eq_true rfl) rfl rfl ?_
    refine aw_aload (pc' := 9) dX11_row_7 rfl rfl rfl ?_
    refine aw_ifnull_r (pc' := 12) dX11_row_9 rfl ?_
    refine aw_iload_n (pc' := 13) dX11_row_12 rfl rfl ?_
    refine aw_zlt (tgt := 27) (pc' := 16) dX11_row_13 rfl rfl (fun c2 => ?_) (fun c2 => ?_)
    · replace hf := ifp c2 hf
      refine aw_iconst (v := (-1)) (pc' := 28) dX11_row_27 rfl ic_m1 ?_
      obtain ⟨rfl, rfl⟩ := so2 hf
      exact aw_ri dX11_row_28 rfl rfl (Nat.le_of_ble_eq_true rfl) (Nat.le_of_ble_eq_true rfl) ⟨rfl, H0, (Mo.rf _)⟩
    · replace hf := ifn c2 hf
      refine aw_iload_n (pc' := 17) dX11_row_16 rfl rfl ?_
      refine aw_iconst (v := 4) (pc' := 18) dX11_row_17 rfl ic_4 ?_
      refine aw_cgt (tgt := 27) (pc' := 21) dX11_row_18 rfl rfl (fun c3 => ?_) (fun c3 => ?_)
      · replace hf := ifp c3 hf
        refine aw_iconst (v := (-1)) (pc' := 28) dX11_row_27 rfl ic_m1 ?_
        obtain ⟨rfl, rfl⟩ := so2 hf
        exact aw_ri dX11_row_28 rfl rfl (Nat.le_of_ble_eq_true rfl) (Nat.le_of_ble_eq_true rfl) ⟨rfl, H0, (Mo.rf _)⟩
      · replace hf := ifn c3 hf
        refine aw_iload_n (pc' := 22) dX11_row_21 rfl rfl ?_
        refine aw_bipush (v := 60) (pc' := 24) dX11_row_22 rfl bp_60 ?_
        refine aw_cle (tgt := 29) (pc' := 27) dX11_row_24 rfl rfl (fun c4 => ?_) (fun c4 => ?_)
        · replace hf := ifn c4 hf
          refine aw_iload_n (pc' := 30) dX11_row_29 rfl rfl ?_
          refine aw_zge (tgt := 36) (pc' := 33) dX11_row_30 rfl rfl (fun c5 => ?_) (fun c5 => ?_)
          · replace hf := ifn c5 hf
            refine aw_aload (pc' := 38) dX11_row_36 rfl rfl rfl ?_
            refine aw_iload_n (pc' := 39) dX11_row_38 rfl rfl ?_
            refine aw_iload_n (pc' := 40) dX11_row_39 rfl rfl ?_
            obtain ⟨s6, ec6, hf⟩ := b1_e hf
            refine aw_callVv (M' := mX8_becomesRow) (nc' := 0) (ns' := 0) (pc' := 43) dX11_row_40 rfl ml_RX11_414 kX8_becomesRow (t_X8_becomesRow H0 o_p1 ec6) (H0.ob (okV.ob o_p1 H0) (by decide)) rfl rfl rfl (Nat.le_of_ble_eq_true rfl) (rokD (by omega) (Nat.le_of_ble_eq_true rfl) (Nat.le_of_ble_eq_true rfl) (Nat.le_of_ble_eq_true rfl)) rfl rfl (fun h6 q6 => ?_)
            obtain ⟨H6, m6⟩ := q6
            refine aw_iconst (v := 1) (pc' := 44) dX11_row_43 rfl ic_1 ?_
            obtain ⟨rfl, rfl⟩ := so2 hf
            exact aw_ri dX11_row_44 rfl rfl (Nat.le_of_ble_eq_true rfl) (Nat.le_of_ble_eq_true rfl) ⟨rfl, H6, m6⟩
          · replace hf := ifp c5 hf
            refine aw_bipush (v := (-14)) (pc' := 35) dX11_row_33 rfl bp_m14 ?_
            obtain ⟨rfl, rfl⟩ := so2 hf
            exact aw_ri dX11_row_35 rfl rfl (Nat.le_of_ble_eq_true rfl) (Nat.le_of_ble_eq_true rfl) ⟨rfl, H0, (Mo.rf _)⟩
        · replace hf := ifp c4 hf
          refine aw_iconst (v := (-1)) (pc' := 28) dX11_row_27 rfl ic_m1 ?_
          obtain ⟨rfl, rfl⟩ := so2 hf
          exact aw_ri dX11_row_28 rfl rfl (Nat.le_of_ble_eq_true rfl) (Nat.le_of_ble_eq_true rfl) ⟨rfl, H0, (Mo.rf _)⟩
/-! ThirtyThreeBelow.put -/
noncomputable def f_X11_put (s0 : SS) (a0 : Int32) (a1 : Int32) (a2 : Int64) : Option (Int32 × SS) := (b1 (f_X11_shelfOf s0 a0) fun r1 => (on r1 (some ((-1), s0)) fun p1 => (b1 (f_X8_isReal s0 p1) fun r2 => (jn ((b1 (f_X8_refusal s0 p1 a1) fun r4 => (jn (fun (s5 : SS)  => (if r4 = (0 : Int32) then some (1, s5) else some (r4, s5))) fun k5 => (if r4 = (0 : Int32) then (b1 (f_X8_narrowed s0 p1 a2) fun r8 => (gd (inB a1 60) (st (pJ s0 (p1 + 1) (a1.toInt.toNat) r8) fun s11 => (k5 s11)))) else (k5 s0))))) fun k3 => (if r2 = (0 : Int32) then k3 else (if (lg_cmp a2 (-9999)) < (0 : Int32) then some ((-1), s0) else (if (0 : Int32) < (lg_cmp a2 9999) then some ((-1), s0) else k3)))))))
set_option maxRecDepth 4000 in
theorem t_X11_put {r9 : Int32} {s0 s9 : SS} {h0 : List aE} {a0 : Int32} {a1 : Int32} {a2 : Int64} (H0 : HH s0 h0) (hf : f_X11_put s0 a0 a1 a2 = some (r9, s9)) : AM mX11_put (1) [.ref 8, .int a0, .int a1, .long a2] h0 0 0 (PI fun r' h' => r9 = r' ∧ HH s9 h' ∧ Mo s0 s9) := by
  unfold f_X11_put at hf
  refine am_of (lv := [some (.ref 8), some (.int a0), some (.int a1), some (.long a2), none, none, none]) rfl (Nat.le_of_ble_eq_true rfl) rfl ?_
  refine aw_aload_n (pc' := 1) dX11_put_0 rfl rfl rfl ?_
  refine aw_iload_n (pc' := 2) dX11_put_1 rfl rfl ?_
  obtain ⟨r1, ec1, hf⟩ := b1_e hf
  replace hf := on_e hf
  rcases hf with ⟨rfl, hf⟩ | ⟨p1, rfl, hf⟩
  · refine aw_callVa (M' := mX11_shelfOf) (nc' := 0) (ns' := 0) (pc' := 5) dX11_put_2 rfl ml_RX11_190 kX11_shelfOf (t_X11_shelfOf H0 ec1) (H0.ob (H0.fo rfl rfl) (by decide)) rfl rfl rfl (Nat.le_of_ble_eq_true rfl) (rokD (by omega) (Nat.le_of_ble_eq_true rfl) (Nat.le_of_ble_eq_true rfl) (Nat.le_of_ble_eq_true rfl)) rfl rfl (fun _ h1 q1 => ?_)
    obtain ⟨rfl, rfl, oo1⟩ := q1
    show AW _ _ _ _ _ (Value.null :: _) _ _ _
    refine aw_astore (lv' := [_, _, _, _, _, _, _]) (pc' := 7) dX11_put_5 rfl (Nat.le_of_ble_eq_true rfl) rfl rfl ?_
    refine aw_aload (pc' := 9) dX11_put_7 rfl rfl rfl ?_
    refine aw_ifnull_n (tgt := 36) dX11_put_9 (by decide) ?_
    refine aw_iconst (v := (-1)) (pc' := 37) dX11_put_36 rfl ic_m1 ?_
    obtain ⟨rfl, rfl⟩ := so2 hf
    exact aw_ri dX11_put_37 rfl rfl (Nat.le_of_ble_eq_true rfl) (Nat.le_of_ble_eq_true rfl) ⟨rfl, H0, (Mo.rf _)⟩
  · refine aw_callVa (M' := mX11_shelfOf) (nc' := 0) (ns' := 0) (pc' := 5) dX11_put_2 rfl ml_RX11_190 kX11_shelfOf (t_X11_shelfOf H0 ec1) (H0.ob (H0.fo rfl rfl) (by decide)) rfl rfl rfl (Nat.le_of_ble_eq_true rfl) (rokD (by omega) (Nat.le_of_ble_eq_true rfl) (Nat.le_of_ble_eq_true rfl) (Nat.le_of_ble_eq_true rfl)) rfl rfl (fun _ h1 q1 => ?_)
    obtain ⟨rfl, rfl, oo1⟩ := q1
    show AW _ _ _ _ _ (Value.ref (p1 + 8) :: _) _ _ _
    have o_p1 : okV p1 := oo1 _ rfl
    refine aw_astore (lv' := [_, _, _, _, _, _, _]) (pc' := 7) dX11_put_5 rfl (Nat.le_of_ble_eq_true rfl) rfl rfl ?_
    refine aw_aload (pc' := 9) dX11_put_7 rfl rfl rfl ?_
    refine aw_ifnull_r (pc' := 12) dX11_put_9 rfl ?_
    refine aw_aload (pc' := 14) dX11_put_12 rfl rfl rfl ?_
    obtain ⟨r2, ec2, hf⟩ := b1_e hf
    refine aw_callVi (M' := mX8_isReal) (nc' := 0) (ns' := 0) (pc' := 17) dX11_put_14 rfl ml_RX11_197 kX8_isReal (t_X8_isReal H0 o_p1 ec2) (H0.ob (okV.ob o_p1 H0) (by decide)) rfl rfl rfl (Nat.le_of_ble_eq_true rfl) (rokD (by omega) (Nat.le_of_ble_eq_true rfl) (Nat.le_of_ble_eq_true rfl) (Nat.le_of_ble_eq_true rfl)) rfl rfl (fun _ h2 q2 => ?_)
    obtain ⟨rfl, rfl, zb2⟩ := q2
    obtain ⟨k3, ek3, hf⟩ := jn_e hf
    have hk3 : k3 = some (r9, s9) → AW mX11_put (rmD (1) 0 0) (fin (PI fun r' h' => r9 = r' ∧ HH s9 h' ∧ Mo s0 s9) 0 0) 38 [none, none, some (.int a1), some (.long a2), none, some (.ref (p1 + 8)), none] [] h0 0 0 := by
      intro hf
      subst ek3
      refine aw_aload (pc' := 40) dX11_put_38 rfl rfl rfl ?_
      refine aw_iload_n (pc' := 41) dX11_put_40 rfl rfl ?_
      obtain ⟨r4, ec4, hf⟩ := b1_e hf
      refine aw_callVi (M' := mX8_refusal) (nc' := 0) (ns' := 0) (pc' := 44) dX11_put_41 rfl ml_RX11_421 kX8_refusal (t_X8_refusal H0 o_p1 ec4) (H0.ob (okV.ob o_p1 H0) (by decide)) rfl rfl rfl (Nat.le_of_ble_eq_true rfl) (rokD (by omega) (Nat.le_of_ble_eq_true rfl) (Nat.le_of_ble_eq_true rfl) (Nat.le_of_ble_eq_true rfl)) rfl rfl (fun _ h4 q4 => ?_)
      obtain ⟨rfl, rfl⟩ := q4
      refine aw_istore (lv' := [_, _, _, _, _, _, _]) (pc' := 46) dX11_put_44 rfl (Nat.le_of_ble_eq_true rfl) rfl ?_
      refine aw_iload (pc' := 48) dX11_put_46 rfl rfl ?_
      obtain ⟨k5, ek5, hf⟩ := jn_e hf
      have hk5 : ∀ (s5 : SS) (h5 : List aE), HH s5 h5 → Mo s0 s5 → k5 s5 = some (r9, s9) → AW mX11_put (rmD (1) 0 0) (fin (PI fun r' h' => r9 = r' ∧ HH s9 h' ∧ Mo s0 s9) 0 0) 64 [none, none, none, none, none, none, some (.int r4)] [] h5 0 0 := by
        intro s5 h5 H5 m5 hf
        subst ek5
        refine aw_iload (pc' := 66) dX11_put_64 rfl rfl ?_
        refine aw_if_ne (tgt := 73) (pc' := 69) dX11_put_66 rfl rfl (fun c6 => ?_) (fun c6 => ?_)
        · replace hf := ifn c6 hf
          refine aw_iload (pc' := 75) dX11_put_73 rfl rfl ?_
          obtain ⟨rfl, rfl⟩ := so2 hf
          exact aw_ri dX11_put_75 rfl rfl (Nat.le_of_ble_eq_true rfl) (Nat.le_of_ble_eq_true rfl) ⟨rfl, H5, m5⟩
        · replace hf := ifp c6 hf
          refine aw_iconst (v := 1) (pc' := 70) dX11_put_69 rfl ic_1 ?_
          refine aw_goto (tgt := 75) dX11_put_70 rfl ?_
          obtain ⟨rfl, rfl⟩ := so2 hf
          exact aw_ri dX11_put_75 rfl rfl (Nat.le_of_ble_eq_true rfl) (Nat.le_of_ble_eq_true rfl) ⟨rfl, H5, m5⟩
      clear ek5
      refine aw_if_ne (tgt := 64) (pc' := 51) dX11_put_48 rfl rfl (fun c7 => ?_) (fun c7 => ?_)
      · replace hf := ifn c7 hf
        refine AW.lv_le (lz_d (lz_d (lz_d (lz_d (lz_d (lz_d (lz_k lz_0))))))) ?_
        exact hk5 _ _ H0 (Mo.rf _) hf
      · replace hf := ifp c7 hf
        refine aw_aload (pc' := 53) dX11_put_51 rfl rfl rfl ?_
        refine aw_gr (q := p1) (e := 3) (v := .ref (p1 + 1 + 8)) (pc' := 56) H0 (okV.ob o_p1 H0) (by decide) rfl rfl dX11_put_53 rfl fl_RX11_424 ?_
        refine aw_iload_n (pc' := 57) dX11_put_56 rfl rfl ?_
        refine aw_aload (pc' := 59) dX11_put_57 rfl rfl rfl ?_
        refine aw_lload_n (pc' := 60) dX11_put_59 rfl rfl ?_
        obtain ⟨r8, ec8, hf⟩ := b1_e hf
        refine aw_callVl (M' := mX8_narrowed) (nc' := 0) (ns' := 0) (pc' := 63) dX11_put_60 rfl ml_RX11_428 kX8_narrowed (t_X8_narrowed H0 o_p1 ec8) (H0.ob (okV.ob o_p1 H0) (by decide)) rfl rfl rfl (Nat.le_of_ble_eq_true rfl) (rokD (by omega) (Nat.le_of_ble_eq_true rfl) (Nat.le_of_ble_eq_true rfl) (Nat.le_of_ble_eq_true rfl)) rfl rfl (fun _ h8 q8 => ?_)
        obtain ⟨rfl, rfl⟩ := q8
        obtain ⟨g10, hf⟩ := gd_e hf
        obtain ⟨s11, es11, hf⟩ := st_e hf
        refine aw_js (q := (p1 + 1)) (pc' := 64) es11 H0 (okV.a1 o_p1 H0) g10 dX11_put_63 rfl (fun h11 H11 => ?_)
        have m11 := Mo.ofJ es11
        refine AW.lv_le (lz_d (lz_d (lz_d (lz_d (lz_d (lz_d (lz_k lz_0))))))) ?_
        exact hk5 _ _ H11 m11 hf
    clear ek3
    refine aw_if_eq (tgt := 38) (pc' := 20) dX11_put_17 rfl rfl (fun c12 => ?_) (fun c12 => ?_)
    · replace hf := ifp c12 hf
      refine AW.lv_le (lz_d (lz_d (lz_k (lz_k (lz_d (lz_k (lz_d lz_0))))))) ?_
      exact hk3  hf
    · replace hf := ifn c12 hf
      refine aw_lload_n (pc' := 21) dX11_put_20 rfl rfl ?_
      refine aw_ldc2 (pc' := 24) dX11_put_21 rfl ct_RX11_417 ?_
      refine aw_lcmp (pc' := 25) dX11_put_24 rfl ?_
      refine aw_zlt (tgt := 36) (pc' := 28) dX11_put_25 rfl rfl (fun c13 => ?_) (fun c13 => ?_)
      · replace hf := ifp c13 hf
        refine aw_iconst (v := (-1)) (pc' := 37) dX11_put_36 rfl ic_m1 ?_
        obtain ⟨rfl, rfl⟩ := so2 hf
        exact aw_ri dX11_put_37 rfl rfl (Nat.le_of_ble_eq_true rfl) (Nat.le_of_ble_eq_true rfl) ⟨rfl, H0, (Mo.rf _)⟩
      · replace hf := ifn c13 hf
        refine aw_lload_n (pc' := 29) dX11_put_28 rfl rfl ?_
        refine aw_ldc2 (pc' := 32) dX11_put_29 rfl ct_RX11_419 ?_
        refine aw_lcmp (pc' := 33) dX11_put_32 rfl ?_
        refine aw_zle (tgt := 38) (pc' := 36) dX11_put_33 rfl rfl (fun c14 => ?_) (fun c14 => ?_)
        · replace hf := ifn c14 hf
          refine AW.lv_le (lz_d (lz_d (lz_k (lz_k (lz_d (lz_k (lz_d lz_0))))))) ?_
          exact hk3  hf
        · replace hf := ifp c14 hf
          refine aw_iconst (v := (-1)) (pc' := 37) dX11_put_36 rfl ic_m1 ?_
          obtain ⟨rfl, rfl⟩ := so2 hf
          exact aw_ri dX11_put_37 rfl rfl (Nat.le_of_ble_eq_true rfl) (Nat.le_of_ble_eq_true rfl) ⟨rfl, H0, (Mo.rf _)⟩
