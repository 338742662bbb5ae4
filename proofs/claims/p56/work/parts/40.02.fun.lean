/-! ThirtyThreeBelow$Plans.aimTold -/
noncomputable def f_X6_aimTold (s0 : SS) (a0 : Int32) : Option (Int32 × SS) := (if (zS s0 34 9) < (6 : Int32) then (vl ((zS s0 34 9)) fun v2 => (gd (inB v2 6) (st (pI s0 41 (v2.toInt.toNat) a0) fun s4 => (vl (((zS s4 34 9) + (1 : Int32))) fun v5 => (st (pS s4 34 9 v5) fun s6 => some ((zS s6 34 9), s6)))))) else some ((-3), s0))
set_option maxRecDepth 4000 in
theorem t_X6_aimTold {r9 : Int32} {s0 s9 : SS} {h0 : List aE} {a0 : Int32} (H0 : HH s0 h0) (hf : f_X6_aimTold s0 a0 = some (r9, s9)) : AM mX6_aimTold (0) [.ref 42, .int a0] h0 0 0 (PI fun r' h' => r9 = r' ∧ HH s9 h' ∧ Mo s0 s9) := by
  unfold f_X6_aimTold at hf
  refine am_of (lv := [some (.ref 42), some (.int a0)]) rfl (Nat.le_of_ble_eq_true rfl) rfl ?_
  refine aw_aload_n (pc' := 1) dX6_aimTold_0 rfl rfl rfl ?_
  refine aw_gi (q := 34) (pc' := 4) H0 (H0.fo rfl rfl) (l13 rfl) rfl dX6_aimTold_1 rfl fl_RX6_74 ?_
  refine aw_bipush (v := 6) (pc' := 6) dX6_aimTold_4 rfl bp_6 ?_
  refine aw_clt (tgt := 12) (pc' := 9) dX6_aimTold_6 rfl rfl (fun c1 => ?_) (fun c1 => ?_)
  · replace hf := ifp c1 hf
    refine aw_aload_n (pc' := 13) dX6_aimTold_12 rfl rfl rfl ?_
    refine aw_gr (q := 34) (e := 15) (v := .ref 49) (pc' := 16) H0 (H0.fo rfl rfl) (l13 rfl) rfl rfl dX6_aimTold_13 rfl fl_RX6_30 ?_
    refine aw_aload_n (pc' := 17) dX6_aimTold_16 rfl rfl rfl ?_
    refine aw_gi (q := 34) (pc' := 20) H0 (H0.fo rfl rfl) (l13 rfl) rfl dX6_aimTold_17 rfl fl_RX6_74 ?_
    refine aw_iload_n (pc' := 21) dX6_aimTold_20 rfl rfl ?_
    obtain ⟨v2, ev2, hf⟩ := vl_e hf
    refine aw_sndi ev2 ?_
    obtain ⟨g3, hf⟩ := gd_e hf
    obtain ⟨s4, es4, hf⟩ := st_e hf
    refine aw_is (q := 41) (pc' := 22) es4 H0 (H0.fa rfl rfl rfl) g3 dX6_aimTold_21 rfl (fun h4 H4 => ?_)
    have m4 := Mo.ofI es4
    refine aw_aload_n (pc' := 23) dX6_aimTold_22 rfl rfl rfl ?_
    refine aw_dup (pc' := 24) dX6_aimTold_23 rfl rfl ?_
    refine aw_gi (q := 34) (pc' := 27) H4 (H4.fo rfl rfl) (l13 rfl) rfl dX6_aimTold_24 rfl fl_RX6_74 ?_
    refine aw_iconst (v := 1) (pc' := 28) dX6_aimTold_27 rfl ic_1 ?_
    refine aw_iadd (pc' := 29) dX6_aimTold_28 rfl ?_
    obtain ⟨v5, ev5, hf⟩ := vl_e hf
    refine aw_topi ev5 ?_
    obtain ⟨s6, es6, hf⟩ := st_e hf
    refine aw_pi (q := 34) (pc' := 32) es6 H4 (H4.fo rfl rfl) (by decide) rfl dX6_aimTold_29 rfl fl_RX6_74 rfl (fun h6 H6 => ?_)
    have m6 := Mo.ofS es6
    refine aw_aload_n (pc' := 33) dX6_aimTold_32 rfl rfl rfl ?_
    refine aw_gi (q := 34) (pc' := 36) H6 (H6.fo rfl rfl) (l13 rfl) rfl dX6_aimTold_33 rfl fl_RX6_74 ?_
    obtain ⟨rfl, rfl⟩ := so2 hf
    exact aw_ri dX6_aimTold_36 rfl rfl (Nat.le_of_ble_eq_true rfl) (Nat.le_of_ble_eq_true rfl) ⟨rfl, H6, (m4.tr m6)⟩
  · replace hf := ifn c1 hf
    refine aw_bipush (v := (-3)) (pc' := 11) dX6_aimTold_9 rfl bp_m3 ?_
    obtain ⟨rfl, rfl⟩ := so2 hf
    exact aw_ri dX6_aimTold_11 rfl rfl (Nat.le_of_ble_eq_true rfl) (Nat.le_of_ble_eq_true rfl) ⟨rfl, H0, (Mo.rf _)⟩
/-! ThirtyThreeBelow$Plans.weighPlaces -/
noncomputable def f_X6_weighPlaces_L16_b (q0 : Int32 → Option SS) (sb : SS) (y1 : Int32) (y2 : Int32) (y3 : Int32) (rc : Int32 → Int32 → Option SS) (x4 : Int32) (x5 : Int32) : Option SS := (if x5 < y1 then (if x5 < (4 : Int32) then (vl (((x5 * (6 : Int32)) + y3)) fun v4 => (gd (inB v4 24) (b1 (f_J9_max_7cf53 x4 (zI sb 42 (v4.toInt.toNat))) fun r6 => (vl (x5 + 1) fun v7 => (rc r6 v7))))) else (q0 x4)) else (q0 x4))
noncomputable def f_X6_weighPlaces_L16 (q0 : Int32 → Option SS) (sb : SS) (y1 : Int32) (y2 : Int32) (y3 : Int32) : Nat → Int32 → Int32 → Option SS
  | 0, _, _ => none
  | n + 1, x4, x5 => f_X6_weighPlaces_L16_b q0 sb y1 y2 y3 (f_X6_weighPlaces_L16 q0 sb y1 y2 y3 n) x4 x5
set_option maxRecDepth 4000 in
theorem t_X6_weighPlaces_L16 {s0 sb s9 : SS} {hb : List aE} {q0 : Int32 → Option SS} {y1 : Int32} {y2 : Int32} {y3 : Int32} (Hb : HH sb hb) (mb : Mo s0 sb) (hq0 : ∀ (x4 : Int32), q0 x4 = some s9 → AW mX6_weighPlaces (rmD (1) 0 0) (fin (PV fun h' => HH s9 h' ∧ Mo s0 s9) 0 0) 53 [some (.ref 42), some (.int y1), some (.int y2), some (.int y3), some (.int x4), none] [] hb 0 0) : ∀ (n : Nat) (x4 : Int32) (x5 : Int32), f_X6_weighPlaces_L16 q0 sb y1 y2 y3 n x4 x5 = some s9 → AW mX6_weighPlaces (rmD (1) 0 0) (fin (PV fun h' => HH s9 h' ∧ Mo s0 s9) 0 0) 16 [some (.ref 42), some (.int y1), some (.int y2), some (.int y3), some (.int x4), some (.int x5)] [] hb 0 0 := by
  intro n
  induction n with
  | zero =>
    intro x4 x5 hf
    cases hf
  | succ n ih =>
    intro x4 x5 hf
    replace hf : f_X6_weighPlaces_L16_b q0 sb y1 y2 y3 (f_X6_weighPlaces_L16 q0 sb y1 y2 y3 n) x4 x5 = some s9 := hf
    unfold f_X6_weighPlaces_L16_b at hf
    refine aw_iload (pc' := 18) dX6_weighPlaces_16 rfl rfl ?_
    refine aw_iload_n (pc' := 19) dX6_weighPlaces_18 rfl rfl ?_
    refine aw_cge (tgt := 53) (pc' := 22) dX6_weighPlaces_19 rfl rfl (fun c2 => ?_) (fun c2 => ?_)
    · replace hf := ifn c2 hf
      refine AW.lv_le (lz_k (lz_k (lz_k (lz_k (lz_k (lz_d lz_0)))))) ?_
      exact hq0 _ hf
    · replace hf := ifp c2 hf
      refine aw_iload (pc' := 24) dX6_weighPlaces_22 rfl rfl ?_
      refine aw_iconst (v := 4) (pc' := 25) dX6_weighPlaces_24 rfl ic_4 ?_
      refine aw_cge (tgt := 53) (pc' := 28) dX6_weighPlaces_25 rfl rfl (fun c3 => ?_) (fun c3 => ?_)
      · replace hf := ifn c3 hf
        refine AW.lv_le (lz_k (lz_k (lz_k (lz_k (lz_k (lz_d lz_0)))))) ?_
        exact hq0 _ hf
      · replace hf := ifp c3 hf
        refine aw_iload (pc' := 30) dX6_weighPlaces_28 rfl rfl ?_
        refine aw_aload_n (pc' := 31) dX6_weighPlaces_30 rfl rfl rfl ?_
        refine aw_gr (q := 34) (e := 17) (v := .ref 50) (pc' := 34) Hb (Hb.fo rfl rfl) (by decide) rfl rfl dX6_weighPlaces_31 rfl fl_RX6_33 ?_
        refine aw_iload (pc' := 36) dX6_weighPlaces_34 rfl rfl ?_
        refine aw_bipush (v := 6) (pc' := 38) dX6_weighPlaces_36 rfl bp_6 ?_
        refine aw_imul (pc' := 39) dX6_weighPlaces_38 rfl ?_
        refine aw_iload_n (pc' := 40) dX6_weighPlaces_39 rfl rfl ?_
        refine aw_iadd (pc' := 41) dX6_weighPlaces_40 rfl ?_
        obtain ⟨v4, ev4, hf⟩ := vl_e hf
        refine aw_topi ev4 ?_
        obtain ⟨g5, hf⟩ := gd_e hf
        refine aw_ia (q := 42) (pc' := 42) Hb (Hb.fa rfl rfl rfl) g5 dX6_weighPlaces_41 rfl ?_
        obtain ⟨r6, ec6, hf⟩ := b1_e hf
        refine aw_callSi (M' := mJ9_max_7cf53) (nc' := 0) (ns' := 0) (pc' := 45) dX6_weighPlaces_42 rfl ml_RX6_68 kJ9_max_7cf53 (t_J9_max_7cf53 ec6) rfl rfl (Nat.le_of_ble_eq_true rfl) (rokD (by omega) (Nat.le_of_ble_eq_true rfl) (Nat.le_of_ble_eq_true rfl) (Nat.le_of_ble_eq_true rfl)) rfl rfl (fun _ h6 q6 => ?_)
        obtain ⟨rfl, rfl⟩ := q6
        refine aw_istore (lv' := [_, _, _, _, _, _]) (pc' := 47) dX6_weighPlaces_45 rfl (Nat.le_of_ble_eq_true rfl) rfl ?_
        obtain ⟨v7, ev7, hf⟩ := vl_e hf
        refine aw_iincV (y := v7) (lv' := [_, _, _, _, _, _]) (pc' := 50) dX6_weighPlaces_47 rfl rfl (Nat.le_of_ble_eq_true rfl) ev7 rfl ?_
        refine aw_goto (tgt := 16) dX6_weighPlaces_50 rfl ?_
        exact ih _ _ hf
noncomputable def f_X6_weighPlaces_L2_b (y1 : Int32) (y2 : Int32) (rc : SS → Int32 → Option SS) (s : SS) (x3 : Int32) : Option SS := (if x3 < (zS s 34 9) then (f_X6_weighPlaces_L16 (fun (x8_4 : Int32) => (gd (inB x3 6) (vl (((((zI s 41 (x3.toInt.toNat)) + (1 : Int32)) * y2) * x8_4)) fun v11 => (gd (inB x3 6) (st (pI s 43 (x3.toInt.toNat) v11) fun s13 => (vl (x3 + 1) fun v14 => (rc s13 v14))))))) s y1 y2 x3 4000 1 0) else some s)
noncomputable def f_X6_weighPlaces_L2 (y1 : Int32) (y2 : Int32) : Nat → SS → Int32 → Option SS
  | 0, _, _ => none
  | n + 1, s, x3 => f_X6_weighPlaces_L2_b y1 y2 (f_X6_weighPlaces_L2 y1 y2 n) s x3
set_option maxRecDepth 4000 in
theorem t_X6_weighPlaces_L2 {s0 sb s9 : SS} {y1 : Int32} {y2 : Int32} (mb : Mo s0 sb)  : ∀ (n : Nat) (s : SS) (h : List aE) (x3 : Int32), HH s h → Mo sb s → f_X6_weighPlaces_L2 y1 y2 n s x3 = some s9 → AW mX6_weighPlaces (rmD (1) 0 0) (fin (PV fun h' => HH s9 h' ∧ Mo s0 s9) 0 0) 2 [some (.ref 42), some (.int y1), some (.int y2), some (.int x3), none, none] [] h 0 0 := by
  intro n
  induction n with
  | zero =>
    intro s h x3 H ms hf
    cases hf
  | succ n ih =>
    intro s h x3 H ms hf
    replace hf : f_X6_weighPlaces_L2_b y1 y2 (f_X6_weighPlaces_L2 y1 y2 n) s x3 = some s9 := hf
    unfold f_X6_weighPlaces_L2_b at hf
    refine aw_iload_n (pc' := 3) dX6_weighPlaces_2 rfl rfl ?_
    refine aw_aload_n (pc' := 4) dX6_weighPlaces_3 rfl rfl rfl ?_
    refine aw_gi (q := 34) (pc' := 7) H (H.fo rfl rfl) (by decide) rfl dX6_weighPlaces_4 rfl fl_RX6_74 ?_
    refine aw_cge (tgt := 78) (pc' := 10) dX6_weighPlaces_7 rfl rfl (fun c1 => ?_) (fun c1 => ?_)
    · replace hf := ifn c1 hf
      obtain rfl := Option.some.inj hf
      exact aw_rv dX6_weighPlaces_78 rfl (Nat.le_of_ble_eq_true rfl) (Nat.le_of_ble_eq_true rfl) ⟨H, (mb.tr ms)⟩
    · replace hf := ifp c1 hf
      refine aw_iconst (v := 1) (pc' := 11) dX6_weighPlaces_10 rfl ic_1 ?_
      refine aw_istore (lv' := [_, _, _, _, _, _]) (pc' := 13) dX6_weighPlaces_11 rfl (Nat.le_of_ble_eq_true rfl) rfl ?_
      refine aw_iconst (v := 0) (pc' := 14) dX6_weighPlaces_13 rfl ic_0 ?_
      refine aw_istore (lv' := [_, _, _, _, _, _]) (pc' := 16) dX6_weighPlaces_14 rfl (Nat.le_of_ble_eq_true rfl) rfl ?_
      refine t_X6_weighPlaces_L16 H (mb.tr ms) (fun x8_4 hf => ?_) 4000 _ _ hf
      refine aw_aload_n (pc' := 54) dX6_weighPlaces_53 rfl rfl rfl ?_
      refine aw_gr (q := 34) (e := 19) (v := .ref 51) (pc' := 57) H (H.fo rfl rfl) (by decide) rfl rfl dX6_weighPlaces_54 rfl fl_RX6_36 ?_
      refine aw_iload_n (pc' := 58) dX6_weighPlaces_57 rfl rfl ?_
      refine aw_aload_n (pc' := 59) dX6_weighPlaces_58 rfl rfl rfl ?_
      refine aw_gr (q := 34) (e := 15) (v := .ref 49) (pc' := 62) H (H.fo rfl rfl) (by decide) rfl rfl dX6_weighPlaces_59 rfl fl_RX6_30 ?_
      refine aw_iload_n (pc' := 63) dX6_weighPlaces_62 rfl rfl ?_
      obtain ⟨g10, hf⟩ := gd_e hf
      refine aw_ia (q := 41) (pc' := 64) H (H.fa rfl rfl rfl) g10 dX6_weighPlaces_63 rfl ?_
      refine aw_iconst (v := 1) (pc' := 65) dX6_weighPlaces_64 rfl ic_1 ?_
      refine aw_iadd (pc' := 66) dX6_weighPlaces_65 rfl ?_
      refine aw_iload_n (pc' := 67) dX6_weighPlaces_66 rfl rfl ?_
      refine aw_imul (pc' := 68) dX6_weighPlaces_67 rfl ?_
      refine aw_iload (pc' := 70) dX6_weighPlaces_68 rfl rfl ?_
      refine aw_imul (pc' := 71) dX6_weighPlaces_70 rfl ?_
      obtain ⟨v11, ev11, hf⟩ := vl_e hf
      refine aw_topi ev11 ?_
      obtain ⟨g12, hf⟩ := gd_e hf
      obtain ⟨s13, es13, hf⟩ := st_e hf
      refine aw_is (q := 43) (pc' := 72) es13 H (H.fa rfl rfl rfl) g12 dX6_weighPlaces_71 rfl (fun h13 H13 => ?_)
      have m13 := Mo.ofI es13
      obtain ⟨v14, ev14, hf⟩ := vl_e hf
      refine aw_iincV (y := v14) (lv' := [_, _, _, _, _, _]) (pc' := 75) dX6_weighPlaces_72 rfl rfl (Nat.le_of_ble_eq_true rfl) ev14 rfl ?_
      refine aw_goto (tgt := 2) dX6_weighPlaces_75 rfl ?_
      refine AW.lv_le (lz_k (lz_k (lz_k (lz_k (lz_d (lz_d lz_0)))))) ?_
      exact ih _ _ _ H13 (ms.tr m13) hf
noncomputable def f_X6_weighPlaces (s0 : SS) (a0 : Int32) (a1 : Int32) : Option SS := (f_X6_weighPlaces_L2 a0 a1 4000 s0 0)
set_option maxRecDepth 4000 in
theorem t_X6_weighPlaces {s0 s9 : SS} {h0 : List aE} {a0 : Int32} {a1 : Int32} (H0 : HH s0 h0) (hf : f_X6_weighPlaces s0 a0 a1 = some s9) : AM mX6_weighPlaces (1) [.ref 42, .int a0, .int a1] h0 0 0 (PV fun h' => HH s9 h' ∧ Mo s0 s9) := by
  unfold f_X6_weighPlaces at hf
  refine am_of (lv := [some (.ref 42), some (.int a0), some (.int a1), none, none, none]) rfl (Nat.le_of_ble_eq_true rfl) rfl ?_
  refine aw_iconst (v := 0) (pc' := 1) dX6_weighPlaces_0 rfl ic_0 ?_
  refine aw_istore_n (lv' := [_, _, _, _, _, _]) (pc' := 2) dX6_weighPlaces_1 rfl (Nat.le_of_ble_eq_true rfl) rfl ?_
  refine t_X6_weighPlaces_L2 (Mo.rf _)  4000 _ _ _ H0 (Mo.rf _) hf
/-! ThirtyThreeBelow$Plans.soonestOne -/
noncomputable def f_X6_soonestOne_L16_b (q0 : SS → Int32 → Option (Int32 × SS)) (y3 : Int32) (rc : SS → Int32 → Int32 → Option (Int32 × SS)) (s : SS) (x2 : Int32) (x4 : Int32) : Option (Int32 × SS) := (if x4 < (3 : Int32) then (gd (inB y3 6) (gd (inB x4 3) (on (zR s 19 (x4.toInt.toNat)) none fun p5 => (vl (((zI s 43 (y3.toInt.toNat)) * (zS s p5 0))) fun v6 => (jn (fun (s7 : SS) (j7_2 : Int32) => (vl (x4 + 1) fun v8 => (rc s7 j7_2 v8))) fun k7 => (if v6 < x2 then (st (pI s 44 ((0 : Int32).toInt.toNat) y3) fun s11 => (st (pI s11 45 ((0 : Int32).toInt.toNat) x4) fun s12 => (k7 s12 v6))) else (k7 s x2))))))) else (q0 s x2))
noncomputable def f_X6_soonestOne_L16 (q0 : SS → Int32 → Option (Int32 × SS)) (y3 : Int32) : Nat → SS → Int32 → Int32 → Option (Int32 × SS)
  | 0, _, _, _ => none
  | n + 1, s, x2, x4 => f_X6_soonestOne_L16_b q0 y3 (f_X6_soonestOne_L16 q0 y3 n) s x2 x4
set_option maxRecDepth 4000 in
theorem t_X6_soonestOne_L16 {r9 : Int32} {s0 sb s9 : SS} {q0 : SS → Int32 → Option (Int32 × SS)} {y3 : Int32} (mb : Mo s0 sb) (hq0 : ∀ (s : SS) (h : List aE) (x2 : Int32), HH s h → Mo sb s → q0 s x2 = some (r9, s9) → AW mX6_soonestOne (rmD (0) 0 0) (fin (PI fun r' h' => r9 = r' ∧ HH s9 h' ∧ Mo s0 s9) 0 0) 69 [some (.ref 42), some (.ref 27), some (.int x2), some (.int y3), none, none] [] h 0 0) : ∀ (n : Nat) (s : SS) (h : List aE) (x2 : Int32) (x4 : Int32), HH s h → Mo sb s → f_X6_soonestOne_L16 q0 y3 n s x2 x4 = some (r9, s9) → AW mX6_soonestOne (rmD (0) 0 0) (fin (PI fun r' h' => r9 = r' ∧ HH s9 h' ∧ Mo s0 s9) 0 0) 16 [some (.ref 42), some (.ref 27), some (.int x2), some (.int y3), some (.int x4), none] [] h 0 0 := by
  intro n
  induction n with
  | zero =>
    intro s h x2 x4 H ms hf
    cases hf
  | succ n ih =>
    intro s h x2 x4 H ms hf
    replace hf : f_X6_soonestOne_L16_b q0 y3 (f_X6_soonestOne_L16 q0 y3 n) s x2 x4 = some (r9, s9) := hf
    unfold f_X6_soonestOne_L16_b at hf
    refine aw_iload (pc' := 18) dX6_soonestOne_16 rfl rfl ?_
    refine aw_aload_n (pc' := 19) dX6_soonestOne_18 rfl rfl rfl ?_
    refine aw_al (q := 19) (t := 5) (v := 3) (pc' := 20) H (H.fa rfl rfl rfl) (by decide) (by decide) dX6_soonestOne_19 rfl ?_
    refine aw_cge (tgt := 69) (pc' := 23) dX6_soonestOne_20 rfl rfl (fun c2 => ?_) (fun c2 => ?_)
    · replace hf := ifn c2 hf
      refine AW.lv_le (lz_k (lz_k (lz_k (lz_k (lz_d (lz_d lz_0)))))) ?_
      exact hq0 _ _ _ H ms hf
    · replace hf := ifp c2 hf
      refine aw_aload_n (pc' := 24) dX6_soonestOne_23 rfl rfl rfl ?_
      refine aw_gr (q := 34) (e := 19) (v := .ref 51) (pc' := 27) H (H.fo rfl rfl) (by decide) rfl rfl dX6_soonestOne_24 rfl fl_RX6_36 ?_
      refine aw_iload_n (pc' := 28) dX6_soonestOne_27 rfl rfl ?_
      obtain ⟨g3, hf⟩ := gd_e hf
      refine aw_ia (q := 43) (pc' := 29) H (H.fa rfl rfl rfl) g3 dX6_soonestOne_28 rfl ?_
      refine aw_aload_n (pc' := 30) dX6_soonestOne_29 rfl rfl rfl ?_
      refine aw_iload (pc' := 32) dX6_soonestOne_30 rfl rfl ?_
      obtain ⟨g4, hf⟩ := gd_e hf
      replace hf := on_e hf
      rcases hf with ⟨eo5, hf⟩ | ⟨p5, eo5, hf⟩
      · refine aw_ra_ (q := 19) (t := 5) (pc' := 33) H (H.fa rfl rfl rfl) (by decide) (by decide) rfl g4 eo5 dX6_soonestOne_32 rfl ?_
        show AW _ _ _ _ _ (Value.null :: _) _ _ _
        cases hf
      · refine aw_ra_ (q := 19) (t := 5) (pc' := 33) H (H.fa rfl rfl rfl) (by decide) (by decide) rfl g4 eo5 dX6_soonestOne_32 rfl ?_
        show AW _ _ _ _ _ (Value.ref (p5 + 8) :: _) _ _ _
        have o_p5 : okM p5 := (ok4 H g4 eo5)
        refine aw_gi (q := p5) (pc' := 36) H (okM.ob o_p5 H) (by decide) rfl dX6_soonestOne_33 rfl fl_RX6_77 ?_
        refine aw_imul (pc' := 37) dX6_soonestOne_36 rfl ?_
        obtain ⟨v6, ev6, hf⟩ := vl_e hf
        refine aw_topi ev6 ?_
        refine aw_istore (lv' := [_, _, _, _, _, _]) (pc' := 39) dX6_soonestOne_37 rfl (Nat.le_of_ble_eq_true rfl) rfl ?_
        refine aw_iload (pc' := 41) dX6_soonestOne_39 rfl rfl ?_
        refine aw_iload_n (pc' := 42) dX6_soonestOne_41 rfl rfl ?_
        obtain ⟨k7, ek7, hf⟩ := jn_e hf
        have hk7 : ∀ (s7 : SS) (h7 : List aE) (j7_2 : Int32), HH s7 h7 → Mo s s7 → k7 s7 j7_2 = some (r9, s9) → AW mX6_soonestOne (rmD (0) 0 0) (fin (PI fun r' h' => r9 = r' ∧ HH s9 h' ∧ Mo s0 s9) 0 0) 63 [some (.ref 42), some (.ref 27), some (.int j7_2), some (.int y3), some (.int x4), none] [] h7 0 0 := by
          intro s7 h7 j7_2 H7 m7 hf
          subst ek7
          obtain ⟨v8, ev8, hf⟩ := vl_e hf
          refine aw_iincV (y := v8) (lv' := [_, _, _, _, _, _]) (pc' := 66) dX6_soonestOne_63 rfl rfl (Nat.le_of_ble_eq_true rfl) ev8 rfl ?_
          refine aw_goto (tgt := 16) dX6_soonestOne_66 rfl ?_
          exact ih _ _ _ _ H7 (ms.tr m7) hf
        clear ek7
        refine aw_cge (tgt := 63) (pc' := 45) dX6_soonestOne_42 rfl rfl (fun c10 => ?_) (fun c10 => ?_)
        · replace hf := ifn c10 hf
          refine AW.lv_le (lz_k (lz_k (lz_k (lz_k (lz_k (lz_d lz_0)))))) ?_
          exact hk7 _ _ _ H (Mo.rf _) hf
        · replace hf := ifp c10 hf
          refine aw_iload (pc' := 47) dX6_soonestOne_45 rfl rfl ?_
          refine aw_istore_n (lv' := [_, _, _, _, _, _]) (pc' := 48) dX6_soonestOne_47 rfl (Nat.le_of_ble_eq_true rfl) rfl ?_
          refine aw_aload_n (pc' := 49) dX6_soonestOne_48 rfl rfl rfl ?_
          refine aw_gr (q := 34) (e := 21) (v := .ref 52) (pc' := 52) H (H.fo rfl rfl) (by decide) rfl rfl dX6_soonestOne_49 rfl fl_RX6_39 ?_
          refine aw_iconst (v := 0) (pc' := 53) dX6_soonestOne_52 rfl ic_0 ?_
          refine aw_iload_n (pc' := 54) dX6_soonestOne_53 rfl rfl ?_
          obtain ⟨s11, es11, hf⟩ := st_e hf
          refine aw_is (q := 44) (pc' := 55) es11 H (H.fa rfl rfl rfl) (by decide) dX6_soonestOne_54 rfl (fun h11 H11 => ?_)
          have m11 := Mo.ofI es11
          refine aw_aload_n (pc' := 56) dX6_soonestOne_55 rfl rfl rfl ?_
          refine aw_gr (q := 34) (e := 23) (v := .ref 53) (pc' := 59) H11 (H11.fo rfl rfl) (l13 rfl) rfl rfl dX6_soonestOne_56 rfl fl_RX6_42 ?_
          refine aw_iconst (v := 0) (pc' := 60) dX6_soonestOne_59 rfl ic_0 ?_
          refine aw_iload (pc' := 62) dX6_soonestOne_60 rfl rfl ?_
          obtain ⟨s12, es12, hf⟩ := st_e hf
          refine aw_is (q := 45) (pc' := 63) es12 H11 (H11.fa rfl rfl rfl) (by decide) dX6_soonestOne_62 rfl (fun h12 H12 => ?_)
          have m12 := Mo.ofI es12
          refine AW.lv_le (lz_k (lz_k (lz_k (lz_k (lz_k (lz_d lz_0)))))) ?_
          exact hk7 _ _ _ H12 (m11.tr m12) hf
noncomputable def f_X6_soonestOne_L5_b (q0 : SS → Int32 → Option (Int32 × SS)) (rc : SS → Int32 → Int32 → Option (Int32 × SS)) (s : SS) (x2 : Int32) (x3 : Int32) : Option (Int32 × SS) := (if x3 < (zS s 34 9) then (f_X6_soonestOne_L16 (fun (s13 : SS) (x13_2 : Int32) => (vl (x3 + 1) fun v14 => (rc s13 x13_2 v14))) x3 4000 s x2 0) else (q0 s x2))
noncomputable def f_X6_soonestOne_L5 (q0 : SS → Int32 → Option (Int32 × SS)) : Nat → SS → Int32 → Int32 → Option (Int32 × SS)
  | 0, _, _, _ => none
  | n + 1, s, x2, x3 => f_X6_soonestOne_L5_b q0 (f_X6_soonestOne_L5 q0 n) s x2 x3
set_option maxRecDepth 4000 in
theorem t_X6_soonestOne_L5 {r9 : Int32} {s0 sb s9 : SS} {q0 : SS → Int32 → Option (Int32 × SS)} (mb : Mo s0 sb) (hq0 : ∀ (s : SS) (h : List aE) (x2 : Int32), HH s h → Mo sb s → q0 s x2 = some (r9, s9) → AW mX6_soonestOne (rmD (0) 0 0) (fin (PI fun r' h' => r9 = r' ∧ HH s9 h' ∧ Mo s0 s9) 0 0) 75 [some (.ref 42), none, some (.int x2), none, none, none] [] h 0 0) : ∀ (n : Nat) (s : SS) (h : List aE) (x2 : Int32) (x3 : Int32), HH s h → Mo sb s → f_X6_soonestOne_L5 q0 n s x2 x3 = some (r9, s9) → AW mX6_soonestOne (rmD (0) 0 0) (fin (PI fun r' h' => r9 = r' ∧ HH s9 h' ∧ Mo s0 s9) 0 0) 5 [some (.ref 42), some (.ref 27), some (.int x2), some (.int x3), none, none] [] h 0 0 := by
  intro n
  induction n with
  | zero =>
    intro s h x2 x3 H ms hf
    cases hf
  | succ n ih =>
    intro s h x2 x3 H ms hf
    replace hf : f_X6_soonestOne_L5_b q0 (f_X6_soonestOne_L5 q0 n) s x2 x3 = some (r9, s9) := hf
    unfold f_X6_soonestOne_L5_b at hf
    refine aw_iload_n (pc' := 6) dX6_soonestOne_5 rfl rfl ?_
    refine aw_aload_n (pc' := 7) dX6_soonestOne_6 rfl rfl rfl ?_
    refine aw_gi (q := 34) (pc' := 10) H (H.fo rfl rfl) (by decide) rfl dX6_soonestOne_7 rfl fl_RX6_74 ?_
    refine aw_cge (tgt := 75) (pc' := 13) dX6_soonestOne_10 rfl rfl (fun c1 => ?_) (fun c1 => ?_)
    · replace hf := ifn c1 hf
      refine AW.lv_le (lz_k (lz_d (lz_k (lz_d (lz_d (lz_d lz_0)))))) ?_
      exact hq0 _ _ _ H ms hf
    · replace hf := ifp c1 hf
      refine aw_iconst (v := 0) (pc' := 14) dX6_soonestOne_13 rfl ic_0 ?_
      refine aw_istore (lv' := [_, _, _, _, _, _]) (pc' := 16) dX6_soonestOne_14 rfl (Nat.le_of_ble_eq_true rfl) rfl ?_
      refine t_X6_soonestOne_L16 (mb.tr ms) (fun s13 h13 x13_2 H13 m13 hf => ?_) 4000 _ _ _ _ H (Mo.rf _) hf
      obtain ⟨v14, ev14, hf⟩ := vl_e hf
      refine aw_iincV (y := v14) (lv' := [_, _, _, _, _, _]) (pc' := 72) dX6_soonestOne_69 rfl rfl (Nat.le_of_ble_eq_true rfl) ev14 rfl ?_
      refine aw_goto (tgt := 5) dX6_soonestOne_72 rfl ?_
      exact ih _ _ _ _ H13 (ms.tr m13) hf
noncomputable def f_X6_soonestOne (s0 : SS)  : Option (Int32 × SS) := (f_X6_soonestOne_L5 (fun (s15 : SS) (x15_2 : Int32) => (st (pS s15 34 14 1) fun s16 => some (x15_2, s16))) 4000 s0 1000000000 0)
set_option maxRecDepth 4000 in
theorem t_X6_soonestOne {r9 : Int32} {s0 s9 : SS} {h0 : List aE}  (H0 : HH s0 h0) (hf : f_X6_soonestOne s0 = some (r9, s9)) : AM mX6_soonestOne (0) [.ref 42, .ref 27] h0 0 0 (PI fun r' h' => r9 = r' ∧ HH s9 h' ∧ Mo s0 s9) := by
  unfold f_X6_soonestOne at hf
  refine am_of (lv := [some (.ref 42), some (.ref 27), none, none, none, none]) rfl (Nat.le_of_ble_eq_true rfl) rfl ?_
  refine aw_ldc (pc' := 2) dX6_soonestOne_0 rfl ct_RX6_55 ?_
  refine aw_istore_n (lv' := [_, _, _, _, _, _]) (pc' := 3) dX6_soonestOne_2 rfl (Nat.le_of_ble_eq_true rfl) rfl ?_
  refine aw_iconst (v := 0) (pc' := 4) dX6_soonestOne_3 rfl ic_0 ?_
  refine aw_istore_n (lv' := [_, _, _, _, _, _]) (pc' := 5) dX6_soonestOne_4 rfl (Nat.le_of_ble_eq_true rfl) rfl ?_
  refine t_X6_soonestOne_L5 (Mo.rf _) (fun s15 h15 x15_2 H15 m15 hf => ?_) 4000 _ _ _ _ H0 (Mo.rf _) hf
  refine aw_aload_n (pc' := 76) dX6_soonestOne_75 rfl rfl rfl ?_
  refine aw_iconst (v := 1) (pc' := 77) dX6_soonestOne_76 rfl ic_1 ?_
  obtain ⟨s16, es16, hf⟩ := st_e hf
  refine aw_pi (q := 34) (pc' := 80) es16 H15 (H15.fo rfl rfl) (by decide) rfl dX6_soonestOne_77 rfl fl_RX6_82 rfl (fun h16 H16 => ?_)
  have m16 := Mo.ofS es16
  refine aw_iload_n (pc' := 81) dX6_soonestOne_80 rfl rfl ?_
  obtain ⟨rfl, rfl⟩ := so2 hf
  exact aw_ri dX6_soonestOne_81 rfl rfl (Nat.le_of_ble_eq_true rfl) (Nat.le_of_ble_eq_true rfl) ⟨rfl, H16, (m15.tr m16)⟩
/-! ThirtyThreeBelow$Plans.soonestPair -/
noncomputable def f_X6_soonestPair_L20_b (q0 : SS → Int32 → Option (Int32 × SS)) (y2 : Int32) (y3 : Int32) (y6 : Int32) (rc : SS → Int32 → Int32 → Option (Int32 × SS)) (s : SS) (x5 : Int32) (x7 : Int32) : Option (Int32 × SS) := (if x7 < (3 : Int32) then (gd (inB y2 6) (gd (inB y6 3) (on (zR s 19 (y6.toInt.toNat)) none fun p6 => (gd (inB y3 6) (gd (inB x7 3) (on (zR s 19 (x7.toInt.toNat)) none fun p10 => (b1 (f_J9_max_7cf53 ((zI s 43 (y2.toInt.toNat)) * (zS s p6 0)) ((zI s 43 (y3.toInt.toNat)) * (zS s p10 0))) fun r11 => (jn (fun (s12 : SS) (j12_5 : Int32) => (vl (x7 + 1) fun v13 => (rc s12 j12_5 v13))) fun k12 => (if r11 < x5 then (st (pI s 44 ((0 : Int32).toInt.toNat) y2) fun s15 => (st (pI s15 45 ((0 : Int32).toInt.toNat) y6) fun s16 => (st (pI s16 44 ((1 : Int32).toInt.toNat) y3) fun s17 => (st (pI s17 45 ((1 : Int32).toInt.toNat) x7) fun s18 => (k12 s18 r11))))) else (k12 s x5)))))))))) else (q0 s x5))
noncomputable def f_X6_soonestPair_L20 (q0 : SS → Int32 → Option (Int32 × SS)) (y2 : Int32) (y3 : Int32) (y6 : Int32) : Nat → SS → Int32 → Int32 → Option (Int32 × SS)
  | 0, _, _, _ => none
  | n + 1, s, x5, x7 => f_X6_soonestPair_L20_b q0 y2 y3 y6 (f_X6_soonestPair_L20 q0 y2 y3 y6 n) s x5 x7
set_option maxRecDepth 4000 in
theorem t_X6_soonestPair_L20 {r9 : Int32} {s0 sb s9 : SS} {q0 : SS → Int32 → Option (Int32 × SS)} {y2 : Int32} {y3 : Int32} {y6 : Int32} (mb : Mo s0 sb) (hq0 : ∀ (s : SS) (h : List aE) (x5 : Int32), HH s h → Mo sb s → q0 s x5 = some (r9, s9) → AW mX6_soonestPair (rmD (1) 0 0) (fin (PI fun r' h' => r9 = r' ∧ HH s9 h' ∧ Mo s0 s9) 0 0) 107 [some (.ref 42), some (.ref 27), some (.int y2), some (.int y3), none, some (.int x5), some (.int y6), none, none] [] h 0 0) : ∀ (n : Nat) (s : SS) (h : List aE) (x5 : Int32) (x7 : Int32), HH s h → Mo sb s → f_X6_soonestPair_L20 q0 y2 y3 y6 n s x5 x7 = some (r9, s9) → AW mX6_soonestPair (rmD (1) 0 0) (fin (PI fun r' h' => r9 = r' ∧ HH s9 h' ∧ Mo s0 s9) 0 0) 20 [some (.ref 42), some (.ref 27), some (.int y2), some (.int y3), none, some (.int x5), some (.int y6), some (.int x7), none] [] h 0 0 := by
  intro n
  induction n with
  | zero =>
    intro s h x5 x7 H ms hf
    cases hf
  | succ n ih =>
    intro s h x5 x7 H ms hf
    replace hf : f_X6_soonestPair_L20_b q0 y2 y3 y6 (f_X6_soonestPair_L20 q0 y2 y3 y6 n) s x5 x7 = some (r9, s9) := hf
    unfold f_X6_soonestPair_L20_b at hf
    refine aw_iload (pc' := 22) dX6_soonestPair_20 rfl rfl ?_
    refine aw_aload_n (pc' := 23) dX6_soonestPair_22 rfl rfl rfl ?_
    refine aw_al (q := 19) (t := 5) (v := 3) (pc' := 24) H (H.fa rfl rfl rfl) (by decide) (by decide) dX6_soonestPair_23 rfl ?_
    refine aw_cge (tgt := 107) (pc' := 27) dX6_soonestPair_24 rfl rfl (fun c3 => ?_) (fun c3 => ?_)
    · replace hf := ifn c3 hf
      refine AW.lv_le (lz_k (lz_k (lz_k (lz_k (lz_d (lz_k (lz_k (lz_d (lz_d lz_0))))))))) ?_
      exact hq0 _ _ _ H ms hf
    · replace hf := ifp c3 hf
      refine aw_aload_n (pc' := 28) dX6_soonestPair_27 rfl rfl rfl ?_
      refine aw_gr (q := 34) (e := 19) (v := .ref 51) (pc' := 31) H (H.fo rfl rfl) (by decide) rfl rfl dX6_soonestPair_28 rfl fl_RX6_36 ?_
      refine aw_iload_n (pc' := 32) dX6_soonestPair_31 rfl rfl ?_
      obtain ⟨g4, hf⟩ := gd_e hf
      refine aw_ia (q := 43) (pc' := 33) H (H.fa rfl rfl rfl) g4 dX6_soonestPair_32 rfl ?_
      refine aw_aload_n (pc' := 34) dX6_soonestPair_33 rfl rfl rfl ?_
      refine aw_iload (pc' := 36) dX6_soonestPair_34 rfl rfl ?_
      obtain ⟨g5, hf⟩ := gd_e hf
      replace hf := on_e hf
      rcases hf with ⟨eo6, hf⟩ | ⟨p6, eo6, hf⟩
      · refine aw_ra_ (q := 19) (t := 5) (pc' := 37) H (H.fa rfl rfl rfl) (by decide) (by decide) rfl g5 eo6 dX6_soonestPair_36 rfl ?_
        show AW _ _ _ _ _ (Value.null :: _) _ _ _
        cases hf
      · refine aw_ra_ (q := 19) (t := 5) (pc' := 37) H (H.fa rfl rfl rfl) (by decide) (by decide) rfl g5 eo6 dX6_soonestPair_36 rfl ?_
        show AW _ _ _ _ _ (Value.ref (p6 + 8) :: _) _ _ _
        have o_p6 : okM p6 := (ok4 H g5 eo6)
        refine aw_gi (q := p6) (pc' := 40) H (okM.ob o_p6 H) (by decide) rfl dX6_soonestPair_37 rfl fl_RX6_77 ?_
        refine aw_imul (pc' := 41) dX6_soonestPair_40 rfl ?_
        refine aw_aload_n (pc' := 42) dX6_soonestPair_41 rfl rfl rfl ?_
        refine aw_gr (q := 34) (e := 19) (v := .ref 51) (pc' := 45) H (H.fo rfl rfl) (by decide) rfl rfl dX6_soonestPair_42 rfl fl_RX6_36 ?_
        refine aw_iload_n (pc' := 46) dX6_soonestPair_45 rfl rfl ?_
        obtain ⟨g7, hf⟩ := gd_e hf
        refine aw_ia (q := 43) (pc' := 47) H (H.fa rfl rfl rfl) g7 dX6_soonestPair_46 rfl ?_
        refine aw_aload_n (pc' := 48) dX6_soonestPair_47 rfl rfl rfl ?_
        refine aw_iload (pc' := 50) dX6_soonestPair_48 rfl rfl ?_
        obtain ⟨g8, hf⟩ := gd_e hf
        replace hf := on_e hf
        rcases hf with ⟨eo10, hf⟩ | ⟨p10, eo10, hf⟩
        · refine aw_ra_ (q := 19) (t := 5) (pc' := 51) H (H.fa rfl rfl rfl) (by decide) (by decide) rfl g8 eo10 dX6_soonestPair_50 rfl ?_
          show AW _ _ _ _ _ (Value.null :: _) _ _ _
          cases hf
        · refine aw_ra_ (q := 19) (t := 5) (pc' := 51) H (H.fa rfl rfl rfl) (by decide) (by decide) rfl g8 eo10 dX6_soonestPair_50 rfl ?_
          show AW _ _ _ _ _ (Value.ref (p10 + 8) :: _) _ _ _
          have o_p10 : okM p10 := (ok4 H g8 eo10)
          refine aw_gi (q := p10) (pc' := 54) H (okM.ob o_p10 H) (by decide) rfl dX6_soonestPair_51 rfl fl_RX6_77 ?_
          refine aw_imul (pc' := 55) dX6_soonestPair_54 rfl ?_
          obtain ⟨r11, ec11, hf⟩ := b1_e hf
          refine aw_callSi (M' := mJ9_max_7cf53) (nc' := 0) (ns' := 0) (pc' := 58) dX6_soonestPair_55 rfl ml_RX6_68 kJ9_max_7cf53 (t_J9_max_7cf53 ec11) rfl rfl (Nat.le_of_ble_eq_true rfl) (rokD (by omega) (Nat.le_of_ble_eq_true rfl) (Nat.le_of_ble_eq_true rfl) (Nat.le_of_ble_eq_true rfl)) rfl rfl (fun _ h11 q11 => ?_)
          obtain ⟨rfl, rfl⟩ := q11
          refine aw_istore (lv' := [_, _, _, _, _, _, _, _, _]) (pc' := 60) dX6_soonestPair_58 rfl (Nat.le_of_ble_eq_true rfl) rfl ?_
          refine aw_iload (pc' := 62) dX6_soonestPair_60 rfl rfl ?_
          refine aw_iload (pc' := 64) dX6_soonestPair_62 rfl rfl ?_
          obtain ⟨k12, ek12, hf⟩ := jn_e hf
          have hk12 : ∀ (s12 : SS) (h12 : List aE) (j12_5 : Int32), HH s12 h12 → Mo s s12 → k12 s12 j12_5 = some (r9, s9) → AW mX6_soonestPair (rmD (1) 0 0) (fin (PI fun r' h' => r9 = r' ∧ HH s9 h' ∧ Mo s0 s9) 0 0) 101 [some (.ref 42), some (.ref 27), some (.int y2), some (.int y3), none, some (.int j12_5), some (.int y6), some (.int x7), none] [] h12 0 0 := by
            intro s12 h12 j12_5 H12 m12 hf
            subst ek12
            obtain ⟨v13, ev13, hf⟩ := vl_e hf
            refine aw_iincV (y := v13) (lv' := [_, _, _, _, _, _, _, _, _]) (pc' := 104) dX6_soonestPair_101 rfl rfl (Nat.le_of_ble_eq_true rfl) ev13 rfl ?_
            refine aw_goto (tgt := 20) dX6_soonestPair_104 rfl ?_
            exact ih _ _ _ _ H12 (ms.tr m12) hf
          clear ek12
          refine aw_cge (tgt := 101) (pc' := 67) dX6_soonestPair_64 rfl rfl (fun c14 => ?_) (fun c14 => ?_)
          · replace hf := ifn c14 hf
            refine AW.lv_le (lz_k (lz_k (lz_k (lz_k (lz_d (lz_k (lz_k (lz_k (lz_d lz_0))))))))) ?_
            exact hk12 _ _ _ H (Mo.rf _) hf
          · replace hf := ifp c14 hf
            refine aw_iload (pc' := 69) dX6_soonestPair_67 rfl rfl ?_
            refine aw_istore (lv' := [_, _, _, _, _, _, _, _, _]) (pc' := 71) dX6_soonestPair_69 rfl (Nat.le_of_ble_eq_true rfl) rfl ?_
            refine aw_aload_n (pc' := 72) dX6_soonestPair_71 rfl rfl rfl ?_
            refine aw_gr (q := 34) (e := 21) (v := .ref 52) (pc' := 75) H (H.fo rfl rfl) (by decide) rfl rfl dX6_soonestPair_72 rfl fl_RX6_39 ?_
            refine aw_iconst (v := 0) (pc' := 76) dX6_soonestPair_75 rfl ic_0 ?_
            refine aw_iload_n (pc' := 77) dX6_soonestPair_76 rfl rfl ?_
            obtain ⟨s15, es15, hf⟩ := st_e hf
            refine aw_is (q := 44) (pc' := 78) es15 H (H.fa rfl rfl rfl) (by decide) dX6_soonestPair_77 rfl (fun h15 H15 => ?_)
            have m15 := Mo.ofI es15
            refine aw_aload_n (pc' := 79) dX6_soonestPair_78 rfl rfl rfl ?_
            refine aw_gr (q := 34) (e := 23) (v := .ref 53) (pc' := 82) H15 (H15.fo rfl rfl) (l13 rfl) rfl rfl dX6_soonestPair_79 rfl fl_RX6_42 ?_
            refine aw_iconst (v := 0) (pc' := 83) dX6_soonestPair_82 rfl ic_0 ?_
            refine aw_iload (pc' := 85) dX6_soonestPair_83 rfl rfl ?_
            obtain ⟨s16, es16, hf⟩ := st_e hf
            refine aw_is (q := 45) (pc' := 86) es16 H15 (H15.fa rfl rfl rfl) (by decide) dX6_soonestPair_85 rfl (fun h16 H16 => ?_)
            have m16 := Mo.ofI es16
            refine aw_aload_n (pc' := 87) dX6_soonestPair_86 rfl rfl rfl ?_
            refine aw_gr (q := 34) (e := 21) (v := .ref 52) (pc' := 90) H16 (H16.fo rfl rfl) (l13 rfl) rfl rfl dX6_soonestPair_87 rfl fl_RX6_39 ?_
            refine aw_iconst (v := 1) (pc' := 91) dX6_soonestPair_90 rfl ic_1 ?_
            refine aw_iload_n (pc' := 92) dX6_soonestPair_91 rfl rfl ?_
            obtain ⟨s17, es17, hf⟩ := st_e hf
            refine aw_is (q := 44) (pc' := 93) es17 H16 (H16.fa rfl rfl rfl) (by decide) dX6_soonestPair_92 rfl (fun h17 H17 => ?_)
            have m17 := Mo.ofI es17
            refine aw_aload_n (pc' := 94) dX6_soonestPair_93 rfl rfl rfl ?_
            refine aw_gr (q := 34) (e := 23) (v := .ref 53) (pc' := 97) H17 (H17.fo rfl rfl) (l13 rfl) rfl rfl dX6_soonestPair_94 rfl fl_RX6_42 ?_
            refine aw_iconst (v := 1) (pc' := 98) dX6_soonestPair_97 rfl ic_1 ?_
            refine aw_iload (pc' := 100) dX6_soonestPair_98 rfl rfl ?_
            obtain ⟨s18, es18, hf⟩ := st_e hf
            refine aw_is (q := 45) (pc' := 101) es18 H17 (H17.fa rfl rfl rfl) (by decide) dX6_soonestPair_100 rfl (fun h18 H18 => ?_)
            have m18 := Mo.ofI es18
            refine AW.lv_le (lz_k (lz_k (lz_k (lz_k (lz_d (lz_k (lz_k (lz_k (lz_d lz_0))))))))) ?_
            exact hk12 _ _ _ H18 (((m15.tr m16).tr m17).tr m18) hf
noncomputable def f_X6_soonestPair_L7_b (y2 : Int32) (y3 : Int32) (rc : SS → Int32 → Int32 → Option (Int32 × SS)) (s : SS) (x5 : Int32) (x6 : Int32) : Option (Int32 × SS) := (if x6 < (3 : Int32) then (vl ((x6 + (1 : Int32))) fun v2 => (f_X6_soonestPair_L20 (fun (s19 : SS) (x19_5 : Int32) => (vl (x6 + 1) fun v20 => (rc s19 x19_5 v20))) y2 y3 x6 4000 s x5 v2)) else some (x5, s))
noncomputable def f_X6_soonestPair_L7 (y2 : Int32) (y3 : Int32) : Nat → SS → Int32 → Int32 → Option (Int32 × SS)
  | 0, _, _, _ => none
  | n + 1, s, x5, x6 => f_X6_soonestPair_L7_b y2 y3 (f_X6_soonestPair_L7 y2 y3 n) s x5 x6
set_option maxRecDepth 4000 in
theorem t_X6_soonestPair_L7 {r9 : Int32} {s0 sb s9 : SS} {y2 : Int32} {y3 : Int32} (mb : Mo s0 sb)  : ∀ (n : Nat) (s : SS) (h : List aE) (x5 : Int32) (x6 : Int32), HH s h → Mo sb s → f_X6_soonestPair_L7 y2 y3 n s x5 x6 = some (r9, s9) → AW mX6_soonestPair (rmD (1) 0 0) (fin (PI fun r' h' => r9 = r' ∧ HH s9 h' ∧ Mo s0 s9) 0 0) 7 [some (.ref 42), some (.ref 27), some (.int y2), some (.int y3), none, some (.int x5), some (.int x6), none, none] [] h 0 0 := by
  intro n
  induction n with
  | zero =>
    intro s h x5 x6 H ms hf
    cases hf
  | succ n ih =>
    intro s h x5 x6 H ms hf
    replace hf : f_X6_soonestPair_L7_b y2 y3 (f_X6_soonestPair_L7 y2 y3 n) s x5 x6 = some (r9, s9) := hf
    unfold f_X6_soonestPair_L7_b at hf
    refine aw_iload (pc' := 9) dX6_soonestPair_7 rfl rfl ?_
    refine aw_aload_n (pc' := 10) dX6_soonestPair_9 rfl rfl rfl ?_
    refine aw_al (q := 19) (t := 5) (v := 3) (pc' := 11) H (H.fa rfl rfl rfl) (by decide) (by decide) dX6_soonestPair_10 rfl ?_
    refine aw_cge (tgt := 113) (pc' := 14) dX6_soonestPair_11 rfl rfl (fun c1 => ?_) (fun c1 => ?_)
    · replace hf := ifn c1 hf
      refine aw_iload (pc' := 115) dX6_soonestPair_113 rfl rfl ?_
      obtain ⟨rfl, rfl⟩ := so2 hf
      exact aw_ri dX6_soonestPair_115 rfl rfl (Nat.le_of_ble_eq_true rfl) (Nat.le_of_ble_eq_true rfl) ⟨rfl, H, (mb.tr ms)⟩
    · replace hf := ifp c1 hf
      refine aw_iload (pc' := 16) dX6_soonestPair_14 rfl rfl ?_
      refine aw_iconst (v := 1) (pc' := 17) dX6_soonestPair_16 rfl ic_1 ?_
      refine aw_iadd (pc' := 18) dX6_soonestPair_17 rfl ?_
      obtain ⟨v2, ev2, hf⟩ := vl_e hf
      refine aw_topi ev2 ?_
      refine aw_istore (lv' := [_, _, _, _, _, _, _, _, _]) (pc' := 20) dX6_soonestPair_18 rfl (Nat.le_of_ble_eq_true rfl) rfl ?_
      refine t_X6_soonestPair_L20 (mb.tr ms) (fun s19 h19 x19_5 H19 m19 hf => ?_) 4000 _ _ _ _ H (Mo.rf _) hf
      obtain ⟨v20, ev20, hf⟩ := vl_e hf
      refine aw_iincV (y := v20) (lv' := [_, _, _, _, _, _, _, _, _]) (pc' := 110) dX6_soonestPair_107 rfl rfl (Nat.le_of_ble_eq_true rfl) ev20 rfl ?_
      refine aw_goto (tgt := 7) dX6_soonestPair_110 rfl ?_
      exact ih _ _ _ _ H19 (ms.tr m19) hf
noncomputable def f_X6_soonestPair (s0 : SS) (a1 : Int32) (a2 : Int32) (a3 : Int32) : Option (Int32 × SS) := (f_X6_soonestPair_L7 a1 a2 4000 s0 a3 0)
set_option maxRecDepth 4000 in
theorem t_X6_soonestPair {r9 : Int32} {s0 s9 : SS} {h0 : List aE} {a1 : Int32} {a2 : Int32} {a3 : Int32} (H0 : HH s0 h0) (hf : f_X6_soonestPair s0 a1 a2 a3 = some (r9, s9)) : AM mX6_soonestPair (1) [.ref 42, .ref 27, .int a1, .int a2, .int a3] h0 0 0 (PI fun r' h' => r9 = r' ∧ HH s9 h' ∧ Mo s0 s9) := by
  unfold f_X6_soonestPair at hf
  refine am_of (lv := [some (.ref 42), some (.ref 27), some (.int a1), some (.int a2), some (.int a3), none, none, none, none]) rfl (Nat.le_of_ble_eq_true rfl) rfl ?_
  refine aw_iload (pc' := 2) dX6_soonestPair_0 rfl rfl ?_
  refine aw_istore (lv' := [_, _, _, _, _, _, _, _, _]) (pc' := 4) dX6_soonestPair_2 rfl (Nat.le_of_ble_eq_true rfl) rfl ?_
  refine aw_iconst (v := 0) (pc' := 5) dX6_soonestPair_4 rfl ic_0 ?_
  refine aw_istore (lv' := [_, _, _, _, _, _, _, _, _]) (pc' := 7) dX6_soonestPair_5 rfl (Nat.le_of_ble_eq_true rfl) rfl ?_
  refine AW.lv_le (lz_k (lz_k (lz_k (lz_k (lz_d (lz_k (lz_k (lz_d (lz_d lz_0))))))))) ?_
  refine t_X6_soonestPair_L7 (Mo.rf _)  4000 _ _ _ _ H0 (Mo.rf _) hf
/-! ThirtyThreeBelow$Plans.soonestTwo -/
noncomputable def f_X6_soonestTwo_L16_b (q0 : SS → Int32 → Option (Int32 × SS)) (y3 : Int32) (rc : SS → Int32 → Int32 → Option (Int32 × SS)) (s : SS) (x2 : Int32) (x4 : Int32) : Option (Int32 × SS) := (if x4 < (zS s 34 9) then (jn (fun (s3 : SS) (j3_2 : Int32) => (vl (x4 + 1) fun v4 => (rc s3 j3_2 v4))) fun k3 => (if y3 = x4 then (k3 s x2) else (bd (f_X6_soonestPair s y3 x4 x2) fun r6 s6 => (k3 s6 r6)))) else (q0 s x2))
noncomputable def f_X6_soonestTwo_L16 (q0 : SS → Int32 → Option (Int32 × SS)) (y3 : Int32) : Nat → SS → Int32 → Int32 → Option (Int32 × SS)
  | 0, _, _, _ => none
  | n + 1, s, x2, x4 => f_X6_soonestTwo_L16_b q0 y3 (f_X6_soonestTwo_L16 q0 y3 n) s x2 x4
set_option maxRecDepth 4000 in
theorem t_X6_soonestTwo_L16 {r9 : Int32} {s0 sb s9 : SS} {q0 : SS → Int32 → Option (Int32 × SS)} {y3 : Int32} (mb : Mo s0 sb) (hq0 : ∀ (s : SS) (h : List aE) (x2 : Int32), HH s h → Mo sb s → q0 s x2 = some (r9, s9) → AW mX6_soonestTwo (rmD (2) 0 0) (fin (PI fun r' h' => r9 = r' ∧ HH s9 h' ∧ Mo s0 s9) 0 0) 47 [some (.ref 42), some (.ref 27), some (.int x2), some (.int y3), none] [] h 0 0) : ∀ (n : Nat) (s : SS) (h : List aE) (x2 : Int32) (x4 : Int32), HH s h → Mo sb s → f_X6_soonestTwo_L16 q0 y3 n s x2 x4 = some (r9, s9) → AW mX6_soonestTwo (rmD (2) 0 0) (fin (PI fun r' h' => r9 = r' ∧ HH s9 h' ∧ Mo s0 s9) 0 0) 16 [some (.ref 42), some (.ref 27), some (.int x2), some (.int y3), some (.int x4)] [] h 0 0 := by
  intro n
  induction n with
  | zero =>
    intro s h x2 x4 H ms hf
    cases hf
  | succ n ih =>
    intro s h x2 x4 H ms hf
    replace hf : f_X6_soonestTwo_L16_b q0 y3 (f_X6_soonestTwo_L16 q0 y3 n) s x2 x4 = some (r9, s9) := hf
    unfold f_X6_soonestTwo_L16_b at hf
    refine aw_iload (pc' := 18) dX6_soonestTwo_16 rfl rfl ?_
    refine aw_aload_n (pc' := 19) dX6_soonestTwo_18 rfl rfl rfl ?_
    refine aw_gi (q := 34) (pc' := 22) H (H.fo rfl rfl) (by decide) rfl dX6_soonestTwo_19 rfl fl_RX6_74 ?_
    refine aw_cge (tgt := 47) (pc' := 25) dX6_soonestTwo_22 rfl rfl (fun c2 => ?_) (fun c2 => ?_)
    · replace hf := ifn c2 hf
      refine AW.lv_le (lz_k (lz_k (lz_k (lz_k (lz_d lz_0))))) ?_
      exact hq0 _ _ _ H ms hf
    · replace hf := ifp c2 hf
      refine aw_iload_n (pc' := 26) dX6_soonestTwo_25 rfl rfl ?_
      refine aw_iload (pc' := 28) dX6_soonestTwo_26 rfl rfl ?_
      obtain ⟨k3, ek3, hf⟩ := jn_e hf
      have hk3 : ∀ (s3 : SS) (h3 : List aE) (j3_2 : Int32), HH s3 h3 → Mo s s3 → k3 s3 j3_2 = some (r9, s9) → AW mX6_soonestTwo (rmD (2) 0 0) (fin (PI fun r' h' => r9 = r' ∧ HH s9 h' ∧ Mo s0 s9) 0 0) 41 [some (.ref 42), some (.ref 27), some (.int j3_2), some (.int y3), some (.int x4)] [] h3 0 0 := by
        intro s3 h3 j3_2 H3 m3 hf
        subst ek3
        obtain ⟨v4, ev4, hf⟩ := vl_e hf
        refine aw_iincV (y := v4) (lv' := [_, _, _, _, _]) (pc' := 44) dX6_soonestTwo_41 rfl rfl (Nat.le_of_ble_eq_true rfl) ev4 rfl ?_
        refine aw_goto (tgt := 16) dX6_soonestTwo_44 rfl ?_
        exact ih _ _ _ _ H3 (ms.tr m3) hf
      clear ek3
      refine aw_icmp_eq (tgt := 41) (pc' := 31) dX6_soonestTwo_28 rfl rfl (fun c5 => ?_) (fun c5 => ?_)
      · replace hf := ifp c5 hf
        exact hk3 _ _ _ H (Mo.rf _) hf
      · replace hf := ifn c5 hf
        refine aw_aload_n (pc' := 32) dX6_soonestTwo_31 rfl rfl rfl ?_
        refine aw_aload_n (pc' := 33) dX6_soonestTwo_32 rfl rfl rfl ?_
        refine aw_iload_n (pc' := 34) dX6_soonestTwo_33 rfl rfl ?_
        refine aw_iload (pc' := 36) dX6_soonestTwo_34 rfl rfl ?_
        refine aw_iload_n (pc' := 37) dX6_soonestTwo_36 rfl rfl ?_
        obtain ⟨r6, s6, ec6, hf⟩ := bd_e hf
        refine aw_callVi (M' := mX6_soonestPair) (nc' := 0) (ns' := 0) (pc' := 40) dX6_soonestTwo_37 rfl ml_RX6_85 kX6_soonestPair (t_X6_soonestPair H ec6) (H.ob (H.fo rfl rfl) (by decide)) rfl rfl rfl (Nat.le_of_ble_eq_true rfl) (rokD (by omega) (Nat.le_of_ble_eq_true rfl) (Nat.le_of_ble_eq_true rfl) (Nat.le_of_ble_eq_true rfl)) rfl rfl (fun _ h6 q6 => ?_)
        obtain ⟨rfl, H6, m6⟩ := q6
        refine aw_istore_n (lv' := [_, _, _, _, _]) (pc' := 41) dX6_soonestTwo_40 rfl (Nat.le_of_ble_eq_true rfl) rfl ?_
        exact hk3 _ _ _ H6 m6 hf
noncomputable def f_X6_soonestTwo_L5_b (q0 : SS → Int32 → Option (Int32 × SS)) (rc : SS → Int32 → Int32 → Option (Int32 × SS)) (s : SS) (x2 : Int32) (x3 : Int32) : Option (Int32 × SS) := (if x3 < (zS s 34 9) then (f_X6_soonestTwo_L16 (fun (s7 : SS) (x7_2 : Int32) => (vl (x3 + 1) fun v8 => (rc s7 x7_2 v8))) x3 4000 s x2 0) else (q0 s x2))
noncomputable def f_X6_soonestTwo_L5 (q0 : SS → Int32 → Option (Int32 × SS)) : Nat → SS → Int32 → Int32 → Option (Int32 × SS)
  | 0, _, _, _ => none
  | n + 1, s, x2, x3 => f_X6_soonestTwo_L5_b q0 (f_X6_soonestTwo_L5 q0 n) s x2 x3
set_option maxRecDepth 4000 in
theorem t_X6_soonestTwo_L5 {r9 : Int32} {s0 sb s9 : SS} {q0 : SS → Int32 → Option (Int32 × SS)} (mb : Mo s0 sb) (hq0 : ∀ (s : SS) (h : List aE) (x2 : Int32), HH s h → Mo sb s → q0 s x2 = some (r9, s9) → AW mX6_soonestTwo (rmD (2) 0 0) (fin (PI fun r' h' => r9 = r' ∧ HH s9 h' ∧ Mo s0 s9) 0 0) 53 [some (.ref 42), none, some (.int x2), none, none] [] h 0 0) : ∀ (n : Nat) (s : SS) (h : List aE) (x2 : Int32) (x3 : Int32), HH s h → Mo sb s → f_X6_soonestTwo_L5 q0 n s x2 x3 = some (r9, s9) → AW mX6_soonestTwo (rmD (2) 0 0) (fin (PI fun r' h' => r9 = r' ∧ HH s9 h' ∧ Mo s0 s9) 0 0) 5 [some (.ref 42), some (.ref 27), some (.int x2), some (.int x3), none] [] h 0 0 := by
  intro n
  induction n with
  | zero =>
    intro s h x2 x3 H ms hf
    cases hf
  | succ n ih =>
    intro s h x2 x3 H ms hf
    replace hf : f_X6_soonestTwo_L5_b q0 (f_X6_soonestTwo_L5 q0 n) s x2 x3 = some (r9, s9) := hf
    unfold f_X6_soonestTwo_L5_b at hf
    refine aw_iload_n (pc' := 6) dX6_soonestTwo_5 rfl rfl ?_
    refine aw_aload_n (pc' := 7) dX6_soonestTwo_6 rfl rfl rfl ?_
    refine aw_gi (q := 34) (pc' := 10) H (H.fo rfl rfl) (by decide) rfl dX6_soonestTwo_7 rfl fl_RX6_74 ?_
    refine aw_cge (tgt := 53) (pc' := 13) dX6_soonestTwo_10 rfl rfl (fun c1 => ?_) (fun c1 => ?_)
    · replace hf := ifn c1 hf
      refine AW.lv_le (lz_k (lz_d (lz_k (lz_d (lz_d lz_0))))) ?_
      exact hq0 _ _ _ H ms hf
    · replace hf := ifp c1 hf
      refine aw_iconst (v := 0) (pc' := 14) dX6_soonestTwo_13 rfl ic_0 ?_
      refine aw_istore (lv' := [_, _, _, _, _]) (pc' := 16) dX6_soonestTwo_14 rfl (Nat.le_of_ble_eq_true rfl) rfl ?_
      refine t_X6_soonestTwo_L16 (mb.tr ms) (fun s7 h7 x7_2 H7 m7 hf => ?_) 4000 _ _ _ _ H (Mo.rf _) hf
      obtain ⟨v8, ev8, hf⟩ := vl_e hf
      refine aw_iincV (y := v8) (lv' := [_, _, _, _, _]) (pc' := 50) dX6_soonestTwo_47 rfl rfl (Nat.le_of_ble_eq_true rfl) ev8 rfl ?_
      refine aw_goto (tgt := 5) dX6_soonestTwo_50 rfl ?_
      exact ih _ _ _ _ H7 (ms.tr m7) hf
noncomputable def f_X6_soonestTwo (s0 : SS)  : Option (Int32 × SS) := (f_X6_soonestTwo_L5 (fun (s10 : SS) (x10_2 : Int32) => (st (pS s10 34 14 2) fun s11 => some (x10_2, s11))) 4000 s0 1000000000 0)
set_option maxRecDepth 4000 in
theorem t_X6_soonestTwo {r9 : Int32} {s0 s9 : SS} {h0 : List aE}  (H0 : HH s0 h0) (hf : f_X6_soonestTwo s0 = some (r9, s9)) : AM mX6_soonestTwo (2) [.ref 42, .ref 27] h0 0 0 (PI fun r' h' => r9 = r' ∧ HH s9 h' ∧ Mo s0 s9) := by
  unfold f_X6_soonestTwo at hf
  refine am_of (lv := [some (.ref 42), some (.ref 27), none, none, none]) rfl (Nat.le_of_ble_eq_true rfl) rfl ?_
  refine aw_ldc (pc' := 2) dX6_soonestTwo_0 rfl ct_RX6_55 ?_
  refine aw_istore_n (lv' := [_, _, _, _, _]) (pc' := 3) dX6_soonestTwo_2 rfl (Nat.le_of_ble_eq_true rfl) rfl ?_
  refine aw_iconst (v := 0) (pc' := 4) dX6_soonestTwo_3 rfl ic_0 ?_
  refine aw_istore_n (lv' := [_, _, _, _, _]) (pc' := 5) dX6_soonestTwo_4 rfl (Nat.le_of_ble_eq_true rfl) rfl ?_
  refine t_X6_soonestTwo_L5 (Mo.rf _) (fun s10 h10 x10_2 H10 m10 hf => ?_) 4000 _ _ _ _ H0 (Mo.rf _) hf
  refine aw_aload_n (pc' := 54) dX6_soonestTwo_53 rfl rfl rfl ?_
  refine aw_iconst (v := 2) (pc' := 55) dX6_soonestTwo_54 rfl ic_2 ?_
  obtain ⟨s11, es11, hf⟩ := st_e hf
  refine aw_pi (q := 34) (pc' := 58) es11 H10 (H10.fo rfl rfl) (by decide) rfl dX6_soonestTwo_55 rfl fl_RX6_82 rfl (fun h11 H11 => ?_)
  have m11 := Mo.ofS es11
  refine aw_iload_n (pc' := 59) dX6_soonestTwo_58 rfl rfl ?_
  obtain ⟨rfl, rfl⟩ := so2 hf
  exact aw_ri dX6_soonestTwo_59 rfl rfl (Nat.le_of_ble_eq_true rfl) (Nat.le_of_ble_eq_true rfl) ⟨rfl, H11, (m10.tr m11)⟩
/-! ThirtyThreeBelow$Reader.fed -/
noncomputable def f_X7_fed_L17_b (y1 : Int32) (y2 : Int32) (rc : SS → Int32 → Option (Int32 × SS)) (s : SS) (x3 : Int32) : Option (Int32 × SS) := (if x3 < y1 then (vl (((y2 >>> (((8 : Int32) * x3) &&& 31)) &&& (255 : Int32))) fun v3 => (vl ((zS s 24 1)) fun v4 => (gd (inB v4 160) (st (pI s 25 (v4.toInt.toNat) v3) fun s6 => (vl (((zS s6 24 1) + (1 : Int32))) fun v7 => (st (pS s6 24 1 v7) fun s8 => (vl (x3 + 1) fun v10 => (rc s8 v10)))))))) else some ((zS s 24 1), s))
noncomputable def f_X7_fed_L17 (y1 : Int32) (y2 : Int32) : Nat → SS → Int32 → Option (Int32 × SS)
  | 0, _, _ => none
  | n + 1, s, x3 => f_X7_fed_L17_b y1 y2 (f_X7_fed_L17 y1 y2 n) s x3
set_option maxRecDepth 4000 in
theorem t_X7_fed_L17 {r9 : Int32} {s0 sb s9 : SS} {y1 : Int32} {y2 : Int32} (mb : Mo s0 sb)  : ∀ (n : Nat) (s : SS) (h : List aE) (x3 : Int32), HH s h → Mo sb s → f_X7_fed_L17 y1 y2 n s x3 = some (r9, s9) → AW mX7_fed (rmD (0) 0 0) (fin (PI fun r' h' => r9 = r' ∧ HH s9 h' ∧ Mo s0 s9) 0 0) 17 [some (.ref 32), some (.int y1), some (.int y2), some (.int x3)] [] h 0 0 := by
  intro n
  induction n with
  | zero =>
    intro s h x3 H ms hf
    cases hf
  | succ n ih =>
    intro s h x3 H ms hf
    replace hf : f_X7_fed_L17_b y1 y2 (f_X7_fed_L17 y1 y2 n) s x3 = some (r9, s9) := hf
    unfold f_X7_fed_L17_b at hf
    refine aw_iload_n (pc' := 18) dX7_fed_17 rfl rfl ?_
    refine aw_iload_n (pc' := 19) dX7_fed_18 rfl rfl ?_
    refine aw_cge (tgt := 57) (pc' := 22) dX7_fed_19 rfl rfl (fun c2 => ?_) (fun c2 => ?_)
    · replace hf := ifn c2 hf
      refine aw_aload_n (pc' := 58) dX7_fed_57 rfl rfl rfl ?_
      refine aw_gi (q := 24) (pc' := 61) H (H.fo rfl rfl) (by decide) rfl dX7_fed_58 rfl fl_RX7_18 ?_
      obtain ⟨rfl, rfl⟩ := so2 hf
      exact aw_ri dX7_fed_61 rfl rfl (Nat.le_of_ble_eq_true rfl) (Nat.le_of_ble_eq_true rfl) ⟨rfl, H, (mb.tr ms)⟩
    · replace hf := ifp c2 hf
      refine aw_aload_n (pc' := 23) dX7_fed_22 rfl rfl rfl ?_
      refine aw_gr (q := 24) (e := 3) (v := .ref 33) (pc' := 26) H (H.fo rfl rfl) (by decide) rfl rfl dX7_fed_23 rfl fl_RX7_11 ?_
      refine aw_aload_n (pc' := 27) dX7_fed_26 rfl rfl rfl ?_
      refine aw_gi (q := 24) (pc' := 30) H (H.fo rfl rfl) (by decide) rfl dX7_fed_27 rfl fl_RX7_18 ?_
      refine aw_iload_n (pc' := 31) dX7_fed_30 rfl rfl ?_
      refine aw_bipush (v := 8) (pc' := 33) dX7_fed_31 rfl bp_8 ?_
      refine aw_iload_n (pc' := 34) dX7_fed_33 rfl rfl ?_
      refine aw_imul (pc' := 35) dX7_fed_34 rfl ?_
      refine aw_ishr (pc' := 36) dX7_fed_35 rfl ?_
      refine aw_sipush (v := 255) (pc' := 39) dX7_fed_36 rfl sp_255 ?_
      refine aw_iand (pc' := 40) dX7_fed_39 rfl ?_
      obtain ⟨v3, ev3, hf⟩ := vl_e hf
      refine aw_topi ev3 ?_
      obtain ⟨v4, ev4, hf⟩ := vl_e hf
      refine aw_sndi ev4 ?_
      obtain ⟨g5, hf⟩ := gd_e hf
      obtain ⟨s6, es6, hf⟩ := st_e hf
      refine aw_is (q := 25) (pc' := 41) es6 H (H.fa rfl rfl rfl) g5 dX7_fed_40 rfl (fun h6 H6 => ?_)
      have m6 := Mo.ofI es6
      refine aw_aload_n (pc' := 42) dX7_fed_41 rfl rfl rfl ?_
      refine aw_dup (pc' := 43) dX7_fed_42 rfl rfl ?_
      refine aw_gi (q := 24) (pc' := 46) H6 (H6.fo rfl rfl) (l13 rfl) rfl dX7_fed_43 rfl fl_RX7_18 ?_
      refine aw_iconst (v := 1) (pc' := 47) dX7_fed_46 rfl ic_1 ?_
      refine aw_iadd (pc' := 48) dX7_fed_47 rfl ?_
      obtain ⟨v7, ev7, hf⟩ := vl_e hf
      refine aw_topi ev7 ?_
      obtain ⟨s8, es8, hf⟩ := st_e hf
      refine aw_pi (q := 24) (pc' := 51) es8 H6 (H6.fo rfl rfl) (by decide) rfl dX7_fed_48 rfl fl_RX7_18 rfl (fun h8 H8 => ?_)
      have m8 := Mo.ofS es8
      obtain ⟨v10, ev10, hf⟩ := vl_e hf
      refine aw_iincV (y := v10) (lv' := [_, _, _, _]) (pc' := 54) dX7_fed_51 rfl rfl (Nat.le_of_ble_eq_true rfl) ev10 rfl ?_
      refine aw_goto (tgt := 17) dX7_fed_54 rfl ?_
      exact ih _ _ _ H8 ((ms.tr m6).tr m8) hf
noncomputable def f_X7_fed (s0 : SS) (a0 : Int32) (a1 : Int32) : Option (Int32 × SS) := (if (160 : Int32) < ((zS s0 24 1) + a0) then some ((-3), s0) else (f_X7_fed_L17 a0 a1 4000 s0 0))
set_option maxRecDepth 4000 in
theorem t_X7_fed {r9 : Int32} {s0 s9 : SS} {h0 : List aE} {a0 : Int32} {a1 : Int32} (H0 : HH s0 h0) (hf : f_X7_fed s0 a0 a1 = some (r9, s9)) : AM mX7_fed (0) [.ref 32, .int a0, .int a1] h0 0 0 (PI fun r' h' => r9 = r' ∧ HH s9 h' ∧ Mo s0 s9) := by
  unfold f_X7_fed at hf
  refine am_of (lv := [some (.ref 32), some (.int a0), some (.int a1), none]) rfl (Nat.le_of_ble_eq_true rfl) rfl ?_
  refine aw_aload_n (pc' := 1) dX7_fed_0 rfl rfl rfl ?_
  refine aw_gi (q := 24) (pc' := 4) H0 (H0.fo rfl rfl) (l13 rfl) rfl dX7_fed_1 rfl fl_RX7_18 ?_
  refine aw_iload_n (pc' := 5) dX7_fed_4 rfl rfl ?_
  refine aw_iadd (pc' := 6) dX7_fed_5 rfl ?_
  refine aw_sipush (v := 160) (pc' := 9) dX7_fed_6 rfl sp_160 ?_
  refine aw_cle (tgt := 15) (pc' := 12) dX7_fed_9 rfl rfl (fun c1 => ?_) (fun c1 => ?_)
  · replace hf := ifn c1 hf
    refine aw_iconst (v := 0) (pc' := 16) dX7_fed_15 rfl ic_0 ?_
    refine aw_istore_n (lv' := [_, _, _, _]) (pc' := 17) dX7_fed_16 rfl (Nat.le_of_ble_eq_true rfl) rfl ?_
    refine t_X7_fed_L17 (Mo.rf _)  4000 _ _ _ H0 (Mo.rf _) hf
  · replace hf := ifp c1 hf
    refine aw_bipush (v := (-3)) (pc' := 14) dX7_fed_12 rfl bp_m3 ?_
    obtain ⟨rfl, rfl⟩ := so2 hf
    exact aw_ri dX7_fed_14 rfl rfl (Nat.le_of_ble_eq_true rfl) (Nat.le_of_ble_eq_true rfl) ⟨rfl, H0, (Mo.rf _)⟩
/-! ThirtyThreeBelow$Reader.emit -/
noncomputable def f_X7_emit (s0 : SS) (a0 : Int32) : Option SS := (if (zS s0 24 5) < (0 : Int32) then (if (zS s0 24 3) < (161 : Int32) then (vl ((zS s0 24 3)) fun v3 => (gd (inB v3 161) (st (pI s0 26 (v3.toInt.toNat) a0) fun s5 => (vl (((zS s5 24 3) + (1 : Int32))) fun v6 => (st (pS s5 24 3 v6) fun s7 => some s7))))) else some s0) else some s0)
set_option maxRecDepth 4000 in
theorem t_X7_emit {s0 s9 : SS} {h0 : List aE} {a0 : Int32} (H0 : HH s0 h0) (hf : f_X7_emit s0 a0 = some s9) : AM mX7_emit (0) [.ref 32, .int a0] h0 0 0 (PV fun h' => HH s9 h' ∧ Mo s0 s9) := by
  unfold f_X7_emit at hf
  refine am_of (lv := [some (.ref 32), some (.int a0)]) rfl (Nat.le_of_ble_eq_true rfl) rfl ?_
  refine aw_aload_n (pc' := 1) dX7_emit_0 rfl rfl rfl ?_
  refine aw_gi (q := 24) (pc' := 4) H0 (H0.fo rfl rfl) (l13 rfl) rfl dX7_emit_1 rfl fl_RX7_34 ?_
  refine aw_zge (tgt := 39) (pc' := 7) dX7_emit_4 rfl rfl (fun c1 => ?_) (fun c1 => ?_)
  · replace hf := ifn c1 hf
    obtain rfl := Option.some.inj hf
    exact aw_rv dX7_emit_39 rfl (Nat.le_of_ble_eq_true rfl) (Nat.le_of_ble_eq_true rfl) ⟨H0, (Mo.rf _)⟩
  · replace hf := ifp c1 hf
    refine aw_aload_n (pc' := 8) dX7_emit_7 rfl rfl rfl ?_
    refine aw_gi (q := 24) (pc' := 11) H0 (H0.fo rfl rfl) (l13 rfl) rfl dX7_emit_8 rfl fl_RX7_22 ?_
    refine aw_aload_n (pc' := 12) dX7_emit_11 rfl rfl rfl ?_
    refine aw_gr (q := 24) (e := 5) (v := .ref 34) (pc' := 15) H0 (H0.fo rfl rfl) (l13 rfl) rfl rfl dX7_emit_12 rfl fl_RX7_15 ?_
    refine aw_al (q := 26) (t := 0) (v := 161) (pc' := 16) H0 (H0.fa rfl rfl rfl) (by decide) (by decide) dX7_emit_15 rfl ?_
    refine aw_cge (tgt := 39) (pc' := 19) dX7_emit_16 rfl rfl (fun c2 => ?_) (fun c2 => ?_)
    · replace hf := ifn c2 hf
      obtain rfl := Option.some.inj hf
      exact aw_rv dX7_emit_39 rfl (Nat.le_of_ble_eq_true rfl) (Nat.le_of_ble_eq_true rfl) ⟨H0, (Mo.rf _)⟩
    · replace hf := ifp c2 hf
      refine aw_aload_n (pc' := 20) dX7_emit_19 rfl rfl rfl ?_
      refine aw_gr (q := 24) (e := 5) (v := .ref 34) (pc' := 23) H0 (H0.fo rfl rfl) (l13 rfl) rfl rfl dX7_emit_20 rfl fl_RX7_15 ?_
      refine aw_aload_n (pc' := 24) dX7_emit_23 rfl rfl rfl ?_
      refine aw_gi (q := 24) (pc' := 27) H0 (H0.fo rfl rfl) (l13 rfl) rfl dX7_emit_24 rfl fl_RX7_22 ?_
      refine aw_iload_n (pc' := 28) dX7_emit_27 rfl rfl ?_
      obtain ⟨v3, ev3, hf⟩ := vl_e hf
      refine aw_sndi ev3 ?_
      obtain ⟨g4, hf⟩ := gd_e hf
      obtain ⟨s5, es5, hf⟩ := st_e hf
      refine aw_is (q := 26) (pc' := 29) es5 H0 (H0.fa rfl rfl rfl) g4 dX7_emit_28 rfl (fun h5 H5 => ?_)
      have m5 := Mo.ofI es5
      refine aw_aload_n (pc' := 30) dX7_emit_29 rfl rfl rfl ?_
      refine aw_dup (pc' := 31) dX7_emit_30 rfl rfl ?_
      refine aw_gi (q := 24) (pc' := 34) H5 (H5.fo rfl rfl) (l13 rfl) rfl dX7_emit_31 rfl fl_RX7_22 ?_
      refine aw_iconst (v := 1) (pc' := 35) dX7_emit_34 rfl ic_1 ?_
      refine aw_iadd (pc' := 36) dX7_emit_35 rfl ?_
      obtain ⟨v6, ev6, hf⟩ := vl_e hf
      refine aw_topi ev6 ?_
      obtain ⟨s7, es7, hf⟩ := st_e hf
      refine aw_pi (q := 24) (pc' := 39) es7 H5 (H5.fo rfl rfl) (by decide) rfl dX7_emit_36 rfl fl_RX7_22 rfl (fun h7 H7 => ?_)
      have m7 := Mo.ofS es7
      obtain rfl := Option.some.inj hf
      exact aw_rv dX7_emit_39 rfl (Nat.le_of_ble_eq_true rfl) (Nat.le_of_ble_eq_true rfl) ⟨H7, (m5.tr m7)⟩
/-! ThirtyThreeBelow$Reader.takes -/
noncomputable def f_X7_takes (s0 : SS) (a0 : Int32) : Option (Int32 × SS) := (if (zS s0 24 5) < (0 : Int32) then (if (zS s0 24 4) < (zS s0 24 1) then (vl ((zS s0 24 4)) fun v3 => (gd (inB v3 160) (if (zI s0 25 (v3.toInt.toNat)) = a0 then (vl (((zS s0 24 4) + (1 : Int32))) fun v6 => (st (pS s0 24 4 v6) fun s7 => some (1, s7))) else some (0, s0)))) else some (0, s0)) else some (0, s0))
set_option maxRecDepth 4000 in
theorem t_X7_takes {r9 : Int32} {s0 s9 : SS} {h0 : List aE} {a0 : Int32} (H0 : HH s0 h0) (hf : f_X7_takes s0 a0 = some (r9, s9)) : AM mX7_takes (0) [.ref 32, .int a0] h0 0 0 (PI fun r' h' => r9 = r' ∧ HH s9 h' ∧ Mo s0 s9 ∧ (r9 = 0 ∨ r9 = 1)) := by
  unfold f_X7_takes at hf
  refine am_of (lv := [some (.ref 32), some (.int a0)]) rfl (Nat.le_of_ble_eq_true rfl) rfl ?_
  refine aw_aload_n (pc' := 1) dX7_takes_0 rfl rfl rfl ?_
  refine aw_gi (q := 24) (pc' := 4) H0 (H0.fo rfl rfl) (l13 rfl) rfl dX7_takes_1 rfl fl_RX7_34 ?_
  refine aw_zge (tgt := 31) (pc' := 7) dX7_takes_4 rfl rfl (fun c1 => ?_) (fun c1 => ?_)
  · replace hf := ifn c1 hf
    refine aw_iconst (v := 0) (pc' := 32) dX7_takes_31 rfl ic_0 ?_
    obtain ⟨rfl, rfl⟩ := so2 hf
    exact aw_ri dX7_takes_32 rfl (by decide) (Nat.le_of_ble_eq_true rfl) (Nat.le_of_ble_eq_true rfl) ⟨rfl, H0, (Mo.rf _), Or.inl rfl⟩
  · replace hf := ifp c1 hf
    refine aw_aload_n (pc' := 8) dX7_takes_7 rfl rfl rfl ?_
    refine aw_gi (q := 24) (pc' := 11) H0 (H0.fo rfl rfl) (l13 rfl) rfl dX7_takes_8 rfl fl_RX7_31 ?_
    refine aw_aload_n (pc' := 12) dX7_takes_11 rfl rfl rfl ?_
    refine aw_gi (q := 24) (pc' := 15) H0 (H0.fo rfl rfl) (l13 rfl) rfl dX7_takes_12 rfl fl_RX7_18 ?_
    refine aw_cge (tgt := 31) (pc' := 18) dX7_takes_15 rfl rfl (fun c2 => ?_) (fun c2 => ?_)
    · replace hf := ifn c2 hf
      refine aw_iconst (v := 0) (pc' := 32) dX7_takes_31 rfl ic_0 ?_
      obtain ⟨rfl, rfl⟩ := so2 hf
      exact aw_ri dX7_takes_32 rfl (by decide) (Nat.le_of_ble_eq_true rfl) (Nat.le_of_ble_eq_true rfl) ⟨rfl, H0, (Mo.rf _), Or.inl rfl⟩
    · replace hf := ifp c2 hf
      refine aw_aload_n (pc' := 19) dX7_takes_18 rfl rfl rfl ?_
      refine aw_gr (q := 24) (e := 3) (v := .ref 33) (pc' := 22) H0 (H0.fo rfl rfl) (l13 rfl) rfl rfl dX7_takes_19 rfl fl_RX7_11 ?_
      refine aw_aload_n (pc' := 23) dX7_takes_22 rfl rfl rfl ?_
      refine aw_gi (q := 24) (pc' := 26) H0 (H0.fo rfl rfl) (l13 rfl) rfl dX7_takes_23 rfl fl_RX7_31 ?_
      obtain ⟨v3, ev3, hf⟩ := vl_e hf
      refine aw_topi ev3 ?_
      obtain ⟨g4, hf⟩ := gd_e hf
      refine aw_ia (q := 25) (pc' := 27) H0 (H0.fa rfl rfl rfl) g4 dX7_takes_26 rfl ?_
      refine aw_iload_n (pc' := 28) dX7_takes_27 rfl rfl ?_
      refine aw_icmp_eq (tgt := 33) (pc' := 31) dX7_takes_28 rfl rfl (fun c5 => ?_) (fun c5 => ?_)
      · replace hf := ifp c5 hf
        refine aw_aload_n (pc' := 34) dX7_takes_33 rfl rfl rfl ?_
        refine aw_dup (pc' := 35) dX7_takes_34 rfl rfl ?_
        refine aw_gi (q := 24) (pc' := 38) H0 (H0.fo rfl rfl) (l13 rfl) rfl dX7_takes_35 rfl fl_RX7_31 ?_
        refine aw_iconst (v := 1) (pc' := 39) dX7_takes_38 rfl ic_1 ?_
        refine aw_iadd (pc' := 40) dX7_takes_39 rfl ?_
        obtain ⟨v6, ev6, hf⟩ := vl_e hf
        refine aw_topi ev6 ?_
        obtain ⟨s7, es7, hf⟩ := st_e hf
        refine aw_pi (q := 24) (pc' := 43) es7 H0 (H0.fo rfl rfl) (by decide) rfl dX7_takes_40 rfl fl_RX7_31 rfl (fun h7 H7 => ?_)
        have m7 := Mo.ofS es7
        refine aw_iconst (v := 1) (pc' := 44) dX7_takes_43 rfl ic_1 ?_
        obtain ⟨rfl, rfl⟩ := so2 hf
        exact aw_ri dX7_takes_44 rfl (by decide) (Nat.le_of_ble_eq_true rfl) (Nat.le_of_ble_eq_true rfl) ⟨rfl, H7, m7, Or.inr rfl⟩
      · replace hf := ifn c5 hf
        refine aw_iconst (v := 0) (pc' := 32) dX7_takes_31 rfl ic_0 ?_
        obtain ⟨rfl, rfl⟩ := so2 hf
        exact aw_ri dX7_takes_32 rfl (by decide) (Nat.le_of_ble_eq_true rfl) (Nat.le_of_ble_eq_true rfl) ⟨rfl, H0, (Mo.rf _), Or.inl rfl⟩
/-! ThirtyThreeBelow$Reader.plusOrMinus -/
noncomputable def f_X7_plusOrMinus (s0 : SS)  : Option (Int32 × SS) := (bd (f_X7_takes s0 43) fun r1 s1 => (if r1 = (0 : Int32) then (bd (f_X7_takes s1 45) fun r3 s3 => (if r3 = (0 : Int32) then some (0, s3) else some ((-17), s3))) else some ((-16), s1)))
set_option maxRecDepth 4000 in
theorem t_X7_plusOrMinus {r9 : Int32} {s0 s9 : SS} {h0 : List aE}  (H0 : HH s0 h0) (hf : f_X7_plusOrMinus s0 = some (r9, s9)) : AM mX7_plusOrMinus (1) [.ref 32] h0 0 0 (PI fun r' h' => r9 = r' ∧ HH s9 h' ∧ Mo s0 s9) := by
  unfold f_X7_plusOrMinus at hf
  refine am_of (lv := [some (.ref 32)]) rfl (Nat.le_of_ble_eq_true rfl) rfl ?_
  refine aw_aload_n (pc' := 1) dX7_plusOrMinus_0 rfl rfl rfl ?_
  refine aw_bipush (v := 43) (pc' := 3) dX7_plusOrMinus_1 rfl bp_43 ?_
  obtain ⟨r1, s1, ec1, hf⟩ := bd_e hf
  refine aw_callVi (M' := mX7_takes) (nc' := 0) (ns' := 0) (pc' := 6) dX7_plusOrMinus_3 rfl ml_RX7_40 kX7_takes (t_X7_takes H0 ec1) (H0.ob (H0.fo rfl rfl) (by decide)) rfl rfl rfl (Nat.le_of_ble_eq_true rfl) (rokD (by omega) (Nat.le_of_ble_eq_true rfl) (Nat.le_of_ble_eq_true rfl) (Nat.le_of_ble_eq_true rfl)) rfl rfl (fun _ h1 q1 => ?_)
  obtain ⟨rfl, H1, m1, zb1⟩ := q1
  refine aw_if_eq (tgt := 14) (pc' := 9) dX7_plusOrMinus_6 rfl rfl (fun c2 => ?_) (fun c2 => ?_)
  · replace hf := ifp c2 hf
    refine aw_aload_n (pc' := 15) dX7_plusOrMinus_14 rfl rfl rfl ?_
    refine aw_bipush (v := 45) (pc' := 17) dX7_plusOrMinus_15 rfl bp_45 ?_
    obtain ⟨r3, s3, ec3, hf⟩ := bd_e hf
    refine aw_callVi (M' := mX7_takes) (nc' := 0) (ns' := 0) (pc' := 20) dX7_plusOrMinus_17 rfl ml_RX7_40 kX7_takes (t_X7_takes H1 ec3) (H1.ob (H1.fo rfl rfl) (by decide)) rfl rfl rfl (Nat.le_of_ble_eq_true rfl) (rokD (by omega) (Nat.le_of_ble_eq_true rfl) (Nat.le_of_ble_eq_true rfl) (Nat.le_of_ble_eq_true rfl)) rfl rfl (fun _ h3 q3 => ?_)
    obtain ⟨rfl, H3, m3, zb3⟩ := q3
    refine aw_if_eq (tgt := 28) (pc' := 23) dX7_plusOrMinus_20 rfl rfl (fun c4 => ?_) (fun c4 => ?_)
    · replace hf := ifp c4 hf
      refine aw_iconst (v := 0) (pc' := 29) dX7_plusOrMinus_28 rfl ic_0 ?_
      obtain ⟨rfl, rfl⟩ := so2 hf
      exact aw_ri dX7_plusOrMinus_29 rfl rfl (Nat.le_of_ble_eq_true rfl) (Nat.le_of_ble_eq_true rfl) ⟨rfl, H3, (m1.tr m3)⟩
    · replace hf := ifn c4 hf
      refine aw_bipush (v := (-17)) (pc' := 25) dX7_plusOrMinus_23 rfl bp_m17 ?_
      refine aw_goto (tgt := 29) dX7_plusOrMinus_25 rfl ?_
      obtain ⟨rfl, rfl⟩ := so2 hf
      exact aw_ri dX7_plusOrMinus_29 rfl rfl (Nat.le_of_ble_eq_true rfl) (Nat.le_of_ble_eq_true rfl) ⟨rfl, H3, (m1.tr m3)⟩
  · replace hf := ifn c2 hf
    refine aw_bipush (v := (-16)) (pc' := 11) dX7_plusOrMinus_9 rfl bp_m16 ?_
    refine aw_goto (tgt := 29) dX7_plusOrMinus_11 rfl ?_
    obtain ⟨rfl, rfl⟩ := so2 hf
    exact aw_ri dX7_plusOrMinus_29 rfl rfl (Nat.le_of_ble_eq_true rfl) (Nat.le_of_ble_eq_true rfl) ⟨rfl, H1, m1⟩
/-! ThirtyThreeBelow$Reader.timesOrOver -/
noncomputable def f_X7_timesOrOver (s0 : SS)  : Option (Int32 × SS) := (bd (f_X7_takes s0 42) fun r1 s1 => (if r1 = (0 : Int32) then (bd (f_X7_takes s1 47) fun r3 s3 => (if r3 = (0 : Int32) then (bd (f_X7_takes s3 37) fun r5 s5 => (if r5 = (0 : Int32) then some (0, s5) else some ((-20), s5))) else some ((-19), s3))) else some ((-18), s1)))
set_option maxRecDepth 4000 in
theorem t_X7_timesOrOver {r9 : Int32} {s0 s9 : SS} {h0 : List aE}  (H0 : HH s0 h0) (hf : f_X7_timesOrOver s0 = some (r9, s9)) : AM mX7_timesOrOver (1) [.ref 32] h0 0 0 (PI fun r' h' => r9 = r' ∧ HH s9 h' ∧ Mo s0 s9) := by
  unfold f_X7_timesOrOver at hf
  refine am_of (lv := [some (.ref 32)]) rfl (Nat.le_of_ble_eq_true rfl) rfl ?_
  refine aw_aload_n (pc' := 1) dX7_timesOrOver_0 rfl rfl rfl ?_
  refine aw_bipush (v := 42) (pc' := 3) dX7_timesOrOver_1 rfl bp_42 ?_
  obtain ⟨r1, s1, ec1, hf⟩ := bd_e hf
  refine aw_callVi (M' := mX7_takes) (nc' := 0) (ns' := 0) (pc' := 6) dX7_timesOrOver_3 rfl ml_RX7_40 kX7_takes (t_X7_takes H0 ec1) (H0.ob (H0.fo rfl rfl) (by decide)) rfl rfl rfl (Nat.le_of_ble_eq_true rfl) (rokD (by omega) (Nat.le_of_ble_eq_true rfl) (Nat.le_of_ble_eq_true rfl) (Nat.le_of_ble_eq_true rfl)) rfl rfl (fun _ h1 q1 => ?_)
  obtain ⟨rfl, H1, m1, zb1⟩ := q1
  refine aw_if_eq (tgt := 14) (pc' := 9) dX7_timesOrOver_6 rfl rfl (fun c2 => ?_) (fun c2 => ?_)
  · replace hf := ifp c2 hf
    refine aw_aload_n (pc' := 15) dX7_timesOrOver_14 rfl rfl rfl ?_
    refine aw_bipush (v := 47) (pc' := 17) dX7_timesOrOver_15 rfl bp_47 ?_
    obtain ⟨r3, s3, ec3, hf⟩ := bd_e hf
    refine aw_callVi (M' := mX7_takes) (nc' := 0) (ns' := 0) (pc' := 20) dX7_timesOrOver_17 rfl ml_RX7_40 kX7_takes (t_X7_takes H1 ec3) (H1.ob (H1.fo rfl rfl) (by decide)) rfl rfl rfl (Nat.le_of_ble_eq_true rfl) (rokD (by omega) (Nat.le_of_ble_eq_true rfl) (Nat.le_of_ble_eq_true rfl) (Nat.le_of_ble_eq_true rfl)) rfl rfl (fun _ h3 q3 => ?_)
    obtain ⟨rfl, H3, m3, zb3⟩ := q3
    refine aw_if_eq (tgt := 28) (pc' := 23) dX7_timesOrOver_20 rfl rfl (fun c4 => ?_) (fun c4 => ?_)
    · replace hf := ifp c4 hf
      refine aw_aload_n (pc' := 29) dX7_timesOrOver_28 rfl rfl rfl ?_
      refine aw_bipush (v := 37) (pc' := 31) dX7_timesOrOver_29 rfl bp_37 ?_
      obtain ⟨r5, s5, ec5, hf⟩ := bd_e hf
      refine aw_callVi (M' := mX7_takes) (nc' := 0) (ns' := 0) (pc' := 34) dX7_timesOrOver_31 rfl ml_RX7_40 kX7_takes (t_X7_takes H3 ec5) (H3.ob (H3.fo rfl rfl) (by decide)) rfl rfl rfl (Nat.le_of_ble_eq_true rfl) (rokD (by omega) (Nat.le_of_ble_eq_true rfl) (Nat.le_of_ble_eq_true rfl) (Nat.le_of_ble_eq_true rfl)) rfl rfl (fun _ h5 q5 => ?_)
      obtain ⟨rfl, H5, m5, zb5⟩ := q5
      refine aw_if_eq (tgt := 42) (pc' := 37) dX7_timesOrOver_34 rfl rfl (fun c6 => ?_) (fun c6 => ?_)
      · replace hf := ifp c6 hf
        refine aw_iconst (v := 0) (pc' := 43) dX7_timesOrOver_42 rfl ic_0 ?_
        obtain ⟨rfl, rfl⟩ := so2 hf
        exact aw_ri dX7_timesOrOver_43 rfl rfl (Nat.le_of_ble_eq_true rfl) (Nat.le_of_ble_eq_true rfl) ⟨rfl, H5, ((m1.tr m3).tr m5)⟩
      · replace hf := ifn c6 hf
        refine aw_bipush (v := (-20)) (pc' := 39) dX7_timesOrOver_37 rfl bp_m20 ?_
        refine aw_goto (tgt := 43) dX7_timesOrOver_39 rfl ?_
        obtain ⟨rfl, rfl⟩ := so2 hf
        exact aw_ri dX7_timesOrOver_43 rfl rfl (Nat.le_of_ble_eq_true rfl) (Nat.le_of_ble_eq_true rfl) ⟨rfl, H5, ((m1.tr m3).tr m5)⟩
    · replace hf := ifn c4 hf
      refine aw_bipush (v := (-19)) (pc' := 25) dX7_timesOrOver_23 rfl bp_m19 ?_
      refine aw_goto (tgt := 43) dX7_timesOrOver_25 rfl ?_
      obtain ⟨rfl, rfl⟩ := so2 hf
      exact aw_ri dX7_timesOrOver_43 rfl rfl (Nat.le_of_ble_eq_true rfl) (Nat.le_of_ble_eq_true rfl) ⟨rfl, H3, (m1.tr m3)⟩
  · replace hf := ifn c2 hf
    refine aw_bipush (v := (-18)) (pc' := 11) dX7_timesOrOver_9 rfl bp_m18 ?_
    refine aw_goto (tgt := 43) dX7_timesOrOver_11 rfl ?_
    obtain ⟨rfl, rfl⟩ := so2 hf
    exact aw_ri dX7_timesOrOver_43 rfl rfl (Nat.le_of_ble_eq_true rfl) (Nat.le_of_ble_eq_true rfl) ⟨rfl, H1, m1⟩
/-! ThirtyThreeBelow$Reader.product -/
noncomputable def f_X7_product_L12_b (rec : SS → Int32 → Option SS) (y1 : Int32) (rc : SS → Int32 → Int32 → Option SS) (s : SS) (x2 : Int32) (x3 : Int32) : Option SS := (if x3 < (160 : Int32) then (if x2 = (0 : Int32) then some s else (b1 (rec s y1) fun s5 => (b1 (f_X7_emit s5 x2) fun s6 => (bd (f_X7_timesOrOver s6) fun r7 s7 => (vl (x3 + 1) fun v8 => (rc s7 r7 v8)))))) else some s)
noncomputable def f_X7_product_L12 (rec : SS → Int32 → Option SS) (y1 : Int32) : Nat → SS → Int32 → Int32 → Option SS
  | 0, _, _, _ => none
  | n + 1, s, x2, x3 => f_X7_product_L12_b rec y1 (f_X7_product_L12 rec y1 n) s x2 x3
set_option maxRecDepth 4000 in
theorem t_X7_product_L12 {Dr : Nat} {rec : SS → Int32 → Option SS} (hrec : ∀ {s0 s9 : SS} {h0 : List aE} {a0 : Int32}, HH s0 h0 → rec s0 a0 = some s9 → AM mX7_single Dr [.ref 32, .int a0] h0 0 0 (PV fun h' => HH s9 h' ∧ Mo s0 s9)) {s0 sb s9 : SS} {y1 : Int32} (mb : Mo s0 sb)  : ∀ (n : Nat) (s : SS) (h : List aE) (x2 : Int32) (x3 : Int32), HH s h → Mo sb s → f_X7_product_L12 rec y1 n s x2 x3 = some s9 → AW mX7_product (rmD (Dr + 2) 0 0) (fin (PV fun h' => HH s9 h' ∧ Mo s0 s9) 0 0) 12 [some (.ref 32), some (.int y1), some (.int x2), some (.int x3)] [] h 0 0 := by
  intro n
  induction n with
  | zero =>
    intro s h x2 x3 H ms hf
    cases hf
  | succ n ih =>
    intro s h x2 x3 H ms hf
    replace hf : f_X7_product_L12_b rec y1 (f_X7_product_L12 rec y1 n) s x2 x3 = some s9 := hf
    unfold f_X7_product_L12_b at hf
    refine aw_iload_n (pc' := 13) dX7_product_12 rfl rfl ?_
    refine aw_sipush (v := 160) (pc' := 16) dX7_product_13 rfl sp_160 ?_
    refine aw_cge (tgt := 44) (pc' := 19) dX7_product_16 rfl rfl (fun c3 => ?_) (fun c3 => ?_)
    · replace hf := ifn c3 hf
      obtain rfl := Option.some.inj hf
      exact aw_rv dX7_product_44 rfl (Nat.le_of_ble_eq_true rfl) (Nat.le_of_ble_eq_true rfl) ⟨H, (mb.tr ms)⟩
    · replace hf := ifp c3 hf
      refine aw_iload_n (pc' := 20) dX7_product_19 rfl rfl ?_
      refine aw_if_eq (tgt := 44) (pc' := 23) dX7_product_20 rfl rfl (fun c4 => ?_) (fun c4 => ?_)
      · replace hf := ifp c4 hf
        obtain rfl := Option.some.inj hf
        exact aw_rv dX7_product_44 rfl (Nat.le_of_ble_eq_true rfl) (Nat.le_of_ble_eq_true rfl) ⟨H, (mb.tr ms)⟩
      · replace hf := ifn c4 hf
        refine aw_aload_n (pc' := 24) dX7_product_23 rfl rfl rfl ?_
        refine aw_iload_n (pc' := 25) dX7_product_24 rfl rfl ?_
        obtain ⟨s5, ec5, hf⟩ := b1_e hf
        refine aw_callVv (M' := mX7_single) (nc' := 0) (ns' := 0) (pc' := 28) dX7_product_25 rfl ml_RX7_69 kX7_single (hrec H ec5) (H.ob (H.fo rfl rfl) (by decide)) rfl rfl rfl (Nat.le_of_ble_eq_true rfl) (rokD (by omega) (Nat.le_of_ble_eq_true rfl) (Nat.le_of_ble_eq_true rfl) (Nat.le_of_ble_eq_true rfl)) rfl rfl (fun h5 q5 => ?_)
        obtain ⟨H5, m5⟩ := q5
        refine aw_aload_n (pc' := 29) dX7_product_28 rfl rfl rfl ?_
        refine aw_iload_n (pc' := 30) dX7_product_29 rfl rfl ?_
        obtain ⟨s6, ec6, hf⟩ := b1_e hf
        refine aw_callVv (M' := mX7_emit) (nc' := 0) (ns' := 0) (pc' := 33) dX7_product_30 rfl ml_RX7_50 kX7_emit (t_X7_emit H5 ec6) (H5.ob (H5.fo rfl rfl) (by decide)) rfl rfl rfl (Nat.le_of_ble_eq_true rfl) (rokD (by omega) (Nat.le_of_ble_eq_true rfl) (Nat.le_of_ble_eq_true rfl) (Nat.le_of_ble_eq_true rfl)) rfl rfl (fun h6 q6 => ?_)
        obtain ⟨H6, m6⟩ := q6
        refine aw_aload_n (pc' := 34) dX7_product_33 rfl rfl rfl ?_
        obtain ⟨r7, s7, ec7, hf⟩ := bd_e hf
        refine aw_callVi (M' := mX7_timesOrOver) (nc' := 0) (ns' := 0) (pc' := 37) dX7_product_34 rfl ml_RX7_72 kX7_timesOrOver (t_X7_timesOrOver H6 ec7) (H6.ob (H6.fo rfl rfl) (by decide)) rfl rfl rfl (Nat.le_of_ble_eq_true rfl) (rokD (by omega) (Nat.le_of_ble_eq_true rfl) (Nat.le_of_ble_eq_true rfl) (Nat.le_of_ble_eq_true rfl)) rfl rfl (fun _ h7 q7 => ?_)
        obtain ⟨rfl, H7, m7⟩ := q7
        refine aw_istore_n (lv' := [_, _, _, _]) (pc' := 38) dX7_product_37 rfl (Nat.le_of_ble_eq_true rfl) rfl ?_
        obtain ⟨v8, ev8, hf⟩ := vl_e hf
        refine aw_iincV (y := v8) (lv' := [_, _, _, _]) (pc' := 41) dX7_product_38 rfl rfl (Nat.le_of_ble_eq_true rfl) ev8 rfl ?_
        refine aw_goto (tgt := 12) dX7_product_41 rfl ?_
        exact ih _ _ _ _ H7 (((ms.tr m5).tr m6).tr m7) hf
noncomputable def f_X7_product (rec : SS → Int32 → Option SS) (s0 : SS) (a0 : Int32) : Option SS := (b1 (rec s0 a0) fun s1 => (bd (f_X7_timesOrOver s1) fun r2 s2 => (f_X7_product_L12 rec a0 4000 s2 r2 0)))
set_option maxRecDepth 4000 in
theorem t_X7_product {Dr : Nat} {rec : SS → Int32 → Option SS} (hrec : ∀ {s0 s9 : SS} {h0 : List aE} {a0 : Int32}, HH s0 h0 → rec s0 a0 = some s9 → AM mX7_single Dr [.ref 32, .int a0] h0 0 0 (PV fun h' => HH s9 h' ∧ Mo s0 s9)) {s0 s9 : SS} {h0 : List aE} {a0 : Int32} (H0 : HH s0 h0) (hf : f_X7_product rec s0 a0 = some s9) : AM mX7_product (Dr + 2) [.ref 32, .int a0] h0 0 0 (PV fun h' => HH s9 h' ∧ Mo s0 s9) := by
  unfold f_X7_product at hf
  refine am_of (lv := [some (.ref 32), some (.int a0), none, none]) rfl (Nat.le_of_ble_eq_true rfl) rfl ?_
  refine aw_aload_n (pc' := 1) dX7_product_0 rfl rfl rfl ?_
  refine aw_iload_n (pc' := 2) dX7_product_1 rfl rfl ?_
  obtain ⟨s1, ec1, hf⟩ := b1_e hf
  refine aw_callVv (M' := mX7_single) (nc' := 0) (ns' := 0) (pc' := 5) dX7_product_2 rfl ml_RX7_69 kX7_single (hrec H0 ec1) (H0.ob (H0.fo rfl rfl) (by decide)) rfl rfl rfl (Nat.le_of_ble_eq_true rfl) (rokD (by omega) (Nat.le_of_ble_eq_true rfl) (Nat.le_of_ble_eq_true rfl) (Nat.le_of_ble_eq_true rfl)) rfl rfl (fun h1 q1 => ?_)
  obtain ⟨H1, m1⟩ := q1
  refine aw_aload_n (pc' := 6) dX7_product_5 rfl rfl rfl ?_
  obtain ⟨r2, s2, ec2, hf⟩ := bd_e hf
  refine aw_callVi (M' := mX7_timesOrOver) (nc' := 0) (ns' := 0) (pc' := 9) dX7_product_6 rfl ml_RX7_72 kX7_timesOrOver (t_X7_timesOrOver H1 ec2) (H1.ob (H1.fo rfl rfl) (by decide)) rfl rfl rfl (Nat.le_of_ble_eq_true rfl) (rokD (by omega) (Nat.le_of_ble_eq_true rfl) (Nat.le_of_ble_eq_true rfl) (Nat.le_of_ble_eq_true rfl)) rfl rfl (fun _ h2 q2 => ?_)
  obtain ⟨rfl, H2, m2⟩ := q2
  refine aw_istore_n (lv' := [_, _, _, _]) (pc' := 10) dX7_product_9 rfl (Nat.le_of_ble_eq_true rfl) rfl ?_
  refine aw_iconst (v := 0) (pc' := 11) dX7_product_10 rfl ic_0 ?_
  refine aw_istore_n (lv' := [_, _, _, _]) (pc' := 12) dX7_product_11 rfl (Nat.le_of_ble_eq_true rfl) rfl ?_
  refine t_X7_product_L12 hrec (m1.tr m2)  4000 _ _ _ _ H2 (Mo.rf _) hf
/-! ThirtyThreeBelow$Reader.sum -/
noncomputable def f_X7_sum_L12_b (rec : SS → Int32 → Option SS) (y1 : Int32) (rc : SS → Int32 → Int32 → Option SS) (s : SS) (x2 : Int32) (x3 : Int32) : Option SS := (if x3 < (160 : Int32) then (if x2 = (0 : Int32) then some s else (b1 (f_X7_product rec s y1) fun s5 => (b1 (f_X7_emit s5 x2) fun s6 => (bd (f_X7_plusOrMinus s6) fun r7 s7 => (vl (x3 + 1) fun v8 => (rc s7 r7 v8)))))) else some s)
noncomputable def f_X7_sum_L12 (rec : SS → Int32 → Option SS) (y1 : Int32) : Nat → SS → Int32 → Int32 → Option SS
  | 0, _, _, _ => none
  | n + 1, s, x2, x3 => f_X7_sum_L12_b rec y1 (f_X7_sum_L12 rec y1 n) s x2 x3
set_option maxRecDepth 4000 in
theorem t_X7_sum_L12 {Dr : Nat} {rec : SS → Int32 → Option SS} (hrec : ∀ {s0 s9 : SS} {h0 : List aE} {a0 : Int32}, HH s0 h0 → rec s0 a0 = some s9 → AM mX7_single Dr [.ref 32, .int a0] h0 0 0 (PV fun h' => HH s9 h' ∧ Mo s0 s9)) {s0 sb s9 : SS} {y1 : Int32} (mb : Mo s0 sb)  : ∀ (n : Nat) (s : SS) (h : List aE) (x2 : Int32) (x3 : Int32), HH s h → Mo sb s → f_X7_sum_L12 rec y1 n s x2 x3 = some s9 → AW mX7_sum (rmD (Dr + 3) 0 0) (fin (PV fun h' => HH s9 h' ∧ Mo s0 s9) 0 0) 12 [some (.ref 32), some (.int y1), some (.int x2), some (.int x3)] [] h 0 0 := by
  intro n
  induction n with
  | zero =>
    intro s h x2 x3 H ms hf
    cases hf
  | succ n ih =>
    intro s h x2 x3 H ms hf
    replace hf : f_X7_sum_L12_b rec y1 (f_X7_sum_L12 rec y1 n) s x2 x3 = some s9 := hf
    unfold f_X7_sum_L12_b at hf
    refine aw_iload_n (pc' := 13) dX7_sum_12 rfl rfl ?_
    refine aw_sipush (v := 160) (pc' := 16) dX7_sum_13 rfl sp_160 ?_
    refine aw_cge (tgt := 44) (pc' := 19) dX7_sum_16 rfl rfl (fun c3 => ?_) (fun c3 => ?_)
    · replace hf := ifn c3 hf
      obtain rfl := Option.some.inj hf
      exact aw_rv dX7_sum_44 rfl (Nat.le_of_ble_eq_true rfl) (Nat.le_of_ble_eq_true rfl) ⟨H, (mb.tr ms)⟩
    · replace hf := ifp c3 hf
      refine aw_iload_n (pc' := 20) dX7_sum_19 rfl rfl ?_
      refine aw_if_eq (tgt := 44) (pc' := 23) dX7_sum_20 rfl rfl (fun c4 => ?_) (fun c4 => ?_)
      · replace hf := ifp c4 hf
        obtain rfl := Option.some.inj hf
        exact aw_rv dX7_sum_44 rfl (Nat.le_of_ble_eq_true rfl) (Nat.le_of_ble_eq_true rfl) ⟨H, (mb.tr ms)⟩
      · replace hf := ifn c4 hf
        refine aw_aload_n (pc' := 24) dX7_sum_23 rfl rfl rfl ?_
        refine aw_iload_n (pc' := 25) dX7_sum_24 rfl rfl ?_
        obtain ⟨s5, ec5, hf⟩ := b1_e hf
        refine aw_callVv (M' := mX7_product) (nc' := 0) (ns' := 0) (pc' := 28) dX7_sum_25 rfl ml_RX7_62 kX7_product (t_X7_product hrec H ec5) (H.ob (H.fo rfl rfl) (by decide)) rfl rfl rfl (Nat.le_of_ble_eq_true rfl) (rokD (by omega) (Nat.le_of_ble_eq_true rfl) (Nat.le_of_ble_eq_true rfl) (Nat.le_of_ble_eq_true rfl)) rfl rfl (fun h5 q5 => ?_)
        obtain ⟨H5, m5⟩ := q5
        refine aw_aload_n (pc' := 29) dX7_sum_28 rfl rfl rfl ?_
        refine aw_iload_n (pc' := 30) dX7_sum_29 rfl rfl ?_
        obtain ⟨s6, ec6, hf⟩ := b1_e hf
        refine aw_callVv (M' := mX7_emit) (nc' := 0) (ns' := 0) (pc' := 33) dX7_sum_30 rfl ml_RX7_50 kX7_emit (t_X7_emit H5 ec6) (H5.ob (H5.fo rfl rfl) (by decide)) rfl rfl rfl (Nat.le_of_ble_eq_true rfl) (rokD (by omega) (Nat.le_of_ble_eq_true rfl) (Nat.le_of_ble_eq_true rfl) (Nat.le_of_ble_eq_true rfl)) rfl rfl (fun h6 q6 => ?_)
        obtain ⟨H6, m6⟩ := q6
        refine aw_aload_n (pc' := 34) dX7_sum_33 rfl rfl rfl ?_
        obtain ⟨r7, s7, ec7, hf⟩ := bd_e hf
        refine aw_callVi (M' := mX7_plusOrMinus) (nc' := 0) (ns' := 0) (pc' := 37) dX7_sum_34 rfl ml_RX7_65 kX7_plusOrMinus (t_X7_plusOrMinus H6 ec7) (H6.ob (H6.fo rfl rfl) (by decide)) rfl rfl rfl (Nat.le_of_ble_eq_true rfl) (rokD (by omega) (Nat.le_of_ble_eq_true rfl) (Nat.le_of_ble_eq_true rfl) (Nat.le_of_ble_eq_true rfl)) rfl rfl (fun _ h7 q7 => ?_)
        obtain ⟨rfl, H7, m7⟩ := q7
        refine aw_istore_n (lv' := [_, _, _, _]) (pc' := 38) dX7_sum_37 rfl (Nat.le_of_ble_eq_true rfl) rfl ?_
        obtain ⟨v8, ev8, hf⟩ := vl_e hf
        refine aw_iincV (y := v8) (lv' := [_, _, _, _]) (pc' := 41) dX7_sum_38 rfl rfl (Nat.le_of_ble_eq_true rfl) ev8 rfl ?_
        refine aw_goto (tgt := 12) dX7_sum_41 rfl ?_
        exact ih _ _ _ _ H7 (((ms.tr m5).tr m6).tr m7) hf
noncomputable def f_X7_sum (rec : SS → Int32 → Option SS) (s0 : SS) (a0 : Int32) : Option SS := (b1 (f_X7_product rec s0 a0) fun s1 => (bd (f_X7_plusOrMinus s1) fun r2 s2 => (f_X7_sum_L12 rec a0 4000 s2 r2 0)))
set_option maxRecDepth 4000 in
theorem t_X7_sum {Dr : Nat} {rec : SS → Int32 → Option SS} (hrec : ∀ {s0 s9 : SS} {h0 : List aE} {a0 : Int32}, HH s0 h0 → rec s0 a0 = some s9 → AM mX7_single Dr [.ref 32, .int a0] h0 0 0 (PV fun h' => HH s9 h' ∧ Mo s0 s9)) {s0 s9 : SS} {h0 : List aE} {a0 : Int32} (H0 : HH s0 h0) (hf : f_X7_sum rec s0 a0 = some s9) : AM mX7_sum (Dr + 3) [.ref 32, .int a0] h0 0 0 (PV fun h' => HH s9 h' ∧ Mo s0 s9) := by
  unfold f_X7_sum at hf
  refine am_of (lv := [some (.ref 32), some (.int a0), none, none]) rfl (Nat.le_of_ble_eq_true rfl) rfl ?_
  refine aw_aload_n (pc' := 1) dX7_sum_0 rfl rfl rfl ?_
  refine aw_iload_n (pc' := 2) dX7_sum_1 rfl rfl ?_
  obtain ⟨s1, ec1, hf⟩ := b1_e hf
  refine aw_callVv (M' := mX7_product) (nc' := 0) (ns' := 0) (pc' := 5) dX7_sum_2 rfl ml_RX7_62 kX7_product (t_X7_product hrec H0 ec1) (H0.ob (H0.fo rfl rfl) (by decide)) rfl rfl rfl (Nat.le_of_ble_eq_true rfl) (rokD (by omega) (Nat.le_of_ble_eq_true rfl) (Nat.le_of_ble_eq_true rfl) (Nat.le_of_ble_eq_true rfl)) rfl rfl (fun h1 q1 => ?_)
  obtain ⟨H1, m1⟩ := q1
  refine aw_aload_n (pc' := 6) dX7_sum_5 rfl rfl rfl ?_
  obtain ⟨r2, s2, ec2, hf⟩ := bd_e hf
  refine aw_callVi (M' := mX7_plusOrMinus) (nc' := 0) (ns' := 0) (pc' := 9) dX7_sum_6 rfl ml_RX7_65 kX7_plusOrMinus (t_X7_plusOrMinus H1 ec2) (H1.ob (H1.fo rfl rfl) (by decide)) rfl rfl rfl (Nat.le_of_ble_eq_true rfl) (rokD (by omega) (Nat.le_of_ble_eq_true rfl) (Nat.le_of_ble_eq_true rfl) (Nat.le_of_ble_eq_true rfl)) rfl rfl (fun _ h2 q2 => ?_)
  obtain ⟨rfl, H2, m2⟩ := q2
  refine aw_istore_n (lv' := [_, _, _, _]) (pc' := 10) dX7_sum_9 rfl (Nat.le_of_ble_eq_true rfl) rfl ?_
  refine aw_iconst (v := 0) (pc' := 11) dX7_sum_10 rfl ic_0 ?_
  refine aw_istore_n (lv' := [_, _, _, _]) (pc' := 12) dX7_sum_11 rfl (Nat.le_of_ble_eq_true rfl) rfl ?_
  refine t_X7_sum_L12 hrec (m1.tr m2)  4000 _ _ _ _ H2 (Mo.rf _) hf
/-! ThirtyThreeBelow$Reader.compared -/
noncomputable def f_X7_compared (rec : SS → Int32 → Option SS) (s0 : SS) (a0 : Int32) : Option SS := (b1 (f_X7_sum rec s0 a0) fun s1 => (bd (f_X7_takes s1 60) fun r2 s2 => (jn (fun (s3 : SS) (t3_0 : Int32) => (if t3_0 = (0 : Int32) then some s3 else (b1 (f_X7_sum rec s3 a0) fun s5 => (b1 (f_X7_emit s5 t3_0) fun s6 => some s6)))) fun k3 => (if r2 = (0 : Int32) then (bd (f_X7_takes s2 61) fun r8 s8 => (if r8 = (0 : Int32) then (bd (f_X7_takes s8 62) fun r11 s11 => (if r11 = (0 : Int32) then (k3 s11 0) else (k3 s11 (-15)))) else (k3 s8 (-14)))) else (k3 s2 (-13))))))
set_option maxRecDepth 4000 in
theorem t_X7_compared {Dr : Nat} {rec : SS → Int32 → Option SS} (hrec : ∀ {s0 s9 : SS} {h0 : List aE} {a0 : Int32}, HH s0 h0 → rec s0 a0 = some s9 → AM mX7_single Dr [.ref 32, .int a0] h0 0 0 (PV fun h' => HH s9 h' ∧ Mo s0 s9)) {s0 s9 : SS} {h0 : List aE} {a0 : Int32} (H0 : HH s0 h0) (hf : f_X7_compared rec s0 a0 = some s9) : AM mX7_compared (Dr + 4) [.ref 32, .int a0] h0 0 0 (PV fun h' => HH s9 h' ∧ Mo s0 s9) := by
  unfold f_X7_compared at hf
  refine am_of (lv := [some (.ref 32), some (.int a0), none]) rfl (Nat.le_of_ble_eq_true rfl) rfl ?_
  refine aw_aload_n (pc' := 1) dX7_compared_0 rfl rfl rfl ?_
  refine aw_iload_n (pc' := 2) dX7_compared_1 rfl rfl ?_
  obtain ⟨s1, ec1, hf⟩ := b1_e hf
  refine aw_callVv (M' := mX7_sum) (nc' := 0) (ns' := 0) (pc' := 5) dX7_compared_2 rfl ml_RX7_59 kX7_sum (t_X7_sum hrec H0 ec1) (H0.ob (H0.fo rfl rfl) (by decide)) rfl rfl rfl (Nat.le_of_ble_eq_true rfl) (rokD (by omega) (Nat.le_of_ble_eq_true rfl) (Nat.le_of_ble_eq_true rfl) (Nat.le_of_ble_eq_true rfl)) rfl rfl (fun h1 q1 => ?_)
  obtain ⟨H1, m1⟩ := q1
  refine aw_aload_n (pc' := 6) dX7_compared_5 rfl rfl rfl ?_
  refine aw_bipush (v := 60) (pc' := 8) dX7_compared_6 rfl bp_60 ?_
  obtain ⟨r2, s2, ec2, hf⟩ := bd_e hf
  refine aw_callVi (M' := mX7_takes) (nc' := 0) (ns' := 0) (pc' := 11) dX7_compared_8 rfl ml_RX7_40 kX7_takes (t_X7_takes H1 ec2) (H1.ob (H1.fo rfl rfl) (by decide)) rfl rfl rfl (Nat.le_of_ble_eq_true rfl) (rokD (by omega) (Nat.le_of_ble_eq_true rfl) (Nat.le_of_ble_eq_true rfl) (Nat.le_of_ble_eq_true rfl)) rfl rfl (fun _ h2 q2 => ?_)
  obtain ⟨rfl, H2, m2, zb2⟩ := q2
  obtain ⟨k3, ek3, hf⟩ := jn_e hf
  have hk3 : ∀ (s3 : SS) (h3 : List aE) (t3_0 : Int32), HH s3 h3 → Mo s2 s3 → k3 s3 t3_0 = some s9 → AW mX7_compared (rmD (Dr + 4) 0 0) (fin (PV fun h' => HH s9 h' ∧ Mo s0 s9) 0 0) 48 [some (.ref 32), some (.int a0), none] [.int t3_0] h3 0 0 := by
    intro s3 h3 t3_0 H3 m3 hf
    subst ek3
    refine aw_istore_n (lv' := [_, _, _]) (pc' := 49) dX7_compared_48 rfl (Nat.le_of_ble_eq_true rfl) rfl ?_
    refine aw_iload_n (pc' := 50) dX7_compared_49 rfl rfl ?_
    refine aw_if_eq (tgt := 63) (pc' := 53) dX7_compared_50 rfl rfl (fun c4 => ?_) (fun c4 => ?_)
    · replace hf := ifp c4 hf
      obtain rfl := Option.some.inj hf
      exact aw_rv dX7_compared_63 rfl (Nat.le_of_ble_eq_true rfl) (Nat.le_of_ble_eq_true rfl) ⟨H3, ((m1.tr m2).tr m3)⟩
    · replace hf := ifn c4 hf
      refine aw_aload_n (pc' := 54) dX7_compared_53 rfl rfl rfl ?_
      refine aw_iload_n (pc' := 55) dX7_compared_54 rfl rfl ?_
      obtain ⟨s5, ec5, hf⟩ := b1_e hf
      refine aw_callVv (M' := mX7_sum) (nc' := 0) (ns' := 0) (pc' := 58) dX7_compared_55 rfl ml_RX7_59 kX7_sum (t_X7_sum hrec H3 ec5) (H3.ob (H3.fo rfl rfl) (by decide)) rfl rfl rfl (Nat.le_of_ble_eq_true rfl) (rokD (by omega) (Nat.le_of_ble_eq_true rfl) (Nat.le_of_ble_eq_true rfl) (Nat.le_of_ble_eq_true rfl)) rfl rfl (fun h5 q5 => ?_)
      obtain ⟨H5, m5⟩ := q5
      refine aw_aload_n (pc' := 59) dX7_compared_58 rfl rfl rfl ?_
      refine aw_iload_n (pc' := 60) dX7_compared_59 rfl rfl ?_
      obtain ⟨s6, ec6, hf⟩ := b1_e hf
      refine aw_callVv (M' := mX7_emit) (nc' := 0) (ns' := 0) (pc' := 63) dX7_compared_60 rfl ml_RX7_50 kX7_emit (t_X7_emit H5 ec6) (H5.ob (H5.fo rfl rfl) (by decide)) rfl rfl rfl (Nat.le_of_ble_eq_true rfl) (rokD (by omega) (Nat.le_of_ble_eq_true rfl) (Nat.le_of_ble_eq_true rfl) (Nat.le_of_ble_eq_true rfl)) rfl rfl (fun h6 q6 => ?_)
      obtain ⟨H6, m6⟩ := q6
      obtain rfl := Option.some.inj hf
      exact aw_rv dX7_compared_63 rfl (Nat.le_of_ble_eq_true rfl) (Nat.le_of_ble_eq_true rfl) ⟨H6, ((((m1.tr m2).tr m3).tr m5).tr m6)⟩
  clear ek3
  refine aw_if_eq (tgt := 19) (pc' := 14) dX7_compared_11 rfl rfl (fun c7 => ?_) (fun c7 => ?_)
  · replace hf := ifp c7 hf
    refine aw_aload_n (pc' := 20) dX7_compared_19 rfl rfl rfl ?_
    refine aw_bipush (v := 61) (pc' := 22) dX7_compared_20 rfl bp_61 ?_
    obtain ⟨r8, s8, ec8, hf⟩ := bd_e hf
    refine aw_callVi (M' := mX7_takes) (nc' := 0) (ns' := 0) (pc' := 25) dX7_compared_22 rfl ml_RX7_40 kX7_takes (t_X7_takes H2 ec8) (H2.ob (H2.fo rfl rfl) (by decide)) rfl rfl rfl (Nat.le_of_ble_eq_true rfl) (rokD (by omega) (Nat.le_of_ble_eq_true rfl) (Nat.le_of_ble_eq_true rfl) (Nat.le_of_ble_eq_true rfl)) rfl rfl (fun _ h8 q8 => ?_)
    obtain ⟨rfl, H8, m8, zb8⟩ := q8
    refine aw_if_eq (tgt := 33) (pc' := 28) dX7_compared_25 rfl rfl (fun c10 => ?_) (fun c10 => ?_)
    · replace hf := ifp c10 hf
      refine aw_aload_n (pc' := 34) dX7_compared_33 rfl rfl rfl ?_
      refine aw_bipush (v := 62) (pc' := 36) dX7_compared_34 rfl bp_62 ?_
      obtain ⟨r11, s11, ec11, hf⟩ := bd_e hf
      refine aw_callVi (M' := mX7_takes) (nc' := 0) (ns' := 0) (pc' := 39) dX7_compared_36 rfl ml_RX7_40 kX7_takes (t_X7_takes H8 ec11) (H8.ob (H8.fo rfl rfl) (by decide)) rfl rfl rfl (Nat.le_of_ble_eq_true rfl) (rokD (by omega) (Nat.le_of_ble_eq_true rfl) (Nat.le_of_ble_eq_true rfl) (Nat.le_of_ble_eq_true rfl)) rfl rfl (fun _ h11 q11 => ?_)
      obtain ⟨rfl, H11, m11, zb11⟩ := q11
      refine aw_if_eq (tgt := 47) (pc' := 42) dX7_compared_39 rfl rfl (fun c12 => ?_) (fun c12 => ?_)
      · replace hf := ifp c12 hf
        refine aw_iconst (v := 0) (pc' := 48) dX7_compared_47 rfl ic_0 ?_
        exact hk3 _ _ _ H11 (m8.tr m11) hf
      · replace hf := ifn c12 hf
        refine aw_bipush (v := (-15)) (pc' := 44) dX7_compared_42 rfl bp_m15 ?_
        refine aw_goto (tgt := 48) dX7_compared_44 rfl ?_
        exact hk3 _ _ _ H11 (m8.tr m11) hf
    · replace hf := ifn c10 hf
      refine aw_bipush (v := (-14)) (pc' := 30) dX7_compared_28 rfl bp_m14 ?_
      refine aw_goto (tgt := 48) dX7_compared_30 rfl ?_
      exact hk3 _ _ _ H8 m8 hf
  · replace hf := ifn c7 hf
    refine aw_bipush (v := (-13)) (pc' := 16) dX7_compared_14 rfl bp_m13 ?_
    refine aw_goto (tgt := 48) dX7_compared_16 rfl ?_
    exact hk3 _ _ _ H2 (Mo.rf _) hf
/-! ThirtyThreeBelow$Reader.both -/
noncomputable def f_X7_both_L7_b (rec : SS → Int32 → Option SS) (y1 : Int32) (rc : SS → Int32 → Option SS) (s : SS) (x2 : Int32) : Option SS := (if x2 < (160 : Int32) then (bd (f_X7_takes s 38) fun r3 s3 => (if r3 = (0 : Int32) then some s3 else (b1 (f_X7_compared rec s3 y1) fun s5 => (b1 (f_X7_emit s5 (-12)) fun s6 => (vl (x2 + 1) fun v7 => (rc s6 v7)))))) else some s)
noncomputable def f_X7_both_L7 (rec : SS → Int32 → Option SS) (y1 : Int32) : Nat → SS → Int32 → Option SS
  | 0, _, _ => none
  | n + 1, s, x2 => f_X7_both_L7_b rec y1 (f_X7_both_L7 rec y1 n) s x2
set_option maxRecDepth 4000 in
theorem t_X7_both_L7 {Dr : Nat} {rec : SS → Int32 → Option SS} (hrec : ∀ {s0 s9 : SS} {h0 : List aE} {a0 : Int32}, HH s0 h0 → rec s0 a0 = some s9 → AM mX7_single Dr [.ref 32, .int a0] h0 0 0 (PV fun h' => HH s9 h' ∧ Mo s0 s9)) {s0 sb s9 : SS} {y1 : Int32} (mb : Mo s0 sb)  : ∀ (n : Nat) (s : SS) (h : List aE) (x2 : Int32), HH s h → Mo sb s → f_X7_both_L7 rec y1 n s x2 = some s9 → AW mX7_both (rmD (Dr + 5) 0 0) (fin (PV fun h' => HH s9 h' ∧ Mo s0 s9) 0 0) 7 [some (.ref 32), some (.int y1), some (.int x2)] [] h 0 0 := by
  intro n
  induction n with
  | zero =>
    intro s h x2 H ms hf
    cases hf
  | succ n ih =>
    intro s h x2 H ms hf
    replace hf : f_X7_both_L7_b rec y1 (f_X7_both_L7 rec y1 n) s x2 = some s9 := hf
    unfold f_X7_both_L7_b at hf
    refine aw_iload_n (pc' := 8) dX7_both_7 rfl rfl ?_
    refine aw_sipush (v := 160) (pc' := 11) dX7_both_8 rfl sp_160 ?_
    refine aw_cge (tgt := 40) (pc' := 14) dX7_both_11 rfl rfl (fun c2 => ?_) (fun c2 => ?_)
    · replace hf := ifn c2 hf
      obtain rfl := Option.some.inj hf
      exact aw_rv dX7_both_40 rfl (Nat.le_of_ble_eq_true rfl) (Nat.le_of_ble_eq_true rfl) ⟨H, (mb.tr ms)⟩
    · replace hf := ifp c2 hf
      refine aw_aload_n (pc' := 15) dX7_both_14 rfl rfl rfl ?_
      refine aw_bipush (v := 38) (pc' := 17) dX7_both_15 rfl bp_38 ?_
      obtain ⟨r3, s3, ec3, hf⟩ := bd_e hf
      refine aw_callVi (M' := mX7_takes) (nc' := 0) (ns' := 0) (pc' := 20) dX7_both_17 rfl ml_RX7_40 kX7_takes (t_X7_takes H ec3) (H.ob (H.fo rfl rfl) (by decide)) rfl rfl rfl (Nat.le_of_ble_eq_true rfl) (rokD (by omega) (Nat.le_of_ble_eq_true rfl) (Nat.le_of_ble_eq_true rfl) (Nat.le_of_ble_eq_true rfl)) rfl rfl (fun _ h3 q3 => ?_)
      obtain ⟨rfl, H3, m3, zb3⟩ := q3
      refine aw_if_eq (tgt := 40) (pc' := 23) dX7_both_20 rfl rfl (fun c4 => ?_) (fun c4 => ?_)
      · replace hf := ifp c4 hf
        obtain rfl := Option.some.inj hf
        exact aw_rv dX7_both_40 rfl (Nat.le_of_ble_eq_true rfl) (Nat.le_of_ble_eq_true rfl) ⟨H3, ((mb.tr ms).tr m3)⟩
      · replace hf := ifn c4 hf
        refine aw_aload_n (pc' := 24) dX7_both_23 rfl rfl rfl ?_
        refine aw_iload_n (pc' := 25) dX7_both_24 rfl rfl ?_
        obtain ⟨s5, ec5, hf⟩ := b1_e hf
        refine aw_callVv (M' := mX7_compared) (nc' := 0) (ns' := 0) (pc' := 28) dX7_both_25 rfl ml_RX7_56 kX7_compared (t_X7_compared hrec H3 ec5) (H3.ob (H3.fo rfl rfl) (by decide)) rfl rfl rfl (Nat.le_of_ble_eq_true rfl) (rokD (by omega) (Nat.le_of_ble_eq_true rfl) (Nat.le_of_ble_eq_true rfl) (Nat.le_of_ble_eq_true rfl)) rfl rfl (fun h5 q5 => ?_)
        obtain ⟨H5, m5⟩ := q5
        refine aw_aload_n (pc' := 29) dX7_both_28 rfl rfl rfl ?_
        refine aw_bipush (v := (-12)) (pc' := 31) dX7_both_29 rfl bp_m12 ?_
        obtain ⟨s6, ec6, hf⟩ := b1_e hf
        refine aw_callVv (M' := mX7_emit) (nc' := 0) (ns' := 0) (pc' := 34) dX7_both_31 rfl ml_RX7_50 kX7_emit (t_X7_emit H5 ec6) (H5.ob (H5.fo rfl rfl) (by decide)) rfl rfl rfl (Nat.le_of_ble_eq_true rfl) (rokD (by omega) (Nat.le_of_ble_eq_true rfl) (Nat.le_of_ble_eq_true rfl) (Nat.le_of_ble_eq_true rfl)) rfl rfl (fun h6 q6 => ?_)
        obtain ⟨H6, m6⟩ := q6
        obtain ⟨v7, ev7, hf⟩ := vl_e hf
        refine aw_iincV (y := v7) (lv' := [_, _, _]) (pc' := 37) dX7_both_34 rfl rfl (Nat.le_of_ble_eq_true rfl) ev7 rfl ?_
        refine aw_goto (tgt := 7) dX7_both_37 rfl ?_
        exact ih _ _ _ H6 (((ms.tr m3).tr m5).tr m6) hf
noncomputable def f_X7_both (rec : SS → Int32 → Option SS) (s0 : SS) (a0 : Int32) : Option SS := (b1 (f_X7_compared rec s0 a0) fun s1 => (f_X7_both_L7 rec a0 4000 s1 0))
set_option maxRecDepth 4000 in
theorem t_X7_both {Dr : Nat} {rec : SS → Int32 → Option SS} (hrec : ∀ {s0 s9 : SS} {h0 : List aE} {a0 : Int32}, HH s0 h0 → rec s0 a0 = some s9 → AM mX7_single Dr [.ref 32, .int a0] h0 0 0 (PV fun h' => HH s9 h' ∧ Mo s0 s9)) {s0 s9 : SS} {h0 : List aE} {a0 : Int32} (H0 : HH s0 h0) (hf : f_X7_both rec s0 a0 = some s9) : AM mX7_both (Dr + 5) [.ref 32, .int a0] h0 0 0 (PV fun h' => HH s9 h' ∧ Mo s0 s9) := by
  unfold f_X7_both at hf
  refine am_of (lv := [some (.ref 32), some (.int a0), none]) rfl (Nat.le_of_ble_eq_true rfl) rfl ?_
  refine aw_aload_n (pc' := 1) dX7_both_0 rfl rfl rfl ?_
  refine aw_iload_n (pc' := 2) dX7_both_1 rfl rfl ?_
  obtain ⟨s1, ec1, hf⟩ := b1_e hf
  refine aw_callVv (M' := mX7_compared) (nc' := 0) (ns' := 0) (pc' := 5) dX7_both_2 rfl ml_RX7_56 kX7_compared (t_X7_compared hrec H0 ec1) (H0.ob (H0.fo rfl rfl) (by decide)) rfl rfl rfl (Nat.le_of_ble_eq_true rfl) (rokD (by omega) (Nat.le_of_ble_eq_true rfl) (Nat.le_of_ble_eq_true rfl) (Nat.le_of_ble_eq_true rfl)) rfl rfl (fun h1 q1 => ?_)
  obtain ⟨H1, m1⟩ := q1
  refine aw_iconst (v := 0) (pc' := 6) dX7_both_5 rfl ic_0 ?_
  refine aw_istore_n (lv' := [_, _, _]) (pc' := 7) dX7_both_6 rfl (Nat.le_of_ble_eq_true rfl) rfl ?_
  refine t_X7_both_L7 hrec m1  4000 _ _ _ H1 (Mo.rf _) hf
/-! ThirtyThreeBelow$Reader.either -/
noncomputable def f_X7_either_L7_b (rec : SS → Int32 → Option SS) (y1 : Int32) (rc : SS → Int32 → Option SS) (s : SS) (x2 : Int32) : Option SS := (if x2 < (160 : Int32) then (bd (f_X7_takes s 124) fun r3 s3 => (if r3 = (0 : Int32) then some s3 else (b1 (f_X7_both rec s3 y1) fun s5 => (b1 (f_X7_emit s5 (-11)) fun s6 => (vl (x2 + 1) fun v7 => (rc s6 v7)))))) else some s)
noncomputable def f_X7_either_L7 (rec : SS → Int32 → Option SS) (y1 : Int32) : Nat → SS → Int32 → Option SS
  | 0, _, _ => none
  | n + 1, s, x2 => f_X7_either_L7_b rec y1 (f_X7_either_L7 rec y1 n) s x2
set_option maxRecDepth 4000 in
theorem t_X7_either_L7 {Dr : Nat} {rec : SS → Int32 → Option SS} (hrec : ∀ {s0 s9 : SS} {h0 : List aE} {a0 : Int32}, HH s0 h0 → rec s0 a0 = some s9 → AM mX7_single Dr [.ref 32, .int a0] h0 0 0 (PV fun h' => HH s9 h' ∧ Mo s0 s9)) {s0 sb s9 : SS} {y1 : Int32} (mb : Mo s0 sb)  : ∀ (n : Nat) (s : SS) (h : List aE) (x2 : Int32), HH s h → Mo sb s → f_X7_either_L7 rec y1 n s x2 = some s9 → AW mX7_either (rmD (Dr + 6) 0 0) (fin (PV fun h' => HH s9 h' ∧ Mo s0 s9) 0 0) 7 [some (.ref 32), some (.int y1), some (.int x2)] [] h 0 0 := by
  intro n
  induction n with
  | zero =>
    intro s h x2 H ms hf
    cases hf
  | succ n ih =>
    intro s h x2 H ms hf
    replace hf : f_X7_either_L7_b rec y1 (f_X7_either_L7 rec y1 n) s x2 = some s9 := hf
    unfold f_X7_either_L7_b at hf
    refine aw_iload_n (pc' := 8) dX7_either_7 rfl rfl ?_
    refine aw_sipush (v := 160) (pc' := 11) dX7_either_8 rfl sp_160 ?_
    refine aw_cge (tgt := 40) (pc' := 14) dX7_either_11 rfl rfl (fun c2 => ?_) (fun c2 => ?_)
    · replace hf := ifn c2 hf
      obtain rfl := Option.some.inj hf
      exact aw_rv dX7_either_40 rfl (Nat.le_of_ble_eq_true rfl) (Nat.le_of_ble_eq_true rfl) ⟨H, (mb.tr ms)⟩
    · replace hf := ifp c2 hf
      refine aw_aload_n (pc' := 15) dX7_either_14 rfl rfl rfl ?_
      refine aw_bipush (v := 124) (pc' := 17) dX7_either_15 rfl bp_124 ?_
      obtain ⟨r3, s3, ec3, hf⟩ := bd_e hf
      refine aw_callVi (M' := mX7_takes) (nc' := 0) (ns' := 0) (pc' := 20) dX7_either_17 rfl ml_RX7_40 kX7_takes (t_X7_takes H ec3) (H.ob (H.fo rfl rfl) (by decide)) rfl rfl rfl (Nat.le_of_ble_eq_true rfl) (rokD (by omega) (Nat.le_of_ble_eq_true rfl) (Nat.le_of_ble_eq_true rfl) (Nat.le_of_ble_eq_true rfl)) rfl rfl (fun _ h3 q3 => ?_)
      obtain ⟨rfl, H3, m3, zb3⟩ := q3
      refine aw_if_eq (tgt := 40) (pc' := 23) dX7_either_20 rfl rfl (fun c4 => ?_) (fun c4 => ?_)
      · replace hf := ifp c4 hf
        obtain rfl := Option.some.inj hf
        exact aw_rv dX7_either_40 rfl (Nat.le_of_ble_eq_true rfl) (Nat.le_of_ble_eq_true rfl) ⟨H3, ((mb.tr ms).tr m3)⟩
      · replace hf := ifn c4 hf
        refine aw_aload_n (pc' := 24) dX7_either_23 rfl rfl rfl ?_
        refine aw_iload_n (pc' := 25) dX7_either_24 rfl rfl ?_
        obtain ⟨s5, ec5, hf⟩ := b1_e hf
        refine aw_callVv (M' := mX7_both) (nc' := 0) (ns' := 0) (pc' := 28) dX7_either_25 rfl ml_RX7_53 kX7_both (t_X7_both hrec H3 ec5) (H3.ob (H3.fo rfl rfl) (by decide)) rfl rfl rfl (Nat.le_of_ble_eq_true rfl) (rokD (by omega) (Nat.le_of_ble_eq_true rfl) (Nat.le_of_ble_eq_true rfl) (Nat.le_of_ble_eq_true rfl)) rfl rfl (fun h5 q5 => ?_)
        obtain ⟨H5, m5⟩ := q5
        refine aw_aload_n (pc' := 29) dX7_either_28 rfl rfl rfl ?_
        refine aw_bipush (v := (-11)) (pc' := 31) dX7_either_29 rfl bp_m11 ?_
        obtain ⟨s6, ec6, hf⟩ := b1_e hf
        refine aw_callVv (M' := mX7_emit) (nc' := 0) (ns' := 0) (pc' := 34) dX7_either_31 rfl ml_RX7_50 kX7_emit (t_X7_emit H5 ec6) (H5.ob (H5.fo rfl rfl) (by decide)) rfl rfl rfl (Nat.le_of_ble_eq_true rfl) (rokD (by omega) (Nat.le_of_ble_eq_true rfl) (Nat.le_of_ble_eq_true rfl) (Nat.le_of_ble_eq_true rfl)) rfl rfl (fun h6 q6 => ?_)
        obtain ⟨H6, m6⟩ := q6
        obtain ⟨v7, ev7, hf⟩ := vl_e hf
        refine aw_iincV (y := v7) (lv' := [_, _, _]) (pc' := 37) dX7_either_34 rfl rfl (Nat.le_of_ble_eq_true rfl) ev7 rfl ?_
        refine aw_goto (tgt := 7) dX7_either_37 rfl ?_
        exact ih _ _ _ H6 (((ms.tr m3).tr m5).tr m6) hf
noncomputable def f_X7_either (rec : SS → Int32 → Option SS) (s0 : SS) (a0 : Int32) : Option SS := (b1 (f_X7_both rec s0 a0) fun s1 => (f_X7_either_L7 rec a0 4000 s1 0))
set_option maxRecDepth 4000 in
theorem t_X7_either {Dr : Nat} {rec : SS → Int32 → Option SS} (hrec : ∀ {s0 s9 : SS} {h0 : List aE} {a0 : Int32}, HH s0 h0 → rec s0 a0 = some s9 → AM mX7_single Dr [.ref 32, .int a0] h0 0 0 (PV fun h' => HH s9 h' ∧ Mo s0 s9)) {s0 s9 : SS} {h0 : List aE} {a0 : Int32} (H0 : HH s0 h0) (hf : f_X7_either rec s0 a0 = some s9) : AM mX7_either (Dr + 6) [.ref 32, .int a0] h0 0 0 (PV fun h' => HH s9 h' ∧ Mo s0 s9) := by
  unfold f_X7_either at hf
  refine am_of (lv := [some (.ref 32), some (.int a0), none]) rfl (Nat.le_of_ble_eq_true rfl) rfl ?_
  refine aw_aload_n (pc' := 1) dX7_either_0 rfl rfl rfl ?_
  refine aw_iload_n (pc' := 2) dX7_either_1 rfl rfl ?_
  obtain ⟨s1, ec1, hf⟩ := b1_e hf
  refine aw_callVv (M' := mX7_both) (nc' := 0) (ns' := 0) (pc' := 5) dX7_either_2 rfl ml_RX7_53 kX7_both (t_X7_both hrec H0 ec1) (H0.ob (H0.fo rfl rfl) (by decide)) rfl rfl rfl (Nat.le_of_ble_eq_true rfl) (rokD (by omega) (Nat.le_of_ble_eq_true rfl) (Nat.le_of_ble_eq_true rfl) (Nat.le_of_ble_eq_true rfl)) rfl rfl (fun h1 q1 => ?_)
  obtain ⟨H1, m1⟩ := q1
  refine aw_iconst (v := 0) (pc' := 6) dX7_either_5 rfl ic_0 ?_
  refine aw_istore_n (lv' := [_, _, _]) (pc' := 7) dX7_either_6 rfl (Nat.le_of_ble_eq_true rfl) rfl ?_
  refine t_X7_either_L7 hrec m1  4000 _ _ _ H1 (Mo.rf _) hf
/-! ThirtyThreeBelow$Reader.fails -/
noncomputable def f_X7_fails (s0 : SS)  : Option SS := (if (zS s0 24 5) < (0 : Int32) then (vl ((zS s0 24 4)) fun v2 => (st (pS s0 24 5 v2) fun s3 => some s3)) else some s0)
set_option maxRecDepth 4000 in
theorem t_X7_fails {s0 s9 : SS} {h0 : List aE}  (H0 : HH s0 h0) (hf : f_X7_fails s0 = some s9) : AM mX7_fails (0) [.ref 32] h0 0 0 (PV fun h' => HH s9 h' ∧ Mo s0 s9) := by
  unfold f_X7_fails at hf
  refine am_of (lv := [some (.ref 32)]) rfl (Nat.le_of_ble_eq_true rfl) rfl ?_
  refine aw_aload_n (pc' := 1) dX7_fails_0 rfl rfl rfl ?_
  refine aw_gi (q := 24) (pc' := 4) H0 (H0.fo rfl rfl) (l13 rfl) rfl dX7_fails_1 rfl fl_RX7_34 ?_
  refine aw_zge (tgt := 15) (pc' := 7) dX7_fails_4 rfl rfl (fun c1 => ?_) (fun c1 => ?_)
  · replace hf := ifn c1 hf
    obtain rfl := Option.some.inj hf
    exact aw_rv dX7_fails_15 rfl (Nat.le_of_ble_eq_true rfl) (Nat.le_of_ble_eq_true rfl) ⟨H0, (Mo.rf _)⟩
  · replace hf := ifp c1 hf
    refine aw_aload_n (pc' := 8) dX7_fails_7 rfl rfl rfl ?_
    refine aw_aload_n (pc' := 9) dX7_fails_8 rfl rfl rfl ?_
    refine aw_gi (q := 24) (pc' := 12) H0 (H0.fo rfl rfl) (l13 rfl) rfl dX7_fails_9 rfl fl_RX7_31 ?_
    obtain ⟨v2, ev2, hf⟩ := vl_e hf
    refine aw_topi ev2 ?_
    obtain ⟨s3, es3, hf⟩ := st_e hf
    refine aw_pi (q := 24) (pc' := 15) es3 H0 (H0.fo rfl rfl) (by decide) rfl dX7_fails_12 rfl fl_RX7_34 rfl (fun h3 H3 => ?_)
    have m3 := Mo.ofS es3
    obtain rfl := Option.some.inj hf
    exact aw_rv dX7_fails_15 rfl (Nat.le_of_ble_eq_true rfl) (Nat.le_of_ble_eq_true rfl) ⟨H3, m3⟩
/-! ThirtyThreeBelow$Reader.isDigit -/
noncomputable def f_X7_isDigit (s0 : SS)  : Option Int32 := (if (zS s0 24 4) < (zS s0 24 1) then (vl ((zS s0 24 4)) fun v2 => (gd (inB v2 160) (if (zI s0 25 (v2.toInt.toNat)) < (48 : Int32) then some 0 else (vl ((zS s0 24 4)) fun v5 => (gd (inB v5 160) (if (57 : Int32) < (zI s0 25 (v5.toInt.toNat)) then some 0 else some 1)))))) else some 0)
set_option maxRecDepth 4000 in
theorem t_X7_isDigit {r9 : Int32} {s0 : SS} {h0 : List aE}  (H0 : HH s0 h0) (hf : f_X7_isDigit s0 = some r9) : AM mX7_isDigit (0) [.ref 32] h0 0 0 (PI fun r' h' => r9 = r' ∧ h0 = h' ∧ (r9 = 0 ∨ r9 = 1)) := by
  unfold f_X7_isDigit at hf
  refine am_of (lv := [some (.ref 32)]) rfl (Nat.le_of_ble_eq_true rfl) rfl ?_
  refine aw_aload_n (pc' := 1) dX7_isDigit_0 rfl rfl rfl ?_
  refine aw_gi (q := 24) (pc' := 4) H0 (H0.fo rfl rfl) (l13 rfl) rfl dX7_isDigit_1 rfl fl_RX7_31 ?_
  refine aw_aload_n (pc' := 5) dX7_isDigit_4 rfl rfl rfl ?_
  refine aw_gi (q := 24) (pc' := 8) H0 (H0.fo rfl rfl) (l13 rfl) rfl dX7_isDigit_5 rfl fl_RX7_18 ?_
  refine aw_cge (tgt := 43) (pc' := 11) dX7_isDigit_8 rfl rfl (fun c1 => ?_) (fun c1 => ?_)
  · replace hf := ifn c1 hf
    refine aw_iconst (v := 0) (pc' := 44) dX7_isDigit_43 rfl ic_0 ?_
    obtain rfl := Option.some.inj hf
    exact aw_ri dX7_isDigit_44 rfl (by decide) (Nat.le_of_ble_eq_true rfl) (Nat.le_of_ble_eq_true rfl) ⟨rfl, rfl, Or.inl rfl⟩
  · replace hf := ifp c1 hf
    refine aw_aload_n (pc' := 12) dX7_isDigit_11 rfl rfl rfl ?_
    refine aw_gr (q := 24) (e := 3) (v := .ref 33) (pc' := 15) H0 (H0.fo rfl rfl) (l13 rfl) rfl rfl dX7_isDigit_12 rfl fl_RX7_11 ?_
    refine aw_aload_n (pc' := 16) dX7_isDigit_15 rfl rfl rfl ?_
    refine aw_gi (q := 24) (pc' := 19) H0 (H0.fo rfl rfl) (l13 rfl) rfl dX7_isDigit_16 rfl fl_RX7_31 ?_
    obtain ⟨v2, ev2, hf⟩ := vl_e hf
    refine aw_topi ev2 ?_
    obtain ⟨g3, hf⟩ := gd_e hf
    refine aw_ia (q := 25) (pc' := 20) H0 (H0.fa rfl rfl rfl) g3 dX7_isDigit_19 rfl ?_
    refine aw_bipush (v := 48) (pc' := 22) dX7_isDigit_20 rfl bp_48 ?_
    refine aw_clt (tgt := 43) (pc' := 25) dX7_isDigit_22 rfl rfl (fun c4 => ?_) (fun c4 => ?_)
    · replace hf := ifp c4 hf
      refine aw_iconst (v := 0) (pc' := 44) dX7_isDigit_43 rfl ic_0 ?_
      obtain rfl := Option.some.inj hf
      exact aw_ri dX7_isDigit_44 rfl (by decide) (Nat.le_of_ble_eq_true rfl) (Nat.le_of_ble_eq_true rfl) ⟨rfl, rfl, Or.inl rfl⟩
    · replace hf := ifn c4 hf
      refine aw_aload_n (pc' := 26) dX7_isDigit_25 rfl rfl rfl ?_
      refine aw_gr (q := 24) (e := 3) (v := .ref 33) (pc' := 29) H0 (H0.fo rfl rfl) (l13 rfl) rfl rfl dX7_isDigit_26 rfl fl_RX7_11 ?_
      refine aw_aload_n (pc' := 30) dX7_isDigit_29 rfl rfl rfl ?_
      refine aw_gi (q := 24) (pc' := 33) H0 (H0.fo rfl rfl) (l13 rfl) rfl dX7_isDigit_30 rfl fl_RX7_31 ?_
      obtain ⟨v5, ev5, hf⟩ := vl_e hf
      refine aw_topi ev5 ?_
      obtain ⟨g6, hf⟩ := gd_e hf
      refine aw_ia (q := 25) (pc' := 34) H0 (H0.fa rfl rfl rfl) g6 dX7_isDigit_33 rfl ?_
      refine aw_bipush (v := 57) (pc' := 36) dX7_isDigit_34 rfl bp_57 ?_
      refine aw_cgt (tgt := 43) (pc' := 39) dX7_isDigit_36 rfl rfl (fun c7 => ?_) (fun c7 => ?_)
      · replace hf := ifp c7 hf
        refine aw_iconst (v := 0) (pc' := 44) dX7_isDigit_43 rfl ic_0 ?_
        obtain rfl := Option.some.inj hf
        exact aw_ri dX7_isDigit_44 rfl (by decide) (Nat.le_of_ble_eq_true rfl) (Nat.le_of_ble_eq_true rfl) ⟨rfl, rfl, Or.inl rfl⟩
      · replace hf := ifn c7 hf
        refine aw_iconst (v := 1) (pc' := 40) dX7_isDigit_39 rfl ic_1 ?_
        refine aw_goto (tgt := 44) dX7_isDigit_40 rfl ?_
        obtain rfl := Option.some.inj hf
        exact aw_ri dX7_isDigit_44 rfl (by decide) (Nat.le_of_ble_eq_true rfl) (Nat.le_of_ble_eq_true rfl) ⟨rfl, rfl, Or.inr rfl⟩
/-! ThirtyThreeBelow$Reader.name -/
noncomputable def f_X7_name (s0 : SS)  : Option SS := (jn (fun (t1_0 : Int32) => (if t1_0 < (0 : Int32) then (b1 (f_X7_fails s0) fun s6 => some s6) else (vl (((zS s0 24 4) + (1 : Int32))) fun v3 => (st (pS s0 24 4 v3) fun s4 => (b1 (f_X7_emit s4 (((-1) : Int32) - t1_0)) fun s5 => some s5))))) fun k1 => (if (zS s0 24 4) < (zS s0 24 1) then (vl ((zS s0 24 4)) fun v8 => (gd (inB v8 160) (k1 (ixN (((zI s0 25 (v8.toInt.toNat)).toUInt32 % 65536).toInt32))))) else (k1 (-1))))
set_option maxRecDepth 4000 in
theorem t_X7_name {s0 s9 : SS} {h0 : List aE}  (H0 : HH s0 h0) (hf : f_X7_name s0 = some s9) : AM mX7_name (4) [.ref 32] h0 0 0 (PV fun h' => HH s9 h' ∧ Mo s0 s9) := by
  unfold f_X7_name at hf
  refine am_of (lv := [some (.ref 32), none]) rfl (Nat.le_of_ble_eq_true rfl) rfl ?_
  refine aw_aload_n (pc' := 1) dX7_name_0 rfl rfl rfl ?_
  refine aw_gi (q := 24) (pc' := 4) H0 (H0.fo rfl rfl) (l13 rfl) rfl dX7_name_1 rfl fl_RX7_31 ?_
  refine aw_aload_n (pc' := 5) dX7_name_4 rfl rfl rfl ?_
  refine aw_gi (q := 24) (pc' := 8) H0 (H0.fo rfl rfl) (l13 rfl) rfl dX7_name_5 rfl fl_RX7_18 ?_
  obtain ⟨k1, ek1, hf⟩ := jn_e hf
  have hk1 : ∀ (t1_0 : Int32), k1 t1_0 = some s9 → AW mX7_name (rmD (4) 0 0) (fin (PV fun h' => HH s9 h' ∧ Mo s0 s9) 0 0) 30 [some (.ref 32), none] [.int t1_0] h0 0 0 := by
    intro t1_0 hf
    subst ek1
    refine aw_istore_n (lv' := [_, _]) (pc' := 31) dX7_name_30 rfl (Nat.le_of_ble_eq_true rfl) rfl ?_
    refine aw_iload_n (pc' := 32) dX7_name_31 rfl rfl ?_
    refine aw_zge (tgt := 40) (pc' := 35) dX7_name_32 rfl rfl (fun c2 => ?_) (fun c2 => ?_)
    · replace hf := ifn c2 hf
      refine aw_aload_n (pc' := 41) dX7_name_40 rfl rfl rfl ?_
      refine aw_dup (pc' := 42) dX7_name_41 rfl rfl ?_
      refine aw_gi (q := 24) (pc' := 45) H0 (H0.fo rfl rfl) (l13 rfl) rfl dX7_name_42 rfl fl_RX7_31 ?_
      refine aw_iconst (v := 1) (pc' := 46) dX7_name_45 rfl ic_1 ?_
      refine aw_iadd (pc' := 47) dX7_name_46 rfl ?_
      obtain ⟨v3, ev3, hf⟩ := vl_e hf
      refine aw_topi ev3 ?_
      obtain ⟨s4, es4, hf⟩ := st_e hf
      refine aw_pi (q := 24) (pc' := 50) es4 H0 (H0.fo rfl rfl) (by decide) rfl dX7_name_47 rfl fl_RX7_31 rfl (fun h4 H4 => ?_)
      have m4 := Mo.ofS es4
      refine aw_aload_n (pc' := 51) dX7_name_50 rfl rfl rfl ?_
      refine aw_iconst (v := (-1)) (pc' := 52) dX7_name_51 rfl ic_m1 ?_
      refine aw_iload_n (pc' := 53) dX7_name_52 rfl rfl ?_
      refine aw_isub (pc' := 54) dX7_name_53 rfl ?_
      obtain ⟨s5, ec5, hf⟩ := b1_e hf
      refine aw_callVv (M' := mX7_emit) (nc' := 0) (ns' := 0) (pc' := 57) dX7_name_54 rfl ml_RX7_50 kX7_emit (t_X7_emit H4 ec5) (H4.ob (H4.fo rfl rfl) (by decide)) rfl rfl rfl (Nat.le_of_ble_eq_true rfl) (rokD (by omega) (Nat.le_of_ble_eq_true rfl) (Nat.le_of_ble_eq_true rfl) (Nat.le_of_ble_eq_true rfl)) rfl rfl (fun h5 q5 => ?_)
      obtain ⟨H5, m5⟩ := q5
      obtain rfl := Option.some.inj hf
      exact aw_rv dX7_name_57 rfl (Nat.le_of_ble_eq_true rfl) (Nat.le_of_ble_eq_true rfl) ⟨H5, (m4.tr m5)⟩
    · replace hf := ifp c2 hf
      refine aw_aload_n (pc' := 36) dX7_name_35 rfl rfl rfl ?_
      obtain ⟨s6, ec6, hf⟩ := b1_e hf
      refine aw_callVv (M' := mX7_fails) (nc' := 0) (ns' := 0) (pc' := 39) dX7_name_36 rfl ml_RX7_82 kX7_fails (t_X7_fails H0 ec6) (H0.ob (H0.fo rfl rfl) (by decide)) rfl rfl rfl (Nat.le_of_ble_eq_true rfl) (rokD (by omega) (Nat.le_of_ble_eq_true rfl) (Nat.le_of_ble_eq_true rfl) (Nat.le_of_ble_eq_true rfl)) rfl rfl (fun h6 q6 => ?_)
      obtain ⟨H6, m6⟩ := q6
      obtain rfl := Option.some.inj hf
      exact aw_rv dX7_name_39 rfl (Nat.le_of_ble_eq_true rfl) (Nat.le_of_ble_eq_true rfl) ⟨H6, m6⟩
  clear ek1
  refine aw_cge (tgt := 29) (pc' := 11) dX7_name_8 rfl rfl (fun c7 => ?_) (fun c7 => ?_)
  · replace hf := ifn c7 hf
    refine aw_iconst (v := (-1)) (pc' := 30) dX7_name_29 rfl ic_m1 ?_
    exact hk1 _ hf
  · replace hf := ifp c7 hf
    refine aw_ldcS (pc' := 13) dX7_name_11 rfl (by decide) ?_
    refine aw_aload_n (pc' := 14) dX7_name_13 rfl rfl rfl ?_
    refine aw_gr (q := 24) (e := 3) (v := .ref 33) (pc' := 17) H0 (H0.fo rfl rfl) (l13 rfl) rfl rfl dX7_name_14 rfl fl_RX7_11 ?_
    refine aw_aload_n (pc' := 18) dX7_name_17 rfl rfl rfl ?_
    refine aw_gi (q := 24) (pc' := 21) H0 (H0.fo rfl rfl) (l13 rfl) rfl dX7_name_18 rfl fl_RX7_31 ?_
    obtain ⟨v8, ev8, hf⟩ := vl_e hf
    refine aw_topi ev8 ?_
    obtain ⟨g10, hf⟩ := gd_e hf
    refine aw_ia (q := 25) (pc' := 22) H0 (H0.fa rfl rfl rfl) g10 dX7_name_21 rfl ?_
    refine aw_i2c (pc' := 23) dX7_name_22 rfl ?_
    refine aw_callStr (M' := mJ0_indexOf_0f7a4) (nc' := 0) (ns' := 0) (pc' := 26) dX7_name_23 rfl ml_RX7_90 kJ0_indexOf_0f7a4 (c_io0 _ _) rfl rfl rfl (Nat.le_of_ble_eq_true rfl) (rokD (by omega) (Nat.le_of_ble_eq_true rfl) (Nat.le_of_ble_eq_true rfl) (Nat.le_of_ble_eq_true rfl)) rfl rfl (fun r11 h11 q11 => ?_)
    obtain ⟨rfl, rfl⟩ := q11
    refine aw_goto (tgt := 30) dX7_name_26 rfl ?_
    exact hk1 _ hf
/-! ThirtyThreeBelow$Reader.number -/
noncomputable def f_X7_number_L4_b (q0 : SS → Int32 → Option SS) (rc : SS → Int32 → Int32 → Option SS) (s : SS) (x1 : Int32) (x2 : Int32) : Option SS := (if x2 < (5 : Int32) then (b1 (f_X7_isDigit s) fun r2 => (if r2 = (0 : Int32) then (q0 s x1) else (vl ((zS s 24 4)) fun v4 => (gd (inB v4 160) (vl ((((x1 * (10 : Int32)) + (zI s 25 (v4.toInt.toNat))) - (48 : Int32))) fun v6 => (vl (((zS s 24 4) + (1 : Int32))) fun v7 => (st (pS s 24 4 v7) fun s8 => (vl (x2 + 1) fun v10 => (rc s8 v6 v10))))))))) else (q0 s x1))
noncomputable def f_X7_number_L4 (q0 : SS → Int32 → Option SS) : Nat → SS → Int32 → Int32 → Option SS
  | 0, _, _, _ => none
  | n + 1, s, x1, x2 => f_X7_number_L4_b q0 (f_X7_number_L4 q0 n) s x1 x2
set_option maxRecDepth 4000 in
theorem t_X7_number_L4 {s0 sb s9 : SS} {q0 : SS → Int32 → Option SS} (mb : Mo s0 sb) (hq0 : ∀ (s : SS) (h : List aE) (x1 : Int32), HH s h → Mo sb s → q0 s x1 = some s9 → AW mX7_number (rmD (1) 0 0) (fin (PV fun h' => HH s9 h' ∧ Mo s0 s9) 0 0) 50 [some (.ref 32), some (.int x1), none] [] h 0 0) : ∀ (n : Nat) (s : SS) (h : List aE) (x1 : Int32) (x2 : Int32), HH s h → Mo sb s → f_X7_number_L4 q0 n s x1 x2 = some s9 → AW mX7_number (rmD (1) 0 0) (fin (PV fun h' => HH s9 h' ∧ Mo s0 s9) 0 0) 4 [some (.ref 32), some (.int x1), some (.int x2)] [] h 0 0 := by
  intro n
  induction n with
  | zero =>
    intro s h x1 x2 H ms hf
    cases hf
  | succ n ih =>
    intro s h x1 x2 H ms hf
    replace hf : f_X7_number_L4_b q0 (f_X7_number_L4 q0 n) s x1 x2 = some s9 := hf
    unfold f_X7_number_L4_b at hf
    refine aw_iload_n (pc' := 5) dX7_number_4 rfl rfl ?_
    refine aw_iconst (v := 5) (pc' := 6) dX7_number_5 rfl ic_5 ?_
    refine aw_cge (tgt := 50) (pc' := 9) dX7_number_6 rfl rfl (fun c1 => ?_) (fun c1 => ?_)
    · replace hf := ifn c1 hf
      refine AW.lv_le (lz_k (lz_k (lz_d lz_0))) ?_
      exact hq0 _ _ _ H ms hf
    · replace hf := ifp c1 hf
      refine aw_aload_n (pc' := 10) dX7_number_9 rfl rfl rfl ?_
      obtain ⟨r2, ec2, hf⟩ := b1_e hf
      refine aw_callVi (M' := mX7_isDigit) (nc' := 0) (ns' := 0) (pc' := 13) dX7_number_10 rfl ml_RX7_75 kX7_isDigit (t_X7_isDigit H ec2) (H.ob (H.fo rfl rfl) (by decide)) rfl rfl rfl (Nat.le_of_ble_eq_true rfl) (rokD (by omega) (Nat.le_of_ble_eq_true rfl) (Nat.le_of_ble_eq_true rfl) (Nat.le_of_ble_eq_true rfl)) rfl rfl (fun _ h2 q2 => ?_)
      obtain ⟨rfl, rfl, zb2⟩ := q2
      refine aw_if_eq (tgt := 50) (pc' := 16) dX7_number_13 rfl rfl (fun c3 => ?_) (fun c3 => ?_)
      · replace hf := ifp c3 hf
        refine AW.lv_le (lz_k (lz_k (lz_d lz_0))) ?_
        exact hq0 _ _ _ H ms hf
      · replace hf := ifn c3 hf
        refine aw_iload_n (pc' := 17) dX7_number_16 rfl rfl ?_
        refine aw_bipush (v := 10) (pc' := 19) dX7_number_17 rfl bp_10 ?_
        refine aw_imul (pc' := 20) dX7_number_19 rfl ?_
        refine aw_aload_n (pc' := 21) dX7_number_20 rfl rfl rfl ?_
        refine aw_gr (q := 24) (e := 3) (v := .ref 33) (pc' := 24) H (H.fo rfl rfl) (by decide) rfl rfl dX7_number_21 rfl fl_RX7_11 ?_
        refine aw_aload_n (pc' := 25) dX7_number_24 rfl rfl rfl ?_
        refine aw_gi (q := 24) (pc' := 28) H (H.fo rfl rfl) (by decide) rfl dX7_number_25 rfl fl_RX7_31 ?_
        obtain ⟨v4, ev4, hf⟩ := vl_e hf
        refine aw_topi ev4 ?_
        obtain ⟨g5, hf⟩ := gd_e hf
        refine aw_ia (q := 25) (pc' := 29) H (H.fa rfl rfl rfl) g5 dX7_number_28 rfl ?_
        refine aw_iadd (pc' := 30) dX7_number_29 rfl ?_
        refine aw_bipush (v := 48) (pc' := 32) dX7_number_30 rfl bp_48 ?_
        refine aw_isub (pc' := 33) dX7_number_32 rfl ?_
        obtain ⟨v6, ev6, hf⟩ := vl_e hf
        refine aw_topi ev6 ?_
        refine aw_istore_n (lv' := [_, _, _]) (pc' := 34) dX7_number_33 rfl (Nat.le_of_ble_eq_true rfl) rfl ?_
        refine aw_aload_n (pc' := 35) dX7_number_34 rfl rfl rfl ?_
        refine aw_dup (pc' := 36) dX7_number_35 rfl rfl ?_
        refine aw_gi (q := 24) (pc' := 39) H (H.fo rfl rfl) (by decide) rfl dX7_number_36 rfl fl_RX7_31 ?_
        refine aw_iconst (v := 1) (pc' := 40) dX7_number_39 rfl ic_1 ?_
        refine aw_iadd (pc' := 41) dX7_number_40 rfl ?_
        obtain ⟨v7, ev7, hf⟩ := vl_e hf
        refine aw_topi ev7 ?_
        obtain ⟨s8, es8, hf⟩ := st_e hf
        refine aw_pi (q := 24) (pc' := 44) es8 H (H.fo rfl rfl) (by decide) rfl dX7_number_41 rfl fl_RX7_31 rfl (fun h8 H8 => ?_)
        have m8 := Mo.ofS es8
        obtain ⟨v10, ev10, hf⟩ := vl_e hf
        refine aw_iincV (y := v10) (lv' := [_, _, _]) (pc' := 47) dX7_number_44 rfl rfl (Nat.le_of_ble_eq_true rfl) ev10 rfl ?_
        refine aw_goto (tgt := 4) dX7_number_47 rfl ?_
        exact ih _ _ _ _ H8 (ms.tr m8) hf
noncomputable def f_X7_number (s0 : SS)  : Option SS := (f_X7_number_L4 (fun (s11 : SS) (x11_1 : Int32) => (b1 (f_X7_emit s11 x11_1) fun s12 => some s12)) 4000 s0 0 0)
set_option maxRecDepth 4000 in
theorem t_X7_number {s0 s9 : SS} {h0 : List aE}  (H0 : HH s0 h0) (hf : f_X7_number s0 = some s9) : AM mX7_number (1) [.ref 32] h0 0 0 (PV fun h' => HH s9 h' ∧ Mo s0 s9) := by
  unfold f_X7_number at hf
  refine am_of (lv := [some (.ref 32), none, none]) rfl (Nat.le_of_ble_eq_true rfl) rfl ?_
  refine aw_iconst (v := 0) (pc' := 1) dX7_number_0 rfl ic_0 ?_
  refine aw_istore_n (lv' := [_, _, _]) (pc' := 2) dX7_number_1 rfl (Nat.le_of_ble_eq_true rfl) rfl ?_
  refine aw_iconst (v := 0) (pc' := 3) dX7_number_2 rfl ic_0 ?_
  refine aw_istore_n (lv' := [_, _, _]) (pc' := 4) dX7_number_3 rfl (Nat.le_of_ble_eq_true rfl) rfl ?_
  refine t_X7_number_L4 (Mo.rf _) (fun s11 h11 x11_1 H11 m11 hf => ?_) 4000 _ _ _ _ H0 (Mo.rf _) hf
  refine aw_aload_n (pc' := 51) dX7_number_50 rfl rfl rfl ?_
  refine aw_iload_n (pc' := 52) dX7_number_51 rfl rfl ?_
  obtain ⟨s12, ec12, hf⟩ := b1_e hf
  refine aw_callVv (M' := mX7_emit) (nc' := 0) (ns' := 0) (pc' := 55) dX7_number_52 rfl ml_RX7_50 kX7_emit (t_X7_emit H11 ec12) (H11.ob (H11.fo rfl rfl) (by decide)) rfl rfl rfl (Nat.le_of_ble_eq_true rfl) (rokD (by omega) (Nat.le_of_ble_eq_true rfl) (Nat.le_of_ble_eq_true rfl) (Nat.le_of_ble_eq_true rfl)) rfl rfl (fun h12 q12 => ?_)
  obtain ⟨H12, m12⟩ := q12
  obtain rfl := Option.some.inj hf
  exact aw_rv dX7_number_55 rfl (Nat.le_of_ble_eq_true rfl) (Nat.le_of_ble_eq_true rfl) ⟨H12, (m11.tr m12)⟩
/-! ThirtyThreeBelow$Reader.single -/
noncomputable def f_X7_single_r (rec : SS → Int32 → Option SS) (s0 : SS) (a0 : Int32) : Option SS := (if (zS s0 24 5) < (0 : Int32) then (b1 (f_X7_isDigit s0) fun r2 => (if r2 = (0 : Int32) then (jn (fun (s4 : SS)  => (jn (fun (s5 : SS)  => (jn (fun (s6 : SS)  => (b1 (f_X7_name s6) fun s7 => some s7)) fun k6 => (if a0 < (8 : Int32) then (bd (f_X7_takes s5 45) fun r10 s10 => (if r10 = (0 : Int32) then (k6 s10) else (b1 (rec s10 (a0 + (1 : Int32))) fun s12 => (b1 (f_X7_emit s12 (-22)) fun s13 => some s13)))) else (k6 s5)))) fun k5 => (if a0 < (8 : Int32) then (bd (f_X7_takes s4 33) fun r15 s15 => (if r15 = (0 : Int32) then (k5 s15) else (b1 (rec s15 (a0 + (1 : Int32))) fun s17 => (b1 (f_X7_emit s17 (-21)) fun s18 => some s18)))) else (k5 s4)))) fun k4 => (if a0 < (8 : Int32) then (bd (f_X7_takes s0 40) fun r20 s20 => (if r20 = (0 : Int32) then (k4 s20) else (b1 (f_X7_either rec s20 (a0 + (1 : Int32))) fun s22 => (bd (f_X7_takes s22 41) fun r23 s23 => (if r23 = (0 : Int32) then (b1 (f_X7_fails s23) fun s25 => some s25) else some s23))))) else (k4 s0))) else (b1 (f_X7_number s0) fun s26 => some s26))) else some s0)
set_option maxRecDepth 4000 in
theorem t_X7_single_r {Dr : Nat} {rec : SS → Int32 → Option SS} (hrec : ∀ {s0 s9 : SS} {h0 : List aE} {a0 : Int32}, HH s0 h0 → rec s0 a0 = some s9 → AM mX7_single Dr [.ref 32, .int a0] h0 0 0 (PV fun h' => HH s9 h' ∧ Mo s0 s9)) {s0 s9 : SS} {h0 : List aE} {a0 : Int32} (H0 : HH s0 h0) (hf : f_X7_single_r rec s0 a0 = some s9) : AM mX7_single (Dr + 7) [.ref 32, .int a0] h0 0 0 (PV fun h' => HH s9 h' ∧ Mo s0 s9) := by
  unfold f_X7_single_r at hf
  refine am_of (lv := [some (.ref 32), some (.int a0)]) rfl (Nat.le_of_ble_eq_true rfl) rfl ?_
  refine aw_aload_n (pc' := 1) dX7_single_0 rfl rfl rfl ?_
  refine aw_gi (q := 24) (pc' := 4) H0 (H0.fo rfl rfl) (l13 rfl) rfl dX7_single_1 rfl fl_RX7_34 ?_
  refine aw_zlt (tgt := 8) (pc' := 7) dX7_single_4 rfl rfl (fun c1 => ?_) (fun c1 => ?_)
  · replace hf := ifp c1 hf
    refine aw_aload_n (pc' := 9) dX7_single_8 rfl rfl rfl ?_
    obtain ⟨r2, ec2, hf⟩ := b1_e hf
    refine aw_callVi (M' := mX7_isDigit) (nc' := 0) (ns' := 0) (pc' := 12) dX7_single_9 rfl ml_RX7_75 kX7_isDigit (t_X7_isDigit H0 ec2) (H0.ob (H0.fo rfl rfl) (by decide)) rfl rfl rfl (Nat.le_of_ble_eq_true rfl) (rokD (by omega) (Nat.le_of_ble_eq_true rfl) (Nat.le_of_ble_eq_true rfl) (Nat.le_of_ble_eq_true rfl)) rfl rfl (fun _ h2 q2 => ?_)
    obtain ⟨rfl, rfl, zb2⟩ := q2
    refine aw_if_eq (tgt := 22) (pc' := 15) dX7_single_12 rfl rfl (fun c3 => ?_) (fun c3 => ?_)
    · replace hf := ifp c3 hf
      refine aw_iload_n (pc' := 23) dX7_single_22 rfl rfl ?_
      refine aw_bipush (v := 8) (pc' := 25) dX7_single_23 rfl bp_8 ?_
      obtain ⟨k4, ek4, hf⟩ := jn_e hf
      have hk4 : ∀ (s4 : SS) (h4 : List aE), HH s4 h4 → Mo s0 s4 → k4 s4 = some s9 → AW mX7_single (rmD (Dr + 7) 0 0) (fin (PV fun h' => HH s9 h' ∧ Mo s0 s9) 0 0) 60 [some (.ref 32), some (.int a0)] [] h4 0 0 := by
        intro s4 h4 H4 m4 hf
        subst ek4
        refine aw_iload_n (pc' := 61) dX7_single_60 rfl rfl ?_
        refine aw_bipush (v := 8) (pc' := 63) dX7_single_61 rfl bp_8 ?_
        obtain ⟨k5, ek5, hf⟩ := jn_e hf
        have hk5 : ∀ (s5 : SS) (h5 : List aE), HH s5 h5 → Mo s4 s5 → k5 s5 = some s9 → AW mX7_single (rmD (Dr + 7) 0 0) (fin (PV fun h' => HH s9 h' ∧ Mo s0 s9) 0 0) 91 [some (.ref 32), some (.int a0)] [] h5 0 0 := by
          intro s5 h5 H5 m5 hf
          subst ek5
          refine aw_iload_n (pc' := 92) dX7_single_91 rfl rfl ?_
          refine aw_bipush (v := 8) (pc' := 94) dX7_single_92 rfl bp_8 ?_
          obtain ⟨k6, ek6, hf⟩ := jn_e hf
          have hk6 : ∀ (s6 : SS) (h6 : List aE), HH s6 h6 → Mo s5 s6 → k6 s6 = some s9 → AW mX7_single (rmD (Dr + 7) 0 0) (fin (PV fun h' => HH s9 h' ∧ Mo s0 s9) 0 0) 122 [some (.ref 32), none] [] h6 0 0 := by
            intro s6 h6 H6 m6 hf
            subst ek6
            refine aw_aload_n (pc' := 123) dX7_single_122 rfl rfl rfl ?_
            obtain ⟨s7, ec7, hf⟩ := b1_e hf
            refine aw_callVv (M' := mX7_name) (nc' := 0) (ns' := 0) (pc' := 126) dX7_single_123 rfl ml_RX7_85 kX7_name (t_X7_name H6 ec7) (H6.ob (H6.fo rfl rfl) (by decide)) rfl rfl rfl (Nat.le_of_ble_eq_true rfl) (rokD (by omega) (Nat.le_of_ble_eq_true rfl) (Nat.le_of_ble_eq_true rfl) (Nat.le_of_ble_eq_true rfl)) rfl rfl (fun h7 q7 => ?_)
            obtain ⟨H7, m7⟩ := q7
            obtain rfl := Option.some.inj hf
            exact aw_rv dX7_single_126 rfl (Nat.le_of_ble_eq_true rfl) (Nat.le_of_ble_eq_true rfl) ⟨H7, (((m4.tr m5).tr m6).tr m7)⟩
          clear ek6
          refine aw_cge (tgt := 122) (pc' := 97) dX7_single_94 rfl rfl (fun c8 => ?_) (fun c8 => ?_)
          · replace hf := ifn c8 hf
            refine AW.lv_le (lz_k (lz_d lz_0)) ?_
            exact hk6 _ _ H5 (Mo.rf _) hf
          · replace hf := ifp c8 hf
            refine aw_aload_n (pc' := 98) dX7_single_97 rfl rfl rfl ?_
            refine aw_bipush (v := 45) (pc' := 100) dX7_single_98 rfl bp_45 ?_
            obtain ⟨r10, s10, ec10, hf⟩ := bd_e hf
            refine aw_callVi (M' := mX7_takes) (nc' := 0) (ns' := 0) (pc' := 103) dX7_single_100 rfl ml_RX7_40 kX7_takes (t_X7_takes H5 ec10) (H5.ob (H5.fo rfl rfl) (by decide)) rfl rfl rfl (Nat.le_of_ble_eq_true rfl) (rokD (by omega) (Nat.le_of_ble_eq_true rfl) (Nat.le_of_ble_eq_true rfl) (Nat.le_of_ble_eq_true rfl)) rfl rfl (fun _ h10 q10 => ?_)
            obtain ⟨rfl, H10, m10, zb10⟩ := q10
            refine aw_if_eq (tgt := 122) (pc' := 106) dX7_single_103 rfl rfl (fun c11 => ?_) (fun c11 => ?_)
            · replace hf := ifp c11 hf
              refine AW.lv_le (lz_k (lz_d lz_0)) ?_
              exact hk6 _ _ H10 m10 hf
            · replace hf := ifn c11 hf
              refine aw_aload_n (pc' := 107) dX7_single_106 rfl rfl rfl ?_
              refine aw_iload_n (pc' := 108) dX7_single_107 rfl rfl ?_
              refine aw_iconst (v := 1) (pc' := 109) dX7_single_108 rfl ic_1 ?_
              refine aw_iadd (pc' := 110) dX7_single_109 rfl ?_
              obtain ⟨s12, ec12, hf⟩ := b1_e hf
              refine aw_callVv (M' := mX7_single) (nc' := 0) (ns' := 0) (pc' := 113) dX7_single_110 rfl ml_RX7_69 kX7_single (hrec H10 ec12) (H10.ob (H10.fo rfl rfl) (by decide)) rfl rfl rfl (Nat.le_of_ble_eq_true rfl) (rokD (by omega) (Nat.le_of_ble_eq_true rfl) (Nat.le_of_ble_eq_true rfl) (Nat.le_of_ble_eq_true rfl)) rfl rfl (fun h12 q12 => ?_)
              obtain ⟨H12, m12⟩ := q12
              refine aw_aload_n (pc' := 114) dX7_single_113 rfl rfl rfl ?_
              refine aw_bipush (v := (-22)) (pc' := 116) dX7_single_114 rfl bp_m22 ?_
              obtain ⟨s13, ec13, hf⟩ := b1_e hf
              refine aw_callVv (M' := mX7_emit) (nc' := 0) (ns' := 0) (pc' := 119) dX7_single_116 rfl ml_RX7_50 kX7_emit (t_X7_emit H12 ec13) (H12.ob (H12.fo rfl rfl) (by decide)) rfl rfl rfl (Nat.le_of_ble_eq_true rfl) (rokD (by omega) (Nat.le_of_ble_eq_true rfl) (Nat.le_of_ble_eq_true rfl) (Nat.le_of_ble_eq_true rfl)) rfl rfl (fun h13 q13 => ?_)
              obtain ⟨H13, m13⟩ := q13
              refine aw_goto (tgt := 126) dX7_single_119 rfl ?_
              obtain rfl := Option.some.inj hf
              exact aw_rv dX7_single_126 rfl (Nat.le_of_ble_eq_true rfl) (Nat.le_of_ble_eq_true rfl) ⟨H13, ((((m4.tr m5).tr m10).tr m12).tr m13)⟩
        clear ek5
        refine aw_cge (tgt := 91) (pc' := 66) dX7_single_63 rfl rfl (fun c14 => ?_) (fun c14 => ?_)
        · replace hf := ifn c14 hf
          exact hk5 _ _ H4 (Mo.rf _) hf
        · replace hf := ifp c14 hf
          refine aw_aload_n (pc' := 67) dX7_single_66 rfl rfl rfl ?_
          refine aw_bipush (v := 33) (pc' := 69) dX7_single_67 rfl bp_33 ?_
          obtain ⟨r15, s15, ec15, hf⟩ := bd_e hf
          refine aw_callVi (M' := mX7_takes) (nc' := 0) (ns' := 0) (pc' := 72) dX7_single_69 rfl ml_RX7_40 kX7_takes (t_X7_takes H4 ec15) (H4.ob (H4.fo rfl rfl) (by decide)) rfl rfl rfl (Nat.le_of_ble_eq_true rfl) (rokD (by omega) (Nat.le_of_ble_eq_true rfl) (Nat.le_of_ble_eq_true rfl) (Nat.le_of_ble_eq_true rfl)) rfl rfl (fun _ h15 q15 => ?_)
          obtain ⟨rfl, H15, m15, zb15⟩ := q15
          refine aw_if_eq (tgt := 91) (pc' := 75) dX7_single_72 rfl rfl (fun c16 => ?_) (fun c16 => ?_)
          · replace hf := ifp c16 hf
            exact hk5 _ _ H15 m15 hf
          · replace hf := ifn c16 hf
            refine aw_aload_n (pc' := 76) dX7_single_75 rfl rfl rfl ?_
            refine aw_iload_n (pc' := 77) dX7_single_76 rfl rfl ?_
            refine aw_iconst (v := 1) (pc' := 78) dX7_single_77 rfl ic_1 ?_
            refine aw_iadd (pc' := 79) dX7_single_78 rfl ?_
            obtain ⟨s17, ec17, hf⟩ := b1_e hf
            refine aw_callVv (M' := mX7_single) (nc' := 0) (ns' := 0) (pc' := 82) dX7_single_79 rfl ml_RX7_69 kX7_single (hrec H15 ec17) (H15.ob (H15.fo rfl rfl) (by decide)) rfl rfl rfl (Nat.le_of_ble_eq_true rfl) (rokD (by omega) (Nat.le_of_ble_eq_true rfl) (Nat.le_of_ble_eq_true rfl) (Nat.le_of_ble_eq_true rfl)) rfl rfl (fun h17 q17 => ?_)
            obtain ⟨H17, m17⟩ := q17
            refine aw_aload_n (pc' := 83) dX7_single_82 rfl rfl rfl ?_
            refine aw_bipush (v := (-21)) (pc' := 85) dX7_single_83 rfl bp_m21 ?_
            obtain ⟨s18, ec18, hf⟩ := b1_e hf
            refine aw_callVv (M' := mX7_emit) (nc' := 0) (ns' := 0) (pc' := 88) dX7_single_85 rfl ml_RX7_50 kX7_emit (t_X7_emit H17 ec18) (H17.ob (H17.fo rfl rfl) (by decide)) rfl rfl rfl (Nat.le_of_ble_eq_true rfl) (rokD (by omega) (Nat.le_of_ble_eq_true rfl) (Nat.le_of_ble_eq_true rfl) (Nat.le_of_ble_eq_true rfl)) rfl rfl (fun h18 q18 => ?_)
            obtain ⟨H18, m18⟩ := q18
            refine aw_goto (tgt := 126) dX7_single_88 rfl ?_
            obtain rfl := Option.some.inj hf
            exact aw_rv dX7_single_126 rfl (Nat.le_of_ble_eq_true rfl) (Nat.le_of_ble_eq_true rfl) ⟨H18, (((m4.tr m15).tr m17).tr m18)⟩
      clear ek4
      refine aw_cge (tgt := 60) (pc' := 28) dX7_single_25 rfl rfl (fun c19 => ?_) (fun c19 => ?_)
      · replace hf := ifn c19 hf
        exact hk4 _ _ H0 (Mo.rf _) hf
      · replace hf := ifp c19 hf
        refine aw_aload_n (pc' := 29) dX7_single_28 rfl rfl rfl ?_
        refine aw_bipush (v := 40) (pc' := 31) dX7_single_29 rfl bp_40 ?_
        obtain ⟨r20, s20, ec20, hf⟩ := bd_e hf
        refine aw_callVi (M' := mX7_takes) (nc' := 0) (ns' := 0) (pc' := 34) dX7_single_31 rfl ml_RX7_40 kX7_takes (t_X7_takes H0 ec20) (H0.ob (H0.fo rfl rfl) (by decide)) rfl rfl rfl (Nat.le_of_ble_eq_true rfl) (rokD (by omega) (Nat.le_of_ble_eq_true rfl) (Nat.le_of_ble_eq_true rfl) (Nat.le_of_ble_eq_true rfl)) rfl rfl (fun _ h20 q20 => ?_)
        obtain ⟨rfl, H20, m20, zb20⟩ := q20
        refine aw_if_eq (tgt := 60) (pc' := 37) dX7_single_34 rfl rfl (fun c21 => ?_) (fun c21 => ?_)
        · replace hf := ifp c21 hf
          exact hk4 _ _ H20 m20 hf
        · replace hf := ifn c21 hf
          refine aw_aload_n (pc' := 38) dX7_single_37 rfl rfl rfl ?_
          refine aw_iload_n (pc' := 39) dX7_single_38 rfl rfl ?_
          refine aw_iconst (v := 1) (pc' := 40) dX7_single_39 rfl ic_1 ?_
          refine aw_iadd (pc' := 41) dX7_single_40 rfl ?_
          obtain ⟨s22, ec22, hf⟩ := b1_e hf
          refine aw_callVv (M' := mX7_either) (nc' := 0) (ns' := 0) (pc' := 44) dX7_single_41 rfl ml_RX7_44 kX7_either (t_X7_either hrec H20 ec22) (H20.ob (H20.fo rfl rfl) (by decide)) rfl rfl rfl (Nat.le_of_ble_eq_true rfl) (rokD (by omega) (Nat.le_of_ble_eq_true rfl) (Nat.le_of_ble_eq_true rfl) (Nat.le_of_ble_eq_true rfl)) rfl rfl (fun h22 q22 => ?_)
          obtain ⟨H22, m22⟩ := q22
          refine aw_aload_n (pc' := 45) dX7_single_44 rfl rfl rfl ?_
          refine aw_bipush (v := 41) (pc' := 47) dX7_single_45 rfl bp_41 ?_
          obtain ⟨r23, s23, ec23, hf⟩ := bd_e hf
          refine aw_callVi (M' := mX7_takes) (nc' := 0) (ns' := 0) (pc' := 50) dX7_single_47 rfl ml_RX7_40 kX7_takes (t_X7_takes H22 ec23) (H22.ob (H22.fo rfl rfl) (by decide)) rfl rfl rfl (Nat.le_of_ble_eq_true rfl) (rokD (by omega) (Nat.le_of_ble_eq_true rfl) (Nat.le_of_ble_eq_true rfl) (Nat.le_of_ble_eq_true rfl)) rfl rfl (fun _ h23 q23 => ?_)
          obtain ⟨rfl, H23, m23, zb23⟩ := q23
          refine aw_if_ne (tgt := 126) (pc' := 53) dX7_single_50 rfl rfl (fun c24 => ?_) (fun c24 => ?_)
          · replace hf := ifn c24 hf
            obtain rfl := Option.some.inj hf
            exact aw_rv dX7_single_126 rfl (Nat.le_of_ble_eq_true rfl) (Nat.le_of_ble_eq_true rfl) ⟨H23, ((m20.tr m22).tr m23)⟩
          · replace hf := ifp c24 hf
            refine aw_aload_n (pc' := 54) dX7_single_53 rfl rfl rfl ?_
            obtain ⟨s25, ec25, hf⟩ := b1_e hf
            refine aw_callVv (M' := mX7_fails) (nc' := 0) (ns' := 0) (pc' := 57) dX7_single_54 rfl ml_RX7_82 kX7_fails (t_X7_fails H23 ec25) (H23.ob (H23.fo rfl rfl) (by decide)) rfl rfl rfl (Nat.le_of_ble_eq_true rfl) (rokD (by omega) (Nat.le_of_ble_eq_true rfl) (Nat.le_of_ble_eq_true rfl) (Nat.le_of_ble_eq_true rfl)) rfl rfl (fun h25 q25 => ?_)
            obtain ⟨H25, m25⟩ := q25
            refine aw_goto (tgt := 126) dX7_single_57 rfl ?_
            obtain rfl := Option.some.inj hf
            exact aw_rv dX7_single_126 rfl (Nat.le_of_ble_eq_true rfl) (Nat.le_of_ble_eq_true rfl) ⟨H25, (((m20.tr m22).tr m23).tr m25)⟩
    · replace hf := ifn c3 hf
      refine aw_aload_n (pc' := 16) dX7_single_15 rfl rfl rfl ?_
      obtain ⟨s26, ec26, hf⟩ := b1_e hf
      refine aw_callVv (M' := mX7_number) (nc' := 0) (ns' := 0) (pc' := 19) dX7_single_16 rfl ml_RX7_79 kX7_number (t_X7_number H0 ec26) (H0.ob (H0.fo rfl rfl) (by decide)) rfl rfl rfl (Nat.le_of_ble_eq_true rfl) (rokD (by omega) (Nat.le_of_ble_eq_true rfl) (Nat.le_of_ble_eq_true rfl) (Nat.le_of_ble_eq_true rfl)) rfl rfl (fun h26 q26 => ?_)
      obtain ⟨H26, m26⟩ := q26
      refine aw_goto (tgt := 126) dX7_single_19 rfl ?_
      obtain rfl := Option.some.inj hf
      exact aw_rv dX7_single_126 rfl (Nat.le_of_ble_eq_true rfl) (Nat.le_of_ble_eq_true rfl) ⟨H26, m26⟩
  · replace hf := ifn c1 hf
    obtain rfl := Option.some.inj hf
    exact aw_rv dX7_single_7 rfl (Nat.le_of_ble_eq_true rfl) (Nat.le_of_ble_eq_true rfl) ⟨H0, (Mo.rf _)⟩
noncomputable def f_X7_single : Nat → SS → Int32 → Option SS
  | 0, _, _ => none
  | n + 1, s0, a0 => f_X7_single_r (f_X7_single n) s0 a0
set_option maxRecDepth 4000 in
theorem t_X7_single : ∀ (n : Nat) {s0 s9 : SS} {h0 : List aE} {a0 : Int32}, HH s0 h0 → f_X7_single n s0 a0 = some s9 → AM mX7_single (7 * n) [.ref 32, .int a0] h0 0 0 (PV fun h' => HH s9 h' ∧ Mo s0 s9) := by
  intro n
  induction n with
  | zero =>
    intro s0 s9 h0 a0 H0 hf
    cases hf
  | succ n ih =>
    intro s0 s9 h0 a0 H0 hf
    exact t_X7_single_r (Dr := 7 * n) ih H0 hf
/-! ThirtyThreeBelow$Reader.line -/
noncomputable def f_X7_line (s0 : SS)  : Option SS := (b1 (f_X7_either (f_X7_single 12) s0 0) fun s1 => (bd (f_X7_takes s1 63) fun r2 s2 => (jn (fun (s3 : SS)  => (b1 (f_X7_emit s3 (-24)) fun s4 => some s4)) fun k3 => (if r2 = (0 : Int32) then (k3 s2) else (b1 (f_X7_emit s2 (-23)) fun s6 => (b1 (f_X7_either (f_X7_single 12) s6 0) fun s7 => (k3 s7)))))))
set_option maxRecDepth 4000 in
theorem t_X7_line {s0 s9 : SS} {h0 : List aE}  (H0 : HH s0 h0) (hf : f_X7_line s0 = some s9) : AM mX7_line (91) [.ref 32] h0 0 0 (PV fun h' => HH s9 h' ∧ Mo s0 s9) := by
  unfold f_X7_line at hf
  refine am_of (lv := [some (.ref 32)]) rfl (Nat.le_of_ble_eq_true rfl) rfl ?_
  refine aw_aload_n (pc' := 1) dX7_line_0 rfl rfl rfl ?_
  refine aw_iconst (v := 0) (pc' := 2) dX7_line_1 rfl ic_0 ?_
  obtain ⟨s1, ec1, hf⟩ := b1_e hf
  refine aw_callVv (M' := mX7_either) (nc' := 0) (ns' := 0) (pc' := 5) dX7_line_2 rfl ml_RX7_44 kX7_either (t_X7_either (t_X7_single 12) H0 ec1) (H0.ob (H0.fo rfl rfl) (by decide)) rfl rfl rfl (Nat.le_of_ble_eq_true rfl) (rokD (by omega) (Nat.le_of_ble_eq_true rfl) (Nat.le_of_ble_eq_true rfl) (Nat.le_of_ble_eq_true rfl)) rfl rfl (fun h1 q1 => ?_)
  obtain ⟨H1, m1⟩ := q1
  refine aw_aload_n (pc' := 6) dX7_line_5 rfl rfl rfl ?_
  refine aw_bipush (v := 63) (pc' := 8) dX7_line_6 rfl bp_63 ?_
  obtain ⟨r2, s2, ec2, hf⟩ := bd_e hf
  refine aw_callVi (M' := mX7_takes) (nc' := 0) (ns' := 0) (pc' := 11) dX7_line_8 rfl ml_RX7_40 kX7_takes (t_X7_takes H1 ec2) (H1.ob (H1.fo rfl rfl) (by decide)) rfl rfl rfl (Nat.le_of_ble_eq_true rfl) (rokD (by omega) (Nat.le_of_ble_eq_true rfl) (Nat.le_of_ble_eq_true rfl) (Nat.le_of_ble_eq_true rfl)) rfl rfl (fun _ h2 q2 => ?_)
  obtain ⟨rfl, H2, m2, zb2⟩ := q2
  obtain ⟨k3, ek3, hf⟩ := jn_e hf
  have hk3 : ∀ (s3 : SS) (h3 : List aE), HH s3 h3 → Mo s2 s3 → k3 s3 = some s9 → AW mX7_line (rmD (91) 0 0) (fin (PV fun h' => HH s9 h' ∧ Mo s0 s9) 0 0) 25 [some (.ref 32)] [] h3 0 0 := by
    intro s3 h3 H3 m3 hf
    subst ek3
    refine aw_aload_n (pc' := 26) dX7_line_25 rfl rfl rfl ?_
    refine aw_bipush (v := (-24)) (pc' := 28) dX7_line_26 rfl bp_m24 ?_
    obtain ⟨s4, ec4, hf⟩ := b1_e hf
    refine aw_callVv (M' := mX7_emit) (nc' := 0) (ns' := 0) (pc' := 31) dX7_line_28 rfl ml_RX7_50 kX7_emit (t_X7_emit H3 ec4) (H3.ob (H3.fo rfl rfl) (by decide)) rfl rfl rfl (Nat.le_of_ble_eq_true rfl) (rokD (by omega) (Nat.le_of_ble_eq_true rfl) (Nat.le_of_ble_eq_true rfl) (Nat.le_of_ble_eq_true rfl)) rfl rfl (fun h4 q4 => ?_)
    obtain ⟨H4, m4⟩ := q4
    obtain rfl := Option.some.inj hf
    exact aw_rv dX7_line_31 rfl (Nat.le_of_ble_eq_true rfl) (Nat.le_of_ble_eq_true rfl) ⟨H4, (((m1.tr m2).tr m3).tr m4)⟩
  clear ek3
  refine aw_if_eq (tgt := 25) (pc' := 14) dX7_line_11 rfl rfl (fun c5 => ?_) (fun c5 => ?_)
  · replace hf := ifp c5 hf
    exact hk3 _ _ H2 (Mo.rf _) hf
  · replace hf := ifn c5 hf
    refine aw_aload_n (pc' := 15) dX7_line_14 rfl rfl rfl ?_
    refine aw_bipush (v := (-23)) (pc' := 17) dX7_line_15 rfl bp_m23 ?_
    obtain ⟨s6, ec6, hf⟩ := b1_e hf
    refine aw_callVv (M' := mX7_emit) (nc' := 0) (ns' := 0) (pc' := 20) dX7_line_17 rfl ml_RX7_50 kX7_emit (t_X7_emit H2 ec6) (H2.ob (H2.fo rfl rfl) (by decide)) rfl rfl rfl (Nat.le_of_ble_eq_true rfl) (rokD (by omega) (Nat.le_of_ble_eq_true rfl) (Nat.le_of_ble_eq_true rfl) (Nat.le_of_ble_eq_true rfl)) rfl rfl (fun h6 q6 => ?_)
    obtain ⟨H6, m6⟩ := q6
    refine aw_aload_n (pc' := 21) dX7_line_20 rfl rfl rfl ?_
    refine aw_iconst (v := 0) (pc' := 22) dX7_line_21 rfl ic_0 ?_
    obtain ⟨s7, ec7, hf⟩ := b1_e hf
    refine aw_callVv (M' := mX7_either) (nc' := 0) (ns' := 0) (pc' := 25) dX7_line_22 rfl ml_RX7_44 kX7_either (t_X7_either (t_X7_single 12) H6 ec7) (H6.ob (H6.fo rfl rfl) (by decide)) rfl rfl rfl (Nat.le_of_ble_eq_true rfl) (rokD (by omega) (Nat.le_of_ble_eq_true rfl) (Nat.le_of_ble_eq_true rfl) (Nat.le_of_ble_eq_true rfl)) rfl rfl (fun h7 q7 => ?_)
    obtain ⟨H7, m7⟩ := q7
    exact hk3 _ _ H7 (m6.tr m7) hf
