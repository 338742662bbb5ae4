/-! ThirtyThreeBelow$Crew.afterDay -/
noncomputable def f_X2_afterDay (a0 : Int32) (a1 : Int32) : Option Int32 := (b1 (f_X11_held ((a0 - (6 : Int32)) + ((2 : Int32) * a1)) (0 : Int32) (999 : Int32)) fun r1 => some r1)
set_option maxRecDepth 4000 in
theorem t_X2_afterDay {r9 : Int32} {h0 : List aE} {a0 : Int32} {a1 : Int32}  (hf : f_X2_afterDay a0 a1 = some r9) : AM mX2_afterDay (2) [.int a0, .int a1] h0 0 0 (PI fun r' h' => r9 = r' ∧ h0 = h') := by
  unfold f_X2_afterDay at hf
  refine am_of (lv := [some (.int a0), some (.int a1)]) rfl (Nat.le_of_ble_eq_true rfl) rfl ?_
  refine aw_iload_n (pc' := 1) dX2_afterDay_0 rfl rfl ?_
  refine aw_bipush (v := 6) (pc' := 3) dX2_afterDay_1 rfl bp_6 ?_
  refine aw_isub (pc' := 4) dX2_afterDay_3 rfl ?_
  refine aw_iconst (v := 2) (pc' := 5) dX2_afterDay_4 rfl ic_2 ?_
  refine aw_iload_n (pc' := 6) dX2_afterDay_5 rfl rfl ?_
  refine aw_imul (pc' := 7) dX2_afterDay_6 rfl ?_
  refine aw_iadd (pc' := 8) dX2_afterDay_7 rfl ?_
  refine aw_iconst (v := 0) (pc' := 9) dX2_afterDay_8 rfl ic_0 ?_
  refine aw_sipush (v := 999) (pc' := 12) dX2_afterDay_9 rfl sp_999 ?_
  obtain ⟨r1, ec1, hf⟩ := b1_e hf
  refine aw_callSNi (host := "ThirtyThreeBelow") (M' := mX11_held) (nc' := 0) (ns' := 0) (pc' := 15) dX2_afterDay_12 rfl (by decide) kX11_held (t_X11_held ec1) rfl rfl (Nat.le_of_ble_eq_true rfl) (rokD (by omega) (Nat.le_of_ble_eq_true rfl) (Nat.le_of_ble_eq_true rfl) (Nat.le_of_ble_eq_true rfl)) rfl rfl (fun _ h1 q1 => ?_)
  obtain ⟨rfl, rfl⟩ := q1
  obtain rfl := Option.some.inj hf
  exact aw_ri dX2_afterDay_15 rfl rfl (Nat.le_of_ble_eq_true rfl) (Nat.le_of_ble_eq_true rfl) ⟨rfl, rfl⟩
/-! ThirtyThreeBelow$Crew.daysKept -/
noncomputable def f_X2_daysKept_L6_b (q0 : SS → Int32 → Option (Int32 × SS)) (y1 : Int32) (y2 : Int32) (y3 : Int32) (rc : SS → Int32 → Int32 → Option (Int32 × SS)) (s : SS) (x4 : Int32) (x5 : Int32) : Option (Int32 × SS) := (if x5 < (120 : Int32) then (gd (inB x5 120) (jn (fun (s3 : SS) (j3_4 : Int32) => (vl (x5 + 1) fun v4 => (rc s3 j3_4 v4))) fun k3 => (if (zI s 10 (x5.toInt.toNat)) = (1 : Int32) then (gd (inB x5 120) (if y1 < (zI s 7 (x5.toInt.toNat)) then (gd (inB x5 120) (vl ((zI s 7 (x5.toInt.toNat))) fun v10 => (gd (inB x4 120) (st (pI s 11 (x4.toInt.toNat) v10) fun s12 => (vl (x4 + 1) fun v13 => (k3 s12 v13)))))) else some (0, s))) else (k3 s x4)))) else (q0 s x4))
noncomputable def f_X2_daysKept_L6 (q0 : SS → Int32 → Option (Int32 × SS)) (y1 : Int32) (y2 : Int32) (y3 : Int32) : Nat → SS → Int32 → Int32 → Option (Int32 × SS)
  | 0, _, _, _ => none
  | n + 1, s, x4, x5 => f_X2_daysKept_L6_b q0 y1 y2 y3 (f_X2_daysKept_L6 q0 y1 y2 y3 n) s x4 x5
set_option maxRecDepth 4000 in
theorem t_X2_daysKept_L6 {r9 : Int32} {s0 sb s9 : SS} {q0 : SS → Int32 → Option (Int32 × SS)} {y1 : Int32} {y2 : Int32} {y3 : Int32} (mb : Mo s0 sb) (hq0 : ∀ (s : SS) (h : List aE) (x4 : Int32), HH s h → Mo sb s → q0 s x4 = some (r9, s9) → AW mX2_daysKept (rmD (3) 0 0) (fin (PI fun r' h' => r9 = r' ∧ HH s9 h' ∧ Mo s0 s9) 0 0) 60 [some (.ref 14), some (.int y1), some (.int y2), some (.int y3), some (.int x4), none, none, none, none] [] h 0 0) : ∀ (n : Nat) (s : SS) (h : List aE) (x4 : Int32) (x5 : Int32), HH s h → Mo sb s → f_X2_daysKept_L6 q0 y1 y2 y3 n s x4 x5 = some (r9, s9) → AW mX2_daysKept (rmD (3) 0 0) (fin (PI fun r' h' => r9 = r' ∧ HH s9 h' ∧ Mo s0 s9) 0 0) 6 [some (.ref 14), some (.int y1), some (.int y2), some (.int y3), some (.int x4), some (.int x5), none, none, none] [] h 0 0 := by
  intro n
  induction n with
  | zero =>
    intro s h x4 x5 H ms hf
    cases hf
  | succ n ih =>
    intro s h x4 x5 H ms hf
    replace hf : f_X2_daysKept_L6_b q0 y1 y2 y3 (f_X2_daysKept_L6 q0 y1 y2 y3 n) s x4 x5 = some (r9, s9) := hf
    unfold f_X2_daysKept_L6_b at hf
    refine aw_iload (pc' := 8) dX2_daysKept_6 rfl rfl ?_
    refine aw_bipush (v := 120) (pc' := 10) dX2_daysKept_8 rfl bp_120 ?_
    refine aw_cge (tgt := 60) (pc' := 13) dX2_daysKept_10 rfl rfl (fun c1 => ?_) (fun c1 => ?_)
    · replace hf := ifn c1 hf
      refine AW.lv_le (lz_k (lz_k (lz_k (lz_k (lz_k (lz_d (lz_d (lz_d (lz_d lz_0))))))))) ?_
      exact hq0 _ _ _ H ms hf
    · replace hf := ifp c1 hf
      refine aw_aload_n (pc' := 14) dX2_daysKept_13 rfl rfl rfl ?_
      refine aw_gr (q := 6) (e := 9) (v := .ref 18) (pc' := 17) H (H.fo rfl rfl) (by decide) rfl rfl dX2_daysKept_14 rfl fl_RX2_21 ?_
      refine aw_iload (pc' := 19) dX2_daysKept_17 rfl rfl ?_
      obtain ⟨g2, hf⟩ := gd_e hf
      refine aw_ia (q := 10) (pc' := 20) H (H.fa rfl rfl rfl) g2 dX2_daysKept_19 rfl ?_
      refine aw_iconst (v := 1) (pc' := 21) dX2_daysKept_20 rfl ic_1 ?_
      obtain ⟨k3, ek3, hf⟩ := jn_e hf
      have hk3 : ∀ (s3 : SS) (h3 : List aE) (j3_4 : Int32), HH s3 h3 → Mo s s3 → k3 s3 j3_4 = some (r9, s9) → AW mX2_daysKept (rmD (3) 0 0) (fin (PI fun r' h' => r9 = r' ∧ HH s9 h' ∧ Mo s0 s9) 0 0) 54 [some (.ref 14), some (.int y1), some (.int y2), some (.int y3), some (.int j3_4), some (.int x5), none, none, none] [] h3 0 0 := by
        intro s3 h3 j3_4 H3 m3 hf
        subst ek3
        obtain ⟨v4, ev4, hf⟩ := vl_e hf
        refine aw_iincV (y := v4) (lv' := [_, _, _, _, _, _, _, _, _]) (pc' := 57) dX2_daysKept_54 rfl rfl (Nat.le_of_ble_eq_true rfl) ev4 rfl ?_
        refine aw_goto (tgt := 6) dX2_daysKept_57 rfl ?_
        exact ih _ _ _ _ H3 (ms.tr m3) hf
      clear ek3
      refine aw_icmp_ne (tgt := 54) (pc' := 24) dX2_daysKept_21 rfl rfl (fun c5 => ?_) (fun c5 => ?_)
      · replace hf := ifn c5 hf
        exact hk3 _ _ _ H (Mo.rf _) hf
      · replace hf := ifp c5 hf
        refine aw_aload_n (pc' := 25) dX2_daysKept_24 rfl rfl rfl ?_
        refine aw_gr (q := 6) (e := 3) (v := .ref 15) (pc' := 28) H (H.fo rfl rfl) (by decide) rfl rfl dX2_daysKept_25 rfl fl_RX2_9 ?_
        refine aw_iload (pc' := 30) dX2_daysKept_28 rfl rfl ?_
        obtain ⟨g6, hf⟩ := gd_e hf
        refine aw_ia (q := 7) (pc' := 31) H (H.fa rfl rfl rfl) g6 dX2_daysKept_30 rfl ?_
        refine aw_iload_n (pc' := 32) dX2_daysKept_31 rfl rfl ?_
        refine aw_cgt (tgt := 37) (pc' := 35) dX2_daysKept_32 rfl rfl (fun c7 => ?_) (fun c7 => ?_)
        · replace hf := ifp c7 hf
          refine aw_aload_n (pc' := 38) dX2_daysKept_37 rfl rfl rfl ?_
          refine aw_gr (q := 6) (e := 11) (v := .ref 19) (pc' := 41) H (H.fo rfl rfl) (by decide) rfl rfl dX2_daysKept_38 rfl fl_RX2_24 ?_
          refine aw_iload (pc' := 43) dX2_daysKept_41 rfl rfl ?_
          refine aw_aload_n (pc' := 44) dX2_daysKept_43 rfl rfl rfl ?_
          refine aw_gr (q := 6) (e := 3) (v := .ref 15) (pc' := 47) H (H.fo rfl rfl) (by decide) rfl rfl dX2_daysKept_44 rfl fl_RX2_9 ?_
          refine aw_iload (pc' := 49) dX2_daysKept_47 rfl rfl ?_
          obtain ⟨g8, hf⟩ := gd_e hf
          refine aw_ia (q := 7) (pc' := 50) H (H.fa rfl rfl rfl) g8 dX2_daysKept_49 rfl ?_
          obtain ⟨v10, ev10, hf⟩ := vl_e hf
          refine aw_topi ev10 ?_
          obtain ⟨g11, hf⟩ := gd_e hf
          obtain ⟨s12, es12, hf⟩ := st_e hf
          refine aw_is (q := 11) (pc' := 51) es12 H (H.fa rfl rfl rfl) g11 dX2_daysKept_50 rfl (fun h12 H12 => ?_)
          have m12 := Mo.ofI es12
          obtain ⟨v13, ev13, hf⟩ := vl_e hf
          refine aw_iincV (y := v13) (lv' := [_, _, _, _, _, _, _, _, _]) (pc' := 54) dX2_daysKept_51 rfl rfl (Nat.le_of_ble_eq_true rfl) ev13 rfl ?_
          exact hk3 _ _ _ H12 m12 hf
        · replace hf := ifn c7 hf
          refine aw_iconst (v := 0) (pc' := 36) dX2_daysKept_35 rfl ic_0 ?_
          obtain ⟨rfl, rfl⟩ := so2 hf
          exact aw_ri dX2_daysKept_36 rfl rfl (Nat.le_of_ble_eq_true rfl) (Nat.le_of_ble_eq_true rfl) ⟨rfl, H, (mb.tr ms)⟩
noncomputable def f_X2_daysKept_L76_b (q0 : SS → Int32 → Option (Int32 × SS)) (y1 : Int32) (y2 : Int32) (y4 : Int32) (y6 : Int32) (rc : SS → Int32 → Int32 → Option (Int32 × SS)) (s : SS) (x5 : Int32) (x7 : Int32) : Option (Int32 × SS) := (if x7 < y4 then (b1 (f_J9_min_7cf53 y2 x5) fun r17 => (vl ((x5 - r17)) fun v18 => (gd (inB x7 120) (b1 (f_X2_afterDay (zI s 11 (x7.toInt.toNat)) r17) fun r20 => (gd (inB x7 120) (st (pI s 11 (x7.toInt.toNat) r20) fun s22 => (gd (inB x7 120) (if y1 < (zI s22 11 (x7.toInt.toNat)) then (vl (x7 + 1) fun v25 => (rc s22 v18 v25)) else some (y6, s22))))))))) else (q0 s x5))
noncomputable def f_X2_daysKept_L76 (q0 : SS → Int32 → Option (Int32 × SS)) (y1 : Int32) (y2 : Int32) (y4 : Int32) (y6 : Int32) : Nat → SS → Int32 → Int32 → Option (Int32 × SS)
  | 0, _, _, _ => none
  | n + 1, s, x5, x7 => f_X2_daysKept_L76_b q0 y1 y2 y4 y6 (f_X2_daysKept_L76 q0 y1 y2 y4 y6 n) s x5 x7
set_option maxRecDepth 4000 in
theorem t_X2_daysKept_L76 {r9 : Int32} {s0 sb s9 : SS} {q0 : SS → Int32 → Option (Int32 × SS)} {y1 : Int32} {y2 : Int32} {y4 : Int32} {y6 : Int32} (mb : Mo s0 sb) (hq0 : ∀ (s : SS) (h : List aE) (x5 : Int32), HH s h → Mo sb s → q0 s x5 = some (r9, s9) → AW mX2_daysKept (rmD (3) 0 0) (fin (PI fun r' h' => r9 = r' ∧ HH s9 h' ∧ Mo s0 s9) 0 0) 137 [some (.ref 14), some (.int y1), some (.int y2), none, some (.int y4), some (.int x5), some (.int y6), none, none] [] h 0 0) : ∀ (n : Nat) (s : SS) (h : List aE) (x5 : Int32) (x7 : Int32), HH s h → Mo sb s → f_X2_daysKept_L76 q0 y1 y2 y4 y6 n s x5 x7 = some (r9, s9) → AW mX2_daysKept (rmD (3) 0 0) (fin (PI fun r' h' => r9 = r' ∧ HH s9 h' ∧ Mo s0 s9) 0 0) 76 [some (.ref 14), some (.int y1), some (.int y2), none, some (.int y4), some (.int x5), some (.int y6), some (.int x7), none] [] h 0 0 := by
  intro n
  induction n with
  | zero =>
    intro s h x5 x7 H ms hf
    cases hf
  | succ n ih =>
    intro s h x5 x7 H ms hf
    replace hf : f_X2_daysKept_L76_b q0 y1 y2 y4 y6 (f_X2_daysKept_L76 q0 y1 y2 y4 y6 n) s x5 x7 = some (r9, s9) := hf
    unfold f_X2_daysKept_L76_b at hf
    refine aw_iload (pc' := 78) dX2_daysKept_76 rfl rfl ?_
    refine aw_iload (pc' := 80) dX2_daysKept_78 rfl rfl ?_
    refine aw_cge (tgt := 137) (pc' := 83) dX2_daysKept_80 rfl rfl (fun c16 => ?_) (fun c16 => ?_)
    · replace hf := ifn c16 hf
      refine AW.lv_le (lz_k (lz_k (lz_k (lz_d (lz_k (lz_k (lz_k (lz_d (lz_d lz_0))))))))) ?_
      exact hq0 _ _ _ H ms hf
    · replace hf := ifp c16 hf
      refine aw_iload_n (pc' := 84) dX2_daysKept_83 rfl rfl ?_
      refine aw_iload (pc' := 86) dX2_daysKept_84 rfl rfl ?_
      obtain ⟨r17, ec17, hf⟩ := b1_e hf
      refine aw_callSi (M' := mJ9_min_7cf53) (nc' := 0) (ns' := 0) (pc' := 89) dX2_daysKept_86 rfl ml_RX2_45 kJ9_min_7cf53 (t_J9_min_7cf53 ec17) rfl rfl (Nat.le_of_ble_eq_true rfl) (rokD (by omega) (Nat.le_of_ble_eq_true rfl) (Nat.le_of_ble_eq_true rfl) (Nat.le_of_ble_eq_true rfl)) rfl rfl (fun _ h17 q17 => ?_)
      obtain ⟨rfl, rfl⟩ := q17
      refine aw_istore (lv' := [_, _, _, _, _, _, _, _, _]) (pc' := 91) dX2_daysKept_89 rfl (Nat.le_of_ble_eq_true rfl) rfl ?_
      refine aw_iload (pc' := 93) dX2_daysKept_91 rfl rfl ?_
      refine aw_iload (pc' := 95) dX2_daysKept_93 rfl rfl ?_
      refine aw_isub (pc' := 96) dX2_daysKept_95 rfl ?_
      obtain ⟨v18, ev18, hf⟩ := vl_e hf
      refine aw_topi ev18 ?_
      refine aw_istore (lv' := [_, _, _, _, _, _, _, _, _]) (pc' := 98) dX2_daysKept_96 rfl (Nat.le_of_ble_eq_true rfl) rfl ?_
      refine aw_aload_n (pc' := 99) dX2_daysKept_98 rfl rfl rfl ?_
      refine aw_gr (q := 6) (e := 11) (v := .ref 19) (pc' := 102) H (H.fo rfl rfl) (by decide) rfl rfl dX2_daysKept_99 rfl fl_RX2_24 ?_
      refine aw_iload (pc' := 104) dX2_daysKept_102 rfl rfl ?_
      refine aw_aload_n (pc' := 105) dX2_daysKept_104 rfl rfl rfl ?_
      refine aw_gr (q := 6) (e := 11) (v := .ref 19) (pc' := 108) H (H.fo rfl rfl) (by decide) rfl rfl dX2_daysKept_105 rfl fl_RX2_24 ?_
      refine aw_iload (pc' := 110) dX2_daysKept_108 rfl rfl ?_
      obtain ⟨g19, hf⟩ := gd_e hf
      refine aw_ia (q := 11) (pc' := 111) H (H.fa rfl rfl rfl) g19 dX2_daysKept_110 rfl ?_
      refine aw_iload (pc' := 113) dX2_daysKept_111 rfl rfl ?_
      obtain ⟨r20, ec20, hf⟩ := b1_e hf
      refine aw_callSi (M' := mX2_afterDay) (nc' := 0) (ns' := 0) (pc' := 116) dX2_daysKept_113 rfl ml_RX2_51 kX2_afterDay (t_X2_afterDay ec20) rfl rfl (Nat.le_of_ble_eq_true rfl) (rokD (by omega) (Nat.le_of_ble_eq_true rfl) (Nat.le_of_ble_eq_true rfl) (Nat.le_of_ble_eq_true rfl)) rfl rfl (fun _ h20 q20 => ?_)
      obtain ⟨rfl, rfl⟩ := q20
      obtain ⟨g21, hf⟩ := gd_e hf
      obtain ⟨s22, es22, hf⟩ := st_e hf
      refine aw_is (q := 11) (pc' := 117) es22 H (H.fa rfl rfl rfl) g21 dX2_daysKept_116 rfl (fun h22 H22 => ?_)
      have m22 := Mo.ofI es22
      refine aw_aload_n (pc' := 118) dX2_daysKept_117 rfl rfl rfl ?_
      refine aw_gr (q := 6) (e := 11) (v := .ref 19) (pc' := 121) H22 (H22.fo rfl rfl) (l13 rfl) rfl rfl dX2_daysKept_118 rfl fl_RX2_24 ?_
      refine aw_iload (pc' := 123) dX2_daysKept_121 rfl rfl ?_
      obtain ⟨g23, hf⟩ := gd_e hf
      refine aw_ia (q := 11) (pc' := 124) H22 (H22.fa rfl rfl rfl) g23 dX2_daysKept_123 rfl ?_
      refine aw_iload_n (pc' := 125) dX2_daysKept_124 rfl rfl ?_
      refine aw_cgt (tgt := 131) (pc' := 128) dX2_daysKept_125 rfl rfl (fun c24 => ?_) (fun c24 => ?_)
      · replace hf := ifp c24 hf
        obtain ⟨v25, ev25, hf⟩ := vl_e hf
        refine aw_iincV (y := v25) (lv' := [_, _, _, _, _, _, _, _, _]) (pc' := 134) dX2_daysKept_131 rfl rfl (Nat.le_of_ble_eq_true rfl) ev25 rfl ?_
        refine aw_goto (tgt := 76) dX2_daysKept_134 rfl ?_
        refine AW.lv_le (lz_k (lz_k (lz_k (lz_d (lz_k (lz_k (lz_k (lz_k (lz_d lz_0))))))))) ?_
        exact ih _ _ _ _ H22 (ms.tr m22) hf
      · replace hf := ifn c24 hf
        refine aw_iload (pc' := 130) dX2_daysKept_128 rfl rfl ?_
        obtain ⟨rfl, rfl⟩ := so2 hf
        exact aw_ri dX2_daysKept_130 rfl rfl (Nat.le_of_ble_eq_true rfl) (Nat.le_of_ble_eq_true rfl) ⟨rfl, H22, ((mb.tr ms).tr m22)⟩
noncomputable def f_X2_daysKept_L66_b (y1 : Int32) (y2 : Int32) (y4 : Int32) (rc : SS → Int32 → Int32 → Option (Int32 × SS)) (s : SS) (x5 : Int32) (x6 : Int32) : Option (Int32 × SS) := (if x6 < (60 : Int32) then (f_X2_daysKept_L76 (fun (s26 : SS) (x26_5 : Int32) => (vl (x6 + 1) fun v27 => (rc s26 x26_5 v27))) y1 y2 y4 x6 4000 s x5 0) else some (60, s))
noncomputable def f_X2_daysKept_L66 (y1 : Int32) (y2 : Int32) (y4 : Int32) : Nat → SS → Int32 → Int32 → Option (Int32 × SS)
  | 0, _, _, _ => none
  | n + 1, s, x5, x6 => f_X2_daysKept_L66_b y1 y2 y4 (f_X2_daysKept_L66 y1 y2 y4 n) s x5 x6
set_option maxRecDepth 4000 in
theorem t_X2_daysKept_L66 {r9 : Int32} {s0 sb s9 : SS} {y1 : Int32} {y2 : Int32} {y4 : Int32} (mb : Mo s0 sb)  : ∀ (n : Nat) (s : SS) (h : List aE) (x5 : Int32) (x6 : Int32), HH s h → Mo sb s → f_X2_daysKept_L66 y1 y2 y4 n s x5 x6 = some (r9, s9) → AW mX2_daysKept (rmD (3) 0 0) (fin (PI fun r' h' => r9 = r' ∧ HH s9 h' ∧ Mo s0 s9) 0 0) 66 [some (.ref 14), some (.int y1), some (.int y2), none, some (.int y4), some (.int x5), some (.int x6), none, none] [] h 0 0 := by
  intro n
  induction n with
  | zero =>
    intro s h x5 x6 H ms hf
    cases hf
  | succ n ih =>
    intro s h x5 x6 H ms hf
    replace hf : f_X2_daysKept_L66_b y1 y2 y4 (f_X2_daysKept_L66 y1 y2 y4 n) s x5 x6 = some (r9, s9) := hf
    unfold f_X2_daysKept_L66_b at hf
    refine aw_iload (pc' := 68) dX2_daysKept_66 rfl rfl ?_
    refine aw_bipush (v := 60) (pc' := 70) dX2_daysKept_68 rfl bp_60 ?_
    refine aw_cge (tgt := 143) (pc' := 73) dX2_daysKept_70 rfl rfl (fun c15 => ?_) (fun c15 => ?_)
    · replace hf := ifn c15 hf
      refine aw_bipush (v := 60) (pc' := 145) dX2_daysKept_143 rfl bp_60 ?_
      obtain ⟨rfl, rfl⟩ := so2 hf
      exact aw_ri dX2_daysKept_145 rfl rfl (Nat.le_of_ble_eq_true rfl) (Nat.le_of_ble_eq_true rfl) ⟨rfl, H, (mb.tr ms)⟩
    · replace hf := ifp c15 hf
      refine aw_iconst (v := 0) (pc' := 74) dX2_daysKept_73 rfl ic_0 ?_
      refine aw_istore (lv' := [_, _, _, _, _, _, _, _, _]) (pc' := 76) dX2_daysKept_74 rfl (Nat.le_of_ble_eq_true rfl) rfl ?_
      refine t_X2_daysKept_L76 (mb.tr ms) (fun s26 h26 x26_5 H26 m26 hf => ?_) 4000 _ _ _ _ H (Mo.rf _) hf
      obtain ⟨v27, ev27, hf⟩ := vl_e hf
      refine aw_iincV (y := v27) (lv' := [_, _, _, _, _, _, _, _, _]) (pc' := 140) dX2_daysKept_137 rfl rfl (Nat.le_of_ble_eq_true rfl) ev27 rfl ?_
      refine aw_goto (tgt := 66) dX2_daysKept_140 rfl ?_
      exact ih _ _ _ _ H26 (ms.tr m26) hf
noncomputable def f_X2_daysKept (s0 : SS) (a0 : Int32) (a1 : Int32) (a2 : Int32) : Option (Int32 × SS) := (f_X2_daysKept_L6 (fun (s14 : SS) (x14_4 : Int32) => (f_X2_daysKept_L66 a0 a1 x14_4 4000 s14 a2 0)) a0 a1 a2 4000 s0 0 0)
set_option maxRecDepth 4000 in
theorem t_X2_daysKept {r9 : Int32} {s0 s9 : SS} {h0 : List aE} {a0 : Int32} {a1 : Int32} {a2 : Int32} (H0 : HH s0 h0) (hf : f_X2_daysKept s0 a0 a1 a2 = some (r9, s9)) : AM mX2_daysKept (3) [.ref 14, .int a0, .int a1, .int a2] h0 0 0 (PI fun r' h' => r9 = r' ∧ HH s9 h' ∧ Mo s0 s9) := by
  unfold f_X2_daysKept at hf
  refine am_of (lv := [some (.ref 14), some (.int a0), some (.int a1), some (.int a2), none, none, none, none, none]) rfl (Nat.le_of_ble_eq_true rfl) rfl ?_
  refine aw_iconst (v := 0) (pc' := 1) dX2_daysKept_0 rfl ic_0 ?_
  refine aw_istore (lv' := [_, _, _, _, _, _, _, _, _]) (pc' := 3) dX2_daysKept_1 rfl (Nat.le_of_ble_eq_true rfl) rfl ?_
  refine aw_iconst (v := 0) (pc' := 4) dX2_daysKept_3 rfl ic_0 ?_
  refine aw_istore (lv' := [_, _, _, _, _, _, _, _, _]) (pc' := 6) dX2_daysKept_4 rfl (Nat.le_of_ble_eq_true rfl) rfl ?_
  refine t_X2_daysKept_L6 (Mo.rf _) (fun s14 h14 x14_4 H14 m14 hf => ?_) 4000 _ _ _ _ H0 (Mo.rf _) hf
  refine aw_iload_n (pc' := 61) dX2_daysKept_60 rfl rfl ?_
  refine aw_istore (lv' := [_, _, _, _, _, _, _, _, _]) (pc' := 63) dX2_daysKept_61 rfl (Nat.le_of_ble_eq_true rfl) rfl ?_
  refine aw_iconst (v := 0) (pc' := 64) dX2_daysKept_63 rfl ic_0 ?_
  refine aw_istore (lv' := [_, _, _, _, _, _, _, _, _]) (pc' := 66) dX2_daysKept_64 rfl (Nat.le_of_ble_eq_true rfl) rfl ?_
  refine AW.lv_le (lz_k (lz_k (lz_k (lz_d (lz_k (lz_k (lz_k (lz_d (lz_d lz_0))))))))) ?_
  refine t_X2_daysKept_L66 m14  4000 _ _ _ _ H14 (Mo.rf _) hf
/-! ThirtyThreeBelow$Crew.watchesMade -/
noncomputable def f_X2_watchesMade_L22_b (y1 : Int32) (y2 : Int32) (rc : SS → Int32 → Int32 → Int32 → Option (Int32 × SS)) (s : SS) (x3 : Int32) (x4 : Int32) (x5 : Int32) : Option (Int32 × SS) := (if x5 < (120 : Int32) then (if x3 < (9 : Int32) then (if x4 < ((3 : Int32) * y1) then (gd (inB x5 120) (jn (fun (s7 : SS) (j7_3 : Int32) (j7_4 : Int32) => (vl (x5 + 1) fun v8 => (rc s7 j7_3 j7_4 v8))) fun k7 => (if (zI s 10 (x5.toInt.toNat)) = (1 : Int32) then (vl (x3 + 1) fun v11 => (gd (inB x5 120) (if y2 < (zI s 9 (x5.toInt.toNat)) then (k7 s v11 x4) else (gd (inB x4 9) (st (pI s 12 (x4.toInt.toNat) x5) fun s15 => (vl (x4 + 1) fun v16 => (k7 s15 v11 v16))))))) else (k7 s x3 x4)))) else some (x4, s)) else some (x4, s)) else some (x4, s))
noncomputable def f_X2_watchesMade_L22 (y1 : Int32) (y2 : Int32) : Nat → SS → Int32 → Int32 → Int32 → Option (Int32 × SS)
  | 0, _, _, _, _ => none
  | n + 1, s, x3, x4, x5 => f_X2_watchesMade_L22_b y1 y2 (f_X2_watchesMade_L22 y1 y2 n) s x3 x4 x5
set_option maxRecDepth 4000 in
theorem t_X2_watchesMade_L22 {r9 : Int32} {s0 sb s9 : SS} {y1 : Int32} {y2 : Int32} (mb : Mo s0 sb)  : ∀ (n : Nat) (s : SS) (h : List aE) (x3 : Int32) (x4 : Int32) (x5 : Int32), HH s h → Mo sb s → f_X2_watchesMade_L22 y1 y2 n s x3 x4 x5 = some (r9, s9) → AW mX2_watchesMade (rmD (1) 0 0) (fin (PI fun r' h' => r9 = r' ∧ HH s9 h' ∧ Mo s0 s9) 0 0) 22 [some (.ref 14), some (.int y1), some (.int y2), some (.int x3), some (.int x4), some (.int x5)] [] h 0 0 := by
  intro n
  induction n with
  | zero =>
    intro s h x3 x4 x5 H ms hf
    cases hf
  | succ n ih =>
    intro s h x3 x4 x5 H ms hf
    replace hf : f_X2_watchesMade_L22_b y1 y2 (f_X2_watchesMade_L22 y1 y2 n) s x3 x4 x5 = some (r9, s9) := hf
    unfold f_X2_watchesMade_L22_b at hf
    refine aw_iload (pc' := 24) dX2_watchesMade_22 rfl rfl ?_
    refine aw_bipush (v := 120) (pc' := 26) dX2_watchesMade_24 rfl bp_120 ?_
    refine aw_cge (tgt := 86) (pc' := 29) dX2_watchesMade_26 rfl rfl (fun c3 => ?_) (fun c3 => ?_)
    · replace hf := ifn c3 hf
      refine aw_iload (pc' := 88) dX2_watchesMade_86 rfl rfl ?_
      obtain ⟨rfl, rfl⟩ := so2 hf
      exact aw_ri dX2_watchesMade_88 rfl rfl (Nat.le_of_ble_eq_true rfl) (Nat.le_of_ble_eq_true rfl) ⟨rfl, H, (mb.tr ms)⟩
    · replace hf := ifp c3 hf
      refine aw_iload_n (pc' := 30) dX2_watchesMade_29 rfl rfl ?_
      refine aw_bipush (v := 9) (pc' := 32) dX2_watchesMade_30 rfl bp_9 ?_
      refine aw_cge (tgt := 86) (pc' := 35) dX2_watchesMade_32 rfl rfl (fun c4 => ?_) (fun c4 => ?_)
      · replace hf := ifn c4 hf
        refine aw_iload (pc' := 88) dX2_watchesMade_86 rfl rfl ?_
        obtain ⟨rfl, rfl⟩ := so2 hf
        exact aw_ri dX2_watchesMade_88 rfl rfl (Nat.le_of_ble_eq_true rfl) (Nat.le_of_ble_eq_true rfl) ⟨rfl, H, (mb.tr ms)⟩
      · replace hf := ifp c4 hf
        refine aw_iload (pc' := 37) dX2_watchesMade_35 rfl rfl ?_
        refine aw_iconst (v := 3) (pc' := 38) dX2_watchesMade_37 rfl ic_3 ?_
        refine aw_iload_n (pc' := 39) dX2_watchesMade_38 rfl rfl ?_
        refine aw_imul (pc' := 40) dX2_watchesMade_39 rfl ?_
        refine aw_cge (tgt := 86) (pc' := 43) dX2_watchesMade_40 rfl rfl (fun c5 => ?_) (fun c5 => ?_)
        · replace hf := ifn c5 hf
          refine aw_iload (pc' := 88) dX2_watchesMade_86 rfl rfl ?_
          obtain ⟨rfl, rfl⟩ := so2 hf
          exact aw_ri dX2_watchesMade_88 rfl rfl (Nat.le_of_ble_eq_true rfl) (Nat.le_of_ble_eq_true rfl) ⟨rfl, H, (mb.tr ms)⟩
        · replace hf := ifp c5 hf
          refine aw_aload_n (pc' := 44) dX2_watchesMade_43 rfl rfl rfl ?_
          refine aw_gr (q := 6) (e := 9) (v := .ref 18) (pc' := 47) H (H.fo rfl rfl) (by decide) rfl rfl dX2_watchesMade_44 rfl fl_RX2_21 ?_
          refine aw_iload (pc' := 49) dX2_watchesMade_47 rfl rfl ?_
          obtain ⟨g6, hf⟩ := gd_e hf
          refine aw_ia (q := 10) (pc' := 50) H (H.fa rfl rfl rfl) g6 dX2_watchesMade_49 rfl ?_
          refine aw_iconst (v := 1) (pc' := 51) dX2_watchesMade_50 rfl ic_1 ?_
          obtain ⟨k7, ek7, hf⟩ := jn_e hf
          have hk7 : ∀ (s7 : SS) (h7 : List aE) (j7_3 : Int32) (j7_4 : Int32), HH s7 h7 → Mo s s7 → k7 s7 j7_3 j7_4 = some (r9, s9) → AW mX2_watchesMade (rmD (1) 0 0) (fin (PI fun r' h' => r9 = r' ∧ HH s9 h' ∧ Mo s0 s9) 0 0) 80 [some (.ref 14), some (.int y1), some (.int y2), some (.int j7_3), some (.int j7_4), some (.int x5)] [] h7 0 0 := by
            intro s7 h7 j7_3 j7_4 H7 m7 hf
            subst ek7
            obtain ⟨v8, ev8, hf⟩ := vl_e hf
            refine aw_iincV (y := v8) (lv' := [_, _, _, _, _, _]) (pc' := 83) dX2_watchesMade_80 rfl rfl (Nat.le_of_ble_eq_true rfl) ev8 rfl ?_
            refine aw_goto (tgt := 22) dX2_watchesMade_83 rfl ?_
            exact ih _ _ _ _ _ H7 (ms.tr m7) hf
          clear ek7
          refine aw_icmp_ne (tgt := 80) (pc' := 54) dX2_watchesMade_51 rfl rfl (fun c10 => ?_) (fun c10 => ?_)
          · replace hf := ifn c10 hf
            exact hk7 _ _ _ _ H (Mo.rf _) hf
          · replace hf := ifp c10 hf
            obtain ⟨v11, ev11, hf⟩ := vl_e hf
            refine aw_iincV (y := v11) (lv' := [_, _, _, _, _, _]) (pc' := 57) dX2_watchesMade_54 rfl rfl (Nat.le_of_ble_eq_true rfl) ev11 rfl ?_
            refine aw_aload_n (pc' := 58) dX2_watchesMade_57 rfl rfl rfl ?_
            refine aw_gr (q := 6) (e := 7) (v := .ref 17) (pc' := 61) H (H.fo rfl rfl) (by decide) rfl rfl dX2_watchesMade_58 rfl fl_RX2_18 ?_
            refine aw_iload (pc' := 63) dX2_watchesMade_61 rfl rfl ?_
            obtain ⟨g12, hf⟩ := gd_e hf
            refine aw_ia (q := 9) (pc' := 64) H (H.fa rfl rfl rfl) g12 dX2_watchesMade_63 rfl ?_
            refine aw_iload_n (pc' := 65) dX2_watchesMade_64 rfl rfl ?_
            refine aw_cgt (tgt := 80) (pc' := 68) dX2_watchesMade_65 rfl rfl (fun c13 => ?_) (fun c13 => ?_)
            · replace hf := ifp c13 hf
              exact hk7 _ _ _ _ H (Mo.rf _) hf
            · replace hf := ifn c13 hf
              refine aw_aload_n (pc' := 69) dX2_watchesMade_68 rfl rfl rfl ?_
              refine aw_gr (q := 6) (e := 13) (v := .ref 20) (pc' := 72) H (H.fo rfl rfl) (by decide) rfl rfl dX2_watchesMade_69 rfl fl_RX2_27 ?_
              refine aw_iload (pc' := 74) dX2_watchesMade_72 rfl rfl ?_
              refine aw_iload (pc' := 76) dX2_watchesMade_74 rfl rfl ?_
              obtain ⟨g14, hf⟩ := gd_e hf
              obtain ⟨s15, es15, hf⟩ := st_e hf
              refine aw_is (q := 12) (pc' := 77) es15 H (H.fa rfl rfl rfl) g14 dX2_watchesMade_76 rfl (fun h15 H15 => ?_)
              have m15 := Mo.ofI es15
              obtain ⟨v16, ev16, hf⟩ := vl_e hf
              refine aw_iincV (y := v16) (lv' := [_, _, _, _, _, _]) (pc' := 80) dX2_watchesMade_77 rfl rfl (Nat.le_of_ble_eq_true rfl) ev16 rfl ?_
              exact hk7 _ _ _ _ H15 m15 hf
noncomputable def f_X2_watchesMade (s0 : SS) (a0 : Int32) (a1 : Int32) : Option (Int32 × SS) := (st (pS s0 6 7 a0) fun s1 => (st (pF s1 12 (-2)) fun s2 => (f_X2_watchesMade_L22 a0 a1 4000 s2 0 0 0)))
set_option maxRecDepth 4000 in
theorem t_X2_watchesMade {r9 : Int32} {s0 s9 : SS} {h0 : List aE} {a0 : Int32} {a1 : Int32} (H0 : HH s0 h0) (hf : f_X2_watchesMade s0 a0 a1 = some (r9, s9)) : AM mX2_watchesMade (1) [.ref 14, .int a0, .int a1] h0 0 0 (PI fun r' h' => r9 = r' ∧ HH s9 h' ∧ Mo s0 s9) := by
  unfold f_X2_watchesMade at hf
  refine am_of (lv := [some (.ref 14), some (.int a0), some (.int a1), none, none, none]) rfl (Nat.le_of_ble_eq_true rfl) rfl ?_
  refine aw_aload_n (pc' := 1) dX2_watchesMade_0 rfl rfl rfl ?_
  refine aw_iload_n (pc' := 2) dX2_watchesMade_1 rfl rfl ?_
  obtain ⟨s1, es1, hf⟩ := st_e hf
  refine aw_pi (q := 6) (pc' := 5) es1 H0 (H0.fo rfl rfl) (by decide) rfl dX2_watchesMade_2 rfl fl_RX2_54 rfl (fun h1 H1 => ?_)
  have m1 := Mo.ofS es1
  refine aw_aload_n (pc' := 6) dX2_watchesMade_5 rfl rfl rfl ?_
  refine aw_gr (q := 6) (e := 13) (v := .ref 20) (pc' := 9) H1 (H1.fo rfl rfl) (l13 rfl) rfl rfl dX2_watchesMade_6 rfl fl_RX2_27 ?_
  refine aw_bipush (v := (-2)) (pc' := 11) dX2_watchesMade_9 rfl bp_m2 ?_
  obtain ⟨s2, es2, hf⟩ := st_e hf
  refine aw_callSv (M' := mJ7_fill_53178) (nc' := 0) (ns' := 0) (pc' := 14) dX2_watchesMade_11 rfl ml_RX2_57 kJ7_fill_53178 (c_fill (-2) (H1.ai (H1.fa rfl rfl rfl) (by decide)) (by decide)) rfl rfl (Nat.le_of_ble_eq_true rfl) (rokD (by omega) (Nat.le_of_ble_eq_true rfl) (Nat.le_of_ble_eq_true rfl) (Nat.le_of_ble_eq_true rfl)) rfl rfl (fun h2 q2 => ?_)
  have H2 : HH s2 h2 := es2 ▸ (H1.putF (H1.fa rfl rfl rfl) (by decide) _ q2)
  have m2 := Mo.ofF es2
  refine aw_iconst (v := 0) (pc' := 15) dX2_watchesMade_14 rfl ic_0 ?_
  refine aw_istore_n (lv' := [_, _, _, _, _, _]) (pc' := 16) dX2_watchesMade_15 rfl (Nat.le_of_ble_eq_true rfl) rfl ?_
  refine aw_iconst (v := 0) (pc' := 17) dX2_watchesMade_16 rfl ic_0 ?_
  refine aw_istore (lv' := [_, _, _, _, _, _]) (pc' := 19) dX2_watchesMade_17 rfl (Nat.le_of_ble_eq_true rfl) rfl ?_
  refine aw_iconst (v := 0) (pc' := 20) dX2_watchesMade_19 rfl ic_0 ?_
  refine aw_istore (lv' := [_, _, _, _, _, _]) (pc' := 22) dX2_watchesMade_20 rfl (Nat.le_of_ble_eq_true rfl) rfl ?_
  refine t_X2_watchesMade_L22 (m1.tr m2)  4000 _ _ _ _ _ H2 (Mo.rf _) hf
/-! ThirtyThreeBelow$Crew.liftBegins -/
noncomputable def f_X2_liftBegins (s0 : SS) (a0 : Int32) (a1 : Int32) : Option SS := (st (pS s0 6 10 0) fun s1 => (st (pS s1 6 11 a0) fun s2 => (st (pS s2 6 12 a1) fun s3 => some s3)))
set_option maxRecDepth 4000 in
theorem t_X2_liftBegins {s0 s9 : SS} {h0 : List aE} {a0 : Int32} {a1 : Int32} (H0 : HH s0 h0) (hf : f_X2_liftBegins s0 a0 a1 = some s9) : AM mX2_liftBegins (0) [.ref 14, .int a0, .int a1] h0 0 0 (PV fun h' => HH s9 h' ∧ Mo s0 s9) := by
  unfold f_X2_liftBegins at hf
  refine am_of (lv := [some (.ref 14), some (.int a0), some (.int a1)]) rfl (Nat.le_of_ble_eq_true rfl) rfl ?_
  refine aw_aload_n (pc' := 1) dX2_liftBegins_0 rfl rfl rfl ?_
  refine aw_iconst (v := 0) (pc' := 2) dX2_liftBegins_1 rfl ic_0 ?_
  obtain ⟨s1, es1, hf⟩ := st_e hf
  refine aw_pi (q := 6) (pc' := 5) es1 H0 (H0.fo rfl rfl) (by decide) rfl dX2_liftBegins_2 rfl fl_RX2_63 rfl (fun h1 H1 => ?_)
  have m1 := Mo.ofS es1
  refine aw_aload_n (pc' := 6) dX2_liftBegins_5 rfl rfl rfl ?_
  refine aw_iload_n (pc' := 7) dX2_liftBegins_6 rfl rfl ?_
  obtain ⟨s2, es2, hf⟩ := st_e hf
  refine aw_pi (q := 6) (pc' := 10) es2 H1 (H1.fo rfl rfl) (by decide) rfl dX2_liftBegins_7 rfl fl_RX2_66 rfl (fun h2 H2 => ?_)
  have m2 := Mo.ofS es2
  refine aw_aload_n (pc' := 11) dX2_liftBegins_10 rfl rfl rfl ?_
  refine aw_iload_n (pc' := 12) dX2_liftBegins_11 rfl rfl ?_
  obtain ⟨s3, es3, hf⟩ := st_e hf
  refine aw_pi (q := 6) (pc' := 15) es3 H2 (H2.fo rfl rfl) (by decide) rfl dX2_liftBegins_12 rfl fl_RX2_69 rfl (fun h3 H3 => ?_)
  have m3 := Mo.ofS es3
  obtain rfl := Option.some.inj hf
  exact aw_rv dX2_liftBegins_15 rfl (Nat.le_of_ble_eq_true rfl) (Nat.le_of_ble_eq_true rfl) ⟨H3, ((m1.tr m2).tr m3)⟩
/-! ThirtyThreeBelow$Crew.liftTakes -/
noncomputable def f_X2_liftTakes_L15_b (q0 : SS → Int32 → Option SS) (y1 : Int32) (y2 : Int32) (rc : SS → Int32 → Option SS) (s : SS) (x3 : Int32) : Option SS := (if (0 : Int32) < x3 then (vl ((x3 - (1 : Int32))) fun v4 => (gd (inB v4 120) (if (zI s 14 (v4.toInt.toNat)) < y2 then (vl ((x3 - (1 : Int32))) fun v7 => (gd (inB v7 120) (vl ((zI s 13 (v7.toInt.toNat))) fun v10 => (gd (inB x3 120) (st (pI s 13 (x3.toInt.toNat) v10) fun s12 => (vl ((x3 - (1 : Int32))) fun v13 => (gd (inB v13 120) (vl ((zI s12 14 (v13.toInt.toNat))) fun v15 => (gd (inB x3 120) (st (pI s12 14 (x3.toInt.toNat) v15) fun s17 => (vl (x3 + (-1)) fun v18 => (rc s17 v18)))))))))))) else (q0 s x3)))) else (q0 s x3))
noncomputable def f_X2_liftTakes_L15 (q0 : SS → Int32 → Option SS) (y1 : Int32) (y2 : Int32) : Nat → SS → Int32 → Option SS
  | 0, _, _ => none
  | n + 1, s, x3 => f_X2_liftTakes_L15_b q0 y1 y2 (f_X2_liftTakes_L15 q0 y1 y2 n) s x3
set_option maxRecDepth 4000 in
theorem t_X2_liftTakes_L15 {s0 sb s9 : SS} {q0 : SS → Int32 → Option SS} {y1 : Int32} {y2 : Int32} (mb : Mo s0 sb) (hq0 : ∀ (s : SS) (h : List aE) (x3 : Int32), HH s h → Mo sb s → q0 s x3 = some s9 → AW mX2_liftTakes (rmD (0) 0 0) (fin (PV fun h' => HH s9 h' ∧ Mo s0 s9) 0 0) 65 [some (.ref 14), some (.int y1), some (.int y2), some (.int x3)] [] h 0 0) : ∀ (n : Nat) (s : SS) (h : List aE) (x3 : Int32), HH s h → Mo sb s → f_X2_liftTakes_L15 q0 y1 y2 n s x3 = some s9 → AW mX2_liftTakes (rmD (0) 0 0) (fin (PV fun h' => HH s9 h' ∧ Mo s0 s9) 0 0) 15 [some (.ref 14), some (.int y1), some (.int y2), some (.int x3)] [] h 0 0 := by
  intro n
  induction n with
  | zero =>
    intro s h x3 H ms hf
    cases hf
  | succ n ih =>
    intro s h x3 H ms hf
    replace hf : f_X2_liftTakes_L15_b q0 y1 y2 (f_X2_liftTakes_L15 q0 y1 y2 n) s x3 = some s9 := hf
    unfold f_X2_liftTakes_L15_b at hf
    refine aw_iload_n (pc' := 16) dX2_liftTakes_15 rfl rfl ?_
    refine aw_zle (tgt := 65) (pc' := 19) dX2_liftTakes_16 rfl rfl (fun c3 => ?_) (fun c3 => ?_)
    · replace hf := ifn c3 hf
      exact hq0 _ _ _ H ms hf
    · replace hf := ifp c3 hf
      refine aw_aload_n (pc' := 20) dX2_liftTakes_19 rfl rfl rfl ?_
      refine aw_gr (q := 6) (e := 17) (v := .ref 22) (pc' := 23) H (H.fo rfl rfl) (by decide) rfl rfl dX2_liftTakes_20 rfl fl_RX2_33 ?_
      refine aw_iload_n (pc' := 24) dX2_liftTakes_23 rfl rfl ?_
      refine aw_iconst (v := 1) (pc' := 25) dX2_liftTakes_24 rfl ic_1 ?_
      refine aw_isub (pc' := 26) dX2_liftTakes_25 rfl ?_
      obtain ⟨v4, ev4, hf⟩ := vl_e hf
      refine aw_topi ev4 ?_
      obtain ⟨g5, hf⟩ := gd_e hf
      refine aw_ia (q := 14) (pc' := 27) H (H.fa rfl rfl rfl) g5 dX2_liftTakes_26 rfl ?_
      refine aw_iload_n (pc' := 28) dX2_liftTakes_27 rfl rfl ?_
      refine aw_cge (tgt := 65) (pc' := 31) dX2_liftTakes_28 rfl rfl (fun c6 => ?_) (fun c6 => ?_)
      · replace hf := ifn c6 hf
        exact hq0 _ _ _ H ms hf
      · replace hf := ifp c6 hf
        refine aw_aload_n (pc' := 32) dX2_liftTakes_31 rfl rfl rfl ?_
        refine aw_gr (q := 6) (e := 15) (v := .ref 21) (pc' := 35) H (H.fo rfl rfl) (by decide) rfl rfl dX2_liftTakes_32 rfl fl_RX2_30 ?_
        refine aw_iload_n (pc' := 36) dX2_liftTakes_35 rfl rfl ?_
        refine aw_aload_n (pc' := 37) dX2_liftTakes_36 rfl rfl rfl ?_
        refine aw_gr (q := 6) (e := 15) (v := .ref 21) (pc' := 40) H (H.fo rfl rfl) (by decide) rfl rfl dX2_liftTakes_37 rfl fl_RX2_30 ?_
        refine aw_iload_n (pc' := 41) dX2_liftTakes_40 rfl rfl ?_
        refine aw_iconst (v := 1) (pc' := 42) dX2_liftTakes_41 rfl ic_1 ?_
        refine aw_isub (pc' := 43) dX2_liftTakes_42 rfl ?_
        obtain ⟨v7, ev7, hf⟩ := vl_e hf
        refine aw_topi ev7 ?_
        obtain ⟨g8, hf⟩ := gd_e hf
        refine aw_ia (q := 13) (pc' := 44) H (H.fa rfl rfl rfl) g8 dX2_liftTakes_43 rfl ?_
        obtain ⟨v10, ev10, hf⟩ := vl_e hf
        refine aw_topi ev10 ?_
        obtain ⟨g11, hf⟩ := gd_e hf
        obtain ⟨s12, es12, hf⟩ := st_e hf
        refine aw_is (q := 13) (pc' := 45) es12 H (H.fa rfl rfl rfl) g11 dX2_liftTakes_44 rfl (fun h12 H12 => ?_)
        have m12 := Mo.ofI es12
        refine aw_aload_n (pc' := 46) dX2_liftTakes_45 rfl rfl rfl ?_
        refine aw_gr (q := 6) (e := 17) (v := .ref 22) (pc' := 49) H12 (H12.fo rfl rfl) (l13 rfl) rfl rfl dX2_liftTakes_46 rfl fl_RX2_33 ?_
        refine aw_iload_n (pc' := 50) dX2_liftTakes_49 rfl rfl ?_
        refine aw_aload_n (pc' := 51) dX2_liftTakes_50 rfl rfl rfl ?_
        refine aw_gr (q := 6) (e := 17) (v := .ref 22) (pc' := 54) H12 (H12.fo rfl rfl) (l13 rfl) rfl rfl dX2_liftTakes_51 rfl fl_RX2_33 ?_
        refine aw_iload_n (pc' := 55) dX2_liftTakes_54 rfl rfl ?_
        refine aw_iconst (v := 1) (pc' := 56) dX2_liftTakes_55 rfl ic_1 ?_
        refine aw_isub (pc' := 57) dX2_liftTakes_56 rfl ?_
        obtain ⟨v13, ev13, hf⟩ := vl_e hf
        refine aw_topi ev13 ?_
        obtain ⟨g14, hf⟩ := gd_e hf
        refine aw_ia (q := 14) (pc' := 58) H12 (H12.fa rfl rfl rfl) g14 dX2_liftTakes_57 rfl ?_
        obtain ⟨v15, ev15, hf⟩ := vl_e hf
        refine aw_topi ev15 ?_
        obtain ⟨g16, hf⟩ := gd_e hf
        obtain ⟨s17, es17, hf⟩ := st_e hf
        refine aw_is (q := 14) (pc' := 59) es17 H12 (H12.fa rfl rfl rfl) g16 dX2_liftTakes_58 rfl (fun h17 H17 => ?_)
        have m17 := Mo.ofI es17
        obtain ⟨v18, ev18, hf⟩ := vl_e hf
        refine aw_iincV (y := v18) (lv' := [_, _, _, _]) (pc' := 62) dX2_liftTakes_59 rfl rfl (Nat.le_of_ble_eq_true rfl) ev18 rfl ?_
        refine aw_goto (tgt := 15) dX2_liftTakes_62 rfl ?_
        exact ih _ _ _ H17 ((ms.tr m12).tr m17) hf
noncomputable def f_X2_liftTakes (s0 : SS) (a0 : Int32) (a1 : Int32) : Option SS := (if (zS s0 6 10) < (120 : Int32) then (vl ((zS s0 6 10)) fun v2 => (f_X2_liftTakes_L15 (fun (s19 : SS) (x19_3 : Int32) => (gd (inB x19_3 120) (st (pI s19 13 (x19_3.toInt.toNat) a0) fun s21 => (gd (inB x19_3 120) (st (pI s21 14 (x19_3.toInt.toNat) a1) fun s23 => (vl (((zS s23 6 10) + (1 : Int32))) fun v24 => (st (pS s23 6 10 v24) fun s25 => some s25))))))) a0 a1 4000 s0 v2)) else some s0)
set_option maxRecDepth 4000 in
theorem t_X2_liftTakes {s0 s9 : SS} {h0 : List aE} {a0 : Int32} {a1 : Int32} (H0 : HH s0 h0) (hf : f_X2_liftTakes s0 a0 a1 = some s9) : AM mX2_liftTakes (0) [.ref 14, .int a0, .int a1] h0 0 0 (PV fun h' => HH s9 h' ∧ Mo s0 s9) := by
  unfold f_X2_liftTakes at hf
  refine am_of (lv := [some (.ref 14), some (.int a0), some (.int a1), none]) rfl (Nat.le_of_ble_eq_true rfl) rfl ?_
  refine aw_aload_n (pc' := 1) dX2_liftTakes_0 rfl rfl rfl ?_
  refine aw_gi (q := 6) (pc' := 4) H0 (H0.fo rfl rfl) (l13 rfl) rfl dX2_liftTakes_1 rfl fl_RX2_63 ?_
  refine aw_bipush (v := 120) (pc' := 6) dX2_liftTakes_4 rfl bp_120 ?_
  refine aw_clt (tgt := 10) (pc' := 9) dX2_liftTakes_6 rfl rfl (fun c1 => ?_) (fun c1 => ?_)
  · replace hf := ifp c1 hf
    refine aw_aload_n (pc' := 11) dX2_liftTakes_10 rfl rfl rfl ?_
    refine aw_gi (q := 6) (pc' := 14) H0 (H0.fo rfl rfl) (l13 rfl) rfl dX2_liftTakes_11 rfl fl_RX2_63 ?_
    obtain ⟨v2, ev2, hf⟩ := vl_e hf
    refine aw_topi ev2 ?_
    refine aw_istore_n (lv' := [_, _, _, _]) (pc' := 15) dX2_liftTakes_14 rfl (Nat.le_of_ble_eq_true rfl) rfl ?_
    refine t_X2_liftTakes_L15 (Mo.rf _) (fun s19 h19 x19_3 H19 m19 hf => ?_) 4000 _ _ _ H0 (Mo.rf _) hf
    refine aw_aload_n (pc' := 66) dX2_liftTakes_65 rfl rfl rfl ?_
    refine aw_gr (q := 6) (e := 15) (v := .ref 21) (pc' := 69) H19 (H19.fo rfl rfl) (l13 rfl) rfl rfl dX2_liftTakes_66 rfl fl_RX2_30 ?_
    refine aw_iload_n (pc' := 70) dX2_liftTakes_69 rfl rfl ?_
    refine aw_iload_n (pc' := 71) dX2_liftTakes_70 rfl rfl ?_
    obtain ⟨g20, hf⟩ := gd_e hf
    obtain ⟨s21, es21, hf⟩ := st_e hf
    refine aw_is (q := 13) (pc' := 72) es21 H19 (H19.fa rfl rfl rfl) g20 dX2_liftTakes_71 rfl (fun h21 H21 => ?_)
    have m21 := Mo.ofI es21
    refine aw_aload_n (pc' := 73) dX2_liftTakes_72 rfl rfl rfl ?_
    refine aw_gr (q := 6) (e := 17) (v := .ref 22) (pc' := 76) H21 (H21.fo rfl rfl) (l13 rfl) rfl rfl dX2_liftTakes_73 rfl fl_RX2_33 ?_
    refine aw_iload_n (pc' := 77) dX2_liftTakes_76 rfl rfl ?_
    refine aw_iload_n (pc' := 78) dX2_liftTakes_77 rfl rfl ?_
    obtain ⟨g22, hf⟩ := gd_e hf
    obtain ⟨s23, es23, hf⟩ := st_e hf
    refine aw_is (q := 14) (pc' := 79) es23 H21 (H21.fa rfl rfl rfl) g22 dX2_liftTakes_78 rfl (fun h23 H23 => ?_)
    have m23 := Mo.ofI es23
    refine aw_aload_n (pc' := 80) dX2_liftTakes_79 rfl rfl rfl ?_
    refine aw_dup (pc' := 81) dX2_liftTakes_80 rfl rfl ?_
    refine aw_gi (q := 6) (pc' := 84) H23 (H23.fo rfl rfl) (l13 rfl) rfl dX2_liftTakes_81 rfl fl_RX2_63 ?_
    refine aw_iconst (v := 1) (pc' := 85) dX2_liftTakes_84 rfl ic_1 ?_
    refine aw_iadd (pc' := 86) dX2_liftTakes_85 rfl ?_
    obtain ⟨v24, ev24, hf⟩ := vl_e hf
    refine aw_topi ev24 ?_
    obtain ⟨s25, es25, hf⟩ := st_e hf
    refine aw_pi (q := 6) (pc' := 89) es25 H23 (H23.fo rfl rfl) (by decide) rfl dX2_liftTakes_86 rfl fl_RX2_63 rfl (fun h25 H25 => ?_)
    have m25 := Mo.ofS es25
    obtain rfl := Option.some.inj hf
    exact aw_rv dX2_liftTakes_89 rfl (Nat.le_of_ble_eq_true rfl) (Nat.le_of_ble_eq_true rfl) ⟨H25, (((m19.tr m21).tr m23).tr m25)⟩
  · replace hf := ifn c1 hf
    obtain rfl := Option.some.inj hf
    exact aw_rv dX2_liftTakes_9 rfl (Nat.le_of_ble_eq_true rfl) (Nat.le_of_ble_eq_true rfl) ⟨H0, (Mo.rf _)⟩
/-! ThirtyThreeBelow$Crew.upAt -/
noncomputable def f_X2_upAt (s0 : SS) (a0 : Int32) : Option Int32 := some ((zS s0 6 11) + ((a0 + (1 : Int32)) * (zS s0 6 12)))
set_option maxRecDepth 4000 in
theorem t_X2_upAt {r9 : Int32} {s0 : SS} {h0 : List aE} {a0 : Int32} (H0 : HH s0 h0) (hf : f_X2_upAt s0 a0 = some r9) : AM mX2_upAt (0) [.ref 14, .int a0] h0 0 0 (PI fun r' h' => r9 = r' ∧ h0 = h') := by
  unfold f_X2_upAt at hf
  refine am_of (lv := [some (.ref 14), some (.int a0)]) rfl (Nat.le_of_ble_eq_true rfl) rfl ?_
  refine aw_aload_n (pc' := 1) dX2_upAt_0 rfl rfl rfl ?_
  refine aw_gi (q := 6) (pc' := 4) H0 (H0.fo rfl rfl) (l13 rfl) rfl dX2_upAt_1 rfl fl_RX2_66 ?_
  refine aw_iload_n (pc' := 5) dX2_upAt_4 rfl rfl ?_
  refine aw_iconst (v := 1) (pc' := 6) dX2_upAt_5 rfl ic_1 ?_
  refine aw_iadd (pc' := 7) dX2_upAt_6 rfl ?_
  refine aw_aload_n (pc' := 8) dX2_upAt_7 rfl rfl rfl ?_
  refine aw_gi (q := 6) (pc' := 11) H0 (H0.fo rfl rfl) (l13 rfl) rfl dX2_upAt_8 rfl fl_RX2_69 ?_
  refine aw_imul (pc' := 12) dX2_upAt_11 rfl ?_
  refine aw_iadd (pc' := 13) dX2_upAt_12 rfl ?_
  obtain rfl := Option.some.inj hf
  exact aw_ri dX2_upAt_13 rfl rfl (Nat.le_of_ble_eq_true rfl) (Nat.le_of_ble_eq_true rfl) ⟨rfl, rfl⟩
/-! ThirtyThreeBelow$Crew.raisedWithin -/
noncomputable def f_X2_raisedWithin_L4_b (y1 : Int32) (rc : SS → Int32 → Int32 → Option (Int32 × SS)) (s : SS) (x2 : Int32) (x3 : Int32) : Option (Int32 × SS) := (if x3 < (zS s 6 10) then (if y1 < ((x3 + (1 : Int32)) * (zS s 6 12)) then some (x2, s) else (gd (inB x3 120) (vl ((zI s 13 (x3.toInt.toNat))) fun v4 => (jn (fun (s5 : SS) (j5_2 : Int32) => (vl (x3 + 1) fun v6 => (rc s5 j5_2 v6))) fun k5 => (if v4 < (0 : Int32) then (k5 s x2) else (if v4 < (120 : Int32) then (gd (inB v4 120) (if (zI s 10 (v4.toInt.toNat)) = (1 : Int32) then (gd (inB v4 120) (st (pI s 10 (v4.toInt.toNat) 0) fun s13 => (vl (((zS s13 6 4) - (1 : Int32))) fun v14 => (st (pS s13 6 4 v14) fun s15 => (vl (x2 + 1) fun v16 => (k5 s15 v16)))))) else (k5 s x2))) else (k5 s x2))))))) else some (x2, s))
noncomputable def f_X2_raisedWithin_L4 (y1 : Int32) : Nat → SS → Int32 → Int32 → Option (Int32 × SS)
  | 0, _, _, _ => none
  | n + 1, s, x2, x3 => f_X2_raisedWithin_L4_b y1 (f_X2_raisedWithin_L4 y1 n) s x2 x3
set_option maxRecDepth 4000 in
theorem t_X2_raisedWithin_L4 {r9 : Int32} {s0 sb s9 : SS} {y1 : Int32} (mb : Mo s0 sb)  : ∀ (n : Nat) (s : SS) (h : List aE) (x2 : Int32) (x3 : Int32), HH s h → Mo sb s → f_X2_raisedWithin_L4 y1 n s x2 x3 = some (r9, s9) → AW mX2_raisedWithin (rmD (0) 0 0) (fin (PI fun r' h' => r9 = r' ∧ HH s9 h' ∧ Mo s0 s9) 0 0) 4 [some (.ref 14), some (.int y1), some (.int x2), some (.int x3), none] [] h 0 0 := by
  intro n
  induction n with
  | zero =>
    intro s h x2 x3 H ms hf
    cases hf
  | succ n ih =>
    intro s h x2 x3 H ms hf
    replace hf : f_X2_raisedWithin_L4_b y1 (f_X2_raisedWithin_L4 y1 n) s x2 x3 = some (r9, s9) := hf
    unfold f_X2_raisedWithin_L4_b at hf
    refine aw_iload_n (pc' := 5) dX2_raisedWithin_4 rfl rfl ?_
    refine aw_aload_n (pc' := 6) dX2_raisedWithin_5 rfl rfl rfl ?_
    refine aw_gi (q := 6) (pc' := 9) H (H.fo rfl rfl) (by decide) rfl dX2_raisedWithin_6 rfl fl_RX2_63 ?_
    refine aw_cge (tgt := 82) (pc' := 12) dX2_raisedWithin_9 rfl rfl (fun c1 => ?_) (fun c1 => ?_)
    · replace hf := ifn c1 hf
      refine aw_iload_n (pc' := 83) dX2_raisedWithin_82 rfl rfl ?_
      obtain ⟨rfl, rfl⟩ := so2 hf
      exact aw_ri dX2_raisedWithin_83 rfl rfl (Nat.le_of_ble_eq_true rfl) (Nat.le_of_ble_eq_true rfl) ⟨rfl, H, (mb.tr ms)⟩
    · replace hf := ifp c1 hf
      refine aw_iload_n (pc' := 13) dX2_raisedWithin_12 rfl rfl ?_
      refine aw_iconst (v := 1) (pc' := 14) dX2_raisedWithin_13 rfl ic_1 ?_
      refine aw_iadd (pc' := 15) dX2_raisedWithin_14 rfl ?_
      refine aw_aload_n (pc' := 16) dX2_raisedWithin_15 rfl rfl rfl ?_
      refine aw_gi (q := 6) (pc' := 19) H (H.fo rfl rfl) (by decide) rfl dX2_raisedWithin_16 rfl fl_RX2_69 ?_
      refine aw_imul (pc' := 20) dX2_raisedWithin_19 rfl ?_
      refine aw_iload_n (pc' := 21) dX2_raisedWithin_20 rfl rfl ?_
      refine aw_cgt (tgt := 82) (pc' := 24) dX2_raisedWithin_21 rfl rfl (fun c2 => ?_) (fun c2 => ?_)
      · replace hf := ifp c2 hf
        refine aw_iload_n (pc' := 83) dX2_raisedWithin_82 rfl rfl ?_
        obtain ⟨rfl, rfl⟩ := so2 hf
        exact aw_ri dX2_raisedWithin_83 rfl rfl (Nat.le_of_ble_eq_true rfl) (Nat.le_of_ble_eq_true rfl) ⟨rfl, H, (mb.tr ms)⟩
      · replace hf := ifn c2 hf
        refine aw_aload_n (pc' := 25) dX2_raisedWithin_24 rfl rfl rfl ?_
        refine aw_gr (q := 6) (e := 15) (v := .ref 21) (pc' := 28) H (H.fo rfl rfl) (by decide) rfl rfl dX2_raisedWithin_25 rfl fl_RX2_30 ?_
        refine aw_iload_n (pc' := 29) dX2_raisedWithin_28 rfl rfl ?_
        obtain ⟨g3, hf⟩ := gd_e hf
        refine aw_ia (q := 13) (pc' := 30) H (H.fa rfl rfl rfl) g3 dX2_raisedWithin_29 rfl ?_
        obtain ⟨v4, ev4, hf⟩ := vl_e hf
        refine aw_topi ev4 ?_
        refine aw_istore (lv' := [_, _, _, _, _]) (pc' := 32) dX2_raisedWithin_30 rfl (Nat.le_of_ble_eq_true rfl) rfl ?_
        refine aw_iload (pc' := 34) dX2_raisedWithin_32 rfl rfl ?_
        obtain ⟨k5, ek5, hf⟩ := jn_e hf
        have hk5 : ∀ (s5 : SS) (h5 : List aE) (j5_2 : Int32), HH s5 h5 → Mo s s5 → k5 s5 j5_2 = some (r9, s9) → AW mX2_raisedWithin (rmD (0) 0 0) (fin (PI fun r' h' => r9 = r' ∧ HH s9 h' ∧ Mo s0 s9) 0 0) 76 [some (.ref 14), some (.int y1), some (.int j5_2), some (.int x3), none] [] h5 0 0 := by
          intro s5 h5 j5_2 H5 m5 hf
          subst ek5
          obtain ⟨v6, ev6, hf⟩ := vl_e hf
          refine aw_iincV (y := v6) (lv' := [_, _, _, _, _]) (pc' := 79) dX2_raisedWithin_76 rfl rfl (Nat.le_of_ble_eq_true rfl) ev6 rfl ?_
          refine aw_goto (tgt := 4) dX2_raisedWithin_79 rfl ?_
          exact ih _ _ _ _ H5 (ms.tr m5) hf
        clear ek5
        refine aw_zlt (tgt := 76) (pc' := 37) dX2_raisedWithin_34 rfl rfl (fun c7 => ?_) (fun c7 => ?_)
        · replace hf := ifp c7 hf
          refine AW.lv_le (lz_k (lz_k (lz_k (lz_k (lz_d lz_0))))) ?_
          exact hk5 _ _ _ H (Mo.rf _) hf
        · replace hf := ifn c7 hf
          refine aw_iload (pc' := 39) dX2_raisedWithin_37 rfl rfl ?_
          refine aw_bipush (v := 120) (pc' := 41) dX2_raisedWithin_39 rfl bp_120 ?_
          refine aw_cge (tgt := 76) (pc' := 44) dX2_raisedWithin_41 rfl rfl (fun c8 => ?_) (fun c8 => ?_)
          · replace hf := ifn c8 hf
            refine AW.lv_le (lz_k (lz_k (lz_k (lz_k (lz_d lz_0))))) ?_
            exact hk5 _ _ _ H (Mo.rf _) hf
          · replace hf := ifp c8 hf
            refine aw_aload_n (pc' := 45) dX2_raisedWithin_44 rfl rfl rfl ?_
            refine aw_gr (q := 6) (e := 9) (v := .ref 18) (pc' := 48) H (H.fo rfl rfl) (by decide) rfl rfl dX2_raisedWithin_45 rfl fl_RX2_21 ?_
            refine aw_iload (pc' := 50) dX2_raisedWithin_48 rfl rfl ?_
            obtain ⟨g10, hf⟩ := gd_e hf
            refine aw_ia (q := 10) (pc' := 51) H (H.fa rfl rfl rfl) g10 dX2_raisedWithin_50 rfl ?_
            refine aw_iconst (v := 1) (pc' := 52) dX2_raisedWithin_51 rfl ic_1 ?_
            refine aw_icmp_ne (tgt := 76) (pc' := 55) dX2_raisedWithin_52 rfl rfl (fun c11 => ?_) (fun c11 => ?_)
            · replace hf := ifn c11 hf
              refine AW.lv_le (lz_k (lz_k (lz_k (lz_k (lz_d lz_0))))) ?_
              exact hk5 _ _ _ H (Mo.rf _) hf
            · replace hf := ifp c11 hf
              refine aw_aload_n (pc' := 56) dX2_raisedWithin_55 rfl rfl rfl ?_
              refine aw_gr (q := 6) (e := 9) (v := .ref 18) (pc' := 59) H (H.fo rfl rfl) (by decide) rfl rfl dX2_raisedWithin_56 rfl fl_RX2_21 ?_
              refine aw_iload (pc' := 61) dX2_raisedWithin_59 rfl rfl ?_
              refine aw_iconst (v := 0) (pc' := 62) dX2_raisedWithin_61 rfl ic_0 ?_
              obtain ⟨g12, hf⟩ := gd_e hf
              obtain ⟨s13, es13, hf⟩ := st_e hf
              refine aw_is (q := 10) (pc' := 63) es13 H (H.fa rfl rfl rfl) g12 dX2_raisedWithin_62 rfl (fun h13 H13 => ?_)
              have m13 := Mo.ofI es13
              refine aw_aload_n (pc' := 64) dX2_raisedWithin_63 rfl rfl rfl ?_
              refine aw_dup (pc' := 65) dX2_raisedWithin_64 rfl rfl ?_
              refine aw_gi (q := 6) (pc' := 68) H13 (H13.fo rfl rfl) (l13 rfl) rfl dX2_raisedWithin_65 rfl fl_RX2_36 ?_
              refine aw_iconst (v := 1) (pc' := 69) dX2_raisedWithin_68 rfl ic_1 ?_
              refine aw_isub (pc' := 70) dX2_raisedWithin_69 rfl ?_
              obtain ⟨v14, ev14, hf⟩ := vl_e hf
              refine aw_topi ev14 ?_
              obtain ⟨s15, es15, hf⟩ := st_e hf
              refine aw_pi (q := 6) (pc' := 73) es15 H13 (H13.fo rfl rfl) (by decide) rfl dX2_raisedWithin_70 rfl fl_RX2_36 rfl (fun h15 H15 => ?_)
              have m15 := Mo.ofS es15
              obtain ⟨v16, ev16, hf⟩ := vl_e hf
              refine aw_iincV (y := v16) (lv' := [_, _, _, _, _]) (pc' := 76) dX2_raisedWithin_73 rfl rfl (Nat.le_of_ble_eq_true rfl) ev16 rfl ?_
              refine AW.lv_le (lz_k (lz_k (lz_k (lz_k (lz_d lz_0))))) ?_
              exact hk5 _ _ _ H15 (m13.tr m15) hf
noncomputable def f_X2_raisedWithin (s0 : SS) (a0 : Int32) : Option (Int32 × SS) := (f_X2_raisedWithin_L4 a0 4000 s0 0 0)
set_option maxRecDepth 4000 in
theorem t_X2_raisedWithin {r9 : Int32} {s0 s9 : SS} {h0 : List aE} {a0 : Int32} (H0 : HH s0 h0) (hf : f_X2_raisedWithin s0 a0 = some (r9, s9)) : AM mX2_raisedWithin (0) [.ref 14, .int a0] h0 0 0 (PI fun r' h' => r9 = r' ∧ HH s9 h' ∧ Mo s0 s9) := by
  unfold f_X2_raisedWithin at hf
  refine am_of (lv := [some (.ref 14), some (.int a0), none, none, none]) rfl (Nat.le_of_ble_eq_true rfl) rfl ?_
  refine aw_iconst (v := 0) (pc' := 1) dX2_raisedWithin_0 rfl ic_0 ?_
  refine aw_istore_n (lv' := [_, _, _, _, _]) (pc' := 2) dX2_raisedWithin_1 rfl (Nat.le_of_ble_eq_true rfl) rfl ?_
  refine aw_iconst (v := 0) (pc' := 3) dX2_raisedWithin_2 rfl ic_0 ?_
  refine aw_istore_n (lv' := [_, _, _, _, _]) (pc' := 4) dX2_raisedWithin_3 rfl (Nat.le_of_ble_eq_true rfl) rfl ?_
  refine t_X2_raisedWithin_L4 (Mo.rf _)  4000 _ _ _ _ H0 (Mo.rf _) hf
/-! ThirtyThreeBelow$Hole.told -/
noncomputable def f_X3_told (s0 : SS) (pt : Nat) (a0 : Int32) : Option Int32 := (if a0 = 1 then some (zS s0 pt 0) else (if a0 = 2 then some (zS s0 pt 1) else (if a0 = 3 then some (zS s0 pt 4) else (if a0 = 4 then some (zS s0 pt 2) else (if a0 = 5 then (if (zS s0 pt 6) = (0 : Int32) then some 0 else some 1) else (if a0 = 6 then some (zS s0 pt 5) else (if a0 = 7 then some (zS s0 pt 3) else some (-2000000000))))))))
set_option maxRecDepth 4000 in
theorem t_X3_told {r9 : Int32} {s0 : SS} {h0 : List aE} {pt : Nat} {a0 : Int32} (H0 : HH s0 h0) (o_pt : okH s0 pt) (hf : f_X3_told s0 pt a0 = some r9) : AM mX3_told (0) [.ref (pt + 8), .int a0] h0 0 0 (PI fun r' h' => r9 = r' ∧ h0 = h') := by
  unfold f_X3_told at hf
  refine am_of (lv := [some (.ref (pt + 8)), some (.int a0)]) rfl (Nat.le_of_ble_eq_true rfl) rfl ?_
  refine aw_iload_n (pc' := 1) dX3_told_0 rfl rfl ?_
  rcases Decidable.em (a0 = 1) with c1 | c1
  · replace hf := ifp c1 hf
    refine aw_tabIn (tgt := 44) (off := 43) dX3_told_1 (by rw [c1]; decide) (by rw [c1]; decide) (by rw [c1]; decide) (by decide) ?_
    refine aw_aload_n (pc' := 45) dX3_told_44 rfl rfl rfl ?_
    refine aw_gi (q := pt) (pc' := 48) H0 (okH.ob o_pt) (by decide) rfl dX3_told_45 rfl fl_RX3_21 ?_
    obtain rfl := Option.some.inj hf
    exact aw_ri dX3_told_48 rfl rfl (Nat.le_of_ble_eq_true rfl) (Nat.le_of_ble_eq_true rfl) ⟨rfl, rfl⟩
  replace hf := ifn c1 hf
  rcases Decidable.em (a0 = 2) with c2 | c2
  · replace hf := ifp c2 hf
    refine aw_tabIn (tgt := 49) (off := 48) dX3_told_1 (by rw [c2]; decide) (by rw [c2]; decide) (by rw [c2]; decide) (by decide) ?_
    refine aw_aload_n (pc' := 50) dX3_told_49 rfl rfl rfl ?_
    refine aw_gi (q := pt) (pc' := 53) H0 (okH.ob o_pt) (by decide) rfl dX3_told_50 rfl fl_RX3_25 ?_
    obtain rfl := Option.some.inj hf
    exact aw_ri dX3_told_53 rfl rfl (Nat.le_of_ble_eq_true rfl) (Nat.le_of_ble_eq_true rfl) ⟨rfl, rfl⟩
  replace hf := ifn c2 hf
  rcases Decidable.em (a0 = 3) with c3 | c3
  · replace hf := ifp c3 hf
    refine aw_tabIn (tgt := 54) (off := 53) dX3_told_1 (by rw [c3]; decide) (by rw [c3]; decide) (by rw [c3]; decide) (by decide) ?_
    refine aw_aload_n (pc' := 55) dX3_told_54 rfl rfl rfl ?_
    refine aw_gi (q := pt) (pc' := 58) H0 (okH.ob o_pt) (by decide) rfl dX3_told_55 rfl fl_RX3_38 ?_
    obtain rfl := Option.some.inj hf
    exact aw_ri dX3_told_58 rfl rfl (Nat.le_of_ble_eq_true rfl) (Nat.le_of_ble_eq_true rfl) ⟨rfl, rfl⟩
  replace hf := ifn c3 hf
  rcases Decidable.em (a0 = 4) with c4 | c4
  · replace hf := ifp c4 hf
    refine aw_tabIn (tgt := 59) (off := 58) dX3_told_1 (by rw [c4]; decide) (by rw [c4]; decide) (by rw [c4]; decide) (by decide) ?_
    refine aw_aload_n (pc' := 60) dX3_told_59 rfl rfl rfl ?_
    refine aw_gi (q := pt) (pc' := 63) H0 (okH.ob o_pt) (by decide) rfl dX3_told_60 rfl fl_RX3_28 ?_
    obtain rfl := Option.some.inj hf
    exact aw_ri dX3_told_63 rfl rfl (Nat.le_of_ble_eq_true rfl) (Nat.le_of_ble_eq_true rfl) ⟨rfl, rfl⟩
  replace hf := ifn c4 hf
  rcases Decidable.em (a0 = 5) with c5 | c5
  · replace hf := ifp c5 hf
    refine aw_tabIn (tgt := 64) (off := 63) dX3_told_1 (by rw [c5]; decide) (by rw [c5]; decide) (by rw [c5]; decide) (by decide) ?_
    refine aw_aload_n (pc' := 65) dX3_told_64 rfl rfl rfl ?_
    refine aw_gi (q := pt) (pc' := 68) H0 (okH.ob o_pt) (by decide) rfl dX3_told_65 rfl fl_RX3_41 ?_
    refine aw_if_eq (tgt := 75) (pc' := 71) dX3_told_68 rfl rfl (fun c6 => ?_) (fun c6 => ?_)
    · replace hf := ifp c6 hf
      refine aw_iconst (v := 0) (pc' := 76) dX3_told_75 rfl ic_0 ?_
      obtain rfl := Option.some.inj hf
      exact aw_ri dX3_told_76 rfl rfl (Nat.le_of_ble_eq_true rfl) (Nat.le_of_ble_eq_true rfl) ⟨rfl, rfl⟩
    · replace hf := ifn c6 hf
      refine aw_iconst (v := 1) (pc' := 72) dX3_told_71 rfl ic_1 ?_
      refine aw_goto (tgt := 76) dX3_told_72 rfl ?_
      obtain rfl := Option.some.inj hf
      exact aw_ri dX3_told_76 rfl rfl (Nat.le_of_ble_eq_true rfl) (Nat.le_of_ble_eq_true rfl) ⟨rfl, rfl⟩
  replace hf := ifn c5 hf
  rcases Decidable.em (a0 = 6) with c7 | c7
  · replace hf := ifp c7 hf
    refine aw_tabIn (tgt := 77) (off := 76) dX3_told_1 (by rw [c7]; decide) (by rw [c7]; decide) (by rw [c7]; decide) (by decide) ?_
    refine aw_aload_n (pc' := 78) dX3_told_77 rfl rfl rfl ?_
    refine aw_gi (q := pt) (pc' := 81) H0 (okH.ob o_pt) (by decide) rfl dX3_told_78 rfl fl_RX3_45 ?_
    obtain rfl := Option.some.inj hf
    exact aw_ri dX3_told_81 rfl rfl (Nat.le_of_ble_eq_true rfl) (Nat.le_of_ble_eq_true rfl) ⟨rfl, rfl⟩
  replace hf := ifn c7 hf
  rcases Decidable.em (a0 = 7) with c8 | c8
  · replace hf := ifp c8 hf
    refine aw_tabIn (tgt := 82) (off := 81) dX3_told_1 (by rw [c8]; decide) (by rw [c8]; decide) (by rw [c8]; decide) (by decide) ?_
    refine aw_aload_n (pc' := 83) dX3_told_82 rfl rfl rfl ?_
    refine aw_gi (q := pt) (pc' := 86) H0 (okH.ob o_pt) (by decide) rfl dX3_told_83 rfl fl_RX3_48 ?_
    obtain rfl := Option.some.inj hf
    exact aw_ri dX3_told_86 rfl rfl (Nat.le_of_ble_eq_true rfl) (Nat.le_of_ble_eq_true rfl) ⟨rfl, rfl⟩
  replace hf := ifn c8 hf
  refine aw_tabOut (tgt := 87) dX3_told_1 (by have a0 := tneK (K := 1) (by decide) c1; have a1 := tneK (K := 2) (by decide) c2; have a2 := tneK (K := 3) (by decide) c3; have a3 := tneK (K := 4) (by decide) c4; have a4 := tneK (K := 5) (by decide) c5; have a5 := tneK (K := 6) (by decide) c7; have a6 := tneK (K := 7) (by decide) c8; omega) (by decide) ?_
  refine aw_ldc (pc' := 89) dX3_told_87 rfl ct_RX3_31 ?_
  obtain rfl := Option.some.inj hf
  exact aw_ri dX3_told_89 rfl rfl (Nat.le_of_ble_eq_true rfl) (Nat.le_of_ble_eq_true rfl) ⟨rfl, rfl⟩
/-! ThirtyThreeBelow$Hole.logAhead -/
noncomputable def f_X3_logAhead (s0 : SS) (pt : Nat) (a0 : Int32) : Option Int32 := (if (1 : Int32) < a0 then (if (60 : Int32) < a0 then some 0 else (vl ((a0 - (1 : Int32))) fun v3 => (gd (inB v3 61) (if (zI s0 (pt + 3) (v3.toInt.toNat)) = ((-2000000000) : Int32) then some 0 else (vl ((a0 - (1 : Int32))) fun v6 => (gd (inB v6 61) (some (zI s0 (pt + 3) (v6.toInt.toNat))))))))) else some 0)
set_option maxRecDepth 4000 in
theorem t_X3_logAhead {r9 : Int32} {s0 : SS} {h0 : List aE} {pt : Nat} {a0 : Int32} (H0 : HH s0 h0) (o_pt : okH s0 pt) (hf : f_X3_logAhead s0 pt a0 = some r9) : AM mX3_logAhead (0) [.ref (pt + 8), .int a0] h0 0 0 (PI fun r' h' => r9 = r' ∧ h0 = h') := by
  unfold f_X3_logAhead at hf
  refine am_of (lv := [some (.ref (pt + 8)), some (.int a0)]) rfl (Nat.le_of_ble_eq_true rfl) rfl ?_
  refine aw_iload_n (pc' := 1) dX3_logAhead_0 rfl rfl ?_
  refine aw_iconst (v := 1) (pc' := 2) dX3_logAhead_1 rfl ic_1 ?_
  refine aw_cle (tgt := 24) (pc' := 5) dX3_logAhead_2 rfl rfl (fun c1 => ?_) (fun c1 => ?_)
  · replace hf := ifn c1 hf
    refine aw_iconst (v := 0) (pc' := 25) dX3_logAhead_24 rfl ic_0 ?_
    refine aw_goto (tgt := 36) dX3_logAhead_25 rfl ?_
    obtain rfl := Option.some.inj hf
    exact aw_ri dX3_logAhead_36 rfl rfl (Nat.le_of_ble_eq_true rfl) (Nat.le_of_ble_eq_true rfl) ⟨rfl, rfl⟩
  · replace hf := ifp c1 hf
    refine aw_iload_n (pc' := 6) dX3_logAhead_5 rfl rfl ?_
    refine aw_bipush (v := 60) (pc' := 8) dX3_logAhead_6 rfl bp_60 ?_
    refine aw_cgt (tgt := 24) (pc' := 11) dX3_logAhead_8 rfl rfl (fun c2 => ?_) (fun c2 => ?_)
    · replace hf := ifp c2 hf
      refine aw_iconst (v := 0) (pc' := 25) dX3_logAhead_24 rfl ic_0 ?_
      refine aw_goto (tgt := 36) dX3_logAhead_25 rfl ?_
      obtain rfl := Option.some.inj hf
      exact aw_ri dX3_logAhead_36 rfl rfl (Nat.le_of_ble_eq_true rfl) (Nat.le_of_ble_eq_true rfl) ⟨rfl, rfl⟩
    · replace hf := ifn c2 hf
      refine aw_aload_n (pc' := 12) dX3_logAhead_11 rfl rfl rfl ?_
      refine aw_gr (q := pt) (e := 7) (v := .ref (pt + 3 + 8)) (pc' := 15) H0 (okH.ob o_pt) (by decide) rfl rfl dX3_logAhead_12 rfl fl_RX3_18 ?_
      refine aw_iload_n (pc' := 16) dX3_logAhead_15 rfl rfl ?_
      refine aw_iconst (v := 1) (pc' := 17) dX3_logAhead_16 rfl ic_1 ?_
      refine aw_isub (pc' := 18) dX3_logAhead_17 rfl ?_
      obtain ⟨v3, ev3, hf⟩ := vl_e hf
      refine aw_topi ev3 ?_
      obtain ⟨g4, hf⟩ := gd_e hf
      refine aw_ia (q := (pt + 3)) (pc' := 19) H0 (okH.a3 o_pt) g4 dX3_logAhead_18 rfl ?_
      refine aw_ldc (pc' := 21) dX3_logAhead_19 rfl ct_RX3_31 ?_
      refine aw_icmp_ne (tgt := 28) (pc' := 24) dX3_logAhead_21 rfl rfl (fun c5 => ?_) (fun c5 => ?_)
      · replace hf := ifn c5 hf
        refine aw_aload_n (pc' := 29) dX3_logAhead_28 rfl rfl rfl ?_
        refine aw_gr (q := pt) (e := 7) (v := .ref (pt + 3 + 8)) (pc' := 32) H0 (okH.ob o_pt) (by decide) rfl rfl dX3_logAhead_29 rfl fl_RX3_18 ?_
        refine aw_iload_n (pc' := 33) dX3_logAhead_32 rfl rfl ?_
        refine aw_iconst (v := 1) (pc' := 34) dX3_logAhead_33 rfl ic_1 ?_
        refine aw_isub (pc' := 35) dX3_logAhead_34 rfl ?_
        obtain ⟨v6, ev6, hf⟩ := vl_e hf
        refine aw_topi ev6 ?_
        obtain ⟨g7, hf⟩ := gd_e hf
        refine aw_ia (q := (pt + 3)) (pc' := 36) H0 (okH.a3 o_pt) g7 dX3_logAhead_35 rfl ?_
        obtain rfl := Option.some.inj hf
        exact aw_ri dX3_logAhead_36 rfl rfl (Nat.le_of_ble_eq_true rfl) (Nat.le_of_ble_eq_true rfl) ⟨rfl, rfl⟩
      · replace hf := ifp c5 hf
        refine aw_iconst (v := 0) (pc' := 25) dX3_logAhead_24 rfl ic_0 ?_
        refine aw_goto (tgt := 36) dX3_logAhead_25 rfl ?_
        obtain rfl := Option.some.inj hf
        exact aw_ri dX3_logAhead_36 rfl rfl (Nat.le_of_ble_eq_true rfl) (Nat.le_of_ble_eq_true rfl) ⟨rfl, rfl⟩
/-! ThirtyThreeBelow$Hole.lostFrom -/
noncomputable def f_X3_lostFrom_L6_b (p0 : Nat) (rc : SS → Int32 → Option SS) (s : SS) (x2 : Int32) : Option SS := (if (60 : Int32) < x2 then some s else (gd (inB x2 61) (st (pI s (p0 + 3) (x2.toInt.toNat) (-2000000000)) fun s4 => (vl (x2 + 1) fun v5 => (rc s4 v5)))))
noncomputable def f_X3_lostFrom_L6 (p0 : Nat) : Nat → SS → Int32 → Option SS
  | 0, _, _ => none
  | n + 1, s, x2 => f_X3_lostFrom_L6_b p0 (f_X3_lostFrom_L6 p0 n) s x2
set_option maxRecDepth 4000 in
theorem t_X3_lostFrom_L6 {s0 sb s9 : SS} {p0 : Nat} (mb : Mo s0 sb) (o_p0 : okH sb p0)  : ∀ (n : Nat) (s : SS) (h : List aE) (x2 : Int32), HH s h → Mo sb s → f_X3_lostFrom_L6 p0 n s x2 = some s9 → AW mX3_lostFrom (rmD (1) 0 0) (fin (PV fun h' => HH s9 h' ∧ Mo s0 s9) 0 0) 6 [some (.ref (p0 + 8)), none, some (.int x2)] [] h 0 0 := by
  intro n
  induction n with
  | zero =>
    intro s h x2 H ms hf
    cases hf
  | succ n ih =>
    intro s h x2 H ms hf
    replace hf : f_X3_lostFrom_L6_b p0 (f_X3_lostFrom_L6 p0 n) s x2 = some s9 := hf
    unfold f_X3_lostFrom_L6_b at hf
    refine aw_iload_n (pc' := 7) dX3_lostFrom_6 rfl rfl ?_
    refine aw_bipush (v := 60) (pc' := 9) dX3_lostFrom_7 rfl bp_60 ?_
    refine aw_cgt (tgt := 26) (pc' := 12) dX3_lostFrom_9 rfl rfl (fun c2 => ?_) (fun c2 => ?_)
    · replace hf := ifp c2 hf
      obtain rfl := Option.some.inj hf
      exact aw_rv dX3_lostFrom_26 rfl (Nat.le_of_ble_eq_true rfl) (Nat.le_of_ble_eq_true rfl) ⟨H, (mb.tr ms)⟩
    · replace hf := ifn c2 hf
      refine aw_aload_n (pc' := 13) dX3_lostFrom_12 rfl rfl rfl ?_
      refine aw_gr (q := p0) (e := 7) (v := .ref (p0 + 3 + 8)) (pc' := 16) H (okH.ob (okH.mo o_p0 ms)) (by decide) rfl rfl dX3_lostFrom_13 rfl fl_RX3_18 ?_
      refine aw_iload_n (pc' := 17) dX3_lostFrom_16 rfl rfl ?_
      refine aw_ldc (pc' := 19) dX3_lostFrom_17 rfl ct_RX3_31 ?_
      obtain ⟨g3, hf⟩ := gd_e hf
      obtain ⟨s4, es4, hf⟩ := st_e hf
      refine aw_is (q := (p0 + 3)) (pc' := 20) es4 H (okH.a3 (okH.mo o_p0 ms)) g3 dX3_lostFrom_19 rfl (fun h4 H4 => ?_)
      have m4 := Mo.ofI es4
      obtain ⟨v5, ev5, hf⟩ := vl_e hf
      refine aw_iincV (y := v5) (lv' := [_, _, _]) (pc' := 23) dX3_lostFrom_20 rfl rfl (Nat.le_of_ble_eq_true rfl) ev5 rfl ?_
      refine aw_goto (tgt := 6) dX3_lostFrom_23 rfl ?_
      exact ih _ _ _ H4 (ms.tr m4) hf
noncomputable def f_X3_lostFrom (s0 : SS) (pt : Nat) (a0 : Int32) : Option SS := (b1 (f_J9_max_7cf53 (1 : Int32) a0) fun r1 => (f_X3_lostFrom_L6 pt 4000 s0 r1))
set_option maxRecDepth 4000 in
theorem t_X3_lostFrom {s0 s9 : SS} {h0 : List aE} {pt : Nat} {a0 : Int32} (H0 : HH s0 h0) (o_pt : okH s0 pt) (hf : f_X3_lostFrom s0 pt a0 = some s9) : AM mX3_lostFrom (1) [.ref (pt + 8), .int a0] h0 0 0 (PV fun h' => HH s9 h' ∧ Mo s0 s9) := by
  unfold f_X3_lostFrom at hf
  refine am_of (lv := [some (.ref (pt + 8)), some (.int a0), none]) rfl (Nat.le_of_ble_eq_true rfl) rfl ?_
  refine aw_iconst (v := 1) (pc' := 1) dX3_lostFrom_0 rfl ic_1 ?_
  refine aw_iload_n (pc' := 2) dX3_lostFrom_1 rfl rfl ?_
  obtain ⟨r1, ec1, hf⟩ := b1_e hf
  refine aw_callSi (M' := mJ9_max_7cf53) (nc' := 0) (ns' := 0) (pc' := 5) dX3_lostFrom_2 rfl ml_RX3_70 kJ9_max_7cf53 (t_J9_max_7cf53 ec1) rfl rfl (Nat.le_of_ble_eq_true rfl) (rokD (by omega) (Nat.le_of_ble_eq_true rfl) (Nat.le_of_ble_eq_true rfl) (Nat.le_of_ble_eq_true rfl)) rfl rfl (fun _ h1 q1 => ?_)
  obtain ⟨rfl, rfl⟩ := q1
  refine aw_istore_n (lv' := [_, _, _]) (pc' := 6) dX3_lostFrom_5 rfl (Nat.le_of_ble_eq_true rfl) rfl ?_
  refine AW.lv_le (lz_k (lz_d (lz_k lz_0))) ?_
  refine t_X3_lostFrom_L6 (Mo.rf _) o_pt  4000 _ _ _ H0 (Mo.rf _) hf
/-! ThirtyThreeBelow$Shelf.refusal -/
noncomputable def f_X8_refusal (s0 : SS) (pt : Nat) (a0 : Int32) : Option Int32 := (if (zS s0 pt 0) = (0 : Int32) then some (-11) else (if (zS s0 pt 0) = (2 : Int32) then (if a0 < (0 : Int32) then some (-13) else (if a0 < (zS s0 pt 3) then some 0 else some (-13))) else some (-12)))
set_option maxRecDepth 4000 in
theorem t_X8_refusal {r9 : Int32} {s0 : SS} {h0 : List aE} {pt : Nat} {a0 : Int32} (H0 : HH s0 h0) (o_pt : okV pt) (hf : f_X8_refusal s0 pt a0 = some r9) : AM mX8_refusal (0) [.ref (pt + 8), .int a0] h0 0 0 (PI fun r' h' => r9 = r' ∧ h0 = h') := by
  unfold f_X8_refusal at hf
  refine am_of (lv := [some (.ref (pt + 8)), some (.int a0)]) rfl (Nat.le_of_ble_eq_true rfl) rfl ?_
  refine aw_aload_n (pc' := 1) dX8_refusal_0 rfl rfl rfl ?_
  refine aw_gi (q := pt) (pc' := 4) H0 (okV.ob o_pt H0) (by decide) rfl dX8_refusal_1 rfl fl_RX8_15 ?_
  refine aw_if_ne (tgt := 10) (pc' := 7) dX8_refusal_4 rfl rfl (fun c1 => ?_) (fun c1 => ?_)
  · replace hf := ifn c1 hf
    refine aw_aload_n (pc' := 11) dX8_refusal_10 rfl rfl rfl ?_
    refine aw_gi (q := pt) (pc' := 14) H0 (okV.ob o_pt H0) (by decide) rfl dX8_refusal_11 rfl fl_RX8_15 ?_
    refine aw_iconst (v := 2) (pc' := 15) dX8_refusal_14 rfl ic_2 ?_
    refine aw_icmp_eq (tgt := 21) (pc' := 18) dX8_refusal_15 rfl rfl (fun c2 => ?_) (fun c2 => ?_)
    · replace hf := ifp c2 hf
      refine aw_iload_n (pc' := 22) dX8_refusal_21 rfl rfl ?_
      refine aw_zlt (tgt := 33) (pc' := 25) dX8_refusal_22 rfl rfl (fun c3 => ?_) (fun c3 => ?_)
      · replace hf := ifp c3 hf
        refine aw_bipush (v := (-13)) (pc' := 35) dX8_refusal_33 rfl bp_m13 ?_
        refine aw_goto (tgt := 39) dX8_refusal_35 rfl ?_
        obtain rfl := Option.some.inj hf
        exact aw_ri dX8_refusal_39 rfl rfl (Nat.le_of_ble_eq_true rfl) (Nat.le_of_ble_eq_true rfl) ⟨rfl, rfl⟩
      · replace hf := ifn c3 hf
        refine aw_iload_n (pc' := 26) dX8_refusal_25 rfl rfl ?_
        refine aw_aload_n (pc' := 27) dX8_refusal_26 rfl rfl rfl ?_
        refine aw_gi (q := pt) (pc' := 30) H0 (okV.ob o_pt H0) (by decide) rfl dX8_refusal_27 rfl fl_RX8_22 ?_
        refine aw_clt (tgt := 38) (pc' := 33) dX8_refusal_30 rfl rfl (fun c4 => ?_) (fun c4 => ?_)
        · replace hf := ifp c4 hf
          refine aw_iconst (v := 0) (pc' := 39) dX8_refusal_38 rfl ic_0 ?_
          obtain rfl := Option.some.inj hf
          exact aw_ri dX8_refusal_39 rfl rfl (Nat.le_of_ble_eq_true rfl) (Nat.le_of_ble_eq_true rfl) ⟨rfl, rfl⟩
        · replace hf := ifn c4 hf
          refine aw_bipush (v := (-13)) (pc' := 35) dX8_refusal_33 rfl bp_m13 ?_
          refine aw_goto (tgt := 39) dX8_refusal_35 rfl ?_
          obtain rfl := Option.some.inj hf
          exact aw_ri dX8_refusal_39 rfl rfl (Nat.le_of_ble_eq_true rfl) (Nat.le_of_ble_eq_true rfl) ⟨rfl, rfl⟩
    · replace hf := ifn c2 hf
      refine aw_bipush (v := (-12)) (pc' := 20) dX8_refusal_18 rfl bp_m12 ?_
      obtain rfl := Option.some.inj hf
      exact aw_ri dX8_refusal_20 rfl rfl (Nat.le_of_ble_eq_true rfl) (Nat.le_of_ble_eq_true rfl) ⟨rfl, rfl⟩
  · replace hf := ifp c1 hf
    refine aw_bipush (v := (-11)) (pc' := 9) dX8_refusal_7 rfl bp_m11 ?_
    obtain rfl := Option.some.inj hf
    exact aw_ri dX8_refusal_9 rfl rfl (Nat.le_of_ble_eq_true rfl) (Nat.le_of_ble_eq_true rfl) ⟨rfl, rfl⟩
/-! ThirtyThreeBelow$Hole.logged -/
noncomputable def f_X3_logged_L6_b (q0 : SS → Int32 → Int32 → Option (Int32 × SS)) (p0 : Nat) (p1 : Nat) (y2 : Int32) (y3 : Int32) (y4 : Int32) (rc : SS → Int32 → Int32 → Option (Int32 × SS)) (s : SS) (x5 : Int32) (x6 : Int32) : Option (Int32 × SS) := (if x6 < y4 then (if (60 : Int32) < (y3 + x6) then some (x5, s) else (vl ((y3 + x6)) fun v3 => (b1 (f_X8_refusal s p1 (y2 + x6)) fun r4 => (if r4 = (0 : Int32) then (vl ((y2 + x6)) fun v6 => (gd (inB v6 60) (wl ((zJ s (p1 + 1) (v6.toInt.toNat))) fun v8 => (jn (fun (t10_0 : Int32) => (gd (inB v3 61) (st (pI s (p0 + 3) (v3.toInt.toNat) t10_0) fun s12 => (vl (x5 + 1) fun v13 => (vl (x6 + 1) fun v14 => (rc s12 v13 v14)))))) fun k10 => (if (lg_cmp v8 9223372036854775807) = (0 : Int32) then (b1 (f_X3_logAhead s p0 v3) fun r16 => (k10 r16)) else (k10 v8.toInt32)))))) else (q0 s x5 v3))))) else some (x5, s))
noncomputable def f_X3_logged_L6 (q0 : SS → Int32 → Int32 → Option (Int32 × SS)) (p0 : Nat) (p1 : Nat) (y2 : Int32) (y3 : Int32) (y4 : Int32) : Nat → SS → Int32 → Int32 → Option (Int32 × SS)
  | 0, _, _, _ => none
  | n + 1, s, x5, x6 => f_X3_logged_L6_b q0 p0 p1 y2 y3 y4 (f_X3_logged_L6 q0 p0 p1 y2 y3 y4 n) s x5 x6
set_option maxRecDepth 4000 in
theorem t_X3_logged_L6 {r9 : Int32} {s0 sb s9 : SS} {q0 : SS → Int32 → Int32 → Option (Int32 × SS)} {p0 : Nat} {p1 : Nat} {y2 : Int32} {y3 : Int32} {y4 : Int32} (mb : Mo s0 sb) (o_p0 : okH sb p0) (o_p1 : okV p1) (hq0 : ∀ (s : SS) (h : List aE) (x5 : Int32) (x7 : Int32), HH s h → Mo sb s → q0 s x5 x7 = some (r9, s9) → AW mX3_logged (rmD (2) 0 0) (fin (PI fun r' h' => r9 = r' ∧ HH s9 h' ∧ Mo s0 s9) 0 0) 39 [some (.ref (p0 + 8)), none, none, none, none, some (.int x5), none, some (.int x7), none, none] [] h 0 0) : ∀ (n : Nat) (s : SS) (h : List aE) (x5 : Int32) (x6 : Int32), HH s h → Mo sb s → f_X3_logged_L6 q0 p0 p1 y2 y3 y4 n s x5 x6 = some (r9, s9) → AW mX3_logged (rmD (2) 0 0) (fin (PI fun r' h' => r9 = r' ∧ HH s9 h' ∧ Mo s0 s9) 0 0) 6 [some (.ref (p0 + 8)), some (.ref (p1 + 8)), some (.int y2), some (.int y3), some (.int y4), some (.int x5), some (.int x6), none, none, none] [] h 0 0 := by
  intro n
  induction n with
  | zero =>
    intro s h x5 x6 H ms hf
    cases hf
  | succ n ih =>
    intro s h x5 x6 H ms hf
    replace hf : f_X3_logged_L6_b q0 p0 p1 y2 y3 y4 (f_X3_logged_L6 q0 p0 p1 y2 y3 y4 n) s x5 x6 = some (r9, s9) := hf
    unfold f_X3_logged_L6_b at hf
    refine aw_iload (pc' := 8) dX3_logged_6 rfl rfl ?_
    refine aw_iload (pc' := 10) dX3_logged_8 rfl rfl ?_
    refine aw_cge (tgt := 96) (pc' := 13) dX3_logged_10 rfl rfl (fun c1 => ?_) (fun c1 => ?_)
    · replace hf := ifn c1 hf
      refine aw_iload (pc' := 98) dX3_logged_96 rfl rfl ?_
      obtain ⟨rfl, rfl⟩ := so2 hf
      exact aw_ri dX3_logged_98 rfl rfl (Nat.le_of_ble_eq_true rfl) (Nat.le_of_ble_eq_true rfl) ⟨rfl, H, (mb.tr ms)⟩
    · replace hf := ifp c1 hf
      refine aw_iload_n (pc' := 14) dX3_logged_13 rfl rfl ?_
      refine aw_iload (pc' := 16) dX3_logged_14 rfl rfl ?_
      refine aw_iadd (pc' := 17) dX3_logged_16 rfl ?_
      refine aw_bipush (v := 60) (pc' := 19) dX3_logged_17 rfl bp_60 ?_
      refine aw_cgt (tgt := 96) (pc' := 22) dX3_logged_19 rfl rfl (fun c2 => ?_) (fun c2 => ?_)
      · replace hf := ifp c2 hf
        refine aw_iload (pc' := 98) dX3_logged_96 rfl rfl ?_
        obtain ⟨rfl, rfl⟩ := so2 hf
        exact aw_ri dX3_logged_98 rfl rfl (Nat.le_of_ble_eq_true rfl) (Nat.le_of_ble_eq_true rfl) ⟨rfl, H, (mb.tr ms)⟩
      · replace hf := ifn c2 hf
        refine aw_iload_n (pc' := 23) dX3_logged_22 rfl rfl ?_
        refine aw_iload (pc' := 25) dX3_logged_23 rfl rfl ?_
        refine aw_iadd (pc' := 26) dX3_logged_25 rfl ?_
        obtain ⟨v3, ev3, hf⟩ := vl_e hf
        refine aw_topi ev3 ?_
        refine aw_istore (lv' := [_, _, _, _, _, _, _, _, _, _]) (pc' := 28) dX3_logged_26 rfl (Nat.le_of_ble_eq_true rfl) rfl ?_
        refine aw_aload_n (pc' := 29) dX3_logged_28 rfl rfl rfl ?_
        refine aw_iload_n (pc' := 30) dX3_logged_29 rfl rfl ?_
        refine aw_iload (pc' := 32) dX3_logged_30 rfl rfl ?_
        refine aw_iadd (pc' := 33) dX3_logged_32 rfl ?_
        obtain ⟨r4, ec4, hf⟩ := b1_e hf
        refine aw_callVi (M' := mX8_refusal) (nc' := 0) (ns' := 0) (pc' := 36) dX3_logged_33 rfl ml_RX3_51 kX8_refusal (t_X8_refusal H o_p1 ec4) (H.ob (okV.ob o_p1 H) (by decide)) rfl rfl rfl (Nat.le_of_ble_eq_true rfl) (rokD (by omega) (Nat.le_of_ble_eq_true rfl) (Nat.le_of_ble_eq_true rfl) (Nat.le_of_ble_eq_true rfl)) rfl rfl (fun _ h4 q4 => ?_)
        obtain ⟨rfl, rfl⟩ := q4
        refine aw_if_eq (tgt := 48) (pc' := 39) dX3_logged_36 rfl rfl (fun c5 => ?_) (fun c5 => ?_)
        · replace hf := ifp c5 hf
          refine aw_aload_n (pc' := 49) dX3_logged_48 rfl rfl rfl ?_
          refine aw_gr (q := p1) (e := 3) (v := .ref (p1 + 1 + 8)) (pc' := 52) H (okV.ob o_p1 H) (by decide) rfl rfl dX3_logged_49 rfl fl_RX3_61 ?_
          refine aw_iload_n (pc' := 53) dX3_logged_52 rfl rfl ?_
          refine aw_iload (pc' := 55) dX3_logged_53 rfl rfl ?_
          refine aw_iadd (pc' := 56) dX3_logged_55 rfl ?_
          obtain ⟨v6, ev6, hf⟩ := vl_e hf
          refine aw_topi ev6 ?_
          obtain ⟨g7, hf⟩ := gd_e hf
          refine aw_ja (q := (p1 + 1)) (pc' := 57) H (okV.a1 o_p1 H) g7 dX3_logged_56 rfl ?_
          obtain ⟨v8, ev8, hf⟩ := wl_e hf
          refine aw_topl ev8 ?_
          refine aw_lstore (lv' := [_, _, _, _, _, _, _, _, _, _]) (pc' := 59) dX3_logged_57 rfl (Nat.le_of_ble_eq_true rfl) rfl ?_
          refine aw_aload_n (pc' := 60) dX3_logged_59 rfl rfl rfl ?_
          refine aw_gr (q := p0) (e := 7) (v := .ref (p0 + 3 + 8)) (pc' := 63) H (okH.ob (okH.mo o_p0 ms)) (by decide) rfl rfl dX3_logged_60 rfl fl_RX3_18 ?_
          refine aw_iload (pc' := 65) dX3_logged_63 rfl rfl ?_
          refine aw_lload (pc' := 67) dX3_logged_65 rfl rfl ?_
          refine aw_ldc2 (pc' := 70) dX3_logged_67 rfl ct_RX3_65 ?_
          refine aw_lcmp (pc' := 71) dX3_logged_70 rfl ?_
          obtain ⟨k10, ek10, hf⟩ := jn_e hf
          have hk10 : ∀ (t10_0 : Int32), k10 t10_0 = some (r9, s9) → AW mX3_logged (rmD (2) 0 0) (fin (PI fun r' h' => r9 = r' ∧ HH s9 h' ∧ Mo s0 s9) 0 0) 86 [some (.ref (p0 + 8)), some (.ref (p1 + 8)), some (.int y2), some (.int y3), some (.int y4), some (.int x5), some (.int x6), none, none, none] [.int t10_0, .int v3, .ref (p0 + 3 + 8)] h 0 0 := by
            intro t10_0 hf
            subst ek10
            obtain ⟨g11, hf⟩ := gd_e hf
            obtain ⟨s12, es12, hf⟩ := st_e hf
            refine aw_is (q := (p0 + 3)) (pc' := 87) es12 H (okH.a3 (okH.mo o_p0 ms)) g11 dX3_logged_86 rfl (fun h12 H12 => ?_)
            have m12 := Mo.ofI es12
            obtain ⟨v13, ev13, hf⟩ := vl_e hf
            refine aw_iincV (y := v13) (lv' := [_, _, _, _, _, _, _, _, _, _]) (pc' := 90) dX3_logged_87 rfl rfl (Nat.le_of_ble_eq_true rfl) ev13 rfl ?_
            obtain ⟨v14, ev14, hf⟩ := vl_e hf
            refine aw_iincV (y := v14) (lv' := [_, _, _, _, _, _, _, _, _, _]) (pc' := 93) dX3_logged_90 rfl rfl (Nat.le_of_ble_eq_true rfl) ev14 rfl ?_
            refine aw_goto (tgt := 6) dX3_logged_93 rfl ?_
            exact ih _ _ _ _ H12 (ms.tr m12) hf
          clear ek10
          refine aw_if_ne (tgt := 83) (pc' := 74) dX3_logged_71 rfl rfl (fun c15 => ?_) (fun c15 => ?_)
          · replace hf := ifn c15 hf
            refine aw_lload (pc' := 85) dX3_logged_83 rfl rfl ?_
            refine aw_l2i (pc' := 86) dX3_logged_85 rfl ?_
            refine AW.lv_le (lz_k (lz_k (lz_k (lz_k (lz_k (lz_k (lz_k (lz_d (lz_d (lz_d lz_0)))))))))) ?_
            exact hk10 _ hf
          · replace hf := ifp c15 hf
            refine aw_aload_n (pc' := 75) dX3_logged_74 rfl rfl rfl ?_
            refine aw_iload (pc' := 77) dX3_logged_75 rfl rfl ?_
            obtain ⟨r16, ec16, hf⟩ := b1_e hf
            refine aw_callVi (M' := mX3_logAhead) (nc' := 0) (ns' := 0) (pc' := 80) dX3_logged_77 rfl ml_RX3_67 kX3_logAhead (t_X3_logAhead H (okH.mo o_p0 ms) ec16) (H.ob (okH.ob (okH.mo o_p0 ms)) (by decide)) rfl rfl rfl (Nat.le_of_ble_eq_true rfl) (rokD (by omega) (Nat.le_of_ble_eq_true rfl) (Nat.le_of_ble_eq_true rfl) (Nat.le_of_ble_eq_true rfl)) rfl rfl (fun _ h16 q16 => ?_)
            obtain ⟨rfl, rfl⟩ := q16
            refine aw_goto (tgt := 86) dX3_logged_80 rfl ?_
            refine AW.lv_le (lz_k (lz_k (lz_k (lz_k (lz_k (lz_k (lz_k (lz_d (lz_d (lz_d lz_0)))))))))) ?_
            exact hk10 _ hf
        · replace hf := ifn c5 hf
          refine AW.lv_le (lz_k (lz_d (lz_d (lz_d (lz_d (lz_k (lz_d (lz_k (lz_d (lz_d lz_0)))))))))) ?_
          exact hq0 _ _ _ _ H ms hf
noncomputable def f_X3_logged (s0 : SS) (pt : Nat) (pa0 : Nat) (a1 : Int32) (a2 : Int32) (a3 : Int32) : Option (Int32 × SS) := (f_X3_logged_L6 (fun (s17 : SS) (x17_5 : Int32) (x17_7 : Int32) => (b1 (f_X3_lostFrom s17 pt x17_7) fun s18 => some (x17_5, s18))) pt pa0 a1 a2 a3 4000 s0 0 0)
set_option maxRecDepth 4000 in
theorem t_X3_logged {r9 : Int32} {s0 s9 : SS} {h0 : List aE} {pt : Nat} {pa0 : Nat} {a1 : Int32} {a2 : Int32} {a3 : Int32} (H0 : HH s0 h0) (o_pt : okH s0 pt) (o_pa0 : okV pa0) (hf : f_X3_logged s0 pt pa0 a1 a2 a3 = some (r9, s9)) : AM mX3_logged (2) [.ref (pt + 8), .ref (pa0 + 8), .int a1, .int a2, .int a3] h0 0 0 (PI fun r' h' => r9 = r' ∧ HH s9 h' ∧ Mo s0 s9) := by
  unfold f_X3_logged at hf
  refine am_of (lv := [some (.ref (pt + 8)), some (.ref (pa0 + 8)), some (.int a1), some (.int a2), some (.int a3), none, none, none, none, none]) rfl (Nat.le_of_ble_eq_true rfl) rfl ?_
  refine aw_iconst (v := 0) (pc' := 1) dX3_logged_0 rfl ic_0 ?_
  refine aw_istore (lv' := [_, _, _, _, _, _, _, _, _, _]) (pc' := 3) dX3_logged_1 rfl (Nat.le_of_ble_eq_true rfl) rfl ?_
  refine aw_iconst (v := 0) (pc' := 4) dX3_logged_3 rfl ic_0 ?_
  refine aw_istore (lv' := [_, _, _, _, _, _, _, _, _, _]) (pc' := 6) dX3_logged_4 rfl (Nat.le_of_ble_eq_true rfl) rfl ?_
  refine t_X3_logged_L6 (Mo.rf _) o_pt o_pa0 (fun s17 h17 x17_5 x17_7 H17 m17 hf => ?_) 4000 _ _ _ _ H0 (Mo.rf _) hf
  refine aw_aload_n (pc' := 40) dX3_logged_39 rfl rfl rfl ?_
  refine aw_iload (pc' := 42) dX3_logged_40 rfl rfl ?_
  obtain ⟨s18, ec18, hf⟩ := b1_e hf
  refine aw_callVv (M' := mX3_lostFrom) (nc' := 0) (ns' := 0) (pc' := 45) dX3_logged_42 rfl ml_RX3_57 kX3_lostFrom (t_X3_lostFrom H17 (okH.mo o_pt m17) ec18) (H17.ob (okH.ob (okH.mo o_pt m17)) (by decide)) rfl rfl rfl (Nat.le_of_ble_eq_true rfl) (rokD (by omega) (Nat.le_of_ble_eq_true rfl) (Nat.le_of_ble_eq_true rfl) (Nat.le_of_ble_eq_true rfl)) rfl rfl (fun h18 q18 => ?_)
  obtain ⟨H18, m18⟩ := q18
  refine aw_iload (pc' := 47) dX3_logged_45 rfl rfl ?_
  obtain ⟨rfl, rfl⟩ := so2 hf
  exact aw_ri dX3_logged_47 rfl rfl (Nat.le_of_ble_eq_true rfl) (Nat.le_of_ble_eq_true rfl) ⟨rfl, H18, (m17.tr m18)⟩
/-! ThirtyThreeBelow$Hole.leastLean -/
noncomputable def f_X3_leastLean (s0 : SS) (pt : Nat) (a0 : Int32) (a1 : Int32) : Option Int32 := (if a0 < (1 : Int32) then some (-8) else (if (60 : Int32) < a0 then some (-8) else (gd (inB a0 61) (if (zI s0 (pt + 3) (a0.toInt.toNat)) = ((-2000000000) : Int32) then some (-8) else (gd (inB a0 61) (some ((zI s0 (pt + 3) (a0.toInt.toNat)) - a1)))))))
set_option maxRecDepth 4000 in
theorem t_X3_leastLean {r9 : Int32} {s0 : SS} {h0 : List aE} {pt : Nat} {a0 : Int32} {a1 : Int32} (H0 : HH s0 h0) (o_pt : okH s0 pt) (hf : f_X3_leastLean s0 pt a0 a1 = some r9) : AM mX3_leastLean (0) [.ref (pt + 8), .int a0, .int a1] h0 0 0 (PI fun r' h' => r9 = r' ∧ h0 = h') := by
  unfold f_X3_leastLean at hf
  refine am_of (lv := [some (.ref (pt + 8)), some (.int a0), some (.int a1)]) rfl (Nat.le_of_ble_eq_true rfl) rfl ?_
  refine aw_iload_n (pc' := 1) dX3_leastLean_0 rfl rfl ?_
  refine aw_iconst (v := 1) (pc' := 2) dX3_leastLean_1 rfl ic_1 ?_
  refine aw_clt (tgt := 22) (pc' := 5) dX3_leastLean_2 rfl rfl (fun c1 => ?_) (fun c1 => ?_)
  · replace hf := ifp c1 hf
    refine aw_bipush (v := (-8)) (pc' := 24) dX3_leastLean_22 rfl bp_m8 ?_
    refine aw_goto (tgt := 35) dX3_leastLean_24 rfl ?_
    obtain rfl := Option.some.inj hf
    exact aw_ri dX3_leastLean_35 rfl rfl (Nat.le_of_ble_eq_true rfl) (Nat.le_of_ble_eq_true rfl) ⟨rfl, rfl⟩
  · replace hf := ifn c1 hf
    refine aw_iload_n (pc' := 6) dX3_leastLean_5 rfl rfl ?_
    refine aw_bipush (v := 60) (pc' := 8) dX3_leastLean_6 rfl bp_60 ?_
    refine aw_cgt (tgt := 22) (pc' := 11) dX3_leastLean_8 rfl rfl (fun c2 => ?_) (fun c2 => ?_)
    · replace hf := ifp c2 hf
      refine aw_bipush (v := (-8)) (pc' := 24) dX3_leastLean_22 rfl bp_m8 ?_
      refine aw_goto (tgt := 35) dX3_leastLean_24 rfl ?_
      obtain rfl := Option.some.inj hf
      exact aw_ri dX3_leastLean_35 rfl rfl (Nat.le_of_ble_eq_true rfl) (Nat.le_of_ble_eq_true rfl) ⟨rfl, rfl⟩
    · replace hf := ifn c2 hf
      refine aw_aload_n (pc' := 12) dX3_leastLean_11 rfl rfl rfl ?_
      refine aw_gr (q := pt) (e := 7) (v := .ref (pt + 3 + 8)) (pc' := 15) H0 (okH.ob o_pt) (by decide) rfl rfl dX3_leastLean_12 rfl fl_RX3_18 ?_
      refine aw_iload_n (pc' := 16) dX3_leastLean_15 rfl rfl ?_
      obtain ⟨g3, hf⟩ := gd_e hf
      refine aw_ia (q := (pt + 3)) (pc' := 17) H0 (okH.a3 o_pt) g3 dX3_leastLean_16 rfl ?_
      refine aw_ldc (pc' := 19) dX3_leastLean_17 rfl ct_RX3_31 ?_
      refine aw_icmp_ne (tgt := 27) (pc' := 22) dX3_leastLean_19 rfl rfl (fun c4 => ?_) (fun c4 => ?_)
      · replace hf := ifn c4 hf
        refine aw_aload_n (pc' := 28) dX3_leastLean_27 rfl rfl rfl ?_
        refine aw_gr (q := pt) (e := 7) (v := .ref (pt + 3 + 8)) (pc' := 31) H0 (okH.ob o_pt) (by decide) rfl rfl dX3_leastLean_28 rfl fl_RX3_18 ?_
        refine aw_iload_n (pc' := 32) dX3_leastLean_31 rfl rfl ?_
        obtain ⟨g5, hf⟩ := gd_e hf
        refine aw_ia (q := (pt + 3)) (pc' := 33) H0 (okH.a3 o_pt) g5 dX3_leastLean_32 rfl ?_
        refine aw_iload_n (pc' := 34) dX3_leastLean_33 rfl rfl ?_
        refine aw_isub (pc' := 35) dX3_leastLean_34 rfl ?_
        obtain rfl := Option.some.inj hf
        exact aw_ri dX3_leastLean_35 rfl rfl (Nat.le_of_ble_eq_true rfl) (Nat.le_of_ble_eq_true rfl) ⟨rfl, rfl⟩
      · replace hf := ifp c4 hf
        refine aw_bipush (v := (-8)) (pc' := 24) dX3_leastLean_22 rfl bp_m8 ?_
        refine aw_goto (tgt := 35) dX3_leastLean_24 rfl ?_
        obtain rfl := Option.some.inj hf
        exact aw_ri dX3_leastLean_35 rfl rfl (Nat.le_of_ble_eq_true rfl) (Nat.le_of_ble_eq_true rfl) ⟨rfl, rfl⟩
/-! ThirtyThreeBelow$Hole.mostLean -/
noncomputable def f_X3_mostLean (s0 : SS) (pt : Nat) (a0 : Int32) (a1 : Int32) : Option Int32 := (if a0 < (1 : Int32) then some 8 else (if (60 : Int32) < a0 then some 8 else (gd (inB a0 61) (if (zI s0 (pt + 3) (a0.toInt.toNat)) = ((-2000000000) : Int32) then some 8 else (gd (inB a0 61) (some ((zI s0 (pt + 3) (a0.toInt.toNat)) + a1)))))))
set_option maxRecDepth 4000 in
theorem t_X3_mostLean {r9 : Int32} {s0 : SS} {h0 : List aE} {pt : Nat} {a0 : Int32} {a1 : Int32} (H0 : HH s0 h0) (o_pt : okH s0 pt) (hf : f_X3_mostLean s0 pt a0 a1 = some r9) : AM mX3_mostLean (0) [.ref (pt + 8), .int a0, .int a1] h0 0 0 (PI fun r' h' => r9 = r' ∧ h0 = h') := by
  unfold f_X3_mostLean at hf
  refine am_of (lv := [some (.ref (pt + 8)), some (.int a0), some (.int a1)]) rfl (Nat.le_of_ble_eq_true rfl) rfl ?_
  refine aw_iload_n (pc' := 1) dX3_mostLean_0 rfl rfl ?_
  refine aw_iconst (v := 1) (pc' := 2) dX3_mostLean_1 rfl ic_1 ?_
  refine aw_clt (tgt := 22) (pc' := 5) dX3_mostLean_2 rfl rfl (fun c1 => ?_) (fun c1 => ?_)
  · replace hf := ifp c1 hf
    refine aw_bipush (v := 8) (pc' := 24) dX3_mostLean_22 rfl bp_8 ?_
    refine aw_goto (tgt := 35) dX3_mostLean_24 rfl ?_
    obtain rfl := Option.some.inj hf
    exact aw_ri dX3_mostLean_35 rfl rfl (Nat.le_of_ble_eq_true rfl) (Nat.le_of_ble_eq_true rfl) ⟨rfl, rfl⟩
  · replace hf := ifn c1 hf
    refine aw_iload_n (pc' := 6) dX3_mostLean_5 rfl rfl ?_
    refine aw_bipush (v := 60) (pc' := 8) dX3_mostLean_6 rfl bp_60 ?_
    refine aw_cgt (tgt := 22) (pc' := 11) dX3_mostLean_8 rfl rfl (fun c2 => ?_) (fun c2 => ?_)
    · replace hf := ifp c2 hf
      refine aw_bipush (v := 8) (pc' := 24) dX3_mostLean_22 rfl bp_8 ?_
      refine aw_goto (tgt := 35) dX3_mostLean_24 rfl ?_
      obtain rfl := Option.some.inj hf
      exact aw_ri dX3_mostLean_35 rfl rfl (Nat.le_of_ble_eq_true rfl) (Nat.le_of_ble_eq_true rfl) ⟨rfl, rfl⟩
    · replace hf := ifn c2 hf
      refine aw_aload_n (pc' := 12) dX3_mostLean_11 rfl rfl rfl ?_
      refine aw_gr (q := pt) (e := 7) (v := .ref (pt + 3 + 8)) (pc' := 15) H0 (okH.ob o_pt) (by decide) rfl rfl dX3_mostLean_12 rfl fl_RX3_18 ?_
      refine aw_iload_n (pc' := 16) dX3_mostLean_15 rfl rfl ?_
      obtain ⟨g3, hf⟩ := gd_e hf
      refine aw_ia (q := (pt + 3)) (pc' := 17) H0 (okH.a3 o_pt) g3 dX3_mostLean_16 rfl ?_
      refine aw_ldc (pc' := 19) dX3_mostLean_17 rfl ct_RX3_31 ?_
      refine aw_icmp_ne (tgt := 27) (pc' := 22) dX3_mostLean_19 rfl rfl (fun c4 => ?_) (fun c4 => ?_)
      · replace hf := ifn c4 hf
        refine aw_aload_n (pc' := 28) dX3_mostLean_27 rfl rfl rfl ?_
        refine aw_gr (q := pt) (e := 7) (v := .ref (pt + 3 + 8)) (pc' := 31) H0 (okH.ob o_pt) (by decide) rfl rfl dX3_mostLean_28 rfl fl_RX3_18 ?_
        refine aw_iload_n (pc' := 32) dX3_mostLean_31 rfl rfl ?_
        obtain ⟨g5, hf⟩ := gd_e hf
        refine aw_ia (q := (pt + 3)) (pc' := 33) H0 (okH.a3 o_pt) g5 dX3_mostLean_32 rfl ?_
        refine aw_iload_n (pc' := 34) dX3_mostLean_33 rfl rfl ?_
        refine aw_iadd (pc' := 35) dX3_mostLean_34 rfl ?_
        obtain rfl := Option.some.inj hf
        exact aw_ri dX3_mostLean_35 rfl rfl (Nat.le_of_ble_eq_true rfl) (Nat.le_of_ble_eq_true rfl) ⟨rfl, rfl⟩
      · replace hf := ifp c4 hf
        refine aw_bipush (v := 8) (pc' := 24) dX3_mostLean_22 rfl bp_8 ?_
        refine aw_goto (tgt := 35) dX3_mostLean_24 rfl ?_
        obtain rfl := Option.some.inj hf
        exact aw_ri dX3_mostLean_35 rfl rfl (Nat.le_of_ble_eq_true rfl) (Nat.le_of_ble_eq_true rfl) ⟨rfl, rfl⟩
/-! ThirtyThreeBelow$Mountain.moveTold -/
noncomputable def f_X5_moveTold (s0 : SS) (a0 : Int32) (a1 : Int32) : Option (Int32 × SS) := (if (zS s0 1 4) < (60 : Int32) then (vl ((zS s0 1 4)) fun v2 => (gd (inB v2 60) (st (pI s0 4 (v2.toInt.toNat) a0) fun s4 => (vl ((zS s4 1 4)) fun v5 => (gd (inB v5 60) (st (pI s4 5 (v5.toInt.toNat) a1) fun s7 => (vl (((zS s7 1 4) + (1 : Int32))) fun v8 => (st (pS s7 1 4 v8) fun s10 => some ((zS s10 1 4), s10))))))))) else some ((-3), s0))
set_option maxRecDepth 4000 in
theorem t_X5_moveTold {r9 : Int32} {s0 s9 : SS} {h0 : List aE} {a0 : Int32} {a1 : Int32} (H0 : HH s0 h0) (hf : f_X5_moveTold s0 a0 a1 = some (r9, s9)) : AM mX5_moveTold (0) [.ref 9, .int a0, .int a1] h0 0 0 (PI fun r' h' => r9 = r' ∧ HH s9 h' ∧ Mo s0 s9) := by
  unfold f_X5_moveTold at hf
  refine am_of (lv := [some (.ref 9), some (.int a0), some (.int a1)]) rfl (Nat.le_of_ble_eq_true rfl) rfl ?_
  refine aw_aload_n (pc' := 1) dX5_moveTold_0 rfl rfl rfl ?_
  refine aw_gi (q := 1) (pc' := 4) H0 (H0.fo rfl rfl) (l13 rfl) rfl dX5_moveTold_1 rfl fl_RX5_30 ?_
  refine aw_bipush (v := 60) (pc' := 6) dX5_moveTold_4 rfl bp_60 ?_
  refine aw_clt (tgt := 12) (pc' := 9) dX5_moveTold_6 rfl rfl (fun c1 => ?_) (fun c1 => ?_)
  · replace hf := ifp c1 hf
    refine aw_aload_n (pc' := 13) dX5_moveTold_12 rfl rfl rfl ?_
    refine aw_gr (q := 1) (e := 7) (v := .ref 12) (pc' := 16) H0 (H0.fo rfl rfl) (l13 rfl) rfl rfl dX5_moveTold_13 rfl fl_RX5_18 ?_
    refine aw_aload_n (pc' := 17) dX5_moveTold_16 rfl rfl rfl ?_
    refine aw_gi (q := 1) (pc' := 20) H0 (H0.fo rfl rfl) (l13 rfl) rfl dX5_moveTold_17 rfl fl_RX5_30 ?_
    refine aw_iload_n (pc' := 21) dX5_moveTold_20 rfl rfl ?_
    obtain ⟨v2, ev2, hf⟩ := vl_e hf
    refine aw_sndi ev2 ?_
    obtain ⟨g3, hf⟩ := gd_e hf
    obtain ⟨s4, es4, hf⟩ := st_e hf
    refine aw_is (q := 4) (pc' := 22) es4 H0 (H0.fa rfl rfl rfl) g3 dX5_moveTold_21 rfl (fun h4 H4 => ?_)
    have m4 := Mo.ofI es4
    refine aw_aload_n (pc' := 23) dX5_moveTold_22 rfl rfl rfl ?_
    refine aw_gr (q := 1) (e := 9) (v := .ref 13) (pc' := 26) H4 (H4.fo rfl rfl) (l13 rfl) rfl rfl dX5_moveTold_23 rfl fl_RX5_21 ?_
    refine aw_aload_n (pc' := 27) dX5_moveTold_26 rfl rfl rfl ?_
    refine aw_gi (q := 1) (pc' := 30) H4 (H4.fo rfl rfl) (l13 rfl) rfl dX5_moveTold_27 rfl fl_RX5_30 ?_
    refine aw_iload_n (pc' := 31) dX5_moveTold_30 rfl rfl ?_
    obtain ⟨v5, ev5, hf⟩ := vl_e hf
    refine aw_sndi ev5 ?_
    obtain ⟨g6, hf⟩ := gd_e hf
    obtain ⟨s7, es7, hf⟩ := st_e hf
    refine aw_is (q := 5) (pc' := 32) es7 H4 (H4.fa rfl rfl rfl) g6 dX5_moveTold_31 rfl (fun h7 H7 => ?_)
    have m7 := Mo.ofI es7
    refine aw_aload_n (pc' := 33) dX5_moveTold_32 rfl rfl rfl ?_
    refine aw_dup (pc' := 34) dX5_moveTold_33 rfl rfl ?_
    refine aw_gi (q := 1) (pc' := 37) H7 (H7.fo rfl rfl) (l13 rfl) rfl dX5_moveTold_34 rfl fl_RX5_30 ?_
    refine aw_iconst (v := 1) (pc' := 38) dX5_moveTold_37 rfl ic_1 ?_
    refine aw_iadd (pc' := 39) dX5_moveTold_38 rfl ?_
    obtain ⟨v8, ev8, hf⟩ := vl_e hf
    refine aw_topi ev8 ?_
    obtain ⟨s10, es10, hf⟩ := st_e hf
    refine aw_pi (q := 1) (pc' := 42) es10 H7 (H7.fo rfl rfl) (by decide) rfl dX5_moveTold_39 rfl fl_RX5_30 rfl (fun h10 H10 => ?_)
    have m10 := Mo.ofS es10
    refine aw_aload_n (pc' := 43) dX5_moveTold_42 rfl rfl rfl ?_
    refine aw_gi (q := 1) (pc' := 46) H10 (H10.fo rfl rfl) (l13 rfl) rfl dX5_moveTold_43 rfl fl_RX5_30 ?_
    obtain ⟨rfl, rfl⟩ := so2 hf
    exact aw_ri dX5_moveTold_46 rfl rfl (Nat.le_of_ble_eq_true rfl) (Nat.le_of_ble_eq_true rfl) ⟨rfl, H10, ((m4.tr m7).tr m10)⟩
  · replace hf := ifn c1 hf
    refine aw_bipush (v := (-3)) (pc' := 11) dX5_moveTold_9 rfl bp_m3 ?_
    obtain ⟨rfl, rfl⟩ := so2 hf
    exact aw_ri dX5_moveTold_11 rfl rfl (Nat.le_of_ble_eq_true rfl) (Nat.le_of_ble_eq_true rfl) ⟨rfl, H0, (Mo.rf _)⟩
/-! ThirtyThreeBelow$Plans.needTold -/
noncomputable def f_X6_needTold (s0 : SS) (a0 : Int32) (a1 : Int32) (a2 : Int32) : Option (Int32 × SS) := (if (zS s0 34 3) < (10 : Int32) then (vl ((zS s0 34 3)) fun v2 => (gd (inB v2 10) (st (pI s0 35 (v2.toInt.toNat) a0) fun s4 => (vl ((zS s4 34 3)) fun v5 => (gd (inB v5 10) (st (pI s4 36 (v5.toInt.toNat) a1) fun s7 => (vl ((zS s7 34 3)) fun v8 => (gd (inB v8 10) (st (pI s7 37 (v8.toInt.toNat) a2) fun s11 => (vl (((zS s11 34 3) + (1 : Int32))) fun v12 => (st (pS s11 34 3 v12) fun s13 => some ((zS s13 34 3), s13)))))))))))) else some ((-3), s0))
set_option maxRecDepth 4000 in
theorem t_X6_needTold {r9 : Int32} {s0 s9 : SS} {h0 : List aE} {a0 : Int32} {a1 : Int32} {a2 : Int32} (H0 : HH s0 h0) (hf : f_X6_needTold s0 a0 a1 a2 = some (r9, s9)) : AM mX6_needTold (0) [.ref 42, .int a0, .int a1, .int a2] h0 0 0 (PI fun r' h' => r9 = r' ∧ HH s9 h' ∧ Mo s0 s9) := by
  unfold f_X6_needTold at hf
  refine am_of (lv := [some (.ref 42), some (.int a0), some (.int a1), some (.int a2)]) rfl (Nat.le_of_ble_eq_true rfl) rfl ?_
  refine aw_aload_n (pc' := 1) dX6_needTold_0 rfl rfl rfl ?_
  refine aw_gi (q := 34) (pc' := 4) H0 (H0.fo rfl rfl) (l13 rfl) rfl dX6_needTold_1 rfl fl_RX6_51 ?_
  refine aw_bipush (v := 10) (pc' := 6) dX6_needTold_4 rfl bp_10 ?_
  refine aw_clt (tgt := 12) (pc' := 9) dX6_needTold_6 rfl rfl (fun c1 => ?_) (fun c1 => ?_)
  · replace hf := ifp c1 hf
    refine aw_aload_n (pc' := 13) dX6_needTold_12 rfl rfl rfl ?_
    refine aw_gr (q := 34) (e := 3) (v := .ref 43) (pc' := 16) H0 (H0.fo rfl rfl) (l13 rfl) rfl rfl dX6_needTold_13 rfl fl_RX6_11 ?_
    refine aw_aload_n (pc' := 17) dX6_needTold_16 rfl rfl rfl ?_
    refine aw_gi (q := 34) (pc' := 20) H0 (H0.fo rfl rfl) (l13 rfl) rfl dX6_needTold_17 rfl fl_RX6_51 ?_
    refine aw_iload_n (pc' := 21) dX6_needTold_20 rfl rfl ?_
    obtain ⟨v2, ev2, hf⟩ := vl_e hf
    refine aw_sndi ev2 ?_
    obtain ⟨g3, hf⟩ := gd_e hf
    obtain ⟨s4, es4, hf⟩ := st_e hf
    refine aw_is (q := 35) (pc' := 22) es4 H0 (H0.fa rfl rfl rfl) g3 dX6_needTold_21 rfl (fun h4 H4 => ?_)
    have m4 := Mo.ofI es4
    refine aw_aload_n (pc' := 23) dX6_needTold_22 rfl rfl rfl ?_
    refine aw_gr (q := 34) (e := 5) (v := .ref 44) (pc' := 26) H4 (H4.fo rfl rfl) (l13 rfl) rfl rfl dX6_needTold_23 rfl fl_RX6_15 ?_
    refine aw_aload_n (pc' := 27) dX6_needTold_26 rfl rfl rfl ?_
    refine aw_gi (q := 34) (pc' := 30) H4 (H4.fo rfl rfl) (l13 rfl) rfl dX6_needTold_27 rfl fl_RX6_51 ?_
    refine aw_iload_n (pc' := 31) dX6_needTold_30 rfl rfl ?_
    obtain ⟨v5, ev5, hf⟩ := vl_e hf
    refine aw_sndi ev5 ?_
    obtain ⟨g6, hf⟩ := gd_e hf
    obtain ⟨s7, es7, hf⟩ := st_e hf
    refine aw_is (q := 36) (pc' := 32) es7 H4 (H4.fa rfl rfl rfl) g6 dX6_needTold_31 rfl (fun h7 H7 => ?_)
    have m7 := Mo.ofI es7
    refine aw_aload_n (pc' := 33) dX6_needTold_32 rfl rfl rfl ?_
    refine aw_gr (q := 34) (e := 7) (v := .ref 45) (pc' := 36) H7 (H7.fo rfl rfl) (l13 rfl) rfl rfl dX6_needTold_33 rfl fl_RX6_18 ?_
    refine aw_aload_n (pc' := 37) dX6_needTold_36 rfl rfl rfl ?_
    refine aw_gi (q := 34) (pc' := 40) H7 (H7.fo rfl rfl) (l13 rfl) rfl dX6_needTold_37 rfl fl_RX6_51 ?_
    refine aw_iload_n (pc' := 41) dX6_needTold_40 rfl rfl ?_
    obtain ⟨v8, ev8, hf⟩ := vl_e hf
    refine aw_sndi ev8 ?_
    obtain ⟨g10, hf⟩ := gd_e hf
    obtain ⟨s11, es11, hf⟩ := st_e hf
    refine aw_is (q := 37) (pc' := 42) es11 H7 (H7.fa rfl rfl rfl) g10 dX6_needTold_41 rfl (fun h11 H11 => ?_)
    have m11 := Mo.ofI es11
    refine aw_aload_n (pc' := 43) dX6_needTold_42 rfl rfl rfl ?_
    refine aw_dup (pc' := 44) dX6_needTold_43 rfl rfl ?_
    refine aw_gi (q := 34) (pc' := 47) H11 (H11.fo rfl rfl) (l13 rfl) rfl dX6_needTold_44 rfl fl_RX6_51 ?_
    refine aw_iconst (v := 1) (pc' := 48) dX6_needTold_47 rfl ic_1 ?_
    refine aw_iadd (pc' := 49) dX6_needTold_48 rfl ?_
    obtain ⟨v12, ev12, hf⟩ := vl_e hf
    refine aw_topi ev12 ?_
    obtain ⟨s13, es13, hf⟩ := st_e hf
    refine aw_pi (q := 34) (pc' := 52) es13 H11 (H11.fo rfl rfl) (by decide) rfl dX6_needTold_49 rfl fl_RX6_51 rfl (fun h13 H13 => ?_)
    have m13 := Mo.ofS es13
    refine aw_aload_n (pc' := 53) dX6_needTold_52 rfl rfl rfl ?_
    refine aw_gi (q := 34) (pc' := 56) H13 (H13.fo rfl rfl) (l13 rfl) rfl dX6_needTold_53 rfl fl_RX6_51 ?_
    obtain ⟨rfl, rfl⟩ := so2 hf
    exact aw_ri dX6_needTold_56 rfl rfl (Nat.le_of_ble_eq_true rfl) (Nat.le_of_ble_eq_true rfl) ⟨rfl, H13, (((m4.tr m7).tr m11).tr m13)⟩
  · replace hf := ifn c1 hf
    refine aw_bipush (v := (-3)) (pc' := 11) dX6_needTold_9 rfl bp_m3 ?_
    obtain ⟨rfl, rfl⟩ := so2 hf
    exact aw_ri dX6_needTold_11 rfl rfl (Nat.le_of_ble_eq_true rfl) (Nat.le_of_ble_eq_true rfl) ⟨rfl, H0, (Mo.rf _)⟩
/-! ThirtyThreeBelow$Plans.sumWith -/
noncomputable def f_X6_sumWith (s0 : SS) (a0 : Int32) (a1 : Int32) : Option Int32 := (gd (inB a0 1024) (gd (inB a1 10) (gd (inB a1 10) (b1 (f_J9_max_7cf53 (0 : Int32) (((zI s0 39 (a0.toInt.toNat)) + (zI s0 35 (a1.toInt.toNat))) - (zI s0 37 (a1.toInt.toNat)))) fun r4 => (gd (inB a1 10) (vl ((a0 ||| ((1 : Int32) <<< (a1 &&& 31)))) fun v6 => (gd (inB v6 1024) (some (((zI s0 36 (a1.toInt.toNat)) * r4) + (zI s0 38 (v6.toInt.toNat)))))))))))
set_option maxRecDepth 4000 in
theorem t_X6_sumWith {r9 : Int32} {s0 : SS} {h0 : List aE} {a0 : Int32} {a1 : Int32} (H0 : HH s0 h0) (hf : f_X6_sumWith s0 a0 a1 = some r9) : AM mX6_sumWith (1) [.ref 42, .int a0, .int a1] h0 0 0 (PI fun r' h' => r9 = r' ∧ h0 = h') := by
  unfold f_X6_sumWith at hf
  refine am_of (lv := [some (.ref 42), some (.int a0), some (.int a1), none]) rfl (Nat.le_of_ble_eq_true rfl) rfl ?_
  refine aw_iconst (v := 0) (pc' := 1) dX6_sumWith_0 rfl ic_0 ?_
  refine aw_aload_n (pc' := 2) dX6_sumWith_1 rfl rfl rfl ?_
  refine aw_gr (q := 34) (e := 11) (v := .ref 47) (pc' := 5) H0 (H0.fo rfl rfl) (l13 rfl) rfl rfl dX6_sumWith_2 rfl fl_RX6_24 ?_
  refine aw_iload_n (pc' := 6) dX6_sumWith_5 rfl rfl ?_
  obtain ⟨g1, hf⟩ := gd_e hf
  refine aw_ia (q := 39) (pc' := 7) H0 (H0.fa rfl rfl rfl) g1 dX6_sumWith_6 rfl ?_
  refine aw_aload_n (pc' := 8) dX6_sumWith_7 rfl rfl rfl ?_
  refine aw_gr (q := 34) (e := 3) (v := .ref 43) (pc' := 11) H0 (H0.fo rfl rfl) (l13 rfl) rfl rfl dX6_sumWith_8 rfl fl_RX6_11 ?_
  refine aw_iload_n (pc' := 12) dX6_sumWith_11 rfl rfl ?_
  obtain ⟨g2, hf⟩ := gd_e hf
  refine aw_ia (q := 35) (pc' := 13) H0 (H0.fa rfl rfl rfl) g2 dX6_sumWith_12 rfl ?_
  refine aw_iadd (pc' := 14) dX6_sumWith_13 rfl ?_
  refine aw_aload_n (pc' := 15) dX6_sumWith_14 rfl rfl rfl ?_
  refine aw_gr (q := 34) (e := 7) (v := .ref 45) (pc' := 18) H0 (H0.fo rfl rfl) (l13 rfl) rfl rfl dX6_sumWith_15 rfl fl_RX6_18 ?_
  refine aw_iload_n (pc' := 19) dX6_sumWith_18 rfl rfl ?_
  obtain ⟨g3, hf⟩ := gd_e hf
  refine aw_ia (q := 37) (pc' := 20) H0 (H0.fa rfl rfl rfl) g3 dX6_sumWith_19 rfl ?_
  refine aw_isub (pc' := 21) dX6_sumWith_20 rfl ?_
  obtain ⟨r4, ec4, hf⟩ := b1_e hf
  refine aw_callSi (M' := mJ9_max_7cf53) (nc' := 0) (ns' := 0) (pc' := 24) dX6_sumWith_21 rfl ml_RX6_68 kJ9_max_7cf53 (t_J9_max_7cf53 ec4) rfl rfl (Nat.le_of_ble_eq_true rfl) (rokD (by omega) (Nat.le_of_ble_eq_true rfl) (Nat.le_of_ble_eq_true rfl) (Nat.le_of_ble_eq_true rfl)) rfl rfl (fun _ h4 q4 => ?_)
  obtain ⟨rfl, rfl⟩ := q4
  refine aw_istore_n (lv' := [_, _, _, _]) (pc' := 25) dX6_sumWith_24 rfl (Nat.le_of_ble_eq_true rfl) rfl ?_
  refine aw_aload_n (pc' := 26) dX6_sumWith_25 rfl rfl rfl ?_
  refine aw_gr (q := 34) (e := 5) (v := .ref 44) (pc' := 29) H0 (H0.fo rfl rfl) (l13 rfl) rfl rfl dX6_sumWith_26 rfl fl_RX6_15 ?_
  refine aw_iload_n (pc' := 30) dX6_sumWith_29 rfl rfl ?_
  obtain ⟨g5, hf⟩ := gd_e hf
  refine aw_ia (q := 36) (pc' := 31) H0 (H0.fa rfl rfl rfl) g5 dX6_sumWith_30 rfl ?_
  refine aw_iload_n (pc' := 32) dX6_sumWith_31 rfl rfl ?_
  refine aw_imul (pc' := 33) dX6_sumWith_32 rfl ?_
  refine aw_aload_n (pc' := 34) dX6_sumWith_33 rfl rfl rfl ?_
  refine aw_gr (q := 34) (e := 9) (v := .ref 46) (pc' := 37) H0 (H0.fo rfl rfl) (l13 rfl) rfl rfl dX6_sumWith_34 rfl fl_RX6_21 ?_
  refine aw_iload_n (pc' := 38) dX6_sumWith_37 rfl rfl ?_
  refine aw_iconst (v := 1) (pc' := 39) dX6_sumWith_38 rfl ic_1 ?_
  refine aw_iload_n (pc' := 40) dX6_sumWith_39 rfl rfl ?_
  refine aw_ishl (pc' := 41) dX6_sumWith_40 rfl ?_
  refine aw_ior (pc' := 42) dX6_sumWith_41 rfl ?_
  obtain ⟨v6, ev6, hf⟩ := vl_e hf
  refine aw_topi ev6 ?_
  obtain ⟨g7, hf⟩ := gd_e hf
  refine aw_ia (q := 38) (pc' := 43) H0 (H0.fa rfl rfl rfl) g7 dX6_sumWith_42 rfl ?_
  refine aw_iadd (pc' := 44) dX6_sumWith_43 rfl ?_
  obtain rfl := Option.some.inj hf
  exact aw_ri dX6_sumWith_44 rfl rfl (Nat.le_of_ble_eq_true rfl) (Nat.le_of_ble_eq_true rfl) ⟨rfl, rfl⟩
/-! ThirtyThreeBelow$Plans.placesFollow -/
noncomputable def f_X6_placesFollow_L14_b (q0 : Int32 → Option SS) (sb : SS) (y1 : Int32) (y2 : Int32) (rc : Int32 → Option SS) (x3 : Int32) : Option SS := (if x3 < ((zS sb 34 3) - (1 : Int32)) then (jn ((vl (x3 + 1) fun v4 => (rc v4))) fun k3 => (if (y1 &&& ((1 : Int32) <<< (x3 &&& 31))) = (0 : Int32) then (b1 (f_X6_sumWith sb y1 x3) fun r6 => (gd (inB y1 1024) (if r6 = (zI sb 38 (y1.toInt.toNat)) then (q0 x3) else k3))) else k3)) else (q0 x3))
noncomputable def f_X6_placesFollow_L14 (q0 : Int32 → Option SS) (sb : SS) (y1 : Int32) (y2 : Int32) : Nat → Int32 → Option SS
  | 0, _ => none
  | n + 1, x3 => f_X6_placesFollow_L14_b q0 sb y1 y2 (f_X6_placesFollow_L14 q0 sb y1 y2 n) x3
set_option maxRecDepth 4000 in
theorem t_X6_placesFollow_L14 {s0 sb s9 : SS} {hb : List aE} {q0 : Int32 → Option SS} {y1 : Int32} {y2 : Int32} (Hb : HH sb hb) (mb : Mo s0 sb) (hq0 : ∀ (x3 : Int32), q0 x3 = some s9 → AW mX6_placesFollow (rmD (2) 0 0) (fin (PV fun h' => HH s9 h' ∧ Mo s0 s9) 0 0) 53 [some (.ref 42), some (.int y1), some (.int y2), some (.int x3)] [] hb 0 0) : ∀ (n : Nat) (x3 : Int32), f_X6_placesFollow_L14 q0 sb y1 y2 n x3 = some s9 → AW mX6_placesFollow (rmD (2) 0 0) (fin (PV fun h' => HH s9 h' ∧ Mo s0 s9) 0 0) 14 [some (.ref 42), some (.int y1), some (.int y2), some (.int x3)] [] hb 0 0 := by
  intro n
  induction n with
  | zero =>
    intro x3 hf
    cases hf
  | succ n ih =>
    intro x3 hf
    replace hf : f_X6_placesFollow_L14_b q0 sb y1 y2 (f_X6_placesFollow_L14 q0 sb y1 y2 n) x3 = some s9 := hf
    unfold f_X6_placesFollow_L14_b at hf
    refine aw_iload_n (pc' := 15) dX6_placesFollow_14 rfl rfl ?_
    refine aw_aload_n (pc' := 16) dX6_placesFollow_15 rfl rfl rfl ?_
    refine aw_gi (q := 34) (pc' := 19) Hb (Hb.fo rfl rfl) (by decide) rfl dX6_placesFollow_16 rfl fl_RX6_51 ?_
    refine aw_iconst (v := 1) (pc' := 20) dX6_placesFollow_19 rfl ic_1 ?_
    refine aw_isub (pc' := 21) dX6_placesFollow_20 rfl ?_
    refine aw_cge (tgt := 53) (pc' := 24) dX6_placesFollow_21 rfl rfl (fun c2 => ?_) (fun c2 => ?_)
    · replace hf := ifn c2 hf
      exact hq0 _ hf
    · replace hf := ifp c2 hf
      refine aw_iload_n (pc' := 25) dX6_placesFollow_24 rfl rfl ?_
      refine aw_iconst (v := 1) (pc' := 26) dX6_placesFollow_25 rfl ic_1 ?_
      refine aw_iload_n (pc' := 27) dX6_placesFollow_26 rfl rfl ?_
      refine aw_ishl (pc' := 28) dX6_placesFollow_27 rfl ?_
      refine aw_iand (pc' := 29) dX6_placesFollow_28 rfl ?_
      obtain ⟨k3, ek3, hf⟩ := jn_e hf
      have hk3 : k3 = some s9 → AW mX6_placesFollow (rmD (2) 0 0) (fin (PV fun h' => HH s9 h' ∧ Mo s0 s9) 0 0) 47 [some (.ref 42), some (.int y1), some (.int y2), some (.int x3)] [] hb 0 0 := by
        intro hf
        subst ek3
        obtain ⟨v4, ev4, hf⟩ := vl_e hf
        refine aw_iincV (y := v4) (lv' := [_, _, _, _]) (pc' := 50) dX6_placesFollow_47 rfl rfl (Nat.le_of_ble_eq_true rfl) ev4 rfl ?_
        refine aw_goto (tgt := 14) dX6_placesFollow_50 rfl ?_
        exact ih _ hf
      clear ek3
      refine aw_if_ne (tgt := 47) (pc' := 32) dX6_placesFollow_29 rfl rfl (fun c5 => ?_) (fun c5 => ?_)
      · replace hf := ifn c5 hf
        exact hk3  hf
      · replace hf := ifp c5 hf
        refine aw_aload_n (pc' := 33) dX6_placesFollow_32 rfl rfl rfl ?_
        refine aw_iload_n (pc' := 34) dX6_placesFollow_33 rfl rfl ?_
        refine aw_iload_n (pc' := 35) dX6_placesFollow_34 rfl rfl ?_
        obtain ⟨r6, ec6, hf⟩ := b1_e hf
        refine aw_callVi (M' := mX6_sumWith) (nc' := 0) (ns' := 0) (pc' := 38) dX6_placesFollow_35 rfl ml_RX6_56 kX6_sumWith (t_X6_sumWith Hb ec6) (Hb.ob (Hb.fo rfl rfl) (by decide)) rfl rfl rfl (Nat.le_of_ble_eq_true rfl) (rokD (by omega) (Nat.le_of_ble_eq_true rfl) (Nat.le_of_ble_eq_true rfl) (Nat.le_of_ble_eq_true rfl)) rfl rfl (fun _ h6 q6 => ?_)
        obtain ⟨rfl, rfl⟩ := q6
        refine aw_aload_n (pc' := 39) dX6_placesFollow_38 rfl rfl rfl ?_
        refine aw_gr (q := 34) (e := 9) (v := .ref 46) (pc' := 42) Hb (Hb.fo rfl rfl) (by decide) rfl rfl dX6_placesFollow_39 rfl fl_RX6_21 ?_
        refine aw_iload_n (pc' := 43) dX6_placesFollow_42 rfl rfl ?_
        obtain ⟨g7, hf⟩ := gd_e hf
        refine aw_ia (q := 38) (pc' := 44) Hb (Hb.fa rfl rfl rfl) g7 dX6_placesFollow_43 rfl ?_
        refine aw_icmp_eq (tgt := 53) (pc' := 47) dX6_placesFollow_44 rfl rfl (fun c8 => ?_) (fun c8 => ?_)
        · replace hf := ifp c8 hf
          exact hq0 _ hf
        · replace hf := ifn c8 hf
          exact hk3  hf
noncomputable def f_X6_placesFollow_L4_b (q0 : SS → Option SS) (rc : SS → Int32 → Int32 → Option SS) (s : SS) (x1 : Int32) (x2 : Int32) : Option SS := (if x2 < (zS s 34 3) then (f_X6_placesFollow_L14 (fun (x10_3 : Int32) => (gd (inB x2 10) (st (pI s 40 (x2.toInt.toNat) x10_3) fun s12 => (vl ((x1 ||| ((1 : Int32) <<< (x10_3 &&& 31)))) fun v13 => (vl (x2 + 1) fun v14 => (rc s12 v13 v14)))))) s x1 x2 4000 0) else (q0 s))
noncomputable def f_X6_placesFollow_L4 (q0 : SS → Option SS) : Nat → SS → Int32 → Int32 → Option SS
  | 0, _, _, _ => none
  | n + 1, s, x1, x2 => f_X6_placesFollow_L4_b q0 (f_X6_placesFollow_L4 q0 n) s x1 x2
set_option maxRecDepth 4000 in
theorem t_X6_placesFollow_L4 {s0 sb s9 : SS} {q0 : SS → Option SS} (mb : Mo s0 sb) (hq0 : ∀ (s : SS) (h : List aE), HH s h → Mo sb s → q0 s = some s9 → AW mX6_placesFollow (rmD (2) 0 0) (fin (PV fun h' => HH s9 h' ∧ Mo s0 s9) 0 0) 72 [some (.ref 42), none, none, none] [] h 0 0) : ∀ (n : Nat) (s : SS) (h : List aE) (x1 : Int32) (x2 : Int32), HH s h → Mo sb s → f_X6_placesFollow_L4 q0 n s x1 x2 = some s9 → AW mX6_placesFollow (rmD (2) 0 0) (fin (PV fun h' => HH s9 h' ∧ Mo s0 s9) 0 0) 4 [some (.ref 42), some (.int x1), some (.int x2), none] [] h 0 0 := by
  intro n
  induction n with
  | zero =>
    intro s h x1 x2 H ms hf
    cases hf
  | succ n ih =>
    intro s h x1 x2 H ms hf
    replace hf : f_X6_placesFollow_L4_b q0 (f_X6_placesFollow_L4 q0 n) s x1 x2 = some s9 := hf
    unfold f_X6_placesFollow_L4_b at hf
    refine aw_iload_n (pc' := 5) dX6_placesFollow_4 rfl rfl ?_
    refine aw_aload_n (pc' := 6) dX6_placesFollow_5 rfl rfl rfl ?_
    refine aw_gi (q := 34) (pc' := 9) H (H.fo rfl rfl) (by decide) rfl dX6_placesFollow_6 rfl fl_RX6_51 ?_
    refine aw_cge (tgt := 72) (pc' := 12) dX6_placesFollow_9 rfl rfl (fun c1 => ?_) (fun c1 => ?_)
    · replace hf := ifn c1 hf
      refine AW.lv_le (lz_k (lz_d (lz_d (lz_d lz_0)))) ?_
      exact hq0 _ _ H ms hf
    · replace hf := ifp c1 hf
      refine aw_iconst (v := 0) (pc' := 13) dX6_placesFollow_12 rfl ic_0 ?_
      refine aw_istore_n (lv' := [_, _, _, _]) (pc' := 14) dX6_placesFollow_13 rfl (Nat.le_of_ble_eq_true rfl) rfl ?_
      refine t_X6_placesFollow_L14 H (mb.tr ms) (fun x10_3 hf => ?_) 4000 _ hf
      refine aw_aload_n (pc' := 54) dX6_placesFollow_53 rfl rfl rfl ?_
      refine aw_gr (q := 34) (e := 13) (v := .ref 48) (pc' := 57) H (H.fo rfl rfl) (by decide) rfl rfl dX6_placesFollow_54 rfl fl_RX6_27 ?_
      refine aw_iload_n (pc' := 58) dX6_placesFollow_57 rfl rfl ?_
      refine aw_iload_n (pc' := 59) dX6_placesFollow_58 rfl rfl ?_
      obtain ⟨g11, hf⟩ := gd_e hf
      obtain ⟨s12, es12, hf⟩ := st_e hf
      refine aw_is (q := 40) (pc' := 60) es12 H (H.fa rfl rfl rfl) g11 dX6_placesFollow_59 rfl (fun h12 H12 => ?_)
      have m12 := Mo.ofI es12
      refine aw_iload_n (pc' := 61) dX6_placesFollow_60 rfl rfl ?_
      refine aw_iconst (v := 1) (pc' := 62) dX6_placesFollow_61 rfl ic_1 ?_
      refine aw_iload_n (pc' := 63) dX6_placesFollow_62 rfl rfl ?_
      refine aw_ishl (pc' := 64) dX6_placesFollow_63 rfl ?_
      refine aw_ior (pc' := 65) dX6_placesFollow_64 rfl ?_
      obtain ⟨v13, ev13, hf⟩ := vl_e hf
      refine aw_topi ev13 ?_
      refine aw_istore_n (lv' := [_, _, _, _]) (pc' := 66) dX6_placesFollow_65 rfl (Nat.le_of_ble_eq_true rfl) rfl ?_
      obtain ⟨v14, ev14, hf⟩ := vl_e hf
      refine aw_iincV (y := v14) (lv' := [_, _, _, _]) (pc' := 69) dX6_placesFollow_66 rfl rfl (Nat.le_of_ble_eq_true rfl) ev14 rfl ?_
      refine aw_goto (tgt := 4) dX6_placesFollow_69 rfl ?_
      refine AW.lv_le (lz_k (lz_k (lz_k (lz_d lz_0)))) ?_
      exact ih _ _ _ _ H12 (ms.tr m12) hf
noncomputable def f_X6_placesFollow (s0 : SS)  : Option SS := (f_X6_placesFollow_L4 (fun (s15 : SS)  => (vl ((zS s15 34 3)) fun v16 => (st (pS s15 34 7 v16) fun s17 => some s17))) 4000 s0 0 0)
set_option maxRecDepth 4000 in
theorem t_X6_placesFollow {s0 s9 : SS} {h0 : List aE}  (H0 : HH s0 h0) (hf : f_X6_placesFollow s0 = some s9) : AM mX6_placesFollow (2) [.ref 42] h0 0 0 (PV fun h' => HH s9 h' ∧ Mo s0 s9) := by
  unfold f_X6_placesFollow at hf
  refine am_of (lv := [some (.ref 42), none, none, none]) rfl (Nat.le_of_ble_eq_true rfl) rfl ?_
  refine aw_iconst (v := 0) (pc' := 1) dX6_placesFollow_0 rfl ic_0 ?_
  refine aw_istore_n (lv' := [_, _, _, _]) (pc' := 2) dX6_placesFollow_1 rfl (Nat.le_of_ble_eq_true rfl) rfl ?_
  refine aw_iconst (v := 0) (pc' := 3) dX6_placesFollow_2 rfl ic_0 ?_
  refine aw_istore_n (lv' := [_, _, _, _]) (pc' := 4) dX6_placesFollow_3 rfl (Nat.le_of_ble_eq_true rfl) rfl ?_
  refine t_X6_placesFollow_L4 (Mo.rf _) (fun s15 h15 H15 m15 hf => ?_) 4000 _ _ _ _ H0 (Mo.rf _) hf
  refine aw_aload_n (pc' := 73) dX6_placesFollow_72 rfl rfl rfl ?_
  refine aw_aload_n (pc' := 74) dX6_placesFollow_73 rfl rfl rfl ?_
  refine aw_gi (q := 34) (pc' := 77) H15 (H15.fo rfl rfl) (l13 rfl) rfl dX6_placesFollow_74 rfl fl_RX6_51 ?_
  obtain ⟨v16, ev16, hf⟩ := vl_e hf
  refine aw_topi ev16 ?_
  obtain ⟨s17, es17, hf⟩ := st_e hf
  refine aw_pi (q := 34) (pc' := 80) es17 H15 (H15.fo rfl rfl) (by decide) rfl dX6_placesFollow_77 rfl fl_RX6_71 rfl (fun h17 H17 => ?_)
  have m17 := Mo.ofS es17
  obtain rfl := Option.some.inj hf
  exact aw_rv dX6_placesFollow_80 rfl (Nat.le_of_ble_eq_true rfl) (Nat.le_of_ble_eq_true rfl) ⟨H17, (m15.tr m17)⟩
/-! ThirtyThreeBelow$Plans.leastLateness -/
noncomputable def f_X6_leastLateness_L28_b (q0 : SS → Option (Int32 × SS)) (y1 : Int32) (y2 : Int32) (rc : SS → Int32 → Option (Int32 × SS)) (s : SS) (x3 : Int32) : Option (Int32 × SS) := (if x3 < ((1 : Int32) <<< (y2 &&& 31)) then (gd (inB x3 1024) (gd (inB y2 10) (vl (((zI s 39 (x3.toInt.toNat)) + (zI s 35 (y2.toInt.toNat)))) fun v7 => (vl ((x3 ||| ((1 : Int32) <<< (y2 &&& 31)))) fun v8 => (gd (inB v8 1024) (st (pI s 39 (v8.toInt.toNat) v7) fun s11 => (vl (x3 + 1) fun v12 => (rc s11 v12)))))))) else (q0 s))
noncomputable def f_X6_leastLateness_L28 (q0 : SS → Option (Int32 × SS)) (y1 : Int32) (y2 : Int32) : Nat → SS → Int32 → Option (Int32 × SS)
  | 0, _, _ => none
  | n + 1, s, x3 => f_X6_leastLateness_L28_b q0 y1 y2 (f_X6_leastLateness_L28 q0 y1 y2 n) s x3
set_option maxRecDepth 4000 in
theorem t_X6_leastLateness_L28 {r9 : Int32} {s0 sb s9 : SS} {q0 : SS → Option (Int32 × SS)} {y1 : Int32} {y2 : Int32} (mb : Mo s0 sb) (hq0 : ∀ (s : SS) (h : List aE), HH s h → Mo sb s → q0 s = some (r9, s9) → AW mX6_leastLateness (rmD (3) 0 0) (fin (PI fun r' h' => r9 = r' ∧ HH s9 h' ∧ Mo s0 s9) 0 0) 64 [some (.ref 42), some (.int y1), some (.int y2), none, none] [] h 0 0) : ∀ (n : Nat) (s : SS) (h : List aE) (x3 : Int32), HH s h → Mo sb s → f_X6_leastLateness_L28 q0 y1 y2 n s x3 = some (r9, s9) → AW mX6_leastLateness (rmD (3) 0 0) (fin (PI fun r' h' => r9 = r' ∧ HH s9 h' ∧ Mo s0 s9) 0 0) 28 [some (.ref 42), some (.int y1), some (.int y2), some (.int x3), none] [] h 0 0 := by
  intro n
  induction n with
  | zero =>
    intro s h x3 H ms hf
    cases hf
  | succ n ih =>
    intro s h x3 H ms hf
    replace hf : f_X6_leastLateness_L28_b q0 y1 y2 (f_X6_leastLateness_L28 q0 y1 y2 n) s x3 = some (r9, s9) := hf
    unfold f_X6_leastLateness_L28_b at hf
    refine aw_iload_n (pc' := 29) dX6_leastLateness_28 rfl rfl ?_
    refine aw_iconst (v := 1) (pc' := 30) dX6_leastLateness_29 rfl ic_1 ?_
    refine aw_iload_n (pc' := 31) dX6_leastLateness_30 rfl rfl ?_
    refine aw_ishl (pc' := 32) dX6_leastLateness_31 rfl ?_
    refine aw_cge (tgt := 64) (pc' := 35) dX6_leastLateness_32 rfl rfl (fun c4 => ?_) (fun c4 => ?_)
    · replace hf := ifn c4 hf
      refine AW.lv_le (lz_k (lz_k (lz_k (lz_d (lz_d lz_0))))) ?_
      exact hq0 _ _ H ms hf
    · replace hf := ifp c4 hf
      refine aw_aload_n (pc' := 36) dX6_leastLateness_35 rfl rfl rfl ?_
      refine aw_gr (q := 34) (e := 11) (v := .ref 47) (pc' := 39) H (H.fo rfl rfl) (by decide) rfl rfl dX6_leastLateness_36 rfl fl_RX6_24 ?_
      refine aw_iload_n (pc' := 40) dX6_leastLateness_39 rfl rfl ?_
      refine aw_iconst (v := 1) (pc' := 41) dX6_leastLateness_40 rfl ic_1 ?_
      refine aw_iload_n (pc' := 42) dX6_leastLateness_41 rfl rfl ?_
      refine aw_ishl (pc' := 43) dX6_leastLateness_42 rfl ?_
      refine aw_ior (pc' := 44) dX6_leastLateness_43 rfl ?_
      refine aw_aload_n (pc' := 45) dX6_leastLateness_44 rfl rfl rfl ?_
      refine aw_gr (q := 34) (e := 11) (v := .ref 47) (pc' := 48) H (H.fo rfl rfl) (by decide) rfl rfl dX6_leastLateness_45 rfl fl_RX6_24 ?_
      refine aw_iload_n (pc' := 49) dX6_leastLateness_48 rfl rfl ?_
      obtain ⟨g5, hf⟩ := gd_e hf
      refine aw_ia (q := 39) (pc' := 50) H (H.fa rfl rfl rfl) g5 dX6_leastLateness_49 rfl ?_
      refine aw_aload_n (pc' := 51) dX6_leastLateness_50 rfl rfl rfl ?_
      refine aw_gr (q := 34) (e := 3) (v := .ref 43) (pc' := 54) H (H.fo rfl rfl) (by decide) rfl rfl dX6_leastLateness_51 rfl fl_RX6_11 ?_
      refine aw_iload_n (pc' := 55) dX6_leastLateness_54 rfl rfl ?_
      obtain ⟨g6, hf⟩ := gd_e hf
      refine aw_ia (q := 35) (pc' := 56) H (H.fa rfl rfl rfl) g6 dX6_leastLateness_55 rfl ?_
      refine aw_iadd (pc' := 57) dX6_leastLateness_56 rfl ?_
      obtain ⟨v7, ev7, hf⟩ := vl_e hf
      refine aw_topi ev7 ?_
      obtain ⟨v8, ev8, hf⟩ := vl_e hf
      refine aw_sndi ev8 ?_
      obtain ⟨g10, hf⟩ := gd_e hf
      obtain ⟨s11, es11, hf⟩ := st_e hf
      refine aw_is (q := 39) (pc' := 58) es11 H (H.fa rfl rfl rfl) g10 dX6_leastLateness_57 rfl (fun h11 H11 => ?_)
      have m11 := Mo.ofI es11
      obtain ⟨v12, ev12, hf⟩ := vl_e hf
      refine aw_iincV (y := v12) (lv' := [_, _, _, _, _]) (pc' := 61) dX6_leastLateness_58 rfl rfl (Nat.le_of_ble_eq_true rfl) ev12 rfl ?_
      refine aw_goto (tgt := 28) dX6_leastLateness_61 rfl ?_
      exact ih _ _ _ H11 (ms.tr m11) hf
noncomputable def f_X6_leastLateness_L18_b (q0 : SS → Option (Int32 × SS)) (y1 : Int32) (rc : SS → Int32 → Option (Int32 × SS)) (s : SS) (x2 : Int32) : Option (Int32 × SS) := (if x2 < (zS s 34 3) then (f_X6_leastLateness_L28 (fun (s13 : SS)  => (vl (x2 + 1) fun v14 => (rc s13 v14))) y1 x2 4000 s 0) else (q0 s))
noncomputable def f_X6_leastLateness_L18 (q0 : SS → Option (Int32 × SS)) (y1 : Int32) : Nat → SS → Int32 → Option (Int32 × SS)
  | 0, _, _ => none
  | n + 1, s, x2 => f_X6_leastLateness_L18_b q0 y1 (f_X6_leastLateness_L18 q0 y1 n) s x2
set_option maxRecDepth 4000 in
theorem t_X6_leastLateness_L18 {r9 : Int32} {s0 sb s9 : SS} {q0 : SS → Option (Int32 × SS)} {y1 : Int32} (mb : Mo s0 sb) (hq0 : ∀ (s : SS) (h : List aE), HH s h → Mo sb s → q0 s = some (r9, s9) → AW mX6_leastLateness (rmD (3) 0 0) (fin (PI fun r' h' => r9 = r' ∧ HH s9 h' ∧ Mo s0 s9) 0 0) 70 [some (.ref 42), some (.int y1), none, none, none] [] h 0 0) : ∀ (n : Nat) (s : SS) (h : List aE) (x2 : Int32), HH s h → Mo sb s → f_X6_leastLateness_L18 q0 y1 n s x2 = some (r9, s9) → AW mX6_leastLateness (rmD (3) 0 0) (fin (PI fun r' h' => r9 = r' ∧ HH s9 h' ∧ Mo s0 s9) 0 0) 18 [some (.ref 42), some (.int y1), some (.int x2), none, none] [] h 0 0 := by
  intro n
  induction n with
  | zero =>
    intro s h x2 H ms hf
    cases hf
  | succ n ih =>
    intro s h x2 H ms hf
    replace hf : f_X6_leastLateness_L18_b q0 y1 (f_X6_leastLateness_L18 q0 y1 n) s x2 = some (r9, s9) := hf
    unfold f_X6_leastLateness_L18_b at hf
    refine aw_iload_n (pc' := 19) dX6_leastLateness_18 rfl rfl ?_
    refine aw_aload_n (pc' := 20) dX6_leastLateness_19 rfl rfl rfl ?_
    refine aw_gi (q := 34) (pc' := 23) H (H.fo rfl rfl) (by decide) rfl dX6_leastLateness_20 rfl fl_RX6_51 ?_
    refine aw_cge (tgt := 70) (pc' := 26) dX6_leastLateness_23 rfl rfl (fun c3 => ?_) (fun c3 => ?_)
    · replace hf := ifn c3 hf
      refine AW.lv_le (lz_k (lz_k (lz_d (lz_d (lz_d lz_0))))) ?_
      exact hq0 _ _ H ms hf
    · replace hf := ifp c3 hf
      refine aw_iconst (v := 0) (pc' := 27) dX6_leastLateness_26 rfl ic_0 ?_
      refine aw_istore_n (lv' := [_, _, _, _, _]) (pc' := 28) dX6_leastLateness_27 rfl (Nat.le_of_ble_eq_true rfl) rfl ?_
      refine t_X6_leastLateness_L28 (mb.tr ms) (fun s13 h13 H13 m13 hf => ?_) 4000 _ _ _ H (Mo.rf _) hf
      obtain ⟨v14, ev14, hf⟩ := vl_e hf
      refine aw_iincV (y := v14) (lv' := [_, _, _, _, _]) (pc' := 67) dX6_leastLateness_64 rfl rfl (Nat.le_of_ble_eq_true rfl) ev14 rfl ?_
      refine aw_goto (tgt := 18) dX6_leastLateness_67 rfl ?_
      exact ih _ _ _ H13 (ms.tr m13) hf
noncomputable def f_X6_leastLateness_L91_b (q0 : Int32 → Option (Int32 × SS)) (sb : SS) (y2 : Int32) (rc : Int32 → Int32 → Option (Int32 × SS)) (x3 : Int32) (x4 : Int32) : Option (Int32 × SS) := (if x4 < (zS sb 34 3) then (jn (fun (j21_3 : Int32) => (vl (x4 + 1) fun v22 => (rc j21_3 v22))) fun k21 => (if (y2 &&& ((1 : Int32) <<< (x4 &&& 31))) = (0 : Int32) then (b1 (f_X6_sumWith sb y2 x4) fun r24 => (b1 (f_J9_min_7cf53 x3 r24) fun r25 => (k21 r25))) else (k21 x3))) else (q0 x3))
noncomputable def f_X6_leastLateness_L91 (q0 : Int32 → Option (Int32 × SS)) (sb : SS) (y2 : Int32) : Nat → Int32 → Int32 → Option (Int32 × SS)
  | 0, _, _ => none
  | n + 1, x3, x4 => f_X6_leastLateness_L91_b q0 sb y2 (f_X6_leastLateness_L91 q0 sb y2 n) x3 x4
set_option maxRecDepth 4000 in
theorem t_X6_leastLateness_L91 {r9 : Int32} {s0 sb s9 : SS} {hb : List aE} {q0 : Int32 → Option (Int32 × SS)} {y2 : Int32} (Hb : HH sb hb) (mb : Mo s0 sb) (hq0 : ∀ (x3 : Int32), q0 x3 = some (r9, s9) → AW mX6_leastLateness (rmD (3) 0 0) (fin (PI fun r' h' => r9 = r' ∧ HH s9 h' ∧ Mo s0 s9) 0 0) 127 [some (.ref 42), none, some (.int y2), some (.int x3), none] [] hb 0 0) : ∀ (n : Nat) (x3 : Int32) (x4 : Int32), f_X6_leastLateness_L91 q0 sb y2 n x3 x4 = some (r9, s9) → AW mX6_leastLateness (rmD (3) 0 0) (fin (PI fun r' h' => r9 = r' ∧ HH s9 h' ∧ Mo s0 s9) 0 0) 91 [some (.ref 42), none, some (.int y2), some (.int x3), some (.int x4)] [] hb 0 0 := by
  intro n
  induction n with
  | zero =>
    intro x3 x4 hf
    cases hf
  | succ n ih =>
    intro x3 x4 hf
    replace hf : f_X6_leastLateness_L91_b q0 sb y2 (f_X6_leastLateness_L91 q0 sb y2 n) x3 x4 = some (r9, s9) := hf
    unfold f_X6_leastLateness_L91_b at hf
    refine aw_iload (pc' := 93) dX6_leastLateness_91 rfl rfl ?_
    refine aw_aload_n (pc' := 94) dX6_leastLateness_93 rfl rfl rfl ?_
    refine aw_gi (q := 34) (pc' := 97) Hb (Hb.fo rfl rfl) (by decide) rfl dX6_leastLateness_94 rfl fl_RX6_51 ?_
    refine aw_cge (tgt := 127) (pc' := 100) dX6_leastLateness_97 rfl rfl (fun c20 => ?_) (fun c20 => ?_)
    · replace hf := ifn c20 hf
      refine AW.lv_le (lz_k (lz_d (lz_k (lz_k (lz_d lz_0))))) ?_
      exact hq0 _ hf
    · replace hf := ifp c20 hf
      refine aw_iload_n (pc' := 101) dX6_leastLateness_100 rfl rfl ?_
      refine aw_iconst (v := 1) (pc' := 102) dX6_leastLateness_101 rfl ic_1 ?_
      refine aw_iload (pc' := 104) dX6_leastLateness_102 rfl rfl ?_
      refine aw_ishl (pc' := 105) dX6_leastLateness_104 rfl ?_
      refine aw_iand (pc' := 106) dX6_leastLateness_105 rfl ?_
      obtain ⟨k21, ek21, hf⟩ := jn_e hf
      have hk21 : ∀ (j21_3 : Int32), k21 j21_3 = some (r9, s9) → AW mX6_leastLateness (rmD (3) 0 0) (fin (PI fun r' h' => r9 = r' ∧ HH s9 h' ∧ Mo s0 s9) 0 0) 121 [some (.ref 42), none, some (.int y2), some (.int j21_3), some (.int x4)] [] hb 0 0 := by
        intro j21_3 hf
        subst ek21
        obtain ⟨v22, ev22, hf⟩ := vl_e hf
        refine aw_iincV (y := v22) (lv' := [_, _, _, _, _]) (pc' := 124) dX6_leastLateness_121 rfl rfl (Nat.le_of_ble_eq_true rfl) ev22 rfl ?_
        refine aw_goto (tgt := 91) dX6_leastLateness_124 rfl ?_
        exact ih _ _ hf
      clear ek21
      refine aw_if_ne (tgt := 121) (pc' := 109) dX6_leastLateness_106 rfl rfl (fun c23 => ?_) (fun c23 => ?_)
      · replace hf := ifn c23 hf
        exact hk21 _ hf
      · replace hf := ifp c23 hf
        refine aw_iload_n (pc' := 110) dX6_leastLateness_109 rfl rfl ?_
        refine aw_aload_n (pc' := 111) dX6_leastLateness_110 rfl rfl rfl ?_
        refine aw_iload_n (pc' := 112) dX6_leastLateness_111 rfl rfl ?_
        refine aw_iload (pc' := 114) dX6_leastLateness_112 rfl rfl ?_
        obtain ⟨r24, ec24, hf⟩ := b1_e hf
        refine aw_callVi (M' := mX6_sumWith) (nc' := 0) (ns' := 0) (pc' := 117) dX6_leastLateness_114 rfl ml_RX6_56 kX6_sumWith (t_X6_sumWith Hb ec24) (Hb.ob (Hb.fo rfl rfl) (by decide)) rfl rfl rfl (Nat.le_of_ble_eq_true rfl) (rokD (by omega) (Nat.le_of_ble_eq_true rfl) (Nat.le_of_ble_eq_true rfl) (Nat.le_of_ble_eq_true rfl)) rfl rfl (fun _ h24 q24 => ?_)
        obtain ⟨rfl, rfl⟩ := q24
        obtain ⟨r25, ec25, hf⟩ := b1_e hf
        refine aw_callSi (M' := mJ9_min_7cf53) (nc' := 0) (ns' := 0) (pc' := 120) dX6_leastLateness_117 rfl ml_RX6_60 kJ9_min_7cf53 (t_J9_min_7cf53 ec25) rfl rfl (Nat.le_of_ble_eq_true rfl) (rokD (by omega) (Nat.le_of_ble_eq_true rfl) (Nat.le_of_ble_eq_true rfl) (Nat.le_of_ble_eq_true rfl)) rfl rfl (fun _ h25 q25 => ?_)
        obtain ⟨rfl, rfl⟩ := q25
        refine aw_istore_n (lv' := [_, _, _, _, _]) (pc' := 121) dX6_leastLateness_120 rfl (Nat.le_of_ble_eq_true rfl) rfl ?_
        exact hk21 _ hf
noncomputable def f_X6_leastLateness_L81_b (q0 : SS → Option (Int32 × SS)) (rc : SS → Int32 → Option (Int32 × SS)) (s : SS) (x2 : Int32) : Option (Int32 × SS) := (if x2 < (0 : Int32) then (q0 s) else (f_X6_leastLateness_L91 (fun (x26_3 : Int32) => (gd (inB x2 1024) (st (pI s 38 (x2.toInt.toNat) x26_3) fun s28 => (vl (x2 + (-1)) fun v29 => (rc s28 v29))))) s x2 4000 1000000000 0))
noncomputable def f_X6_leastLateness_L81 (q0 : SS → Option (Int32 × SS)) : Nat → SS → Int32 → Option (Int32 × SS)
  | 0, _, _ => none
  | n + 1, s, x2 => f_X6_leastLateness_L81_b q0 (f_X6_leastLateness_L81 q0 n) s x2
set_option maxRecDepth 4000 in
theorem t_X6_leastLateness_L81 {r9 : Int32} {s0 sb s9 : SS} {q0 : SS → Option (Int32 × SS)} (mb : Mo s0 sb) (hq0 : ∀ (s : SS) (h : List aE), HH s h → Mo sb s → q0 s = some (r9, s9) → AW mX6_leastLateness (rmD (3) 0 0) (fin (PI fun r' h' => r9 = r' ∧ HH s9 h' ∧ Mo s0 s9) 0 0) 140 [some (.ref 42), none, none, none, none] [] h 0 0) : ∀ (n : Nat) (s : SS) (h : List aE) (x2 : Int32), HH s h → Mo sb s → f_X6_leastLateness_L81 q0 n s x2 = some (r9, s9) → AW mX6_leastLateness (rmD (3) 0 0) (fin (PI fun r' h' => r9 = r' ∧ HH s9 h' ∧ Mo s0 s9) 0 0) 81 [some (.ref 42), none, some (.int x2), none, none] [] h 0 0 := by
  intro n
  induction n with
  | zero =>
    intro s h x2 H ms hf
    cases hf
  | succ n ih =>
    intro s h x2 H ms hf
    replace hf : f_X6_leastLateness_L81_b q0 (f_X6_leastLateness_L81 q0 n) s x2 = some (r9, s9) := hf
    unfold f_X6_leastLateness_L81_b at hf
    refine aw_iload_n (pc' := 82) dX6_leastLateness_81 rfl rfl ?_
    refine aw_zlt (tgt := 140) (pc' := 85) dX6_leastLateness_82 rfl rfl (fun c19 => ?_) (fun c19 => ?_)
    · replace hf := ifp c19 hf
      refine AW.lv_le (lz_k (lz_d (lz_d (lz_d (lz_d lz_0))))) ?_
      exact hq0 _ _ H ms hf
    · replace hf := ifn c19 hf
      refine aw_ldc (pc' := 87) dX6_leastLateness_85 rfl ct_RX6_55 ?_
      refine aw_istore_n (lv' := [_, _, _, _, _]) (pc' := 88) dX6_leastLateness_87 rfl (Nat.le_of_ble_eq_true rfl) rfl ?_
      refine aw_iconst (v := 0) (pc' := 89) dX6_leastLateness_88 rfl ic_0 ?_
      refine aw_istore (lv' := [_, _, _, _, _]) (pc' := 91) dX6_leastLateness_89 rfl (Nat.le_of_ble_eq_true rfl) rfl ?_
      refine t_X6_leastLateness_L91 H (mb.tr ms) (fun x26_3 hf => ?_) 4000 _ _ hf
      refine aw_aload_n (pc' := 128) dX6_leastLateness_127 rfl rfl rfl ?_
      refine aw_gr (q := 34) (e := 9) (v := .ref 46) (pc' := 131) H (H.fo rfl rfl) (by decide) rfl rfl dX6_leastLateness_128 rfl fl_RX6_21 ?_
      refine aw_iload_n (pc' := 132) dX6_leastLateness_131 rfl rfl ?_
      refine aw_iload_n (pc' := 133) dX6_leastLateness_132 rfl rfl ?_
      obtain ⟨g27, hf⟩ := gd_e hf
      obtain ⟨s28, es28, hf⟩ := st_e hf
      refine aw_is (q := 38) (pc' := 134) es28 H (H.fa rfl rfl rfl) g27 dX6_leastLateness_133 rfl (fun h28 H28 => ?_)
      have m28 := Mo.ofI es28
      obtain ⟨v29, ev29, hf⟩ := vl_e hf
      refine aw_iincV (y := v29) (lv' := [_, _, _, _, _]) (pc' := 137) dX6_leastLateness_134 rfl rfl (Nat.le_of_ble_eq_true rfl) ev29 rfl ?_
      refine aw_goto (tgt := 81) dX6_leastLateness_137 rfl ?_
      refine AW.lv_le (lz_k (lz_d (lz_k (lz_d (lz_d lz_0))))) ?_
      exact ih _ _ _ H28 (ms.tr m28) hf
noncomputable def f_X6_leastLateness (s0 : SS)  : Option (Int32 × SS) := (vl ((((1 : Int32) <<< ((zS s0 34 3) &&& 31)) - (1 : Int32))) fun v1 => (st (pI s0 39 ((0 : Int32).toInt.toNat) 0) fun s2 => (f_X6_leastLateness_L18 (fun (s15 : SS)  => (gd (inB v1 1024) (st (pI s15 38 (v1.toInt.toNat) 0) fun s17 => (vl ((v1 - (1 : Int32))) fun v18 => (f_X6_leastLateness_L81 (fun (s30 : SS)  => (b1 (f_X6_placesFollow s30) fun s31 => (st (pS s31 34 3 0) fun s32 => some ((zI s32 38 ((0 : Int32).toInt.toNat)), s32)))) 4000 s17 v18))))) v1 4000 s2 0)))
set_option maxRecDepth 4000 in
theorem t_X6_leastLateness {r9 : Int32} {s0 s9 : SS} {h0 : List aE}  (H0 : HH s0 h0) (hf : f_X6_leastLateness s0 = some (r9, s9)) : AM mX6_leastLateness (3) [.ref 42] h0 0 0 (PI fun r' h' => r9 = r' ∧ HH s9 h' ∧ Mo s0 s9) := by
  unfold f_X6_leastLateness at hf
  refine am_of (lv := [some (.ref 42), none, none, none, none]) rfl (Nat.le_of_ble_eq_true rfl) rfl ?_
  refine aw_iconst (v := 1) (pc' := 1) dX6_leastLateness_0 rfl ic_1 ?_
  refine aw_aload_n (pc' := 2) dX6_leastLateness_1 rfl rfl rfl ?_
  refine aw_gi (q := 34) (pc' := 5) H0 (H0.fo rfl rfl) (l13 rfl) rfl dX6_leastLateness_2 rfl fl_RX6_51 ?_
  refine aw_ishl (pc' := 6) dX6_leastLateness_5 rfl ?_
  refine aw_iconst (v := 1) (pc' := 7) dX6_leastLateness_6 rfl ic_1 ?_
  refine aw_isub (pc' := 8) dX6_leastLateness_7 rfl ?_
  obtain ⟨v1, ev1, hf⟩ := vl_e hf
  refine aw_topi ev1 ?_
  refine aw_istore_n (lv' := [_, _, _, _, _]) (pc' := 9) dX6_leastLateness_8 rfl (Nat.le_of_ble_eq_true rfl) rfl ?_
  refine aw_aload_n (pc' := 10) dX6_leastLateness_9 rfl rfl rfl ?_
  refine aw_gr (q := 34) (e := 11) (v := .ref 47) (pc' := 13) H0 (H0.fo rfl rfl) (l13 rfl) rfl rfl dX6_leastLateness_10 rfl fl_RX6_24 ?_
  refine aw_iconst (v := 0) (pc' := 14) dX6_leastLateness_13 rfl ic_0 ?_
  refine aw_iconst (v := 0) (pc' := 15) dX6_leastLateness_14 rfl ic_0 ?_
  obtain ⟨s2, es2, hf⟩ := st_e hf
  refine aw_is (q := 39) (pc' := 16) es2 H0 (H0.fa rfl rfl rfl) (by decide) dX6_leastLateness_15 rfl (fun h2 H2 => ?_)
  have m2 := Mo.ofI es2
  refine aw_iconst (v := 0) (pc' := 17) dX6_leastLateness_16 rfl ic_0 ?_
  refine aw_istore_n (lv' := [_, _, _, _, _]) (pc' := 18) dX6_leastLateness_17 rfl (Nat.le_of_ble_eq_true rfl) rfl ?_
  refine t_X6_leastLateness_L18 m2 (fun s15 h15 H15 m15 hf => ?_) 4000 _ _ _ H2 (Mo.rf _) hf
  refine aw_aload_n (pc' := 71) dX6_leastLateness_70 rfl rfl rfl ?_
  refine aw_gr (q := 34) (e := 9) (v := .ref 46) (pc' := 74) H15 (H15.fo rfl rfl) (l13 rfl) rfl rfl dX6_leastLateness_71 rfl fl_RX6_21 ?_
  refine aw_iload_n (pc' := 75) dX6_leastLateness_74 rfl rfl ?_
  refine aw_iconst (v := 0) (pc' := 76) dX6_leastLateness_75 rfl ic_0 ?_
  obtain ⟨g16, hf⟩ := gd_e hf
  obtain ⟨s17, es17, hf⟩ := st_e hf
  refine aw_is (q := 38) (pc' := 77) es17 H15 (H15.fa rfl rfl rfl) g16 dX6_leastLateness_76 rfl (fun h17 H17 => ?_)
  have m17 := Mo.ofI es17
  refine aw_iload_n (pc' := 78) dX6_leastLateness_77 rfl rfl ?_
  refine aw_iconst (v := 1) (pc' := 79) dX6_leastLateness_78 rfl ic_1 ?_
  refine aw_isub (pc' := 80) dX6_leastLateness_79 rfl ?_
  obtain ⟨v18, ev18, hf⟩ := vl_e hf
  refine aw_topi ev18 ?_
  refine aw_istore_n (lv' := [_, _, _, _, _]) (pc' := 81) dX6_leastLateness_80 rfl (Nat.le_of_ble_eq_true rfl) rfl ?_
  refine AW.lv_le (lz_k (lz_d (lz_k (lz_d (lz_d lz_0))))) ?_
  refine t_X6_leastLateness_L81 ((m2.tr m15).tr m17) (fun s30 h30 H30 m30 hf => ?_) 4000 _ _ _ H17 (Mo.rf _) hf
  refine aw_aload_n (pc' := 141) dX6_leastLateness_140 rfl rfl rfl ?_
  obtain ⟨s31, ec31, hf⟩ := b1_e hf
  refine aw_callVv (M' := mX6_placesFollow) (nc' := 0) (ns' := 0) (pc' := 144) dX6_leastLateness_141 rfl ml_RX6_65 kX6_placesFollow (t_X6_placesFollow H30 ec31) (H30.ob (H30.fo rfl rfl) (by decide)) rfl rfl rfl (Nat.le_of_ble_eq_true rfl) (rokD (by omega) (Nat.le_of_ble_eq_true rfl) (Nat.le_of_ble_eq_true rfl) (Nat.le_of_ble_eq_true rfl)) rfl rfl (fun h31 q31 => ?_)
  obtain ⟨H31, m31⟩ := q31
  refine aw_aload_n (pc' := 145) dX6_leastLateness_144 rfl rfl rfl ?_
  refine aw_iconst (v := 0) (pc' := 146) dX6_leastLateness_145 rfl ic_0 ?_
  obtain ⟨s32, es32, hf⟩ := st_e hf
  refine aw_pi (q := 34) (pc' := 149) es32 H31 (H31.fo rfl rfl) (by decide) rfl dX6_leastLateness_146 rfl fl_RX6_51 rfl (fun h32 H32 => ?_)
  have m32 := Mo.ofS es32
  refine aw_aload_n (pc' := 150) dX6_leastLateness_149 rfl rfl rfl ?_
  refine aw_gr (q := 34) (e := 9) (v := .ref 46) (pc' := 153) H32 (H32.fo rfl rfl) (l13 rfl) rfl rfl dX6_leastLateness_150 rfl fl_RX6_21 ?_
  refine aw_iconst (v := 0) (pc' := 154) dX6_leastLateness_153 rfl ic_0 ?_
  refine aw_ia (q := 38) (pc' := 155) H32 (H32.fa rfl rfl rfl) (by decide) dX6_leastLateness_154 rfl ?_
  obtain ⟨rfl, rfl⟩ := so2 hf
  exact aw_ri dX6_leastLateness_155 rfl rfl (Nat.le_of_ble_eq_true rfl) (Nat.le_of_ble_eq_true rfl) ⟨rfl, H32, (((((m2.tr m15).tr m17).tr m30).tr m31).tr m32)⟩
