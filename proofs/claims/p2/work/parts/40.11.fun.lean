/-! ThirtyThreeBelowModel.drill -/
def f_X12_drill_L2_b (q0 : SS → Option SS) (rc : SS → Int32 → Option SS) (s : SS) (x1 : Int32) : Option SS := (if x1 < (zS s 59 4) then (gd (inB x1 120) (st (pI s 99 (x1.toInt.toNat) ((0 : Int32) &&& 1)) fun s3 => (vl (x1 + 1) fun v4 => (rc s3 v4)))) else (q0 s))
def f_X12_drill_L2 (q0 : SS → Option SS) : Nat → SS → Int32 → Option SS
  | 0, _, _ => none
  | n + 1, s, x1 => f_X12_drill_L2_b q0 (f_X12_drill_L2 q0 n) s x1
set_option maxRecDepth 4000 in
theorem t_X12_drill_L2 {s0 sb s9 : SS} {q0 : SS → Option SS} (mb : Mo s0 sb) (hq0 : ∀ (s : SS) (h : List aE), HH s h → Mo sb s → q0 s = some s9 → AW mX12_drill (rmD (4) 0 0) (fin (PV fun h' => HH s9 h' ∧ Mo s0 s9) 0 0) 23 [some (.ref 67), none] [] h 0 0) : ∀ (n : Nat) (s : SS) (h : List aE) (x1 : Int32), HH s h → Mo sb s → f_X12_drill_L2 q0 n s x1 = some s9 → AW mX12_drill (rmD (4) 0 0) (fin (PV fun h' => HH s9 h' ∧ Mo s0 s9) 0 0) 2 [some (.ref 67), some (.int x1)] [] h 0 0 := by
  intro n
  induction n with
  | zero =>
    intro s h x1 H ms hf
    cases hf
  | succ n ih =>
    intro s h x1 H ms hf
    replace hf : f_X12_drill_L2_b q0 (f_X12_drill_L2 q0 n) s x1 = some s9 := hf
    unfold f_X12_drill_L2_b at hf
    refine aw_iload_n (pc' := 3) dX12_drill_2 rfl rfl ?_
    refine aw_aload_n (pc' := 4) dX12_drill_3 rfl rfl rfl ?_
    refine aw_gi (q := 59) (pc' := 7) H (H.fo rfl rfl) (by decide) rfl dX12_drill_4 rfl fl_RX12_242 ?_
    refine aw_cge (tgt := 23) (pc' := 10) dX12_drill_7 (by decide) rfl (fun c1 => ?_) (fun c1 => ?_)
    · replace hf := ifn c1 hf
      refine AW.lv_le (lz_k (lz_d lz_0)) ?_
      exact hq0 _ _ H ms hf
    · replace hf := ifp c1 hf
      refine aw_aload_n (pc' := 11) dX12_drill_10 rfl rfl rfl ?_
      refine aw_gr (q := 59) (e := 81) (v := .ref 107) (pc' := 14) H (H.fo rfl rfl) (by decide) rfl rfl dX12_drill_11 rfl fl_RX12_136 ?_
      refine aw_iload_n (pc' := 15) dX12_drill_14 rfl rfl ?_
      refine aw_iconst (v := 0) (pc' := 16) dX12_drill_15 rfl (by decide) ?_
      obtain ⟨g2, hf⟩ := gd_e hf
      obtain ⟨s3, es3, hf⟩ := st_e hf
      refine aw_zs (q := 99) (pc' := 17) es3 H (H.fa rfl rfl rfl) g2 dX12_drill_16 rfl (fun h3 H3 => ?_)
      have m3 := Mo.ofI es3
      obtain ⟨v4, ev4, hf⟩ := vl_e hf
      refine aw_iincV (y := v4) (lv' := [_, _]) (pc' := 20) dX12_drill_17 rfl rfl (Nat.le_of_ble_eq_true rfl) ev4 rfl ?_
      refine aw_goto (tgt := 2) dX12_drill_20 (by decide) ?_
      exact ih _ _ _ H3 (ms.tr m3) hf
def f_X12_drill_L36_b (q0 : SS → Option SS) (rc : SS → Int32 → Option SS) (s : SS) (x1 : Int32) : Option SS := (if x1 < (3 : Int32) then (gd (inB x1 3) (jn (fun (s10 : SS)  => (vl (x1 + 1) fun v11 => (rc s10 v11))) fun k10 => (if (zI s 79 (x1.toInt.toNat)) < (0 : Int32) then (k10 s) else (gd (inB x1 3) (if (zI s 80 (x1.toInt.toNat)) < (zS s 59 1) then (gd (inB x1 3) (vl ((zI s 79 (x1.toInt.toNat))) fun v16 => (gd (inB v16 120) (vl (((zI s 68 (v16.toInt.toNat)) + (60 : Int32))) fun v18 => (vl ((zI s 79 (x1.toInt.toNat))) fun v19 => (gd (inB v19 120) (st (pI s 68 (v19.toInt.toNat) v18) fun s21 => (gd (inB x1 3) (vl ((zI s21 79 (x1.toInt.toNat))) fun v23 => (gd (inB v23 120) (st (pI s21 99 (v23.toInt.toNat) ((1 : Int32) &&& 1)) fun s25 => (gd (inB x1 3) (gd (inB x1 3) (vl ((zI s25 78 (x1.toInt.toNat))) fun v28 => (vl ((zI s25 79 (x1.toInt.toNat))) fun v29 => (gd (inB v29 120) (st (pI s25 100 (v29.toInt.toNat) v28) fun s31 => (k10 s31)))))))))))))))))) else (k10 s)))))) else (q0 s))
def f_X12_drill_L36 (q0 : SS → Option SS) : Nat → SS → Int32 → Option SS
  | 0, _, _ => none
  | n + 1, s, x1 => f_X12_drill_L36_b q0 (f_X12_drill_L36 q0 n) s x1
set_option maxRecDepth 4000 in
theorem t_X12_drill_L36 {s0 sb s9 : SS} {q0 : SS → Option SS} (mb : Mo s0 sb) (hq0 : ∀ (s : SS) (h : List aE), HH s h → Mo sb s → q0 s = some s9 → AW mX12_drill (rmD (4) 0 0) (fin (PV fun h' => HH s9 h' ∧ Mo s0 s9) 0 0) 117 [some (.ref 67), none] [] h 0 0) : ∀ (n : Nat) (s : SS) (h : List aE) (x1 : Int32), HH s h → Mo sb s → f_X12_drill_L36 q0 n s x1 = some s9 → AW mX12_drill (rmD (4) 0 0) (fin (PV fun h' => HH s9 h' ∧ Mo s0 s9) 0 0) 36 [some (.ref 67), some (.int x1)] [] h 0 0 := by
  intro n
  induction n with
  | zero =>
    intro s h x1 H ms hf
    cases hf
  | succ n ih =>
    intro s h x1 H ms hf
    replace hf : f_X12_drill_L36_b q0 (f_X12_drill_L36 q0 n) s x1 = some s9 := hf
    unfold f_X12_drill_L36_b at hf
    refine aw_iload_n (pc' := 37) dX12_drill_36 rfl rfl ?_
    refine aw_iconst (v := 3) (pc' := 38) dX12_drill_37 rfl (by decide) ?_
    refine aw_cge (tgt := 117) (pc' := 41) dX12_drill_38 (by decide) rfl (fun c8 => ?_) (fun c8 => ?_)
    · replace hf := ifn c8 hf
      refine AW.lv_le (lz_k (lz_d lz_0)) ?_
      exact hq0 _ _ H ms hf
    · replace hf := ifp c8 hf
      refine aw_aload_n (pc' := 42) dX12_drill_41 rfl rfl rfl ?_
      refine aw_gr (q := 59) (e := 41) (v := .ref 87) (pc' := 45) H (H.fo rfl rfl) (by decide) rfl rfl dX12_drill_42 rfl fl_RX12_72 ?_
      refine aw_iload_n (pc' := 46) dX12_drill_45 rfl rfl ?_
      obtain ⟨g9, hf⟩ := gd_e hf
      refine aw_ia (q := 79) (pc' := 47) H (H.fa rfl rfl rfl) g9 dX12_drill_46 rfl ?_
      obtain ⟨k10, ek10, hf⟩ := jn_e hf
      have hk10 : ∀ (s10 : SS) (h10 : List aE), HH s10 h10 → Mo s s10 → k10 s10 = some s9 → AW mX12_drill (rmD (4) 0 0) (fin (PV fun h' => HH s9 h' ∧ Mo s0 s9) 0 0) 111 [some (.ref 67), some (.int x1)] [] h10 0 0 := by
        intro s10 h10 H10 m10 hf
        subst ek10
        obtain ⟨v11, ev11, hf⟩ := vl_e hf
        refine aw_iincV (y := v11) (lv' := [_, _]) (pc' := 114) dX12_drill_111 rfl rfl (Nat.le_of_ble_eq_true rfl) ev11 rfl ?_
        refine aw_goto (tgt := 36) dX12_drill_114 (by decide) ?_
        exact ih _ _ _ H10 (ms.tr m10) hf
      clear ek10
      refine aw_zlt (tgt := 111) (pc' := 50) dX12_drill_47 (by decide) rfl (fun c12 => ?_) (fun c12 => ?_)
      · replace hf := ifp c12 hf
        exact hk10 _ _ H (Mo.rf _) hf
      · replace hf := ifn c12 hf
        refine aw_aload_n (pc' := 51) dX12_drill_50 rfl rfl rfl ?_
        refine aw_gi (q := 59) (pc' := 54) H (H.fo rfl rfl) (by decide) rfl dX12_drill_51 rfl fl_RX12_281 ?_
        refine aw_aload_n (pc' := 55) dX12_drill_54 rfl rfl rfl ?_
        refine aw_gr (q := 59) (e := 43) (v := .ref 88) (pc' := 58) H (H.fo rfl rfl) (by decide) rfl rfl dX12_drill_55 rfl fl_RX12_75 ?_
        refine aw_iload_n (pc' := 59) dX12_drill_58 rfl rfl ?_
        obtain ⟨g13, hf⟩ := gd_e hf
        refine aw_ia (q := 80) (pc' := 60) H (H.fa rfl rfl rfl) g13 dX12_drill_59 rfl ?_
        refine aw_cgt (tgt := 66) (pc' := 63) dX12_drill_60 (by decide) rfl (fun c14 => ?_) (fun c14 => ?_)
        · replace hf := ifp c14 hf
          refine aw_aload_n (pc' := 67) dX12_drill_66 rfl rfl rfl ?_
          refine aw_gr (q := 59) (e := 19) (v := .ref 76) (pc' := 70) H (H.fo rfl rfl) (by decide) rfl rfl dX12_drill_67 rfl fl_RX12_35 ?_
          refine aw_aload_n (pc' := 71) dX12_drill_70 rfl rfl rfl ?_
          refine aw_gr (q := 59) (e := 41) (v := .ref 87) (pc' := 74) H (H.fo rfl rfl) (by decide) rfl rfl dX12_drill_71 rfl fl_RX12_72 ?_
          refine aw_iload_n (pc' := 75) dX12_drill_74 rfl rfl ?_
          obtain ⟨g15, hf⟩ := gd_e hf
          refine aw_ia (q := 79) (pc' := 76) H (H.fa rfl rfl rfl) g15 dX12_drill_75 rfl ?_
          refine aw_dup2 (pc' := 77) dX12_drill_76 rfl rfl rfl ?_
          obtain ⟨v16, ev16, hf⟩ := vl_e hf
          refine aw_topi ev16 ?_
          obtain ⟨g17, hf⟩ := gd_e hf
          refine aw_ia (q := 68) (pc' := 78) H (H.fa rfl rfl rfl) g17 dX12_drill_77 rfl ?_
          refine aw_bipush (v := 60) (pc' := 80) dX12_drill_78 rfl (by decide) ?_
          refine aw_iadd (pc' := 81) dX12_drill_80 rfl ?_
          obtain ⟨v18, ev18, hf⟩ := vl_e hf
          refine aw_topi ev18 ?_
          obtain ⟨v19, ev19, hf⟩ := vl_e hf
          refine aw_sndi ev19 ?_
          obtain ⟨g20, hf⟩ := gd_e hf
          obtain ⟨s21, es21, hf⟩ := st_e hf
          refine aw_is (q := 68) (pc' := 82) es21 H (H.fa rfl rfl rfl) g20 dX12_drill_81 rfl (fun h21 H21 => ?_)
          have m21 := Mo.ofI es21
          refine aw_aload_n (pc' := 83) dX12_drill_82 rfl rfl rfl ?_
          refine aw_gr (q := 59) (e := 81) (v := .ref 107) (pc' := 86) H21 (H21.fo rfl rfl) (by decide) rfl rfl dX12_drill_83 rfl fl_RX12_136 ?_
          refine aw_aload_n (pc' := 87) dX12_drill_86 rfl rfl rfl ?_
          refine aw_gr (q := 59) (e := 41) (v := .ref 87) (pc' := 90) H21 (H21.fo rfl rfl) (by decide) rfl rfl dX12_drill_87 rfl fl_RX12_72 ?_
          refine aw_iload_n (pc' := 91) dX12_drill_90 rfl rfl ?_
          obtain ⟨g22, hf⟩ := gd_e hf
          refine aw_ia (q := 79) (pc' := 92) H21 (H21.fa rfl rfl rfl) g22 dX12_drill_91 rfl ?_
          refine aw_iconst (v := 1) (pc' := 93) dX12_drill_92 rfl (by decide) ?_
          obtain ⟨v23, ev23, hf⟩ := vl_e hf
          refine aw_sndi ev23 ?_
          obtain ⟨g24, hf⟩ := gd_e hf
          obtain ⟨s25, es25, hf⟩ := st_e hf
          refine aw_zs (q := 99) (pc' := 94) es25 H21 (H21.fa rfl rfl rfl) g24 dX12_drill_93 rfl (fun h25 H25 => ?_)
          have m25 := Mo.ofI es25
          refine aw_aload_n (pc' := 95) dX12_drill_94 rfl rfl rfl ?_
          refine aw_gr (q := 59) (e := 83) (v := .ref 108) (pc' := 98) H25 (H25.fo rfl rfl) (by decide) rfl rfl dX12_drill_95 rfl fl_RX12_139 ?_
          refine aw_aload_n (pc' := 99) dX12_drill_98 rfl rfl rfl ?_
          refine aw_gr (q := 59) (e := 41) (v := .ref 87) (pc' := 102) H25 (H25.fo rfl rfl) (by decide) rfl rfl dX12_drill_99 rfl fl_RX12_72 ?_
          refine aw_iload_n (pc' := 103) dX12_drill_102 rfl rfl ?_
          obtain ⟨g26, hf⟩ := gd_e hf
          refine aw_ia (q := 79) (pc' := 104) H25 (H25.fa rfl rfl rfl) g26 dX12_drill_103 rfl ?_
          refine aw_aload_n (pc' := 105) dX12_drill_104 rfl rfl rfl ?_
          refine aw_gr (q := 59) (e := 39) (v := .ref 86) (pc' := 108) H25 (H25.fo rfl rfl) (by decide) rfl rfl dX12_drill_105 rfl fl_RX12_69 ?_
          refine aw_iload_n (pc' := 109) dX12_drill_108 rfl rfl ?_
          obtain ⟨g27, hf⟩ := gd_e hf
          refine aw_ia (q := 78) (pc' := 110) H25 (H25.fa rfl rfl rfl) g27 dX12_drill_109 rfl ?_
          obtain ⟨v28, ev28, hf⟩ := vl_e hf
          refine aw_topi ev28 ?_
          obtain ⟨v29, ev29, hf⟩ := vl_e hf
          refine aw_sndi ev29 ?_
          obtain ⟨g30, hf⟩ := gd_e hf
          obtain ⟨s31, es31, hf⟩ := st_e hf
          refine aw_is (q := 100) (pc' := 111) es31 H25 (H25.fa rfl rfl rfl) g30 dX12_drill_110 rfl (fun h31 H31 => ?_)
          have m31 := Mo.ofI es31
          exact hk10 _ _ H31 ((m21.tr m25).tr m31) hf
        · replace hf := ifn c14 hf
          refine aw_goto (tgt := 111) dX12_drill_63 (by decide) ?_
          exact hk10 _ _ H (Mo.rf _) hf
def f_X12_drill_L119_b  (rc : SS → Int32 → Option SS) (s : SS) (x1 : Int32) : Option SS := (if x1 < (zS s 59 4) then (gd (inB x1 120) (jn (fun (s35 : SS)  => (vl (x1 + 1) fun v36 => (rc s35 v36))) fun k35 => (if (zI s 99 (x1.toInt.toNat)) = (0 : Int32) then (k35 s) else (gd (inB x1 120) (b1 (f_X12_bore s x1 (zI s 100 (x1.toInt.toNat))) fun s39 => (k35 s39)))))) else some s)
def f_X12_drill_L119  : Nat → SS → Int32 → Option SS
  | 0, _, _ => none
  | n + 1, s, x1 => f_X12_drill_L119_b  (f_X12_drill_L119  n) s x1
set_option maxRecDepth 4000 in
theorem t_X12_drill_L119 {s0 sb s9 : SS} (mb : Mo s0 sb)  : ∀ (n : Nat) (s : SS) (h : List aE) (x1 : Int32), HH s h → Mo sb s → f_X12_drill_L119  n s x1 = some s9 → AW mX12_drill (rmD (4) 0 0) (fin (PV fun h' => HH s9 h' ∧ Mo s0 s9) 0 0) 119 [some (.ref 67), some (.int x1)] [] h 0 0 := by
  intro n
  induction n with
  | zero =>
    intro s h x1 H ms hf
    cases hf
  | succ n ih =>
    intro s h x1 H ms hf
    replace hf : f_X12_drill_L119_b  (f_X12_drill_L119  n) s x1 = some s9 := hf
    unfold f_X12_drill_L119_b at hf
    refine aw_iload_n (pc' := 120) dX12_drill_119 rfl rfl ?_
    refine aw_aload_n (pc' := 121) dX12_drill_120 rfl rfl rfl ?_
    refine aw_gi (q := 59) (pc' := 124) H (H.fo rfl rfl) (by decide) rfl dX12_drill_121 rfl fl_RX12_242 ?_
    refine aw_cge (tgt := 153) (pc' := 127) dX12_drill_124 (by decide) rfl (fun c33 => ?_) (fun c33 => ?_)
    · replace hf := ifn c33 hf
      obtain rfl := Option.some.inj hf
      exact aw_rv dX12_drill_153 rfl (Nat.le_of_ble_eq_true rfl) (Nat.le_of_ble_eq_true rfl) ⟨H, (mb.tr ms)⟩
    · replace hf := ifp c33 hf
      refine aw_aload_n (pc' := 128) dX12_drill_127 rfl rfl rfl ?_
      refine aw_gr (q := 59) (e := 81) (v := .ref 107) (pc' := 131) H (H.fo rfl rfl) (by decide) rfl rfl dX12_drill_128 rfl fl_RX12_136 ?_
      refine aw_iload_n (pc' := 132) dX12_drill_131 rfl rfl ?_
      obtain ⟨g34, hf⟩ := gd_e hf
      refine aw_za (q := 99) (pc' := 133) H (H.fa rfl rfl rfl) g34 dX12_drill_132 rfl ?_
      obtain ⟨k35, ek35, hf⟩ := jn_e hf
      have hk35 : ∀ (s35 : SS) (h35 : List aE), HH s35 h35 → Mo s s35 → k35 s35 = some s9 → AW mX12_drill (rmD (4) 0 0) (fin (PV fun h' => HH s9 h' ∧ Mo s0 s9) 0 0) 147 [some (.ref 67), some (.int x1)] [] h35 0 0 := by
        intro s35 h35 H35 m35 hf
        subst ek35
        obtain ⟨v36, ev36, hf⟩ := vl_e hf
        refine aw_iincV (y := v36) (lv' := [_, _]) (pc' := 150) dX12_drill_147 rfl rfl (Nat.le_of_ble_eq_true rfl) ev36 rfl ?_
        refine aw_goto (tgt := 119) dX12_drill_150 (by decide) ?_
        exact ih _ _ _ H35 (ms.tr m35) hf
      clear ek35
      refine aw_if_eq (tgt := 147) (pc' := 136) dX12_drill_133 (by decide) rfl (fun c37 => ?_) (fun c37 => ?_)
      · replace hf := ifp c37 hf
        exact hk35 _ _ H (Mo.rf _) hf
      · replace hf := ifn c37 hf
        refine aw_aload_n (pc' := 137) dX12_drill_136 rfl rfl rfl ?_
        refine aw_iload_n (pc' := 138) dX12_drill_137 rfl rfl ?_
        refine aw_aload_n (pc' := 139) dX12_drill_138 rfl rfl rfl ?_
        refine aw_gr (q := 59) (e := 83) (v := .ref 108) (pc' := 142) H (H.fo rfl rfl) (by decide) rfl rfl dX12_drill_139 rfl fl_RX12_139 ?_
        refine aw_iload_n (pc' := 143) dX12_drill_142 rfl rfl ?_
        obtain ⟨g38, hf⟩ := gd_e hf
        refine aw_ia (q := 100) (pc' := 144) H (H.fa rfl rfl rfl) g38 dX12_drill_143 rfl ?_
        obtain ⟨s39, ec39, hf⟩ := b1_e hf
        refine aw_callVv (M' := mX12_bore) (nc' := 0) (ns' := 0) (pc' := 147) dX12_drill_144 rfl ml_RX12_409 kX12_bore (t_X12_bore H ec39) (H.ob (H.fo rfl rfl) (by decide)) rfl rfl rfl (Nat.le_of_ble_eq_true rfl) (rokD (by omega) (Nat.le_of_ble_eq_true rfl) (Nat.le_of_ble_eq_true rfl) (Nat.le_of_ble_eq_true rfl)) rfl rfl (fun h39 q39 => ?_)
        obtain ⟨H39, m39⟩ := q39
        exact hk35 _ _ H39 m39 hf
def f_X12_drill (s0 : SS)  : Option SS := (f_X12_drill_L2 (fun (s5 : SS)  => (bd (f_X12_saysNow s5 2 (-1) 0) fun r6 s6 => (if r6 = (0 : Int32) then (f_X12_drill_L36 (fun (s32 : SS)  => (f_X12_drill_L119 4000 s32 0)) 4000 s6 0) else some s6))) 4000 s0 0)
set_option maxRecDepth 4000 in
theorem t_X12_drill {s0 s9 : SS} {h0 : List aE}  (H0 : HH s0 h0) (hf : f_X12_drill s0 = some s9) : AM mX12_drill (4) [.ref 67] h0 0 0 (PV fun h' => HH s9 h' ∧ Mo s0 s9) := by
  unfold f_X12_drill at hf
  refine am_of (lv := [some (.ref 67), none]) rfl (Nat.le_of_ble_eq_true rfl) rfl ?_
  refine aw_iconst (v := 0) (pc' := 1) dX12_drill_0 rfl (by decide) ?_
  refine aw_istore_n (lv' := [_, _]) (pc' := 2) dX12_drill_1 rfl (Nat.le_of_ble_eq_true rfl) rfl ?_
  refine t_X12_drill_L2 (Mo.rf _) (fun s5 h5 H5 m5 hf => ?_) 4000 _ _ _ H0 (Mo.rf _) hf
  refine aw_aload_n (pc' := 24) dX12_drill_23 rfl rfl rfl ?_
  refine aw_iconst (v := 2) (pc' := 25) dX12_drill_24 rfl (by decide) ?_
  refine aw_iconst (v := (-1)) (pc' := 26) dX12_drill_25 rfl (by decide) ?_
  refine aw_iconst (v := 0) (pc' := 27) dX12_drill_26 rfl (by decide) ?_
  obtain ⟨r6, s6, ec6, hf⟩ := bd_e hf
  refine aw_callVi (M' := mX12_saysNow) (nc' := 0) (ns' := 0) (pc' := 30) dX12_drill_27 rfl ml_RX12_403 kX12_saysNow (t_X12_saysNow H5 ec6) (H5.ob (H5.fo rfl rfl) (by decide)) rfl rfl rfl (Nat.le_of_ble_eq_true rfl) (rokD (by omega) (Nat.le_of_ble_eq_true rfl) (Nat.le_of_ble_eq_true rfl) (Nat.le_of_ble_eq_true rfl)) rfl rfl (fun _ h6 q6 => ?_)
  obtain ⟨rfl, H6, m6⟩ := q6
  refine aw_if_eq (tgt := 34) (pc' := 33) dX12_drill_30 (by decide) rfl (fun c7 => ?_) (fun c7 => ?_)
  · replace hf := ifp c7 hf
    refine aw_iconst (v := 0) (pc' := 35) dX12_drill_34 rfl (by decide) ?_
    refine aw_istore_n (lv' := [_, _]) (pc' := 36) dX12_drill_35 rfl (Nat.le_of_ble_eq_true rfl) rfl ?_
    refine t_X12_drill_L36 (m5.tr m6) (fun s32 h32 H32 m32 hf => ?_) 4000 _ _ _ H6 (Mo.rf _) hf
    refine aw_iconst (v := 0) (pc' := 118) dX12_drill_117 rfl (by decide) ?_
    refine aw_istore_n (lv' := [_, _]) (pc' := 119) dX12_drill_118 rfl (Nat.le_of_ble_eq_true rfl) rfl ?_
    refine t_X12_drill_L119 ((m5.tr m6).tr m32)  4000 _ _ _ H32 (Mo.rf _) hf
  · replace hf := ifn c7 hf
    obtain rfl := Option.some.inj hf
    exact aw_rv dX12_drill_33 rfl (Nat.le_of_ble_eq_true rfl) (Nat.le_of_ble_eq_true rfl) ⟨H6, (m5.tr m6)⟩
/-! ThirtyThreeBelowModel.eat -/
def f_X12_eat_L2_b  (rc : SS → Int32 → Option SS) (s : SS) (x1 : Int32) : Option SS := (if x1 < (zS s 59 4) then (gd (inB x1 120) (jn (fun (s3 : SS)  => (vl (x1 + 1) fun v4 => (rc s3 v4))) fun k3 => (if (zI s 77 (x1.toInt.toNat)) = (0 : Int32) then (k3 s) else (bd (f_X12_saysNow s 10 x1 1) fun r6 s6 => (b1 (f_X12_held r6 (0 : Int32) (9 : Int32)) fun r7 => (jn (fun (t8_0 : Int32) => (vl (((zS s6 59 54) - t8_0)) fun v9 => (st (pS s6 59 54 v9) fun s10 => (vl (((zS s10 59 55) + t8_0)) fun v11 => (st (pS s10 59 55 v11) fun s12 => (gd (inB x1 120) (b1 (f_X12_held (((zI s12 74 (x1.toInt.toNat)) - (6 : Int32)) + ((2 : Int32) * t8_0)) (0 : Int32) (999 : Int32)) fun r14 => (gd (inB x1 120) (st (pI s12 74 (x1.toInt.toNat) r14) fun s16 => (k3 s16)))))))))) fun k8 => (if r7 < (zS s6 59 54) then (k8 r7) else (k8 (zS s6 59 54))))))))) else some s)
def f_X12_eat_L2  : Nat → SS → Int32 → Option SS
  | 0, _, _ => none
  | n + 1, s, x1 => f_X12_eat_L2_b  (f_X12_eat_L2  n) s x1
set_option maxRecDepth 4000 in
theorem t_X12_eat_L2 {s0 sb s9 : SS} (mb : Mo s0 sb)  : ∀ (n : Nat) (s : SS) (h : List aE) (x1 : Int32), HH s h → Mo sb s → f_X12_eat_L2  n s x1 = some s9 → AW mX12_eat (rmD (4) 0 0) (fin (PV fun h' => HH s9 h' ∧ Mo s0 s9) 0 0) 2 [some (.ref 67), some (.int x1), none] [] h 0 0 := by
  intro n
  induction n with
  | zero =>
    intro s h x1 H ms hf
    cases hf
  | succ n ih =>
    intro s h x1 H ms hf
    replace hf : f_X12_eat_L2_b  (f_X12_eat_L2  n) s x1 = some s9 := hf
    unfold f_X12_eat_L2_b at hf
    refine aw_iload_n (pc' := 3) dX12_eat_2 rfl rfl ?_
    refine aw_aload_n (pc' := 4) dX12_eat_3 rfl rfl rfl ?_
    refine aw_gi (q := 59) (pc' := 7) H (H.fo rfl rfl) (by decide) rfl dX12_eat_4 rfl fl_RX12_242 ?_
    refine aw_cge (tgt := 106) (pc' := 10) dX12_eat_7 (by decide) rfl (fun c1 => ?_) (fun c1 => ?_)
    · replace hf := ifn c1 hf
      obtain rfl := Option.some.inj hf
      exact aw_rv dX12_eat_106 rfl (Nat.le_of_ble_eq_true rfl) (Nat.le_of_ble_eq_true rfl) ⟨H, (mb.tr ms)⟩
    · replace hf := ifp c1 hf
      refine aw_aload_n (pc' := 11) dX12_eat_10 rfl rfl rfl ?_
      refine aw_gr (q := 59) (e := 37) (v := .ref 85) (pc' := 14) H (H.fo rfl rfl) (by decide) rfl rfl dX12_eat_11 rfl fl_RX12_62 ?_
      refine aw_iload_n (pc' := 15) dX12_eat_14 rfl rfl ?_
      obtain ⟨g2, hf⟩ := gd_e hf
      refine aw_za (q := 77) (pc' := 16) H (H.fa rfl rfl rfl) g2 dX12_eat_15 rfl ?_
      obtain ⟨k3, ek3, hf⟩ := jn_e hf
      have hk3 : ∀ (s3 : SS) (h3 : List aE), HH s3 h3 → Mo s s3 → k3 s3 = some s9 → AW mX12_eat (rmD (4) 0 0) (fin (PV fun h' => HH s9 h' ∧ Mo s0 s9) 0 0) 100 [some (.ref 67), some (.int x1), none] [] h3 0 0 := by
        intro s3 h3 H3 m3 hf
        subst ek3
        obtain ⟨v4, ev4, hf⟩ := vl_e hf
        refine aw_iincV (y := v4) (lv' := [_, _, _]) (pc' := 103) dX12_eat_100 rfl rfl (Nat.le_of_ble_eq_true rfl) ev4 rfl ?_
        refine aw_goto (tgt := 2) dX12_eat_103 (by decide) ?_
        exact ih _ _ _ H3 (ms.tr m3) hf
      clear ek3
      refine aw_if_ne (tgt := 22) (pc' := 19) dX12_eat_16 (by decide) rfl (fun c5 => ?_) (fun c5 => ?_)
      · replace hf := ifn c5 hf
        refine aw_aload_n (pc' := 23) dX12_eat_22 rfl rfl rfl ?_
        refine aw_bipush (v := 10) (pc' := 25) dX12_eat_23 rfl (by decide) ?_
        refine aw_iload_n (pc' := 26) dX12_eat_25 rfl rfl ?_
        refine aw_iconst (v := 1) (pc' := 27) dX12_eat_26 rfl (by decide) ?_
        obtain ⟨r6, s6, ec6, hf⟩ := bd_e hf
        refine aw_callVi (M' := mX12_saysNow) (nc' := 0) (ns' := 0) (pc' := 30) dX12_eat_27 rfl ml_RX12_403 kX12_saysNow (t_X12_saysNow H ec6) (H.ob (H.fo rfl rfl) (by decide)) rfl rfl rfl (Nat.le_of_ble_eq_true rfl) (rokD (by omega) (Nat.le_of_ble_eq_true rfl) (Nat.le_of_ble_eq_true rfl) (Nat.le_of_ble_eq_true rfl)) rfl rfl (fun _ h6 q6 => ?_)
        obtain ⟨rfl, H6, m6⟩ := q6
        refine aw_iconst (v := 0) (pc' := 31) dX12_eat_30 rfl (by decide) ?_
        refine aw_bipush (v := 9) (pc' := 33) dX12_eat_31 rfl (by decide) ?_
        obtain ⟨r7, ec7, hf⟩ := b1_e hf
        refine aw_callSi (M' := mX12_held) (nc' := 0) (ns' := 0) (pc' := 36) dX12_eat_33 rfl ml_RX12_284 kX12_held (t_X12_held ec7) rfl rfl (Nat.le_of_ble_eq_true rfl) (rokD (by omega) (Nat.le_of_ble_eq_true rfl) (Nat.le_of_ble_eq_true rfl) (Nat.le_of_ble_eq_true rfl)) rfl rfl (fun _ h7 q7 => ?_)
        obtain ⟨rfl, rfl⟩ := q7
        refine aw_istore_n (lv' := [_, _, _]) (pc' := 37) dX12_eat_36 rfl (Nat.le_of_ble_eq_true rfl) rfl ?_
        refine aw_iload_n (pc' := 38) dX12_eat_37 rfl rfl ?_
        refine aw_aload_n (pc' := 39) dX12_eat_38 rfl rfl rfl ?_
        refine aw_gi (q := 59) (pc' := 42) H6 (H6.fo rfl rfl) (by decide) rfl dX12_eat_39 rfl fl_RX12_397 ?_
        obtain ⟨k8, ek8, hf⟩ := jn_e hf
        have hk8 : ∀ (t8_0 : Int32), k8 t8_0 = some s9 → AW mX12_eat (rmD (4) 0 0) (fin (PV fun h' => HH s9 h' ∧ Mo s0 s9) 0 0) 53 [some (.ref 67), some (.int x1), none] [.int t8_0] h6 0 0 := by
          intro t8_0 hf
          subst ek8
          refine aw_istore_n (lv' := [_, _, _]) (pc' := 54) dX12_eat_53 rfl (Nat.le_of_ble_eq_true rfl) rfl ?_
          refine aw_aload_n (pc' := 55) dX12_eat_54 rfl rfl rfl ?_
          refine aw_dup (pc' := 56) dX12_eat_55 rfl rfl ?_
          refine aw_gi (q := 59) (pc' := 59) H6 (H6.fo rfl rfl) (by decide) rfl dX12_eat_56 rfl fl_RX12_397 ?_
          refine aw_iload_n (pc' := 60) dX12_eat_59 rfl rfl ?_
          refine aw_isub (pc' := 61) dX12_eat_60 rfl ?_
          obtain ⟨v9, ev9, hf⟩ := vl_e hf
          refine aw_topi ev9 ?_
          obtain ⟨s10, es10, hf⟩ := st_e hf
          refine aw_pi (q := 59) (pc' := 64) es10 H6 (H6.fo rfl rfl) (by decide) rfl dX12_eat_61 rfl fl_RX12_397 rfl (fun h10 H10 => ?_)
          have m10 := Mo.ofS es10
          refine aw_aload_n (pc' := 65) dX12_eat_64 rfl rfl rfl ?_
          refine aw_dup (pc' := 66) dX12_eat_65 rfl rfl ?_
          refine aw_gi (q := 59) (pc' := 69) H10 (H10.fo rfl rfl) (by decide) rfl dX12_eat_66 rfl fl_RX12_412 ?_
          refine aw_iload_n (pc' := 70) dX12_eat_69 rfl rfl ?_
          refine aw_iadd (pc' := 71) dX12_eat_70 rfl ?_
          obtain ⟨v11, ev11, hf⟩ := vl_e hf
          refine aw_topi ev11 ?_
          obtain ⟨s12, es12, hf⟩ := st_e hf
          refine aw_pi (q := 59) (pc' := 74) es12 H10 (H10.fo rfl rfl) (by decide) rfl dX12_eat_71 rfl fl_RX12_412 rfl (fun h12 H12 => ?_)
          have m12 := Mo.ofS es12
          refine aw_aload_n (pc' := 75) dX12_eat_74 rfl rfl rfl ?_
          refine aw_gr (q := 59) (e := 31) (v := .ref 82) (pc' := 78) H12 (H12.fo rfl rfl) (by decide) rfl rfl dX12_eat_75 rfl fl_RX12_53 ?_
          refine aw_iload_n (pc' := 79) dX12_eat_78 rfl rfl ?_
          refine aw_aload_n (pc' := 80) dX12_eat_79 rfl rfl rfl ?_
          refine aw_gr (q := 59) (e := 31) (v := .ref 82) (pc' := 83) H12 (H12.fo rfl rfl) (by decide) rfl rfl dX12_eat_80 rfl fl_RX12_53 ?_
          refine aw_iload_n (pc' := 84) dX12_eat_83 rfl rfl ?_
          obtain ⟨g13, hf⟩ := gd_e hf
          refine aw_ia (q := 74) (pc' := 85) H12 (H12.fa rfl rfl rfl) g13 dX12_eat_84 rfl ?_
          refine aw_bipush (v := 6) (pc' := 87) dX12_eat_85 rfl (by decide) ?_
          refine aw_isub (pc' := 88) dX12_eat_87 rfl ?_
          refine aw_iconst (v := 2) (pc' := 89) dX12_eat_88 rfl (by decide) ?_
          refine aw_iload_n (pc' := 90) dX12_eat_89 rfl rfl ?_
          refine aw_imul (pc' := 91) dX12_eat_90 rfl ?_
          refine aw_iadd (pc' := 92) dX12_eat_91 rfl ?_
          refine aw_iconst (v := 0) (pc' := 93) dX12_eat_92 rfl (by decide) ?_
          refine aw_sipush (v := 999) (pc' := 96) dX12_eat_93 rfl (by decide) ?_
          obtain ⟨r14, ec14, hf⟩ := b1_e hf
          refine aw_callSi (M' := mX12_held) (nc' := 0) (ns' := 0) (pc' := 99) dX12_eat_96 rfl ml_RX12_284 kX12_held (t_X12_held ec14) rfl rfl (Nat.le_of_ble_eq_true rfl) (rokD (by omega) (Nat.le_of_ble_eq_true rfl) (Nat.le_of_ble_eq_true rfl) (Nat.le_of_ble_eq_true rfl)) rfl rfl (fun _ h14 q14 => ?_)
          obtain ⟨rfl, rfl⟩ := q14
          obtain ⟨g15, hf⟩ := gd_e hf
          obtain ⟨s16, es16, hf⟩ := st_e hf
          refine aw_is (q := 74) (pc' := 100) es16 H12 (H12.fa rfl rfl rfl) g15 dX12_eat_99 rfl (fun h16 H16 => ?_)
          have m16 := Mo.ofI es16
          refine AW.lv_le (lz_k (lz_k (lz_d lz_0))) ?_
          exact hk3 _ _ H16 (((m6.tr m10).tr m12).tr m16) hf
        clear ek8
        refine aw_cge (tgt := 49) (pc' := 45) dX12_eat_42 (by decide) rfl (fun c17 => ?_) (fun c17 => ?_)
        · replace hf := ifn c17 hf
          refine aw_aload_n (pc' := 50) dX12_eat_49 rfl rfl rfl ?_
          refine aw_gi (q := 59) (pc' := 53) H6 (H6.fo rfl rfl) (by decide) rfl dX12_eat_50 rfl fl_RX12_397 ?_
          refine AW.lv_le (lz_k (lz_k (lz_d lz_0))) ?_
          exact hk8 _ hf
        · replace hf := ifp c17 hf
          refine aw_iload_n (pc' := 46) dX12_eat_45 rfl rfl ?_
          refine aw_goto (tgt := 53) dX12_eat_46 (by decide) ?_
          refine AW.lv_le (lz_k (lz_k (lz_d lz_0))) ?_
          exact hk8 _ hf
      · replace hf := ifp c5 hf
        refine aw_goto (tgt := 100) dX12_eat_19 (by decide) ?_
        exact hk3 _ _ H (Mo.rf _) hf
def f_X12_eat (s0 : SS)  : Option SS := (f_X12_eat_L2 4000 s0 0)
set_option maxRecDepth 4000 in
theorem t_X12_eat {s0 s9 : SS} {h0 : List aE}  (H0 : HH s0 h0) (hf : f_X12_eat s0 = some s9) : AM mX12_eat (4) [.ref 67] h0 0 0 (PV fun h' => HH s9 h' ∧ Mo s0 s9) := by
  unfold f_X12_eat at hf
  refine am_of (lv := [some (.ref 67), none, none]) rfl (Nat.le_of_ble_eq_true rfl) rfl ?_
  refine aw_iconst (v := 0) (pc' := 1) dX12_eat_0 rfl (by decide) ?_
  refine aw_istore_n (lv' := [_, _, _]) (pc' := 2) dX12_eat_1 rfl (Nat.le_of_ble_eq_true rfl) rfl ?_
  refine t_X12_eat_L2 (Mo.rf _)  4000 _ _ _ H0 (Mo.rf _) hf
/-! ThirtyThreeBelowModel.comeDown -/
def f_X12_comeDown_L4_b (q0 : SS → Int32 → Option SS) (rc : SS → Int32 → Int32 → Option SS) (s : SS) (x1 : Int32) (x2 : Int32) : Option SS := (if x2 < (zS s 59 62) then (gd (inB x2 40) (jn (fun (s3 : SS) (j3_1 : Int32) => (vl (x2 + 1) fun v4 => (rc s3 j3_1 v4))) fun k3 => (if (zI s 103 (x2.toInt.toNat)) = (zS s 59 1) then (gd (inB x2 40) (if ((zI s 102 (x2.toInt.toNat)) % (10 : Int32)) = (0 : Int32) then (gd (inB x2 40) (vl (((zS s 59 54) + ((zI s 102 (x2.toInt.toNat)) / (10 : Int32)))) fun v25 => (st (pS s 59 54 v25) fun s26 => (k3 s26 x1)))) else (gd (inB x2 40) (vl (((zI s 102 (x2.toInt.toNat)) % (10 : Int32))) fun v18 => (gd (inB v18 10) (vl (((zI s 105 (v18.toInt.toNat)) + (1 : Int32))) fun v20 => (vl (((zI s 102 (x2.toInt.toNat)) % (10 : Int32))) fun v21 => (gd (inB v21 10) (st (pI s 105 (v21.toInt.toNat) v20) fun s23 => (k3 s23 x1)))))))))) else (gd (inB x2 40) (vl ((zI s 102 (x2.toInt.toNat))) fun v7 => (gd (inB x1 40) (st (pI s 102 (x1.toInt.toNat) v7) fun s9 => (gd (inB x2 40) (vl ((zI s9 103 (x2.toInt.toNat))) fun v11 => (gd (inB x1 40) (st (pI s9 103 (x1.toInt.toNat) v11) fun s13 => (vl (x1 + 1) fun v14 => (k3 s13 v14))))))))))))) else (q0 s x1))
def f_X12_comeDown_L4 (q0 : SS → Int32 → Option SS) : Nat → SS → Int32 → Int32 → Option SS
  | 0, _, _, _ => none
  | n + 1, s, x1, x2 => f_X12_comeDown_L4_b q0 (f_X12_comeDown_L4 q0 n) s x1 x2
set_option maxRecDepth 4000 in
theorem t_X12_comeDown_L4 {s0 sb s9 : SS} {q0 : SS → Int32 → Option SS} (mb : Mo s0 sb) (hq0 : ∀ (s : SS) (h : List aE) (x1 : Int32), HH s h → Mo sb s → q0 s x1 = some s9 → AW mX12_comeDown (rmD (0) 0 0) (fin (PV fun h' => HH s9 h' ∧ Mo s0 s9) 0 0) 112 [some (.ref 67), some (.int x1), none] [] h 0 0) : ∀ (n : Nat) (s : SS) (h : List aE) (x1 : Int32) (x2 : Int32), HH s h → Mo sb s → f_X12_comeDown_L4 q0 n s x1 x2 = some s9 → AW mX12_comeDown (rmD (0) 0 0) (fin (PV fun h' => HH s9 h' ∧ Mo s0 s9) 0 0) 4 [some (.ref 67), some (.int x1), some (.int x2)] [] h 0 0 := by
  intro n
  induction n with
  | zero =>
    intro s h x1 x2 H ms hf
    cases hf
  | succ n ih =>
    intro s h x1 x2 H ms hf
    replace hf : f_X12_comeDown_L4_b q0 (f_X12_comeDown_L4 q0 n) s x1 x2 = some s9 := hf
    unfold f_X12_comeDown_L4_b at hf
    refine aw_iload_n (pc' := 5) dX12_comeDown_4 rfl rfl ?_
    refine aw_aload_n (pc' := 6) dX12_comeDown_5 rfl rfl rfl ?_
    refine aw_gi (q := 59) (pc' := 9) H (H.fo rfl rfl) (by decide) rfl dX12_comeDown_6 rfl fl_RX12_428 ?_
    refine aw_cge (tgt := 112) (pc' := 12) dX12_comeDown_9 (by decide) rfl (fun c1 => ?_) (fun c1 => ?_)
    · replace hf := ifn c1 hf
      refine AW.lv_le (lz_k (lz_k (lz_d lz_0))) ?_
      exact hq0 _ _ _ H ms hf
    · replace hf := ifp c1 hf
      refine aw_aload_n (pc' := 13) dX12_comeDown_12 rfl rfl rfl ?_
      refine aw_gr (q := 59) (e := 89) (v := .ref 111) (pc' := 16) H (H.fo rfl rfl) (by decide) rfl rfl dX12_comeDown_13 rfl fl_RX12_148 ?_
      refine aw_iload_n (pc' := 17) dX12_comeDown_16 rfl rfl ?_
      obtain ⟨g2, hf⟩ := gd_e hf
      refine aw_ia (q := 103) (pc' := 18) H (H.fa rfl rfl rfl) g2 dX12_comeDown_17 rfl ?_
      refine aw_aload_n (pc' := 19) dX12_comeDown_18 rfl rfl rfl ?_
      refine aw_gi (q := 59) (pc' := 22) H (H.fo rfl rfl) (by decide) rfl dX12_comeDown_19 rfl fl_RX12_281 ?_
      obtain ⟨k3, ek3, hf⟩ := jn_e hf
      have hk3 : ∀ (s3 : SS) (h3 : List aE) (j3_1 : Int32), HH s3 h3 → Mo s s3 → k3 s3 j3_1 = some s9 → AW mX12_comeDown (rmD (0) 0 0) (fin (PV fun h' => HH s9 h' ∧ Mo s0 s9) 0 0) 106 [some (.ref 67), some (.int j3_1), some (.int x2)] [] h3 0 0 := by
        intro s3 h3 j3_1 H3 m3 hf
        subst ek3
        obtain ⟨v4, ev4, hf⟩ := vl_e hf
        refine aw_iincV (y := v4) (lv' := [_, _, _]) (pc' := 109) dX12_comeDown_106 rfl rfl (Nat.le_of_ble_eq_true rfl) ev4 rfl ?_
        refine aw_goto (tgt := 4) dX12_comeDown_109 (by decide) ?_
        exact ih _ _ _ _ H3 (ms.tr m3) hf
      clear ek3
      refine aw_icmp_ne (tgt := 79) (pc' := 25) dX12_comeDown_22 (by decide) rfl (fun c5 => ?_) (fun c5 => ?_)
      · replace hf := ifn c5 hf
        refine aw_aload_n (pc' := 80) dX12_comeDown_79 rfl rfl rfl ?_
        refine aw_gr (q := 59) (e := 87) (v := .ref 110) (pc' := 83) H (H.fo rfl rfl) (by decide) rfl rfl dX12_comeDown_80 rfl fl_RX12_145 ?_
        refine aw_iload_n (pc' := 84) dX12_comeDown_83 rfl rfl ?_
        refine aw_aload_n (pc' := 85) dX12_comeDown_84 rfl rfl rfl ?_
        refine aw_gr (q := 59) (e := 87) (v := .ref 110) (pc' := 88) H (H.fo rfl rfl) (by decide) rfl rfl dX12_comeDown_85 rfl fl_RX12_145 ?_
        refine aw_iload_n (pc' := 89) dX12_comeDown_88 rfl rfl ?_
        obtain ⟨g6, hf⟩ := gd_e hf
        refine aw_ia (q := 102) (pc' := 90) H (H.fa rfl rfl rfl) g6 dX12_comeDown_89 rfl ?_
        obtain ⟨v7, ev7, hf⟩ := vl_e hf
        refine aw_topi ev7 ?_
        obtain ⟨g8, hf⟩ := gd_e hf
        obtain ⟨s9, es9, hf⟩ := st_e hf
        refine aw_is (q := 102) (pc' := 91) es9 H (H.fa rfl rfl rfl) g8 dX12_comeDown_90 rfl (fun h9 H9 => ?_)
        have m9 := Mo.ofI es9
        refine aw_aload_n (pc' := 92) dX12_comeDown_91 rfl rfl rfl ?_
        refine aw_gr (q := 59) (e := 89) (v := .ref 111) (pc' := 95) H9 (H9.fo rfl rfl) (by decide) rfl rfl dX12_comeDown_92 rfl fl_RX12_148 ?_
        refine aw_iload_n (pc' := 96) dX12_comeDown_95 rfl rfl ?_
        refine aw_aload_n (pc' := 97) dX12_comeDown_96 rfl rfl rfl ?_
        refine aw_gr (q := 59) (e := 89) (v := .ref 111) (pc' := 100) H9 (H9.fo rfl rfl) (by decide) rfl rfl dX12_comeDown_97 rfl fl_RX12_148 ?_
        refine aw_iload_n (pc' := 101) dX12_comeDown_100 rfl rfl ?_
        obtain ⟨g10, hf⟩ := gd_e hf
        refine aw_ia (q := 103) (pc' := 102) H9 (H9.fa rfl rfl rfl) g10 dX12_comeDown_101 rfl ?_
        obtain ⟨v11, ev11, hf⟩ := vl_e hf
        refine aw_topi ev11 ?_
        obtain ⟨g12, hf⟩ := gd_e hf
        obtain ⟨s13, es13, hf⟩ := st_e hf
        refine aw_is (q := 103) (pc' := 103) es13 H9 (H9.fa rfl rfl rfl) g12 dX12_comeDown_102 rfl (fun h13 H13 => ?_)
        have m13 := Mo.ofI es13
        obtain ⟨v14, ev14, hf⟩ := vl_e hf
        refine aw_iincV (y := v14) (lv' := [_, _, _]) (pc' := 106) dX12_comeDown_103 rfl rfl (Nat.le_of_ble_eq_true rfl) ev14 rfl ?_
        exact hk3 _ _ _ H13 (m9.tr m13) hf
      · replace hf := ifp c5 hf
        refine aw_aload_n (pc' := 26) dX12_comeDown_25 rfl rfl rfl ?_
        refine aw_gr (q := 59) (e := 87) (v := .ref 110) (pc' := 29) H (H.fo rfl rfl) (by decide) rfl rfl dX12_comeDown_26 rfl fl_RX12_145 ?_
        refine aw_iload_n (pc' := 30) dX12_comeDown_29 rfl rfl ?_
        obtain ⟨g15, hf⟩ := gd_e hf
        refine aw_ia (q := 102) (pc' := 31) H (H.fa rfl rfl rfl) g15 dX12_comeDown_30 rfl ?_
        refine aw_bipush (v := 10) (pc' := 33) dX12_comeDown_31 rfl (by decide) ?_
        refine aw_irem (pc' := 34) dX12_comeDown_33 rfl (by decide) ?_
        refine aw_if_ne (tgt := 58) (pc' := 37) dX12_comeDown_34 (by decide) rfl (fun c16 => ?_) (fun c16 => ?_)
        · replace hf := ifn c16 hf
          refine aw_aload_n (pc' := 59) dX12_comeDown_58 rfl rfl rfl ?_
          refine aw_gr (q := 59) (e := 93) (v := .ref 113) (pc' := 62) H (H.fo rfl rfl) (by decide) rfl rfl dX12_comeDown_59 rfl fl_RX12_154 ?_
          refine aw_aload_n (pc' := 63) dX12_comeDown_62 rfl rfl rfl ?_
          refine aw_gr (q := 59) (e := 87) (v := .ref 110) (pc' := 66) H (H.fo rfl rfl) (by decide) rfl rfl dX12_comeDown_63 rfl fl_RX12_145 ?_
          refine aw_iload_n (pc' := 67) dX12_comeDown_66 rfl rfl ?_
          obtain ⟨g17, hf⟩ := gd_e hf
          refine aw_ia (q := 102) (pc' := 68) H (H.fa rfl rfl rfl) g17 dX12_comeDown_67 rfl ?_
          refine aw_bipush (v := 10) (pc' := 70) dX12_comeDown_68 rfl (by decide) ?_
          refine aw_irem (pc' := 71) dX12_comeDown_70 rfl (by decide) ?_
          refine aw_dup2 (pc' := 72) dX12_comeDown_71 rfl rfl rfl ?_
          obtain ⟨v18, ev18, hf⟩ := vl_e hf
          refine aw_topi ev18 ?_
          obtain ⟨g19, hf⟩ := gd_e hf
          refine aw_ia (q := 105) (pc' := 73) H (H.fa rfl rfl rfl) g19 dX12_comeDown_72 rfl ?_
          refine aw_iconst (v := 1) (pc' := 74) dX12_comeDown_73 rfl (by decide) ?_
          refine aw_iadd (pc' := 75) dX12_comeDown_74 rfl ?_
          obtain ⟨v20, ev20, hf⟩ := vl_e hf
          refine aw_topi ev20 ?_
          obtain ⟨v21, ev21, hf⟩ := vl_e hf
          refine aw_sndi ev21 ?_
          obtain ⟨g22, hf⟩ := gd_e hf
          obtain ⟨s23, es23, hf⟩ := st_e hf
          refine aw_is (q := 105) (pc' := 76) es23 H (H.fa rfl rfl rfl) g22 dX12_comeDown_75 rfl (fun h23 H23 => ?_)
          have m23 := Mo.ofI es23
          refine aw_goto (tgt := 106) dX12_comeDown_76 (by decide) ?_
          exact hk3 _ _ _ H23 m23 hf
        · replace hf := ifp c16 hf
          refine aw_aload_n (pc' := 38) dX12_comeDown_37 rfl rfl rfl ?_
          refine aw_dup (pc' := 39) dX12_comeDown_38 rfl rfl ?_
          refine aw_gi (q := 59) (pc' := 42) H (H.fo rfl rfl) (by decide) rfl dX12_comeDown_39 rfl fl_RX12_397 ?_
          refine aw_aload_n (pc' := 43) dX12_comeDown_42 rfl rfl rfl ?_
          refine aw_gr (q := 59) (e := 87) (v := .ref 110) (pc' := 46) H (H.fo rfl rfl) (by decide) rfl rfl dX12_comeDown_43 rfl fl_RX12_145 ?_
          refine aw_iload_n (pc' := 47) dX12_comeDown_46 rfl rfl ?_
          obtain ⟨g24, hf⟩ := gd_e hf
          refine aw_ia (q := 102) (pc' := 48) H (H.fa rfl rfl rfl) g24 dX12_comeDown_47 rfl ?_
          refine aw_bipush (v := 10) (pc' := 50) dX12_comeDown_48 rfl (by decide) ?_
          refine aw_idiv (pc' := 51) dX12_comeDown_50 rfl (by decide) ?_
          refine aw_iadd (pc' := 52) dX12_comeDown_51 rfl ?_
          obtain ⟨v25, ev25, hf⟩ := vl_e hf
          refine aw_topi ev25 ?_
          obtain ⟨s26, es26, hf⟩ := st_e hf
          refine aw_pi (q := 59) (pc' := 55) es26 H (H.fo rfl rfl) (by decide) rfl dX12_comeDown_52 rfl fl_RX12_397 rfl (fun h26 H26 => ?_)
          have m26 := Mo.ofS es26
          refine aw_goto (tgt := 106) dX12_comeDown_55 (by decide) ?_
          exact hk3 _ _ _ H26 m26 hf
def f_X12_comeDown (s0 : SS)  : Option SS := (f_X12_comeDown_L4 (fun (s27 : SS) (x27_1 : Int32) => (st (pS s27 59 62 x27_1) fun s28 => some s28)) 4000 s0 0 0)
set_option maxRecDepth 4000 in
theorem t_X12_comeDown {s0 s9 : SS} {h0 : List aE}  (H0 : HH s0 h0) (hf : f_X12_comeDown s0 = some s9) : AM mX12_comeDown (0) [.ref 67] h0 0 0 (PV fun h' => HH s9 h' ∧ Mo s0 s9) := by
  unfold f_X12_comeDown at hf
  refine am_of (lv := [some (.ref 67), none, none]) rfl (Nat.le_of_ble_eq_true rfl) rfl ?_
  refine aw_iconst (v := 0) (pc' := 1) dX12_comeDown_0 rfl (by decide) ?_
  refine aw_istore_n (lv' := [_, _, _]) (pc' := 2) dX12_comeDown_1 rfl (Nat.le_of_ble_eq_true rfl) rfl ?_
  refine aw_iconst (v := 0) (pc' := 3) dX12_comeDown_2 rfl (by decide) ?_
  refine aw_istore_n (lv' := [_, _, _]) (pc' := 4) dX12_comeDown_3 rfl (Nat.le_of_ble_eq_true rfl) rfl ?_
  refine t_X12_comeDown_L4 (Mo.rf _) (fun s27 h27 x27_1 H27 m27 hf => ?_) 4000 _ _ _ _ H0 (Mo.rf _) hf
  refine aw_aload_n (pc' := 113) dX12_comeDown_112 rfl rfl rfl ?_
  refine aw_iload_n (pc' := 114) dX12_comeDown_113 rfl rfl ?_
  obtain ⟨s28, es28, hf⟩ := st_e hf
  refine aw_pi (q := 59) (pc' := 117) es28 H27 (H27.fo rfl rfl) (by decide) rfl dX12_comeDown_114 rfl fl_RX12_428 rfl (fun h28 H28 => ?_)
  have m28 := Mo.ofS es28
  obtain rfl := Option.some.inj hf
  exact aw_rv dX12_comeDown_117 rfl (Nat.le_of_ble_eq_true rfl) (Nat.le_of_ble_eq_true rfl) ⟨H28, (m27.tr m28)⟩
/-! ThirtyThreeBelowModel.hours -/
def f_X12_hours_L65_b (q0 : SS → Option (Int32 × SS)) (y1 : Int32) (y2 : Int32) (rc : SS → Int32 → Option (Int32 × SS)) (s : SS) (x3 : Int32) : Option (Int32 × SS) := (if x3 < (zS s 59 56) then (gd (inB x3 60) (jn (fun (s12 : SS)  => (vl (x3 + 1) fun v13 => (rc s12 v13))) fun k12 => (if (zI s 98 (x3.toInt.toNat)) = (zS s 59 1) then (gd (inB x3 60) (b1 (f_X12_placeOf (zI s 97 (x3.toInt.toNat))) fun r16 => (gd (inB r16 1952) (st (pI s 61 (r16.toInt.toNat) ((0 : Int32) &&& 1)) fun s18 => (gd (inB r16 1952) (st (pI s18 60 (r16.toInt.toNat) 6) fun s20 => (if (zS s20 59 21) < (0 : Int32) then (k12 s20) else (gd (inB x3 60) (if ((zI s20 97 (x3.toInt.toNat)) % (100 : Int32)) = (zS s20 59 24) then (gd (inB x3 60) (b1 (f_X12_in ((zI s20 97 (x3.toInt.toNat)) / (100 : Int32)) (zS s20 59 22) (zS s20 59 23)) fun r25 => (if r25 = (0 : Int32) then (k12 s20) else (st (pS s20 59 25 1) fun s27 => (k12 s27))))) else (k12 s20)))))))))) else (k12 s)))) else (q0 s))
def f_X12_hours_L65 (q0 : SS → Option (Int32 × SS)) (y1 : Int32) (y2 : Int32) : Nat → SS → Int32 → Option (Int32 × SS)
  | 0, _, _ => none
  | n + 1, s, x3 => f_X12_hours_L65_b q0 y1 y2 (f_X12_hours_L65 q0 y1 y2 n) s x3
set_option maxRecDepth 4000 in
theorem t_X12_hours_L65 {r9 : Int32} {s0 sb s9 : SS} {q0 : SS → Option (Int32 × SS} {y1 : Int32} {y2 : Int32} (mb : Mo s0 sb) (hq0 : ∀ (s : SS) (h : List aE), HH s h → Mo sb s → q0 s = some (r9, s9) → AW mX12_hours (rmD (5) 0 0) (fin (PI fun r' h' => r9 = r' ∧ HH s9 h' ∧ Mo s0 s9) 0 0) 174 [some (.ref 67), some (.int y1), some (.int y2), none, none] [] h 0 0) : ∀ (n : Nat) (s : SS) (h : List aE) (x3 : Int32), HH s h → Mo sb s → f_X12_hours_L65 q0 y1 y2 n s x3 = some (r9, s9) → AW mX12_hours (rmD (5) 0 0) (fin (PI fun r' h' => r9 = r' ∧ HH s9 h' ∧ Mo s0 s9) 0 0) 65 [some (.ref 67), some (.int y1), some (.int y2), some (.int x3), none] [] h 0 0 := by
  intro n
  induction n with
  | zero =>
    intro s h x3 H ms hf
    cases hf
  | succ n ih =>
    intro s h x3 H ms hf
    replace hf : f_X12_hours_L65_b q0 y1 y2 (f_X12_hours_L65 q0 y1 y2 n) s x3 = some (r9, s9) := hf
    unfold f_X12_hours_L65_b at hf
    refine aw_iload_n (pc' := 66) dX12_hours_65 rfl rfl ?_
    refine aw_aload_n (pc' := 67) dX12_hours_66 rfl rfl rfl ?_
    refine aw_gi (q := 59) (pc' := 70) H (H.fo rfl rfl) (by decide) rfl dX12_hours_67 rfl fl_RX12_406 ?_
    refine aw_cge (tgt := 174) (pc' := 73) dX12_hours_70 (by decide) rfl (fun c10 => ?_) (fun c10 => ?_)
    · replace hf := ifn c10 hf
      refine AW.lv_le (lz_k (lz_k (lz_k (lz_d (lz_d lz_0))))) ?_
      exact hq0 _ _ H ms hf
    · replace hf := ifp c10 hf
      refine aw_aload_n (pc' := 74) dX12_hours_73 rfl rfl rfl ?_
      refine aw_gr (q := 59) (e := 79) (v := .ref 106) (pc' := 77) H (H.fo rfl rfl) (by decide) rfl rfl dX12_hours_74 rfl fl_RX12_133 ?_
      refine aw_iload_n (pc' := 78) dX12_hours_77 rfl rfl ?_
      obtain ⟨g11, hf⟩ := gd_e hf
      refine aw_ia (q := 98) (pc' := 79) H (H.fa rfl rfl rfl) g11 dX12_hours_78 rfl ?_
      refine aw_aload_n (pc' := 80) dX12_hours_79 rfl rfl rfl ?_
      refine aw_gi (q := 59) (pc' := 83) H (H.fo rfl rfl) (by decide) rfl dX12_hours_80 rfl fl_RX12_281 ?_
      obtain ⟨k12, ek12, hf⟩ := jn_e hf
      have hk12 : ∀ (s12 : SS) (h12 : List aE), HH s12 h12 → Mo s s12 → k12 s12 = some (r9, s9) → AW mX12_hours (rmD (5) 0 0) (fin (PI fun r' h' => r9 = r' ∧ HH s9 h' ∧ Mo s0 s9) 0 0) 168 [some (.ref 67), some (.int y1), some (.int y2), some (.int x3), none] [] h12 0 0 := by
        intro s12 h12 H12 m12 hf
        subst ek12
        obtain ⟨v13, ev13, hf⟩ := vl_e hf
        refine aw_iincV (y := v13) (lv' := [_, _, _, _, _]) (pc' := 171) dX12_hours_168 rfl rfl (Nat.le_of_ble_eq_true rfl) ev13 rfl ?_
        refine aw_goto (tgt := 65) dX12_hours_171 (by decide) ?_
        exact ih _ _ _ H12 (ms.tr m12) hf
      clear ek12
      refine aw_icmp_eq (tgt := 89) (pc' := 86) dX12_hours_83 (by decide) rfl (fun c14 => ?_) (fun c14 => ?_)
      · replace hf := ifp c14 hf
        refine aw_aload_n (pc' := 90) dX12_hours_89 rfl rfl rfl ?_
        refine aw_gr (q := 59) (e := 77) (v := .ref 105) (pc' := 93) H (H.fo rfl rfl) (by decide) rfl rfl dX12_hours_90 rfl fl_RX12_130 ?_
        refine aw_iload_n (pc' := 94) dX12_hours_93 rfl rfl ?_
        obtain ⟨g15, hf⟩ := gd_e hf
        refine aw_ia (q := 97) (pc' := 95) H (H.fa rfl rfl rfl) g15 dX12_hours_94 rfl ?_
        obtain ⟨r16, ec16, hf⟩ := b1_e hf
        refine aw_callSi (M' := mX12_placeOf) (nc' := 0) (ns' := 0) (pc' := 98) dX12_hours_95 rfl ml_RX12_238 kX12_placeOf (t_X12_placeOf ec16) rfl rfl (Nat.le_of_ble_eq_true rfl) (rokD (by omega) (Nat.le_of_ble_eq_true rfl) (Nat.le_of_ble_eq_true rfl) (Nat.le_of_ble_eq_true rfl)) rfl rfl (fun _ h16 q16 => ?_)
        obtain ⟨rfl, rfl⟩ := q16
        refine aw_istore (lv' := [_, _, _, _, _]) (pc' := 100) dX12_hours_98 rfl (Nat.le_of_ble_eq_true rfl) rfl ?_
        refine aw_aload_n (pc' := 101) dX12_hours_100 rfl rfl rfl ?_
        refine aw_gr (q := 59) (e := 5) (v := .ref 69) (pc' := 104) H (H.fo rfl rfl) (by decide) rfl rfl dX12_hours_101 rfl fl_RX12_13 ?_
        refine aw_iload (pc' := 106) dX12_hours_104 rfl rfl ?_
        refine aw_iconst (v := 0) (pc' := 107) dX12_hours_106 rfl (by decide) ?_
        obtain ⟨g17, hf⟩ := gd_e hf
        obtain ⟨s18, es18, hf⟩ := st_e hf
        refine aw_zs (q := 61) (pc' := 108) es18 H (H.fa rfl rfl rfl) g17 dX12_hours_107 rfl (fun h18 H18 => ?_)
        have m18 := Mo.ofI es18
        refine aw_aload_n (pc' := 109) dX12_hours_108 rfl rfl rfl ?_
        refine aw_gr (q := 59) (e := 3) (v := .ref 68) (pc' := 112) H18 (H18.fo rfl rfl) (by decide) rfl rfl dX12_hours_109 rfl fl_RX12_7 ?_
        refine aw_iload (pc' := 114) dX12_hours_112 rfl rfl ?_
        refine aw_bipush (v := 6) (pc' := 116) dX12_hours_114 rfl (by decide) ?_
        obtain ⟨g19, hf⟩ := gd_e hf
        obtain ⟨s20, es20, hf⟩ := st_e hf
        refine aw_is (q := 60) (pc' := 117) es20 H18 (H18.fa rfl rfl rfl) g19 dX12_hours_116 rfl (fun h20 H20 => ?_)
        have m20 := Mo.ofI es20
        refine aw_aload_n (pc' := 118) dX12_hours_117 rfl rfl rfl ?_
        refine aw_gi (q := 59) (pc' := 121) H20 (H20.fo rfl rfl) (by decide) rfl dX12_hours_118 rfl fl_RX12_65 ?_
        refine aw_zlt (tgt := 168) (pc' := 124) dX12_hours_121 (by decide) rfl (fun c21 => ?_) (fun c21 => ?_)
        · replace hf := ifp c21 hf
          refine AW.lv_le (lz_k (lz_k (lz_k (lz_k (lz_d lz_0))))) ?_
          exact hk12 _ _ H20 (m18.tr m20) hf
        · replace hf := ifn c21 hf
          refine aw_aload_n (pc' := 125) dX12_hours_124 rfl rfl rfl ?_
          refine aw_gr (q := 59) (e := 77) (v := .ref 105) (pc' := 128) H20 (H20.fo rfl rfl) (by decide) rfl rfl dX12_hours_125 rfl fl_RX12_130 ?_
          refine aw_iload_n (pc' := 129) dX12_hours_128 rfl rfl ?_
          obtain ⟨g22, hf⟩ := gd_e hf
          refine aw_ia (q := 97) (pc' := 130) H20 (H20.fa rfl rfl rfl) g22 dX12_hours_129 rfl ?_
          refine aw_bipush (v := 100) (pc' := 132) dX12_hours_130 rfl (by decide) ?_
          refine aw_irem (pc' := 133) dX12_hours_132 rfl (by decide) ?_
          refine aw_aload_n (pc' := 134) dX12_hours_133 rfl rfl rfl ?_
          refine aw_gi (q := 59) (pc' := 137) H20 (H20.fo rfl rfl) (by decide) rfl dX12_hours_134 rfl fl_RX12_264 ?_
          refine aw_icmp_ne (tgt := 168) (pc' := 140) dX12_hours_137 (by decide) rfl (fun c23 => ?_) (fun c23 => ?_)
          · replace hf := ifn c23 hf
            refine AW.lv_le (lz_k (lz_k (lz_k (lz_k (lz_d lz_0))))) ?_
            exact hk12 _ _ H20 (m18.tr m20) hf
          · replace hf := ifp c23 hf
            refine aw_aload_n (pc' := 141) dX12_hours_140 rfl rfl rfl ?_
            refine aw_gr (q := 59) (e := 77) (v := .ref 105) (pc' := 144) H20 (H20.fo rfl rfl) (by decide) rfl rfl dX12_hours_141 rfl fl_RX12_130 ?_
            refine aw_iload_n (pc' := 145) dX12_hours_144 rfl rfl ?_
            obtain ⟨g24, hf⟩ := gd_e hf
            refine aw_ia (q := 97) (pc' := 146) H20 (H20.fa rfl rfl rfl) g24 dX12_hours_145 rfl ?_
            refine aw_bipush (v := 100) (pc' := 148) dX12_hours_146 rfl (by decide) ?_
            refine aw_idiv (pc' := 149) dX12_hours_148 rfl (by decide) ?_
            refine aw_aload_n (pc' := 150) dX12_hours_149 rfl rfl rfl ?_
            refine aw_gi (q := 59) (pc' := 153) H20 (H20.fo rfl rfl) (by decide) rfl dX12_hours_150 rfl fl_RX12_258 ?_
            refine aw_aload_n (pc' := 154) dX12_hours_153 rfl rfl rfl ?_
            refine aw_gi (q := 59) (pc' := 157) H20 (H20.fo rfl rfl) (by decide) rfl dX12_hours_154 rfl fl_RX12_261 ?_
            obtain ⟨r25, ec25, hf⟩ := b1_e hf
            refine aw_callSi (M' := mX12_in) (nc' := 0) (ns' := 0) (pc' := 160) dX12_hours_157 rfl ml_RX12_230 kX12_in (t_X12_in ec25) rfl rfl (Nat.le_of_ble_eq_true rfl) (rokD (by omega) (Nat.le_of_ble_eq_true rfl) (Nat.le_of_ble_eq_true rfl) (Nat.le_of_ble_eq_true rfl)) rfl rfl (fun _ h25 q25 => ?_)
            obtain ⟨rfl, rfl, zb25⟩ := q25
            refine aw_if_eq (tgt := 168) (pc' := 163) dX12_hours_160 (by decide) rfl (fun c26 => ?_) (fun c26 => ?_)
            · replace hf := ifp c26 hf
              refine AW.lv_le (lz_k (lz_k (lz_k (lz_k (lz_d lz_0))))) ?_
              exact hk12 _ _ H20 (m18.tr m20) hf
            · replace hf := ifn c26 hf
              refine aw_aload_n (pc' := 164) dX12_hours_163 rfl rfl rfl ?_
              refine aw_iconst (v := 1) (pc' := 165) dX12_hours_164 rfl (by decide) ?_
              obtain ⟨s27, es27, hf⟩ := st_e hf
              refine aw_pi (q := 59) (pc' := 168) es27 H20 (H20.fo rfl rfl) (by decide) rfl dX12_hours_165 rfl fl_RX12_271 (by decide) (fun h27 H27 => ?_)
              have m27 := Mo.ofS es27
              refine AW.lv_le (lz_k (lz_k (lz_k (lz_k (lz_d lz_0))))) ?_
              exact hk12 _ _ H27 ((m18.tr m20).tr m27) hf
      · replace hf := ifn c14 hf
        refine aw_goto (tgt := 168) dX12_hours_86 (by decide) ?_
        exact hk12 _ _ H (Mo.rf _) hf
def f_X12_hours_L26_b (y1 : Int32) (rc : SS → Int32 → Option (Int32 × SS)) (s : SS) (x2 : Int32) : Option (Int32 × SS) := (if x2 < y1 then (vl (((zS s 59 1) + (1 : Int32))) fun v5 => (st (pS s 59 1 v5) fun s6 => (b1 (f_X12_drill s6) fun s7 => (b1 (f_X12_comeDown s7) fun s8 => (jn (fun (s9 : SS)  => (f_X12_hours_L65 (fun (s28 : SS)  => (vl (x2 + 1) fun v29 => (rc s28 v29))) y1 x2 4000 s9 0)) fun k9 => (if ((zS s8 59 1) % (24 : Int32)) = (0 : Int32) then (b1 (f_X12_eat s8) fun s31 => (k9 s31)) else (k9 s8))))))) else some ((zS s 59 1), s))
def f_X12_hours_L26 (y1 : Int32) : Nat → SS → Int32 → Option (Int32 × SS)
  | 0, _, _ => none
  | n + 1, s, x2 => f_X12_hours_L26_b y1 (f_X12_hours_L26 y1 n) s x2
set_option maxRecDepth 4000 in
theorem t_X12_hours_L26 {r9 : Int32} {s0 sb s9 : SS} {y1 : Int32} (mb : Mo s0 sb)  : ∀ (n : Nat) (s : SS) (h : List aE) (x2 : Int32), HH s h → Mo sb s → f_X12_hours_L26 y1 n s x2 = some (r9, s9) → AW mX12_hours (rmD (5) 0 0) (fin (PI fun r' h' => r9 = r' ∧ HH s9 h' ∧ Mo s0 s9) 0 0) 26 [some (.ref 67), some (.int y1), some (.int x2), none, none] [] h 0 0 := by
  intro n
  induction n with
  | zero =>
    intro s h x2 H ms hf
    cases hf
  | succ n ih =>
    intro s h x2 H ms hf
    replace hf : f_X12_hours_L26_b y1 (f_X12_hours_L26 y1 n) s x2 = some (r9, s9) := hf
    unfold f_X12_hours_L26_b at hf
    refine aw_iload_n (pc' := 27) dX12_hours_26 rfl rfl ?_
    refine aw_iload_n (pc' := 28) dX12_hours_27 rfl rfl ?_
    refine aw_cge (tgt := 180) (pc' := 31) dX12_hours_28 (by decide) rfl (fun c4 => ?_) (fun c4 => ?_)
    · replace hf := ifn c4 hf
      refine aw_aload_n (pc' := 181) dX12_hours_180 rfl rfl rfl ?_
      refine aw_gi (q := 59) (pc' := 184) H (H.fo rfl rfl) (by decide) rfl dX12_hours_181 rfl fl_RX12_281 ?_
      obtain ⟨rfl, rfl⟩ := so2 hf
      exact aw_ri dX12_hours_184 rfl rfl (Nat.le_of_ble_eq_true rfl) (Nat.le_of_ble_eq_true rfl) ⟨rfl, H, (mb.tr ms)⟩
    · replace hf := ifp c4 hf
      refine aw_aload_n (pc' := 32) dX12_hours_31 rfl rfl rfl ?_
      refine aw_dup (pc' := 33) dX12_hours_32 rfl rfl ?_
      refine aw_gi (q := 59) (pc' := 36) H (H.fo rfl rfl) (by decide) rfl dX12_hours_33 rfl fl_RX12_281 ?_
      refine aw_iconst (v := 1) (pc' := 37) dX12_hours_36 rfl (by decide) ?_
      refine aw_iadd (pc' := 38) dX12_hours_37 rfl ?_
      obtain ⟨v5, ev5, hf⟩ := vl_e hf
      refine aw_topi ev5 ?_
      obtain ⟨s6, es6, hf⟩ := st_e hf
      refine aw_pi (q := 59) (pc' := 41) es6 H (H.fo rfl rfl) (by decide) rfl dX12_hours_38 rfl fl_RX12_281 rfl (fun h6 H6 => ?_)
      have m6 := Mo.ofS es6
      refine aw_aload_n (pc' := 42) dX12_hours_41 rfl rfl rfl ?_
      obtain ⟨s7, ec7, hf⟩ := b1_e hf
      refine aw_callVv (M' := mX12_drill) (nc' := 0) (ns' := 0) (pc' := 45) dX12_hours_42 rfl ml_RX12_415 kX12_drill (t_X12_drill H6 ec7) (H6.ob (H6.fo rfl rfl) (by decide)) rfl rfl rfl (Nat.le_of_ble_eq_true rfl) (rokD (by omega) (Nat.le_of_ble_eq_true rfl) (Nat.le_of_ble_eq_true rfl) (Nat.le_of_ble_eq_true rfl)) rfl rfl (fun h7 q7 => ?_)
      obtain ⟨H7, m7⟩ := q7
      refine aw_aload_n (pc' := 46) dX12_hours_45 rfl rfl rfl ?_
      obtain ⟨s8, ec8, hf⟩ := b1_e hf
      refine aw_callVv (M' := mX12_comeDown) (nc' := 0) (ns' := 0) (pc' := 49) dX12_hours_46 rfl ml_RX12_418 kX12_comeDown (t_X12_comeDown H7 ec8) (H7.ob (H7.fo rfl rfl) (by decide)) rfl rfl rfl (Nat.le_of_ble_eq_true rfl) (rokD (by omega) (Nat.le_of_ble_eq_true rfl) (Nat.le_of_ble_eq_true rfl) (Nat.le_of_ble_eq_true rfl)) rfl rfl (fun h8 q8 => ?_)
      obtain ⟨H8, m8⟩ := q8
      refine aw_aload_n (pc' := 50) dX12_hours_49 rfl rfl rfl ?_
      refine aw_gi (q := 59) (pc' := 53) H8 (H8.fo rfl rfl) (by decide) rfl dX12_hours_50 rfl fl_RX12_281 ?_
      refine aw_bipush (v := 24) (pc' := 55) dX12_hours_53 rfl (by decide) ?_
      refine aw_irem (pc' := 56) dX12_hours_55 rfl (by decide) ?_
      obtain ⟨k9, ek9, hf⟩ := jn_e hf
      have hk9 : ∀ (s9 : SS) (h9 : List aE), HH s9 h9 → Mo s8 s9 → k9 s9 = some (r9, s9) → AW mX12_hours (rmD (5) 0 0) (fin (PI fun r' h' => r9 = r' ∧ HH s9 h' ∧ Mo s0 s9) 0 0) 63 [some (.ref 67), some (.int y1), some (.int x2), none, none] [] h9 0 0 := by
        intro s9 h9 H9 m9 hf
        subst ek9
        refine aw_iconst (v := 0) (pc' := 64) dX12_hours_63 rfl (by decide) ?_
        refine aw_istore_n (lv' := [_, _, _, _, _]) (pc' := 65) dX12_hours_64 rfl (Nat.le_of_ble_eq_true rfl) rfl ?_
        refine t_X12_hours_L65 (((((mb.tr ms).tr m6).tr m7).tr m8).tr m9) (fun s28 h28 H28 m28 hf => ?_) 4000 _ _ _ H9 (Mo.rf _) hf
        obtain ⟨v29, ev29, hf⟩ := vl_e hf
        refine aw_iincV (y := v29) (lv' := [_, _, _, _, _]) (pc' := 177) dX12_hours_174 rfl rfl (Nat.le_of_ble_eq_true rfl) ev29 rfl ?_
        refine aw_goto (tgt := 26) dX12_hours_177 (by decide) ?_
        exact ih _ _ _ H28 (((((ms.tr m6).tr m7).tr m8).tr m9).tr m28) hf
      clear ek9
      refine aw_if_ne (tgt := 63) (pc' := 59) dX12_hours_56 (by decide) rfl (fun c30 => ?_) (fun c30 => ?_)
      · replace hf := ifn c30 hf
        exact hk9 _ _ H8 (Mo.rf _) hf
      · replace hf := ifp c30 hf
        refine aw_aload_n (pc' := 60) dX12_hours_59 rfl rfl rfl ?_
        obtain ⟨s31, ec31, hf⟩ := b1_e hf
        refine aw_callVv (M' := mX12_eat) (nc' := 0) (ns' := 0) (pc' := 63) dX12_hours_60 rfl ml_RX12_421 kX12_eat (t_X12_eat H8 ec31) (H8.ob (H8.fo rfl rfl) (by decide)) rfl rfl rfl (Nat.le_of_ble_eq_true rfl) (rokD (by omega) (Nat.le_of_ble_eq_true rfl) (Nat.le_of_ble_eq_true rfl) (Nat.le_of_ble_eq_true rfl)) rfl rfl (fun h31 q31 => ?_)
        obtain ⟨H31, m31⟩ := q31
        exact hk9 _ _ H31 m31 hf
def f_X12_hours (s0 : SS) (a0 : Int32) : Option (Int32 × SS) := (b1 (f_X12_in a0 (1 : Int32) (48 : Int32)) fun r1 => (if r1 = (0 : Int32) then some ((-1), s0) else (if (1699 : Int32) < ((zS s0 59 1) + a0) then some ((-1), s0) else (f_X12_hours_L26 a0 4000 s0 0))))
set_option maxRecDepth 4000 in
theorem t_X12_hours {r9 : Int32} {s0 s9 : SS} {h0 : List aE} {a0 : Int32} (H0 : HH s0 h0) (hf : f_X12_hours s0 a0 = some (r9, s9)) : AM mX12_hours (5) [.ref 67, .int a0] h0 0 0 (PI fun r' h' => r9 = r' ∧ HH s9 h' ∧ Mo s0 s9) := by
  unfold f_X12_hours at hf
  refine am_of (lv := [some (.ref 67), some (.int a0), none, none, none]) rfl (Nat.le_of_ble_eq_true rfl) rfl ?_
  refine aw_iload_n (pc' := 1) dX12_hours_0 rfl rfl ?_
  refine aw_iconst (v := 1) (pc' := 2) dX12_hours_1 rfl (by decide) ?_
  refine aw_bipush (v := 48) (pc' := 4) dX12_hours_2 rfl (by decide) ?_
  obtain ⟨r1, ec1, hf⟩ := b1_e hf
  refine aw_callSi (M' := mX12_in) (nc' := 0) (ns' := 0) (pc' := 7) dX12_hours_4 rfl ml_RX12_230 kX12_in (t_X12_in ec1) rfl rfl (Nat.le_of_ble_eq_true rfl) (rokD (by omega) (Nat.le_of_ble_eq_true rfl) (Nat.le_of_ble_eq_true rfl) (Nat.le_of_ble_eq_true rfl)) rfl rfl (fun _ h1 q1 => ?_)
  obtain ⟨rfl, rfl, zb1⟩ := q1
  refine aw_if_eq (tgt := 22) (pc' := 10) dX12_hours_7 (by decide) rfl (fun c2 => ?_) (fun c2 => ?_)
  · replace hf := ifp c2 hf
    refine aw_iconst (v := (-1)) (pc' := 23) dX12_hours_22 rfl (by decide) ?_
    obtain ⟨rfl, rfl⟩ := so2 hf
    exact aw_ri dX12_hours_23 rfl rfl (Nat.le_of_ble_eq_true rfl) (Nat.le_of_ble_eq_true rfl) ⟨rfl, H0, (Mo.rf _)⟩
  · replace hf := ifn c2 hf
    refine aw_aload_n (pc' := 11) dX12_hours_10 rfl rfl rfl ?_
    refine aw_gi (q := 59) (pc' := 14) H0 (H0.fo rfl rfl) (by decide) rfl dX12_hours_11 rfl fl_RX12_281 ?_
    refine aw_iload_n (pc' := 15) dX12_hours_14 rfl rfl ?_
    refine aw_iadd (pc' := 16) dX12_hours_15 rfl ?_
    refine aw_sipush (v := 1699) (pc' := 19) dX12_hours_16 rfl (by decide) ?_
    refine aw_cle (tgt := 24) (pc' := 22) dX12_hours_19 (by decide) rfl (fun c3 => ?_) (fun c3 => ?_)
    · replace hf := ifn c3 hf
      refine aw_iconst (v := 0) (pc' := 25) dX12_hours_24 rfl (by decide) ?_
      refine aw_istore_n (lv' := [_, _, _, _, _]) (pc' := 26) dX12_hours_25 rfl (Nat.le_of_ble_eq_true rfl) rfl ?_
      refine t_X12_hours_L26 (Mo.rf _)  4000 _ _ _ H0 (Mo.rf _) hf
    · replace hf := ifp c3 hf
      refine aw_iconst (v := (-1)) (pc' := 23) dX12_hours_22 rfl (by decide) ?_
      obtain ⟨rfl, rfl⟩ := so2 hf
      exact aw_ri dX12_hours_23 rfl rfl (Nat.le_of_ble_eq_true rfl) (Nat.le_of_ble_eq_true rfl) ⟨rfl, H0, (Mo.rf _)⟩
/-! ThirtyThreeBelowModel.lastsBy -/
def f_X12_lastsBy_L2_b (q0 : SS → Option (Int32 × SS)) (y1 : Int32) (y2 : Int32) (rc : SS → Int32 → Option (Int32 × SS)) (s : SS) (x3 : Int32) : Option (Int32 × SS) := (if x3 < (zS s 59 4) then (gd (inB x3 120) (vl ((zI s 74 (x3.toInt.toNat))) fun v3 => (gd (inB x3 120) (st (pI s 101 (x3.toInt.toNat) v3) fun s5 => (vl (x3 + 1) fun v6 => (rc s5 v6)))))) else (q0 s))
def f_X12_lastsBy_L2 (q0 : SS → Option (Int32 × SS)) (y1 : Int32) (y2 : Int32) : Nat → SS → Int32 → Option (Int32 × SS)
  | 0, _, _ => none
  | n + 1, s, x3 => f_X12_lastsBy_L2_b q0 y1 y2 (f_X12_lastsBy_L2 q0 y1 y2 n) s x3
set_option maxRecDepth 4000 in
theorem t_X12_lastsBy_L2 {r9 : Int32} {s0 sb s9 : SS} {q0 : SS → Option (Int32 × SS} {y1 : Int32} {y2 : Int32} (mb : Mo s0 sb) (hq0 : ∀ (s : SS) (h : List aE), HH s h → Mo sb s → q0 s = some (r9, s9) → AW mX12_lastsBy (rmD (1) 0 0) (fin (PI fun r' h' => r9 = r' ∧ HH s9 h' ∧ Mo s0 s9) 0 0) 28 [some (.ref 67), some (.int y1), some (.int y2), none, none, none, none, none] [] h 0 0) : ∀ (n : Nat) (s : SS) (h : List aE) (x3 : Int32), HH s h → Mo sb s → f_X12_lastsBy_L2 q0 y1 y2 n s x3 = some (r9, s9) → AW mX12_lastsBy (rmD (1) 0 0) (fin (PI fun r' h' => r9 = r' ∧ HH s9 h' ∧ Mo s0 s9) 0 0) 2 [some (.ref 67), some (.int y1), some (.int y2), some (.int x3), none, none, none, none] [] h 0 0 := by
  intro n
  induction n with
  | zero =>
    intro s h x3 H ms hf
    cases hf
  | succ n ih =>
    intro s h x3 H ms hf
    replace hf : f_X12_lastsBy_L2_b q0 y1 y2 (f_X12_lastsBy_L2 q0 y1 y2 n) s x3 = some (r9, s9) := hf
    unfold f_X12_lastsBy_L2_b at hf
    refine aw_iload_n (pc' := 3) dX12_lastsBy_2 rfl rfl ?_
    refine aw_aload_n (pc' := 4) dX12_lastsBy_3 rfl rfl rfl ?_
    refine aw_gi (q := 59) (pc' := 7) H (H.fo rfl rfl) (by decide) rfl dX12_lastsBy_4 rfl fl_RX12_242 ?_
    refine aw_cge (tgt := 28) (pc' := 10) dX12_lastsBy_7 (by decide) rfl (fun c1 => ?_) (fun c1 => ?_)
    · replace hf := ifn c1 hf
      refine AW.lv_le (lz_k (lz_k (lz_k (lz_d (lz_d (lz_d (lz_d (lz_d lz_0)))))))) ?_
      exact hq0 _ _ H ms hf
    · replace hf := ifp c1 hf
      refine aw_aload_n (pc' := 11) dX12_lastsBy_10 rfl rfl rfl ?_
      refine aw_gr (q := 59) (e := 85) (v := .ref 109) (pc' := 14) H (H.fo rfl rfl) (by decide) rfl rfl dX12_lastsBy_11 rfl fl_RX12_142 ?_
      refine aw_iload_n (pc' := 15) dX12_lastsBy_14 rfl rfl ?_
      refine aw_aload_n (pc' := 16) dX12_lastsBy_15 rfl rfl rfl ?_
      refine aw_gr (q := 59) (e := 31) (v := .ref 82) (pc' := 19) H (H.fo rfl rfl) (by decide) rfl rfl dX12_lastsBy_16 rfl fl_RX12_53 ?_
      refine aw_iload_n (pc' := 20) dX12_lastsBy_19 rfl rfl ?_
      obtain ⟨g2, hf⟩ := gd_e hf
      refine aw_ia (q := 74) (pc' := 21) H (H.fa rfl rfl rfl) g2 dX12_lastsBy_20 rfl ?_
      obtain ⟨v3, ev3, hf⟩ := vl_e hf
      refine aw_topi ev3 ?_
      obtain ⟨g4, hf⟩ := gd_e hf
      obtain ⟨s5, es5, hf⟩ := st_e hf
      refine aw_is (q := 101) (pc' := 22) es5 H (H.fa rfl rfl rfl) g4 dX12_lastsBy_21 rfl (fun h5 H5 => ?_)
      have m5 := Mo.ofI es5
      obtain ⟨v6, ev6, hf⟩ := vl_e hf
      refine aw_iincV (y := v6) (lv' := [_, _, _, _, _, _, _, _]) (pc' := 25) dX12_lastsBy_22 rfl rfl (Nat.le_of_ble_eq_true rfl) ev6 rfl ?_
      refine aw_goto (tgt := 2) dX12_lastsBy_25 (by decide) ?_
      exact ih _ _ _ H5 (ms.tr m5) hf
def f_X12_lastsBy_L49_b (q0 : SS → Int32 → Int32 → Option (Int32 × SS)) (y1 : Int32) (y2 : Int32) (y4 : Int32) (rc : SS → Int32 → Int32 → Int32 → Option (Int32 × SS)) (s : SS) (x3 : Int32) (x5 : Int32) (x6 : Int32) : Option (Int32 × SS) := (if x6 < (zS s 59 4) then (gd (inB x6 120) (jn (fun (s12 : SS) (j12_3 : Int32) (j12_5 : Int32) => (vl (x6 + 1) fun v13 => (rc s12 j12_3 j12_5 v13))) fun k12 => (if (zI s 77 (x6.toInt.toNat)) = (0 : Int32) then (k12 s x3 x5) else (jn (fun (t15_0 : Int32) => (vl ((x3 - t15_0)) fun v16 => (gd (inB x6 120) (b1 (f_X12_held (((zI s 101 (x6.toInt.toNat)) - (6 : Int32)) + ((2 : Int32) * t15_0)) (0 : Int32) (999 : Int32)) fun r18 => (gd (inB x6 120) (st (pI s 101 (x6.toInt.toNat) r18) fun s20 => (jn (fun (t21_0 : Int32) => (k12 s20 v16 t21_0)) fun k21 => (jn ((k21 0)) fun k22 => (if x5 = (0 : Int32) then k22 else (gd (inB x6 120) (if y1 < (zI s20 101 (x6.toInt.toNat)) then (k21 1) else k22))))))))))) fun k15 => (if y2 < x3 then (k15 y2) else (k15 x3)))))) else (q0 s x3 x5))
def f_X12_lastsBy_L49 (q0 : SS → Int32 → Int32 → Option (Int32 × SS)) (y1 : Int32) (y2 : Int32) (y4 : Int32) : Nat → SS → Int32 → Int32 → Int32 → Option (Int32 × SS)
  | 0, _, _, _, _ => none
  | n + 1, s, x3, x5, x6 => f_X12_lastsBy_L49_b q0 y1 y2 y4 (f_X12_lastsBy_L49 q0 y1 y2 y4 n) s x3 x5 x6
set_option maxRecDepth 4000 in
theorem t_X12_lastsBy_L49 {r9 : Int32} {s0 sb s9 : SS} {q0 : SS → Int32 → Int32 → Option (Int32 × SS} {y1 : Int32} {y2 : Int32} {y4 : Int32} (mb : Mo s0 sb) (hq0 : ∀ (s : SS) (h : List aE) (x3 : Int32) (x5 : Int32), HH s h → Mo sb s → q0 s x3 x5 = some (r9, s9) → AW mX12_lastsBy (rmD (1) 0 0) (fin (PI fun r' h' => r9 = r' ∧ HH s9 h' ∧ Mo s0 s9) 0 0) 146 [some (.ref 67), some (.int y1), some (.int y2), some (.int x3), some (.int y4), some (.int x5), none, none] [] h 0 0) : ∀ (n : Nat) (s : SS) (h : List aE) (x3 : Int32) (x5 : Int32) (x6 : Int32), HH s h → Mo sb s → f_X12_lastsBy_L49 q0 y1 y2 y4 n s x3 x5 x6 = some (r9, s9) → AW mX12_lastsBy (rmD (1) 0 0) (fin (PI fun r' h' => r9 = r' ∧ HH s9 h' ∧ Mo s0 s9) 0 0) 49 [some (.ref 67), some (.int y1), some (.int y2), some (.int x3), some (.int y4), some (.int x5), some (.int x6), none] [] h 0 0 := by
  intro n
  induction n with
  | zero =>
    intro s h x3 x5 x6 H ms hf
    cases hf
  | succ n ih =>
    intro s h x3 x5 x6 H ms hf
    replace hf : f_X12_lastsBy_L49_b q0 y1 y2 y4 (f_X12_lastsBy_L49 q0 y1 y2 y4 n) s x3 x5 x6 = some (r9, s9) := hf
    unfold f_X12_lastsBy_L49_b at hf
    refine aw_iload (pc' := 51) dX12_lastsBy_49 rfl rfl ?_
    refine aw_aload_n (pc' := 52) dX12_lastsBy_51 rfl rfl rfl ?_
    refine aw_gi (q := 59) (pc' := 55) H (H.fo rfl rfl) (by decide) rfl dX12_lastsBy_52 rfl fl_RX12_242 ?_
    refine aw_cge (tgt := 146) (pc' := 58) dX12_lastsBy_55 (by decide) rfl (fun c10 => ?_) (fun c10 => ?_)
    · replace hf := ifn c10 hf
      refine AW.lv_le (lz_k (lz_k (lz_k (lz_k (lz_k (lz_k (lz_d (lz_d lz_0)))))))) ?_
      exact hq0 _ _ _ _ H ms hf
    · replace hf := ifp c10 hf
      refine aw_aload_n (pc' := 59) dX12_lastsBy_58 rfl rfl rfl ?_
      refine aw_gr (q := 59) (e := 37) (v := .ref 85) (pc' := 62) H (H.fo rfl rfl) (by decide) rfl rfl dX12_lastsBy_59 rfl fl_RX12_62 ?_
      refine aw_iload (pc' := 64) dX12_lastsBy_62 rfl rfl ?_
      obtain ⟨g11, hf⟩ := gd_e hf
      refine aw_za (q := 77) (pc' := 65) H (H.fa rfl rfl rfl) g11 dX12_lastsBy_64 rfl ?_
      obtain ⟨k12, ek12, hf⟩ := jn_e hf
      have hk12 : ∀ (s12 : SS) (h12 : List aE) (j12_3 : Int32) (j12_5 : Int32), HH s12 h12 → Mo s s12 → k12 s12 j12_3 j12_5 = some (r9, s9) → AW mX12_lastsBy (rmD (1) 0 0) (fin (PI fun r' h' => r9 = r' ∧ HH s9 h' ∧ Mo s0 s9) 0 0) 140 [some (.ref 67), some (.int y1), some (.int y2), some (.int j12_3), some (.int y4), some (.int j12_5), some (.int x6), none] [] h12 0 0 := by
        intro s12 h12 j12_3 j12_5 H12 m12 hf
        subst ek12
        obtain ⟨v13, ev13, hf⟩ := vl_e hf
        refine aw_iincV (y := v13) (lv' := [_, _, _, _, _, _, _, _]) (pc' := 143) dX12_lastsBy_140 rfl rfl (Nat.le_of_ble_eq_true rfl) ev13 rfl ?_
        refine aw_goto (tgt := 49) dX12_lastsBy_143 (by decide) ?_
        exact ih _ _ _ _ _ H12 (ms.tr m12) hf
      clear ek12
      refine aw_if_ne (tgt := 71) (pc' := 68) dX12_lastsBy_65 (by decide) rfl (fun c14 => ?_) (fun c14 => ?_)
      · replace hf := ifn c14 hf
        refine aw_iload_n (pc' := 72) dX12_lastsBy_71 rfl rfl ?_
        refine aw_iload_n (pc' := 73) dX12_lastsBy_72 rfl rfl ?_
        obtain ⟨k15, ek15, hf⟩ := jn_e hf
        have hk15 : ∀ (t15_0 : Int32), k15 t15_0 = some (r9, s9) → AW mX12_lastsBy (rmD (1) 0 0) (fin (PI fun r' h' => r9 = r' ∧ HH s9 h' ∧ Mo s0 s9) 0 0) 81 [some (.ref 67), some (.int y1), some (.int y2), some (.int x3), some (.int y4), some (.int x5), some (.int x6), none] [.int t15_0] h 0 0 := by
          intro t15_0 hf
          subst ek15
          refine aw_istore (lv' := [_, _, _, _, _, _, _, _]) (pc' := 83) dX12_lastsBy_81 rfl (Nat.le_of_ble_eq_true rfl) rfl ?_
          refine aw_iload_n (pc' := 84) dX12_lastsBy_83 rfl rfl ?_
          refine aw_iload (pc' := 86) dX12_lastsBy_84 rfl rfl ?_
          refine aw_isub (pc' := 87) dX12_lastsBy_86 rfl ?_
          obtain ⟨v16, ev16, hf⟩ := vl_e hf
          refine aw_topi ev16 ?_
          refine aw_istore_n (lv' := [_, _, _, _, _, _, _, _]) (pc' := 88) dX12_lastsBy_87 rfl (Nat.le_of_ble_eq_true rfl) rfl ?_
          refine aw_aload_n (pc' := 89) dX12_lastsBy_88 rfl rfl rfl ?_
          refine aw_gr (q := 59) (e := 85) (v := .ref 109) (pc' := 92) H (H.fo rfl rfl) (by decide) rfl rfl dX12_lastsBy_89 rfl fl_RX12_142 ?_
          refine aw_iload (pc' := 94) dX12_lastsBy_92 rfl rfl ?_
          refine aw_aload_n (pc' := 95) dX12_lastsBy_94 rfl rfl rfl ?_
          refine aw_gr (q := 59) (e := 85) (v := .ref 109) (pc' := 98) H (H.fo rfl rfl) (by decide) rfl rfl dX12_lastsBy_95 rfl fl_RX12_142 ?_
          refine aw_iload (pc' := 100) dX12_lastsBy_98 rfl rfl ?_
          obtain ⟨g17, hf⟩ := gd_e hf
          refine aw_ia (q := 101) (pc' := 101) H (H.fa rfl rfl rfl) g17 dX12_lastsBy_100 rfl ?_
          refine aw_bipush (v := 6) (pc' := 103) dX12_lastsBy_101 rfl (by decide) ?_
          refine aw_isub (pc' := 104) dX12_lastsBy_103 rfl ?_
          refine aw_iconst (v := 2) (pc' := 105) dX12_lastsBy_104 rfl (by decide) ?_
          refine aw_iload (pc' := 107) dX12_lastsBy_105 rfl rfl ?_
          refine aw_imul (pc' := 108) dX12_lastsBy_107 rfl ?_
          refine aw_iadd (pc' := 109) dX12_lastsBy_108 rfl ?_
          refine aw_iconst (v := 0) (pc' := 110) dX12_lastsBy_109 rfl (by decide) ?_
          refine aw_sipush (v := 999) (pc' := 113) dX12_lastsBy_110 rfl (by decide) ?_
          obtain ⟨r18, ec18, hf⟩ := b1_e hf
          refine aw_callSi (M' := mX12_held) (nc' := 0) (ns' := 0) (pc' := 116) dX12_lastsBy_113 rfl ml_RX12_284 kX12_held (t_X12_held ec18) rfl rfl (Nat.le_of_ble_eq_true rfl) (rokD (by omega) (Nat.le_of_ble_eq_true rfl) (Nat.le_of_ble_eq_true rfl) (Nat.le_of_ble_eq_true rfl)) rfl rfl (fun _ h18 q18 => ?_)
          obtain ⟨rfl, rfl⟩ := q18
          obtain ⟨g19, hf⟩ := gd_e hf
          obtain ⟨s20, es20, hf⟩ := st_e hf
          refine aw_is (q := 101) (pc' := 117) es20 H (H.fa rfl rfl rfl) g19 dX12_lastsBy_116 rfl (fun h20 H20 => ?_)
          have m20 := Mo.ofI es20
          refine aw_iload (pc' := 119) dX12_lastsBy_117 rfl rfl ?_
          obtain ⟨k21, ek21, hf⟩ := jn_e hf
          have hk21 : ∀ (t21_0 : Int32), k21 t21_0 = some (r9, s9) → AW mX12_lastsBy (rmD (1) 0 0) (fin (PI fun r' h' => r9 = r' ∧ HH s9 h' ∧ Mo s0 s9) 0 0) 138 [some (.ref 67), some (.int y1), some (.int y2), some (.int v16), some (.int y4), none, some (.int x6), none] [.int t21_0] h20 0 0 := by
            intro t21_0 hf
            subst ek21
            refine aw_istore (lv' := [_, _, _, _, _, _, _, _]) (pc' := 140) dX12_lastsBy_138 rfl (Nat.le_of_ble_eq_true rfl) rfl ?_
            exact hk12 _ _ _ _ H20 m20 hf
          clear ek21
          obtain ⟨k22, ek22, hf⟩ := jn_e hf
          have hk22 : k22 = some (r9, s9) → AW mX12_lastsBy (rmD (1) 0 0) (fin (PI fun r' h' => r9 = r' ∧ HH s9 h' ∧ Mo s0 s9) 0 0) 137 [some (.ref 67), some (.int y1), some (.int y2), some (.int v16), some (.int y4), none, some (.int x6), none] [] h20 0 0 := by
            intro hf
            subst ek22
            refine aw_iconst (v := 0) (pc' := 138) dX12_lastsBy_137 rfl (by decide) ?_
            exact hk21 _ hf
          clear ek22
          refine aw_if_eq (tgt := 137) (pc' := 122) dX12_lastsBy_119 (by decide) rfl (fun c23 => ?_) (fun c23 => ?_)
          · replace hf := ifp c23 hf
            refine AW.lv_le (lz_k (lz_k (lz_k (lz_k (lz_k (lz_d (lz_k (lz_d lz_0)))))))) ?_
            exact hk22  hf
          · replace hf := ifn c23 hf
            refine aw_aload_n (pc' := 123) dX12_lastsBy_122 rfl rfl rfl ?_
            refine aw_gr (q := 59) (e := 85) (v := .ref 109) (pc' := 126) H20 (H20.fo rfl rfl) (by decide) rfl rfl dX12_lastsBy_123 rfl fl_RX12_142 ?_
            refine aw_iload (pc' := 128) dX12_lastsBy_126 rfl rfl ?_
            obtain ⟨g24, hf⟩ := gd_e hf
            refine aw_ia (q := 101) (pc' := 129) H20 (H20.fa rfl rfl rfl) g24 dX12_lastsBy_128 rfl ?_
            refine aw_iload_n (pc' := 130) dX12_lastsBy_129 rfl rfl ?_
            refine aw_cle (tgt := 137) (pc' := 133) dX12_lastsBy_130 (by decide) rfl (fun c25 => ?_) (fun c25 => ?_)
            · replace hf := ifn c25 hf
              refine AW.lv_le (lz_k (lz_k (lz_k (lz_k (lz_k (lz_d (lz_k (lz_d lz_0)))))))) ?_
              exact hk22  hf
            · replace hf := ifp c25 hf
              refine aw_iconst (v := 1) (pc' := 134) dX12_lastsBy_133 rfl (by decide) ?_
              refine aw_goto (tgt := 138) dX12_lastsBy_134 (by decide) ?_
              refine AW.lv_le (lz_k (lz_k (lz_k (lz_k (lz_k (lz_d (lz_k (lz_d lz_0)))))))) ?_
              exact hk21 _ hf
        clear ek15
        refine aw_cge (tgt := 80) (pc' := 76) dX12_lastsBy_73 (by decide) rfl (fun c26 => ?_) (fun c26 => ?_)
        · replace hf := ifn c26 hf
          refine aw_iload_n (pc' := 81) dX12_lastsBy_80 rfl rfl ?_
          exact hk15 _ hf
        · replace hf := ifp c26 hf
          refine aw_iload_n (pc' := 77) dX12_lastsBy_76 rfl rfl ?_
          refine aw_goto (tgt := 81) dX12_lastsBy_77 (by decide) ?_
          exact hk15 _ hf
      · replace hf := ifp c14 hf
        refine aw_goto (tgt := 140) dX12_lastsBy_68 (by decide) ?_
        exact hk12 _ _ _ _ H (Mo.rf _) hf
def f_X12_lastsBy_L36_b (y1 : Int32) (y2 : Int32) (rc : SS → Int32 → Int32 → Option (Int32 × SS)) (s : SS) (x3 : Int32) (x4 : Int32) : Option (Int32 × SS) := (if (60 : Int32) < x4 then some (60, s) else (f_X12_lastsBy_L49 (fun (s27 : SS) (x27_3 : Int32) (x27_5 : Int32) => (if x27_5 = (0 : Int32) then some ((x4 - (1 : Int32)), s27) else (vl (x4 + 1) fun v29 => (rc s27 x27_3 v29)))) y1 y2 x4 4000 s x3 1 0))
def f_X12_lastsBy_L36 (y1 : Int32) (y2 : Int32) : Nat → SS → Int32 → Int32 → Option (Int32 × SS)
  | 0, _, _, _ => none
  | n + 1, s, x3, x4 => f_X12_lastsBy_L36_b y1 y2 (f_X12_lastsBy_L36 y1 y2 n) s x3 x4
set_option maxRecDepth 4000 in
theorem t_X12_lastsBy_L36 {r9 : Int32} {s0 sb s9 : SS} {y1 : Int32} {y2 : Int32} (mb : Mo s0 sb)  : ∀ (n : Nat) (s : SS) (h : List aE) (x3 : Int32) (x4 : Int32), HH s h → Mo sb s → f_X12_lastsBy_L36 y1 y2 n s x3 x4 = some (r9, s9) → AW mX12_lastsBy (rmD (1) 0 0) (fin (PI fun r' h' => r9 = r' ∧ HH s9 h' ∧ Mo s0 s9) 0 0) 36 [some (.ref 67), some (.int y1), some (.int y2), some (.int x3), some (.int x4), none, none, none] [] h 0 0 := by
  intro n
  induction n with
  | zero =>
    intro s h x3 x4 H ms hf
    cases hf
  | succ n ih =>
    intro s h x3 x4 H ms hf
    replace hf : f_X12_lastsBy_L36_b y1 y2 (f_X12_lastsBy_L36 y1 y2 n) s x3 x4 = some (r9, s9) := hf
    unfold f_X12_lastsBy_L36_b at hf
    refine aw_iload (pc' := 38) dX12_lastsBy_36 rfl rfl ?_
    refine aw_bipush (v := 60) (pc' := 40) dX12_lastsBy_38 rfl (by decide) ?_
    refine aw_cgt (tgt := 162) (pc' := 43) dX12_lastsBy_40 (by decide) rfl (fun c9 => ?_) (fun c9 => ?_)
    · replace hf := ifp c9 hf
      refine aw_bipush (v := 60) (pc' := 164) dX12_lastsBy_162 rfl (by decide) ?_
      obtain ⟨rfl, rfl⟩ := so2 hf
      exact aw_ri dX12_lastsBy_164 rfl rfl (Nat.le_of_ble_eq_true rfl) (Nat.le_of_ble_eq_true rfl) ⟨rfl, H, (mb.tr ms)⟩
    · replace hf := ifn c9 hf
      refine aw_iconst (v := 1) (pc' := 44) dX12_lastsBy_43 rfl (by decide) ?_
      refine aw_istore (lv' := [_, _, _, _, _, _, _, _]) (pc' := 46) dX12_lastsBy_44 rfl (Nat.le_of_ble_eq_true rfl) rfl ?_
      refine aw_iconst (v := 0) (pc' := 47) dX12_lastsBy_46 rfl (by decide) ?_
      refine aw_istore (lv' := [_, _, _, _, _, _, _, _]) (pc' := 49) dX12_lastsBy_47 rfl (Nat.le_of_ble_eq_true rfl) rfl ?_
      refine t_X12_lastsBy_L49 (mb.tr ms) (fun s27 h27 x27_3 x27_5 H27 m27 hf => ?_) 4000 _ _ _ _ _ H (Mo.rf _) hf
      refine aw_iload (pc' := 148) dX12_lastsBy_146 rfl rfl ?_
      refine aw_if_ne (tgt := 156) (pc' := 151) dX12_lastsBy_148 (by decide) rfl (fun c28 => ?_) (fun c28 => ?_)
      · replace hf := ifn c28 hf
        obtain ⟨v29, ev29, hf⟩ := vl_e hf
        refine aw_iincV (y := v29) (lv' := [_, _, _, _, _, _, _, _]) (pc' := 159) dX12_lastsBy_156 rfl rfl (Nat.le_of_ble_eq_true rfl) ev29 rfl ?_
        refine aw_goto (tgt := 36) dX12_lastsBy_159 (by decide) ?_
        refine AW.lv_le (lz_k (lz_k (lz_k (lz_k (lz_k (lz_d (lz_d (lz_d lz_0)))))))) ?_
        exact ih _ _ _ _ H27 (ms.tr m27) hf
      · replace hf := ifp c28 hf
        refine aw_iload (pc' := 153) dX12_lastsBy_151 rfl rfl ?_
        refine aw_iconst (v := 1) (pc' := 154) dX12_lastsBy_153 rfl (by decide) ?_
        refine aw_isub (pc' := 155) dX12_lastsBy_154 rfl ?_
        obtain ⟨rfl, rfl⟩ := so2 hf
        exact aw_ri dX12_lastsBy_155 rfl rfl (Nat.le_of_ble_eq_true rfl) (Nat.le_of_ble_eq_true rfl) ⟨rfl, H27, ((mb.tr ms).tr m27)⟩
def f_X12_lastsBy (s0 : SS) (a0 : Int32) (a1 : Int32) : Option (Int32 × SS) := (f_X12_lastsBy_L2 (fun (s7 : SS)  => (vl ((zS s7 59 54)) fun v8 => (f_X12_lastsBy_L36 a0 a1 4000 s7 v8 1))) a0 a1 4000 s0 0)
set_option maxRecDepth 4000 in
theorem t_X12_lastsBy {r9 : Int32} {s0 s9 : SS} {h0 : List aE} {a0 : Int32} {a1 : Int32} (H0 : HH s0 h0) (hf : f_X12_lastsBy s0 a0 a1 = some (r9, s9)) : AM mX12_lastsBy (1) [.ref 67, .int a0, .int a1] h0 0 0 (PI fun r' h' => r9 = r' ∧ HH s9 h' ∧ Mo s0 s9) := by
  unfold f_X12_lastsBy at hf
  refine am_of (lv := [some (.ref 67), some (.int a0), some (.int a1), none, none, none, none, none]) rfl (Nat.le_of_ble_eq_true rfl) rfl ?_
  refine aw_iconst (v := 0) (pc' := 1) dX12_lastsBy_0 rfl (by decide) ?_
  refine aw_istore_n (lv' := [_, _, _, _, _, _, _, _]) (pc' := 2) dX12_lastsBy_1 rfl (Nat.le_of_ble_eq_true rfl) rfl ?_
  refine t_X12_lastsBy_L2 (Mo.rf _) (fun s7 h7 H7 m7 hf => ?_) 4000 _ _ _ H0 (Mo.rf _) hf
  refine aw_aload_n (pc' := 29) dX12_lastsBy_28 rfl rfl rfl ?_
  refine aw_gi (q := 59) (pc' := 32) H7 (H7.fo rfl rfl) (by decide) rfl dX12_lastsBy_29 rfl fl_RX12_397 ?_
  obtain ⟨v8, ev8, hf⟩ := vl_e hf
  refine aw_topi ev8 ?_
  refine aw_istore_n (lv' := [_, _, _, _, _, _, _, _]) (pc' := 33) dX12_lastsBy_32 rfl (Nat.le_of_ble_eq_true rfl) rfl ?_
  refine aw_iconst (v := 1) (pc' := 34) dX12_lastsBy_33 rfl (by decide) ?_
  refine aw_istore (lv' := [_, _, _, _, _, _, _, _]) (pc' := 36) dX12_lastsBy_34 rfl (Nat.le_of_ble_eq_true rfl) rfl ?_
  refine t_X12_lastsBy_L36 m7  4000 _ _ _ _ H7 (Mo.rf _) hf
/-! ThirtyThreeBelowModel.last -/
def f_X12_last (s0 : SS) (a0 : Int32) (a1 : Int32) : Option (Int32 × SS) := (b1 (f_X12_in a0 (0 : Int32) (999 : Int32)) fun r1 => (if r1 = (0 : Int32) then some ((-1), s0) else (b1 (f_X12_in a1 (0 : Int32) (9 : Int32)) fun r3 => (if r3 = (0 : Int32) then some ((-1), s0) else (b1 (f_X12_menBelow s0) fun r5 => (if r5 = (0 : Int32) then some ((-2), s0) else (bd (f_X12_lastsBy s0 a0 a1) fun r7 s7 => some (r7, s7))))))))
set_option maxRecDepth 4000 in
theorem t_X12_last {r9 : Int32} {s0 s9 : SS} {h0 : List aE} {a0 : Int32} {a1 : Int32} (H0 : HH s0 h0) (hf : f_X12_last s0 a0 a1 = some (r9, s9)) : AM mX12_last (2) [.ref 67, .int a0, .int a1] h0 0 0 (PI fun r' h' => r9 = r' ∧ HH s9 h' ∧ Mo s0 s9) := by
  unfold f_X12_last at hf
  refine am_of (lv := [some (.ref 67), some (.int a0), some (.int a1)]) rfl (Nat.le_of_ble_eq_true rfl) rfl ?_
  refine aw_iload_n (pc' := 1) dX12_last_0 rfl rfl ?_
  refine aw_iconst (v := 0) (pc' := 2) dX12_last_1 rfl (by decide) ?_
  refine aw_sipush (v := 999) (pc' := 5) dX12_last_2 rfl (by decide) ?_
  obtain ⟨r1, ec1, hf⟩ := b1_e hf
  refine aw_callSi (M' := mX12_in) (nc' := 0) (ns' := 0) (pc' := 8) dX12_last_5 rfl ml_RX12_230 kX12_in (t_X12_in ec1) rfl rfl (Nat.le_of_ble_eq_true rfl) (rokD (by omega) (Nat.le_of_ble_eq_true rfl) (Nat.le_of_ble_eq_true rfl) (Nat.le_of_ble_eq_true rfl)) rfl rfl (fun _ h1 q1 => ?_)
  obtain ⟨rfl, rfl, zb1⟩ := q1
  refine aw_if_eq (tgt := 21) (pc' := 11) dX12_last_8 (by decide) rfl (fun c2 => ?_) (fun c2 => ?_)
  · replace hf := ifp c2 hf
    refine aw_iconst (v := (-1)) (pc' := 22) dX12_last_21 rfl (by decide) ?_
    obtain ⟨rfl, rfl⟩ := so2 hf
    exact aw_ri dX12_last_22 rfl rfl (Nat.le_of_ble_eq_true rfl) (Nat.le_of_ble_eq_true rfl) ⟨rfl, H0, (Mo.rf _)⟩
  · replace hf := ifn c2 hf
    refine aw_iload_n (pc' := 12) dX12_last_11 rfl rfl ?_
    refine aw_iconst (v := 0) (pc' := 13) dX12_last_12 rfl (by decide) ?_
    refine aw_bipush (v := 9) (pc' := 15) dX12_last_13 rfl (by decide) ?_
    obtain ⟨r3, ec3, hf⟩ := b1_e hf
    refine aw_callSi (M' := mX12_in) (nc' := 0) (ns' := 0) (pc' := 18) dX12_last_15 rfl ml_RX12_230 kX12_in (t_X12_in ec3) rfl rfl (Nat.le_of_ble_eq_true rfl) (rokD (by omega) (Nat.le_of_ble_eq_true rfl) (Nat.le_of_ble_eq_true rfl) (Nat.le_of_ble_eq_true rfl)) rfl rfl (fun _ h3 q3 => ?_)
    obtain ⟨rfl, rfl, zb3⟩ := q3
    refine aw_if_ne (tgt := 23) (pc' := 21) dX12_last_18 (by decide) rfl (fun c4 => ?_) (fun c4 => ?_)
    · replace hf := ifn c4 hf
      refine aw_aload_n (pc' := 24) dX12_last_23 rfl rfl rfl ?_
      obtain ⟨r5, ec5, hf⟩ := b1_e hf
      refine aw_callVi (M' := mX12_menBelow) (nc' := 0) (ns' := 0) (pc' := 27) dX12_last_24 rfl ml_RX12_394 kX12_menBelow (t_X12_menBelow H0 ec5) (H0.ob (H0.fo rfl rfl) (by decide)) rfl rfl rfl (Nat.le_of_ble_eq_true rfl) (rokD (by omega) (Nat.le_of_ble_eq_true rfl) (Nat.le_of_ble_eq_true rfl) (Nat.le_of_ble_eq_true rfl)) rfl rfl (fun _ h5 q5 => ?_)
      obtain ⟨rfl, rfl⟩ := q5
      refine aw_if_ne (tgt := 35) (pc' := 30) dX12_last_27 (by decide) rfl (fun c6 => ?_) (fun c6 => ?_)
      · replace hf := ifn c6 hf
        refine aw_aload_n (pc' := 36) dX12_last_35 rfl rfl rfl ?_
        refine aw_iload_n (pc' := 37) dX12_last_36 rfl rfl ?_
        refine aw_iload_n (pc' := 38) dX12_last_37 rfl rfl ?_
        obtain ⟨r7, s7, ec7, hf⟩ := bd_e hf
        refine aw_callVi (M' := mX12_lastsBy) (nc' := 0) (ns' := 0) (pc' := 41) dX12_last_38 rfl ml_RX12_424 kX12_lastsBy (t_X12_lastsBy H0 ec7) (H0.ob (H0.fo rfl rfl) (by decide)) rfl rfl rfl (Nat.le_of_ble_eq_true rfl) (rokD (by omega) (Nat.le_of_ble_eq_true rfl) (Nat.le_of_ble_eq_true rfl) (Nat.le_of_ble_eq_true rfl)) rfl rfl (fun _ h7 q7 => ?_)
        obtain ⟨rfl, H7, m7⟩ := q7
        obtain ⟨rfl, rfl⟩ := so2 hf
        exact aw_ri dX12_last_41 rfl rfl (Nat.le_of_ble_eq_true rfl) (Nat.le_of_ble_eq_true rfl) ⟨rfl, H7, m7⟩
      · replace hf := ifp c6 hf
        refine aw_bipush (v := (-2)) (pc' := 32) dX12_last_30 rfl (by decide) ?_
        refine aw_goto (tgt := 41) dX12_last_32 (by decide) ?_
        obtain ⟨rfl, rfl⟩ := so2 hf
        exact aw_ri dX12_last_41 rfl rfl (Nat.le_of_ble_eq_true rfl) (Nat.le_of_ble_eq_true rfl) ⟨rfl, H0, (Mo.rf _)⟩
    · replace hf := ifp c4 hf
      refine aw_iconst (v := (-1)) (pc' := 22) dX12_last_21 rfl (by decide) ?_
      obtain ⟨rfl, rfl⟩ := so2 hf
      exact aw_ri dX12_last_22 rfl rfl (Nat.le_of_ble_eq_true rfl) (Nat.le_of_ble_eq_true rfl) ⟨rfl, H0, (Mo.rf _)⟩
/-! ThirtyThreeBelowModel.best -/
def f_X12_best_L27_b (y1 : Int32) (rc : SS → Int32 → Int32 → Option (Int32 × SS)) (s : SS) (x2 : Int32) (x3 : Int32) : Option (Int32 × SS) := (if x3 < (10 : Int32) then (bd (f_X12_lastsBy s y1 x3) fun r6 s6 => (bd (f_X12_lastsBy s6 y1 x2) fun r7 s7 => (jn (fun (j8_2 : Int32) => (vl (x3 + 1) fun v9 => (rc s7 j8_2 v9))) fun k8 => (if r7 < r6 then (k8 x3) else (k8 x2))))) else some (x2, s))
def f_X12_best_L27 (y1 : Int32) : Nat → SS → Int32 → Int32 → Option (Int32 × SS)
  | 0, _, _, _ => none
  | n + 1, s, x2, x3 => f_X12_best_L27_b y1 (f_X12_best_L27 y1 n) s x2 x3
set_option maxRecDepth 4000 in
theorem t_X12_best_L27 {r9 : Int32} {s0 sb s9 : SS} {y1 : Int32} (mb : Mo s0 sb)  : ∀ (n : Nat) (s : SS) (h : List aE) (x2 : Int32) (x3 : Int32), HH s h → Mo sb s → f_X12_best_L27 y1 n s x2 x3 = some (r9, s9) → AW mX12_best (rmD (2) 0 0) (fin (PI fun r' h' => r9 = r' ∧ HH s9 h' ∧ Mo s0 s9) 0 0) 27 [some (.ref 67), some (.int y1), some (.int x2), some (.int x3)] [] h 0 0 := by
  intro n
  induction n with
  | zero =>
    intro s h x2 x3 H ms hf
    cases hf
  | succ n ih =>
    intro s h x2 x3 H ms hf
    replace hf : f_X12_best_L27_b y1 (f_X12_best_L27 y1 n) s x2 x3 = some (r9, s9) := hf
    unfold f_X12_best_L27_b at hf
    refine aw_iload_n (pc' := 28) dX12_best_27 rfl rfl ?_
    refine aw_bipush (v := 10) (pc' := 30) dX12_best_28 rfl (by decide) ?_
    refine aw_cge (tgt := 56) (pc' := 33) dX12_best_30 (by decide) rfl (fun c5 => ?_) (fun c5 => ?_)
    · replace hf := ifn c5 hf
      refine aw_iload_n (pc' := 57) dX12_best_56 rfl rfl ?_
      obtain ⟨rfl, rfl⟩ := so2 hf
      exact aw_ri dX12_best_57 rfl rfl (Nat.le_of_ble_eq_true rfl) (Nat.le_of_ble_eq_true rfl) ⟨rfl, H, (mb.tr ms)⟩
    · replace hf := ifp c5 hf
      refine aw_aload_n (pc' := 34) dX12_best_33 rfl rfl rfl ?_
      refine aw_iload_n (pc' := 35) dX12_best_34 rfl rfl ?_
      refine aw_iload_n (pc' := 36) dX12_best_35 rfl rfl ?_
      obtain ⟨r6, s6, ec6, hf⟩ := bd_e hf
      refine aw_callVi (M' := mX12_lastsBy) (nc' := 0) (ns' := 0) (pc' := 39) dX12_best_36 rfl ml_RX12_424 kX12_lastsBy (t_X12_lastsBy H ec6) (H.ob (H.fo rfl rfl) (by decide)) rfl rfl rfl (Nat.le_of_ble_eq_true rfl) (rokD (by omega) (Nat.le_of_ble_eq_true rfl) (Nat.le_of_ble_eq_true rfl) (Nat.le_of_ble_eq_true rfl)) rfl rfl (fun _ h6 q6 => ?_)
      obtain ⟨rfl, H6, m6⟩ := q6
      refine aw_aload_n (pc' := 40) dX12_best_39 rfl rfl rfl ?_
      refine aw_iload_n (pc' := 41) dX12_best_40 rfl rfl ?_
      refine aw_iload_n (pc' := 42) dX12_best_41 rfl rfl ?_
      obtain ⟨r7, s7, ec7, hf⟩ := bd_e hf
      refine aw_callVi (M' := mX12_lastsBy) (nc' := 0) (ns' := 0) (pc' := 45) dX12_best_42 rfl ml_RX12_424 kX12_lastsBy (t_X12_lastsBy H6 ec7) (H6.ob (H6.fo rfl rfl) (by decide)) rfl rfl rfl (Nat.le_of_ble_eq_true rfl) (rokD (by omega) (Nat.le_of_ble_eq_true rfl) (Nat.le_of_ble_eq_true rfl) (Nat.le_of_ble_eq_true rfl)) rfl rfl (fun _ h7 q7 => ?_)
      obtain ⟨rfl, H7, m7⟩ := q7
      obtain ⟨k8, ek8, hf⟩ := jn_e hf
      have hk8 : ∀ (j8_2 : Int32), k8 j8_2 = some (r9, s9) → AW mX12_best (rmD (2) 0 0) (fin (PI fun r' h' => r9 = r' ∧ HH s9 h' ∧ Mo s0 s9) 0 0) 50 [some (.ref 67), some (.int y1), some (.int j8_2), some (.int x3)] [] h7 0 0 := by
        intro j8_2 hf
        subst ek8
        obtain ⟨v9, ev9, hf⟩ := vl_e hf
        refine aw_iincV (y := v9) (lv' := [_, _, _, _]) (pc' := 53) dX12_best_50 rfl rfl (Nat.le_of_ble_eq_true rfl) ev9 rfl ?_
        refine aw_goto (tgt := 27) dX12_best_53 (by decide) ?_
        exact ih _ _ _ _ H7 ((ms.tr m6).tr m7) hf
      clear ek8
      refine aw_cle (tgt := 50) (pc' := 48) dX12_best_45 (by decide) rfl (fun c10 => ?_) (fun c10 => ?_)
      · replace hf := ifn c10 hf
        exact hk8 _ hf
      · replace hf := ifp c10 hf
        refine aw_iload_n (pc' := 49) dX12_best_48 rfl rfl ?_
        refine aw_istore_n (lv' := [_, _, _, _]) (pc' := 50) dX12_best_49 rfl (Nat.le_of_ble_eq_true rfl) rfl ?_
        exact hk8 _ hf
def f_X12_best (s0 : SS) (a0 : Int32) : Option (Int32 × SS) := (b1 (f_X12_in a0 (0 : Int32) (999 : Int32)) fun r1 => (if r1 = (0 : Int32) then some ((-1), s0) else (b1 (f_X12_menBelow s0) fun r3 => (if r3 = (0 : Int32) then some ((-2), s0) else (f_X12_best_L27 a0 4000 s0 0 1)))))
set_option maxRecDepth 4000 in
theorem t_X12_best {r9 : Int32} {s0 s9 : SS} {h0 : List aE} {a0 : Int32} (H0 : HH s0 h0) (hf : f_X12_best s0 a0 = some (r9, s9)) : AM mX12_best (2) [.ref 67, .int a0] h0 0 0 (PI fun r' h' => r9 = r' ∧ HH s9 h' ∧ Mo s0 s9) := by
  unfold f_X12_best at hf
  refine am_of (lv := [some (.ref 67), some (.int a0), none, none]) rfl (Nat.le_of_ble_eq_true rfl) rfl ?_
  refine aw_iload_n (pc' := 1) dX12_best_0 rfl rfl ?_
  refine aw_iconst (v := 0) (pc' := 2) dX12_best_1 rfl (by decide) ?_
  refine aw_sipush (v := 999) (pc' := 5) dX12_best_2 rfl (by decide) ?_
  obtain ⟨r1, ec1, hf⟩ := b1_e hf
  refine aw_callSi (M' := mX12_in) (nc' := 0) (ns' := 0) (pc' := 8) dX12_best_5 rfl ml_RX12_230 kX12_in (t_X12_in ec1) rfl rfl (Nat.le_of_ble_eq_true rfl) (rokD (by omega) (Nat.le_of_ble_eq_true rfl) (Nat.le_of_ble_eq_true rfl) (Nat.le_of_ble_eq_true rfl)) rfl rfl (fun _ h1 q1 => ?_)
  obtain ⟨rfl, rfl, zb1⟩ := q1
  refine aw_if_ne (tgt := 13) (pc' := 11) dX12_best_8 (by decide) rfl (fun c2 => ?_) (fun c2 => ?_)
  · replace hf := ifn c2 hf
    refine aw_aload_n (pc' := 14) dX12_best_13 rfl rfl rfl ?_
    obtain ⟨r3, ec3, hf⟩ := b1_e hf
    refine aw_callVi (M' := mX12_menBelow) (nc' := 0) (ns' := 0) (pc' := 17) dX12_best_14 rfl ml_RX12_394 kX12_menBelow (t_X12_menBelow H0 ec3) (H0.ob (H0.fo rfl rfl) (by decide)) rfl rfl rfl (Nat.le_of_ble_eq_true rfl) (rokD (by omega) (Nat.le_of_ble_eq_true rfl) (Nat.le_of_ble_eq_true rfl) (Nat.le_of_ble_eq_true rfl)) rfl rfl (fun _ h3 q3 => ?_)
    obtain ⟨rfl, rfl⟩ := q3
    refine aw_if_ne (tgt := 23) (pc' := 20) dX12_best_17 (by decide) rfl (fun c4 => ?_) (fun c4 => ?_)
    · replace hf := ifn c4 hf
      refine aw_iconst (v := 0) (pc' := 24) dX12_best_23 rfl (by decide) ?_
      refine aw_istore_n (lv' := [_, _, _, _]) (pc' := 25) dX12_best_24 rfl (Nat.le_of_ble_eq_true rfl) rfl ?_
      refine aw_iconst (v := 1) (pc' := 26) dX12_best_25 rfl (by decide) ?_
      refine aw_istore_n (lv' := [_, _, _, _]) (pc' := 27) dX12_best_26 rfl (Nat.le_of_ble_eq_true rfl) rfl ?_
      refine t_X12_best_L27 (Mo.rf _)  4000 _ _ _ _ H0 (Mo.rf _) hf
    · replace hf := ifp c4 hf
      refine aw_bipush (v := (-2)) (pc' := 22) dX12_best_20 rfl (by decide) ?_
      obtain ⟨rfl, rfl⟩ := so2 hf
      exact aw_ri dX12_best_22 rfl rfl (Nat.le_of_ble_eq_true rfl) (Nat.le_of_ble_eq_true rfl) ⟨rfl, H0, (Mo.rf _)⟩
  · replace hf := ifp c2 hf
    refine aw_iconst (v := (-1)) (pc' := 12) dX12_best_11 rfl (by decide) ?_
    obtain ⟨rfl, rfl⟩ := so2 hf
    exact aw_ri dX12_best_12 rfl rfl (Nat.le_of_ble_eq_true rfl) (Nat.le_of_ble_eq_true rfl) ⟨rfl, H0, (Mo.rf _)⟩
/-! ThirtyThreeBelowModel.down -/
def f_X12_down (s0 : SS) (a0 : Int32) (a1 : Int32) (a2 : Int32) : Option (Int32 × SS) := (b1 (f_X12_isBody s0 a0) fun r1 => (if r1 = (0 : Int32) then some ((-1), s0) else (gd (inB a0 120) (if (zI s0 62 (a0.toInt.toNat)) = (3 : Int32) then (b1 (f_X12_in a2 (1 : Int32) (9 : Int32)) fun r5 => (if r5 = (0 : Int32) then some ((-1), s0) else (jn (fun (t7_0 : Int32) => (jn ((gd (inB a0 120) (if (zI s0 69 (a0.toInt.toNat)) = (0 : Int32) then some ((-2), s0) else (if (zS s0 59 62) = (40 : Int32) then some ((-3), s0) else (gd (inB a0 120) (jn (fun (t13_0 : Int32) => (vl ((t13_0 + a2)) fun v14 => (gd (inB a0 120) (st (pI s0 104 (a0.toInt.toNat) v14) fun s16 => (vl ((zS s16 59 62)) fun v17 => (gd (inB v17 40) (st (pI s16 102 (v17.toInt.toNat) a1) fun s19 => (vl ((t13_0 + a2)) fun v20 => (vl ((zS s19 59 62)) fun v21 => (gd (inB v21 40) (st (pI s19 103 (v21.toInt.toNat) v20) fun s23 => (vl (((zS s23 59 62) + (1 : Int32))) fun v24 => (st (pS s23 59 62 v24) fun s25 => some ((t13_0 + a2), s25)))))))))))))) fun k13 => (if (zS s0 59 1) < (zI s0 104 (a0.toInt.toNat)) then (gd (inB a0 120) (k13 (zI s0 104 (a0.toInt.toNat)))) else (k13 (zS s0 59 1))))))))) fun k8 => (if t7_0 = (0 : Int32) then (b1 (f_X12_in a1 (11 : Int32) (19 : Int32)) fun r29 => (if r29 = (0 : Int32) then some ((-1), s0) else k8)) else k8))) fun k7 => (jn ((k7 0)) fun k31 => (if (0 : Int32) < a1 then (if (a1 % (10 : Int32)) = (0 : Int32) then (if (999 : Int32) < (a1 / (10 : Int32)) then k31 else (k7 1)) else k31) else k31))))) else some ((-1), s0)))))
set_option maxRecDepth 4000 in
theorem t_X12_down {r9 : Int32} {s0 s9 : SS} {h0 : List aE} {a0 : Int32} {a1 : Int32} {a2 : Int32} (H0 : HH s0 h0) (hf : f_X12_down s0 a0 a1 a2 = some (r9, s9)) : AM mX12_down (2) [.ref 67, .int a0, .int a1, .int a2] h0 0 0 (PI fun r' h' => r9 = r' ∧ HH s9 h' ∧ Mo s0 s9) := by
  unfold f_X12_down at hf
  refine am_of (lv := [some (.ref 67), some (.int a0), some (.int a1), some (.int a2), none, none]) rfl (Nat.le_of_ble_eq_true rfl) rfl ?_
  refine aw_aload_n (pc' := 1) dX12_down_0 rfl rfl rfl ?_
  refine aw_iload_n (pc' := 2) dX12_down_1 rfl rfl ?_
  obtain ⟨r1, ec1, hf⟩ := b1_e hf
  refine aw_callVi (M' := mX12_isBody) (nc' := 0) (ns' := 0) (pc' := 5) dX12_down_2 rfl ml_RX12_245 kX12_isBody (t_X12_isBody H0 ec1) (H0.ob (H0.fo rfl rfl) (by decide)) rfl rfl rfl (Nat.le_of_ble_eq_true rfl) (rokD (by omega) (Nat.le_of_ble_eq_true rfl) (Nat.le_of_ble_eq_true rfl) (Nat.le_of_ble_eq_true rfl)) rfl rfl (fun _ h1 q1 => ?_)
  obtain ⟨rfl, rfl, zb1⟩ := q1
  refine aw_if_eq (tgt := 28) (pc' := 8) dX12_down_5 (by decide) rfl (fun c2 => ?_) (fun c2 => ?_)
  · replace hf := ifp c2 hf
    refine aw_iconst (v := (-1)) (pc' := 29) dX12_down_28 rfl (by decide) ?_
    obtain ⟨rfl, rfl⟩ := so2 hf
    exact aw_ri dX12_down_29 rfl rfl (Nat.le_of_ble_eq_true rfl) (Nat.le_of_ble_eq_true rfl) ⟨rfl, H0, (Mo.rf _)⟩
  · replace hf := ifn c2 hf
    refine aw_aload_n (pc' := 9) dX12_down_8 rfl rfl rfl ?_
    refine aw_gr (q := 59) (e := 7) (v := .ref 70) (pc' := 12) H0 (H0.fo rfl rfl) (by decide) rfl rfl dX12_down_9 rfl fl_RX12_17 ?_
    refine aw_iload_n (pc' := 13) dX12_down_12 rfl rfl ?_
    obtain ⟨g3, hf⟩ := gd_e hf
    refine aw_ia (q := 62) (pc' := 14) H0 (H0.fa rfl rfl rfl) g3 dX12_down_13 rfl ?_
    refine aw_iconst (v := 3) (pc' := 15) dX12_down_14 rfl (by decide) ?_
    refine aw_icmp_ne (tgt := 28) (pc' := 18) dX12_down_15 (by decide) rfl (fun c4 => ?_) (fun c4 => ?_)
    · replace hf := ifn c4 hf
      refine aw_iconst (v := (-1)) (pc' := 29) dX12_down_28 rfl (by decide) ?_
      obtain ⟨rfl, rfl⟩ := so2 hf
      exact aw_ri dX12_down_29 rfl rfl (Nat.le_of_ble_eq_true rfl) (Nat.le_of_ble_eq_true rfl) ⟨rfl, H0, (Mo.rf _)⟩
    · replace hf := ifp c4 hf
      refine aw_iload_n (pc' := 19) dX12_down_18 rfl rfl ?_
      refine aw_iconst (v := 1) (pc' := 20) dX12_down_19 rfl (by decide) ?_
      refine aw_bipush (v := 9) (pc' := 22) dX12_down_20 rfl (by decide) ?_
      obtain ⟨r5, ec5, hf⟩ := b1_e hf
      refine aw_callSi (M' := mX12_in) (nc' := 0) (ns' := 0) (pc' := 25) dX12_down_22 rfl ml_RX12_230 kX12_in (t_X12_in ec5) rfl rfl (Nat.le_of_ble_eq_true rfl) (rokD (by omega) (Nat.le_of_ble_eq_true rfl) (Nat.le_of_ble_eq_true rfl) (Nat.le_of_ble_eq_true rfl)) rfl rfl (fun _ h5 q5 => ?_)
      obtain ⟨rfl, rfl, zb5⟩ := q5
      refine aw_if_ne (tgt := 30) (pc' := 28) dX12_down_25 (by decide) rfl (fun c6 => ?_) (fun c6 => ?_)
      · replace hf := ifn c6 hf
        refine aw_iload_n (pc' := 31) dX12_down_30 rfl rfl ?_
        obtain ⟨k7, ek7, hf⟩ := jn_e hf
        have hk7 : ∀ (t7_0 : Int32), k7 t7_0 = some (r9, s9) → AW mX12_down (rmD (2) 0 0) (fin (PI fun r' h' => r9 = r' ∧ HH s9 h' ∧ Mo s0 s9) 0 0) 56 [some (.ref 67), some (.int a0), some (.int a1), some (.int a2), none, none] [.int t7_0] h0 0 0 := by
          intro t7_0 hf
          subst ek7
          refine aw_istore (lv' := [_, _, _, _, _, _]) (pc' := 58) dX12_down_56 rfl (Nat.le_of_ble_eq_true rfl) rfl ?_
          refine aw_iload (pc' := 60) dX12_down_58 rfl rfl ?_
          obtain ⟨k8, ek8, hf⟩ := jn_e hf
          have hk8 : k8 = some (r9, s9) → AW mX12_down (rmD (2) 0 0) (fin (PI fun r' h' => r9 = r' ∧ HH s9 h' ∧ Mo s0 s9) 0 0) 76 [some (.ref 67), some (.int a0), some (.int a1), some (.int a2), none, none] [] h0 0 0 := by
            intro hf
            subst ek8
            refine aw_aload_n (pc' := 77) dX12_down_76 rfl rfl rfl ?_
            refine aw_gr (q := 59) (e := 21) (v := .ref 77) (pc' := 80) H0 (H0.fo rfl rfl) (by decide) rfl rfl dX12_down_77 rfl fl_RX12_38 ?_
            refine aw_iload_n (pc' := 81) dX12_down_80 rfl rfl ?_
            obtain ⟨g9, hf⟩ := gd_e hf
            refine aw_ia (q := 69) (pc' := 82) H0 (H0.fa rfl rfl rfl) g9 dX12_down_81 rfl ?_
            refine aw_if_ne (tgt := 88) (pc' := 85) dX12_down_82 (by decide) rfl (fun c10 => ?_) (fun c10 => ?_)
            · replace hf := ifn c10 hf
              refine aw_aload_n (pc' := 89) dX12_down_88 rfl rfl rfl ?_
              refine aw_gi (q := 59) (pc' := 92) H0 (H0.fo rfl rfl) (by decide) rfl dX12_down_89 rfl fl_RX12_428 ?_
              refine aw_bipush (v := 40) (pc' := 94) dX12_down_92 rfl (by decide) ?_
              refine aw_icmp_ne (tgt := 100) (pc' := 97) dX12_down_94 (by decide) rfl (fun c11 => ?_) (fun c11 => ?_)
              · replace hf := ifn c11 hf
                refine aw_aload_n (pc' := 101) dX12_down_100 rfl rfl rfl ?_
                refine aw_gr (q := 59) (e := 91) (v := .ref 112) (pc' := 104) H0 (H0.fo rfl rfl) (by decide) rfl rfl dX12_down_101 rfl fl_RX12_151 ?_
                refine aw_iload_n (pc' := 105) dX12_down_104 rfl rfl ?_
                obtain ⟨g12, hf⟩ := gd_e hf
                refine aw_ia (q := 104) (pc' := 106) H0 (H0.fa rfl rfl rfl) g12 dX12_down_105 rfl ?_
                refine aw_aload_n (pc' := 107) dX12_down_106 rfl rfl rfl ?_
                refine aw_gi (q := 59) (pc' := 110) H0 (H0.fo rfl rfl) (by decide) rfl dX12_down_107 rfl fl_RX12_281 ?_
                obtain ⟨k13, ek13, hf⟩ := jn_e hf
                have hk13 : ∀ (t13_0 : Int32), k13 t13_0 = some (r9, s9) → AW mX12_down (rmD (2) 0 0) (fin (PI fun r' h' => r9 = r' ∧ HH s9 h' ∧ Mo s0 s9) 0 0) 126 [some (.ref 67), some (.int a0), some (.int a1), some (.int a2), none, none] [.int t13_0] h0 0 0 := by
                  intro t13_0 hf
                  subst ek13
                  refine aw_istore (lv' := [_, _, _, _, _, _]) (pc' := 128) dX12_down_126 rfl (Nat.le_of_ble_eq_true rfl) rfl ?_
                  refine aw_aload_n (pc' := 129) dX12_down_128 rfl rfl rfl ?_
                  refine aw_gr (q := 59) (e := 91) (v := .ref 112) (pc' := 132) H0 (H0.fo rfl rfl) (by decide) rfl rfl dX12_down_129 rfl fl_RX12_151 ?_
                  refine aw_iload_n (pc' := 133) dX12_down_132 rfl rfl ?_
                  refine aw_iload (pc' := 135) dX12_down_133 rfl rfl ?_
                  refine aw_iload_n (pc' := 136) dX12_down_135 rfl rfl ?_
                  refine aw_iadd (pc' := 137) dX12_down_136 rfl ?_
                  obtain ⟨v14, ev14, hf⟩ := vl_e hf
                  refine aw_topi ev14 ?_
                  obtain ⟨g15, hf⟩ := gd_e hf
                  obtain ⟨s16, es16, hf⟩ := st_e hf
                  refine aw_is (q := 104) (pc' := 138) es16 H0 (H0.fa rfl rfl rfl) g15 dX12_down_137 rfl (fun h16 H16 => ?_)
                  have m16 := Mo.ofI es16
                  refine aw_aload_n (pc' := 139) dX12_down_138 rfl rfl rfl ?_
                  refine aw_gr (q := 59) (e := 87) (v := .ref 110) (pc' := 142) H16 (H16.fo rfl rfl) (by decide) rfl rfl dX12_down_139 rfl fl_RX12_145 ?_
                  refine aw_aload_n (pc' := 143) dX12_down_142 rfl rfl rfl ?_
                  refine aw_gi (q := 59) (pc' := 146) H16 (H16.fo rfl rfl) (by decide) rfl dX12_down_143 rfl fl_RX12_428 ?_
                  refine aw_iload_n (pc' := 147) dX12_down_146 rfl rfl ?_
                  obtain ⟨v17, ev17, hf⟩ := vl_e hf
                  refine aw_sndi ev17 ?_
                  obtain ⟨g18, hf⟩ := gd_e hf
                  obtain ⟨s19, es19, hf⟩ := st_e hf
                  refine aw_is (q := 102) (pc' := 148) es19 H16 (H16.fa rfl rfl rfl) g18 dX12_down_147 rfl (fun h19 H19 => ?_)
                  have m19 := Mo.ofI es19
                  refine aw_aload_n (pc' := 149) dX12_down_148 rfl rfl rfl ?_
                  refine aw_gr (q := 59) (e := 89) (v := .ref 111) (pc' := 152) H19 (H19.fo rfl rfl) (by decide) rfl rfl dX12_down_149 rfl fl_RX12_148 ?_
                  refine aw_aload_n (pc' := 153) dX12_down_152 rfl rfl rfl ?_
                  refine aw_gi (q := 59) (pc' := 156) H19 (H19.fo rfl rfl) (by decide) rfl dX12_down_153 rfl fl_RX12_428 ?_
                  refine aw_iload (pc' := 158) dX12_down_156 rfl rfl ?_
                  refine aw_iload_n (pc' := 159) dX12_down_158 rfl rfl ?_
                  refine aw_iadd (pc' := 160) dX12_down_159 rfl ?_
                  obtain ⟨v20, ev20, hf⟩ := vl_e hf
                  refine aw_topi ev20 ?_
                  obtain ⟨v21, ev21, hf⟩ := vl_e hf
                  refine aw_sndi ev21 ?_
                  obtain ⟨g22, hf⟩ := gd_e hf
                  obtain ⟨s23, es23, hf⟩ := st_e hf
                  refine aw_is (q := 103) (pc' := 161) es23 H19 (H19.fa rfl rfl rfl) g22 dX12_down_160 rfl (fun h23 H23 => ?_)
                  have m23 := Mo.ofI es23
                  refine aw_aload_n (pc' := 162) dX12_down_161 rfl rfl rfl ?_
                  refine aw_dup (pc' := 163) dX12_down_162 rfl rfl ?_
                  refine aw_gi (q := 59) (pc' := 166) H23 (H23.fo rfl rfl) (by decide) rfl dX12_down_163 rfl fl_RX12_428 ?_
                  refine aw_iconst (v := 1) (pc' := 167) dX12_down_166 rfl (by decide) ?_
                  refine aw_iadd (pc' := 168) dX12_down_167 rfl ?_
                  obtain ⟨v24, ev24, hf⟩ := vl_e hf
                  refine aw_topi ev24 ?_
                  obtain ⟨s25, es25, hf⟩ := st_e hf
                  refine aw_pi (q := 59) (pc' := 171) es25 H23 (H23.fo rfl rfl) (by decide) rfl dX12_down_168 rfl fl_RX12_428 rfl (fun h25 H25 => ?_)
                  have m25 := Mo.ofS es25
                  refine aw_iload (pc' := 173) dX12_down_171 rfl rfl ?_
                  refine aw_iload_n (pc' := 174) dX12_down_173 rfl rfl ?_
                  refine aw_iadd (pc' := 175) dX12_down_174 rfl ?_
                  obtain ⟨rfl, rfl⟩ := so2 hf
                  exact aw_ri dX12_down_175 rfl rfl (Nat.le_of_ble_eq_true rfl) (Nat.le_of_ble_eq_true rfl) ⟨rfl, H25, (((m16.tr m19).tr m23).tr m25)⟩
                clear ek13
                refine aw_cle (tgt := 122) (pc' := 113) dX12_down_110 (by decide) rfl (fun c26 => ?_) (fun c26 => ?_)
                · replace hf := ifn c26 hf
                  refine aw_aload_n (pc' := 123) dX12_down_122 rfl rfl rfl ?_
                  refine aw_gi (q := 59) (pc' := 126) H0 (H0.fo rfl rfl) (by decide) rfl dX12_down_123 rfl fl_RX12_281 ?_
                  exact hk13 _ hf
                · replace hf := ifp c26 hf
                  refine aw_aload_n (pc' := 114) dX12_down_113 rfl rfl rfl ?_
                  refine aw_gr (q := 59) (e := 91) (v := .ref 112) (pc' := 117) H0 (H0.fo rfl rfl) (by decide) rfl rfl dX12_down_114 rfl fl_RX12_151 ?_
                  refine aw_iload_n (pc' := 118) dX12_down_117 rfl rfl ?_
                  obtain ⟨g27, hf⟩ := gd_e hf
                  refine aw_ia (q := 104) (pc' := 119) H0 (H0.fa rfl rfl rfl) g27 dX12_down_118 rfl ?_
                  refine aw_goto (tgt := 126) dX12_down_119 (by decide) ?_
                  exact hk13 _ hf
              · replace hf := ifp c11 hf
                refine aw_bipush (v := (-3)) (pc' := 99) dX12_down_97 rfl (by decide) ?_
                obtain ⟨rfl, rfl⟩ := so2 hf
                exact aw_ri dX12_down_99 rfl rfl (Nat.le_of_ble_eq_true rfl) (Nat.le_of_ble_eq_true rfl) ⟨rfl, H0, (Mo.rf _)⟩
            · replace hf := ifp c10 hf
              refine aw_bipush (v := (-2)) (pc' := 87) dX12_down_85 rfl (by decide) ?_
              obtain ⟨rfl, rfl⟩ := so2 hf
              exact aw_ri dX12_down_87 rfl rfl (Nat.le_of_ble_eq_true rfl) (Nat.le_of_ble_eq_true rfl) ⟨rfl, H0, (Mo.rf _)⟩
          clear ek8
          refine aw_if_ne (tgt := 76) (pc' := 63) dX12_down_60 (by decide) rfl (fun c28 => ?_) (fun c28 => ?_)
          · replace hf := ifn c28 hf
            refine AW.lv_le (lz_k (lz_k (lz_k (lz_k (lz_d (lz_d lz_0)))))) ?_
            exact hk8  hf
          · replace hf := ifp c28 hf
            refine aw_iload_n (pc' := 64) dX12_down_63 rfl rfl ?_
            refine aw_bipush (v := 11) (pc' := 66) dX12_down_64 rfl (by decide) ?_
            refine aw_bipush (v := 19) (pc' := 68) dX12_down_66 rfl (by decide) ?_
            obtain ⟨r29, ec29, hf⟩ := b1_e hf
            refine aw_callSi (M' := mX12_in) (nc' := 0) (ns' := 0) (pc' := 71) dX12_down_68 rfl ml_RX12_230 kX12_in (t_X12_in ec29) rfl rfl (Nat.le_of_ble_eq_true rfl) (rokD (by omega) (Nat.le_of_ble_eq_true rfl) (Nat.le_of_ble_eq_true rfl) (Nat.le_of_ble_eq_true rfl)) rfl rfl (fun _ h29 q29 => ?_)
            obtain ⟨rfl, rfl, zb29⟩ := q29
            refine aw_if_ne (tgt := 76) (pc' := 74) dX12_down_71 (by decide) rfl (fun c30 => ?_) (fun c30 => ?_)
            · replace hf := ifn c30 hf
              refine AW.lv_le (lz_k (lz_k (lz_k (lz_k (lz_d (lz_d lz_0)))))) ?_
              exact hk8  hf
            · replace hf := ifp c30 hf
              refine aw_iconst (v := (-1)) (pc' := 75) dX12_down_74 rfl (by decide) ?_
              obtain ⟨rfl, rfl⟩ := so2 hf
              exact aw_ri dX12_down_75 rfl rfl (Nat.le_of_ble_eq_true rfl) (Nat.le_of_ble_eq_true rfl) ⟨rfl, H0, (Mo.rf _)⟩
        clear ek7
        obtain ⟨k31, ek31, hf⟩ := jn_e hf
        have hk31 : k31 = some (r9, s9) → AW mX12_down (rmD (2) 0 0) (fin (PI fun r' h' => r9 = r' ∧ HH s9 h' ∧ Mo s0 s9) 0 0) 55 [some (.ref 67), some (.int a0), some (.int a1), some (.int a2), none, none] [] h0 0 0 := by
          intro hf
          subst ek31
          refine aw_iconst (v := 0) (pc' := 56) dX12_down_55 rfl (by decide) ?_
          exact hk7 _ hf
        clear ek31
        refine aw_zle (tgt := 55) (pc' := 34) dX12_down_31 (by decide) rfl (fun c32 => ?_) (fun c32 => ?_)
        · replace hf := ifn c32 hf
          exact hk31  hf
        · replace hf := ifp c32 hf
          refine aw_iload_n (pc' := 35) dX12_down_34 rfl rfl ?_
          refine aw_bipush (v := 10) (pc' := 37) dX12_down_35 rfl (by decide) ?_
          refine aw_irem (pc' := 38) dX12_down_37 rfl (by decide) ?_
          refine aw_if_ne (tgt := 55) (pc' := 41) dX12_down_38 (by decide) rfl (fun c33 => ?_) (fun c33 => ?_)
          · replace hf := ifn c33 hf
            exact hk31  hf
          · replace hf := ifp c33 hf
            refine aw_iload_n (pc' := 42) dX12_down_41 rfl rfl ?_
            refine aw_bipush (v := 10) (pc' := 44) dX12_down_42 rfl (by decide) ?_
            refine aw_idiv (pc' := 45) dX12_down_44 rfl (by decide) ?_
            refine aw_sipush (v := 999) (pc' := 48) dX12_down_45 rfl (by decide) ?_
            refine aw_cgt (tgt := 55) (pc' := 51) dX12_down_48 (by decide) rfl (fun c34 => ?_) (fun c34 => ?_)
            · replace hf := ifp c34 hf
              exact hk31  hf
            · replace hf := ifn c34 hf
              refine aw_iconst (v := 1) (pc' := 52) dX12_down_51 rfl (by decide) ?_
              refine aw_goto (tgt := 56) dX12_down_52 (by decide) ?_
              exact hk7 _ hf
      · replace hf := ifp c6 hf
        refine aw_iconst (v := (-1)) (pc' := 29) dX12_down_28 rfl (by decide) ?_
        obtain ⟨rfl, rfl⟩ := so2 hf
        exact aw_ri dX12_down_29 rfl rfl (Nat.le_of_ble_eq_true rfl) (Nat.le_of_ble_eq_true rfl) ⟨rfl, H0, (Mo.rf _)⟩
/-! ThirtyThreeBelowModel.below -/
def f_X12_below (s0 : SS) (a0 : Int32) : Option Int32 := (b1 (f_X12_in a0 (0 : Int32) (9 : Int32)) fun r1 => (if r1 = (0 : Int32) then some (-1) else (if a0 = (0 : Int32) then some (zS s0 59 54) else (gd (inB a0 10) some (zI s0 105 (a0.toInt.toNat))))))
set_option maxRecDepth 4000 in
theorem t_X12_below {r9 : Int32} {s0 : SS} {h0 : List aE} {a0 : Int32} (H0 : HH s0 h0) (hf : f_X12_below s0 a0 = some r9) : AM mX12_below (1) [.ref 67, .int a0] h0 0 0 (PI fun r' h' => r9 = r' ∧ h0 = h') := by
  unfold f_X12_below at hf
  refine am_of (lv := [some (.ref 67), some (.int a0)]) rfl (Nat.le_of_ble_eq_true rfl) rfl ?_
  refine aw_iload_n (pc' := 1) dX12_below_0 rfl rfl ?_
  refine aw_iconst (v := 0) (pc' := 2) dX12_below_1 rfl (by decide) ?_
  refine aw_bipush (v := 9) (pc' := 4) dX12_below_2 rfl (by decide) ?_
  obtain ⟨r1, ec1, hf⟩ := b1_e hf
  refine aw_callSi (M' := mX12_in) (nc' := 0) (ns' := 0) (pc' := 7) dX12_below_4 rfl ml_RX12_230 kX12_in (t_X12_in ec1) rfl rfl (Nat.le_of_ble_eq_true rfl) (rokD (by omega) (Nat.le_of_ble_eq_true rfl) (Nat.le_of_ble_eq_true rfl) (Nat.le_of_ble_eq_true rfl)) rfl rfl (fun _ h1 q1 => ?_)
  obtain ⟨rfl, rfl, zb1⟩ := q1
  refine aw_if_ne (tgt := 14) (pc' := 10) dX12_below_7 (by decide) rfl (fun c2 => ?_) (fun c2 => ?_)
  · replace hf := ifn c2 hf
    refine aw_iload_n (pc' := 15) dX12_below_14 rfl rfl ?_
    refine aw_if_ne (tgt := 25) (pc' := 18) dX12_below_15 (by decide) rfl (fun c3 => ?_) (fun c3 => ?_)
    · replace hf := ifn c3 hf
      refine aw_aload_n (pc' := 26) dX12_below_25 rfl rfl rfl ?_
      refine aw_gr (q := 59) (e := 93) (v := .ref 113) (pc' := 29) H0 (H0.fo rfl rfl) (by decide) rfl rfl dX12_below_26 rfl fl_RX12_154 ?_
      refine aw_iload_n (pc' := 30) dX12_below_29 rfl rfl ?_
      obtain ⟨g4, hf⟩ := gd_e hf
      refine aw_ia (q := 105) (pc' := 31) H0 (H0.fa rfl rfl rfl) g4 dX12_below_30 rfl ?_
      obtain rfl := Option.some.inj hf
      exact aw_ri dX12_below_31 rfl rfl (Nat.le_of_ble_eq_true rfl) (Nat.le_of_ble_eq_true rfl) ⟨rfl, rfl⟩
    · replace hf := ifp c3 hf
      refine aw_aload_n (pc' := 19) dX12_below_18 rfl rfl rfl ?_
      refine aw_gi (q := 59) (pc' := 22) H0 (H0.fo rfl rfl) (by decide) rfl dX12_below_19 rfl fl_RX12_397 ?_
      refine aw_goto (tgt := 31) dX12_below_22 (by decide) ?_
      obtain rfl := Option.some.inj hf
      exact aw_ri dX12_below_31 rfl rfl (Nat.le_of_ble_eq_true rfl) (Nat.le_of_ble_eq_true rfl) ⟨rfl, rfl⟩
  · replace hf := ifp c2 hf
    refine aw_iconst (v := (-1)) (pc' := 11) dX12_below_10 rfl (by decide) ?_
    refine aw_goto (tgt := 31) dX12_below_11 (by decide) ?_
    obtain rfl := Option.some.inj hf
    exact aw_ri dX12_below_31 rfl rfl (Nat.le_of_ble_eq_true rfl) (Nat.le_of_ble_eq_true rfl) ⟨rfl, rfl⟩
/-! ThirtyThreeBelowModel.need -/
def f_X12_need (s0 : SS) (a0 : Int32) (a1 : Int32) : Option (Int32 × SS) := (if a0 < (0 : Int32) then some ((-1), s0) else (b1 (f_X12_in (a0 / (100 : Int32)) (1 : Int32) (9 : Int32)) fun r2 => (if r2 = (0 : Int32) then some ((-1), s0) else (if (a0 % (100 : Int32)) = (0 : Int32) then some ((-1), s0) else (b1 (f_X12_in a1 (0 : Int32) (99 : Int32)) fun r5 => (if r5 = (0 : Int32) then some ((-1), s0) else (if (zS s0 59 67) = (10 : Int32) then some ((-3), s0) else (vl ((a0 / (100 : Int32))) fun v8 => (vl ((zS s0 59 67)) fun v9 => (gd (inB v9 10) (st (pI s0 106 (v9.toInt.toNat) v8) fun s11 => (vl ((a0 % (100 : Int32))) fun v12 => (vl ((zS s11 59 67)) fun v13 => (gd (inB v13 10) (st (pI s11 107 (v13.toInt.toNat) v12) fun s15 => (vl ((zS s15 59 67)) fun v16 => (gd (inB v16 10) (st (pI s15 108 (v16.toInt.toNat) a1) fun s18 => (vl (((zS s18 59 67) + (1 : Int32))) fun v19 => (st (pS s18 59 67 v19) fun s20 => some ((zS s20 59 67), s20)))))))))))))))))))))
set_option maxRecDepth 4000 in
theorem t_X12_need {r9 : Int32} {s0 s9 : SS} {h0 : List aE} {a0 : Int32} {a1 : Int32} (H0 : HH s0 h0) (hf : f_X12_need s0 a0 a1 = some (r9, s9)) : AM mX12_need (1) [.ref 67, .int a0, .int a1] h0 0 0 (PI fun r' h' => r9 = r' ∧ HH s9 h' ∧ Mo s0 s9) := by
  unfold f_X12_need at hf
  refine am_of (lv := [some (.ref 67), some (.int a0), some (.int a1)]) rfl (Nat.le_of_ble_eq_true rfl) rfl ?_
  refine aw_iload_n (pc' := 1) dX12_need_0 rfl rfl ?_
  refine aw_zlt (tgt := 34) (pc' := 4) dX12_need_1 (by decide) rfl (fun c1 => ?_) (fun c1 => ?_)
  · replace hf := ifp c1 hf
    refine aw_iconst (v := (-1)) (pc' := 35) dX12_need_34 rfl (by decide) ?_
    obtain ⟨rfl, rfl⟩ := so2 hf
    exact aw_ri dX12_need_35 rfl rfl (Nat.le_of_ble_eq_true rfl) (Nat.le_of_ble_eq_true rfl) ⟨rfl, H0, (Mo.rf _)⟩
  · replace hf := ifn c1 hf
    refine aw_iload_n (pc' := 5) dX12_need_4 rfl rfl ?_
    refine aw_bipush (v := 100) (pc' := 7) dX12_need_5 rfl (by decide) ?_
    refine aw_idiv (pc' := 8) dX12_need_7 rfl (by decide) ?_
    refine aw_iconst (v := 1) (pc' := 9) dX12_need_8 rfl (by decide) ?_
    refine aw_bipush (v := 9) (pc' := 11) dX12_need_9 rfl (by decide) ?_
    obtain ⟨r2, ec2, hf⟩ := b1_e hf
    refine aw_callSi (M' := mX12_in) (nc' := 0) (ns' := 0) (pc' := 14) dX12_need_11 rfl ml_RX12_230 kX12_in (t_X12_in ec2) rfl rfl (Nat.le_of_ble_eq_true rfl) (rokD (by omega) (Nat.le_of_ble_eq_true rfl) (Nat.le_of_ble_eq_true rfl) (Nat.le_of_ble_eq_true rfl)) rfl rfl (fun _ h2 q2 => ?_)
    obtain ⟨rfl, rfl, zb2⟩ := q2
    refine aw_if_eq (tgt := 34) (pc' := 17) dX12_need_14 (by decide) rfl (fun c3 => ?_) (fun c3 => ?_)
    · replace hf := ifp c3 hf
      refine aw_iconst (v := (-1)) (pc' := 35) dX12_need_34 rfl (by decide) ?_
      obtain ⟨rfl, rfl⟩ := so2 hf
      exact aw_ri dX12_need_35 rfl rfl (Nat.le_of_ble_eq_true rfl) (Nat.le_of_ble_eq_true rfl) ⟨rfl, H0, (Mo.rf _)⟩
    · replace hf := ifn c3 hf
      refine aw_iload_n (pc' := 18) dX12_need_17 rfl rfl ?_
      refine aw_bipush (v := 100) (pc' := 20) dX12_need_18 rfl (by decide) ?_
      refine aw_irem (pc' := 21) dX12_need_20 rfl (by decide) ?_
      refine aw_if_eq (tgt := 34) (pc' := 24) dX12_need_21 (by decide) rfl (fun c4 => ?_) (fun c4 => ?_)
      · replace hf := ifp c4 hf
        refine aw_iconst (v := (-1)) (pc' := 35) dX12_need_34 rfl (by decide) ?_
        obtain ⟨rfl, rfl⟩ := so2 hf
        exact aw_ri dX12_need_35 rfl rfl (Nat.le_of_ble_eq_true rfl) (Nat.le_of_ble_eq_true rfl) ⟨rfl, H0, (Mo.rf _)⟩
      · replace hf := ifn c4 hf
        refine aw_iload_n (pc' := 25) dX12_need_24 rfl rfl ?_
        refine aw_iconst (v := 0) (pc' := 26) dX12_need_25 rfl (by decide) ?_
        refine aw_bipush (v := 99) (pc' := 28) dX12_need_26 rfl (by decide) ?_
        obtain ⟨r5, ec5, hf⟩ := b1_e hf
        refine aw_callSi (M' := mX12_in) (nc' := 0) (ns' := 0) (pc' := 31) dX12_need_28 rfl ml_RX12_230 kX12_in (t_X12_in ec5) rfl rfl (Nat.le_of_ble_eq_true rfl) (rokD (by omega) (Nat.le_of_ble_eq_true rfl) (Nat.le_of_ble_eq_true rfl) (Nat.le_of_ble_eq_true rfl)) rfl rfl (fun _ h5 q5 => ?_)
        obtain ⟨rfl, rfl, zb5⟩ := q5
        refine aw_if_ne (tgt := 36) (pc' := 34) dX12_need_31 (by decide) rfl (fun c6 => ?_) (fun c6 => ?_)
        · replace hf := ifn c6 hf
          refine aw_aload_n (pc' := 37) dX12_need_36 rfl rfl rfl ?_
          refine aw_gi (q := 59) (pc' := 40) H0 (H0.fo rfl rfl) (by decide) rfl dX12_need_37 rfl fl_RX12_431 ?_
          refine aw_bipush (v := 10) (pc' := 42) dX12_need_40 rfl (by decide) ?_
          refine aw_icmp_ne (tgt := 48) (pc' := 45) dX12_need_42 (by decide) rfl (fun c7 => ?_) (fun c7 => ?_)
          · replace hf := ifn c7 hf
            refine aw_aload_n (pc' := 49) dX12_need_48 rfl rfl rfl ?_
            refine aw_gr (q := 59) (e := 95) (v := .ref 114) (pc' := 52) H0 (H0.fo rfl rfl) (by decide) rfl rfl dX12_need_49 rfl fl_RX12_157 ?_
            refine aw_aload_n (pc' := 53) dX12_need_52 rfl rfl rfl ?_
            refine aw_gi (q := 59) (pc' := 56) H0 (H0.fo rfl rfl) (by decide) rfl dX12_need_53 rfl fl_RX12_431 ?_
            refine aw_iload_n (pc' := 57) dX12_need_56 rfl rfl ?_
            refine aw_bipush (v := 100) (pc' := 59) dX12_need_57 rfl (by decide) ?_
            refine aw_idiv (pc' := 60) dX12_need_59 rfl (by decide) ?_
            obtain ⟨v8, ev8, hf⟩ := vl_e hf
            refine aw_topi ev8 ?_
            obtain ⟨v9, ev9, hf⟩ := vl_e hf
            refine aw_sndi ev9 ?_
            obtain ⟨g10, hf⟩ := gd_e hf
            obtain ⟨s11, es11, hf⟩ := st_e hf
            refine aw_is (q := 106) (pc' := 61) es11 H0 (H0.fa rfl rfl rfl) g10 dX12_need_60 rfl (fun h11 H11 => ?_)
            have m11 := Mo.ofI es11
            refine aw_aload_n (pc' := 62) dX12_need_61 rfl rfl rfl ?_
            refine aw_gr (q := 59) (e := 97) (v := .ref 115) (pc' := 65) H11 (H11.fo rfl rfl) (by decide) rfl rfl dX12_need_62 rfl fl_RX12_160 ?_
            refine aw_aload_n (pc' := 66) dX12_need_65 rfl rfl rfl ?_
            refine aw_gi (q := 59) (pc' := 69) H11 (H11.fo rfl rfl) (by decide) rfl dX12_need_66 rfl fl_RX12_431 ?_
            refine aw_iload_n (pc' := 70) dX12_need_69 rfl rfl ?_
            refine aw_bipush (v := 100) (pc' := 72) dX12_need_70 rfl (by decide) ?_
            refine aw_irem (pc' := 73) dX12_need_72 rfl (by decide) ?_
            obtain ⟨v12, ev12, hf⟩ := vl_e hf
            refine aw_topi ev12 ?_
            obtain ⟨v13, ev13, hf⟩ := vl_e hf
            refine aw_sndi ev13 ?_
            obtain ⟨g14, hf⟩ := gd_e hf
            obtain ⟨s15, es15, hf⟩ := st_e hf
            refine aw_is (q := 107) (pc' := 74) es15 H11 (H11.fa rfl rfl rfl) g14 dX12_need_73 rfl (fun h15 H15 => ?_)
            have m15 := Mo.ofI es15
            refine aw_aload_n (pc' := 75) dX12_need_74 rfl rfl rfl ?_
            refine aw_gr (q := 59) (e := 99) (v := .ref 116) (pc' := 78) H15 (H15.fo rfl rfl) (by decide) rfl rfl dX12_need_75 rfl fl_RX12_163 ?_
            refine aw_aload_n (pc' := 79) dX12_need_78 rfl rfl rfl ?_
            refine aw_gi (q := 59) (pc' := 82) H15 (H15.fo rfl rfl) (by decide) rfl dX12_need_79 rfl fl_RX12_431 ?_
            refine aw_iload_n (pc' := 83) dX12_need_82 rfl rfl ?_
            obtain ⟨v16, ev16, hf⟩ := vl_e hf
            refine aw_sndi ev16 ?_
            obtain ⟨g17, hf⟩ := gd_e hf
            obtain ⟨s18, es18, hf⟩ := st_e hf
            refine aw_is (q := 108) (pc' := 84) es18 H15 (H15.fa rfl rfl rfl) g17 dX12_need_83 rfl (fun h18 H18 => ?_)
            have m18 := Mo.ofI es18
            refine aw_aload_n (pc' := 85) dX12_need_84 rfl rfl rfl ?_
            refine aw_dup (pc' := 86) dX12_need_85 rfl rfl ?_
            refine aw_gi (q := 59) (pc' := 89) H18 (H18.fo rfl rfl) (by decide) rfl dX12_need_86 rfl fl_RX12_431 ?_
            refine aw_iconst (v := 1) (pc' := 90) dX12_need_89 rfl (by decide) ?_
            refine aw_iadd (pc' := 91) dX12_need_90 rfl ?_
            obtain ⟨v19, ev19, hf⟩ := vl_e hf
            refine aw_topi ev19 ?_
            obtain ⟨s20, es20, hf⟩ := st_e hf
            refine aw_pi (q := 59) (pc' := 94) es20 H18 (H18.fo rfl rfl) (by decide) rfl dX12_need_91 rfl fl_RX12_431 rfl (fun h20 H20 => ?_)
            have m20 := Mo.ofS es20
            refine aw_aload_n (pc' := 95) dX12_need_94 rfl rfl rfl ?_
            refine aw_gi (q := 59) (pc' := 98) H20 (H20.fo rfl rfl) (by decide) rfl dX12_need_95 rfl fl_RX12_431 ?_
            obtain ⟨rfl, rfl⟩ := so2 hf
            exact aw_ri dX12_need_98 rfl rfl (Nat.le_of_ble_eq_true rfl) (Nat.le_of_ble_eq_true rfl) ⟨rfl, H20, (((m11.tr m15).tr m18).tr m20)⟩
          · replace hf := ifp c7 hf
            refine aw_bipush (v := (-3)) (pc' := 47) dX12_need_45 rfl (by decide) ?_
            obtain ⟨rfl, rfl⟩ := so2 hf
            exact aw_ri dX12_need_47 rfl rfl (Nat.le_of_ble_eq_true rfl) (Nat.le_of_ble_eq_true rfl) ⟨rfl, H0, (Mo.rf _)⟩
        · replace hf := ifp c6 hf
          refine aw_iconst (v := (-1)) (pc' := 35) dX12_need_34 rfl (by decide) ?_
          obtain ⟨rfl, rfl⟩ := so2 hf
          exact aw_ri dX12_need_35 rfl rfl (Nat.le_of_ble_eq_true rfl) (Nat.le_of_ble_eq_true rfl) ⟨rfl, H0, (Mo.rf _)⟩
/-! ThirtyThreeBelowModel.costNext -/
def f_X12_costNext_L5_b (q0 : Int32 → Option Int32) (s0 : SS) (y1 : Int32) (y2 : Int32) (rc : Int32 → Int32 → Option Int32) (x3 : Int32) (x4 : Int32) : Option Int32 := (if x4 < (zS s0 59 67) then (jn (fun (t2_0 : Int32) => (vl ((x3 + t2_0)) fun v3 => (vl (x4 + 1) fun v4 => (rc v3 v4)))) fun k2 => (if ((y2 >>> (x4 &&& 31)) &&& (1 : Int32)) = (0 : Int32) then (gd (inB x4 10) (k2 (zI s0 106 (x4.toInt.toNat)))) else (k2 0))) else (q0 x3))
def f_X12_costNext_L5 (q0 : Int32 → Option Int32) (s0 : SS) (y1 : Int32) (y2 : Int32) : Nat → Int32 → Int32 → Option Int32
  | 0, _, _ => none
  | n + 1, x3, x4 => f_X12_costNext_L5_b q0 s0 y1 y2 (f_X12_costNext_L5 q0 s0 y1 y2 n) x3 x4
set_option maxRecDepth 4000 in
theorem t_X12_costNext_L5 {r9 : Int32} {s0 : SS} {h0 : List aE} {q0 : Int32 → Option Int32} {y1 : Int32} {y2 : Int32} (H0 : HH s0 h0) (hq0 : ∀ (x3 : Int32), q0 x3 = some r9 → AW mX12_costNext (rmD (0) 0 0) (fin (PI fun r' h' => r9 = r' ∧ h0 = h') 0 0) 43 [some (.ref 67), some (.int y1), none, some (.int x3), none] [] h0 0 0) : ∀ (n : Nat) (x3 : Int32) (x4 : Int32), f_X12_costNext_L5 q0 s0 y1 y2 n x3 x4 = some r9 → AW mX12_costNext (rmD (0) 0 0) (fin (PI fun r' h' => r9 = r' ∧ h0 = h') 0 0) 5 [some (.ref 67), some (.int y1), some (.int y2), some (.int x3), some (.int x4)] [] h0 0 0 := by
  intro n
  induction n with
  | zero =>
    intro x3 x4 hf
    cases hf
  | succ n ih =>
    intro x3 x4 hf
    replace hf : f_X12_costNext_L5_b q0 s0 y1 y2 (f_X12_costNext_L5 q0 s0 y1 y2 n) x3 x4 = some r9 := hf
    unfold f_X12_costNext_L5_b at hf
    refine aw_iload (pc' := 7) dX12_costNext_5 rfl rfl ?_
    refine aw_aload_n (pc' := 8) dX12_costNext_7 rfl rfl rfl ?_
    refine aw_gi (q := 59) (pc' := 11) H0 (H0.fo rfl rfl) (by decide) rfl dX12_costNext_8 rfl fl_RX12_431 ?_
    refine aw_cge (tgt := 43) (pc' := 14) dX12_costNext_11 (by decide) rfl (fun c1 => ?_) (fun c1 => ?_)
    · replace hf := ifn c1 hf
      refine AW.lv_le (lz_k (lz_k (lz_d (lz_k (lz_d lz_0))))) ?_
      exact hq0 _ hf
    · replace hf := ifp c1 hf
      refine aw_iload_n (pc' := 15) dX12_costNext_14 rfl rfl ?_
      refine aw_iload_n (pc' := 16) dX12_costNext_15 rfl rfl ?_
      refine aw_iload (pc' := 18) dX12_costNext_16 rfl rfl ?_
      refine aw_ishr (pc' := 19) dX12_costNext_18 rfl ?_
      refine aw_iconst (v := 1) (pc' := 20) dX12_costNext_19 rfl (by decide) ?_
      refine aw_iand (pc' := 21) dX12_costNext_20 rfl ?_
      obtain ⟨k2, ek2, hf⟩ := jn_e hf
      have hk2 : ∀ (t2_0 : Int32), k2 t2_0 = some r9 → AW mX12_costNext (rmD (0) 0 0) (fin (PI fun r' h' => r9 = r' ∧ h0 = h') 0 0) 35 [some (.ref 67), some (.int y1), some (.int y2), none, some (.int x4)] [.int t2_0, .int x3] h0 0 0 := by
        intro t2_0 hf
        subst ek2
        refine aw_iadd (pc' := 36) dX12_costNext_35 rfl ?_
        obtain ⟨v3, ev3, hf⟩ := vl_e hf
        refine aw_topi ev3 ?_
        refine aw_istore_n (lv' := [_, _, _, _, _]) (pc' := 37) dX12_costNext_36 rfl (Nat.le_of_ble_eq_true rfl) rfl ?_
        obtain ⟨v4, ev4, hf⟩ := vl_e hf
        refine aw_iincV (y := v4) (lv' := [_, _, _, _, _]) (pc' := 40) dX12_costNext_37 rfl rfl (Nat.le_of_ble_eq_true rfl) ev4 rfl ?_
        refine aw_goto (tgt := 5) dX12_costNext_40 (by decide) ?_
        exact ih _ _ hf
      clear ek2
      refine aw_if_ne (tgt := 34) (pc' := 24) dX12_costNext_21 (by decide) rfl (fun c5 => ?_) (fun c5 => ?_)
      · replace hf := ifn c5 hf
        refine aw_iconst (v := 0) (pc' := 35) dX12_costNext_34 rfl (by decide) ?_
        refine AW.lv_le (lz_k (lz_k (lz_k (lz_d (lz_k lz_0))))) ?_
        exact hk2 _ hf
      · replace hf := ifp c5 hf
        refine aw_aload_n (pc' := 25) dX12_costNext_24 rfl rfl rfl ?_
        refine aw_gr (q := 59) (e := 95) (v := .ref 114) (pc' := 28) H0 (H0.fo rfl rfl) (by decide) rfl rfl dX12_costNext_25 rfl fl_RX12_157 ?_
        refine aw_iload (pc' := 30) dX12_costNext_28 rfl rfl ?_
        obtain ⟨g6, hf⟩ := gd_e hf
        refine aw_ia (q := 106) (pc' := 31) H0 (H0.fa rfl rfl rfl) g6 dX12_costNext_30 rfl ?_
        refine aw_goto (tgt := 35) dX12_costNext_31 (by decide) ?_
        refine AW.lv_le (lz_k (lz_k (lz_k (lz_d (lz_k lz_0))))) ?_
        exact hk2 _ hf
def f_X12_costNext (s0 : SS) (a0 : Int32) (a1 : Int32) : Option Int32 := (f_X12_costNext_L5 (fun (x7_3 : Int32) => (gd (inB a0 10) (gd (inB a0 10) (vl (((x7_3 + (zI s0 106 (a0.toInt.toNat))) - (zI s0 108 (a0.toInt.toNat)))) fun v10 => (if (0 : Int32) < v10 then (gd (inB a0 10) some (v10 * (zI s0 107 (a0.toInt.toNat)))) else some 0))))) s0 a0 a1 4000 0 0)
set_option maxRecDepth 4000 in
theorem t_X12_costNext {r9 : Int32} {s0 : SS} {h0 : List aE} {a0 : Int32} {a1 : Int32} (H0 : HH s0 h0) (hf : f_X12_costNext s0 a0 a1 = some r9) : AM mX12_costNext (0) [.ref 67, .int a0, .int a1] h0 0 0 (PI fun r' h' => r9 = r' ∧ h0 = h') := by
  unfold f_X12_costNext at hf
  refine am_of (lv := [some (.ref 67), some (.int a0), some (.int a1), none, none]) rfl (Nat.le_of_ble_eq_true rfl) rfl ?_
  refine aw_iconst (v := 0) (pc' := 1) dX12_costNext_0 rfl (by decide) ?_
  refine aw_istore_n (lv' := [_, _, _, _, _]) (pc' := 2) dX12_costNext_1 rfl (Nat.le_of_ble_eq_true rfl) rfl ?_
  refine aw_iconst (v := 0) (pc' := 3) dX12_costNext_2 rfl (by decide) ?_
  refine aw_istore (lv' := [_, _, _, _, _]) (pc' := 5) dX12_costNext_3 rfl (Nat.le_of_ble_eq_true rfl) rfl ?_
  refine t_X12_costNext_L5 H0 (fun x7_3 hf => ?_) 4000 _ _ hf
  refine aw_iload_n (pc' := 44) dX12_costNext_43 rfl rfl ?_
  refine aw_aload_n (pc' := 45) dX12_costNext_44 rfl rfl rfl ?_
  refine aw_gr (q := 59) (e := 95) (v := .ref 114) (pc' := 48) H0 (H0.fo rfl rfl) (by decide) rfl rfl dX12_costNext_45 rfl fl_RX12_157 ?_
  refine aw_iload_n (pc' := 49) dX12_costNext_48 rfl rfl ?_
  obtain ⟨g8, hf⟩ := gd_e hf
  refine aw_ia (q := 106) (pc' := 50) H0 (H0.fa rfl rfl rfl) g8 dX12_costNext_49 rfl ?_
  refine aw_iadd (pc' := 51) dX12_costNext_50 rfl ?_
  refine aw_aload_n (pc' := 52) dX12_costNext_51 rfl rfl rfl ?_
  refine aw_gr (q := 59) (e := 99) (v := .ref 116) (pc' := 55) H0 (H0.fo rfl rfl) (by decide) rfl rfl dX12_costNext_52 rfl fl_RX12_163 ?_
  refine aw_iload_n (pc' := 56) dX12_costNext_55 rfl rfl ?_
  obtain ⟨g9, hf⟩ := gd_e hf
  refine aw_ia (q := 108) (pc' := 57) H0 (H0.fa rfl rfl rfl) g9 dX12_costNext_56 rfl ?_
  refine aw_isub (pc' := 58) dX12_costNext_57 rfl ?_
  obtain ⟨v10, ev10, hf⟩ := vl_e hf
  refine aw_topi ev10 ?_
  refine aw_istore (lv' := [_, _, _, _, _]) (pc' := 60) dX12_costNext_58 rfl (Nat.le_of_ble_eq_true rfl) rfl ?_
  refine aw_iload (pc' := 62) dX12_costNext_60 rfl rfl ?_
  refine aw_zle (tgt := 77) (pc' := 65) dX12_costNext_62 (by decide) rfl (fun c11 => ?_) (fun c11 => ?_)
  · replace hf := ifn c11 hf
    refine aw_iconst (v := 0) (pc' := 78) dX12_costNext_77 rfl (by decide) ?_
    obtain rfl := Option.some.inj hf
    exact aw_ri dX12_costNext_78 rfl rfl (Nat.le_of_ble_eq_true rfl) (Nat.le_of_ble_eq_true rfl) ⟨rfl, rfl⟩
  · replace hf := ifp c11 hf
    refine aw_iload (pc' := 67) dX12_costNext_65 rfl rfl ?_
    refine aw_aload_n (pc' := 68) dX12_costNext_67 rfl rfl rfl ?_
    refine aw_gr (q := 59) (e := 97) (v := .ref 115) (pc' := 71) H0 (H0.fo rfl rfl) (by decide) rfl rfl dX12_costNext_68 rfl fl_RX12_160 ?_
    refine aw_iload_n (pc' := 72) dX12_costNext_71 rfl rfl ?_
    obtain ⟨g12, hf⟩ := gd_e hf
    refine aw_ia (q := 107) (pc' := 73) H0 (H0.fa rfl rfl rfl) g12 dX12_costNext_72 rfl ?_
    refine aw_imul (pc' := 74) dX12_costNext_73 rfl ?_
    refine aw_goto (tgt := 78) dX12_costNext_74 (by decide) ?_
    obtain rfl := Option.some.inj hf
    exact aw_ri dX12_costNext_78 rfl rfl (Nat.le_of_ble_eq_true rfl) (Nat.le_of_ble_eq_true rfl) ⟨rfl, rfl⟩
