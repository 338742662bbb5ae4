/-! ThirtyThreeBelowModel.lastsBy -/
noncomputable def f_X12_lastsBy_L2_b (q0 : SS → Option (Int32 × SS)) (y1 : Int32) (y2 : Int32) (rc : SS → Int32 → Option (Int32 × SS)) (s : SS) (x3 : Int32) : Option (Int32 × SS) := (if x3 < (zS s 59 4) then (gd (inB x3 120) (vl ((zI s 74 (x3.toInt.toNat))) fun v3 => (gd (inB x3 120) (st (pI s 101 (x3.toInt.toNat) v3) fun s5 => (vl (x3 + 1) fun v6 => (rc s5 v6)))))) else (q0 s))
noncomputable def f_X12_lastsBy_L2 (q0 : SS → Option (Int32 × SS)) (y1 : Int32) (y2 : Int32) : Nat → SS → Int32 → Option (Int32 × SS)
  | 0, _, _ => none
  | n + 1, s, x3 => f_X12_lastsBy_L2_b q0 y1 y2 (f_X12_lastsBy_L2 q0 y1 y2 n) s x3
set_option maxRecDepth 4000 in
theorem t_X12_lastsBy_L2 {r9 : Int32} {s0 sb s9 : SS} {q0 : SS → Option (Int32 × SS)} {y1 : Int32} {y2 : Int32} (mb : Mo s0 sb) (hq0 : ∀ (s : SS) (h : List aE), HH s h → Mo sb s → q0 s = some (r9, s9) → AW mX12_lastsBy (rmD (1) 0 0) (fin (PI fun r' h' => r9 = r' ∧ HH s9 h' ∧ Mo s0 s9) 0 0) 28 [some (.ref 67), some (.int y1), some (.int y2), none, none, none, none, none] [] h 0 0) : ∀ (n : Nat) (s : SS) (h : List aE) (x3 : Int32), HH s h → Mo sb s → f_X12_lastsBy_L2 q0 y1 y2 n s x3 = some (r9, s9) → AW mX12_lastsBy (rmD (1) 0 0) (fin (PI fun r' h' => r9 = r' ∧ HH s9 h' ∧ Mo s0 s9) 0 0) 2 [some (.ref 67), some (.int y1), some (.int y2), some (.int x3), none, none, none, none] [] h 0 0 := by
  intro n
  induction n with
  | zero =>
    intro s h x3 H ms hf
    cases hf
  | succ n ih =>
    intro s h x3 H ms hf
    replace hf : f_X12_lastsBy_L2_b q0 y1 y2 (f_X12_lastsBy_L2 q0 y1 y2 n) s x3 = some (r9, s9) := hf
    unfold f_X12_lastsBy_L2_b at hf
    refine aw_iload_n (pc' := 3) dX12_lastsBy_2 rfl rfl ?_
    refine aw_aload_n (pc' := 4) dX12_lastsBy_3 rfl rfl rfl ?_
    refine aw_gi (q := 59) (pc' := 7) H (H.fo rfl rfl) (by decide) rfl dX12_lastsBy_4 rfl fl_RX12_242 ?_
    refine aw_cge (tgt := 28) (pc' := 10) dX12_lastsBy_7 rfl rfl (fun c1 => ?_) (fun c1 => ?_)
    · replace hf := ifn c1 hf
      refine AW.lv_le (lz_k (lz_k (lz_k (lz_d (lz_d (lz_d (lz_d (lz_d lz_0)))))))) ?_
      exact hq0 _ _ H ms hf
    · replace hf := ifp c1 hf
      refine aw_aload_n (pc' := 11) dX12_lastsBy_10 rfl rfl rfl ?_
      refine aw_gr (q := 59) (e := 85) (v := .ref 109) (pc' := 14) H (H.fo rfl rfl) (by decide) rfl rfl dX12_lastsBy_11 rfl fl_RX12_142 ?_
      refine aw_iload_n (pc' := 15) dX12_lastsBy_14 rfl rfl ?_
      refine aw_aload_n (pc' := 16) dX12_lastsBy_15 rfl rfl rfl ?_
      refine aw_gr (q := 59) (e := 31) (v := .ref 82) (pc' := 19) H (H.fo rfl rfl) (by decide) rfl rfl dX12_lastsBy_16 rfl fl_RX12_53 ?_
      refine aw_iload_n (pc' := 20) dX12_lastsBy_19 rfl rfl ?_
      obtain ⟨g2, hf⟩ := gd_e hf
      refine aw_ia (q := 74) (pc' := 21) H (H.fa rfl rfl rfl) g2 dX12_lastsBy_20 rfl ?_
      obtain ⟨v3, ev3, hf⟩ := vl_e hf
      refine aw_topi ev3 ?_
      obtain ⟨g4, hf⟩ := gd_e hf
      obtain ⟨s5, es5, hf⟩ := st_e hf
      refine aw_is (q := 101) (pc' := 22) es5 H (H.fa rfl rfl rfl) g4 dX12_lastsBy_21 rfl (fun h5 H5 => ?_)
      have m5 := Mo.ofI es5
      obtain ⟨v6, ev6, hf⟩ := vl_e hf
      refine aw_iincV (y := v6) (lv' := [_, _, _, _, _, _, _, _]) (pc' := 25) dX12_lastsBy_22 rfl rfl (Nat.le_of_ble_eq_true rfl) ev6 rfl ?_
      refine aw_goto (tgt := 2) dX12_lastsBy_25 rfl ?_
      exact ih _ _ _ H5 (ms.tr m5) hf
noncomputable def f_X12_lastsBy_L49_b (q0 : SS → Int32 → Int32 → Option (Int32 × SS)) (y1 : Int32) (y2 : Int32) (y4 : Int32) (rc : SS → Int32 → Int32 → Int32 → Option (Int32 × SS)) (s : SS) (x3 : Int32) (x5 : Int32) (x6 : Int32) : Option (Int32 × SS) := (if x6 < (zS s 59 4) then (gd (inB x6 120) (jn (fun (s13 : SS) (j13_3 : Int32) (j13_5 : Int32) => (vl (x6 + 1) fun v14 => (rc s13 j13_3 j13_5 v14))) fun k13 => (if (zI s 77 (x6.toInt.toNat)) = (0 : Int32) then (k13 s x3 x5) else (jn (fun (t16_0 : Int32) => (vl ((x3 - t16_0)) fun v17 => (gd (inB x6 120) (b1 (f_X12_held (((zI s 101 (x6.toInt.toNat)) - (6 : Int32)) + ((2 : Int32) * t16_0)) (0 : Int32) (999 : Int32)) fun r19 => (gd (inB x6 120) (st (pI s 101 (x6.toInt.toNat) r19) fun s21 => (jn (fun (t22_0 : Int32) => (k13 s21 v17 t22_0)) fun k22 => (jn ((k22 0)) fun k23 => (if x5 = (0 : Int32) then k23 else (gd (inB x6 120) (if y1 < (zI s21 101 (x6.toInt.toNat)) then (k22 1) else k23))))))))))) fun k16 => (if y2 < x3 then (k16 y2) else (k16 x3)))))) else (q0 s x3 x5))
noncomputable def f_X12_lastsBy_L49 (q0 : SS → Int32 → Int32 → Option (Int32 × SS)) (y1 : Int32) (y2 : Int32) (y4 : Int32) : Nat → SS → Int32 → Int32 → Int32 → Option (Int32 × SS)
  | 0, _, _, _, _ => none
  | n + 1, s, x3, x5, x6 => f_X12_lastsBy_L49_b q0 y1 y2 y4 (f_X12_lastsBy_L49 q0 y1 y2 y4 n) s x3 x5 x6
set_option maxRecDepth 4000 in
theorem t_X12_lastsBy_L49 {r9 : Int32} {s0 sb s9 : SS} {q0 : SS → Int32 → Int32 → Option (Int32 × SS)} {y1 : Int32} {y2 : Int32} {y4 : Int32} (mb : Mo s0 sb) (hq0 : ∀ (s : SS) (h : List aE) (x3 : Int32) (x5 : Int32), HH s h → Mo sb s → q0 s x3 x5 = some (r9, s9) → AW mX12_lastsBy (rmD (1) 0 0) (fin (PI fun r' h' => r9 = r' ∧ HH s9 h' ∧ Mo s0 s9) 0 0) 146 [some (.ref 67), some (.int y1), some (.int y2), some (.int x3), some (.int y4), some (.int x5), none, none] [] h 0 0) : ∀ (n : Nat) (s : SS) (h : List aE) (x3 : Int32) (x5 : Int32) (x6 : Int32), HH s h → Mo sb s → f_X12_lastsBy_L49 q0 y1 y2 y4 n s x3 x5 x6 = some (r9, s9) → AW mX12_lastsBy (rmD (1) 0 0) (fin (PI fun r' h' => r9 = r' ∧ HH s9 h' ∧ Mo s0 s9) 0 0) 49 [some (.ref 67), some (.int y1), some (.int y2), some (.int x3), some (.int y4), some (.int x5), some (.int x6), none] [] h 0 0 := by
  intro n
  induction n with
  | zero =>
    intro s h x3 x5 x6 H ms hf
    cases hf
  | succ n ih =>
    intro s h x3 x5 x6 H ms hf
    replace hf : f_X12_lastsBy_L49_b q0 y1 y2 y4 (f_X12_lastsBy_L49 q0 y1 y2 y4 n) s x3 x5 x6 = some (r9, s9) := hf
    unfold f_X12_lastsBy_L49_b at hf
    refine aw_iload (pc' := 51) dX12_lastsBy_49 rfl rfl ?_
    refine aw_aload_n (pc' := 52) dX12_lastsBy_51 rfl rfl rfl ?_
    refine aw_gi (q := 59) (pc' := 55) H (H.fo rfl rfl) (by decide) rfl dX12_lastsBy_52 rfl fl_RX12_242 ?_
    refine aw_cge (tgt := 146) (pc' := 58) dX12_lastsBy_55 rfl rfl (fun c11 => ?_) (fun c11 => ?_)
    · replace hf := ifn c11 hf
      refine AW.lv_le (lz_k (lz_k (lz_k (lz_k (lz_k (lz_k (lz_d (lz_d lz_0)))))))) ?_
      exact hq0 _ _ _ _ H ms hf
    · replace hf := ifp c11 hf
      refine aw_aload_n (pc' := 59) dX12_lastsBy_58 rfl rfl rfl ?_
      refine aw_gr (q := 59) (e := 37) (v := .ref 85) (pc' := 62) H (H.fo rfl rfl) (by decide) rfl rfl dX12_lastsBy_59 rfl fl_RX12_62 ?_
      refine aw_iload (pc' := 64) dX12_lastsBy_62 rfl rfl ?_
      obtain ⟨g12, hf⟩ := gd_e hf
      refine aw_za (q := 77) (pc' := 65) H (H.fa rfl rfl rfl) g12 dX12_lastsBy_64 rfl ?_
      obtain ⟨k13, ek13, hf⟩ := jn_e hf
      have hk13 : ∀ (s13 : SS) (h13 : List aE) (j13_3 : Int32) (j13_5 : Int32), HH s13 h13 → Mo s s13 → k13 s13 j13_3 j13_5 = some (r9, s9) → AW mX12_lastsBy (rmD (1) 0 0) (fin (PI fun r' h' => r9 = r' ∧ HH s9 h' ∧ Mo s0 s9) 0 0) 140 [some (.ref 67), some (.int y1), some (.int y2), some (.int j13_3), some (.int y4), some (.int j13_5), some (.int x6), none] [] h13 0 0 := by
        intro s13 h13 j13_3 j13_5 H13 m13 hf
        subst ek13
        obtain ⟨v14, ev14, hf⟩ := vl_e hf
        refine aw_iincV (y := v14) (lv' := [_, _, _, _, _, _, _, _]) (pc' := 143) dX12_lastsBy_140 rfl rfl (Nat.le_of_ble_eq_true rfl) ev14 rfl ?_
        refine aw_goto (tgt := 49) dX12_lastsBy_143 rfl ?_
        exact ih _ _ _ _ _ H13 (ms.tr m13) hf
      clear ek13
      refine aw_if_ne (tgt := 71) (pc' := 68) dX12_lastsBy_65 rfl rfl (fun c15 => ?_) (fun c15 => ?_)
      · replace hf := ifn c15 hf
        refine aw_iload_n (pc' := 72) dX12_lastsBy_71 rfl rfl ?_
        refine aw_iload_n (pc' := 73) dX12_lastsBy_72 rfl rfl ?_
        obtain ⟨k16, ek16, hf⟩ := jn_e hf
        have hk16 : ∀ (t16_0 : Int32), k16 t16_0 = some (r9, s9) → AW mX12_lastsBy (rmD (1) 0 0) (fin (PI fun r' h' => r9 = r' ∧ HH s9 h' ∧ Mo s0 s9) 0 0) 81 [some (.ref 67), some (.int y1), some (.int y2), some (.int x3), some (.int y4), some (.int x5), some (.int x6), none] [.int t16_0] h 0 0 := by
          intro t16_0 hf
          subst ek16
          refine aw_istore (lv' := [_, _, _, _, _, _, _, _]) (pc' := 83) dX12_lastsBy_81 rfl (Nat.le_of_ble_eq_true rfl) rfl ?_
          refine aw_iload_n (pc' := 84) dX12_lastsBy_83 rfl rfl ?_
          refine aw_iload (pc' := 86) dX12_lastsBy_84 rfl rfl ?_
          refine aw_isub (pc' := 87) dX12_lastsBy_86 rfl ?_
          obtain ⟨v17, ev17, hf⟩ := vl_e hf
          refine aw_topi ev17 ?_
          refine aw_istore_n (lv' := [_, _, _, _, _, _, _, _]) (pc' := 88) dX12_lastsBy_87 rfl (Nat.le_of_ble_eq_true rfl) rfl ?_
          refine aw_aload_n (pc' := 89) dX12_lastsBy_88 rfl rfl rfl ?_
          refine aw_gr (q := 59) (e := 85) (v := .ref 109) (pc' := 92) H (H.fo rfl rfl) (by decide) rfl rfl dX12_lastsBy_89 rfl fl_RX12_142 ?_
          refine aw_iload (pc' := 94) dX12_lastsBy_92 rfl rfl ?_
          refine aw_aload_n (pc' := 95) dX12_lastsBy_94 rfl rfl rfl ?_
          refine aw_gr (q := 59) (e := 85) (v := .ref 109) (pc' := 98) H (H.fo rfl rfl) (by decide) rfl rfl dX12_lastsBy_95 rfl fl_RX12_142 ?_
          refine aw_iload (pc' := 100) dX12_lastsBy_98 rfl rfl ?_
          obtain ⟨g18, hf⟩ := gd_e hf
          refine aw_ia (q := 101) (pc' := 101) H (H.fa rfl rfl rfl) g18 dX12_lastsBy_100 rfl ?_
          refine aw_bipush (v := 6) (pc' := 103) dX12_lastsBy_101 rfl bp_6 ?_
          refine aw_isub (pc' := 104) dX12_lastsBy_103 rfl ?_
          refine aw_iconst (v := 2) (pc' := 105) dX12_lastsBy_104 rfl ic_2 ?_
          refine aw_iload (pc' := 107) dX12_lastsBy_105 rfl rfl ?_
          refine aw_imul (pc' := 108) dX12_lastsBy_107 rfl ?_
          refine aw_iadd (pc' := 109) dX12_lastsBy_108 rfl ?_
          refine aw_iconst (v := 0) (pc' := 110) dX12_lastsBy_109 rfl ic_0 ?_
          refine aw_sipush (v := 999) (pc' := 113) dX12_lastsBy_110 rfl sp_999 ?_
          obtain ⟨r19, ec19, hf⟩ := b1_e hf
          refine aw_callSi (M' := mX12_held) (nc' := 0) (ns' := 0) (pc' := 116) dX12_lastsBy_113 rfl ml_RX12_284 kX12_held (t_X12_held ec19) rfl rfl (Nat.le_of_ble_eq_true rfl) (rokD (by omega) (Nat.le_of_ble_eq_true rfl) (Nat.le_of_ble_eq_true rfl) (Nat.le_of_ble_eq_true rfl)) rfl rfl (fun _ h19 q19 => ?_)
          obtain ⟨rfl, rfl⟩ := q19
          obtain ⟨g20, hf⟩ := gd_e hf
          obtain ⟨s21, es21, hf⟩ := st_e hf
          refine aw_is (q := 101) (pc' := 117) es21 H (H.fa rfl rfl rfl) g20 dX12_lastsBy_116 rfl (fun h21 H21 => ?_)
          have m21 := Mo.ofI es21
          refine aw_iload (pc' := 119) dX12_lastsBy_117 rfl rfl ?_
          obtain ⟨k22, ek22, hf⟩ := jn_e hf
          have hk22 : ∀ (t22_0 : Int32), k22 t22_0 = some (r9, s9) → AW mX12_lastsBy (rmD (1) 0 0) (fin (PI fun r' h' => r9 = r' ∧ HH s9 h' ∧ Mo s0 s9) 0 0) 138 [some (.ref 67), some (.int y1), some (.int y2), some (.int v17), some (.int y4), none, some (.int x6), none] [.int t22_0] h21 0 0 := by
            intro t22_0 hf
            subst ek22
            refine aw_istore (lv' := [_, _, _, _, _, _, _, _]) (pc' := 140) dX12_lastsBy_138 rfl (Nat.le_of_ble_eq_true rfl) rfl ?_
            exact hk13 _ _ _ _ H21 m21 hf
          clear ek22
          obtain ⟨k23, ek23, hf⟩ := jn_e hf
          have hk23 : k23 = some (r9, s9) → AW mX12_lastsBy (rmD (1) 0 0) (fin (PI fun r' h' => r9 = r' ∧ HH s9 h' ∧ Mo s0 s9) 0 0) 137 [some (.ref 67), some (.int y1), some (.int y2), some (.int v17), some (.int y4), none, some (.int x6), none] [] h21 0 0 := by
            intro hf
            subst ek23
            refine aw_iconst (v := 0) (pc' := 138) dX12_lastsBy_137 rfl ic_0 ?_
            exact hk22 _ hf
          clear ek23
          refine aw_if_eq (tgt := 137) (pc' := 122) dX12_lastsBy_119 rfl rfl (fun c24 => ?_) (fun c24 => ?_)
          · replace hf := ifp c24 hf
            refine AW.lv_le (lz_k (lz_k (lz_k (lz_k (lz_k (lz_d (lz_k (lz_d lz_0)))))))) ?_
            exact hk23  hf
          · replace hf := ifn c24 hf
            refine aw_aload_n (pc' := 123) dX12_lastsBy_122 rfl rfl rfl ?_
            refine aw_gr (q := 59) (e := 85) (v := .ref 109) (pc' := 126) H21 (H21.fo rfl rfl) (l13 rfl) rfl rfl dX12_lastsBy_123 rfl fl_RX12_142 ?_
            refine aw_iload (pc' := 128) dX12_lastsBy_126 rfl rfl ?_
            obtain ⟨g25, hf⟩ := gd_e hf
            refine aw_ia (q := 101) (pc' := 129) H21 (H21.fa rfl rfl rfl) g25 dX12_lastsBy_128 rfl ?_
            refine aw_iload_n (pc' := 130) dX12_lastsBy_129 rfl rfl ?_
            refine aw_cle (tgt := 137) (pc' := 133) dX12_lastsBy_130 rfl rfl (fun c26 => ?_) (fun c26 => ?_)
            · replace hf := ifn c26 hf
              refine AW.lv_le (lz_k (lz_k (lz_k (lz_k (lz_k (lz_d (lz_k (lz_d lz_0)))))))) ?_
              exact hk23  hf
            · replace hf := ifp c26 hf
              refine aw_iconst (v := 1) (pc' := 134) dX12_lastsBy_133 rfl ic_1 ?_
              refine aw_goto (tgt := 138) dX12_lastsBy_134 rfl ?_
              refine AW.lv_le (lz_k (lz_k (lz_k (lz_k (lz_k (lz_d (lz_k (lz_d lz_0)))))))) ?_
              exact hk22 _ hf
        clear ek16
        refine aw_cge (tgt := 80) (pc' := 76) dX12_lastsBy_73 rfl rfl (fun c27 => ?_) (fun c27 => ?_)
        · replace hf := ifn c27 hf
          refine aw_iload_n (pc' := 81) dX12_lastsBy_80 rfl rfl ?_
          exact hk16 _ hf
        · replace hf := ifp c27 hf
          refine aw_iload_n (pc' := 77) dX12_lastsBy_76 rfl rfl ?_
          refine aw_goto (tgt := 81) dX12_lastsBy_77 rfl ?_
          exact hk16 _ hf
      · replace hf := ifp c15 hf
        refine aw_goto (tgt := 140) dX12_lastsBy_68 rfl ?_
        exact hk13 _ _ _ _ H (Mo.rf _) hf
noncomputable def f_X12_lastsBy_L36_b (y1 : Int32) (y2 : Int32) (rc : SS → Int32 → Int32 → Option (Int32 × SS)) (s : SS) (x3 : Int32) (x4 : Int32) : Option (Int32 × SS) := (if (60 : Int32) < x4 then some (60, s) else (f_X12_lastsBy_L49 (fun (s28 : SS) (x28_3 : Int32) (x28_5 : Int32) => (if x28_5 = (0 : Int32) then some ((x4 - (1 : Int32)), s28) else (vl (x4 + 1) fun v30 => (rc s28 x28_3 v30)))) y1 y2 x4 4000 s x3 1 0))
noncomputable def f_X12_lastsBy_L36 (y1 : Int32) (y2 : Int32) : Nat → SS → Int32 → Int32 → Option (Int32 × SS)
  | 0, _, _, _ => none
  | n + 1, s, x3, x4 => f_X12_lastsBy_L36_b y1 y2 (f_X12_lastsBy_L36 y1 y2 n) s x3 x4
set_option maxRecDepth 4000 in
theorem t_X12_lastsBy_L36 {r9 : Int32} {s0 sb s9 : SS} {y1 : Int32} {y2 : Int32} (mb : Mo s0 sb)  : ∀ (n : Nat) (s : SS) (h : List aE) (x3 : Int32) (x4 : Int32), HH s h → Mo sb s → f_X12_lastsBy_L36 y1 y2 n s x3 x4 = some (r9, s9) → AW mX12_lastsBy (rmD (1) 0 0) (fin (PI fun r' h' => r9 = r' ∧ HH s9 h' ∧ Mo s0 s9) 0 0) 36 [some (.ref 67), some (.int y1), some (.int y2), some (.int x3), some (.int x4), none, none, none] [] h 0 0 := by
  intro n
  induction n with
  | zero =>
    intro s h x3 x4 H ms hf
    cases hf
  | succ n ih =>
    intro s h x3 x4 H ms hf
    replace hf : f_X12_lastsBy_L36_b y1 y2 (f_X12_lastsBy_L36 y1 y2 n) s x3 x4 = some (r9, s9) := hf
    unfold f_X12_lastsBy_L36_b at hf
    refine aw_iload (pc' := 38) dX12_lastsBy_36 rfl rfl ?_
    refine aw_bipush (v := 60) (pc' := 40) dX12_lastsBy_38 rfl bp_60 ?_
    refine aw_cgt (tgt := 162) (pc' := 43) dX12_lastsBy_40 rfl rfl (fun c10 => ?_) (fun c10 => ?_)
    · replace hf := ifp c10 hf
      refine aw_bipush (v := 60) (pc' := 164) dX12_lastsBy_162 rfl bp_60 ?_
      obtain ⟨rfl, rfl⟩ := so2 hf
      exact aw_ri dX12_lastsBy_164 rfl rfl (Nat.le_of_ble_eq_true rfl) (Nat.le_of_ble_eq_true rfl) ⟨rfl, H, (mb.tr ms)⟩
    · replace hf := ifn c10 hf
      refine aw_iconst (v := 1) (pc' := 44) dX12_lastsBy_43 rfl ic_1 ?_
      refine aw_istore (lv' := [_, _, _, _, _, _, _, _]) (pc' := 46) dX12_lastsBy_44 rfl (Nat.le_of_ble_eq_true rfl) rfl ?_
      refine aw_iconst (v := 0) (pc' := 47) dX12_lastsBy_46 rfl ic_0 ?_
      refine aw_istore (lv' := [_, _, _, _, _, _, _, _]) (pc' := 49) dX12_lastsBy_47 rfl (Nat.le_of_ble_eq_true rfl) rfl ?_
      refine t_X12_lastsBy_L49 (mb.tr ms) (fun s28 h28 x28_3 x28_5 H28 m28 hf => ?_) 4000 _ _ _ _ _ H (Mo.rf _) hf
      refine aw_iload (pc' := 148) dX12_lastsBy_146 rfl rfl ?_
      refine aw_if_ne (tgt := 156) (pc' := 151) dX12_lastsBy_148 rfl rfl (fun c29 => ?_) (fun c29 => ?_)
      · replace hf := ifn c29 hf
        obtain ⟨v30, ev30, hf⟩ := vl_e hf
        refine aw_iincV (y := v30) (lv' := [_, _, _, _, _, _, _, _]) (pc' := 159) dX12_lastsBy_156 rfl rfl (Nat.le_of_ble_eq_true rfl) ev30 rfl ?_
        refine aw_goto (tgt := 36) dX12_lastsBy_159 rfl ?_
        refine AW.lv_le (lz_k (lz_k (lz_k (lz_k (lz_k (lz_d (lz_d (lz_d lz_0)))))))) ?_
        exact ih _ _ _ _ H28 (ms.tr m28) hf
      · replace hf := ifp c29 hf
        refine aw_iload (pc' := 153) dX12_lastsBy_151 rfl rfl ?_
        refine aw_iconst (v := 1) (pc' := 154) dX12_lastsBy_153 rfl ic_1 ?_
        refine aw_isub (pc' := 155) dX12_lastsBy_154 rfl ?_
        obtain ⟨rfl, rfl⟩ := so2 hf
        exact aw_ri dX12_lastsBy_155 rfl rfl (Nat.le_of_ble_eq_true rfl) (Nat.le_of_ble_eq_true rfl) ⟨rfl, H28, ((mb.tr ms).tr m28)⟩
noncomputable def f_X12_lastsBy (s0 : SS) (a0 : Int32) (a1 : Int32) : Option (Int32 × SS) := (f_X12_lastsBy_L2 (fun (s7 : SS)  => (vl ((zS s7 59 54)) fun v8 => (f_X12_lastsBy_L36 a0 a1 4000 s7 v8 1))) a0 a1 4000 s0 0)
set_option maxRecDepth 4000 in
theorem t_X12_lastsBy {r9 : Int32} {s0 s9 : SS} {h0 : List aE} {a0 : Int32} {a1 : Int32} (H0 : HH s0 h0) (hf : f_X12_lastsBy s0 a0 a1 = some (r9, s9)) : AM mX12_lastsBy (1) [.ref 67, .int a0, .int a1] h0 0 0 (PI fun r' h' => r9 = r' ∧ HH s9 h' ∧ Mo s0 s9) := by
  unfold f_X12_lastsBy at hf
  refine am_of (lv := [some (.ref 67), some (.int a0), some (.int a1), none, none, none, none, none]) rfl (Nat.le_of_ble_eq_true rfl) rfl ?_
  refine aw_iconst (v := 0) (pc' := 1) dX12_lastsBy_0 rfl ic_0 ?_
  refine aw_istore_n (lv' := [_, _, _, _, _, _, _, _]) (pc' := 2) dX12_lastsBy_1 rfl (Nat.le_of_ble_eq_true rfl) rfl ?_
  refine t_X12_lastsBy_L2 (Mo.rf _) (fun s7 h7 H7 m7 hf => ?_) 4000 _ _ _ H0 (Mo.rf _) hf
  refine aw_aload_n (pc' := 29) dX12_lastsBy_28 rfl rfl rfl ?_
  refine aw_gi (q := 59) (pc' := 32) H7 (H7.fo rfl rfl) (l13 rfl) rfl dX12_lastsBy_29 rfl fl_RX12_397 ?_
  obtain ⟨v8, ev8, hf⟩ := vl_e hf
  refine aw_topi ev8 ?_
  refine aw_istore_n (lv' := [_, _, _, _, _, _, _, _]) (pc' := 33) dX12_lastsBy_32 rfl (Nat.le_of_ble_eq_true rfl) rfl ?_
  refine aw_iconst (v := 1) (pc' := 34) dX12_lastsBy_33 rfl ic_1 ?_
  refine aw_istore (lv' := [_, _, _, _, _, _, _, _]) (pc' := 36) dX12_lastsBy_34 rfl (Nat.le_of_ble_eq_true rfl) rfl ?_
  refine t_X12_lastsBy_L36 m7  4000 _ _ _ _ H7 (Mo.rf _) hf
/-! ThirtyThreeBelowModel.last -/
noncomputable def f_X12_last (s0 : SS) (a0 : Int32) (a1 : Int32) : Option (Int32 × SS) := (b1 (f_X12_in a0 (0 : Int32) (999 : Int32)) fun r1 => (if r1 = (0 : Int32) then some ((-1), s0) else (b1 (f_X12_in a1 (0 : Int32) (9 : Int32)) fun r3 => (if r3 = (0 : Int32) then some ((-1), s0) else (b1 (f_X12_menBelow s0) fun r5 => (if r5 = (0 : Int32) then some ((-2), s0) else (bd (f_X12_lastsBy s0 a0 a1) fun r7 s7 => some (r7, s7))))))))
set_option maxRecDepth 4000 in
theorem t_X12_last {r9 : Int32} {s0 s9 : SS} {h0 : List aE} {a0 : Int32} {a1 : Int32} (H0 : HH s0 h0) (hf : f_X12_last s0 a0 a1 = some (r9, s9)) : AM mX12_last (2) [.ref 67, .int a0, .int a1] h0 0 0 (PI fun r' h' => r9 = r' ∧ HH s9 h' ∧ Mo s0 s9) := by
  unfold f_X12_last at hf
  refine am_of (lv := [some (.ref 67), some (.int a0), some (.int a1)]) rfl (Nat.le_of_ble_eq_true rfl) rfl ?_
  refine aw_iload_n (pc' := 1) dX12_last_0 rfl rfl ?_
  refine aw_iconst (v := 0) (pc' := 2) dX12_last_1 rfl ic_0 ?_
  refine aw_sipush (v := 999) (pc' := 5) dX12_last_2 rfl sp_999 ?_
  obtain ⟨r1, ec1, hf⟩ := b1_e hf
  refine aw_callSi (M' := mX12_in) (nc' := 0) (ns' := 0) (pc' := 8) dX12_last_5 rfl ml_RX12_230 kX12_in (t_X12_in ec1) rfl rfl (Nat.le_of_ble_eq_true rfl) (rokD (by omega) (Nat.le_of_ble_eq_true rfl) (Nat.le_of_ble_eq_true rfl) (Nat.le_of_ble_eq_true rfl)) rfl rfl (fun _ h1 q1 => ?_)
  obtain ⟨rfl, rfl, zb1⟩ := q1
  refine aw_if_eq (tgt := 21) (pc' := 11) dX12_last_8 rfl rfl (fun c2 => ?_) (fun c2 => ?_)
  · replace hf := ifp c2 hf
    refine aw_iconst (v := (-1)) (pc' := 22) dX12_last_21 rfl ic_m1 ?_
    obtain ⟨rfl, rfl⟩ := so2 hf
    exact aw_ri dX12_last_22 rfl rfl (Nat.le_of_ble_eq_true rfl) (Nat.le_of_ble_eq_true rfl) ⟨rfl, H0, (Mo.rf _)⟩
  · replace hf := ifn c2 hf
    refine aw_iload_n (pc' := 12) dX12_last_11 rfl rfl ?_
    refine aw_iconst (v := 0) (pc' := 13) dX12_last_12 rfl ic_0 ?_
    refine aw_bipush (v := 9) (pc' := 15) dX12_last_13 rfl bp_9 ?_
    obtain ⟨r3, ec3, hf⟩ := b1_e hf
    refine aw_callSi (M' := mX12_in) (nc' := 0) (ns' := 0) (pc' := 18) dX12_last_15 rfl ml_RX12_230 kX12_in (t_X12_in ec3) rfl rfl (Nat.le_of_ble_eq_true rfl) (rokD (by omega) (Nat.le_of_ble_eq_true rfl) (Nat.le_of_ble_eq_true rfl) (Nat.le_of_ble_eq_true rfl)) rfl rfl (fun _ h3 q3 => ?_)
    obtain ⟨rfl, rfl, zb3⟩ := q3
    refine aw_if_ne (tgt := 23) (pc' := 21) dX12_last_18 rfl rfl (fun c4 => ?_) (fun c4 => ?_)
    · replace hf := ifn c4 hf
      refine aw_aload_n (pc' := 24) dX12_last_23 rfl rfl rfl ?_
      obtain ⟨r5, ec5, hf⟩ := b1_e hf
      refine aw_callVi (M' := mX12_menBelow) (nc' := 0) (ns' := 0) (pc' := 27) dX12_last_24 rfl ml_RX12_394 kX12_menBelow (t_X12_menBelow H0 ec5) (H0.ob (H0.fo rfl rfl) (by decide)) rfl rfl rfl (Nat.le_of_ble_eq_true rfl) (rokD (by omega) (Nat.le_of_ble_eq_true rfl) (Nat.le_of_ble_eq_true rfl) (Nat.le_of_ble_eq_true rfl)) rfl rfl (fun _ h5 q5 => ?_)
      obtain ⟨rfl, rfl⟩ := q5
      refine aw_if_ne (tgt := 35) (pc' := 30) dX12_last_27 rfl rfl (fun c6 => ?_) (fun c6 => ?_)
      · replace hf := ifn c6 hf
        refine aw_aload_n (pc' := 36) dX12_last_35 rfl rfl rfl ?_
        refine aw_iload_n (pc' := 37) dX12_last_36 rfl rfl ?_
        refine aw_iload_n (pc' := 38) dX12_last_37 rfl rfl ?_
        obtain ⟨r7, s7, ec7, hf⟩ := bd_e hf
        refine aw_callVi (M' := mX12_lastsBy) (nc' := 0) (ns' := 0) (pc' := 41) dX12_last_38 rfl ml_RX12_424 kX12_lastsBy (t_X12_lastsBy H0 ec7) (H0.ob (H0.fo rfl rfl) (by decide)) rfl rfl rfl (Nat.le_of_ble_eq_true rfl) (rokD (by omega) (Nat.le_of_ble_eq_true rfl) (Nat.le_of_ble_eq_true rfl) (Nat.le_of_ble_eq_true rfl)) rfl rfl (fun _ h7 q7 => ?_)
        obtain ⟨rfl, H7, m7⟩ := q7
        obtain ⟨rfl, rfl⟩ := so2 hf
        exact aw_ri dX12_last_41 rfl rfl (Nat.le_of_ble_eq_true rfl) (Nat.le_of_ble_eq_true rfl) ⟨rfl, H7, m7⟩
      · replace hf := ifp c6 hf
        refine aw_bipush (v := (-2)) (pc' := 32) dX12_last_30 rfl bp_m2 ?_
        refine aw_goto (tgt := 41) dX12_last_32 rfl ?_
        obtain ⟨rfl, rfl⟩ := so2 hf
        exact aw_ri dX12_last_41 rfl rfl (Nat.le_of_ble_eq_true rfl) (Nat.le_of_ble_eq_true rfl) ⟨rfl, H0, (Mo.rf _)⟩
    · replace hf := ifp c4 hf
      refine aw_iconst (v := (-1)) (pc' := 22) dX12_last_21 rfl ic_m1 ?_
      obtain ⟨rfl, rfl⟩ := so2 hf
      exact aw_ri dX12_last_22 rfl rfl (Nat.le_of_ble_eq_true rfl) (Nat.le_of_ble_eq_true rfl) ⟨rfl, H0, (Mo.rf _)⟩
/-! ThirtyThreeBelowModel.best -/
noncomputable def f_X12_best_L27_b (y1 : Int32) (rc : SS → Int32 → Int32 → Option (Int32 × SS)) (s : SS) (x2 : Int32) (x3 : Int32) : Option (Int32 × SS) := (if x3 < (10 : Int32) then (bd (f_X12_lastsBy s y1 x3) fun r6 s6 => (bd (f_X12_lastsBy s6 y1 x2) fun r7 s7 => (jn (fun (j8_2 : Int32) => (vl (x3 + 1) fun v10 => (rc s7 j8_2 v10))) fun k8 => (if r7 < r6 then (k8 x3) else (k8 x2))))) else some (x2, s))
noncomputable def f_X12_best_L27 (y1 : Int32) : Nat → SS → Int32 → Int32 → Option (Int32 × SS)
  | 0, _, _, _ => none
  | n + 1, s, x2, x3 => f_X12_best_L27_b y1 (f_X12_best_L27 y1 n) s x2 x3
set_option maxRecDepth 4000 in
theorem t_X12_best_L27 {r9 : Int32} {s0 sb s9 : SS} {y1 : Int32} (mb : Mo s0 sb)  : ∀ (n : Nat) (s : SS) (h : List aE) (x2 : Int32) (x3 : Int32), HH s h → Mo sb s → f_X12_best_L27 y1 n s x2 x3 = some (r9, s9) → AW mX12_best (rmD (2) 0 0) (fin (PI fun r' h' => r9 = r' ∧ HH s9 h' ∧ Mo s0 s9) 0 0) 27 [some (.ref 67), some (.int y1), some (.int x2), some (.int x3)] [] h 0 0 := by
  intro n
  induction n with
  | zero =>
    intro s h x2 x3 H ms hf
    cases hf
  | succ n ih =>
    intro s h x2 x3 H ms hf
    replace hf : f_X12_best_L27_b y1 (f_X12_best_L27 y1 n) s x2 x3 = some (r9, s9) := hf
    unfold f_X12_best_L27_b at hf
    refine aw_iload_n (pc' := 28) dX12_best_27 rfl rfl ?_
    refine aw_bipush (v := 10) (pc' := 30) dX12_best_28 rfl bp_10 ?_
    refine aw_cge (tgt := 56) (pc' := 33) dX12_best_30 rfl rfl (fun c5 => ?_) (fun c5 => ?_)
    · replace hf := ifn c5 hf
      refine aw_iload_n (pc' := 57) dX12_best_56 rfl rfl ?_
      obtain ⟨rfl, rfl⟩ := so2 hf
      exact aw_ri dX12_best_57 rfl rfl (Nat.le_of_ble_eq_true rfl) (Nat.le_of_ble_eq_true rfl) ⟨rfl, H, (mb.tr ms)⟩
    · replace hf := ifp c5 hf
      refine aw_aload_n (pc' := 34) dX12_best_33 rfl rfl rfl ?_
      refine aw_iload_n (pc' := 35) dX12_best_34 rfl rfl ?_
      refine aw_iload_n (pc' := 36) dX12_best_35 rfl rfl ?_
      obtain ⟨r6, s6, ec6, hf⟩ := bd_e hf
      refine aw_callVi (M' := mX12_lastsBy) (nc' := 0) (ns' := 0) (pc' := 39) dX12_best_36 rfl ml_RX12_424 kX12_lastsBy (t_X12_lastsBy H ec6) (H.ob (H.fo rfl rfl) (by decide)) rfl rfl rfl (Nat.le_of_ble_eq_true rfl) (rokD (by omega) (Nat.le_of_ble_eq_true rfl) (Nat.le_of_ble_eq_true rfl) (Nat.le_of_ble_eq_true rfl)) rfl rfl (fun _ h6 q6 => ?_)
      obtain ⟨rfl, H6, m6⟩ := q6
      refine aw_aload_n (pc' := 40) dX12_best_39 rfl rfl rfl ?_
      refine aw_iload_n (pc' := 41) dX12_best_40 rfl rfl ?_
      refine aw_iload_n (pc' := 42) dX12_best_41 rfl rfl ?_
      obtain ⟨r7, s7, ec7, hf⟩ := bd_e hf
      refine aw_callVi (M' := mX12_lastsBy) (nc' := 0) (ns' := 0) (pc' := 45) dX12_best_42 rfl ml_RX12_424 kX12_lastsBy (t_X12_lastsBy H6 ec7) (H6.ob (H6.fo rfl rfl) (by decide)) rfl rfl rfl (Nat.le_of_ble_eq_true rfl) (rokD (by omega) (Nat.le_of_ble_eq_true rfl) (Nat.le_of_ble_eq_true rfl) (Nat.le_of_ble_eq_true rfl)) rfl rfl (fun _ h7 q7 => ?_)
      obtain ⟨rfl, H7, m7⟩ := q7
      obtain ⟨k8, ek8, hf⟩ := jn_e hf
      have hk8 : ∀ (j8_2 : Int32), k8 j8_2 = some (r9, s9) → AW mX12_best (rmD (2) 0 0) (fin (PI fun r' h' => r9 = r' ∧ HH s9 h' ∧ Mo s0 s9) 0 0) 50 [some (.ref 67), some (.int y1), some (.int j8_2), some (.int x3)] [] h7 0 0 := by
        intro j8_2 hf
        subst ek8
        obtain ⟨v10, ev10, hf⟩ := vl_e hf
        refine aw_iincV (y := v10) (lv' := [_, _, _, _]) (pc' := 53) dX12_best_50 rfl rfl (Nat.le_of_ble_eq_true rfl) ev10 rfl ?_
        refine aw_goto (tgt := 27) dX12_best_53 rfl ?_
        exact ih _ _ _ _ H7 ((ms.tr m6).tr m7) hf
      clear ek8
      refine aw_cle (tgt := 50) (pc' := 48) dX12_best_45 rfl rfl (fun c11 => ?_) (fun c11 => ?_)
      · replace hf := ifn c11 hf
        exact hk8 _ hf
      · replace hf := ifp c11 hf
        refine aw_iload_n (pc' := 49) dX12_best_48 rfl rfl ?_
        refine aw_istore_n (lv' := [_, _, _, _]) (pc' := 50) dX12_best_49 rfl (Nat.le_of_ble_eq_true rfl) rfl ?_
        exact hk8 _ hf
noncomputable def f_X12_best (s0 : SS) (a0 : Int32) : Option (Int32 × SS) := (b1 (f_X12_in a0 (0 : Int32) (999 : Int32)) fun r1 => (if r1 = (0 : Int32) then some ((-1), s0) else (b1 (f_X12_menBelow s0) fun r3 => (if r3 = (0 : Int32) then some ((-2), s0) else (f_X12_best_L27 a0 4000 s0 0 1)))))
set_option maxRecDepth 4000 in
theorem t_X12_best {r9 : Int32} {s0 s9 : SS} {h0 : List aE} {a0 : Int32} (H0 : HH s0 h0) (hf : f_X12_best s0 a0 = some (r9, s9)) : AM mX12_best (2) [.ref 67, .int a0] h0 0 0 (PI fun r' h' => r9 = r' ∧ HH s9 h' ∧ Mo s0 s9) := by
  unfold f_X12_best at hf
  refine am_of (lv := [some (.ref 67), some (.int a0), none, none]) rfl (Nat.le_of_ble_eq_true rfl) rfl ?_
  refine aw_iload_n (pc' := 1) dX12_best_0 rfl rfl ?_
  refine aw_iconst (v := 0) (pc' := 2) dX12_best_1 rfl ic_0 ?_
  refine aw_sipush (v := 999) (pc' := 5) dX12_best_2 rfl sp_999 ?_
  obtain ⟨r1, ec1, hf⟩ := b1_e hf
  refine aw_callSi (M' := mX12_in) (nc' := 0) (ns' := 0) (pc' := 8) dX12_best_5 rfl ml_RX12_230 kX12_in (t_X12_in ec1) rfl rfl (Nat.le_of_ble_eq_true rfl) (rokD (by omega) (Nat.le_of_ble_eq_true rfl) (Nat.le_of_ble_eq_true rfl) (Nat.le_of_ble_eq_true rfl)) rfl rfl (fun _ h1 q1 => ?_)
  obtain ⟨rfl, rfl, zb1⟩ := q1
  refine aw_if_ne (tgt := 13) (pc' := 11) dX12_best_8 rfl rfl (fun c2 => ?_) (fun c2 => ?_)
  · replace hf := ifn c2 hf
    refine aw_aload_n (pc' := 14) dX12_best_13 rfl rfl rfl ?_
    obtain ⟨r3, ec3, hf⟩ := b1_e hf
    refine aw_callVi (M' := mX12_menBelow) (nc' := 0) (ns' := 0) (pc' := 17) dX12_best_14 rfl ml_RX12_394 kX12_menBelow (t_X12_menBelow H0 ec3) (H0.ob (H0.fo rfl rfl) (by decide)) rfl rfl rfl (Nat.le_of_ble_eq_true rfl) (rokD (by omega) (Nat.le_of_ble_eq_true rfl) (Nat.le_of_ble_eq_true rfl) (Nat.le_of_ble_eq_true rfl)) rfl rfl (fun _ h3 q3 => ?_)
    obtain ⟨rfl, rfl⟩ := q3
    refine aw_if_ne (tgt := 23) (pc' := 20) dX12_best_17 rfl rfl (fun c4 => ?_) (fun c4 => ?_)
    · replace hf := ifn c4 hf
      refine aw_iconst (v := 0) (pc' := 24) dX12_best_23 rfl ic_0 ?_
      refine aw_istore_n (lv' := [_, _, _, _]) (pc' := 25) dX12_best_24 rfl (Nat.le_of_ble_eq_true rfl) rfl ?_
      refine aw_iconst (v := 1) (pc' := 26) dX12_best_25 rfl ic_1 ?_
      refine aw_istore_n (lv' := [_, _, _, _]) (pc' := 27) dX12_best_26 rfl (Nat.le_of_ble_eq_true rfl) rfl ?_
      refine t_X12_best_L27 (Mo.rf _)  4000 _ _ _ _ H0 (Mo.rf _) hf
    · replace hf := ifp c4 hf
      refine aw_bipush (v := (-2)) (pc' := 22) dX12_best_20 rfl bp_m2 ?_
      obtain ⟨rfl, rfl⟩ := so2 hf
      exact aw_ri dX12_best_22 rfl rfl (Nat.le_of_ble_eq_true rfl) (Nat.le_of_ble_eq_true rfl) ⟨rfl, H0, (Mo.rf _)⟩
  · replace hf := ifp c2 hf
    refine aw_iconst (v := (-1)) (pc' := 12) dX12_best_11 rfl ic_m1 ?_
    obtain ⟨rfl, rfl⟩ := so2 hf
    exact aw_ri dX12_best_12 rfl rfl (Nat.le_of_ble_eq_true rfl) (Nat.le_of_ble_eq_true rfl) ⟨rfl, H0, (Mo.rf _)⟩
/-! ThirtyThreeBelowModel.down -/
noncomputable def f_X12_down (s0 : SS) (a0 : Int32) (a1 : Int32) (a2 : Int32) : Option (Int32 × SS) := (b1 (f_X12_isBody s0 a0) fun r1 => (if r1 = (0 : Int32) then some ((-1), s0) else (gd (inB a0 120) (if (zI s0 62 (a0.toInt.toNat)) = (3 : Int32) then (b1 (f_X12_in a2 (1 : Int32) (9 : Int32)) fun r5 => (if r5 = (0 : Int32) then some ((-1), s0) else (jn (fun (t7_0 : Int32) => (jn ((gd (inB a0 120) (if (zI s0 69 (a0.toInt.toNat)) = (0 : Int32) then some ((-2), s0) else (if (zS s0 59 62) = (40 : Int32) then some ((-3), s0) else (gd (inB a0 120) (jn (fun (t14_0 : Int32) => (vl ((t14_0 + a2)) fun v15 => (gd (inB a0 120) (st (pI s0 104 (a0.toInt.toNat) v15) fun s17 => (vl ((zS s17 59 62)) fun v18 => (gd (inB v18 40) (st (pI s17 102 (v18.toInt.toNat) a1) fun s20 => (vl ((t14_0 + a2)) fun v21 => (vl ((zS s20 59 62)) fun v22 => (gd (inB v22 40) (st (pI s20 103 (v22.toInt.toNat) v21) fun s24 => (vl (((zS s24 59 62) + (1 : Int32))) fun v25 => (st (pS s24 59 62 v25) fun s26 => some ((t14_0 + a2), s26)))))))))))))) fun k14 => (if (zS s0 59 1) < (zI s0 104 (a0.toInt.toNat)) then (gd (inB a0 120) (k14 (zI s0 104 (a0.toInt.toNat)))) else (k14 (zS s0 59 1))))))))) fun k8 => (if t7_0 = (0 : Int32) then (b1 (f_X12_in a1 (11 : Int32) (19 : Int32)) fun r30 => (if r30 = (0 : Int32) then some ((-1), s0) else k8)) else k8))) fun k7 => (jn ((k7 0)) fun k32 => (if (0 : Int32) < a1 then (if (a1 % (10 : Int32)) = (0 : Int32) then (if (999 : Int32) < (a1 / (10 : Int32)) then k32 else (k7 1)) else k32) else k32))))) else some ((-1), s0)))))
set_option maxRecDepth 4000 in
theorem t_X12_down {r9 : Int32} {s0 s9 : SS} {h0 : List aE} {a0 : Int32} {a1 : Int32} {a2 : Int32} (H0 : HH s0 h0) (hf : f_X12_down s0 a0 a1 a2 = some (r9, s9)) : AM mX12_down (2) [.ref 67, .int a0, .int a1, .int a2] h0 0 0 (PI fun r' h' => r9 = r' ∧ HH s9 h' ∧ Mo s0 s9) := by
  unfold f_X12_down at hf
  refine am_of (lv := [some (.ref 67), some (.int a0), some (.int a1), some (.int a2), none, none]) rfl (Nat.le_of_ble_eq_true rfl) rfl ?_
  refine aw_aload_n (pc' := 1) dX12_down_0 rfl rfl rfl ?_
  refine aw_iload_n (pc' := 2) dX12_down_1 rfl rfl ?_
  obtain ⟨r1, ec1, hf⟩ := b1_e hf
  refine aw_callVi (M' := mX12_isBody) (nc' := 0) (ns' := 0) (pc' := 5) dX12_down_2 rfl ml_RX12_245 kX12_isBody (t_X12_isBody H0 ec1) (H0.ob (H0.fo rfl rfl) (by decide)) rfl rfl rfl (Nat.le_of_ble_eq_true rfl) (rokD (by omega) (Nat.le_of_ble_eq_true rfl) (Nat.le_of_ble_eq_true rfl) (Nat.le_of_ble_eq_true rfl)) rfl rfl (fun _ h1 q1 => ?_)
  obtain ⟨rfl, rfl, zb1⟩ := q1
  refine aw_if_eq (tgt := 28) (pc' := 8) dX12_down_5 rfl rfl (fun c2 => ?_) (fun c2 => ?_)
  · replace hf := ifp c2 hf
    refine aw_iconst (v := (-1)) (pc' := 29) dX12_down_28 rfl ic_m1 ?_
    obtain ⟨rfl, rfl⟩ := so2 hf
    exact aw_ri dX12_down_29 rfl rfl (Nat.le_of_ble_eq_true rfl) (Nat.le_of_ble_eq_true rfl) ⟨rfl, H0, (Mo.rf _)⟩
  · replace hf := ifn c2 hf
    refine aw_aload_n (pc' := 9) dX12_down_8 rfl rfl rfl ?_
    refine aw_gr (q := 59) (e := 7) (v := .ref 70) (pc' := 12) H0 (H0.fo rfl rfl) (l13 rfl) rfl rfl dX12_down_9 rfl fl_RX12_17 ?_
    refine aw_iload_n (pc' := 13) dX12_down_12 rfl rfl ?_
    obtain ⟨g3, hf⟩ := gd_e hf
    refine aw_ia (q := 62) (pc' := 14) H0 (H0.fa rfl rfl rfl) g3 dX12_down_13 rfl ?_
    refine aw_iconst (v := 3) (pc' := 15) dX12_down_14 rfl ic_3 ?_
    refine aw_icmp_ne (tgt := 28) (pc' := 18) dX12_down_15 rfl rfl (fun c4 => ?_) (fun c4 => ?_)
    · replace hf := ifn c4 hf
      refine aw_iconst (v := (-1)) (pc' := 29) dX12_down_28 rfl ic_m1 ?_
      obtain ⟨rfl, rfl⟩ := so2 hf
      exact aw_ri dX12_down_29 rfl rfl (Nat.le_of_ble_eq_true rfl) (Nat.le_of_ble_eq_true rfl) ⟨rfl, H0, (Mo.rf _)⟩
    · replace hf := ifp c4 hf
      refine aw_iload_n (pc' := 19) dX12_down_18 rfl rfl ?_
      refine aw_iconst (v := 1) (pc' := 20) dX12_down_19 rfl ic_1 ?_
      refine aw_bipush (v := 9) (pc' := 22) dX12_down_20 rfl bp_9 ?_
      obtain ⟨r5, ec5, hf⟩ := b1_e hf
      refine aw_callSi (M' := mX12_in) (nc' := 0) (ns' := 0) (pc' := 25) dX12_down_22 rfl ml_RX12_230 kX12_in (t_X12_in ec5) rfl rfl (Nat.le_of_ble_eq_true rfl) (rokD (by omega) (Nat.le_of_ble_eq_true rfl) (Nat.le_of_ble_eq_true rfl) (Nat.le_of_ble_eq_true rfl)) rfl rfl (fun _ h5 q5 => ?_)
      obtain ⟨rfl, rfl, zb5⟩ := q5
      refine aw_if_ne (tgt := 30) (pc' := 28) dX12_down_25 rfl rfl (fun c6 => ?_) (fun c6 => ?_)
      · replace hf := ifn c6 hf
        refine aw_iload_n (pc' := 31) dX12_down_30 rfl rfl ?_
        obtain ⟨k7, ek7, hf⟩ := jn_e hf
        have hk7 : ∀ (t7_0 : Int32), k7 t7_0 = some (r9, s9) → AW mX12_down (rmD (2) 0 0) (fin (PI fun r' h' => r9 = r' ∧ HH s9 h' ∧ Mo s0 s9) 0 0) 56 [some (.ref 67), some (.int a0), some (.int a1), some (.int a2), none, none] [.int t7_0] h0 0 0 := by
          intro t7_0 hf
          subst ek7
          refine aw_istore (lv' := [_, _, _, _, _, _]) (pc' := 58) dX12_down_56 rfl (Nat.le_of_ble_eq_true rfl) rfl ?_
          refine aw_iload (pc' := 60) dX12_down_58 rfl rfl ?_
          obtain ⟨k8, ek8, hf⟩ := jn_e hf
          have hk8 : k8 = some (r9, s9) → AW mX12_down (rmD (2) 0 0) (fin (PI fun r' h' => r9 = r' ∧ HH s9 h' ∧ Mo s0 s9) 0 0) 76 [some (.ref 67), some (.int a0), some (.int a1), some (.int a2), none, none] [] h0 0 0 := by
            intro hf
            subst ek8
            refine aw_aload_n (pc' := 77) dX12_down_76 rfl rfl rfl ?_
            refine aw_gr (q := 59) (e := 21) (v := .ref 77) (pc' := 80) H0 (H0.fo rfl rfl) (l13 rfl) rfl rfl dX12_down_77 rfl fl_RX12_38 ?_
            refine aw_iload_n (pc' := 81) dX12_down_80 rfl rfl ?_
            obtain ⟨g10, hf⟩ := gd_e hf
            refine aw_ia (q := 69) (pc' := 82) H0 (H0.fa rfl rfl rfl) g10 dX12_down_81 rfl ?_
            refine aw_if_ne (tgt := 88) (pc' := 85) dX12_down_82 rfl rfl (fun c11 => ?_) (fun c11 => ?_)
            · replace hf := ifn c11 hf
              refine aw_aload_n (pc' := 89) dX12_down_88 rfl rfl rfl ?_
              refine aw_gi (q := 59) (pc' := 92) H0 (H0.fo rfl rfl) (l13 rfl) rfl dX12_down_89 rfl fl_RX12_428 ?_
              refine aw_bipush (v := 40) (pc' := 94) dX12_down_92 rfl bp_40 ?_
              refine aw_icmp_ne (tgt := 100) (pc' := 97) dX12_down_94 rfl rfl (fun c12 => ?_) (fun c12 => ?_)
              · replace hf := ifn c12 hf
                refine aw_aload_n (pc' := 101) dX12_down_100 rfl rfl rfl ?_
                refine aw_gr (q := 59) (e := 91) (v := .ref 112) (pc' := 104) H0 (H0.fo rfl rfl) (l13 rfl) rfl rfl dX12_down_101 rfl fl_RX12_151 ?_
                refine aw_iload_n (pc' := 105) dX12_down_104 rfl rfl ?_
                obtain ⟨g13, hf⟩ := gd_e hf
                refine aw_ia (q := 104) (pc' := 106) H0 (H0.fa rfl rfl rfl) g13 dX12_down_105 rfl ?_
                refine aw_aload_n (pc' := 107) dX12_down_106 rfl rfl rfl ?_
                refine aw_gi (q := 59) (pc' := 110) H0 (H0.fo rfl rfl) (l13 rfl) rfl dX12_down_107 rfl fl_RX12_281 ?_
                obtain ⟨k14, ek14, hf⟩ := jn_e hf
                have hk14 : ∀ (t14_0 : Int32), k14 t14_0 = some (r9, s9) → AW mX12_down (rmD (2) 0 0) (fin (PI fun r' h' => r9 = r' ∧ HH s9 h' ∧ Mo s0 s9) 0 0) 126 [some (.ref 67), some (.int a0), some (.int a1), some (.int a2), none, none] [.int t14_0] h0 0 0 := by
                  intro t14_0 hf
                  subst ek14
                  refine aw_istore (lv' := [_, _, _, _, _, _]) (pc' := 128) dX12_down_126 rfl (Nat.le_of_ble_eq_true rfl) rfl ?_
                  refine aw_aload_n (pc' := 129) dX12_down_128 rfl rfl rfl ?_
                  refine aw_gr (q := 59) (e := 91) (v := .ref 112) (pc' := 132) H0 (H0.fo rfl rfl) (l13 rfl) rfl rfl dX12_down_129 rfl fl_RX12_151 ?_
                  refine aw_iload_n (pc' := 133) dX12_down_132 rfl rfl ?_
                  refine aw_iload (pc' := 135) dX12_down_133 rfl rfl ?_
                  refine aw_iload_n (pc' := 136) dX12_down_135 rfl rfl ?_
                  refine aw_iadd (pc' := 137) dX12_down_136 rfl ?_
                  obtain ⟨v15, ev15, hf⟩ := vl_e hf
                  refine aw_topi ev15 ?_
                  obtain ⟨g16, hf⟩ := gd_e hf
                  obtain ⟨s17, es17, hf⟩ := st_e hf
                  refine aw_is (q := 104) (pc' := 138) es17 H0 (H0.fa rfl rfl rfl) g16 dX12_down_137 rfl (fun h17 H17 => ?_)
                  have m17 := Mo.ofI es17
                  refine aw_aload_n (pc' := 139) dX12_down_138 rfl rfl rfl ?_
                  refine aw_gr (q := 59) (e := 87) (v := .ref 110) (pc' := 142) H17 (H17.fo rfl rfl) (l13 rfl) rfl rfl dX12_down_139 rfl fl_RX12_145 ?_
                  refine aw_aload_n (pc' := 143) dX12_down_142 rfl rfl rfl ?_
                  refine aw_gi (q := 59) (pc' := 146) H17 (H17.fo rfl rfl) (l13 rfl) rfl dX12_down_143 rfl fl_RX12_428 ?_
                  refine aw_iload_n (pc' := 147) dX12_down_146 rfl rfl ?_
                  obtain ⟨v18, ev18, hf⟩ := vl_e hf
                  refine aw_sndi ev18 ?_
                  obtain ⟨g19, hf⟩ := gd_e hf
                  obtain ⟨s20, es20, hf⟩ := st_e hf
                  refine aw_is (q := 102) (pc' := 148) es20 H17 (H17.fa rfl rfl rfl) g19 dX12_down_147 rfl (fun h20 H20 => ?_)
                  have m20 := Mo.ofI es20
                  refine aw_aload_n (pc' := 149) dX12_down_148 rfl rfl rfl ?_
                  refine aw_gr (q := 59) (e := 89) (v := .ref 111) (pc' := 152) H20 (H20.fo rfl rfl) (l13 rfl) rfl rfl dX12_down_149 rfl fl_RX12_148 ?_
                  refine aw_aload_n (pc' := 153) dX12_down_152 rfl rfl rfl ?_
                  refine aw_gi (q := 59) (pc' := 156) H20 (H20.fo rfl rfl) (l13 rfl) rfl dX12_down_153 rfl fl_RX12_428 ?_
                  refine aw_iload (pc' := 158) dX12_down_156 rfl rfl ?_
                  refine aw_iload_n (pc' := 159) dX12_down_158 rfl rfl ?_
                  refine aw_iadd (pc' := 160) dX12_down_159 rfl ?_
                  obtain ⟨v21, ev21, hf⟩ := vl_e hf
                  refine aw_topi ev21 ?_
                  obtain ⟨v22, ev22, hf⟩ := vl_e hf
                  refine aw_sndi ev22 ?_
                  obtain ⟨g23, hf⟩ := gd_e hf
                  obtain ⟨s24, es24, hf⟩ := st_e hf
                  refine aw_is (q := 103) (pc' := 161) es24 H20 (H20.fa rfl rfl rfl) g23 dX12_down_160 rfl (fun h24 H24 => ?_)
                  have m24 := Mo.ofI es24
                  refine aw_aload_n (pc' := 162) dX12_down_161 rfl rfl rfl ?_
                  refine aw_dup (pc' := 163) dX12_down_162 rfl rfl ?_
                  refine aw_gi (q := 59) (pc' := 166) H24 (H24.fo rfl rfl) (l13 rfl) rfl dX12_down_163 rfl fl_RX12_428 ?_
                  refine aw_iconst (v := 1) (pc' := 167) dX12_down_166 rfl ic_1 ?_
                  refine aw_iadd (pc' := 168) dX12_down_167 rfl ?_
                  obtain ⟨v25, ev25, hf⟩ := vl_e hf
                  refine aw_topi ev25 ?_
                  obtain ⟨s26, es26, hf⟩ := st_e hf
                  refine aw_pi (q := 59) (pc' := 171) es26 H24 (H24.fo rfl rfl) (by decide) rfl dX12_down_168 rfl fl_RX12_428 rfl (fun h26 H26 => ?_)
                  have m26 := Mo.ofS es26
                  refine aw_iload (pc' := 173) dX12_down_171 rfl rfl ?_
                  refine aw_iload_n (pc' := 174) dX12_down_173 rfl rfl ?_
                  refine aw_iadd (pc' := 175) dX12_down_174 rfl ?_
                  obtain ⟨rfl, rfl⟩ := so2 hf
                  exact aw_ri dX12_down_175 rfl rfl (Nat.le_of_ble_eq_true rfl) (Nat.le_of_ble_eq_true rfl) ⟨rfl, H26, (((m17.tr m20).tr m24).tr m26)⟩
                clear ek14
                refine aw_cle (tgt := 122) (pc' := 113) dX12_down_110 rfl rfl (fun c27 => ?_) (fun c27 => ?_)
                · replace hf := ifn c27 hf
                  refine aw_aload_n (pc' := 123) dX12_down_122 rfl rfl rfl ?_
                  refine aw_gi (q := 59) (pc' := 126) H0 (H0.fo rfl rfl) (l13 rfl) rfl dX12_down_123 rfl fl_RX12_281 ?_
                  exact hk14 _ hf
                · replace hf := ifp c27 hf
                  refine aw_aload_n (pc' := 114) dX12_down_113 rfl rfl rfl ?_
                  refine aw_gr (q := 59) (e := 91) (v := .ref 112) (pc' := 117) H0 (H0.fo rfl rfl) (l13 rfl) rfl rfl dX12_down_114 rfl fl_RX12_151 ?_
                  refine aw_iload_n (pc' := 118) dX12_down_117 rfl rfl ?_
                  obtain ⟨g28, hf⟩ := gd_e hf
                  refine aw_ia (q := 104) (pc' := 119) H0 (H0.fa rfl rfl rfl) g28 dX12_down_118 rfl ?_
                  refine aw_goto (tgt := 126) dX12_down_119 rfl ?_
                  exact hk14 _ hf
              · replace hf := ifp c12 hf
                refine aw_bipush (v := (-3)) (pc' := 99) dX12_down_97 rfl bp_m3 ?_
                obtain ⟨rfl, rfl⟩ := so2 hf
                exact aw_ri dX12_down_99 rfl rfl (Nat.le_of_ble_eq_true rfl) (Nat.le_of_ble_eq_true rfl) ⟨rfl, H0, (Mo.rf _)⟩
            · replace hf := ifp c11 hf
              refine aw_bipush (v := (-2)) (pc' := 87) dX12_down_85 rfl bp_m2 ?_
              obtain ⟨rfl, rfl⟩ := so2 hf
              exact aw_ri dX12_down_87 rfl rfl (Nat.le_of_ble_eq_true rfl) (Nat.le_of_ble_eq_true rfl) ⟨rfl, H0, (Mo.rf _)⟩
          clear ek8
          refine aw_if_ne (tgt := 76) (pc' := 63) dX12_down_60 rfl rfl (fun c29 => ?_) (fun c29 => ?_)
          · replace hf := ifn c29 hf
            refine AW.lv_le (lz_k (lz_k (lz_k (lz_k (lz_d (lz_d lz_0)))))) ?_
            exact hk8  hf
          · replace hf := ifp c29 hf
            refine aw_iload_n (pc' := 64) dX12_down_63 rfl rfl ?_
            refine aw_bipush (v := 11) (pc' := 66) dX12_down_64 rfl bp_11 ?_
            refine aw_bipush (v := 19) (pc' := 68) dX12_down_66 rfl bp_19 ?_
            obtain ⟨r30, ec30, hf⟩ := b1_e hf
            refine aw_callSi (M' := mX12_in) (nc' := 0) (ns' := 0) (pc' := 71) dX12_down_68 rfl ml_RX12_230 kX12_in (t_X12_in ec30) rfl rfl (Nat.le_of_ble_eq_true rfl) (rokD (by omega) (Nat.le_of_ble_eq_true rfl) (Nat.le_of_ble_eq_true rfl) (Nat.le_of_ble_eq_true rfl)) rfl rfl (fun _ h30 q30 => ?_)
            obtain ⟨rfl, rfl, zb30⟩ := q30
            refine aw_if_ne (tgt := 76) (pc' := 74) dX12_down_71 rfl rfl (fun c31 => ?_) (fun c31 => ?_)
            · replace hf := ifn c31 hf
              refine AW.lv_le (lz_k (lz_k (lz_k (lz_k (lz_d (lz_d lz_0)))))) ?_
              exact hk8  hf
            · replace hf := ifp c31 hf
              refine aw_iconst (v := (-1)) (pc' := 75) dX12_down_74 rfl ic_m1 ?_
              obtain ⟨rfl, rfl⟩ := so2 hf
              exact aw_ri dX12_down_75 rfl rfl (Nat.le_of_ble_eq_true rfl) (Nat.le_of_ble_eq_true rfl) ⟨rfl, H0, (Mo.rf _)⟩
        clear ek7
        obtain ⟨k32, ek32, hf⟩ := jn_e hf
        have hk32 : k32 = some (r9, s9) → AW mX12_down (rmD (2) 0 0) (fin (PI fun r' h' => r9 = r' ∧ HH s9 h' ∧ Mo s0 s9) 0 0) 55 [some (.ref 67), some (.int a0), some (.int a1), some (.int a2), none, none] [] h0 0 0 := by
          intro hf
          subst ek32
          refine aw_iconst (v := 0) (pc' := 56) dX12_down_55 rfl ic_0 ?_
          exact hk7 _ hf
        clear ek32
        refine aw_zle (tgt := 55) (pc' := 34) dX12_down_31 rfl rfl (fun c33 => ?_) (fun c33 => ?_)
        · replace hf := ifn c33 hf
          exact hk32  hf
        · replace hf := ifp c33 hf
          refine aw_iload_n (pc' := 35) dX12_down_34 rfl rfl ?_
          refine aw_bipush (v := 10) (pc' := 37) dX12_down_35 rfl bp_10 ?_
          refine aw_irem (pc' := 38) dX12_down_37 rfl (by decide) ?_
          refine aw_if_ne (tgt := 55) (pc' := 41) dX12_down_38 rfl rfl (fun c34 => ?_) (fun c34 => ?_)
          · replace hf := ifn c34 hf
            exact hk32  hf
          · replace hf := ifp c34 hf
            refine aw_iload_n (pc' := 42) dX12_down_41 rfl rfl ?_
            refine aw_bipush (v := 10) (pc' := 44) dX12_down_42 rfl bp_10 ?_
            refine aw_idiv (pc' := 45) dX12_down_44 rfl (by decide) ?_
            refine aw_sipush (v := 999) (pc' := 48) dX12_down_45 rfl sp_999 ?_
            refine aw_cgt (tgt := 55) (pc' := 51) dX12_down_48 rfl rfl (fun c35 => ?_) (fun c35 => ?_)
            · replace hf := ifp c35 hf
              exact hk32  hf
            · replace hf := ifn c35 hf
              refine aw_iconst (v := 1) (pc' := 52) dX12_down_51 rfl ic_1 ?_
              refine aw_goto (tgt := 56) dX12_down_52 rfl ?_
              exact hk7 _ hf
      · replace hf := ifp c6 hf
        refine aw_iconst (v := (-1)) (pc' := 29) dX12_down_28 rfl ic_m1 ?_
        obtain ⟨rfl, rfl⟩ := so2 hf
        exact aw_ri dX12_down_29 rfl rfl (Nat.le_of_ble_eq_true rfl) (Nat.le_of_ble_eq_true rfl) ⟨rfl, H0, (Mo.rf _)⟩
/-! ThirtyThreeBelowModel.below -/
noncomputable def f_X12_below (s0 : SS) (a0 : Int32) : Option Int32 := (b1 (f_X12_in a0 (0 : Int32) (9 : Int32)) fun r1 => (if r1 = (0 : Int32) then some (-1) else (if a0 = (0 : Int32) then some (zS s0 59 54) else (gd (inB a0 10) (some (zI s0 105 (a0.toInt.toNat)))))))
set_option maxRecDepth 4000 in
theorem t_X12_below {r9 : Int32} {s0 : SS} {h0 : List aE} {a0 : Int32} (H0 : HH s0 h0) (hf : f_X12_below s0 a0 = some r9) : AM mX12_below (1) [.ref 67, .int a0] h0 0 0 (PI fun r' h' => r9 = r' ∧ h0 = h') := by
  unfold f_X12_below at hf
  refine am_of (lv := [some (.ref 67), some (.int a0)]) rfl (Nat.le_of_ble_eq_true rfl) rfl ?_
  refine aw_iload_n (pc' := 1) dX12_below_0 rfl rfl ?_
  refine aw_iconst (v := 0) (pc' := 2) dX12_below_1 rfl ic_0 ?_
  refine aw_bipush (v := 9) (pc' := 4) dX12_below_2 rfl bp_9 ?_
  obtain ⟨r1, ec1, hf⟩ := b1_e hf
  refine aw_callSi (M' := mX12_in) (nc' := 0) (ns' := 0) (pc' := 7) dX12_below_4 rfl ml_RX12_230 kX12_in (t_X12_in ec1) rfl rfl (Nat.le_of_ble_eq_true rfl) (rokD (by omega) (Nat.le_of_ble_eq_true rfl) (Nat.le_of_ble_eq_true rfl) (Nat.le_of_ble_eq_true rfl)) rfl rfl (fun _ h1 q1 => ?_)
  obtain ⟨rfl, rfl, zb1⟩ := q1
  refine aw_if_ne (tgt := 14) (pc' := 10) dX12_below_7 rfl rfl (fun c2 => ?_) (fun c2 => ?_)
  · replace hf := ifn c2 hf
    refine aw_iload_n (pc' := 15) dX12_below_14 rfl rfl ?_
    refine aw_if_ne (tgt := 25) (pc' := 18) dX12_below_15 rfl rfl (fun c3 => ?_) (fun c3 => ?_)
    · replace hf := ifn c3 hf
      refine aw_aload_n (pc' := 26) dX12_below_25 rfl rfl rfl ?_
      refine aw_gr (q := 59) (e := 93) (v := .ref 113) (pc' := 29) H0 (H0.fo rfl rfl) (l13 rfl) rfl rfl dX12_below_26 rfl fl_RX12_154 ?_
      refine aw_iload_n (pc' := 30) dX12_below_29 rfl rfl ?_
      obtain ⟨g4, hf⟩ := gd_e hf
      refine aw_ia (q := 105) (pc' := 31) H0 (H0.fa rfl rfl rfl) g4 dX12_below_30 rfl ?_
      obtain rfl := Option.some.inj hf
      exact aw_ri dX12_below_31 rfl rfl (Nat.le_of_ble_eq_true rfl) (Nat.le_of_ble_eq_true rfl) ⟨rfl, rfl⟩
    · replace hf := ifp c3 hf
      refine aw_aload_n (pc' := 19) dX12_below_18 rfl rfl rfl ?_
      refine aw_gi (q := 59) (pc' := 22) H0 (H0.fo rfl rfl) (l13 rfl) rfl dX12_below_19 rfl fl_RX12_397 ?_
      refine aw_goto (tgt := 31) dX12_below_22 rfl ?_
      obtain rfl := Option.some.inj hf
      exact aw_ri dX12_below_31 rfl rfl (Nat.le_of_ble_eq_true rfl) (Nat.le_of_ble_eq_true rfl) ⟨rfl, rfl⟩
  · replace hf := ifp c2 hf
    refine aw_iconst (v := (-1)) (pc' := 11) dX12_below_10 rfl ic_m1 ?_
    refine aw_goto (tgt := 31) dX12_below_11 rfl ?_
    obtain rfl := Option.some.inj hf
    exact aw_ri dX12_below_31 rfl rfl (Nat.le_of_ble_eq_true rfl) (Nat.le_of_ble_eq_true rfl) ⟨rfl, rfl⟩
/-! ThirtyThreeBelowModel.need -/
noncomputable def f_X12_need (s0 : SS) (a0 : Int32) (a1 : Int32) : Option (Int32 × SS) := (if a0 < (0 : Int32) then some ((-1), s0) else (b1 (f_X12_in (a0 / (100 : Int32)) (1 : Int32) (9 : Int32)) fun r2 => (if r2 = (0 : Int32) then some ((-1), s0) else (if (a0 % (100 : Int32)) = (0 : Int32) then some ((-1), s0) else (b1 (f_X12_in a1 (0 : Int32) (99 : Int32)) fun r5 => (if r5 = (0 : Int32) then some ((-1), s0) else (if (zS s0 59 67) = (10 : Int32) then some ((-3), s0) else (vl ((a0 / (100 : Int32))) fun v8 => (vl ((zS s0 59 67)) fun v10 => (gd (inB v10 10) (st (pI s0 106 (v10.toInt.toNat) v8) fun s12 => (vl ((a0 % (100 : Int32))) fun v13 => (vl ((zS s12 59 67)) fun v14 => (gd (inB v14 10) (st (pI s12 107 (v14.toInt.toNat) v13) fun s16 => (vl ((zS s16 59 67)) fun v17 => (gd (inB v17 10) (st (pI s16 108 (v17.toInt.toNat) a1) fun s19 => (vl (((zS s19 59 67) + (1 : Int32))) fun v20 => (st (pS s19 59 67 v20) fun s21 => some ((zS s21 59 67), s21)))))))))))))))))))))
set_option maxRecDepth 4000 in
theorem t_X12_need {r9 : Int32} {s0 s9 : SS} {h0 : List aE} {a0 : Int32} {a1 : Int32} (H0 : HH s0 h0) (hf : f_X12_need s0 a0 a1 = some (r9, s9)) : AM mX12_need (1) [.ref 67, .int a0, .int a1] h0 0 0 (PI fun r' h' => r9 = r' ∧ HH s9 h' ∧ Mo s0 s9) := by
  unfold f_X12_need at hf
  refine am_of (lv := [some (.ref 67), some (.int a0), some (.int a1)]) rfl (Nat.le_of_ble_eq_true rfl) rfl ?_
  refine aw_iload_n (pc' := 1) dX12_need_0 rfl rfl ?_
  refine aw_zlt (tgt := 34) (pc' := 4) dX12_need_1 rfl rfl (fun c1 => ?_) (fun c1 => ?_)
  · replace hf := ifp c1 hf
    refine aw_iconst (v := (-1)) (pc' := 35) dX12_need_34 rfl ic_m1 ?_
    obtain ⟨rfl, rfl⟩ := so2 hf
    exact aw_ri dX12_need_35 rfl rfl (Nat.le_of_ble_eq_true rfl) (Nat.le_of_ble_eq_true rfl) ⟨rfl, H0, (Mo.rf _)⟩
  · replace hf := ifn c1 hf
    refine aw_iload_n (pc' := 5) dX12_need_4 rfl rfl ?_
    refine aw_bipush (v := 100) (pc' := 7) dX12_need_5 rfl bp_100 ?_
    refine aw_idiv (pc' := 8) dX12_need_7 rfl (by decide) ?_
    refine aw_iconst (v := 1) (pc' := 9) dX12_need_8 rfl ic_1 ?_
    refine aw_bipush (v := 9) (pc' := 11) dX12_need_9 rfl bp_9 ?_
    obtain ⟨r2, ec2, hf⟩ := b1_e hf
    refine aw_callSi (M' := mX12_in) (nc' := 0) (ns' := 0) (pc' := 14) dX12_need_11 rfl ml_RX12_230 kX12_in (t_X12_in ec2) rfl rfl (Nat.le_of_ble_eq_true rfl) (rokD (by omega) (Nat.le_of_ble_eq_true rfl) (Nat.le_of_ble_eq_true rfl) (Nat.le_of_ble_eq_true rfl)) rfl rfl (fun _ h2 q2 => ?_)
    obtain ⟨rfl, rfl, zb2⟩ := q2
    refine aw_if_eq (tgt := 34) (pc' := 17) dX12_need_14 rfl rfl (fun c3 => ?_) (fun c3 => ?_)
    · replace hf := ifp c3 hf
      refine aw_iconst (v := (-1)) (pc' := 35) dX12_need_34 rfl ic_m1 ?_
      obtain ⟨rfl, rfl⟩ := so2 hf
      exact aw_ri dX12_need_35 rfl rfl (Nat.le_of_ble_eq_true rfl) (Nat.le_of_ble_eq_true rfl) ⟨rfl, H0, (Mo.rf _)⟩
    · replace hf := ifn c3 hf
      refine aw_iload_n (pc' := 18) dX12_need_17 rfl rfl ?_
      refine aw_bipush (v := 100) (pc' := 20) dX12_need_18 rfl bp_100 ?_
      refine aw_irem (pc' := 21) dX12_need_20 rfl (by decide) ?_
      refine aw_if_eq (tgt := 34) (pc' := 24) dX12_need_21 rfl rfl (fun c4 => ?_) (fun c4 => ?_)
      · replace hf := ifp c4 hf
        refine aw_iconst (v := (-1)) (pc' := 35) dX12_need_34 rfl ic_m1 ?_
        obtain ⟨rfl, rfl⟩ := so2 hf
        exact aw_ri dX12_need_35 rfl rfl (Nat.le_of_ble_eq_true rfl) (Nat.le_of_ble_eq_true rfl) ⟨rfl, H0, (Mo.rf _)⟩
      · replace hf := ifn c4 hf
        refine aw_iload_n (pc' := 25) dX12_need_24 rfl rfl ?_
        refine aw_iconst (v := 0) (pc' := 26) dX12_need_25 rfl ic_0 ?_
        refine aw_bipush (v := 99) (pc' := 28) dX12_need_26 rfl bp_99 ?_
        obtain ⟨r5, ec5, hf⟩ := b1_e hf
        refine aw_callSi (M' := mX12_in) (nc' := 0) (ns' := 0) (pc' := 31) dX12_need_28 rfl ml_RX12_230 kX12_in (t_X12_in ec5) rfl rfl (Nat.le_of_ble_eq_true rfl) (rokD (by omega) (Nat.le_of_ble_eq_true rfl) (Nat.le_of_ble_eq_true rfl) (Nat.le_of_ble_eq_true rfl)) rfl rfl (fun _ h5 q5 => ?_)
        obtain ⟨rfl, rfl, zb5⟩ := q5
        refine aw_if_ne (tgt := 36) (pc' := 34) dX12_need_31 rfl rfl (fun c6 => ?_) (fun c6 => ?_)
        · replace hf := ifn c6 hf
          refine aw_aload_n (pc' := 37) dX12_need_36 rfl rfl rfl ?_
          refine aw_gi (q := 59) (pc' := 40) H0 (H0.fo rfl rfl) (l13 rfl) rfl dX12_need_37 rfl fl_RX12_431 ?_
          refine aw_bipush (v := 10) (pc' := 42) dX12_need_40 rfl bp_10 ?_
          refine aw_icmp_ne (tgt := 48) (pc' := 45) dX12_need_42 rfl rfl (fun c7 => ?_) (fun c7 => ?_)
          · replace hf := ifn c7 hf
            refine aw_aload_n (pc' := 49) dX12_need_48 rfl rfl rfl ?_
            refine aw_gr (q := 59) (e := 95) (v := .ref 114) (pc' := 52) H0 (H0.fo rfl rfl) (l13 rfl) rfl rfl dX12_need_49 rfl fl_RX12_157 ?_
            refine aw_aload_n (pc' := 53) dX12_need_52 rfl rfl rfl ?_
            refine aw_gi (q := 59) (pc' := 56) H0 (H0.fo rfl rfl) (l13 rfl) rfl dX12_need_53 rfl fl_RX12_431 ?_
            refine aw_iload_n (pc' := 57) dX12_need_56 rfl rfl ?_
            refine aw_bipush (v := 100) (pc' := 59) dX12_need_57 rfl bp_100 ?_
            refine aw_idiv (pc' := 60) dX12_need_59 rfl (by decide) ?_
            obtain ⟨v8, ev8, hf⟩ := vl_e hf
            refine aw_topi ev8 ?_
            obtain ⟨v10, ev10, hf⟩ := vl_e hf
            refine aw_sndi ev10 ?_
            obtain ⟨g11, hf⟩ := gd_e hf
            obtain ⟨s12, es12, hf⟩ := st_e hf
            refine aw_is (q := 106) (pc' := 61) es12 H0 (H0.fa rfl rfl rfl) g11 dX12_need_60 rfl (fun h12 H12 => ?_)
            have m12 := Mo.ofI es12
            refine aw_aload_n (pc' := 62) dX12_need_61 rfl rfl rfl ?_
            refine aw_gr (q := 59) (e := 97) (v := .ref 115) (pc' := 65) H12 (H12.fo rfl rfl) (l13 rfl) rfl rfl dX12_need_62 rfl fl_RX12_160 ?_
            refine aw_aload_n (pc' := 66) dX12_need_65 rfl rfl rfl ?_
            refine aw_gi (q := 59) (pc' := 69) H12 (H12.fo rfl rfl) (l13 rfl) rfl dX12_need_66 rfl fl_RX12_431 ?_
            refine aw_iload_n (pc' := 70) dX12_need_69 rfl rfl ?_
            refine aw_bipush (v := 100) (pc' := 72) dX12_need_70 rfl bp_100 ?_
            refine aw_irem (pc' := 73) dX12_need_72 rfl (by decide) ?_
            obtain ⟨v13, ev13, hf⟩ := vl_e hf
            refine aw_topi ev13 ?_
            obtain ⟨v14, ev14, hf⟩ := vl_e hf
            refine aw_sndi ev14 ?_
            obtain ⟨g15, hf⟩ := gd_e hf
            obtain ⟨s16, es16, hf⟩ := st_e hf
            refine aw_is (q := 107) (pc' := 74) es16 H12 (H12.fa rfl rfl rfl) g15 dX12_need_73 rfl (fun h16 H16 => ?_)
            have m16 := Mo.ofI es16
            refine aw_aload_n (pc' := 75) dX12_need_74 rfl rfl rfl ?_
            refine aw_gr (q := 59) (e := 99) (v := .ref 116) (pc' := 78) H16 (H16.fo rfl rfl) (l13 rfl) rfl rfl dX12_need_75 rfl fl_RX12_163 ?_
            refine aw_aload_n (pc' := 79) dX12_need_78 rfl rfl rfl ?_
            refine aw_gi (q := 59) (pc' := 82) H16 (H16.fo rfl rfl) (l13 rfl) rfl dX12_need_79 rfl fl_RX12_431 ?_
            refine aw_iload_n (pc' := 83) dX12_need_82 rfl rfl ?_
            obtain ⟨v17, ev17, hf⟩ := vl_e hf
            refine aw_sndi ev17 ?_
            obtain ⟨g18, hf⟩ := gd_e hf
            obtain ⟨s19, es19, hf⟩ := st_e hf
            refine aw_is (q := 108) (pc' := 84) es19 H16 (H16.fa rfl rfl rfl) g18 dX12_need_83 rfl (fun h19 H19 => ?_)
            have m19 := Mo.ofI es19
            refine aw_aload_n (pc' := 85) dX12_need_84 rfl rfl rfl ?_
            refine aw_dup (pc' := 86) dX12_need_85 rfl rfl ?_
            refine aw_gi (q := 59) (pc' := 89) H19 (H19.fo rfl rfl) (l13 rfl) rfl dX12_need_86 rfl fl_RX12_431 ?_
            refine aw_iconst (v := 1) (pc' := 90) dX12_need_89 rfl ic_1 ?_
            refine aw_iadd (pc' := 91) dX12_need_90 rfl ?_
            obtain ⟨v20, ev20, hf⟩ := vl_e hf
            refine aw_topi ev20 ?_
            obtain ⟨s21, es21, hf⟩ := st_e hf
            refine aw_pi (q := 59) (pc' := 94) es21 H19 (H19.fo rfl rfl) (by decide) rfl dX12_need_91 rfl fl_RX12_431 rfl (fun h21 H21 => ?_)
            have m21 := Mo.ofS es21
            refine aw_aload_n (pc' := 95) dX12_need_94 rfl rfl rfl ?_
            refine aw_gi (q := 59) (pc' := 98) H21 (H21.fo rfl rfl) (l13 rfl) rfl dX12_need_95 rfl fl_RX12_431 ?_
            obtain ⟨rfl, rfl⟩ := so2 hf
            exact aw_ri dX12_need_98 rfl rfl (Nat.le_of_ble_eq_true rfl) (Nat.le_of_ble_eq_true rfl) ⟨rfl, H21, (((m12.tr m16).tr m19).tr m21)⟩
          · replace hf := ifp c7 hf
            refine aw_bipush (v := (-3)) (pc' := 47) dX12_need_45 rfl bp_m3 ?_
            obtain ⟨rfl, rfl⟩ := so2 hf
            exact aw_ri dX12_need_47 rfl rfl (Nat.le_of_ble_eq_true rfl) (Nat.le_of_ble_eq_true rfl) ⟨rfl, H0, (Mo.rf _)⟩
        · replace hf := ifp c6 hf
          refine aw_iconst (v := (-1)) (pc' := 35) dX12_need_34 rfl ic_m1 ?_
          obtain ⟨rfl, rfl⟩ := so2 hf
          exact aw_ri dX12_need_35 rfl rfl (Nat.le_of_ble_eq_true rfl) (Nat.le_of_ble_eq_true rfl) ⟨rfl, H0, (Mo.rf _)⟩
/-! ThirtyThreeBelowModel.costNext -/
noncomputable def f_X12_costNext_L5_b (q0 : Int32 → Option Int32) (s0 : SS) (y1 : Int32) (y2 : Int32) (rc : Int32 → Int32 → Option Int32) (x3 : Int32) (x4 : Int32) : Option Int32 := (if x4 < (zS s0 59 67) then (jn (fun (t2_0 : Int32) => (vl ((x3 + t2_0)) fun v3 => (vl (x4 + 1) fun v4 => (rc v3 v4)))) fun k2 => (if ((y2 >>> (x4 &&& 31)) &&& (1 : Int32)) = (0 : Int32) then (gd (inB x4 10) (k2 (zI s0 106 (x4.toInt.toNat)))) else (k2 0))) else (q0 x3))
noncomputable def f_X12_costNext_L5 (q0 : Int32 → Option Int32) (s0 : SS) (y1 : Int32) (y2 : Int32) : Nat → Int32 → Int32 → Option Int32
  | 0, _, _ => none
  | n + 1, x3, x4 => f_X12_costNext_L5_b q0 s0 y1 y2 (f_X12_costNext_L5 q0 s0 y1 y2 n) x3 x4
set_option maxRecDepth 4000 in
theorem t_X12_costNext_L5 {r9 : Int32} {s0 : SS} {h0 : List aE} {q0 : Int32 → Option Int32} {y1 : Int32} {y2 : Int32} (H0 : HH s0 h0) (hq0 : ∀ (x3 : Int32), q0 x3 = some r9 → AW mX12_costNext (rmD (0) 0 0) (fin (PI fun r' h' => r9 = r' ∧ h0 = h') 0 0) 43 [some (.ref 67), some (.int y1), none, some (.int x3), none] [] h0 0 0) : ∀ (n : Nat) (x3 : Int32) (x4 : Int32), f_X12_costNext_L5 q0 s0 y1 y2 n x3 x4 = some r9 → AW mX12_costNext (rmD (0) 0 0) (fin (PI fun r' h' => r9 = r' ∧ h0 = h') 0 0) 5 [some (.ref 67), some (.int y1), some (.int y2), some (.int x3), some (.int x4)] [] h0 0 0 := by
  intro n
  induction n with
  | zero =>
    intro x3 x4 hf
    cases hf
  | succ n ih =>
    intro x3 x4 hf
    replace hf : f_X12_costNext_L5_b q0 s0 y1 y2 (f_X12_costNext_L5 q0 s0 y1 y2 n) x3 x4 = some r9 := hf
    unfold f_X12_costNext_L5_b at hf
    refine aw_iload (pc' := 7) dX12_costNext_5 rfl rfl ?_
    refine aw_aload_n (pc' := 8) dX12_costNext_7 rfl rfl rfl ?_
    refine aw_gi (q := 59) (pc' := 11) H0 (H0.fo rfl rfl) (l13 rfl) rfl dX12_costNext_8 rfl fl_RX12_431 ?_
    refine aw_cge (tgt := 43) (pc' := 14) dX12_costNext_11 rfl rfl (fun c1 => ?_) (fun c1 => ?_)
    · replace hf := ifn c1 hf
      refine AW.lv_le (lz_k (lz_k (lz_d (lz_k (lz_d lz_0))))) ?_
      exact hq0 _ hf
    · replace hf := ifp c1 hf
      refine aw_iload_n (pc' := 15) dX12_costNext_14 rfl rfl ?_
      refine aw_iload_n (pc' := 16) dX12_costNext_15 rfl rfl ?_
      refine aw_iload (pc' := 18) dX12_costNext_16 rfl rfl ?_
      refine aw_ishr (pc' := 19) dX12_costNext_18 rfl ?_
      refine aw_iconst (v := 1) (pc' := 20) dX12_costNext_19 rfl ic_1 ?_
      refine aw_iand (pc' := 21) dX12_costNext_20 rfl ?_
      obtain ⟨k2, ek2, hf⟩ := jn_e hf
      have hk2 : ∀ (t2_0 : Int32), k2 t2_0 = some r9 → AW mX12_costNext (rmD (0) 0 0) (fin (PI fun r' h' => r9 = r' ∧ h0 = h') 0 0) 35 [some (.ref 67), some (.int y1), some (.int y2), none, some (.int x4)] [.int t2_0, .int x3] h0 0 0 := by
        intro t2_0 hf
        subst ek2
        refine aw_iadd (pc' := 36) dX12_costNext_35 rfl ?_
        obtain ⟨v3, ev3, hf⟩ := vl_e hf
        refine aw_topi ev3 ?_
        refine aw_istore_n (lv' := [_, _, _, _, _]) (pc' := 37) dX12_costNext_36 rfl (Nat.le_of_ble_eq_true rfl) rfl ?_
        obtain ⟨v4, ev4, hf⟩ := vl_e hf
        refine aw_iincV (y := v4) (lv' := [_, _, _, _, _]) (pc' := 40) dX12_costNext_37 rfl rfl (Nat.le_of_ble_eq_true rfl) ev4 rfl ?_
        refine aw_goto (tgt := 5) dX12_costNext_40 rfl ?_
        exact ih _ _ hf
      clear ek2
      refine aw_if_ne (tgt := 34) (pc' := 24) dX12_costNext_21 rfl rfl (fun c5 => ?_) (fun c5 => ?_)
      · replace hf := ifn c5 hf
        refine aw_iconst (v := 0) (pc' := 35) dX12_costNext_34 rfl ic_0 ?_
        refine AW.lv_le (lz_k (lz_k (lz_k (lz_d (lz_k lz_0))))) ?_
        exact hk2 _ hf
      · replace hf := ifp c5 hf
        refine aw_aload_n (pc' := 25) dX12_costNext_24 rfl rfl rfl ?_
        refine aw_gr (q := 59) (e := 95) (v := .ref 114) (pc' := 28) H0 (H0.fo rfl rfl) (l13 rfl) rfl rfl dX12_costNext_25 rfl fl_RX12_157 ?_
        refine aw_iload (pc' := 30) dX12_costNext_28 rfl rfl ?_
        obtain ⟨g6, hf⟩ := gd_e hf
        refine aw_ia (q := 106) (pc' := 31) H0 (H0.fa rfl rfl rfl) g6 dX12_costNext_30 rfl ?_
        refine aw_goto (tgt := 35) dX12_costNext_31 rfl ?_
        refine AW.lv_le (lz_k (lz_k (lz_k (lz_d (lz_k lz_0))))) ?_
        exact hk2 _ hf
noncomputable def f_X12_costNext (s0 : SS) (a0 : Int32) (a1 : Int32) : Option Int32 := (f_X12_costNext_L5 (fun (x7_3 : Int32) => (gd (inB a0 10) (gd (inB a0 10) (vl (((x7_3 + (zI s0 106 (a0.toInt.toNat))) - (zI s0 108 (a0.toInt.toNat)))) fun v11 => (if (0 : Int32) < v11 then (gd (inB a0 10) (some (v11 * (zI s0 107 (a0.toInt.toNat))))) else some 0))))) s0 a0 a1 4000 0 0)
set_option maxRecDepth 4000 in
theorem t_X12_costNext {r9 : Int32} {s0 : SS} {h0 : List aE} {a0 : Int32} {a1 : Int32} (H0 : HH s0 h0) (hf : f_X12_costNext s0 a0 a1 = some r9) : AM mX12_costNext (0) [.ref 67, .int a0, .int a1] h0 0 0 (PI fun r' h' => r9 = r' ∧ h0 = h') := by
  unfold f_X12_costNext at hf
  refine am_of (lv := [some (.ref 67), some (.int a0), some (.int a1), none, none]) rfl (Nat.le_of_ble_eq_true rfl) rfl ?_
  refine aw_iconst (v := 0) (pc' := 1) dX12_costNext_0 rfl ic_0 ?_
  refine aw_istore_n (lv' := [_, _, _, _, _]) (pc' := 2) dX12_costNext_1 rfl (Nat.le_of_ble_eq_true rfl) rfl ?_
  refine aw_iconst (v := 0) (pc' := 3) dX12_costNext_2 rfl ic_0 ?_
  refine aw_istore (lv' := [_, _, _, _, _]) (pc' := 5) dX12_costNext_3 rfl (Nat.le_of_ble_eq_true rfl) rfl ?_
  refine t_X12_costNext_L5 H0 (fun x7_3 hf => ?_) 4000 _ _ hf
  refine aw_iload_n (pc' := 44) dX12_costNext_43 rfl rfl ?_
  refine aw_aload_n (pc' := 45) dX12_costNext_44 rfl rfl rfl ?_
  refine aw_gr (q := 59) (e := 95) (v := .ref 114) (pc' := 48) H0 (H0.fo rfl rfl) (l13 rfl) rfl rfl dX12_costNext_45 rfl fl_RX12_157 ?_
  refine aw_iload_n (pc' := 49) dX12_costNext_48 rfl rfl ?_
  obtain ⟨g8, hf⟩ := gd_e hf
  refine aw_ia (q := 106) (pc' := 50) H0 (H0.fa rfl rfl rfl) g8 dX12_costNext_49 rfl ?_
  refine aw_iadd (pc' := 51) dX12_costNext_50 rfl ?_
  refine aw_aload_n (pc' := 52) dX12_costNext_51 rfl rfl rfl ?_
  refine aw_gr (q := 59) (e := 99) (v := .ref 116) (pc' := 55) H0 (H0.fo rfl rfl) (l13 rfl) rfl rfl dX12_costNext_52 rfl fl_RX12_163 ?_
  refine aw_iload_n (pc' := 56) dX12_costNext_55 rfl rfl ?_
  obtain ⟨g10, hf⟩ := gd_e hf
  refine aw_ia (q := 108) (pc' := 57) H0 (H0.fa rfl rfl rfl) g10 dX12_costNext_56 rfl ?_
  refine aw_isub (pc' := 58) dX12_costNext_57 rfl ?_
  obtain ⟨v11, ev11, hf⟩ := vl_e hf
  refine aw_topi ev11 ?_
  refine aw_istore (lv' := [_, _, _, _, _]) (pc' := 60) dX12_costNext_58 rfl (Nat.le_of_ble_eq_true rfl) rfl ?_
  refine aw_iload (pc' := 62) dX12_costNext_60 rfl rfl ?_
  refine aw_zle (tgt := 77) (pc' := 65) dX12_costNext_62 rfl rfl (fun c12 => ?_) (fun c12 => ?_)
  · replace hf := ifn c12 hf
    refine aw_iconst (v := 0) (pc' := 78) dX12_costNext_77 rfl ic_0 ?_
    obtain rfl := Option.some.inj hf
    exact aw_ri dX12_costNext_78 rfl rfl (Nat.le_of_ble_eq_true rfl) (Nat.le_of_ble_eq_true rfl) ⟨rfl, rfl⟩
  · replace hf := ifp c12 hf
    refine aw_iload (pc' := 67) dX12_costNext_65 rfl rfl ?_
    refine aw_aload_n (pc' := 68) dX12_costNext_67 rfl rfl rfl ?_
    refine aw_gr (q := 59) (e := 97) (v := .ref 115) (pc' := 71) H0 (H0.fo rfl rfl) (l13 rfl) rfl rfl dX12_costNext_68 rfl fl_RX12_160 ?_
    refine aw_iload_n (pc' := 72) dX12_costNext_71 rfl rfl ?_
    obtain ⟨g13, hf⟩ := gd_e hf
    refine aw_ia (q := 107) (pc' := 73) H0 (H0.fa rfl rfl rfl) g13 dX12_costNext_72 rfl ?_
    refine aw_imul (pc' := 74) dX12_costNext_73 rfl ?_
    refine aw_goto (tgt := 78) dX12_costNext_74 rfl ?_
    obtain rfl := Option.some.inj hf
    exact aw_ri dX12_costNext_78 rfl rfl (Nat.le_of_ble_eq_true rfl) (Nat.le_of_ble_eq_true rfl) ⟨rfl, rfl⟩
/-! ThirtyThreeBelowModel.order -/
noncomputable def f_X12_order_L32_b (q0 : SS → Option (Int32 × SS)) (y1 : Int32) (rc : SS → Int32 → Option (Int32 × SS)) (s : SS) (x2 : Int32) : Option (Int32 × SS) := (if x2 < (zS s 59 67) then (jn (fun (s6 : SS)  => (vl (x2 + 1) fun v7 => (rc s6 v7))) fun k6 => (if ((y1 >>> (x2 &&& 31)) &&& (1 : Int32)) = (0 : Int32) then (k6 s) else (b1 (f_X12_costNext s x2 y1) fun r10 => (vl ((y1 &&& (((1 : Int32) <<< (x2 &&& 31)) ^^^ ((-1) : Int32)))) fun v11 => (gd (inB v11 1024) (vl ((r10 + (zI s 109 (v11.toInt.toNat)))) fun v13 => (gd (inB y1 1024) (if v13 < (zI s 109 (y1.toInt.toNat)) then (gd (inB y1 1024) (st (pI s 109 (y1.toInt.toNat) v13) fun s17 => (k6 s17))) else (k6 s))))))))) else (q0 s))
noncomputable def f_X12_order_L32 (q0 : SS → Option (Int32 × SS)) (y1 : Int32) : Nat → SS → Int32 → Option (Int32 × SS)
  | 0, _, _ => none
  | n + 1, s, x2 => f_X12_order_L32_b q0 y1 (f_X12_order_L32 q0 y1 n) s x2
set_option maxRecDepth 4000 in
theorem t_X12_order_L32 {r9 : Int32} {s0 sb s9 : SS} {q0 : SS → Option (Int32 × SS)} {y1 : Int32} (mb : Mo s0 sb) (hq0 : ∀ (s : SS) (h : List aE), HH s h → Mo sb s → q0 s = some (r9, s9) → AW mX12_order (rmD (1) 0 0) (fin (PI fun r' h' => r9 = r' ∧ HH s9 h' ∧ Mo s0 s9) 0 0) 94 [some (.ref 67), some (.int y1), none, none, none] [] h 0 0) : ∀ (n : Nat) (s : SS) (h : List aE) (x2 : Int32), HH s h → Mo sb s → f_X12_order_L32 q0 y1 n s x2 = some (r9, s9) → AW mX12_order (rmD (1) 0 0) (fin (PI fun r' h' => r9 = r' ∧ HH s9 h' ∧ Mo s0 s9) 0 0) 32 [some (.ref 67), some (.int y1), some (.int x2), none, none] [] h 0 0 := by
  intro n
  induction n with
  | zero =>
    intro s h x2 H ms hf
    cases hf
  | succ n ih =>
    intro s h x2 H ms hf
    replace hf : f_X12_order_L32_b q0 y1 (f_X12_order_L32 q0 y1 n) s x2 = some (r9, s9) := hf
    unfold f_X12_order_L32_b at hf
    refine aw_iload_n (pc' := 33) dX12_order_32 rfl rfl ?_
    refine aw_aload_n (pc' := 34) dX12_order_33 rfl rfl rfl ?_
    refine aw_gi (q := 59) (pc' := 37) H (H.fo rfl rfl) (by decide) rfl dX12_order_34 rfl fl_RX12_431 ?_
    refine aw_cge (tgt := 94) (pc' := 40) dX12_order_37 rfl rfl (fun c5 => ?_) (fun c5 => ?_)
    · replace hf := ifn c5 hf
      refine AW.lv_le (lz_k (lz_k (lz_d (lz_d (lz_d lz_0))))) ?_
      exact hq0 _ _ H ms hf
    · replace hf := ifp c5 hf
      refine aw_iload_n (pc' := 41) dX12_order_40 rfl rfl ?_
      refine aw_iload_n (pc' := 42) dX12_order_41 rfl rfl ?_
      refine aw_ishr (pc' := 43) dX12_order_42 rfl ?_
      refine aw_iconst (v := 1) (pc' := 44) dX12_order_43 rfl ic_1 ?_
      refine aw_iand (pc' := 45) dX12_order_44 rfl ?_
      obtain ⟨k6, ek6, hf⟩ := jn_e hf
      have hk6 : ∀ (s6 : SS) (h6 : List aE), HH s6 h6 → Mo s s6 → k6 s6 = some (r9, s9) → AW mX12_order (rmD (1) 0 0) (fin (PI fun r' h' => r9 = r' ∧ HH s9 h' ∧ Mo s0 s9) 0 0) 88 [some (.ref 67), some (.int y1), some (.int x2), none, none] [] h6 0 0 := by
        intro s6 h6 H6 m6 hf
        subst ek6
        obtain ⟨v7, ev7, hf⟩ := vl_e hf
        refine aw_iincV (y := v7) (lv' := [_, _, _, _, _]) (pc' := 91) dX12_order_88 rfl rfl (Nat.le_of_ble_eq_true rfl) ev7 rfl ?_
        refine aw_goto (tgt := 32) dX12_order_91 rfl ?_
        exact ih _ _ _ H6 (ms.tr m6) hf
      clear ek6
      refine aw_if_ne (tgt := 51) (pc' := 48) dX12_order_45 rfl rfl (fun c8 => ?_) (fun c8 => ?_)
      · replace hf := ifn c8 hf
        refine aw_aload_n (pc' := 52) dX12_order_51 rfl rfl rfl ?_
        refine aw_iload_n (pc' := 53) dX12_order_52 rfl rfl ?_
        refine aw_iload_n (pc' := 54) dX12_order_53 rfl rfl ?_
        obtain ⟨r10, ec10, hf⟩ := b1_e hf
        refine aw_callVi (M' := mX12_costNext) (nc' := 0) (ns' := 0) (pc' := 57) dX12_order_54 rfl ml_RX12_437 kX12_costNext (t_X12_costNext H ec10) (H.ob (H.fo rfl rfl) (by decide)) rfl rfl rfl (Nat.le_of_ble_eq_true rfl) (rokD (by omega) (Nat.le_of_ble_eq_true rfl) (Nat.le_of_ble_eq_true rfl) (Nat.le_of_ble_eq_true rfl)) rfl rfl (fun _ h10 q10 => ?_)
        obtain ⟨rfl, rfl⟩ := q10
        refine aw_aload_n (pc' := 58) dX12_order_57 rfl rfl rfl ?_
        refine aw_gr (q := 59) (e := 101) (v := .ref 117) (pc' := 61) H (H.fo rfl rfl) (by decide) rfl rfl dX12_order_58 rfl fl_RX12_166 ?_
        refine aw_iload_n (pc' := 62) dX12_order_61 rfl rfl ?_
        refine aw_iconst (v := 1) (pc' := 63) dX12_order_62 rfl ic_1 ?_
        refine aw_iload_n (pc' := 64) dX12_order_63 rfl rfl ?_
        refine aw_ishl (pc' := 65) dX12_order_64 rfl ?_
        refine aw_iconst (v := (-1)) (pc' := 66) dX12_order_65 rfl ic_m1 ?_
        refine aw_ixor (pc' := 67) dX12_order_66 rfl ?_
        refine aw_iand (pc' := 68) dX12_order_67 rfl ?_
        obtain ⟨v11, ev11, hf⟩ := vl_e hf
        refine aw_topi ev11 ?_
        obtain ⟨g12, hf⟩ := gd_e hf
        refine aw_ia (q := 109) (pc' := 69) H (H.fa rfl rfl rfl) g12 dX12_order_68 rfl ?_
        refine aw_iadd (pc' := 70) dX12_order_69 rfl ?_
        obtain ⟨v13, ev13, hf⟩ := vl_e hf
        refine aw_topi ev13 ?_
        refine aw_istore_n (lv' := [_, _, _, _, _]) (pc' := 71) dX12_order_70 rfl (Nat.le_of_ble_eq_true rfl) rfl ?_
        refine aw_iload_n (pc' := 72) dX12_order_71 rfl rfl ?_
        refine aw_aload_n (pc' := 73) dX12_order_72 rfl rfl rfl ?_
        refine aw_gr (q := 59) (e := 101) (v := .ref 117) (pc' := 76) H (H.fo rfl rfl) (by decide) rfl rfl dX12_order_73 rfl fl_RX12_166 ?_
        refine aw_iload_n (pc' := 77) dX12_order_76 rfl rfl ?_
        obtain ⟨g14, hf⟩ := gd_e hf
        refine aw_ia (q := 109) (pc' := 78) H (H.fa rfl rfl rfl) g14 dX12_order_77 rfl ?_
        refine aw_cge (tgt := 88) (pc' := 81) dX12_order_78 rfl rfl (fun c15 => ?_) (fun c15 => ?_)
        · replace hf := ifn c15 hf
          refine AW.lv_le (lz_k (lz_k (lz_k (lz_d (lz_d lz_0))))) ?_
          exact hk6 _ _ H (Mo.rf _) hf
        · replace hf := ifp c15 hf
          refine aw_aload_n (pc' := 82) dX12_order_81 rfl rfl rfl ?_
          refine aw_gr (q := 59) (e := 101) (v := .ref 117) (pc' := 85) H (H.fo rfl rfl) (by decide) rfl rfl dX12_order_82 rfl fl_RX12_166 ?_
          refine aw_iload_n (pc' := 86) dX12_order_85 rfl rfl ?_
          refine aw_iload_n (pc' := 87) dX12_order_86 rfl rfl ?_
          obtain ⟨g16, hf⟩ := gd_e hf
          obtain ⟨s17, es17, hf⟩ := st_e hf
          refine aw_is (q := 109) (pc' := 88) es17 H (H.fa rfl rfl rfl) g16 dX12_order_87 rfl (fun h17 H17 => ?_)
          have m17 := Mo.ofI es17
          refine AW.lv_le (lz_k (lz_k (lz_k (lz_d (lz_d lz_0))))) ?_
          exact hk6 _ _ H17 m17 hf
      · replace hf := ifp c8 hf
        refine aw_goto (tgt := 88) dX12_order_48 rfl ?_
        exact hk6 _ _ H (Mo.rf _) hf
noncomputable def f_X12_order_L11_b (q0 : SS → Option (Int32 × SS)) (rc : SS → Int32 → Option (Int32 × SS)) (s : SS) (x1 : Int32) : Option (Int32 × SS) := (if x1 < ((1 : Int32) <<< ((zS s 59 67) &&& 31)) then (gd (inB x1 1024) (st (pI s 109 (x1.toInt.toNat) 2147483647) fun s4 => (f_X12_order_L32 (fun (s18 : SS)  => (vl (x1 + 1) fun v19 => (rc s18 v19))) x1 4000 s4 0))) else (q0 s))
noncomputable def f_X12_order_L11 (q0 : SS → Option (Int32 × SS)) : Nat → SS → Int32 → Option (Int32 × SS)
  | 0, _, _ => none
  | n + 1, s, x1 => f_X12_order_L11_b q0 (f_X12_order_L11 q0 n) s x1
set_option maxRecDepth 4000 in
theorem t_X12_order_L11 {r9 : Int32} {s0 sb s9 : SS} {q0 : SS → Option (Int32 × SS)} (mb : Mo s0 sb) (hq0 : ∀ (s : SS) (h : List aE), HH s h → Mo sb s → q0 s = some (r9, s9) → AW mX12_order (rmD (1) 0 0) (fin (PI fun r' h' => r9 = r' ∧ HH s9 h' ∧ Mo s0 s9) 0 0) 100 [some (.ref 67), none, none, none, none] [] h 0 0) : ∀ (n : Nat) (s : SS) (h : List aE) (x1 : Int32), HH s h → Mo sb s → f_X12_order_L11 q0 n s x1 = some (r9, s9) → AW mX12_order (rmD (1) 0 0) (fin (PI fun r' h' => r9 = r' ∧ HH s9 h' ∧ Mo s0 s9) 0 0) 11 [some (.ref 67), some (.int x1), none, none, none] [] h 0 0 := by
  intro n
  induction n with
  | zero =>
    intro s h x1 H ms hf
    cases hf
  | succ n ih =>
    intro s h x1 H ms hf
    replace hf : f_X12_order_L11_b q0 (f_X12_order_L11 q0 n) s x1 = some (r9, s9) := hf
    unfold f_X12_order_L11_b at hf
    refine aw_iload_n (pc' := 12) dX12_order_11 rfl rfl ?_
    refine aw_iconst (v := 1) (pc' := 13) dX12_order_12 rfl ic_1 ?_
    refine aw_aload_n (pc' := 14) dX12_order_13 rfl rfl rfl ?_
    refine aw_gi (q := 59) (pc' := 17) H (H.fo rfl rfl) (by decide) rfl dX12_order_14 rfl fl_RX12_431 ?_
    refine aw_ishl (pc' := 18) dX12_order_17 rfl ?_
    refine aw_cge (tgt := 100) (pc' := 21) dX12_order_18 rfl rfl (fun c2 => ?_) (fun c2 => ?_)
    · replace hf := ifn c2 hf
      refine AW.lv_le (lz_k (lz_d (lz_d (lz_d (lz_d lz_0))))) ?_
      exact hq0 _ _ H ms hf
    · replace hf := ifp c2 hf
      refine aw_aload_n (pc' := 22) dX12_order_21 rfl rfl rfl ?_
      refine aw_gr (q := 59) (e := 101) (v := .ref 117) (pc' := 25) H (H.fo rfl rfl) (by decide) rfl rfl dX12_order_22 rfl fl_RX12_166 ?_
      refine aw_iload_n (pc' := 26) dX12_order_25 rfl rfl ?_
      refine aw_ldcw (pc' := 29) dX12_order_26 rfl ct_RX12_436 ?_
      obtain ⟨g3, hf⟩ := gd_e hf
      obtain ⟨s4, es4, hf⟩ := st_e hf
      refine aw_is (q := 109) (pc' := 30) es4 H (H.fa rfl rfl rfl) g3 dX12_order_29 rfl (fun h4 H4 => ?_)
      have m4 := Mo.ofI es4
      refine aw_iconst (v := 0) (pc' := 31) dX12_order_30 rfl ic_0 ?_
      refine aw_istore_n (lv' := [_, _, _, _, _]) (pc' := 32) dX12_order_31 rfl (Nat.le_of_ble_eq_true rfl) rfl ?_
      refine t_X12_order_L32 ((mb.tr ms).tr m4) (fun s18 h18 H18 m18 hf => ?_) 4000 _ _ _ H4 (Mo.rf _) hf
      obtain ⟨v19, ev19, hf⟩ := vl_e hf
      refine aw_iincV (y := v19) (lv' := [_, _, _, _, _]) (pc' := 97) dX12_order_94 rfl rfl (Nat.le_of_ble_eq_true rfl) ev19 rfl ?_
      refine aw_goto (tgt := 11) dX12_order_97 rfl ?_
      exact ih _ _ _ H18 ((ms.tr m4).tr m18) hf
noncomputable def f_X12_order_L129_b (q0 : Int32 → Option (Int32 × SS)) (sb : SS) (y1 : Int32) (y2 : Int32) (y3 : Int32) (rc : Int32 → Option (Int32 × SS)) (x4 : Int32) : Option (Int32 × SS) := (jn ((vl (x4 + 1) fun v26 => (rc v26))) fun k25 => (if ((y1 >>> (x4 &&& 31)) &&& (1 : Int32)) = (0 : Int32) then k25 else (b1 (f_X12_costNext sb x4 y1) fun r28 => (vl ((y1 &&& (((1 : Int32) <<< (x4 &&& 31)) ^^^ ((-1) : Int32)))) fun v29 => (gd (inB v29 1024) (gd (inB y1 1024) (if (r28 + (zI sb 109 (v29.toInt.toNat))) = (zI sb 109 (y1.toInt.toNat)) then (q0 x4) else k25)))))))
noncomputable def f_X12_order_L129 (q0 : Int32 → Option (Int32 × SS)) (sb : SS) (y1 : Int32) (y2 : Int32) (y3 : Int32) : Nat → Int32 → Option (Int32 × SS)
  | 0, _ => none
  | n + 1, x4 => f_X12_order_L129_b q0 sb y1 y2 y3 (f_X12_order_L129 q0 sb y1 y2 y3 n) x4
set_option maxRecDepth 4000 in
theorem t_X12_order_L129 {r9 : Int32} {s0 sb s9 : SS} {hb : List aE} {q0 : Int32 → Option (Int32 × SS)} {y1 : Int32} {y2 : Int32} {y3 : Int32} (Hb : HH sb hb) (mb : Mo s0 sb) (hq0 : ∀ (x4 : Int32), q0 x4 = some (r9, s9) → AW mX12_order (rmD (1) 0 0) (fin (PI fun r' h' => r9 = r' ∧ HH s9 h' ∧ Mo s0 s9) 0 0) 174 [some (.ref 67), some (.int y1), some (.int y2), some (.int y3), some (.int x4)] [] hb 0 0) : ∀ (n : Nat) (x4 : Int32), f_X12_order_L129 q0 sb y1 y2 y3 n x4 = some (r9, s9) → AW mX12_order (rmD (1) 0 0) (fin (PI fun r' h' => r9 = r' ∧ HH s9 h' ∧ Mo s0 s9) 0 0) 129 [some (.ref 67), some (.int y1), some (.int y2), some (.int y3), some (.int x4)] [] hb 0 0 := by
  intro n
  induction n with
  | zero =>
    intro x4 hf
    cases hf
  | succ n ih =>
    intro x4 hf
    replace hf : f_X12_order_L129_b q0 sb y1 y2 y3 (f_X12_order_L129 q0 sb y1 y2 y3 n) x4 = some (r9, s9) := hf
    unfold f_X12_order_L129_b at hf
    refine aw_iload_n (pc' := 130) dX12_order_129 rfl rfl ?_
    refine aw_iload (pc' := 132) dX12_order_130 rfl rfl ?_
    refine aw_ishr (pc' := 133) dX12_order_132 rfl ?_
    refine aw_iconst (v := 1) (pc' := 134) dX12_order_133 rfl ic_1 ?_
    refine aw_iand (pc' := 135) dX12_order_134 rfl ?_
    obtain ⟨k25, ek25, hf⟩ := jn_e hf
    have hk25 : k25 = some (r9, s9) → AW mX12_order (rmD (1) 0 0) (fin (PI fun r' h' => r9 = r' ∧ HH s9 h' ∧ Mo s0 s9) 0 0) 168 [some (.ref 67), some (.int y1), some (.int y2), some (.int y3), some (.int x4)] [] hb 0 0 := by
      intro hf
      subst ek25
      obtain ⟨v26, ev26, hf⟩ := vl_e hf
      refine aw_iincV (y := v26) (lv' := [_, _, _, _, _]) (pc' := 171) dX12_order_168 rfl rfl (Nat.le_of_ble_eq_true rfl) ev26 rfl ?_
      refine aw_goto (tgt := 129) dX12_order_171 rfl ?_
      exact ih _ hf
    clear ek25
    refine aw_if_eq (tgt := 168) (pc' := 138) dX12_order_135 rfl rfl (fun c27 => ?_) (fun c27 => ?_)
    · replace hf := ifp c27 hf
      exact hk25  hf
    · replace hf := ifn c27 hf
      refine aw_aload_n (pc' := 139) dX12_order_138 rfl rfl rfl ?_
      refine aw_iload (pc' := 141) dX12_order_139 rfl rfl ?_
      refine aw_iload_n (pc' := 142) dX12_order_141 rfl rfl ?_
      obtain ⟨r28, ec28, hf⟩ := b1_e hf
      refine aw_callVi (M' := mX12_costNext) (nc' := 0) (ns' := 0) (pc' := 145) dX12_order_142 rfl ml_RX12_437 kX12_costNext (t_X12_costNext Hb ec28) (Hb.ob (Hb.fo rfl rfl) (by decide)) rfl rfl rfl (Nat.le_of_ble_eq_true rfl) (rokD (by omega) (Nat.le_of_ble_eq_true rfl) (Nat.le_of_ble_eq_true rfl) (Nat.le_of_ble_eq_true rfl)) rfl rfl (fun _ h28 q28 => ?_)
      obtain ⟨rfl, rfl⟩ := q28
      refine aw_aload_n (pc' := 146) dX12_order_145 rfl rfl rfl ?_
      refine aw_gr (q := 59) (e := 101) (v := .ref 117) (pc' := 149) Hb (Hb.fo rfl rfl) (by decide) rfl rfl dX12_order_146 rfl fl_RX12_166 ?_
      refine aw_iload_n (pc' := 150) dX12_order_149 rfl rfl ?_
      refine aw_iconst (v := 1) (pc' := 151) dX12_order_150 rfl ic_1 ?_
      refine aw_iload (pc' := 153) dX12_order_151 rfl rfl ?_
      refine aw_ishl (pc' := 154) dX12_order_153 rfl ?_
      refine aw_iconst (v := (-1)) (pc' := 155) dX12_order_154 rfl ic_m1 ?_
      refine aw_ixor (pc' := 156) dX12_order_155 rfl ?_
      refine aw_iand (pc' := 157) dX12_order_156 rfl ?_
      obtain ⟨v29, ev29, hf⟩ := vl_e hf
      refine aw_topi ev29 ?_
      obtain ⟨g30, hf⟩ := gd_e hf
      refine aw_ia (q := 109) (pc' := 158) Hb (Hb.fa rfl rfl rfl) g30 dX12_order_157 rfl ?_
      refine aw_iadd (pc' := 159) dX12_order_158 rfl ?_
      refine aw_aload_n (pc' := 160) dX12_order_159 rfl rfl rfl ?_
      refine aw_gr (q := 59) (e := 101) (v := .ref 117) (pc' := 163) Hb (Hb.fo rfl rfl) (by decide) rfl rfl dX12_order_160 rfl fl_RX12_166 ?_
      refine aw_iload_n (pc' := 164) dX12_order_163 rfl rfl ?_
      obtain ⟨g31, hf⟩ := gd_e hf
      refine aw_ia (q := 109) (pc' := 165) Hb (Hb.fa rfl rfl rfl) g31 dX12_order_164 rfl ?_
      refine aw_icmp_eq (tgt := 174) (pc' := 168) dX12_order_165 rfl rfl (fun c32 => ?_) (fun c32 => ?_)
      · replace hf := ifp c32 hf
        exact hq0 _ hf
      · replace hf := ifn c32 hf
        exact hk25  hf
noncomputable def f_X12_order_L118_b (q0 : SS → Option (Int32 × SS)) (y2 : Int32) (rc : SS → Int32 → Int32 → Option (Int32 × SS)) (s : SS) (x1 : Int32) (x3 : Int32) : Option (Int32 × SS) := (if x3 < (zS s 59 67) then (f_X12_order_L129 (fun (x33_4 : Int32) => (gd (inB x3 10) (st (pI s 110 (x3.toInt.toNat) x33_4) fun s35 => (vl ((x1 &&& (((1 : Int32) <<< (x33_4 &&& 31)) ^^^ ((-1) : Int32)))) fun v36 => (vl (x3 + 1) fun v37 => (rc s35 v36 v37)))))) s x1 y2 x3 4000 0) else (q0 s))
noncomputable def f_X12_order_L118 (q0 : SS → Option (Int32 × SS)) (y2 : Int32) : Nat → SS → Int32 → Int32 → Option (Int32 × SS)
  | 0, _, _, _ => none
  | n + 1, s, x1, x3 => f_X12_order_L118_b q0 y2 (f_X12_order_L118 q0 y2 n) s x1 x3
set_option maxRecDepth 4000 in
theorem t_X12_order_L118 {r9 : Int32} {s0 sb s9 : SS} {q0 : SS → Option (Int32 × SS)} {y2 : Int32} (mb : Mo s0 sb) (hq0 : ∀ (s : SS) (h : List aE), HH s h → Mo sb s → q0 s = some (r9, s9) → AW mX12_order (rmD (1) 0 0) (fin (PI fun r' h' => r9 = r' ∧ HH s9 h' ∧ Mo s0 s9) 0 0) 197 [some (.ref 67), none, some (.int y2), none, none] [] h 0 0) : ∀ (n : Nat) (s : SS) (h : List aE) (x1 : Int32) (x3 : Int32), HH s h → Mo sb s → f_X12_order_L118 q0 y2 n s x1 x3 = some (r9, s9) → AW mX12_order (rmD (1) 0 0) (fin (PI fun r' h' => r9 = r' ∧ HH s9 h' ∧ Mo s0 s9) 0 0) 118 [some (.ref 67), some (.int x1), some (.int y2), some (.int x3), none] [] h 0 0 := by
  intro n
  induction n with
  | zero =>
    intro s h x1 x3 H ms hf
    cases hf
  | succ n ih =>
    intro s h x1 x3 H ms hf
    replace hf : f_X12_order_L118_b q0 y2 (f_X12_order_L118 q0 y2 n) s x1 x3 = some (r9, s9) := hf
    unfold f_X12_order_L118_b at hf
    refine aw_iload_n (pc' := 119) dX12_order_118 rfl rfl ?_
    refine aw_aload_n (pc' := 120) dX12_order_119 rfl rfl rfl ?_
    refine aw_gi (q := 59) (pc' := 123) H (H.fo rfl rfl) (by decide) rfl dX12_order_120 rfl fl_RX12_431 ?_
    refine aw_cge (tgt := 197) (pc' := 126) dX12_order_123 rfl rfl (fun c24 => ?_) (fun c24 => ?_)
    · replace hf := ifn c24 hf
      refine AW.lv_le (lz_k (lz_d (lz_k (lz_d (lz_d lz_0))))) ?_
      exact hq0 _ _ H ms hf
    · replace hf := ifp c24 hf
      refine aw_iconst (v := 0) (pc' := 127) dX12_order_126 rfl ic_0 ?_
      refine aw_istore (lv' := [_, _, _, _, _]) (pc' := 129) dX12_order_127 rfl (Nat.le_of_ble_eq_true rfl) rfl ?_
      refine t_X12_order_L129 H (mb.tr ms) (fun x33_4 hf => ?_) 4000 _ hf
      refine aw_aload_n (pc' := 175) dX12_order_174 rfl rfl rfl ?_
      refine aw_gr (q := 59) (e := 103) (v := .ref 118) (pc' := 178) H (H.fo rfl rfl) (by decide) rfl rfl dX12_order_175 rfl fl_RX12_172 ?_
      refine aw_iload_n (pc' := 179) dX12_order_178 rfl rfl ?_
      refine aw_iload (pc' := 181) dX12_order_179 rfl rfl ?_
      obtain ⟨g34, hf⟩ := gd_e hf
      obtain ⟨s35, es35, hf⟩ := st_e hf
      refine aw_is (q := 110) (pc' := 182) es35 H (H.fa rfl rfl rfl) g34 dX12_order_181 rfl (fun h35 H35 => ?_)
      have m35 := Mo.ofI es35
      refine aw_iload_n (pc' := 183) dX12_order_182 rfl rfl ?_
      refine aw_iconst (v := 1) (pc' := 184) dX12_order_183 rfl ic_1 ?_
      refine aw_iload (pc' := 186) dX12_order_184 rfl rfl ?_
      refine aw_ishl (pc' := 187) dX12_order_186 rfl ?_
      refine aw_iconst (v := (-1)) (pc' := 188) dX12_order_187 rfl ic_m1 ?_
      refine aw_ixor (pc' := 189) dX12_order_188 rfl ?_
      refine aw_iand (pc' := 190) dX12_order_189 rfl ?_
      obtain ⟨v36, ev36, hf⟩ := vl_e hf
      refine aw_topi ev36 ?_
      refine aw_istore_n (lv' := [_, _, _, _, _]) (pc' := 191) dX12_order_190 rfl (Nat.le_of_ble_eq_true rfl) rfl ?_
      obtain ⟨v37, ev37, hf⟩ := vl_e hf
      refine aw_iincV (y := v37) (lv' := [_, _, _, _, _]) (pc' := 194) dX12_order_191 rfl rfl (Nat.le_of_ble_eq_true rfl) ev37 rfl ?_
      refine aw_goto (tgt := 118) dX12_order_194 rfl ?_
      refine AW.lv_le (lz_k (lz_k (lz_k (lz_k (lz_d lz_0))))) ?_
      exact ih _ _ _ _ H35 (ms.tr m35) hf
noncomputable def f_X12_order (s0 : SS)  : Option (Int32 × SS) := (if (zS s0 59 67) = (0 : Int32) then some ((-1), s0) else (f_X12_order_L11 (fun (s20 : SS)  => (vl ((((1 : Int32) <<< ((zS s20 59 67) &&& 31)) - (1 : Int32))) fun v21 => (gd (inB v21 1024) (vl ((zI s20 109 (v21.toInt.toNat))) fun v23 => (f_X12_order_L118 (fun (s38 : SS)  => (vl ((zS s38 59 67)) fun v39 => (st (pS s38 59 72 v39) fun s40 => (st (pS s40 59 67 0) fun s41 => some (v23, s41))))) v23 4000 s20 v21 0))))) 4000 s0 1))
set_option maxRecDepth 4000 in
theorem t_X12_order {r9 : Int32} {s0 s9 : SS} {h0 : List aE}  (H0 : HH s0 h0) (hf : f_X12_order s0 = some (r9, s9)) : AM mX12_order (1) [.ref 67] h0 0 0 (PI fun r' h' => r9 = r' ∧ HH s9 h' ∧ Mo s0 s9) := by
  unfold f_X12_order at hf
  refine am_of (lv := [some (.ref 67), none, none, none, none]) rfl (Nat.le_of_ble_eq_true rfl) rfl ?_
  refine aw_aload_n (pc' := 1) dX12_order_0 rfl rfl rfl ?_
  refine aw_gi (q := 59) (pc' := 4) H0 (H0.fo rfl rfl) (l13 rfl) rfl dX12_order_1 rfl fl_RX12_431 ?_
  refine aw_if_ne (tgt := 9) (pc' := 7) dX12_order_4 rfl rfl (fun c1 => ?_) (fun c1 => ?_)
  · replace hf := ifn c1 hf
    refine aw_iconst (v := 1) (pc' := 10) dX12_order_9 rfl ic_1 ?_
    refine aw_istore_n (lv' := [_, _, _, _, _]) (pc' := 11) dX12_order_10 rfl (Nat.le_of_ble_eq_true rfl) rfl ?_
    refine t_X12_order_L11 (Mo.rf _) (fun s20 h20 H20 m20 hf => ?_) 4000 _ _ _ H0 (Mo.rf _) hf
    refine aw_iconst (v := 1) (pc' := 101) dX12_order_100 rfl ic_1 ?_
    refine aw_aload_n (pc' := 102) dX12_order_101 rfl rfl rfl ?_
    refine aw_gi (q := 59) (pc' := 105) H20 (H20.fo rfl rfl) (l13 rfl) rfl dX12_order_102 rfl fl_RX12_431 ?_
    refine aw_ishl (pc' := 106) dX12_order_105 rfl ?_
    refine aw_iconst (v := 1) (pc' := 107) dX12_order_106 rfl ic_1 ?_
    refine aw_isub (pc' := 108) dX12_order_107 rfl ?_
    obtain ⟨v21, ev21, hf⟩ := vl_e hf
    refine aw_topi ev21 ?_
    refine aw_istore_n (lv' := [_, _, _, _, _]) (pc' := 109) dX12_order_108 rfl (Nat.le_of_ble_eq_true rfl) rfl ?_
    refine aw_aload_n (pc' := 110) dX12_order_109 rfl rfl rfl ?_
    refine aw_gr (q := 59) (e := 101) (v := .ref 117) (pc' := 113) H20 (H20.fo rfl rfl) (l13 rfl) rfl rfl dX12_order_110 rfl fl_RX12_166 ?_
    refine aw_iload_n (pc' := 114) dX12_order_113 rfl rfl ?_
    obtain ⟨g22, hf⟩ := gd_e hf
    refine aw_ia (q := 109) (pc' := 115) H20 (H20.fa rfl rfl rfl) g22 dX12_order_114 rfl ?_
    obtain ⟨v23, ev23, hf⟩ := vl_e hf
    refine aw_topi ev23 ?_
    refine aw_istore_n (lv' := [_, _, _, _, _]) (pc' := 116) dX12_order_115 rfl (Nat.le_of_ble_eq_true rfl) rfl ?_
    refine aw_iconst (v := 0) (pc' := 117) dX12_order_116 rfl ic_0 ?_
    refine aw_istore_n (lv' := [_, _, _, _, _]) (pc' := 118) dX12_order_117 rfl (Nat.le_of_ble_eq_true rfl) rfl ?_
    refine t_X12_order_L118 m20 (fun s38 h38 H38 m38 hf => ?_) 4000 _ _ _ _ H20 (Mo.rf _) hf
    refine aw_aload_n (pc' := 198) dX12_order_197 rfl rfl rfl ?_
    refine aw_aload_n (pc' := 199) dX12_order_198 rfl rfl rfl ?_
    refine aw_gi (q := 59) (pc' := 202) H38 (H38.fo rfl rfl) (l13 rfl) rfl dX12_order_199 rfl fl_RX12_431 ?_
    obtain ⟨v39, ev39, hf⟩ := vl_e hf
    refine aw_topi ev39 ?_
    obtain ⟨s40, es40, hf⟩ := st_e hf
    refine aw_pi (q := 59) (pc' := 205) es40 H38 (H38.fo rfl rfl) (by decide) rfl dX12_order_202 rfl fl_RX12_169 rfl (fun h40 H40 => ?_)
    have m40 := Mo.ofS es40
    refine aw_aload_n (pc' := 206) dX12_order_205 rfl rfl rfl ?_
    refine aw_iconst (v := 0) (pc' := 207) dX12_order_206 rfl ic_0 ?_
    obtain ⟨s41, es41, hf⟩ := st_e hf
    refine aw_pi (q := 59) (pc' := 210) es41 H40 (H40.fo rfl rfl) (by decide) rfl dX12_order_207 rfl fl_RX12_431 rfl (fun h41 H41 => ?_)
    have m41 := Mo.ofS es41
    refine aw_iload_n (pc' := 211) dX12_order_210 rfl rfl ?_
    obtain ⟨rfl, rfl⟩ := so2 hf
    exact aw_ri dX12_order_211 rfl rfl (Nat.le_of_ble_eq_true rfl) (Nat.le_of_ble_eq_true rfl) ⟨rfl, H41, (((m20.tr m38).tr m40).tr m41)⟩
  · replace hf := ifp c1 hf
    refine aw_iconst (v := (-1)) (pc' := 8) dX12_order_7 rfl ic_m1 ?_
    obtain ⟨rfl, rfl⟩ := so2 hf
    exact aw_ri dX12_order_8 rfl rfl (Nat.le_of_ble_eq_true rfl) (Nat.le_of_ble_eq_true rfl) ⟨rfl, H0, (Mo.rf _)⟩
/-! ThirtyThreeBelowModel.ordered -/
noncomputable def f_X12_ordered (s0 : SS) (a0 : Int32) : Option Int32 := (b1 (f_X12_in a0 (0 : Int32) ((zS s0 59 72) - (1 : Int32))) fun r1 => (if r1 = (0 : Int32) then some (-1) else (gd (inB a0 10) (some (zI s0 110 (a0.toInt.toNat))))))
set_option maxRecDepth 4000 in
theorem t_X12_ordered {r9 : Int32} {s0 : SS} {h0 : List aE} {a0 : Int32} (H0 : HH s0 h0) (hf : f_X12_ordered s0 a0 = some r9) : AM mX12_ordered (1) [.ref 67, .int a0] h0 0 0 (PI fun r' h' => r9 = r' ∧ h0 = h') := by
  unfold f_X12_ordered at hf
  refine am_of (lv := [some (.ref 67), some (.int a0)]) rfl (Nat.le_of_ble_eq_true rfl) rfl ?_
  refine aw_iload_n (pc' := 1) dX12_ordered_0 rfl rfl ?_
  refine aw_iconst (v := 0) (pc' := 2) dX12_ordered_1 rfl ic_0 ?_
  refine aw_aload_n (pc' := 3) dX12_ordered_2 rfl rfl rfl ?_
  refine aw_gi (q := 59) (pc' := 6) H0 (H0.fo rfl rfl) (l13 rfl) rfl dX12_ordered_3 rfl fl_RX12_169 ?_
  refine aw_iconst (v := 1) (pc' := 7) dX12_ordered_6 rfl ic_1 ?_
  refine aw_isub (pc' := 8) dX12_ordered_7 rfl ?_
  obtain ⟨r1, ec1, hf⟩ := b1_e hf
  refine aw_callSi (M' := mX12_in) (nc' := 0) (ns' := 0) (pc' := 11) dX12_ordered_8 rfl ml_RX12_230 kX12_in (t_X12_in ec1) rfl rfl (Nat.le_of_ble_eq_true rfl) (rokD (by omega) (Nat.le_of_ble_eq_true rfl) (Nat.le_of_ble_eq_true rfl) (Nat.le_of_ble_eq_true rfl)) rfl rfl (fun _ h1 q1 => ?_)
  obtain ⟨rfl, rfl, zb1⟩ := q1
  refine aw_if_eq (tgt := 23) (pc' := 14) dX12_ordered_11 rfl rfl (fun c2 => ?_) (fun c2 => ?_)
  · replace hf := ifp c2 hf
    refine aw_iconst (v := (-1)) (pc' := 24) dX12_ordered_23 rfl ic_m1 ?_
    obtain rfl := Option.some.inj hf
    exact aw_ri dX12_ordered_24 rfl rfl (Nat.le_of_ble_eq_true rfl) (Nat.le_of_ble_eq_true rfl) ⟨rfl, rfl⟩
  · replace hf := ifn c2 hf
    refine aw_aload_n (pc' := 15) dX12_ordered_14 rfl rfl rfl ?_
    refine aw_gr (q := 59) (e := 103) (v := .ref 118) (pc' := 18) H0 (H0.fo rfl rfl) (l13 rfl) rfl rfl dX12_ordered_15 rfl fl_RX12_172 ?_
    refine aw_iload_n (pc' := 19) dX12_ordered_18 rfl rfl ?_
    obtain ⟨g3, hf⟩ := gd_e hf
    refine aw_ia (q := 110) (pc' := 20) H0 (H0.fa rfl rfl rfl) g3 dX12_ordered_19 rfl ?_
    refine aw_goto (tgt := 24) dX12_ordered_20 rfl ?_
    obtain rfl := Option.some.inj hf
    exact aw_ri dX12_ordered_24 rfl rfl (Nat.le_of_ble_eq_true rfl) (Nat.le_of_ble_eq_true rfl) ⟨rfl, rfl⟩
/-! ThirtyThreeBelowModel.watch -/
noncomputable def f_X12_watch_L29_b (q0 : SS → Int32 → Option (Int32 × SS)) (y1 : Int32) (y2 : Int32) (rc : SS → Int32 → Int32 → Int32 → Option (Int32 × SS)) (s : SS) (x3 : Int32) (x4 : Int32) (x5 : Int32) : Option (Int32 × SS) := (if x5 < (zS s 59 4) then (if x4 < (9 : Int32) then (gd (inB x5 120) (jn (fun (s8 : SS) (j8_3 : Int32) (j8_4 : Int32) => (vl (x5 + 1) fun v10 => (rc s8 j8_3 j8_4 v10))) fun k8 => (if (zI s 77 (x5.toInt.toNat)) = (0 : Int32) then (k8 s x3 x4) else (vl (x4 + 1) fun v12 => (gd (inB x5 120) (if y2 < (zI s 76 (x5.toInt.toNat)) then (k8 s x3 v12) else (if x3 = ((3 : Int32) * y1) then (k8 s x3 v12) else (gd (inB x3 9) (st (pI s 111 (x3.toInt.toNat) x5) fun s17 => (vl (x3 + 1) fun v18 => (k8 s17 v18 v12))))))))))) else (q0 s x3)) else (q0 s x3))
noncomputable def f_X12_watch_L29 (q0 : SS → Int32 → Option (Int32 × SS)) (y1 : Int32) (y2 : Int32) : Nat → SS → Int32 → Int32 → Int32 → Option (Int32 × SS)
  | 0, _, _, _, _ => none
  | n + 1, s, x3, x4, x5 => f_X12_watch_L29_b q0 y1 y2 (f_X12_watch_L29 q0 y1 y2 n) s x3 x4 x5
set_option maxRecDepth 4000 in
theorem t_X12_watch_L29 {r9 : Int32} {s0 sb s9 : SS} {q0 : SS → Int32 → Option (Int32 × SS)} {y1 : Int32} {y2 : Int32} (mb : Mo s0 sb) (hq0 : ∀ (s : SS) (h : List aE) (x3 : Int32), HH s h → Mo sb s → q0 s x3 = some (r9, s9) → AW mX12_watch (rmD (1) 0 0) (fin (PI fun r' h' => r9 = r' ∧ HH s9 h' ∧ Mo s0 s9) 0 0) 99 [some (.ref 67), some (.int y1), none, some (.int x3), none, none] [] h 0 0) : ∀ (n : Nat) (s : SS) (h : List aE) (x3 : Int32) (x4 : Int32) (x5 : Int32), HH s h → Mo sb s → f_X12_watch_L29 q0 y1 y2 n s x3 x4 x5 = some (r9, s9) → AW mX12_watch (rmD (1) 0 0) (fin (PI fun r' h' => r9 = r' ∧ HH s9 h' ∧ Mo s0 s9) 0 0) 29 [some (.ref 67), some (.int y1), some (.int y2), some (.int x3), some (.int x4), some (.int x5)] [] h 0 0 := by
  intro n
  induction n with
  | zero =>
    intro s h x3 x4 x5 H ms hf
    cases hf
  | succ n ih =>
    intro s h x3 x4 x5 H ms hf
    replace hf : f_X12_watch_L29_b q0 y1 y2 (f_X12_watch_L29 q0 y1 y2 n) s x3 x4 x5 = some (r9, s9) := hf
    unfold f_X12_watch_L29_b at hf
    refine aw_iload (pc' := 31) dX12_watch_29 rfl rfl ?_
    refine aw_aload_n (pc' := 32) dX12_watch_31 rfl rfl rfl ?_
    refine aw_gi (q := 59) (pc' := 35) H (H.fo rfl rfl) (by decide) rfl dX12_watch_32 rfl fl_RX12_242 ?_
    refine aw_cge (tgt := 99) (pc' := 38) dX12_watch_35 rfl rfl (fun c5 => ?_) (fun c5 => ?_)
    · replace hf := ifn c5 hf
      refine AW.lv_le (lz_k (lz_k (lz_d (lz_k (lz_d (lz_d lz_0)))))) ?_
      exact hq0 _ _ _ H ms hf
    · replace hf := ifp c5 hf
      refine aw_iload (pc' := 40) dX12_watch_38 rfl rfl ?_
      refine aw_bipush (v := 9) (pc' := 42) dX12_watch_40 rfl bp_9 ?_
      refine aw_cge (tgt := 99) (pc' := 45) dX12_watch_42 rfl rfl (fun c6 => ?_) (fun c6 => ?_)
      · replace hf := ifn c6 hf
        refine AW.lv_le (lz_k (lz_k (lz_d (lz_k (lz_d (lz_d lz_0)))))) ?_
        exact hq0 _ _ _ H ms hf
      · replace hf := ifp c6 hf
        refine aw_aload_n (pc' := 46) dX12_watch_45 rfl rfl rfl ?_
        refine aw_gr (q := 59) (e := 37) (v := .ref 85) (pc' := 49) H (H.fo rfl rfl) (by decide) rfl rfl dX12_watch_46 rfl fl_RX12_62 ?_
        refine aw_iload (pc' := 51) dX12_watch_49 rfl rfl ?_
        obtain ⟨g7, hf⟩ := gd_e hf
        refine aw_za (q := 77) (pc' := 52) H (H.fa rfl rfl rfl) g7 dX12_watch_51 rfl ?_
        obtain ⟨k8, ek8, hf⟩ := jn_e hf
        have hk8 : ∀ (s8 : SS) (h8 : List aE) (j8_3 : Int32) (j8_4 : Int32), HH s8 h8 → Mo s s8 → k8 s8 j8_3 j8_4 = some (r9, s9) → AW mX12_watch (rmD (1) 0 0) (fin (PI fun r' h' => r9 = r' ∧ HH s9 h' ∧ Mo s0 s9) 0 0) 93 [some (.ref 67), some (.int y1), some (.int y2), some (.int j8_3), some (.int j8_4), some (.int x5)] [] h8 0 0 := by
          intro s8 h8 j8_3 j8_4 H8 m8 hf
          subst ek8
          obtain ⟨v10, ev10, hf⟩ := vl_e hf
          refine aw_iincV (y := v10) (lv' := [_, _, _, _, _, _]) (pc' := 96) dX12_watch_93 rfl rfl (Nat.le_of_ble_eq_true rfl) ev10 rfl ?_
          refine aw_goto (tgt := 29) dX12_watch_96 rfl ?_
          exact ih _ _ _ _ _ H8 (ms.tr m8) hf
        clear ek8
        refine aw_if_ne (tgt := 58) (pc' := 55) dX12_watch_52 rfl rfl (fun c11 => ?_) (fun c11 => ?_)
        · replace hf := ifn c11 hf
          obtain ⟨v12, ev12, hf⟩ := vl_e hf
          refine aw_iincV (y := v12) (lv' := [_, _, _, _, _, _]) (pc' := 61) dX12_watch_58 rfl rfl (Nat.le_of_ble_eq_true rfl) ev12 rfl ?_
          refine aw_aload_n (pc' := 62) dX12_watch_61 rfl rfl rfl ?_
          refine aw_gr (q := 59) (e := 35) (v := .ref 84) (pc' := 65) H (H.fo rfl rfl) (by decide) rfl rfl dX12_watch_62 rfl fl_RX12_59 ?_
          refine aw_iload (pc' := 67) dX12_watch_65 rfl rfl ?_
          obtain ⟨g13, hf⟩ := gd_e hf
          refine aw_ia (q := 76) (pc' := 68) H (H.fa rfl rfl rfl) g13 dX12_watch_67 rfl ?_
          refine aw_iload_n (pc' := 69) dX12_watch_68 rfl rfl ?_
          refine aw_cgt (tgt := 93) (pc' := 72) dX12_watch_69 rfl rfl (fun c14 => ?_) (fun c14 => ?_)
          · replace hf := ifp c14 hf
            exact hk8 _ _ _ _ H (Mo.rf _) hf
          · replace hf := ifn c14 hf
            refine aw_iload_n (pc' := 73) dX12_watch_72 rfl rfl ?_
            refine aw_iconst (v := 3) (pc' := 74) dX12_watch_73 rfl ic_3 ?_
            refine aw_iload_n (pc' := 75) dX12_watch_74 rfl rfl ?_
            refine aw_imul (pc' := 76) dX12_watch_75 rfl ?_
            refine aw_icmp_ne (tgt := 82) (pc' := 79) dX12_watch_76 rfl rfl (fun c15 => ?_) (fun c15 => ?_)
            · replace hf := ifn c15 hf
              refine aw_aload_n (pc' := 83) dX12_watch_82 rfl rfl rfl ?_
              refine aw_gr (q := 59) (e := 105) (v := .ref 119) (pc' := 86) H (H.fo rfl rfl) (by decide) rfl rfl dX12_watch_83 rfl fl_RX12_178 ?_
              refine aw_iload_n (pc' := 87) dX12_watch_86 rfl rfl ?_
              refine aw_iload (pc' := 89) dX12_watch_87 rfl rfl ?_
              obtain ⟨g16, hf⟩ := gd_e hf
              obtain ⟨s17, es17, hf⟩ := st_e hf
              refine aw_is (q := 111) (pc' := 90) es17 H (H.fa rfl rfl rfl) g16 dX12_watch_89 rfl (fun h17 H17 => ?_)
              have m17 := Mo.ofI es17
              obtain ⟨v18, ev18, hf⟩ := vl_e hf
              refine aw_iincV (y := v18) (lv' := [_, _, _, _, _, _]) (pc' := 93) dX12_watch_90 rfl rfl (Nat.le_of_ble_eq_true rfl) ev18 rfl ?_
              exact hk8 _ _ _ _ H17 m17 hf
            · replace hf := ifp c15 hf
              refine aw_goto (tgt := 93) dX12_watch_79 rfl ?_
              exact hk8 _ _ _ _ H (Mo.rf _) hf
        · replace hf := ifp c11 hf
          refine aw_goto (tgt := 93) dX12_watch_55 rfl ?_
          exact hk8 _ _ _ _ H (Mo.rf _) hf
noncomputable def f_X12_watch_L102_b (q0 : SS → Option (Int32 × SS)) (y1 : Int32) (y3 : Int32) (rc : SS → Int32 → Option (Int32 × SS)) (s : SS) (x5 : Int32) : Option (Int32 × SS) := (if x5 < (9 : Int32) then (gd (inB x5 9) (st (pI s 111 (x5.toInt.toNat) (-2)) fun s22 => (vl (x5 + 1) fun v23 => (rc s22 v23)))) else (q0 s))
noncomputable def f_X12_watch_L102 (q0 : SS → Option (Int32 × SS)) (y1 : Int32) (y3 : Int32) : Nat → SS → Int32 → Option (Int32 × SS)
  | 0, _, _ => none
  | n + 1, s, x5 => f_X12_watch_L102_b q0 y1 y3 (f_X12_watch_L102 q0 y1 y3 n) s x5
set_option maxRecDepth 4000 in
theorem t_X12_watch_L102 {r9 : Int32} {s0 sb s9 : SS} {q0 : SS → Option (Int32 × SS)} {y1 : Int32} {y3 : Int32} (mb : Mo s0 sb) (hq0 : ∀ (s : SS) (h : List aE), HH s h → Mo sb s → q0 s = some (r9, s9) → AW mX12_watch (rmD (1) 0 0) (fin (PI fun r' h' => r9 = r' ∧ HH s9 h' ∧ Mo s0 s9) 0 0) 124 [some (.ref 67), some (.int y1), none, some (.int y3), none, none] [] h 0 0) : ∀ (n : Nat) (s : SS) (h : List aE) (x5 : Int32), HH s h → Mo sb s → f_X12_watch_L102 q0 y1 y3 n s x5 = some (r9, s9) → AW mX12_watch (rmD (1) 0 0) (fin (PI fun r' h' => r9 = r' ∧ HH s9 h' ∧ Mo s0 s9) 0 0) 102 [some (.ref 67), some (.int y1), none, some (.int y3), none, some (.int x5)] [] h 0 0 := by
  intro n
  induction n with
  | zero =>
    intro s h x5 H ms hf
    cases hf
  | succ n ih =>
    intro s h x5 H ms hf
    replace hf : f_X12_watch_L102_b q0 y1 y3 (f_X12_watch_L102 q0 y1 y3 n) s x5 = some (r9, s9) := hf
    unfold f_X12_watch_L102_b at hf
    refine aw_iload (pc' := 104) dX12_watch_102 rfl rfl ?_
    refine aw_bipush (v := 9) (pc' := 106) dX12_watch_104 rfl bp_9 ?_
    refine aw_cge (tgt := 124) (pc' := 109) dX12_watch_106 rfl rfl (fun c20 => ?_) (fun c20 => ?_)
    · replace hf := ifn c20 hf
      refine AW.lv_le (lz_k (lz_k (lz_d (lz_k (lz_d (lz_d lz_0)))))) ?_
      exact hq0 _ _ H ms hf
    · replace hf := ifp c20 hf
      refine aw_aload_n (pc' := 110) dX12_watch_109 rfl rfl rfl ?_
      refine aw_gr (q := 59) (e := 105) (v := .ref 119) (pc' := 113) H (H.fo rfl rfl) (by decide) rfl rfl dX12_watch_110 rfl fl_RX12_178 ?_
      refine aw_iload (pc' := 115) dX12_watch_113 rfl rfl ?_
      refine aw_bipush (v := (-2)) (pc' := 117) dX12_watch_115 rfl bp_m2 ?_
      obtain ⟨g21, hf⟩ := gd_e hf
      obtain ⟨s22, es22, hf⟩ := st_e hf
      refine aw_is (q := 111) (pc' := 118) es22 H (H.fa rfl rfl rfl) g21 dX12_watch_117 rfl (fun h22 H22 => ?_)
      have m22 := Mo.ofI es22
      obtain ⟨v23, ev23, hf⟩ := vl_e hf
      refine aw_iincV (y := v23) (lv' := [_, _, _, _, _, _]) (pc' := 121) dX12_watch_118 rfl rfl (Nat.le_of_ble_eq_true rfl) ev23 rfl ?_
      refine aw_goto (tgt := 102) dX12_watch_121 rfl ?_
      exact ih _ _ _ H22 (ms.tr m22) hf
noncomputable def f_X12_watch (s0 : SS) (a0 : Int32) (a1 : Int32) : Option (Int32 × SS) := (b1 (f_X12_in a0 (1 : Int32) (3 : Int32)) fun r1 => (if r1 = (0 : Int32) then some ((-1), s0) else (b1 (f_X12_in a1 (0 : Int32) (9 : Int32)) fun r3 => (if r3 = (0 : Int32) then some ((-1), s0) else (f_X12_watch_L29 (fun (s19 : SS) (x19_3 : Int32) => (f_X12_watch_L102 (fun (s24 : SS)  => (st (pS s24 59 74 a0) fun s25 => some (x19_3, s25))) a0 x19_3 4000 s19 x19_3)) a0 a1 4000 s0 0 0 0)))))
set_option maxRecDepth 4000 in
theorem t_X12_watch {r9 : Int32} {s0 s9 : SS} {h0 : List aE} {a0 : Int32} {a1 : Int32} (H0 : HH s0 h0) (hf : f_X12_watch s0 a0 a1 = some (r9, s9)) : AM mX12_watch (1) [.ref 67, .int a0, .int a1] h0 0 0 (PI fun r' h' => r9 = r' ∧ HH s9 h' ∧ Mo s0 s9) := by
  unfold f_X12_watch at hf
  refine am_of (lv := [some (.ref 67), some (.int a0), some (.int a1), none, none, none]) rfl (Nat.le_of_ble_eq_true rfl) rfl ?_
  refine aw_iload_n (pc' := 1) dX12_watch_0 rfl rfl ?_
  refine aw_iconst (v := 1) (pc' := 2) dX12_watch_1 rfl ic_1 ?_
  refine aw_iconst (v := 3) (pc' := 3) dX12_watch_2 rfl ic_3 ?_
  obtain ⟨r1, ec1, hf⟩ := b1_e hf
  refine aw_callSi (M' := mX12_in) (nc' := 0) (ns' := 0) (pc' := 6) dX12_watch_3 rfl ml_RX12_230 kX12_in (t_X12_in ec1) rfl rfl (Nat.le_of_ble_eq_true rfl) (rokD (by omega) (Nat.le_of_ble_eq_true rfl) (Nat.le_of_ble_eq_true rfl) (Nat.le_of_ble_eq_true rfl)) rfl rfl (fun _ h1 q1 => ?_)
  obtain ⟨rfl, rfl, zb1⟩ := q1
  refine aw_if_eq (tgt := 19) (pc' := 9) dX12_watch_6 rfl rfl (fun c2 => ?_) (fun c2 => ?_)
  · replace hf := ifp c2 hf
    refine aw_iconst (v := (-1)) (pc' := 20) dX12_watch_19 rfl ic_m1 ?_
    obtain ⟨rfl, rfl⟩ := so2 hf
    exact aw_ri dX12_watch_20 rfl rfl (Nat.le_of_ble_eq_true rfl) (Nat.le_of_ble_eq_true rfl) ⟨rfl, H0, (Mo.rf _)⟩
  · replace hf := ifn c2 hf
    refine aw_iload_n (pc' := 10) dX12_watch_9 rfl rfl ?_
    refine aw_iconst (v := 0) (pc' := 11) dX12_watch_10 rfl ic_0 ?_
    refine aw_bipush (v := 9) (pc' := 13) dX12_watch_11 rfl bp_9 ?_
    obtain ⟨r3, ec3, hf⟩ := b1_e hf
    refine aw_callSi (M' := mX12_in) (nc' := 0) (ns' := 0) (pc' := 16) dX12_watch_13 rfl ml_RX12_230 kX12_in (t_X12_in ec3) rfl rfl (Nat.le_of_ble_eq_true rfl) (rokD (by omega) (Nat.le_of_ble_eq_true rfl) (Nat.le_of_ble_eq_true rfl) (Nat.le_of_ble_eq_true rfl)) rfl rfl (fun _ h3 q3 => ?_)
    obtain ⟨rfl, rfl, zb3⟩ := q3
    refine aw_if_ne (tgt := 21) (pc' := 19) dX12_watch_16 rfl rfl (fun c4 => ?_) (fun c4 => ?_)
    · replace hf := ifn c4 hf
      refine aw_iconst (v := 0) (pc' := 22) dX12_watch_21 rfl ic_0 ?_
      refine aw_istore_n (lv' := [_, _, _, _, _, _]) (pc' := 23) dX12_watch_22 rfl (Nat.le_of_ble_eq_true rfl) rfl ?_
      refine aw_iconst (v := 0) (pc' := 24) dX12_watch_23 rfl ic_0 ?_
      refine aw_istore (lv' := [_, _, _, _, _, _]) (pc' := 26) dX12_watch_24 rfl (Nat.le_of_ble_eq_true rfl) rfl ?_
      refine aw_iconst (v := 0) (pc' := 27) dX12_watch_26 rfl ic_0 ?_
      refine aw_istore (lv' := [_, _, _, _, _, _]) (pc' := 29) dX12_watch_27 rfl (Nat.le_of_ble_eq_true rfl) rfl ?_
      refine t_X12_watch_L29 (Mo.rf _) (fun s19 h19 x19_3 H19 m19 hf => ?_) 4000 _ _ _ _ _ H0 (Mo.rf _) hf
      refine aw_iload_n (pc' := 100) dX12_watch_99 rfl rfl ?_
      refine aw_istore (lv' := [_, _, _, _, _, _]) (pc' := 102) dX12_watch_100 rfl (Nat.le_of_ble_eq_true rfl) rfl ?_
      refine t_X12_watch_L102 m19 (fun s24 h24 H24 m24 hf => ?_) 4000 _ _ _ H19 (Mo.rf _) hf
      refine aw_aload_n (pc' := 125) dX12_watch_124 rfl rfl rfl ?_
      refine aw_iload_n (pc' := 126) dX12_watch_125 rfl rfl ?_
      obtain ⟨s25, es25, hf⟩ := st_e hf
      refine aw_pi (q := 59) (pc' := 129) es25 H24 (H24.fo rfl rfl) (by decide) rfl dX12_watch_126 rfl fl_RX12_175 rfl (fun h25 H25 => ?_)
      have m25 := Mo.ofS es25
      refine aw_iload_n (pc' := 130) dX12_watch_129 rfl rfl ?_
      obtain ⟨rfl, rfl⟩ := so2 hf
      exact aw_ri dX12_watch_130 rfl rfl (Nat.le_of_ble_eq_true rfl) (Nat.le_of_ble_eq_true rfl) ⟨rfl, H25, ((m19.tr m24).tr m25)⟩
    · replace hf := ifp c4 hf
      refine aw_iconst (v := (-1)) (pc' := 20) dX12_watch_19 rfl ic_m1 ?_
      obtain ⟨rfl, rfl⟩ := so2 hf
      exact aw_ri dX12_watch_20 rfl rfl (Nat.le_of_ble_eq_true rfl) (Nat.le_of_ble_eq_true rfl) ⟨rfl, H0, (Mo.rf _)⟩
/-! ThirtyThreeBelowModel.watched -/
noncomputable def f_X12_watched (s0 : SS) (a0 : Int32) (a1 : Int32) : Option Int32 := (b1 (f_X12_in a0 (0 : Int32) (2 : Int32)) fun r1 => (if r1 = (0 : Int32) then some (-1) else (b1 (f_X12_in a1 (0 : Int32) ((zS s0 59 74) - (1 : Int32))) fun r3 => (if r3 = (0 : Int32) then some (-1) else (vl ((((zS s0 59 74) * a0) + a1)) fun v5 => (gd (inB v5 9) (some (zI s0 111 (v5.toInt.toNat)))))))))
set_option maxRecDepth 4000 in
theorem t_X12_watched {r9 : Int32} {s0 : SS} {h0 : List aE} {a0 : Int32} {a1 : Int32} (H0 : HH s0 h0) (hf : f_X12_watched s0 a0 a1 = some r9) : AM mX12_watched (1) [.ref 67, .int a0, .int a1] h0 0 0 (PI fun r' h' => r9 = r' ∧ h0 = h') := by
  unfold f_X12_watched at hf
  refine am_of (lv := [some (.ref 67), some (.int a0), some (.int a1)]) rfl (Nat.le_of_ble_eq_true rfl) rfl ?_
  refine aw_iload_n (pc' := 1) dX12_watched_0 rfl rfl ?_
  refine aw_iconst (v := 0) (pc' := 2) dX12_watched_1 rfl ic_0 ?_
  refine aw_iconst (v := 2) (pc' := 3) dX12_watched_2 rfl ic_2 ?_
  obtain ⟨r1, ec1, hf⟩ := b1_e hf
  refine aw_callSi (M' := mX12_in) (nc' := 0) (ns' := 0) (pc' := 6) dX12_watched_3 rfl ml_RX12_230 kX12_in (t_X12_in ec1) rfl rfl (Nat.le_of_ble_eq_true rfl) (rokD (by omega) (Nat.le_of_ble_eq_true rfl) (Nat.le_of_ble_eq_true rfl) (Nat.le_of_ble_eq_true rfl)) rfl rfl (fun _ h1 q1 => ?_)
  obtain ⟨rfl, rfl, zb1⟩ := q1
  refine aw_if_eq (tgt := 39) (pc' := 9) dX12_watched_6 rfl rfl (fun c2 => ?_) (fun c2 => ?_)
  · replace hf := ifp c2 hf
    refine aw_iconst (v := (-1)) (pc' := 40) dX12_watched_39 rfl ic_m1 ?_
    obtain rfl := Option.some.inj hf
    exact aw_ri dX12_watched_40 rfl rfl (Nat.le_of_ble_eq_true rfl) (Nat.le_of_ble_eq_true rfl) ⟨rfl, rfl⟩
  · replace hf := ifn c2 hf
    refine aw_iload_n (pc' := 10) dX12_watched_9 rfl rfl ?_
    refine aw_iconst (v := 0) (pc' := 11) dX12_watched_10 rfl ic_0 ?_
    refine aw_aload_n (pc' := 12) dX12_watched_11 rfl rfl rfl ?_
    refine aw_gi (q := 59) (pc' := 15) H0 (H0.fo rfl rfl) (l13 rfl) rfl dX12_watched_12 rfl fl_RX12_175 ?_
    refine aw_iconst (v := 1) (pc' := 16) dX12_watched_15 rfl ic_1 ?_
    refine aw_isub (pc' := 17) dX12_watched_16 rfl ?_
    obtain ⟨r3, ec3, hf⟩ := b1_e hf
    refine aw_callSi (M' := mX12_in) (nc' := 0) (ns' := 0) (pc' := 20) dX12_watched_17 rfl ml_RX12_230 kX12_in (t_X12_in ec3) rfl rfl (Nat.le_of_ble_eq_true rfl) (rokD (by omega) (Nat.le_of_ble_eq_true rfl) (Nat.le_of_ble_eq_true rfl) (Nat.le_of_ble_eq_true rfl)) rfl rfl (fun _ h3 q3 => ?_)
    obtain ⟨rfl, rfl, zb3⟩ := q3
    refine aw_if_eq (tgt := 39) (pc' := 23) dX12_watched_20 rfl rfl (fun c4 => ?_) (fun c4 => ?_)
    · replace hf := ifp c4 hf
      refine aw_iconst (v := (-1)) (pc' := 40) dX12_watched_39 rfl ic_m1 ?_
      obtain rfl := Option.some.inj hf
      exact aw_ri dX12_watched_40 rfl rfl (Nat.le_of_ble_eq_true rfl) (Nat.le_of_ble_eq_true rfl) ⟨rfl, rfl⟩
    · replace hf := ifn c4 hf
      refine aw_aload_n (pc' := 24) dX12_watched_23 rfl rfl rfl ?_
      refine aw_gr (q := 59) (e := 105) (v := .ref 119) (pc' := 27) H0 (H0.fo rfl rfl) (l13 rfl) rfl rfl dX12_watched_24 rfl fl_RX12_178 ?_
      refine aw_aload_n (pc' := 28) dX12_watched_27 rfl rfl rfl ?_
      refine aw_gi (q := 59) (pc' := 31) H0 (H0.fo rfl rfl) (l13 rfl) rfl dX12_watched_28 rfl fl_RX12_175 ?_
      refine aw_iload_n (pc' := 32) dX12_watched_31 rfl rfl ?_
      refine aw_imul (pc' := 33) dX12_watched_32 rfl ?_
      refine aw_iload_n (pc' := 34) dX12_watched_33 rfl rfl ?_
      refine aw_iadd (pc' := 35) dX12_watched_34 rfl ?_
      obtain ⟨v5, ev5, hf⟩ := vl_e hf
      refine aw_topi ev5 ?_
      obtain ⟨g6, hf⟩ := gd_e hf
      refine aw_ia (q := 111) (pc' := 36) H0 (H0.fa rfl rfl rfl) g6 dX12_watched_35 rfl ?_
      refine aw_goto (tgt := 40) dX12_watched_36 rfl ?_
      obtain rfl := Option.some.inj hf
      exact aw_ri dX12_watched_40 rfl rfl (Nat.le_of_ble_eq_true rfl) (Nat.le_of_ble_eq_true rfl) ⟨rfl, rfl⟩
/-! ThirtyThreeBelowModel.aim -/
noncomputable def f_X12_aim (s0 : SS) (a0 : Int32) (a1 : Int32) : Option (Int32 × SS) := (b1 (f_X12_in a0 (0 : Int32) (31 : Int32)) fun r1 => (if r1 = (0 : Int32) then some ((-1), s0) else (b1 (f_X12_in a1 (0 : Int32) (9 : Int32)) fun r3 => (if r3 = (0 : Int32) then some ((-1), s0) else (if (zS s0 59 76) = (6 : Int32) then some ((-3), s0) else (vl ((zS s0 59 76)) fun v6 => (gd (inB v6 6) (st (pI s0 112 (v6.toInt.toNat) a1) fun s8 => (vl (((zS s8 59 76) + (1 : Int32))) fun v10 => (st (pS s8 59 76 v10) fun s11 => some ((zS s11 59 76), s11)))))))))))
set_option maxRecDepth 4000 in
theorem t_X12_aim {r9 : Int32} {s0 s9 : SS} {h0 : List aE} {a0 : Int32} {a1 : Int32} (H0 : HH s0 h0) (hf : f_X12_aim s0 a0 a1 = some (r9, s9)) : AM mX12_aim (1) [.ref 67, .int a0, .int a1] h0 0 0 (PI fun r' h' => r9 = r' ∧ HH s9 h' ∧ Mo s0 s9) := by
  unfold f_X12_aim at hf
  refine am_of (lv := [some (.ref 67), some (.int a0), some (.int a1)]) rfl (Nat.le_of_ble_eq_true rfl) rfl ?_
  refine aw_iload_n (pc' := 1) dX12_aim_0 rfl rfl ?_
  refine aw_iconst (v := 0) (pc' := 2) dX12_aim_1 rfl ic_0 ?_
  refine aw_bipush (v := 31) (pc' := 4) dX12_aim_2 rfl bp_31 ?_
  obtain ⟨r1, ec1, hf⟩ := b1_e hf
  refine aw_callSi (M' := mX12_in) (nc' := 0) (ns' := 0) (pc' := 7) dX12_aim_4 rfl ml_RX12_230 kX12_in (t_X12_in ec1) rfl rfl (Nat.le_of_ble_eq_true rfl) (rokD (by omega) (Nat.le_of_ble_eq_true rfl) (Nat.le_of_ble_eq_true rfl) (Nat.le_of_ble_eq_true rfl)) rfl rfl (fun _ h1 q1 => ?_)
  obtain ⟨rfl, rfl, zb1⟩ := q1
  refine aw_if_eq (tgt := 20) (pc' := 10) dX12_aim_7 rfl rfl (fun c2 => ?_) (fun c2 => ?_)
  · replace hf := ifp c2 hf
    refine aw_iconst (v := (-1)) (pc' := 21) dX12_aim_20 rfl ic_m1 ?_
    obtain ⟨rfl, rfl⟩ := so2 hf
    exact aw_ri dX12_aim_21 rfl rfl (Nat.le_of_ble_eq_true rfl) (Nat.le_of_ble_eq_true rfl) ⟨rfl, H0, (Mo.rf _)⟩
  · replace hf := ifn c2 hf
    refine aw_iload_n (pc' := 11) dX12_aim_10 rfl rfl ?_
    refine aw_iconst (v := 0) (pc' := 12) dX12_aim_11 rfl ic_0 ?_
    refine aw_bipush (v := 9) (pc' := 14) dX12_aim_12 rfl bp_9 ?_
    obtain ⟨r3, ec3, hf⟩ := b1_e hf
    refine aw_callSi (M' := mX12_in) (nc' := 0) (ns' := 0) (pc' := 17) dX12_aim_14 rfl ml_RX12_230 kX12_in (t_X12_in ec3) rfl rfl (Nat.le_of_ble_eq_true rfl) (rokD (by omega) (Nat.le_of_ble_eq_true rfl) (Nat.le_of_ble_eq_true rfl) (Nat.le_of_ble_eq_true rfl)) rfl rfl (fun _ h3 q3 => ?_)
    obtain ⟨rfl, rfl, zb3⟩ := q3
    refine aw_if_ne (tgt := 22) (pc' := 20) dX12_aim_17 rfl rfl (fun c4 => ?_) (fun c4 => ?_)
    · replace hf := ifn c4 hf
      refine aw_aload_n (pc' := 23) dX12_aim_22 rfl rfl rfl ?_
      refine aw_gi (q := 59) (pc' := 26) H0 (H0.fo rfl rfl) (l13 rfl) rfl dX12_aim_23 rfl fl_RX12_440 ?_
      refine aw_bipush (v := 6) (pc' := 28) dX12_aim_26 rfl bp_6 ?_
      refine aw_icmp_ne (tgt := 34) (pc' := 31) dX12_aim_28 rfl rfl (fun c5 => ?_) (fun c5 => ?_)
      · replace hf := ifn c5 hf
        refine aw_aload_n (pc' := 35) dX12_aim_34 rfl rfl rfl ?_
        refine aw_gr (q := 59) (e := 107) (v := .ref 120) (pc' := 38) H0 (H0.fo rfl rfl) (l13 rfl) rfl rfl dX12_aim_35 rfl fl_RX12_181 ?_
        refine aw_aload_n (pc' := 39) dX12_aim_38 rfl rfl rfl ?_
        refine aw_gi (q := 59) (pc' := 42) H0 (H0.fo rfl rfl) (l13 rfl) rfl dX12_aim_39 rfl fl_RX12_440 ?_
        refine aw_iload_n (pc' := 43) dX12_aim_42 rfl rfl ?_
        obtain ⟨v6, ev6, hf⟩ := vl_e hf
        refine aw_sndi ev6 ?_
        obtain ⟨g7, hf⟩ := gd_e hf
        obtain ⟨s8, es8, hf⟩ := st_e hf
        refine aw_is (q := 112) (pc' := 44) es8 H0 (H0.fa rfl rfl rfl) g7 dX12_aim_43 rfl (fun h8 H8 => ?_)
        have m8 := Mo.ofI es8
        refine aw_aload_n (pc' := 45) dX12_aim_44 rfl rfl rfl ?_
        refine aw_dup (pc' := 46) dX12_aim_45 rfl rfl ?_
        refine aw_gi (q := 59) (pc' := 49) H8 (H8.fo rfl rfl) (l13 rfl) rfl dX12_aim_46 rfl fl_RX12_440 ?_
        refine aw_iconst (v := 1) (pc' := 50) dX12_aim_49 rfl ic_1 ?_
        refine aw_iadd (pc' := 51) dX12_aim_50 rfl ?_
        obtain ⟨v10, ev10, hf⟩ := vl_e hf
        refine aw_topi ev10 ?_
        obtain ⟨s11, es11, hf⟩ := st_e hf
        refine aw_pi (q := 59) (pc' := 54) es11 H8 (H8.fo rfl rfl) (by decide) rfl dX12_aim_51 rfl fl_RX12_440 rfl (fun h11 H11 => ?_)
        have m11 := Mo.ofS es11
        refine aw_aload_n (pc' := 55) dX12_aim_54 rfl rfl rfl ?_
        refine aw_gi (q := 59) (pc' := 58) H11 (H11.fo rfl rfl) (l13 rfl) rfl dX12_aim_55 rfl fl_RX12_440 ?_
        obtain ⟨rfl, rfl⟩ := so2 hf
        exact aw_ri dX12_aim_58 rfl rfl (Nat.le_of_ble_eq_true rfl) (Nat.le_of_ble_eq_true rfl) ⟨rfl, H11, (m8.tr m11)⟩
      · replace hf := ifp c5 hf
        refine aw_bipush (v := (-3)) (pc' := 33) dX12_aim_31 rfl bp_m3 ?_
        obtain ⟨rfl, rfl⟩ := so2 hf
        exact aw_ri dX12_aim_33 rfl rfl (Nat.le_of_ble_eq_true rfl) (Nat.le_of_ble_eq_true rfl) ⟨rfl, H0, (Mo.rf _)⟩
    · replace hf := ifp c4 hf
      refine aw_iconst (v := (-1)) (pc' := 21) dX12_aim_20 rfl ic_m1 ?_
      obtain ⟨rfl, rfl⟩ := so2 hf
      exact aw_ri dX12_aim_21 rfl rfl (Nat.le_of_ble_eq_true rfl) (Nat.le_of_ble_eq_true rfl) ⟨rfl, H0, (Mo.rf _)⟩
/-! ThirtyThreeBelowModel.rock -/
noncomputable def f_X12_rock (s0 : SS) (a0 : Int32) (a1 : Int32) (a2 : Int32) : Option (Int32 × SS) := (b1 (f_X12_in a0 (0 : Int32) (3 : Int32)) fun r1 => (if r1 = (0 : Int32) then some ((-1), s0) else (b1 (f_X12_in a1 (0 : Int32) (5 : Int32)) fun r3 => (if r3 = (0 : Int32) then some ((-1), s0) else (b1 (f_X12_in a2 (1 : Int32) (9 : Int32)) fun r5 => (if r5 = (0 : Int32) then some ((-1), s0) else (vl ((((6 : Int32) * a0) + a1)) fun v7 => (gd (inB v7 24) (vl ((zI s0 113 (v7.toInt.toNat))) fun v10 => (vl ((((6 : Int32) * a0) + a1)) fun v11 => (gd (inB v11 24) (st (pI s0 113 (v11.toInt.toNat) a2) fun s13 => some (v10, s13)))))))))))))
set_option maxRecDepth 4000 in
theorem t_X12_rock {r9 : Int32} {s0 s9 : SS} {h0 : List aE} {a0 : Int32} {a1 : Int32} {a2 : Int32} (H0 : HH s0 h0) (hf : f_X12_rock s0 a0 a1 a2 = some (r9, s9)) : AM mX12_rock (1) [.ref 67, .int a0, .int a1, .int a2] h0 0 0 (PI fun r' h' => r9 = r' ∧ HH s9 h' ∧ Mo s0 s9) := by
  unfold f_X12_rock at hf
  refine am_of (lv := [some (.ref 67), some (.int a0), some (.int a1), some (.int a2), none]) rfl (Nat.le_of_ble_eq_true rfl) rfl ?_
  refine aw_iload_n (pc' := 1) dX12_rock_0 rfl rfl ?_
  refine aw_iconst (v := 0) (pc' := 2) dX12_rock_1 rfl ic_0 ?_
  refine aw_iconst (v := 3) (pc' := 3) dX12_rock_2 rfl ic_3 ?_
  obtain ⟨r1, ec1, hf⟩ := b1_e hf
  refine aw_callSi (M' := mX12_in) (nc' := 0) (ns' := 0) (pc' := 6) dX12_rock_3 rfl ml_RX12_230 kX12_in (t_X12_in ec1) rfl rfl (Nat.le_of_ble_eq_true rfl) (rokD (by omega) (Nat.le_of_ble_eq_true rfl) (Nat.le_of_ble_eq_true rfl) (Nat.le_of_ble_eq_true rfl)) rfl rfl (fun _ h1 q1 => ?_)
  obtain ⟨rfl, rfl, zb1⟩ := q1
  refine aw_if_eq (tgt := 28) (pc' := 9) dX12_rock_6 rfl rfl (fun c2 => ?_) (fun c2 => ?_)
  · replace hf := ifp c2 hf
    refine aw_iconst (v := (-1)) (pc' := 29) dX12_rock_28 rfl ic_m1 ?_
    obtain ⟨rfl, rfl⟩ := so2 hf
    exact aw_ri dX12_rock_29 rfl rfl (Nat.le_of_ble_eq_true rfl) (Nat.le_of_ble_eq_true rfl) ⟨rfl, H0, (Mo.rf _)⟩
  · replace hf := ifn c2 hf
    refine aw_iload_n (pc' := 10) dX12_rock_9 rfl rfl ?_
    refine aw_iconst (v := 0) (pc' := 11) dX12_rock_10 rfl ic_0 ?_
    refine aw_iconst (v := 5) (pc' := 12) dX12_rock_11 rfl ic_5 ?_
    obtain ⟨r3, ec3, hf⟩ := b1_e hf
    refine aw_callSi (M' := mX12_in) (nc' := 0) (ns' := 0) (pc' := 15) dX12_rock_12 rfl ml_RX12_230 kX12_in (t_X12_in ec3) rfl rfl (Nat.le_of_ble_eq_true rfl) (rokD (by omega) (Nat.le_of_ble_eq_true rfl) (Nat.le_of_ble_eq_true rfl) (Nat.le_of_ble_eq_true rfl)) rfl rfl (fun _ h3 q3 => ?_)
    obtain ⟨rfl, rfl, zb3⟩ := q3
    refine aw_if_eq (tgt := 28) (pc' := 18) dX12_rock_15 rfl rfl (fun c4 => ?_) (fun c4 => ?_)
    · replace hf := ifp c4 hf
      refine aw_iconst (v := (-1)) (pc' := 29) dX12_rock_28 rfl ic_m1 ?_
      obtain ⟨rfl, rfl⟩ := so2 hf
      exact aw_ri dX12_rock_29 rfl rfl (Nat.le_of_ble_eq_true rfl) (Nat.le_of_ble_eq_true rfl) ⟨rfl, H0, (Mo.rf _)⟩
    · replace hf := ifn c4 hf
      refine aw_iload_n (pc' := 19) dX12_rock_18 rfl rfl ?_
      refine aw_iconst (v := 1) (pc' := 20) dX12_rock_19 rfl ic_1 ?_
      refine aw_bipush (v := 9) (pc' := 22) dX12_rock_20 rfl bp_9 ?_
      obtain ⟨r5, ec5, hf⟩ := b1_e hf
      refine aw_callSi (M' := mX12_in) (nc' := 0) (ns' := 0) (pc' := 25) dX12_rock_22 rfl ml_RX12_230 kX12_in (t_X12_in ec5) rfl rfl (Nat.le_of_ble_eq_true rfl) (rokD (by omega) (Nat.le_of_ble_eq_true rfl) (Nat.le_of_ble_eq_true rfl) (Nat.le_of_ble_eq_true rfl)) rfl rfl (fun _ h5 q5 => ?_)
      obtain ⟨rfl, rfl, zb5⟩ := q5
      refine aw_if_ne (tgt := 30) (pc' := 28) dX12_rock_25 rfl rfl (fun c6 => ?_) (fun c6 => ?_)
      · replace hf := ifn c6 hf
        refine aw_aload_n (pc' := 31) dX12_rock_30 rfl rfl rfl ?_
        refine aw_gr (q := 59) (e := 109) (v := .ref 121) (pc' := 34) H0 (H0.fo rfl rfl) (l13 rfl) rfl rfl dX12_rock_31 rfl fl_RX12_184 ?_
        refine aw_bipush (v := 6) (pc' := 36) dX12_rock_34 rfl bp_6 ?_
        refine aw_iload_n (pc' := 37) dX12_rock_36 rfl rfl ?_
        refine aw_imul (pc' := 38) dX12_rock_37 rfl ?_
        refine aw_iload_n (pc' := 39) dX12_rock_38 rfl rfl ?_
        refine aw_iadd (pc' := 40) dX12_rock_39 rfl ?_
        obtain ⟨v7, ev7, hf⟩ := vl_e hf
        refine aw_topi ev7 ?_
        obtain ⟨g8, hf⟩ := gd_e hf
        refine aw_ia (q := 113) (pc' := 41) H0 (H0.fa rfl rfl rfl) g8 dX12_rock_40 rfl ?_
        obtain ⟨v10, ev10, hf⟩ := vl_e hf
        refine aw_topi ev10 ?_
        refine aw_istore (lv' := [_, _, _, _, _]) (pc' := 43) dX12_rock_41 rfl (Nat.le_of_ble_eq_true rfl) rfl ?_
        refine aw_aload_n (pc' := 44) dX12_rock_43 rfl rfl rfl ?_
        refine aw_gr (q := 59) (e := 109) (v := .ref 121) (pc' := 47) H0 (H0.fo rfl rfl) (l13 rfl) rfl rfl dX12_rock_44 rfl fl_RX12_184 ?_
        refine aw_bipush (v := 6) (pc' := 49) dX12_rock_47 rfl bp_6 ?_
        refine aw_iload_n (pc' := 50) dX12_rock_49 rfl rfl ?_
        refine aw_imul (pc' := 51) dX12_rock_50 rfl ?_
        refine aw_iload_n (pc' := 52) dX12_rock_51 rfl rfl ?_
        refine aw_iadd (pc' := 53) dX12_rock_52 rfl ?_
        refine aw_iload_n (pc' := 54) dX12_rock_53 rfl rfl ?_
        obtain ⟨v11, ev11, hf⟩ := vl_e hf
        refine aw_sndi ev11 ?_
        obtain ⟨g12, hf⟩ := gd_e hf
        obtain ⟨s13, es13, hf⟩ := st_e hf
        refine aw_is (q := 113) (pc' := 55) es13 H0 (H0.fa rfl rfl rfl) g12 dX12_rock_54 rfl (fun h13 H13 => ?_)
        have m13 := Mo.ofI es13
        refine aw_iload (pc' := 57) dX12_rock_55 rfl rfl ?_
        obtain ⟨rfl, rfl⟩ := so2 hf
        exact aw_ri dX12_rock_57 rfl rfl (Nat.le_of_ble_eq_true rfl) (Nat.le_of_ble_eq_true rfl) ⟨rfl, H13, m13⟩
      · replace hf := ifp c6 hf
        refine aw_iconst (v := (-1)) (pc' := 29) dX12_rock_28 rfl ic_m1 ?_
        obtain ⟨rfl, rfl⟩ := so2 hf
        exact aw_ri dX12_rock_29 rfl rfl (Nat.le_of_ble_eq_true rfl) (Nat.le_of_ble_eq_true rfl) ⟨rfl, H0, (Mo.rf _)⟩
