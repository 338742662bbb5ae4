/-! ThirtyThreeBelowModel.text -/
def f_X12_text_L77_b (q0 : SS → Option (Int32 × SS)) (y1 : Int32) (y2 : Int32) (rc : SS → Option (Int32 × SS)) (s : SS) : Option (Int32 × SS) := (if (zS s 59 48) < (0 : Int32) then (b1 (f_X12_look s) fun r17 => (if r17 = (59 : Int32) then (vl (((zS s 59 47) + (1 : Int32))) fun v19 => (st (pS s 59 47 v19) fun s20 => (b1 (f_X12_readLine s20) fun s21 => (rc s21)))) else (q0 s))) else (q0 s))
def f_X12_text_L77 (q0 : SS → Option (Int32 × SS)) (y1 : Int32) (y2 : Int32) : Nat → SS → Option (Int32 × SS)
  | 0, _ => none
  | n + 1, s => f_X12_text_L77_b q0 y1 y2 (f_X12_text_L77 q0 y1 y2 n) s
set_option maxRecDepth 4000 in
theorem t_X12_text_L77 {r9 : Int32} {s0 sb s9 : SS} {q0 : SS → Option (Int32 × SS} {y1 : Int32} {y2 : Int32} (mb : Mo s0 sb) (hq0 : ∀ (s : SS) (h : List aE), HH s h → Mo sb s → q0 s = some (r9, s9) → AW mX12_text (rmD (7) 0 0) (fin (PI fun r' h' => r9 = r' ∧ HH s9 h' ∧ Mo s0 s9) 0 0) 110 [some (.ref 67), some (.int y1), some (.int y2)] [] h 0 0) : ∀ (n : Nat) (s : SS) (h : List aE), HH s h → Mo sb s → f_X12_text_L77 q0 y1 y2 n s = some (r9, s9) → AW mX12_text (rmD (7) 0 0) (fin (PI fun r' h' => r9 = r' ∧ HH s9 h' ∧ Mo s0 s9) 0 0) 77 [some (.ref 67), some (.int y1), some (.int y2)] [] h 0 0 := by
  intro n
  induction n with
  | zero =>
    intro s h H ms hf
    cases hf
  | succ n ih =>
    intro s h H ms hf
    replace hf : f_X12_text_L77_b q0 y1 y2 (f_X12_text_L77 q0 y1 y2 n) s = some (r9, s9) := hf
    unfold f_X12_text_L77_b at hf
    refine aw_aload_n (pc' := 78) dX12_text_77 rfl rfl rfl ?_
    refine aw_gi (q := 59) (pc' := 81) H (H.fo rfl rfl) (by decide) rfl dX12_text_78 rfl fl_RX12_322 ?_
    refine aw_zge (tgt := 110) (pc' := 84) dX12_text_81 (by decide) rfl (fun c16 => ?_) (fun c16 => ?_)
    · replace hf := ifn c16 hf
      exact hq0 _ _ H ms hf
    · replace hf := ifp c16 hf
      refine aw_aload_n (pc' := 85) dX12_text_84 rfl rfl rfl ?_
      obtain ⟨r17, ec17, hf⟩ := b1_e hf
      refine aw_callVi (M' := mX12_look) (nc' := 0) (ns' := 0) (pc' := 88) dX12_text_85 rfl ml_RX12_337 kX12_look (t_X12_look H ec17) (H.ob (H.fo rfl rfl) (by decide)) rfl rfl rfl (Nat.le_of_ble_eq_true rfl) (rokD (by omega) (Nat.le_of_ble_eq_true rfl) (Nat.le_of_ble_eq_true rfl) (Nat.le_of_ble_eq_true rfl)) rfl rfl (fun _ h17 q17 => ?_)
      obtain ⟨rfl, rfl⟩ := q17
      refine aw_bipush (v := 59) (pc' := 90) dX12_text_88 rfl (by decide) ?_
      refine aw_icmp_ne (tgt := 110) (pc' := 93) dX12_text_90 (by decide) rfl (fun c18 => ?_) (fun c18 => ?_)
      · replace hf := ifn c18 hf
        exact hq0 _ _ H ms hf
      · replace hf := ifp c18 hf
        refine aw_aload_n (pc' := 94) dX12_text_93 rfl rfl rfl ?_
        refine aw_dup (pc' := 95) dX12_text_94 rfl rfl ?_
        refine aw_gi (q := 59) (pc' := 98) H (H.fo rfl rfl) (by decide) rfl dX12_text_95 rfl fl_RX12_319 ?_
        refine aw_iconst (v := 1) (pc' := 99) dX12_text_98 rfl (by decide) ?_
        refine aw_iadd (pc' := 100) dX12_text_99 rfl ?_
        obtain ⟨v19, ev19, hf⟩ := vl_e hf
        refine aw_topi ev19 ?_
        obtain ⟨s20, es20, hf⟩ := st_e hf
        refine aw_pi (q := 59) (pc' := 103) es20 H (H.fo rfl rfl) (by decide) rfl dX12_text_100 rfl fl_RX12_319 rfl (fun h20 H20 => ?_)
        have m20 := Mo.ofS es20
        refine aw_aload_n (pc' := 104) dX12_text_103 rfl rfl rfl ?_
        obtain ⟨s21, ec21, hf⟩ := b1_e hf
        refine aw_callVv (M' := mX12_readLine) (nc' := 0) (ns' := 0) (pc' := 107) dX12_text_104 rfl ml_RX12_376 kX12_readLine (t_X12_readLine H20 ec21) (H20.ob (H20.fo rfl rfl) (by decide)) rfl rfl rfl (Nat.le_of_ble_eq_true rfl) (rokD (by omega) (Nat.le_of_ble_eq_true rfl) (Nat.le_of_ble_eq_true rfl) (Nat.le_of_ble_eq_true rfl)) rfl rfl (fun h21 q21 => ?_)
        obtain ⟨H21, m21⟩ := q21
        refine aw_goto (tgt := 77) dX12_text_107 (by decide) ?_
        exact ih _ _ H21 ((ms.tr m20).tr m21) hf
def f_X12_text (s0 : SS) (a0 : Int32) (a1 : Int32) : Option (Int32 × SS) := (b1 (f_X12_isWhat a0) fun r1 => (if r1 = (0 : Int32) then some ((-1), s0) else (b1 (f_X12_in a1 (zS s0 59 1) (1699 : Int32)) fun r3 => (if r3 = (0 : Int32) then some ((-1), s0) else (if (zS s0 59 38) = (16 : Int32) then some ((-3), s0) else (vl ((zS s0 59 38)) fun v6 => (st (pS s0 59 50 v6) fun s7 => (vl ((zS s7 59 50)) fun v8 => (gd (inB v8 17) (st (pI s7 90 (v8.toInt.toNat) 0) fun s10 => (st (pS s10 59 51 0) fun s11 => (st (pS s11 59 47 0) fun s12 => (st (pS s12 59 48 (-1)) fun s13 => (st (pS s13 59 49 0) fun s14 => (b1 (f_X12_readLine s14) fun s15 => (f_X12_text_L77 (fun (s22 : SS)  => (jn (fun (s23 : SS)  => (st (pS s23 59 37 0) fun s24 => (if (zS s24 59 48) < (0 : Int32) then (vl ((zS s24 59 38)) fun v26 => (gd (inB v26 16) (st (pI s24 87 (v26.toInt.toNat) a0) fun s28 => (vl ((zS s28 59 1)) fun v29 => (vl ((zS s28 59 38)) fun v30 => (gd (inB v30 16) (st (pI s28 88 (v30.toInt.toNat) v29) fun s32 => (vl ((zS s32 59 38)) fun v33 => (gd (inB v33 16) (st (pI s32 89 (v33.toInt.toNat) a1) fun s35 => (vl (((zS s35 59 38) + (1 : Int32))) fun v36 => (st (pS s35 59 38 v36) fun s37 => some (((zS s37 59 38) - (1 : Int32)), s37))))))))))))) else some ((((-100) : Int32) - (zS s24 59 48)), s24)))) fun k23 => (if (zS s22 59 48) < (0 : Int32) then (if (zS s22 59 47) < (zS s22 59 37) then (b1 (f_X12_faultHere s22) fun s40 => (k23 s40)) else (k23 s22)) else (k23 s22)))) a0 a1 4000 s15))))))))))))))))
set_option maxRecDepth 4000 in
theorem t_X12_text {r9 : Int32} {s0 s9 : SS} {h0 : List aE} {a0 : Int32} {a1 : Int32} (H0 : HH s0 h0) (hf : f_X12_text s0 a0 a1 = some (r9, s9)) : AM mX12_text (7) [.ref 67, .int a0, .int a1] h0 0 0 (PI fun r' h' => r9 = r' ∧ HH s9 h' ∧ Mo s0 s9) := by
  unfold f_X12_text at hf
  refine am_of (lv := [some (.ref 67), some (.int a0), some (.int a1)]) rfl (Nat.le_of_ble_eq_true rfl) rfl ?_
  refine aw_iload_n (pc' := 1) dX12_text_0 rfl rfl ?_
  obtain ⟨r1, ec1, hf⟩ := b1_e hf
  refine aw_callSi (M' := mX12_isWhat) (nc' := 0) (ns' := 0) (pc' := 4) dX12_text_1 rfl ml_RX12_370 kX12_isWhat (t_X12_isWhat ec1) rfl rfl (Nat.le_of_ble_eq_true rfl) (rokD (by omega) (Nat.le_of_ble_eq_true rfl) (Nat.le_of_ble_eq_true rfl) (Nat.le_of_ble_eq_true rfl)) rfl rfl (fun _ h1 q1 => ?_)
  obtain ⟨rfl, rfl, zb1⟩ := q1
  refine aw_if_eq (tgt := 21) (pc' := 7) dX12_text_4 (by decide) rfl (fun c2 => ?_) (fun c2 => ?_)
  · replace hf := ifp c2 hf
    refine aw_iconst (v := (-1)) (pc' := 22) dX12_text_21 rfl (by decide) ?_
    obtain ⟨rfl, rfl⟩ := so2 hf
    exact aw_ri dX12_text_22 rfl rfl (Nat.le_of_ble_eq_true rfl) (Nat.le_of_ble_eq_true rfl) ⟨rfl, H0, (Mo.rf _)⟩
  · replace hf := ifn c2 hf
    refine aw_iload_n (pc' := 8) dX12_text_7 rfl rfl ?_
    refine aw_aload_n (pc' := 9) dX12_text_8 rfl rfl rfl ?_
    refine aw_gi (q := 59) (pc' := 12) H0 (H0.fo rfl rfl) (by decide) rfl dX12_text_9 rfl fl_RX12_281 ?_
    refine aw_sipush (v := 1699) (pc' := 15) dX12_text_12 rfl (by decide) ?_
    obtain ⟨r3, ec3, hf⟩ := b1_e hf
    refine aw_callSi (M' := mX12_in) (nc' := 0) (ns' := 0) (pc' := 18) dX12_text_15 rfl ml_RX12_230 kX12_in (t_X12_in ec3) rfl rfl (Nat.le_of_ble_eq_true rfl) (rokD (by omega) (Nat.le_of_ble_eq_true rfl) (Nat.le_of_ble_eq_true rfl) (Nat.le_of_ble_eq_true rfl)) rfl rfl (fun _ h3 q3 => ?_)
    obtain ⟨rfl, rfl, zb3⟩ := q3
    refine aw_if_ne (tgt := 23) (pc' := 21) dX12_text_18 (by decide) rfl (fun c4 => ?_) (fun c4 => ?_)
    · replace hf := ifn c4 hf
      refine aw_aload_n (pc' := 24) dX12_text_23 rfl rfl rfl ?_
      refine aw_gi (q := 59) (pc' := 27) H0 (H0.fo rfl rfl) (by decide) rfl dX12_text_24 rfl fl_RX12_373 ?_
      refine aw_bipush (v := 16) (pc' := 29) dX12_text_27 rfl (by decide) ?_
      refine aw_icmp_ne (tgt := 35) (pc' := 32) dX12_text_29 (by decide) rfl (fun c5 => ?_) (fun c5 => ?_)
      · replace hf := ifn c5 hf
        refine aw_aload_n (pc' := 36) dX12_text_35 rfl rfl rfl ?_
        refine aw_aload_n (pc' := 37) dX12_text_36 rfl rfl rfl ?_
        refine aw_gi (q := 59) (pc' := 40) H0 (H0.fo rfl rfl) (by decide) rfl dX12_text_37 rfl fl_RX12_373 ?_
        obtain ⟨v6, ev6, hf⟩ := vl_e hf
        refine aw_topi ev6 ?_
        obtain ⟨s7, es7, hf⟩ := st_e hf
        refine aw_pi (q := 59) (pc' := 43) es7 H0 (H0.fo rfl rfl) (by decide) rfl dX12_text_40 rfl fl_RX12_325 rfl (fun h7 H7 => ?_)
        have m7 := Mo.ofS es7
        refine aw_aload_n (pc' := 44) dX12_text_43 rfl rfl rfl ?_
        refine aw_gr (q := 59) (e := 63) (v := .ref 98) (pc' := 47) H7 (H7.fo rfl rfl) (by decide) rfl rfl dX12_text_44 rfl fl_RX12_109 ?_
        refine aw_aload_n (pc' := 48) dX12_text_47 rfl rfl rfl ?_
        refine aw_gi (q := 59) (pc' := 51) H7 (H7.fo rfl rfl) (by decide) rfl dX12_text_48 rfl fl_RX12_325 ?_
        refine aw_iconst (v := 0) (pc' := 52) dX12_text_51 rfl (by decide) ?_
        obtain ⟨v8, ev8, hf⟩ := vl_e hf
        refine aw_sndi ev8 ?_
        obtain ⟨g9, hf⟩ := gd_e hf
        obtain ⟨s10, es10, hf⟩ := st_e hf
        refine aw_is (q := 90) (pc' := 53) es10 H7 (H7.fa rfl rfl rfl) g9 dX12_text_52 rfl (fun h10 H10 => ?_)
        have m10 := Mo.ofI es10
        refine aw_aload_n (pc' := 54) dX12_text_53 rfl rfl rfl ?_
        refine aw_iconst (v := 0) (pc' := 55) dX12_text_54 rfl (by decide) ?_
        obtain ⟨s11, es11, hf⟩ := st_e hf
        refine aw_pi (q := 59) (pc' := 58) es11 H10 (H10.fo rfl rfl) (by decide) rfl dX12_text_55 rfl fl_RX12_328 rfl (fun h11 H11 => ?_)
        have m11 := Mo.ofS es11
        refine aw_aload_n (pc' := 59) dX12_text_58 rfl rfl rfl ?_
        refine aw_iconst (v := 0) (pc' := 60) dX12_text_59 rfl (by decide) ?_
        obtain ⟨s12, es12, hf⟩ := st_e hf
        refine aw_pi (q := 59) (pc' := 63) es12 H11 (H11.fo rfl rfl) (by decide) rfl dX12_text_60 rfl fl_RX12_319 rfl (fun h12 H12 => ?_)
        have m12 := Mo.ofS es12
        refine aw_aload_n (pc' := 64) dX12_text_63 rfl rfl rfl ?_
        refine aw_iconst (v := (-1)) (pc' := 65) dX12_text_64 rfl (by decide) ?_
        obtain ⟨s13, es13, hf⟩ := st_e hf
        refine aw_pi (q := 59) (pc' := 68) es13 H12 (H12.fo rfl rfl) (by decide) rfl dX12_text_65 rfl fl_RX12_322 rfl (fun h13 H13 => ?_)
        have m13 := Mo.ofS es13
        refine aw_aload_n (pc' := 69) dX12_text_68 rfl rfl rfl ?_
        refine aw_iconst (v := 0) (pc' := 70) dX12_text_69 rfl (by decide) ?_
        obtain ⟨s14, es14, hf⟩ := st_e hf
        refine aw_pi (q := 59) (pc' := 73) es14 H13 (H13.fo rfl rfl) (by decide) rfl dX12_text_70 rfl fl_RX12_331 rfl (fun h14 H14 => ?_)
        have m14 := Mo.ofS es14
        refine aw_aload_n (pc' := 74) dX12_text_73 rfl rfl rfl ?_
        obtain ⟨s15, ec15, hf⟩ := b1_e hf
        refine aw_callVv (M' := mX12_readLine) (nc' := 0) (ns' := 0) (pc' := 77) dX12_text_74 rfl ml_RX12_376 kX12_readLine (t_X12_readLine H14 ec15) (H14.ob (H14.fo rfl rfl) (by decide)) rfl rfl rfl (Nat.le_of_ble_eq_true rfl) (rokD (by omega) (Nat.le_of_ble_eq_true rfl) (Nat.le_of_ble_eq_true rfl) (Nat.le_of_ble_eq_true rfl)) rfl rfl (fun h15 q15 => ?_)
        obtain ⟨H15, m15⟩ := q15
        refine t_X12_text_L77 ((((((m7.tr m10).tr m11).tr m12).tr m13).tr m14).tr m15) (fun s22 h22 H22 m22 hf => ?_) 4000 _ _ H15 (Mo.rf _) hf
        refine aw_aload_n (pc' := 111) dX12_text_110 rfl rfl rfl ?_
        refine aw_gi (q := 59) (pc' := 114) H22 (H22.fo rfl rfl) (by decide) rfl dX12_text_111 rfl fl_RX12_322 ?_
        obtain ⟨k23, ek23, hf⟩ := jn_e hf
        have hk23 : ∀ (s23 : SS) (h23 : List aE), HH s23 h23 → Mo s22 s23 → k23 s23 = some (r9, s9) → AW mX12_text (rmD (7) 0 0) (fin (PI fun r' h' => r9 = r' ∧ HH s9 h' ∧ Mo s0 s9) 0 0) 132 [some (.ref 67), some (.int a0), some (.int a1)] [] h23 0 0 := by
          intro s23 h23 H23 m23 hf
          subst ek23
          refine aw_aload_n (pc' := 133) dX12_text_132 rfl rfl rfl ?_
          refine aw_iconst (v := 0) (pc' := 134) dX12_text_133 rfl (by decide) ?_
          obtain ⟨s24, es24, hf⟩ := st_e hf
          refine aw_pi (q := 59) (pc' := 137) es24 H23 (H23.fo rfl rfl) (by decide) rfl dX12_text_134 rfl fl_RX12_316 rfl (fun h24 H24 => ?_)
          have m24 := Mo.ofS es24
          refine aw_aload_n (pc' := 138) dX12_text_137 rfl rfl rfl ?_
          refine aw_gi (q := 59) (pc' := 141) H24 (H24.fo rfl rfl) (by decide) rfl dX12_text_138 rfl fl_RX12_322 ?_
          refine aw_zlt (tgt := 152) (pc' := 144) dX12_text_141 (by decide) rfl (fun c25 => ?_) (fun c25 => ?_)
          · replace hf := ifp c25 hf
            refine aw_aload_n (pc' := 153) dX12_text_152 rfl rfl rfl ?_
            refine aw_gr (q := 59) (e := 57) (v := .ref 95) (pc' := 156) H24 (H24.fo rfl rfl) (by decide) rfl rfl dX12_text_153 rfl fl_RX12_100 ?_
            refine aw_aload_n (pc' := 157) dX12_text_156 rfl rfl rfl ?_
            refine aw_gi (q := 59) (pc' := 160) H24 (H24.fo rfl rfl) (by decide) rfl dX12_text_157 rfl fl_RX12_373 ?_
            refine aw_iload_n (pc' := 161) dX12_text_160 rfl rfl ?_
            obtain ⟨v26, ev26, hf⟩ := vl_e hf
            refine aw_sndi ev26 ?_
            obtain ⟨g27, hf⟩ := gd_e hf
            obtain ⟨s28, es28, hf⟩ := st_e hf
            refine aw_is (q := 87) (pc' := 162) es28 H24 (H24.fa rfl rfl rfl) g27 dX12_text_161 rfl (fun h28 H28 => ?_)
            have m28 := Mo.ofI es28
            refine aw_aload_n (pc' := 163) dX12_text_162 rfl rfl rfl ?_
            refine aw_gr (q := 59) (e := 59) (v := .ref 96) (pc' := 166) H28 (H28.fo rfl rfl) (by decide) rfl rfl dX12_text_163 rfl fl_RX12_103 ?_
            refine aw_aload_n (pc' := 167) dX12_text_166 rfl rfl rfl ?_
            refine aw_gi (q := 59) (pc' := 170) H28 (H28.fo rfl rfl) (by decide) rfl dX12_text_167 rfl fl_RX12_373 ?_
            refine aw_aload_n (pc' := 171) dX12_text_170 rfl rfl rfl ?_
            refine aw_gi (q := 59) (pc' := 174) H28 (H28.fo rfl rfl) (by decide) rfl dX12_text_171 rfl fl_RX12_281 ?_
            obtain ⟨v29, ev29, hf⟩ := vl_e hf
            refine aw_topi ev29 ?_
            obtain ⟨v30, ev30, hf⟩ := vl_e hf
            refine aw_sndi ev30 ?_
            obtain ⟨g31, hf⟩ := gd_e hf
            obtain ⟨s32, es32, hf⟩ := st_e hf
            refine aw_is (q := 88) (pc' := 175) es32 H28 (H28.fa rfl rfl rfl) g31 dX12_text_174 rfl (fun h32 H32 => ?_)
            have m32 := Mo.ofI es32
            refine aw_aload_n (pc' := 176) dX12_text_175 rfl rfl rfl ?_
            refine aw_gr (q := 59) (e := 61) (v := .ref 97) (pc' := 179) H32 (H32.fo rfl rfl) (by decide) rfl rfl dX12_text_176 rfl fl_RX12_106 ?_
            refine aw_aload_n (pc' := 180) dX12_text_179 rfl rfl rfl ?_
            refine aw_gi (q := 59) (pc' := 183) H32 (H32.fo rfl rfl) (by decide) rfl dX12_text_180 rfl fl_RX12_373 ?_
            refine aw_iload_n (pc' := 184) dX12_text_183 rfl rfl ?_
            obtain ⟨v33, ev33, hf⟩ := vl_e hf
            refine aw_sndi ev33 ?_
            obtain ⟨g34, hf⟩ := gd_e hf
            obtain ⟨s35, es35, hf⟩ := st_e hf
            refine aw_is (q := 89) (pc' := 185) es35 H32 (H32.fa rfl rfl rfl) g34 dX12_text_184 rfl (fun h35 H35 => ?_)
            have m35 := Mo.ofI es35
            refine aw_aload_n (pc' := 186) dX12_text_185 rfl rfl rfl ?_
            refine aw_dup (pc' := 187) dX12_text_186 rfl rfl ?_
            refine aw_gi (q := 59) (pc' := 190) H35 (H35.fo rfl rfl) (by decide) rfl dX12_text_187 rfl fl_RX12_373 ?_
            refine aw_iconst (v := 1) (pc' := 191) dX12_text_190 rfl (by decide) ?_
            refine aw_iadd (pc' := 192) dX12_text_191 rfl ?_
            obtain ⟨v36, ev36, hf⟩ := vl_e hf
            refine aw_topi ev36 ?_
            obtain ⟨s37, es37, hf⟩ := st_e hf
            refine aw_pi (q := 59) (pc' := 195) es37 H35 (H35.fo rfl rfl) (by decide) rfl dX12_text_192 rfl fl_RX12_373 rfl (fun h37 H37 => ?_)
            have m37 := Mo.ofS es37
            refine aw_aload_n (pc' := 196) dX12_text_195 rfl rfl rfl ?_
            refine aw_gi (q := 59) (pc' := 199) H37 (H37.fo rfl rfl) (by decide) rfl dX12_text_196 rfl fl_RX12_373 ?_
            refine aw_iconst (v := 1) (pc' := 200) dX12_text_199 rfl (by decide) ?_
            refine aw_isub (pc' := 201) dX12_text_200 rfl ?_
            obtain ⟨rfl, rfl⟩ := so2 hf
            exact aw_ri dX12_text_201 rfl rfl (Nat.le_of_ble_eq_true rfl) (Nat.le_of_ble_eq_true rfl) ⟨rfl, H37, (((((((((((((m7.tr m10).tr m11).tr m12).tr m13).tr m14).tr m15).tr m22).tr m23).tr m24).tr m28).tr m32).tr m35).tr m37)⟩
          · replace hf := ifn c25 hf
            refine aw_bipush (v := (-100)) (pc' := 146) dX12_text_144 rfl (by decide) ?_
            refine aw_aload_n (pc' := 147) dX12_text_146 rfl rfl rfl ?_
            refine aw_gi (q := 59) (pc' := 150) H24 (H24.fo rfl rfl) (by decide) rfl dX12_text_147 rfl fl_RX12_322 ?_
            refine aw_isub (pc' := 151) dX12_text_150 rfl ?_
            obtain ⟨rfl, rfl⟩ := so2 hf
            exact aw_ri dX12_text_151 rfl rfl (Nat.le_of_ble_eq_true rfl) (Nat.le_of_ble_eq_true rfl) ⟨rfl, H24, (((((((((m7.tr m10).tr m11).tr m12).tr m13).tr m14).tr m15).tr m22).tr m23).tr m24)⟩
        clear ek23
        refine aw_zge (tgt := 132) (pc' := 117) dX12_text_114 (by decide) rfl (fun c38 => ?_) (fun c38 => ?_)
        · replace hf := ifn c38 hf
          exact hk23 _ _ H22 (Mo.rf _) hf
        · replace hf := ifp c38 hf
          refine aw_aload_n (pc' := 118) dX12_text_117 rfl rfl rfl ?_
          refine aw_gi (q := 59) (pc' := 121) H22 (H22.fo rfl rfl) (by decide) rfl dX12_text_118 rfl fl_RX12_319 ?_
          refine aw_aload_n (pc' := 122) dX12_text_121 rfl rfl rfl ?_
          refine aw_gi (q := 59) (pc' := 125) H22 (H22.fo rfl rfl) (by decide) rfl dX12_text_122 rfl fl_RX12_316 ?_
          refine aw_cge (tgt := 132) (pc' := 128) dX12_text_125 (by decide) rfl (fun c39 => ?_) (fun c39 => ?_)
          · replace hf := ifn c39 hf
            exact hk23 _ _ H22 (Mo.rf _) hf
          · replace hf := ifp c39 hf
            refine aw_aload_n (pc' := 129) dX12_text_128 rfl rfl rfl ?_
            obtain ⟨s40, ec40, hf⟩ := b1_e hf
            refine aw_callVv (M' := mX12_faultHere) (nc' := 0) (ns' := 0) (pc' := 132) dX12_text_129 rfl ml_RX12_334 kX12_faultHere (t_X12_faultHere H22 ec40) (H22.ob (H22.fo rfl rfl) (by decide)) rfl rfl rfl (Nat.le_of_ble_eq_true rfl) (rokD (by omega) (Nat.le_of_ble_eq_true rfl) (Nat.le_of_ble_eq_true rfl) (Nat.le_of_ble_eq_true rfl)) rfl rfl (fun h40 q40 => ?_)
            obtain ⟨H40, m40⟩ := q40
            exact hk23 _ _ H40 m40 hf
      · replace hf := ifp c5 hf
        refine aw_bipush (v := (-3)) (pc' := 34) dX12_text_32 rfl (by decide) ?_
        obtain ⟨rfl, rfl⟩ := so2 hf
        exact aw_ri dX12_text_34 rfl rfl (Nat.le_of_ble_eq_true rfl) (Nat.le_of_ble_eq_true rfl) ⟨rfl, H0, (Mo.rf _)⟩
    · replace hf := ifp c4 hf
      refine aw_iconst (v := (-1)) (pc' := 22) dX12_text_21 rfl (by decide) ?_
      obtain ⟨rfl, rfl⟩ := so2 hf
      exact aw_ri dX12_text_22 rfl rfl (Nat.le_of_ble_eq_true rfl) (Nat.le_of_ble_eq_true rfl) ⟨rfl, H0, (Mo.rf _)⟩
/-! ThirtyThreeBelowModel.forceOf -/
def f_X12_forceOf_L23_b (s0 : SS) (y1 : Int32) (y2 : Int32) (y3 : Int32) (y4 : Int32) (rc : Int32 → Option Int32) (x5 : Int32) : Option Int32 := (if x5 < (0 : Int32) then some (-2) else (gd (inB x5 16) (jn ((vl (x5 + (-1)) fun v7 => (rc v7))) fun k6 => (if ((zI s0 87 (x5.toInt.toNat)) % (10 : Int32)) = (y1 % (10 : Int32)) then (gd (inB x5 16) (jn ((gd (inB x5 16) (if y3 < (zI s0 88 (x5.toInt.toNat)) then k6 else (gd (inB x5 16) (if y2 < (zI s0 89 (x5.toInt.toNat)) then k6 else some x5))))) fun k10 => (if ((zI s0 87 (x5.toInt.toNat)) / (10 : Int32)) = (y1 / (10 : Int32)) then k10 else (if y4 = (0 : Int32) then k6 else k10)))) else k6))))
def f_X12_forceOf_L23 (s0 : SS) (y1 : Int32) (y2 : Int32) (y3 : Int32) (y4 : Int32) : Nat → Int32 → Option Int32
  | 0, _ => none
  | n + 1, x5 => f_X12_forceOf_L23_b s0 y1 y2 y3 y4 (f_X12_forceOf_L23 s0 y1 y2 y3 y4 n) x5
set_option maxRecDepth 4000 in
theorem t_X12_forceOf_L23 {r9 : Int32} {s0 : SS} {h0 : List aE} {y1 : Int32} {y2 : Int32} {y3 : Int32} {y4 : Int32} (H0 : HH s0 h0)  : ∀ (n : Nat) (x5 : Int32), f_X12_forceOf_L23 s0 y1 y2 y3 y4 n x5 = some r9 → AW mX12_forceOf (rmD (1) 0 0) (fin (PI fun r' h' => r9 = r' ∧ h0 = h') 0 0) 23 [some (.ref 67), some (.int y1), some (.int y2), some (.int y3), some (.int y4), some (.int x5)] [] h0 0 0 := by
  intro n
  induction n with
  | zero =>
    intro x5 hf
    cases hf
  | succ n ih =>
    intro x5 hf
    replace hf : f_X12_forceOf_L23_b s0 y1 y2 y3 y4 (f_X12_forceOf_L23 s0 y1 y2 y3 y4 n) x5 = some r9 := hf
    unfold f_X12_forceOf_L23_b at hf
    refine aw_iload (pc' := 25) dX12_forceOf_23 rfl rfl ?_
    refine aw_zlt (tgt := 98) (pc' := 28) dX12_forceOf_25 (by decide) rfl (fun c4 => ?_) (fun c4 => ?_)
    · replace hf := ifp c4 hf
      refine aw_bipush (v := (-2)) (pc' := 100) dX12_forceOf_98 rfl (by decide) ?_
      obtain rfl := Option.some.inj hf
      exact aw_ri dX12_forceOf_100 rfl rfl (Nat.le_of_ble_eq_true rfl) (Nat.le_of_ble_eq_true rfl) ⟨rfl, rfl⟩
    · replace hf := ifn c4 hf
      refine aw_aload_n (pc' := 29) dX12_forceOf_28 rfl rfl rfl ?_
      refine aw_gr (q := 59) (e := 57) (v := .ref 95) (pc' := 32) H0 (H0.fo rfl rfl) (by decide) rfl rfl dX12_forceOf_29 rfl fl_RX12_100 ?_
      refine aw_iload (pc' := 34) dX12_forceOf_32 rfl rfl ?_
      obtain ⟨g5, hf⟩ := gd_e hf
      refine aw_ia (q := 87) (pc' := 35) H0 (H0.fa rfl rfl rfl) g5 dX12_forceOf_34 rfl ?_
      refine aw_bipush (v := 10) (pc' := 37) dX12_forceOf_35 rfl (by decide) ?_
      refine aw_irem (pc' := 38) dX12_forceOf_37 rfl (by decide) ?_
      refine aw_iload_n (pc' := 39) dX12_forceOf_38 rfl rfl ?_
      refine aw_bipush (v := 10) (pc' := 41) dX12_forceOf_39 rfl (by decide) ?_
      refine aw_irem (pc' := 42) dX12_forceOf_41 rfl (by decide) ?_
      obtain ⟨k6, ek6, hf⟩ := jn_e hf
      have hk6 : k6 = some r9 → AW mX12_forceOf (rmD (1) 0 0) (fin (PI fun r' h' => r9 = r' ∧ h0 = h') 0 0) 92 [some (.ref 67), some (.int y1), some (.int y2), some (.int y3), some (.int y4), some (.int x5)] [] h0 0 0 := by
        intro hf
        subst ek6
        obtain ⟨v7, ev7, hf⟩ := vl_e hf
        refine aw_iincV (y := v7) (lv' := [_, _, _, _, _, _]) (pc' := 95) dX12_forceOf_92 rfl rfl (Nat.le_of_ble_eq_true rfl) ev7 rfl ?_
        refine aw_goto (tgt := 23) dX12_forceOf_95 (by decide) ?_
        exact ih _ hf
      clear ek6
      refine aw_icmp_ne (tgt := 92) (pc' := 45) dX12_forceOf_42 (by decide) rfl (fun c8 => ?_) (fun c8 => ?_)
      · replace hf := ifn c8 hf
        exact hk6  hf
      · replace hf := ifp c8 hf
        refine aw_aload_n (pc' := 46) dX12_forceOf_45 rfl rfl rfl ?_
        refine aw_gr (q := 59) (e := 57) (v := .ref 95) (pc' := 49) H0 (H0.fo rfl rfl) (by decide) rfl rfl dX12_forceOf_46 rfl fl_RX12_100 ?_
        refine aw_iload (pc' := 51) dX12_forceOf_49 rfl rfl ?_
        obtain ⟨g9, hf⟩ := gd_e hf
        refine aw_ia (q := 87) (pc' := 52) H0 (H0.fa rfl rfl rfl) g9 dX12_forceOf_51 rfl ?_
        refine aw_bipush (v := 10) (pc' := 54) dX12_forceOf_52 rfl (by decide) ?_
        refine aw_idiv (pc' := 55) dX12_forceOf_54 rfl (by decide) ?_
        refine aw_iload_n (pc' := 56) dX12_forceOf_55 rfl rfl ?_
        refine aw_bipush (v := 10) (pc' := 58) dX12_forceOf_56 rfl (by decide) ?_
        refine aw_idiv (pc' := 59) dX12_forceOf_58 rfl (by decide) ?_
        obtain ⟨k10, ek10, hf⟩ := jn_e hf
        have hk10 : k10 = some r9 → AW mX12_forceOf (rmD (1) 0 0) (fin (PI fun r' h' => r9 = r' ∧ h0 = h') 0 0) 67 [some (.ref 67), some (.int y1), some (.int y2), some (.int y3), some (.int y4), some (.int x5)] [] h0 0 0 := by
          intro hf
          subst ek10
          refine aw_aload_n (pc' := 68) dX12_forceOf_67 rfl rfl rfl ?_
          refine aw_gr (q := 59) (e := 59) (v := .ref 96) (pc' := 71) H0 (H0.fo rfl rfl) (by decide) rfl rfl dX12_forceOf_68 rfl fl_RX12_103 ?_
          refine aw_iload (pc' := 73) dX12_forceOf_71 rfl rfl ?_
          obtain ⟨g11, hf⟩ := gd_e hf
          refine aw_ia (q := 88) (pc' := 74) H0 (H0.fa rfl rfl rfl) g11 dX12_forceOf_73 rfl ?_
          refine aw_iload_n (pc' := 75) dX12_forceOf_74 rfl rfl ?_
          refine aw_cgt (tgt := 92) (pc' := 78) dX12_forceOf_75 (by decide) rfl (fun c12 => ?_) (fun c12 => ?_)
          · replace hf := ifp c12 hf
            exact hk6  hf
          · replace hf := ifn c12 hf
            refine aw_aload_n (pc' := 79) dX12_forceOf_78 rfl rfl rfl ?_
            refine aw_gr (q := 59) (e := 61) (v := .ref 97) (pc' := 82) H0 (H0.fo rfl rfl) (by decide) rfl rfl dX12_forceOf_79 rfl fl_RX12_106 ?_
            refine aw_iload (pc' := 84) dX12_forceOf_82 rfl rfl ?_
            obtain ⟨g13, hf⟩ := gd_e hf
            refine aw_ia (q := 89) (pc' := 85) H0 (H0.fa rfl rfl rfl) g13 dX12_forceOf_84 rfl ?_
            refine aw_iload_n (pc' := 86) dX12_forceOf_85 rfl rfl ?_
            refine aw_cgt (tgt := 92) (pc' := 89) dX12_forceOf_86 (by decide) rfl (fun c14 => ?_) (fun c14 => ?_)
            · replace hf := ifp c14 hf
              exact hk6  hf
            · replace hf := ifn c14 hf
              refine aw_iload (pc' := 91) dX12_forceOf_89 rfl rfl ?_
              obtain rfl := Option.some.inj hf
              exact aw_ri dX12_forceOf_91 rfl rfl (Nat.le_of_ble_eq_true rfl) (Nat.le_of_ble_eq_true rfl) ⟨rfl, rfl⟩
        clear ek10
        refine aw_icmp_eq (tgt := 67) (pc' := 62) dX12_forceOf_59 (by decide) rfl (fun c15 => ?_) (fun c15 => ?_)
        · replace hf := ifp c15 hf
          exact hk10  hf
        · replace hf := ifn c15 hf
          refine aw_iload (pc' := 64) dX12_forceOf_62 rfl rfl ?_
          refine aw_if_eq (tgt := 92) (pc' := 67) dX12_forceOf_64 (by decide) rfl (fun c16 => ?_) (fun c16 => ?_)
          · replace hf := ifp c16 hf
            exact hk6  hf
          · replace hf := ifn c16 hf
            exact hk10  hf
def f_X12_forceOf (s0 : SS) (a0 : Int32) (a1 : Int32) (a2 : Int32) : Option Int32 := (b1 (f_X12_firstThrough s0) fun r1 => (jn (fun (t2_0 : Int32) => (vl (((zS s0 59 38) - (1 : Int32))) fun v3 => (f_X12_forceOf_L23 s0 a0 a1 a2 t2_0 4000 v3))) fun k2 => (if a2 < r1 then (k2 0) else (k2 1))))
set_option maxRecDepth 4000 in
theorem t_X12_forceOf {r9 : Int32} {s0 : SS} {h0 : List aE} {a0 : Int32} {a1 : Int32} {a2 : Int32} (H0 : HH s0 h0) (hf : f_X12_forceOf s0 a0 a1 a2 = some r9) : AM mX12_forceOf (1) [.ref 67, .int a0, .int a1, .int a2] h0 0 0 (PI fun r' h' => r9 = r' ∧ h0 = h') := by
  unfold f_X12_forceOf at hf
  refine am_of (lv := [some (.ref 67), some (.int a0), some (.int a1), some (.int a2), none, none]) rfl (Nat.le_of_ble_eq_true rfl) rfl ?_
  refine aw_aload_n (pc' := 1) dX12_forceOf_0 rfl rfl rfl ?_
  obtain ⟨r1, ec1, hf⟩ := b1_e hf
  refine aw_callVi (M' := mX12_firstThrough) (nc' := 0) (ns' := 0) (pc' := 4) dX12_forceOf_1 rfl ml_RX12_379 kX12_firstThrough (t_X12_firstThrough H0 ec1) (H0.ob (H0.fo rfl rfl) (by decide)) rfl rfl rfl (Nat.le_of_ble_eq_true rfl) (rokD (by omega) (Nat.le_of_ble_eq_true rfl) (Nat.le_of_ble_eq_true rfl) (Nat.le_of_ble_eq_true rfl)) rfl rfl (fun _ h1 q1 => ?_)
  obtain ⟨rfl, rfl⟩ := q1
  refine aw_iload_n (pc' := 5) dX12_forceOf_4 rfl rfl ?_
  obtain ⟨k2, ek2, hf⟩ := jn_e hf
  have hk2 : ∀ (t2_0 : Int32), k2 t2_0 = some r9 → AW mX12_forceOf (rmD (1) 0 0) (fin (PI fun r' h' => r9 = r' ∧ h0 = h') 0 0) 13 [some (.ref 67), some (.int a0), some (.int a1), some (.int a2), none, none] [.int t2_0] h0 0 0 := by
    intro t2_0 hf
    subst ek2
    refine aw_istore (lv' := [_, _, _, _, _, _]) (pc' := 15) dX12_forceOf_13 rfl (Nat.le_of_ble_eq_true rfl) rfl ?_
    refine aw_aload_n (pc' := 16) dX12_forceOf_15 rfl rfl rfl ?_
    refine aw_gi (q := 59) (pc' := 19) H0 (H0.fo rfl rfl) (by decide) rfl dX12_forceOf_16 rfl fl_RX12_373 ?_
    refine aw_iconst (v := 1) (pc' := 20) dX12_forceOf_19 rfl (by decide) ?_
    refine aw_isub (pc' := 21) dX12_forceOf_20 rfl ?_
    obtain ⟨v3, ev3, hf⟩ := vl_e hf
    refine aw_topi ev3 ?_
    refine aw_istore (lv' := [_, _, _, _, _, _]) (pc' := 23) dX12_forceOf_21 rfl (Nat.le_of_ble_eq_true rfl) rfl ?_
    refine t_X12_forceOf_L23 H0  4000 _ hf
  clear ek2
  refine aw_cgt (tgt := 12) (pc' := 8) dX12_forceOf_5 (by decide) rfl (fun c17 => ?_) (fun c17 => ?_)
  · replace hf := ifp c17 hf
    refine aw_iconst (v := 0) (pc' := 13) dX12_forceOf_12 rfl (by decide) ?_
    exact hk2 _ hf
  · replace hf := ifn c17 hf
    refine aw_iconst (v := 1) (pc' := 9) dX12_forceOf_8 rfl (by decide) ?_
    refine aw_goto (tgt := 13) dX12_forceOf_9 (by decide) ?_
    exact hk2 _ hf
/-! ThirtyThreeBelowModel.inForce -/
def f_X12_inForce (s0 : SS) (a0 : Int32) (a1 : Int32) (a2 : Int32) : Option Int32 := (b1 (f_X12_isWhat a0) fun r1 => (if r1 = (0 : Int32) then some (-1) else (b1 (f_X12_isHour a1) fun r3 => (if r3 = (0 : Int32) then some (-1) else (b1 (f_X12_isHour a2) fun r5 => (if r5 = (0 : Int32) then some (-1) else (b1 (f_X12_forceOf s0 a0 a1 a2) fun r7 => some r7)))))))
set_option maxRecDepth 4000 in
theorem t_X12_inForce {r9 : Int32} {s0 : SS} {h0 : List aE} {a0 : Int32} {a1 : Int32} {a2 : Int32} (H0 : HH s0 h0) (hf : f_X12_inForce s0 a0 a1 a2 = some r9) : AM mX12_inForce (2) [.ref 67, .int a0, .int a1, .int a2] h0 0 0 (PI fun r' h' => r9 = r' ∧ h0 = h') := by
  unfold f_X12_inForce at hf
  refine am_of (lv := [some (.ref 67), some (.int a0), some (.int a1), some (.int a2)]) rfl (Nat.le_of_ble_eq_true rfl) rfl ?_
  refine aw_iload_n (pc' := 1) dX12_inForce_0 rfl rfl ?_
  obtain ⟨r1, ec1, hf⟩ := b1_e hf
  refine aw_callSi (M' := mX12_isWhat) (nc' := 0) (ns' := 0) (pc' := 4) dX12_inForce_1 rfl ml_RX12_370 kX12_isWhat (t_X12_isWhat ec1) rfl rfl (Nat.le_of_ble_eq_true rfl) (rokD (by omega) (Nat.le_of_ble_eq_true rfl) (Nat.le_of_ble_eq_true rfl) (Nat.le_of_ble_eq_true rfl)) rfl rfl (fun _ h1 q1 => ?_)
  obtain ⟨rfl, rfl, zb1⟩ := q1
  refine aw_if_eq (tgt := 31) (pc' := 7) dX12_inForce_4 (by decide) rfl (fun c2 => ?_) (fun c2 => ?_)
  · replace hf := ifp c2 hf
    refine aw_iconst (v := (-1)) (pc' := 32) dX12_inForce_31 rfl (by decide) ?_
    obtain rfl := Option.some.inj hf
    exact aw_ri dX12_inForce_32 rfl rfl (Nat.le_of_ble_eq_true rfl) (Nat.le_of_ble_eq_true rfl) ⟨rfl, rfl⟩
  · replace hf := ifn c2 hf
    refine aw_iload_n (pc' := 8) dX12_inForce_7 rfl rfl ?_
    obtain ⟨r3, ec3, hf⟩ := b1_e hf
    refine aw_callSi (M' := mX12_isHour) (nc' := 0) (ns' := 0) (pc' := 11) dX12_inForce_8 rfl ml_RX12_382 kX12_isHour (t_X12_isHour ec3) rfl rfl (Nat.le_of_ble_eq_true rfl) (rokD (by omega) (Nat.le_of_ble_eq_true rfl) (Nat.le_of_ble_eq_true rfl) (Nat.le_of_ble_eq_true rfl)) rfl rfl (fun _ h3 q3 => ?_)
    obtain ⟨rfl, rfl, zb3⟩ := q3
    refine aw_if_eq (tgt := 31) (pc' := 14) dX12_inForce_11 (by decide) rfl (fun c4 => ?_) (fun c4 => ?_)
    · replace hf := ifp c4 hf
      refine aw_iconst (v := (-1)) (pc' := 32) dX12_inForce_31 rfl (by decide) ?_
      obtain rfl := Option.some.inj hf
      exact aw_ri dX12_inForce_32 rfl rfl (Nat.le_of_ble_eq_true rfl) (Nat.le_of_ble_eq_true rfl) ⟨rfl, rfl⟩
    · replace hf := ifn c4 hf
      refine aw_iload_n (pc' := 15) dX12_inForce_14 rfl rfl ?_
      obtain ⟨r5, ec5, hf⟩ := b1_e hf
      refine aw_callSi (M' := mX12_isHour) (nc' := 0) (ns' := 0) (pc' := 18) dX12_inForce_15 rfl ml_RX12_382 kX12_isHour (t_X12_isHour ec5) rfl rfl (Nat.le_of_ble_eq_true rfl) (rokD (by omega) (Nat.le_of_ble_eq_true rfl) (Nat.le_of_ble_eq_true rfl) (Nat.le_of_ble_eq_true rfl)) rfl rfl (fun _ h5 q5 => ?_)
      obtain ⟨rfl, rfl, zb5⟩ := q5
      refine aw_if_eq (tgt := 31) (pc' := 21) dX12_inForce_18 (by decide) rfl (fun c6 => ?_) (fun c6 => ?_)
      · replace hf := ifp c6 hf
        refine aw_iconst (v := (-1)) (pc' := 32) dX12_inForce_31 rfl (by decide) ?_
        obtain rfl := Option.some.inj hf
        exact aw_ri dX12_inForce_32 rfl rfl (Nat.le_of_ble_eq_true rfl) (Nat.le_of_ble_eq_true rfl) ⟨rfl, rfl⟩
      · replace hf := ifn c6 hf
        refine aw_aload_n (pc' := 22) dX12_inForce_21 rfl rfl rfl ?_
        refine aw_iload_n (pc' := 23) dX12_inForce_22 rfl rfl ?_
        refine aw_iload_n (pc' := 24) dX12_inForce_23 rfl rfl ?_
        refine aw_iload_n (pc' := 25) dX12_inForce_24 rfl rfl ?_
        obtain ⟨r7, ec7, hf⟩ := b1_e hf
        refine aw_callVi (M' := mX12_forceOf) (nc' := 0) (ns' := 0) (pc' := 28) dX12_inForce_25 rfl ml_RX12_385 kX12_forceOf (t_X12_forceOf H0 ec7) (H0.ob (H0.fo rfl rfl) (by decide)) rfl rfl rfl (Nat.le_of_ble_eq_true rfl) (rokD (by omega) (Nat.le_of_ble_eq_true rfl) (Nat.le_of_ble_eq_true rfl) (Nat.le_of_ble_eq_true rfl)) rfl rfl (fun _ h7 q7 => ?_)
        obtain ⟨rfl, rfl⟩ := q7
        refine aw_goto (tgt := 32) dX12_inForce_28 (by decide) ?_
        obtain rfl := Option.some.inj hf
        exact aw_ri dX12_inForce_32 rfl rfl (Nat.le_of_ble_eq_true rfl) (Nat.le_of_ble_eq_true rfl) ⟨rfl, rfl⟩
/-! ThirtyThreeBelowModel.both -/
def f_X12_both (a0 : Int32) (a1 : Int32) (a2 : Int32) : Option Int32 := (jn ((if a1 = (0 : Int32) then (if a2 = (0 : Int32) then some 0 else some 1) else some 1)) fun k1 => (if a0 = 37 then (if a2 = (0 : Int32) then some 0 else (if a2 = ((-1) : Int32) then some 0 else (gd (¬ a2 = 0) some (a1 % a2)))) else (if a0 = 38 then (if a1 = (0 : Int32) then some 0 else (if a2 = (0 : Int32) then some 0 else some 1)) else (if a0 = 39 then k1 else (if a0 = 40 then k1 else (if a0 = 41 then k1 else (if a0 = 42 then some (a1 * a2) else (if a0 = 43 then some (a1 + a2) else (if a0 = 44 then k1 else (if a0 = 45 then some (a1 - a2) else (if a0 = 46 then k1 else (if a0 = 47 then (if a2 = (0 : Int32) then some 0 else (if a2 = ((-1) : Int32) then some (-a1) else (gd (¬ a2 = 0) some (a1 / a2)))) else (if a0 = 48 then k1 else (if a0 = 49 then k1 else (if a0 = 50 then k1 else (if a0 = 51 then k1 else (if a0 = 52 then k1 else (if a0 = 53 then k1 else (if a0 = 54 then k1 else (if a0 = 55 then k1 else (if a0 = 56 then k1 else (if a0 = 57 then k1 else (if a0 = 58 then k1 else (if a0 = 59 then k1 else (if a0 = 60 then (if a1 < a2 then some 1 else some 0) else (if a0 = 61 then (if a1 = a2 then some 1 else some 0) else (if a0 = 62 then (if a2 < a1 then some 1 else some 0) else k1)))))))))))))))))))))))))))
set_option maxRecDepth 4000 in
theorem t_X12_both {r9 : Int32} {h0 : List aE} {a0 : Int32} {a1 : Int32} {a2 : Int32}  (hf : f_X12_both a0 a1 a2 = some r9) : AM mX12_both (0) [.int a0, .int a1, .int a2] h0 0 0 (PI fun r' h' => r9 = r' ∧ h0 = h') := by
  unfold f_X12_both at hf
  refine am_of (lv := [some (.int a0), some (.int a1), some (.int a2)]) rfl (Nat.le_of_ble_eq_true rfl) rfl ?_
  refine aw_iload_n (pc' := 1) dX12_both_0 rfl rfl ?_
  obtain ⟨k1, ek1, hf⟩ := jn_e hf
  have hk1 : k1 = some r9 → AW mX12_both (rmD (0) 0 0) (fin (PI fun r' h' => r9 = r' ∧ h0 = h') 0 0) 218 [none, some (.int a1), some (.int a2)] [] h0 0 0 := by
    intro hf
    subst ek1
    refine aw_iload_n (pc' := 219) dX12_both_218 rfl rfl ?_
    refine aw_if_ne (tgt := 226) (pc' := 222) dX12_both_219 (by decide) rfl (fun c2 => ?_) (fun c2 => ?_)
    · replace hf := ifn c2 hf
      refine aw_iconst (v := 1) (pc' := 227) dX12_both_226 rfl (by decide) ?_
      refine aw_goto (tgt := 231) dX12_both_227 (by decide) ?_
      obtain rfl := Option.some.inj hf
      exact aw_ri dX12_both_231 rfl rfl (Nat.le_of_ble_eq_true rfl) (Nat.le_of_ble_eq_true rfl) ⟨rfl, rfl⟩
    · replace hf := ifp c2 hf
      refine aw_iload_n (pc' := 223) dX12_both_222 rfl rfl ?_
      refine aw_if_eq (tgt := 230) (pc' := 226) dX12_both_223 (by decide) rfl (fun c3 => ?_) (fun c3 => ?_)
      · replace hf := ifp c3 hf
        refine aw_iconst (v := 0) (pc' := 231) dX12_both_230 rfl (by decide) ?_
        obtain rfl := Option.some.inj hf
        exact aw_ri dX12_both_231 rfl rfl (Nat.le_of_ble_eq_true rfl) (Nat.le_of_ble_eq_true rfl) ⟨rfl, rfl⟩
      · replace hf := ifn c3 hf
        refine aw_iconst (v := 1) (pc' := 227) dX12_both_226 rfl (by decide) ?_
        refine aw_goto (tgt := 231) dX12_both_227 (by decide) ?_
        obtain rfl := Option.some.inj hf
        exact aw_ri dX12_both_231 rfl rfl (Nat.le_of_ble_eq_true rfl) (Nat.le_of_ble_eq_true rfl) ⟨rfl, rfl⟩
  clear ek1
  rcases Decidable.em (a0 = 37) with c4 | c4
  · replace hf := ifp c4 hf
    refine aw_tabIn (tgt := 154) (off := 153) dX12_both_1 (by rw [c4]; decide) (by rw [c4]; decide) (by rw [c4]; decide) (by decide) ?_
    refine aw_iload_n (pc' := 155) dX12_both_154 rfl rfl ?_
    refine aw_if_eq (tgt := 163) (pc' := 158) dX12_both_155 (by decide) rfl (fun c5 => ?_) (fun c5 => ?_)
    · replace hf := ifp c5 hf
      refine aw_iconst (v := 0) (pc' := 164) dX12_both_163 rfl (by decide) ?_
      refine aw_goto (tgt := 170) dX12_both_164 (by decide) ?_
      obtain rfl := Option.some.inj hf
      exact aw_ri dX12_both_170 rfl rfl (Nat.le_of_ble_eq_true rfl) (Nat.le_of_ble_eq_true rfl) ⟨rfl, rfl⟩
    · replace hf := ifn c5 hf
      refine aw_iload_n (pc' := 159) dX12_both_158 rfl rfl ?_
      refine aw_iconst (v := (-1)) (pc' := 160) dX12_both_159 rfl (by decide) ?_
      refine aw_icmp_ne (tgt := 167) (pc' := 163) dX12_both_160 (by decide) rfl (fun c6 => ?_) (fun c6 => ?_)
      · replace hf := ifn c6 hf
        refine aw_iload_n (pc' := 168) dX12_both_167 rfl rfl ?_
        refine aw_iload_n (pc' := 169) dX12_both_168 rfl rfl ?_
        obtain ⟨g7, hf⟩ := gd_e hf
        refine aw_irem (pc' := 170) dX12_both_169 rfl g7 ?_
        obtain rfl := Option.some.inj hf
        exact aw_ri dX12_both_170 rfl rfl (Nat.le_of_ble_eq_true rfl) (Nat.le_of_ble_eq_true rfl) ⟨rfl, rfl⟩
      · replace hf := ifp c6 hf
        refine aw_iconst (v := 0) (pc' := 164) dX12_both_163 rfl (by decide) ?_
        refine aw_goto (tgt := 170) dX12_both_164 (by decide) ?_
        obtain rfl := Option.some.inj hf
        exact aw_ri dX12_both_170 rfl rfl (Nat.le_of_ble_eq_true rfl) (Nat.le_of_ble_eq_true rfl) ⟨rfl, rfl⟩
  replace hf := ifn c4 hf
  rcases Decidable.em (a0 = 38) with c8 | c8
  · replace hf := ifp c8 hf
    refine aw_tabIn (tgt := 204) (off := 203) dX12_both_1 (by rw [c8]; decide) (by rw [c8]; decide) (by rw [c8]; decide) (by decide) ?_
    refine aw_iload_n (pc' := 205) dX12_both_204 rfl rfl ?_
    refine aw_if_eq (tgt := 216) (pc' := 208) dX12_both_205 (by decide) rfl (fun c9 => ?_) (fun c9 => ?_)
    · replace hf := ifp c9 hf
      refine aw_iconst (v := 0) (pc' := 217) dX12_both_216 rfl (by decide) ?_
      obtain rfl := Option.some.inj hf
      exact aw_ri dX12_both_217 rfl rfl (Nat.le_of_ble_eq_true rfl) (Nat.le_of_ble_eq_true rfl) ⟨rfl, rfl⟩
    · replace hf := ifn c9 hf
      refine aw_iload_n (pc' := 209) dX12_both_208 rfl rfl ?_
      refine aw_if_eq (tgt := 216) (pc' := 212) dX12_both_209 (by decide) rfl (fun c10 => ?_) (fun c10 => ?_)
      · replace hf := ifp c10 hf
        refine aw_iconst (v := 0) (pc' := 217) dX12_both_216 rfl (by decide) ?_
        obtain rfl := Option.some.inj hf
        exact aw_ri dX12_both_217 rfl rfl (Nat.le_of_ble_eq_true rfl) (Nat.le_of_ble_eq_true rfl) ⟨rfl, rfl⟩
      · replace hf := ifn c10 hf
        refine aw_iconst (v := 1) (pc' := 213) dX12_both_212 rfl (by decide) ?_
        refine aw_goto (tgt := 217) dX12_both_213 (by decide) ?_
        obtain rfl := Option.some.inj hf
        exact aw_ri dX12_both_217 rfl rfl (Nat.le_of_ble_eq_true rfl) (Nat.le_of_ble_eq_true rfl) ⟨rfl, rfl⟩
  replace hf := ifn c8 hf
  rcases Decidable.em (a0 = 39) with c11 | c11
  · replace hf := ifp c11 hf
    refine aw_tabIn (tgt := 218) (off := 217) dX12_both_1 (by rw [c11]; decide) (by rw [c11]; decide) (by rw [c11]; decide) (by decide) ?_
    refine AW.lv_le (lz_d (lz_k (lz_k lz_0))) ?_
    exact hk1  hf
  replace hf := ifn c11 hf
  rcases Decidable.em (a0 = 40) with c12 | c12
  · replace hf := ifp c12 hf
    refine aw_tabIn (tgt := 218) (off := 217) dX12_both_1 (by rw [c12]; decide) (by rw [c12]; decide) (by rw [c12]; decide) (by decide) ?_
    refine AW.lv_le (lz_d (lz_k (lz_k lz_0))) ?_
    exact hk1  hf
  replace hf := ifn c12 hf
  rcases Decidable.em (a0 = 41) with c13 | c13
  · replace hf := ifp c13 hf
    refine aw_tabIn (tgt := 218) (off := 217) dX12_both_1 (by rw [c13]; decide) (by rw [c13]; decide) (by rw [c13]; decide) (by decide) ?_
    refine AW.lv_le (lz_d (lz_k (lz_k lz_0))) ?_
    exact hk1  hf
  replace hf := ifn c13 hf
  rcases Decidable.em (a0 = 42) with c14 | c14
  · replace hf := ifp c14 hf
    refine aw_tabIn (tgt := 128) (off := 127) dX12_both_1 (by rw [c14]; decide) (by rw [c14]; decide) (by rw [c14]; decide) (by decide) ?_
    refine aw_iload_n (pc' := 129) dX12_both_128 rfl rfl ?_
    refine aw_iload_n (pc' := 130) dX12_both_129 rfl rfl ?_
    refine aw_imul (pc' := 131) dX12_both_130 rfl ?_
    obtain rfl := Option.some.inj hf
    exact aw_ri dX12_both_131 rfl rfl (Nat.le_of_ble_eq_true rfl) (Nat.le_of_ble_eq_true rfl) ⟨rfl, rfl⟩
  replace hf := ifn c14 hf
  rcases Decidable.em (a0 = 43) with c15 | c15
  · replace hf := ifp c15 hf
    refine aw_tabIn (tgt := 120) (off := 119) dX12_both_1 (by rw [c15]; decide) (by rw [c15]; decide) (by rw [c15]; decide) (by decide) ?_
    refine aw_iload_n (pc' := 121) dX12_both_120 rfl rfl ?_
    refine aw_iload_n (pc' := 122) dX12_both_121 rfl rfl ?_
    refine aw_iadd (pc' := 123) dX12_both_122 rfl ?_
    obtain rfl := Option.some.inj hf
    exact aw_ri dX12_both_123 rfl rfl (Nat.le_of_ble_eq_true rfl) (Nat.le_of_ble_eq_true rfl) ⟨rfl, rfl⟩
  replace hf := ifn c15 hf
  rcases Decidable.em (a0 = 44) with c16 | c16
  · replace hf := ifp c16 hf
    refine aw_tabIn (tgt := 218) (off := 217) dX12_both_1 (by rw [c16]; decide) (by rw [c16]; decide) (by rw [c16]; decide) (by decide) ?_
    refine AW.lv_le (lz_d (lz_k (lz_k lz_0))) ?_
    exact hk1  hf
  replace hf := ifn c16 hf
  rcases Decidable.em (a0 = 45) with c17 | c17
  · replace hf := ifp c17 hf
    refine aw_tabIn (tgt := 124) (off := 123) dX12_both_1 (by rw [c17]; decide) (by rw [c17]; decide) (by rw [c17]; decide) (by decide) ?_
    refine aw_iload_n (pc' := 125) dX12_both_124 rfl rfl ?_
    refine aw_iload_n (pc' := 126) dX12_both_125 rfl rfl ?_
    refine aw_isub (pc' := 127) dX12_both_126 rfl ?_
    obtain rfl := Option.some.inj hf
    exact aw_ri dX12_both_127 rfl rfl (Nat.le_of_ble_eq_true rfl) (Nat.le_of_ble_eq_true rfl) ⟨rfl, rfl⟩
  replace hf := ifn c17 hf
  rcases Decidable.em (a0 = 46) with c18 | c18
  · replace hf := ifp c18 hf
    refine aw_tabIn (tgt := 218) (off := 217) dX12_both_1 (by rw [c18]; decide) (by rw [c18]; decide) (by rw [c18]; decide) (by decide) ?_
    refine AW.lv_le (lz_d (lz_k (lz_k lz_0))) ?_
    exact hk1  hf
  replace hf := ifn c18 hf
  rcases Decidable.em (a0 = 47) with c19 | c19
  · replace hf := ifp c19 hf
    refine aw_tabIn (tgt := 132) (off := 131) dX12_both_1 (by rw [c19]; decide) (by rw [c19]; decide) (by rw [c19]; decide) (by decide) ?_
    refine aw_iload_n (pc' := 133) dX12_both_132 rfl rfl ?_
    refine aw_if_ne (tgt := 140) (pc' := 136) dX12_both_133 (by decide) rfl (fun c20 => ?_) (fun c20 => ?_)
    · replace hf := ifn c20 hf
      refine aw_iload_n (pc' := 141) dX12_both_140 rfl rfl ?_
      refine aw_iconst (v := (-1)) (pc' := 142) dX12_both_141 rfl (by decide) ?_
      refine aw_icmp_ne (tgt := 150) (pc' := 145) dX12_both_142 (by decide) rfl (fun c21 => ?_) (fun c21 => ?_)
      · replace hf := ifn c21 hf
        refine aw_iload_n (pc' := 151) dX12_both_150 rfl rfl ?_
        refine aw_iload_n (pc' := 152) dX12_both_151 rfl rfl ?_
        obtain ⟨g22, hf⟩ := gd_e hf
        refine aw_idiv (pc' := 153) dX12_both_152 rfl g22 ?_
        obtain rfl := Option.some.inj hf
        exact aw_ri dX12_both_153 rfl rfl (Nat.le_of_ble_eq_true rfl) (Nat.le_of_ble_eq_true rfl) ⟨rfl, rfl⟩
      · replace hf := ifp c21 hf
        refine aw_iload_n (pc' := 146) dX12_both_145 rfl rfl ?_
        refine aw_ineg (pc' := 147) dX12_both_146 rfl ?_
        refine aw_goto (tgt := 153) dX12_both_147 (by decide) ?_
        obtain rfl := Option.some.inj hf
        exact aw_ri dX12_both_153 rfl rfl (Nat.le_of_ble_eq_true rfl) (Nat.le_of_ble_eq_true rfl) ⟨rfl, rfl⟩
    · replace hf := ifp c20 hf
      refine aw_iconst (v := 0) (pc' := 137) dX12_both_136 rfl (by decide) ?_
      refine aw_goto (tgt := 153) dX12_both_137 (by decide) ?_
      obtain rfl := Option.some.inj hf
      exact aw_ri dX12_both_153 rfl rfl (Nat.le_of_ble_eq_true rfl) (Nat.le_of_ble_eq_true rfl) ⟨rfl, rfl⟩
  replace hf := ifn c19 hf
  rcases Decidable.em (a0 = 48) with c23 | c23
  · replace hf := ifp c23 hf
    refine aw_tabIn (tgt := 218) (off := 217) dX12_both_1 (by rw [c23]; decide) (by rw [c23]; decide) (by rw [c23]; decide) (by decide) ?_
    refine AW.lv_le (lz_d (lz_k (lz_k lz_0))) ?_
    exact hk1  hf
  replace hf := ifn c23 hf
  rcases Decidable.em (a0 = 49) with c24 | c24
  · replace hf := ifp c24 hf
    refine aw_tabIn (tgt := 218) (off := 217) dX12_both_1 (by rw [c24]; decide) (by rw [c24]; decide) (by rw [c24]; decide) (by decide) ?_
    refine AW.lv_le (lz_d (lz_k (lz_k lz_0))) ?_
    exact hk1  hf
  replace hf := ifn c24 hf
  rcases Decidable.em (a0 = 50) with c25 | c25
  · replace hf := ifp c25 hf
    refine aw_tabIn (tgt := 218) (off := 217) dX12_both_1 (by rw [c25]; decide) (by rw [c25]; decide) (by rw [c25]; decide) (by decide) ?_
    refine AW.lv_le (lz_d (lz_k (lz_k lz_0))) ?_
    exact hk1  hf
  replace hf := ifn c25 hf
  rcases Decidable.em (a0 = 51) with c26 | c26
  · replace hf := ifp c26 hf
    refine aw_tabIn (tgt := 218) (off := 217) dX12_both_1 (by rw [c26]; decide) (by rw [c26]; decide) (by rw [c26]; decide) (by decide) ?_
    refine AW.lv_le (lz_d (lz_k (lz_k lz_0))) ?_
    exact hk1  hf
  replace hf := ifn c26 hf
  rcases Decidable.em (a0 = 52) with c27 | c27
  · replace hf := ifp c27 hf
    refine aw_tabIn (tgt := 218) (off := 217) dX12_both_1 (by rw [c27]; decide) (by rw [c27]; decide) (by rw [c27]; decide) (by decide) ?_
    refine AW.lv_le (lz_d (lz_k (lz_k lz_0))) ?_
    exact hk1  hf
  replace hf := ifn c27 hf
  rcases Decidable.em (a0 = 53) with c28 | c28
  · replace hf := ifp c28 hf
    refine aw_tabIn (tgt := 218) (off := 217) dX12_both_1 (by rw [c28]; decide) (by rw [c28]; decide) (by rw [c28]; decide) (by decide) ?_
    refine AW.lv_le (lz_d (lz_k (lz_k lz_0))) ?_
    exact hk1  hf
  replace hf := ifn c28 hf
  rcases Decidable.em (a0 = 54) with c29 | c29
  · replace hf := ifp c29 hf
    refine aw_tabIn (tgt := 218) (off := 217) dX12_both_1 (by rw [c29]; decide) (by rw [c29]; decide) (by rw [c29]; decide) (by decide) ?_
    refine AW.lv_le (lz_d (lz_k (lz_k lz_0))) ?_
    exact hk1  hf
  replace hf := ifn c29 hf
  rcases Decidable.em (a0 = 55) with c30 | c30
  · replace hf := ifp c30 hf
    refine aw_tabIn (tgt := 218) (off := 217) dX12_both_1 (by rw [c30]; decide) (by rw [c30]; decide) (by rw [c30]; decide) (by decide) ?_
    refine AW.lv_le (lz_d (lz_k (lz_k lz_0))) ?_
    exact hk1  hf
  replace hf := ifn c30 hf
  rcases Decidable.em (a0 = 56) with c31 | c31
  · replace hf := ifp c31 hf
    refine aw_tabIn (tgt := 218) (off := 217) dX12_both_1 (by rw [c31]; decide) (by rw [c31]; decide) (by rw [c31]; decide) (by decide) ?_
    refine AW.lv_le (lz_d (lz_k (lz_k lz_0))) ?_
    exact hk1  hf
  replace hf := ifn c31 hf
  rcases Decidable.em (a0 = 57) with c32 | c32
  · replace hf := ifp c32 hf
    refine aw_tabIn (tgt := 218) (off := 217) dX12_both_1 (by rw [c32]; decide) (by rw [c32]; decide) (by rw [c32]; decide) (by decide) ?_
    refine AW.lv_le (lz_d (lz_k (lz_k lz_0))) ?_
    exact hk1  hf
  replace hf := ifn c32 hf
  rcases Decidable.em (a0 = 58) with c33 | c33
  · replace hf := ifp c33 hf
    refine aw_tabIn (tgt := 218) (off := 217) dX12_both_1 (by rw [c33]; decide) (by rw [c33]; decide) (by rw [c33]; decide) (by decide) ?_
    refine AW.lv_le (lz_d (lz_k (lz_k lz_0))) ?_
    exact hk1  hf
  replace hf := ifn c33 hf
  rcases Decidable.em (a0 = 59) with c34 | c34
  · replace hf := ifp c34 hf
    refine aw_tabIn (tgt := 218) (off := 217) dX12_both_1 (by rw [c34]; decide) (by rw [c34]; decide) (by rw [c34]; decide) (by decide) ?_
    refine AW.lv_le (lz_d (lz_k (lz_k lz_0))) ?_
    exact hk1  hf
  replace hf := ifn c34 hf
  rcases Decidable.em (a0 = 60) with c35 | c35
  · replace hf := ifp c35 hf
    refine aw_tabIn (tgt := 171) (off := 170) dX12_both_1 (by rw [c35]; decide) (by rw [c35]; decide) (by rw [c35]; decide) (by decide) ?_
    refine aw_iload_n (pc' := 172) dX12_both_171 rfl rfl ?_
    refine aw_iload_n (pc' := 173) dX12_both_172 rfl rfl ?_
    refine aw_cge (tgt := 180) (pc' := 176) dX12_both_173 (by decide) rfl (fun c36 => ?_) (fun c36 => ?_)
    · replace hf := ifn c36 hf
      refine aw_iconst (v := 0) (pc' := 181) dX12_both_180 rfl (by decide) ?_
      obtain rfl := Option.some.inj hf
      exact aw_ri dX12_both_181 rfl rfl (Nat.le_of_ble_eq_true rfl) (Nat.le_of_ble_eq_true rfl) ⟨rfl, rfl⟩
    · replace hf := ifp c36 hf
      refine aw_iconst (v := 1) (pc' := 177) dX12_both_176 rfl (by decide) ?_
      refine aw_goto (tgt := 181) dX12_both_177 (by decide) ?_
      obtain rfl := Option.some.inj hf
      exact aw_ri dX12_both_181 rfl rfl (Nat.le_of_ble_eq_true rfl) (Nat.le_of_ble_eq_true rfl) ⟨rfl, rfl⟩
  replace hf := ifn c35 hf
  rcases Decidable.em (a0 = 61) with c37 | c37
  · replace hf := ifp c37 hf
    refine aw_tabIn (tgt := 182) (off := 181) dX12_both_1 (by rw [c37]; decide) (by rw [c37]; decide) (by rw [c37]; decide) (by decide) ?_
    refine aw_iload_n (pc' := 183) dX12_both_182 rfl rfl ?_
    refine aw_iload_n (pc' := 184) dX12_both_183 rfl rfl ?_
    refine aw_icmp_ne (tgt := 191) (pc' := 187) dX12_both_184 (by decide) rfl (fun c38 => ?_) (fun c38 => ?_)
    · replace hf := ifn c38 hf
      refine aw_iconst (v := 0) (pc' := 192) dX12_both_191 rfl (by decide) ?_
      obtain rfl := Option.some.inj hf
      exact aw_ri dX12_both_192 rfl rfl (Nat.le_of_ble_eq_true rfl) (Nat.le_of_ble_eq_true rfl) ⟨rfl, rfl⟩
    · replace hf := ifp c38 hf
      refine aw_iconst (v := 1) (pc' := 188) dX12_both_187 rfl (by decide) ?_
      refine aw_goto (tgt := 192) dX12_both_188 (by decide) ?_
      obtain rfl := Option.some.inj hf
      exact aw_ri dX12_both_192 rfl rfl (Nat.le_of_ble_eq_true rfl) (Nat.le_of_ble_eq_true rfl) ⟨rfl, rfl⟩
  replace hf := ifn c37 hf
  rcases Decidable.em (a0 = 62) with c39 | c39
  · replace hf := ifp c39 hf
    refine aw_tabIn (tgt := 193) (off := 192) dX12_both_1 (by rw [c39]; decide) (by rw [c39]; decide) (by rw [c39]; decide) (by decide) ?_
    refine aw_iload_n (pc' := 194) dX12_both_193 rfl rfl ?_
    refine aw_iload_n (pc' := 195) dX12_both_194 rfl rfl ?_
    refine aw_cle (tgt := 202) (pc' := 198) dX12_both_195 (by decide) rfl (fun c40 => ?_) (fun c40 => ?_)
    · replace hf := ifn c40 hf
      refine aw_iconst (v := 0) (pc' := 203) dX12_both_202 rfl (by decide) ?_
      obtain rfl := Option.some.inj hf
      exact aw_ri dX12_both_203 rfl rfl (Nat.le_of_ble_eq_true rfl) (Nat.le_of_ble_eq_true rfl) ⟨rfl, rfl⟩
    · replace hf := ifp c40 hf
      refine aw_iconst (v := 1) (pc' := 199) dX12_both_198 rfl (by decide) ?_
      refine aw_goto (tgt := 203) dX12_both_199 (by decide) ?_
      obtain rfl := Option.some.inj hf
      exact aw_ri dX12_both_203 rfl rfl (Nat.le_of_ble_eq_true rfl) (Nat.le_of_ble_eq_true rfl) ⟨rfl, rfl⟩
  replace hf := ifn c39 hf
  refine aw_tabOut (tgt := 218) dX12_both_1 (by have a0 := tneK (K := 37) (by decide) c4; have a1 := tneK (K := 38) (by decide) c8; have a2 := tneK (K := 39) (by decide) c11; have a3 := tneK (K := 40) (by decide) c12; have a4 := tneK (K := 41) (by decide) c13; have a5 := tneK (K := 42) (by decide) c14; have a6 := tneK (K := 43) (by decide) c15; have a7 := tneK (K := 44) (by decide) c16; have a8 := tneK (K := 45) (by decide) c17; have a9 := tneK (K := 46) (by decide) c18; have a10 := tneK (K := 47) (by decide) c19; have a11 := tneK (K := 48) (by decide) c23; have a12 := tneK (K := 49) (by decide) c24; have a13 := tneK (K := 50) (by decide) c25; have a14 := tneK (K := 51) (by decide) c26; have a15 := tneK (K := 52) (by decide) c27; have a16 := tneK (K := 53) (by decide) c28; have a17 := tneK (K := 54) (by decide) c29; have a18 := tneK (K := 55) (by decide) c30; have a19 := tneK (K := 56) (by decide) c31; have a20 := tneK (K := 57) (by decide) c32; have a21 := tneK (K := 58) (by decide) c33; have a22 := tneK (K := 59) (by decide) c34; have a23 := tneK (K := 60) (by decide) c35; have a24 := tneK (K := 61) (by decide) c37; have a25 := tneK (K := 62) (by decide) c39; omega) (by decide) ?_
  refine AW.lv_le (lz_d (lz_k (lz_k lz_0))) ?_
  exact hk1  hf
/-! ThirtyThreeBelowModel.worked -/
def f_X12_worked_L12_b (q0 : SS → Option (Int32 × SS)) (y1 : Int32) (y3 : Int32) (rc : SS → Int32 → Int32 → Option (Int32 × SS)) (s : SS) (x4 : Int32) (x5 : Int32) : Option (Int32 × SS) := (if x5 < (((170 : Int32) * y1) + y3) then (gd (inB x5 2890) (vl ((zI s 93 (x5.toInt.toNat))) fun v4 => (jn (fun (s5 : SS) (j5_4 : Int32) => (vl (x5 + 1) fun v6 => (rc s5 j5_4 v6))) fun k5 => (jn ((jn (fun (t8_0 : Int32) => (gd (inB x4 170) (st (pI s 96 (x4.toInt.toNat) t8_0) fun s10 => (vl (x4 + 1) fun v11 => (k5 s10 v11))))) fun k8 => (if v4 = (1 : Int32) then (gd (inB x5 2890) (k8 (zI s 94 (x5.toInt.toNat)))) else (gd (inB x5 2890) (vl ((zI s 94 (x5.toInt.toNat))) fun v14 => (gd (inB v14 8) (k8 (zI s 95 (v14.toInt.toNat))))))))) fun k7 => (if v4 = (1 : Int32) then k7 else (if v4 = (2 : Int32) then k7 else (if v4 = (3 : Int32) then (vl ((x4 - (1 : Int32))) fun v35 => (gd (inB v35 170) (jn (fun (t37_0 : Int32) => (vl ((x4 - (1 : Int32))) fun v38 => (gd (inB v38 170) (st (pI s 96 (v38.toInt.toNat) t37_0) fun s40 => (k5 s40 x4))))) fun k37 => (if (zI s 96 (v35.toInt.toNat)) = (0 : Int32) then (k37 1) else (k37 0))))) else (if v4 = (4 : Int32) then (vl ((x4 - (1 : Int32))) fun v29 => (gd (inB v29 170) (vl ((-(zI s 96 (v29.toInt.toNat)))) fun v31 => (vl ((x4 - (1 : Int32))) fun v32 => (gd (inB v32 170) (st (pI s 96 (v32.toInt.toNat) v31) fun s34 => (k5 s34 x4))))))) else (vl (x4 + (-1)) fun v21 => (vl ((v21 - (1 : Int32))) fun v22 => (gd (inB v22 170) (gd (inB v21 170) (b1 (f_X12_both v4 (zI s 96 (v22.toInt.toNat)) (zI s 96 (v21.toInt.toNat))) fun r25 => (vl ((v21 - (1 : Int32))) fun v26 => (gd (inB v26 170) (st (pI s 96 (v26.toInt.toNat) r25) fun s28 => (k5 s28 v21))))))))))))))))) else (q0 s))
def f_X12_worked_L12 (q0 : SS → Option (Int32 × SS)) (y1 : Int32) (y3 : Int32) : Nat → SS → Int32 → Int32 → Option (Int32 × SS)
  | 0, _, _, _ => none
  | n + 1, s, x4, x5 => f_X12_worked_L12_b q0 y1 y3 (f_X12_worked_L12 q0 y1 y3 n) s x4 x5
set_option maxRecDepth 4000 in
theorem t_X12_worked_L12 {r9 : Int32} {s0 sb s9 : SS} {q0 : SS → Option (Int32 × SS} {y1 : Int32} {y3 : Int32} (mb : Mo s0 sb) (hq0 : ∀ (s : SS) (h : List aE), HH s h → Mo sb s → q0 s = some (r9, s9) → AW mX12_worked (rmD (1) 0 0) (fin (PI fun r' h' => r9 = r' ∧ HH s9 h' ∧ Mo s0 s9) 0 0) 188 [some (.ref 67), none, none, none, none, none, none] [] h 0 0) : ∀ (n : Nat) (s : SS) (h : List aE) (x4 : Int32) (x5 : Int32), HH s h → Mo sb s → f_X12_worked_L12 q0 y1 y3 n s x4 x5 = some (r9, s9) → AW mX12_worked (rmD (1) 0 0) (fin (PI fun r' h' => r9 = r' ∧ HH s9 h' ∧ Mo s0 s9) 0 0) 12 [some (.ref 67), some (.int y1), none, some (.int y3), some (.int x4), some (.int x5), none] [] h 0 0 := by
  intro n
  induction n with
  | zero =>
    intro s h x4 x5 H ms hf
    cases hf
  | succ n ih =>
    intro s h x4 x5 H ms hf
    replace hf : f_X12_worked_L12_b q0 y1 y3 (f_X12_worked_L12 q0 y1 y3 n) s x4 x5 = some (r9, s9) := hf
    unfold f_X12_worked_L12_b at hf
    refine aw_iload (pc' := 14) dX12_worked_12 rfl rfl ?_
    refine aw_sipush (v := 170) (pc' := 17) dX12_worked_14 rfl (by decide) ?_
    refine aw_iload_n (pc' := 18) dX12_worked_17 rfl rfl ?_
    refine aw_imul (pc' := 19) dX12_worked_18 rfl ?_
    refine aw_iload_n (pc' := 20) dX12_worked_19 rfl rfl ?_
    refine aw_iadd (pc' := 21) dX12_worked_20 rfl ?_
    refine aw_cge (tgt := 188) (pc' := 24) dX12_worked_21 (by decide) rfl (fun c2 => ?_) (fun c2 => ?_)
    · replace hf := ifn c2 hf
      refine AW.lv_le (lz_k (lz_d (lz_d (lz_d (lz_d (lz_d (lz_d lz_0))))))) ?_
      exact hq0 _ _ H ms hf
    · replace hf := ifp c2 hf
      refine aw_aload_n (pc' := 25) dX12_worked_24 rfl rfl rfl ?_
      refine aw_gr (q := 59) (e := 69) (v := .ref 101) (pc' := 28) H (H.fo rfl rfl) (by decide) rfl rfl dX12_worked_25 rfl fl_RX12_118 ?_
      refine aw_iload (pc' := 30) dX12_worked_28 rfl rfl ?_
      obtain ⟨g3, hf⟩ := gd_e hf
      refine aw_ia (q := 93) (pc' := 31) H (H.fa rfl rfl rfl) g3 dX12_worked_30 rfl ?_
      obtain ⟨v4, ev4, hf⟩ := vl_e hf
      refine aw_topi ev4 ?_
      refine aw_istore (lv' := [_, _, _, _, _, _, _]) (pc' := 33) dX12_worked_31 rfl (Nat.le_of_ble_eq_true rfl) rfl ?_
      refine aw_iload (pc' := 35) dX12_worked_33 rfl rfl ?_
      refine aw_iconst (v := 1) (pc' := 36) dX12_worked_35 rfl (by decide) ?_
      obtain ⟨k5, ek5, hf⟩ := jn_e hf
      have hk5 : ∀ (s5 : SS) (h5 : List aE) (j5_4 : Int32), HH s5 h5 → Mo s s5 → k5 s5 j5_4 = some (r9, s9) → AW mX12_worked (rmD (1) 0 0) (fin (PI fun r' h' => r9 = r' ∧ HH s9 h' ∧ Mo s0 s9) 0 0) 182 [some (.ref 67), some (.int y1), none, some (.int y3), some (.int j5_4), some (.int x5), none] [] h5 0 0 := by
        intro s5 h5 j5_4 H5 m5 hf
        subst ek5
        obtain ⟨v6, ev6, hf⟩ := vl_e hf
        refine aw_iincV (y := v6) (lv' := [_, _, _, _, _, _, _]) (pc' := 185) dX12_worked_182 rfl rfl (Nat.le_of_ble_eq_true rfl) ev6 rfl ?_
        refine aw_goto (tgt := 12) dX12_worked_185 (by decide) ?_
        exact ih _ _ _ _ H5 (ms.tr m5) hf
      clear ek5
      obtain ⟨k7, ek7, hf⟩ := jn_e hf
      have hk7 : k7 = some (r9, s9) → AW mX12_worked (rmD (1) 0 0) (fin (PI fun r' h' => r9 = r' ∧ HH s9 h' ∧ Mo s0 s9) 0 0) 45 [some (.ref 67), some (.int y1), none, some (.int y3), some (.int x4), some (.int x5), some (.int v4)] [] h 0 0 := by
        intro hf
        subst ek7
        refine aw_aload_n (pc' := 46) dX12_worked_45 rfl rfl rfl ?_
        refine aw_gr (q := 59) (e := 75) (v := .ref 104) (pc' := 49) H (H.fo rfl rfl) (by decide) rfl rfl dX12_worked_46 rfl fl_RX12_127 ?_
        refine aw_iload (pc' := 51) dX12_worked_49 rfl rfl ?_
        refine aw_iload (pc' := 53) dX12_worked_51 rfl rfl ?_
        refine aw_iconst (v := 1) (pc' := 54) dX12_worked_53 rfl (by decide) ?_
        obtain ⟨k8, ek8, hf⟩ := jn_e hf
        have hk8 : ∀ (t8_0 : Int32), k8 t8_0 = some (r9, s9) → AW mX12_worked (rmD (1) 0 0) (fin (PI fun r' h' => r9 = r' ∧ HH s9 h' ∧ Mo s0 s9) 0 0) 79 [some (.ref 67), some (.int y1), none, some (.int y3), some (.int x4), some (.int x5), none] [.int t8_0, .int x4, .ref 104] h 0 0 := by
          intro t8_0 hf
          subst ek8
          obtain ⟨g9, hf⟩ := gd_e hf
          obtain ⟨s10, es10, hf⟩ := st_e hf
          refine aw_is (q := 96) (pc' := 80) es10 H (H.fa rfl rfl rfl) g9 dX12_worked_79 rfl (fun h10 H10 => ?_)
          have m10 := Mo.ofI es10
          obtain ⟨v11, ev11, hf⟩ := vl_e hf
          refine aw_iincV (y := v11) (lv' := [_, _, _, _, _, _, _]) (pc' := 83) dX12_worked_80 rfl rfl (Nat.le_of_ble_eq_true rfl) ev11 rfl ?_
          refine aw_goto (tgt := 182) dX12_worked_83 (by decide) ?_
          exact hk5 _ _ _ H10 m10 hf
        clear ek8
        refine aw_icmp_ne (tgt := 67) (pc' := 57) dX12_worked_54 (by decide) rfl (fun c12 => ?_) (fun c12 => ?_)
        · replace hf := ifn c12 hf
          refine aw_aload_n (pc' := 68) dX12_worked_67 rfl rfl rfl ?_
          refine aw_gr (q := 59) (e := 73) (v := .ref 103) (pc' := 71) H (H.fo rfl rfl) (by decide) rfl rfl dX12_worked_68 rfl fl_RX12_124 ?_
          refine aw_aload_n (pc' := 72) dX12_worked_71 rfl rfl rfl ?_
          refine aw_gr (q := 59) (e := 71) (v := .ref 102) (pc' := 75) H (H.fo rfl rfl) (by decide) rfl rfl dX12_worked_72 rfl fl_RX12_121 ?_
          refine aw_iload (pc' := 77) dX12_worked_75 rfl rfl ?_
          obtain ⟨g13, hf⟩ := gd_e hf
          refine aw_ia (q := 94) (pc' := 78) H (H.fa rfl rfl rfl) g13 dX12_worked_77 rfl ?_
          obtain ⟨v14, ev14, hf⟩ := vl_e hf
          refine aw_topi ev14 ?_
          obtain ⟨g15, hf⟩ := gd_e hf
          refine aw_ia (q := 95) (pc' := 79) H (H.fa rfl rfl rfl) g15 dX12_worked_78 rfl ?_
          refine AW.lv_le (lz_k (lz_k (lz_d (lz_k (lz_k (lz_k (lz_d lz_0))))))) ?_
          exact hk8 _ hf
        · replace hf := ifp c12 hf
          refine aw_aload_n (pc' := 58) dX12_worked_57 rfl rfl rfl ?_
          refine aw_gr (q := 59) (e := 71) (v := .ref 102) (pc' := 61) H (H.fo rfl rfl) (by decide) rfl rfl dX12_worked_58 rfl fl_RX12_121 ?_
          refine aw_iload (pc' := 63) dX12_worked_61 rfl rfl ?_
          obtain ⟨g16, hf⟩ := gd_e hf
          refine aw_ia (q := 94) (pc' := 64) H (H.fa rfl rfl rfl) g16 dX12_worked_63 rfl ?_
          refine aw_goto (tgt := 79) dX12_worked_64 (by decide) ?_
          refine AW.lv_le (lz_k (lz_k (lz_d (lz_k (lz_k (lz_k (lz_d lz_0))))))) ?_
          exact hk8 _ hf
      clear ek7
      refine aw_icmp_eq (tgt := 45) (pc' := 39) dX12_worked_36 (by decide) rfl (fun c17 => ?_) (fun c17 => ?_)
      · replace hf := ifp c17 hf
        exact hk7  hf
      · replace hf := ifn c17 hf
        refine aw_iload (pc' := 41) dX12_worked_39 rfl rfl ?_
        refine aw_iconst (v := 2) (pc' := 42) dX12_worked_41 rfl (by decide) ?_
        refine aw_icmp_ne (tgt := 86) (pc' := 45) dX12_worked_42 (by decide) rfl (fun c18 => ?_) (fun c18 => ?_)
        · replace hf := ifn c18 hf
          refine aw_iload (pc' := 88) dX12_worked_86 rfl rfl ?_
          refine aw_iconst (v := 3) (pc' := 89) dX12_worked_88 rfl (by decide) ?_
          refine aw_icmp_ne (tgt := 121) (pc' := 92) dX12_worked_89 (by decide) rfl (fun c19 => ?_) (fun c19 => ?_)
          · replace hf := ifn c19 hf
            refine aw_iload (pc' := 123) dX12_worked_121 rfl rfl ?_
            refine aw_iconst (v := 4) (pc' := 124) dX12_worked_123 rfl (by decide) ?_
            refine aw_icmp_ne (tgt := 149) (pc' := 127) dX12_worked_124 (by decide) rfl (fun c20 => ?_) (fun c20 => ?_)
            · replace hf := ifn c20 hf
              obtain ⟨v21, ev21, hf⟩ := vl_e hf
              refine aw_iincV (y := v21) (lv' := [_, _, _, _, _, _, _]) (pc' := 152) dX12_worked_149 rfl rfl (Nat.le_of_ble_eq_true rfl) ev21 rfl ?_
              refine aw_aload_n (pc' := 153) dX12_worked_152 rfl rfl rfl ?_
              refine aw_gr (q := 59) (e := 75) (v := .ref 104) (pc' := 156) H (H.fo rfl rfl) (by decide) rfl rfl dX12_worked_153 rfl fl_RX12_127 ?_
              refine aw_iload (pc' := 158) dX12_worked_156 rfl rfl ?_
              refine aw_iconst (v := 1) (pc' := 159) dX12_worked_158 rfl (by decide) ?_
              refine aw_isub (pc' := 160) dX12_worked_159 rfl ?_
              refine aw_iload (pc' := 162) dX12_worked_160 rfl rfl ?_
              refine aw_aload_n (pc' := 163) dX12_worked_162 rfl rfl rfl ?_
              refine aw_gr (q := 59) (e := 75) (v := .ref 104) (pc' := 166) H (H.fo rfl rfl) (by decide) rfl rfl dX12_worked_163 rfl fl_RX12_127 ?_
              refine aw_iload (pc' := 168) dX12_worked_166 rfl rfl ?_
              refine aw_iconst (v := 1) (pc' := 169) dX12_worked_168 rfl (by decide) ?_
              refine aw_isub (pc' := 170) dX12_worked_169 rfl ?_
              obtain ⟨v22, ev22, hf⟩ := vl_e hf
              refine aw_topi ev22 ?_
              obtain ⟨g23, hf⟩ := gd_e hf
              refine aw_ia (q := 96) (pc' := 171) H (H.fa rfl rfl rfl) g23 dX12_worked_170 rfl ?_
              refine aw_aload_n (pc' := 172) dX12_worked_171 rfl rfl rfl ?_
              refine aw_gr (q := 59) (e := 75) (v := .ref 104) (pc' := 175) H (H.fo rfl rfl) (by decide) rfl rfl dX12_worked_172 rfl fl_RX12_127 ?_
              refine aw_iload (pc' := 177) dX12_worked_175 rfl rfl ?_
              obtain ⟨g24, hf⟩ := gd_e hf
              refine aw_ia (q := 96) (pc' := 178) H (H.fa rfl rfl rfl) g24 dX12_worked_177 rfl ?_
              obtain ⟨r25, ec25, hf⟩ := b1_e hf
              refine aw_callSi (M' := mX12_both) (nc' := 0) (ns' := 0) (pc' := 181) dX12_worked_178 rfl ml_RX12_388 kX12_both (t_X12_both ec25) rfl rfl (Nat.le_of_ble_eq_true rfl) (rokD (by omega) (Nat.le_of_ble_eq_true rfl) (Nat.le_of_ble_eq_true rfl) (Nat.le_of_ble_eq_true rfl)) rfl rfl (fun _ h25 q25 => ?_)
              obtain ⟨rfl, rfl⟩ := q25
              obtain ⟨v26, ev26, hf⟩ := vl_e hf
              refine aw_sndi ev26 ?_
              obtain ⟨g27, hf⟩ := gd_e hf
              obtain ⟨s28, es28, hf⟩ := st_e hf
              refine aw_is (q := 96) (pc' := 182) es28 H (H.fa rfl rfl rfl) g27 dX12_worked_181 rfl (fun h28 H28 => ?_)
              have m28 := Mo.ofI es28
              refine AW.lv_le (lz_k (lz_k (lz_d (lz_k (lz_k (lz_k (lz_d lz_0))))))) ?_
              exact hk5 _ _ _ H28 m28 hf
            · replace hf := ifp c20 hf
              refine aw_aload_n (pc' := 128) dX12_worked_127 rfl rfl rfl ?_
              refine aw_gr (q := 59) (e := 75) (v := .ref 104) (pc' := 131) H (H.fo rfl rfl) (by decide) rfl rfl dX12_worked_128 rfl fl_RX12_127 ?_
              refine aw_iload (pc' := 133) dX12_worked_131 rfl rfl ?_
              refine aw_iconst (v := 1) (pc' := 134) dX12_worked_133 rfl (by decide) ?_
              refine aw_isub (pc' := 135) dX12_worked_134 rfl ?_
              refine aw_aload_n (pc' := 136) dX12_worked_135 rfl rfl rfl ?_
              refine aw_gr (q := 59) (e := 75) (v := .ref 104) (pc' := 139) H (H.fo rfl rfl) (by decide) rfl rfl dX12_worked_136 rfl fl_RX12_127 ?_
              refine aw_iload (pc' := 141) dX12_worked_139 rfl rfl ?_
              refine aw_iconst (v := 1) (pc' := 142) dX12_worked_141 rfl (by decide) ?_
              refine aw_isub (pc' := 143) dX12_worked_142 rfl ?_
              obtain ⟨v29, ev29, hf⟩ := vl_e hf
              refine aw_topi ev29 ?_
              obtain ⟨g30, hf⟩ := gd_e hf
              refine aw_ia (q := 96) (pc' := 144) H (H.fa rfl rfl rfl) g30 dX12_worked_143 rfl ?_
              refine aw_ineg (pc' := 145) dX12_worked_144 rfl ?_
              obtain ⟨v31, ev31, hf⟩ := vl_e hf
              refine aw_topi ev31 ?_
              obtain ⟨v32, ev32, hf⟩ := vl_e hf
              refine aw_sndi ev32 ?_
              obtain ⟨g33, hf⟩ := gd_e hf
              obtain ⟨s34, es34, hf⟩ := st_e hf
              refine aw_is (q := 96) (pc' := 146) es34 H (H.fa rfl rfl rfl) g33 dX12_worked_145 rfl (fun h34 H34 => ?_)
              have m34 := Mo.ofI es34
              refine aw_goto (tgt := 182) dX12_worked_146 (by decide) ?_
              refine AW.lv_le (lz_k (lz_k (lz_d (lz_k (lz_k (lz_k (lz_d lz_0))))))) ?_
              exact hk5 _ _ _ H34 m34 hf
          · replace hf := ifp c19 hf
            refine aw_aload_n (pc' := 93) dX12_worked_92 rfl rfl rfl ?_
            refine aw_gr (q := 59) (e := 75) (v := .ref 104) (pc' := 96) H (H.fo rfl rfl) (by decide) rfl rfl dX12_worked_93 rfl fl_RX12_127 ?_
            refine aw_iload (pc' := 98) dX12_worked_96 rfl rfl ?_
            refine aw_iconst (v := 1) (pc' := 99) dX12_worked_98 rfl (by decide) ?_
            refine aw_isub (pc' := 100) dX12_worked_99 rfl ?_
            refine aw_aload_n (pc' := 101) dX12_worked_100 rfl rfl rfl ?_
            refine aw_gr (q := 59) (e := 75) (v := .ref 104) (pc' := 104) H (H.fo rfl rfl) (by decide) rfl rfl dX12_worked_101 rfl fl_RX12_127 ?_
            refine aw_iload (pc' := 106) dX12_worked_104 rfl rfl ?_
            refine aw_iconst (v := 1) (pc' := 107) dX12_worked_106 rfl (by decide) ?_
            refine aw_isub (pc' := 108) dX12_worked_107 rfl ?_
            obtain ⟨v35, ev35, hf⟩ := vl_e hf
            refine aw_topi ev35 ?_
            obtain ⟨g36, hf⟩ := gd_e hf
            refine aw_ia (q := 96) (pc' := 109) H (H.fa rfl rfl rfl) g36 dX12_worked_108 rfl ?_
            obtain ⟨k37, ek37, hf⟩ := jn_e hf
            have hk37 : ∀ (t37_0 : Int32), k37 t37_0 = some (r9, s9) → AW mX12_worked (rmD (1) 0 0) (fin (PI fun r' h' => r9 = r' ∧ HH s9 h' ∧ Mo s0 s9) 0 0) 117 [some (.ref 67), some (.int y1), none, some (.int y3), some (.int x4), some (.int x5), none] [.int t37_0, .int (x4 - (1 : Int32)), .ref 104] h 0 0 := by
              intro t37_0 hf
              subst ek37
              obtain ⟨v38, ev38, hf⟩ := vl_e hf
              refine aw_sndi ev38 ?_
              obtain ⟨g39, hf⟩ := gd_e hf
              obtain ⟨s40, es40, hf⟩ := st_e hf
              refine aw_is (q := 96) (pc' := 118) es40 H (H.fa rfl rfl rfl) g39 dX12_worked_117 rfl (fun h40 H40 => ?_)
              have m40 := Mo.ofI es40
              refine aw_goto (tgt := 182) dX12_worked_118 (by decide) ?_
              exact hk5 _ _ _ H40 m40 hf
            clear ek37
            refine aw_if_ne (tgt := 116) (pc' := 112) dX12_worked_109 (by decide) rfl (fun c41 => ?_) (fun c41 => ?_)
            · replace hf := ifn c41 hf
              refine aw_iconst (v := 0) (pc' := 117) dX12_worked_116 rfl (by decide) ?_
              refine AW.lv_le (lz_k (lz_k (lz_d (lz_k (lz_k (lz_k (lz_d lz_0))))))) ?_
              exact hk37 _ hf
            · replace hf := ifp c41 hf
              refine aw_iconst (v := 1) (pc' := 113) dX12_worked_112 rfl (by decide) ?_
              refine aw_goto (tgt := 117) dX12_worked_113 (by decide) ?_
              refine AW.lv_le (lz_k (lz_k (lz_d (lz_k (lz_k (lz_k (lz_d lz_0))))))) ?_
              exact hk37 _ hf
        · replace hf := ifp c18 hf
          exact hk7  hf
def f_X12_worked (s0 : SS) (a0 : Int32) (a1 : Int32) (a2 : Int32) : Option (Int32 × SS) := (vl ((((170 : Int32) * a0) + a1)) fun v1 => (f_X12_worked_L12 (fun (s42 : SS)  => some ((zI s42 96 ((0 : Int32).toInt.toNat)), s42)) a0 a2 4000 s0 0 v1))
set_option maxRecDepth 4000 in
theorem t_X12_worked {r9 : Int32} {s0 s9 : SS} {h0 : List aE} {a0 : Int32} {a1 : Int32} {a2 : Int32} (H0 : HH s0 h0) (hf : f_X12_worked s0 a0 a1 a2 = some (r9, s9)) : AM mX12_worked (1) [.ref 67, .int a0, .int a1, .int a2] h0 0 0 (PI fun r' h' => r9 = r' ∧ HH s9 h' ∧ Mo s0 s9) := by
  unfold f_X12_worked at hf
  refine am_of (lv := [some (.ref 67), some (.int a0), some (.int a1), some (.int a2), none, none, none]) rfl (Nat.le_of_ble_eq_true rfl) rfl ?_
  refine aw_iconst (v := 0) (pc' := 1) dX12_worked_0 rfl (by decide) ?_
  refine aw_istore (lv' := [_, _, _, _, _, _, _]) (pc' := 3) dX12_worked_1 rfl (Nat.le_of_ble_eq_true rfl) rfl ?_
  refine aw_sipush (v := 170) (pc' := 6) dX12_worked_3 rfl (by decide) ?_
  refine aw_iload_n (pc' := 7) dX12_worked_6 rfl rfl ?_
  refine aw_imul (pc' := 8) dX12_worked_7 rfl ?_
  refine aw_iload_n (pc' := 9) dX12_worked_8 rfl rfl ?_
  refine aw_iadd (pc' := 10) dX12_worked_9 rfl ?_
  obtain ⟨v1, ev1, hf⟩ := vl_e hf
  refine aw_topi ev1 ?_
  refine aw_istore (lv' := [_, _, _, _, _, _, _]) (pc' := 12) dX12_worked_10 rfl (Nat.le_of_ble_eq_true rfl) rfl ?_
  refine AW.lv_le (lz_k (lz_k (lz_d (lz_k (lz_k (lz_k (lz_d lz_0))))))) ?_
  refine t_X12_worked_L12 (Mo.rf _) (fun s42 h42 H42 m42 hf => ?_) 4000 _ _ _ _ H0 (Mo.rf _) hf
  refine aw_aload_n (pc' := 189) dX12_worked_188 rfl rfl rfl ?_
  refine aw_gr (q := 59) (e := 75) (v := .ref 104) (pc' := 192) H42 (H42.fo rfl rfl) (by decide) rfl rfl dX12_worked_189 rfl fl_RX12_127 ?_
  refine aw_iconst (v := 0) (pc' := 193) dX12_worked_192 rfl (by decide) ?_
  refine aw_ia (q := 96) (pc' := 194) H42 (H42.fa rfl rfl rfl) (by decide) dX12_worked_193 rfl ?_
  obtain ⟨rfl, rfl⟩ := so2 hf
  exact aw_ri dX12_worked_194 rfl rfl (Nat.le_of_ble_eq_true rfl) (Nat.le_of_ble_eq_true rfl) ⟨rfl, H42, m42⟩
/-! ThirtyThreeBelowModel.gives -/
def f_X12_gives_L4_b (q0 : SS → Int32 → Option (Int32 × SS)) (y1 : Int32) (rc : SS → Int32 → Int32 → Option (Int32 × SS)) (s : SS) (x2 : Int32) (x3 : Int32) : Option (Int32 × SS) := (gd (inB y1 17) (if x3 < (zI s 90 (y1.toInt.toNat)) then (vl ((((90 : Int32) * y1) + x3)) fun v3 => (gd (inB v3 1530) (if (zI s 91 (v3.toInt.toNat)) = x2 then (q0 s v3) else (gd (inB v3 1530) (bd (f_X12_worked s y1 x2 (zI s 91 (v3.toInt.toNat))) fun r7 s7 => (if r7 = (0 : Int32) then (gd (inB v3 1530) (vl ((zI s7 92 (v3.toInt.toNat))) fun v10 => (vl (x3 + 1) fun v11 => (rc s7 v10 v11)))) else (q0 s7 v3))))))) else some (0, s)))
def f_X12_gives_L4 (q0 : SS → Int32 → Option (Int32 × SS)) (y1 : Int32) : Nat → SS → Int32 → Int32 → Option (Int32 × SS)
  | 0, _, _, _ => none
  | n + 1, s, x2, x3 => f_X12_gives_L4_b q0 y1 (f_X12_gives_L4 q0 y1 n) s x2 x3
set_option maxRecDepth 4000 in
theorem t_X12_gives_L4 {r9 : Int32} {s0 sb s9 : SS} {q0 : SS → Int32 → Option (Int32 × SS} {y1 : Int32} (mb : Mo s0 sb) (hq0 : ∀ (s : SS) (h : List aE) (x4 : Int32), HH s h → Mo sb s → q0 s x4 = some (r9, s9) → AW mX12_gives (rmD (2) 0 0) (fin (PI fun r' h' => r9 = r' ∧ HH s9 h' ∧ Mo s0 s9) 0 0) 49 [some (.ref 67), some (.int y1), none, none, some (.int x4)] [] h 0 0) : ∀ (n : Nat) (s : SS) (h : List aE) (x2 : Int32) (x3 : Int32), HH s h → Mo sb s → f_X12_gives_L4 q0 y1 n s x2 x3 = some (r9, s9) → AW mX12_gives (rmD (2) 0 0) (fin (PI fun r' h' => r9 = r' ∧ HH s9 h' ∧ Mo s0 s9) 0 0) 4 [some (.ref 67), some (.int y1), some (.int x2), some (.int x3), none] [] h 0 0 := by
  intro n
  induction n with
  | zero =>
    intro s h x2 x3 H ms hf
    cases hf
  | succ n ih =>
    intro s h x2 x3 H ms hf
    replace hf : f_X12_gives_L4_b q0 y1 (f_X12_gives_L4 q0 y1 n) s x2 x3 = some (r9, s9) := hf
    unfold f_X12_gives_L4_b at hf
    refine aw_iload_n (pc' := 5) dX12_gives_4 rfl rfl ?_
    refine aw_aload_n (pc' := 6) dX12_gives_5 rfl rfl rfl ?_
    refine aw_gr (q := 59) (e := 63) (v := .ref 98) (pc' := 9) H (H.fo rfl rfl) (by decide) rfl rfl dX12_gives_6 rfl fl_RX12_109 ?_
    refine aw_iload_n (pc' := 10) dX12_gives_9 rfl rfl ?_
    obtain ⟨g1, hf⟩ := gd_e hf
    refine aw_ia (q := 90) (pc' := 11) H (H.fa rfl rfl rfl) g1 dX12_gives_10 rfl ?_
    refine aw_cge (tgt := 83) (pc' := 14) dX12_gives_11 (by decide) rfl (fun c2 => ?_) (fun c2 => ?_)
    · replace hf := ifn c2 hf
      refine aw_iconst (v := 0) (pc' := 84) dX12_gives_83 rfl (by decide) ?_
      obtain ⟨rfl, rfl⟩ := so2 hf
      exact aw_ri dX12_gives_84 rfl rfl (Nat.le_of_ble_eq_true rfl) (Nat.le_of_ble_eq_true rfl) ⟨rfl, H, (mb.tr ms)⟩
    · replace hf := ifp c2 hf
      refine aw_bipush (v := 90) (pc' := 16) dX12_gives_14 rfl (by decide) ?_
      refine aw_iload_n (pc' := 17) dX12_gives_16 rfl rfl ?_
      refine aw_imul (pc' := 18) dX12_gives_17 rfl ?_
      refine aw_iload_n (pc' := 19) dX12_gives_18 rfl rfl ?_
      refine aw_iadd (pc' := 20) dX12_gives_19 rfl ?_
      obtain ⟨v3, ev3, hf⟩ := vl_e hf
      refine aw_topi ev3 ?_
      refine aw_istore (lv' := [_, _, _, _, _]) (pc' := 22) dX12_gives_20 rfl (Nat.le_of_ble_eq_true rfl) rfl ?_
      refine aw_aload_n (pc' := 23) dX12_gives_22 rfl rfl rfl ?_
      refine aw_gr (q := 59) (e := 65) (v := .ref 99) (pc' := 26) H (H.fo rfl rfl) (by decide) rfl rfl dX12_gives_23 rfl fl_RX12_112 ?_
      refine aw_iload (pc' := 28) dX12_gives_26 rfl rfl ?_
      obtain ⟨g4, hf⟩ := gd_e hf
      refine aw_ia (q := 91) (pc' := 29) H (H.fa rfl rfl rfl) g4 dX12_gives_28 rfl ?_
      refine aw_iload_n (pc' := 30) dX12_gives_29 rfl rfl ?_
      refine aw_icmp_eq (tgt := 49) (pc' := 33) dX12_gives_30 (by decide) rfl (fun c5 => ?_) (fun c5 => ?_)
      · replace hf := ifp c5 hf
        refine AW.lv_le (lz_k (lz_k (lz_d (lz_d (lz_k lz_0))))) ?_
        exact hq0 _ _ _ H ms hf
      · replace hf := ifn c5 hf
        refine aw_aload_n (pc' := 34) dX12_gives_33 rfl rfl rfl ?_
        refine aw_iload_n (pc' := 35) dX12_gives_34 rfl rfl ?_
        refine aw_iload_n (pc' := 36) dX12_gives_35 rfl rfl ?_
        refine aw_aload_n (pc' := 37) dX12_gives_36 rfl rfl rfl ?_
        refine aw_gr (q := 59) (e := 65) (v := .ref 99) (pc' := 40) H (H.fo rfl rfl) (by decide) rfl rfl dX12_gives_37 rfl fl_RX12_112 ?_
        refine aw_iload (pc' := 42) dX12_gives_40 rfl rfl ?_
        obtain ⟨g6, hf⟩ := gd_e hf
        refine aw_ia (q := 91) (pc' := 43) H (H.fa rfl rfl rfl) g6 dX12_gives_42 rfl ?_
        obtain ⟨r7, s7, ec7, hf⟩ := bd_e hf
        refine aw_callVi (M' := mX12_worked) (nc' := 0) (ns' := 0) (pc' := 46) dX12_gives_43 rfl ml_RX12_391 kX12_worked (t_X12_worked H ec7) (H.ob (H.fo rfl rfl) (by decide)) rfl rfl rfl (Nat.le_of_ble_eq_true rfl) (rokD (by omega) (Nat.le_of_ble_eq_true rfl) (Nat.le_of_ble_eq_true rfl) (Nat.le_of_ble_eq_true rfl)) rfl rfl (fun _ h7 q7 => ?_)
        obtain ⟨rfl, H7, m7⟩ := q7
        refine aw_if_eq (tgt := 69) (pc' := 49) dX12_gives_46 (by decide) rfl (fun c8 => ?_) (fun c8 => ?_)
        · replace hf := ifp c8 hf
          refine aw_aload_n (pc' := 70) dX12_gives_69 rfl rfl rfl ?_
          refine aw_gr (q := 59) (e := 67) (v := .ref 100) (pc' := 73) H7 (H7.fo rfl rfl) (by decide) rfl rfl dX12_gives_70 rfl fl_RX12_115 ?_
          refine aw_iload (pc' := 75) dX12_gives_73 rfl rfl ?_
          obtain ⟨g9, hf⟩ := gd_e hf
          refine aw_ia (q := 92) (pc' := 76) H7 (H7.fa rfl rfl rfl) g9 dX12_gives_75 rfl ?_
          obtain ⟨v10, ev10, hf⟩ := vl_e hf
          refine aw_topi ev10 ?_
          refine aw_istore_n (lv' := [_, _, _, _, _]) (pc' := 77) dX12_gives_76 rfl (Nat.le_of_ble_eq_true rfl) rfl ?_
          obtain ⟨v11, ev11, hf⟩ := vl_e hf
          refine aw_iincV (y := v11) (lv' := [_, _, _, _, _]) (pc' := 80) dX12_gives_77 rfl rfl (Nat.le_of_ble_eq_true rfl) ev11 rfl ?_
          refine aw_goto (tgt := 4) dX12_gives_80 (by decide) ?_
          refine AW.lv_le (lz_k (lz_k (lz_k (lz_k (lz_d lz_0))))) ?_
          exact ih _ _ _ _ H7 (ms.tr m7) hf
        · replace hf := ifn c8 hf
          refine AW.lv_le (lz_k (lz_k (lz_d (lz_d (lz_k lz_0))))) ?_
          exact hq0 _ _ _ H7 (ms.tr m7) hf
def f_X12_gives (s0 : SS) (a0 : Int32) : Option (Int32 × SS) := (f_X12_gives_L4 (fun (s12 : SS) (x12_4 : Int32) => (gd (inB x12_4 1530) (gd (inB x12_4 1530) (bd (f_X12_worked s12 a0 (zI s12 91 (x12_4.toInt.toNat)) (zI s12 92 (x12_4.toInt.toNat))) fun r15 s15 => some (r15, s15))))) a0 4000 s0 0 0)
set_option maxRecDepth 4000 in
theorem t_X12_gives {r9 : Int32} {s0 s9 : SS} {h0 : List aE} {a0 : Int32} (H0 : HH s0 h0) (hf : f_X12_gives s0 a0 = some (r9, s9)) : AM mX12_gives (2) [.ref 67, .int a0] h0 0 0 (PI fun r' h' => r9 = r' ∧ HH s9 h' ∧ Mo s0 s9) := by
  unfold f_X12_gives at hf
  refine am_of (lv := [some (.ref 67), some (.int a0), none, none, none]) rfl (Nat.le_of_ble_eq_true rfl) rfl ?_
  refine aw_iconst (v := 0) (pc' := 1) dX12_gives_0 rfl (by decide) ?_
  refine aw_istore_n (lv' := [_, _, _, _, _]) (pc' := 2) dX12_gives_1 rfl (Nat.le_of_ble_eq_true rfl) rfl ?_
  refine aw_iconst (v := 0) (pc' := 3) dX12_gives_2 rfl (by decide) ?_
  refine aw_istore_n (lv' := [_, _, _, _, _]) (pc' := 4) dX12_gives_3 rfl (Nat.le_of_ble_eq_true rfl) rfl ?_
  refine t_X12_gives_L4 (Mo.rf _) (fun s12 h12 x12_4 H12 m12 hf => ?_) 4000 _ _ _ _ H0 (Mo.rf _) hf
  refine aw_aload_n (pc' := 50) dX12_gives_49 rfl rfl rfl ?_
  refine aw_iload_n (pc' := 51) dX12_gives_50 rfl rfl ?_
  refine aw_aload_n (pc' := 52) dX12_gives_51 rfl rfl rfl ?_
  refine aw_gr (q := 59) (e := 65) (v := .ref 99) (pc' := 55) H12 (H12.fo rfl rfl) (by decide) rfl rfl dX12_gives_52 rfl fl_RX12_112 ?_
  refine aw_iload (pc' := 57) dX12_gives_55 rfl rfl ?_
  obtain ⟨g13, hf⟩ := gd_e hf
  refine aw_ia (q := 91) (pc' := 58) H12 (H12.fa rfl rfl rfl) g13 dX12_gives_57 rfl ?_
  refine aw_aload_n (pc' := 59) dX12_gives_58 rfl rfl rfl ?_
  refine aw_gr (q := 59) (e := 67) (v := .ref 100) (pc' := 62) H12 (H12.fo rfl rfl) (by decide) rfl rfl dX12_gives_59 rfl fl_RX12_115 ?_
  refine aw_iload (pc' := 64) dX12_gives_62 rfl rfl ?_
  obtain ⟨g14, hf⟩ := gd_e hf
  refine aw_ia (q := 92) (pc' := 65) H12 (H12.fa rfl rfl rfl) g14 dX12_gives_64 rfl ?_
  obtain ⟨r15, s15, ec15, hf⟩ := bd_e hf
  refine aw_callVi (M' := mX12_worked) (nc' := 0) (ns' := 0) (pc' := 68) dX12_gives_65 rfl ml_RX12_391 kX12_worked (t_X12_worked H12 ec15) (H12.ob (H12.fo rfl rfl) (by decide)) rfl rfl rfl (Nat.le_of_ble_eq_true rfl) (rokD (by omega) (Nat.le_of_ble_eq_true rfl) (Nat.le_of_ble_eq_true rfl) (Nat.le_of_ble_eq_true rfl)) rfl rfl (fun _ h15 q15 => ?_)
  obtain ⟨rfl, H15, m15⟩ := q15
  obtain ⟨rfl, rfl⟩ := so2 hf
  exact aw_ri dX12_gives_68 rfl rfl (Nat.le_of_ble_eq_true rfl) (Nat.le_of_ble_eq_true rfl) ⟨rfl, H15, (m12.tr m15)⟩
/-! ThirtyThreeBelowModel.saysNow -/
def f_X12_saysNow_L28_b (q0 : Int32 → Option (Int32 × SS)) (sb : SS) (y2 : Int32) (y4 : Int32) (rc : Int32 → Int32 → Option (Int32 × SS)) (x5 : Int32) (x6 : Int32) : Option (Int32 × SS) := (if x6 < (zS sb 59 4) then (gd (inB x6 120) (jn (fun (t5_0 : Int32) => (vl ((x5 + t5_0)) fun v6 => (vl (x6 + 1) fun v7 => (rc v6 v7)))) fun k5 => (if (0 : Int32) < (zI sb 69 (x6.toInt.toNat)) then (k5 1) else (k5 0)))) else (q0 x5))
def f_X12_saysNow_L28 (q0 : Int32 → Option (Int32 × SS)) (sb : SS) (y2 : Int32) (y4 : Int32) : Nat → Int32 → Int32 → Option (Int32 × SS)
  | 0, _, _ => none
  | n + 1, x5, x6 => f_X12_saysNow_L28_b q0 sb y2 y4 (f_X12_saysNow_L28 q0 sb y2 y4 n) x5 x6
set_option maxRecDepth 4000 in
theorem t_X12_saysNow_L28 {r9 : Int32} {s0 sb s9 : SS} {hb : List aE} {q0 : Int32 → Option (Int32 × SS} {y2 : Int32} {y4 : Int32} (Hb : HH sb hb) (mb : Mo s0 sb) (hq0 : ∀ (x5 : Int32), q0 x5 = some (r9, s9) → AW mX12_saysNow (rmD (3) 0 0) (fin (PI fun r' h' => r9 = r' ∧ HH s9 h' ∧ Mo s0 s9) 0 0) 63 [some (.ref 67), none, some (.int y2), none, some (.int y4), some (.int x5), none] [] hb 0 0) : ∀ (n : Nat) (x5 : Int32) (x6 : Int32), f_X12_saysNow_L28 q0 sb y2 y4 n x5 x6 = some (r9, s9) → AW mX12_saysNow (rmD (3) 0 0) (fin (PI fun r' h' => r9 = r' ∧ HH s9 h' ∧ Mo s0 s9) 0 0) 28 [some (.ref 67), none, some (.int y2), none, some (.int y4), some (.int x5), some (.int x6)] [] hb 0 0 := by
  intro n
  induction n with
  | zero =>
    intro x5 x6 hf
    cases hf
  | succ n ih =>
    intro x5 x6 hf
    replace hf : f_X12_saysNow_L28_b q0 sb y2 y4 (f_X12_saysNow_L28 q0 sb y2 y4 n) x5 x6 = some (r9, s9) := hf
    unfold f_X12_saysNow_L28_b at hf
    refine aw_iload (pc' := 30) dX12_saysNow_28 rfl rfl ?_
    refine aw_aload_n (pc' := 31) dX12_saysNow_30 rfl rfl rfl ?_
    refine aw_gi (q := 59) (pc' := 34) Hb (Hb.fo rfl rfl) (by decide) rfl dX12_saysNow_31 rfl fl_RX12_242 ?_
    refine aw_cge (tgt := 63) (pc' := 37) dX12_saysNow_34 (by decide) rfl (fun c3 => ?_) (fun c3 => ?_)
    · replace hf := ifn c3 hf
      refine AW.lv_le (lz_k (lz_d (lz_k (lz_d (lz_k (lz_k (lz_d lz_0))))))) ?_
      exact hq0 _ hf
    · replace hf := ifp c3 hf
      refine aw_iload (pc' := 39) dX12_saysNow_37 rfl rfl ?_
      refine aw_aload_n (pc' := 40) dX12_saysNow_39 rfl rfl rfl ?_
      refine aw_gr (q := 59) (e := 21) (v := .ref 77) (pc' := 43) Hb (Hb.fo rfl rfl) (by decide) rfl rfl dX12_saysNow_40 rfl fl_RX12_38 ?_
      refine aw_iload (pc' := 45) dX12_saysNow_43 rfl rfl ?_
      obtain ⟨g4, hf⟩ := gd_e hf
      refine aw_ia (q := 69) (pc' := 46) Hb (Hb.fa rfl rfl rfl) g4 dX12_saysNow_45 rfl ?_
      obtain ⟨k5, ek5, hf⟩ := jn_e hf
      have hk5 : ∀ (t5_0 : Int32), k5 t5_0 = some (r9, s9) → AW mX12_saysNow (rmD (3) 0 0) (fin (PI fun r' h' => r9 = r' ∧ HH s9 h' ∧ Mo s0 s9) 0 0) 54 [some (.ref 67), none, some (.int y2), none, some (.int y4), none, some (.int x6)] [.int t5_0, .int x5] hb 0 0 := by
        intro t5_0 hf
        subst ek5
        refine aw_iadd (pc' := 55) dX12_saysNow_54 rfl ?_
        obtain ⟨v6, ev6, hf⟩ := vl_e hf
        refine aw_topi ev6 ?_
        refine aw_istore (lv' := [_, _, _, _, _, _, _]) (pc' := 57) dX12_saysNow_55 rfl (Nat.le_of_ble_eq_true rfl) rfl ?_
        obtain ⟨v7, ev7, hf⟩ := vl_e hf
        refine aw_iincV (y := v7) (lv' := [_, _, _, _, _, _, _]) (pc' := 60) dX12_saysNow_57 rfl rfl (Nat.le_of_ble_eq_true rfl) ev7 rfl ?_
        refine aw_goto (tgt := 28) dX12_saysNow_60 (by decide) ?_
        exact ih _ _ hf
      clear ek5
      refine aw_zle (tgt := 53) (pc' := 49) dX12_saysNow_46 (by decide) rfl (fun c8 => ?_) (fun c8 => ?_)
      · replace hf := ifn c8 hf
        refine aw_iconst (v := 0) (pc' := 54) dX12_saysNow_53 rfl (by decide) ?_
        refine AW.lv_le (lz_k (lz_d (lz_k (lz_d (lz_k (lz_d (lz_k lz_0))))))) ?_
        exact hk5 _ hf
      · replace hf := ifp c8 hf
        refine aw_iconst (v := 1) (pc' := 50) dX12_saysNow_49 rfl (by decide) ?_
        refine aw_goto (tgt := 54) dX12_saysNow_50 (by decide) ?_
        refine AW.lv_le (lz_k (lz_d (lz_k (lz_d (lz_k (lz_d (lz_k lz_0))))))) ?_
        exact hk5 _ hf
def f_X12_saysNow (s0 : SS) (a0 : Int32) (a1 : Int32) (a2 : Int32) : Option (Int32 × SS) := (b1 (f_X12_forceOf s0 a0 (zS s0 59 1) (zS s0 59 1)) fun r1 => (if r1 < (0 : Int32) then some (a2, s0) else (f_X12_saysNow_L28 (fun (x9_5 : Int32) => (vl ((zS s0 59 1)) fun v10 => (st (pI s0 95 ((0 : Int32).toInt.toNat) v10) fun s11 => (vl (((zS s11 59 1) / (24 : Int32))) fun v12 => (st (pI s11 95 ((1 : Int32).toInt.toNat) v12) fun s13 => (jn (fun (t14_0 : Int32) => (st (pI s13 95 ((2 : Int32).toInt.toNat) t14_0) fun s15 => (jn (fun (t16_0 : Int32) => (st (pI s15 95 ((3 : Int32).toInt.toNat) t16_0) fun s17 => (jn (fun (t18_0 : Int32) => (st (pI s17 95 ((4 : Int32).toInt.toNat) t18_0) fun s19 => (b1 (f_X12_menBelow s19) fun r20 => (st (pI s19 95 ((5 : Int32).toInt.toNat) r20) fun s21 => (vl ((zS s21 59 54)) fun v22 => (st (pI s21 95 ((6 : Int32).toInt.toNat) v22) fun s23 => (st (pI s23 95 ((7 : Int32).toInt.toNat) x9_5) fun s24 => (bd (f_X12_gives s24 r1) fun r25 s25 => some (r25, s25))))))))) fun k18 => (if a1 < (0 : Int32) then (k18 0) else (gd (inB a1 120) (k18 (zI s17 76 (a1.toInt.toNat)))))))) fun k16 => (if a1 < (0 : Int32) then (k16 0) else (gd (inB a1 120) (k16 (zI s15 75 (a1.toInt.toNat)))))))) fun k14 => (if a1 < (0 : Int32) then (k14 0) else (gd (inB a1 120) (k14 (zI s13 74 (a1.toInt.toNat))))))))))) s0 a1 r1 4000 0 0)))
set_option maxRecDepth 4000 in
theorem t_X12_saysNow {r9 : Int32} {s0 s9 : SS} {h0 : List aE} {a0 : Int32} {a1 : Int32} {a2 : Int32} (H0 : HH s0 h0) (hf : f_X12_saysNow s0 a0 a1 a2 = some (r9, s9)) : AM mX12_saysNow (3) [.ref 67, .int a0, .int a1, .int a2] h0 0 0 (PI fun r' h' => r9 = r' ∧ HH s9 h' ∧ Mo s0 s9) := by
  unfold f_X12_saysNow at hf
  refine am_of (lv := [some (.ref 67), some (.int a0), some (.int a1), some (.int a2), none, none, none]) rfl (Nat.le_of_ble_eq_true rfl) rfl ?_
  refine aw_aload_n (pc' := 1) dX12_saysNow_0 rfl rfl rfl ?_
  refine aw_iload_n (pc' := 2) dX12_saysNow_1 rfl rfl ?_
  refine aw_aload_n (pc' := 3) dX12_saysNow_2 rfl rfl rfl ?_
  refine aw_gi (q := 59) (pc' := 6) H0 (H0.fo rfl rfl) (by decide) rfl dX12_saysNow_3 rfl fl_RX12_281 ?_
  refine aw_aload_n (pc' := 7) dX12_saysNow_6 rfl rfl rfl ?_
  refine aw_gi (q := 59) (pc' := 10) H0 (H0.fo rfl rfl) (by decide) rfl dX12_saysNow_7 rfl fl_RX12_281 ?_
  obtain ⟨r1, ec1, hf⟩ := b1_e hf
  refine aw_callVi (M' := mX12_forceOf) (nc' := 0) (ns' := 0) (pc' := 13) dX12_saysNow_10 rfl ml_RX12_385 kX12_forceOf (t_X12_forceOf H0 ec1) (H0.ob (H0.fo rfl rfl) (by decide)) rfl rfl rfl (Nat.le_of_ble_eq_true rfl) (rokD (by omega) (Nat.le_of_ble_eq_true rfl) (Nat.le_of_ble_eq_true rfl) (Nat.le_of_ble_eq_true rfl)) rfl rfl (fun _ h1 q1 => ?_)
  obtain ⟨rfl, rfl⟩ := q1
  refine aw_istore (lv' := [_, _, _, _, _, _, _]) (pc' := 15) dX12_saysNow_13 rfl (Nat.le_of_ble_eq_true rfl) rfl ?_
  refine aw_iload (pc' := 17) dX12_saysNow_15 rfl rfl ?_
  refine aw_zge (tgt := 22) (pc' := 20) dX12_saysNow_17 (by decide) rfl (fun c2 => ?_) (fun c2 => ?_)
  · replace hf := ifn c2 hf
    refine aw_iconst (v := 0) (pc' := 23) dX12_saysNow_22 rfl (by decide) ?_
    refine aw_istore (lv' := [_, _, _, _, _, _, _]) (pc' := 25) dX12_saysNow_23 rfl (Nat.le_of_ble_eq_true rfl) rfl ?_
    refine aw_iconst (v := 0) (pc' := 26) dX12_saysNow_25 rfl (by decide) ?_
    refine aw_istore (lv' := [_, _, _, _, _, _, _]) (pc' := 28) dX12_saysNow_26 rfl (Nat.le_of_ble_eq_true rfl) rfl ?_
    refine AW.lv_le (lz_k (lz_d (lz_k (lz_d (lz_k (lz_k (lz_k lz_0))))))) ?_
    refine t_X12_saysNow_L28 H0 (Mo.rf _) (fun x9_5 hf => ?_) 4000 _ _ hf
    refine aw_aload_n (pc' := 64) dX12_saysNow_63 rfl rfl rfl ?_
    refine aw_gr (q := 59) (e := 73) (v := .ref 103) (pc' := 67) H0 (H0.fo rfl rfl) (by decide) rfl rfl dX12_saysNow_64 rfl fl_RX12_124 ?_
    refine aw_iconst (v := 0) (pc' := 68) dX12_saysNow_67 rfl (by decide) ?_
    refine aw_aload_n (pc' := 69) dX12_saysNow_68 rfl rfl rfl ?_
    refine aw_gi (q := 59) (pc' := 72) H0 (H0.fo rfl rfl) (by decide) rfl dX12_saysNow_69 rfl fl_RX12_281 ?_
    obtain ⟨v10, ev10, hf⟩ := vl_e hf
    refine aw_topi ev10 ?_
    obtain ⟨s11, es11, hf⟩ := st_e hf
    refine aw_is (q := 95) (pc' := 73) es11 H0 (H0.fa rfl rfl rfl) (by decide) dX12_saysNow_72 rfl (fun h11 H11 => ?_)
    have m11 := Mo.ofI es11
    refine aw_aload_n (pc' := 74) dX12_saysNow_73 rfl rfl rfl ?_
    refine aw_gr (q := 59) (e := 73) (v := .ref 103) (pc' := 77) H11 (H11.fo rfl rfl) (by decide) rfl rfl dX12_saysNow_74 rfl fl_RX12_124 ?_
    refine aw_iconst (v := 1) (pc' := 78) dX12_saysNow_77 rfl (by decide) ?_
    refine aw_aload_n (pc' := 79) dX12_saysNow_78 rfl rfl rfl ?_
    refine aw_gi (q := 59) (pc' := 82) H11 (H11.fo rfl rfl) (by decide) rfl dX12_saysNow_79 rfl fl_RX12_281 ?_
    refine aw_bipush (v := 24) (pc' := 84) dX12_saysNow_82 rfl (by decide) ?_
    refine aw_idiv (pc' := 85) dX12_saysNow_84 rfl (by decide) ?_
    obtain ⟨v12, ev12, hf⟩ := vl_e hf
    refine aw_topi ev12 ?_
    obtain ⟨s13, es13, hf⟩ := st_e hf
    refine aw_is (q := 95) (pc' := 86) es13 H11 (H11.fa rfl rfl rfl) (by decide) dX12_saysNow_85 rfl (fun h13 H13 => ?_)
    have m13 := Mo.ofI es13
    refine aw_aload_n (pc' := 87) dX12_saysNow_86 rfl rfl rfl ?_
    refine aw_gr (q := 59) (e := 73) (v := .ref 103) (pc' := 90) H13 (H13.fo rfl rfl) (by decide) rfl rfl dX12_saysNow_87 rfl fl_RX12_124 ?_
    refine aw_iconst (v := 2) (pc' := 91) dX12_saysNow_90 rfl (by decide) ?_
    refine aw_iload_n (pc' := 92) dX12_saysNow_91 rfl rfl ?_
    obtain ⟨k14, ek14, hf⟩ := jn_e hf
    have hk14 : ∀ (t14_0 : Int32), k14 t14_0 = some (r9, s9) → AW mX12_saysNow (rmD (3) 0 0) (fin (PI fun r' h' => r9 = r' ∧ HH s9 h' ∧ Mo s0 s9) 0 0) 105 [some (.ref 67), none, some (.int a1), none, some (.int r1), some (.int x9_5), none] [.int t14_0, .int 2, .ref 103] h13 0 0 := by
      intro t14_0 hf
      subst ek14
      obtain ⟨s15, es15, hf⟩ := st_e hf
      refine aw_is (q := 95) (pc' := 106) es15 H13 (H13.fa rfl rfl rfl) (by decide) dX12_saysNow_105 rfl (fun h15 H15 => ?_)
      have m15 := Mo.ofI es15
      refine aw_aload_n (pc' := 107) dX12_saysNow_106 rfl rfl rfl ?_
      refine aw_gr (q := 59) (e := 73) (v := .ref 103) (pc' := 110) H15 (H15.fo rfl rfl) (by decide) rfl rfl dX12_saysNow_107 rfl fl_RX12_124 ?_
      refine aw_iconst (v := 3) (pc' := 111) dX12_saysNow_110 rfl (by decide) ?_
      refine aw_iload_n (pc' := 112) dX12_saysNow_111 rfl rfl ?_
      obtain ⟨k16, ek16, hf⟩ := jn_e hf
      have hk16 : ∀ (t16_0 : Int32), k16 t16_0 = some (r9, s9) → AW mX12_saysNow (rmD (3) 0 0) (fin (PI fun r' h' => r9 = r' ∧ HH s9 h' ∧ Mo s0 s9) 0 0) 125 [some (.ref 67), none, some (.int a1), none, some (.int r1), some (.int x9_5), none] [.int t16_0, .int 3, .ref 103] h15 0 0 := by
        intro t16_0 hf
        subst ek16
        obtain ⟨s17, es17, hf⟩ := st_e hf
        refine aw_is (q := 95) (pc' := 126) es17 H15 (H15.fa rfl rfl rfl) (by decide) dX12_saysNow_125 rfl (fun h17 H17 => ?_)
        have m17 := Mo.ofI es17
        refine aw_aload_n (pc' := 127) dX12_saysNow_126 rfl rfl rfl ?_
        refine aw_gr (q := 59) (e := 73) (v := .ref 103) (pc' := 130) H17 (H17.fo rfl rfl) (by decide) rfl rfl dX12_saysNow_127 rfl fl_RX12_124 ?_
        refine aw_iconst (v := 4) (pc' := 131) dX12_saysNow_130 rfl (by decide) ?_
        refine aw_iload_n (pc' := 132) dX12_saysNow_131 rfl rfl ?_
        obtain ⟨k18, ek18, hf⟩ := jn_e hf
        have hk18 : ∀ (t18_0 : Int32), k18 t18_0 = some (r9, s9) → AW mX12_saysNow (rmD (3) 0 0) (fin (PI fun r' h' => r9 = r' ∧ HH s9 h' ∧ Mo s0 s9) 0 0) 145 [some (.ref 67), none, none, none, some (.int r1), some (.int x9_5), none] [.int t18_0, .int 4, .ref 103] h17 0 0 := by
          intro t18_0 hf
          subst ek18
          obtain ⟨s19, es19, hf⟩ := st_e hf
          refine aw_is (q := 95) (pc' := 146) es19 H17 (H17.fa rfl rfl rfl) (by decide) dX12_saysNow_145 rfl (fun h19 H19 => ?_)
          have m19 := Mo.ofI es19
          refine aw_aload_n (pc' := 147) dX12_saysNow_146 rfl rfl rfl ?_
          refine aw_gr (q := 59) (e := 73) (v := .ref 103) (pc' := 150) H19 (H19.fo rfl rfl) (by decide) rfl rfl dX12_saysNow_147 rfl fl_RX12_124 ?_
          refine aw_iconst (v := 5) (pc' := 151) dX12_saysNow_150 rfl (by decide) ?_
          refine aw_aload_n (pc' := 152) dX12_saysNow_151 rfl rfl rfl ?_
          obtain ⟨r20, ec20, hf⟩ := b1_e hf
          refine aw_callVi (M' := mX12_menBelow) (nc' := 0) (ns' := 0) (pc' := 155) dX12_saysNow_152 rfl ml_RX12_394 kX12_menBelow (t_X12_menBelow H19 ec20) (H19.ob (H19.fo rfl rfl) (by decide)) rfl rfl rfl (Nat.le_of_ble_eq_true rfl) (rokD (by omega) (Nat.le_of_ble_eq_true rfl) (Nat.le_of_ble_eq_true rfl) (Nat.le_of_ble_eq_true rfl)) rfl rfl (fun _ h20 q20 => ?_)
          obtain ⟨rfl, rfl⟩ := q20
          obtain ⟨s21, es21, hf⟩ := st_e hf
          refine aw_is (q := 95) (pc' := 156) es21 H19 (H19.fa rfl rfl rfl) (by decide) dX12_saysNow_155 rfl (fun h21 H21 => ?_)
          have m21 := Mo.ofI es21
          refine aw_aload_n (pc' := 157) dX12_saysNow_156 rfl rfl rfl ?_
          refine aw_gr (q := 59) (e := 73) (v := .ref 103) (pc' := 160) H21 (H21.fo rfl rfl) (by decide) rfl rfl dX12_saysNow_157 rfl fl_RX12_124 ?_
          refine aw_bipush (v := 6) (pc' := 162) dX12_saysNow_160 rfl (by decide) ?_
          refine aw_aload_n (pc' := 163) dX12_saysNow_162 rfl rfl rfl ?_
          refine aw_gi (q := 59) (pc' := 166) H21 (H21.fo rfl rfl) (by decide) rfl dX12_saysNow_163 rfl fl_RX12_397 ?_
          obtain ⟨v22, ev22, hf⟩ := vl_e hf
          refine aw_topi ev22 ?_
          obtain ⟨s23, es23, hf⟩ := st_e hf
          refine aw_is (q := 95) (pc' := 167) es23 H21 (H21.fa rfl rfl rfl) (by decide) dX12_saysNow_166 rfl (fun h23 H23 => ?_)
          have m23 := Mo.ofI es23
          refine aw_aload_n (pc' := 168) dX12_saysNow_167 rfl rfl rfl ?_
          refine aw_gr (q := 59) (e := 73) (v := .ref 103) (pc' := 171) H23 (H23.fo rfl rfl) (by decide) rfl rfl dX12_saysNow_168 rfl fl_RX12_124 ?_
          refine aw_bipush (v := 7) (pc' := 173) dX12_saysNow_171 rfl (by decide) ?_
          refine aw_iload (pc' := 175) dX12_saysNow_173 rfl rfl ?_
          obtain ⟨s24, es24, hf⟩ := st_e hf
          refine aw_is (q := 95) (pc' := 176) es24 H23 (H23.fa rfl rfl rfl) (by decide) dX12_saysNow_175 rfl (fun h24 H24 => ?_)
          have m24 := Mo.ofI es24
          refine aw_aload_n (pc' := 177) dX12_saysNow_176 rfl rfl rfl ?_
          refine aw_iload (pc' := 179) dX12_saysNow_177 rfl rfl ?_
          obtain ⟨r25, s25, ec25, hf⟩ := bd_e hf
          refine aw_callVi (M' := mX12_gives) (nc' := 0) (ns' := 0) (pc' := 182) dX12_saysNow_179 rfl ml_RX12_400 kX12_gives (t_X12_gives H24 ec25) (H24.ob (H24.fo rfl rfl) (by decide)) rfl rfl rfl (Nat.le_of_ble_eq_true rfl) (rokD (by omega) (Nat.le_of_ble_eq_true rfl) (Nat.le_of_ble_eq_true rfl) (Nat.le_of_ble_eq_true rfl)) rfl rfl (fun _ h25 q25 => ?_)
          obtain ⟨rfl, H25, m25⟩ := q25
          obtain ⟨rfl, rfl⟩ := so2 hf
          exact aw_ri dX12_saysNow_182 rfl rfl (Nat.le_of_ble_eq_true rfl) (Nat.le_of_ble_eq_true rfl) ⟨rfl, H25, ((((((((m11.tr m13).tr m15).tr m17).tr m19).tr m21).tr m23).tr m24).tr m25)⟩
        clear ek18
        refine aw_zge (tgt := 139) (pc' := 135) dX12_saysNow_132 (by decide) rfl (fun c26 => ?_) (fun c26 => ?_)
        · replace hf := ifn c26 hf
          refine aw_aload_n (pc' := 140) dX12_saysNow_139 rfl rfl rfl ?_
          refine aw_gr (q := 59) (e := 35) (v := .ref 84) (pc' := 143) H17 (H17.fo rfl rfl) (by decide) rfl rfl dX12_saysNow_140 rfl fl_RX12_59 ?_
          refine aw_iload_n (pc' := 144) dX12_saysNow_143 rfl rfl ?_
          obtain ⟨g27, hf⟩ := gd_e hf
          refine aw_ia (q := 76) (pc' := 145) H17 (H17.fa rfl rfl rfl) g27 dX12_saysNow_144 rfl ?_
          refine AW.lv_le (lz_k (lz_d (lz_d (lz_d (lz_k (lz_k (lz_d lz_0))))))) ?_
          exact hk18 _ hf
        · replace hf := ifp c26 hf
          refine aw_iconst (v := 0) (pc' := 136) dX12_saysNow_135 rfl (by decide) ?_
          refine aw_goto (tgt := 145) dX12_saysNow_136 (by decide) ?_
          refine AW.lv_le (lz_k (lz_d (lz_d (lz_d (lz_k (lz_k (lz_d lz_0))))))) ?_
          exact hk18 _ hf
      clear ek16
      refine aw_zge (tgt := 119) (pc' := 115) dX12_saysNow_112 (by decide) rfl (fun c28 => ?_) (fun c28 => ?_)
      · replace hf := ifn c28 hf
        refine aw_aload_n (pc' := 120) dX12_saysNow_119 rfl rfl rfl ?_
        refine aw_gr (q := 59) (e := 33) (v := .ref 83) (pc' := 123) H15 (H15.fo rfl rfl) (by decide) rfl rfl dX12_saysNow_120 rfl fl_RX12_56 ?_
        refine aw_iload_n (pc' := 124) dX12_saysNow_123 rfl rfl ?_
        obtain ⟨g29, hf⟩ := gd_e hf
        refine aw_ia (q := 75) (pc' := 125) H15 (H15.fa rfl rfl rfl) g29 dX12_saysNow_124 rfl ?_
        exact hk16 _ hf
      · replace hf := ifp c28 hf
        refine aw_iconst (v := 0) (pc' := 116) dX12_saysNow_115 rfl (by decide) ?_
        refine aw_goto (tgt := 125) dX12_saysNow_116 (by decide) ?_
        exact hk16 _ hf
    clear ek14
    refine aw_zge (tgt := 99) (pc' := 95) dX12_saysNow_92 (by decide) rfl (fun c30 => ?_) (fun c30 => ?_)
    · replace hf := ifn c30 hf
      refine aw_aload_n (pc' := 100) dX12_saysNow_99 rfl rfl rfl ?_
      refine aw_gr (q := 59) (e := 31) (v := .ref 82) (pc' := 103) H13 (H13.fo rfl rfl) (by decide) rfl rfl dX12_saysNow_100 rfl fl_RX12_53 ?_
      refine aw_iload_n (pc' := 104) dX12_saysNow_103 rfl rfl ?_
      obtain ⟨g31, hf⟩ := gd_e hf
      refine aw_ia (q := 74) (pc' := 105) H13 (H13.fa rfl rfl rfl) g31 dX12_saysNow_104 rfl ?_
      exact hk14 _ hf
    · replace hf := ifp c30 hf
      refine aw_iconst (v := 0) (pc' := 96) dX12_saysNow_95 rfl (by decide) ?_
      refine aw_goto (tgt := 105) dX12_saysNow_96 (by decide) ?_
      exact hk14 _ hf
  · replace hf := ifp c2 hf
    refine aw_iload_n (pc' := 21) dX12_saysNow_20 rfl rfl ?_
    obtain ⟨rfl, rfl⟩ := so2 hf
    exact aw_ri dX12_saysNow_21 rfl rfl (Nat.le_of_ble_eq_true rfl) (Nat.le_of_ble_eq_true rfl) ⟨rfl, H0, (Mo.rf _)⟩
/-! ThirtyThreeBelowModel.says -/
def f_X12_says (s0 : SS) (a0 : Int32) (a1 : Int32) : Option (Int32 × SS) := (b1 (f_X12_isWhat a0) fun r1 => (if r1 = (0 : Int32) then some ((-2000000000), s0) else (jn ((jn (fun (t4_0 : Int32) => (bd (f_X12_saysNow s0 a0 a1 t4_0) fun r5 s5 => some (r5, s5))) fun k4 => (if (a0 % (10 : Int32)) = (0 : Int32) then (k4 1) else (k4 0)))) fun k3 => (if (a0 % (10 : Int32)) = (2 : Int32) then (if a1 = ((-1) : Int32) then k3 else some ((-2000000000), s0)) else (b1 (f_X12_isMan s0 a1) fun r8 => (if r8 = (0 : Int32) then some ((-2000000000), s0) else k3))))))
set_option maxRecDepth 4000 in
theorem t_X12_says {r9 : Int32} {s0 s9 : SS} {h0 : List aE} {a0 : Int32} {a1 : Int32} (H0 : HH s0 h0) (hf : f_X12_says s0 a0 a1 = some (r9, s9)) : AM mX12_says (4) [.ref 67, .int a0, .int a1] h0 0 0 (PI fun r' h' => r9 = r' ∧ HH s9 h' ∧ Mo s0 s9) := by
  unfold f_X12_says at hf
  refine am_of (lv := [some (.ref 67), some (.int a0), some (.int a1)]) rfl (Nat.le_of_ble_eq_true rfl) rfl ?_
  refine aw_iload_n (pc' := 1) dX12_says_0 rfl rfl ?_
  obtain ⟨r1, ec1, hf⟩ := b1_e hf
  refine aw_callSi (M' := mX12_isWhat) (nc' := 0) (ns' := 0) (pc' := 4) dX12_says_1 rfl ml_RX12_370 kX12_isWhat (t_X12_isWhat ec1) rfl rfl (Nat.le_of_ble_eq_true rfl) (rokD (by omega) (Nat.le_of_ble_eq_true rfl) (Nat.le_of_ble_eq_true rfl) (Nat.le_of_ble_eq_true rfl)) rfl rfl (fun _ h1 q1 => ?_)
  obtain ⟨rfl, rfl, zb1⟩ := q1
  refine aw_if_eq (tgt := 31) (pc' := 7) dX12_says_4 (by decide) rfl (fun c2 => ?_) (fun c2 => ?_)
  · replace hf := ifp c2 hf
    refine aw_ldcw (pc' := 34) dX12_says_31 rfl ct_RX12_267 ?_
    obtain ⟨rfl, rfl⟩ := so2 hf
    exact aw_ri dX12_says_34 rfl rfl (Nat.le_of_ble_eq_true rfl) (Nat.le_of_ble_eq_true rfl) ⟨rfl, H0, (Mo.rf _)⟩
  · replace hf := ifn c2 hf
    refine aw_iload_n (pc' := 8) dX12_says_7 rfl rfl ?_
    refine aw_bipush (v := 10) (pc' := 10) dX12_says_8 rfl (by decide) ?_
    refine aw_irem (pc' := 11) dX12_says_10 rfl (by decide) ?_
    refine aw_iconst (v := 2) (pc' := 12) dX12_says_11 rfl (by decide) ?_
    obtain ⟨k3, ek3, hf⟩ := jn_e hf
    have hk3 : k3 = some (r9, s9) → AW mX12_says (rmD (4) 0 0) (fin (PI fun r' h' => r9 = r' ∧ HH s9 h' ∧ Mo s0 s9) 0 0) 35 [some (.ref 67), some (.int a0), some (.int a1)] [] h0 0 0 := by
      intro hf
      subst ek3
      refine aw_aload_n (pc' := 36) dX12_says_35 rfl rfl rfl ?_
      refine aw_iload_n (pc' := 37) dX12_says_36 rfl rfl ?_
      refine aw_iload_n (pc' := 38) dX12_says_37 rfl rfl ?_
      refine aw_iload_n (pc' := 39) dX12_says_38 rfl rfl ?_
      refine aw_bipush (v := 10) (pc' := 41) dX12_says_39 rfl (by decide) ?_
      refine aw_irem (pc' := 42) dX12_says_41 rfl (by decide) ?_
      obtain ⟨k4, ek4, hf⟩ := jn_e hf
      have hk4 : ∀ (t4_0 : Int32), k4 t4_0 = some (r9, s9) → AW mX12_says (rmD (4) 0 0) (fin (PI fun r' h' => r9 = r' ∧ HH s9 h' ∧ Mo s0 s9) 0 0) 50 [none, none, none] [.int t4_0, .int a1, .int a0, .ref 67] h0 0 0 := by
        intro t4_0 hf
        subst ek4
        obtain ⟨r5, s5, ec5, hf⟩ := bd_e hf
        refine aw_callVi (M' := mX12_saysNow) (nc' := 0) (ns' := 0) (pc' := 53) dX12_says_50 rfl ml_RX12_403 kX12_saysNow (t_X12_saysNow H0 ec5) (H0.ob (H0.fo rfl rfl) (by decide)) rfl rfl rfl (Nat.le_of_ble_eq_true rfl) (rokD (by omega) (Nat.le_of_ble_eq_true rfl) (Nat.le_of_ble_eq_true rfl) (Nat.le_of_ble_eq_true rfl)) rfl rfl (fun _ h5 q5 => ?_)
        obtain ⟨rfl, H5, m5⟩ := q5
        obtain ⟨rfl, rfl⟩ := so2 hf
        exact aw_ri dX12_says_53 rfl rfl (Nat.le_of_ble_eq_true rfl) (Nat.le_of_ble_eq_true rfl) ⟨rfl, H5, m5⟩
      clear ek4
      refine aw_if_ne (tgt := 49) (pc' := 45) dX12_says_42 (by decide) rfl (fun c6 => ?_) (fun c6 => ?_)
      · replace hf := ifn c6 hf
        refine aw_iconst (v := 0) (pc' := 50) dX12_says_49 rfl (by decide) ?_
        refine AW.lv_le (lz_d (lz_d (lz_d lz_0))) ?_
        exact hk4 _ hf
      · replace hf := ifp c6 hf
        refine aw_iconst (v := 1) (pc' := 46) dX12_says_45 rfl (by decide) ?_
        refine aw_goto (tgt := 50) dX12_says_46 (by decide) ?_
        refine AW.lv_le (lz_d (lz_d (lz_d lz_0))) ?_
        exact hk4 _ hf
    clear ek3
    refine aw_icmp_ne (tgt := 23) (pc' := 15) dX12_says_12 (by decide) rfl (fun c7 => ?_) (fun c7 => ?_)
    · replace hf := ifn c7 hf
      refine aw_aload_n (pc' := 24) dX12_says_23 rfl rfl rfl ?_
      refine aw_iload_n (pc' := 25) dX12_says_24 rfl rfl ?_
      obtain ⟨r8, ec8, hf⟩ := b1_e hf
      refine aw_callVi (M' := mX12_isMan) (nc' := 0) (ns' := 0) (pc' := 28) dX12_says_25 rfl ml_RX12_275 kX12_isMan (t_X12_isMan H0 ec8) (H0.ob (H0.fo rfl rfl) (by decide)) rfl rfl rfl (Nat.le_of_ble_eq_true rfl) (rokD (by omega) (Nat.le_of_ble_eq_true rfl) (Nat.le_of_ble_eq_true rfl) (Nat.le_of_ble_eq_true rfl)) rfl rfl (fun _ h8 q8 => ?_)
      obtain ⟨rfl, rfl, zb8⟩ := q8
      refine aw_if_ne (tgt := 35) (pc' := 31) dX12_says_28 (by decide) rfl (fun c9 => ?_) (fun c9 => ?_)
      · replace hf := ifn c9 hf
        exact hk3  hf
      · replace hf := ifp c9 hf
        refine aw_ldcw (pc' := 34) dX12_says_31 rfl ct_RX12_267 ?_
        obtain ⟨rfl, rfl⟩ := so2 hf
        exact aw_ri dX12_says_34 rfl rfl (Nat.le_of_ble_eq_true rfl) (Nat.le_of_ble_eq_true rfl) ⟨rfl, H0, (Mo.rf _)⟩
    · replace hf := ifp c7 hf
      refine aw_iload_n (pc' := 16) dX12_says_15 rfl rfl ?_
      refine aw_iconst (v := (-1)) (pc' := 17) dX12_says_16 rfl (by decide) ?_
      refine aw_icmp_eq (tgt := 35) (pc' := 20) dX12_says_17 (by decide) rfl (fun c10 => ?_) (fun c10 => ?_)
      · replace hf := ifp c10 hf
        exact hk3  hf
      · replace hf := ifn c10 hf
        refine aw_goto (tgt := 31) dX12_says_20 (by decide) ?_
        refine aw_ldcw (pc' := 34) dX12_says_31 rfl ct_RX12_267 ?_
        obtain ⟨rfl, rfl⟩ := so2 hf
        exact aw_ri dX12_says_34 rfl rfl (Nat.le_of_ble_eq_true rfl) (Nat.le_of_ble_eq_true rfl) ⟨rfl, H0, (Mo.rf _)⟩
/-! ThirtyThreeBelowModel.move -/
def f_X12_move (s0 : SS) (a0 : Int32) (a1 : Int32) : Option (Int32 × SS) := (b1 (f_X12_isCell a0) fun r1 => (if r1 = (0 : Int32) then some ((-1), s0) else (b1 (f_X12_in a1 ((zS s0 59 1) + (1 : Int32)) (1699 : Int32)) fun r3 => (if r3 = (0 : Int32) then some ((-1), s0) else (if (zS s0 59 56) = (60 : Int32) then some ((-3), s0) else (vl ((zS s0 59 56)) fun v6 => (gd (inB v6 60) (st (pI s0 97 (v6.toInt.toNat) a0) fun s8 => (vl ((zS s8 59 56)) fun v9 => (gd (inB v9 60) (st (pI s8 98 (v9.toInt.toNat) a1) fun s11 => (vl (((zS s11 59 56) + (1 : Int32))) fun v12 => (st (pS s11 59 56 v12) fun s13 => some ((zS s13 59 56), s13))))))))))))))
set_option maxRecDepth 4000 in
theorem t_X12_move {r9 : Int32} {s0 s9 : SS} {h0 : List aE} {a0 : Int32} {a1 : Int32} (H0 : HH s0 h0) (hf : f_X12_move s0 a0 a1 = some (r9, s9)) : AM mX12_move (2) [.ref 67, .int a0, .int a1] h0 0 0 (PI fun r' h' => r9 = r' ∧ HH s9 h' ∧ Mo s0 s9) := by
  unfold f_X12_move at hf
  refine am_of (lv := [some (.ref 67), some (.int a0), some (.int a1)]) rfl (Nat.le_of_ble_eq_true rfl) rfl ?_
  refine aw_iload_n (pc' := 1) dX12_move_0 rfl rfl ?_
  obtain ⟨r1, ec1, hf⟩ := b1_e hf
  refine aw_callSi (M' := mX12_isCell) (nc' := 0) (ns' := 0) (pc' := 4) dX12_move_1 rfl ml_RX12_234 kX12_isCell (t_X12_isCell ec1) rfl rfl (Nat.le_of_ble_eq_true rfl) (rokD (by omega) (Nat.le_of_ble_eq_true rfl) (Nat.le_of_ble_eq_true rfl) (Nat.le_of_ble_eq_true rfl)) rfl rfl (fun _ h1 q1 => ?_)
  obtain ⟨rfl, rfl, zb1⟩ := q1
  refine aw_if_eq (tgt := 23) (pc' := 7) dX12_move_4 (by decide) rfl (fun c2 => ?_) (fun c2 => ?_)
  · replace hf := ifp c2 hf
    refine aw_iconst (v := (-1)) (pc' := 24) dX12_move_23 rfl (by decide) ?_
    obtain ⟨rfl, rfl⟩ := so2 hf
    exact aw_ri dX12_move_24 rfl rfl (Nat.le_of_ble_eq_true rfl) (Nat.le_of_ble_eq_true rfl) ⟨rfl, H0, (Mo.rf _)⟩
  · replace hf := ifn c2 hf
    refine aw_iload_n (pc' := 8) dX12_move_7 rfl rfl ?_
    refine aw_aload_n (pc' := 9) dX12_move_8 rfl rfl rfl ?_
    refine aw_gi (q := 59) (pc' := 12) H0 (H0.fo rfl rfl) (by decide) rfl dX12_move_9 rfl fl_RX12_281 ?_
    refine aw_iconst (v := 1) (pc' := 13) dX12_move_12 rfl (by decide) ?_
    refine aw_iadd (pc' := 14) dX12_move_13 rfl ?_
    refine aw_sipush (v := 1699) (pc' := 17) dX12_move_14 rfl (by decide) ?_
    obtain ⟨r3, ec3, hf⟩ := b1_e hf
    refine aw_callSi (M' := mX12_in) (nc' := 0) (ns' := 0) (pc' := 20) dX12_move_17 rfl ml_RX12_230 kX12_in (t_X12_in ec3) rfl rfl (Nat.le_of_ble_eq_true rfl) (rokD (by omega) (Nat.le_of_ble_eq_true rfl) (Nat.le_of_ble_eq_true rfl) (Nat.le_of_ble_eq_true rfl)) rfl rfl (fun _ h3 q3 => ?_)
    obtain ⟨rfl, rfl, zb3⟩ := q3
    refine aw_if_ne (tgt := 25) (pc' := 23) dX12_move_20 (by decide) rfl (fun c4 => ?_) (fun c4 => ?_)
    · replace hf := ifn c4 hf
      refine aw_aload_n (pc' := 26) dX12_move_25 rfl rfl rfl ?_
      refine aw_gi (q := 59) (pc' := 29) H0 (H0.fo rfl rfl) (by decide) rfl dX12_move_26 rfl fl_RX12_406 ?_
      refine aw_bipush (v := 60) (pc' := 31) dX12_move_29 rfl (by decide) ?_
      refine aw_icmp_ne (tgt := 37) (pc' := 34) dX12_move_31 (by decide) rfl (fun c5 => ?_) (fun c5 => ?_)
      · replace hf := ifn c5 hf
        refine aw_aload_n (pc' := 38) dX12_move_37 rfl rfl rfl ?_
        refine aw_gr (q := 59) (e := 77) (v := .ref 105) (pc' := 41) H0 (H0.fo rfl rfl) (by decide) rfl rfl dX12_move_38 rfl fl_RX12_130 ?_
        refine aw_aload_n (pc' := 42) dX12_move_41 rfl rfl rfl ?_
        refine aw_gi (q := 59) (pc' := 45) H0 (H0.fo rfl rfl) (by decide) rfl dX12_move_42 rfl fl_RX12_406 ?_
        refine aw_iload_n (pc' := 46) dX12_move_45 rfl rfl ?_
        obtain ⟨v6, ev6, hf⟩ := vl_e hf
        refine aw_sndi ev6 ?_
        obtain ⟨g7, hf⟩ := gd_e hf
        obtain ⟨s8, es8, hf⟩ := st_e hf
        refine aw_is (q := 97) (pc' := 47) es8 H0 (H0.fa rfl rfl rfl) g7 dX12_move_46 rfl (fun h8 H8 => ?_)
        have m8 := Mo.ofI es8
        refine aw_aload_n (pc' := 48) dX12_move_47 rfl rfl rfl ?_
        refine aw_gr (q := 59) (e := 79) (v := .ref 106) (pc' := 51) H8 (H8.fo rfl rfl) (by decide) rfl rfl dX12_move_48 rfl fl_RX12_133 ?_
        refine aw_aload_n (pc' := 52) dX12_move_51 rfl rfl rfl ?_
        refine aw_gi (q := 59) (pc' := 55) H8 (H8.fo rfl rfl) (by decide) rfl dX12_move_52 rfl fl_RX12_406 ?_
        refine aw_iload_n (pc' := 56) dX12_move_55 rfl rfl ?_
        obtain ⟨v9, ev9, hf⟩ := vl_e hf
        refine aw_sndi ev9 ?_
        obtain ⟨g10, hf⟩ := gd_e hf
        obtain ⟨s11, es11, hf⟩ := st_e hf
        refine aw_is (q := 98) (pc' := 57) es11 H8 (H8.fa rfl rfl rfl) g10 dX12_move_56 rfl (fun h11 H11 => ?_)
        have m11 := Mo.ofI es11
        refine aw_aload_n (pc' := 58) dX12_move_57 rfl rfl rfl ?_
        refine aw_dup (pc' := 59) dX12_move_58 rfl rfl ?_
        refine aw_gi (q := 59) (pc' := 62) H11 (H11.fo rfl rfl) (by decide) rfl dX12_move_59 rfl fl_RX12_406 ?_
        refine aw_iconst (v := 1) (pc' := 63) dX12_move_62 rfl (by decide) ?_
        refine aw_iadd (pc' := 64) dX12_move_63 rfl ?_
        obtain ⟨v12, ev12, hf⟩ := vl_e hf
        refine aw_topi ev12 ?_
        obtain ⟨s13, es13, hf⟩ := st_e hf
        refine aw_pi (q := 59) (pc' := 67) es13 H11 (H11.fo rfl rfl) (by decide) rfl dX12_move_64 rfl fl_RX12_406 rfl (fun h13 H13 => ?_)
        have m13 := Mo.ofS es13
        refine aw_aload_n (pc' := 68) dX12_move_67 rfl rfl rfl ?_
        refine aw_gi (q := 59) (pc' := 71) H13 (H13.fo rfl rfl) (by decide) rfl dX12_move_68 rfl fl_RX12_406 ?_
        obtain ⟨rfl, rfl⟩ := so2 hf
        exact aw_ri dX12_move_71 rfl rfl (Nat.le_of_ble_eq_true rfl) (Nat.le_of_ble_eq_true rfl) ⟨rfl, H13, ((m8.tr m11).tr m13)⟩
      · replace hf := ifp c5 hf
        refine aw_bipush (v := (-3)) (pc' := 36) dX12_move_34 rfl (by decide) ?_
        obtain ⟨rfl, rfl⟩ := so2 hf
        exact aw_ri dX12_move_36 rfl rfl (Nat.le_of_ble_eq_true rfl) (Nat.le_of_ble_eq_true rfl) ⟨rfl, H0, (Mo.rf _)⟩
    · replace hf := ifp c4 hf
      refine aw_iconst (v := (-1)) (pc' := 24) dX12_move_23 rfl (by decide) ?_
      obtain ⟨rfl, rfl⟩ := so2 hf
      exact aw_ri dX12_move_24 rfl rfl (Nat.le_of_ble_eq_true rfl) (Nat.le_of_ble_eq_true rfl) ⟨rfl, H0, (Mo.rf _)⟩
/-! ThirtyThreeBelowModel.spoons -/
def f_X12_spoons (s0 : SS) (a0 : Int32) : Option (Int32 × SS) := (b1 (f_X12_in a0 (0 : Int32) (9999 : Int32)) fun r1 => (if r1 = (0 : Int32) then some ((-1), s0) else (vl ((zS s0 59 54)) fun v3 => (st (pS s0 59 54 a0) fun s4 => some (v3, s4)))))
set_option maxRecDepth 4000 in
theorem t_X12_spoons {r9 : Int32} {s0 s9 : SS} {h0 : List aE} {a0 : Int32} (H0 : HH s0 h0) (hf : f_X12_spoons s0 a0 = some (r9, s9)) : AM mX12_spoons (1) [.ref 67, .int a0] h0 0 0 (PI fun r' h' => r9 = r' ∧ HH s9 h' ∧ Mo s0 s9) := by
  unfold f_X12_spoons at hf
  refine am_of (lv := [some (.ref 67), some (.int a0), none]) rfl (Nat.le_of_ble_eq_true rfl) rfl ?_
  refine aw_iload_n (pc' := 1) dX12_spoons_0 rfl rfl ?_
  refine aw_iconst (v := 0) (pc' := 2) dX12_spoons_1 rfl (by decide) ?_
  refine aw_sipush (v := 9999) (pc' := 5) dX12_spoons_2 rfl (by decide) ?_
  obtain ⟨r1, ec1, hf⟩ := b1_e hf
  refine aw_callSi (M' := mX12_in) (nc' := 0) (ns' := 0) (pc' := 8) dX12_spoons_5 rfl ml_RX12_230 kX12_in (t_X12_in ec1) rfl rfl (Nat.le_of_ble_eq_true rfl) (rokD (by omega) (Nat.le_of_ble_eq_true rfl) (Nat.le_of_ble_eq_true rfl) (Nat.le_of_ble_eq_true rfl)) rfl rfl (fun _ h1 q1 => ?_)
  obtain ⟨rfl, rfl, zb1⟩ := q1
  refine aw_if_ne (tgt := 13) (pc' := 11) dX12_spoons_8 (by decide) rfl (fun c2 => ?_) (fun c2 => ?_)
  · replace hf := ifn c2 hf
    refine aw_aload_n (pc' := 14) dX12_spoons_13 rfl rfl rfl ?_
    refine aw_gi (q := 59) (pc' := 17) H0 (H0.fo rfl rfl) (by decide) rfl dX12_spoons_14 rfl fl_RX12_397 ?_
    obtain ⟨v3, ev3, hf⟩ := vl_e hf
    refine aw_topi ev3 ?_
    refine aw_istore_n (lv' := [_, _, _]) (pc' := 18) dX12_spoons_17 rfl (Nat.le_of_ble_eq_true rfl) rfl ?_
    refine aw_aload_n (pc' := 19) dX12_spoons_18 rfl rfl rfl ?_
    refine aw_iload_n (pc' := 20) dX12_spoons_19 rfl rfl ?_
    obtain ⟨s4, es4, hf⟩ := st_e hf
    refine aw_pi (q := 59) (pc' := 23) es4 H0 (H0.fo rfl rfl) (by decide) rfl dX12_spoons_20 rfl fl_RX12_397 rfl (fun h4 H4 => ?_)
    have m4 := Mo.ofS es4
    refine aw_iload_n (pc' := 24) dX12_spoons_23 rfl rfl ?_
    obtain ⟨rfl, rfl⟩ := so2 hf
    exact aw_ri dX12_spoons_24 rfl rfl (Nat.le_of_ble_eq_true rfl) (Nat.le_of_ble_eq_true rfl) ⟨rfl, H4, m4⟩
  · replace hf := ifp c2 hf
    refine aw_iconst (v := (-1)) (pc' := 12) dX12_spoons_11 rfl (by decide) ?_
    obtain ⟨rfl, rfl⟩ := so2 hf
    exact aw_ri dX12_spoons_12 rfl rfl (Nat.le_of_ble_eq_true rfl) (Nat.le_of_ble_eq_true rfl) ⟨rfl, H0, (Mo.rf _)⟩
