/-! ThirtyThreeBelowModel.capsule -/
def f_X12_capsule_L85_b (q0 : SS → Int32 → Option (Int32 × SS)) (y1 : Int32) (y2 : Int32) (y3 : Int32) (y4 : Int32) (rc : SS → Int32 → Option (Int32 × SS)) (s : SS) (x5 : Int32) : Option (Int32 × SS) := (if (0 : Int32) < x5 then (vl ((x5 - (1 : Int32))) fun v16 => (gd (inB v16 120) (if (zI s 117 (v16.toInt.toNat)) < y4 then (vl ((x5 - (1 : Int32))) fun v19 => (gd (inB v19 120) (vl ((zI s 116 (v19.toInt.toNat))) fun v21 => (gd (inB x5 120) (st (pI s 116 (x5.toInt.toNat) v21) fun s23 => (vl ((x5 - (1 : Int32))) fun v24 => (gd (inB v24 120) (vl ((zI s23 117 (v24.toInt.toNat))) fun v26 => (gd (inB x5 120) (st (pI s23 117 (x5.toInt.toNat) v26) fun s28 => (vl (x5 + (-1)) fun v29 => (rc s28 v29)))))))))))) else (q0 s x5)))) else (q0 s x5))
def f_X12_capsule_L85 (q0 : SS → Int32 → Option (Int32 × SS)) (y1 : Int32) (y2 : Int32) (y3 : Int32) (y4 : Int32) : Nat → SS → Int32 → Option (Int32 × SS)
  | 0, _, _ => none
  | n + 1, s, x5 => f_X12_capsule_L85_b q0 y1 y2 y3 y4 (f_X12_capsule_L85 q0 y1 y2 y3 y4 n) s x5
set_option maxRecDepth 4000 in
theorem t_X12_capsule_L85 {r9 : Int32} {s0 sb s9 : SS} {q0 : SS → Int32 → Option (Int32 × SS} {y1 : Int32} {y2 : Int32} {y3 : Int32} {y4 : Int32} (mb : Mo s0 sb) (hq0 : ∀ (s : SS) (h : List aE) (x5 : Int32), HH s h → Mo sb s → q0 s x5 = some (r9, s9) → AW mX12_capsule (rmD (4) 0 0) (fin (PI fun r' h' => r9 = r' ∧ HH s9 h' ∧ Mo s0 s9) 0 0) 142 [some (.ref 67), some (.int y1), some (.int y2), some (.int y3), some (.int y4), some (.int x5)] [] h 0 0) : ∀ (n : Nat) (s : SS) (h : List aE) (x5 : Int32), HH s h → Mo sb s → f_X12_capsule_L85 q0 y1 y2 y3 y4 n s x5 = some (r9, s9) → AW mX12_capsule (rmD (4) 0 0) (fin (PI fun r' h' => r9 = r' ∧ HH s9 h' ∧ Mo s0 s9) 0 0) 85 [some (.ref 67), some (.int y1), some (.int y2), some (.int y3), some (.int y4), some (.int x5)] [] h 0 0 := by
  intro n
  induction n with
  | zero =>
    intro s h x5 H ms hf
    cases hf
  | succ n ih =>
    intro s h x5 H ms hf
    replace hf : f_X12_capsule_L85_b q0 y1 y2 y3 y4 (f_X12_capsule_L85 q0 y1 y2 y3 y4 n) s x5 = some (r9, s9) := hf
    unfold f_X12_capsule_L85_b at hf
    refine aw_iload (pc' := 87) dX12_capsule_85 rfl rfl ?_
    refine aw_zle (tgt := 142) (pc' := 90) dX12_capsule_87 (by decide) rfl (fun c15 => ?_) (fun c15 => ?_)
    · replace hf := ifn c15 hf
      exact hq0 _ _ _ H ms hf
    · replace hf := ifp c15 hf
      refine aw_aload_n (pc' := 91) dX12_capsule_90 rfl rfl rfl ?_
      refine aw_gr (q := 59) (e := 117) (v := .ref 125) (pc' := 94) H (H.fo rfl rfl) (by decide) rfl rfl dX12_capsule_91 rfl fl_RX12_199 ?_
      refine aw_iload (pc' := 96) dX12_capsule_94 rfl rfl ?_
      refine aw_iconst (v := 1) (pc' := 97) dX12_capsule_96 rfl (by decide) ?_
      refine aw_isub (pc' := 98) dX12_capsule_97 rfl ?_
      obtain ⟨v16, ev16, hf⟩ := vl_e hf
      refine aw_topi ev16 ?_
      obtain ⟨g17, hf⟩ := gd_e hf
      refine aw_ia (q := 117) (pc' := 99) H (H.fa rfl rfl rfl) g17 dX12_capsule_98 rfl ?_
      refine aw_iload (pc' := 101) dX12_capsule_99 rfl rfl ?_
      refine aw_cge (tgt := 142) (pc' := 104) dX12_capsule_101 (by decide) rfl (fun c18 => ?_) (fun c18 => ?_)
      · replace hf := ifn c18 hf
        exact hq0 _ _ _ H ms hf
      · replace hf := ifp c18 hf
        refine aw_aload_n (pc' := 105) dX12_capsule_104 rfl rfl rfl ?_
        refine aw_gr (q := 59) (e := 115) (v := .ref 124) (pc' := 108) H (H.fo rfl rfl) (by decide) rfl rfl dX12_capsule_105 rfl fl_RX12_196 ?_
        refine aw_iload (pc' := 110) dX12_capsule_108 rfl rfl ?_
        refine aw_aload_n (pc' := 111) dX12_capsule_110 rfl rfl rfl ?_
        refine aw_gr (q := 59) (e := 115) (v := .ref 124) (pc' := 114) H (H.fo rfl rfl) (by decide) rfl rfl dX12_capsule_111 rfl fl_RX12_196 ?_
        refine aw_iload (pc' := 116) dX12_capsule_114 rfl rfl ?_
        refine aw_iconst (v := 1) (pc' := 117) dX12_capsule_116 rfl (by decide) ?_
        refine aw_isub (pc' := 118) dX12_capsule_117 rfl ?_
        obtain ⟨v19, ev19, hf⟩ := vl_e hf
        refine aw_topi ev19 ?_
        obtain ⟨g20, hf⟩ := gd_e hf
        refine aw_ia (q := 116) (pc' := 119) H (H.fa rfl rfl rfl) g20 dX12_capsule_118 rfl ?_
        obtain ⟨v21, ev21, hf⟩ := vl_e hf
        refine aw_topi ev21 ?_
        obtain ⟨g22, hf⟩ := gd_e hf
        obtain ⟨s23, es23, hf⟩ := st_e hf
        refine aw_is (q := 116) (pc' := 120) es23 H (H.fa rfl rfl rfl) g22 dX12_capsule_119 rfl (fun h23 H23 => ?_)
        have m23 := Mo.ofI es23
        refine aw_aload_n (pc' := 121) dX12_capsule_120 rfl rfl rfl ?_
        refine aw_gr (q := 59) (e := 117) (v := .ref 125) (pc' := 124) H23 (H23.fo rfl rfl) (by decide) rfl rfl dX12_capsule_121 rfl fl_RX12_199 ?_
        refine aw_iload (pc' := 126) dX12_capsule_124 rfl rfl ?_
        refine aw_aload_n (pc' := 127) dX12_capsule_126 rfl rfl rfl ?_
        refine aw_gr (q := 59) (e := 117) (v := .ref 125) (pc' := 130) H23 (H23.fo rfl rfl) (by decide) rfl rfl dX12_capsule_127 rfl fl_RX12_199 ?_
        refine aw_iload (pc' := 132) dX12_capsule_130 rfl rfl ?_
        refine aw_iconst (v := 1) (pc' := 133) dX12_capsule_132 rfl (by decide) ?_
        refine aw_isub (pc' := 134) dX12_capsule_133 rfl ?_
        obtain ⟨v24, ev24, hf⟩ := vl_e hf
        refine aw_topi ev24 ?_
        obtain ⟨g25, hf⟩ := gd_e hf
        refine aw_ia (q := 117) (pc' := 135) H23 (H23.fa rfl rfl rfl) g25 dX12_capsule_134 rfl ?_
        obtain ⟨v26, ev26, hf⟩ := vl_e hf
        refine aw_topi ev26 ?_
        obtain ⟨g27, hf⟩ := gd_e hf
        obtain ⟨s28, es28, hf⟩ := st_e hf
        refine aw_is (q := 117) (pc' := 136) es28 H23 (H23.fa rfl rfl rfl) g27 dX12_capsule_135 rfl (fun h28 H28 => ?_)
        have m28 := Mo.ofI es28
        obtain ⟨v29, ev29, hf⟩ := vl_e hf
        refine aw_iincV (y := v29) (lv' := [_, _, _, _, _, _]) (pc' := 139) dX12_capsule_136 rfl rfl (Nat.le_of_ble_eq_true rfl) ev29 rfl ?_
        refine aw_goto (tgt := 85) dX12_capsule_139 (by decide) ?_
        exact ih _ _ _ H28 ((ms.tr m23).tr m28) hf
def f_X12_capsule_L53_b (q0 : SS → Int32 → Option (Int32 × SS)) (y1 : Int32) (rc : SS → Int32 → Int32 → Option (Int32 × SS)) (s : SS) (x2 : Int32) (x3 : Int32) : Option (Int32 × SS) := (if x3 < (zS s 59 4) then (gd (inB x3 120) (jn (fun (s11 : SS) (j11_2 : Int32) => (vl (x3 + 1) fun v12 => (rc s11 j11_2 v12))) fun k11 => (if (zI s 77 (x3.toInt.toNat)) = (0 : Int32) then (k11 s x2) else (bd (f_X12_saysNow s 1 x3 0) fun r14 s14 => (f_X12_capsule_L85 (fun (s30 : SS) (x30_5 : Int32) => (gd (inB x30_5 120) (st (pI s30 116 (x30_5.toInt.toNat) x3) fun s32 => (gd (inB x30_5 120) (st (pI s32 117 (x30_5.toInt.toNat) r14) fun s34 => (vl (x2 + 1) fun v35 => (k11 s34 v35))))))) y1 x2 x3 r14 4000 s14 x2))))) else (q0 s x2))
def f_X12_capsule_L53 (q0 : SS → Int32 → Option (Int32 × SS)) (y1 : Int32) : Nat → SS → Int32 → Int32 → Option (Int32 × SS)
  | 0, _, _, _ => none
  | n + 1, s, x2, x3 => f_X12_capsule_L53_b q0 y1 (f_X12_capsule_L53 q0 y1 n) s x2 x3
set_option maxRecDepth 4000 in
theorem t_X12_capsule_L53 {r9 : Int32} {s0 sb s9 : SS} {q0 : SS → Int32 → Option (Int32 × SS} {y1 : Int32} (mb : Mo s0 sb) (hq0 : ∀ (s : SS) (h : List aE) (x2 : Int32), HH s h → Mo sb s → q0 s x2 = some (r9, s9) → AW mX12_capsule (rmD (4) 0 0) (fin (PI fun r' h' => r9 = r' ∧ HH s9 h' ∧ Mo s0 s9) 0 0) 168 [some (.ref 67), some (.int y1), some (.int x2), none, none, none] [] h 0 0) : ∀ (n : Nat) (s : SS) (h : List aE) (x2 : Int32) (x3 : Int32), HH s h → Mo sb s → f_X12_capsule_L53 q0 y1 n s x2 x3 = some (r9, s9) → AW mX12_capsule (rmD (4) 0 0) (fin (PI fun r' h' => r9 = r' ∧ HH s9 h' ∧ Mo s0 s9) 0 0) 53 [some (.ref 67), some (.int y1), some (.int x2), some (.int x3), none, none] [] h 0 0 := by
  intro n
  induction n with
  | zero =>
    intro s h x2 x3 H ms hf
    cases hf
  | succ n ih =>
    intro s h x2 x3 H ms hf
    replace hf : f_X12_capsule_L53_b q0 y1 (f_X12_capsule_L53 q0 y1 n) s x2 x3 = some (r9, s9) := hf
    unfold f_X12_capsule_L53_b at hf
    refine aw_iload_n (pc' := 54) dX12_capsule_53 rfl rfl ?_
    refine aw_aload_n (pc' := 55) dX12_capsule_54 rfl rfl rfl ?_
    refine aw_gi (q := 59) (pc' := 58) H (H.fo rfl rfl) (by decide) rfl dX12_capsule_55 rfl fl_RX12_242 ?_
    refine aw_cge (tgt := 168) (pc' := 61) dX12_capsule_58 (by decide) rfl (fun c9 => ?_) (fun c9 => ?_)
    · replace hf := ifn c9 hf
      refine AW.lv_le (lz_k (lz_k (lz_k (lz_d (lz_d (lz_d lz_0)))))) ?_
      exact hq0 _ _ _ H ms hf
    · replace hf := ifp c9 hf
      refine aw_aload_n (pc' := 62) dX12_capsule_61 rfl rfl rfl ?_
      refine aw_gr (q := 59) (e := 37) (v := .ref 85) (pc' := 65) H (H.fo rfl rfl) (by decide) rfl rfl dX12_capsule_62 rfl fl_RX12_62 ?_
      refine aw_iload_n (pc' := 66) dX12_capsule_65 rfl rfl ?_
      obtain ⟨g10, hf⟩ := gd_e hf
      refine aw_za (q := 77) (pc' := 67) H (H.fa rfl rfl rfl) g10 dX12_capsule_66 rfl ?_
      obtain ⟨k11, ek11, hf⟩ := jn_e hf
      have hk11 : ∀ (s11 : SS) (h11 : List aE) (j11_2 : Int32), HH s11 h11 → Mo s s11 → k11 s11 j11_2 = some (r9, s9) → AW mX12_capsule (rmD (4) 0 0) (fin (PI fun r' h' => r9 = r' ∧ HH s9 h' ∧ Mo s0 s9) 0 0) 162 [some (.ref 67), some (.int y1), some (.int j11_2), some (.int x3), none, none] [] h11 0 0 := by
        intro s11 h11 j11_2 H11 m11 hf
        subst ek11
        obtain ⟨v12, ev12, hf⟩ := vl_e hf
        refine aw_iincV (y := v12) (lv' := [_, _, _, _, _, _]) (pc' := 165) dX12_capsule_162 rfl rfl (Nat.le_of_ble_eq_true rfl) ev12 rfl ?_
        refine aw_goto (tgt := 53) dX12_capsule_165 (by decide) ?_
        exact ih _ _ _ _ H11 (ms.tr m11) hf
      clear ek11
      refine aw_if_ne (tgt := 73) (pc' := 70) dX12_capsule_67 (by decide) rfl (fun c13 => ?_) (fun c13 => ?_)
      · replace hf := ifn c13 hf
        refine aw_aload_n (pc' := 74) dX12_capsule_73 rfl rfl rfl ?_
        refine aw_iconst (v := 1) (pc' := 75) dX12_capsule_74 rfl (by decide) ?_
        refine aw_iload_n (pc' := 76) dX12_capsule_75 rfl rfl ?_
        refine aw_iconst (v := 0) (pc' := 77) dX12_capsule_76 rfl (by decide) ?_
        obtain ⟨r14, s14, ec14, hf⟩ := bd_e hf
        refine aw_callVi (M' := mX12_saysNow) (nc' := 0) (ns' := 0) (pc' := 80) dX12_capsule_77 rfl ml_RX12_403 kX12_saysNow (t_X12_saysNow H ec14) (H.ob (H.fo rfl rfl) (by decide)) rfl rfl rfl (Nat.le_of_ble_eq_true rfl) (rokD (by omega) (Nat.le_of_ble_eq_true rfl) (Nat.le_of_ble_eq_true rfl) (Nat.le_of_ble_eq_true rfl)) rfl rfl (fun _ h14 q14 => ?_)
        obtain ⟨rfl, H14, m14⟩ := q14
        refine aw_istore (lv' := [_, _, _, _, _, _]) (pc' := 82) dX12_capsule_80 rfl (Nat.le_of_ble_eq_true rfl) rfl ?_
        refine aw_iload_n (pc' := 83) dX12_capsule_82 rfl rfl ?_
        refine aw_istore (lv' := [_, _, _, _, _, _]) (pc' := 85) dX12_capsule_83 rfl (Nat.le_of_ble_eq_true rfl) rfl ?_
        refine t_X12_capsule_L85 ((mb.tr ms).tr m14) (fun s30 h30 x30_5 H30 m30 hf => ?_) 4000 _ _ _ H14 (Mo.rf _) hf
        refine aw_aload_n (pc' := 143) dX12_capsule_142 rfl rfl rfl ?_
        refine aw_gr (q := 59) (e := 115) (v := .ref 124) (pc' := 146) H30 (H30.fo rfl rfl) (by decide) rfl rfl dX12_capsule_143 rfl fl_RX12_196 ?_
        refine aw_iload (pc' := 148) dX12_capsule_146 rfl rfl ?_
        refine aw_iload_n (pc' := 149) dX12_capsule_148 rfl rfl ?_
        obtain ⟨g31, hf⟩ := gd_e hf
        obtain ⟨s32, es32, hf⟩ := st_e hf
        refine aw_is (q := 116) (pc' := 150) es32 H30 (H30.fa rfl rfl rfl) g31 dX12_capsule_149 rfl (fun h32 H32 => ?_)
        have m32 := Mo.ofI es32
        refine aw_aload_n (pc' := 151) dX12_capsule_150 rfl rfl rfl ?_
        refine aw_gr (q := 59) (e := 117) (v := .ref 125) (pc' := 154) H32 (H32.fo rfl rfl) (by decide) rfl rfl dX12_capsule_151 rfl fl_RX12_199 ?_
        refine aw_iload (pc' := 156) dX12_capsule_154 rfl rfl ?_
        refine aw_iload (pc' := 158) dX12_capsule_156 rfl rfl ?_
        obtain ⟨g33, hf⟩ := gd_e hf
        obtain ⟨s34, es34, hf⟩ := st_e hf
        refine aw_is (q := 117) (pc' := 159) es34 H32 (H32.fa rfl rfl rfl) g33 dX12_capsule_158 rfl (fun h34 H34 => ?_)
        have m34 := Mo.ofI es34
        obtain ⟨v35, ev35, hf⟩ := vl_e hf
        refine aw_iincV (y := v35) (lv' := [_, _, _, _, _, _]) (pc' := 162) dX12_capsule_159 rfl rfl (Nat.le_of_ble_eq_true rfl) ev35 rfl ?_
        refine AW.lv_le (lz_k (lz_k (lz_k (lz_k (lz_d (lz_d lz_0)))))) ?_
        exact hk11 _ _ _ H34 (((m14.tr m30).tr m32).tr m34) hf
      · replace hf := ifp c13 hf
        refine aw_goto (tgt := 162) dX12_capsule_70 (by decide) ?_
        exact hk11 _ _ _ H (Mo.rf _) hf
def f_X12_capsule_L170_b (q0 : SS → Option (Int32 × SS)) (y1 : Int32) (y2 : Int32) (rc : SS → Int32 → Option (Int32 × SS)) (s : SS) (x3 : Int32) : Option (Int32 × SS) := (if x3 < y2 then (gd (inB y1 120) (vl (((zS s 59 1) + ((x3 + (1 : Int32)) * ((1 : Int32) + ((zI s 67 (y1.toInt.toNat)) / (20 : Int32)))))) fun v39 => (gd (inB x3 120) (st (pI s 118 (x3.toInt.toNat) v39) fun s41 => (vl (x3 + 1) fun v42 => (rc s41 v42)))))) else (q0 s))
def f_X12_capsule_L170 (q0 : SS → Option (Int32 × SS)) (y1 : Int32) (y2 : Int32) : Nat → SS → Int32 → Option (Int32 × SS)
  | 0, _, _ => none
  | n + 1, s, x3 => f_X12_capsule_L170_b q0 y1 y2 (f_X12_capsule_L170 q0 y1 y2 n) s x3
set_option maxRecDepth 4000 in
theorem t_X12_capsule_L170 {r9 : Int32} {s0 sb s9 : SS} {q0 : SS → Option (Int32 × SS} {y1 : Int32} {y2 : Int32} (mb : Mo s0 sb) (hq0 : ∀ (s : SS) (h : List aE), HH s h → Mo sb s → q0 s = some (r9, s9) → AW mX12_capsule (rmD (4) 0 0) (fin (PI fun r' h' => r9 = r' ∧ HH s9 h' ∧ Mo s0 s9) 0 0) 207 [some (.ref 67), none, some (.int y2), none, none, none] [] h 0 0) : ∀ (n : Nat) (s : SS) (h : List aE) (x3 : Int32), HH s h → Mo sb s → f_X12_capsule_L170 q0 y1 y2 n s x3 = some (r9, s9) → AW mX12_capsule (rmD (4) 0 0) (fin (PI fun r' h' => r9 = r' ∧ HH s9 h' ∧ Mo s0 s9) 0 0) 170 [some (.ref 67), some (.int y1), some (.int y2), some (.int x3), none, none] [] h 0 0 := by
  intro n
  induction n with
  | zero =>
    intro s h x3 H ms hf
    cases hf
  | succ n ih =>
    intro s h x3 H ms hf
    replace hf : f_X12_capsule_L170_b q0 y1 y2 (f_X12_capsule_L170 q0 y1 y2 n) s x3 = some (r9, s9) := hf
    unfold f_X12_capsule_L170_b at hf
    refine aw_iload_n (pc' := 171) dX12_capsule_170 rfl rfl ?_
    refine aw_iload_n (pc' := 172) dX12_capsule_171 rfl rfl ?_
    refine aw_cge (tgt := 207) (pc' := 175) dX12_capsule_172 (by decide) rfl (fun c37 => ?_) (fun c37 => ?_)
    · replace hf := ifn c37 hf
      refine AW.lv_le (lz_k (lz_d (lz_k (lz_d (lz_d (lz_d lz_0)))))) ?_
      exact hq0 _ _ H ms hf
    · replace hf := ifp c37 hf
      refine aw_aload_n (pc' := 176) dX12_capsule_175 rfl rfl rfl ?_
      refine aw_gr (q := 59) (e := 119) (v := .ref 126) (pc' := 179) H (H.fo rfl rfl) (by decide) rfl rfl dX12_capsule_176 rfl fl_RX12_202 ?_
      refine aw_iload_n (pc' := 180) dX12_capsule_179 rfl rfl ?_
      refine aw_aload_n (pc' := 181) dX12_capsule_180 rfl rfl rfl ?_
      refine aw_gi (q := 59) (pc' := 184) H (H.fo rfl rfl) (by decide) rfl dX12_capsule_181 rfl fl_RX12_281 ?_
      refine aw_iload_n (pc' := 185) dX12_capsule_184 rfl rfl ?_
      refine aw_iconst (v := 1) (pc' := 186) dX12_capsule_185 rfl (by decide) ?_
      refine aw_iadd (pc' := 187) dX12_capsule_186 rfl ?_
      refine aw_iconst (v := 1) (pc' := 188) dX12_capsule_187 rfl (by decide) ?_
      refine aw_aload_n (pc' := 189) dX12_capsule_188 rfl rfl rfl ?_
      refine aw_gr (q := 59) (e := 17) (v := .ref 75) (pc' := 192) H (H.fo rfl rfl) (by decide) rfl rfl dX12_capsule_189 rfl fl_RX12_32 ?_
      refine aw_iload_n (pc' := 193) dX12_capsule_192 rfl rfl ?_
      obtain ⟨g38, hf⟩ := gd_e hf
      refine aw_ia (q := 67) (pc' := 194) H (H.fa rfl rfl rfl) g38 dX12_capsule_193 rfl ?_
      refine aw_bipush (v := 20) (pc' := 196) dX12_capsule_194 rfl (by decide) ?_
      refine aw_idiv (pc' := 197) dX12_capsule_196 rfl (by decide) ?_
      refine aw_iadd (pc' := 198) dX12_capsule_197 rfl ?_
      refine aw_imul (pc' := 199) dX12_capsule_198 rfl ?_
      refine aw_iadd (pc' := 200) dX12_capsule_199 rfl ?_
      obtain ⟨v39, ev39, hf⟩ := vl_e hf
      refine aw_topi ev39 ?_
      obtain ⟨g40, hf⟩ := gd_e hf
      obtain ⟨s41, es41, hf⟩ := st_e hf
      refine aw_is (q := 118) (pc' := 201) es41 H (H.fa rfl rfl rfl) g40 dX12_capsule_200 rfl (fun h41 H41 => ?_)
      have m41 := Mo.ofI es41
      obtain ⟨v42, ev42, hf⟩ := vl_e hf
      refine aw_iincV (y := v42) (lv' := [_, _, _, _, _, _]) (pc' := 204) dX12_capsule_201 rfl rfl (Nat.le_of_ble_eq_true rfl) ev42 rfl ?_
      refine aw_goto (tgt := 170) dX12_capsule_204 (by decide) ?_
      exact ih _ _ _ H41 (ms.tr m41) hf
def f_X12_capsule (s0 : SS) (a0 : Int32) : Option (Int32 × SS) := (b1 (f_X12_isBody s0 a0) fun r1 => (if r1 = (0 : Int32) then some ((-1), s0) else (gd (inB a0 120) (jn ((gd (inB a0 120) (if (zI s0 69 (a0.toInt.toNat)) = (0 : Int32) then some ((-2), s0) else (b1 (f_X12_menBelow s0) fun r7 => (if r7 = (0 : Int32) then some ((-2), s0) else (f_X12_capsule_L53 (fun (s36 : SS) (x36_2 : Int32) => (f_X12_capsule_L170 (fun (s43 : SS)  => (st (pS s43 59 82 x36_2) fun s44 => (vl ((zS s44 59 1)) fun v45 => (st (pS s44 59 83 v45) fun s46 => (vl ((x36_2 - (1 : Int32))) fun v47 => (gd (inB v47 120) some ((zI s46 118 (v47.toInt.toNat)), s46))))))) a0 x36_2 4000 s36 0)) a0 4000 s0 0 0)))))) fun k4 => (if (zI s0 62 (a0.toInt.toNat)) = (4 : Int32) then k4 else (gd (inB a0 120) (if (zI s0 62 (a0.toInt.toNat)) = (5 : Int32) then k4 else some ((-1), s0))))))))
set_option maxRecDepth 4000 in
theorem t_X12_capsule {r9 : Int32} {s0 s9 : SS} {h0 : List aE} {a0 : Int32} (H0 : HH s0 h0) (hf : f_X12_capsule s0 a0 = some (r9, s9)) : AM mX12_capsule (4) [.ref 67, .int a0] h0 0 0 (PI fun r' h' => r9 = r' ∧ HH s9 h' ∧ Mo s0 s9) := by
  unfold f_X12_capsule at hf
  refine am_of (lv := [some (.ref 67), some (.int a0), none, none, none, none]) rfl (Nat.le_of_ble_eq_true rfl) rfl ?_
  refine aw_aload_n (pc' := 1) dX12_capsule_0 rfl rfl rfl ?_
  refine aw_iload_n (pc' := 2) dX12_capsule_1 rfl rfl ?_
  obtain ⟨r1, ec1, hf⟩ := b1_e hf
  refine aw_callVi (M' := mX12_isBody) (nc' := 0) (ns' := 0) (pc' := 5) dX12_capsule_2 rfl ml_RX12_245 kX12_isBody (t_X12_isBody H0 ec1) (H0.ob (H0.fo rfl rfl) (by decide)) rfl rfl rfl (Nat.le_of_ble_eq_true rfl) (rokD (by omega) (Nat.le_of_ble_eq_true rfl) (Nat.le_of_ble_eq_true rfl) (Nat.le_of_ble_eq_true rfl)) rfl rfl (fun _ h1 q1 => ?_)
  obtain ⟨rfl, rfl, zb1⟩ := q1
  refine aw_if_eq (tgt := 28) (pc' := 8) dX12_capsule_5 (by decide) rfl (fun c2 => ?_) (fun c2 => ?_)
  · replace hf := ifp c2 hf
    refine aw_iconst (v := (-1)) (pc' := 29) dX12_capsule_28 rfl (by decide) ?_
    obtain ⟨rfl, rfl⟩ := so2 hf
    exact aw_ri dX12_capsule_29 rfl rfl (Nat.le_of_ble_eq_true rfl) (Nat.le_of_ble_eq_true rfl) ⟨rfl, H0, (Mo.rf _)⟩
  · replace hf := ifn c2 hf
    refine aw_aload_n (pc' := 9) dX12_capsule_8 rfl rfl rfl ?_
    refine aw_gr (q := 59) (e := 7) (v := .ref 70) (pc' := 12) H0 (H0.fo rfl rfl) (by decide) rfl rfl dX12_capsule_9 rfl fl_RX12_17 ?_
    refine aw_iload_n (pc' := 13) dX12_capsule_12 rfl rfl ?_
    obtain ⟨g3, hf⟩ := gd_e hf
    refine aw_ia (q := 62) (pc' := 14) H0 (H0.fa rfl rfl rfl) g3 dX12_capsule_13 rfl ?_
    refine aw_iconst (v := 4) (pc' := 15) dX12_capsule_14 rfl (by decide) ?_
    obtain ⟨k4, ek4, hf⟩ := jn_e hf
    have hk4 : k4 = some (r9, s9) → AW mX12_capsule (rmD (4) 0 0) (fin (PI fun r' h' => r9 = r' ∧ HH s9 h' ∧ Mo s0 s9) 0 0) 30 [some (.ref 67), some (.int a0), none, none, none, none] [] h0 0 0 := by
      intro hf
      subst ek4
      refine aw_aload_n (pc' := 31) dX12_capsule_30 rfl rfl rfl ?_
      refine aw_gr (q := 59) (e := 21) (v := .ref 77) (pc' := 34) H0 (H0.fo rfl rfl) (by decide) rfl rfl dX12_capsule_31 rfl fl_RX12_38 ?_
      refine aw_iload_n (pc' := 35) dX12_capsule_34 rfl rfl ?_
      obtain ⟨g5, hf⟩ := gd_e hf
      refine aw_ia (q := 69) (pc' := 36) H0 (H0.fa rfl rfl rfl) g5 dX12_capsule_35 rfl ?_
      refine aw_if_eq (tgt := 46) (pc' := 39) dX12_capsule_36 (by decide) rfl (fun c6 => ?_) (fun c6 => ?_)
      · replace hf := ifp c6 hf
        refine aw_bipush (v := (-2)) (pc' := 48) dX12_capsule_46 rfl (by decide) ?_
        obtain ⟨rfl, rfl⟩ := so2 hf
        exact aw_ri dX12_capsule_48 rfl rfl (Nat.le_of_ble_eq_true rfl) (Nat.le_of_ble_eq_true rfl) ⟨rfl, H0, (Mo.rf _)⟩
      · replace hf := ifn c6 hf
        refine aw_aload_n (pc' := 40) dX12_capsule_39 rfl rfl rfl ?_
        obtain ⟨r7, ec7, hf⟩ := b1_e hf
        refine aw_callVi (M' := mX12_menBelow) (nc' := 0) (ns' := 0) (pc' := 43) dX12_capsule_40 rfl ml_RX12_394 kX12_menBelow (t_X12_menBelow H0 ec7) (H0.ob (H0.fo rfl rfl) (by decide)) rfl rfl rfl (Nat.le_of_ble_eq_true rfl) (rokD (by omega) (Nat.le_of_ble_eq_true rfl) (Nat.le_of_ble_eq_true rfl) (Nat.le_of_ble_eq_true rfl)) rfl rfl (fun _ h7 q7 => ?_)
        obtain ⟨rfl, rfl⟩ := q7
        refine aw_if_ne (tgt := 49) (pc' := 46) dX12_capsule_43 (by decide) rfl (fun c8 => ?_) (fun c8 => ?_)
        · replace hf := ifn c8 hf
          refine aw_iconst (v := 0) (pc' := 50) dX12_capsule_49 rfl (by decide) ?_
          refine aw_istore_n (lv' := [_, _, _, _, _, _]) (pc' := 51) dX12_capsule_50 rfl (Nat.le_of_ble_eq_true rfl) rfl ?_
          refine aw_iconst (v := 0) (pc' := 52) dX12_capsule_51 rfl (by decide) ?_
          refine aw_istore_n (lv' := [_, _, _, _, _, _]) (pc' := 53) dX12_capsule_52 rfl (Nat.le_of_ble_eq_true rfl) rfl ?_
          refine t_X12_capsule_L53 (Mo.rf _) (fun s36 h36 x36_2 H36 m36 hf => ?_) 4000 _ _ _ _ H0 (Mo.rf _) hf
          refine aw_iconst (v := 0) (pc' := 169) dX12_capsule_168 rfl (by decide) ?_
          refine aw_istore_n (lv' := [_, _, _, _, _, _]) (pc' := 170) dX12_capsule_169 rfl (Nat.le_of_ble_eq_true rfl) rfl ?_
          refine t_X12_capsule_L170 m36 (fun s43 h43 H43 m43 hf => ?_) 4000 _ _ _ H36 (Mo.rf _) hf
          refine aw_aload_n (pc' := 208) dX12_capsule_207 rfl rfl rfl ?_
          refine aw_iload_n (pc' := 209) dX12_capsule_208 rfl rfl ?_
          obtain ⟨s44, es44, hf⟩ := st_e hf
          refine aw_pi (q := 59) (pc' := 212) es44 H43 (H43.fo rfl rfl) (by decide) rfl dX12_capsule_209 rfl fl_RX12_193 rfl (fun h44 H44 => ?_)
          have m44 := Mo.ofS es44
          refine aw_aload_n (pc' := 213) dX12_capsule_212 rfl rfl rfl ?_
          refine aw_aload_n (pc' := 214) dX12_capsule_213 rfl rfl rfl ?_
          refine aw_gi (q := 59) (pc' := 217) H44 (H44.fo rfl rfl) (by decide) rfl dX12_capsule_214 rfl fl_RX12_281 ?_
          obtain ⟨v45, ev45, hf⟩ := vl_e hf
          refine aw_topi ev45 ?_
          obtain ⟨s46, es46, hf⟩ := st_e hf
          refine aw_pi (q := 59) (pc' := 220) es46 H44 (H44.fo rfl rfl) (by decide) rfl dX12_capsule_217 rfl fl_RX12_450 rfl (fun h46 H46 => ?_)
          have m46 := Mo.ofS es46
          refine aw_aload_n (pc' := 221) dX12_capsule_220 rfl rfl rfl ?_
          refine aw_gr (q := 59) (e := 119) (v := .ref 126) (pc' := 224) H46 (H46.fo rfl rfl) (by decide) rfl rfl dX12_capsule_221 rfl fl_RX12_202 ?_
          refine aw_iload_n (pc' := 225) dX12_capsule_224 rfl rfl ?_
          refine aw_iconst (v := 1) (pc' := 226) dX12_capsule_225 rfl (by decide) ?_
          refine aw_isub (pc' := 227) dX12_capsule_226 rfl ?_
          obtain ⟨v47, ev47, hf⟩ := vl_e hf
          refine aw_topi ev47 ?_
          obtain ⟨g48, hf⟩ := gd_e hf
          refine aw_ia (q := 118) (pc' := 228) H46 (H46.fa rfl rfl rfl) g48 dX12_capsule_227 rfl ?_
          obtain ⟨rfl, rfl⟩ := so2 hf
          exact aw_ri dX12_capsule_228 rfl rfl (Nat.le_of_ble_eq_true rfl) (Nat.le_of_ble_eq_true rfl) ⟨rfl, H46, (((m36.tr m43).tr m44).tr m46)⟩
        · replace hf := ifp c8 hf
          refine aw_bipush (v := (-2)) (pc' := 48) dX12_capsule_46 rfl (by decide) ?_
          obtain ⟨rfl, rfl⟩ := so2 hf
          exact aw_ri dX12_capsule_48 rfl rfl (Nat.le_of_ble_eq_true rfl) (Nat.le_of_ble_eq_true rfl) ⟨rfl, H0, (Mo.rf _)⟩
    clear ek4
    refine aw_icmp_eq (tgt := 30) (pc' := 18) dX12_capsule_15 (by decide) rfl (fun c49 => ?_) (fun c49 => ?_)
    · replace hf := ifp c49 hf
      exact hk4  hf
    · replace hf := ifn c49 hf
      refine aw_aload_n (pc' := 19) dX12_capsule_18 rfl rfl rfl ?_
      refine aw_gr (q := 59) (e := 7) (v := .ref 70) (pc' := 22) H0 (H0.fo rfl rfl) (by decide) rfl rfl dX12_capsule_19 rfl fl_RX12_17 ?_
      refine aw_iload_n (pc' := 23) dX12_capsule_22 rfl rfl ?_
      obtain ⟨g50, hf⟩ := gd_e hf
      refine aw_ia (q := 62) (pc' := 24) H0 (H0.fa rfl rfl rfl) g50 dX12_capsule_23 rfl ?_
      refine aw_iconst (v := 5) (pc' := 25) dX12_capsule_24 rfl (by decide) ?_
      refine aw_icmp_eq (tgt := 30) (pc' := 28) dX12_capsule_25 (by decide) rfl (fun c51 => ?_) (fun c51 => ?_)
      · replace hf := ifp c51 hf
        exact hk4  hf
      · replace hf := ifn c51 hf
        refine aw_iconst (v := (-1)) (pc' := 29) dX12_capsule_28 rfl (by decide) ?_
        obtain ⟨rfl, rfl⟩ := so2 hf
        exact aw_ri dX12_capsule_29 rfl rfl (Nat.le_of_ble_eq_true rfl) (Nat.le_of_ble_eq_true rfl) ⟨rfl, H0, (Mo.rf _)⟩
/-! ThirtyThreeBelowModel.up -/
def f_X12_up (s0 : SS) (a0 : Int32) (a1 : Int32) : Option Int32 := (b1 (f_X12_in a0 (0 : Int32) ((zS s0 59 82) - (1 : Int32))) fun r1 => (if r1 = (0 : Int32) then some (-1) else (b1 (f_X12_in a1 (0 : Int32) (1 : Int32)) fun r3 => (if r3 = (0 : Int32) then some (-1) else (if a1 = (0 : Int32) then (gd (inB a0 120) some (zI s0 116 (a0.toInt.toNat))) else (gd (inB a0 120) some (zI s0 118 (a0.toInt.toNat))))))))
set_option maxRecDepth 4000 in
theorem t_X12_up {r9 : Int32} {s0 : SS} {h0 : List aE} {a0 : Int32} {a1 : Int32} (H0 : HH s0 h0) (hf : f_X12_up s0 a0 a1 = some r9) : AM mX12_up (1) [.ref 67, .int a0, .int a1] h0 0 0 (PI fun r' h' => r9 = r' ∧ h0 = h') := by
  unfold f_X12_up at hf
  refine am_of (lv := [some (.ref 67), some (.int a0), some (.int a1)]) rfl (Nat.le_of_ble_eq_true rfl) rfl ?_
  refine aw_iload_n (pc' := 1) dX12_up_0 rfl rfl ?_
  refine aw_iconst (v := 0) (pc' := 2) dX12_up_1 rfl (by decide) ?_
  refine aw_aload_n (pc' := 3) dX12_up_2 rfl rfl rfl ?_
  refine aw_gi (q := 59) (pc' := 6) H0 (H0.fo rfl rfl) (by decide) rfl dX12_up_3 rfl fl_RX12_193 ?_
  refine aw_iconst (v := 1) (pc' := 7) dX12_up_6 rfl (by decide) ?_
  refine aw_isub (pc' := 8) dX12_up_7 rfl ?_
  obtain ⟨r1, ec1, hf⟩ := b1_e hf
  refine aw_callSi (M' := mX12_in) (nc' := 0) (ns' := 0) (pc' := 11) dX12_up_8 rfl ml_RX12_230 kX12_in (t_X12_in ec1) rfl rfl (Nat.le_of_ble_eq_true rfl) (rokD (by omega) (Nat.le_of_ble_eq_true rfl) (Nat.le_of_ble_eq_true rfl) (Nat.le_of_ble_eq_true rfl)) rfl rfl (fun _ h1 q1 => ?_)
  obtain ⟨rfl, rfl, zb1⟩ := q1
  refine aw_if_eq (tgt := 23) (pc' := 14) dX12_up_11 (by decide) rfl (fun c2 => ?_) (fun c2 => ?_)
  · replace hf := ifp c2 hf
    refine aw_iconst (v := (-1)) (pc' := 24) dX12_up_23 rfl (by decide) ?_
    refine aw_goto (tgt := 46) dX12_up_24 (by decide) ?_
    obtain rfl := Option.some.inj hf
    exact aw_ri dX12_up_46 rfl rfl (Nat.le_of_ble_eq_true rfl) (Nat.le_of_ble_eq_true rfl) ⟨rfl, rfl⟩
  · replace hf := ifn c2 hf
    refine aw_iload_n (pc' := 15) dX12_up_14 rfl rfl ?_
    refine aw_iconst (v := 0) (pc' := 16) dX12_up_15 rfl (by decide) ?_
    refine aw_iconst (v := 1) (pc' := 17) dX12_up_16 rfl (by decide) ?_
    obtain ⟨r3, ec3, hf⟩ := b1_e hf
    refine aw_callSi (M' := mX12_in) (nc' := 0) (ns' := 0) (pc' := 20) dX12_up_17 rfl ml_RX12_230 kX12_in (t_X12_in ec3) rfl rfl (Nat.le_of_ble_eq_true rfl) (rokD (by omega) (Nat.le_of_ble_eq_true rfl) (Nat.le_of_ble_eq_true rfl) (Nat.le_of_ble_eq_true rfl)) rfl rfl (fun _ h3 q3 => ?_)
    obtain ⟨rfl, rfl, zb3⟩ := q3
    refine aw_if_ne (tgt := 27) (pc' := 23) dX12_up_20 (by decide) rfl (fun c4 => ?_) (fun c4 => ?_)
    · replace hf := ifn c4 hf
      refine aw_iload_n (pc' := 28) dX12_up_27 rfl rfl ?_
      refine aw_if_ne (tgt := 40) (pc' := 31) dX12_up_28 (by decide) rfl (fun c5 => ?_) (fun c5 => ?_)
      · replace hf := ifn c5 hf
        refine aw_aload_n (pc' := 41) dX12_up_40 rfl rfl rfl ?_
        refine aw_gr (q := 59) (e := 119) (v := .ref 126) (pc' := 44) H0 (H0.fo rfl rfl) (by decide) rfl rfl dX12_up_41 rfl fl_RX12_202 ?_
        refine aw_iload_n (pc' := 45) dX12_up_44 rfl rfl ?_
        obtain ⟨g6, hf⟩ := gd_e hf
        refine aw_ia (q := 118) (pc' := 46) H0 (H0.fa rfl rfl rfl) g6 dX12_up_45 rfl ?_
        obtain rfl := Option.some.inj hf
        exact aw_ri dX12_up_46 rfl rfl (Nat.le_of_ble_eq_true rfl) (Nat.le_of_ble_eq_true rfl) ⟨rfl, rfl⟩
      · replace hf := ifp c5 hf
        refine aw_aload_n (pc' := 32) dX12_up_31 rfl rfl rfl ?_
        refine aw_gr (q := 59) (e := 115) (v := .ref 124) (pc' := 35) H0 (H0.fo rfl rfl) (by decide) rfl rfl dX12_up_32 rfl fl_RX12_196 ?_
        refine aw_iload_n (pc' := 36) dX12_up_35 rfl rfl ?_
        obtain ⟨g7, hf⟩ := gd_e hf
        refine aw_ia (q := 116) (pc' := 37) H0 (H0.fa rfl rfl rfl) g7 dX12_up_36 rfl ?_
        refine aw_goto (tgt := 46) dX12_up_37 (by decide) ?_
        obtain rfl := Option.some.inj hf
        exact aw_ri dX12_up_46 rfl rfl (Nat.le_of_ble_eq_true rfl) (Nat.le_of_ble_eq_true rfl) ⟨rfl, rfl⟩
    · replace hf := ifp c4 hf
      refine aw_iconst (v := (-1)) (pc' := 24) dX12_up_23 rfl (by decide) ?_
      refine aw_goto (tgt := 46) dX12_up_24 (by decide) ?_
      obtain rfl := Option.some.inj hf
      exact aw_ri dX12_up_46 rfl rfl (Nat.le_of_ble_eq_true rfl) (Nat.le_of_ble_eq_true rfl) ⟨rfl, rfl⟩
/-! ThirtyThreeBelowModel.raise -/
def f_X12_raise_L27_b (y1 : Int32) (rc : SS → Int32 → Int32 → Option (Int32 × SS)) (s : SS) (x2 : Int32) (x3 : Int32) : Option (Int32 × SS) := (if x3 < (zS s 59 82) then (gd (inB x3 120) (jn (fun (s6 : SS) (j6_2 : Int32) => (vl (x3 + 1) fun v7 => (rc s6 j6_2 v7))) fun k6 => (if ((zS s 59 83) + y1) < (zI s 118 (x3.toInt.toNat)) then (k6 s x2) else (gd (inB x3 120) (vl ((zI s 116 (x3.toInt.toNat))) fun v10 => (gd (inB v10 120) (if (zI s 77 (v10.toInt.toNat)) = (0 : Int32) then (k6 s x2) else (gd (inB x3 120) (vl ((zI s 116 (x3.toInt.toNat))) fun v14 => (gd (inB v14 120) (st (pI s 77 (v14.toInt.toNat) ((0 : Int32) &&& 1)) fun s16 => (vl (x2 + 1) fun v17 => (k6 s16 v17))))))))))))) else some (x2, s))
def f_X12_raise_L27 (y1 : Int32) : Nat → SS → Int32 → Int32 → Option (Int32 × SS)
  | 0, _, _, _ => none
  | n + 1, s, x2, x3 => f_X12_raise_L27_b y1 (f_X12_raise_L27 y1 n) s x2 x3
set_option maxRecDepth 4000 in
theorem t_X12_raise_L27 {r9 : Int32} {s0 sb s9 : SS} {y1 : Int32} (mb : Mo s0 sb)  : ∀ (n : Nat) (s : SS) (h : List aE) (x2 : Int32) (x3 : Int32), HH s h → Mo sb s → f_X12_raise_L27 y1 n s x2 x3 = some (r9, s9) → AW mX12_raise (rmD (1) 0 0) (fin (PI fun r' h' => r9 = r' ∧ HH s9 h' ∧ Mo s0 s9) 0 0) 27 [some (.ref 67), some (.int y1), some (.int x2), some (.int x3)] [] h 0 0 := by
  intro n
  induction n with
  | zero =>
    intro s h x2 x3 H ms hf
    cases hf
  | succ n ih =>
    intro s h x2 x3 H ms hf
    replace hf : f_X12_raise_L27_b y1 (f_X12_raise_L27 y1 n) s x2 x3 = some (r9, s9) := hf
    unfold f_X12_raise_L27_b at hf
    refine aw_iload_n (pc' := 28) dX12_raise_27 rfl rfl ?_
    refine aw_aload_n (pc' := 29) dX12_raise_28 rfl rfl rfl ?_
    refine aw_gi (q := 59) (pc' := 32) H (H.fo rfl rfl) (by decide) rfl dX12_raise_29 rfl fl_RX12_193 ?_
    refine aw_cge (tgt := 88) (pc' := 35) dX12_raise_32 (by decide) rfl (fun c4 => ?_) (fun c4 => ?_)
    · replace hf := ifn c4 hf
      refine aw_iload_n (pc' := 89) dX12_raise_88 rfl rfl ?_
      obtain ⟨rfl, rfl⟩ := so2 hf
      exact aw_ri dX12_raise_89 rfl rfl (Nat.le_of_ble_eq_true rfl) (Nat.le_of_ble_eq_true rfl) ⟨rfl, H, (mb.tr ms)⟩
    · replace hf := ifp c4 hf
      refine aw_aload_n (pc' := 36) dX12_raise_35 rfl rfl rfl ?_
      refine aw_gr (q := 59) (e := 119) (v := .ref 126) (pc' := 39) H (H.fo rfl rfl) (by decide) rfl rfl dX12_raise_36 rfl fl_RX12_202 ?_
      refine aw_iload_n (pc' := 40) dX12_raise_39 rfl rfl ?_
      obtain ⟨g5, hf⟩ := gd_e hf
      refine aw_ia (q := 118) (pc' := 41) H (H.fa rfl rfl rfl) g5 dX12_raise_40 rfl ?_
      refine aw_aload_n (pc' := 42) dX12_raise_41 rfl rfl rfl ?_
      refine aw_gi (q := 59) (pc' := 45) H (H.fo rfl rfl) (by decide) rfl dX12_raise_42 rfl fl_RX12_450 ?_
      refine aw_iload_n (pc' := 46) dX12_raise_45 rfl rfl ?_
      refine aw_iadd (pc' := 47) dX12_raise_46 rfl ?_
      obtain ⟨k6, ek6, hf⟩ := jn_e hf
      have hk6 : ∀ (s6 : SS) (h6 : List aE) (j6_2 : Int32), HH s6 h6 → Mo s s6 → k6 s6 j6_2 = some (r9, s9) → AW mX12_raise (rmD (1) 0 0) (fin (PI fun r' h' => r9 = r' ∧ HH s9 h' ∧ Mo s0 s9) 0 0) 82 [some (.ref 67), some (.int y1), some (.int j6_2), some (.int x3)] [] h6 0 0 := by
        intro s6 h6 j6_2 H6 m6 hf
        subst ek6
        obtain ⟨v7, ev7, hf⟩ := vl_e hf
        refine aw_iincV (y := v7) (lv' := [_, _, _, _]) (pc' := 85) dX12_raise_82 rfl rfl (Nat.le_of_ble_eq_true rfl) ev7 rfl ?_
        refine aw_goto (tgt := 27) dX12_raise_85 (by decide) ?_
        exact ih _ _ _ _ H6 (ms.tr m6) hf
      clear ek6
      refine aw_cgt (tgt := 82) (pc' := 50) dX12_raise_47 (by decide) rfl (fun c8 => ?_) (fun c8 => ?_)
      · replace hf := ifp c8 hf
        exact hk6 _ _ _ H (Mo.rf _) hf
      · replace hf := ifn c8 hf
        refine aw_aload_n (pc' := 51) dX12_raise_50 rfl rfl rfl ?_
        refine aw_gr (q := 59) (e := 37) (v := .ref 85) (pc' := 54) H (H.fo rfl rfl) (by decide) rfl rfl dX12_raise_51 rfl fl_RX12_62 ?_
        refine aw_aload_n (pc' := 55) dX12_raise_54 rfl rfl rfl ?_
        refine aw_gr (q := 59) (e := 115) (v := .ref 124) (pc' := 58) H (H.fo rfl rfl) (by decide) rfl rfl dX12_raise_55 rfl fl_RX12_196 ?_
        refine aw_iload_n (pc' := 59) dX12_raise_58 rfl rfl ?_
        obtain ⟨g9, hf⟩ := gd_e hf
        refine aw_ia (q := 116) (pc' := 60) H (H.fa rfl rfl rfl) g9 dX12_raise_59 rfl ?_
        obtain ⟨v10, ev10, hf⟩ := vl_e hf
        refine aw_topi ev10 ?_
        obtain ⟨g11, hf⟩ := gd_e hf
        refine aw_za (q := 77) (pc' := 61) H (H.fa rfl rfl rfl) g11 dX12_raise_60 rfl ?_
        refine aw_if_ne (tgt := 67) (pc' := 64) dX12_raise_61 (by decide) rfl (fun c12 => ?_) (fun c12 => ?_)
        · replace hf := ifn c12 hf
          refine aw_aload_n (pc' := 68) dX12_raise_67 rfl rfl rfl ?_
          refine aw_gr (q := 59) (e := 37) (v := .ref 85) (pc' := 71) H (H.fo rfl rfl) (by decide) rfl rfl dX12_raise_68 rfl fl_RX12_62 ?_
          refine aw_aload_n (pc' := 72) dX12_raise_71 rfl rfl rfl ?_
          refine aw_gr (q := 59) (e := 115) (v := .ref 124) (pc' := 75) H (H.fo rfl rfl) (by decide) rfl rfl dX12_raise_72 rfl fl_RX12_196 ?_
          refine aw_iload_n (pc' := 76) dX12_raise_75 rfl rfl ?_
          obtain ⟨g13, hf⟩ := gd_e hf
          refine aw_ia (q := 116) (pc' := 77) H (H.fa rfl rfl rfl) g13 dX12_raise_76 rfl ?_
          refine aw_iconst (v := 0) (pc' := 78) dX12_raise_77 rfl (by decide) ?_
          obtain ⟨v14, ev14, hf⟩ := vl_e hf
          refine aw_sndi ev14 ?_
          obtain ⟨g15, hf⟩ := gd_e hf
          obtain ⟨s16, es16, hf⟩ := st_e hf
          refine aw_zs (q := 77) (pc' := 79) es16 H (H.fa rfl rfl rfl) g15 dX12_raise_78 rfl (fun h16 H16 => ?_)
          have m16 := Mo.ofI es16
          obtain ⟨v17, ev17, hf⟩ := vl_e hf
          refine aw_iincV (y := v17) (lv' := [_, _, _, _]) (pc' := 82) dX12_raise_79 rfl rfl (Nat.le_of_ble_eq_true rfl) ev17 rfl ?_
          exact hk6 _ _ _ H16 m16 hf
        · replace hf := ifp c12 hf
          refine aw_goto (tgt := 82) dX12_raise_64 (by decide) ?_
          exact hk6 _ _ _ H (Mo.rf _) hf
def f_X12_raise (s0 : SS) (a0 : Int32) : Option (Int32 × SS) := (b1 (f_X12_in a0 (0 : Int32) (199 : Int32)) fun r1 => (if r1 = (0 : Int32) then some ((-1), s0) else (if (zS s0 59 82) < (0 : Int32) then some ((-2), s0) else (f_X12_raise_L27 a0 4000 s0 0 0))))
set_option maxRecDepth 4000 in
theorem t_X12_raise {r9 : Int32} {s0 s9 : SS} {h0 : List aE} {a0 : Int32} (H0 : HH s0 h0) (hf : f_X12_raise s0 a0 = some (r9, s9)) : AM mX12_raise (1) [.ref 67, .int a0] h0 0 0 (PI fun r' h' => r9 = r' ∧ HH s9 h' ∧ Mo s0 s9) := by
  unfold f_X12_raise at hf
  refine am_of (lv := [some (.ref 67), some (.int a0), none, none]) rfl (Nat.le_of_ble_eq_true rfl) rfl ?_
  refine aw_iload_n (pc' := 1) dX12_raise_0 rfl rfl ?_
  refine aw_iconst (v := 0) (pc' := 2) dX12_raise_1 rfl (by decide) ?_
  refine aw_sipush (v := 199) (pc' := 5) dX12_raise_2 rfl (by decide) ?_
  obtain ⟨r1, ec1, hf⟩ := b1_e hf
  refine aw_callSi (M' := mX12_in) (nc' := 0) (ns' := 0) (pc' := 8) dX12_raise_5 rfl ml_RX12_230 kX12_in (t_X12_in ec1) rfl rfl (Nat.le_of_ble_eq_true rfl) (rokD (by omega) (Nat.le_of_ble_eq_true rfl) (Nat.le_of_ble_eq_true rfl) (Nat.le_of_ble_eq_true rfl)) rfl rfl (fun _ h1 q1 => ?_)
  obtain ⟨rfl, rfl, zb1⟩ := q1
  refine aw_if_ne (tgt := 13) (pc' := 11) dX12_raise_8 (by decide) rfl (fun c2 => ?_) (fun c2 => ?_)
  · replace hf := ifn c2 hf
    refine aw_aload_n (pc' := 14) dX12_raise_13 rfl rfl rfl ?_
    refine aw_gi (q := 59) (pc' := 17) H0 (H0.fo rfl rfl) (by decide) rfl dX12_raise_14 rfl fl_RX12_193 ?_
    refine aw_zge (tgt := 23) (pc' := 20) dX12_raise_17 (by decide) rfl (fun c3 => ?_) (fun c3 => ?_)
    · replace hf := ifn c3 hf
      refine aw_iconst (v := 0) (pc' := 24) dX12_raise_23 rfl (by decide) ?_
      refine aw_istore_n (lv' := [_, _, _, _]) (pc' := 25) dX12_raise_24 rfl (Nat.le_of_ble_eq_true rfl) rfl ?_
      refine aw_iconst (v := 0) (pc' := 26) dX12_raise_25 rfl (by decide) ?_
      refine aw_istore_n (lv' := [_, _, _, _]) (pc' := 27) dX12_raise_26 rfl (Nat.le_of_ble_eq_true rfl) rfl ?_
      refine t_X12_raise_L27 (Mo.rf _)  4000 _ _ _ _ H0 (Mo.rf _) hf
    · replace hf := ifp c3 hf
      refine aw_bipush (v := (-2)) (pc' := 22) dX12_raise_20 rfl (by decide) ?_
      obtain ⟨rfl, rfl⟩ := so2 hf
      exact aw_ri dX12_raise_22 rfl rfl (Nat.le_of_ble_eq_true rfl) (Nat.le_of_ble_eq_true rfl) ⟨rfl, H0, (Mo.rf _)⟩
  · replace hf := ifp c2 hf
    refine aw_iconst (v := (-1)) (pc' := 12) dX12_raise_11 rfl (by decide) ?_
    obtain ⟨rfl, rfl⟩ := so2 hf
    exact aw_ri dX12_raise_12 rfl rfl (Nat.le_of_ble_eq_true rfl) (Nat.le_of_ble_eq_true rfl) ⟨rfl, H0, (Mo.rf _)⟩
/-! ThirtyThreeBelowModel.ran -/
def f_X12_ran (s0 : SS) (a0 : Int32) : Option SS := (jn (fun (s1 : SS)  => (vl (((zS s1 59 87) + (1 : Int32))) fun v2 => (st (pS s1 59 87 v2) fun s3 => some s3))) fun k1 => (if (zS s0 59 87) < (24 : Int32) then (vl ((zS s0 59 87)) fun v5 => (gd (inB v5 24) (st (pI s0 119 (v5.toInt.toNat) a0) fun s7 => (k1 s7)))) else (k1 s0)))
set_option maxRecDepth 4000 in
theorem t_X12_ran {s0 s9 : SS} {h0 : List aE} {a0 : Int32} (H0 : HH s0 h0) (hf : f_X12_ran s0 a0 = some s9) : AM mX12_ran (0) [.ref 67, .int a0] h0 0 0 (PV fun h' => HH s9 h' ∧ Mo s0 s9) := by
  unfold f_X12_ran at hf
  refine am_of (lv := [some (.ref 67), some (.int a0)]) rfl (Nat.le_of_ble_eq_true rfl) rfl ?_
  refine aw_aload_n (pc' := 1) dX12_ran_0 rfl rfl rfl ?_
  refine aw_gi (q := 59) (pc' := 4) H0 (H0.fo rfl rfl) (by decide) rfl dX12_ran_1 rfl fl_RX12_453 ?_
  refine aw_bipush (v := 24) (pc' := 6) dX12_ran_4 rfl (by decide) ?_
  obtain ⟨k1, ek1, hf⟩ := jn_e hf
  have hk1 : ∀ (s1 : SS) (h1 : List aE), HH s1 h1 → Mo s0 s1 → k1 s1 = some s9 → AW mX12_ran (rmD (0) 0 0) (fin (PV fun h' => HH s9 h' ∧ Mo s0 s9) 0 0) 19 [some (.ref 67), none] [] h1 0 0 := by
    intro s1 h1 H1 m1 hf
    subst ek1
    refine aw_aload_n (pc' := 20) dX12_ran_19 rfl rfl rfl ?_
    refine aw_dup (pc' := 21) dX12_ran_20 rfl rfl ?_
    refine aw_gi (q := 59) (pc' := 24) H1 (H1.fo rfl rfl) (by decide) rfl dX12_ran_21 rfl fl_RX12_453 ?_
    refine aw_iconst (v := 1) (pc' := 25) dX12_ran_24 rfl (by decide) ?_
    refine aw_iadd (pc' := 26) dX12_ran_25 rfl ?_
    obtain ⟨v2, ev2, hf⟩ := vl_e hf
    refine aw_topi ev2 ?_
    obtain ⟨s3, es3, hf⟩ := st_e hf
    refine aw_pi (q := 59) (pc' := 29) es3 H1 (H1.fo rfl rfl) (by decide) rfl dX12_ran_26 rfl fl_RX12_453 rfl (fun h3 H3 => ?_)
    have m3 := Mo.ofS es3
    obtain rfl := Option.some.inj hf
    exact aw_rv dX12_ran_29 rfl (Nat.le_of_ble_eq_true rfl) (Nat.le_of_ble_eq_true rfl) ⟨H3, (m1.tr m3)⟩
  clear ek1
  refine aw_cge (tgt := 19) (pc' := 9) dX12_ran_6 (by decide) rfl (fun c4 => ?_) (fun c4 => ?_)
  · replace hf := ifn c4 hf
    refine AW.lv_le (lz_k (lz_d lz_0)) ?_
    exact hk1 _ _ H0 (Mo.rf _) hf
  · replace hf := ifp c4 hf
    refine aw_aload_n (pc' := 10) dX12_ran_9 rfl rfl rfl ?_
    refine aw_gr (q := 59) (e := 121) (v := .ref 127) (pc' := 13) H0 (H0.fo rfl rfl) (by decide) rfl rfl dX12_ran_10 rfl fl_RX12_205 ?_
    refine aw_aload_n (pc' := 14) dX12_ran_13 rfl rfl rfl ?_
    refine aw_gi (q := 59) (pc' := 17) H0 (H0.fo rfl rfl) (by decide) rfl dX12_ran_14 rfl fl_RX12_453 ?_
    refine aw_iload_n (pc' := 18) dX12_ran_17 rfl rfl ?_
    obtain ⟨v5, ev5, hf⟩ := vl_e hf
    refine aw_sndi ev5 ?_
    obtain ⟨g6, hf⟩ := gd_e hf
    obtain ⟨s7, es7, hf⟩ := st_e hf
    refine aw_is (q := 119) (pc' := 19) es7 H0 (H0.fa rfl rfl rfl) g6 dX12_ran_18 rfl (fun h7 H7 => ?_)
    have m7 := Mo.ofI es7
    refine AW.lv_le (lz_k (lz_d lz_0)) ?_
    exact hk1 _ _ H7 m7 hf
/-! ThirtyThreeBelowModel.plainBores -/
def f_X12_plainBores (s0 : SS) (a0 : Int32) (a1 : Int32) : Option (Int32 × SS) := (b1 (f_X12_ran s0 1) fun s1 => some ((a1 + a0), s1))
set_option maxRecDepth 4000 in
theorem t_X12_plainBores {r9 : Int32} {s0 s9 : SS} {h0 : List aE} {a0 : Int32} {a1 : Int32} (H0 : HH s0 h0) (hf : f_X12_plainBores s0 a0 a1 = some (r9, s9)) : AM mX12_plainBores (1) [.ref 67, .int a0, .int a1] h0 0 0 (PI fun r' h' => r9 = r' ∧ HH s9 h' ∧ Mo s0 s9) := by
  unfold f_X12_plainBores at hf
  refine am_of (lv := [some (.ref 67), some (.int a0), some (.int a1)]) rfl (Nat.le_of_ble_eq_true rfl) rfl ?_
  refine aw_aload_n (pc' := 1) dX12_plainBores_0 rfl rfl rfl ?_
  refine aw_iconst (v := 1) (pc' := 2) dX12_plainBores_1 rfl (by decide) ?_
  obtain ⟨s1, ec1, hf⟩ := b1_e hf
  refine aw_callVv (M' := mX12_ran) (nc' := 0) (ns' := 0) (pc' := 5) dX12_plainBores_2 rfl ml_RX12_456 kX12_ran (t_X12_ran H0 ec1) (H0.ob (H0.fo rfl rfl) (by decide)) rfl rfl rfl (Nat.le_of_ble_eq_true rfl) (rokD (by omega) (Nat.le_of_ble_eq_true rfl) (Nat.le_of_ble_eq_true rfl) (Nat.le_of_ble_eq_true rfl)) rfl rfl (fun h1 q1 => ?_)
  obtain ⟨H1, m1⟩ := q1
  refine aw_iload_n (pc' := 6) dX12_plainBores_5 rfl rfl ?_
  refine aw_iload_n (pc' := 7) dX12_plainBores_6 rfl rfl ?_
  refine aw_iadd (pc' := 8) dX12_plainBores_7 rfl ?_
  obtain ⟨rfl, rfl⟩ := so2 hf
  exact aw_ri dX12_plainBores_8 rfl rfl (Nat.le_of_ble_eq_true rfl) (Nat.le_of_ble_eq_true rfl) ⟨rfl, H1, m1⟩
/-! ThirtyThreeBelowModel.wayBores -/
def f_X12_wayBores (s0 : SS) (a0 : Int32) (a1 : Int32) : Option (Int32 × SS) := (b1 (f_X12_ran s0 20) fun s1 => (bd (f_X12_plainBores s1 a0 a1) fun r2 s2 => some ((r2 * (2 : Int32)), s2)))
set_option maxRecDepth 4000 in
theorem t_X12_wayBores {r9 : Int32} {s0 s9 : SS} {h0 : List aE} {a0 : Int32} {a1 : Int32} (H0 : HH s0 h0) (hf : f_X12_wayBores s0 a0 a1 = some (r9, s9)) : AM mX12_wayBores (2) [.ref 67, .int a0, .int a1] h0 0 0 (PI fun r' h' => r9 = r' ∧ HH s9 h' ∧ Mo s0 s9) := by
  unfold f_X12_wayBores at hf
  refine am_of (lv := [some (.ref 67), some (.int a0), some (.int a1)]) rfl (Nat.le_of_ble_eq_true rfl) rfl ?_
  refine aw_aload_n (pc' := 1) dX12_wayBores_0 rfl rfl rfl ?_
  refine aw_bipush (v := 20) (pc' := 3) dX12_wayBores_1 rfl (by decide) ?_
  obtain ⟨s1, ec1, hf⟩ := b1_e hf
  refine aw_callVv (M' := mX12_ran) (nc' := 0) (ns' := 0) (pc' := 6) dX12_wayBores_3 rfl ml_RX12_456 kX12_ran (t_X12_ran H0 ec1) (H0.ob (H0.fo rfl rfl) (by decide)) rfl rfl rfl (Nat.le_of_ble_eq_true rfl) (rokD (by omega) (Nat.le_of_ble_eq_true rfl) (Nat.le_of_ble_eq_true rfl) (Nat.le_of_ble_eq_true rfl)) rfl rfl (fun h1 q1 => ?_)
  obtain ⟨H1, m1⟩ := q1
  refine aw_aload_n (pc' := 7) dX12_wayBores_6 rfl rfl rfl ?_
  refine aw_iload_n (pc' := 8) dX12_wayBores_7 rfl rfl ?_
  refine aw_iload_n (pc' := 9) dX12_wayBores_8 rfl rfl ?_
  obtain ⟨r2, s2, ec2, hf⟩ := bd_e hf
  refine aw_callVi (M' := mX12_plainBores) (nc' := 0) (ns' := 0) (pc' := 12) dX12_wayBores_9 rfl ml_RX12_460 kX12_plainBores (t_X12_plainBores H1 ec2) (H1.ob (H1.fo rfl rfl) (by decide)) rfl rfl rfl (Nat.le_of_ble_eq_true rfl) (rokD (by omega) (Nat.le_of_ble_eq_true rfl) (Nat.le_of_ble_eq_true rfl) (Nat.le_of_ble_eq_true rfl)) rfl rfl (fun _ h2 q2 => ?_)
  obtain ⟨rfl, H2, m2⟩ := q2
  refine aw_iconst (v := 2) (pc' := 13) dX12_wayBores_12 rfl (by decide) ?_
  refine aw_imul (pc' := 14) dX12_wayBores_13 rfl ?_
  obtain ⟨rfl, rfl⟩ := so2 hf
  exact aw_ri dX12_wayBores_14 rfl rfl (Nat.le_of_ble_eq_true rfl) (Nat.le_of_ble_eq_true rfl) ⟨rfl, H2, (m1.tr m2)⟩
/-! ThirtyThreeBelowModel.shaftBores -/
def f_X12_shaftBores (s0 : SS) (a0 : Int32) (a1 : Int32) : Option (Int32 × SS) := (b1 (f_X12_ran s0 50) fun s1 => (bd (f_X12_wayBores s1 a0 (a1 + (1 : Int32))) fun r2 s2 => some (r2, s2)))
set_option maxRecDepth 4000 in
theorem t_X12_shaftBores {r9 : Int32} {s0 s9 : SS} {h0 : List aE} {a0 : Int32} {a1 : Int32} (H0 : HH s0 h0) (hf : f_X12_shaftBores s0 a0 a1 = some (r9, s9)) : AM mX12_shaftBores (3) [.ref 67, .int a0, .int a1] h0 0 0 (PI fun r' h' => r9 = r' ∧ HH s9 h' ∧ Mo s0 s9) := by
  unfold f_X12_shaftBores at hf
  refine am_of (lv := [some (.ref 67), some (.int a0), some (.int a1)]) rfl (Nat.le_of_ble_eq_true rfl) rfl ?_
  refine aw_aload_n (pc' := 1) dX12_shaftBores_0 rfl rfl rfl ?_
  refine aw_bipush (v := 50) (pc' := 3) dX12_shaftBores_1 rfl (by decide) ?_
  obtain ⟨s1, ec1, hf⟩ := b1_e hf
  refine aw_callVv (M' := mX12_ran) (nc' := 0) (ns' := 0) (pc' := 6) dX12_shaftBores_3 rfl ml_RX12_456 kX12_ran (t_X12_ran H0 ec1) (H0.ob (H0.fo rfl rfl) (by decide)) rfl rfl rfl (Nat.le_of_ble_eq_true rfl) (rokD (by omega) (Nat.le_of_ble_eq_true rfl) (Nat.le_of_ble_eq_true rfl) (Nat.le_of_ble_eq_true rfl)) rfl rfl (fun h1 q1 => ?_)
  obtain ⟨H1, m1⟩ := q1
  refine aw_aload_n (pc' := 7) dX12_shaftBores_6 rfl rfl rfl ?_
  refine aw_iload_n (pc' := 8) dX12_shaftBores_7 rfl rfl ?_
  refine aw_iload_n (pc' := 9) dX12_shaftBores_8 rfl rfl ?_
  refine aw_iconst (v := 1) (pc' := 10) dX12_shaftBores_9 rfl (by decide) ?_
  refine aw_iadd (pc' := 11) dX12_shaftBores_10 rfl ?_
  obtain ⟨r2, s2, ec2, hf⟩ := bd_e hf
  refine aw_callVi (M' := mX12_wayBores) (nc' := 0) (ns' := 0) (pc' := 14) dX12_shaftBores_11 rfl ml_RX12_463 kX12_wayBores (t_X12_wayBores H1 ec2) (H1.ob (H1.fo rfl rfl) (by decide)) rfl rfl rfl (Nat.le_of_ble_eq_true rfl) (rokD (by omega) (Nat.le_of_ble_eq_true rfl) (Nat.le_of_ble_eq_true rfl) (Nat.le_of_ble_eq_true rfl)) rfl rfl (fun _ h2 q2 => ?_)
  obtain ⟨rfl, H2, m2⟩ := q2
  obtain ⟨rfl, rfl⟩ := so2 hf
  exact aw_ri dX12_shaftBores_14 rfl rfl (Nat.le_of_ble_eq_true rfl) (Nat.le_of_ble_eq_true rfl) ⟨rfl, H2, (m1.tr m2)⟩
/-! ThirtyThreeBelowModel.bores -/
def f_X12_bores (s0 : SS) (a0 : Int32) (a1 : Int32) : Option (Int32 × SS) := (gd (inB a0 120) (if (zI s0 62 (a0.toInt.toNat)) = (5 : Int32) then (b1 (f_X12_ran s0 61) fun s11 => (bd (f_X12_shaftBores s11 a0 a1) fun r12 s12 => some ((r12 ^^^ (7 : Int32)), s12))) else (gd (inB a0 120) (if (zI s0 62 (a0.toInt.toNat)) = (4 : Int32) then (bd (f_X12_shaftBores s0 a0 a1) fun r10 s10 => some (r10, s10)) else (gd (inB a0 120) (b1 (f_X12_isUnder (zI s0 62 (a0.toInt.toNat)) (1 : Int32)) fun r6 => (if r6 = (0 : Int32) then (bd (f_X12_plainBores s0 a0 a1) fun r8 s8 => some (r8, s8)) else (bd (f_X12_wayBores s0 a0 a1) fun r9 s9 => some (r9, s9)))))))))
set_option maxRecDepth 4000 in
theorem t_X12_bores {r9 : Int32} {s0 s9 : SS} {h0 : List aE} {a0 : Int32} {a1 : Int32} (H0 : HH s0 h0) (hf : f_X12_bores s0 a0 a1 = some (r9, s9)) : AM mX12_bores (4) [.ref 67, .int a0, .int a1] h0 0 0 (PI fun r' h' => r9 = r' ∧ HH s9 h' ∧ Mo s0 s9) := by
  unfold f_X12_bores at hf
  refine am_of (lv := [some (.ref 67), some (.int a0), some (.int a1)]) rfl (Nat.le_of_ble_eq_true rfl) rfl ?_
  refine aw_aload_n (pc' := 1) dX12_bores_0 rfl rfl rfl ?_
  refine aw_gr (q := 59) (e := 7) (v := .ref 70) (pc' := 4) H0 (H0.fo rfl rfl) (by decide) rfl rfl dX12_bores_1 rfl fl_RX12_17 ?_
  refine aw_iload_n (pc' := 5) dX12_bores_4 rfl rfl ?_
  obtain ⟨g1, hf⟩ := gd_e hf
  refine aw_ia (q := 62) (pc' := 6) H0 (H0.fa rfl rfl rfl) g1 dX12_bores_5 rfl ?_
  refine aw_iconst (v := 5) (pc' := 7) dX12_bores_6 rfl (by decide) ?_
  refine aw_icmp_ne (tgt := 26) (pc' := 10) dX12_bores_7 (by decide) rfl (fun c2 => ?_) (fun c2 => ?_)
  · replace hf := ifn c2 hf
    refine aw_aload_n (pc' := 27) dX12_bores_26 rfl rfl rfl ?_
    refine aw_gr (q := 59) (e := 7) (v := .ref 70) (pc' := 30) H0 (H0.fo rfl rfl) (by decide) rfl rfl dX12_bores_27 rfl fl_RX12_17 ?_
    refine aw_iload_n (pc' := 31) dX12_bores_30 rfl rfl ?_
    obtain ⟨g3, hf⟩ := gd_e hf
    refine aw_ia (q := 62) (pc' := 32) H0 (H0.fa rfl rfl rfl) g3 dX12_bores_31 rfl ?_
    refine aw_iconst (v := 4) (pc' := 33) dX12_bores_32 rfl (by decide) ?_
    refine aw_icmp_ne (tgt := 43) (pc' := 36) dX12_bores_33 (by decide) rfl (fun c4 => ?_) (fun c4 => ?_)
    · replace hf := ifn c4 hf
      refine aw_aload_n (pc' := 44) dX12_bores_43 rfl rfl rfl ?_
      refine aw_gr (q := 59) (e := 7) (v := .ref 70) (pc' := 47) H0 (H0.fo rfl rfl) (by decide) rfl rfl dX12_bores_44 rfl fl_RX12_17 ?_
      refine aw_iload_n (pc' := 48) dX12_bores_47 rfl rfl ?_
      obtain ⟨g5, hf⟩ := gd_e hf
      refine aw_ia (q := 62) (pc' := 49) H0 (H0.fa rfl rfl rfl) g5 dX12_bores_48 rfl ?_
      refine aw_iconst (v := 1) (pc' := 50) dX12_bores_49 rfl (by decide) ?_
      obtain ⟨r6, ec6, hf⟩ := b1_e hf
      refine aw_callSi (M' := mX12_isUnder) (nc' := 0) (ns' := 0) (pc' := 53) dX12_bores_50 rfl ml_RX12_248 kX12_isUnder (t_X12_isUnder ec6) rfl rfl (Nat.le_of_ble_eq_true rfl) (rokD (by omega) (Nat.le_of_ble_eq_true rfl) (Nat.le_of_ble_eq_true rfl) (Nat.le_of_ble_eq_true rfl)) rfl rfl (fun _ h6 q6 => ?_)
      obtain ⟨rfl, rfl, zb6⟩ := q6
      refine aw_if_eq (tgt := 65) (pc' := 56) dX12_bores_53 (by decide) rfl (fun c7 => ?_) (fun c7 => ?_)
      · replace hf := ifp c7 hf
        refine aw_aload_n (pc' := 66) dX12_bores_65 rfl rfl rfl ?_
        refine aw_iload_n (pc' := 67) dX12_bores_66 rfl rfl ?_
        refine aw_iload_n (pc' := 68) dX12_bores_67 rfl rfl ?_
        obtain ⟨r8, s8, ec8, hf⟩ := bd_e hf
        refine aw_callVi (M' := mX12_plainBores) (nc' := 0) (ns' := 0) (pc' := 71) dX12_bores_68 rfl ml_RX12_460 kX12_plainBores (t_X12_plainBores H0 ec8) (H0.ob (H0.fo rfl rfl) (by decide)) rfl rfl rfl (Nat.le_of_ble_eq_true rfl) (rokD (by omega) (Nat.le_of_ble_eq_true rfl) (Nat.le_of_ble_eq_true rfl) (Nat.le_of_ble_eq_true rfl)) rfl rfl (fun _ h8 q8 => ?_)
        obtain ⟨rfl, H8, m8⟩ := q8
        obtain ⟨rfl, rfl⟩ := so2 hf
        exact aw_ri dX12_bores_71 rfl rfl (Nat.le_of_ble_eq_true rfl) (Nat.le_of_ble_eq_true rfl) ⟨rfl, H8, m8⟩
      · replace hf := ifn c7 hf
        refine aw_aload_n (pc' := 57) dX12_bores_56 rfl rfl rfl ?_
        refine aw_iload_n (pc' := 58) dX12_bores_57 rfl rfl ?_
        refine aw_iload_n (pc' := 59) dX12_bores_58 rfl rfl ?_
        obtain ⟨r9, s9, ec9, hf⟩ := bd_e hf
        refine aw_callVi (M' := mX12_wayBores) (nc' := 0) (ns' := 0) (pc' := 62) dX12_bores_59 rfl ml_RX12_463 kX12_wayBores (t_X12_wayBores H0 ec9) (H0.ob (H0.fo rfl rfl) (by decide)) rfl rfl rfl (Nat.le_of_ble_eq_true rfl) (rokD (by omega) (Nat.le_of_ble_eq_true rfl) (Nat.le_of_ble_eq_true rfl) (Nat.le_of_ble_eq_true rfl)) rfl rfl (fun _ h9 q9 => ?_)
        obtain ⟨rfl, H9, m9⟩ := q9
        refine aw_goto (tgt := 71) dX12_bores_62 (by decide) ?_
        obtain ⟨rfl, rfl⟩ := so2 hf
        exact aw_ri dX12_bores_71 rfl rfl (Nat.le_of_ble_eq_true rfl) (Nat.le_of_ble_eq_true rfl) ⟨rfl, H9, m9⟩
    · replace hf := ifp c4 hf
      refine aw_aload_n (pc' := 37) dX12_bores_36 rfl rfl rfl ?_
      refine aw_iload_n (pc' := 38) dX12_bores_37 rfl rfl ?_
      refine aw_iload_n (pc' := 39) dX12_bores_38 rfl rfl ?_
      obtain ⟨r10, s10, ec10, hf⟩ := bd_e hf
      refine aw_callVi (M' := mX12_shaftBores) (nc' := 0) (ns' := 0) (pc' := 42) dX12_bores_39 rfl ml_RX12_466 kX12_shaftBores (t_X12_shaftBores H0 ec10) (H0.ob (H0.fo rfl rfl) (by decide)) rfl rfl rfl (Nat.le_of_ble_eq_true rfl) (rokD (by omega) (Nat.le_of_ble_eq_true rfl) (Nat.le_of_ble_eq_true rfl) (Nat.le_of_ble_eq_true rfl)) rfl rfl (fun _ h10 q10 => ?_)
      obtain ⟨rfl, H10, m10⟩ := q10
      obtain ⟨rfl, rfl⟩ := so2 hf
      exact aw_ri dX12_bores_42 rfl rfl (Nat.le_of_ble_eq_true rfl) (Nat.le_of_ble_eq_true rfl) ⟨rfl, H10, m10⟩
  · replace hf := ifp c2 hf
    refine aw_aload_n (pc' := 11) dX12_bores_10 rfl rfl rfl ?_
    refine aw_bipush (v := 61) (pc' := 13) dX12_bores_11 rfl (by decide) ?_
    obtain ⟨s11, ec11, hf⟩ := b1_e hf
    refine aw_callVv (M' := mX12_ran) (nc' := 0) (ns' := 0) (pc' := 16) dX12_bores_13 rfl ml_RX12_456 kX12_ran (t_X12_ran H0 ec11) (H0.ob (H0.fo rfl rfl) (by decide)) rfl rfl rfl (Nat.le_of_ble_eq_true rfl) (rokD (by omega) (Nat.le_of_ble_eq_true rfl) (Nat.le_of_ble_eq_true rfl) (Nat.le_of_ble_eq_true rfl)) rfl rfl (fun h11 q11 => ?_)
    obtain ⟨H11, m11⟩ := q11
    refine aw_aload_n (pc' := 17) dX12_bores_16 rfl rfl rfl ?_
    refine aw_iload_n (pc' := 18) dX12_bores_17 rfl rfl ?_
    refine aw_iload_n (pc' := 19) dX12_bores_18 rfl rfl ?_
    obtain ⟨r12, s12, ec12, hf⟩ := bd_e hf
    refine aw_callVi (M' := mX12_shaftBores) (nc' := 0) (ns' := 0) (pc' := 22) dX12_bores_19 rfl ml_RX12_466 kX12_shaftBores (t_X12_shaftBores H11 ec12) (H11.ob (H11.fo rfl rfl) (by decide)) rfl rfl rfl (Nat.le_of_ble_eq_true rfl) (rokD (by omega) (Nat.le_of_ble_eq_true rfl) (Nat.le_of_ble_eq_true rfl) (Nat.le_of_ble_eq_true rfl)) rfl rfl (fun _ h12 q12 => ?_)
    obtain ⟨rfl, H12, m12⟩ := q12
    refine aw_bipush (v := 7) (pc' := 24) dX12_bores_22 rfl (by decide) ?_
    refine aw_ixor (pc' := 25) dX12_bores_24 rfl ?_
    obtain ⟨rfl, rfl⟩ := so2 hf
    exact aw_ri dX12_bores_25 rfl rfl (Nat.le_of_ble_eq_true rfl) (Nat.le_of_ble_eq_true rfl) ⟨rfl, H12, (m11.tr m12)⟩
/-! ThirtyThreeBelowModel.plainCarries -/
def f_X12_plainCarries (s0 : SS) (a0 : Int32) (a1 : Int32) : Option (Int32 × SS) := (b1 (f_X12_ran s0 10) fun s1 => (bd (f_X12_bores s1 a0 a1) fun r2 s2 => some ((r2 - (1 : Int32)), s2)))
set_option maxRecDepth 4000 in
theorem t_X12_plainCarries {r9 : Int32} {s0 s9 : SS} {h0 : List aE} {a0 : Int32} {a1 : Int32} (H0 : HH s0 h0) (hf : f_X12_plainCarries s0 a0 a1 = some (r9, s9)) : AM mX12_plainCarries (5) [.ref 67, .int a0, .int a1] h0 0 0 (PI fun r' h' => r9 = r' ∧ HH s9 h' ∧ Mo s0 s9) := by
  unfold f_X12_plainCarries at hf
  refine am_of (lv := [some (.ref 67), some (.int a0), some (.int a1)]) rfl (Nat.le_of_ble_eq_true rfl) rfl ?_
  refine aw_aload_n (pc' := 1) dX12_plainCarries_0 rfl rfl rfl ?_
  refine aw_bipush (v := 10) (pc' := 3) dX12_plainCarries_1 rfl (by decide) ?_
  obtain ⟨s1, ec1, hf⟩ := b1_e hf
  refine aw_callVv (M' := mX12_ran) (nc' := 0) (ns' := 0) (pc' := 6) dX12_plainCarries_3 rfl ml_RX12_456 kX12_ran (t_X12_ran H0 ec1) (H0.ob (H0.fo rfl rfl) (by decide)) rfl rfl rfl (Nat.le_of_ble_eq_true rfl) (rokD (by omega) (Nat.le_of_ble_eq_true rfl) (Nat.le_of_ble_eq_true rfl) (Nat.le_of_ble_eq_true rfl)) rfl rfl (fun h1 q1 => ?_)
  obtain ⟨H1, m1⟩ := q1
  refine aw_aload_n (pc' := 7) dX12_plainCarries_6 rfl rfl rfl ?_
  refine aw_iload_n (pc' := 8) dX12_plainCarries_7 rfl rfl ?_
  refine aw_iload_n (pc' := 9) dX12_plainCarries_8 rfl rfl ?_
  obtain ⟨r2, s2, ec2, hf⟩ := bd_e hf
  refine aw_callVi (M' := mX12_bores) (nc' := 0) (ns' := 0) (pc' := 12) dX12_plainCarries_9 rfl ml_RX12_469 kX12_bores (t_X12_bores H1 ec2) (H1.ob (H1.fo rfl rfl) (by decide)) rfl rfl rfl (Nat.le_of_ble_eq_true rfl) (rokD (by omega) (Nat.le_of_ble_eq_true rfl) (Nat.le_of_ble_eq_true rfl) (Nat.le_of_ble_eq_true rfl)) rfl rfl (fun _ h2 q2 => ?_)
  obtain ⟨rfl, H2, m2⟩ := q2
  refine aw_iconst (v := 1) (pc' := 13) dX12_plainCarries_12 rfl (by decide) ?_
  refine aw_isub (pc' := 14) dX12_plainCarries_13 rfl ?_
  obtain ⟨rfl, rfl⟩ := so2 hf
  exact aw_ri dX12_plainCarries_14 rfl rfl (Nat.le_of_ble_eq_true rfl) (Nat.le_of_ble_eq_true rfl) ⟨rfl, H2, (m1.tr m2)⟩
/-! ThirtyThreeBelowModel.carries -/
def f_X12_carries (s0 : SS) (a0 : Int32) (a1 : Int32) : Option (Int32 × SS) := (gd (inB a0 120) (b1 (f_X12_isUnder (zI s0 62 (a0.toInt.toNat)) (2 : Int32)) fun r2 => (if r2 = (0 : Int32) then (gd (inB a0 120) (if (zI s0 62 (a0.toInt.toNat)) = (7 : Int32) then (b1 (f_X12_ran s0 80) fun s7 => (bd (f_X12_plainCarries s7 a0 a1) fun r8 s8 => (gd (inB a0 120) some ((r8 - (zI s8 74 (a0.toInt.toNat))), s8)))) else (bd (f_X12_plainCarries s0 a0 a1) fun r6 s6 => some (r6, s6)))) else (b1 (f_X12_ran s0 30) fun s10 => (bd (f_X12_plainCarries s10 a0 a1) fun r11 s11 => (gd (inB a0 120) some ((r11 + (zI s11 64 (a0.toInt.toNat))), s11)))))))
set_option maxRecDepth 4000 in
theorem t_X12_carries {r9 : Int32} {s0 s9 : SS} {h0 : List aE} {a0 : Int32} {a1 : Int32} (H0 : HH s0 h0) (hf : f_X12_carries s0 a0 a1 = some (r9, s9)) : AM mX12_carries (6) [.ref 67, .int a0, .int a1] h0 0 0 (PI fun r' h' => r9 = r' ∧ HH s9 h' ∧ Mo s0 s9) := by
  unfold f_X12_carries at hf
  refine am_of (lv := [some (.ref 67), some (.int a0), some (.int a1)]) rfl (Nat.le_of_ble_eq_true rfl) rfl ?_
  refine aw_aload_n (pc' := 1) dX12_carries_0 rfl rfl rfl ?_
  refine aw_gr (q := 59) (e := 7) (v := .ref 70) (pc' := 4) H0 (H0.fo rfl rfl) (by decide) rfl rfl dX12_carries_1 rfl fl_RX12_17 ?_
  refine aw_iload_n (pc' := 5) dX12_carries_4 rfl rfl ?_
  obtain ⟨g1, hf⟩ := gd_e hf
  refine aw_ia (q := 62) (pc' := 6) H0 (H0.fa rfl rfl rfl) g1 dX12_carries_5 rfl ?_
  refine aw_iconst (v := 2) (pc' := 7) dX12_carries_6 rfl (by decide) ?_
  obtain ⟨r2, ec2, hf⟩ := b1_e hf
  refine aw_callSi (M' := mX12_isUnder) (nc' := 0) (ns' := 0) (pc' := 10) dX12_carries_7 rfl ml_RX12_248 kX12_isUnder (t_X12_isUnder ec2) rfl rfl (Nat.le_of_ble_eq_true rfl) (rokD (by omega) (Nat.le_of_ble_eq_true rfl) (Nat.le_of_ble_eq_true rfl) (Nat.le_of_ble_eq_true rfl)) rfl rfl (fun _ h2 q2 => ?_)
  obtain ⟨rfl, rfl, zb2⟩ := q2
  refine aw_if_eq (tgt := 33) (pc' := 13) dX12_carries_10 (by decide) rfl (fun c3 => ?_) (fun c3 => ?_)
  · replace hf := ifp c3 hf
    refine aw_aload_n (pc' := 34) dX12_carries_33 rfl rfl rfl ?_
    refine aw_gr (q := 59) (e := 7) (v := .ref 70) (pc' := 37) H0 (H0.fo rfl rfl) (by decide) rfl rfl dX12_carries_34 rfl fl_RX12_17 ?_
    refine aw_iload_n (pc' := 38) dX12_carries_37 rfl rfl ?_
    obtain ⟨g4, hf⟩ := gd_e hf
    refine aw_ia (q := 62) (pc' := 39) H0 (H0.fa rfl rfl rfl) g4 dX12_carries_38 rfl ?_
    refine aw_bipush (v := 7) (pc' := 41) dX12_carries_39 rfl (by decide) ?_
    refine aw_icmp_ne (tgt := 64) (pc' := 44) dX12_carries_41 (by decide) rfl (fun c5 => ?_) (fun c5 => ?_)
    · replace hf := ifn c5 hf
      refine aw_aload_n (pc' := 65) dX12_carries_64 rfl rfl rfl ?_
      refine aw_iload_n (pc' := 66) dX12_carries_65 rfl rfl ?_
      refine aw_iload_n (pc' := 67) dX12_carries_66 rfl rfl ?_
      obtain ⟨r6, s6, ec6, hf⟩ := bd_e hf
      refine aw_callVi (M' := mX12_plainCarries) (nc' := 0) (ns' := 0) (pc' := 70) dX12_carries_67 rfl ml_RX12_472 kX12_plainCarries (t_X12_plainCarries H0 ec6) (H0.ob (H0.fo rfl rfl) (by decide)) rfl rfl rfl (Nat.le_of_ble_eq_true rfl) (rokD (by omega) (Nat.le_of_ble_eq_true rfl) (Nat.le_of_ble_eq_true rfl) (Nat.le_of_ble_eq_true rfl)) rfl rfl (fun _ h6 q6 => ?_)
      obtain ⟨rfl, H6, m6⟩ := q6
      obtain ⟨rfl, rfl⟩ := so2 hf
      exact aw_ri dX12_carries_70 rfl rfl (Nat.le_of_ble_eq_true rfl) (Nat.le_of_ble_eq_true rfl) ⟨rfl, H6, m6⟩
    · replace hf := ifp c5 hf
      refine aw_aload_n (pc' := 45) dX12_carries_44 rfl rfl rfl ?_
      refine aw_bipush (v := 80) (pc' := 47) dX12_carries_45 rfl (by decide) ?_
      obtain ⟨s7, ec7, hf⟩ := b1_e hf
      refine aw_callVv (M' := mX12_ran) (nc' := 0) (ns' := 0) (pc' := 50) dX12_carries_47 rfl ml_RX12_456 kX12_ran (t_X12_ran H0 ec7) (H0.ob (H0.fo rfl rfl) (by decide)) rfl rfl rfl (Nat.le_of_ble_eq_true rfl) (rokD (by omega) (Nat.le_of_ble_eq_true rfl) (Nat.le_of_ble_eq_true rfl) (Nat.le_of_ble_eq_true rfl)) rfl rfl (fun h7 q7 => ?_)
      obtain ⟨H7, m7⟩ := q7
      refine aw_aload_n (pc' := 51) dX12_carries_50 rfl rfl rfl ?_
      refine aw_iload_n (pc' := 52) dX12_carries_51 rfl rfl ?_
      refine aw_iload_n (pc' := 53) dX12_carries_52 rfl rfl ?_
      obtain ⟨r8, s8, ec8, hf⟩ := bd_e hf
      refine aw_callVi (M' := mX12_plainCarries) (nc' := 0) (ns' := 0) (pc' := 56) dX12_carries_53 rfl ml_RX12_472 kX12_plainCarries (t_X12_plainCarries H7 ec8) (H7.ob (H7.fo rfl rfl) (by decide)) rfl rfl rfl (Nat.le_of_ble_eq_true rfl) (rokD (by omega) (Nat.le_of_ble_eq_true rfl) (Nat.le_of_ble_eq_true rfl) (Nat.le_of_ble_eq_true rfl)) rfl rfl (fun _ h8 q8 => ?_)
      obtain ⟨rfl, H8, m8⟩ := q8
      refine aw_aload_n (pc' := 57) dX12_carries_56 rfl rfl rfl ?_
      refine aw_gr (q := 59) (e := 31) (v := .ref 82) (pc' := 60) H8 (H8.fo rfl rfl) (by decide) rfl rfl dX12_carries_57 rfl fl_RX12_53 ?_
      refine aw_iload_n (pc' := 61) dX12_carries_60 rfl rfl ?_
      obtain ⟨g9, hf⟩ := gd_e hf
      refine aw_ia (q := 74) (pc' := 62) H8 (H8.fa rfl rfl rfl) g9 dX12_carries_61 rfl ?_
      refine aw_isub (pc' := 63) dX12_carries_62 rfl ?_
      obtain ⟨rfl, rfl⟩ := so2 hf
      exact aw_ri dX12_carries_63 rfl rfl (Nat.le_of_ble_eq_true rfl) (Nat.le_of_ble_eq_true rfl) ⟨rfl, H8, (m7.tr m8)⟩
  · replace hf := ifn c3 hf
    refine aw_aload_n (pc' := 14) dX12_carries_13 rfl rfl rfl ?_
    refine aw_bipush (v := 30) (pc' := 16) dX12_carries_14 rfl (by decide) ?_
    obtain ⟨s10, ec10, hf⟩ := b1_e hf
    refine aw_callVv (M' := mX12_ran) (nc' := 0) (ns' := 0) (pc' := 19) dX12_carries_16 rfl ml_RX12_456 kX12_ran (t_X12_ran H0 ec10) (H0.ob (H0.fo rfl rfl) (by decide)) rfl rfl rfl (Nat.le_of_ble_eq_true rfl) (rokD (by omega) (Nat.le_of_ble_eq_true rfl) (Nat.le_of_ble_eq_true rfl) (Nat.le_of_ble_eq_true rfl)) rfl rfl (fun h10 q10 => ?_)
    obtain ⟨H10, m10⟩ := q10
    refine aw_aload_n (pc' := 20) dX12_carries_19 rfl rfl rfl ?_
    refine aw_iload_n (pc' := 21) dX12_carries_20 rfl rfl ?_
    refine aw_iload_n (pc' := 22) dX12_carries_21 rfl rfl ?_
    obtain ⟨r11, s11, ec11, hf⟩ := bd_e hf
    refine aw_callVi (M' := mX12_plainCarries) (nc' := 0) (ns' := 0) (pc' := 25) dX12_carries_22 rfl ml_RX12_472 kX12_plainCarries (t_X12_plainCarries H10 ec11) (H10.ob (H10.fo rfl rfl) (by decide)) rfl rfl rfl (Nat.le_of_ble_eq_true rfl) (rokD (by omega) (Nat.le_of_ble_eq_true rfl) (Nat.le_of_ble_eq_true rfl) (Nat.le_of_ble_eq_true rfl)) rfl rfl (fun _ h11 q11 => ?_)
    obtain ⟨rfl, H11, m11⟩ := q11
    refine aw_aload_n (pc' := 26) dX12_carries_25 rfl rfl rfl ?_
    refine aw_gr (q := 59) (e := 11) (v := .ref 72) (pc' := 29) H11 (H11.fo rfl rfl) (by decide) rfl rfl dX12_carries_26 rfl fl_RX12_23 ?_
    refine aw_iload_n (pc' := 30) dX12_carries_29 rfl rfl ?_
    obtain ⟨g12, hf⟩ := gd_e hf
    refine aw_ia (q := 64) (pc' := 31) H11 (H11.fa rfl rfl rfl) g12 dX12_carries_30 rfl ?_
    refine aw_iadd (pc' := 32) dX12_carries_31 rfl ?_
    obtain ⟨rfl, rfl⟩ := so2 hf
    exact aw_ri dX12_carries_32 rfl rfl (Nat.le_of_ble_eq_true rfl) (Nat.le_of_ble_eq_true rfl) ⟨rfl, H11, (m10.tr m11)⟩
/-! ThirtyThreeBelowModel.plainHolds -/
def f_X12_plainHolds (s0 : SS) (a0 : Int32) (a1 : Int32) : Option (Int32 × SS) := (b1 (f_X12_ran s0 11) fun s1 => some ((a1 ^^^ a0), s1))
set_option maxRecDepth 4000 in
theorem t_X12_plainHolds {r9 : Int32} {s0 s9 : SS} {h0 : List aE} {a0 : Int32} {a1 : Int32} (H0 : HH s0 h0) (hf : f_X12_plainHolds s0 a0 a1 = some (r9, s9)) : AM mX12_plainHolds (1) [.ref 67, .int a0, .int a1] h0 0 0 (PI fun r' h' => r9 = r' ∧ HH s9 h' ∧ Mo s0 s9) := by
  unfold f_X12_plainHolds at hf
  refine am_of (lv := [some (.ref 67), some (.int a0), some (.int a1)]) rfl (Nat.le_of_ble_eq_true rfl) rfl ?_
  refine aw_aload_n (pc' := 1) dX12_plainHolds_0 rfl rfl rfl ?_
  refine aw_bipush (v := 11) (pc' := 3) dX12_plainHolds_1 rfl (by decide) ?_
  obtain ⟨s1, ec1, hf⟩ := b1_e hf
  refine aw_callVv (M' := mX12_ran) (nc' := 0) (ns' := 0) (pc' := 6) dX12_plainHolds_3 rfl ml_RX12_456 kX12_ran (t_X12_ran H0 ec1) (H0.ob (H0.fo rfl rfl) (by decide)) rfl rfl rfl (Nat.le_of_ble_eq_true rfl) (rokD (by omega) (Nat.le_of_ble_eq_true rfl) (Nat.le_of_ble_eq_true rfl) (Nat.le_of_ble_eq_true rfl)) rfl rfl (fun h1 q1 => ?_)
  obtain ⟨H1, m1⟩ := q1
  refine aw_iload_n (pc' := 7) dX12_plainHolds_6 rfl rfl ?_
  refine aw_iload_n (pc' := 8) dX12_plainHolds_7 rfl rfl ?_
  refine aw_ixor (pc' := 9) dX12_plainHolds_8 rfl ?_
  obtain ⟨rfl, rfl⟩ := so2 hf
  exact aw_ri dX12_plainHolds_9 rfl rfl (Nat.le_of_ble_eq_true rfl) (Nat.le_of_ble_eq_true rfl) ⟨rfl, H1, m1⟩
/-! ThirtyThreeBelowModel.holdsBy -/
def f_X12_holdsBy (s0 : SS) (a0 : Int32) (a1 : Int32) : Option (Int32 × SS) := (gd (inB a0 120) (jn ((bd (f_X12_plainHolds s0 a0 a1) fun r3 s3 => some (r3, s3))) fun k2 => (if (zI s0 62 (a0.toInt.toNat)) = 3 then (b1 (f_X12_ran s0 40) fun s5 => (bd (f_X12_plainHolds s5 a0 a1) fun r6 s6 => (bd (f_X12_carries s6 a0 1) fun r7 s7 => some ((r6 - r7), s7)))) else (if (zI s0 62 (a0.toInt.toNat)) = 4 then k2 else (if (zI s0 62 (a0.toInt.toNat)) = 5 then (b1 (f_X12_ran s0 60) fun s10 => (bd (f_X12_plainHolds s10 a0 a1) fun r11 s11 => some ((-r11), s11))) else (if (zI s0 62 (a0.toInt.toNat)) = 6 then (b1 (f_X12_ran s0 70) fun s13 => (bd (f_X12_plainHolds s13 a0 a1) fun r14 s14 => (bd (f_X12_plainCarries s14 a0 a1) fun r15 s15 => some ((r14 + r15), s15)))) else k2))))))
set_option maxRecDepth 4000 in
theorem t_X12_holdsBy {r9 : Int32} {s0 s9 : SS} {h0 : List aE} {a0 : Int32} {a1 : Int32} (H0 : HH s0 h0) (hf : f_X12_holdsBy s0 a0 a1 = some (r9, s9)) : AM mX12_holdsBy (7) [.ref 67, .int a0, .int a1] h0 0 0 (PI fun r' h' => r9 = r' ∧ HH s9 h' ∧ Mo s0 s9) := by
  unfold f_X12_holdsBy at hf
  refine am_of (lv := [some (.ref 67), some (.int a0), some (.int a1), none]) rfl (Nat.le_of_ble_eq_true rfl) rfl ?_
  refine aw_aload_n (pc' := 1) dX12_holdsBy_0 rfl rfl rfl ?_
  refine aw_gr (q := 59) (e := 7) (v := .ref 70) (pc' := 4) H0 (H0.fo rfl rfl) (by decide) rfl rfl dX12_holdsBy_1 rfl fl_RX12_17 ?_
  refine aw_iload_n (pc' := 5) dX12_holdsBy_4 rfl rfl ?_
  obtain ⟨g1, hf⟩ := gd_e hf
  refine aw_ia (q := 62) (pc' := 6) H0 (H0.fa rfl rfl rfl) g1 dX12_holdsBy_5 rfl ?_
  obtain ⟨k2, ek2, hf⟩ := jn_e hf
  have hk2 : k2 = some (r9, s9) → AW mX12_holdsBy (rmD (7) 0 0) (fin (PI fun r' h' => r9 = r' ∧ HH s9 h' ∧ Mo s0 s9) 0 0) 94 [some (.ref 67), some (.int a0), some (.int a1), none] [] h0 0 0 := by
    intro hf
    subst ek2
    refine aw_aload_n (pc' := 95) dX12_holdsBy_94 rfl rfl rfl ?_
    refine aw_iload_n (pc' := 96) dX12_holdsBy_95 rfl rfl ?_
    refine aw_iload_n (pc' := 97) dX12_holdsBy_96 rfl rfl ?_
    obtain ⟨r3, s3, ec3, hf⟩ := bd_e hf
    refine aw_callVi (M' := mX12_plainHolds) (nc' := 0) (ns' := 0) (pc' := 100) dX12_holdsBy_97 rfl ml_RX12_475 kX12_plainHolds (t_X12_plainHolds H0 ec3) (H0.ob (H0.fo rfl rfl) (by decide)) rfl rfl rfl (Nat.le_of_ble_eq_true rfl) (rokD (by omega) (Nat.le_of_ble_eq_true rfl) (Nat.le_of_ble_eq_true rfl) (Nat.le_of_ble_eq_true rfl)) rfl rfl (fun _ h3 q3 => ?_)
    obtain ⟨rfl, H3, m3⟩ := q3
    obtain ⟨rfl, rfl⟩ := so2 hf
    exact aw_ri dX12_holdsBy_100 rfl rfl (Nat.le_of_ble_eq_true rfl) (Nat.le_of_ble_eq_true rfl) ⟨rfl, H3, m3⟩
  clear ek2
  rcases Decidable.em ((zI s0 62 (a0.toInt.toNat)) = 3) with c4 | c4
  · replace hf := ifp c4 hf
    refine aw_tabIn (tgt := 36) (off := 30) dX12_holdsBy_6 (by rw [c4]; decide) (by rw [c4]; decide) (by rw [c4]; decide) (by decide) ?_
    refine aw_aload_n (pc' := 37) dX12_holdsBy_36 rfl rfl rfl ?_
    refine aw_bipush (v := 40) (pc' := 39) dX12_holdsBy_37 rfl (by decide) ?_
    obtain ⟨s5, ec5, hf⟩ := b1_e hf
    refine aw_callVv (M' := mX12_ran) (nc' := 0) (ns' := 0) (pc' := 42) dX12_holdsBy_39 rfl ml_RX12_456 kX12_ran (t_X12_ran H0 ec5) (H0.ob (H0.fo rfl rfl) (by decide)) rfl rfl rfl (Nat.le_of_ble_eq_true rfl) (rokD (by omega) (Nat.le_of_ble_eq_true rfl) (Nat.le_of_ble_eq_true rfl) (Nat.le_of_ble_eq_true rfl)) rfl rfl (fun h5 q5 => ?_)
    obtain ⟨H5, m5⟩ := q5
    refine aw_aload_n (pc' := 43) dX12_holdsBy_42 rfl rfl rfl ?_
    refine aw_iload_n (pc' := 44) dX12_holdsBy_43 rfl rfl ?_
    refine aw_iload_n (pc' := 45) dX12_holdsBy_44 rfl rfl ?_
    obtain ⟨r6, s6, ec6, hf⟩ := bd_e hf
    refine aw_callVi (M' := mX12_plainHolds) (nc' := 0) (ns' := 0) (pc' := 48) dX12_holdsBy_45 rfl ml_RX12_475 kX12_plainHolds (t_X12_plainHolds H5 ec6) (H5.ob (H5.fo rfl rfl) (by decide)) rfl rfl rfl (Nat.le_of_ble_eq_true rfl) (rokD (by omega) (Nat.le_of_ble_eq_true rfl) (Nat.le_of_ble_eq_true rfl) (Nat.le_of_ble_eq_true rfl)) rfl rfl (fun _ h6 q6 => ?_)
    obtain ⟨rfl, H6, m6⟩ := q6
    refine aw_istore_n (lv' := [_, _, _, _]) (pc' := 49) dX12_holdsBy_48 rfl (Nat.le_of_ble_eq_true rfl) rfl ?_
    refine aw_iload_n (pc' := 50) dX12_holdsBy_49 rfl rfl ?_
    refine aw_aload_n (pc' := 51) dX12_holdsBy_50 rfl rfl rfl ?_
    refine aw_iload_n (pc' := 52) dX12_holdsBy_51 rfl rfl ?_
    refine aw_iconst (v := 1) (pc' := 53) dX12_holdsBy_52 rfl (by decide) ?_
    obtain ⟨r7, s7, ec7, hf⟩ := bd_e hf
    refine aw_callVi (M' := mX12_carries) (nc' := 0) (ns' := 0) (pc' := 56) dX12_holdsBy_53 rfl ml_RX12_478 kX12_carries (t_X12_carries H6 ec7) (H6.ob (H6.fo rfl rfl) (by decide)) rfl rfl rfl (Nat.le_of_ble_eq_true rfl) (rokD (by omega) (Nat.le_of_ble_eq_true rfl) (Nat.le_of_ble_eq_true rfl) (Nat.le_of_ble_eq_true rfl)) rfl rfl (fun _ h7 q7 => ?_)
    obtain ⟨rfl, H7, m7⟩ := q7
    refine aw_isub (pc' := 57) dX12_holdsBy_56 rfl ?_
    obtain ⟨rfl, rfl⟩ := so2 hf
    exact aw_ri dX12_holdsBy_57 rfl rfl (Nat.le_of_ble_eq_true rfl) (Nat.le_of_ble_eq_true rfl) ⟨rfl, H7, ((m5.tr m6).tr m7)⟩
  replace hf := ifn c4 hf
  rcases Decidable.em ((zI s0 62 (a0.toInt.toNat)) = 4) with c8 | c8
  · replace hf := ifp c8 hf
    refine aw_tabIn (tgt := 94) (off := 88) dX12_holdsBy_6 (by rw [c8]; decide) (by rw [c8]; decide) (by rw [c8]; decide) (by decide) ?_
    exact hk2  hf
  replace hf := ifn c8 hf
  rcases Decidable.em ((zI s0 62 (a0.toInt.toNat)) = 5) with c9 | c9
  · replace hf := ifp c9 hf
    refine aw_tabIn (tgt := 58) (off := 52) dX12_holdsBy_6 (by rw [c9]; decide) (by rw [c9]; decide) (by rw [c9]; decide) (by decide) ?_
    refine aw_aload_n (pc' := 59) dX12_holdsBy_58 rfl rfl rfl ?_
    refine aw_bipush (v := 60) (pc' := 61) dX12_holdsBy_59 rfl (by decide) ?_
    obtain ⟨s10, ec10, hf⟩ := b1_e hf
    refine aw_callVv (M' := mX12_ran) (nc' := 0) (ns' := 0) (pc' := 64) dX12_holdsBy_61 rfl ml_RX12_456 kX12_ran (t_X12_ran H0 ec10) (H0.ob (H0.fo rfl rfl) (by decide)) rfl rfl rfl (Nat.le_of_ble_eq_true rfl) (rokD (by omega) (Nat.le_of_ble_eq_true rfl) (Nat.le_of_ble_eq_true rfl) (Nat.le_of_ble_eq_true rfl)) rfl rfl (fun h10 q10 => ?_)
    obtain ⟨H10, m10⟩ := q10
    refine aw_aload_n (pc' := 65) dX12_holdsBy_64 rfl rfl rfl ?_
    refine aw_iload_n (pc' := 66) dX12_holdsBy_65 rfl rfl ?_
    refine aw_iload_n (pc' := 67) dX12_holdsBy_66 rfl rfl ?_
    obtain ⟨r11, s11, ec11, hf⟩ := bd_e hf
    refine aw_callVi (M' := mX12_plainHolds) (nc' := 0) (ns' := 0) (pc' := 70) dX12_holdsBy_67 rfl ml_RX12_475 kX12_plainHolds (t_X12_plainHolds H10 ec11) (H10.ob (H10.fo rfl rfl) (by decide)) rfl rfl rfl (Nat.le_of_ble_eq_true rfl) (rokD (by omega) (Nat.le_of_ble_eq_true rfl) (Nat.le_of_ble_eq_true rfl) (Nat.le_of_ble_eq_true rfl)) rfl rfl (fun _ h11 q11 => ?_)
    obtain ⟨rfl, H11, m11⟩ := q11
    refine aw_ineg (pc' := 71) dX12_holdsBy_70 rfl ?_
    obtain ⟨rfl, rfl⟩ := so2 hf
    exact aw_ri dX12_holdsBy_71 rfl rfl (Nat.le_of_ble_eq_true rfl) (Nat.le_of_ble_eq_true rfl) ⟨rfl, H11, (m10.tr m11)⟩
  replace hf := ifn c9 hf
  rcases Decidable.em ((zI s0 62 (a0.toInt.toNat)) = 6) with c12 | c12
  · replace hf := ifp c12 hf
    refine aw_tabIn (tgt := 72) (off := 66) dX12_holdsBy_6 (by rw [c12]; decide) (by rw [c12]; decide) (by rw [c12]; decide) (by decide) ?_
    refine aw_aload_n (pc' := 73) dX12_holdsBy_72 rfl rfl rfl ?_
    refine aw_bipush (v := 70) (pc' := 75) dX12_holdsBy_73 rfl (by decide) ?_
    obtain ⟨s13, ec13, hf⟩ := b1_e hf
    refine aw_callVv (M' := mX12_ran) (nc' := 0) (ns' := 0) (pc' := 78) dX12_holdsBy_75 rfl ml_RX12_456 kX12_ran (t_X12_ran H0 ec13) (H0.ob (H0.fo rfl rfl) (by decide)) rfl rfl rfl (Nat.le_of_ble_eq_true rfl) (rokD (by omega) (Nat.le_of_ble_eq_true rfl) (Nat.le_of_ble_eq_true rfl) (Nat.le_of_ble_eq_true rfl)) rfl rfl (fun h13 q13 => ?_)
    obtain ⟨H13, m13⟩ := q13
    refine aw_aload_n (pc' := 79) dX12_holdsBy_78 rfl rfl rfl ?_
    refine aw_iload_n (pc' := 80) dX12_holdsBy_79 rfl rfl ?_
    refine aw_iload_n (pc' := 81) dX12_holdsBy_80 rfl rfl ?_
    obtain ⟨r14, s14, ec14, hf⟩ := bd_e hf
    refine aw_callVi (M' := mX12_plainHolds) (nc' := 0) (ns' := 0) (pc' := 84) dX12_holdsBy_81 rfl ml_RX12_475 kX12_plainHolds (t_X12_plainHolds H13 ec14) (H13.ob (H13.fo rfl rfl) (by decide)) rfl rfl rfl (Nat.le_of_ble_eq_true rfl) (rokD (by omega) (Nat.le_of_ble_eq_true rfl) (Nat.le_of_ble_eq_true rfl) (Nat.le_of_ble_eq_true rfl)) rfl rfl (fun _ h14 q14 => ?_)
    obtain ⟨rfl, H14, m14⟩ := q14
    refine aw_istore_n (lv' := [_, _, _, _]) (pc' := 85) dX12_holdsBy_84 rfl (Nat.le_of_ble_eq_true rfl) rfl ?_
    refine aw_iload_n (pc' := 86) dX12_holdsBy_85 rfl rfl ?_
    refine aw_aload_n (pc' := 87) dX12_holdsBy_86 rfl rfl rfl ?_
    refine aw_iload_n (pc' := 88) dX12_holdsBy_87 rfl rfl ?_
    refine aw_iload_n (pc' := 89) dX12_holdsBy_88 rfl rfl ?_
    obtain ⟨r15, s15, ec15, hf⟩ := bd_e hf
    refine aw_callVi (M' := mX12_plainCarries) (nc' := 0) (ns' := 0) (pc' := 92) dX12_holdsBy_89 rfl ml_RX12_472 kX12_plainCarries (t_X12_plainCarries H14 ec15) (H14.ob (H14.fo rfl rfl) (by decide)) rfl rfl rfl (Nat.le_of_ble_eq_true rfl) (rokD (by omega) (Nat.le_of_ble_eq_true rfl) (Nat.le_of_ble_eq_true rfl) (Nat.le_of_ble_eq_true rfl)) rfl rfl (fun _ h15 q15 => ?_)
    obtain ⟨rfl, H15, m15⟩ := q15
    refine aw_iadd (pc' := 93) dX12_holdsBy_92 rfl ?_
    obtain ⟨rfl, rfl⟩ := so2 hf
    exact aw_ri dX12_holdsBy_93 rfl rfl (Nat.le_of_ble_eq_true rfl) (Nat.le_of_ble_eq_true rfl) ⟨rfl, H15, ((m13.tr m14).tr m15)⟩
  replace hf := ifn c12 hf
  refine aw_tabOut (tgt := 94) dX12_holdsBy_6 (by have a0 := tneK (K := 3) (by decide) c4; have a1 := tneK (K := 4) (by decide) c8; have a2 := tneK (K := 5) (by decide) c9; have a3 := tneK (K := 6) (by decide) c12; omega) (by decide) ?_
  exact hk2  hf
/-! ThirtyThreeBelowModel.plainTells -/
def f_X12_plainTells (s0 : SS) (a0 : Int32) (a1 : Int32) : Option (Int32 × SS) := (b1 (f_X12_ran s0 2) fun s1 => (bd (f_X12_carries s1 a0 a1) fun r2 s2 => (bd (f_X12_holdsBy s2 a0 1) fun r3 s3 => some ((r2 + r3), s3))))
set_option maxRecDepth 4000 in
theorem t_X12_plainTells {r9 : Int32} {s0 s9 : SS} {h0 : List aE} {a0 : Int32} {a1 : Int32} (H0 : HH s0 h0) (hf : f_X12_plainTells s0 a0 a1 = some (r9, s9)) : AM mX12_plainTells (8) [.ref 67, .int a0, .int a1] h0 0 0 (PI fun r' h' => r9 = r' ∧ HH s9 h' ∧ Mo s0 s9) := by
  unfold f_X12_plainTells at hf
  refine am_of (lv := [some (.ref 67), some (.int a0), some (.int a1), none]) rfl (Nat.le_of_ble_eq_true rfl) rfl ?_
  refine aw_aload_n (pc' := 1) dX12_plainTells_0 rfl rfl rfl ?_
  refine aw_iconst (v := 2) (pc' := 2) dX12_plainTells_1 rfl (by decide) ?_
  obtain ⟨s1, ec1, hf⟩ := b1_e hf
  refine aw_callVv (M' := mX12_ran) (nc' := 0) (ns' := 0) (pc' := 5) dX12_plainTells_2 rfl ml_RX12_456 kX12_ran (t_X12_ran H0 ec1) (H0.ob (H0.fo rfl rfl) (by decide)) rfl rfl rfl (Nat.le_of_ble_eq_true rfl) (rokD (by omega) (Nat.le_of_ble_eq_true rfl) (Nat.le_of_ble_eq_true rfl) (Nat.le_of_ble_eq_true rfl)) rfl rfl (fun h1 q1 => ?_)
  obtain ⟨H1, m1⟩ := q1
  refine aw_aload_n (pc' := 6) dX12_plainTells_5 rfl rfl rfl ?_
  refine aw_iload_n (pc' := 7) dX12_plainTells_6 rfl rfl ?_
  refine aw_iload_n (pc' := 8) dX12_plainTells_7 rfl rfl ?_
  obtain ⟨r2, s2, ec2, hf⟩ := bd_e hf
  refine aw_callVi (M' := mX12_carries) (nc' := 0) (ns' := 0) (pc' := 11) dX12_plainTells_8 rfl ml_RX12_478 kX12_carries (t_X12_carries H1 ec2) (H1.ob (H1.fo rfl rfl) (by decide)) rfl rfl rfl (Nat.le_of_ble_eq_true rfl) (rokD (by omega) (Nat.le_of_ble_eq_true rfl) (Nat.le_of_ble_eq_true rfl) (Nat.le_of_ble_eq_true rfl)) rfl rfl (fun _ h2 q2 => ?_)
  obtain ⟨rfl, H2, m2⟩ := q2
  refine aw_istore_n (lv' := [_, _, _, _]) (pc' := 12) dX12_plainTells_11 rfl (Nat.le_of_ble_eq_true rfl) rfl ?_
  refine aw_iload_n (pc' := 13) dX12_plainTells_12 rfl rfl ?_
  refine aw_aload_n (pc' := 14) dX12_plainTells_13 rfl rfl rfl ?_
  refine aw_iload_n (pc' := 15) dX12_plainTells_14 rfl rfl ?_
  refine aw_iconst (v := 1) (pc' := 16) dX12_plainTells_15 rfl (by decide) ?_
  obtain ⟨r3, s3, ec3, hf⟩ := bd_e hf
  refine aw_callVi (M' := mX12_holdsBy) (nc' := 0) (ns' := 0) (pc' := 19) dX12_plainTells_16 rfl ml_RX12_481 kX12_holdsBy (t_X12_holdsBy H2 ec3) (H2.ob (H2.fo rfl rfl) (by decide)) rfl rfl rfl (Nat.le_of_ble_eq_true rfl) (rokD (by omega) (Nat.le_of_ble_eq_true rfl) (Nat.le_of_ble_eq_true rfl) (Nat.le_of_ble_eq_true rfl)) rfl rfl (fun _ h3 q3 => ?_)
  obtain ⟨rfl, H3, m3⟩ := q3
  refine aw_iadd (pc' := 20) dX12_plainTells_19 rfl ?_
  obtain ⟨rfl, rfl⟩ := so2 hf
  exact aw_ri dX12_plainTells_20 rfl rfl (Nat.le_of_ble_eq_true rfl) (Nat.le_of_ble_eq_true rfl) ⟨rfl, H3, ((m1.tr m2).tr m3)⟩
/-! ThirtyThreeBelowModel.tells -/
def f_X12_tells (s0 : SS) (a0 : Int32) (a1 : Int32) : Option (Int32 × SS) := (gd (inB a0 120) (b1 (f_X12_isUnder (zI s0 62 (a0.toInt.toNat)) (4 : Int32)) fun r2 => (if r2 = (0 : Int32) then (bd (f_X12_plainTells s0 a0 a1) fun r4 s4 => some (r4, s4)) else (b1 (f_X12_ran s0 51) fun s5 => (bd (f_X12_plainTells s5 a0 a1) fun r6 s6 => some ((r6 * (3 : Int32)), s6))))))
set_option maxRecDepth 4000 in
theorem t_X12_tells {r9 : Int32} {s0 s9 : SS} {h0 : List aE} {a0 : Int32} {a1 : Int32} (H0 : HH s0 h0) (hf : f_X12_tells s0 a0 a1 = some (r9, s9)) : AM mX12_tells (9) [.ref 67, .int a0, .int a1] h0 0 0 (PI fun r' h' => r9 = r' ∧ HH s9 h' ∧ Mo s0 s9) := by
  unfold f_X12_tells at hf
  refine am_of (lv := [some (.ref 67), some (.int a0), some (.int a1)]) rfl (Nat.le_of_ble_eq_true rfl) rfl ?_
  refine aw_aload_n (pc' := 1) dX12_tells_0 rfl rfl rfl ?_
  refine aw_gr (q := 59) (e := 7) (v := .ref 70) (pc' := 4) H0 (H0.fo rfl rfl) (by decide) rfl rfl dX12_tells_1 rfl fl_RX12_17 ?_
  refine aw_iload_n (pc' := 5) dX12_tells_4 rfl rfl ?_
  obtain ⟨g1, hf⟩ := gd_e hf
  refine aw_ia (q := 62) (pc' := 6) H0 (H0.fa rfl rfl rfl) g1 dX12_tells_5 rfl ?_
  refine aw_iconst (v := 4) (pc' := 7) dX12_tells_6 rfl (by decide) ?_
  obtain ⟨r2, ec2, hf⟩ := b1_e hf
  refine aw_callSi (M' := mX12_isUnder) (nc' := 0) (ns' := 0) (pc' := 10) dX12_tells_7 rfl ml_RX12_248 kX12_isUnder (t_X12_isUnder ec2) rfl rfl (Nat.le_of_ble_eq_true rfl) (rokD (by omega) (Nat.le_of_ble_eq_true rfl) (Nat.le_of_ble_eq_true rfl) (Nat.le_of_ble_eq_true rfl)) rfl rfl (fun _ h2 q2 => ?_)
  obtain ⟨rfl, rfl, zb2⟩ := q2
  refine aw_if_eq (tgt := 28) (pc' := 13) dX12_tells_10 (by decide) rfl (fun c3 => ?_) (fun c3 => ?_)
  · replace hf := ifp c3 hf
    refine aw_aload_n (pc' := 29) dX12_tells_28 rfl rfl rfl ?_
    refine aw_iload_n (pc' := 30) dX12_tells_29 rfl rfl ?_
    refine aw_iload_n (pc' := 31) dX12_tells_30 rfl rfl ?_
    obtain ⟨r4, s4, ec4, hf⟩ := bd_e hf
    refine aw_callVi (M' := mX12_plainTells) (nc' := 0) (ns' := 0) (pc' := 34) dX12_tells_31 rfl ml_RX12_484 kX12_plainTells (t_X12_plainTells H0 ec4) (H0.ob (H0.fo rfl rfl) (by decide)) rfl rfl rfl (Nat.le_of_ble_eq_true rfl) (rokD (by omega) (Nat.le_of_ble_eq_true rfl) (Nat.le_of_ble_eq_true rfl) (Nat.le_of_ble_eq_true rfl)) rfl rfl (fun _ h4 q4 => ?_)
    obtain ⟨rfl, H4, m4⟩ := q4
    obtain ⟨rfl, rfl⟩ := so2 hf
    exact aw_ri dX12_tells_34 rfl rfl (Nat.le_of_ble_eq_true rfl) (Nat.le_of_ble_eq_true rfl) ⟨rfl, H4, m4⟩
  · replace hf := ifn c3 hf
    refine aw_aload_n (pc' := 14) dX12_tells_13 rfl rfl rfl ?_
    refine aw_bipush (v := 51) (pc' := 16) dX12_tells_14 rfl (by decide) ?_
    obtain ⟨s5, ec5, hf⟩ := b1_e hf
    refine aw_callVv (M' := mX12_ran) (nc' := 0) (ns' := 0) (pc' := 19) dX12_tells_16 rfl ml_RX12_456 kX12_ran (t_X12_ran H0 ec5) (H0.ob (H0.fo rfl rfl) (by decide)) rfl rfl rfl (Nat.le_of_ble_eq_true rfl) (rokD (by omega) (Nat.le_of_ble_eq_true rfl) (Nat.le_of_ble_eq_true rfl) (Nat.le_of_ble_eq_true rfl)) rfl rfl (fun h5 q5 => ?_)
    obtain ⟨H5, m5⟩ := q5
    refine aw_aload_n (pc' := 20) dX12_tells_19 rfl rfl rfl ?_
    refine aw_iload_n (pc' := 21) dX12_tells_20 rfl rfl ?_
    refine aw_iload_n (pc' := 22) dX12_tells_21 rfl rfl ?_
    obtain ⟨r6, s6, ec6, hf⟩ := bd_e hf
    refine aw_callVi (M' := mX12_plainTells) (nc' := 0) (ns' := 0) (pc' := 25) dX12_tells_22 rfl ml_RX12_484 kX12_plainTells (t_X12_plainTells H5 ec6) (H5.ob (H5.fo rfl rfl) (by decide)) rfl rfl rfl (Nat.le_of_ble_eq_true rfl) (rokD (by omega) (Nat.le_of_ble_eq_true rfl) (Nat.le_of_ble_eq_true rfl) (Nat.le_of_ble_eq_true rfl)) rfl rfl (fun _ h6 q6 => ?_)
    obtain ⟨rfl, H6, m6⟩ := q6
    refine aw_iconst (v := 3) (pc' := 26) dX12_tells_25 rfl (by decide) ?_
    refine aw_imul (pc' := 27) dX12_tells_26 rfl ?_
    obtain ⟨rfl, rfl⟩ := so2 hf
    exact aw_ri dX12_tells_27 rfl rfl (Nat.le_of_ble_eq_true rfl) (Nat.le_of_ble_eq_true rfl) ⟨rfl, H6, (m5.tr m6)⟩
/-! ThirtyThreeBelowModel.act -/
def f_X12_act (s0 : SS) (a0 : Int32) (a1 : Int32) (a2 : Int32) : Option (Int32 × SS) := (st (pS s0 59 87 0) fun s1 => (b1 (f_X12_isBody s1 a0) fun r2 => (if r2 = (0 : Int32) then some (0, s1) else (b1 (f_X12_in a1 (0 : Int32) (3 : Int32)) fun r4 => (if r4 = (0 : Int32) then some (0, s1) else (if a1 = (0 : Int32) then (bd (f_X12_bores s1 a0 a2) fun r12 s12 => some (r12, s12)) else (if a1 = (1 : Int32) then (bd (f_X12_carries s1 a0 a2) fun r11 s11 => some (r11, s11)) else (if a1 = (2 : Int32) then (bd (f_X12_holdsBy s1 a0 a2) fun r10 s10 => some (r10, s10)) else (bd (f_X12_tells s1 a0 a2) fun r9 s9 => some (r9, s9))))))))))
set_option maxRecDepth 4000 in
theorem t_X12_act {r9 : Int32} {s0 s9 : SS} {h0 : List aE} {a0 : Int32} {a1 : Int32} {a2 : Int32} (H0 : HH s0 h0) (hf : f_X12_act s0 a0 a1 a2 = some (r9, s9)) : AM mX12_act (10) [.ref 67, .int a0, .int a1, .int a2] h0 0 0 (PI fun r' h' => r9 = r' ∧ HH s9 h' ∧ Mo s0 s9) := by
  unfold f_X12_act at hf
  refine am_of (lv := [some (.ref 67), some (.int a0), some (.int a1), some (.int a2)]) rfl (Nat.le_of_ble_eq_true rfl) rfl ?_
  refine aw_aload_n (pc' := 1) dX12_act_0 rfl rfl rfl ?_
  refine aw_iconst (v := 0) (pc' := 2) dX12_act_1 rfl (by decide) ?_
  obtain ⟨s1, es1, hf⟩ := st_e hf
  refine aw_pi (q := 59) (pc' := 5) es1 H0 (H0.fo rfl rfl) (by decide) rfl dX12_act_2 rfl fl_RX12_453 rfl (fun h1 H1 => ?_)
  have m1 := Mo.ofS es1
  refine aw_aload_n (pc' := 6) dX12_act_5 rfl rfl rfl ?_
  refine aw_iload_n (pc' := 7) dX12_act_6 rfl rfl ?_
  obtain ⟨r2, ec2, hf⟩ := b1_e hf
  refine aw_callVi (M' := mX12_isBody) (nc' := 0) (ns' := 0) (pc' := 10) dX12_act_7 rfl ml_RX12_245 kX12_isBody (t_X12_isBody H1 ec2) (H1.ob (H1.fo rfl rfl) (by decide)) rfl rfl rfl (Nat.le_of_ble_eq_true rfl) (rokD (by omega) (Nat.le_of_ble_eq_true rfl) (Nat.le_of_ble_eq_true rfl) (Nat.le_of_ble_eq_true rfl)) rfl rfl (fun _ h2 q2 => ?_)
  obtain ⟨rfl, rfl, zb2⟩ := q2
  refine aw_if_eq (tgt := 22) (pc' := 13) dX12_act_10 (by decide) rfl (fun c3 => ?_) (fun c3 => ?_)
  · replace hf := ifp c3 hf
    refine aw_iconst (v := 0) (pc' := 23) dX12_act_22 rfl (by decide) ?_
    obtain ⟨rfl, rfl⟩ := so2 hf
    exact aw_ri dX12_act_23 rfl rfl (Nat.le_of_ble_eq_true rfl) (Nat.le_of_ble_eq_true rfl) ⟨rfl, H1, m1⟩
  · replace hf := ifn c3 hf
    refine aw_iload_n (pc' := 14) dX12_act_13 rfl rfl ?_
    refine aw_iconst (v := 0) (pc' := 15) dX12_act_14 rfl (by decide) ?_
    refine aw_iconst (v := 3) (pc' := 16) dX12_act_15 rfl (by decide) ?_
    obtain ⟨r4, ec4, hf⟩ := b1_e hf
    refine aw_callSi (M' := mX12_in) (nc' := 0) (ns' := 0) (pc' := 19) dX12_act_16 rfl ml_RX12_230 kX12_in (t_X12_in ec4) rfl rfl (Nat.le_of_ble_eq_true rfl) (rokD (by omega) (Nat.le_of_ble_eq_true rfl) (Nat.le_of_ble_eq_true rfl) (Nat.le_of_ble_eq_true rfl)) rfl rfl (fun _ h4 q4 => ?_)
    obtain ⟨rfl, rfl, zb4⟩ := q4
    refine aw_if_ne (tgt := 24) (pc' := 22) dX12_act_19 (by decide) rfl (fun c5 => ?_) (fun c5 => ?_)
    · replace hf := ifn c5 hf
      refine aw_iload_n (pc' := 25) dX12_act_24 rfl rfl ?_
      refine aw_if_ne (tgt := 37) (pc' := 28) dX12_act_25 (by decide) rfl (fun c6 => ?_) (fun c6 => ?_)
      · replace hf := ifn c6 hf
        refine aw_iload_n (pc' := 38) dX12_act_37 rfl rfl ?_
        refine aw_iconst (v := 1) (pc' := 39) dX12_act_38 rfl (by decide) ?_
        refine aw_icmp_ne (tgt := 51) (pc' := 42) dX12_act_39 (by decide) rfl (fun c7 => ?_) (fun c7 => ?_)
        · replace hf := ifn c7 hf
          refine aw_iload_n (pc' := 52) dX12_act_51 rfl rfl ?_
          refine aw_iconst (v := 2) (pc' := 53) dX12_act_52 rfl (by decide) ?_
          refine aw_icmp_ne (tgt := 65) (pc' := 56) dX12_act_53 (by decide) rfl (fun c8 => ?_) (fun c8 => ?_)
          · replace hf := ifn c8 hf
            refine aw_aload_n (pc' := 66) dX12_act_65 rfl rfl rfl ?_
            refine aw_iload_n (pc' := 67) dX12_act_66 rfl rfl ?_
            refine aw_iload_n (pc' := 68) dX12_act_67 rfl rfl ?_
            obtain ⟨r9, s9, ec9, hf⟩ := bd_e hf
            refine aw_callVi (M' := mX12_tells) (nc' := 0) (ns' := 0) (pc' := 71) dX12_act_68 rfl ml_RX12_487 kX12_tells (t_X12_tells H1 ec9) (H1.ob (H1.fo rfl rfl) (by decide)) rfl rfl rfl (Nat.le_of_ble_eq_true rfl) (rokD (by omega) (Nat.le_of_ble_eq_true rfl) (Nat.le_of_ble_eq_true rfl) (Nat.le_of_ble_eq_true rfl)) rfl rfl (fun _ h9 q9 => ?_)
            obtain ⟨rfl, H9, m9⟩ := q9
            obtain ⟨rfl, rfl⟩ := so2 hf
            exact aw_ri dX12_act_71 rfl rfl (Nat.le_of_ble_eq_true rfl) (Nat.le_of_ble_eq_true rfl) ⟨rfl, H9, (m1.tr m9)⟩
          · replace hf := ifp c8 hf
            refine aw_aload_n (pc' := 57) dX12_act_56 rfl rfl rfl ?_
            refine aw_iload_n (pc' := 58) dX12_act_57 rfl rfl ?_
            refine aw_iload_n (pc' := 59) dX12_act_58 rfl rfl ?_
            obtain ⟨r10, s10, ec10, hf⟩ := bd_e hf
            refine aw_callVi (M' := mX12_holdsBy) (nc' := 0) (ns' := 0) (pc' := 62) dX12_act_59 rfl ml_RX12_481 kX12_holdsBy (t_X12_holdsBy H1 ec10) (H1.ob (H1.fo rfl rfl) (by decide)) rfl rfl rfl (Nat.le_of_ble_eq_true rfl) (rokD (by omega) (Nat.le_of_ble_eq_true rfl) (Nat.le_of_ble_eq_true rfl) (Nat.le_of_ble_eq_true rfl)) rfl rfl (fun _ h10 q10 => ?_)
            obtain ⟨rfl, H10, m10⟩ := q10
            refine aw_goto (tgt := 71) dX12_act_62 (by decide) ?_
            obtain ⟨rfl, rfl⟩ := so2 hf
            exact aw_ri dX12_act_71 rfl rfl (Nat.le_of_ble_eq_true rfl) (Nat.le_of_ble_eq_true rfl) ⟨rfl, H10, (m1.tr m10)⟩
        · replace hf := ifp c7 hf
          refine aw_aload_n (pc' := 43) dX12_act_42 rfl rfl rfl ?_
          refine aw_iload_n (pc' := 44) dX12_act_43 rfl rfl ?_
          refine aw_iload_n (pc' := 45) dX12_act_44 rfl rfl ?_
          obtain ⟨r11, s11, ec11, hf⟩ := bd_e hf
          refine aw_callVi (M' := mX12_carries) (nc' := 0) (ns' := 0) (pc' := 48) dX12_act_45 rfl ml_RX12_478 kX12_carries (t_X12_carries H1 ec11) (H1.ob (H1.fo rfl rfl) (by decide)) rfl rfl rfl (Nat.le_of_ble_eq_true rfl) (rokD (by omega) (Nat.le_of_ble_eq_true rfl) (Nat.le_of_ble_eq_true rfl) (Nat.le_of_ble_eq_true rfl)) rfl rfl (fun _ h11 q11 => ?_)
          obtain ⟨rfl, H11, m11⟩ := q11
          refine aw_goto (tgt := 71) dX12_act_48 (by decide) ?_
          obtain ⟨rfl, rfl⟩ := so2 hf
          exact aw_ri dX12_act_71 rfl rfl (Nat.le_of_ble_eq_true rfl) (Nat.le_of_ble_eq_true rfl) ⟨rfl, H11, (m1.tr m11)⟩
      · replace hf := ifp c6 hf
        refine aw_aload_n (pc' := 29) dX12_act_28 rfl rfl rfl ?_
        refine aw_iload_n (pc' := 30) dX12_act_29 rfl rfl ?_
        refine aw_iload_n (pc' := 31) dX12_act_30 rfl rfl ?_
        obtain ⟨r12, s12, ec12, hf⟩ := bd_e hf
        refine aw_callVi (M' := mX12_bores) (nc' := 0) (ns' := 0) (pc' := 34) dX12_act_31 rfl ml_RX12_469 kX12_bores (t_X12_bores H1 ec12) (H1.ob (H1.fo rfl rfl) (by decide)) rfl rfl rfl (Nat.le_of_ble_eq_true rfl) (rokD (by omega) (Nat.le_of_ble_eq_true rfl) (Nat.le_of_ble_eq_true rfl) (Nat.le_of_ble_eq_true rfl)) rfl rfl (fun _ h12 q12 => ?_)
        obtain ⟨rfl, H12, m12⟩ := q12
        refine aw_goto (tgt := 71) dX12_act_34 (by decide) ?_
        obtain ⟨rfl, rfl⟩ := so2 hf
        exact aw_ri dX12_act_71 rfl rfl (Nat.le_of_ble_eq_true rfl) (Nat.le_of_ble_eq_true rfl) ⟨rfl, H12, (m1.tr m12)⟩
    · replace hf := ifp c5 hf
      refine aw_iconst (v := 0) (pc' := 23) dX12_act_22 rfl (by decide) ?_
      obtain ⟨rfl, rfl⟩ := so2 hf
      exact aw_ri dX12_act_23 rfl rfl (Nat.le_of_ble_eq_true rfl) (Nat.le_of_ble_eq_true rfl) ⟨rfl, H1, m1⟩
/-! ThirtyThreeBelowModel.trace -/
def f_X12_trace (s0 : SS) (a0 : Int32) : Option Int32 := (if a0 < (0 : Int32) then some (-1) else (if a0 < (zS s0 59 87) then (if a0 < (24 : Int32) then (gd (inB a0 24) some (zI s0 119 (a0.toInt.toNat))) else some (-1)) else some (-1)))
set_option maxRecDepth 4000 in
theorem t_X12_trace {r9 : Int32} {s0 : SS} {h0 : List aE} {a0 : Int32} (H0 : HH s0 h0) (hf : f_X12_trace s0 a0 = some r9) : AM mX12_trace (0) [.ref 67, .int a0] h0 0 0 (PI fun r' h' => r9 = r' ∧ h0 = h') := by
  unfold f_X12_trace at hf
  refine am_of (lv := [some (.ref 67), some (.int a0)]) rfl (Nat.le_of_ble_eq_true rfl) rfl ?_
  refine aw_iload_n (pc' := 1) dX12_trace_0 rfl rfl ?_
  refine aw_zlt (tgt := 27) (pc' := 4) dX12_trace_1 (by decide) rfl (fun c1 => ?_) (fun c1 => ?_)
  · replace hf := ifp c1 hf
    refine aw_iconst (v := (-1)) (pc' := 28) dX12_trace_27 rfl (by decide) ?_
    obtain rfl := Option.some.inj hf
    exact aw_ri dX12_trace_28 rfl rfl (Nat.le_of_ble_eq_true rfl) (Nat.le_of_ble_eq_true rfl) ⟨rfl, rfl⟩
  · replace hf := ifn c1 hf
    refine aw_iload_n (pc' := 5) dX12_trace_4 rfl rfl ?_
    refine aw_aload_n (pc' := 6) dX12_trace_5 rfl rfl rfl ?_
    refine aw_gi (q := 59) (pc' := 9) H0 (H0.fo rfl rfl) (by decide) rfl dX12_trace_6 rfl fl_RX12_453 ?_
    refine aw_cge (tgt := 27) (pc' := 12) dX12_trace_9 (by decide) rfl (fun c2 => ?_) (fun c2 => ?_)
    · replace hf := ifn c2 hf
      refine aw_iconst (v := (-1)) (pc' := 28) dX12_trace_27 rfl (by decide) ?_
      obtain rfl := Option.some.inj hf
      exact aw_ri dX12_trace_28 rfl rfl (Nat.le_of_ble_eq_true rfl) (Nat.le_of_ble_eq_true rfl) ⟨rfl, rfl⟩
    · replace hf := ifp c2 hf
      refine aw_iload_n (pc' := 13) dX12_trace_12 rfl rfl ?_
      refine aw_bipush (v := 24) (pc' := 15) dX12_trace_13 rfl (by decide) ?_
      refine aw_cge (tgt := 27) (pc' := 18) dX12_trace_15 (by decide) rfl (fun c3 => ?_) (fun c3 => ?_)
      · replace hf := ifn c3 hf
        refine aw_iconst (v := (-1)) (pc' := 28) dX12_trace_27 rfl (by decide) ?_
        obtain rfl := Option.some.inj hf
        exact aw_ri dX12_trace_28 rfl rfl (Nat.le_of_ble_eq_true rfl) (Nat.le_of_ble_eq_true rfl) ⟨rfl, rfl⟩
      · replace hf := ifp c3 hf
        refine aw_aload_n (pc' := 19) dX12_trace_18 rfl rfl rfl ?_
        refine aw_gr (q := 59) (e := 121) (v := .ref 127) (pc' := 22) H0 (H0.fo rfl rfl) (by decide) rfl rfl dX12_trace_19 rfl fl_RX12_205 ?_
        refine aw_iload_n (pc' := 23) dX12_trace_22 rfl rfl ?_
        obtain ⟨g4, hf⟩ := gd_e hf
        refine aw_ia (q := 119) (pc' := 24) H0 (H0.fa rfl rfl rfl) g4 dX12_trace_23 rfl ?_
        refine aw_goto (tgt := 28) dX12_trace_24 (by decide) ?_
        obtain rfl := Option.some.inj hf
        exact aw_ri dX12_trace_28 rfl rfl (Nat.le_of_ble_eq_true rfl) (Nat.le_of_ble_eq_true rfl) ⟨rfl, rfl⟩
/-! ThirtyThreeBelowModel.count -/
def f_X12_count_L71_b (s0 : SS) (rc : Int32 → Int32 → Option Int32) (x2 : Int32) (x3 : Int32) : Option Int32 := (if x3 < (zS s0 59 4) then (b1 (f_X12_isHole s0 x3) fun r4 => (jn (fun (t5_0 : Int32) => (vl ((x2 + t5_0)) fun v6 => (vl (x3 + 1) fun v7 => (rc v6 v7)))) fun k5 => (if r4 = (0 : Int32) then (k5 0) else (k5 1)))) else some x2)
def f_X12_count_L71 (s0 : SS) : Nat → Int32 → Int32 → Option Int32
  | 0, _, _ => none
  | n + 1, x2, x3 => f_X12_count_L71_b s0 (f_X12_count_L71 s0 n) x2 x3
set_option maxRecDepth 4000 in
theorem t_X12_count_L71 {r9 : Int32} {s0 : SS} {h0 : List aE} (H0 : HH s0 h0)  : ∀ (n : Nat) (x2 : Int32) (x3 : Int32), f_X12_count_L71 s0 n x2 x3 = some r9 → AW mX12_count (rmD (3) 0 0) (fin (PI fun r' h' => r9 = r' ∧ h0 = h') 0 0) 71 [some (.ref 67), none, some (.int x2), some (.int x3)] [] h0 0 0 := by
  intro n
  induction n with
  | zero =>
    intro x2 x3 hf
    cases hf
  | succ n ih =>
    intro x2 x3 hf
    replace hf : f_X12_count_L71_b s0 (f_X12_count_L71 s0 n) x2 x3 = some r9 := hf
    unfold f_X12_count_L71_b at hf
    refine aw_iload_n (pc' := 72) dX12_count_71 rfl rfl ?_
    refine aw_aload_n (pc' := 73) dX12_count_72 rfl rfl rfl ?_
    refine aw_gi (q := 59) (pc' := 76) H0 (H0.fo rfl rfl) (by decide) rfl dX12_count_73 rfl fl_RX12_242 ?_
    refine aw_cge (tgt := 101) (pc' := 79) dX12_count_76 (by decide) rfl (fun c3 => ?_) (fun c3 => ?_)
    · replace hf := ifn c3 hf
      refine aw_iload_n (pc' := 102) dX12_count_101 rfl rfl ?_
      obtain rfl := Option.some.inj hf
      exact aw_ri dX12_count_102 rfl rfl (Nat.le_of_ble_eq_true rfl) (Nat.le_of_ble_eq_true rfl) ⟨rfl, rfl⟩
    · replace hf := ifp c3 hf
      refine aw_iload_n (pc' := 80) dX12_count_79 rfl rfl ?_
      refine aw_aload_n (pc' := 81) dX12_count_80 rfl rfl rfl ?_
      refine aw_iload_n (pc' := 82) dX12_count_81 rfl rfl ?_
      obtain ⟨r4, ec4, hf⟩ := b1_e hf
      refine aw_callVi (M' := mX12_isHole) (nc' := 0) (ns' := 0) (pc' := 85) dX12_count_82 rfl ml_RX12_268 kX12_isHole (t_X12_isHole H0 ec4) (H0.ob (H0.fo rfl rfl) (by decide)) rfl rfl rfl (Nat.le_of_ble_eq_true rfl) (rokD (by omega) (Nat.le_of_ble_eq_true rfl) (Nat.le_of_ble_eq_true rfl) (Nat.le_of_ble_eq_true rfl)) rfl rfl (fun _ h4 q4 => ?_)
      obtain ⟨rfl, rfl, zb4⟩ := q4
      obtain ⟨k5, ek5, hf⟩ := jn_e hf
      have hk5 : ∀ (t5_0 : Int32), k5 t5_0 = some r9 → AW mX12_count (rmD (3) 0 0) (fin (PI fun r' h' => r9 = r' ∧ h0 = h') 0 0) 93 [some (.ref 67), none, none, some (.int x3)] [.int t5_0, .int x2] h0 0 0 := by
        intro t5_0 hf
        subst ek5
        refine aw_iadd (pc' := 94) dX12_count_93 rfl ?_
        obtain ⟨v6, ev6, hf⟩ := vl_e hf
        refine aw_topi ev6 ?_
        refine aw_istore_n (lv' := [_, _, _, _]) (pc' := 95) dX12_count_94 rfl (Nat.le_of_ble_eq_true rfl) rfl ?_
        obtain ⟨v7, ev7, hf⟩ := vl_e hf
        refine aw_iincV (y := v7) (lv' := [_, _, _, _]) (pc' := 98) dX12_count_95 rfl rfl (Nat.le_of_ble_eq_true rfl) ev7 rfl ?_
        refine aw_goto (tgt := 71) dX12_count_98 (by decide) ?_
        exact ih _ _ hf
      clear ek5
      refine aw_if_eq (tgt := 92) (pc' := 88) dX12_count_85 (by decide) rfl (fun c8 => ?_) (fun c8 => ?_)
      · replace hf := ifp c8 hf
        refine aw_iconst (v := 0) (pc' := 93) dX12_count_92 rfl (by decide) ?_
        refine AW.lv_le (lz_k (lz_d (lz_d (lz_k lz_0)))) ?_
        exact hk5 _ hf
      · replace hf := ifn c8 hf
        refine aw_iconst (v := 1) (pc' := 89) dX12_count_88 rfl (by decide) ?_
        refine aw_goto (tgt := 93) dX12_count_89 (by decide) ?_
        refine AW.lv_le (lz_k (lz_d (lz_d (lz_k lz_0)))) ?_
        exact hk5 _ hf
def f_X12_count_L105_b (s0 : SS) (rc : Int32 → Int32 → Option Int32) (x2 : Int32) (x3 : Int32) : Option Int32 := (if x3 < (zS s0 59 4) then (gd (inB x3 120) (jn (fun (t12_0 : Int32) => (vl ((x2 + t12_0)) fun v13 => (vl (x3 + 1) fun v14 => (rc v13 v14)))) fun k12 => (if (0 : Int32) < (zI s0 69 (x3.toInt.toNat)) then (k12 1) else (k12 0)))) else some x2)
def f_X12_count_L105 (s0 : SS) : Nat → Int32 → Int32 → Option Int32
  | 0, _, _ => none
  | n + 1, x2, x3 => f_X12_count_L105_b s0 (f_X12_count_L105 s0 n) x2 x3
set_option maxRecDepth 4000 in
theorem t_X12_count_L105 {r9 : Int32} {s0 : SS} {h0 : List aE} (H0 : HH s0 h0)  : ∀ (n : Nat) (x2 : Int32) (x3 : Int32), f_X12_count_L105 s0 n x2 x3 = some r9 → AW mX12_count (rmD (3) 0 0) (fin (PI fun r' h' => r9 = r' ∧ h0 = h') 0 0) 105 [some (.ref 67), none, some (.int x2), some (.int x3)] [] h0 0 0 := by
  intro n
  induction n with
  | zero =>
    intro x2 x3 hf
    cases hf
  | succ n ih =>
    intro x2 x3 hf
    replace hf : f_X12_count_L105_b s0 (f_X12_count_L105 s0 n) x2 x3 = some r9 := hf
    unfold f_X12_count_L105_b at hf
    refine aw_iload_n (pc' := 106) dX12_count_105 rfl rfl ?_
    refine aw_aload_n (pc' := 107) dX12_count_106 rfl rfl rfl ?_
    refine aw_gi (q := 59) (pc' := 110) H0 (H0.fo rfl rfl) (by decide) rfl dX12_count_107 rfl fl_RX12_242 ?_
    refine aw_cge (tgt := 136) (pc' := 113) dX12_count_110 (by decide) rfl (fun c10 => ?_) (fun c10 => ?_)
    · replace hf := ifn c10 hf
      refine aw_iload_n (pc' := 137) dX12_count_136 rfl rfl ?_
      obtain rfl := Option.some.inj hf
      exact aw_ri dX12_count_137 rfl rfl (Nat.le_of_ble_eq_true rfl) (Nat.le_of_ble_eq_true rfl) ⟨rfl, rfl⟩
    · replace hf := ifp c10 hf
      refine aw_iload_n (pc' := 114) dX12_count_113 rfl rfl ?_
      refine aw_aload_n (pc' := 115) dX12_count_114 rfl rfl rfl ?_
      refine aw_gr (q := 59) (e := 21) (v := .ref 77) (pc' := 118) H0 (H0.fo rfl rfl) (by decide) rfl rfl dX12_count_115 rfl fl_RX12_38 ?_
      refine aw_iload_n (pc' := 119) dX12_count_118 rfl rfl ?_
      obtain ⟨g11, hf⟩ := gd_e hf
      refine aw_ia (q := 69) (pc' := 120) H0 (H0.fa rfl rfl rfl) g11 dX12_count_119 rfl ?_
      obtain ⟨k12, ek12, hf⟩ := jn_e hf
      have hk12 : ∀ (t12_0 : Int32), k12 t12_0 = some r9 → AW mX12_count (rmD (3) 0 0) (fin (PI fun r' h' => r9 = r' ∧ h0 = h') 0 0) 128 [some (.ref 67), none, none, some (.int x3)] [.int t12_0, .int x2] h0 0 0 := by
        intro t12_0 hf
        subst ek12
        refine aw_iadd (pc' := 129) dX12_count_128 rfl ?_
        obtain ⟨v13, ev13, hf⟩ := vl_e hf
        refine aw_topi ev13 ?_
        refine aw_istore_n (lv' := [_, _, _, _]) (pc' := 130) dX12_count_129 rfl (Nat.le_of_ble_eq_true rfl) rfl ?_
        obtain ⟨v14, ev14, hf⟩ := vl_e hf
        refine aw_iincV (y := v14) (lv' := [_, _, _, _]) (pc' := 133) dX12_count_130 rfl rfl (Nat.le_of_ble_eq_true rfl) ev14 rfl ?_
        refine aw_goto (tgt := 105) dX12_count_133 (by decide) ?_
        exact ih _ _ hf
      clear ek12
      refine aw_zle (tgt := 127) (pc' := 123) dX12_count_120 (by decide) rfl (fun c15 => ?_) (fun c15 => ?_)
      · replace hf := ifn c15 hf
        refine aw_iconst (v := 0) (pc' := 128) dX12_count_127 rfl (by decide) ?_
        refine AW.lv_le (lz_k (lz_d (lz_d (lz_k lz_0)))) ?_
        exact hk12 _ hf
      · replace hf := ifp c15 hf
        refine aw_iconst (v := 1) (pc' := 124) dX12_count_123 rfl (by decide) ?_
        refine aw_goto (tgt := 128) dX12_count_124 (by decide) ?_
        refine AW.lv_le (lz_k (lz_d (lz_d (lz_k lz_0)))) ?_
        exact hk12 _ hf
def f_X12_count_L165_b (s0 : SS) (rc : Int32 → Int32 → Option Int32) (x2 : Int32) (x3 : Int32) : Option Int32 := (if x3 < (zS s0 59 4) then (gd (inB x3 120) (vl ((x2 + (zI s0 67 (x3.toInt.toNat)))) fun v25 => (vl (x3 + 1) fun v26 => (rc v25 v26)))) else some x2)
def f_X12_count_L165 (s0 : SS) : Nat → Int32 → Int32 → Option Int32
  | 0, _, _ => none
  | n + 1, x2, x3 => f_X12_count_L165_b s0 (f_X12_count_L165 s0 n) x2 x3
set_option maxRecDepth 4000 in
theorem t_X12_count_L165 {r9 : Int32} {s0 : SS} {h0 : List aE} (H0 : HH s0 h0)  : ∀ (n : Nat) (x2 : Int32) (x3 : Int32), f_X12_count_L165 s0 n x2 x3 = some r9 → AW mX12_count (rmD (3) 0 0) (fin (PI fun r' h' => r9 = r' ∧ h0 = h') 0 0) 165 [some (.ref 67), none, some (.int x2), some (.int x3)] [] h0 0 0 := by
  intro n
  induction n with
  | zero =>
    intro x2 x3 hf
    cases hf
  | succ n ih =>
    intro x2 x3 hf
    replace hf : f_X12_count_L165_b s0 (f_X12_count_L165 s0 n) x2 x3 = some r9 := hf
    unfold f_X12_count_L165_b at hf
    refine aw_iload_n (pc' := 166) dX12_count_165 rfl rfl ?_
    refine aw_aload_n (pc' := 167) dX12_count_166 rfl rfl rfl ?_
    refine aw_gi (q := 59) (pc' := 170) H0 (H0.fo rfl rfl) (by decide) rfl dX12_count_167 rfl fl_RX12_242 ?_
    refine aw_cge (tgt := 188) (pc' := 173) dX12_count_170 (by decide) rfl (fun c23 => ?_) (fun c23 => ?_)
    · replace hf := ifn c23 hf
      refine aw_iload_n (pc' := 189) dX12_count_188 rfl rfl ?_
      obtain rfl := Option.some.inj hf
      exact aw_ri dX12_count_189 rfl rfl (Nat.le_of_ble_eq_true rfl) (Nat.le_of_ble_eq_true rfl) ⟨rfl, rfl⟩
    · replace hf := ifp c23 hf
      refine aw_iload_n (pc' := 174) dX12_count_173 rfl rfl ?_
      refine aw_aload_n (pc' := 175) dX12_count_174 rfl rfl rfl ?_
      refine aw_gr (q := 59) (e := 17) (v := .ref 75) (pc' := 178) H0 (H0.fo rfl rfl) (by decide) rfl rfl dX12_count_175 rfl fl_RX12_32 ?_
      refine aw_iload_n (pc' := 179) dX12_count_178 rfl rfl ?_
      obtain ⟨g24, hf⟩ := gd_e hf
      refine aw_ia (q := 67) (pc' := 180) H0 (H0.fa rfl rfl rfl) g24 dX12_count_179 rfl ?_
      refine aw_iadd (pc' := 181) dX12_count_180 rfl ?_
      obtain ⟨v25, ev25, hf⟩ := vl_e hf
      refine aw_topi ev25 ?_
      refine aw_istore_n (lv' := [_, _, _, _]) (pc' := 182) dX12_count_181 rfl (Nat.le_of_ble_eq_true rfl) rfl ?_
      obtain ⟨v26, ev26, hf⟩ := vl_e hf
      refine aw_iincV (y := v26) (lv' := [_, _, _, _]) (pc' := 185) dX12_count_182 rfl rfl (Nat.le_of_ble_eq_true rfl) ev26 rfl ?_
      refine aw_goto (tgt := 165) dX12_count_185 (by decide) ?_
      exact ih _ _ hf
def f_X12_count (s0 : SS) (a0 : Int32) : Option Int32 := (if a0 = 0 then some (zS s0 59 4) else (if a0 = 1 then (f_X12_count_L71 s0 4000 0 0) else (if a0 = 2 then (f_X12_count_L105 s0 4000 0 0) else (if a0 = 3 then (b1 (f_X12_menBelow s0) fun r17 => some r17) else (if a0 = 4 then some (zS s0 59 1) else (if a0 = 5 then some (zS s0 59 30) else (if a0 = 6 then some (zS s0 59 38) else (if a0 = 7 then some (zS s0 59 37) else (if a0 = 8 then (f_X12_count_L165 s0 4000 0 0) else (if a0 = 9 then some (zS s0 59 55) else (if a0 = 10 then some (zS s0 59 62) else (if a0 = 11 then some (zS s0 59 87) else some (-1)))))))))))))
set_option maxRecDepth 4000 in
theorem t_X12_count {r9 : Int32} {s0 : SS} {h0 : List aE} {a0 : Int32} (H0 : HH s0 h0) (hf : f_X12_count s0 a0 = some r9) : AM mX12_count (3) [.ref 67, .int a0] h0 0 0 (PI fun r' h' => r9 = r' ∧ h0 = h') := by
  unfold f_X12_count at hf
  refine am_of (lv := [some (.ref 67), some (.int a0), none, none]) rfl (Nat.le_of_ble_eq_true rfl) rfl ?_
  refine aw_iconst (v := 0) (pc' := 1) dX12_count_0 rfl (by decide) ?_
  refine aw_istore_n (lv' := [_, _, _, _]) (pc' := 2) dX12_count_1 rfl (Nat.le_of_ble_eq_true rfl) rfl ?_
  refine aw_iload_n (pc' := 3) dX12_count_2 rfl rfl ?_
  rcases Decidable.em (a0 = 0) with c1 | c1
  · replace hf := ifp c1 hf
    refine aw_tabIn (tgt := 64) (off := 61) dX12_count_3 (by rw [c1]; decide) (by rw [c1]; decide) (by rw [c1]; decide) (by decide) ?_
    refine aw_aload_n (pc' := 65) dX12_count_64 rfl rfl rfl ?_
    refine aw_gi (q := 59) (pc' := 68) H0 (H0.fo rfl rfl) (by decide) rfl dX12_count_65 rfl fl_RX12_242 ?_
    obtain rfl := Option.some.inj hf
    exact aw_ri dX12_count_68 rfl rfl (Nat.le_of_ble_eq_true rfl) (Nat.le_of_ble_eq_true rfl) ⟨rfl, rfl⟩
  replace hf := ifn c1 hf
  rcases Decidable.em (a0 = 1) with c2 | c2
  · replace hf := ifp c2 hf
    refine aw_tabIn (tgt := 69) (off := 66) dX12_count_3 (by rw [c2]; decide) (by rw [c2]; decide) (by rw [c2]; decide) (by decide) ?_
    refine aw_iconst (v := 0) (pc' := 70) dX12_count_69 rfl (by decide) ?_
    refine aw_istore_n (lv' := [_, _, _, _]) (pc' := 71) dX12_count_70 rfl (Nat.le_of_ble_eq_true rfl) rfl ?_
    refine AW.lv_le (lz_k (lz_d (lz_k (lz_k lz_0)))) ?_
    refine t_X12_count_L71 H0  4000 _ _ hf
  replace hf := ifn c2 hf
  rcases Decidable.em (a0 = 2) with c9 | c9
  · replace hf := ifp c9 hf
    refine aw_tabIn (tgt := 103) (off := 100) dX12_count_3 (by rw [c9]; decide) (by rw [c9]; decide) (by rw [c9]; decide) (by decide) ?_
    refine aw_iconst (v := 0) (pc' := 104) dX12_count_103 rfl (by decide) ?_
    refine aw_istore_n (lv' := [_, _, _, _]) (pc' := 105) dX12_count_104 rfl (Nat.le_of_ble_eq_true rfl) rfl ?_
    refine AW.lv_le (lz_k (lz_d (lz_k (lz_k lz_0)))) ?_
    refine t_X12_count_L105 H0  4000 _ _ hf
  replace hf := ifn c9 hf
  rcases Decidable.em (a0 = 3) with c16 | c16
  · replace hf := ifp c16 hf
    refine aw_tabIn (tgt := 138) (off := 135) dX12_count_3 (by rw [c16]; decide) (by rw [c16]; decide) (by rw [c16]; decide) (by decide) ?_
    refine aw_aload_n (pc' := 139) dX12_count_138 rfl rfl rfl ?_
    obtain ⟨r17, ec17, hf⟩ := b1_e hf
    refine aw_callVi (M' := mX12_menBelow) (nc' := 0) (ns' := 0) (pc' := 142) dX12_count_139 rfl ml_RX12_394 kX12_menBelow (t_X12_menBelow H0 ec17) (H0.ob (H0.fo rfl rfl) (by decide)) rfl rfl rfl (Nat.le_of_ble_eq_true rfl) (rokD (by omega) (Nat.le_of_ble_eq_true rfl) (Nat.le_of_ble_eq_true rfl) (Nat.le_of_ble_eq_true rfl)) rfl rfl (fun _ h17 q17 => ?_)
    obtain ⟨rfl, rfl⟩ := q17
    obtain rfl := Option.some.inj hf
    exact aw_ri dX12_count_142 rfl rfl (Nat.le_of_ble_eq_true rfl) (Nat.le_of_ble_eq_true rfl) ⟨rfl, rfl⟩
  replace hf := ifn c16 hf
  rcases Decidable.em (a0 = 4) with c18 | c18
  · replace hf := ifp c18 hf
    refine aw_tabIn (tgt := 143) (off := 140) dX12_count_3 (by rw [c18]; decide) (by rw [c18]; decide) (by rw [c18]; decide) (by decide) ?_
    refine aw_aload_n (pc' := 144) dX12_count_143 rfl rfl rfl ?_
    refine aw_gi (q := 59) (pc' := 147) H0 (H0.fo rfl rfl) (by decide) rfl dX12_count_144 rfl fl_RX12_281 ?_
    obtain rfl := Option.some.inj hf
    exact aw_ri dX12_count_147 rfl rfl (Nat.le_of_ble_eq_true rfl) (Nat.le_of_ble_eq_true rfl) ⟨rfl, rfl⟩
  replace hf := ifn c18 hf
  rcases Decidable.em (a0 = 5) with c19 | c19
  · replace hf := ifp c19 hf
    refine aw_tabIn (tgt := 148) (off := 145) dX12_count_3 (by rw [c19]; decide) (by rw [c19]; decide) (by rw [c19]; decide) (by decide) ?_
    refine aw_aload_n (pc' := 149) dX12_count_148 rfl rfl rfl ?_
    refine aw_gi (q := 59) (pc' := 152) H0 (H0.fo rfl rfl) (by decide) rfl dX12_count_149 rfl fl_RX12_301 ?_
    obtain rfl := Option.some.inj hf
    exact aw_ri dX12_count_152 rfl rfl (Nat.le_of_ble_eq_true rfl) (Nat.le_of_ble_eq_true rfl) ⟨rfl, rfl⟩
  replace hf := ifn c19 hf
  rcases Decidable.em (a0 = 6) with c20 | c20
  · replace hf := ifp c20 hf
    refine aw_tabIn (tgt := 153) (off := 150) dX12_count_3 (by rw [c20]; decide) (by rw [c20]; decide) (by rw [c20]; decide) (by decide) ?_
    refine aw_aload_n (pc' := 154) dX12_count_153 rfl rfl rfl ?_
    refine aw_gi (q := 59) (pc' := 157) H0 (H0.fo rfl rfl) (by decide) rfl dX12_count_154 rfl fl_RX12_373 ?_
    obtain rfl := Option.some.inj hf
    exact aw_ri dX12_count_157 rfl rfl (Nat.le_of_ble_eq_true rfl) (Nat.le_of_ble_eq_true rfl) ⟨rfl, rfl⟩
  replace hf := ifn c20 hf
  rcases Decidable.em (a0 = 7) with c21 | c21
  · replace hf := ifp c21 hf
    refine aw_tabIn (tgt := 158) (off := 155) dX12_count_3 (by rw [c21]; decide) (by rw [c21]; decide) (by rw [c21]; decide) (by decide) ?_
    refine aw_aload_n (pc' := 159) dX12_count_158 rfl rfl rfl ?_
    refine aw_gi (q := 59) (pc' := 162) H0 (H0.fo rfl rfl) (by decide) rfl dX12_count_159 rfl fl_RX12_316 ?_
    obtain rfl := Option.some.inj hf
    exact aw_ri dX12_count_162 rfl rfl (Nat.le_of_ble_eq_true rfl) (Nat.le_of_ble_eq_true rfl) ⟨rfl, rfl⟩
  replace hf := ifn c21 hf
  rcases Decidable.em (a0 = 8) with c22 | c22
  · replace hf := ifp c22 hf
    refine aw_tabIn (tgt := 163) (off := 160) dX12_count_3 (by rw [c22]; decide) (by rw [c22]; decide) (by rw [c22]; decide) (by decide) ?_
    refine aw_iconst (v := 0) (pc' := 164) dX12_count_163 rfl (by decide) ?_
    refine aw_istore_n (lv' := [_, _, _, _]) (pc' := 165) dX12_count_164 rfl (Nat.le_of_ble_eq_true rfl) rfl ?_
    refine AW.lv_le (lz_k (lz_d (lz_k (lz_k lz_0)))) ?_
    refine t_X12_count_L165 H0  4000 _ _ hf
  replace hf := ifn c22 hf
  rcases Decidable.em (a0 = 9) with c27 | c27
  · replace hf := ifp c27 hf
    refine aw_tabIn (tgt := 190) (off := 187) dX12_count_3 (by rw [c27]; decide) (by rw [c27]; decide) (by rw [c27]; decide) (by decide) ?_
    refine aw_aload_n (pc' := 191) dX12_count_190 rfl rfl rfl ?_
    refine aw_gi (q := 59) (pc' := 194) H0 (H0.fo rfl rfl) (by decide) rfl dX12_count_191 rfl fl_RX12_412 ?_
    obtain rfl := Option.some.inj hf
    exact aw_ri dX12_count_194 rfl rfl (Nat.le_of_ble_eq_true rfl) (Nat.le_of_ble_eq_true rfl) ⟨rfl, rfl⟩
  replace hf := ifn c27 hf
  rcases Decidable.em (a0 = 10) with c28 | c28
  · replace hf := ifp c28 hf
    refine aw_tabIn (tgt := 195) (off := 192) dX12_count_3 (by rw [c28]; decide) (by rw [c28]; decide) (by rw [c28]; decide) (by decide) ?_
    refine aw_aload_n (pc' := 196) dX12_count_195 rfl rfl rfl ?_
    refine aw_gi (q := 59) (pc' := 199) H0 (H0.fo rfl rfl) (by decide) rfl dX12_count_196 rfl fl_RX12_428 ?_
    obtain rfl := Option.some.inj hf
    exact aw_ri dX12_count_199 rfl rfl (Nat.le_of_ble_eq_true rfl) (Nat.le_of_ble_eq_true rfl) ⟨rfl, rfl⟩
  replace hf := ifn c28 hf
  rcases Decidable.em (a0 = 11) with c29 | c29
  · replace hf := ifp c29 hf
    refine aw_tabIn (tgt := 200) (off := 197) dX12_count_3 (by rw [c29]; decide) (by rw [c29]; decide) (by rw [c29]; decide) (by decide) ?_
    refine aw_aload_n (pc' := 201) dX12_count_200 rfl rfl rfl ?_
    refine aw_gi (q := 59) (pc' := 204) H0 (H0.fo rfl rfl) (by decide) rfl dX12_count_201 rfl fl_RX12_453 ?_
    obtain rfl := Option.some.inj hf
    exact aw_ri dX12_count_204 rfl rfl (Nat.le_of_ble_eq_true rfl) (Nat.le_of_ble_eq_true rfl) ⟨rfl, rfl⟩
  replace hf := ifn c29 hf
  refine aw_tabOut (tgt := 205) dX12_count_3 (by have a0 := tneK (K := 0) (by decide) c1; have a1 := tneK (K := 1) (by decide) c2; have a2 := tneK (K := 2) (by decide) c9; have a3 := tneK (K := 3) (by decide) c16; have a4 := tneK (K := 4) (by decide) c18; have a5 := tneK (K := 5) (by decide) c19; have a6 := tneK (K := 6) (by decide) c20; have a7 := tneK (K := 7) (by decide) c21; have a8 := tneK (K := 8) (by decide) c22; have a9 := tneK (K := 9) (by decide) c27; have a10 := tneK (K := 10) (by decide) c28; have a11 := tneK (K := 11) (by decide) c29; omega) (by decide) ?_
  refine aw_iconst (v := (-1)) (pc' := 206) dX12_count_205 rfl (by decide) ?_
  obtain rfl := Option.some.inj hf
  exact aw_ri dX12_count_206 rfl rfl (Nat.le_of_ble_eq_true rfl) (Nat.le_of_ble_eq_true rfl) ⟨rfl, rfl⟩
/-! ThirtyThreeBelowModel.keep -/
def f_X12_keep (s0 : SS) (a0 : Int32) (a1 : Int32) : Option (Int32 × SS) := (b1 (f_X12_isShelf a0) fun r1 => (if r1 = (0 : Int32) then some ((-1), s0) else (jn ((gd (inB a0 6) (st (pI s0 120 (a0.toInt.toNat) a1) fun s5 => some (1, s5)))) fun k3 => (if a1 = ((-1) : Int32) then k3 else (b1 (f_X12_isBody s0 a1) fun r7 => (if r7 = (0 : Int32) then some ((-1), s0) else k3))))))
set_option maxRecDepth 4000 in
theorem t_X12_keep {r9 : Int32} {s0 s9 : SS} {h0 : List aE} {a0 : Int32} {a1 : Int32} (H0 : HH s0 h0) (hf : f_X12_keep s0 a0 a1 = some (r9, s9)) : AM mX12_keep (2) [.ref 67, .int a0, .int a1] h0 0 0 (PI fun r' h' => r9 = r' ∧ HH s9 h' ∧ Mo s0 s9) := by
  unfold f_X12_keep at hf
  refine am_of (lv := [some (.ref 67), some (.int a0), some (.int a1)]) rfl (Nat.le_of_ble_eq_true rfl) rfl ?_
  refine aw_iload_n (pc' := 1) dX12_keep_0 rfl rfl ?_
  obtain ⟨r1, ec1, hf⟩ := b1_e hf
  refine aw_callSi (M' := mX12_isShelf) (nc' := 0) (ns' := 0) (pc' := 4) dX12_keep_1 rfl ml_RX12_288 kX12_isShelf (t_X12_isShelf ec1) rfl rfl (Nat.le_of_ble_eq_true rfl) (rokD (by omega) (Nat.le_of_ble_eq_true rfl) (Nat.le_of_ble_eq_true rfl) (Nat.le_of_ble_eq_true rfl)) rfl rfl (fun _ h1 q1 => ?_)
  obtain ⟨rfl, rfl, zb1⟩ := q1
  refine aw_if_eq (tgt := 20) (pc' := 7) dX12_keep_4 (by decide) rfl (fun c2 => ?_) (fun c2 => ?_)
  · replace hf := ifp c2 hf
    refine aw_iconst (v := (-1)) (pc' := 21) dX12_keep_20 rfl (by decide) ?_
    obtain ⟨rfl, rfl⟩ := so2 hf
    exact aw_ri dX12_keep_21 rfl rfl (Nat.le_of_ble_eq_true rfl) (Nat.le_of_ble_eq_true rfl) ⟨rfl, H0, (Mo.rf _)⟩
  · replace hf := ifn c2 hf
    refine aw_iload_n (pc' := 8) dX12_keep_7 rfl rfl ?_
    refine aw_iconst (v := (-1)) (pc' := 9) dX12_keep_8 rfl (by decide) ?_
    obtain ⟨k3, ek3, hf⟩ := jn_e hf
    have hk3 : k3 = some (r9, s9) → AW mX12_keep (rmD (2) 0 0) (fin (PI fun r' h' => r9 = r' ∧ HH s9 h' ∧ Mo s0 s9) 0 0) 22 [some (.ref 67), some (.int a0), some (.int a1)] [] h0 0 0 := by
      intro hf
      subst ek3
      refine aw_aload_n (pc' := 23) dX12_keep_22 rfl rfl rfl ?_
      refine aw_gr (q := 59) (e := 123) (v := .ref 128) (pc' := 26) H0 (H0.fo rfl rfl) (by decide) rfl rfl dX12_keep_23 rfl fl_RX12_208 ?_
      refine aw_iload_n (pc' := 27) dX12_keep_26 rfl rfl ?_
      refine aw_iload_n (pc' := 28) dX12_keep_27 rfl rfl ?_
      obtain ⟨g4, hf⟩ := gd_e hf
      obtain ⟨s5, es5, hf⟩ := st_e hf
      refine aw_is (q := 120) (pc' := 29) es5 H0 (H0.fa rfl rfl rfl) g4 dX12_keep_28 rfl (fun h5 H5 => ?_)
      have m5 := Mo.ofI es5
      refine aw_iconst (v := 1) (pc' := 30) dX12_keep_29 rfl (by decide) ?_
      obtain ⟨rfl, rfl⟩ := so2 hf
      exact aw_ri dX12_keep_30 rfl rfl (Nat.le_of_ble_eq_true rfl) (Nat.le_of_ble_eq_true rfl) ⟨rfl, H5, m5⟩
    clear ek3
    refine aw_icmp_eq (tgt := 22) (pc' := 12) dX12_keep_9 (by decide) rfl (fun c6 => ?_) (fun c6 => ?_)
    · replace hf := ifp c6 hf
      exact hk3  hf
    · replace hf := ifn c6 hf
      refine aw_aload_n (pc' := 13) dX12_keep_12 rfl rfl rfl ?_
      refine aw_iload_n (pc' := 14) dX12_keep_13 rfl rfl ?_
      obtain ⟨r7, ec7, hf⟩ := b1_e hf
      refine aw_callVi (M' := mX12_isBody) (nc' := 0) (ns' := 0) (pc' := 17) dX12_keep_14 rfl ml_RX12_245 kX12_isBody (t_X12_isBody H0 ec7) (H0.ob (H0.fo rfl rfl) (by decide)) rfl rfl rfl (Nat.le_of_ble_eq_true rfl) (rokD (by omega) (Nat.le_of_ble_eq_true rfl) (Nat.le_of_ble_eq_true rfl) (Nat.le_of_ble_eq_true rfl)) rfl rfl (fun _ h7 q7 => ?_)
      obtain ⟨rfl, rfl, zb7⟩ := q7
      refine aw_if_ne (tgt := 22) (pc' := 20) dX12_keep_17 (by decide) rfl (fun c8 => ?_) (fun c8 => ?_)
      · replace hf := ifn c8 hf
        exact hk3  hf
      · replace hf := ifp c8 hf
        refine aw_iconst (v := (-1)) (pc' := 21) dX12_keep_20 rfl (by decide) ?_
        obtain ⟨rfl, rfl⟩ := so2 hf
        exact aw_ri dX12_keep_21 rfl rfl (Nat.le_of_ble_eq_true rfl) (Nat.le_of_ble_eq_true rfl) ⟨rfl, H0, (Mo.rf _)⟩
/-! ThirtyThreeBelowModel.row -/
def f_X12_row_L54_b (y1 : Int32) (rc : SS → Int32 → Option (Int32 × SS)) (s : SS) (x4 : Int32) : Option (Int32 × SS) := (if x4 < (((60 : Int32) * y1) + (60 : Int32)) then (gd (inB x4 360) (st (pJ s 122 (x4.toInt.toNat) 0) fun s15 => (gd (inB x4 360) (st (pI s15 123 (x4.toInt.toNat) ((0 : Int32) &&& 1)) fun s17 => (vl (x4 + 1) fun v18 => (rc s17 v18)))))) else some (1, s))
def f_X12_row_L54 (y1 : Int32) : Nat → SS → Int32 → Option (Int32 × SS)
  | 0, _, _ => none
  | n + 1, s, x4 => f_X12_row_L54_b y1 (f_X12_row_L54 y1 n) s x4
set_option maxRecDepth 4000 in
theorem t_X12_row_L54 {r9 : Int32} {s0 sb s9 : SS} {y1 : Int32} (mb : Mo s0 sb)  : ∀ (n : Nat) (s : SS) (h : List aE) (x4 : Int32), HH s h → Mo sb s → f_X12_row_L54 y1 n s x4 = some (r9, s9) → AW mX12_row (rmD (2) 0 0) (fin (PI fun r' h' => r9 = r' ∧ HH s9 h' ∧ Mo s0 s9) 0 0) 54 [some (.ref 67), some (.int y1), none, none, some (.int x4)] [] h 0 0 := by
  intro n
  induction n with
  | zero =>
    intro s h x4 H ms hf
    cases hf
  | succ n ih =>
    intro s h x4 H ms hf
    replace hf : f_X12_row_L54_b y1 (f_X12_row_L54 y1 n) s x4 = some (r9, s9) := hf
    unfold f_X12_row_L54_b at hf
    refine aw_iload (pc' := 56) dX12_row_54 rfl rfl ?_
    refine aw_bipush (v := 60) (pc' := 58) dX12_row_56 rfl (by decide) ?_
    refine aw_iload_n (pc' := 59) dX12_row_58 rfl rfl ?_
    refine aw_imul (pc' := 60) dX12_row_59 rfl ?_
    refine aw_bipush (v := 60) (pc' := 62) dX12_row_60 rfl (by decide) ?_
    refine aw_iadd (pc' := 63) dX12_row_62 rfl ?_
    refine aw_cge (tgt := 88) (pc' := 66) dX12_row_63 (by decide) rfl (fun c13 => ?_) (fun c13 => ?_)
    · replace hf := ifn c13 hf
      refine aw_iconst (v := 1) (pc' := 89) dX12_row_88 rfl (by decide) ?_
      obtain ⟨rfl, rfl⟩ := so2 hf
      exact aw_ri dX12_row_89 rfl rfl (Nat.le_of_ble_eq_true rfl) (Nat.le_of_ble_eq_true rfl) ⟨rfl, H, (mb.tr ms)⟩
    · replace hf := ifp c13 hf
      refine aw_aload_n (pc' := 67) dX12_row_66 rfl rfl rfl ?_
      refine aw_gr (q := 59) (e := 127) (v := .ref 130) (pc' := 70) H (H.fo rfl rfl) (by decide) rfl rfl dX12_row_67 rfl fl_RX12_214 ?_
      refine aw_iload (pc' := 72) dX12_row_70 rfl rfl ?_
      refine aw_lconst (v := 0) (pc' := 73) dX12_row_72 rfl (by decide) ?_
      obtain ⟨g14, hf⟩ := gd_e hf
      obtain ⟨s15, es15, hf⟩ := st_e hf
      refine aw_js (q := 122) (pc' := 74) es15 H (H.fa rfl rfl rfl) g14 dX12_row_73 rfl (fun h15 H15 => ?_)
      have m15 := Mo.ofJ es15
      refine aw_aload_n (pc' := 75) dX12_row_74 rfl rfl rfl ?_
      refine aw_gr (q := 59) (e := 129) (v := .ref 131) (pc' := 78) H15 (H15.fo rfl rfl) (by decide) rfl rfl dX12_row_75 rfl fl_RX12_218 ?_
      refine aw_iload (pc' := 80) dX12_row_78 rfl rfl ?_
      refine aw_iconst (v := 0) (pc' := 81) dX12_row_80 rfl (by decide) ?_
      obtain ⟨g16, hf⟩ := gd_e hf
      obtain ⟨s17, es17, hf⟩ := st_e hf
      refine aw_zs (q := 123) (pc' := 82) es17 H15 (H15.fa rfl rfl rfl) g16 dX12_row_81 rfl (fun h17 H17 => ?_)
      have m17 := Mo.ofI es17
      obtain ⟨v18, ev18, hf⟩ := vl_e hf
      refine aw_iincV (y := v18) (lv' := [_, _, _, _, _]) (pc' := 85) dX12_row_82 rfl rfl (Nat.le_of_ble_eq_true rfl) ev18 rfl ?_
      refine aw_goto (tgt := 54) dX12_row_85 (by decide) ?_
      exact ih _ _ _ H17 ((ms.tr m15).tr m17) hf
def f_X12_row (s0 : SS) (a0 : Int32) (a1 : Int32) (a2 : Int32) : Option (Int32 × SS) := (b1 (f_X12_isShelf a0) fun r1 => (if r1 = (0 : Int32) then some ((-1), s0) else (b1 (f_X12_in a1 (0 : Int32) (4 : Int32)) fun r3 => (if r3 = (0 : Int32) then some ((-1), s0) else (if (60 : Int32) < a2 then some ((-1), s0) else (if a2 < (0 : Int32) then some ((-14), s0) else (vl ((((-2) : Int32) - a1)) fun v7 => (gd (inB a0 6) (st (pI s0 120 (a0.toInt.toNat) v7) fun s9 => (gd (inB a0 6) (st (pI s9 121 (a0.toInt.toNat) a2) fun s11 => (vl (((60 : Int32) * a0)) fun v12 => (f_X12_row_L54 a0 4000 s11 v12)))))))))))))
set_option maxRecDepth 4000 in
theorem t_X12_row {r9 : Int32} {s0 s9 : SS} {h0 : List aE} {a0 : Int32} {a1 : Int32} {a2 : Int32} (H0 : HH s0 h0) (hf : f_X12_row s0 a0 a1 a2 = some (r9, s9)) : AM mX12_row (2) [.ref 67, .int a0, .int a1, .int a2] h0 0 0 (PI fun r' h' => r9 = r' ∧ HH s9 h' ∧ Mo s0 s9) := by
  unfold f_X12_row at hf
  refine am_of (lv := [some (.ref 67), some (.int a0), some (.int a1), some (.int a2), none]) rfl (Nat.le_of_ble_eq_true rfl) rfl ?_
  refine aw_iload_n (pc' := 1) dX12_row_0 rfl rfl ?_
  obtain ⟨r1, ec1, hf⟩ := b1_e hf
  refine aw_callSi (M' := mX12_isShelf) (nc' := 0) (ns' := 0) (pc' := 4) dX12_row_1 rfl ml_RX12_288 kX12_isShelf (t_X12_isShelf ec1) rfl rfl (Nat.le_of_ble_eq_true rfl) (rokD (by omega) (Nat.le_of_ble_eq_true rfl) (Nat.le_of_ble_eq_true rfl) (Nat.le_of_ble_eq_true rfl)) rfl rfl (fun _ h1 q1 => ?_)
  obtain ⟨rfl, rfl, zb1⟩ := q1
  refine aw_if_eq (tgt := 22) (pc' := 7) dX12_row_4 (by decide) rfl (fun c2 => ?_) (fun c2 => ?_)
  · replace hf := ifp c2 hf
    refine aw_iconst (v := (-1)) (pc' := 23) dX12_row_22 rfl (by decide) ?_
    obtain ⟨rfl, rfl⟩ := so2 hf
    exact aw_ri dX12_row_23 rfl rfl (Nat.le_of_ble_eq_true rfl) (Nat.le_of_ble_eq_true rfl) ⟨rfl, H0, (Mo.rf _)⟩
  · replace hf := ifn c2 hf
    refine aw_iload_n (pc' := 8) dX12_row_7 rfl rfl ?_
    refine aw_iconst (v := 0) (pc' := 9) dX12_row_8 rfl (by decide) ?_
    refine aw_iconst (v := 4) (pc' := 10) dX12_row_9 rfl (by decide) ?_
    obtain ⟨r3, ec3, hf⟩ := b1_e hf
    refine aw_callSi (M' := mX12_in) (nc' := 0) (ns' := 0) (pc' := 13) dX12_row_10 rfl ml_RX12_230 kX12_in (t_X12_in ec3) rfl rfl (Nat.le_of_ble_eq_true rfl) (rokD (by omega) (Nat.le_of_ble_eq_true rfl) (Nat.le_of_ble_eq_true rfl) (Nat.le_of_ble_eq_true rfl)) rfl rfl (fun _ h3 q3 => ?_)
    obtain ⟨rfl, rfl, zb3⟩ := q3
    refine aw_if_eq (tgt := 22) (pc' := 16) dX12_row_13 (by decide) rfl (fun c4 => ?_) (fun c4 => ?_)
    · replace hf := ifp c4 hf
      refine aw_iconst (v := (-1)) (pc' := 23) dX12_row_22 rfl (by decide) ?_
      obtain ⟨rfl, rfl⟩ := so2 hf
      exact aw_ri dX12_row_23 rfl rfl (Nat.le_of_ble_eq_true rfl) (Nat.le_of_ble_eq_true rfl) ⟨rfl, H0, (Mo.rf _)⟩
    · replace hf := ifn c4 hf
      refine aw_iload_n (pc' := 17) dX12_row_16 rfl rfl ?_
      refine aw_bipush (v := 60) (pc' := 19) dX12_row_17 rfl (by decide) ?_
      refine aw_cle (tgt := 24) (pc' := 22) dX12_row_19 (by decide) rfl (fun c5 => ?_) (fun c5 => ?_)
      · replace hf := ifn c5 hf
        refine aw_iload_n (pc' := 25) dX12_row_24 rfl rfl ?_
        refine aw_zge (tgt := 31) (pc' := 28) dX12_row_25 (by decide) rfl (fun c6 => ?_) (fun c6 => ?_)
        · replace hf := ifn c6 hf
          refine aw_aload_n (pc' := 32) dX12_row_31 rfl rfl rfl ?_
          refine aw_gr (q := 59) (e := 123) (v := .ref 128) (pc' := 35) H0 (H0.fo rfl rfl) (by decide) rfl rfl dX12_row_32 rfl fl_RX12_208 ?_
          refine aw_iload_n (pc' := 36) dX12_row_35 rfl rfl ?_
          refine aw_bipush (v := (-2)) (pc' := 38) dX12_row_36 rfl (by decide) ?_
          refine aw_iload_n (pc' := 39) dX12_row_38 rfl rfl ?_
          refine aw_isub (pc' := 40) dX12_row_39 rfl ?_
          obtain ⟨v7, ev7, hf⟩ := vl_e hf
          refine aw_topi ev7 ?_
          obtain ⟨g8, hf⟩ := gd_e hf
          obtain ⟨s9, es9, hf⟩ := st_e hf
          refine aw_is (q := 120) (pc' := 41) es9 H0 (H0.fa rfl rfl rfl) g8 dX12_row_40 rfl (fun h9 H9 => ?_)
          have m9 := Mo.ofI es9
          refine aw_aload_n (pc' := 42) dX12_row_41 rfl rfl rfl ?_
          refine aw_gr (q := 59) (e := 125) (v := .ref 129) (pc' := 45) H9 (H9.fo rfl rfl) (by decide) rfl rfl dX12_row_42 rfl fl_RX12_211 ?_
          refine aw_iload_n (pc' := 46) dX12_row_45 rfl rfl ?_
          refine aw_iload_n (pc' := 47) dX12_row_46 rfl rfl ?_
          obtain ⟨g10, hf⟩ := gd_e hf
          obtain ⟨s11, es11, hf⟩ := st_e hf
          refine aw_is (q := 121) (pc' := 48) es11 H9 (H9.fa rfl rfl rfl) g10 dX12_row_47 rfl (fun h11 H11 => ?_)
          have m11 := Mo.ofI es11
          refine aw_bipush (v := 60) (pc' := 50) dX12_row_48 rfl (by decide) ?_
          refine aw_iload_n (pc' := 51) dX12_row_50 rfl rfl ?_
          refine aw_imul (pc' := 52) dX12_row_51 rfl ?_
          obtain ⟨v12, ev12, hf⟩ := vl_e hf
          refine aw_topi ev12 ?_
          refine aw_istore (lv' := [_, _, _, _, _]) (pc' := 54) dX12_row_52 rfl (Nat.le_of_ble_eq_true rfl) rfl ?_
          refine AW.lv_le (lz_k (lz_k (lz_d (lz_d (lz_k lz_0))))) ?_
          refine t_X12_row_L54 (m9.tr m11)  4000 _ _ _ H11 (Mo.rf _) hf
        · replace hf := ifp c6 hf
          refine aw_bipush (v := (-14)) (pc' := 30) dX12_row_28 rfl (by decide) ?_
          obtain ⟨rfl, rfl⟩ := so2 hf
          exact aw_ri dX12_row_30 rfl rfl (Nat.le_of_ble_eq_true rfl) (Nat.le_of_ble_eq_true rfl) ⟨rfl, H0, (Mo.rf _)⟩
      · replace hf := ifp c5 hf
        refine aw_iconst (v := (-1)) (pc' := 23) dX12_row_22 rfl (by decide) ?_
        obtain ⟨rfl, rfl⟩ := so2 hf
        exact aw_ri dX12_row_23 rfl rfl (Nat.le_of_ble_eq_true rfl) (Nat.le_of_ble_eq_true rfl) ⟨rfl, H0, (Mo.rf _)⟩
/-! ThirtyThreeBelowModel.whyNoPlace -/
def f_X12_whyNoPlace (s0 : SS) (a0 : Int32) (a1 : Int32) : Option Int32 := (b1 (f_X12_isShelf a0) fun r1 => (if r1 = (0 : Int32) then some (-1) else (gd (inB a0 6) (if (zI s0 120 (a0.toInt.toNat)) = ((-1) : Int32) then some (-11) else (gd (inB a0 6) (if (zI s0 120 (a0.toInt.toNat)) < (0 : Int32) then (gd (inB a0 6) (b1 (f_X12_in a1 (0 : Int32) ((zI s0 121 (a0.toInt.toNat)) - (1 : Int32))) fun r8 => (if r8 = (0 : Int32) then some (-13) else some 0))) else some (-12)))))))
set_option maxRecDepth 4000 in
theorem t_X12_whyNoPlace {r9 : Int32} {s0 : SS} {h0 : List aE} {a0 : Int32} {a1 : Int32} (H0 : HH s0 h0) (hf : f_X12_whyNoPlace s0 a0 a1 = some r9) : AM mX12_whyNoPlace (2) [.ref 67, .int a0, .int a1] h0 0 0 (PI fun r' h' => r9 = r' ∧ h0 = h') := by
  unfold f_X12_whyNoPlace at hf
  refine am_of (lv := [some (.ref 67), some (.int a0), some (.int a1)]) rfl (Nat.le_of_ble_eq_true rfl) rfl ?_
  refine aw_iload_n (pc' := 1) dX12_whyNoPlace_0 rfl rfl ?_
  obtain ⟨r1, ec1, hf⟩ := b1_e hf
  refine aw_callSi (M' := mX12_isShelf) (nc' := 0) (ns' := 0) (pc' := 4) dX12_whyNoPlace_1 rfl ml_RX12_288 kX12_isShelf (t_X12_isShelf ec1) rfl rfl (Nat.le_of_ble_eq_true rfl) (rokD (by omega) (Nat.le_of_ble_eq_true rfl) (Nat.le_of_ble_eq_true rfl) (Nat.le_of_ble_eq_true rfl)) rfl rfl (fun _ h1 q1 => ?_)
  obtain ⟨rfl, rfl, zb1⟩ := q1
  refine aw_if_ne (tgt := 9) (pc' := 7) dX12_whyNoPlace_4 (by decide) rfl (fun c2 => ?_) (fun c2 => ?_)
  · replace hf := ifn c2 hf
    refine aw_aload_n (pc' := 10) dX12_whyNoPlace_9 rfl rfl rfl ?_
    refine aw_gr (q := 59) (e := 123) (v := .ref 128) (pc' := 13) H0 (H0.fo rfl rfl) (by decide) rfl rfl dX12_whyNoPlace_10 rfl fl_RX12_208 ?_
    refine aw_iload_n (pc' := 14) dX12_whyNoPlace_13 rfl rfl ?_
    obtain ⟨g3, hf⟩ := gd_e hf
    refine aw_ia (q := 120) (pc' := 15) H0 (H0.fa rfl rfl rfl) g3 dX12_whyNoPlace_14 rfl ?_
    refine aw_iconst (v := (-1)) (pc' := 16) dX12_whyNoPlace_15 rfl (by decide) ?_
    refine aw_icmp_ne (tgt := 22) (pc' := 19) dX12_whyNoPlace_16 (by decide) rfl (fun c4 => ?_) (fun c4 => ?_)
    · replace hf := ifn c4 hf
      refine aw_aload_n (pc' := 23) dX12_whyNoPlace_22 rfl rfl rfl ?_
      refine aw_gr (q := 59) (e := 123) (v := .ref 128) (pc' := 26) H0 (H0.fo rfl rfl) (by decide) rfl rfl dX12_whyNoPlace_23 rfl fl_RX12_208 ?_
      refine aw_iload_n (pc' := 27) dX12_whyNoPlace_26 rfl rfl ?_
      obtain ⟨g5, hf⟩ := gd_e hf
      refine aw_ia (q := 120) (pc' := 28) H0 (H0.fa rfl rfl rfl) g5 dX12_whyNoPlace_27 rfl ?_
      refine aw_zlt (tgt := 34) (pc' := 31) dX12_whyNoPlace_28 (by decide) rfl (fun c6 => ?_) (fun c6 => ?_)
      · replace hf := ifp c6 hf
        refine aw_iload_n (pc' := 35) dX12_whyNoPlace_34 rfl rfl ?_
        refine aw_iconst (v := 0) (pc' := 36) dX12_whyNoPlace_35 rfl (by decide) ?_
        refine aw_aload_n (pc' := 37) dX12_whyNoPlace_36 rfl rfl rfl ?_
        refine aw_gr (q := 59) (e := 125) (v := .ref 129) (pc' := 40) H0 (H0.fo rfl rfl) (by decide) rfl rfl dX12_whyNoPlace_37 rfl fl_RX12_211 ?_
        refine aw_iload_n (pc' := 41) dX12_whyNoPlace_40 rfl rfl ?_
        obtain ⟨g7, hf⟩ := gd_e hf
        refine aw_ia (q := 121) (pc' := 42) H0 (H0.fa rfl rfl rfl) g7 dX12_whyNoPlace_41 rfl ?_
        refine aw_iconst (v := 1) (pc' := 43) dX12_whyNoPlace_42 rfl (by decide) ?_
        refine aw_isub (pc' := 44) dX12_whyNoPlace_43 rfl ?_
        obtain ⟨r8, ec8, hf⟩ := b1_e hf
        refine aw_callSi (M' := mX12_in) (nc' := 0) (ns' := 0) (pc' := 47) dX12_whyNoPlace_44 rfl ml_RX12_230 kX12_in (t_X12_in ec8) rfl rfl (Nat.le_of_ble_eq_true rfl) (rokD (by omega) (Nat.le_of_ble_eq_true rfl) (Nat.le_of_ble_eq_true rfl) (Nat.le_of_ble_eq_true rfl)) rfl rfl (fun _ h8 q8 => ?_)
        obtain ⟨rfl, rfl, zb8⟩ := q8
        refine aw_if_eq (tgt := 54) (pc' := 50) dX12_whyNoPlace_47 (by decide) rfl (fun c9 => ?_) (fun c9 => ?_)
        · replace hf := ifp c9 hf
          refine aw_bipush (v := (-13)) (pc' := 56) dX12_whyNoPlace_54 rfl (by decide) ?_
          obtain rfl := Option.some.inj hf
          exact aw_ri dX12_whyNoPlace_56 rfl rfl (Nat.le_of_ble_eq_true rfl) (Nat.le_of_ble_eq_true rfl) ⟨rfl, rfl⟩
        · replace hf := ifn c9 hf
          refine aw_iconst (v := 0) (pc' := 51) dX12_whyNoPlace_50 rfl (by decide) ?_
          refine aw_goto (tgt := 56) dX12_whyNoPlace_51 (by decide) ?_
          obtain rfl := Option.some.inj hf
          exact aw_ri dX12_whyNoPlace_56 rfl rfl (Nat.le_of_ble_eq_true rfl) (Nat.le_of_ble_eq_true rfl) ⟨rfl, rfl⟩
      · replace hf := ifn c6 hf
        refine aw_bipush (v := (-12)) (pc' := 33) dX12_whyNoPlace_31 rfl (by decide) ?_
        obtain rfl := Option.some.inj hf
        exact aw_ri dX12_whyNoPlace_33 rfl rfl (Nat.le_of_ble_eq_true rfl) (Nat.le_of_ble_eq_true rfl) ⟨rfl, rfl⟩
    · replace hf := ifp c4 hf
      refine aw_bipush (v := (-11)) (pc' := 21) dX12_whyNoPlace_19 rfl (by decide) ?_
      obtain rfl := Option.some.inj hf
      exact aw_ri dX12_whyNoPlace_21 rfl rfl (Nat.le_of_ble_eq_true rfl) (Nat.le_of_ble_eq_true rfl) ⟨rfl, rfl⟩
  · replace hf := ifp c2 hf
    refine aw_iconst (v := (-1)) (pc' := 8) dX12_whyNoPlace_7 rfl (by decide) ?_
    obtain rfl := Option.some.inj hf
    exact aw_ri dX12_whyNoPlace_8 rfl rfl (Nat.le_of_ble_eq_true rfl) (Nat.le_of_ble_eq_true rfl) ⟨rfl, rfl⟩
