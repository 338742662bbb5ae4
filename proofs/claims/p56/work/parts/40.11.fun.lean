/-! ThirtyThreeBelowModel.worked -/
noncomputable def f_X12_worked_L12_b (q0 : SS → Option (Int32 × SS)) (y1 : Int32) (y3 : Int32) (rc : SS → Int32 → Int32 → Option (Int32 × SS)) (s : SS) (x4 : Int32) (x5 : Int32) : Option (Int32 × SS) := (if x5 < (((170 : Int32) * y1) + y3) then (gd (inB x5 2890) (vl ((zI s 93 (x5.toInt.toNat))) fun v4 => (jn (fun (s5 : SS) (j5_4 : Int32) => (vl (x5 + 1) fun v6 => (rc s5 j5_4 v6))) fun k5 => (jn ((jn (fun (t8_0 : Int32) => (gd (inB x4 170) (st (pI s 96 (x4.toInt.toNat) t8_0) fun s11 => (vl (x4 + 1) fun v12 => (k5 s11 v12))))) fun k8 => (if v4 = (1 : Int32) then (gd (inB x5 2890) (k8 (zI s 94 (x5.toInt.toNat)))) else (gd (inB x5 2890) (vl ((zI s 94 (x5.toInt.toNat))) fun v15 => (gd (inB v15 8) (k8 (zI s 95 (v15.toInt.toNat))))))))) fun k7 => (if v4 = (1 : Int32) then k7 else (if v4 = (2 : Int32) then k7 else (if v4 = (3 : Int32) then (vl ((x4 - (1 : Int32))) fun v36 => (gd (inB v36 170) (jn (fun (t38_0 : Int32) => (vl ((x4 - (1 : Int32))) fun v39 => (gd (inB v39 170) (st (pI s 96 (v39.toInt.toNat) t38_0) fun s41 => (k5 s41 x4))))) fun k38 => (if (zI s 96 (v36.toInt.toNat)) = (0 : Int32) then (k38 1) else (k38 0))))) else (if v4 = (4 : Int32) then (vl ((x4 - (1 : Int32))) fun v30 => (gd (inB v30 170) (vl ((-(zI s 96 (v30.toInt.toNat)))) fun v32 => (vl ((x4 - (1 : Int32))) fun v33 => (gd (inB v33 170) (st (pI s 96 (v33.toInt.toNat) v32) fun s35 => (k5 s35 x4))))))) else (vl (x4 + (-1)) fun v22 => (vl ((v22 - (1 : Int32))) fun v23 => (gd (inB v23 170) (gd (inB v22 170) (b1 (f_X12_both v4 (zI s 96 (v23.toInt.toNat)) (zI s 96 (v22.toInt.toNat))) fun r26 => (vl ((v22 - (1 : Int32))) fun v27 => (gd (inB v27 170) (st (pI s 96 (v27.toInt.toNat) r26) fun s29 => (k5 s29 v22))))))))))))))))) else (q0 s))
noncomputable def f_X12_worked_L12 (q0 : SS → Option (Int32 × SS)) (y1 : Int32) (y3 : Int32) : Nat → SS → Int32 → Int32 → Option (Int32 × SS)
  | 0, _, _, _ => none
  | n + 1, s, x4, x5 => f_X12_worked_L12_b q0 y1 y3 (f_X12_worked_L12 q0 y1 y3 n) s x4 x5
set_option maxRecDepth 4000 in
theorem t_X12_worked_L12 {r9 : Int32} {s0 sb s9 : SS} {q0 : SS → Option (Int32 × SS)} {y1 : Int32} {y3 : Int32} (mb : Mo s0 sb) (hq0 : ∀ (s : SS) (h : List aE), HH s h → Mo sb s → q0 s = some (r9, s9) → AW mX12_worked (rmD (1) 0 0) (fin (PI fun r' h' => r9 = r' ∧ HH s9 h' ∧ Mo s0 s9) 0 0) 188 [some (.ref 67), none, none, none, none, none, none] [] h 0 0) : ∀ (n : Nat) (s : SS) (h : List aE) (x4 : Int32) (x5 : Int32), HH s h → Mo sb s → f_X12_worked_L12 q0 y1 y3 n s x4 x5 = some (r9, s9) → AW mX12_worked (rmD (1) 0 0) (fin (PI fun r' h' => r9 = r' ∧ HH s9 h' ∧ Mo s0 s9) 0 0) 12 [some (.ref 67), some (.int y1), none, some (.int y3), some (.int x4), some (.int x5), none] [] h 0 0 := by
  intro n
  induction n with
  | zero =>
    intro s h x4 x5 H ms hf
    cases hf
  | succ n ih =>
    intro s h x4 x5 H ms hf
    replace hf : f_X12_worked_L12_b q0 y1 y3 (f_X12_worked_L12 q0 y1 y3 n) s x4 x5 = some (r9, s9) := hf
    unfold f_X12_worked_L12_b at hf
    refine aw_iload (pc' := 14) dX12_worked_12 rfl rfl ?_
    refine aw_sipush (v := 170) (pc' := 17) dX12_worked_14 rfl sp_170 ?_
    refine aw_iload_n (pc' := 18) dX12_worked_17 rfl rfl ?_
    refine aw_imul (pc' := 19) dX12_worked_18 rfl ?_
    refine aw_iload_n (pc' := 20) dX12_worked_19 rfl rfl ?_
    refine aw_iadd (pc' := 21) dX12_worked_20 rfl ?_
    refine aw_cge (tgt := 188) (pc' := 24) dX12_worked_21 rfl rfl (fun c2 => ?_) (fun c2 => ?_)
    · replace hf := ifn c2 hf
      refine AW.lv_le (lz_k (lz_d (lz_d (lz_d (lz_d (lz_d (lz_d lz_0))))))) ?_
      exact hq0 _ _ H ms hf
    · replace hf := ifp c2 hf
      refine aw_aload_n (pc' := 25) dX12_worked_24 rfl rfl rfl ?_
      refine aw_gr (q := 59) (e := 69) (v := .ref 101) (pc' := 28) H (H.fo rfl rfl) (by decide) rfl rfl dX12_worked_25 rfl fl_RX12_118 ?_
      refine aw_iload (pc' := 30) dX12_worked_28 rfl rfl ?_
      obtain ⟨g3, hf⟩ := gd_e hf
      refine aw_ia (q := 93) (pc' := 31) H (H.fa rfl rfl rfl) g3 dX12_worked_30 rfl ?_
      obtain ⟨v4, ev4, hf⟩ := vl_e hf
      refine aw_topi ev4 ?_
      refine aw_istore (lv' := [_, _, _, _, _, _, _]) (pc' := 33) dX12_worked_31 rfl (Nat.le_of_ble_eq_true rfl) rfl ?_
      refine aw_iload (pc' := 35) dX12_worked_33 rfl rfl ?_
      refine aw_iconst (v := 1) (pc' := 36) dX12_worked_35 rfl ic_1 ?_
      obtain ⟨k5, ek5, hf⟩ := jn_e hf
      have hk5 : ∀ (s5 : SS) (h5 : List aE) (j5_4 : Int32), HH s5 h5 → Mo s s5 → k5 s5 j5_4 = some (r9, s9) → AW mX12_worked (rmD (1) 0 0) (fin (PI fun r' h' => r9 = r' ∧ HH s9 h' ∧ Mo s0 s9) 0 0) 182 [some (.ref 67), some (.int y1), none, some (.int y3), some (.int j5_4), some (.int x5), none] [] h5 0 0 := by
        intro s5 h5 j5_4 H5 m5 hf
        subst ek5
        obtain ⟨v6, ev6, hf⟩ := vl_e hf
        refine aw_iincV (y := v6) (lv' := [_, _, _, _, _, _, _]) (pc' := 185) dX12_worked_182 rfl rfl (Nat.le_of_ble_eq_true rfl) ev6 rfl ?_
        refine aw_goto (tgt := 12) dX12_worked_185 rfl ?_
        exact ih _ _ _ _ H5 (ms.tr m5) hf
      clear ek5
      obtain ⟨k7, ek7, hf⟩ := jn_e hf
      have hk7 : k7 = some (r9, s9) → AW mX12_worked (rmD (1) 0 0) (fin (PI fun r' h' => r9 = r' ∧ HH s9 h' ∧ Mo s0 s9) 0 0) 45 [some (.ref 67), some (.int y1), none, some (.int y3), some (.int x4), some (.int x5), some (.int v4)] [] h 0 0 := by
        intro hf
        subst ek7
        refine aw_aload_n (pc' := 46) dX12_worked_45 rfl rfl rfl ?_
        refine aw_gr (q := 59) (e := 75) (v := .ref 104) (pc' := 49) H (H.fo rfl rfl) (by decide) rfl rfl dX12_worked_46 rfl fl_RX12_127 ?_
        refine aw_iload (pc' := 51) dX12_worked_49 rfl rfl ?_
        refine aw_iload (pc' := 53) dX12_worked_51 rfl rfl ?_
        refine aw_iconst (v := 1) (pc' := 54) dX12_worked_53 rfl ic_1 ?_
        obtain ⟨k8, ek8, hf⟩ := jn_e hf
        have hk8 : ∀ (t8_0 : Int32), k8 t8_0 = some (r9, s9) → AW mX12_worked (rmD (1) 0 0) (fin (PI fun r' h' => r9 = r' ∧ HH s9 h' ∧ Mo s0 s9) 0 0) 79 [some (.ref 67), some (.int y1), none, some (.int y3), some (.int x4), some (.int x5), none] [.int t8_0, .int x4, .ref 104] h 0 0 := by
          intro t8_0 hf
          subst ek8
          obtain ⟨g10, hf⟩ := gd_e hf
          obtain ⟨s11, es11, hf⟩ := st_e hf
          refine aw_is (q := 96) (pc' := 80) es11 H (H.fa rfl rfl rfl) g10 dX12_worked_79 rfl (fun h11 H11 => ?_)
          have m11 := Mo.ofI es11
          obtain ⟨v12, ev12, hf⟩ := vl_e hf
          refine aw_iincV (y := v12) (lv' := [_, _, _, _, _, _, _]) (pc' := 83) dX12_worked_80 rfl rfl (Nat.le_of_ble_eq_true rfl) ev12 rfl ?_
          refine aw_goto (tgt := 182) dX12_worked_83 rfl ?_
          exact hk5 _ _ _ H11 m11 hf
        clear ek8
        refine aw_icmp_ne (tgt := 67) (pc' := 57) dX12_worked_54 rfl rfl (fun c13 => ?_) (fun c13 => ?_)
        · replace hf := ifn c13 hf
          refine aw_aload_n (pc' := 68) dX12_worked_67 rfl rfl rfl ?_
          refine aw_gr (q := 59) (e := 73) (v := .ref 103) (pc' := 71) H (H.fo rfl rfl) (by decide) rfl rfl dX12_worked_68 rfl fl_RX12_124 ?_
          refine aw_aload_n (pc' := 72) dX12_worked_71 rfl rfl rfl ?_
          refine aw_gr (q := 59) (e := 71) (v := .ref 102) (pc' := 75) H (H.fo rfl rfl) (by decide) rfl rfl dX12_worked_72 rfl fl_RX12_121 ?_
          refine aw_iload (pc' := 77) dX12_worked_75 rfl rfl ?_
          obtain ⟨g14, hf⟩ := gd_e hf
          refine aw_ia (q := 94) (pc' := 78) H (H.fa rfl rfl rfl) g14 dX12_worked_77 rfl ?_
          obtain ⟨v15, ev15, hf⟩ := vl_e hf
          refine aw_topi ev15 ?_
          obtain ⟨g16, hf⟩ := gd_e hf
          refine aw_ia (q := 95) (pc' := 79) H (H.fa rfl rfl rfl) g16 dX12_worked_78 rfl ?_
          refine AW.lv_le (lz_k (lz_k (lz_d (lz_k (lz_k (lz_k (lz_d lz_0))))))) ?_
          exact hk8 _ hf
        · replace hf := ifp c13 hf
          refine aw_aload_n (pc' := 58) dX12_worked_57 rfl rfl rfl ?_
          refine aw_gr (q := 59) (e := 71) (v := .ref 102) (pc' := 61) H (H.fo rfl rfl) (by decide) rfl rfl dX12_worked_58 rfl fl_RX12_121 ?_
          refine aw_iload (pc' := 63) dX12_worked_61 rfl rfl ?_
          obtain ⟨g17, hf⟩ := gd_e hf
          refine aw_ia (q := 94) (pc' := 64) H (H.fa rfl rfl rfl) g17 dX12_worked_63 rfl ?_
          refine aw_goto (tgt := 79) dX12_worked_64 rfl ?_
          refine AW.lv_le (lz_k (lz_k (lz_d (lz_k (lz_k (lz_k (lz_d lz_0))))))) ?_
          exact hk8 _ hf
      clear ek7
      refine aw_icmp_eq (tgt := 45) (pc' := 39) dX12_worked_36 rfl rfl (fun c18 => ?_) (fun c18 => ?_)
      · replace hf := ifp c18 hf
        exact hk7  hf
      · replace hf := ifn c18 hf
        refine aw_iload (pc' := 41) dX12_worked_39 rfl rfl ?_
        refine aw_iconst (v := 2) (pc' := 42) dX12_worked_41 rfl ic_2 ?_
        refine aw_icmp_ne (tgt := 86) (pc' := 45) dX12_worked_42 rfl rfl (fun c19 => ?_) (fun c19 => ?_)
        · replace hf := ifn c19 hf
          refine aw_iload (pc' := 88) dX12_worked_86 rfl rfl ?_
          refine aw_iconst (v := 3) (pc' := 89) dX12_worked_88 rfl ic_3 ?_
          refine aw_icmp_ne (tgt := 121) (pc' := 92) dX12_worked_89 rfl rfl (fun c20 => ?_) (fun c20 => ?_)
          · replace hf := ifn c20 hf
            refine aw_iload (pc' := 123) dX12_worked_121 rfl rfl ?_
            refine aw_iconst (v := 4) (pc' := 124) dX12_worked_123 rfl ic_4 ?_
            refine aw_icmp_ne (tgt := 149) (pc' := 127) dX12_worked_124 rfl rfl (fun c21 => ?_) (fun c21 => ?_)
            · replace hf := ifn c21 hf
              obtain ⟨v22, ev22, hf⟩ := vl_e hf
              refine aw_iincV (y := v22) (lv' := [_, _, _, _, _, _, _]) (pc' := 152) dX12_worked_149 rfl rfl (Nat.le_of_ble_eq_true rfl) ev22 rfl ?_
              refine aw_aload_n (pc' := 153) dX12_worked_152 rfl rfl rfl ?_
              refine aw_gr (q := 59) (e := 75) (v := .ref 104) (pc' := 156) H (H.fo rfl rfl) (by decide) rfl rfl dX12_worked_153 rfl fl_RX12_127 ?_
              refine aw_iload (pc' := 158) dX12_worked_156 rfl rfl ?_
              refine aw_iconst (v := 1) (pc' := 159) dX12_worked_158 rfl ic_1 ?_
              refine aw_isub (pc' := 160) dX12_worked_159 rfl ?_
              refine aw_iload (pc' := 162) dX12_worked_160 rfl rfl ?_
              refine aw_aload_n (pc' := 163) dX12_worked_162 rfl rfl rfl ?_
              refine aw_gr (q := 59) (e := 75) (v := .ref 104) (pc' := 166) H (H.fo rfl rfl) (by decide) rfl rfl dX12_worked_163 rfl fl_RX12_127 ?_
              refine aw_iload (pc' := 168) dX12_worked_166 rfl rfl ?_
              refine aw_iconst (v := 1) (pc' := 169) dX12_worked_168 rfl ic_1 ?_
              refine aw_isub (pc' := 170) dX12_worked_169 rfl ?_
              obtain ⟨v23, ev23, hf⟩ := vl_e hf
              refine aw_topi ev23 ?_
              obtain ⟨g24, hf⟩ := gd_e hf
              refine aw_ia (q := 96) (pc' := 171) H (H.fa rfl rfl rfl) g24 dX12_worked_170 rfl ?_
              refine aw_aload_n (pc' := 172) dX12_worked_171 rfl rfl rfl ?_
              refine aw_gr (q := 59) (e := 75) (v := .ref 104) (pc' := 175) H (H.fo rfl rfl) (by decide) rfl rfl dX12_worked_172 rfl fl_RX12_127 ?_
              refine aw_iload (pc' := 177) dX12_worked_175 rfl rfl ?_
              obtain ⟨g25, hf⟩ := gd_e hf
              refine aw_ia (q := 96) (pc' := 178) H (H.fa rfl rfl rfl) g25 dX12_worked_177 rfl ?_
              obtain ⟨r26, ec26, hf⟩ := b1_e hf
              refine aw_callSi (M' := mX12_both) (nc' := 0) (ns' := 0) (pc' := 181) dX12_worked_178 rfl ml_RX12_388 kX12_both (t_X12_both ec26) rfl rfl (Nat.le_of_ble_eq_true rfl) (rokD (by omega) (Nat.le_of_ble_eq_true rfl) (Nat.le_of_ble_eq_true rfl) (Nat.le_of_ble_eq_true rfl)) rfl rfl (fun _ h26 q26 => ?_)
              obtain ⟨rfl, rfl⟩ := q26
              obtain ⟨v27, ev27, hf⟩ := vl_e hf
              refine aw_sndi ev27 ?_
              obtain ⟨g28, hf⟩ := gd_e hf
              obtain ⟨s29, es29, hf⟩ := st_e hf
              refine aw_is (q := 96) (pc' := 182) es29 H (H.fa rfl rfl rfl) g28 dX12_worked_181 rfl (fun h29 H29 => ?_)
              have m29 := Mo.ofI es29
              refine AW.lv_le (lz_k (lz_k (lz_d (lz_k (lz_k (lz_k (lz_d lz_0))))))) ?_
              exact hk5 _ _ _ H29 m29 hf
            · replace hf := ifp c21 hf
              refine aw_aload_n (pc' := 128) dX12_worked_127 rfl rfl rfl ?_
              refine aw_gr (q := 59) (e := 75) (v := .ref 104) (pc' := 131) H (H.fo rfl rfl) (by decide) rfl rfl dX12_worked_128 rfl fl_RX12_127 ?_
              refine aw_iload (pc' := 133) dX12_worked_131 rfl rfl ?_
              refine aw_iconst (v := 1) (pc' := 134) dX12_worked_133 rfl ic_1 ?_
              refine aw_isub (pc' := 135) dX12_worked_134 rfl ?_
              refine aw_aload_n (pc' := 136) dX12_worked_135 rfl rfl rfl ?_
              refine aw_gr (q := 59) (e := 75) (v := .ref 104) (pc' := 139) H (H.fo rfl rfl) (by decide) rfl rfl dX12_worked_136 rfl fl_RX12_127 ?_
              refine aw_iload (pc' := 141) dX12_worked_139 rfl rfl ?_
              refine aw_iconst (v := 1) (pc' := 142) dX12_worked_141 rfl ic_1 ?_
              refine aw_isub (pc' := 143) dX12_worked_142 rfl ?_
              obtain ⟨v30, ev30, hf⟩ := vl_e hf
              refine aw_topi ev30 ?_
              obtain ⟨g31, hf⟩ := gd_e hf
              refine aw_ia (q := 96) (pc' := 144) H (H.fa rfl rfl rfl) g31 dX12_worked_143 rfl ?_
              refine aw_ineg (pc' := 145) dX12_worked_144 rfl ?_
              obtain ⟨v32, ev32, hf⟩ := vl_e hf
              refine aw_topi ev32 ?_
              obtain ⟨v33, ev33, hf⟩ := vl_e hf
              refine aw_sndi ev33 ?_
              obtain ⟨g34, hf⟩ := gd_e hf
              obtain ⟨s35, es35, hf⟩ := st_e hf
              refine aw_is (q := 96) (pc' := 146) es35 H (H.fa rfl rfl rfl) g34 dX12_worked_145 rfl (fun h35 H35 => ?_)
              have m35 := Mo.ofI es35
              refine aw_goto (tgt := 182) dX12_worked_146 rfl ?_
              refine AW.lv_le (lz_k (lz_k (lz_d (lz_k (lz_k (lz_k (lz_d lz_0))))))) ?_
              exact hk5 _ _ _ H35 m35 hf
          · replace hf := ifp c20 hf
            refine aw_aload_n (pc' := 93) dX12_worked_92 rfl rfl rfl ?_
            refine aw_gr (q := 59) (e := 75) (v := .ref 104) (pc' := 96) H (H.fo rfl rfl) (by decide) rfl rfl dX12_worked_93 rfl fl_RX12_127 ?_
            refine aw_iload (pc' := 98) dX12_worked_96 rfl rfl ?_
            refine aw_iconst (v := 1) (pc' := 99) dX12_worked_98 rfl ic_1 ?_
            refine aw_isub (pc' := 100) dX12_worked_99 rfl ?_
            refine aw_aload_n (pc' := 101) dX12_worked_100 rfl rfl rfl ?_
            refine aw_gr (q := 59) (e := 75) (v := .ref 104) (pc' := 104) H (H.fo rfl rfl) (by decide) rfl rfl dX12_worked_101 rfl fl_RX12_127 ?_
            refine aw_iload (pc' := 106) dX12_worked_104 rfl rfl ?_
            refine aw_iconst (v := 1) (pc' := 107) dX12_worked_106 rfl ic_1 ?_
            refine aw_isub (pc' := 108) dX12_worked_107 rfl ?_
            obtain ⟨v36, ev36, hf⟩ := vl_e hf
            refine aw_topi ev36 ?_
            obtain ⟨g37, hf⟩ := gd_e hf
            refine aw_ia (q := 96) (pc' := 109) H (H.fa rfl rfl rfl) g37 dX12_worked_108 rfl ?_
            obtain ⟨k38, ek38, hf⟩ := jn_e hf
            have hk38 : ∀ (t38_0 : Int32), k38 t38_0 = some (r9, s9) → AW mX12_worked (rmD (1) 0 0) (fin (PI fun r' h' => r9 = r' ∧ HH s9 h' ∧ Mo s0 s9) 0 0) 117 [some (.ref 67), some (.int y1), none, some (.int y3), some (.int x4), some (.int x5), none] [.int t38_0, .int (x4 - (1 : Int32)), .ref 104] h 0 0 := by
              intro t38_0 hf
              subst ek38
              obtain ⟨v39, ev39, hf⟩ := vl_e hf
              refine aw_sndi ev39 ?_
              obtain ⟨g40, hf⟩ := gd_e hf
              obtain ⟨s41, es41, hf⟩ := st_e hf
              refine aw_is (q := 96) (pc' := 118) es41 H (H.fa rfl rfl rfl) g40 dX12_worked_117 rfl (fun h41 H41 => ?_)
              have m41 := Mo.ofI es41
              refine aw_goto (tgt := 182) dX12_worked_118 rfl ?_
              exact hk5 _ _ _ H41 m41 hf
            clear ek38
            refine aw_if_ne (tgt := 116) (pc' := 112) dX12_worked_109 rfl rfl (fun c42 => ?_) (fun c42 => ?_)
            · replace hf := ifn c42 hf
              refine aw_iconst (v := 0) (pc' := 117) dX12_worked_116 rfl ic_0 ?_
              refine AW.lv_le (lz_k (lz_k (lz_d (lz_k (lz_k (lz_k (lz_d lz_0))))))) ?_
              exact hk38 _ hf
            · replace hf := ifp c42 hf
              refine aw_iconst (v := 1) (pc' := 113) dX12_worked_112 rfl ic_1 ?_
              refine aw_goto (tgt := 117) dX12_worked_113 rfl ?_
              refine AW.lv_le (lz_k (lz_k (lz_d (lz_k (lz_k (lz_k (lz_d lz_0))))))) ?_
              exact hk38 _ hf
        · replace hf := ifp c19 hf
          exact hk7  hf
noncomputable def f_X12_worked (s0 : SS) (a0 : Int32) (a1 : Int32) (a2 : Int32) : Option (Int32 × SS) := (vl ((((170 : Int32) * a0) + a1)) fun v1 => (f_X12_worked_L12 (fun (s43 : SS)  => some ((zI s43 96 ((0 : Int32).toInt.toNat)), s43)) a0 a2 4000 s0 0 v1))
set_option maxRecDepth 4000 in
theorem t_X12_worked {r9 : Int32} {s0 s9 : SS} {h0 : List aE} {a0 : Int32} {a1 : Int32} {a2 : Int32} (H0 : HH s0 h0) (hf : f_X12_worked s0 a0 a1 a2 = some (r9, s9)) : AM mX12_worked (1) [.ref 67, .int a0, .int a1, .int a2] h0 0 0 (PI fun r' h' => r9 = r' ∧ HH s9 h' ∧ Mo s0 s9) := by
  unfold f_X12_worked at hf
  refine am_of (lv := [some (.ref 67), some (.int a0), some (.int a1), some (.int a2), none, none, none]) rfl (Nat.le_of_ble_eq_true rfl) rfl ?_
  refine aw_iconst (v := 0) (pc' := 1) dX12_worked_0 rfl ic_0 ?_
  refine aw_istore (lv' := [_, _, _, _, _, _, _]) (pc' := 3) dX12_worked_1 rfl (Nat.le_of_ble_eq_true rfl) rfl ?_
  refine aw_sipush (v := 170) (pc' := 6) dX12_worked_3 rfl sp_170 ?_
  refine aw_iload_n (pc' := 7) dX12_worked_6 rfl rfl ?_
  refine aw_imul (pc' := 8) dX12_worked_7 rfl ?_
  refine aw_iload_n (pc' := 9) dX12_worked_8 rfl rfl ?_
  refine aw_iadd (pc' := 10) dX12_worked_9 rfl ?_
  obtain ⟨v1, ev1, hf⟩ := vl_e hf
  refine aw_topi ev1 ?_
  refine aw_istore (lv' := [_, _, _, _, _, _, _]) (pc' := 12) dX12_worked_10 rfl (Nat.le_of_ble_eq_true rfl) rfl ?_
  refine AW.lv_le (lz_k (lz_k (lz_d (lz_k (lz_k (lz_k (lz_d lz_0))))))) ?_
  refine t_X12_worked_L12 (Mo.rf _) (fun s43 h43 H43 m43 hf => ?_) 4000 _ _ _ _ H0 (Mo.rf _) hf
  refine aw_aload_n (pc' := 189) dX12_worked_188 rfl rfl rfl ?_
  refine aw_gr (q := 59) (e := 75) (v := .ref 104) (pc' := 192) H43 (H43.fo rfl rfl) (l13 rfl) rfl rfl dX12_worked_189 rfl fl_RX12_127 ?_
  refine aw_iconst (v := 0) (pc' := 193) dX12_worked_192 rfl ic_0 ?_
  refine aw_ia (q := 96) (pc' := 194) H43 (H43.fa rfl rfl rfl) (by decide) dX12_worked_193 rfl ?_
  obtain ⟨rfl, rfl⟩ := so2 hf
  exact aw_ri dX12_worked_194 rfl rfl (Nat.le_of_ble_eq_true rfl) (Nat.le_of_ble_eq_true rfl) ⟨rfl, H43, m43⟩
/-! ThirtyThreeBelowModel.gives -/
noncomputable def f_X12_gives_L4_b (q0 : SS → Int32 → Option (Int32 × SS)) (y1 : Int32) (rc : SS → Int32 → Int32 → Option (Int32 × SS)) (s : SS) (x2 : Int32) (x3 : Int32) : Option (Int32 × SS) := (gd (inB y1 17) (if x3 < (zI s 90 (y1.toInt.toNat)) then (vl ((((90 : Int32) * y1) + x3)) fun v3 => (gd (inB v3 1530) (if (zI s 91 (v3.toInt.toNat)) = x2 then (q0 s v3) else (gd (inB v3 1530) (bd (f_X12_worked s y1 x2 (zI s 91 (v3.toInt.toNat))) fun r7 s7 => (if r7 = (0 : Int32) then (gd (inB v3 1530) (vl ((zI s7 92 (v3.toInt.toNat))) fun v11 => (vl (x3 + 1) fun v12 => (rc s7 v11 v12)))) else (q0 s7 v3))))))) else some (0, s)))
noncomputable def f_X12_gives_L4 (q0 : SS → Int32 → Option (Int32 × SS)) (y1 : Int32) : Nat → SS → Int32 → Int32 → Option (Int32 × SS)
  | 0, _, _, _ => none
  | n + 1, s, x2, x3 => f_X12_gives_L4_b q0 y1 (f_X12_gives_L4 q0 y1 n) s x2 x3
set_option maxRecDepth 4000 in
theorem t_X12_gives_L4 {r9 : Int32} {s0 sb s9 : SS} {q0 : SS → Int32 → Option (Int32 × SS)} {y1 : Int32} (mb : Mo s0 sb) (hq0 : ∀ (s : SS) (h : List aE) (x4 : Int32), HH s h → Mo sb s → q0 s x4 = some (r9, s9) → AW mX12_gives (rmD (2) 0 0) (fin (PI fun r' h' => r9 = r' ∧ HH s9 h' ∧ Mo s0 s9) 0 0) 49 [some (.ref 67), some (.int y1), none, none, some (.int x4)] [] h 0 0) : ∀ (n : Nat) (s : SS) (h : List aE) (x2 : Int32) (x3 : Int32), HH s h → Mo sb s → f_X12_gives_L4 q0 y1 n s x2 x3 = some (r9, s9) → AW mX12_gives (rmD (2) 0 0) (fin (PI fun r' h' => r9 = r' ∧ HH s9 h' ∧ Mo s0 s9) 0 0) 4 [some (.ref 67), some (.int y1), some (.int x2), some (.int x3), none] [] h 0 0 := by
  intro n
  induction n with
  | zero =>
    intro s h x2 x3 H ms hf
    cases hf
  | succ n ih =>
    intro s h x2 x3 H ms hf
    replace hf : f_X12_gives_L4_b q0 y1 (f_X12_gives_L4 q0 y1 n) s x2 x3 = some (r9, s9) := hf
    unfold f_X12_gives_L4_b at hf
    refine aw_iload_n (pc' := 5) dX12_gives_4 rfl rfl ?_
    refine aw_aload_n (pc' := 6) dX12_gives_5 rfl rfl rfl ?_
    refine aw_gr (q := 59) (e := 63) (v := .ref 98) (pc' := 9) H (H.fo rfl rfl) (by decide) rfl rfl dX12_gives_6 rfl fl_RX12_109 ?_
    refine aw_iload_n (pc' := 10) dX12_gives_9 rfl rfl ?_
    obtain ⟨g1, hf⟩ := gd_e hf
    refine aw_ia (q := 90) (pc' := 11) H (H.fa rfl rfl rfl) g1 dX12_gives_10 rfl ?_
    refine aw_cge (tgt := 83) (pc' := 14) dX12_gives_11 rfl rfl (fun c2 => ?_) (fun c2 => ?_)
    · replace hf := ifn c2 hf
      refine aw_iconst (v := 0) (pc' := 84) dX12_gives_83 rfl ic_0 ?_
      obtain ⟨rfl, rfl⟩ := so2 hf
      exact aw_ri dX12_gives_84 rfl rfl (Nat.le_of_ble_eq_true rfl) (Nat.le_of_ble_eq_true rfl) ⟨rfl, H, (mb.tr ms)⟩
    · replace hf := ifp c2 hf
      refine aw_bipush (v := 90) (pc' := 16) dX12_gives_14 rfl bp_90 ?_
      refine aw_iload_n (pc' := 17) dX12_gives_16 rfl rfl ?_
      refine aw_imul (pc' := 18) dX12_gives_17 rfl ?_
      refine aw_iload_n (pc' := 19) dX12_gives_18 rfl rfl ?_
      refine aw_iadd (pc' := 20) dX12_gives_19 rfl ?_
      obtain ⟨v3, ev3, hf⟩ := vl_e hf
      refine aw_topi ev3 ?_
      refine aw_istore (lv' := [_, _, _, _, _]) (pc' := 22) dX12_gives_20 rfl (Nat.le_of_ble_eq_true rfl) rfl ?_
      refine aw_aload_n (pc' := 23) dX12_gives_22 rfl rfl rfl ?_
      refine aw_gr (q := 59) (e := 65) (v := .ref 99) (pc' := 26) H (H.fo rfl rfl) (by decide) rfl rfl dX12_gives_23 rfl fl_RX12_112 ?_
      refine aw_iload (pc' := 28) dX12_gives_26 rfl rfl ?_
      obtain ⟨g4, hf⟩ := gd_e hf
      refine aw_ia (q := 91) (pc' := 29) H (H.fa rfl rfl rfl) g4 dX12_gives_28 rfl ?_
      refine aw_iload_n (pc' := 30) dX12_gives_29 rfl rfl ?_
      refine aw_icmp_eq (tgt := 49) (pc' := 33) dX12_gives_30 rfl rfl (fun c5 => ?_) (fun c5 => ?_)
      · replace hf := ifp c5 hf
        refine AW.lv_le (lz_k (lz_k (lz_d (lz_d (lz_k lz_0))))) ?_
        exact hq0 _ _ _ H ms hf
      · replace hf := ifn c5 hf
        refine aw_aload_n (pc' := 34) dX12_gives_33 rfl rfl rfl ?_
        refine aw_iload_n (pc' := 35) dX12_gives_34 rfl rfl ?_
        refine aw_iload_n (pc' := 36) dX12_gives_35 rfl rfl ?_
        refine aw_aload_n (pc' := 37) dX12_gives_36 rfl rfl rfl ?_
        refine aw_gr (q := 59) (e := 65) (v := .ref 99) (pc' := 40) H (H.fo rfl rfl) (by decide) rfl rfl dX12_gives_37 rfl fl_RX12_112 ?_
        refine aw_iload (pc' := 42) dX12_gives_40 rfl rfl ?_
        obtain ⟨g6, hf⟩ := gd_e hf
        refine aw_ia (q := 91) (pc' := 43) H (H.fa rfl rfl rfl) g6 dX12_gives_42 rfl ?_
        obtain ⟨r7, s7, ec7, hf⟩ := bd_e hf
        refine aw_callVi (M' := mX12_worked) (nc' := 0) (ns' := 0) (pc' := 46) dX12_gives_43 rfl ml_RX12_391 kX12_worked (t_X12_worked H ec7) (H.ob (H.fo rfl rfl) (by decide)) rfl rfl rfl (Nat.le_of_ble_eq_true rfl) (rokD (by omega) (Nat.le_of_ble_eq_true rfl) (Nat.le_of_ble_eq_true rfl) (Nat.le_of_ble_eq_true rfl)) rfl rfl (fun _ h7 q7 => ?_)
        obtain ⟨rfl, H7, m7⟩ := q7
        refine aw_if_eq (tgt := 69) (pc' := 49) dX12_gives_46 rfl rfl (fun c8 => ?_) (fun c8 => ?_)
        · replace hf := ifp c8 hf
          refine aw_aload_n (pc' := 70) dX12_gives_69 rfl rfl rfl ?_
          refine aw_gr (q := 59) (e := 67) (v := .ref 100) (pc' := 73) H7 (H7.fo rfl rfl) (l13 rfl) rfl rfl dX12_gives_70 rfl fl_RX12_115 ?_
          refine aw_iload (pc' := 75) dX12_gives_73 rfl rfl ?_
          obtain ⟨g10, hf⟩ := gd_e hf
          refine aw_ia (q := 92) (pc' := 76) H7 (H7.fa rfl rfl rfl) g10 dX12_gives_75 rfl ?_
          obtain ⟨v11, ev11, hf⟩ := vl_e hf
          refine aw_topi ev11 ?_
          refine aw_istore_n (lv' := [_, _, _, _, _]) (pc' := 77) dX12_gives_76 rfl (Nat.le_of_ble_eq_true rfl) rfl ?_
          obtain ⟨v12, ev12, hf⟩ := vl_e hf
          refine aw_iincV (y := v12) (lv' := [_, _, _, _, _]) (pc' := 80) dX12_gives_77 rfl rfl (Nat.le_of_ble_eq_true rfl) ev12 rfl ?_
          refine aw_goto (tgt := 4) dX12_gives_80 rfl ?_
          refine AW.lv_le (lz_k (lz_k (lz_k (lz_k (lz_d lz_0))))) ?_
          exact ih _ _ _ _ H7 (ms.tr m7) hf
        · replace hf := ifn c8 hf
          refine AW.lv_le (lz_k (lz_k (lz_d (lz_d (lz_k lz_0))))) ?_
          exact hq0 _ _ _ H7 (ms.tr m7) hf
noncomputable def f_X12_gives (s0 : SS) (a0 : Int32) : Option (Int32 × SS) := (f_X12_gives_L4 (fun (s13 : SS) (x13_4 : Int32) => (gd (inB x13_4 1530) (gd (inB x13_4 1530) (bd (f_X12_worked s13 a0 (zI s13 91 (x13_4.toInt.toNat)) (zI s13 92 (x13_4.toInt.toNat))) fun r16 s16 => some (r16, s16))))) a0 4000 s0 0 0)
set_option maxRecDepth 4000 in
theorem t_X12_gives {r9 : Int32} {s0 s9 : SS} {h0 : List aE} {a0 : Int32} (H0 : HH s0 h0) (hf : f_X12_gives s0 a0 = some (r9, s9)) : AM mX12_gives (2) [.ref 67, .int a0] h0 0 0 (PI fun r' h' => r9 = r' ∧ HH s9 h' ∧ Mo s0 s9) := by
  unfold f_X12_gives at hf
  refine am_of (lv := [some (.ref 67), some (.int a0), none, none, none]) rfl (Nat.le_of_ble_eq_true rfl) rfl ?_
  refine aw_iconst (v := 0) (pc' := 1) dX12_gives_0 rfl ic_0 ?_
  refine aw_istore_n (lv' := [_, _, _, _, _]) (pc' := 2) dX12_gives_1 rfl (Nat.le_of_ble_eq_true rfl) rfl ?_
  refine aw_iconst (v := 0) (pc' := 3) dX12_gives_2 rfl ic_0 ?_
  refine aw_istore_n (lv' := [_, _, _, _, _]) (pc' := 4) dX12_gives_3 rfl (Nat.le_of_ble_eq_true rfl) rfl ?_
  refine t_X12_gives_L4 (Mo.rf _) (fun s13 h13 x13_4 H13 m13 hf => ?_) 4000 _ _ _ _ H0 (Mo.rf _) hf
  refine aw_aload_n (pc' := 50) dX12_gives_49 rfl rfl rfl ?_
  refine aw_iload_n (pc' := 51) dX12_gives_50 rfl rfl ?_
  refine aw_aload_n (pc' := 52) dX12_gives_51 rfl rfl rfl ?_
  refine aw_gr (q := 59) (e := 65) (v := .ref 99) (pc' := 55) H13 (H13.fo rfl rfl) (l13 rfl) rfl rfl dX12_gives_52 rfl fl_RX12_112 ?_
  refine aw_iload (pc' := 57) dX12_gives_55 rfl rfl ?_
  obtain ⟨g14, hf⟩ := gd_e hf
  refine aw_ia (q := 91) (pc' := 58) H13 (H13.fa rfl rfl rfl) g14 dX12_gives_57 rfl ?_
  refine aw_aload_n (pc' := 59) dX12_gives_58 rfl rfl rfl ?_
  refine aw_gr (q := 59) (e := 67) (v := .ref 100) (pc' := 62) H13 (H13.fo rfl rfl) (l13 rfl) rfl rfl dX12_gives_59 rfl fl_RX12_115 ?_
  refine aw_iload (pc' := 64) dX12_gives_62 rfl rfl ?_
  obtain ⟨g15, hf⟩ := gd_e hf
  refine aw_ia (q := 92) (pc' := 65) H13 (H13.fa rfl rfl rfl) g15 dX12_gives_64 rfl ?_
  obtain ⟨r16, s16, ec16, hf⟩ := bd_e hf
  refine aw_callVi (M' := mX12_worked) (nc' := 0) (ns' := 0) (pc' := 68) dX12_gives_65 rfl ml_RX12_391 kX12_worked (t_X12_worked H13 ec16) (H13.ob (H13.fo rfl rfl) (by decide)) rfl rfl rfl (Nat.le_of_ble_eq_true rfl) (rokD (by omega) (Nat.le_of_ble_eq_true rfl) (Nat.le_of_ble_eq_true rfl) (Nat.le_of_ble_eq_true rfl)) rfl rfl (fun _ h16 q16 => ?_)
  obtain ⟨rfl, H16, m16⟩ := q16
  obtain ⟨rfl, rfl⟩ := so2 hf
  exact aw_ri dX12_gives_68 rfl rfl (Nat.le_of_ble_eq_true rfl) (Nat.le_of_ble_eq_true rfl) ⟨rfl, H16, (m13.tr m16)⟩
/-! ThirtyThreeBelowModel.saysNow -/
noncomputable def f_X12_saysNow_L28_b (q0 : Int32 → Option (Int32 × SS)) (sb : SS) (y2 : Int32) (y4 : Int32) (rc : Int32 → Int32 → Option (Int32 × SS)) (x5 : Int32) (x6 : Int32) : Option (Int32 × SS) := (if x6 < (zS sb 59 4) then (gd (inB x6 120) (jn (fun (t5_0 : Int32) => (vl ((x5 + t5_0)) fun v6 => (vl (x6 + 1) fun v7 => (rc v6 v7)))) fun k5 => (if (0 : Int32) < (zI sb 69 (x6.toInt.toNat)) then (k5 1) else (k5 0)))) else (q0 x5))
noncomputable def f_X12_saysNow_L28 (q0 : Int32 → Option (Int32 × SS)) (sb : SS) (y2 : Int32) (y4 : Int32) : Nat → Int32 → Int32 → Option (Int32 × SS)
  | 0, _, _ => none
  | n + 1, x5, x6 => f_X12_saysNow_L28_b q0 sb y2 y4 (f_X12_saysNow_L28 q0 sb y2 y4 n) x5 x6
set_option maxRecDepth 4000 in
theorem t_X12_saysNow_L28 {r9 : Int32} {s0 sb s9 : SS} {hb : List aE} {q0 : Int32 → Option (Int32 × SS)} {y2 : Int32} {y4 : Int32} (Hb : HH sb hb) (mb : Mo s0 sb) (hq0 : ∀ (x5 : Int32), q0 x5 = some (r9, s9) → AW mX12_saysNow (rmD (3) 0 0) (fin (PI fun r' h' => r9 = r' ∧ HH s9 h' ∧ Mo s0 s9) 0 0) 63 [some (.ref 67), none, some (.int y2), none, some (.int y4), some (.int x5), none] [] hb 0 0) : ∀ (n : Nat) (x5 : Int32) (x6 : Int32), f_X12_saysNow_L28 q0 sb y2 y4 n x5 x6 = some (r9, s9) → AW mX12_saysNow (rmD (3) 0 0) (fin (PI fun r' h' => r9 = r' ∧ HH s9 h' ∧ Mo s0 s9) 0 0) 28 [some (.ref 67), none, some (.int y2), none, some (.int y4), some (.int x5), some (.int x6)] [] hb 0 0 := by
  intro n
  induction n with
  | zero =>
    intro x5 x6 hf
    cases hf
  | succ n ih =>
    intro x5 x6 hf
    replace hf : f_X12_saysNow_L28_b q0 sb y2 y4 (f_X12_saysNow_L28 q0 sb y2 y4 n) x5 x6 = some (r9, s9) := hf
    unfold f_X12_saysNow_L28_b at hf
    refine aw_iload (pc' := 30) dX12_saysNow_28 rfl rfl ?_
    refine aw_aload_n (pc' := 31) dX12_saysNow_30 rfl rfl rfl ?_
    refine aw_gi (q := 59) (pc' := 34) Hb (Hb.fo rfl rfl) (by decide) rfl dX12_saysNow_31 rfl fl_RX12_242 ?_
    refine aw_cge (tgt := 63) (pc' := 37) dX12_saysNow_34 rfl rfl (fun c3 => ?_) (fun c3 => ?_)
    · replace hf := ifn c3 hf
      refine AW.lv_le (lz_k (lz_d (lz_k (lz_d (lz_k (lz_k (lz_d lz_0))))))) ?_
      exact hq0 _ hf
    · replace hf := ifp c3 hf
      refine aw_iload (pc' := 39) dX12_saysNow_37 rfl rfl ?_
      refine aw_aload_n (pc' := 40) dX12_saysNow_39 rfl rfl rfl ?_
      refine aw_gr (q := 59) (e := 21) (v := .ref 77) (pc' := 43) Hb (Hb.fo rfl rfl) (by decide) rfl rfl dX12_saysNow_40 rfl fl_RX12_38 ?_
      refine aw_iload (pc' := 45) dX12_saysNow_43 rfl rfl ?_
      obtain ⟨g4, hf⟩ := gd_e hf
      refine aw_ia (q := 69) (pc' := 46) Hb (Hb.fa rfl rfl rfl) g4 dX12_saysNow_45 rfl ?_
      obtain ⟨k5, ek5, hf⟩ := jn_e hf
      have hk5 : ∀ (t5_0 : Int32), k5 t5_0 = some (r9, s9) → AW mX12_saysNow (rmD (3) 0 0) (fin (PI fun r' h' => r9 = r' ∧ HH s9 h' ∧ Mo s0 s9) 0 0) 54 [some (.ref 67), none, some (.int y2), none, some (.int y4), none, some (.int x6)] [.int t5_0, .int x5] hb 0 0 := by
        intro t5_0 hf
        subst ek5
        refine aw_iadd (pc' := 55) dX12_saysNow_54 rfl ?_
        obtain ⟨v6, ev6, hf⟩ := vl_e hf
        refine aw_topi ev6 ?_
        refine aw_istore (lv' := [_, _, _, _, _, _, _]) (pc' := 57) dX12_saysNow_55 rfl (Nat.le_of_ble_eq_true rfl) rfl ?_
        obtain ⟨v7, ev7, hf⟩ := vl_e hf
        refine aw_iincV (y := v7) (lv' := [_, _, _, _, _, _, _]) (pc' := 60) dX12_saysNow_57 rfl rfl (Nat.le_of_ble_eq_true rfl) ev7 rfl ?_
        refine aw_goto (tgt := 28) dX12_saysNow_60 rfl ?_
        exact ih _ _ hf
      clear ek5
      refine aw_zle (tgt := 53) (pc' := 49) dX12_saysNow_46 rfl rfl (fun c8 => ?_) (fun c8 => ?_)
      · replace hf := ifn c8 hf
        refine aw_iconst (v := 0) (pc' := 54) dX12_saysNow_53 rfl ic_0 ?_
        refine AW.lv_le (lz_k (lz_d (lz_k (lz_d (lz_k (lz_d (lz_k lz_0))))))) ?_
        exact hk5 _ hf
      · replace hf := ifp c8 hf
        refine aw_iconst (v := 1) (pc' := 50) dX12_saysNow_49 rfl ic_1 ?_
        refine aw_goto (tgt := 54) dX12_saysNow_50 rfl ?_
        refine AW.lv_le (lz_k (lz_d (lz_k (lz_d (lz_k (lz_d (lz_k lz_0))))))) ?_
        exact hk5 _ hf
noncomputable def f_X12_saysNow (s0 : SS) (a0 : Int32) (a1 : Int32) (a2 : Int32) : Option (Int32 × SS) := (b1 (f_X12_forceOf s0 a0 (zS s0 59 1) (zS s0 59 1)) fun r1 => (if r1 < (0 : Int32) then some (a2, s0) else (f_X12_saysNow_L28 (fun (x10_5 : Int32) => (vl ((zS s0 59 1)) fun v11 => (st (pI s0 95 ((0 : Int32).toInt.toNat) v11) fun s12 => (vl (((zS s12 59 1) / (24 : Int32))) fun v13 => (st (pI s12 95 ((1 : Int32).toInt.toNat) v13) fun s14 => (jn (fun (t15_0 : Int32) => (st (pI s14 95 ((2 : Int32).toInt.toNat) t15_0) fun s16 => (jn (fun (t17_0 : Int32) => (st (pI s16 95 ((3 : Int32).toInt.toNat) t17_0) fun s18 => (jn (fun (t19_0 : Int32) => (st (pI s18 95 ((4 : Int32).toInt.toNat) t19_0) fun s20 => (b1 (f_X12_menBelow s20) fun r21 => (st (pI s20 95 ((5 : Int32).toInt.toNat) r21) fun s22 => (vl ((zS s22 59 54)) fun v23 => (st (pI s22 95 ((6 : Int32).toInt.toNat) v23) fun s24 => (st (pI s24 95 ((7 : Int32).toInt.toNat) x10_5) fun s25 => (bd (f_X12_gives s25 r1) fun r26 s26 => some (r26, s26))))))))) fun k19 => (if a1 < (0 : Int32) then (k19 0) else (gd (inB a1 120) (k19 (zI s18 76 (a1.toInt.toNat)))))))) fun k17 => (if a1 < (0 : Int32) then (k17 0) else (gd (inB a1 120) (k17 (zI s16 75 (a1.toInt.toNat)))))))) fun k15 => (if a1 < (0 : Int32) then (k15 0) else (gd (inB a1 120) (k15 (zI s14 74 (a1.toInt.toNat))))))))))) s0 a1 r1 4000 0 0)))
set_option maxRecDepth 4000 in
theorem t_X12_saysNow {r9 : Int32} {s0 s9 : SS} {h0 : List aE} {a0 : Int32} {a1 : Int32} {a2 : Int32} (H0 : HH s0 h0) (hf : f_X12_saysNow s0 a0 a1 a2 = some (r9, s9)) : AM mX12_saysNow (3) [.ref 67, .int a0, .int a1, .int a2] h0 0 0 (PI fun r' h' => r9 = r' ∧ HH s9 h' ∧ Mo s0 s9) := by
  unfold f_X12_saysNow at hf
  refine am_of (lv := [some (.ref 67), some (.int a0), some (.int a1), some (.int a2), none, none, none]) rfl (Nat.le_of_ble_eq_true rfl) rfl ?_
  refine aw_aload_n (pc' := 1) dX12_saysNow_0 rfl rfl rfl ?_
  refine aw_iload_n (pc' := 2) dX12_saysNow_1 rfl rfl ?_
  refine aw_aload_n (pc' := 3) dX12_saysNow_2 rfl rfl rfl ?_
  refine aw_gi (q := 59) (pc' := 6) H0 (H0.fo rfl rfl) (l13 rfl) rfl dX12_saysNow_3 rfl fl_RX12_281 ?_
  refine aw_aload_n (pc' := 7) dX12_saysNow_6 rfl rfl rfl ?_
  refine aw_gi (q := 59) (pc' := 10) H0 (H0.fo rfl rfl) (l13 rfl) rfl dX12_saysNow_7 rfl fl_RX12_281 ?_
  obtain ⟨r1, ec1, hf⟩ := b1_e hf
  refine aw_callVi (M' := mX12_forceOf) (nc' := 0) (ns' := 0) (pc' := 13) dX12_saysNow_10 rfl ml_RX12_385 kX12_forceOf (t_X12_forceOf H0 ec1) (H0.ob (H0.fo rfl rfl) (by decide)) rfl rfl rfl (Nat.le_of_ble_eq_true rfl) (rokD (by omega) (Nat.le_of_ble_eq_true rfl) (Nat.le_of_ble_eq_true rfl) (Nat.le_of_ble_eq_true rfl)) rfl rfl (fun _ h1 q1 => ?_)
  obtain ⟨rfl, rfl⟩ := q1
  refine aw_istore (lv' := [_, _, _, _, _, _, _]) (pc' := 15) dX12_saysNow_13 rfl (Nat.le_of_ble_eq_true rfl) rfl ?_
  refine aw_iload (pc' := 17) dX12_saysNow_15 rfl rfl ?_
  refine aw_zge (tgt := 22) (pc' := 20) dX12_saysNow_17 rfl rfl (fun c2 => ?_) (fun c2 => ?_)
  · replace hf := ifn c2 hf
    refine aw_iconst (v := 0) (pc' := 23) dX12_saysNow_22 rfl ic_0 ?_
    refine aw_istore (lv' := [_, _, _, _, _, _, _]) (pc' := 25) dX12_saysNow_23 rfl (Nat.le_of_ble_eq_true rfl) rfl ?_
    refine aw_iconst (v := 0) (pc' := 26) dX12_saysNow_25 rfl ic_0 ?_
    refine aw_istore (lv' := [_, _, _, _, _, _, _]) (pc' := 28) dX12_saysNow_26 rfl (Nat.le_of_ble_eq_true rfl) rfl ?_
    refine AW.lv_le (lz_k (lz_d (lz_k (lz_d (lz_k (lz_k (lz_k lz_0))))))) ?_
    refine t_X12_saysNow_L28 H0 (Mo.rf _) (fun x10_5 hf => ?_) 4000 _ _ hf
    refine aw_aload_n (pc' := 64) dX12_saysNow_63 rfl rfl rfl ?_
    refine aw_gr (q := 59) (e := 73) (v := .ref 103) (pc' := 67) H0 (H0.fo rfl rfl) (l13 rfl) rfl rfl dX12_saysNow_64 rfl fl_RX12_124 ?_
    refine aw_iconst (v := 0) (pc' := 68) dX12_saysNow_67 rfl ic_0 ?_
    refine aw_aload_n (pc' := 69) dX12_saysNow_68 rfl rfl rfl ?_
    refine aw_gi (q := 59) (pc' := 72) H0 (H0.fo rfl rfl) (l13 rfl) rfl dX12_saysNow_69 rfl fl_RX12_281 ?_
    obtain ⟨v11, ev11, hf⟩ := vl_e hf
    refine aw_topi ev11 ?_
    obtain ⟨s12, es12, hf⟩ := st_e hf
    refine aw_is (q := 95) (pc' := 73) es12 H0 (H0.fa rfl rfl rfl) (by decide) dX12_saysNow_72 rfl (fun h12 H12 => ?_)
    have m12 := Mo.ofI es12
    refine aw_aload_n (pc' := 74) dX12_saysNow_73 rfl rfl rfl ?_
    refine aw_gr (q := 59) (e := 73) (v := .ref 103) (pc' := 77) H12 (H12.fo rfl rfl) (l13 rfl) rfl rfl dX12_saysNow_74 rfl fl_RX12_124 ?_
    refine aw_iconst (v := 1) (pc' := 78) dX12_saysNow_77 rfl ic_1 ?_
    refine aw_aload_n (pc' := 79) dX12_saysNow_78 rfl rfl rfl ?_
    refine aw_gi (q := 59) (pc' := 82) H12 (H12.fo rfl rfl) (l13 rfl) rfl dX12_saysNow_79 rfl fl_RX12_281 ?_
    refine aw_bipush (v := 24) (pc' := 84) dX12_saysNow_82 rfl bp_24 ?_
    refine aw_idiv (pc' := 85) dX12_saysNow_84 rfl (by decide) ?_
    obtain ⟨v13, ev13, hf⟩ := vl_e hf
    refine aw_topi ev13 ?_
    obtain ⟨s14, es14, hf⟩ := st_e hf
    refine aw_is (q := 95) (pc' := 86) es14 H12 (H12.fa rfl rfl rfl) (by decide) dX12_saysNow_85 rfl (fun h14 H14 => ?_)
    have m14 := Mo.ofI es14
    refine aw_aload_n (pc' := 87) dX12_saysNow_86 rfl rfl rfl ?_
    refine aw_gr (q := 59) (e := 73) (v := .ref 103) (pc' := 90) H14 (H14.fo rfl rfl) (l13 rfl) rfl rfl dX12_saysNow_87 rfl fl_RX12_124 ?_
    refine aw_iconst (v := 2) (pc' := 91) dX12_saysNow_90 rfl ic_2 ?_
    refine aw_iload_n (pc' := 92) dX12_saysNow_91 rfl rfl ?_
    obtain ⟨k15, ek15, hf⟩ := jn_e hf
    have hk15 : ∀ (t15_0 : Int32), k15 t15_0 = some (r9, s9) → AW mX12_saysNow (rmD (3) 0 0) (fin (PI fun r' h' => r9 = r' ∧ HH s9 h' ∧ Mo s0 s9) 0 0) 105 [some (.ref 67), none, some (.int a1), none, some (.int r1), some (.int x10_5), none] [.int t15_0, .int 2, .ref 103] h14 0 0 := by
      intro t15_0 hf
      subst ek15
      obtain ⟨s16, es16, hf⟩ := st_e hf
      refine aw_is (q := 95) (pc' := 106) es16 H14 (H14.fa rfl rfl rfl) (by decide) dX12_saysNow_105 rfl (fun h16 H16 => ?_)
      have m16 := Mo.ofI es16
      refine aw_aload_n (pc' := 107) dX12_saysNow_106 rfl rfl rfl ?_
      refine aw_gr (q := 59) (e := 73) (v := .ref 103) (pc' := 110) H16 (H16.fo rfl rfl) (l13 rfl) rfl rfl dX12_saysNow_107 rfl fl_RX12_124 ?_
      refine aw_iconst (v := 3) (pc' := 111) dX12_saysNow_110 rfl ic_3 ?_
      refine aw_iload_n (pc' := 112) dX12_saysNow_111 rfl rfl ?_
      obtain ⟨k17, ek17, hf⟩ := jn_e hf
      have hk17 : ∀ (t17_0 : Int32), k17 t17_0 = some (r9, s9) → AW mX12_saysNow (rmD (3) 0 0) (fin (PI fun r' h' => r9 = r' ∧ HH s9 h' ∧ Mo s0 s9) 0 0) 125 [some (.ref 67), none, some (.int a1), none, some (.int r1), some (.int x10_5), none] [.int t17_0, .int 3, .ref 103] h16 0 0 := by
        intro t17_0 hf
        subst ek17
        obtain ⟨s18, es18, hf⟩ := st_e hf
        refine aw_is (q := 95) (pc' := 126) es18 H16 (H16.fa rfl rfl rfl) (by decide) dX12_saysNow_125 rfl (fun h18 H18 => ?_)
        have m18 := Mo.ofI es18
        refine aw_aload_n (pc' := 127) dX12_saysNow_126 rfl rfl rfl ?_
        refine aw_gr (q := 59) (e := 73) (v := .ref 103) (pc' := 130) H18 (H18.fo rfl rfl) (l13 rfl) rfl rfl dX12_saysNow_127 rfl fl_RX12_124 ?_
        refine aw_iconst (v := 4) (pc' := 131) dX12_saysNow_130 rfl ic_4 ?_
        refine aw_iload_n (pc' := 132) dX12_saysNow_131 rfl rfl ?_
        obtain ⟨k19, ek19, hf⟩ := jn_e hf
        have hk19 : ∀ (t19_0 : Int32), k19 t19_0 = some (r9, s9) → AW mX12_saysNow (rmD (3) 0 0) (fin (PI fun r' h' => r9 = r' ∧ HH s9 h' ∧ Mo s0 s9) 0 0) 145 [some (.ref 67), none, none, none, some (.int r1), some (.int x10_5), none] [.int t19_0, .int 4, .ref 103] h18 0 0 := by
          intro t19_0 hf
          subst ek19
          obtain ⟨s20, es20, hf⟩ := st_e hf
          refine aw_is (q := 95) (pc' := 146) es20 H18 (H18.fa rfl rfl rfl) (by decide) dX12_saysNow_145 rfl (fun h20 H20 => ?_)
          have m20 := Mo.ofI es20
          refine aw_aload_n (pc' := 147) dX12_saysNow_146 rfl rfl rfl ?_
          refine aw_gr (q := 59) (e := 73) (v := .ref 103) (pc' := 150) H20 (H20.fo rfl rfl) (l13 rfl) rfl rfl dX12_saysNow_147 rfl fl_RX12_124 ?_
          refine aw_iconst (v := 5) (pc' := 151) dX12_saysNow_150 rfl ic_5 ?_
          refine aw_aload_n (pc' := 152) dX12_saysNow_151 rfl rfl rfl ?_
          obtain ⟨r21, ec21, hf⟩ := b1_e hf
          refine aw_callVi (M' := mX12_menBelow) (nc' := 0) (ns' := 0) (pc' := 155) dX12_saysNow_152 rfl ml_RX12_394 kX12_menBelow (t_X12_menBelow H20 ec21) (H20.ob (H20.fo rfl rfl) (by decide)) rfl rfl rfl (Nat.le_of_ble_eq_true rfl) (rokD (by omega) (Nat.le_of_ble_eq_true rfl) (Nat.le_of_ble_eq_true rfl) (Nat.le_of_ble_eq_true rfl)) rfl rfl (fun _ h21 q21 => ?_)
          obtain ⟨rfl, rfl⟩ := q21
          obtain ⟨s22, es22, hf⟩ := st_e hf
          refine aw_is (q := 95) (pc' := 156) es22 H20 (H20.fa rfl rfl rfl) (by decide) dX12_saysNow_155 rfl (fun h22 H22 => ?_)
          have m22 := Mo.ofI es22
          refine aw_aload_n (pc' := 157) dX12_saysNow_156 rfl rfl rfl ?_
          refine aw_gr (q := 59) (e := 73) (v := .ref 103) (pc' := 160) H22 (H22.fo rfl rfl) (l13 rfl) rfl rfl dX12_saysNow_157 rfl fl_RX12_124 ?_
          refine aw_bipush (v := 6) (pc' := 162) dX12_saysNow_160 rfl bp_6 ?_
          refine aw_aload_n (pc' := 163) dX12_saysNow_162 rfl rfl rfl ?_
          refine aw_gi (q := 59) (pc' := 166) H22 (H22.fo rfl rfl) (l13 rfl) rfl dX12_saysNow_163 rfl fl_RX12_397 ?_
          obtain ⟨v23, ev23, hf⟩ := vl_e hf
          refine aw_topi ev23 ?_
          obtain ⟨s24, es24, hf⟩ := st_e hf
          refine aw_is (q := 95) (pc' := 167) es24 H22 (H22.fa rfl rfl rfl) (by decide) dX12_saysNow_166 rfl (fun h24 H24 => ?_)
          have m24 := Mo.ofI es24
          refine aw_aload_n (pc' := 168) dX12_saysNow_167 rfl rfl rfl ?_
          refine aw_gr (q := 59) (e := 73) (v := .ref 103) (pc' := 171) H24 (H24.fo rfl rfl) (l13 rfl) rfl rfl dX12_saysNow_168 rfl fl_RX12_124 ?_
          refine aw_bipush (v := 7) (pc' := 173) dX12_saysNow_171 rfl bp_7 ?_
          refine aw_iload (pc' := 175) dX12_saysNow_173 rfl rfl ?_
          obtain ⟨s25, es25, hf⟩ := st_e hf
          refine aw_is (q := 95) (pc' := 176) es25 H24 (H24.fa rfl rfl rfl) (by decide) dX12_saysNow_175 rfl (fun h25 H25 => ?_)
          have m25 := Mo.ofI es25
          refine aw_aload_n (pc' := 177) dX12_saysNow_176 rfl rfl rfl ?_
          refine aw_iload (pc' := 179) dX12_saysNow_177 rfl rfl ?_
          obtain ⟨r26, s26, ec26, hf⟩ := bd_e hf
          refine aw_callVi (M' := mX12_gives) (nc' := 0) (ns' := 0) (pc' := 182) dX12_saysNow_179 rfl ml_RX12_400 kX12_gives (t_X12_gives H25 ec26) (H25.ob (H25.fo rfl rfl) (by decide)) rfl rfl rfl (Nat.le_of_ble_eq_true rfl) (rokD (by omega) (Nat.le_of_ble_eq_true rfl) (Nat.le_of_ble_eq_true rfl) (Nat.le_of_ble_eq_true rfl)) rfl rfl (fun _ h26 q26 => ?_)
          obtain ⟨rfl, H26, m26⟩ := q26
          obtain ⟨rfl, rfl⟩ := so2 hf
          exact aw_ri dX12_saysNow_182 rfl rfl (Nat.le_of_ble_eq_true rfl) (Nat.le_of_ble_eq_true rfl) ⟨rfl, H26, ((((((((m12.tr m14).tr m16).tr m18).tr m20).tr m22).tr m24).tr m25).tr m26)⟩
        clear ek19
        refine aw_zge (tgt := 139) (pc' := 135) dX12_saysNow_132 rfl rfl (fun c27 => ?_) (fun c27 => ?_)
        · replace hf := ifn c27 hf
          refine aw_aload_n (pc' := 140) dX12_saysNow_139 rfl rfl rfl ?_
          refine aw_gr (q := 59) (e := 35) (v := .ref 84) (pc' := 143) H18 (H18.fo rfl rfl) (l13 rfl) rfl rfl dX12_saysNow_140 rfl fl_RX12_59 ?_
          refine aw_iload_n (pc' := 144) dX12_saysNow_143 rfl rfl ?_
          obtain ⟨g28, hf⟩ := gd_e hf
          refine aw_ia (q := 76) (pc' := 145) H18 (H18.fa rfl rfl rfl) g28 dX12_saysNow_144 rfl ?_
          refine AW.lv_le (lz_k (lz_d (lz_d (lz_d (lz_k (lz_k (lz_d lz_0))))))) ?_
          exact hk19 _ hf
        · replace hf := ifp c27 hf
          refine aw_iconst (v := 0) (pc' := 136) dX12_saysNow_135 rfl ic_0 ?_
          refine aw_goto (tgt := 145) dX12_saysNow_136 rfl ?_
          refine AW.lv_le (lz_k (lz_d (lz_d (lz_d (lz_k (lz_k (lz_d lz_0))))))) ?_
          exact hk19 _ hf
      clear ek17
      refine aw_zge (tgt := 119) (pc' := 115) dX12_saysNow_112 rfl rfl (fun c29 => ?_) (fun c29 => ?_)
      · replace hf := ifn c29 hf
        refine aw_aload_n (pc' := 120) dX12_saysNow_119 rfl rfl rfl ?_
        refine aw_gr (q := 59) (e := 33) (v := .ref 83) (pc' := 123) H16 (H16.fo rfl rfl) (l13 rfl) rfl rfl dX12_saysNow_120 rfl fl_RX12_56 ?_
        refine aw_iload_n (pc' := 124) dX12_saysNow_123 rfl rfl ?_
        obtain ⟨g30, hf⟩ := gd_e hf
        refine aw_ia (q := 75) (pc' := 125) H16 (H16.fa rfl rfl rfl) g30 dX12_saysNow_124 rfl ?_
        exact hk17 _ hf
      · replace hf := ifp c29 hf
        refine aw_iconst (v := 0) (pc' := 116) dX12_saysNow_115 rfl ic_0 ?_
        refine aw_goto (tgt := 125) dX12_saysNow_116 rfl ?_
        exact hk17 _ hf
    clear ek15
    refine aw_zge (tgt := 99) (pc' := 95) dX12_saysNow_92 rfl rfl (fun c31 => ?_) (fun c31 => ?_)
    · replace hf := ifn c31 hf
      refine aw_aload_n (pc' := 100) dX12_saysNow_99 rfl rfl rfl ?_
      refine aw_gr (q := 59) (e := 31) (v := .ref 82) (pc' := 103) H14 (H14.fo rfl rfl) (l13 rfl) rfl rfl dX12_saysNow_100 rfl fl_RX12_53 ?_
      refine aw_iload_n (pc' := 104) dX12_saysNow_103 rfl rfl ?_
      obtain ⟨g32, hf⟩ := gd_e hf
      refine aw_ia (q := 74) (pc' := 105) H14 (H14.fa rfl rfl rfl) g32 dX12_saysNow_104 rfl ?_
      exact hk15 _ hf
    · replace hf := ifp c31 hf
      refine aw_iconst (v := 0) (pc' := 96) dX12_saysNow_95 rfl ic_0 ?_
      refine aw_goto (tgt := 105) dX12_saysNow_96 rfl ?_
      exact hk15 _ hf
  · replace hf := ifp c2 hf
    refine aw_iload_n (pc' := 21) dX12_saysNow_20 rfl rfl ?_
    obtain ⟨rfl, rfl⟩ := so2 hf
    exact aw_ri dX12_saysNow_21 rfl rfl (Nat.le_of_ble_eq_true rfl) (Nat.le_of_ble_eq_true rfl) ⟨rfl, H0, (Mo.rf _)⟩
/-! ThirtyThreeBelowModel.says -/
noncomputable def f_X12_says (s0 : SS) (a0 : Int32) (a1 : Int32) : Option (Int32 × SS) := (b1 (f_X12_isWhat a0) fun r1 => (if r1 = (0 : Int32) then some ((-2000000000), s0) else (jn ((jn (fun (t4_0 : Int32) => (bd (f_X12_saysNow s0 a0 a1 t4_0) fun r5 s5 => some (r5, s5))) fun k4 => (if (a0 % (10 : Int32)) = (0 : Int32) then (k4 1) else (k4 0)))) fun k3 => (if (a0 % (10 : Int32)) = (2 : Int32) then (if a1 = ((-1) : Int32) then k3 else some ((-2000000000), s0)) else (b1 (f_X12_isMan s0 a1) fun r8 => (if r8 = (0 : Int32) then some ((-2000000000), s0) else k3))))))
set_option maxRecDepth 4000 in
theorem t_X12_says {r9 : Int32} {s0 s9 : SS} {h0 : List aE} {a0 : Int32} {a1 : Int32} (H0 : HH s0 h0) (hf : f_X12_says s0 a0 a1 = some (r9, s9)) : AM mX12_says (4) [.ref 67, .int a0, .int a1] h0 0 0 (PI fun r' h' => r9 = r' ∧ HH s9 h' ∧ Mo s0 s9) := by
  unfold f_X12_says at hf
  refine am_of (lv := [some (.ref 67), some (.int a0), some (.int a1)]) rfl (Nat.le_of_ble_eq_true rfl) rfl ?_
  refine aw_iload_n (pc' := 1) dX12_says_0 rfl rfl ?_
  obtain ⟨r1, ec1, hf⟩ := b1_e hf
  refine aw_callSi (M' := mX12_isWhat) (nc' := 0) (ns' := 0) (pc' := 4) dX12_says_1 rfl ml_RX12_370 kX12_isWhat (t_X12_isWhat ec1) rfl rfl (Nat.le_of_ble_eq_true rfl) (rokD (by omega) (Nat.le_of_ble_eq_true rfl) (Nat.le_of_ble_eq_true rfl) (Nat.le_of_ble_eq_true rfl)) rfl rfl (fun _ h1 q1 => ?_)
  obtain ⟨rfl, rfl, zb1⟩ := q1
  refine aw_if_eq (tgt := 31) (pc' := 7) dX12_says_4 rfl rfl (fun c2 => ?_) (fun c2 => ?_)
  · replace hf := ifp c2 hf
    refine aw_ldcw (pc' := 34) dX12_says_31 rfl ct_RX12_267 ?_
    obtain ⟨rfl, rfl⟩ := so2 hf
    exact aw_ri dX12_says_34 rfl rfl (Nat.le_of_ble_eq_true rfl) (Nat.le_of_ble_eq_true rfl) ⟨rfl, H0, (Mo.rf _)⟩
  · replace hf := ifn c2 hf
    refine aw_iload_n (pc' := 8) dX12_says_7 rfl rfl ?_
    refine aw_bipush (v := 10) (pc' := 10) dX12_says_8 rfl bp_10 ?_
    refine aw_irem (pc' := 11) dX12_says_10 rfl (by decide) ?_
    refine aw_iconst (v := 2) (pc' := 12) dX12_says_11 rfl ic_2 ?_
    obtain ⟨k3, ek3, hf⟩ := jn_e hf
    have hk3 : k3 = some (r9, s9) → AW mX12_says (rmD (4) 0 0) (fin (PI fun r' h' => r9 = r' ∧ HH s9 h' ∧ Mo s0 s9) 0 0) 35 [some (.ref 67), some (.int a0), some (.int a1)] [] h0 0 0 := by
      intro hf
      subst ek3
      refine aw_aload_n (pc' := 36) dX12_says_35 rfl rfl rfl ?_
      refine aw_iload_n (pc' := 37) dX12_says_36 rfl rfl ?_
      refine aw_iload_n (pc' := 38) dX12_says_37 rfl rfl ?_
      refine aw_iload_n (pc' := 39) dX12_says_38 rfl rfl ?_
      refine aw_bipush (v := 10) (pc' := 41) dX12_says_39 rfl bp_10 ?_
      refine aw_irem (pc' := 42) dX12_says_41 rfl (by decide) ?_
      obtain ⟨k4, ek4, hf⟩ := jn_e hf
      have hk4 : ∀ (t4_0 : Int32), k4 t4_0 = some (r9, s9) → AW mX12_says (rmD (4) 0 0) (fin (PI fun r' h' => r9 = r' ∧ HH s9 h' ∧ Mo s0 s9) 0 0) 50 [none, none, none] [.int t4_0, .int a1, .int a0, .ref 67] h0 0 0 := by
        intro t4_0 hf
        subst ek4
        obtain ⟨r5, s5, ec5, hf⟩ := bd_e hf
        refine aw_callVi (M' := mX12_saysNow) (nc' := 0) (ns' := 0) (pc' := 53) dX12_says_50 rfl ml_RX12_403 kX12_saysNow (t_X12_saysNow H0 ec5) (H0.ob (H0.fo rfl rfl) (by decide)) rfl rfl rfl (Nat.le_of_ble_eq_true rfl) (rokD (by omega) (Nat.le_of_ble_eq_true rfl) (Nat.le_of_ble_eq_true rfl) (Nat.le_of_ble_eq_true rfl)) rfl rfl (fun _ h5 q5 => ?_)
        obtain ⟨rfl, H5, m5⟩ := q5
        obtain ⟨rfl, rfl⟩ := so2 hf
        exact aw_ri dX12_says_53 rfl rfl (Nat.le_of_ble_eq_true rfl) (Nat.le_of_ble_eq_true rfl) ⟨rfl, H5, m5⟩
      clear ek4
      refine aw_if_ne (tgt := 49) (pc' := 45) dX12_says_42 rfl rfl (fun c6 => ?_) (fun c6 => ?_)
      · replace hf := ifn c6 hf
        refine aw_iconst (v := 0) (pc' := 50) dX12_says_49 rfl ic_0 ?_
        refine AW.lv_le (lz_d (lz_d (lz_d lz_0))) ?_
        exact hk4 _ hf
      · replace hf := ifp c6 hf
        refine aw_iconst (v := 1) (pc' := 46) dX12_says_45 rfl ic_1 ?_
        refine aw_goto (tgt := 50) dX12_says_46 rfl ?_
        refine AW.lv_le (lz_d (lz_d (lz_d lz_0))) ?_
        exact hk4 _ hf
    clear ek3
    refine aw_icmp_ne (tgt := 23) (pc' := 15) dX12_says_12 rfl rfl (fun c7 => ?_) (fun c7 => ?_)
    · replace hf := ifn c7 hf
      refine aw_aload_n (pc' := 24) dX12_says_23 rfl rfl rfl ?_
      refine aw_iload_n (pc' := 25) dX12_says_24 rfl rfl ?_
      obtain ⟨r8, ec8, hf⟩ := b1_e hf
      refine aw_callVi (M' := mX12_isMan) (nc' := 0) (ns' := 0) (pc' := 28) dX12_says_25 rfl ml_RX12_275 kX12_isMan (t_X12_isMan H0 ec8) (H0.ob (H0.fo rfl rfl) (by decide)) rfl rfl rfl (Nat.le_of_ble_eq_true rfl) (rokD (by omega) (Nat.le_of_ble_eq_true rfl) (Nat.le_of_ble_eq_true rfl) (Nat.le_of_ble_eq_true rfl)) rfl rfl (fun _ h8 q8 => ?_)
      obtain ⟨rfl, rfl, zb8⟩ := q8
      refine aw_if_ne (tgt := 35) (pc' := 31) dX12_says_28 rfl rfl (fun c10 => ?_) (fun c10 => ?_)
      · replace hf := ifn c10 hf
        exact hk3  hf
      · replace hf := ifp c10 hf
        refine aw_ldcw (pc' := 34) dX12_says_31 rfl ct_RX12_267 ?_
        obtain ⟨rfl, rfl⟩ := so2 hf
        exact aw_ri dX12_says_34 rfl rfl (Nat.le_of_ble_eq_true rfl) (Nat.le_of_ble_eq_true rfl) ⟨rfl, H0, (Mo.rf _)⟩
    · replace hf := ifp c7 hf
      refine aw_iload_n (pc' := 16) dX12_says_15 rfl rfl ?_
      refine aw_iconst (v := (-1)) (pc' := 17) dX12_says_16 rfl ic_m1 ?_
      refine aw_icmp_eq (tgt := 35) (pc' := 20) dX12_says_17 rfl rfl (fun c11 => ?_) (fun c11 => ?_)
      · replace hf := ifp c11 hf
        exact hk3  hf
      · replace hf := ifn c11 hf
        refine aw_goto (tgt := 31) dX12_says_20 rfl ?_
        refine aw_ldcw (pc' := 34) dX12_says_31 rfl ct_RX12_267 ?_
        obtain ⟨rfl, rfl⟩ := so2 hf
        exact aw_ri dX12_says_34 rfl rfl (Nat.le_of_ble_eq_true rfl) (Nat.le_of_ble_eq_true rfl) ⟨rfl, H0, (Mo.rf _)⟩
/-! ThirtyThreeBelowModel.move -/
noncomputable def f_X12_move (s0 : SS) (a0 : Int32) (a1 : Int32) : Option (Int32 × SS) := (b1 (f_X12_isCell a0) fun r1 => (if r1 = (0 : Int32) then some ((-1), s0) else (b1 (f_X12_in a1 ((zS s0 59 1) + (1 : Int32)) (1699 : Int32)) fun r3 => (if r3 = (0 : Int32) then some ((-1), s0) else (if (zS s0 59 56) = (60 : Int32) then some ((-3), s0) else (vl ((zS s0 59 56)) fun v6 => (gd (inB v6 60) (st (pI s0 97 (v6.toInt.toNat) a0) fun s8 => (vl ((zS s8 59 56)) fun v10 => (gd (inB v10 60) (st (pI s8 98 (v10.toInt.toNat) a1) fun s12 => (vl (((zS s12 59 56) + (1 : Int32))) fun v13 => (st (pS s12 59 56 v13) fun s14 => some ((zS s14 59 56), s14))))))))))))))
set_option maxRecDepth 4000 in
theorem t_X12_move {r9 : Int32} {s0 s9 : SS} {h0 : List aE} {a0 : Int32} {a1 : Int32} (H0 : HH s0 h0) (hf : f_X12_move s0 a0 a1 = some (r9, s9)) : AM mX12_move (2) [.ref 67, .int a0, .int a1] h0 0 0 (PI fun r' h' => r9 = r' ∧ HH s9 h' ∧ Mo s0 s9) := by
  unfold f_X12_move at hf
  refine am_of (lv := [some (.ref 67), some (.int a0), some (.int a1)]) rfl (Nat.le_of_ble_eq_true rfl) rfl ?_
  refine aw_iload_n (pc' := 1) dX12_move_0 rfl rfl ?_
  obtain ⟨r1, ec1, hf⟩ := b1_e hf
  refine aw_callSi (M' := mX12_isCell) (nc' := 0) (ns' := 0) (pc' := 4) dX12_move_1 rfl ml_RX12_234 kX12_isCell (t_X12_isCell ec1) rfl rfl (Nat.le_of_ble_eq_true rfl) (rokD (by omega) (Nat.le_of_ble_eq_true rfl) (Nat.le_of_ble_eq_true rfl) (Nat.le_of_ble_eq_true rfl)) rfl rfl (fun _ h1 q1 => ?_)
  obtain ⟨rfl, rfl, zb1⟩ := q1
  refine aw_if_eq (tgt := 23) (pc' := 7) dX12_move_4 rfl rfl (fun c2 => ?_) (fun c2 => ?_)
  · replace hf := ifp c2 hf
    refine aw_iconst (v := (-1)) (pc' := 24) dX12_move_23 rfl ic_m1 ?_
    obtain ⟨rfl, rfl⟩ := so2 hf
    exact aw_ri dX12_move_24 rfl rfl (Nat.le_of_ble_eq_true rfl) (Nat.le_of_ble_eq_true rfl) ⟨rfl, H0, (Mo.rf _)⟩
  · replace hf := ifn c2 hf
    refine aw_iload_n (pc' := 8) dX12_move_7 rfl rfl ?_
    refine aw_aload_n (pc' := 9) dX12_move_8 rfl rfl rfl ?_
    refine aw_gi (q := 59) (pc' := 12) H0 (H0.fo rfl rfl) (l13 rfl) rfl dX12_move_9 rfl fl_RX12_281 ?_
    refine aw_iconst (v := 1) (pc' := 13) dX12_move_12 rfl ic_1 ?_
    refine aw_iadd (pc' := 14) dX12_move_13 rfl ?_
    refine aw_sipush (v := 1699) (pc' := 17) dX12_move_14 rfl sp_1699 ?_
    obtain ⟨r3, ec3, hf⟩ := b1_e hf
    refine aw_callSi (M' := mX12_in) (nc' := 0) (ns' := 0) (pc' := 20) dX12_move_17 rfl ml_RX12_230 kX12_in (t_X12_in ec3) rfl rfl (Nat.le_of_ble_eq_true rfl) (rokD (by omega) (Nat.le_of_ble_eq_true rfl) (Nat.le_of_ble_eq_true rfl) (Nat.le_of_ble_eq_true rfl)) rfl rfl (fun _ h3 q3 => ?_)
    obtain ⟨rfl, rfl, zb3⟩ := q3
    refine aw_if_ne (tgt := 25) (pc' := 23) dX12_move_20 rfl rfl (fun c4 => ?_) (fun c4 => ?_)
    · replace hf := ifn c4 hf
      refine aw_aload_n (pc' := 26) dX12_move_25 rfl rfl rfl ?_
      refine aw_gi (q := 59) (pc' := 29) H0 (H0.fo rfl rfl) (l13 rfl) rfl dX12_move_26 rfl fl_RX12_406 ?_
      refine aw_bipush (v := 60) (pc' := 31) dX12_move_29 rfl bp_60 ?_
      refine aw_icmp_ne (tgt := 37) (pc' := 34) dX12_move_31 rfl rfl (fun c5 => ?_) (fun c5 => ?_)
      · replace hf := ifn c5 hf
        refine aw_aload_n (pc' := 38) dX12_move_37 rfl rfl rfl ?_
        refine aw_gr (q := 59) (e := 77) (v := .ref 105) (pc' := 41) H0 (H0.fo rfl rfl) (l13 rfl) rfl rfl dX12_move_38 rfl fl_RX12_130 ?_
        refine aw_aload_n (pc' := 42) dX12_move_41 rfl rfl rfl ?_
        refine aw_gi (q := 59) (pc' := 45) H0 (H0.fo rfl rfl) (l13 rfl) rfl dX12_move_42 rfl fl_RX12_406 ?_
        refine aw_iload_n (pc' := 46) dX12_move_45 rfl rfl ?_
        obtain ⟨v6, ev6, hf⟩ := vl_e hf
        refine aw_sndi ev6 ?_
        obtain ⟨g7, hf⟩ := gd_e hf
        obtain ⟨s8, es8, hf⟩ := st_e hf
        refine aw_is (q := 97) (pc' := 47) es8 H0 (H0.fa rfl rfl rfl) g7 dX12_move_46 rfl (fun h8 H8 => ?_)
        have m8 := Mo.ofI es8
        refine aw_aload_n (pc' := 48) dX12_move_47 rfl rfl rfl ?_
        refine aw_gr (q := 59) (e := 79) (v := .ref 106) (pc' := 51) H8 (H8.fo rfl rfl) (l13 rfl) rfl rfl dX12_move_48 rfl fl_RX12_133 ?_
        refine aw_aload_n (pc' := 52) dX12_move_51 rfl rfl rfl ?_
        refine aw_gi (q := 59) (pc' := 55) H8 (H8.fo rfl rfl) (l13 rfl) rfl dX12_move_52 rfl fl_RX12_406 ?_
        refine aw_iload_n (pc' := 56) dX12_move_55 rfl rfl ?_
        obtain ⟨v10, ev10, hf⟩ := vl_e hf
        refine aw_sndi ev10 ?_
        obtain ⟨g11, hf⟩ := gd_e hf
        obtain ⟨s12, es12, hf⟩ := st_e hf
        refine aw_is (q := 98) (pc' := 57) es12 H8 (H8.fa rfl rfl rfl) g11 dX12_move_56 rfl (fun h12 H12 => ?_)
        have m12 := Mo.ofI es12
        refine aw_aload_n (pc' := 58) dX12_move_57 rfl rfl rfl ?_
        refine aw_dup (pc' := 59) dX12_move_58 rfl rfl ?_
        refine aw_gi (q := 59) (pc' := 62) H12 (H12.fo rfl rfl) (l13 rfl) rfl dX12_move_59 rfl fl_RX12_406 ?_
        refine aw_iconst (v := 1) (pc' := 63) dX12_move_62 rfl ic_1 ?_
        refine aw_iadd (pc' := 64) dX12_move_63 rfl ?_
        obtain ⟨v13, ev13, hf⟩ := vl_e hf
        refine aw_topi ev13 ?_
        obtain ⟨s14, es14, hf⟩ := st_e hf
        refine aw_pi (q := 59) (pc' := 67) es14 H12 (H12.fo rfl rfl) (by decide) rfl dX12_move_64 rfl fl_RX12_406 rfl (fun h14 H14 => ?_)
        have m14 := Mo.ofS es14
        refine aw_aload_n (pc' := 68) dX12_move_67 rfl rfl rfl ?_
        refine aw_gi (q := 59) (pc' := 71) H14 (H14.fo rfl rfl) (l13 rfl) rfl dX12_move_68 rfl fl_RX12_406 ?_
        obtain ⟨rfl, rfl⟩ := so2 hf
        exact aw_ri dX12_move_71 rfl rfl (Nat.le_of_ble_eq_true rfl) (Nat.le_of_ble_eq_true rfl) ⟨rfl, H14, ((m8.tr m12).tr m14)⟩
      · replace hf := ifp c5 hf
        refine aw_bipush (v := (-3)) (pc' := 36) dX12_move_34 rfl bp_m3 ?_
        obtain ⟨rfl, rfl⟩ := so2 hf
        exact aw_ri dX12_move_36 rfl rfl (Nat.le_of_ble_eq_true rfl) (Nat.le_of_ble_eq_true rfl) ⟨rfl, H0, (Mo.rf _)⟩
    · replace hf := ifp c4 hf
      refine aw_iconst (v := (-1)) (pc' := 24) dX12_move_23 rfl ic_m1 ?_
      obtain ⟨rfl, rfl⟩ := so2 hf
      exact aw_ri dX12_move_24 rfl rfl (Nat.le_of_ble_eq_true rfl) (Nat.le_of_ble_eq_true rfl) ⟨rfl, H0, (Mo.rf _)⟩
/-! ThirtyThreeBelowModel.spoons -/
noncomputable def f_X12_spoons (s0 : SS) (a0 : Int32) : Option (Int32 × SS) := (b1 (f_X12_in a0 (0 : Int32) (9999 : Int32)) fun r1 => (if r1 = (0 : Int32) then some ((-1), s0) else (vl ((zS s0 59 54)) fun v3 => (st (pS s0 59 54 a0) fun s4 => some (v3, s4)))))
set_option maxRecDepth 4000 in
theorem t_X12_spoons {r9 : Int32} {s0 s9 : SS} {h0 : List aE} {a0 : Int32} (H0 : HH s0 h0) (hf : f_X12_spoons s0 a0 = some (r9, s9)) : AM mX12_spoons (1) [.ref 67, .int a0] h0 0 0 (PI fun r' h' => r9 = r' ∧ HH s9 h' ∧ Mo s0 s9) := by
  unfold f_X12_spoons at hf
  refine am_of (lv := [some (.ref 67), some (.int a0), none]) rfl (Nat.le_of_ble_eq_true rfl) rfl ?_
  refine aw_iload_n (pc' := 1) dX12_spoons_0 rfl rfl ?_
  refine aw_iconst (v := 0) (pc' := 2) dX12_spoons_1 rfl ic_0 ?_
  refine aw_sipush (v := 9999) (pc' := 5) dX12_spoons_2 rfl sp_9999 ?_
  obtain ⟨r1, ec1, hf⟩ := b1_e hf
  refine aw_callSi (M' := mX12_in) (nc' := 0) (ns' := 0) (pc' := 8) dX12_spoons_5 rfl ml_RX12_230 kX12_in (t_X12_in ec1) rfl rfl (Nat.le_of_ble_eq_true rfl) (rokD (by omega) (Nat.le_of_ble_eq_true rfl) (Nat.le_of_ble_eq_true rfl) (Nat.le_of_ble_eq_true rfl)) rfl rfl (fun _ h1 q1 => ?_)
  obtain ⟨rfl, rfl, zb1⟩ := q1
  refine aw_if_ne (tgt := 13) (pc' := 11) dX12_spoons_8 rfl rfl (fun c2 => ?_) (fun c2 => ?_)
  · replace hf := ifn c2 hf
    refine aw_aload_n (pc' := 14) dX12_spoons_13 rfl rfl rfl ?_
    refine aw_gi (q := 59) (pc' := 17) H0 (H0.fo rfl rfl) (l13 rfl) rfl dX12_spoons_14 rfl fl_RX12_397 ?_
    obtain ⟨v3, ev3, hf⟩ := vl_e hf
    refine aw_topi ev3 ?_
    refine aw_istore_n (lv' := [_, _, _]) (pc' := 18) dX12_spoons_17 rfl (Nat.le_of_ble_eq_true rfl) rfl ?_
    refine aw_aload_n (pc' := 19) dX12_spoons_18 rfl rfl rfl ?_
    refine aw_iload_n (pc' := 20) dX12_spoons_19 rfl rfl ?_
    obtain ⟨s4, es4, hf⟩ := st_e hf
    refine aw_pi (q := 59) (pc' := 23) es4 H0 (H0.fo rfl rfl) (by decide) rfl dX12_spoons_20 rfl fl_RX12_397 rfl (fun h4 H4 => ?_)
    have m4 := Mo.ofS es4
    refine aw_iload_n (pc' := 24) dX12_spoons_23 rfl rfl ?_
    obtain ⟨rfl, rfl⟩ := so2 hf
    exact aw_ri dX12_spoons_24 rfl rfl (Nat.le_of_ble_eq_true rfl) (Nat.le_of_ble_eq_true rfl) ⟨rfl, H4, m4⟩
  · replace hf := ifp c2 hf
    refine aw_iconst (v := (-1)) (pc' := 12) dX12_spoons_11 rfl ic_m1 ?_
    obtain ⟨rfl, rfl⟩ := so2 hf
    exact aw_ri dX12_spoons_12 rfl rfl (Nat.le_of_ble_eq_true rfl) (Nat.le_of_ble_eq_true rfl) ⟨rfl, H0, (Mo.rf _)⟩
/-! ThirtyThreeBelowModel.drill -/
noncomputable def f_X12_drill_L2_b (q0 : SS → Option SS) (rc : SS → Int32 → Option SS) (s : SS) (x1 : Int32) : Option SS := (if x1 < (zS s 59 4) then (gd (inB x1 120) (st (pI s 99 (x1.toInt.toNat) ((0 : Int32) &&& 1)) fun s3 => (vl (x1 + 1) fun v4 => (rc s3 v4)))) else (q0 s))
noncomputable def f_X12_drill_L2 (q0 : SS → Option SS) : Nat → SS → Int32 → Option SS
  | 0, _, _ => none
  | n + 1, s, x1 => f_X12_drill_L2_b q0 (f_X12_drill_L2 q0 n) s x1
set_option maxRecDepth 4000 in
theorem t_X12_drill_L2 {s0 sb s9 : SS} {q0 : SS → Option SS} (mb : Mo s0 sb) (hq0 : ∀ (s : SS) (h : List aE), HH s h → Mo sb s → q0 s = some s9 → AW mX12_drill (rmD (4) 0 0) (fin (PV fun h' => HH s9 h' ∧ Mo s0 s9) 0 0) 23 [some (.ref 67), none] [] h 0 0) : ∀ (n : Nat) (s : SS) (h : List aE) (x1 : Int32), HH s h → Mo sb s → f_X12_drill_L2 q0 n s x1 = some s9 → AW mX12_drill (rmD (4) 0 0) (fin (PV fun h' => HH s9 h' ∧ Mo s0 s9) 0 0) 2 [some (.ref 67), some (.int x1)] [] h 0 0 := by
  intro n
  induction n with
  | zero =>
    intro s h x1 H ms hf
    cases hf
  | succ n ih =>
    intro s h x1 H ms hf
    replace hf : f_X12_drill_L2_b q0 (f_X12_drill_L2 q0 n) s x1 = some s9 := hf
    unfold f_X12_drill_L2_b at hf
    refine aw_iload_n (pc' := 3) dX12_drill_2 rfl rfl ?_
    refine aw_aload_n (pc' := 4) dX12_drill_3 rfl rfl rfl ?_
    refine aw_gi (q := 59) (pc' := 7) H (H.fo rfl rfl) (by decide) rfl dX12_drill_4 rfl fl_RX12_242 ?_
    refine aw_cge (tgt := 23) (pc' := 10) dX12_drill_7 rfl rfl (fun c1 => ?_) (fun c1 => ?_)
    · replace hf := ifn c1 hf
      refine AW.lv_le (lz_k (lz_d lz_0)) ?_
      exact hq0 _ _ H ms hf
    · replace hf := ifp c1 hf
      refine aw_aload_n (pc' := 11) dX12_drill_10 rfl rfl rfl ?_
      refine aw_gr (q := 59) (e := 81) (v := .ref 107) (pc' := 14) H (H.fo rfl rfl) (by decide) rfl rfl dX12_drill_11 rfl fl_RX12_136 ?_
      refine aw_iload_n (pc' := 15) dX12_drill_14 rfl rfl ?_
      refine aw_iconst (v := 0) (pc' := 16) dX12_drill_15 rfl ic_0 ?_
      obtain ⟨g2, hf⟩ := gd_e hf
      obtain ⟨s3, es3, hf⟩ := st_e hf
      refine aw_zs (q := 99) (pc' := 17) es3 H (H.fa rfl rfl rfl) g2 dX12_drill_16 rfl (fun h3 H3 => ?_)
      have m3 := Mo.ofI es3
      obtain ⟨v4, ev4, hf⟩ := vl_e hf
      refine aw_iincV (y := v4) (lv' := [_, _]) (pc' := 20) dX12_drill_17 rfl rfl (Nat.le_of_ble_eq_true rfl) ev4 rfl ?_
      refine aw_goto (tgt := 2) dX12_drill_20 rfl ?_
      exact ih _ _ _ H3 (ms.tr m3) hf
noncomputable def f_X12_drill_L36_b (q0 : SS → Option SS) (rc : SS → Int32 → Option SS) (s : SS) (x1 : Int32) : Option SS := (if x1 < (3 : Int32) then (gd (inB x1 3) (jn (fun (s11 : SS)  => (vl (x1 + 1) fun v12 => (rc s11 v12))) fun k11 => (if (zI s 79 (x1.toInt.toNat)) < (0 : Int32) then (k11 s) else (gd (inB x1 3) (if (zI s 80 (x1.toInt.toNat)) < (zS s 59 1) then (gd (inB x1 3) (vl ((zI s 79 (x1.toInt.toNat))) fun v17 => (gd (inB v17 120) (vl (((zI s 68 (v17.toInt.toNat)) + (60 : Int32))) fun v19 => (vl ((zI s 79 (x1.toInt.toNat))) fun v20 => (gd (inB v20 120) (st (pI s 68 (v20.toInt.toNat) v19) fun s22 => (gd (inB x1 3) (vl ((zI s22 79 (x1.toInt.toNat))) fun v24 => (gd (inB v24 120) (st (pI s22 99 (v24.toInt.toNat) ((1 : Int32) &&& 1)) fun s26 => (gd (inB x1 3) (gd (inB x1 3) (vl ((zI s26 78 (x1.toInt.toNat))) fun v29 => (vl ((zI s26 79 (x1.toInt.toNat))) fun v30 => (gd (inB v30 120) (st (pI s26 100 (v30.toInt.toNat) v29) fun s32 => (k11 s32)))))))))))))))))) else (k11 s)))))) else (q0 s))
noncomputable def f_X12_drill_L36 (q0 : SS → Option SS) : Nat → SS → Int32 → Option SS
  | 0, _, _ => none
  | n + 1, s, x1 => f_X12_drill_L36_b q0 (f_X12_drill_L36 q0 n) s x1
set_option maxRecDepth 4000 in
theorem t_X12_drill_L36 {s0 sb s9 : SS} {q0 : SS → Option SS} (mb : Mo s0 sb) (hq0 : ∀ (s : SS) (h : List aE), HH s h → Mo sb s → q0 s = some s9 → AW mX12_drill (rmD (4) 0 0) (fin (PV fun h' => HH s9 h' ∧ Mo s0 s9) 0 0) 117 [some (.ref 67), none] [] h 0 0) : ∀ (n : Nat) (s : SS) (h : List aE) (x1 : Int32), HH s h → Mo sb s → f_X12_drill_L36 q0 n s x1 = some s9 → AW mX12_drill (rmD (4) 0 0) (fin (PV fun h' => HH s9 h' ∧ Mo s0 s9) 0 0) 36 [some (.ref 67), some (.int x1)] [] h 0 0 := by
  intro n
  induction n with
  | zero =>
    intro s h x1 H ms hf
    cases hf
  | succ n ih =>
    intro s h x1 H ms hf
    replace hf : f_X12_drill_L36_b q0 (f_X12_drill_L36 q0 n) s x1 = some s9 := hf
    unfold f_X12_drill_L36_b at hf
    refine aw_iload_n (pc' := 37) dX12_drill_36 rfl rfl ?_
    refine aw_iconst (v := 3) (pc' := 38) dX12_drill_37 rfl ic_3 ?_
    refine aw_cge (tgt := 117) (pc' := 41) dX12_drill_38 rfl rfl (fun c8 => ?_) (fun c8 => ?_)
    · replace hf := ifn c8 hf
      refine AW.lv_le (lz_k (lz_d lz_0)) ?_
      exact hq0 _ _ H ms hf
    · replace hf := ifp c8 hf
      refine aw_aload_n (pc' := 42) dX12_drill_41 rfl rfl rfl ?_
      refine aw_gr (q := 59) (e := 41) (v := .ref 87) (pc' := 45) H (H.fo rfl rfl) (by decide) rfl rfl dX12_drill_42 rfl fl_RX12_72 ?_
      refine aw_iload_n (pc' := 46) dX12_drill_45 rfl rfl ?_
      obtain ⟨g10, hf⟩ := gd_e hf
      refine aw_ia (q := 79) (pc' := 47) H (H.fa rfl rfl rfl) g10 dX12_drill_46 rfl ?_
      obtain ⟨k11, ek11, hf⟩ := jn_e hf
      have hk11 : ∀ (s11 : SS) (h11 : List aE), HH s11 h11 → Mo s s11 → k11 s11 = some s9 → AW mX12_drill (rmD (4) 0 0) (fin (PV fun h' => HH s9 h' ∧ Mo s0 s9) 0 0) 111 [some (.ref 67), some (.int x1)] [] h11 0 0 := by
        intro s11 h11 H11 m11 hf
        subst ek11
        obtain ⟨v12, ev12, hf⟩ := vl_e hf
        refine aw_iincV (y := v12) (lv' := [_, _]) (pc' := 114) dX12_drill_111 rfl rfl (Nat.le_of_ble_eq_true rfl) ev12 rfl ?_
        refine aw_goto (tgt := 36) dX12_drill_114 rfl ?_
        exact ih _ _ _ H11 (ms.tr m11) hf
      clear ek11
      refine aw_zlt (tgt := 111) (pc' := 50) dX12_drill_47 rfl rfl (fun c13 => ?_) (fun c13 => ?_)
      · replace hf := ifp c13 hf
        exact hk11 _ _ H (Mo.rf _) hf
      · replace hf := ifn c13 hf
        refine aw_aload_n (pc' := 51) dX12_drill_50 rfl rfl rfl ?_
        refine aw_gi (q := 59) (pc' := 54) H (H.fo rfl rfl) (by decide) rfl dX12_drill_51 rfl fl_RX12_281 ?_
        refine aw_aload_n (pc' := 55) dX12_drill_54 rfl rfl rfl ?_
        refine aw_gr (q := 59) (e := 43) (v := .ref 88) (pc' := 58) H (H.fo rfl rfl) (by decide) rfl rfl dX12_drill_55 rfl fl_RX12_75 ?_
        refine aw_iload_n (pc' := 59) dX12_drill_58 rfl rfl ?_
        obtain ⟨g14, hf⟩ := gd_e hf
        refine aw_ia (q := 80) (pc' := 60) H (H.fa rfl rfl rfl) g14 dX12_drill_59 rfl ?_
        refine aw_cgt (tgt := 66) (pc' := 63) dX12_drill_60 rfl rfl (fun c15 => ?_) (fun c15 => ?_)
        · replace hf := ifp c15 hf
          refine aw_aload_n (pc' := 67) dX12_drill_66 rfl rfl rfl ?_
          refine aw_gr (q := 59) (e := 19) (v := .ref 76) (pc' := 70) H (H.fo rfl rfl) (by decide) rfl rfl dX12_drill_67 rfl fl_RX12_35 ?_
          refine aw_aload_n (pc' := 71) dX12_drill_70 rfl rfl rfl ?_
          refine aw_gr (q := 59) (e := 41) (v := .ref 87) (pc' := 74) H (H.fo rfl rfl) (by decide) rfl rfl dX12_drill_71 rfl fl_RX12_72 ?_
          refine aw_iload_n (pc' := 75) dX12_drill_74 rfl rfl ?_
          obtain ⟨g16, hf⟩ := gd_e hf
          refine aw_ia (q := 79) (pc' := 76) H (H.fa rfl rfl rfl) g16 dX12_drill_75 rfl ?_
          refine aw_dup2 (pc' := 77) dX12_drill_76 rfl rfl rfl ?_
          obtain ⟨v17, ev17, hf⟩ := vl_e hf
          refine aw_topi ev17 ?_
          obtain ⟨g18, hf⟩ := gd_e hf
          refine aw_ia (q := 68) (pc' := 78) H (H.fa rfl rfl rfl) g18 dX12_drill_77 rfl ?_
          refine aw_bipush (v := 60) (pc' := 80) dX12_drill_78 rfl bp_60 ?_
          refine aw_iadd (pc' := 81) dX12_drill_80 rfl ?_
          obtain ⟨v19, ev19, hf⟩ := vl_e hf
          refine aw_topi ev19 ?_
          obtain ⟨v20, ev20, hf⟩ := vl_e hf
          refine aw_sndi ev20 ?_
          obtain ⟨g21, hf⟩ := gd_e hf
          obtain ⟨s22, es22, hf⟩ := st_e hf
          refine aw_is (q := 68) (pc' := 82) es22 H (H.fa rfl rfl rfl) g21 dX12_drill_81 rfl (fun h22 H22 => ?_)
          have m22 := Mo.ofI es22
          refine aw_aload_n (pc' := 83) dX12_drill_82 rfl rfl rfl ?_
          refine aw_gr (q := 59) (e := 81) (v := .ref 107) (pc' := 86) H22 (H22.fo rfl rfl) (l13 rfl) rfl rfl dX12_drill_83 rfl fl_RX12_136 ?_
          refine aw_aload_n (pc' := 87) dX12_drill_86 rfl rfl rfl ?_
          refine aw_gr (q := 59) (e := 41) (v := .ref 87) (pc' := 90) H22 (H22.fo rfl rfl) (l13 rfl) rfl rfl dX12_drill_87 rfl fl_RX12_72 ?_
          refine aw_iload_n (pc' := 91) dX12_drill_90 rfl rfl ?_
          obtain ⟨g23, hf⟩ := gd_e hf
          refine aw_ia (q := 79) (pc' := 92) H22 (H22.fa rfl rfl rfl) g23 dX12_drill_91 rfl ?_
          refine aw_iconst (v := 1) (pc' := 93) dX12_drill_92 rfl ic_1 ?_
          obtain ⟨v24, ev24, hf⟩ := vl_e hf
          refine aw_sndi ev24 ?_
          obtain ⟨g25, hf⟩ := gd_e hf
          obtain ⟨s26, es26, hf⟩ := st_e hf
          refine aw_zs (q := 99) (pc' := 94) es26 H22 (H22.fa rfl rfl rfl) g25 dX12_drill_93 rfl (fun h26 H26 => ?_)
          have m26 := Mo.ofI es26
          refine aw_aload_n (pc' := 95) dX12_drill_94 rfl rfl rfl ?_
          refine aw_gr (q := 59) (e := 83) (v := .ref 108) (pc' := 98) H26 (H26.fo rfl rfl) (l13 rfl) rfl rfl dX12_drill_95 rfl fl_RX12_139 ?_
          refine aw_aload_n (pc' := 99) dX12_drill_98 rfl rfl rfl ?_
          refine aw_gr (q := 59) (e := 41) (v := .ref 87) (pc' := 102) H26 (H26.fo rfl rfl) (l13 rfl) rfl rfl dX12_drill_99 rfl fl_RX12_72 ?_
          refine aw_iload_n (pc' := 103) dX12_drill_102 rfl rfl ?_
          obtain ⟨g27, hf⟩ := gd_e hf
          refine aw_ia (q := 79) (pc' := 104) H26 (H26.fa rfl rfl rfl) g27 dX12_drill_103 rfl ?_
          refine aw_aload_n (pc' := 105) dX12_drill_104 rfl rfl rfl ?_
          refine aw_gr (q := 59) (e := 39) (v := .ref 86) (pc' := 108) H26 (H26.fo rfl rfl) (l13 rfl) rfl rfl dX12_drill_105 rfl fl_RX12_69 ?_
          refine aw_iload_n (pc' := 109) dX12_drill_108 rfl rfl ?_
          obtain ⟨g28, hf⟩ := gd_e hf
          refine aw_ia (q := 78) (pc' := 110) H26 (H26.fa rfl rfl rfl) g28 dX12_drill_109 rfl ?_
          obtain ⟨v29, ev29, hf⟩ := vl_e hf
          refine aw_topi ev29 ?_
          obtain ⟨v30, ev30, hf⟩ := vl_e hf
          refine aw_sndi ev30 ?_
          obtain ⟨g31, hf⟩ := gd_e hf
          obtain ⟨s32, es32, hf⟩ := st_e hf
          refine aw_is (q := 100) (pc' := 111) es32 H26 (H26.fa rfl rfl rfl) g31 dX12_drill_110 rfl (fun h32 H32 => ?_)
          have m32 := Mo.ofI es32
          exact hk11 _ _ H32 ((m22.tr m26).tr m32) hf
        · replace hf := ifn c15 hf
          refine aw_goto (tgt := 111) dX12_drill_63 rfl ?_
          exact hk11 _ _ H (Mo.rf _) hf
noncomputable def f_X12_drill_L119_b  (rc : SS → Int32 → Option SS) (s : SS) (x1 : Int32) : Option SS := (if x1 < (zS s 59 4) then (gd (inB x1 120) (jn (fun (s36 : SS)  => (vl (x1 + 1) fun v37 => (rc s36 v37))) fun k36 => (if (zI s 99 (x1.toInt.toNat)) = (0 : Int32) then (k36 s) else (gd (inB x1 120) (b1 (f_X12_bore s x1 (zI s 100 (x1.toInt.toNat))) fun s40 => (k36 s40)))))) else some s)
noncomputable def f_X12_drill_L119  : Nat → SS → Int32 → Option SS
  | 0, _, _ => none
  | n + 1, s, x1 => f_X12_drill_L119_b  (f_X12_drill_L119  n) s x1
set_option maxRecDepth 4000 in
theorem t_X12_drill_L119 {s0 sb s9 : SS} (mb : Mo s0 sb)  : ∀ (n : Nat) (s : SS) (h : List aE) (x1 : Int32), HH s h → Mo sb s → f_X12_drill_L119  n s x1 = some s9 → AW mX12_drill (rmD (4) 0 0) (fin (PV fun h' => HH s9 h' ∧ Mo s0 s9) 0 0) 119 [some (.ref 67), some (.int x1)] [] h 0 0 := by
  intro n
  induction n with
  | zero =>
    intro s h x1 H ms hf
    cases hf
  | succ n ih =>
    intro s h x1 H ms hf
    replace hf : f_X12_drill_L119_b  (f_X12_drill_L119  n) s x1 = some s9 := hf
    unfold f_X12_drill_L119_b at hf
    refine aw_iload_n (pc' := 120) dX12_drill_119 rfl rfl ?_
    refine aw_aload_n (pc' := 121) dX12_drill_120 rfl rfl rfl ?_
    refine aw_gi (q := 59) (pc' := 124) H (H.fo rfl rfl) (by decide) rfl dX12_drill_121 rfl fl_RX12_242 ?_
    refine aw_cge (tgt := 153) (pc' := 127) dX12_drill_124 rfl rfl (fun c34 => ?_) (fun c34 => ?_)
    · replace hf := ifn c34 hf
      obtain rfl := Option.some.inj hf
      exact aw_rv dX12_drill_153 rfl (Nat.le_of_ble_eq_true rfl) (Nat.le_of_ble_eq_true rfl) ⟨H, (mb.tr ms)⟩
    · replace hf := ifp c34 hf
      refine aw_aload_n (pc' := 128) dX12_drill_127 rfl rfl rfl ?_
      refine aw_gr (q := 59) (e := 81) (v := .ref 107) (pc' := 131) H (H.fo rfl rfl) (by decide) rfl rfl dX12_drill_128 rfl fl_RX12_136 ?_
      refine aw_iload_n (pc' := 132) dX12_drill_131 rfl rfl ?_
      obtain ⟨g35, hf⟩ := gd_e hf
      refine aw_za (q := 99) (pc' := 133) H (H.fa rfl rfl rfl) g35 dX12_drill_132 rfl ?_
      obtain ⟨k36, ek36, hf⟩ := jn_e hf
      have hk36 : ∀ (s36 : SS) (h36 : List aE), HH s36 h36 → Mo s s36 → k36 s36 = some s9 → AW mX12_drill (rmD (4) 0 0) (fin (PV fun h' => HH s9 h' ∧ Mo s0 s9) 0 0) 147 [some (.ref 67), some (.int x1)] [] h36 0 0 := by
        intro s36 h36 H36 m36 hf
        subst ek36
        obtain ⟨v37, ev37, hf⟩ := vl_e hf
        refine aw_iincV (y := v37) (lv' := [_, _]) (pc' := 150) dX12_drill_147 rfl rfl (Nat.le_of_ble_eq_true rfl) ev37 rfl ?_
        refine aw_goto (tgt := 119) dX12_drill_150 rfl ?_
        exact ih _ _ _ H36 (ms.tr m36) hf
      clear ek36
      refine aw_if_eq (tgt := 147) (pc' := 136) dX12_drill_133 rfl rfl (fun c38 => ?_) (fun c38 => ?_)
      · replace hf := ifp c38 hf
        exact hk36 _ _ H (Mo.rf _) hf
      · replace hf := ifn c38 hf
        refine aw_aload_n (pc' := 137) dX12_drill_136 rfl rfl rfl ?_
        refine aw_iload_n (pc' := 138) dX12_drill_137 rfl rfl ?_
        refine aw_aload_n (pc' := 139) dX12_drill_138 rfl rfl rfl ?_
        refine aw_gr (q := 59) (e := 83) (v := .ref 108) (pc' := 142) H (H.fo rfl rfl) (by decide) rfl rfl dX12_drill_139 rfl fl_RX12_139 ?_
        refine aw_iload_n (pc' := 143) dX12_drill_142 rfl rfl ?_
        obtain ⟨g39, hf⟩ := gd_e hf
        refine aw_ia (q := 100) (pc' := 144) H (H.fa rfl rfl rfl) g39 dX12_drill_143 rfl ?_
        obtain ⟨s40, ec40, hf⟩ := b1_e hf
        refine aw_callVv (M' := mX12_bore) (nc' := 0) (ns' := 0) (pc' := 147) dX12_drill_144 rfl ml_RX12_409 kX12_bore (t_X12_bore H ec40) (H.ob (H.fo rfl rfl) (by decide)) rfl rfl rfl (Nat.le_of_ble_eq_true rfl) (rokD (by omega) (Nat.le_of_ble_eq_true rfl) (Nat.le_of_ble_eq_true rfl) (Nat.le_of_ble_eq_true rfl)) rfl rfl (fun h40 q40 => ?_)
        obtain ⟨H40, m40⟩ := q40
        exact hk36 _ _ H40 m40 hf
noncomputable def f_X12_drill (s0 : SS)  : Option SS := (f_X12_drill_L2 (fun (s5 : SS)  => (bd (f_X12_saysNow s5 2 (-1) 0) fun r6 s6 => (if r6 = (0 : Int32) then (f_X12_drill_L36 (fun (s33 : SS)  => (f_X12_drill_L119 4000 s33 0)) 4000 s6 0) else some s6))) 4000 s0 0)
set_option maxRecDepth 4000 in
theorem t_X12_drill {s0 s9 : SS} {h0 : List aE}  (H0 : HH s0 h0) (hf : f_X12_drill s0 = some s9) : AM mX12_drill (4) [.ref 67] h0 0 0 (PV fun h' => HH s9 h' ∧ Mo s0 s9) := by
  unfold f_X12_drill at hf
  refine am_of (lv := [some (.ref 67), none]) rfl (Nat.le_of_ble_eq_true rfl) rfl ?_
  refine aw_iconst (v := 0) (pc' := 1) dX12_drill_0 rfl ic_0 ?_
  refine aw_istore_n (lv' := [_, _]) (pc' := 2) dX12_drill_1 rfl (Nat.le_of_ble_eq_true rfl) rfl ?_
  refine t_X12_drill_L2 (Mo.rf _) (fun s5 h5 H5 m5 hf => ?_) 4000 _ _ _ H0 (Mo.rf _) hf
  refine aw_aload_n (pc' := 24) dX12_drill_23 rfl rfl rfl ?_
  refine aw_iconst (v := 2) (pc' := 25) dX12_drill_24 rfl ic_2 ?_
  refine aw_iconst (v := (-1)) (pc' := 26) dX12_drill_25 rfl ic_m1 ?_
  refine aw_iconst (v := 0) (pc' := 27) dX12_drill_26 rfl ic_0 ?_
  obtain ⟨r6, s6, ec6, hf⟩ := bd_e hf
  refine aw_callVi (M' := mX12_saysNow) (nc' := 0) (ns' := 0) (pc' := 30) dX12_drill_27 rfl ml_RX12_403 kX12_saysNow (t_X12_saysNow H5 ec6) (H5.ob (H5.fo rfl rfl) (by decide)) rfl rfl rfl (Nat.le_of_ble_eq_true rfl) (rokD (by omega) (Nat.le_of_ble_eq_true rfl) (Nat.le_of_ble_eq_true rfl) (Nat.le_of_ble_eq_true rfl)) rfl rfl (fun _ h6 q6 => ?_)
  obtain ⟨rfl, H6, m6⟩ := q6
  refine aw_if_eq (tgt := 34) (pc' := 33) dX12_drill_30 rfl rfl (fun c7 => ?_) (fun c7 => ?_)
  · replace hf := ifp c7 hf
    refine aw_iconst (v := 0) (pc' := 35) dX12_drill_34 rfl ic_0 ?_
    refine aw_istore_n (lv' := [_, _]) (pc' := 36) dX12_drill_35 rfl (Nat.le_of_ble_eq_true rfl) rfl ?_
    refine t_X12_drill_L36 (m5.tr m6) (fun s33 h33 H33 m33 hf => ?_) 4000 _ _ _ H6 (Mo.rf _) hf
    refine aw_iconst (v := 0) (pc' := 118) dX12_drill_117 rfl ic_0 ?_
    refine aw_istore_n (lv' := [_, _]) (pc' := 119) dX12_drill_118 rfl (Nat.le_of_ble_eq_true rfl) rfl ?_
    refine t_X12_drill_L119 ((m5.tr m6).tr m33)  4000 _ _ _ H33 (Mo.rf _) hf
  · replace hf := ifn c7 hf
    obtain rfl := Option.some.inj hf
    exact aw_rv dX12_drill_33 rfl (Nat.le_of_ble_eq_true rfl) (Nat.le_of_ble_eq_true rfl) ⟨H6, (m5.tr m6)⟩
/-! ThirtyThreeBelowModel.eat -/
noncomputable def f_X12_eat_L2_b  (rc : SS → Int32 → Option SS) (s : SS) (x1 : Int32) : Option SS := (if x1 < (zS s 59 4) then (gd (inB x1 120) (jn (fun (s3 : SS)  => (vl (x1 + 1) fun v4 => (rc s3 v4))) fun k3 => (if (zI s 77 (x1.toInt.toNat)) = (0 : Int32) then (k3 s) else (bd (f_X12_saysNow s 10 x1 1) fun r6 s6 => (b1 (f_X12_held r6 (0 : Int32) (9 : Int32)) fun r7 => (jn (fun (t8_0 : Int32) => (vl (((zS s6 59 54) - t8_0)) fun v10 => (st (pS s6 59 54 v10) fun s11 => (vl (((zS s11 59 55) + t8_0)) fun v12 => (st (pS s11 59 55 v12) fun s13 => (gd (inB x1 120) (b1 (f_X12_held (((zI s13 74 (x1.toInt.toNat)) - (6 : Int32)) + ((2 : Int32) * t8_0)) (0 : Int32) (999 : Int32)) fun r15 => (gd (inB x1 120) (st (pI s13 74 (x1.toInt.toNat) r15) fun s17 => (k3 s17)))))))))) fun k8 => (if r7 < (zS s6 59 54) then (k8 r7) else (k8 (zS s6 59 54))))))))) else some s)
noncomputable def f_X12_eat_L2  : Nat → SS → Int32 → Option SS
  | 0, _, _ => none
  | n + 1, s, x1 => f_X12_eat_L2_b  (f_X12_eat_L2  n) s x1
set_option maxRecDepth 4000 in
theorem t_X12_eat_L2 {s0 sb s9 : SS} (mb : Mo s0 sb)  : ∀ (n : Nat) (s : SS) (h : List aE) (x1 : Int32), HH s h → Mo sb s → f_X12_eat_L2  n s x1 = some s9 → AW mX12_eat (rmD (4) 0 0) (fin (PV fun h' => HH s9 h' ∧ Mo s0 s9) 0 0) 2 [some (.ref 67), some (.int x1), none] [] h 0 0 := by
  intro n
  induction n with
  | zero =>
    intro s h x1 H ms hf
    cases hf
  | succ n ih =>
    intro s h x1 H ms hf
    replace hf : f_X12_eat_L2_b  (f_X12_eat_L2  n) s x1 = some s9 := hf
    unfold f_X12_eat_L2_b at hf
    refine aw_iload_n (pc' := 3) dX12_eat_2 rfl rfl ?_
    refine aw_aload_n (pc' := 4) dX12_eat_3 rfl rfl rfl ?_
    refine aw_gi (q := 59) (pc' := 7) H (H.fo rfl rfl) (by decide) rfl dX12_eat_4 rfl fl_RX12_242 ?_
    refine aw_cge (tgt := 106) (pc' := 10) dX12_eat_7 rfl rfl (fun c1 => ?_) (fun c1 => ?_)
    · replace hf := ifn c1 hf
      obtain rfl := Option.some.inj hf
      exact aw_rv dX12_eat_106 rfl (Nat.le_of_ble_eq_true rfl) (Nat.le_of_ble_eq_true rfl) ⟨H, (mb.tr ms)⟩
    · replace hf := ifp c1 hf
      refine aw_aload_n (pc' := 11) dX12_eat_10 rfl rfl rfl ?_
      refine aw_gr (q := 59) (e := 37) (v := .ref 85) (pc' := 14) H (H.fo rfl rfl) (by decide) rfl rfl dX12_eat_11 rfl fl_RX12_62 ?_
      refine aw_iload_n (pc' := 15) dX12_eat_14 rfl rfl ?_
      obtain ⟨g2, hf⟩ := gd_e hf
      refine aw_za (q := 77) (pc' := 16) H (H.fa rfl rfl rfl) g2 dX12_eat_15 rfl ?_
      obtain ⟨k3, ek3, hf⟩ := jn_e hf
      have hk3 : ∀ (s3 : SS) (h3 : List aE), HH s3 h3 → Mo s s3 → k3 s3 = some s9 → AW mX12_eat (rmD (4) 0 0) (fin (PV fun h' => HH s9 h' ∧ Mo s0 s9) 0 0) 100 [some (.ref 67), some (.int x1), none] [] h3 0 0 := by
        intro s3 h3 H3 m3 hf
        subst ek3
        obtain ⟨v4, ev4, hf⟩ := vl_e hf
        refine aw_iincV (y := v4) (lv' := [_, _, _]) (pc' := 103) dX12_eat_100 rfl rfl (Nat.le_of_ble_eq_true rfl) ev4 rfl ?_
        refine aw_goto (tgt := 2) dX12_eat_103 rfl ?_
        exact ih _ _ _ H3 (ms.tr m3) hf
      clear ek3
      refine aw_if_ne (tgt := 22) (pc' := 19) dX12_eat_16 rfl rfl (fun c5 => ?_) (fun c5 => ?_)
      · replace hf := ifn c5 hf
        refine aw_aload_n (pc' := 23) dX12_eat_22 rfl rfl rfl ?_
        refine aw_bipush (v := 10) (pc' := 25) dX12_eat_23 rfl bp_10 ?_
        refine aw_iload_n (pc' := 26) dX12_eat_25 rfl rfl ?_
        refine aw_iconst (v := 1) (pc' := 27) dX12_eat_26 rfl ic_1 ?_
        obtain ⟨r6, s6, ec6, hf⟩ := bd_e hf
        refine aw_callVi (M' := mX12_saysNow) (nc' := 0) (ns' := 0) (pc' := 30) dX12_eat_27 rfl ml_RX12_403 kX12_saysNow (t_X12_saysNow H ec6) (H.ob (H.fo rfl rfl) (by decide)) rfl rfl rfl (Nat.le_of_ble_eq_true rfl) (rokD (by omega) (Nat.le_of_ble_eq_true rfl) (Nat.le_of_ble_eq_true rfl) (Nat.le_of_ble_eq_true rfl)) rfl rfl (fun _ h6 q6 => ?_)
        obtain ⟨rfl, H6, m6⟩ := q6
        refine aw_iconst (v := 0) (pc' := 31) dX12_eat_30 rfl ic_0 ?_
        refine aw_bipush (v := 9) (pc' := 33) dX12_eat_31 rfl bp_9 ?_
        obtain ⟨r7, ec7, hf⟩ := b1_e hf
        refine aw_callSi (M' := mX12_held) (nc' := 0) (ns' := 0) (pc' := 36) dX12_eat_33 rfl ml_RX12_284 kX12_held (t_X12_held ec7) rfl rfl (Nat.le_of_ble_eq_true rfl) (rokD (by omega) (Nat.le_of_ble_eq_true rfl) (Nat.le_of_ble_eq_true rfl) (Nat.le_of_ble_eq_true rfl)) rfl rfl (fun _ h7 q7 => ?_)
        obtain ⟨rfl, rfl⟩ := q7
        refine aw_istore_n (lv' := [_, _, _]) (pc' := 37) dX12_eat_36 rfl (Nat.le_of_ble_eq_true rfl) rfl ?_
        refine aw_iload_n (pc' := 38) dX12_eat_37 rfl rfl ?_
        refine aw_aload_n (pc' := 39) dX12_eat_38 rfl rfl rfl ?_
        refine aw_gi (q := 59) (pc' := 42) H6 (H6.fo rfl rfl) (l13 rfl) rfl dX12_eat_39 rfl fl_RX12_397 ?_
        obtain ⟨k8, ek8, hf⟩ := jn_e hf
        have hk8 : ∀ (t8_0 : Int32), k8 t8_0 = some s9 → AW mX12_eat (rmD (4) 0 0) (fin (PV fun h' => HH s9 h' ∧ Mo s0 s9) 0 0) 53 [some (.ref 67), some (.int x1), none] [.int t8_0] h6 0 0 := by
          intro t8_0 hf
          subst ek8
          refine aw_istore_n (lv' := [_, _, _]) (pc' := 54) dX12_eat_53 rfl (Nat.le_of_ble_eq_true rfl) rfl ?_
          refine aw_aload_n (pc' := 55) dX12_eat_54 rfl rfl rfl ?_
          refine aw_dup (pc' := 56) dX12_eat_55 rfl rfl ?_
          refine aw_gi (q := 59) (pc' := 59) H6 (H6.fo rfl rfl) (l13 rfl) rfl dX12_eat_56 rfl fl_RX12_397 ?_
          refine aw_iload_n (pc' := 60) dX12_eat_59 rfl rfl ?_
          refine aw_isub (pc' := 61) dX12_eat_60 rfl ?_
          obtain ⟨v10, ev10, hf⟩ := vl_e hf
          refine aw_topi ev10 ?_
          obtain ⟨s11, es11, hf⟩ := st_e hf
          refine aw_pi (q := 59) (pc' := 64) es11 H6 (H6.fo rfl rfl) (by decide) rfl dX12_eat_61 rfl fl_RX12_397 rfl (fun h11 H11 => ?_)
          have m11 := Mo.ofS es11
          refine aw_aload_n (pc' := 65) dX12_eat_64 rfl rfl rfl ?_
          refine aw_dup (pc' := 66) dX12_eat_65 rfl rfl ?_
          refine aw_gi (q := 59) (pc' := 69) H11 (H11.fo rfl rfl) (l13 rfl) rfl dX12_eat_66 rfl fl_RX12_412 ?_
          refine aw_iload_n (pc' := 70) dX12_eat_69 rfl rfl ?_
          refine aw_iadd (pc' := 71) dX12_eat_70 rfl ?_
          obtain ⟨v12, ev12, hf⟩ := vl_e hf
          refine aw_topi ev12 ?_
          obtain ⟨s13, es13, hf⟩ := st_e hf
          refine aw_pi (q := 59) (pc' := 74) es13 H11 (H11.fo rfl rfl) (by decide) rfl dX12_eat_71 rfl fl_RX12_412 rfl (fun h13 H13 => ?_)
          have m13 := Mo.ofS es13
          refine aw_aload_n (pc' := 75) dX12_eat_74 rfl rfl rfl ?_
          refine aw_gr (q := 59) (e := 31) (v := .ref 82) (pc' := 78) H13 (H13.fo rfl rfl) (l13 rfl) rfl rfl dX12_eat_75 rfl fl_RX12_53 ?_
          refine aw_iload_n (pc' := 79) dX12_eat_78 rfl rfl ?_
          refine aw_aload_n (pc' := 80) dX12_eat_79 rfl rfl rfl ?_
          refine aw_gr (q := 59) (e := 31) (v := .ref 82) (pc' := 83) H13 (H13.fo rfl rfl) (l13 rfl) rfl rfl dX12_eat_80 rfl fl_RX12_53 ?_
          refine aw_iload_n (pc' := 84) dX12_eat_83 rfl rfl ?_
          obtain ⟨g14, hf⟩ := gd_e hf
          refine aw_ia (q := 74) (pc' := 85) H13 (H13.fa rfl rfl rfl) g14 dX12_eat_84 rfl ?_
          refine aw_bipush (v := 6) (pc' := 87) dX12_eat_85 rfl bp_6 ?_
          refine aw_isub (pc' := 88) dX12_eat_87 rfl ?_
          refine aw_iconst (v := 2) (pc' := 89) dX12_eat_88 rfl ic_2 ?_
          refine aw_iload_n (pc' := 90) dX12_eat_89 rfl rfl ?_
          refine aw_imul (pc' := 91) dX12_eat_90 rfl ?_
          refine aw_iadd (pc' := 92) dX12_eat_91 rfl ?_
          refine aw_iconst (v := 0) (pc' := 93) dX12_eat_92 rfl ic_0 ?_
          refine aw_sipush (v := 999) (pc' := 96) dX12_eat_93 rfl sp_999 ?_
          obtain ⟨r15, ec15, hf⟩ := b1_e hf
          refine aw_callSi (M' := mX12_held) (nc' := 0) (ns' := 0) (pc' := 99) dX12_eat_96 rfl ml_RX12_284 kX12_held (t_X12_held ec15) rfl rfl (Nat.le_of_ble_eq_true rfl) (rokD (by omega) (Nat.le_of_ble_eq_true rfl) (Nat.le_of_ble_eq_true rfl) (Nat.le_of_ble_eq_true rfl)) rfl rfl (fun _ h15 q15 => ?_)
          obtain ⟨rfl, rfl⟩ := q15
          obtain ⟨g16, hf⟩ := gd_e hf
          obtain ⟨s17, es17, hf⟩ := st_e hf
          refine aw_is (q := 74) (pc' := 100) es17 H13 (H13.fa rfl rfl rfl) g16 dX12_eat_99 rfl (fun h17 H17 => ?_)
          have m17 := Mo.ofI es17
          refine AW.lv_le (lz_k (lz_k (lz_d lz_0))) ?_
          exact hk3 _ _ H17 (((m6.tr m11).tr m13).tr m17) hf
        clear ek8
        refine aw_cge (tgt := 49) (pc' := 45) dX12_eat_42 rfl rfl (fun c18 => ?_) (fun c18 => ?_)
        · replace hf := ifn c18 hf
          refine aw_aload_n (pc' := 50) dX12_eat_49 rfl rfl rfl ?_
          refine aw_gi (q := 59) (pc' := 53) H6 (H6.fo rfl rfl) (l13 rfl) rfl dX12_eat_50 rfl fl_RX12_397 ?_
          refine AW.lv_le (lz_k (lz_k (lz_d lz_0))) ?_
          exact hk8 _ hf
        · replace hf := ifp c18 hf
          refine aw_iload_n (pc' := 46) dX12_eat_45 rfl rfl ?_
          refine aw_goto (tgt := 53) dX12_eat_46 rfl ?_
          refine AW.lv_le (lz_k (lz_k (lz_d lz_0))) ?_
          exact hk8 _ hf
      · replace hf := ifp c5 hf
        refine aw_goto (tgt := 100) dX12_eat_19 rfl ?_
        exact hk3 _ _ H (Mo.rf _) hf
noncomputable def f_X12_eat (s0 : SS)  : Option SS := (f_X12_eat_L2 4000 s0 0)
set_option maxRecDepth 4000 in
theorem t_X12_eat {s0 s9 : SS} {h0 : List aE}  (H0 : HH s0 h0) (hf : f_X12_eat s0 = some s9) : AM mX12_eat (4) [.ref 67] h0 0 0 (PV fun h' => HH s9 h' ∧ Mo s0 s9) := by
  unfold f_X12_eat at hf
  refine am_of (lv := [some (.ref 67), none, none]) rfl (Nat.le_of_ble_eq_true rfl) rfl ?_
  refine aw_iconst (v := 0) (pc' := 1) dX12_eat_0 rfl ic_0 ?_
  refine aw_istore_n (lv' := [_, _, _]) (pc' := 2) dX12_eat_1 rfl (Nat.le_of_ble_eq_true rfl) rfl ?_
  refine t_X12_eat_L2 (Mo.rf _)  4000 _ _ _ H0 (Mo.rf _) hf
/-! ThirtyThreeBelowModel.comeDown -/
noncomputable def f_X12_comeDown_L4_b (q0 : SS → Int32 → Option SS) (rc : SS → Int32 → Int32 → Option SS) (s : SS) (x1 : Int32) (x2 : Int32) : Option SS := (if x2 < (zS s 59 62) then (gd (inB x2 40) (jn (fun (s3 : SS) (j3_1 : Int32) => (vl (x2 + 1) fun v4 => (rc s3 j3_1 v4))) fun k3 => (if (zI s 103 (x2.toInt.toNat)) = (zS s 59 1) then (gd (inB x2 40) (if ((zI s 102 (x2.toInt.toNat)) % (10 : Int32)) = (0 : Int32) then (gd (inB x2 40) (vl (((zS s 59 54) + ((zI s 102 (x2.toInt.toNat)) / (10 : Int32)))) fun v26 => (st (pS s 59 54 v26) fun s27 => (k3 s27 x1)))) else (gd (inB x2 40) (vl (((zI s 102 (x2.toInt.toNat)) % (10 : Int32))) fun v19 => (gd (inB v19 10) (vl (((zI s 105 (v19.toInt.toNat)) + (1 : Int32))) fun v21 => (vl (((zI s 102 (x2.toInt.toNat)) % (10 : Int32))) fun v22 => (gd (inB v22 10) (st (pI s 105 (v22.toInt.toNat) v21) fun s24 => (k3 s24 x1)))))))))) else (gd (inB x2 40) (vl ((zI s 102 (x2.toInt.toNat))) fun v7 => (gd (inB x1 40) (st (pI s 102 (x1.toInt.toNat) v7) fun s10 => (gd (inB x2 40) (vl ((zI s10 103 (x2.toInt.toNat))) fun v12 => (gd (inB x1 40) (st (pI s10 103 (x1.toInt.toNat) v12) fun s14 => (vl (x1 + 1) fun v15 => (k3 s14 v15))))))))))))) else (q0 s x1))
noncomputable def f_X12_comeDown_L4 (q0 : SS → Int32 → Option SS) : Nat → SS → Int32 → Int32 → Option SS
  | 0, _, _, _ => none
  | n + 1, s, x1, x2 => f_X12_comeDown_L4_b q0 (f_X12_comeDown_L4 q0 n) s x1 x2
set_option maxRecDepth 4000 in
theorem t_X12_comeDown_L4 {s0 sb s9 : SS} {q0 : SS → Int32 → Option SS} (mb : Mo s0 sb) (hq0 : ∀ (s : SS) (h : List aE) (x1 : Int32), HH s h → Mo sb s → q0 s x1 = some s9 → AW mX12_comeDown (rmD (0) 0 0) (fin (PV fun h' => HH s9 h' ∧ Mo s0 s9) 0 0) 112 [some (.ref 67), some (.int x1), none] [] h 0 0) : ∀ (n : Nat) (s : SS) (h : List aE) (x1 : Int32) (x2 : Int32), HH s h → Mo sb s → f_X12_comeDown_L4 q0 n s x1 x2 = some s9 → AW mX12_comeDown (rmD (0) 0 0) (fin (PV fun h' => HH s9 h' ∧ Mo s0 s9) 0 0) 4 [some (.ref 67), some (.int x1), some (.int x2)] [] h 0 0 := by
  intro n
  induction n with
  | zero =>
    intro s h x1 x2 H ms hf
    cases hf
  | succ n ih =>
    intro s h x1 x2 H ms hf
    replace hf : f_X12_comeDown_L4_b q0 (f_X12_comeDown_L4 q0 n) s x1 x2 = some s9 := hf
    unfold f_X12_comeDown_L4_b at hf
    refine aw_iload_n (pc' := 5) dX12_comeDown_4 rfl rfl ?_
    refine aw_aload_n (pc' := 6) dX12_comeDown_5 rfl rfl rfl ?_
    refine aw_gi (q := 59) (pc' := 9) H (H.fo rfl rfl) (by decide) rfl dX12_comeDown_6 rfl fl_RX12_428 ?_
    refine aw_cge (tgt := 112) (pc' := 12) dX12_comeDown_9 rfl rfl (fun c1 => ?_) (fun c1 => ?_)
    · replace hf := ifn c1 hf
      refine AW.lv_le (lz_k (lz_k (lz_d lz_0))) ?_
      exact hq0 _ _ _ H ms hf
    · replace hf := ifp c1 hf
      refine aw_aload_n (pc' := 13) dX12_comeDown_12 rfl rfl rfl ?_
      refine aw_gr (q := 59) (e := 89) (v := .ref 111) (pc' := 16) H (H.fo rfl rfl) (by decide) rfl rfl dX12_comeDown_13 rfl fl_RX12_148 ?_
      refine aw_iload_n (pc' := 17) dX12_comeDown_16 rfl rfl ?_
      obtain ⟨g2, hf⟩ := gd_e hf
      refine aw_ia (q := 103) (pc' := 18) H (H.fa rfl rfl rfl) g2 dX12_comeDown_17 rfl ?_
      refine aw_aload_n (pc' := 19) dX12_comeDown_18 rfl rfl rfl ?_
      refine aw_gi (q := 59) (pc' := 22) H (H.fo rfl rfl) (by decide) rfl dX12_comeDown_19 rfl fl_RX12_281 ?_
      obtain ⟨k3, ek3, hf⟩ := jn_e hf
      have hk3 : ∀ (s3 : SS) (h3 : List aE) (j3_1 : Int32), HH s3 h3 → Mo s s3 → k3 s3 j3_1 = some s9 → AW mX12_comeDown (rmD (0) 0 0) (fin (PV fun h' => HH s9 h' ∧ Mo s0 s9) 0 0) 106 [some (.ref 67), some (.int j3_1), some (.int x2)] [] h3 0 0 := by
        intro s3 h3 j3_1 H3 m3 hf
        subst ek3
        obtain ⟨v4, ev4, hf⟩ := vl_e hf
        refine aw_iincV (y := v4) (lv' := [_, _, _]) (pc' := 109) dX12_comeDown_106 rfl rfl (Nat.le_of_ble_eq_true rfl) ev4 rfl ?_
        refine aw_goto (tgt := 4) dX12_comeDown_109 rfl ?_
        exact ih _ _ _ _ H3 (ms.tr m3) hf
      clear ek3
      refine aw_icmp_ne (tgt := 79) (pc' := 25) dX12_comeDown_22 rfl rfl (fun c5 => ?_) (fun c5 => ?_)
      · replace hf := ifn c5 hf
        refine aw_aload_n (pc' := 80) dX12_comeDown_79 rfl rfl rfl ?_
        refine aw_gr (q := 59) (e := 87) (v := .ref 110) (pc' := 83) H (H.fo rfl rfl) (by decide) rfl rfl dX12_comeDown_80 rfl fl_RX12_145 ?_
        refine aw_iload_n (pc' := 84) dX12_comeDown_83 rfl rfl ?_
        refine aw_aload_n (pc' := 85) dX12_comeDown_84 rfl rfl rfl ?_
        refine aw_gr (q := 59) (e := 87) (v := .ref 110) (pc' := 88) H (H.fo rfl rfl) (by decide) rfl rfl dX12_comeDown_85 rfl fl_RX12_145 ?_
        refine aw_iload_n (pc' := 89) dX12_comeDown_88 rfl rfl ?_
        obtain ⟨g6, hf⟩ := gd_e hf
        refine aw_ia (q := 102) (pc' := 90) H (H.fa rfl rfl rfl) g6 dX12_comeDown_89 rfl ?_
        obtain ⟨v7, ev7, hf⟩ := vl_e hf
        refine aw_topi ev7 ?_
        obtain ⟨g8, hf⟩ := gd_e hf
        obtain ⟨s10, es10, hf⟩ := st_e hf
        refine aw_is (q := 102) (pc' := 91) es10 H (H.fa rfl rfl rfl) g8 dX12_comeDown_90 rfl (fun h10 H10 => ?_)
        have m10 := Mo.ofI es10
        refine aw_aload_n (pc' := 92) dX12_comeDown_91 rfl rfl rfl ?_
        refine aw_gr (q := 59) (e := 89) (v := .ref 111) (pc' := 95) H10 (H10.fo rfl rfl) (l13 rfl) rfl rfl dX12_comeDown_92 rfl fl_RX12_148 ?_
        refine aw_iload_n (pc' := 96) dX12_comeDown_95 rfl rfl ?_
        refine aw_aload_n (pc' := 97) dX12_comeDown_96 rfl rfl rfl ?_
        refine aw_gr (q := 59) (e := 89) (v := .ref 111) (pc' := 100) H10 (H10.fo rfl rfl) (l13 rfl) rfl rfl dX12_comeDown_97 rfl fl_RX12_148 ?_
        refine aw_iload_n (pc' := 101) dX12_comeDown_100 rfl rfl ?_
        obtain ⟨g11, hf⟩ := gd_e hf
        refine aw_ia (q := 103) (pc' := 102) H10 (H10.fa rfl rfl rfl) g11 dX12_comeDown_101 rfl ?_
        obtain ⟨v12, ev12, hf⟩ := vl_e hf
        refine aw_topi ev12 ?_
        obtain ⟨g13, hf⟩ := gd_e hf
        obtain ⟨s14, es14, hf⟩ := st_e hf
        refine aw_is (q := 103) (pc' := 103) es14 H10 (H10.fa rfl rfl rfl) g13 dX12_comeDown_102 rfl (fun h14 H14 => ?_)
        have m14 := Mo.ofI es14
        obtain ⟨v15, ev15, hf⟩ := vl_e hf
        refine aw_iincV (y := v15) (lv' := [_, _, _]) (pc' := 106) dX12_comeDown_103 rfl rfl (Nat.le_of_ble_eq_true rfl) ev15 rfl ?_
        exact hk3 _ _ _ H14 (m10.tr m14) hf
      · replace hf := ifp c5 hf
        refine aw_aload_n (pc' := 26) dX12_comeDown_25 rfl rfl rfl ?_
        refine aw_gr (q := 59) (e := 87) (v := .ref 110) (pc' := 29) H (H.fo rfl rfl) (by decide) rfl rfl dX12_comeDown_26 rfl fl_RX12_145 ?_
        refine aw_iload_n (pc' := 30) dX12_comeDown_29 rfl rfl ?_
        obtain ⟨g16, hf⟩ := gd_e hf
        refine aw_ia (q := 102) (pc' := 31) H (H.fa rfl rfl rfl) g16 dX12_comeDown_30 rfl ?_
        refine aw_bipush (v := 10) (pc' := 33) dX12_comeDown_31 rfl bp_10 ?_
        refine aw_irem (pc' := 34) dX12_comeDown_33 rfl (by decide) ?_
        refine aw_if_ne (tgt := 58) (pc' := 37) dX12_comeDown_34 rfl rfl (fun c17 => ?_) (fun c17 => ?_)
        · replace hf := ifn c17 hf
          refine aw_aload_n (pc' := 59) dX12_comeDown_58 rfl rfl rfl ?_
          refine aw_gr (q := 59) (e := 93) (v := .ref 113) (pc' := 62) H (H.fo rfl rfl) (by decide) rfl rfl dX12_comeDown_59 rfl fl_RX12_154 ?_
          refine aw_aload_n (pc' := 63) dX12_comeDown_62 rfl rfl rfl ?_
          refine aw_gr (q := 59) (e := 87) (v := .ref 110) (pc' := 66) H (H.fo rfl rfl) (by decide) rfl rfl dX12_comeDown_63 rfl fl_RX12_145 ?_
          refine aw_iload_n (pc' := 67) dX12_comeDown_66 rfl rfl ?_
          obtain ⟨g18, hf⟩ := gd_e hf
          refine aw_ia (q := 102) (pc' := 68) H (H.fa rfl rfl rfl) g18 dX12_comeDown_67 rfl ?_
          refine aw_bipush (v := 10) (pc' := 70) dX12_comeDown_68 rfl bp_10 ?_
          refine aw_irem (pc' := 71) dX12_comeDown_70 rfl (by decide) ?_
          refine aw_dup2 (pc' := 72) dX12_comeDown_71 rfl rfl rfl ?_
          obtain ⟨v19, ev19, hf⟩ := vl_e hf
          refine aw_topi ev19 ?_
          obtain ⟨g20, hf⟩ := gd_e hf
          refine aw_ia (q := 105) (pc' := 73) H (H.fa rfl rfl rfl) g20 dX12_comeDown_72 rfl ?_
          refine aw_iconst (v := 1) (pc' := 74) dX12_comeDown_73 rfl ic_1 ?_
          refine aw_iadd (pc' := 75) dX12_comeDown_74 rfl ?_
          obtain ⟨v21, ev21, hf⟩ := vl_e hf
          refine aw_topi ev21 ?_
          obtain ⟨v22, ev22, hf⟩ := vl_e hf
          refine aw_sndi ev22 ?_
          obtain ⟨g23, hf⟩ := gd_e hf
          obtain ⟨s24, es24, hf⟩ := st_e hf
          refine aw_is (q := 105) (pc' := 76) es24 H (H.fa rfl rfl rfl) g23 dX12_comeDown_75 rfl (fun h24 H24 => ?_)
          have m24 := Mo.ofI es24
          refine aw_goto (tgt := 106) dX12_comeDown_76 rfl ?_
          exact hk3 _ _ _ H24 m24 hf
        · replace hf := ifp c17 hf
          refine aw_aload_n (pc' := 38) dX12_comeDown_37 rfl rfl rfl ?_
          refine aw_dup (pc' := 39) dX12_comeDown_38 rfl rfl ?_
          refine aw_gi (q := 59) (pc' := 42) H (H.fo rfl rfl) (by decide) rfl dX12_comeDown_39 rfl fl_RX12_397 ?_
          refine aw_aload_n (pc' := 43) dX12_comeDown_42 rfl rfl rfl ?_
          refine aw_gr (q := 59) (e := 87) (v := .ref 110) (pc' := 46) H (H.fo rfl rfl) (by decide) rfl rfl dX12_comeDown_43 rfl fl_RX12_145 ?_
          refine aw_iload_n (pc' := 47) dX12_comeDown_46 rfl rfl ?_
          obtain ⟨g25, hf⟩ := gd_e hf
          refine aw_ia (q := 102) (pc' := 48) H (H.fa rfl rfl rfl) g25 dX12_comeDown_47 rfl ?_
          refine aw_bipush (v := 10) (pc' := 50) dX12_comeDown_48 rfl bp_10 ?_
          refine aw_idiv (pc' := 51) dX12_comeDown_50 rfl (by decide) ?_
          refine aw_iadd (pc' := 52) dX12_comeDown_51 rfl ?_
          obtain ⟨v26, ev26, hf⟩ := vl_e hf
          refine aw_topi ev26 ?_
          obtain ⟨s27, es27, hf⟩ := st_e hf
          refine aw_pi (q := 59) (pc' := 55) es27 H (H.fo rfl rfl) (by decide) rfl dX12_comeDown_52 rfl fl_RX12_397 rfl (fun h27 H27 => ?_)
          have m27 := Mo.ofS es27
          refine aw_goto (tgt := 106) dX12_comeDown_55 rfl ?_
          exact hk3 _ _ _ H27 m27 hf
noncomputable def f_X12_comeDown (s0 : SS)  : Option SS := (f_X12_comeDown_L4 (fun (s28 : SS) (x28_1 : Int32) => (st (pS s28 59 62 x28_1) fun s29 => some s29)) 4000 s0 0 0)
set_option maxRecDepth 4000 in
theorem t_X12_comeDown {s0 s9 : SS} {h0 : List aE}  (H0 : HH s0 h0) (hf : f_X12_comeDown s0 = some s9) : AM mX12_comeDown (0) [.ref 67] h0 0 0 (PV fun h' => HH s9 h' ∧ Mo s0 s9) := by
  unfold f_X12_comeDown at hf
  refine am_of (lv := [some (.ref 67), none, none]) rfl (Nat.le_of_ble_eq_true rfl) rfl ?_
  refine aw_iconst (v := 0) (pc' := 1) dX12_comeDown_0 rfl ic_0 ?_
  refine aw_istore_n (lv' := [_, _, _]) (pc' := 2) dX12_comeDown_1 rfl (Nat.le_of_ble_eq_true rfl) rfl ?_
  refine aw_iconst (v := 0) (pc' := 3) dX12_comeDown_2 rfl ic_0 ?_
  refine aw_istore_n (lv' := [_, _, _]) (pc' := 4) dX12_comeDown_3 rfl (Nat.le_of_ble_eq_true rfl) rfl ?_
  refine t_X12_comeDown_L4 (Mo.rf _) (fun s28 h28 x28_1 H28 m28 hf => ?_) 4000 _ _ _ _ H0 (Mo.rf _) hf
  refine aw_aload_n (pc' := 113) dX12_comeDown_112 rfl rfl rfl ?_
  refine aw_iload_n (pc' := 114) dX12_comeDown_113 rfl rfl ?_
  obtain ⟨s29, es29, hf⟩ := st_e hf
  refine aw_pi (q := 59) (pc' := 117) es29 H28 (H28.fo rfl rfl) (by decide) rfl dX12_comeDown_114 rfl fl_RX12_428 rfl (fun h29 H29 => ?_)
  have m29 := Mo.ofS es29
  obtain rfl := Option.some.inj hf
  exact aw_rv dX12_comeDown_117 rfl (Nat.le_of_ble_eq_true rfl) (Nat.le_of_ble_eq_true rfl) ⟨H29, (m28.tr m29)⟩
/-! ThirtyThreeBelowModel.hours -/
noncomputable def f_X12_hours_L65_b (q0 : SS → Option (Int32 × SS)) (y1 : Int32) (y2 : Int32) (rc : SS → Int32 → Option (Int32 × SS)) (s : SS) (x3 : Int32) : Option (Int32 × SS) := (if x3 < (zS s 59 56) then (gd (inB x3 60) (jn (fun (s13 : SS)  => (vl (x3 + 1) fun v14 => (rc s13 v14))) fun k13 => (if (zI s 98 (x3.toInt.toNat)) = (zS s 59 1) then (gd (inB x3 60) (b1 (f_X12_placeOf (zI s 97 (x3.toInt.toNat))) fun r17 => (gd (inB r17 1952) (st (pI s 61 (r17.toInt.toNat) ((0 : Int32) &&& 1)) fun s19 => (gd (inB r17 1952) (st (pI s19 60 (r17.toInt.toNat) 6) fun s21 => (if (zS s21 59 21) < (0 : Int32) then (k13 s21) else (gd (inB x3 60) (if ((zI s21 97 (x3.toInt.toNat)) % (100 : Int32)) = (zS s21 59 24) then (gd (inB x3 60) (b1 (f_X12_in ((zI s21 97 (x3.toInt.toNat)) / (100 : Int32)) (zS s21 59 22) (zS s21 59 23)) fun r26 => (if r26 = (0 : Int32) then (k13 s21) else (st (pS s21 59 25 1) fun s28 => (k13 s28))))) else (k13 s21)))))))))) else (k13 s)))) else (q0 s))
noncomputable def f_X12_hours_L65 (q0 : SS → Option (Int32 × SS)) (y1 : Int32) (y2 : Int32) : Nat → SS → Int32 → Option (Int32 × SS)
  | 0, _, _ => none
  | n + 1, s, x3 => f_X12_hours_L65_b q0 y1 y2 (f_X12_hours_L65 q0 y1 y2 n) s x3
set_option maxRecDepth 4000 in
theorem t_X12_hours_L65 {r9 : Int32} {s0 sb s9 : SS} {q0 : SS → Option (Int32 × SS)} {y1 : Int32} {y2 : Int32} (mb : Mo s0 sb) (hq0 : ∀ (s : SS) (h : List aE), HH s h → Mo sb s → q0 s = some (r9, s9) → AW mX12_hours (rmD (5) 0 0) (fin (PI fun r' h' => r9 = r' ∧ HH s9 h' ∧ Mo s0 s9) 0 0) 174 [some (.ref 67), some (.int y1), some (.int y2), none, none] [] h 0 0) : ∀ (n : Nat) (s : SS) (h : List aE) (x3 : Int32), HH s h → Mo sb s → f_X12_hours_L65 q0 y1 y2 n s x3 = some (r9, s9) → AW mX12_hours (rmD (5) 0 0) (fin (PI fun r' h' => r9 = r' ∧ HH s9 h' ∧ Mo s0 s9) 0 0) 65 [some (.ref 67), some (.int y1), some (.int y2), some (.int x3), none] [] h 0 0 := by
  intro n
  induction n with
  | zero =>
    intro s h x3 H ms hf
    cases hf
  | succ n ih =>
    intro s h x3 H ms hf
    replace hf : f_X12_hours_L65_b q0 y1 y2 (f_X12_hours_L65 q0 y1 y2 n) s x3 = some (r9, s9) := hf
    unfold f_X12_hours_L65_b at hf
    refine aw_iload_n (pc' := 66) dX12_hours_65 rfl rfl ?_
    refine aw_aload_n (pc' := 67) dX12_hours_66 rfl rfl rfl ?_
    refine aw_gi (q := 59) (pc' := 70) H (H.fo rfl rfl) (by decide) rfl dX12_hours_67 rfl fl_RX12_406 ?_
    refine aw_cge (tgt := 174) (pc' := 73) dX12_hours_70 rfl rfl (fun c11 => ?_) (fun c11 => ?_)
    · replace hf := ifn c11 hf
      refine AW.lv_le (lz_k (lz_k (lz_k (lz_d (lz_d lz_0))))) ?_
      exact hq0 _ _ H ms hf
    · replace hf := ifp c11 hf
      refine aw_aload_n (pc' := 74) dX12_hours_73 rfl rfl rfl ?_
      refine aw_gr (q := 59) (e := 79) (v := .ref 106) (pc' := 77) H (H.fo rfl rfl) (by decide) rfl rfl dX12_hours_74 rfl fl_RX12_133 ?_
      refine aw_iload_n (pc' := 78) dX12_hours_77 rfl rfl ?_
      obtain ⟨g12, hf⟩ := gd_e hf
      refine aw_ia (q := 98) (pc' := 79) H (H.fa rfl rfl rfl) g12 dX12_hours_78 rfl ?_
      refine aw_aload_n (pc' := 80) dX12_hours_79 rfl rfl rfl ?_
      refine aw_gi (q := 59) (pc' := 83) H (H.fo rfl rfl) (by decide) rfl dX12_hours_80 rfl fl_RX12_281 ?_
      obtain ⟨k13, ek13, hf⟩ := jn_e hf
      have hk13 : ∀ (s13 : SS) (h13 : List aE), HH s13 h13 → Mo s s13 → k13 s13 = some (r9, s9) → AW mX12_hours (rmD (5) 0 0) (fin (PI fun r' h' => r9 = r' ∧ HH s9 h' ∧ Mo s0 s9) 0 0) 168 [some (.ref 67), some (.int y1), some (.int y2), some (.int x3), none] [] h13 0 0 := by
        intro s13 h13 H13 m13 hf
        subst ek13
        obtain ⟨v14, ev14, hf⟩ := vl_e hf
        refine aw_iincV (y := v14) (lv' := [_, _, _, _, _]) (pc' := 171) dX12_hours_168 rfl rfl (Nat.le_of_ble_eq_true rfl) ev14 rfl ?_
        refine aw_goto (tgt := 65) dX12_hours_171 rfl ?_
        exact ih _ _ _ H13 (ms.tr m13) hf
      clear ek13
      refine aw_icmp_eq (tgt := 89) (pc' := 86) dX12_hours_83 rfl rfl (fun c15 => ?_) (fun c15 => ?_)
      · replace hf := ifp c15 hf
        refine aw_aload_n (pc' := 90) dX12_hours_89 rfl rfl rfl ?_
        refine aw_gr (q := 59) (e := 77) (v := .ref 105) (pc' := 93) H (H.fo rfl rfl) (by decide) rfl rfl dX12_hours_90 rfl fl_RX12_130 ?_
        refine aw_iload_n (pc' := 94) dX12_hours_93 rfl rfl ?_
        obtain ⟨g16, hf⟩ := gd_e hf
        refine aw_ia (q := 97) (pc' := 95) H (H.fa rfl rfl rfl) g16 dX12_hours_94 rfl ?_
        obtain ⟨r17, ec17, hf⟩ := b1_e hf
        refine aw_callSi (M' := mX12_placeOf) (nc' := 0) (ns' := 0) (pc' := 98) dX12_hours_95 rfl ml_RX12_238 kX12_placeOf (t_X12_placeOf ec17) rfl rfl (Nat.le_of_ble_eq_true rfl) (rokD (by omega) (Nat.le_of_ble_eq_true rfl) (Nat.le_of_ble_eq_true rfl) (Nat.le_of_ble_eq_true rfl)) rfl rfl (fun _ h17 q17 => ?_)
        obtain ⟨rfl, rfl⟩ := q17
        refine aw_istore (lv' := [_, _, _, _, _]) (pc' := 100) dX12_hours_98 rfl (Nat.le_of_ble_eq_true rfl) rfl ?_
        refine aw_aload_n (pc' := 101) dX12_hours_100 rfl rfl rfl ?_
        refine aw_gr (q := 59) (e := 5) (v := .ref 69) (pc' := 104) H (H.fo rfl rfl) (by decide) rfl rfl dX12_hours_101 rfl fl_RX12_13 ?_
        refine aw_iload (pc' := 106) dX12_hours_104 rfl rfl ?_
        refine aw_iconst (v := 0) (pc' := 107) dX12_hours_106 rfl ic_0 ?_
        obtain ⟨g18, hf⟩ := gd_e hf
        obtain ⟨s19, es19, hf⟩ := st_e hf
        refine aw_zs (q := 61) (pc' := 108) es19 H (H.fa rfl rfl rfl) g18 dX12_hours_107 rfl (fun h19 H19 => ?_)
        have m19 := Mo.ofI es19
        refine aw_aload_n (pc' := 109) dX12_hours_108 rfl rfl rfl ?_
        refine aw_gr (q := 59) (e := 3) (v := .ref 68) (pc' := 112) H19 (H19.fo rfl rfl) (l13 rfl) rfl rfl dX12_hours_109 rfl fl_RX12_7 ?_
        refine aw_iload (pc' := 114) dX12_hours_112 rfl rfl ?_
        refine aw_bipush (v := 6) (pc' := 116) dX12_hours_114 rfl bp_6 ?_
        obtain ⟨g20, hf⟩ := gd_e hf
        obtain ⟨s21, es21, hf⟩ := st_e hf
        refine aw_is (q := 60) (pc' := 117) es21 H19 (H19.fa rfl rfl rfl) g20 dX12_hours_116 rfl (fun h21 H21 => ?_)
        have m21 := Mo.ofI es21
        refine aw_aload_n (pc' := 118) dX12_hours_117 rfl rfl rfl ?_
        refine aw_gi (q := 59) (pc' := 121) H21 (H21.fo rfl rfl) (l13 rfl) rfl dX12_hours_118 rfl fl_RX12_65 ?_
        refine aw_zlt (tgt := 168) (pc' := 124) dX12_hours_121 rfl rfl (fun c22 => ?_) (fun c22 => ?_)
        · replace hf := ifp c22 hf
          refine AW.lv_le (lz_k (lz_k (lz_k (lz_k (lz_d lz_0))))) ?_
          exact hk13 _ _ H21 (m19.tr m21) hf
        · replace hf := ifn c22 hf
          refine aw_aload_n (pc' := 125) dX12_hours_124 rfl rfl rfl ?_
          refine aw_gr (q := 59) (e := 77) (v := .ref 105) (pc' := 128) H21 (H21.fo rfl rfl) (l13 rfl) rfl rfl dX12_hours_125 rfl fl_RX12_130 ?_
          refine aw_iload_n (pc' := 129) dX12_hours_128 rfl rfl ?_
          obtain ⟨g23, hf⟩ := gd_e hf
          refine aw_ia (q := 97) (pc' := 130) H21 (H21.fa rfl rfl rfl) g23 dX12_hours_129 rfl ?_
          refine aw_bipush (v := 100) (pc' := 132) dX12_hours_130 rfl bp_100 ?_
          refine aw_irem (pc' := 133) dX12_hours_132 rfl (by decide) ?_
          refine aw_aload_n (pc' := 134) dX12_hours_133 rfl rfl rfl ?_
          refine aw_gi (q := 59) (pc' := 137) H21 (H21.fo rfl rfl) (l13 rfl) rfl dX12_hours_134 rfl fl_RX12_264 ?_
          refine aw_icmp_ne (tgt := 168) (pc' := 140) dX12_hours_137 rfl rfl (fun c24 => ?_) (fun c24 => ?_)
          · replace hf := ifn c24 hf
            refine AW.lv_le (lz_k (lz_k (lz_k (lz_k (lz_d lz_0))))) ?_
            exact hk13 _ _ H21 (m19.tr m21) hf
          · replace hf := ifp c24 hf
            refine aw_aload_n (pc' := 141) dX12_hours_140 rfl rfl rfl ?_
            refine aw_gr (q := 59) (e := 77) (v := .ref 105) (pc' := 144) H21 (H21.fo rfl rfl) (l13 rfl) rfl rfl dX12_hours_141 rfl fl_RX12_130 ?_
            refine aw_iload_n (pc' := 145) dX12_hours_144 rfl rfl ?_
            obtain ⟨g25, hf⟩ := gd_e hf
            refine aw_ia (q := 97) (pc' := 146) H21 (H21.fa rfl rfl rfl) g25 dX12_hours_145 rfl ?_
            refine aw_bipush (v := 100) (pc' := 148) dX12_hours_146 rfl bp_100 ?_
            refine aw_idiv (pc' := 149) dX12_hours_148 rfl (by decide) ?_
            refine aw_aload_n (pc' := 150) dX12_hours_149 rfl rfl rfl ?_
            refine aw_gi (q := 59) (pc' := 153) H21 (H21.fo rfl rfl) (l13 rfl) rfl dX12_hours_150 rfl fl_RX12_258 ?_
            refine aw_aload_n (pc' := 154) dX12_hours_153 rfl rfl rfl ?_
            refine aw_gi (q := 59) (pc' := 157) H21 (H21.fo rfl rfl) (l13 rfl) rfl dX12_hours_154 rfl fl_RX12_261 ?_
            obtain ⟨r26, ec26, hf⟩ := b1_e hf
            refine aw_callSi (M' := mX12_in) (nc' := 0) (ns' := 0) (pc' := 160) dX12_hours_157 rfl ml_RX12_230 kX12_in (t_X12_in ec26) rfl rfl (Nat.le_of_ble_eq_true rfl) (rokD (by omega) (Nat.le_of_ble_eq_true rfl) (Nat.le_of_ble_eq_true rfl) (Nat.le_of_ble_eq_true rfl)) rfl rfl (fun _ h26 q26 => ?_)
            obtain ⟨rfl, rfl, zb26⟩ := q26
            refine aw_if_eq (tgt := 168) (pc' := 163) dX12_hours_160 rfl rfl (fun c27 => ?_) (fun c27 => ?_)
            · replace hf := ifp c27 hf
              refine AW.lv_le (lz_k (lz_k (lz_k (lz_k (lz_d lz_0))))) ?_
              exact hk13 _ _ H21 (m19.tr m21) hf
            · replace hf := ifn c27 hf
              refine aw_aload_n (pc' := 164) dX12_hours_163 rfl rfl rfl ?_
              refine aw_iconst (v := 1) (pc' := 165) dX12_hours_164 rfl ic_1 ?_
              obtain ⟨s28, es28, hf⟩ := st_e hf
              refine aw_pi (q := 59) (pc' := 168) es28 H21 (H21.fo rfl rfl) (by decide) rfl dX12_hours_165 rfl fl_RX12_271 (by decide) (fun h28 H28 => ?_)
              have m28 := Mo.ofS es28
              refine AW.lv_le (lz_k (lz_k (lz_k (lz_k (lz_d lz_0))))) ?_
              exact hk13 _ _ H28 ((m19.tr m21).tr m28) hf
      · replace hf := ifn c15 hf
        refine aw_goto (tgt := 168) dX12_hours_86 rfl ?_
        exact hk13 _ _ H (Mo.rf _) hf
noncomputable def f_X12_hours_L26_b (y1 : Int32) (rc : SS → Int32 → Option (Int32 × SS)) (s : SS) (x2 : Int32) : Option (Int32 × SS) := (if x2 < y1 then (vl (((zS s 59 1) + (1 : Int32))) fun v5 => (st (pS s 59 1 v5) fun s6 => (b1 (f_X12_drill s6) fun s7 => (b1 (f_X12_comeDown s7) fun s8 => (jn (fun (s10 : SS)  => (f_X12_hours_L65 (fun (s29 : SS)  => (vl (x2 + 1) fun v30 => (rc s29 v30))) y1 x2 4000 s10 0)) fun k10 => (if ((zS s8 59 1) % (24 : Int32)) = (0 : Int32) then (b1 (f_X12_eat s8) fun s32 => (k10 s32)) else (k10 s8))))))) else some ((zS s 59 1), s))
noncomputable def f_X12_hours_L26 (y1 : Int32) : Nat → SS → Int32 → Option (Int32 × SS)
  | 0, _, _ => none
  | n + 1, s, x2 => f_X12_hours_L26_b y1 (f_X12_hours_L26 y1 n) s x2
set_option maxRecDepth 4000 in
theorem t_X12_hours_L26 {r9 : Int32} {s0 sb s9 : SS} {y1 : Int32} (mb : Mo s0 sb)  : ∀ (n : Nat) (s : SS) (h : List aE) (x2 : Int32), HH s h → Mo sb s → f_X12_hours_L26 y1 n s x2 = some (r9, s9) → AW mX12_hours (rmD (5) 0 0) (fin (PI fun r' h' => r9 = r' ∧ HH s9 h' ∧ Mo s0 s9) 0 0) 26 [some (.ref 67), some (.int y1), some (.int x2), none, none] [] h 0 0 := by
  intro n
  induction n with
  | zero =>
    intro s h x2 H ms hf
    cases hf
  | succ n ih =>
    intro s h x2 H ms hf
    replace hf : f_X12_hours_L26_b y1 (f_X12_hours_L26 y1 n) s x2 = some (r9, s9) := hf
    unfold f_X12_hours_L26_b at hf
    refine aw_iload_n (pc' := 27) dX12_hours_26 rfl rfl ?_
    refine aw_iload_n (pc' := 28) dX12_hours_27 rfl rfl ?_
    refine aw_cge (tgt := 180) (pc' := 31) dX12_hours_28 rfl rfl (fun c4 => ?_) (fun c4 => ?_)
    · replace hf := ifn c4 hf
      refine aw_aload_n (pc' := 181) dX12_hours_180 rfl rfl rfl ?_
      refine aw_gi (q := 59) (pc' := 184) H (H.fo rfl rfl) (by decide) rfl dX12_hours_181 rfl fl_RX12_281 ?_
      obtain ⟨rfl, rfl⟩ := so2 hf
      exact aw_ri dX12_hours_184 rfl rfl (Nat.le_of_ble_eq_true rfl) (Nat.le_of_ble_eq_true rfl) ⟨rfl, H, (mb.tr ms)⟩
    · replace hf := ifp c4 hf
      refine aw_aload_n (pc' := 32) dX12_hours_31 rfl rfl rfl ?_
      refine aw_dup (pc' := 33) dX12_hours_32 rfl rfl ?_
      refine aw_gi (q := 59) (pc' := 36) H (H.fo rfl rfl) (by decide) rfl dX12_hours_33 rfl fl_RX12_281 ?_
      refine aw_iconst (v := 1) (pc' := 37) dX12_hours_36 rfl ic_1 ?_
      refine aw_iadd (pc' := 38) dX12_hours_37 rfl ?_
      obtain ⟨v5, ev5, hf⟩ := vl_e hf
      refine aw_topi ev5 ?_
      obtain ⟨s6, es6, hf⟩ := st_e hf
      refine aw_pi (q := 59) (pc' := 41) es6 H (H.fo rfl rfl) (by decide) rfl dX12_hours_38 rfl fl_RX12_281 rfl (fun h6 H6 => ?_)
      have m6 := Mo.ofS es6
      refine aw_aload_n (pc' := 42) dX12_hours_41 rfl rfl rfl ?_
      obtain ⟨s7, ec7, hf⟩ := b1_e hf
      refine aw_callVv (M' := mX12_drill) (nc' := 0) (ns' := 0) (pc' := 45) dX12_hours_42 rfl ml_RX12_415 kX12_drill (t_X12_drill H6 ec7) (H6.ob (H6.fo rfl rfl) (by decide)) rfl rfl rfl (Nat.le_of_ble_eq_true rfl) (rokD (by omega) (Nat.le_of_ble_eq_true rfl) (Nat.le_of_ble_eq_true rfl) (Nat.le_of_ble_eq_true rfl)) rfl rfl (fun h7 q7 => ?_)
      obtain ⟨H7, m7⟩ := q7
      refine aw_aload_n (pc' := 46) dX12_hours_45 rfl rfl rfl ?_
      obtain ⟨s8, ec8, hf⟩ := b1_e hf
      refine aw_callVv (M' := mX12_comeDown) (nc' := 0) (ns' := 0) (pc' := 49) dX12_hours_46 rfl ml_RX12_418 kX12_comeDown (t_X12_comeDown H7 ec8) (H7.ob (H7.fo rfl rfl) (by decide)) rfl rfl rfl (Nat.le_of_ble_eq_true rfl) (rokD (by omega) (Nat.le_of_ble_eq_true rfl) (Nat.le_of_ble_eq_true rfl) (Nat.le_of_ble_eq_true rfl)) rfl rfl (fun h8 q8 => ?_)
      obtain ⟨H8, m8⟩ := q8
      refine aw_aload_n (pc' := 50) dX12_hours_49 rfl rfl rfl ?_
      refine aw_gi (q := 59) (pc' := 53) H8 (H8.fo rfl rfl) (l13 rfl) rfl dX12_hours_50 rfl fl_RX12_281 ?_
      refine aw_bipush (v := 24) (pc' := 55) dX12_hours_53 rfl bp_24 ?_
      refine aw_irem (pc' := 56) dX12_hours_55 rfl (by decide) ?_
      obtain ⟨k10, ek10, hf⟩ := jn_e hf
      have hk10 : ∀ (s10 : SS) (h10 : List aE), HH s10 h10 → Mo s8 s10 → k10 s10 = some (r9, s9) → AW mX12_hours (rmD (5) 0 0) (fin (PI fun r' h' => r9 = r' ∧ HH s9 h' ∧ Mo s0 s9) 0 0) 63 [some (.ref 67), some (.int y1), some (.int x2), none, none] [] h10 0 0 := by
        intro s10 h10 H10 m10 hf
        subst ek10
        refine aw_iconst (v := 0) (pc' := 64) dX12_hours_63 rfl ic_0 ?_
        refine aw_istore_n (lv' := [_, _, _, _, _]) (pc' := 65) dX12_hours_64 rfl (Nat.le_of_ble_eq_true rfl) rfl ?_
        refine t_X12_hours_L65 (((((mb.tr ms).tr m6).tr m7).tr m8).tr m10) (fun s29 h29 H29 m29 hf => ?_) 4000 _ _ _ H10 (Mo.rf _) hf
        obtain ⟨v30, ev30, hf⟩ := vl_e hf
        refine aw_iincV (y := v30) (lv' := [_, _, _, _, _]) (pc' := 177) dX12_hours_174 rfl rfl (Nat.le_of_ble_eq_true rfl) ev30 rfl ?_
        refine aw_goto (tgt := 26) dX12_hours_177 rfl ?_
        exact ih _ _ _ H29 (((((ms.tr m6).tr m7).tr m8).tr m10).tr m29) hf
      clear ek10
      refine aw_if_ne (tgt := 63) (pc' := 59) dX12_hours_56 rfl rfl (fun c31 => ?_) (fun c31 => ?_)
      · replace hf := ifn c31 hf
        exact hk10 _ _ H8 (Mo.rf _) hf
      · replace hf := ifp c31 hf
        refine aw_aload_n (pc' := 60) dX12_hours_59 rfl rfl rfl ?_
        obtain ⟨s32, ec32, hf⟩ := b1_e hf
        refine aw_callVv (M' := mX12_eat) (nc' := 0) (ns' := 0) (pc' := 63) dX12_hours_60 rfl ml_RX12_421 kX12_eat (t_X12_eat H8 ec32) (H8.ob (H8.fo rfl rfl) (by decide)) rfl rfl rfl (Nat.le_of_ble_eq_true rfl) (rokD (by omega) (Nat.le_of_ble_eq_true rfl) (Nat.le_of_ble_eq_true rfl) (Nat.le_of_ble_eq_true rfl)) rfl rfl (fun h32 q32 => ?_)
        obtain ⟨H32, m32⟩ := q32
        exact hk10 _ _ H32 m32 hf
noncomputable def f_X12_hours (s0 : SS) (a0 : Int32) : Option (Int32 × SS) := (b1 (f_X12_in a0 (1 : Int32) (48 : Int32)) fun r1 => (if r1 = (0 : Int32) then some ((-1), s0) else (if (1699 : Int32) < ((zS s0 59 1) + a0) then some ((-1), s0) else (f_X12_hours_L26 a0 4000 s0 0))))
set_option maxRecDepth 4000 in
theorem t_X12_hours {r9 : Int32} {s0 s9 : SS} {h0 : List aE} {a0 : Int32} (H0 : HH s0 h0) (hf : f_X12_hours s0 a0 = some (r9, s9)) : AM mX12_hours (5) [.ref 67, .int a0] h0 0 0 (PI fun r' h' => r9 = r' ∧ HH s9 h' ∧ Mo s0 s9) := by
  unfold f_X12_hours at hf
  refine am_of (lv := [some (.ref 67), some (.int a0), none, none, none]) rfl (Nat.le_of_ble_eq_true rfl) rfl ?_
  refine aw_iload_n (pc' := 1) dX12_hours_0 rfl rfl ?_
  refine aw_iconst (v := 1) (pc' := 2) dX12_hours_1 rfl ic_1 ?_
  refine aw_bipush (v := 48) (pc' := 4) dX12_hours_2 rfl bp_48 ?_
  obtain ⟨r1, ec1, hf⟩ := b1_e hf
  refine aw_callSi (M' := mX12_in) (nc' := 0) (ns' := 0) (pc' := 7) dX12_hours_4 rfl ml_RX12_230 kX12_in (t_X12_in ec1) rfl rfl (Nat.le_of_ble_eq_true rfl) (rokD (by omega) (Nat.le_of_ble_eq_true rfl) (Nat.le_of_ble_eq_true rfl) (Nat.le_of_ble_eq_true rfl)) rfl rfl (fun _ h1 q1 => ?_)
  obtain ⟨rfl, rfl, zb1⟩ := q1
  refine aw_if_eq (tgt := 22) (pc' := 10) dX12_hours_7 rfl rfl (fun c2 => ?_) (fun c2 => ?_)
  · replace hf := ifp c2 hf
    refine aw_iconst (v := (-1)) (pc' := 23) dX12_hours_22 rfl ic_m1 ?_
    obtain ⟨rfl, rfl⟩ := so2 hf
    exact aw_ri dX12_hours_23 rfl rfl (Nat.le_of_ble_eq_true rfl) (Nat.le_of_ble_eq_true rfl) ⟨rfl, H0, (Mo.rf _)⟩
  · replace hf := ifn c2 hf
    refine aw_aload_n (pc' := 11) dX12_hours_10 rfl rfl rfl ?_
    refine aw_gi (q := 59) (pc' := 14) H0 (H0.fo rfl rfl) (l13 rfl) rfl dX12_hours_11 rfl fl_RX12_281 ?_
    refine aw_iload_n (pc' := 15) dX12_hours_14 rfl rfl ?_
    refine aw_iadd (pc' := 16) dX12_hours_15 rfl ?_
    refine aw_sipush (v := 1699) (pc' := 19) dX12_hours_16 rfl sp_1699 ?_
    refine aw_cle (tgt := 24) (pc' := 22) dX12_hours_19 rfl rfl (fun c3 => ?_) (fun c3 => ?_)
    · replace hf := ifn c3 hf
      refine aw_iconst (v := 0) (pc' := 25) dX12_hours_24 rfl ic_0 ?_
      refine aw_istore_n (lv' := [_, _, _, _, _]) (pc' := 26) dX12_hours_25 rfl (Nat.le_of_ble_eq_true rfl) rfl ?_
      refine t_X12_hours_L26 (Mo.rf _)  4000 _ _ _ H0 (Mo.rf _) hf
    · replace hf := ifp c3 hf
      refine aw_iconst (v := (-1)) (pc' := 23) dX12_hours_22 rfl ic_m1 ?_
      obtain ⟨rfl, rfl⟩ := so2 hf
      exact aw_ri dX12_hours_23 rfl rfl (Nat.le_of_ble_eq_true rfl) (Nat.le_of_ble_eq_true rfl) ⟨rfl, H0, (Mo.rf _)⟩
