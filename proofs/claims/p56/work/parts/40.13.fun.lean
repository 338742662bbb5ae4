/-! ThirtyThreeBelowModel.minutesAt -/
noncomputable def f_X12_minutesAt_L6_b (s0 : SS) (y1 : Int32) (y2 : Int32) (y3 : Int32) (y4 : Int32) (rc : Int32 → Int32 → Option Int32) (x5 : Int32) (x6 : Int32) : Option Int32 := (if x6 < y3 then (gd (inB y1 6) (gd (inB y2 3) (vl ((((6 : Int32) * x6) + y1)) fun v4 => (gd (inB v4 24) (vl ((((((zI s0 112 (y1.toInt.toNat)) + (1 : Int32)) * y4) * (zI s0 78 (y2.toInt.toNat))) * (zI s0 113 (v4.toInt.toNat)))) fun v6 => (jn (fun (t7_0 : Int32) => (vl (x6 + 1) fun v8 => (rc t7_0 v8))) fun k7 => (if x5 < v6 then (k7 v6) else (k7 x5)))))))) else some x5)
noncomputable def f_X12_minutesAt_L6 (s0 : SS) (y1 : Int32) (y2 : Int32) (y3 : Int32) (y4 : Int32) : Nat → Int32 → Int32 → Option Int32
  | 0, _, _ => none
  | n + 1, x5, x6 => f_X12_minutesAt_L6_b s0 y1 y2 y3 y4 (f_X12_minutesAt_L6 s0 y1 y2 y3 y4 n) x5 x6
set_option maxRecDepth 4000 in
theorem t_X12_minutesAt_L6 {r9 : Int32} {s0 : SS} {h0 : List aE} {y1 : Int32} {y2 : Int32} {y3 : Int32} {y4 : Int32} (H0 : HH s0 h0)  : ∀ (n : Nat) (x5 : Int32) (x6 : Int32), f_X12_minutesAt_L6 s0 y1 y2 y3 y4 n x5 x6 = some r9 → AW mX12_minutesAt (rmD (0) 0 0) (fin (PI fun r' h' => r9 = r' ∧ h0 = h') 0 0) 6 [some (.ref 67), some (.int y1), some (.int y2), some (.int y3), some (.int y4), some (.int x5), some (.int x6), none] [] h0 0 0 := by
  intro n
  induction n with
  | zero =>
    intro x5 x6 hf
    cases hf
  | succ n ih =>
    intro x5 x6 hf
    replace hf : f_X12_minutesAt_L6_b s0 y1 y2 y3 y4 (f_X12_minutesAt_L6 s0 y1 y2 y3 y4 n) x5 x6 = some r9 := hf
    unfold f_X12_minutesAt_L6_b at hf
    refine aw_iload (pc' := 8) dX12_minutesAt_6 rfl rfl ?_
    refine aw_iload_n (pc' := 9) dX12_minutesAt_8 rfl rfl ?_
    refine aw_cge (tgt := 67) (pc' := 12) dX12_minutesAt_9 rfl rfl (fun c1 => ?_) (fun c1 => ?_)
    · replace hf := ifn c1 hf
      refine aw_iload (pc' := 69) dX12_minutesAt_67 rfl rfl ?_
      obtain rfl := Option.some.inj hf
      exact aw_ri dX12_minutesAt_69 rfl rfl (Nat.le_of_ble_eq_true rfl) (Nat.le_of_ble_eq_true rfl) ⟨rfl, rfl⟩
    · replace hf := ifp c1 hf
      refine aw_aload_n (pc' := 13) dX12_minutesAt_12 rfl rfl rfl ?_
      refine aw_gr (q := 59) (e := 107) (v := .ref 120) (pc' := 16) H0 (H0.fo rfl rfl) (l13 rfl) rfl rfl dX12_minutesAt_13 rfl fl_RX12_181 ?_
      refine aw_iload_n (pc' := 17) dX12_minutesAt_16 rfl rfl ?_
      obtain ⟨g2, hf⟩ := gd_e hf
      refine aw_ia (q := 112) (pc' := 18) H0 (H0.fa rfl rfl rfl) g2 dX12_minutesAt_17 rfl ?_
      refine aw_iconst (v := 1) (pc' := 19) dX12_minutesAt_18 rfl ic_1 ?_
      refine aw_iadd (pc' := 20) dX12_minutesAt_19 rfl ?_
      refine aw_iload (pc' := 22) dX12_minutesAt_20 rfl rfl ?_
      refine aw_imul (pc' := 23) dX12_minutesAt_22 rfl ?_
      refine aw_aload_n (pc' := 24) dX12_minutesAt_23 rfl rfl rfl ?_
      refine aw_gr (q := 59) (e := 39) (v := .ref 86) (pc' := 27) H0 (H0.fo rfl rfl) (l13 rfl) rfl rfl dX12_minutesAt_24 rfl fl_RX12_69 ?_
      refine aw_iload_n (pc' := 28) dX12_minutesAt_27 rfl rfl ?_
      obtain ⟨g3, hf⟩ := gd_e hf
      refine aw_ia (q := 78) (pc' := 29) H0 (H0.fa rfl rfl rfl) g3 dX12_minutesAt_28 rfl ?_
      refine aw_imul (pc' := 30) dX12_minutesAt_29 rfl ?_
      refine aw_aload_n (pc' := 31) dX12_minutesAt_30 rfl rfl rfl ?_
      refine aw_gr (q := 59) (e := 109) (v := .ref 121) (pc' := 34) H0 (H0.fo rfl rfl) (l13 rfl) rfl rfl dX12_minutesAt_31 rfl fl_RX12_184 ?_
      refine aw_bipush (v := 6) (pc' := 36) dX12_minutesAt_34 rfl bp_6 ?_
      refine aw_iload (pc' := 38) dX12_minutesAt_36 rfl rfl ?_
      refine aw_imul (pc' := 39) dX12_minutesAt_38 rfl ?_
      refine aw_iload_n (pc' := 40) dX12_minutesAt_39 rfl rfl ?_
      refine aw_iadd (pc' := 41) dX12_minutesAt_40 rfl ?_
      obtain ⟨v4, ev4, hf⟩ := vl_e hf
      refine aw_topi ev4 ?_
      obtain ⟨g5, hf⟩ := gd_e hf
      refine aw_ia (q := 113) (pc' := 42) H0 (H0.fa rfl rfl rfl) g5 dX12_minutesAt_41 rfl ?_
      refine aw_imul (pc' := 43) dX12_minutesAt_42 rfl ?_
      obtain ⟨v6, ev6, hf⟩ := vl_e hf
      refine aw_topi ev6 ?_
      refine aw_istore (lv' := [_, _, _, _, _, _, _, _]) (pc' := 45) dX12_minutesAt_43 rfl (Nat.le_of_ble_eq_true rfl) rfl ?_
      refine aw_iload (pc' := 47) dX12_minutesAt_45 rfl rfl ?_
      refine aw_iload (pc' := 49) dX12_minutesAt_47 rfl rfl ?_
      obtain ⟨k7, ek7, hf⟩ := jn_e hf
      have hk7 : ∀ (t7_0 : Int32), k7 t7_0 = some r9 → AW mX12_minutesAt (rmD (0) 0 0) (fin (PI fun r' h' => r9 = r' ∧ h0 = h') 0 0) 59 [some (.ref 67), some (.int y1), some (.int y2), some (.int y3), some (.int y4), none, some (.int x6), none] [.int t7_0] h0 0 0 := by
        intro t7_0 hf
        subst ek7
        refine aw_istore (lv' := [_, _, _, _, _, _, _, _]) (pc' := 61) dX12_minutesAt_59 rfl (Nat.le_of_ble_eq_true rfl) rfl ?_
        obtain ⟨v8, ev8, hf⟩ := vl_e hf
        refine aw_iincV (y := v8) (lv' := [_, _, _, _, _, _, _, _]) (pc' := 64) dX12_minutesAt_61 rfl rfl (Nat.le_of_ble_eq_true rfl) ev8 rfl ?_
        refine aw_goto (tgt := 6) dX12_minutesAt_64 rfl ?_
        exact ih _ _ hf
      clear ek7
      refine aw_cle (tgt := 57) (pc' := 52) dX12_minutesAt_49 rfl rfl (fun c10 => ?_) (fun c10 => ?_)
      · replace hf := ifn c10 hf
        refine aw_iload (pc' := 59) dX12_minutesAt_57 rfl rfl ?_
        refine AW.lv_le (lz_k (lz_k (lz_k (lz_k (lz_k (lz_d (lz_k (lz_d lz_0)))))))) ?_
        exact hk7 _ hf
      · replace hf := ifp c10 hf
        refine aw_iload (pc' := 54) dX12_minutesAt_52 rfl rfl ?_
        refine aw_goto (tgt := 59) dX12_minutesAt_54 rfl ?_
        refine AW.lv_le (lz_k (lz_k (lz_k (lz_k (lz_k (lz_d (lz_k (lz_d lz_0)))))))) ?_
        exact hk7 _ hf
noncomputable def f_X12_minutesAt (s0 : SS) (a0 : Int32) (a1 : Int32) (a2 : Int32) (a3 : Int32) : Option Int32 := (f_X12_minutesAt_L6 s0 a0 a1 a2 a3 4000 0 0)
set_option maxRecDepth 4000 in
theorem t_X12_minutesAt {r9 : Int32} {s0 : SS} {h0 : List aE} {a0 : Int32} {a1 : Int32} {a2 : Int32} {a3 : Int32} (H0 : HH s0 h0) (hf : f_X12_minutesAt s0 a0 a1 a2 a3 = some r9) : AM mX12_minutesAt (0) [.ref 67, .int a0, .int a1, .int a2, .int a3] h0 0 0 (PI fun r' h' => r9 = r' ∧ h0 = h') := by
  unfold f_X12_minutesAt at hf
  refine am_of (lv := [some (.ref 67), some (.int a0), some (.int a1), some (.int a2), some (.int a3), none, none, none]) rfl (Nat.le_of_ble_eq_true rfl) rfl ?_
  refine aw_iconst (v := 0) (pc' := 1) dX12_minutesAt_0 rfl ic_0 ?_
  refine aw_istore (lv' := [_, _, _, _, _, _, _, _]) (pc' := 3) dX12_minutesAt_1 rfl (Nat.le_of_ble_eq_true rfl) rfl ?_
  refine aw_iconst (v := 0) (pc' := 4) dX12_minutesAt_3 rfl ic_0 ?_
  refine aw_istore (lv' := [_, _, _, _, _, _, _, _]) (pc' := 6) dX12_minutesAt_4 rfl (Nat.le_of_ble_eq_true rfl) rfl ?_
  refine t_X12_minutesAt_L6 H0  4000 _ _ hf
/-! ThirtyThreeBelowModel.aimed -/
noncomputable def f_X12_aimed_L130_b (q0 : SS → Int32 → Option (Int32 × SS)) (y1 : Int32) (y2 : Int32) (y3 : Int32) (y5 : Int32) (y6 : Int32) (y7 : Int32) (rc : SS → Int32 → Int32 → Option (Int32 × SS)) (s : SS) (x4 : Int32) (x8 : Int32) : Option (Int32 × SS) := (if x8 < (3 : Int32) then (b1 (f_X12_minutesAt s y5 y7 y1 y2) fun r19 => (jn (fun (t20_0 : Int32) => (jn (fun (t21_0 : Int32) => (jn (fun (s22 : SS) (j22_4 : Int32) => (vl (x8 + 1) fun v23 => (rc s22 j22_4 v23))) fun k22 => (if t21_0 < x4 then (st (pI s 114 ((0 : Int32).toInt.toNat) y5) fun s25 => (st (pI s25 115 ((0 : Int32).toInt.toNat) y7) fun s26 => (st (pI s26 114 ((1 : Int32).toInt.toNat) y6) fun s27 => (st (pI s27 115 ((1 : Int32).toInt.toNat) x8) fun s28 => (k22 s28 t21_0))))) else (k22 s x4)))) fun k21 => (if r19 < t20_0 then (k21 t20_0) else (k21 r19)))) fun k20 => (if y3 = (2 : Int32) then (b1 (f_X12_minutesAt s y6 x8 y1 y2) fun r31 => (k20 r31)) else (k20 0)))) else (q0 s x4))
noncomputable def f_X12_aimed_L130 (q0 : SS → Int32 → Option (Int32 × SS)) (y1 : Int32) (y2 : Int32) (y3 : Int32) (y5 : Int32) (y6 : Int32) (y7 : Int32) : Nat → SS → Int32 → Int32 → Option (Int32 × SS)
  | 0, _, _, _ => none
  | n + 1, s, x4, x8 => f_X12_aimed_L130_b q0 y1 y2 y3 y5 y6 y7 (f_X12_aimed_L130 q0 y1 y2 y3 y5 y6 y7 n) s x4 x8
set_option maxRecDepth 4000 in
theorem t_X12_aimed_L130 {r9 : Int32} {s0 sb s9 : SS} {q0 : SS → Int32 → Option (Int32 × SS)} {y1 : Int32} {y2 : Int32} {y3 : Int32} {y5 : Int32} {y6 : Int32} {y7 : Int32} (mb : Mo s0 sb) (hq0 : ∀ (s : SS) (h : List aE) (x4 : Int32), HH s h → Mo sb s → q0 s x4 = some (r9, s9) → AW mX12_aimed (rmD (1) 0 0) (fin (PI fun r' h' => r9 = r' ∧ HH s9 h' ∧ Mo s0 s9) 0 0) 237 [some (.ref 67), some (.int y1), some (.int y2), some (.int y3), some (.int x4), some (.int y5), some (.int y6), some (.int y7), none, none, none] [] h 0 0) : ∀ (n : Nat) (s : SS) (h : List aE) (x4 : Int32) (x8 : Int32), HH s h → Mo sb s → f_X12_aimed_L130 q0 y1 y2 y3 y5 y6 y7 n s x4 x8 = some (r9, s9) → AW mX12_aimed (rmD (1) 0 0) (fin (PI fun r' h' => r9 = r' ∧ HH s9 h' ∧ Mo s0 s9) 0 0) 130 [some (.ref 67), some (.int y1), some (.int y2), some (.int y3), some (.int x4), some (.int y5), some (.int y6), some (.int y7), some (.int x8), none, none] [] h 0 0 := by
  intro n
  induction n with
  | zero =>
    intro s h x4 x8 H ms hf
    cases hf
  | succ n ih =>
    intro s h x4 x8 H ms hf
    replace hf : f_X12_aimed_L130_b q0 y1 y2 y3 y5 y6 y7 (f_X12_aimed_L130 q0 y1 y2 y3 y5 y6 y7 n) s x4 x8 = some (r9, s9) := hf
    unfold f_X12_aimed_L130_b at hf
    refine aw_iload (pc' := 132) dX12_aimed_130 rfl rfl ?_
    refine aw_iconst (v := 3) (pc' := 133) dX12_aimed_132 rfl ic_3 ?_
    refine aw_cge (tgt := 237) (pc' := 136) dX12_aimed_133 rfl rfl (fun c18 => ?_) (fun c18 => ?_)
    · replace hf := ifn c18 hf
      refine AW.lv_le (lz_k (lz_k (lz_k (lz_k (lz_k (lz_k (lz_k (lz_k (lz_d (lz_d (lz_d lz_0))))))))))) ?_
      exact hq0 _ _ _ H ms hf
    · replace hf := ifp c18 hf
      refine aw_aload_n (pc' := 137) dX12_aimed_136 rfl rfl rfl ?_
      refine aw_iload (pc' := 139) dX12_aimed_137 rfl rfl ?_
      refine aw_iload (pc' := 141) dX12_aimed_139 rfl rfl ?_
      refine aw_iload_n (pc' := 142) dX12_aimed_141 rfl rfl ?_
      refine aw_iload_n (pc' := 143) dX12_aimed_142 rfl rfl ?_
      obtain ⟨r19, ec19, hf⟩ := b1_e hf
      refine aw_callVi (M' := mX12_minutesAt) (nc' := 0) (ns' := 0) (pc' := 146) dX12_aimed_143 rfl ml_RX12_443 kX12_minutesAt (t_X12_minutesAt H ec19) (H.ob (H.fo rfl rfl) (by decide)) rfl rfl rfl (Nat.le_of_ble_eq_true rfl) (rokD (by omega) (Nat.le_of_ble_eq_true rfl) (Nat.le_of_ble_eq_true rfl) (Nat.le_of_ble_eq_true rfl)) rfl rfl (fun _ h19 q19 => ?_)
      obtain ⟨rfl, rfl⟩ := q19
      refine aw_istore (lv' := [_, _, _, _, _, _, _, _, _, _, _]) (pc' := 148) dX12_aimed_146 rfl (Nat.le_of_ble_eq_true rfl) rfl ?_
      refine aw_iload_n (pc' := 149) dX12_aimed_148 rfl rfl ?_
      refine aw_iconst (v := 2) (pc' := 150) dX12_aimed_149 rfl ic_2 ?_
      obtain ⟨k20, ek20, hf⟩ := jn_e hf
      have hk20 : ∀ (t20_0 : Int32), k20 t20_0 = some (r9, s9) → AW mX12_aimed (rmD (1) 0 0) (fin (PI fun r' h' => r9 = r' ∧ HH s9 h' ∧ Mo s0 s9) 0 0) 167 [some (.ref 67), some (.int y1), some (.int y2), some (.int y3), some (.int x4), some (.int y5), some (.int y6), some (.int y7), some (.int x8), some (.int r19), none] [.int t20_0] h 0 0 := by
        intro t20_0 hf
        subst ek20
        refine aw_istore (lv' := [_, _, _, _, _, _, _, _, _, _, _]) (pc' := 169) dX12_aimed_167 rfl (Nat.le_of_ble_eq_true rfl) rfl ?_
        refine aw_iload (pc' := 171) dX12_aimed_169 rfl rfl ?_
        refine aw_iload (pc' := 173) dX12_aimed_171 rfl rfl ?_
        obtain ⟨k21, ek21, hf⟩ := jn_e hf
        have hk21 : ∀ (t21_0 : Int32), k21 t21_0 = some (r9, s9) → AW mX12_aimed (rmD (1) 0 0) (fin (PI fun r' h' => r9 = r' ∧ HH s9 h' ∧ Mo s0 s9) 0 0) 183 [some (.ref 67), some (.int y1), some (.int y2), some (.int y3), some (.int x4), some (.int y5), some (.int y6), some (.int y7), some (.int x8), none, none] [.int t21_0] h 0 0 := by
          intro t21_0 hf
          subst ek21
          refine aw_istore (lv' := [_, _, _, _, _, _, _, _, _, _, _]) (pc' := 185) dX12_aimed_183 rfl (Nat.le_of_ble_eq_true rfl) rfl ?_
          refine aw_iload (pc' := 187) dX12_aimed_185 rfl rfl ?_
          refine aw_iload (pc' := 189) dX12_aimed_187 rfl rfl ?_
          obtain ⟨k22, ek22, hf⟩ := jn_e hf
          have hk22 : ∀ (s22 : SS) (h22 : List aE) (j22_4 : Int32), HH s22 h22 → Mo s s22 → k22 s22 j22_4 = some (r9, s9) → AW mX12_aimed (rmD (1) 0 0) (fin (PI fun r' h' => r9 = r' ∧ HH s9 h' ∧ Mo s0 s9) 0 0) 231 [some (.ref 67), some (.int y1), some (.int y2), some (.int y3), some (.int j22_4), some (.int y5), some (.int y6), some (.int y7), some (.int x8), none, none] [] h22 0 0 := by
            intro s22 h22 j22_4 H22 m22 hf
            subst ek22
            obtain ⟨v23, ev23, hf⟩ := vl_e hf
            refine aw_iincV (y := v23) (lv' := [_, _, _, _, _, _, _, _, _, _, _]) (pc' := 234) dX12_aimed_231 rfl rfl (Nat.le_of_ble_eq_true rfl) ev23 rfl ?_
            refine aw_goto (tgt := 130) dX12_aimed_234 rfl ?_
            exact ih _ _ _ _ H22 (ms.tr m22) hf
          clear ek22
          refine aw_clt (tgt := 195) (pc' := 192) dX12_aimed_189 rfl rfl (fun c24 => ?_) (fun c24 => ?_)
          · replace hf := ifp c24 hf
            refine aw_iload (pc' := 197) dX12_aimed_195 rfl rfl ?_
            refine aw_istore (lv' := [_, _, _, _, _, _, _, _, _, _, _]) (pc' := 199) dX12_aimed_197 rfl (Nat.le_of_ble_eq_true rfl) rfl ?_
            refine aw_aload_n (pc' := 200) dX12_aimed_199 rfl rfl rfl ?_
            refine aw_gr (q := 59) (e := 111) (v := .ref 122) (pc' := 203) H (H.fo rfl rfl) (by decide) rfl rfl dX12_aimed_200 rfl fl_RX12_187 ?_
            refine aw_iconst (v := 0) (pc' := 204) dX12_aimed_203 rfl ic_0 ?_
            refine aw_iload (pc' := 206) dX12_aimed_204 rfl rfl ?_
            obtain ⟨s25, es25, hf⟩ := st_e hf
            refine aw_is (q := 114) (pc' := 207) es25 H (H.fa rfl rfl rfl) (by decide) dX12_aimed_206 rfl (fun h25 H25 => ?_)
            have m25 := Mo.ofI es25
            refine aw_aload_n (pc' := 208) dX12_aimed_207 rfl rfl rfl ?_
            refine aw_gr (q := 59) (e := 113) (v := .ref 123) (pc' := 211) H25 (H25.fo rfl rfl) (l13 rfl) rfl rfl dX12_aimed_208 rfl fl_RX12_190 ?_
            refine aw_iconst (v := 0) (pc' := 212) dX12_aimed_211 rfl ic_0 ?_
            refine aw_iload (pc' := 214) dX12_aimed_212 rfl rfl ?_
            obtain ⟨s26, es26, hf⟩ := st_e hf
            refine aw_is (q := 115) (pc' := 215) es26 H25 (H25.fa rfl rfl rfl) (by decide) dX12_aimed_214 rfl (fun h26 H26 => ?_)
            have m26 := Mo.ofI es26
            refine aw_aload_n (pc' := 216) dX12_aimed_215 rfl rfl rfl ?_
            refine aw_gr (q := 59) (e := 111) (v := .ref 122) (pc' := 219) H26 (H26.fo rfl rfl) (l13 rfl) rfl rfl dX12_aimed_216 rfl fl_RX12_187 ?_
            refine aw_iconst (v := 1) (pc' := 220) dX12_aimed_219 rfl ic_1 ?_
            refine aw_iload (pc' := 222) dX12_aimed_220 rfl rfl ?_
            obtain ⟨s27, es27, hf⟩ := st_e hf
            refine aw_is (q := 114) (pc' := 223) es27 H26 (H26.fa rfl rfl rfl) (by decide) dX12_aimed_222 rfl (fun h27 H27 => ?_)
            have m27 := Mo.ofI es27
            refine aw_aload_n (pc' := 224) dX12_aimed_223 rfl rfl rfl ?_
            refine aw_gr (q := 59) (e := 113) (v := .ref 123) (pc' := 227) H27 (H27.fo rfl rfl) (l13 rfl) rfl rfl dX12_aimed_224 rfl fl_RX12_190 ?_
            refine aw_iconst (v := 1) (pc' := 228) dX12_aimed_227 rfl ic_1 ?_
            refine aw_iload (pc' := 230) dX12_aimed_228 rfl rfl ?_
            obtain ⟨s28, es28, hf⟩ := st_e hf
            refine aw_is (q := 115) (pc' := 231) es28 H27 (H27.fa rfl rfl rfl) (by decide) dX12_aimed_230 rfl (fun h28 H28 => ?_)
            have m28 := Mo.ofI es28
            refine AW.lv_le (lz_k (lz_k (lz_k (lz_k (lz_k (lz_k (lz_k (lz_k (lz_k (lz_d (lz_d lz_0))))))))))) ?_
            exact hk22 _ _ _ H28 (((m25.tr m26).tr m27).tr m28) hf
          · replace hf := ifn c24 hf
            refine aw_goto (tgt := 231) dX12_aimed_192 rfl ?_
            refine AW.lv_le (lz_k (lz_k (lz_k (lz_k (lz_k (lz_k (lz_k (lz_k (lz_k (lz_d (lz_d lz_0))))))))))) ?_
            exact hk22 _ _ _ H (Mo.rf _) hf
        clear ek21
        refine aw_cle (tgt := 181) (pc' := 176) dX12_aimed_173 rfl rfl (fun c29 => ?_) (fun c29 => ?_)
        · replace hf := ifn c29 hf
          refine aw_iload (pc' := 183) dX12_aimed_181 rfl rfl ?_
          refine AW.lv_le (lz_k (lz_k (lz_k (lz_k (lz_k (lz_k (lz_k (lz_k (lz_k (lz_d (lz_d lz_0))))))))))) ?_
          exact hk21 _ hf
        · replace hf := ifp c29 hf
          refine aw_iload (pc' := 178) dX12_aimed_176 rfl rfl ?_
          refine aw_goto (tgt := 183) dX12_aimed_178 rfl ?_
          refine AW.lv_le (lz_k (lz_k (lz_k (lz_k (lz_k (lz_k (lz_k (lz_k (lz_k (lz_d (lz_d lz_0))))))))))) ?_
          exact hk21 _ hf
      clear ek20
      refine aw_icmp_ne (tgt := 166) (pc' := 153) dX12_aimed_150 rfl rfl (fun c30 => ?_) (fun c30 => ?_)
      · replace hf := ifn c30 hf
        refine aw_iconst (v := 0) (pc' := 167) dX12_aimed_166 rfl ic_0 ?_
        exact hk20 _ hf
      · replace hf := ifp c30 hf
        refine aw_aload_n (pc' := 154) dX12_aimed_153 rfl rfl rfl ?_
        refine aw_iload (pc' := 156) dX12_aimed_154 rfl rfl ?_
        refine aw_iload (pc' := 158) dX12_aimed_156 rfl rfl ?_
        refine aw_iload_n (pc' := 159) dX12_aimed_158 rfl rfl ?_
        refine aw_iload_n (pc' := 160) dX12_aimed_159 rfl rfl ?_
        obtain ⟨r31, ec31, hf⟩ := b1_e hf
        refine aw_callVi (M' := mX12_minutesAt) (nc' := 0) (ns' := 0) (pc' := 163) dX12_aimed_160 rfl ml_RX12_443 kX12_minutesAt (t_X12_minutesAt H ec31) (H.ob (H.fo rfl rfl) (by decide)) rfl rfl rfl (Nat.le_of_ble_eq_true rfl) (rokD (by omega) (Nat.le_of_ble_eq_true rfl) (Nat.le_of_ble_eq_true rfl) (Nat.le_of_ble_eq_true rfl)) rfl rfl (fun _ h31 q31 => ?_)
        obtain ⟨rfl, rfl⟩ := q31
        refine aw_goto (tgt := 167) dX12_aimed_163 rfl ?_
        exact hk20 _ hf
noncomputable def f_X12_aimed_L109_b (q0 : SS → Int32 → Option (Int32 × SS)) (y1 : Int32) (y2 : Int32) (y3 : Int32) (y5 : Int32) (y6 : Int32) (rc : SS → Int32 → Int32 → Option (Int32 × SS)) (s : SS) (x4 : Int32) (x7 : Int32) : Option (Int32 × SS) := (if x7 < (3 : Int32) then (jn (fun (t17_0 : Int32) => (f_X12_aimed_L130 (fun (s32 : SS) (x32_4 : Int32) => (vl (x7 + 1) fun v33 => (rc s32 x32_4 v33))) y1 y2 y3 y5 y6 x7 4000 s x4 t17_0)) fun k17 => (if y3 = (2 : Int32) then (k17 (x7 + (1 : Int32))) else (k17 2))) else (q0 s x4))
noncomputable def f_X12_aimed_L109 (q0 : SS → Int32 → Option (Int32 × SS)) (y1 : Int32) (y2 : Int32) (y3 : Int32) (y5 : Int32) (y6 : Int32) : Nat → SS → Int32 → Int32 → Option (Int32 × SS)
  | 0, _, _, _ => none
  | n + 1, s, x4, x7 => f_X12_aimed_L109_b q0 y1 y2 y3 y5 y6 (f_X12_aimed_L109 q0 y1 y2 y3 y5 y6 n) s x4 x7
set_option maxRecDepth 4000 in
theorem t_X12_aimed_L109 {r9 : Int32} {s0 sb s9 : SS} {q0 : SS → Int32 → Option (Int32 × SS)} {y1 : Int32} {y2 : Int32} {y3 : Int32} {y5 : Int32} {y6 : Int32} (mb : Mo s0 sb) (hq0 : ∀ (s : SS) (h : List aE) (x4 : Int32), HH s h → Mo sb s → q0 s x4 = some (r9, s9) → AW mX12_aimed (rmD (1) 0 0) (fin (PI fun r' h' => r9 = r' ∧ HH s9 h' ∧ Mo s0 s9) 0 0) 243 [some (.ref 67), some (.int y1), some (.int y2), some (.int y3), some (.int x4), some (.int y5), some (.int y6), none, none, none, none] [] h 0 0) : ∀ (n : Nat) (s : SS) (h : List aE) (x4 : Int32) (x7 : Int32), HH s h → Mo sb s → f_X12_aimed_L109 q0 y1 y2 y3 y5 y6 n s x4 x7 = some (r9, s9) → AW mX12_aimed (rmD (1) 0 0) (fin (PI fun r' h' => r9 = r' ∧ HH s9 h' ∧ Mo s0 s9) 0 0) 109 [some (.ref 67), some (.int y1), some (.int y2), some (.int y3), some (.int x4), some (.int y5), some (.int y6), some (.int x7), none, none, none] [] h 0 0 := by
  intro n
  induction n with
  | zero =>
    intro s h x4 x7 H ms hf
    cases hf
  | succ n ih =>
    intro s h x4 x7 H ms hf
    replace hf : f_X12_aimed_L109_b q0 y1 y2 y3 y5 y6 (f_X12_aimed_L109 q0 y1 y2 y3 y5 y6 n) s x4 x7 = some (r9, s9) := hf
    unfold f_X12_aimed_L109_b at hf
    refine aw_iload (pc' := 111) dX12_aimed_109 rfl rfl ?_
    refine aw_iconst (v := 3) (pc' := 112) dX12_aimed_111 rfl ic_3 ?_
    refine aw_cge (tgt := 243) (pc' := 115) dX12_aimed_112 rfl rfl (fun c16 => ?_) (fun c16 => ?_)
    · replace hf := ifn c16 hf
      refine AW.lv_le (lz_k (lz_k (lz_k (lz_k (lz_k (lz_k (lz_k (lz_d (lz_d (lz_d (lz_d lz_0))))))))))) ?_
      exact hq0 _ _ _ H ms hf
    · replace hf := ifp c16 hf
      refine aw_iload_n (pc' := 116) dX12_aimed_115 rfl rfl ?_
      refine aw_iconst (v := 2) (pc' := 117) dX12_aimed_116 rfl ic_2 ?_
      obtain ⟨k17, ek17, hf⟩ := jn_e hf
      have hk17 : ∀ (t17_0 : Int32), k17 t17_0 = some (r9, s9) → AW mX12_aimed (rmD (1) 0 0) (fin (PI fun r' h' => r9 = r' ∧ HH s9 h' ∧ Mo s0 s9) 0 0) 128 [some (.ref 67), some (.int y1), some (.int y2), some (.int y3), some (.int x4), some (.int y5), some (.int y6), some (.int x7), none, none, none] [.int t17_0] h 0 0 := by
        intro t17_0 hf
        subst ek17
        refine aw_istore (lv' := [_, _, _, _, _, _, _, _, _, _, _]) (pc' := 130) dX12_aimed_128 rfl (Nat.le_of_ble_eq_true rfl) rfl ?_
        refine t_X12_aimed_L130 (mb.tr ms) (fun s32 h32 x32_4 H32 m32 hf => ?_) 4000 _ _ _ _ H (Mo.rf _) hf
        obtain ⟨v33, ev33, hf⟩ := vl_e hf
        refine aw_iincV (y := v33) (lv' := [_, _, _, _, _, _, _, _, _, _, _]) (pc' := 240) dX12_aimed_237 rfl rfl (Nat.le_of_ble_eq_true rfl) ev33 rfl ?_
        refine aw_goto (tgt := 109) dX12_aimed_240 rfl ?_
        exact ih _ _ _ _ H32 (ms.tr m32) hf
      clear ek17
      refine aw_icmp_ne (tgt := 127) (pc' := 120) dX12_aimed_117 rfl rfl (fun c34 => ?_) (fun c34 => ?_)
      · replace hf := ifn c34 hf
        refine aw_iconst (v := 2) (pc' := 128) dX12_aimed_127 rfl ic_2 ?_
        exact hk17 _ hf
      · replace hf := ifp c34 hf
        refine aw_iload (pc' := 122) dX12_aimed_120 rfl rfl ?_
        refine aw_iconst (v := 1) (pc' := 123) dX12_aimed_122 rfl ic_1 ?_
        refine aw_iadd (pc' := 124) dX12_aimed_123 rfl ?_
        refine aw_goto (tgt := 128) dX12_aimed_124 rfl ?_
        exact hk17 _ hf
noncomputable def f_X12_aimed_L73_b (q0 : SS → Int32 → Option (Int32 × SS)) (y1 : Int32) (y2 : Int32) (y3 : Int32) (y5 : Int32) (rc : SS → Int32 → Int32 → Option (Int32 × SS)) (s : SS) (x4 : Int32) (x6 : Int32) : Option (Int32 × SS) := (jn (fun (t11_0 : Int32) => (if x6 < t11_0 then (jn (fun (s13 : SS) (j13_4 : Int32) => (vl (x6 + 1) fun v14 => (rc s13 j13_4 v14))) fun k13 => (jn ((f_X12_aimed_L109 (fun (s35 : SS) (x35_4 : Int32) => (k13 s35 x35_4)) y1 y2 y3 y5 x6 4000 s x4 0)) fun k15 => (if y3 = (2 : Int32) then (if x6 = y5 then (k13 s x4) else k15) else k15))) else (q0 s x4))) fun k11 => (if y3 = (2 : Int32) then (k11 (zS s 59 76)) else (k11 1)))
noncomputable def f_X12_aimed_L73 (q0 : SS → Int32 → Option (Int32 × SS)) (y1 : Int32) (y2 : Int32) (y3 : Int32) (y5 : Int32) : Nat → SS → Int32 → Int32 → Option (Int32 × SS)
  | 0, _, _, _ => none
  | n + 1, s, x4, x6 => f_X12_aimed_L73_b q0 y1 y2 y3 y5 (f_X12_aimed_L73 q0 y1 y2 y3 y5 n) s x4 x6
set_option maxRecDepth 4000 in
theorem t_X12_aimed_L73 {r9 : Int32} {s0 sb s9 : SS} {q0 : SS → Int32 → Option (Int32 × SS)} {y1 : Int32} {y2 : Int32} {y3 : Int32} {y5 : Int32} (mb : Mo s0 sb) (hq0 : ∀ (s : SS) (h : List aE) (x4 : Int32), HH s h → Mo sb s → q0 s x4 = some (r9, s9) → AW mX12_aimed (rmD (1) 0 0) (fin (PI fun r' h' => r9 = r' ∧ HH s9 h' ∧ Mo s0 s9) 0 0) 249 [some (.ref 67), some (.int y1), some (.int y2), some (.int y3), some (.int x4), some (.int y5), none, none, none, none, none] [] h 0 0) : ∀ (n : Nat) (s : SS) (h : List aE) (x4 : Int32) (x6 : Int32), HH s h → Mo sb s → f_X12_aimed_L73 q0 y1 y2 y3 y5 n s x4 x6 = some (r9, s9) → AW mX12_aimed (rmD (1) 0 0) (fin (PI fun r' h' => r9 = r' ∧ HH s9 h' ∧ Mo s0 s9) 0 0) 73 [some (.ref 67), some (.int y1), some (.int y2), some (.int y3), some (.int x4), some (.int y5), some (.int x6), none, none, none, none] [] h 0 0 := by
  intro n
  induction n with
  | zero =>
    intro s h x4 x6 H ms hf
    cases hf
  | succ n ih =>
    intro s h x4 x6 H ms hf
    replace hf : f_X12_aimed_L73_b q0 y1 y2 y3 y5 (f_X12_aimed_L73 q0 y1 y2 y3 y5 n) s x4 x6 = some (r9, s9) := hf
    unfold f_X12_aimed_L73_b at hf
    refine aw_iload (pc' := 75) dX12_aimed_73 rfl rfl ?_
    refine aw_iload_n (pc' := 76) dX12_aimed_75 rfl rfl ?_
    refine aw_iconst (v := 2) (pc' := 77) dX12_aimed_76 rfl ic_2 ?_
    obtain ⟨k11, ek11, hf⟩ := jn_e hf
    have hk11 : ∀ (t11_0 : Int32), k11 t11_0 = some (r9, s9) → AW mX12_aimed (rmD (1) 0 0) (fin (PI fun r' h' => r9 = r' ∧ HH s9 h' ∧ Mo s0 s9) 0 0) 88 [some (.ref 67), some (.int y1), some (.int y2), some (.int y3), some (.int x4), some (.int y5), some (.int x6), none, none, none, none] [.int t11_0, .int x6] h 0 0 := by
      intro t11_0 hf
      subst ek11
      refine aw_cge (tgt := 249) (pc' := 91) dX12_aimed_88 rfl rfl (fun c12 => ?_) (fun c12 => ?_)
      · replace hf := ifn c12 hf
        refine AW.lv_le (lz_k (lz_k (lz_k (lz_k (lz_k (lz_k (lz_d (lz_d (lz_d (lz_d (lz_d lz_0))))))))))) ?_
        exact hq0 _ _ _ H ms hf
      · replace hf := ifp c12 hf
        refine aw_iload_n (pc' := 92) dX12_aimed_91 rfl rfl ?_
        refine aw_iconst (v := 2) (pc' := 93) dX12_aimed_92 rfl ic_2 ?_
        obtain ⟨k13, ek13, hf⟩ := jn_e hf
        have hk13 : ∀ (s13 : SS) (h13 : List aE) (j13_4 : Int32), HH s13 h13 → Mo s s13 → k13 s13 j13_4 = some (r9, s9) → AW mX12_aimed (rmD (1) 0 0) (fin (PI fun r' h' => r9 = r' ∧ HH s9 h' ∧ Mo s0 s9) 0 0) 243 [some (.ref 67), some (.int y1), some (.int y2), some (.int y3), some (.int j13_4), some (.int y5), some (.int x6), none, none, none, none] [] h13 0 0 := by
          intro s13 h13 j13_4 H13 m13 hf
          subst ek13
          obtain ⟨v14, ev14, hf⟩ := vl_e hf
          refine aw_iincV (y := v14) (lv' := [_, _, _, _, _, _, _, _, _, _, _]) (pc' := 246) dX12_aimed_243 rfl rfl (Nat.le_of_ble_eq_true rfl) ev14 rfl ?_
          refine aw_goto (tgt := 73) dX12_aimed_246 rfl ?_
          exact ih _ _ _ _ H13 (ms.tr m13) hf
        clear ek13
        obtain ⟨k15, ek15, hf⟩ := jn_e hf
        have hk15 : k15 = some (r9, s9) → AW mX12_aimed (rmD (1) 0 0) (fin (PI fun r' h' => r9 = r' ∧ HH s9 h' ∧ Mo s0 s9) 0 0) 106 [some (.ref 67), some (.int y1), some (.int y2), some (.int y3), some (.int x4), some (.int y5), some (.int x6), none, none, none, none] [] h 0 0 := by
          intro hf
          subst ek15
          refine aw_iconst (v := 0) (pc' := 107) dX12_aimed_106 rfl ic_0 ?_
          refine aw_istore (lv' := [_, _, _, _, _, _, _, _, _, _, _]) (pc' := 109) dX12_aimed_107 rfl (Nat.le_of_ble_eq_true rfl) rfl ?_
          refine t_X12_aimed_L109 (mb.tr ms) (fun s35 h35 x35_4 H35 m35 hf => ?_) 4000 _ _ _ _ H (Mo.rf _) hf
          exact hk13 _ _ _ H35 m35 hf
        clear ek15
        refine aw_icmp_ne (tgt := 106) (pc' := 96) dX12_aimed_93 rfl rfl (fun c36 => ?_) (fun c36 => ?_)
        · replace hf := ifn c36 hf
          exact hk15  hf
        · replace hf := ifp c36 hf
          refine aw_iload (pc' := 98) dX12_aimed_96 rfl rfl ?_
          refine aw_iload (pc' := 100) dX12_aimed_98 rfl rfl ?_
          refine aw_icmp_ne (tgt := 106) (pc' := 103) dX12_aimed_100 rfl rfl (fun c37 => ?_) (fun c37 => ?_)
          · replace hf := ifn c37 hf
            exact hk15  hf
          · replace hf := ifp c37 hf
            refine aw_goto (tgt := 243) dX12_aimed_103 rfl ?_
            exact hk13 _ _ _ H (Mo.rf _) hf
    clear ek11
    refine aw_icmp_ne (tgt := 87) (pc' := 80) dX12_aimed_77 rfl rfl (fun c38 => ?_) (fun c38 => ?_)
    · replace hf := ifn c38 hf
      refine aw_iconst (v := 1) (pc' := 88) dX12_aimed_87 rfl ic_1 ?_
      exact hk11 _ hf
    · replace hf := ifp c38 hf
      refine aw_aload_n (pc' := 81) dX12_aimed_80 rfl rfl rfl ?_
      refine aw_gi (q := 59) (pc' := 84) H (H.fo rfl rfl) (by decide) rfl dX12_aimed_81 rfl fl_RX12_440 ?_
      refine aw_goto (tgt := 88) dX12_aimed_84 rfl ?_
      exact hk11 _ hf
noncomputable def f_X12_aimed_L61_b (q0 : SS → Int32 → Option (Int32 × SS)) (y1 : Int32) (y2 : Int32) (y3 : Int32) (rc : SS → Int32 → Int32 → Option (Int32 × SS)) (s : SS) (x4 : Int32) (x5 : Int32) : Option (Int32 × SS) := (if x5 < (zS s 59 76) then (f_X12_aimed_L73 (fun (s39 : SS) (x39_4 : Int32) => (vl (x5 + 1) fun v40 => (rc s39 x39_4 v40))) y1 y2 y3 x5 4000 s x4 0) else (q0 s x4))
noncomputable def f_X12_aimed_L61 (q0 : SS → Int32 → Option (Int32 × SS)) (y1 : Int32) (y2 : Int32) (y3 : Int32) : Nat → SS → Int32 → Int32 → Option (Int32 × SS)
  | 0, _, _, _ => none
  | n + 1, s, x4, x5 => f_X12_aimed_L61_b q0 y1 y2 y3 (f_X12_aimed_L61 q0 y1 y2 y3 n) s x4 x5
set_option maxRecDepth 4000 in
theorem t_X12_aimed_L61 {r9 : Int32} {s0 sb s9 : SS} {q0 : SS → Int32 → Option (Int32 × SS)} {y1 : Int32} {y2 : Int32} {y3 : Int32} (mb : Mo s0 sb) (hq0 : ∀ (s : SS) (h : List aE) (x4 : Int32), HH s h → Mo sb s → q0 s x4 = some (r9, s9) → AW mX12_aimed (rmD (1) 0 0) (fin (PI fun r' h' => r9 = r' ∧ HH s9 h' ∧ Mo s0 s9) 0 0) 255 [some (.ref 67), none, none, some (.int y3), some (.int x4), none, none, none, none, none, none] [] h 0 0) : ∀ (n : Nat) (s : SS) (h : List aE) (x4 : Int32) (x5 : Int32), HH s h → Mo sb s → f_X12_aimed_L61 q0 y1 y2 y3 n s x4 x5 = some (r9, s9) → AW mX12_aimed (rmD (1) 0 0) (fin (PI fun r' h' => r9 = r' ∧ HH s9 h' ∧ Mo s0 s9) 0 0) 61 [some (.ref 67), some (.int y1), some (.int y2), some (.int y3), some (.int x4), some (.int x5), none, none, none, none, none] [] h 0 0 := by
  intro n
  induction n with
  | zero =>
    intro s h x4 x5 H ms hf
    cases hf
  | succ n ih =>
    intro s h x4 x5 H ms hf
    replace hf : f_X12_aimed_L61_b q0 y1 y2 y3 (f_X12_aimed_L61 q0 y1 y2 y3 n) s x4 x5 = some (r9, s9) := hf
    unfold f_X12_aimed_L61_b at hf
    refine aw_iload (pc' := 63) dX12_aimed_61 rfl rfl ?_
    refine aw_aload_n (pc' := 64) dX12_aimed_63 rfl rfl rfl ?_
    refine aw_gi (q := 59) (pc' := 67) H (H.fo rfl rfl) (by decide) rfl dX12_aimed_64 rfl fl_RX12_440 ?_
    refine aw_cge (tgt := 255) (pc' := 70) dX12_aimed_67 rfl rfl (fun c10 => ?_) (fun c10 => ?_)
    · replace hf := ifn c10 hf
      refine AW.lv_le (lz_k (lz_d (lz_d (lz_k (lz_k (lz_d (lz_d (lz_d (lz_d (lz_d (lz_d lz_0))))))))))) ?_
      exact hq0 _ _ _ H ms hf
    · replace hf := ifp c10 hf
      refine aw_iconst (v := 0) (pc' := 71) dX12_aimed_70 rfl ic_0 ?_
      refine aw_istore (lv' := [_, _, _, _, _, _, _, _, _, _, _]) (pc' := 73) dX12_aimed_71 rfl (Nat.le_of_ble_eq_true rfl) rfl ?_
      refine t_X12_aimed_L73 (mb.tr ms) (fun s39 h39 x39_4 H39 m39 hf => ?_) 4000 _ _ _ _ H (Mo.rf _) hf
      obtain ⟨v40, ev40, hf⟩ := vl_e hf
      refine aw_iincV (y := v40) (lv' := [_, _, _, _, _, _, _, _, _, _, _]) (pc' := 252) dX12_aimed_249 rfl rfl (Nat.le_of_ble_eq_true rfl) ev40 rfl ?_
      refine aw_goto (tgt := 61) dX12_aimed_252 rfl ?_
      exact ih _ _ _ _ H39 (ms.tr m39) hf
noncomputable def f_X12_aimed (s0 : SS) (a0 : Int32) (a1 : Int32) (a2 : Int32) : Option (Int32 × SS) := (b1 (f_X12_in a0 (1 : Int32) (4 : Int32)) fun r1 => (if r1 = (0 : Int32) then some ((-1), s0) else (b1 (f_X12_in a1 (1 : Int32) (60 : Int32)) fun r3 => (if r3 = (0 : Int32) then some ((-1), s0) else (b1 (f_X12_in a2 (1 : Int32) (2 : Int32)) fun r5 => (if r5 = (0 : Int32) then some ((-1), s0) else (if (zS s0 59 76) = (0 : Int32) then some ((-1), s0) else (jn ((f_X12_aimed_L61 (fun (s41 : SS) (x41_4 : Int32) => (st (pS s41 59 79 a2) fun s42 => (st (pS s42 59 76 0) fun s43 => some (x41_4, s43)))) a0 a1 a2 4000 s0 2147483647 0)) fun k8 => (if a2 = (2 : Int32) then (if (zS s0 59 76) < (2 : Int32) then some ((-2), s0) else k8) else k8)))))))))
set_option maxRecDepth 4000 in
theorem t_X12_aimed {r9 : Int32} {s0 s9 : SS} {h0 : List aE} {a0 : Int32} {a1 : Int32} {a2 : Int32} (H0 : HH s0 h0) (hf : f_X12_aimed s0 a0 a1 a2 = some (r9, s9)) : AM mX12_aimed (1) [.ref 67, .int a0, .int a1, .int a2] h0 0 0 (PI fun r' h' => r9 = r' ∧ HH s9 h' ∧ Mo s0 s9) := by
  unfold f_X12_aimed at hf
  refine am_of (lv := [some (.ref 67), some (.int a0), some (.int a1), some (.int a2), none, none, none, none, none, none, none]) rfl (Nat.le_of_ble_eq_true rfl) rfl ?_
  refine aw_iload_n (pc' := 1) dX12_aimed_0 rfl rfl ?_
  refine aw_iconst (v := 1) (pc' := 2) dX12_aimed_1 rfl ic_1 ?_
  refine aw_iconst (v := 4) (pc' := 3) dX12_aimed_2 rfl ic_4 ?_
  obtain ⟨r1, ec1, hf⟩ := b1_e hf
  refine aw_callSi (M' := mX12_in) (nc' := 0) (ns' := 0) (pc' := 6) dX12_aimed_3 rfl ml_RX12_230 kX12_in (t_X12_in ec1) rfl rfl (Nat.le_of_ble_eq_true rfl) (rokD (by omega) (Nat.le_of_ble_eq_true rfl) (Nat.le_of_ble_eq_true rfl) (Nat.le_of_ble_eq_true rfl)) rfl rfl (fun _ h1 q1 => ?_)
  obtain ⟨rfl, rfl, zb1⟩ := q1
  refine aw_if_eq (tgt := 35) (pc' := 9) dX12_aimed_6 rfl rfl (fun c2 => ?_) (fun c2 => ?_)
  · replace hf := ifp c2 hf
    refine aw_iconst (v := (-1)) (pc' := 36) dX12_aimed_35 rfl ic_m1 ?_
    obtain ⟨rfl, rfl⟩ := so2 hf
    exact aw_ri dX12_aimed_36 rfl rfl (Nat.le_of_ble_eq_true rfl) (Nat.le_of_ble_eq_true rfl) ⟨rfl, H0, (Mo.rf _)⟩
  · replace hf := ifn c2 hf
    refine aw_iload_n (pc' := 10) dX12_aimed_9 rfl rfl ?_
    refine aw_iconst (v := 1) (pc' := 11) dX12_aimed_10 rfl ic_1 ?_
    refine aw_bipush (v := 60) (pc' := 13) dX12_aimed_11 rfl bp_60 ?_
    obtain ⟨r3, ec3, hf⟩ := b1_e hf
    refine aw_callSi (M' := mX12_in) (nc' := 0) (ns' := 0) (pc' := 16) dX12_aimed_13 rfl ml_RX12_230 kX12_in (t_X12_in ec3) rfl rfl (Nat.le_of_ble_eq_true rfl) (rokD (by omega) (Nat.le_of_ble_eq_true rfl) (Nat.le_of_ble_eq_true rfl) (Nat.le_of_ble_eq_true rfl)) rfl rfl (fun _ h3 q3 => ?_)
    obtain ⟨rfl, rfl, zb3⟩ := q3
    refine aw_if_eq (tgt := 35) (pc' := 19) dX12_aimed_16 rfl rfl (fun c4 => ?_) (fun c4 => ?_)
    · replace hf := ifp c4 hf
      refine aw_iconst (v := (-1)) (pc' := 36) dX12_aimed_35 rfl ic_m1 ?_
      obtain ⟨rfl, rfl⟩ := so2 hf
      exact aw_ri dX12_aimed_36 rfl rfl (Nat.le_of_ble_eq_true rfl) (Nat.le_of_ble_eq_true rfl) ⟨rfl, H0, (Mo.rf _)⟩
    · replace hf := ifn c4 hf
      refine aw_iload_n (pc' := 20) dX12_aimed_19 rfl rfl ?_
      refine aw_iconst (v := 1) (pc' := 21) dX12_aimed_20 rfl ic_1 ?_
      refine aw_iconst (v := 2) (pc' := 22) dX12_aimed_21 rfl ic_2 ?_
      obtain ⟨r5, ec5, hf⟩ := b1_e hf
      refine aw_callSi (M' := mX12_in) (nc' := 0) (ns' := 0) (pc' := 25) dX12_aimed_22 rfl ml_RX12_230 kX12_in (t_X12_in ec5) rfl rfl (Nat.le_of_ble_eq_true rfl) (rokD (by omega) (Nat.le_of_ble_eq_true rfl) (Nat.le_of_ble_eq_true rfl) (Nat.le_of_ble_eq_true rfl)) rfl rfl (fun _ h5 q5 => ?_)
      obtain ⟨rfl, rfl, zb5⟩ := q5
      refine aw_if_eq (tgt := 35) (pc' := 28) dX12_aimed_25 rfl rfl (fun c6 => ?_) (fun c6 => ?_)
      · replace hf := ifp c6 hf
        refine aw_iconst (v := (-1)) (pc' := 36) dX12_aimed_35 rfl ic_m1 ?_
        obtain ⟨rfl, rfl⟩ := so2 hf
        exact aw_ri dX12_aimed_36 rfl rfl (Nat.le_of_ble_eq_true rfl) (Nat.le_of_ble_eq_true rfl) ⟨rfl, H0, (Mo.rf _)⟩
      · replace hf := ifn c6 hf
        refine aw_aload_n (pc' := 29) dX12_aimed_28 rfl rfl rfl ?_
        refine aw_gi (q := 59) (pc' := 32) H0 (H0.fo rfl rfl) (l13 rfl) rfl dX12_aimed_29 rfl fl_RX12_440 ?_
        refine aw_if_ne (tgt := 37) (pc' := 35) dX12_aimed_32 rfl rfl (fun c7 => ?_) (fun c7 => ?_)
        · replace hf := ifn c7 hf
          refine aw_iload_n (pc' := 38) dX12_aimed_37 rfl rfl ?_
          refine aw_iconst (v := 2) (pc' := 39) dX12_aimed_38 rfl ic_2 ?_
          obtain ⟨k8, ek8, hf⟩ := jn_e hf
          have hk8 : k8 = some (r9, s9) → AW mX12_aimed (rmD (1) 0 0) (fin (PI fun r' h' => r9 = r' ∧ HH s9 h' ∧ Mo s0 s9) 0 0) 53 [some (.ref 67), some (.int a0), some (.int a1), some (.int a2), none, none, none, none, none, none, none] [] h0 0 0 := by
            intro hf
            subst ek8
            refine aw_ldcw (pc' := 56) dX12_aimed_53 rfl ct_RX12_436 ?_
            refine aw_istore (lv' := [_, _, _, _, _, _, _, _, _, _, _]) (pc' := 58) dX12_aimed_56 rfl (Nat.le_of_ble_eq_true rfl) rfl ?_
            refine aw_iconst (v := 0) (pc' := 59) dX12_aimed_58 rfl ic_0 ?_
            refine aw_istore (lv' := [_, _, _, _, _, _, _, _, _, _, _]) (pc' := 61) dX12_aimed_59 rfl (Nat.le_of_ble_eq_true rfl) rfl ?_
            refine t_X12_aimed_L61 (Mo.rf _) (fun s41 h41 x41_4 H41 m41 hf => ?_) 4000 _ _ _ _ H0 (Mo.rf _) hf
            refine aw_aload_n (pc' := 256) dX12_aimed_255 rfl rfl rfl ?_
            refine aw_iload_n (pc' := 257) dX12_aimed_256 rfl rfl ?_
            obtain ⟨s42, es42, hf⟩ := st_e hf
            refine aw_pi (q := 59) (pc' := 260) es42 H41 (H41.fo rfl rfl) (by decide) rfl dX12_aimed_257 rfl fl_RX12_447 rfl (fun h42 H42 => ?_)
            have m42 := Mo.ofS es42
            refine aw_aload_n (pc' := 261) dX12_aimed_260 rfl rfl rfl ?_
            refine aw_iconst (v := 0) (pc' := 262) dX12_aimed_261 rfl ic_0 ?_
            obtain ⟨s43, es43, hf⟩ := st_e hf
            refine aw_pi (q := 59) (pc' := 265) es43 H42 (H42.fo rfl rfl) (by decide) rfl dX12_aimed_262 rfl fl_RX12_440 rfl (fun h43 H43 => ?_)
            have m43 := Mo.ofS es43
            refine aw_iload (pc' := 267) dX12_aimed_265 rfl rfl ?_
            obtain ⟨rfl, rfl⟩ := so2 hf
            exact aw_ri dX12_aimed_267 rfl rfl (Nat.le_of_ble_eq_true rfl) (Nat.le_of_ble_eq_true rfl) ⟨rfl, H43, ((m41.tr m42).tr m43)⟩
          clear ek8
          refine aw_icmp_ne (tgt := 53) (pc' := 42) dX12_aimed_39 rfl rfl (fun c44 => ?_) (fun c44 => ?_)
          · replace hf := ifn c44 hf
            exact hk8  hf
          · replace hf := ifp c44 hf
            refine aw_aload_n (pc' := 43) dX12_aimed_42 rfl rfl rfl ?_
            refine aw_gi (q := 59) (pc' := 46) H0 (H0.fo rfl rfl) (l13 rfl) rfl dX12_aimed_43 rfl fl_RX12_440 ?_
            refine aw_iconst (v := 2) (pc' := 47) dX12_aimed_46 rfl ic_2 ?_
            refine aw_cge (tgt := 53) (pc' := 50) dX12_aimed_47 rfl rfl (fun c45 => ?_) (fun c45 => ?_)
            · replace hf := ifn c45 hf
              exact hk8  hf
            · replace hf := ifp c45 hf
              refine aw_bipush (v := (-2)) (pc' := 52) dX12_aimed_50 rfl bp_m2 ?_
              obtain ⟨rfl, rfl⟩ := so2 hf
              exact aw_ri dX12_aimed_52 rfl rfl (Nat.le_of_ble_eq_true rfl) (Nat.le_of_ble_eq_true rfl) ⟨rfl, H0, (Mo.rf _)⟩
        · replace hf := ifp c7 hf
          refine aw_iconst (v := (-1)) (pc' := 36) dX12_aimed_35 rfl ic_m1 ?_
          obtain ⟨rfl, rfl⟩ := so2 hf
          exact aw_ri dX12_aimed_36 rfl rfl (Nat.le_of_ble_eq_true rfl) (Nat.le_of_ble_eq_true rfl) ⟨rfl, H0, (Mo.rf _)⟩
/-! ThirtyThreeBelowModel.aimedAt -/
noncomputable def f_X12_aimedAt (s0 : SS) (a0 : Int32) (a1 : Int32) : Option Int32 := (b1 (f_X12_in a0 (0 : Int32) ((zS s0 59 79) - (1 : Int32))) fun r1 => (if r1 = (0 : Int32) then some (-1) else (b1 (f_X12_in a1 (0 : Int32) (1 : Int32)) fun r3 => (if r3 = (0 : Int32) then some (-1) else (if a1 = (0 : Int32) then (gd (inB a0 2) (some (zI s0 114 (a0.toInt.toNat)))) else (gd (inB a0 2) (some (zI s0 115 (a0.toInt.toNat)))))))))
set_option maxRecDepth 4000 in
theorem t_X12_aimedAt {r9 : Int32} {s0 : SS} {h0 : List aE} {a0 : Int32} {a1 : Int32} (H0 : HH s0 h0) (hf : f_X12_aimedAt s0 a0 a1 = some r9) : AM mX12_aimedAt (1) [.ref 67, .int a0, .int a1] h0 0 0 (PI fun r' h' => r9 = r' ∧ h0 = h') := by
  unfold f_X12_aimedAt at hf
  refine am_of (lv := [some (.ref 67), some (.int a0), some (.int a1)]) rfl (Nat.le_of_ble_eq_true rfl) rfl ?_
  refine aw_iload_n (pc' := 1) dX12_aimedAt_0 rfl rfl ?_
  refine aw_iconst (v := 0) (pc' := 2) dX12_aimedAt_1 rfl ic_0 ?_
  refine aw_aload_n (pc' := 3) dX12_aimedAt_2 rfl rfl rfl ?_
  refine aw_gi (q := 59) (pc' := 6) H0 (H0.fo rfl rfl) (l13 rfl) rfl dX12_aimedAt_3 rfl fl_RX12_447 ?_
  refine aw_iconst (v := 1) (pc' := 7) dX12_aimedAt_6 rfl ic_1 ?_
  refine aw_isub (pc' := 8) dX12_aimedAt_7 rfl ?_
  obtain ⟨r1, ec1, hf⟩ := b1_e hf
  refine aw_callSi (M' := mX12_in) (nc' := 0) (ns' := 0) (pc' := 11) dX12_aimedAt_8 rfl ml_RX12_230 kX12_in (t_X12_in ec1) rfl rfl (Nat.le_of_ble_eq_true rfl) (rokD (by omega) (Nat.le_of_ble_eq_true rfl) (Nat.le_of_ble_eq_true rfl) (Nat.le_of_ble_eq_true rfl)) rfl rfl (fun _ h1 q1 => ?_)
  obtain ⟨rfl, rfl, zb1⟩ := q1
  refine aw_if_eq (tgt := 23) (pc' := 14) dX12_aimedAt_11 rfl rfl (fun c2 => ?_) (fun c2 => ?_)
  · replace hf := ifp c2 hf
    refine aw_iconst (v := (-1)) (pc' := 24) dX12_aimedAt_23 rfl ic_m1 ?_
    refine aw_goto (tgt := 46) dX12_aimedAt_24 rfl ?_
    obtain rfl := Option.some.inj hf
    exact aw_ri dX12_aimedAt_46 rfl rfl (Nat.le_of_ble_eq_true rfl) (Nat.le_of_ble_eq_true rfl) ⟨rfl, rfl⟩
  · replace hf := ifn c2 hf
    refine aw_iload_n (pc' := 15) dX12_aimedAt_14 rfl rfl ?_
    refine aw_iconst (v := 0) (pc' := 16) dX12_aimedAt_15 rfl ic_0 ?_
    refine aw_iconst (v := 1) (pc' := 17) dX12_aimedAt_16 rfl ic_1 ?_
    obtain ⟨r3, ec3, hf⟩ := b1_e hf
    refine aw_callSi (M' := mX12_in) (nc' := 0) (ns' := 0) (pc' := 20) dX12_aimedAt_17 rfl ml_RX12_230 kX12_in (t_X12_in ec3) rfl rfl (Nat.le_of_ble_eq_true rfl) (rokD (by omega) (Nat.le_of_ble_eq_true rfl) (Nat.le_of_ble_eq_true rfl) (Nat.le_of_ble_eq_true rfl)) rfl rfl (fun _ h3 q3 => ?_)
    obtain ⟨rfl, rfl, zb3⟩ := q3
    refine aw_if_ne (tgt := 27) (pc' := 23) dX12_aimedAt_20 rfl rfl (fun c4 => ?_) (fun c4 => ?_)
    · replace hf := ifn c4 hf
      refine aw_iload_n (pc' := 28) dX12_aimedAt_27 rfl rfl ?_
      refine aw_if_ne (tgt := 40) (pc' := 31) dX12_aimedAt_28 rfl rfl (fun c5 => ?_) (fun c5 => ?_)
      · replace hf := ifn c5 hf
        refine aw_aload_n (pc' := 41) dX12_aimedAt_40 rfl rfl rfl ?_
        refine aw_gr (q := 59) (e := 113) (v := .ref 123) (pc' := 44) H0 (H0.fo rfl rfl) (l13 rfl) rfl rfl dX12_aimedAt_41 rfl fl_RX12_190 ?_
        refine aw_iload_n (pc' := 45) dX12_aimedAt_44 rfl rfl ?_
        obtain ⟨g6, hf⟩ := gd_e hf
        refine aw_ia (q := 115) (pc' := 46) H0 (H0.fa rfl rfl rfl) g6 dX12_aimedAt_45 rfl ?_
        obtain rfl := Option.some.inj hf
        exact aw_ri dX12_aimedAt_46 rfl rfl (Nat.le_of_ble_eq_true rfl) (Nat.le_of_ble_eq_true rfl) ⟨rfl, rfl⟩
      · replace hf := ifp c5 hf
        refine aw_aload_n (pc' := 32) dX12_aimedAt_31 rfl rfl rfl ?_
        refine aw_gr (q := 59) (e := 111) (v := .ref 122) (pc' := 35) H0 (H0.fo rfl rfl) (l13 rfl) rfl rfl dX12_aimedAt_32 rfl fl_RX12_187 ?_
        refine aw_iload_n (pc' := 36) dX12_aimedAt_35 rfl rfl ?_
        obtain ⟨g7, hf⟩ := gd_e hf
        refine aw_ia (q := 114) (pc' := 37) H0 (H0.fa rfl rfl rfl) g7 dX12_aimedAt_36 rfl ?_
        refine aw_goto (tgt := 46) dX12_aimedAt_37 rfl ?_
        obtain rfl := Option.some.inj hf
        exact aw_ri dX12_aimedAt_46 rfl rfl (Nat.le_of_ble_eq_true rfl) (Nat.le_of_ble_eq_true rfl) ⟨rfl, rfl⟩
    · replace hf := ifp c4 hf
      refine aw_iconst (v := (-1)) (pc' := 24) dX12_aimedAt_23 rfl ic_m1 ?_
      refine aw_goto (tgt := 46) dX12_aimedAt_24 rfl ?_
      obtain rfl := Option.some.inj hf
      exact aw_ri dX12_aimedAt_46 rfl rfl (Nat.le_of_ble_eq_true rfl) (Nat.le_of_ble_eq_true rfl) ⟨rfl, rfl⟩
/-! ThirtyThreeBelowModel.race -/
noncomputable def f_X12_race (s0 : SS) (a0 : Int32) (a1 : Int32) (a2 : Int32) : Option Int32 := (b1 (f_X12_isMachine a0) fun r1 => (if r1 = (0 : Int32) then some (-1) else (b1 (f_X12_in a1 (1 : Int32) (60 : Int32)) fun r3 => (if r3 = (0 : Int32) then some (-1) else (b1 (f_X12_in a2 (1 : Int32) (9 : Int32)) fun r5 => (if r5 = (0 : Int32) then some (-1) else (gd (inB a0 3) (vl ((zI s0 79 (a0.toInt.toNat))) fun v8 => (if v8 < (0 : Int32) then some (-2) else (gd (inB v8 120) (if (0 : Int32) < (zI s0 69 (v8.toInt.toNat)) then some (-2) else (gd (inB v8 120) (if (zI s0 67 (v8.toInt.toNat)) < a1 then (gd (inB v8 120) (gd (inB a0 3) (gd (inB v8 120) (vl (((((a1 - (zI s0 67 (v8.toInt.toNat))) * (zI s0 78 (a0.toInt.toNat))) * a2) - (zI s0 68 (v8.toInt.toNat)))) fun v18 => (jn (fun (t19_0 : Int32) => (gd (inB a0 3) (jn (fun (t21_0 : Int32) => (b1 (f_X12_held (t21_0 + t19_0) (0 : Int32) (9999 : Int32)) fun r22 => some r22)) fun k21 => (if (zS s0 59 1) < (zI s0 80 (a0.toInt.toNat)) then (gd (inB a0 3) (k21 (zI s0 80 (a0.toInt.toNat)))) else (k21 (zS s0 59 1)))))) fun k19 => (if (60 : Int32) < v18 then (k19 ((v18 + (59 : Int32)) / (60 : Int32))) else (k19 1))))))) else some (-2))))))))))))))
set_option maxRecDepth 4000 in
theorem t_X12_race {r9 : Int32} {s0 : SS} {h0 : List aE} {a0 : Int32} {a1 : Int32} {a2 : Int32} (H0 : HH s0 h0) (hf : f_X12_race s0 a0 a1 a2 = some r9) : AM mX12_race (2) [.ref 67, .int a0, .int a1, .int a2] h0 0 0 (PI fun r' h' => r9 = r' ∧ h0 = h') := by
  unfold f_X12_race at hf
  refine am_of (lv := [some (.ref 67), some (.int a0), some (.int a1), some (.int a2), none, none, none, none]) rfl (Nat.le_of_ble_eq_true rfl) rfl ?_
  refine aw_iload_n (pc' := 1) dX12_race_0 rfl rfl ?_
  obtain ⟨r1, ec1, hf⟩ := b1_e hf
  refine aw_callSi (M' := mX12_isMachine) (nc' := 0) (ns' := 0) (pc' := 4) dX12_race_1 rfl ml_RX12_278 kX12_isMachine (t_X12_isMachine ec1) rfl rfl (Nat.le_of_ble_eq_true rfl) (rokD (by omega) (Nat.le_of_ble_eq_true rfl) (Nat.le_of_ble_eq_true rfl) (Nat.le_of_ble_eq_true rfl)) rfl rfl (fun _ h1 q1 => ?_)
  obtain ⟨rfl, rfl, zb1⟩ := q1
  refine aw_if_eq (tgt := 27) (pc' := 7) dX12_race_4 rfl rfl (fun c2 => ?_) (fun c2 => ?_)
  · replace hf := ifp c2 hf
    refine aw_iconst (v := (-1)) (pc' := 28) dX12_race_27 rfl ic_m1 ?_
    obtain rfl := Option.some.inj hf
    exact aw_ri dX12_race_28 rfl rfl (Nat.le_of_ble_eq_true rfl) (Nat.le_of_ble_eq_true rfl) ⟨rfl, rfl⟩
  · replace hf := ifn c2 hf
    refine aw_iload_n (pc' := 8) dX12_race_7 rfl rfl ?_
    refine aw_iconst (v := 1) (pc' := 9) dX12_race_8 rfl ic_1 ?_
    refine aw_bipush (v := 60) (pc' := 11) dX12_race_9 rfl bp_60 ?_
    obtain ⟨r3, ec3, hf⟩ := b1_e hf
    refine aw_callSi (M' := mX12_in) (nc' := 0) (ns' := 0) (pc' := 14) dX12_race_11 rfl ml_RX12_230 kX12_in (t_X12_in ec3) rfl rfl (Nat.le_of_ble_eq_true rfl) (rokD (by omega) (Nat.le_of_ble_eq_true rfl) (Nat.le_of_ble_eq_true rfl) (Nat.le_of_ble_eq_true rfl)) rfl rfl (fun _ h3 q3 => ?_)
    obtain ⟨rfl, rfl, zb3⟩ := q3
    refine aw_if_eq (tgt := 27) (pc' := 17) dX12_race_14 rfl rfl (fun c4 => ?_) (fun c4 => ?_)
    · replace hf := ifp c4 hf
      refine aw_iconst (v := (-1)) (pc' := 28) dX12_race_27 rfl ic_m1 ?_
      obtain rfl := Option.some.inj hf
      exact aw_ri dX12_race_28 rfl rfl (Nat.le_of_ble_eq_true rfl) (Nat.le_of_ble_eq_true rfl) ⟨rfl, rfl⟩
    · replace hf := ifn c4 hf
      refine aw_iload_n (pc' := 18) dX12_race_17 rfl rfl ?_
      refine aw_iconst (v := 1) (pc' := 19) dX12_race_18 rfl ic_1 ?_
      refine aw_bipush (v := 9) (pc' := 21) dX12_race_19 rfl bp_9 ?_
      obtain ⟨r5, ec5, hf⟩ := b1_e hf
      refine aw_callSi (M' := mX12_in) (nc' := 0) (ns' := 0) (pc' := 24) dX12_race_21 rfl ml_RX12_230 kX12_in (t_X12_in ec5) rfl rfl (Nat.le_of_ble_eq_true rfl) (rokD (by omega) (Nat.le_of_ble_eq_true rfl) (Nat.le_of_ble_eq_true rfl) (Nat.le_of_ble_eq_true rfl)) rfl rfl (fun _ h5 q5 => ?_)
      obtain ⟨rfl, rfl, zb5⟩ := q5
      refine aw_if_ne (tgt := 29) (pc' := 27) dX12_race_24 rfl rfl (fun c6 => ?_) (fun c6 => ?_)
      · replace hf := ifn c6 hf
        refine aw_aload_n (pc' := 30) dX12_race_29 rfl rfl rfl ?_
        refine aw_gr (q := 59) (e := 41) (v := .ref 87) (pc' := 33) H0 (H0.fo rfl rfl) (l13 rfl) rfl rfl dX12_race_30 rfl fl_RX12_72 ?_
        refine aw_iload_n (pc' := 34) dX12_race_33 rfl rfl ?_
        obtain ⟨g7, hf⟩ := gd_e hf
        refine aw_ia (q := 79) (pc' := 35) H0 (H0.fa rfl rfl rfl) g7 dX12_race_34 rfl ?_
        obtain ⟨v8, ev8, hf⟩ := vl_e hf
        refine aw_topi ev8 ?_
        refine aw_istore (lv' := [_, _, _, _, _, _, _, _]) (pc' := 37) dX12_race_35 rfl (Nat.le_of_ble_eq_true rfl) rfl ?_
        refine aw_iload (pc' := 39) dX12_race_37 rfl rfl ?_
        refine aw_zlt (tgt := 63) (pc' := 42) dX12_race_39 rfl rfl (fun c10 => ?_) (fun c10 => ?_)
        · replace hf := ifp c10 hf
          refine aw_bipush (v := (-2)) (pc' := 65) dX12_race_63 rfl bp_m2 ?_
          obtain rfl := Option.some.inj hf
          exact aw_ri dX12_race_65 rfl rfl (Nat.le_of_ble_eq_true rfl) (Nat.le_of_ble_eq_true rfl) ⟨rfl, rfl⟩
        · replace hf := ifn c10 hf
          refine aw_aload_n (pc' := 43) dX12_race_42 rfl rfl rfl ?_
          refine aw_gr (q := 59) (e := 21) (v := .ref 77) (pc' := 46) H0 (H0.fo rfl rfl) (l13 rfl) rfl rfl dX12_race_43 rfl fl_RX12_38 ?_
          refine aw_iload (pc' := 48) dX12_race_46 rfl rfl ?_
          obtain ⟨g11, hf⟩ := gd_e hf
          refine aw_ia (q := 69) (pc' := 49) H0 (H0.fa rfl rfl rfl) g11 dX12_race_48 rfl ?_
          refine aw_zgt (tgt := 63) (pc' := 52) dX12_race_49 rfl rfl (fun c12 => ?_) (fun c12 => ?_)
          · replace hf := ifp c12 hf
            refine aw_bipush (v := (-2)) (pc' := 65) dX12_race_63 rfl bp_m2 ?_
            obtain rfl := Option.some.inj hf
            exact aw_ri dX12_race_65 rfl rfl (Nat.le_of_ble_eq_true rfl) (Nat.le_of_ble_eq_true rfl) ⟨rfl, rfl⟩
          · replace hf := ifn c12 hf
            refine aw_aload_n (pc' := 53) dX12_race_52 rfl rfl rfl ?_
            refine aw_gr (q := 59) (e := 17) (v := .ref 75) (pc' := 56) H0 (H0.fo rfl rfl) (l13 rfl) rfl rfl dX12_race_53 rfl fl_RX12_32 ?_
            refine aw_iload (pc' := 58) dX12_race_56 rfl rfl ?_
            obtain ⟨g13, hf⟩ := gd_e hf
            refine aw_ia (q := 67) (pc' := 59) H0 (H0.fa rfl rfl rfl) g13 dX12_race_58 rfl ?_
            refine aw_iload_n (pc' := 60) dX12_race_59 rfl rfl ?_
            refine aw_clt (tgt := 66) (pc' := 63) dX12_race_60 rfl rfl (fun c14 => ?_) (fun c14 => ?_)
            · replace hf := ifp c14 hf
              refine aw_iload_n (pc' := 67) dX12_race_66 rfl rfl ?_
              refine aw_aload_n (pc' := 68) dX12_race_67 rfl rfl rfl ?_
              refine aw_gr (q := 59) (e := 17) (v := .ref 75) (pc' := 71) H0 (H0.fo rfl rfl) (l13 rfl) rfl rfl dX12_race_68 rfl fl_RX12_32 ?_
              refine aw_iload (pc' := 73) dX12_race_71 rfl rfl ?_
              obtain ⟨g15, hf⟩ := gd_e hf
              refine aw_ia (q := 67) (pc' := 74) H0 (H0.fa rfl rfl rfl) g15 dX12_race_73 rfl ?_
              refine aw_isub (pc' := 75) dX12_race_74 rfl ?_
              refine aw_aload_n (pc' := 76) dX12_race_75 rfl rfl rfl ?_
              refine aw_gr (q := 59) (e := 39) (v := .ref 86) (pc' := 79) H0 (H0.fo rfl rfl) (l13 rfl) rfl rfl dX12_race_76 rfl fl_RX12_69 ?_
              refine aw_iload_n (pc' := 80) dX12_race_79 rfl rfl ?_
              obtain ⟨g16, hf⟩ := gd_e hf
              refine aw_ia (q := 78) (pc' := 81) H0 (H0.fa rfl rfl rfl) g16 dX12_race_80 rfl ?_
              refine aw_imul (pc' := 82) dX12_race_81 rfl ?_
              refine aw_iload_n (pc' := 83) dX12_race_82 rfl rfl ?_
              refine aw_imul (pc' := 84) dX12_race_83 rfl ?_
              refine aw_aload_n (pc' := 85) dX12_race_84 rfl rfl rfl ?_
              refine aw_gr (q := 59) (e := 19) (v := .ref 76) (pc' := 88) H0 (H0.fo rfl rfl) (l13 rfl) rfl rfl dX12_race_85 rfl fl_RX12_35 ?_
              refine aw_iload (pc' := 90) dX12_race_88 rfl rfl ?_
              obtain ⟨g17, hf⟩ := gd_e hf
              refine aw_ia (q := 68) (pc' := 91) H0 (H0.fa rfl rfl rfl) g17 dX12_race_90 rfl ?_
              refine aw_isub (pc' := 92) dX12_race_91 rfl ?_
              obtain ⟨v18, ev18, hf⟩ := vl_e hf
              refine aw_topi ev18 ?_
              refine aw_istore (lv' := [_, _, _, _, _, _, _, _]) (pc' := 94) dX12_race_92 rfl (Nat.le_of_ble_eq_true rfl) rfl ?_
              refine aw_iload (pc' := 96) dX12_race_94 rfl rfl ?_
              refine aw_bipush (v := 60) (pc' := 98) dX12_race_96 rfl bp_60 ?_
              obtain ⟨k19, ek19, hf⟩ := jn_e hf
              have hk19 : ∀ (t19_0 : Int32), k19 t19_0 = some r9 → AW mX12_race (rmD (2) 0 0) (fin (PI fun r' h' => r9 = r' ∧ h0 = h') 0 0) 113 [some (.ref 67), some (.int a0), none, none, none, none, none, none] [.int t19_0] h0 0 0 := by
                intro t19_0 hf
                subst ek19
                refine aw_istore (lv' := [_, _, _, _, _, _, _, _]) (pc' := 115) dX12_race_113 rfl (Nat.le_of_ble_eq_true rfl) rfl ?_
                refine aw_aload_n (pc' := 116) dX12_race_115 rfl rfl rfl ?_
                refine aw_gr (q := 59) (e := 43) (v := .ref 88) (pc' := 119) H0 (H0.fo rfl rfl) (l13 rfl) rfl rfl dX12_race_116 rfl fl_RX12_75 ?_
                refine aw_iload_n (pc' := 120) dX12_race_119 rfl rfl ?_
                obtain ⟨g20, hf⟩ := gd_e hf
                refine aw_ia (q := 80) (pc' := 121) H0 (H0.fa rfl rfl rfl) g20 dX12_race_120 rfl ?_
                refine aw_aload_n (pc' := 122) dX12_race_121 rfl rfl rfl ?_
                refine aw_gi (q := 59) (pc' := 125) H0 (H0.fo rfl rfl) (l13 rfl) rfl dX12_race_122 rfl fl_RX12_281 ?_
                obtain ⟨k21, ek21, hf⟩ := jn_e hf
                have hk21 : ∀ (t21_0 : Int32), k21 t21_0 = some r9 → AW mX12_race (rmD (2) 0 0) (fin (PI fun r' h' => r9 = r' ∧ h0 = h') 0 0) 141 [none, none, none, none, none, none, some (.int t19_0), none] [.int t21_0] h0 0 0 := by
                  intro t21_0 hf
                  subst ek21
                  refine aw_istore (lv' := [_, _, _, _, _, _, _, _]) (pc' := 143) dX12_race_141 rfl (Nat.le_of_ble_eq_true rfl) rfl ?_
                  refine aw_iload (pc' := 145) dX12_race_143 rfl rfl ?_
                  refine aw_iload (pc' := 147) dX12_race_145 rfl rfl ?_
                  refine aw_iadd (pc' := 148) dX12_race_147 rfl ?_
                  refine aw_iconst (v := 0) (pc' := 149) dX12_race_148 rfl ic_0 ?_
                  refine aw_sipush (v := 9999) (pc' := 152) dX12_race_149 rfl sp_9999 ?_
                  obtain ⟨r22, ec22, hf⟩ := b1_e hf
                  refine aw_callSi (M' := mX12_held) (nc' := 0) (ns' := 0) (pc' := 155) dX12_race_152 rfl ml_RX12_284 kX12_held (t_X12_held ec22) rfl rfl (Nat.le_of_ble_eq_true rfl) (rokD (by omega) (Nat.le_of_ble_eq_true rfl) (Nat.le_of_ble_eq_true rfl) (Nat.le_of_ble_eq_true rfl)) rfl rfl (fun _ h22 q22 => ?_)
                  obtain ⟨rfl, rfl⟩ := q22
                  obtain rfl := Option.some.inj hf
                  exact aw_ri dX12_race_155 rfl rfl (Nat.le_of_ble_eq_true rfl) (Nat.le_of_ble_eq_true rfl) ⟨rfl, rfl⟩
                clear ek21
                refine aw_cle (tgt := 137) (pc' := 128) dX12_race_125 rfl rfl (fun c23 => ?_) (fun c23 => ?_)
                · replace hf := ifn c23 hf
                  refine aw_aload_n (pc' := 138) dX12_race_137 rfl rfl rfl ?_
                  refine aw_gi (q := 59) (pc' := 141) H0 (H0.fo rfl rfl) (l13 rfl) rfl dX12_race_138 rfl fl_RX12_281 ?_
                  refine AW.lv_le (lz_d (lz_d (lz_d (lz_d (lz_d (lz_d (lz_k (lz_d lz_0)))))))) ?_
                  exact hk21 _ hf
                · replace hf := ifp c23 hf
                  refine aw_aload_n (pc' := 129) dX12_race_128 rfl rfl rfl ?_
                  refine aw_gr (q := 59) (e := 43) (v := .ref 88) (pc' := 132) H0 (H0.fo rfl rfl) (l13 rfl) rfl rfl dX12_race_129 rfl fl_RX12_75 ?_
                  refine aw_iload_n (pc' := 133) dX12_race_132 rfl rfl ?_
                  obtain ⟨g24, hf⟩ := gd_e hf
                  refine aw_ia (q := 80) (pc' := 134) H0 (H0.fa rfl rfl rfl) g24 dX12_race_133 rfl ?_
                  refine aw_goto (tgt := 141) dX12_race_134 rfl ?_
                  refine AW.lv_le (lz_d (lz_d (lz_d (lz_d (lz_d (lz_d (lz_k (lz_d lz_0)))))))) ?_
                  exact hk21 _ hf
              clear ek19
              refine aw_cgt (tgt := 105) (pc' := 101) dX12_race_98 rfl rfl (fun c25 => ?_) (fun c25 => ?_)
              · replace hf := ifp c25 hf
                refine aw_iload (pc' := 107) dX12_race_105 rfl rfl ?_
                refine aw_bipush (v := 59) (pc' := 109) dX12_race_107 rfl bp_59 ?_
                refine aw_iadd (pc' := 110) dX12_race_109 rfl ?_
                refine aw_bipush (v := 60) (pc' := 112) dX12_race_110 rfl bp_60 ?_
                refine aw_idiv (pc' := 113) dX12_race_112 rfl (by decide) ?_
                refine AW.lv_le (lz_k (lz_k (lz_d (lz_d (lz_d (lz_d (lz_d (lz_d lz_0)))))))) ?_
                exact hk19 _ hf
              · replace hf := ifn c25 hf
                refine aw_iconst (v := 1) (pc' := 102) dX12_race_101 rfl ic_1 ?_
                refine aw_goto (tgt := 113) dX12_race_102 rfl ?_
                refine AW.lv_le (lz_k (lz_k (lz_d (lz_d (lz_d (lz_d (lz_d (lz_d lz_0)))))))) ?_
                exact hk19 _ hf
            · replace hf := ifn c14 hf
              refine aw_bipush (v := (-2)) (pc' := 65) dX12_race_63 rfl bp_m2 ?_
              obtain rfl := Option.some.inj hf
              exact aw_ri dX12_race_65 rfl rfl (Nat.le_of_ble_eq_true rfl) (Nat.le_of_ble_eq_true rfl) ⟨rfl, rfl⟩
      · replace hf := ifp c6 hf
        refine aw_iconst (v := (-1)) (pc' := 28) dX12_race_27 rfl ic_m1 ?_
        obtain rfl := Option.some.inj hf
        exact aw_ri dX12_race_28 rfl rfl (Nat.le_of_ble_eq_true rfl) (Nat.le_of_ble_eq_true rfl) ⟨rfl, rfl⟩
/-! ThirtyThreeBelowModel.capsule -/
noncomputable def f_X12_capsule_L85_b (q0 : SS → Int32 → Option (Int32 × SS)) (y1 : Int32) (y2 : Int32) (y3 : Int32) (y4 : Int32) (rc : SS → Int32 → Option (Int32 × SS)) (s : SS) (x5 : Int32) : Option (Int32 × SS) := (if (0 : Int32) < x5 then (vl ((x5 - (1 : Int32))) fun v17 => (gd (inB v17 120) (if (zI s 117 (v17.toInt.toNat)) < y4 then (vl ((x5 - (1 : Int32))) fun v20 => (gd (inB v20 120) (vl ((zI s 116 (v20.toInt.toNat))) fun v22 => (gd (inB x5 120) (st (pI s 116 (x5.toInt.toNat) v22) fun s24 => (vl ((x5 - (1 : Int32))) fun v25 => (gd (inB v25 120) (vl ((zI s24 117 (v25.toInt.toNat))) fun v27 => (gd (inB x5 120) (st (pI s24 117 (x5.toInt.toNat) v27) fun s29 => (vl (x5 + (-1)) fun v30 => (rc s29 v30)))))))))))) else (q0 s x5)))) else (q0 s x5))
noncomputable def f_X12_capsule_L85 (q0 : SS → Int32 → Option (Int32 × SS)) (y1 : Int32) (y2 : Int32) (y3 : Int32) (y4 : Int32) : Nat → SS → Int32 → Option (Int32 × SS)
  | 0, _, _ => none
  | n + 1, s, x5 => f_X12_capsule_L85_b q0 y1 y2 y3 y4 (f_X12_capsule_L85 q0 y1 y2 y3 y4 n) s x5
set_option maxRecDepth 4000 in
theorem t_X12_capsule_L85 {r9 : Int32} {s0 sb s9 : SS} {q0 : SS → Int32 → Option (Int32 × SS)} {y1 : Int32} {y2 : Int32} {y3 : Int32} {y4 : Int32} (mb : Mo s0 sb) (hq0 : ∀ (s : SS) (h : List aE) (x5 : Int32), HH s h → Mo sb s → q0 s x5 = some (r9, s9) → AW mX12_capsule (rmD (4) 0 0) (fin (PI fun r' h' => r9 = r' ∧ HH s9 h' ∧ Mo s0 s9) 0 0) 142 [some (.ref 67), some (.int y1), some (.int y2), some (.int y3), some (.int y4), some (.int x5)] [] h 0 0) : ∀ (n : Nat) (s : SS) (h : List aE) (x5 : Int32), HH s h → Mo sb s → f_X12_capsule_L85 q0 y1 y2 y3 y4 n s x5 = some (r9, s9) → AW mX12_capsule (rmD (4) 0 0) (fin (PI fun r' h' => r9 = r' ∧ HH s9 h' ∧ Mo s0 s9) 0 0) 85 [some (.ref 67), some (.int y1), some (.int y2), some (.int y3), some (.int y4), some (.int x5)] [] h 0 0 := by
  intro n
  induction n with
  | zero =>
    intro s h x5 H ms hf
    cases hf
  | succ n ih =>
    intro s h x5 H ms hf
    replace hf : f_X12_capsule_L85_b q0 y1 y2 y3 y4 (f_X12_capsule_L85 q0 y1 y2 y3 y4 n) s x5 = some (r9, s9) := hf
    unfold f_X12_capsule_L85_b at hf
    refine aw_iload (pc' := 87) dX12_capsule_85 rfl rfl ?_
    refine aw_zle (tgt := 142) (pc' := 90) dX12_capsule_87 rfl rfl (fun c16 => ?_) (fun c16 => ?_)
    · replace hf := ifn c16 hf
      exact hq0 _ _ _ H ms hf
    · replace hf := ifp c16 hf
      refine aw_aload_n (pc' := 91) dX12_capsule_90 rfl rfl rfl ?_
      refine aw_gr (q := 59) (e := 117) (v := .ref 125) (pc' := 94) H (H.fo rfl rfl) (by decide) rfl rfl dX12_capsule_91 rfl fl_RX12_199 ?_
      refine aw_iload (pc' := 96) dX12_capsule_94 rfl rfl ?_
      refine aw_iconst (v := 1) (pc' := 97) dX12_capsule_96 rfl ic_1 ?_
      refine aw_isub (pc' := 98) dX12_capsule_97 rfl ?_
      obtain ⟨v17, ev17, hf⟩ := vl_e hf
      refine aw_topi ev17 ?_
      obtain ⟨g18, hf⟩ := gd_e hf
      refine aw_ia (q := 117) (pc' := 99) H (H.fa rfl rfl rfl) g18 dX12_capsule_98 rfl ?_
      refine aw_iload (pc' := 101) dX12_capsule_99 rfl rfl ?_
      refine aw_cge (tgt := 142) (pc' := 104) dX12_capsule_101 rfl rfl (fun c19 => ?_) (fun c19 => ?_)
      · replace hf := ifn c19 hf
        exact hq0 _ _ _ H ms hf
      · replace hf := ifp c19 hf
        refine aw_aload_n (pc' := 105) dX12_capsule_104 rfl rfl rfl ?_
        refine aw_gr (q := 59) (e := 115) (v := .ref 124) (pc' := 108) H (H.fo rfl rfl) (by decide) rfl rfl dX12_capsule_105 rfl fl_RX12_196 ?_
        refine aw_iload (pc' := 110) dX12_capsule_108 rfl rfl ?_
        refine aw_aload_n (pc' := 111) dX12_capsule_110 rfl rfl rfl ?_
        refine aw_gr (q := 59) (e := 115) (v := .ref 124) (pc' := 114) H (H.fo rfl rfl) (by decide) rfl rfl dX12_capsule_111 rfl fl_RX12_196 ?_
        refine aw_iload (pc' := 116) dX12_capsule_114 rfl rfl ?_
        refine aw_iconst (v := 1) (pc' := 117) dX12_capsule_116 rfl ic_1 ?_
        refine aw_isub (pc' := 118) dX12_capsule_117 rfl ?_
        obtain ⟨v20, ev20, hf⟩ := vl_e hf
        refine aw_topi ev20 ?_
        obtain ⟨g21, hf⟩ := gd_e hf
        refine aw_ia (q := 116) (pc' := 119) H (H.fa rfl rfl rfl) g21 dX12_capsule_118 rfl ?_
        obtain ⟨v22, ev22, hf⟩ := vl_e hf
        refine aw_topi ev22 ?_
        obtain ⟨g23, hf⟩ := gd_e hf
        obtain ⟨s24, es24, hf⟩ := st_e hf
        refine aw_is (q := 116) (pc' := 120) es24 H (H.fa rfl rfl rfl) g23 dX12_capsule_119 rfl (fun h24 H24 => ?_)
        have m24 := Mo.ofI es24
        refine aw_aload_n (pc' := 121) dX12_capsule_120 rfl rfl rfl ?_
        refine aw_gr (q := 59) (e := 117) (v := .ref 125) (pc' := 124) H24 (H24.fo rfl rfl) (l13 rfl) rfl rfl dX12_capsule_121 rfl fl_RX12_199 ?_
        refine aw_iload (pc' := 126) dX12_capsule_124 rfl rfl ?_
        refine aw_aload_n (pc' := 127) dX12_capsule_126 rfl rfl rfl ?_
        refine aw_gr (q := 59) (e := 117) (v := .ref 125) (pc' := 130) H24 (H24.fo rfl rfl) (l13 rfl) rfl rfl dX12_capsule_127 rfl fl_RX12_199 ?_
        refine aw_iload (pc' := 132) dX12_capsule_130 rfl rfl ?_
        refine aw_iconst (v := 1) (pc' := 133) dX12_capsule_132 rfl ic_1 ?_
        refine aw_isub (pc' := 134) dX12_capsule_133 rfl ?_
        obtain ⟨v25, ev25, hf⟩ := vl_e hf
        refine aw_topi ev25 ?_
        obtain ⟨g26, hf⟩ := gd_e hf
        refine aw_ia (q := 117) (pc' := 135) H24 (H24.fa rfl rfl rfl) g26 dX12_capsule_134 rfl ?_
        obtain ⟨v27, ev27, hf⟩ := vl_e hf
        refine aw_topi ev27 ?_
        obtain ⟨g28, hf⟩ := gd_e hf
        obtain ⟨s29, es29, hf⟩ := st_e hf
        refine aw_is (q := 117) (pc' := 136) es29 H24 (H24.fa rfl rfl rfl) g28 dX12_capsule_135 rfl (fun h29 H29 => ?_)
        have m29 := Mo.ofI es29
        obtain ⟨v30, ev30, hf⟩ := vl_e hf
        refine aw_iincV (y := v30) (lv' := [_, _, _, _, _, _]) (pc' := 139) dX12_capsule_136 rfl rfl (Nat.le_of_ble_eq_true rfl) ev30 rfl ?_
        refine aw_goto (tgt := 85) dX12_capsule_139 rfl ?_
        exact ih _ _ _ H29 ((ms.tr m24).tr m29) hf
noncomputable def f_X12_capsule_L53_b (q0 : SS → Int32 → Option (Int32 × SS)) (y1 : Int32) (rc : SS → Int32 → Int32 → Option (Int32 × SS)) (s : SS) (x2 : Int32) (x3 : Int32) : Option (Int32 × SS) := (if x3 < (zS s 59 4) then (gd (inB x3 120) (jn (fun (s12 : SS) (j12_2 : Int32) => (vl (x3 + 1) fun v13 => (rc s12 j12_2 v13))) fun k12 => (if (zI s 77 (x3.toInt.toNat)) = (0 : Int32) then (k12 s x2) else (bd (f_X12_saysNow s 1 x3 0) fun r15 s15 => (f_X12_capsule_L85 (fun (s31 : SS) (x31_5 : Int32) => (gd (inB x31_5 120) (st (pI s31 116 (x31_5.toInt.toNat) x3) fun s33 => (gd (inB x31_5 120) (st (pI s33 117 (x31_5.toInt.toNat) r15) fun s35 => (vl (x2 + 1) fun v36 => (k12 s35 v36))))))) y1 x2 x3 r15 4000 s15 x2))))) else (q0 s x2))
noncomputable def f_X12_capsule_L53 (q0 : SS → Int32 → Option (Int32 × SS)) (y1 : Int32) : Nat → SS → Int32 → Int32 → Option (Int32 × SS)
  | 0, _, _, _ => none
  | n + 1, s, x2, x3 => f_X12_capsule_L53_b q0 y1 (f_X12_capsule_L53 q0 y1 n) s x2 x3
set_option maxRecDepth 4000 in
theorem t_X12_capsule_L53 {r9 : Int32} {s0 sb s9 : SS} {q0 : SS → Int32 → Option (Int32 × SS)} {y1 : Int32} (mb : Mo s0 sb) (hq0 : ∀ (s : SS) (h : List aE) (x2 : Int32), HH s h → Mo sb s → q0 s x2 = some (r9, s9) → AW mX12_capsule (rmD (4) 0 0) (fin (PI fun r' h' => r9 = r' ∧ HH s9 h' ∧ Mo s0 s9) 0 0) 168 [some (.ref 67), some (.int y1), some (.int x2), none, none, none] [] h 0 0) : ∀ (n : Nat) (s : SS) (h : List aE) (x2 : Int32) (x3 : Int32), HH s h → Mo sb s → f_X12_capsule_L53 q0 y1 n s x2 x3 = some (r9, s9) → AW mX12_capsule (rmD (4) 0 0) (fin (PI fun r' h' => r9 = r' ∧ HH s9 h' ∧ Mo s0 s9) 0 0) 53 [some (.ref 67), some (.int y1), some (.int x2), some (.int x3), none, none] [] h 0 0 := by
  intro n
  induction n with
  | zero =>
    intro s h x2 x3 H ms hf
    cases hf
  | succ n ih =>
    intro s h x2 x3 H ms hf
    replace hf : f_X12_capsule_L53_b q0 y1 (f_X12_capsule_L53 q0 y1 n) s x2 x3 = some (r9, s9) := hf
    unfold f_X12_capsule_L53_b at hf
    refine aw_iload_n (pc' := 54) dX12_capsule_53 rfl rfl ?_
    refine aw_aload_n (pc' := 55) dX12_capsule_54 rfl rfl rfl ?_
    refine aw_gi (q := 59) (pc' := 58) H (H.fo rfl rfl) (by decide) rfl dX12_capsule_55 rfl fl_RX12_242 ?_
    refine aw_cge (tgt := 168) (pc' := 61) dX12_capsule_58 rfl rfl (fun c10 => ?_) (fun c10 => ?_)
    · replace hf := ifn c10 hf
      refine AW.lv_le (lz_k (lz_k (lz_k (lz_d (lz_d (lz_d lz_0)))))) ?_
      exact hq0 _ _ _ H ms hf
    · replace hf := ifp c10 hf
      refine aw_aload_n (pc' := 62) dX12_capsule_61 rfl rfl rfl ?_
      refine aw_gr (q := 59) (e := 37) (v := .ref 85) (pc' := 65) H (H.fo rfl rfl) (by decide) rfl rfl dX12_capsule_62 rfl fl_RX12_62 ?_
      refine aw_iload_n (pc' := 66) dX12_capsule_65 rfl rfl ?_
      obtain ⟨g11, hf⟩ := gd_e hf
      refine aw_za (q := 77) (pc' := 67) H (H.fa rfl rfl rfl) g11 dX12_capsule_66 rfl ?_
      obtain ⟨k12, ek12, hf⟩ := jn_e hf
      have hk12 : ∀ (s12 : SS) (h12 : List aE) (j12_2 : Int32), HH s12 h12 → Mo s s12 → k12 s12 j12_2 = some (r9, s9) → AW mX12_capsule (rmD (4) 0 0) (fin (PI fun r' h' => r9 = r' ∧ HH s9 h' ∧ Mo s0 s9) 0 0) 162 [some (.ref 67), some (.int y1), some (.int j12_2), some (.int x3), none, none] [] h12 0 0 := by
        intro s12 h12 j12_2 H12 m12 hf
        subst ek12
        obtain ⟨v13, ev13, hf⟩ := vl_e hf
        refine aw_iincV (y := v13) (lv' := [_, _, _, _, _, _]) (pc' := 165) dX12_capsule_162 rfl rfl (Nat.le_of_ble_eq_true rfl) ev13 rfl ?_
        refine aw_goto (tgt := 53) dX12_capsule_165 rfl ?_
        exact ih _ _ _ _ H12 (ms.tr m12) hf
      clear ek12
      refine aw_if_ne (tgt := 73) (pc' := 70) dX12_capsule_67 rfl rfl (fun c14 => ?_) (fun c14 => ?_)
      · replace hf := ifn c14 hf
        refine aw_aload_n (pc' := 74) dX12_capsule_73 rfl rfl rfl ?_
        refine aw_iconst (v := 1) (pc' := 75) dX12_capsule_74 rfl ic_1 ?_
        refine aw_iload_n (pc' := 76) dX12_capsule_75 rfl rfl ?_
        refine aw_iconst (v := 0) (pc' := 77) dX12_capsule_76 rfl ic_0 ?_
        obtain ⟨r15, s15, ec15, hf⟩ := bd_e hf
        refine aw_callVi (M' := mX12_saysNow) (nc' := 0) (ns' := 0) (pc' := 80) dX12_capsule_77 rfl ml_RX12_403 kX12_saysNow (t_X12_saysNow H ec15) (H.ob (H.fo rfl rfl) (by decide)) rfl rfl rfl (Nat.le_of_ble_eq_true rfl) (rokD (by omega) (Nat.le_of_ble_eq_true rfl) (Nat.le_of_ble_eq_true rfl) (Nat.le_of_ble_eq_true rfl)) rfl rfl (fun _ h15 q15 => ?_)
        obtain ⟨rfl, H15, m15⟩ := q15
        refine aw_istore (lv' := [_, _, _, _, _, _]) (pc' := 82) dX12_capsule_80 rfl (Nat.le_of_ble_eq_true rfl) rfl ?_
        refine aw_iload_n (pc' := 83) dX12_capsule_82 rfl rfl ?_
        refine aw_istore (lv' := [_, _, _, _, _, _]) (pc' := 85) dX12_capsule_83 rfl (Nat.le_of_ble_eq_true rfl) rfl ?_
        refine t_X12_capsule_L85 ((mb.tr ms).tr m15) (fun s31 h31 x31_5 H31 m31 hf => ?_) 4000 _ _ _ H15 (Mo.rf _) hf
        refine aw_aload_n (pc' := 143) dX12_capsule_142 rfl rfl rfl ?_
        refine aw_gr (q := 59) (e := 115) (v := .ref 124) (pc' := 146) H31 (H31.fo rfl rfl) (l13 rfl) rfl rfl dX12_capsule_143 rfl fl_RX12_196 ?_
        refine aw_iload (pc' := 148) dX12_capsule_146 rfl rfl ?_
        refine aw_iload_n (pc' := 149) dX12_capsule_148 rfl rfl ?_
        obtain ⟨g32, hf⟩ := gd_e hf
        obtain ⟨s33, es33, hf⟩ := st_e hf
        refine aw_is (q := 116) (pc' := 150) es33 H31 (H31.fa rfl rfl rfl) g32 dX12_capsule_149 rfl (fun h33 H33 => ?_)
        have m33 := Mo.ofI es33
        refine aw_aload_n (pc' := 151) dX12_capsule_150 rfl rfl rfl ?_
        refine aw_gr (q := 59) (e := 117) (v := .ref 125) (pc' := 154) H33 (H33.fo rfl rfl) (l13 rfl) rfl rfl dX12_capsule_151 rfl fl_RX12_199 ?_
        refine aw_iload (pc' := 156) dX12_capsule_154 rfl rfl ?_
        refine aw_iload (pc' := 158) dX12_capsule_156 rfl rfl ?_
        obtain ⟨g34, hf⟩ := gd_e hf
        obtain ⟨s35, es35, hf⟩ := st_e hf
        refine aw_is (q := 117) (pc' := 159) es35 H33 (H33.fa rfl rfl rfl) g34 dX12_capsule_158 rfl (fun h35 H35 => ?_)
        have m35 := Mo.ofI es35
        obtain ⟨v36, ev36, hf⟩ := vl_e hf
        refine aw_iincV (y := v36) (lv' := [_, _, _, _, _, _]) (pc' := 162) dX12_capsule_159 rfl rfl (Nat.le_of_ble_eq_true rfl) ev36 rfl ?_
        refine AW.lv_le (lz_k (lz_k (lz_k (lz_k (lz_d (lz_d lz_0)))))) ?_
        exact hk12 _ _ _ H35 (((m15.tr m31).tr m33).tr m35) hf
      · replace hf := ifp c14 hf
        refine aw_goto (tgt := 162) dX12_capsule_70 rfl ?_
        exact hk12 _ _ _ H (Mo.rf _) hf
noncomputable def f_X12_capsule_L170_b (q0 : SS → Option (Int32 × SS)) (y1 : Int32) (y2 : Int32) (rc : SS → Int32 → Option (Int32 × SS)) (s : SS) (x3 : Int32) : Option (Int32 × SS) := (if x3 < y2 then (gd (inB y1 120) (vl (((zS s 59 1) + ((x3 + (1 : Int32)) * ((1 : Int32) + ((zI s 67 (y1.toInt.toNat)) / (20 : Int32)))))) fun v40 => (gd (inB x3 120) (st (pI s 118 (x3.toInt.toNat) v40) fun s42 => (vl (x3 + 1) fun v43 => (rc s42 v43)))))) else (q0 s))
noncomputable def f_X12_capsule_L170 (q0 : SS → Option (Int32 × SS)) (y1 : Int32) (y2 : Int32) : Nat → SS → Int32 → Option (Int32 × SS)
  | 0, _, _ => none
  | n + 1, s, x3 => f_X12_capsule_L170_b q0 y1 y2 (f_X12_capsule_L170 q0 y1 y2 n) s x3
set_option maxRecDepth 4000 in
theorem t_X12_capsule_L170 {r9 : Int32} {s0 sb s9 : SS} {q0 : SS → Option (Int32 × SS)} {y1 : Int32} {y2 : Int32} (mb : Mo s0 sb) (hq0 : ∀ (s : SS) (h : List aE), HH s h → Mo sb s → q0 s = some (r9, s9) → AW mX12_capsule (rmD (4) 0 0) (fin (PI fun r' h' => r9 = r' ∧ HH s9 h' ∧ Mo s0 s9) 0 0) 207 [some (.ref 67), none, some (.int y2), none, none, none] [] h 0 0) : ∀ (n : Nat) (s : SS) (h : List aE) (x3 : Int32), HH s h → Mo sb s → f_X12_capsule_L170 q0 y1 y2 n s x3 = some (r9, s9) → AW mX12_capsule (rmD (4) 0 0) (fin (PI fun r' h' => r9 = r' ∧ HH s9 h' ∧ Mo s0 s9) 0 0) 170 [some (.ref 67), some (.int y1), some (.int y2), some (.int x3), none, none] [] h 0 0 := by
  intro n
  induction n with
  | zero =>
    intro s h x3 H ms hf
    cases hf
  | succ n ih =>
    intro s h x3 H ms hf
    replace hf : f_X12_capsule_L170_b q0 y1 y2 (f_X12_capsule_L170 q0 y1 y2 n) s x3 = some (r9, s9) := hf
    unfold f_X12_capsule_L170_b at hf
    refine aw_iload_n (pc' := 171) dX12_capsule_170 rfl rfl ?_
    refine aw_iload_n (pc' := 172) dX12_capsule_171 rfl rfl ?_
    refine aw_cge (tgt := 207) (pc' := 175) dX12_capsule_172 rfl rfl (fun c38 => ?_) (fun c38 => ?_)
    · replace hf := ifn c38 hf
      refine AW.lv_le (lz_k (lz_d (lz_k (lz_d (lz_d (lz_d lz_0)))))) ?_
      exact hq0 _ _ H ms hf
    · replace hf := ifp c38 hf
      refine aw_aload_n (pc' := 176) dX12_capsule_175 rfl rfl rfl ?_
      refine aw_gr (q := 59) (e := 119) (v := .ref 126) (pc' := 179) H (H.fo rfl rfl) (by decide) rfl rfl dX12_capsule_176 rfl fl_RX12_202 ?_
      refine aw_iload_n (pc' := 180) dX12_capsule_179 rfl rfl ?_
      refine aw_aload_n (pc' := 181) dX12_capsule_180 rfl rfl rfl ?_
      refine aw_gi (q := 59) (pc' := 184) H (H.fo rfl rfl) (by decide) rfl dX12_capsule_181 rfl fl_RX12_281 ?_
      refine aw_iload_n (pc' := 185) dX12_capsule_184 rfl rfl ?_
      refine aw_iconst (v := 1) (pc' := 186) dX12_capsule_185 rfl ic_1 ?_
      refine aw_iadd (pc' := 187) dX12_capsule_186 rfl ?_
      refine aw_iconst (v := 1) (pc' := 188) dX12_capsule_187 rfl ic_1 ?_
      refine aw_aload_n (pc' := 189) dX12_capsule_188 rfl rfl rfl ?_
      refine aw_gr (q := 59) (e := 17) (v := .ref 75) (pc' := 192) H (H.fo rfl rfl) (by decide) rfl rfl dX12_capsule_189 rfl fl_RX12_32 ?_
      refine aw_iload_n (pc' := 193) dX12_capsule_192 rfl rfl ?_
      obtain ⟨g39, hf⟩ := gd_e hf
      refine aw_ia (q := 67) (pc' := 194) H (H.fa rfl rfl rfl) g39 dX12_capsule_193 rfl ?_
      refine aw_bipush (v := 20) (pc' := 196) dX12_capsule_194 rfl bp_20 ?_
      refine aw_idiv (pc' := 197) dX12_capsule_196 rfl (by decide) ?_
      refine aw_iadd (pc' := 198) dX12_capsule_197 rfl ?_
      refine aw_imul (pc' := 199) dX12_capsule_198 rfl ?_
      refine aw_iadd (pc' := 200) dX12_capsule_199 rfl ?_
      obtain ⟨v40, ev40, hf⟩ := vl_e hf
      refine aw_topi ev40 ?_
      obtain ⟨g41, hf⟩ := gd_e hf
      obtain ⟨s42, es42, hf⟩ := st_e hf
      refine aw_is (q := 118) (pc' := 201) es42 H (H.fa rfl rfl rfl) g41 dX12_capsule_200 rfl (fun h42 H42 => ?_)
      have m42 := Mo.ofI es42
      obtain ⟨v43, ev43, hf⟩ := vl_e hf
      refine aw_iincV (y := v43) (lv' := [_, _, _, _, _, _]) (pc' := 204) dX12_capsule_201 rfl rfl (Nat.le_of_ble_eq_true rfl) ev43 rfl ?_
      refine aw_goto (tgt := 170) dX12_capsule_204 rfl ?_
      exact ih _ _ _ H42 (ms.tr m42) hf
noncomputable def f_X12_capsule (s0 : SS) (a0 : Int32) : Option (Int32 × SS) := (b1 (f_X12_isBody s0 a0) fun r1 => (if r1 = (0 : Int32) then some ((-1), s0) else (gd (inB a0 120) (jn ((gd (inB a0 120) (if (zI s0 69 (a0.toInt.toNat)) = (0 : Int32) then some ((-2), s0) else (b1 (f_X12_menBelow s0) fun r7 => (if r7 = (0 : Int32) then some ((-2), s0) else (f_X12_capsule_L53 (fun (s37 : SS) (x37_2 : Int32) => (f_X12_capsule_L170 (fun (s44 : SS)  => (st (pS s44 59 82 x37_2) fun s45 => (vl ((zS s45 59 1)) fun v46 => (st (pS s45 59 83 v46) fun s47 => (vl ((x37_2 - (1 : Int32))) fun v48 => (gd (inB v48 120) (some ((zI s47 118 (v48.toInt.toNat)), s47)))))))) a0 x37_2 4000 s37 0)) a0 4000 s0 0 0)))))) fun k4 => (if (zI s0 62 (a0.toInt.toNat)) = (4 : Int32) then k4 else (gd (inB a0 120) (if (zI s0 62 (a0.toInt.toNat)) = (5 : Int32) then k4 else some ((-1), s0))))))))
set_option maxRecDepth 4000 in
theorem t_X12_capsule {r9 : Int32} {s0 s9 : SS} {h0 : List aE} {a0 : Int32} (H0 : HH s0 h0) (hf : f_X12_capsule s0 a0 = some (r9, s9)) : AM mX12_capsule (4) [.ref 67, .int a0] h0 0 0 (PI fun r' h' => r9 = r' ∧ HH s9 h' ∧ Mo s0 s9) := by
  unfold f_X12_capsule at hf
  refine am_of (lv := [some (.ref 67), some (.int a0), none, none, none, none]) rfl (Nat.le_of_ble_eq_true rfl) rfl ?_
  refine aw_aload_n (pc' := 1) dX12_capsule_0 rfl rfl rfl ?_
  refine aw_iload_n (pc' := 2) dX12_capsule_1 rfl rfl ?_
  obtain ⟨r1, ec1, hf⟩ := b1_e hf
  refine aw_callVi (M' := mX12_isBody) (nc' := 0) (ns' := 0) (pc' := 5) dX12_capsule_2 rfl ml_RX12_245 kX12_isBody (t_X12_isBody H0 ec1) (H0.ob (H0.fo rfl rfl) (by decide)) rfl rfl rfl (Nat.le_of_ble_eq_true rfl) (rokD (by omega) (Nat.le_of_ble_eq_true rfl) (Nat.le_of_ble_eq_true rfl) (Nat.le_of_ble_eq_true rfl)) rfl rfl (fun _ h1 q1 => ?_)
  obtain ⟨rfl, rfl, zb1⟩ := q1
  refine aw_if_eq (tgt := 28) (pc' := 8) dX12_capsule_5 rfl rfl (fun c2 => ?_) (fun c2 => ?_)
  · replace hf := ifp c2 hf
    refine aw_iconst (v := (-1)) (pc' := 29) dX12_capsule_28 rfl ic_m1 ?_
    obtain ⟨rfl, rfl⟩ := so2 hf
    exact aw_ri dX12_capsule_29 rfl rfl (Nat.le_of_ble_eq_true rfl) (Nat.le_of_ble_eq_true rfl) ⟨rfl, H0, (Mo.rf _)⟩
  · replace hf := ifn c2 hf
    refine aw_aload_n (pc' := 9) dX12_capsule_8 rfl rfl rfl ?_
    refine aw_gr (q := 59) (e := 7) (v := .ref 70) (pc' := 12) H0 (H0.fo rfl rfl) (l13 rfl) rfl rfl dX12_capsule_9 rfl fl_RX12_17 ?_
    refine aw_iload_n (pc' := 13) dX12_capsule_12 rfl rfl ?_
    obtain ⟨g3, hf⟩ := gd_e hf
    refine aw_ia (q := 62) (pc' := 14) H0 (H0.fa rfl rfl rfl) g3 dX12_capsule_13 rfl ?_
    refine aw_iconst (v := 4) (pc' := 15) dX12_capsule_14 rfl ic_4 ?_
    obtain ⟨k4, ek4, hf⟩ := jn_e hf
    have hk4 : k4 = some (r9, s9) → AW mX12_capsule (rmD (4) 0 0) (fin (PI fun r' h' => r9 = r' ∧ HH s9 h' ∧ Mo s0 s9) 0 0) 30 [some (.ref 67), some (.int a0), none, none, none, none] [] h0 0 0 := by
      intro hf
      subst ek4
      refine aw_aload_n (pc' := 31) dX12_capsule_30 rfl rfl rfl ?_
      refine aw_gr (q := 59) (e := 21) (v := .ref 77) (pc' := 34) H0 (H0.fo rfl rfl) (l13 rfl) rfl rfl dX12_capsule_31 rfl fl_RX12_38 ?_
      refine aw_iload_n (pc' := 35) dX12_capsule_34 rfl rfl ?_
      obtain ⟨g5, hf⟩ := gd_e hf
      refine aw_ia (q := 69) (pc' := 36) H0 (H0.fa rfl rfl rfl) g5 dX12_capsule_35 rfl ?_
      refine aw_if_eq (tgt := 46) (pc' := 39) dX12_capsule_36 rfl rfl (fun c6 => ?_) (fun c6 => ?_)
      · replace hf := ifp c6 hf
        refine aw_bipush (v := (-2)) (pc' := 48) dX12_capsule_46 rfl bp_m2 ?_
        obtain ⟨rfl, rfl⟩ := so2 hf
        exact aw_ri dX12_capsule_48 rfl rfl (Nat.le_of_ble_eq_true rfl) (Nat.le_of_ble_eq_true rfl) ⟨rfl, H0, (Mo.rf _)⟩
      · replace hf := ifn c6 hf
        refine aw_aload_n (pc' := 40) dX12_capsule_39 rfl rfl rfl ?_
        obtain ⟨r7, ec7, hf⟩ := b1_e hf
        refine aw_callVi (M' := mX12_menBelow) (nc' := 0) (ns' := 0) (pc' := 43) dX12_capsule_40 rfl ml_RX12_394 kX12_menBelow (t_X12_menBelow H0 ec7) (H0.ob (H0.fo rfl rfl) (by decide)) rfl rfl rfl (Nat.le_of_ble_eq_true rfl) (rokD (by omega) (Nat.le_of_ble_eq_true rfl) (Nat.le_of_ble_eq_true rfl) (Nat.le_of_ble_eq_true rfl)) rfl rfl (fun _ h7 q7 => ?_)
        obtain ⟨rfl, rfl⟩ := q7
        refine aw_if_ne (tgt := 49) (pc' := 46) dX12_capsule_43 rfl rfl (fun c8 => ?_) (fun c8 => ?_)
        · replace hf := ifn c8 hf
          refine aw_iconst (v := 0) (pc' := 50) dX12_capsule_49 rfl ic_0 ?_
          refine aw_istore_n (lv' := [_, _, _, _, _, _]) (pc' := 51) dX12_capsule_50 rfl (Nat.le_of_ble_eq_true rfl) rfl ?_
          refine aw_iconst (v := 0) (pc' := 52) dX12_capsule_51 rfl ic_0 ?_
          refine aw_istore_n (lv' := [_, _, _, _, _, _]) (pc' := 53) dX12_capsule_52 rfl (Nat.le_of_ble_eq_true rfl) rfl ?_
          refine t_X12_capsule_L53 (Mo.rf _) (fun s37 h37 x37_2 H37 m37 hf => ?_) 4000 _ _ _ _ H0 (Mo.rf _) hf
          refine aw_iconst (v := 0) (pc' := 169) dX12_capsule_168 rfl ic_0 ?_
          refine aw_istore_n (lv' := [_, _, _, _, _, _]) (pc' := 170) dX12_capsule_169 rfl (Nat.le_of_ble_eq_true rfl) rfl ?_
          refine t_X12_capsule_L170 m37 (fun s44 h44 H44 m44 hf => ?_) 4000 _ _ _ H37 (Mo.rf _) hf
          refine aw_aload_n (pc' := 208) dX12_capsule_207 rfl rfl rfl ?_
          refine aw_iload_n (pc' := 209) dX12_capsule_208 rfl rfl ?_
          obtain ⟨s45, es45, hf⟩ := st_e hf
          refine aw_pi (q := 59) (pc' := 212) es45 H44 (H44.fo rfl rfl) (by decide) rfl dX12_capsule_209 rfl fl_RX12_193 rfl (fun h45 H45 => ?_)
          have m45 := Mo.ofS es45
          refine aw_aload_n (pc' := 213) dX12_capsule_212 rfl rfl rfl ?_
          refine aw_aload_n (pc' := 214) dX12_capsule_213 rfl rfl rfl ?_
          refine aw_gi (q := 59) (pc' := 217) H45 (H45.fo rfl rfl) (l13 rfl) rfl dX12_capsule_214 rfl fl_RX12_281 ?_
          obtain ⟨v46, ev46, hf⟩ := vl_e hf
          refine aw_topi ev46 ?_
          obtain ⟨s47, es47, hf⟩ := st_e hf
          refine aw_pi (q := 59) (pc' := 220) es47 H45 (H45.fo rfl rfl) (by decide) rfl dX12_capsule_217 rfl fl_RX12_450 rfl (fun h47 H47 => ?_)
          have m47 := Mo.ofS es47
          refine aw_aload_n (pc' := 221) dX12_capsule_220 rfl rfl rfl ?_
          refine aw_gr (q := 59) (e := 119) (v := .ref 126) (pc' := 224) H47 (H47.fo rfl rfl) (l13 rfl) rfl rfl dX12_capsule_221 rfl fl_RX12_202 ?_
          refine aw_iload_n (pc' := 225) dX12_capsule_224 rfl rfl ?_
          refine aw_iconst (v := 1) (pc' := 226) dX12_capsule_225 rfl ic_1 ?_
          refine aw_isub (pc' := 227) dX12_capsule_226 rfl ?_
          obtain ⟨v48, ev48, hf⟩ := vl_e hf
          refine aw_topi ev48 ?_
          obtain ⟨g49, hf⟩ := gd_e hf
          refine aw_ia (q := 118) (pc' := 228) H47 (H47.fa rfl rfl rfl) g49 dX12_capsule_227 rfl ?_
          obtain ⟨rfl, rfl⟩ := so2 hf
          exact aw_ri dX12_capsule_228 rfl rfl (Nat.le_of_ble_eq_true rfl) (Nat.le_of_ble_eq_true rfl) ⟨rfl, H47, (((m37.tr m44).tr m45).tr m47)⟩
        · replace hf := ifp c8 hf
          refine aw_bipush (v := (-2)) (pc' := 48) dX12_capsule_46 rfl bp_m2 ?_
          obtain ⟨rfl, rfl⟩ := so2 hf
          exact aw_ri dX12_capsule_48 rfl rfl (Nat.le_of_ble_eq_true rfl) (Nat.le_of_ble_eq_true rfl) ⟨rfl, H0, (Mo.rf _)⟩
    clear ek4
    refine aw_icmp_eq (tgt := 30) (pc' := 18) dX12_capsule_15 rfl rfl (fun c50 => ?_) (fun c50 => ?_)
    · replace hf := ifp c50 hf
      exact hk4  hf
    · replace hf := ifn c50 hf
      refine aw_aload_n (pc' := 19) dX12_capsule_18 rfl rfl rfl ?_
      refine aw_gr (q := 59) (e := 7) (v := .ref 70) (pc' := 22) H0 (H0.fo rfl rfl) (l13 rfl) rfl rfl dX12_capsule_19 rfl fl_RX12_17 ?_
      refine aw_iload_n (pc' := 23) dX12_capsule_22 rfl rfl ?_
      obtain ⟨g51, hf⟩ := gd_e hf
      refine aw_ia (q := 62) (pc' := 24) H0 (H0.fa rfl rfl rfl) g51 dX12_capsule_23 rfl ?_
      refine aw_iconst (v := 5) (pc' := 25) dX12_capsule_24 rfl ic_5 ?_
      refine aw_icmp_eq (tgt := 30) (pc' := 28) dX12_capsule_25 rfl rfl (fun c52 => ?_) (fun c52 => ?_)
      · replace hf := ifp c52 hf
        exact hk4  hf
      · replace hf := ifn c52 hf
        refine aw_iconst (v := (-1)) (pc' := 29) dX12_capsule_28 rfl ic_m1 ?_
        obtain ⟨rfl, rfl⟩ := so2 hf
        exact aw_ri dX12_capsule_29 rfl rfl (Nat.le_of_ble_eq_true rfl) (Nat.le_of_ble_eq_true rfl) ⟨rfl, H0, (Mo.rf _)⟩
/-! ThirtyThreeBelowModel.up -/
noncomputable def f_X12_up (s0 : SS) (a0 : Int32) (a1 : Int32) : Option Int32 := (b1 (f_X12_in a0 (0 : Int32) ((zS s0 59 82) - (1 : Int32))) fun r1 => (if r1 = (0 : Int32) then some (-1) else (b1 (f_X12_in a1 (0 : Int32) (1 : Int32)) fun r3 => (if r3 = (0 : Int32) then some (-1) else (if a1 = (0 : Int32) then (gd (inB a0 120) (some (zI s0 116 (a0.toInt.toNat)))) else (gd (inB a0 120) (some (zI s0 118 (a0.toInt.toNat)))))))))
set_option maxRecDepth 4000 in
theorem t_X12_up {r9 : Int32} {s0 : SS} {h0 : List aE} {a0 : Int32} {a1 : Int32} (H0 : HH s0 h0) (hf : f_X12_up s0 a0 a1 = some r9) : AM mX12_up (1) [.ref 67, .int a0, .int a1] h0 0 0 (PI fun r' h' => r9 = r' ∧ h0 = h') := by
  unfold f_X12_up at hf
  refine am_of (lv := [some (.ref 67), some (.int a0), some (.int a1)]) rfl (Nat.le_of_ble_eq_true rfl) rfl ?_
  refine aw_iload_n (pc' := 1) dX12_up_0 rfl rfl ?_
  refine aw_iconst (v := 0) (pc' := 2) dX12_up_1 rfl ic_0 ?_
  refine aw_aload_n (pc' := 3) dX12_up_2 rfl rfl rfl ?_
  refine aw_gi (q := 59) (pc' := 6) H0 (H0.fo rfl rfl) (l13 rfl) rfl dX12_up_3 rfl fl_RX12_193 ?_
  refine aw_iconst (v := 1) (pc' := 7) dX12_up_6 rfl ic_1 ?_
  refine aw_isub (pc' := 8) dX12_up_7 rfl ?_
  obtain ⟨r1, ec1, hf⟩ := b1_e hf
  refine aw_callSi (M' := mX12_in) (nc' := 0) (ns' := 0) (pc' := 11) dX12_up_8 rfl ml_RX12_230 kX12_in (t_X12_in ec1) rfl rfl (Nat.le_of_ble_eq_true rfl) (rokD (by omega) (Nat.le_of_ble_eq_true rfl) (Nat.le_of_ble_eq_true rfl) (Nat.le_of_ble_eq_true rfl)) rfl rfl (fun _ h1 q1 => ?_)
  obtain ⟨rfl, rfl, zb1⟩ := q1
  refine aw_if_eq (tgt := 23) (pc' := 14) dX12_up_11 rfl rfl (fun c2 => ?_) (fun c2 => ?_)
  · replace hf := ifp c2 hf
    refine aw_iconst (v := (-1)) (pc' := 24) dX12_up_23 rfl ic_m1 ?_
    refine aw_goto (tgt := 46) dX12_up_24 rfl ?_
    obtain rfl := Option.some.inj hf
    exact aw_ri dX12_up_46 rfl rfl (Nat.le_of_ble_eq_true rfl) (Nat.le_of_ble_eq_true rfl) ⟨rfl, rfl⟩
  · replace hf := ifn c2 hf
    refine aw_iload_n (pc' := 15) dX12_up_14 rfl rfl ?_
    refine aw_iconst (v := 0) (pc' := 16) dX12_up_15 rfl ic_0 ?_
    refine aw_iconst (v := 1) (pc' := 17) dX12_up_16 rfl ic_1 ?_
    obtain ⟨r3, ec3, hf⟩ := b1_e hf
    refine aw_callSi (M' := mX12_in) (nc' := 0) (ns' := 0) (pc' := 20) dX12_up_17 rfl ml_RX12_230 kX12_in (t_X12_in ec3) rfl rfl (Nat.le_of_ble_eq_true rfl) (rokD (by omega) (Nat.le_of_ble_eq_true rfl) (Nat.le_of_ble_eq_true rfl) (Nat.le_of_ble_eq_true rfl)) rfl rfl (fun _ h3 q3 => ?_)
    obtain ⟨rfl, rfl, zb3⟩ := q3
    refine aw_if_ne (tgt := 27) (pc' := 23) dX12_up_20 rfl rfl (fun c4 => ?_) (fun c4 => ?_)
    · replace hf := ifn c4 hf
      refine aw_iload_n (pc' := 28) dX12_up_27 rfl rfl ?_
      refine aw_if_ne (tgt := 40) (pc' := 31) dX12_up_28 rfl rfl (fun c5 => ?_) (fun c5 => ?_)
      · replace hf := ifn c5 hf
        refine aw_aload_n (pc' := 41) dX12_up_40 rfl rfl rfl ?_
        refine aw_gr (q := 59) (e := 119) (v := .ref 126) (pc' := 44) H0 (H0.fo rfl rfl) (l13 rfl) rfl rfl dX12_up_41 rfl fl_RX12_202 ?_
        refine aw_iload_n (pc' := 45) dX12_up_44 rfl rfl ?_
        obtain ⟨g6, hf⟩ := gd_e hf
        refine aw_ia (q := 118) (pc' := 46) H0 (H0.fa rfl rfl rfl) g6 dX12_up_45 rfl ?_
        obtain rfl := Option.some.inj hf
        exact aw_ri dX12_up_46 rfl rfl (Nat.le_of_ble_eq_true rfl) (Nat.le_of_ble_eq_true rfl) ⟨rfl, rfl⟩
      · replace hf := ifp c5 hf
        refine aw_aload_n (pc' := 32) dX12_up_31 rfl rfl rfl ?_
        refine aw_gr (q := 59) (e := 115) (v := .ref 124) (pc' := 35) H0 (H0.fo rfl rfl) (l13 rfl) rfl rfl dX12_up_32 rfl fl_RX12_196 ?_
        refine aw_iload_n (pc' := 36) dX12_up_35 rfl rfl ?_
        obtain ⟨g7, hf⟩ := gd_e hf
        refine aw_ia (q := 116) (pc' := 37) H0 (H0.fa rfl rfl rfl) g7 dX12_up_36 rfl ?_
        refine aw_goto (tgt := 46) dX12_up_37 rfl ?_
        obtain rfl := Option.some.inj hf
        exact aw_ri dX12_up_46 rfl rfl (Nat.le_of_ble_eq_true rfl) (Nat.le_of_ble_eq_true rfl) ⟨rfl, rfl⟩
    · replace hf := ifp c4 hf
      refine aw_iconst (v := (-1)) (pc' := 24) dX12_up_23 rfl ic_m1 ?_
      refine aw_goto (tgt := 46) dX12_up_24 rfl ?_
      obtain rfl := Option.some.inj hf
      exact aw_ri dX12_up_46 rfl rfl (Nat.le_of_ble_eq_true rfl) (Nat.le_of_ble_eq_true rfl) ⟨rfl, rfl⟩
/-! ThirtyThreeBelowModel.raise -/
noncomputable def f_X12_raise_L27_b (y1 : Int32) (rc : SS → Int32 → Int32 → Option (Int32 × SS)) (s : SS) (x2 : Int32) (x3 : Int32) : Option (Int32 × SS) := (if x3 < (zS s 59 82) then (gd (inB x3 120) (jn (fun (s6 : SS) (j6_2 : Int32) => (vl (x3 + 1) fun v7 => (rc s6 j6_2 v7))) fun k6 => (if ((zS s 59 83) + y1) < (zI s 118 (x3.toInt.toNat)) then (k6 s x2) else (gd (inB x3 120) (vl ((zI s 116 (x3.toInt.toNat))) fun v11 => (gd (inB v11 120) (if (zI s 77 (v11.toInt.toNat)) = (0 : Int32) then (k6 s x2) else (gd (inB x3 120) (vl ((zI s 116 (x3.toInt.toNat))) fun v15 => (gd (inB v15 120) (st (pI s 77 (v15.toInt.toNat) ((0 : Int32) &&& 1)) fun s17 => (vl (x2 + 1) fun v18 => (k6 s17 v18))))))))))))) else some (x2, s))
noncomputable def f_X12_raise_L27 (y1 : Int32) : Nat → SS → Int32 → Int32 → Option (Int32 × SS)
  | 0, _, _, _ => none
  | n + 1, s, x2, x3 => f_X12_raise_L27_b y1 (f_X12_raise_L27 y1 n) s x2 x3
set_option maxRecDepth 4000 in
theorem t_X12_raise_L27 {r9 : Int32} {s0 sb s9 : SS} {y1 : Int32} (mb : Mo s0 sb)  : ∀ (n : Nat) (s : SS) (h : List aE) (x2 : Int32) (x3 : Int32), HH s h → Mo sb s → f_X12_raise_L27 y1 n s x2 x3 = some (r9, s9) → AW mX12_raise (rmD (1) 0 0) (fin (PI fun r' h' => r9 = r' ∧ HH s9 h' ∧ Mo s0 s9) 0 0) 27 [some (.ref 67), some (.int y1), some (.int x2), some (.int x3)] [] h 0 0 := by
  intro n
  induction n with
  | zero =>
    intro s h x2 x3 H ms hf
    cases hf
  | succ n ih =>
    intro s h x2 x3 H ms hf
    replace hf : f_X12_raise_L27_b y1 (f_X12_raise_L27 y1 n) s x2 x3 = some (r9, s9) := hf
    unfold f_X12_raise_L27_b at hf
    refine aw_iload_n (pc' := 28) dX12_raise_27 rfl rfl ?_
    refine aw_aload_n (pc' := 29) dX12_raise_28 rfl rfl rfl ?_
    refine aw_gi (q := 59) (pc' := 32) H (H.fo rfl rfl) (by decide) rfl dX12_raise_29 rfl fl_RX12_193 ?_
    refine aw_cge (tgt := 88) (pc' := 35) dX12_raise_32 rfl rfl (fun c4 => ?_) (fun c4 => ?_)
    · replace hf := ifn c4 hf
      refine aw_iload_n (pc' := 89) dX12_raise_88 rfl rfl ?_
      obtain ⟨rfl, rfl⟩ := so2 hf
      exact aw_ri dX12_raise_89 rfl rfl (Nat.le_of_ble_eq_true rfl) (Nat.le_of_ble_eq_true rfl) ⟨rfl, H, (mb.tr ms)⟩
    · replace hf := ifp c4 hf
      refine aw_aload_n (pc' := 36) dX12_raise_35 rfl rfl rfl ?_
      refine aw_gr (q := 59) (e := 119) (v := .ref 126) (pc' := 39) H (H.fo rfl rfl) (by decide) rfl rfl dX12_raise_36 rfl fl_RX12_202 ?_
      refine aw_iload_n (pc' := 40) dX12_raise_39 rfl rfl ?_
      obtain ⟨g5, hf⟩ := gd_e hf
      refine aw_ia (q := 118) (pc' := 41) H (H.fa rfl rfl rfl) g5 dX12_raise_40 rfl ?_
      refine aw_aload_n (pc' := 42) dX12_raise_41 rfl rfl rfl ?_
      refine aw_gi (q := 59) (pc' := 45) H (H.fo rfl rfl) (by decide) rfl dX12_raise_42 rfl fl_RX12_450 ?_
      refine aw_iload_n (pc' := 46) dX12_raise_45 rfl rfl ?_
      refine aw_iadd (pc' := 47) dX12_raise_46 rfl ?_
      obtain ⟨k6, ek6, hf⟩ := jn_e hf
      have hk6 : ∀ (s6 : SS) (h6 : List aE) (j6_2 : Int32), HH s6 h6 → Mo s s6 → k6 s6 j6_2 = some (r9, s9) → AW mX12_raise (rmD (1) 0 0) (fin (PI fun r' h' => r9 = r' ∧ HH s9 h' ∧ Mo s0 s9) 0 0) 82 [some (.ref 67), some (.int y1), some (.int j6_2), some (.int x3)] [] h6 0 0 := by
        intro s6 h6 j6_2 H6 m6 hf
        subst ek6
        obtain ⟨v7, ev7, hf⟩ := vl_e hf
        refine aw_iincV (y := v7) (lv' := [_, _, _, _]) (pc' := 85) dX12_raise_82 rfl rfl (Nat.le_of_ble_eq_true rfl) ev7 rfl ?_
        refine aw_goto (tgt := 27) dX12_raise_85 rfl ?_
        exact ih _ _ _ _ H6 (ms.tr m6) hf
      clear ek6
      refine aw_cgt (tgt := 82) (pc' := 50) dX12_raise_47 rfl rfl (fun c8 => ?_) (fun c8 => ?_)
      · replace hf := ifp c8 hf
        exact hk6 _ _ _ H (Mo.rf _) hf
      · replace hf := ifn c8 hf
        refine aw_aload_n (pc' := 51) dX12_raise_50 rfl rfl rfl ?_
        refine aw_gr (q := 59) (e := 37) (v := .ref 85) (pc' := 54) H (H.fo rfl rfl) (by decide) rfl rfl dX12_raise_51 rfl fl_RX12_62 ?_
        refine aw_aload_n (pc' := 55) dX12_raise_54 rfl rfl rfl ?_
        refine aw_gr (q := 59) (e := 115) (v := .ref 124) (pc' := 58) H (H.fo rfl rfl) (by decide) rfl rfl dX12_raise_55 rfl fl_RX12_196 ?_
        refine aw_iload_n (pc' := 59) dX12_raise_58 rfl rfl ?_
        obtain ⟨g10, hf⟩ := gd_e hf
        refine aw_ia (q := 116) (pc' := 60) H (H.fa rfl rfl rfl) g10 dX12_raise_59 rfl ?_
        obtain ⟨v11, ev11, hf⟩ := vl_e hf
        refine aw_topi ev11 ?_
        obtain ⟨g12, hf⟩ := gd_e hf
        refine aw_za (q := 77) (pc' := 61) H (H.fa rfl rfl rfl) g12 dX12_raise_60 rfl ?_
        refine aw_if_ne (tgt := 67) (pc' := 64) dX12_raise_61 rfl rfl (fun c13 => ?_) (fun c13 => ?_)
        · replace hf := ifn c13 hf
          refine aw_aload_n (pc' := 68) dX12_raise_67 rfl rfl rfl ?_
          refine aw_gr (q := 59) (e := 37) (v := .ref 85) (pc' := 71) H (H.fo rfl rfl) (by decide) rfl rfl dX12_raise_68 rfl fl_RX12_62 ?_
          refine aw_aload_n (pc' := 72) dX12_raise_71 rfl rfl rfl ?_
          refine aw_gr (q := 59) (e := 115) (v := .ref 124) (pc' := 75) H (H.fo rfl rfl) (by decide) rfl rfl dX12_raise_72 rfl fl_RX12_196 ?_
          refine aw_iload_n (pc' := 76) dX12_raise_75 rfl rfl ?_
          obtain ⟨g14, hf⟩ := gd_e hf
          refine aw_ia (q := 116) (pc' := 77) H (H.fa rfl rfl rfl) g14 dX12_raise_76 rfl ?_
          refine aw_iconst (v := 0) (pc' := 78) dX12_raise_77 rfl ic_0 ?_
          obtain ⟨v15, ev15, hf⟩ := vl_e hf
          refine aw_sndi ev15 ?_
          obtain ⟨g16, hf⟩ := gd_e hf
          obtain ⟨s17, es17, hf⟩ := st_e hf
          refine aw_zs (q := 77) (pc' := 79) es17 H (H.fa rfl rfl rfl) g16 dX12_raise_78 rfl (fun h17 H17 => ?_)
          have m17 := Mo.ofI es17
          obtain ⟨v18, ev18, hf⟩ := vl_e hf
          refine aw_iincV (y := v18) (lv' := [_, _, _, _]) (pc' := 82) dX12_raise_79 rfl rfl (Nat.le_of_ble_eq_true rfl) ev18 rfl ?_
          exact hk6 _ _ _ H17 m17 hf
        · replace hf := ifp c13 hf
          refine aw_goto (tgt := 82) dX12_raise_64 rfl ?_
          exact hk6 _ _ _ H (Mo.rf _) hf
noncomputable def f_X12_raise (s0 : SS) (a0 : Int32) : Option (Int32 × SS) := (b1 (f_X12_in a0 (0 : Int32) (199 : Int32)) fun r1 => (if r1 = (0 : Int32) then some ((-1), s0) else (if (zS s0 59 82) < (0 : Int32) then some ((-2), s0) else (f_X12_raise_L27 a0 4000 s0 0 0))))
set_option maxRecDepth 4000 in
theorem t_X12_raise {r9 : Int32} {s0 s9 : SS} {h0 : List aE} {a0 : Int32} (H0 : HH s0 h0) (hf : f_X12_raise s0 a0 = some (r9, s9)) : AM mX12_raise (1) [.ref 67, .int a0] h0 0 0 (PI fun r' h' => r9 = r' ∧ HH s9 h' ∧ Mo s0 s9) := by
  unfold f_X12_raise at hf
  refine am_of (lv := [some (.ref 67), some (.int a0), none, none]) rfl (Nat.le_of_ble_eq_true rfl) rfl ?_
  refine aw_iload_n (pc' := 1) dX12_raise_0 rfl rfl ?_
  refine aw_iconst (v := 0) (pc' := 2) dX12_raise_1 rfl ic_0 ?_
  refine aw_sipush (v := 199) (pc' := 5) dX12_raise_2 rfl sp_199 ?_
  obtain ⟨r1, ec1, hf⟩ := b1_e hf
  refine aw_callSi (M' := mX12_in) (nc' := 0) (ns' := 0) (pc' := 8) dX12_raise_5 rfl ml_RX12_230 kX12_in (t_X12_in ec1) rfl rfl (Nat.le_of_ble_eq_true rfl) (rokD (by omega) (Nat.le_of_ble_eq_true rfl) (Nat.le_of_ble_eq_true rfl) (Nat.le_of_ble_eq_true rfl)) rfl rfl (fun _ h1 q1 => ?_)
  obtain ⟨rfl, rfl, zb1⟩ := q1
  refine aw_if_ne (tgt := 13) (pc' := 11) dX12_raise_8 rfl rfl (fun c2 => ?_) (fun c2 => ?_)
  · replace hf := ifn c2 hf
    refine aw_aload_n (pc' := 14) dX12_raise_13 rfl rfl rfl ?_
    refine aw_gi (q := 59) (pc' := 17) H0 (H0.fo rfl rfl) (l13 rfl) rfl dX12_raise_14 rfl fl_RX12_193 ?_
    refine aw_zge (tgt := 23) (pc' := 20) dX12_raise_17 rfl rfl (fun c3 => ?_) (fun c3 => ?_)
    · replace hf := ifn c3 hf
      refine aw_iconst (v := 0) (pc' := 24) dX12_raise_23 rfl ic_0 ?_
      refine aw_istore_n (lv' := [_, _, _, _]) (pc' := 25) dX12_raise_24 rfl (Nat.le_of_ble_eq_true rfl) rfl ?_
      refine aw_iconst (v := 0) (pc' := 26) dX12_raise_25 rfl ic_0 ?_
      refine aw_istore_n (lv' := [_, _, _, _]) (pc' := 27) dX12_raise_26 rfl (Nat.le_of_ble_eq_true rfl) rfl ?_
      refine t_X12_raise_L27 (Mo.rf _)  4000 _ _ _ _ H0 (Mo.rf _) hf
    · replace hf := ifp c3 hf
      refine aw_bipush (v := (-2)) (pc' := 22) dX12_raise_20 rfl bp_m2 ?_
      obtain ⟨rfl, rfl⟩ := so2 hf
      exact aw_ri dX12_raise_22 rfl rfl (Nat.le_of_ble_eq_true rfl) (Nat.le_of_ble_eq_true rfl) ⟨rfl, H0, (Mo.rf _)⟩
  · replace hf := ifp c2 hf
    refine aw_iconst (v := (-1)) (pc' := 12) dX12_raise_11 rfl ic_m1 ?_
    obtain ⟨rfl, rfl⟩ := so2 hf
    exact aw_ri dX12_raise_12 rfl rfl (Nat.le_of_ble_eq_true rfl) (Nat.le_of_ble_eq_true rfl) ⟨rfl, H0, (Mo.rf _)⟩
/-! ThirtyThreeBelowModel.ran -/
noncomputable def f_X12_ran (s0 : SS) (a0 : Int32) : Option SS := (jn (fun (s1 : SS)  => (vl (((zS s1 59 87) + (1 : Int32))) fun v2 => (st (pS s1 59 87 v2) fun s3 => some s3))) fun k1 => (if (zS s0 59 87) < (24 : Int32) then (vl ((zS s0 59 87)) fun v5 => (gd (inB v5 24) (st (pI s0 119 (v5.toInt.toNat) a0) fun s7 => (k1 s7)))) else (k1 s0)))
set_option maxRecDepth 4000 in
theorem t_X12_ran {s0 s9 : SS} {h0 : List aE} {a0 : Int32} (H0 : HH s0 h0) (hf : f_X12_ran s0 a0 = some s9) : AM mX12_ran (0) [.ref 67, .int a0] h0 0 0 (PV fun h' => HH s9 h' ∧ Mo s0 s9) := by
  unfold f_X12_ran at hf
  refine am_of (lv := [some (.ref 67), some (.int a0)]) rfl (Nat.le_of_ble_eq_true rfl) rfl ?_
  refine aw_aload_n (pc' := 1) dX12_ran_0 rfl rfl rfl ?_
  refine aw_gi (q := 59) (pc' := 4) H0 (H0.fo rfl rfl) (l13 rfl) rfl dX12_ran_1 rfl fl_RX12_453 ?_
  refine aw_bipush (v := 24) (pc' := 6) dX12_ran_4 rfl bp_24 ?_
  obtain ⟨k1, ek1, hf⟩ := jn_e hf
  have hk1 : ∀ (s1 : SS) (h1 : List aE), HH s1 h1 → Mo s0 s1 → k1 s1 = some s9 → AW mX12_ran (rmD (0) 0 0) (fin (PV fun h' => HH s9 h' ∧ Mo s0 s9) 0 0) 19 [some (.ref 67), none] [] h1 0 0 := by
    intro s1 h1 H1 m1 hf
    subst ek1
    refine aw_aload_n (pc' := 20) dX12_ran_19 rfl rfl rfl ?_
    refine aw_dup (pc' := 21) dX12_ran_20 rfl rfl ?_
    refine aw_gi (q := 59) (pc' := 24) H1 (H1.fo rfl rfl) (l13 rfl) rfl dX12_ran_21 rfl fl_RX12_453 ?_
    refine aw_iconst (v := 1) (pc' := 25) dX12_ran_24 rfl ic_1 ?_
    refine aw_iadd (pc' := 26) dX12_ran_25 rfl ?_
    obtain ⟨v2, ev2, hf⟩ := vl_e hf
    refine aw_topi ev2 ?_
    obtain ⟨s3, es3, hf⟩ := st_e hf
    refine aw_pi (q := 59) (pc' := 29) es3 H1 (H1.fo rfl rfl) (by decide) rfl dX12_ran_26 rfl fl_RX12_453 rfl (fun h3 H3 => ?_)
    have m3 := Mo.ofS es3
    obtain rfl := Option.some.inj hf
    exact aw_rv dX12_ran_29 rfl (Nat.le_of_ble_eq_true rfl) (Nat.le_of_ble_eq_true rfl) ⟨H3, (m1.tr m3)⟩
  clear ek1
  refine aw_cge (tgt := 19) (pc' := 9) dX12_ran_6 rfl rfl (fun c4 => ?_) (fun c4 => ?_)
  · replace hf := ifn c4 hf
    refine AW.lv_le (lz_k (lz_d lz_0)) ?_
    exact hk1 _ _ H0 (Mo.rf _) hf
  · replace hf := ifp c4 hf
    refine aw_aload_n (pc' := 10) dX12_ran_9 rfl rfl rfl ?_
    refine aw_gr (q := 59) (e := 121) (v := .ref 127) (pc' := 13) H0 (H0.fo rfl rfl) (l13 rfl) rfl rfl dX12_ran_10 rfl fl_RX12_205 ?_
    refine aw_aload_n (pc' := 14) dX12_ran_13 rfl rfl rfl ?_
    refine aw_gi (q := 59) (pc' := 17) H0 (H0.fo rfl rfl) (l13 rfl) rfl dX12_ran_14 rfl fl_RX12_453 ?_
    refine aw_iload_n (pc' := 18) dX12_ran_17 rfl rfl ?_
    obtain ⟨v5, ev5, hf⟩ := vl_e hf
    refine aw_sndi ev5 ?_
    obtain ⟨g6, hf⟩ := gd_e hf
    obtain ⟨s7, es7, hf⟩ := st_e hf
    refine aw_is (q := 119) (pc' := 19) es7 H0 (H0.fa rfl rfl rfl) g6 dX12_ran_18 rfl (fun h7 H7 => ?_)
    have m7 := Mo.ofI es7
    refine AW.lv_le (lz_k (lz_d lz_0)) ?_
    exact hk1 _ _ H7 m7 hf
/-! ThirtyThreeBelowModel.plainBores -/
noncomputable def f_X12_plainBores (s0 : SS) (a0 : Int32) (a1 : Int32) : Option (Int32 × SS) := (b1 (f_X12_ran s0 1) fun s1 => some ((a1 + a0), s1))
set_option maxRecDepth 4000 in
theorem t_X12_plainBores {r9 : Int32} {s0 s9 : SS} {h0 : List aE} {a0 : Int32} {a1 : Int32} (H0 : HH s0 h0) (hf : f_X12_plainBores s0 a0 a1 = some (r9, s9)) : AM mX12_plainBores (1) [.ref 67, .int a0, .int a1] h0 0 0 (PI fun r' h' => r9 = r' ∧ HH s9 h' ∧ Mo s0 s9) := by
  unfold f_X12_plainBores at hf
  refine am_of (lv := [some (.ref 67), some (.int a0), some (.int a1)]) rfl (Nat.le_of_ble_eq_true rfl) rfl ?_
  refine aw_aload_n (pc' := 1) dX12_plainBores_0 rfl rfl rfl ?_
  refine aw_iconst (v := 1) (pc' := 2) dX12_plainBores_1 rfl ic_1 ?_
  obtain ⟨s1, ec1, hf⟩ := b1_e hf
  refine aw_callVv (M' := mX12_ran) (nc' := 0) (ns' := 0) (pc' := 5) dX12_plainBores_2 rfl ml_RX12_456 kX12_ran (t_X12_ran H0 ec1) (H0.ob (H0.fo rfl rfl) (by decide)) rfl rfl rfl (Nat.le_of_ble_eq_true rfl) (rokD (by omega) (Nat.le_of_ble_eq_true rfl) (Nat.le_of_ble_eq_true rfl) (Nat.le_of_ble_eq_true rfl)) rfl rfl (fun h1 q1 => ?_)
  obtain ⟨H1, m1⟩ := q1
  refine aw_iload_n (pc' := 6) dX12_plainBores_5 rfl rfl ?_
  refine aw_iload_n (pc' := 7) dX12_plainBores_6 rfl rfl ?_
  refine aw_iadd (pc' := 8) dX12_plainBores_7 rfl ?_
  obtain ⟨rfl, rfl⟩ := so2 hf
  exact aw_ri dX12_plainBores_8 rfl rfl (Nat.le_of_ble_eq_true rfl) (Nat.le_of_ble_eq_true rfl) ⟨rfl, H1, m1⟩
/-! ThirtyThreeBelowModel.wayBores -/
noncomputable def f_X12_wayBores (s0 : SS) (a0 : Int32) (a1 : Int32) : Option (Int32 × SS) := (b1 (f_X12_ran s0 20) fun s1 => (bd (f_X12_plainBores s1 a0 a1) fun r2 s2 => some ((r2 * (2 : Int32)), s2)))
set_option maxRecDepth 4000 in
theorem t_X12_wayBores {r9 : Int32} {s0 s9 : SS} {h0 : List aE} {a0 : Int32} {a1 : Int32} (H0 : HH s0 h0) (hf : f_X12_wayBores s0 a0 a1 = some (r9, s9)) : AM mX12_wayBores (2) [.ref 67, .int a0, .int a1] h0 0 0 (PI fun r' h' => r9 = r' ∧ HH s9 h' ∧ Mo s0 s9) := by
  unfold f_X12_wayBores at hf
  refine am_of (lv := [some (.ref 67), some (.int a0), some (.int a1)]) rfl (Nat.le_of_ble_eq_true rfl) rfl ?_
  refine aw_aload_n (pc' := 1) dX12_wayBores_0 rfl rfl rfl ?_
  refine aw_bipush (v := 20) (pc' := 3) dX12_wayBores_1 rfl bp_20 ?_
  obtain ⟨s1, ec1, hf⟩ := b1_e hf
  refine aw_callVv (M' := mX12_ran) (nc' := 0) (ns' := 0) (pc' := 6) dX12_wayBores_3 rfl ml_RX12_456 kX12_ran (t_X12_ran H0 ec1) (H0.ob (H0.fo rfl rfl) (by decide)) rfl rfl rfl (Nat.le_of_ble_eq_true rfl) (rokD (by omega) (Nat.le_of_ble_eq_true rfl) (Nat.le_of_ble_eq_true rfl) (Nat.le_of_ble_eq_true rfl)) rfl rfl (fun h1 q1 => ?_)
  obtain ⟨H1, m1⟩ := q1
  refine aw_aload_n (pc' := 7) dX12_wayBores_6 rfl rfl rfl ?_
  refine aw_iload_n (pc' := 8) dX12_wayBores_7 rfl rfl ?_
  refine aw_iload_n (pc' := 9) dX12_wayBores_8 rfl rfl ?_
  obtain ⟨r2, s2, ec2, hf⟩ := bd_e hf
  refine aw_callVi (M' := mX12_plainBores) (nc' := 0) (ns' := 0) (pc' := 12) dX12_wayBores_9 rfl ml_RX12_460 kX12_plainBores (t_X12_plainBores H1 ec2) (H1.ob (H1.fo rfl rfl) (by decide)) rfl rfl rfl (Nat.le_of_ble_eq_true rfl) (rokD (by omega) (Nat.le_of_ble_eq_true rfl) (Nat.le_of_ble_eq_true rfl) (Nat.le_of_ble_eq_true rfl)) rfl rfl (fun _ h2 q2 => ?_)
  obtain ⟨rfl, H2, m2⟩ := q2
  refine aw_iconst (v := 2) (pc' := 13) dX12_wayBores_12 rfl ic_2 ?_
  refine aw_imul (pc' := 14) dX12_wayBores_13 rfl ?_
  obtain ⟨rfl, rfl⟩ := so2 hf
  exact aw_ri dX12_wayBores_14 rfl rfl (Nat.le_of_ble_eq_true rfl) (Nat.le_of_ble_eq_true rfl) ⟨rfl, H2, (m1.tr m2)⟩
/-! ThirtyThreeBelowModel.shaftBores -/
noncomputable def f_X12_shaftBores (s0 : SS) (a0 : Int32) (a1 : Int32) : Option (Int32 × SS) := (b1 (f_X12_ran s0 50) fun s1 => (bd (f_X12_wayBores s1 a0 (a1 + (1 : Int32))) fun r2 s2 => some (r2, s2)))
set_option maxRecDepth 4000 in
theorem t_X12_shaftBores {r9 : Int32} {s0 s9 : SS} {h0 : List aE} {a0 : Int32} {a1 : Int32} (H0 : HH s0 h0) (hf : f_X12_shaftBores s0 a0 a1 = some (r9, s9)) : AM mX12_shaftBores (3) [.ref 67, .int a0, .int a1] h0 0 0 (PI fun r' h' => r9 = r' ∧ HH s9 h' ∧ Mo s0 s9) := by
  unfold f_X12_shaftBores at hf
  refine am_of (lv := [some (.ref 67), some (.int a0), some (.int a1)]) rfl (Nat.le_of_ble_eq_true rfl) rfl ?_
  refine aw_aload_n (pc' := 1) dX12_shaftBores_0 rfl rfl rfl ?_
  refine aw_bipush (v := 50) (pc' := 3) dX12_shaftBores_1 rfl bp_50 ?_
  obtain ⟨s1, ec1, hf⟩ := b1_e hf
  refine aw_callVv (M' := mX12_ran) (nc' := 0) (ns' := 0) (pc' := 6) dX12_shaftBores_3 rfl ml_RX12_456 kX12_ran (t_X12_ran H0 ec1) (H0.ob (H0.fo rfl rfl) (by decide)) rfl rfl rfl (Nat.le_of_ble_eq_true rfl) (rokD (by omega) (Nat.le_of_ble_eq_true rfl) (Nat.le_of_ble_eq_true rfl) (Nat.le_of_ble_eq_true rfl)) rfl rfl (fun h1 q1 => ?_)
  obtain ⟨H1, m1⟩ := q1
  refine aw_aload_n (pc' := 7) dX12_shaftBores_6 rfl rfl rfl ?_
  refine aw_iload_n (pc' := 8) dX12_shaftBores_7 rfl rfl ?_
  refine aw_iload_n (pc' := 9) dX12_shaftBores_8 rfl rfl ?_
  refine aw_iconst (v := 1) (pc' := 10) dX12_shaftBores_9 rfl ic_1 ?_
  refine aw_iadd (pc' := 11) dX12_shaftBores_10 rfl ?_
  obtain ⟨r2, s2, ec2, hf⟩ := bd_e hf
  refine aw_callVi (M' := mX12_wayBores) (nc' := 0) (ns' := 0) (pc' := 14) dX12_shaftBores_11 rfl ml_RX12_463 kX12_wayBores (t_X12_wayBores H1 ec2) (H1.ob (H1.fo rfl rfl) (by decide)) rfl rfl rfl (Nat.le_of_ble_eq_true rfl) (rokD (by omega) (Nat.le_of_ble_eq_true rfl) (Nat.le_of_ble_eq_true rfl) (Nat.le_of_ble_eq_true rfl)) rfl rfl (fun _ h2 q2 => ?_)
  obtain ⟨rfl, H2, m2⟩ := q2
  obtain ⟨rfl, rfl⟩ := so2 hf
  exact aw_ri dX12_shaftBores_14 rfl rfl (Nat.le_of_ble_eq_true rfl) (Nat.le_of_ble_eq_true rfl) ⟨rfl, H2, (m1.tr m2)⟩
/-! ThirtyThreeBelowModel.bores -/
noncomputable def f_X12_bores (s0 : SS) (a0 : Int32) (a1 : Int32) : Option (Int32 × SS) := (gd (inB a0 120) (if (zI s0 62 (a0.toInt.toNat)) = (5 : Int32) then (b1 (f_X12_ran s0 61) fun s12 => (bd (f_X12_shaftBores s12 a0 a1) fun r13 s13 => some ((r13 ^^^ (7 : Int32)), s13))) else (gd (inB a0 120) (if (zI s0 62 (a0.toInt.toNat)) = (4 : Int32) then (bd (f_X12_shaftBores s0 a0 a1) fun r11 s11 => some (r11, s11)) else (gd (inB a0 120) (b1 (f_X12_isUnder (zI s0 62 (a0.toInt.toNat)) (1 : Int32)) fun r6 => (if r6 = (0 : Int32) then (bd (f_X12_plainBores s0 a0 a1) fun r8 s8 => some (r8, s8)) else (bd (f_X12_wayBores s0 a0 a1) fun r10 s10 => some (r10, s10)))))))))
set_option maxRecDepth 4000 in
theorem t_X12_bores {r9 : Int32} {s0 s9 : SS} {h0 : List aE} {a0 : Int32} {a1 : Int32} (H0 : HH s0 h0) (hf : f_X12_bores s0 a0 a1 = some (r9, s9)) : AM mX12_bores (4) [.ref 67, .int a0, .int a1] h0 0 0 (PI fun r' h' => r9 = r' ∧ HH s9 h' ∧ Mo s0 s9) := by
  unfold f_X12_bores at hf
  refine am_of (lv := [some (.ref 67), some (.int a0), some (.int a1)]) rfl (Nat.le_of_ble_eq_true rfl) rfl ?_
  refine aw_aload_n (pc' := 1) dX12_bores_0 rfl rfl rfl ?_
  refine aw_gr (q := 59) (e := 7) (v := .ref 70) (pc' := 4) H0 (H0.fo rfl rfl) (l13 rfl) rfl rfl dX12_bores_1 rfl fl_RX12_17 ?_
  refine aw_iload_n (pc' := 5) dX12_bores_4 rfl rfl ?_
  obtain ⟨g1, hf⟩ := gd_e hf
  refine aw_ia (q := 62) (pc' := 6) H0 (H0.fa rfl rfl rfl) g1 dX12_bores_5 rfl ?_
  refine aw_iconst (v := 5) (pc' := 7) dX12_bores_6 rfl ic_5 ?_
  refine aw_icmp_ne (tgt := 26) (pc' := 10) dX12_bores_7 rfl rfl (fun c2 => ?_) (fun c2 => ?_)
  · replace hf := ifn c2 hf
    refine aw_aload_n (pc' := 27) dX12_bores_26 rfl rfl rfl ?_
    refine aw_gr (q := 59) (e := 7) (v := .ref 70) (pc' := 30) H0 (H0.fo rfl rfl) (l13 rfl) rfl rfl dX12_bores_27 rfl fl_RX12_17 ?_
    refine aw_iload_n (pc' := 31) dX12_bores_30 rfl rfl ?_
    obtain ⟨g3, hf⟩ := gd_e hf
    refine aw_ia (q := 62) (pc' := 32) H0 (H0.fa rfl rfl rfl) g3 dX12_bores_31 rfl ?_
    refine aw_iconst (v := 4) (pc' := 33) dX12_bores_32 rfl ic_4 ?_
    refine aw_icmp_ne (tgt := 43) (pc' := 36) dX12_bores_33 rfl rfl (fun c4 => ?_) (fun c4 => ?_)
    · replace hf := ifn c4 hf
      refine aw_aload_n (pc' := 44) dX12_bores_43 rfl rfl rfl ?_
      refine aw_gr (q := 59) (e := 7) (v := .ref 70) (pc' := 47) H0 (H0.fo rfl rfl) (l13 rfl) rfl rfl dX12_bores_44 rfl fl_RX12_17 ?_
      refine aw_iload_n (pc' := 48) dX12_bores_47 rfl rfl ?_
      obtain ⟨g5, hf⟩ := gd_e hf
      refine aw_ia (q := 62) (pc' := 49) H0 (H0.fa rfl rfl rfl) g5 dX12_bores_48 rfl ?_
      refine aw_iconst (v := 1) (pc' := 50) dX12_bores_49 rfl ic_1 ?_
      obtain ⟨r6, ec6, hf⟩ := b1_e hf
      refine aw_callSi (M' := mX12_isUnder) (nc' := 0) (ns' := 0) (pc' := 53) dX12_bores_50 rfl ml_RX12_248 kX12_isUnder (t_X12_isUnder ec6) rfl rfl (Nat.le_of_ble_eq_true rfl) (rokD (by omega) (Nat.le_of_ble_eq_true rfl) (Nat.le_of_ble_eq_true rfl) (Nat.le_of_ble_eq_true rfl)) rfl rfl (fun _ h6 q6 => ?_)
      obtain ⟨rfl, rfl, zb6⟩ := q6
      refine aw_if_eq (tgt := 65) (pc' := 56) dX12_bores_53 rfl rfl (fun c7 => ?_) (fun c7 => ?_)
      · replace hf := ifp c7 hf
        refine aw_aload_n (pc' := 66) dX12_bores_65 rfl rfl rfl ?_
        refine aw_iload_n (pc' := 67) dX12_bores_66 rfl rfl ?_
        refine aw_iload_n (pc' := 68) dX12_bores_67 rfl rfl ?_
        obtain ⟨r8, s8, ec8, hf⟩ := bd_e hf
        refine aw_callVi (M' := mX12_plainBores) (nc' := 0) (ns' := 0) (pc' := 71) dX12_bores_68 rfl ml_RX12_460 kX12_plainBores (t_X12_plainBores H0 ec8) (H0.ob (H0.fo rfl rfl) (by decide)) rfl rfl rfl (Nat.le_of_ble_eq_true rfl) (rokD (by omega) (Nat.le_of_ble_eq_true rfl) (Nat.le_of_ble_eq_true rfl) (Nat.le_of_ble_eq_true rfl)) rfl rfl (fun _ h8 q8 => ?_)
        obtain ⟨rfl, H8, m8⟩ := q8
        obtain ⟨rfl, rfl⟩ := so2 hf
        exact aw_ri dX12_bores_71 rfl rfl (Nat.le_of_ble_eq_true rfl) (Nat.le_of_ble_eq_true rfl) ⟨rfl, H8, m8⟩
      · replace hf := ifn c7 hf
        refine aw_aload_n (pc' := 57) dX12_bores_56 rfl rfl rfl ?_
        refine aw_iload_n (pc' := 58) dX12_bores_57 rfl rfl ?_
        refine aw_iload_n (pc' := 59) dX12_bores_58 rfl rfl ?_
        obtain ⟨r10, s10, ec10, hf⟩ := bd_e hf
        refine aw_callVi (M' := mX12_wayBores) (nc' := 0) (ns' := 0) (pc' := 62) dX12_bores_59 rfl ml_RX12_463 kX12_wayBores (t_X12_wayBores H0 ec10) (H0.ob (H0.fo rfl rfl) (by decide)) rfl rfl rfl (Nat.le_of_ble_eq_true rfl) (rokD (by omega) (Nat.le_of_ble_eq_true rfl) (Nat.le_of_ble_eq_true rfl) (Nat.le_of_ble_eq_true rfl)) rfl rfl (fun _ h10 q10 => ?_)
        obtain ⟨rfl, H10, m10⟩ := q10
        refine aw_goto (tgt := 71) dX12_bores_62 rfl ?_
        obtain ⟨rfl, rfl⟩ := so2 hf
        exact aw_ri dX12_bores_71 rfl rfl (Nat.le_of_ble_eq_true rfl) (Nat.le_of_ble_eq_true rfl) ⟨rfl, H10, m10⟩
    · replace hf := ifp c4 hf
      refine aw_aload_n (pc' := 37) dX12_bores_36 rfl rfl rfl ?_
      refine aw_iload_n (pc' := 38) dX12_bores_37 rfl rfl ?_
      refine aw_iload_n (pc' := 39) dX12_bores_38 rfl rfl ?_
      obtain ⟨r11, s11, ec11, hf⟩ := bd_e hf
      refine aw_callVi (M' := mX12_shaftBores) (nc' := 0) (ns' := 0) (pc' := 42) dX12_bores_39 rfl ml_RX12_466 kX12_shaftBores (t_X12_shaftBores H0 ec11) (H0.ob (H0.fo rfl rfl) (by decide)) rfl rfl rfl (Nat.le_of_ble_eq_true rfl) (rokD (by omega) (Nat.le_of_ble_eq_true rfl) (Nat.le_of_ble_eq_true rfl) (Nat.le_of_ble_eq_true rfl)) rfl rfl (fun _ h11 q11 => ?_)
      obtain ⟨rfl, H11, m11⟩ := q11
      obtain ⟨rfl, rfl⟩ := so2 hf
      exact aw_ri dX12_bores_42 rfl rfl (Nat.le_of_ble_eq_true rfl) (Nat.le_of_ble_eq_true rfl) ⟨rfl, H11, m11⟩
  · replace hf := ifp c2 hf
    refine aw_aload_n (pc' := 11) dX12_bores_10 rfl rfl rfl ?_
    refine aw_bipush (v := 61) (pc' := 13) dX12_bores_11 rfl bp_61 ?_
    obtain ⟨s12, ec12, hf⟩ := b1_e hf
    refine aw_callVv (M' := mX12_ran) (nc' := 0) (ns' := 0) (pc' := 16) dX12_bores_13 rfl ml_RX12_456 kX12_ran (t_X12_ran H0 ec12) (H0.ob (H0.fo rfl rfl) (by decide)) rfl rfl rfl (Nat.le_of_ble_eq_true rfl) (rokD (by omega) (Nat.le_of_ble_eq_true rfl) (Nat.le_of_ble_eq_true rfl) (Nat.le_of_ble_eq_true rfl)) rfl rfl (fun h12 q12 => ?_)
    obtain ⟨H12, m12⟩ := q12
    refine aw_aload_n (pc' := 17) dX12_bores_16 rfl rfl rfl ?_
    refine aw_iload_n (pc' := 18) dX12_bores_17 rfl rfl ?_
    refine aw_iload_n (pc' := 19) dX12_bores_18 rfl rfl ?_
    obtain ⟨r13, s13, ec13, hf⟩ := bd_e hf
    refine aw_callVi (M' := mX12_shaftBores) (nc' := 0) (ns' := 0) (pc' := 22) dX12_bores_19 rfl ml_RX12_466 kX12_shaftBores (t_X12_shaftBores H12 ec13) (H12.ob (H12.fo rfl rfl) (by decide)) rfl rfl rfl (Nat.le_of_ble_eq_true rfl) (rokD (by omega) (Nat.le_of_ble_eq_true rfl) (Nat.le_of_ble_eq_true rfl) (Nat.le_of_ble_eq_true rfl)) rfl rfl (fun _ h13 q13 => ?_)
    obtain ⟨rfl, H13, m13⟩ := q13
    refine aw_bipush (v := 7) (pc' := 24) dX12_bores_22 rfl bp_7 ?_
    refine aw_ixor (pc' := 25) dX12_bores_24 rfl ?_
    obtain ⟨rfl, rfl⟩ := so2 hf
    exact aw_ri dX12_bores_25 rfl rfl (Nat.le_of_ble_eq_true rfl) (Nat.le_of_ble_eq_true rfl) ⟨rfl, H13, (m12.tr m13)⟩
/-! ThirtyThreeBelowModel.plainCarries -/
noncomputable def f_X12_plainCarries (s0 : SS) (a0 : Int32) (a1 : Int32) : Option (Int32 × SS) := (b1 (f_X12_ran s0 10) fun s1 => (bd (f_X12_bores s1 a0 a1) fun r2 s2 => some ((r2 - (1 : Int32)), s2)))
set_option maxRecDepth 4000 in
theorem t_X12_plainCarries {r9 : Int32} {s0 s9 : SS} {h0 : List aE} {a0 : Int32} {a1 : Int32} (H0 : HH s0 h0) (hf : f_X12_plainCarries s0 a0 a1 = some (r9, s9)) : AM mX12_plainCarries (5) [.ref 67, .int a0, .int a1] h0 0 0 (PI fun r' h' => r9 = r' ∧ HH s9 h' ∧ Mo s0 s9) := by
  unfold f_X12_plainCarries at hf
  refine am_of (lv := [some (.ref 67), some (.int a0), some (.int a1)]) rfl (Nat.le_of_ble_eq_true rfl) rfl ?_
  refine aw_aload_n (pc' := 1) dX12_plainCarries_0 rfl rfl rfl ?_
  refine aw_bipush (v := 10) (pc' := 3) dX12_plainCarries_1 rfl bp_10 ?_
  obtain ⟨s1, ec1, hf⟩ := b1_e hf
  refine aw_callVv (M' := mX12_ran) (nc' := 0) (ns' := 0) (pc' := 6) dX12_plainCarries_3 rfl ml_RX12_456 kX12_ran (t_X12_ran H0 ec1) (H0.ob (H0.fo rfl rfl) (by decide)) rfl rfl rfl (Nat.le_of_ble_eq_true rfl) (rokD (by omega) (Nat.le_of_ble_eq_true rfl) (Nat.le_of_ble_eq_true rfl) (Nat.le_of_ble_eq_true rfl)) rfl rfl (fun h1 q1 => ?_)
  obtain ⟨H1, m1⟩ := q1
  refine aw_aload_n (pc' := 7) dX12_plainCarries_6 rfl rfl rfl ?_
  refine aw_iload_n (pc' := 8) dX12_plainCarries_7 rfl rfl ?_
  refine aw_iload_n (pc' := 9) dX12_plainCarries_8 rfl rfl ?_
  obtain ⟨r2, s2, ec2, hf⟩ := bd_e hf
  refine aw_callVi (M' := mX12_bores) (nc' := 0) (ns' := 0) (pc' := 12) dX12_plainCarries_9 rfl ml_RX12_469 kX12_bores (t_X12_bores H1 ec2) (H1.ob (H1.fo rfl rfl) (by decide)) rfl rfl rfl (Nat.le_of_ble_eq_true rfl) (rokD (by omega) (Nat.le_of_ble_eq_true rfl) (Nat.le_of_ble_eq_true rfl) (Nat.le_of_ble_eq_true rfl)) rfl rfl (fun _ h2 q2 => ?_)
  obtain ⟨rfl, H2, m2⟩ := q2
  refine aw_iconst (v := 1) (pc' := 13) dX12_plainCarries_12 rfl ic_1 ?_
  refine aw_isub (pc' := 14) dX12_plainCarries_13 rfl ?_
  obtain ⟨rfl, rfl⟩ := so2 hf
  exact aw_ri dX12_plainCarries_14 rfl rfl (Nat.le_of_ble_eq_true rfl) (Nat.le_of_ble_eq_true rfl) ⟨rfl, H2, (m1.tr m2)⟩
/-! ThirtyThreeBelowModel.carries -/
noncomputable def f_X12_carries (s0 : SS) (a0 : Int32) (a1 : Int32) : Option (Int32 × SS) := (gd (inB a0 120) (b1 (f_X12_isUnder (zI s0 62 (a0.toInt.toNat)) (2 : Int32)) fun r2 => (if r2 = (0 : Int32) then (gd (inB a0 120) (if (zI s0 62 (a0.toInt.toNat)) = (7 : Int32) then (b1 (f_X12_ran s0 80) fun s7 => (bd (f_X12_plainCarries s7 a0 a1) fun r8 s8 => (gd (inB a0 120) (some ((r8 - (zI s8 74 (a0.toInt.toNat))), s8))))) else (bd (f_X12_plainCarries s0 a0 a1) fun r6 s6 => some (r6, s6)))) else (b1 (f_X12_ran s0 30) fun s11 => (bd (f_X12_plainCarries s11 a0 a1) fun r12 s12 => (gd (inB a0 120) (some ((r12 + (zI s12 64 (a0.toInt.toNat))), s12))))))))
set_option maxRecDepth 4000 in
theorem t_X12_carries {r9 : Int32} {s0 s9 : SS} {h0 : List aE} {a0 : Int32} {a1 : Int32} (H0 : HH s0 h0) (hf : f_X12_carries s0 a0 a1 = some (r9, s9)) : AM mX12_carries (6) [.ref 67, .int a0, .int a1] h0 0 0 (PI fun r' h' => r9 = r' ∧ HH s9 h' ∧ Mo s0 s9) := by
  unfold f_X12_carries at hf
  refine am_of (lv := [some (.ref 67), some (.int a0), some (.int a1)]) rfl (Nat.le_of_ble_eq_true rfl) rfl ?_
  refine aw_aload_n (pc' := 1) dX12_carries_0 rfl rfl rfl ?_
  refine aw_gr (q := 59) (e := 7) (v := .ref 70) (pc' := 4) H0 (H0.fo rfl rfl) (l13 rfl) rfl rfl dX12_carries_1 rfl fl_RX12_17 ?_
  refine aw_iload_n (pc' := 5) dX12_carries_4 rfl rfl ?_
  obtain ⟨g1, hf⟩ := gd_e hf
  refine aw_ia (q := 62) (pc' := 6) H0 (H0.fa rfl rfl rfl) g1 dX12_carries_5 rfl ?_
  refine aw_iconst (v := 2) (pc' := 7) dX12_carries_6 rfl ic_2 ?_
  obtain ⟨r2, ec2, hf⟩ := b1_e hf
  refine aw_callSi (M' := mX12_isUnder) (nc' := 0) (ns' := 0) (pc' := 10) dX12_carries_7 rfl ml_RX12_248 kX12_isUnder (t_X12_isUnder ec2) rfl rfl (Nat.le_of_ble_eq_true rfl) (rokD (by omega) (Nat.le_of_ble_eq_true rfl) (Nat.le_of_ble_eq_true rfl) (Nat.le_of_ble_eq_true rfl)) rfl rfl (fun _ h2 q2 => ?_)
  obtain ⟨rfl, rfl, zb2⟩ := q2
  refine aw_if_eq (tgt := 33) (pc' := 13) dX12_carries_10 rfl rfl (fun c3 => ?_) (fun c3 => ?_)
  · replace hf := ifp c3 hf
    refine aw_aload_n (pc' := 34) dX12_carries_33 rfl rfl rfl ?_
    refine aw_gr (q := 59) (e := 7) (v := .ref 70) (pc' := 37) H0 (H0.fo rfl rfl) (l13 rfl) rfl rfl dX12_carries_34 rfl fl_RX12_17 ?_
    refine aw_iload_n (pc' := 38) dX12_carries_37 rfl rfl ?_
    obtain ⟨g4, hf⟩ := gd_e hf
    refine aw_ia (q := 62) (pc' := 39) H0 (H0.fa rfl rfl rfl) g4 dX12_carries_38 rfl ?_
    refine aw_bipush (v := 7) (pc' := 41) dX12_carries_39 rfl bp_7 ?_
    refine aw_icmp_ne (tgt := 64) (pc' := 44) dX12_carries_41 rfl rfl (fun c5 => ?_) (fun c5 => ?_)
    · replace hf := ifn c5 hf
      refine aw_aload_n (pc' := 65) dX12_carries_64 rfl rfl rfl ?_
      refine aw_iload_n (pc' := 66) dX12_carries_65 rfl rfl ?_
      refine aw_iload_n (pc' := 67) dX12_carries_66 rfl rfl ?_
      obtain ⟨r6, s6, ec6, hf⟩ := bd_e hf
      refine aw_callVi (M' := mX12_plainCarries) (nc' := 0) (ns' := 0) (pc' := 70) dX12_carries_67 rfl ml_RX12_472 kX12_plainCarries (t_X12_plainCarries H0 ec6) (H0.ob (H0.fo rfl rfl) (by decide)) rfl rfl rfl (Nat.le_of_ble_eq_true rfl) (rokD (by omega) (Nat.le_of_ble_eq_true rfl) (Nat.le_of_ble_eq_true rfl) (Nat.le_of_ble_eq_true rfl)) rfl rfl (fun _ h6 q6 => ?_)
      obtain ⟨rfl, H6, m6⟩ := q6
      obtain ⟨rfl, rfl⟩ := so2 hf
      exact aw_ri dX12_carries_70 rfl rfl (Nat.le_of_ble_eq_true rfl) (Nat.le_of_ble_eq_true rfl) ⟨rfl, H6, m6⟩
    · replace hf := ifp c5 hf
      refine aw_aload_n (pc' := 45) dX12_carries_44 rfl rfl rfl ?_
      refine aw_bipush (v := 80) (pc' := 47) dX12_carries_45 rfl bp_80 ?_
      obtain ⟨s7, ec7, hf⟩ := b1_e hf
      refine aw_callVv (M' := mX12_ran) (nc' := 0) (ns' := 0) (pc' := 50) dX12_carries_47 rfl ml_RX12_456 kX12_ran (t_X12_ran H0 ec7) (H0.ob (H0.fo rfl rfl) (by decide)) rfl rfl rfl (Nat.le_of_ble_eq_true rfl) (rokD (by omega) (Nat.le_of_ble_eq_true rfl) (Nat.le_of_ble_eq_true rfl) (Nat.le_of_ble_eq_true rfl)) rfl rfl (fun h7 q7 => ?_)
      obtain ⟨H7, m7⟩ := q7
      refine aw_aload_n (pc' := 51) dX12_carries_50 rfl rfl rfl ?_
      refine aw_iload_n (pc' := 52) dX12_carries_51 rfl rfl ?_
      refine aw_iload_n (pc' := 53) dX12_carries_52 rfl rfl ?_
      obtain ⟨r8, s8, ec8, hf⟩ := bd_e hf
      refine aw_callVi (M' := mX12_plainCarries) (nc' := 0) (ns' := 0) (pc' := 56) dX12_carries_53 rfl ml_RX12_472 kX12_plainCarries (t_X12_plainCarries H7 ec8) (H7.ob (H7.fo rfl rfl) (by decide)) rfl rfl rfl (Nat.le_of_ble_eq_true rfl) (rokD (by omega) (Nat.le_of_ble_eq_true rfl) (Nat.le_of_ble_eq_true rfl) (Nat.le_of_ble_eq_true rfl)) rfl rfl (fun _ h8 q8 => ?_)
      obtain ⟨rfl, H8, m8⟩ := q8
      refine aw_aload_n (pc' := 57) dX12_carries_56 rfl rfl rfl ?_
      refine aw_gr (q := 59) (e := 31) (v := .ref 82) (pc' := 60) H8 (H8.fo rfl rfl) (l13 rfl) rfl rfl dX12_carries_57 rfl fl_RX12_53 ?_
      refine aw_iload_n (pc' := 61) dX12_carries_60 rfl rfl ?_
      obtain ⟨g10, hf⟩ := gd_e hf
      refine aw_ia (q := 74) (pc' := 62) H8 (H8.fa rfl rfl rfl) g10 dX12_carries_61 rfl ?_
      refine aw_isub (pc' := 63) dX12_carries_62 rfl ?_
      obtain ⟨rfl, rfl⟩ := so2 hf
      exact aw_ri dX12_carries_63 rfl rfl (Nat.le_of_ble_eq_true rfl) (Nat.le_of_ble_eq_true rfl) ⟨rfl, H8, (m7.tr m8)⟩
  · replace hf := ifn c3 hf
    refine aw_aload_n (pc' := 14) dX12_carries_13 rfl rfl rfl ?_
    refine aw_bipush (v := 30) (pc' := 16) dX12_carries_14 rfl bp_30 ?_
    obtain ⟨s11, ec11, hf⟩ := b1_e hf
    refine aw_callVv (M' := mX12_ran) (nc' := 0) (ns' := 0) (pc' := 19) dX12_carries_16 rfl ml_RX12_456 kX12_ran (t_X12_ran H0 ec11) (H0.ob (H0.fo rfl rfl) (by decide)) rfl rfl rfl (Nat.le_of_ble_eq_true rfl) (rokD (by omega) (Nat.le_of_ble_eq_true rfl) (Nat.le_of_ble_eq_true rfl) (Nat.le_of_ble_eq_true rfl)) rfl rfl (fun h11 q11 => ?_)
    obtain ⟨H11, m11⟩ := q11
    refine aw_aload_n (pc' := 20) dX12_carries_19 rfl rfl rfl ?_
    refine aw_iload_n (pc' := 21) dX12_carries_20 rfl rfl ?_
    refine aw_iload_n (pc' := 22) dX12_carries_21 rfl rfl ?_
    obtain ⟨r12, s12, ec12, hf⟩ := bd_e hf
    refine aw_callVi (M' := mX12_plainCarries) (nc' := 0) (ns' := 0) (pc' := 25) dX12_carries_22 rfl ml_RX12_472 kX12_plainCarries (t_X12_plainCarries H11 ec12) (H11.ob (H11.fo rfl rfl) (by decide)) rfl rfl rfl (Nat.le_of_ble_eq_true rfl) (rokD (by omega) (Nat.le_of_ble_eq_true rfl) (Nat.le_of_ble_eq_true rfl) (Nat.le_of_ble_eq_true rfl)) rfl rfl (fun _ h12 q12 => ?_)
    obtain ⟨rfl, H12, m12⟩ := q12
    refine aw_aload_n (pc' := 26) dX12_carries_25 rfl rfl rfl ?_
    refine aw_gr (q := 59) (e := 11) (v := .ref 72) (pc' := 29) H12 (H12.fo rfl rfl) (l13 rfl) rfl rfl dX12_carries_26 rfl fl_RX12_23 ?_
    refine aw_iload_n (pc' := 30) dX12_carries_29 rfl rfl ?_
    obtain ⟨g13, hf⟩ := gd_e hf
    refine aw_ia (q := 64) (pc' := 31) H12 (H12.fa rfl rfl rfl) g13 dX12_carries_30 rfl ?_
    refine aw_iadd (pc' := 32) dX12_carries_31 rfl ?_
    obtain ⟨rfl, rfl⟩ := so2 hf
    exact aw_ri dX12_carries_32 rfl rfl (Nat.le_of_ble_eq_true rfl) (Nat.le_of_ble_eq_true rfl) ⟨rfl, H12, (m11.tr m12)⟩
/-! ThirtyThreeBelowModel.plainHolds -/
noncomputable def f_X12_plainHolds (s0 : SS) (a0 : Int32) (a1 : Int32) : Option (Int32 × SS) := (b1 (f_X12_ran s0 11) fun s1 => some ((a1 ^^^ a0), s1))
set_option maxRecDepth 4000 in
theorem t_X12_plainHolds {r9 : Int32} {s0 s9 : SS} {h0 : List aE} {a0 : Int32} {a1 : Int32} (H0 : HH s0 h0) (hf : f_X12_plainHolds s0 a0 a1 = some (r9, s9)) : AM mX12_plainHolds (1) [.ref 67, .int a0, .int a1] h0 0 0 (PI fun r' h' => r9 = r' ∧ HH s9 h' ∧ Mo s0 s9) := by
  unfold f_X12_plainHolds at hf
  refine am_of (lv := [some (.ref 67), some (.int a0), some (.int a1)]) rfl (Nat.le_of_ble_eq_true rfl) rfl ?_
  refine aw_aload_n (pc' := 1) dX12_plainHolds_0 rfl rfl rfl ?_
  refine aw_bipush (v := 11) (pc' := 3) dX12_plainHolds_1 rfl bp_11 ?_
  obtain ⟨s1, ec1, hf⟩ := b1_e hf
  refine aw_callVv (M' := mX12_ran) (nc' := 0) (ns' := 0) (pc' := 6) dX12_plainHolds_3 rfl ml_RX12_456 kX12_ran (t_X12_ran H0 ec1) (H0.ob (H0.fo rfl rfl) (by decide)) rfl rfl rfl (Nat.le_of_ble_eq_true rfl) (rokD (by omega) (Nat.le_of_ble_eq_true rfl) (Nat.le_of_ble_eq_true rfl) (Nat.le_of_ble_eq_true rfl)) rfl rfl (fun h1 q1 => ?_)
  obtain ⟨H1, m1⟩ := q1
  refine aw_iload_n (pc' := 7) dX12_plainHolds_6 rfl rfl ?_
  refine aw_iload_n (pc' := 8) dX12_plainHolds_7 rfl rfl ?_
  refine aw_ixor (pc' := 9) dX12_plainHolds_8 rfl ?_
  obtain ⟨rfl, rfl⟩ := so2 hf
  exact aw_ri dX12_plainHolds_9 rfl rfl (Nat.le_of_ble_eq_true rfl) (Nat.le_of_ble_eq_true rfl) ⟨rfl, H1, m1⟩
/-! ThirtyThreeBelowModel.holdsBy -/
noncomputable def f_X12_holdsBy (s0 : SS) (a0 : Int32) (a1 : Int32) : Option (Int32 × SS) := (gd (inB a0 120) (jn ((bd (f_X12_plainHolds s0 a0 a1) fun r3 s3 => some (r3, s3))) fun k2 => (if (zI s0 62 (a0.toInt.toNat)) = 3 then (b1 (f_X12_ran s0 40) fun s5 => (bd (f_X12_plainHolds s5 a0 a1) fun r6 s6 => (bd (f_X12_carries s6 a0 1) fun r7 s7 => some ((r6 - r7), s7)))) else (if (zI s0 62 (a0.toInt.toNat)) = 4 then k2 else (if (zI s0 62 (a0.toInt.toNat)) = 5 then (b1 (f_X12_ran s0 60) fun s11 => (bd (f_X12_plainHolds s11 a0 a1) fun r12 s12 => some ((-r12), s12))) else (if (zI s0 62 (a0.toInt.toNat)) = 6 then (b1 (f_X12_ran s0 70) fun s14 => (bd (f_X12_plainHolds s14 a0 a1) fun r15 s15 => (bd (f_X12_plainCarries s15 a0 a1) fun r16 s16 => some ((r15 + r16), s16)))) else k2))))))
set_option maxRecDepth 4000 in
theorem t_X12_holdsBy {r9 : Int32} {s0 s9 : SS} {h0 : List aE} {a0 : Int32} {a1 : Int32} (H0 : HH s0 h0) (hf : f_X12_holdsBy s0 a0 a1 = some (r9, s9)) : AM mX12_holdsBy (7) [.ref 67, .int a0, .int a1] h0 0 0 (PI fun r' h' => r9 = r' ∧ HH s9 h' ∧ Mo s0 s9) := by
  unfold f_X12_holdsBy at hf
  refine am_of (lv := [some (.ref 67), some (.int a0), some (.int a1), none]) rfl (Nat.le_of_ble_eq_true rfl) rfl ?_
  refine aw_aload_n (pc' := 1) dX12_holdsBy_0 rfl rfl rfl ?_
  refine aw_gr (q := 59) (e := 7) (v := .ref 70) (pc' := 4) H0 (H0.fo rfl rfl) (l13 rfl) rfl rfl dX12_holdsBy_1 rfl fl_RX12_17 ?_
  refine aw_iload_n (pc' := 5) dX12_holdsBy_4 rfl rfl ?_
  obtain ⟨g1, hf⟩ := gd_e hf
  refine aw_ia (q := 62) (pc' := 6) H0 (H0.fa rfl rfl rfl) g1 dX12_holdsBy_5 rfl ?_
  obtain ⟨k2, ek2, hf⟩ := jn_e hf
  have hk2 : k2 = some (r9, s9) → AW mX12_holdsBy (rmD (7) 0 0) (fin (PI fun r' h' => r9 = r' ∧ HH s9 h' ∧ Mo s0 s9) 0 0) 94 [some (.ref 67), some (.int a0), some (.int a1), none] [] h0 0 0 := by
    intro hf
    subst ek2
    refine aw_aload_n (pc' := 95) dX12_holdsBy_94 rfl rfl rfl ?_
    refine aw_iload_n (pc' := 96) dX12_holdsBy_95 rfl rfl ?_
    refine aw_iload_n (pc' := 97) dX12_holdsBy_96 rfl rfl ?_
    obtain ⟨r3, s3, ec3, hf⟩ := bd_e hf
    refine aw_callVi (M' := mX12_plainHolds) (nc' := 0) (ns' := 0) (pc' := 100) dX12_holdsBy_97 rfl ml_RX12_475 kX12_plainHolds (t_X12_plainHolds H0 ec3) (H0.ob (H0.fo rfl rfl) (by decide)) rfl rfl rfl (Nat.le_of_ble_eq_true rfl) (rokD (by omega) (Nat.le_of_ble_eq_true rfl) (Nat.le_of_ble_eq_true rfl) (Nat.le_of_ble_eq_true rfl)) rfl rfl (fun _ h3 q3 => ?_)
    obtain ⟨rfl, H3, m3⟩ := q3
    obtain ⟨rfl, rfl⟩ := so2 hf
    exact aw_ri dX12_holdsBy_100 rfl rfl (Nat.le_of_ble_eq_true rfl) (Nat.le_of_ble_eq_true rfl) ⟨rfl, H3, m3⟩
  clear ek2
  rcases Decidable.em ((zI s0 62 (a0.toInt.toNat)) = 3) with c4 | c4
  · replace hf := ifp c4 hf
    refine aw_tabIn (tgt := 36) (off := 30) dX12_holdsBy_6 (by rw [c4]; decide) (by rw [c4]; decide) (by rw [c4]; decide) (by decide) ?_
    refine aw_aload_n (pc' := 37) dX12_holdsBy_36 rfl rfl rfl ?_
    refine aw_bipush (v := 40) (pc' := 39) dX12_holdsBy_37 rfl bp_40 ?_
    obtain ⟨s5, ec5, hf⟩ := b1_e hf
    refine aw_callVv (M' := mX12_ran) (nc' := 0) (ns' := 0) (pc' := 42) dX12_holdsBy_39 rfl ml_RX12_456 kX12_ran (t_X12_ran H0 ec5) (H0.ob (H0.fo rfl rfl) (by decide)) rfl rfl rfl (Nat.le_of_ble_eq_true rfl) (rokD (by omega) (Nat.le_of_ble_eq_true rfl) (Nat.le_of_ble_eq_true rfl) (Nat.le_of_ble_eq_true rfl)) rfl rfl (fun h5 q5 => ?_)
    obtain ⟨H5, m5⟩ := q5
    refine aw_aload_n (pc' := 43) dX12_holdsBy_42 rfl rfl rfl ?_
    refine aw_iload_n (pc' := 44) dX12_holdsBy_43 rfl rfl ?_
    refine aw_iload_n (pc' := 45) dX12_holdsBy_44 rfl rfl ?_
    obtain ⟨r6, s6, ec6, hf⟩ := bd_e hf
    refine aw_callVi (M' := mX12_plainHolds) (nc' := 0) (ns' := 0) (pc' := 48) dX12_holdsBy_45 rfl ml_RX12_475 kX12_plainHolds (t_X12_plainHolds H5 ec6) (H5.ob (H5.fo rfl rfl) (by decide)) rfl rfl rfl (Nat.le_of_ble_eq_true rfl) (rokD (by omega) (Nat.le_of_ble_eq_true rfl) (Nat.le_of_ble_eq_true rfl) (Nat.le_of_ble_eq_true rfl)) rfl rfl (fun _ h6 q6 => ?_)
    obtain ⟨rfl, H6, m6⟩ := q6
    refine aw_istore_n (lv' := [_, _, _, _]) (pc' := 49) dX12_holdsBy_48 rfl (Nat.le_of_ble_eq_true rfl) rfl ?_
    refine aw_iload_n (pc' := 50) dX12_holdsBy_49 rfl rfl ?_
    refine aw_aload_n (pc' := 51) dX12_holdsBy_50 rfl rfl rfl ?_
    refine aw_iload_n (pc' := 52) dX12_holdsBy_51 rfl rfl ?_
    refine aw_iconst (v := 1) (pc' := 53) dX12_holdsBy_52 rfl ic_1 ?_
    obtain ⟨r7, s7, ec7, hf⟩ := bd_e hf
    refine aw_callVi (M' := mX12_carries) (nc' := 0) (ns' := 0) (pc' := 56) dX12_holdsBy_53 rfl ml_RX12_478 kX12_carries (t_X12_carries H6 ec7) (H6.ob (H6.fo rfl rfl) (by decide)) rfl rfl rfl (Nat.le_of_ble_eq_true rfl) (rokD (by omega) (Nat.le_of_ble_eq_true rfl) (Nat.le_of_ble_eq_true rfl) (Nat.le_of_ble_eq_true rfl)) rfl rfl (fun _ h7 q7 => ?_)
    obtain ⟨rfl, H7, m7⟩ := q7
    refine aw_isub (pc' := 57) dX12_holdsBy_56 rfl ?_
    obtain ⟨rfl, rfl⟩ := so2 hf
    exact aw_ri dX12_holdsBy_57 rfl rfl (Nat.le_of_ble_eq_true rfl) (Nat.le_of_ble_eq_true rfl) ⟨rfl, H7, ((m5.tr m6).tr m7)⟩
  replace hf := ifn c4 hf
  rcases Decidable.em ((zI s0 62 (a0.toInt.toNat)) = 4) with c8 | c8
  · replace hf := ifp c8 hf
    refine aw_tabIn (tgt := 94) (off := 88) dX12_holdsBy_6 (by rw [c8]; decide) (by rw [c8]; decide) (by rw [c8]; decide) (by decide) ?_
    exact hk2  hf
  replace hf := ifn c8 hf
  rcases Decidable.em ((zI s0 62 (a0.toInt.toNat)) = 5) with c10 | c10
  · replace hf := ifp c10 hf
    refine aw_tabIn (tgt := 58) (off := 52) dX12_holdsBy_6 (by rw [c10]; decide) (by rw [c10]; decide) (by rw [c10]; decide) (by decide) ?_
    refine aw_aload_n (pc' := 59) dX12_holdsBy_58 rfl rfl rfl ?_
    refine aw_bipush (v := 60) (pc' := 61) dX12_holdsBy_59 rfl bp_60 ?_
    obtain ⟨s11, ec11, hf⟩ := b1_e hf
    refine aw_callVv (M' := mX12_ran) (nc' := 0) (ns' := 0) (pc' := 64) dX12_holdsBy_61 rfl ml_RX12_456 kX12_ran (t_X12_ran H0 ec11) (H0.ob (H0.fo rfl rfl) (by decide)) rfl rfl rfl (Nat.le_of_ble_eq_true rfl) (rokD (by omega) (Nat.le_of_ble_eq_true rfl) (Nat.le_of_ble_eq_true rfl) (Nat.le_of_ble_eq_true rfl)) rfl rfl (fun h11 q11 => ?_)
    obtain ⟨H11, m11⟩ := q11
    refine aw_aload_n (pc' := 65) dX12_holdsBy_64 rfl rfl rfl ?_
    refine aw_iload_n (pc' := 66) dX12_holdsBy_65 rfl rfl ?_
    refine aw_iload_n (pc' := 67) dX12_holdsBy_66 rfl rfl ?_
    obtain ⟨r12, s12, ec12, hf⟩ := bd_e hf
    refine aw_callVi (M' := mX12_plainHolds) (nc' := 0) (ns' := 0) (pc' := 70) dX12_holdsBy_67 rfl ml_RX12_475 kX12_plainHolds (t_X12_plainHolds H11 ec12) (H11.ob (H11.fo rfl rfl) (by decide)) rfl rfl rfl (Nat.le_of_ble_eq_true rfl) (rokD (by omega) (Nat.le_of_ble_eq_true rfl) (Nat.le_of_ble_eq_true rfl) (Nat.le_of_ble_eq_true rfl)) rfl rfl (fun _ h12 q12 => ?_)
    obtain ⟨rfl, H12, m12⟩ := q12
    refine aw_ineg (pc' := 71) dX12_holdsBy_70 rfl ?_
    obtain ⟨rfl, rfl⟩ := so2 hf
    exact aw_ri dX12_holdsBy_71 rfl rfl (Nat.le_of_ble_eq_true rfl) (Nat.le_of_ble_eq_true rfl) ⟨rfl, H12, (m11.tr m12)⟩
  replace hf := ifn c10 hf
  rcases Decidable.em ((zI s0 62 (a0.toInt.toNat)) = 6) with c13 | c13
  · replace hf := ifp c13 hf
    refine aw_tabIn (tgt := 72) (off := 66) dX12_holdsBy_6 (by rw [c13]; decide) (by rw [c13]; decide) (by rw [c13]; decide) (by decide) ?_
    refine aw_aload_n (pc' := 73) dX12_holdsBy_72 rfl rfl rfl ?_
    refine aw_bipush (v := 70) (pc' := 75) dX12_holdsBy_73 rfl bp_70 ?_
    obtain ⟨s14, ec14, hf⟩ := b1_e hf
    refine aw_callVv (M' := mX12_ran) (nc' := 0) (ns' := 0) (pc' := 78) dX12_holdsBy_75 rfl ml_RX12_456 kX12_ran (t_X12_ran H0 ec14) (H0.ob (H0.fo rfl rfl) (by decide)) rfl rfl rfl (Nat.le_of_ble_eq_true rfl) (rokD (by omega) (Nat.le_of_ble_eq_true rfl) (Nat.le_of_ble_eq_true rfl) (Nat.le_of_ble_eq_true rfl)) rfl rfl (fun h14 q14 => ?_)
    obtain ⟨H14, m14⟩ := q14
    refine aw_aload_n (pc' := 79) dX12_holdsBy_78 rfl rfl rfl ?_
    refine aw_iload_n (pc' := 80) dX12_holdsBy_79 rfl rfl ?_
    refine aw_iload_n (pc' := 81) dX12_holdsBy_80 rfl rfl ?_
    obtain ⟨r15, s15, ec15, hf⟩ := bd_e hf
    refine aw_callVi (M' := mX12_plainHolds) (nc' := 0) (ns' := 0) (pc' := 84) dX12_holdsBy_81 rfl ml_RX12_475 kX12_plainHolds (t_X12_plainHolds H14 ec15) (H14.ob (H14.fo rfl rfl) (by decide)) rfl rfl rfl (Nat.le_of_ble_eq_true rfl) (rokD (by omega) (Nat.le_of_ble_eq_true rfl) (Nat.le_of_ble_eq_true rfl) (Nat.le_of_ble_eq_true rfl)) rfl rfl (fun _ h15 q15 => ?_)
    obtain ⟨rfl, H15, m15⟩ := q15
    refine aw_istore_n (lv' := [_, _, _, _]) (pc' := 85) dX12_holdsBy_84 rfl (Nat.le_of_ble_eq_true rfl) rfl ?_
    refine aw_iload_n (pc' := 86) dX12_holdsBy_85 rfl rfl ?_
    refine aw_aload_n (pc' := 87) dX12_holdsBy_86 rfl rfl rfl ?_
    refine aw_iload_n (pc' := 88) dX12_holdsBy_87 rfl rfl ?_
    refine aw_iload_n (pc' := 89) dX12_holdsBy_88 rfl rfl ?_
    obtain ⟨r16, s16, ec16, hf⟩ := bd_e hf
    refine aw_callVi (M' := mX12_plainCarries) (nc' := 0) (ns' := 0) (pc' := 92) dX12_holdsBy_89 rfl ml_RX12_472 kX12_plainCarries (t_X12_plainCarries H15 ec16) (H15.ob (H15.fo rfl rfl) (by decide)) rfl rfl rfl (Nat.le_of_ble_eq_true rfl) (rokD (by omega) (Nat.le_of_ble_eq_true rfl) (Nat.le_of_ble_eq_true rfl) (Nat.le_of_ble_eq_true rfl)) rfl rfl (fun _ h16 q16 => ?_)
    obtain ⟨rfl, H16, m16⟩ := q16
    refine aw_iadd (pc' := 93) dX12_holdsBy_92 rfl ?_
    obtain ⟨rfl, rfl⟩ := so2 hf
    exact aw_ri dX12_holdsBy_93 rfl rfl (Nat.le_of_ble_eq_true rfl) (Nat.le_of_ble_eq_true rfl) ⟨rfl, H16, ((m14.tr m15).tr m16)⟩
  replace hf := ifn c13 hf
  refine aw_tabOut (tgt := 94) dX12_holdsBy_6 (by have a0 := tneK (K := 3) (by decide) c4; have a1 := tneK (K := 4) (by decide) c8; have a2 := tneK (K := 5) (by decide) c10; have a3 := tneK (K := 6) (by decide) c13; omega) (by decide) ?_
  exact hk2  hf
/-! ThirtyThreeBelowModel.plainTells -/
noncomputable def f_X12_plainTells (s0 : SS) (a0 : Int32) (a1 : Int32) : Option (Int32 × SS) := (b1 (f_X12_ran s0 2) fun s1 => (bd (f_X12_carries s1 a0 a1) fun r2 s2 => (bd (f_X12_holdsBy s2 a0 1) fun r3 s3 => some ((r2 + r3), s3))))
set_option maxRecDepth 4000 in
theorem t_X12_plainTells {r9 : Int32} {s0 s9 : SS} {h0 : List aE} {a0 : Int32} {a1 : Int32} (H0 : HH s0 h0) (hf : f_X12_plainTells s0 a0 a1 = some (r9, s9)) : AM mX12_plainTells (8) [.ref 67, .int a0, .int a1] h0 0 0 (PI fun r' h' => r9 = r' ∧ HH s9 h' ∧ Mo s0 s9) := by
  unfold f_X12_plainTells at hf
  refine am_of (lv := [some (.ref 67), some (.int a0), some (.int a1), none]) rfl (Nat.le_of_ble_eq_true rfl) rfl ?_
  refine aw_aload_n (pc' := 1) dX12_plainTells_0 rfl rfl rfl ?_
  refine aw_iconst (v := 2) (pc' := 2) dX12_plainTells_1 rfl ic_2 ?_
  obtain ⟨s1, ec1, hf⟩ := b1_e hf
  refine aw_callVv (M' := mX12_ran) (nc' := 0) (ns' := 0) (pc' := 5) dX12_plainTells_2 rfl ml_RX12_456 kX12_ran (t_X12_ran H0 ec1) (H0.ob (H0.fo rfl rfl) (by decide)) rfl rfl rfl (Nat.le_of_ble_eq_true rfl) (rokD (by omega) (Nat.le_of_ble_eq_true rfl) (Nat.le_of_ble_eq_true rfl) (Nat.le_of_ble_eq_true rfl)) rfl rfl (fun h1 q1 => ?_)
  obtain ⟨H1, m1⟩ := q1
  refine aw_aload_n (pc' := 6) dX12_plainTells_5 rfl rfl rfl ?_
  refine aw_iload_n (pc' := 7) dX12_plainTells_6 rfl rfl ?_
  refine aw_iload_n (pc' := 8) dX12_plainTells_7 rfl rfl ?_
  obtain ⟨r2, s2, ec2, hf⟩ := bd_e hf
  refine aw_callVi (M' := mX12_carries) (nc' := 0) (ns' := 0) (pc' := 11) dX12_plainTells_8 rfl ml_RX12_478 kX12_carries (t_X12_carries H1 ec2) (H1.ob (H1.fo rfl rfl) (by decide)) rfl rfl rfl (Nat.le_of_ble_eq_true rfl) (rokD (by omega) (Nat.le_of_ble_eq_true rfl) (Nat.le_of_ble_eq_true rfl) (Nat.le_of_ble_eq_true rfl)) rfl rfl (fun _ h2 q2 => ?_)
  obtain ⟨rfl, H2, m2⟩ := q2
  refine aw_istore_n (lv' := [_, _, _, _]) (pc' := 12) dX12_plainTells_11 rfl (Nat.le_of_ble_eq_true rfl) rfl ?_
  refine aw_iload_n (pc' := 13) dX12_plainTells_12 rfl rfl ?_
  refine aw_aload_n (pc' := 14) dX12_plainTells_13 rfl rfl rfl ?_
  refine aw_iload_n (pc' := 15) dX12_plainTells_14 rfl rfl ?_
  refine aw_iconst (v := 1) (pc' := 16) dX12_plainTells_15 rfl ic_1 ?_
  obtain ⟨r3, s3, ec3, hf⟩ := bd_e hf
  refine aw_callVi (M' := mX12_holdsBy) (nc' := 0) (ns' := 0) (pc' := 19) dX12_plainTells_16 rfl ml_RX12_481 kX12_holdsBy (t_X12_holdsBy H2 ec3) (H2.ob (H2.fo rfl rfl) (by decide)) rfl rfl rfl (Nat.le_of_ble_eq_true rfl) (rokD (by omega) (Nat.le_of_ble_eq_true rfl) (Nat.le_of_ble_eq_true rfl) (Nat.le_of_ble_eq_true rfl)) rfl rfl (fun _ h3 q3 => ?_)
  obtain ⟨rfl, H3, m3⟩ := q3
  refine aw_iadd (pc' := 20) dX12_plainTells_19 rfl ?_
  obtain ⟨rfl, rfl⟩ := so2 hf
  exact aw_ri dX12_plainTells_20 rfl rfl (Nat.le_of_ble_eq_true rfl) (Nat.le_of_ble_eq_true rfl) ⟨rfl, H3, ((m1.tr m2).tr m3)⟩
