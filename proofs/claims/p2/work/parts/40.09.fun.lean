/-! ThirtyThreeBelowModel.wrong -/
def f_X12_wrong (s0 : SS) (a0 : Int32) : Option Int32 := (b1 (f_X12_in a0 (0 : Int32) ((zS s0 59 30) - (1 : Int32))) fun r1 => (if r1 = (0 : Int32) then some (-1) else (b1 (f_X12_wrongBy s0 a0) fun r3 => some r3)))
set_option maxRecDepth 4000 in
theorem t_X12_wrong {r9 : Int32} {s0 : SS} {h0 : List aE} {a0 : Int32} (H0 : HH s0 h0) (hf : f_X12_wrong s0 a0 = some r9) : AM mX12_wrong (4) [.ref 67, .int a0] h0 0 0 (PI fun r' h' => r9 = r' ∧ h0 = h') := by
  unfold f_X12_wrong at hf
  refine am_of (lv := [some (.ref 67), some (.int a0)]) rfl (Nat.le_of_ble_eq_true rfl) rfl ?_
  refine aw_iload_n (pc' := 1) dX12_wrong_0 rfl rfl ?_
  refine aw_iconst (v := 0) (pc' := 2) dX12_wrong_1 rfl (by decide) ?_
  refine aw_aload_n (pc' := 3) dX12_wrong_2 rfl rfl rfl ?_
  refine aw_gi (q := 59) (pc' := 6) H0 (H0.fo rfl rfl) (by decide) rfl dX12_wrong_3 rfl fl_RX12_301 ?_
  refine aw_iconst (v := 1) (pc' := 7) dX12_wrong_6 rfl (by decide) ?_
  refine aw_isub (pc' := 8) dX12_wrong_7 rfl ?_
  obtain ⟨r1, ec1, hf⟩ := b1_e hf
  refine aw_callSi (M' := mX12_in) (nc' := 0) (ns' := 0) (pc' := 11) dX12_wrong_8 rfl ml_RX12_230 kX12_in (t_X12_in ec1) rfl rfl (Nat.le_of_ble_eq_true rfl) (rokD (by omega) (Nat.le_of_ble_eq_true rfl) (Nat.le_of_ble_eq_true rfl) (Nat.le_of_ble_eq_true rfl)) rfl rfl (fun _ h1 q1 => ?_)
  obtain ⟨rfl, rfl, zb1⟩ := q1
  refine aw_if_eq (tgt := 22) (pc' := 14) dX12_wrong_11 (by decide) rfl (fun c2 => ?_) (fun c2 => ?_)
  · replace hf := ifp c2 hf
    refine aw_iconst (v := (-1)) (pc' := 23) dX12_wrong_22 rfl (by decide) ?_
    obtain rfl := Option.some.inj hf
    exact aw_ri dX12_wrong_23 rfl rfl (Nat.le_of_ble_eq_true rfl) (Nat.le_of_ble_eq_true rfl) ⟨rfl, rfl⟩
  · replace hf := ifn c2 hf
    refine aw_aload_n (pc' := 15) dX12_wrong_14 rfl rfl rfl ?_
    refine aw_iload_n (pc' := 16) dX12_wrong_15 rfl rfl ?_
    obtain ⟨r3, ec3, hf⟩ := b1_e hf
    refine aw_callVi (M' := mX12_wrongBy) (nc' := 0) (ns' := 0) (pc' := 19) dX12_wrong_16 rfl ml_RX12_313 kX12_wrongBy (t_X12_wrongBy H0 ec3) (H0.ob (H0.fo rfl rfl) (by decide)) rfl rfl rfl (Nat.le_of_ble_eq_true rfl) (rokD (by omega) (Nat.le_of_ble_eq_true rfl) (Nat.le_of_ble_eq_true rfl) (Nat.le_of_ble_eq_true rfl)) rfl rfl (fun _ h3 q3 => ?_)
    obtain ⟨rfl, rfl⟩ := q3
    refine aw_goto (tgt := 23) dX12_wrong_19 (by decide) ?_
    obtain rfl := Option.some.inj hf
    exact aw_ri dX12_wrong_23 rfl rfl (Nat.le_of_ble_eq_true rfl) (Nat.le_of_ble_eq_true rfl) ⟨rfl, rfl⟩
/-! ThirtyThreeBelowModel.known -/
def f_X12_known_L33_b (q0 : Int32 → Int32 → Int32 → Int32 → Int32 → Int32 → Option Int32) (s0 : SS) (y1 : Int32) (rc : Int32 → Int32 → Int32 → Int32 → Int32 → Int32 → Int32 → Option Int32) (x2 : Int32) (x3 : Int32) (x4 : Int32) (x5 : Int32) (x6 : Int32) (x7 : Int32) (x8 : Int32) : Option Int32 := (if x8 < (zS s0 59 30) then (b1 (f_X12_wrongBy s0 x8) fun r4 => (jn (fun (j5_2 : Int32) (j5_3 : Int32) (j5_4 : Int32) (j5_5 : Int32) (j5_6 : Int32) (j5_7 : Int32) => (vl (x8 + 1) fun v6 => (rc j5_2 j5_3 j5_4 j5_5 j5_6 j5_7 v6))) fun k5 => (if r4 = ((-2) : Int32) then (gd (inB x8 8) (jn (fun (t9_0 : Int32) => (gd (inB x8 8) (jn (fun (t11_0 : Int32) => (gd (inB x8 8) (jn (fun (t13_0 : Int32) => (gd (inB x8 8) (jn (fun (t15_0 : Int32) => (gd (inB x8 8) (jn (fun (t17_0 : Int32) => (gd (inB x8 8) (jn (fun (t19_0 : Int32) => (k5 t9_0 t11_0 t13_0 t15_0 t17_0 t19_0)) fun k19 => (if x7 < (zI s0 83 (x8.toInt.toNat)) then (gd (inB x8 8) (k19 (zI s0 83 (x8.toInt.toNat)))) else (k19 x7))))) fun k17 => (if (zI s0 83 (x8.toInt.toNat)) < x6 then (gd (inB x8 8) (k17 (zI s0 83 (x8.toInt.toNat)))) else (k17 x6))))) fun k15 => (if x5 < (zI s0 82 (x8.toInt.toNat)) then (gd (inB x8 8) (k15 (zI s0 82 (x8.toInt.toNat)))) else (k15 x5))))) fun k13 => (if (zI s0 82 (x8.toInt.toNat)) < x4 then (gd (inB x8 8) (k13 (zI s0 82 (x8.toInt.toNat)))) else (k13 x4))))) fun k11 => (if x3 < (zI s0 81 (x8.toInt.toNat)) then (gd (inB x8 8) (k11 (zI s0 81 (x8.toInt.toNat)))) else (k11 x3))))) fun k9 => (if (zI s0 81 (x8.toInt.toNat)) < x2 then (gd (inB x8 8) (k9 (zI s0 81 (x8.toInt.toNat)))) else (k9 x2)))) else (k5 x2 x3 x4 x5 x6 x7)))) else (q0 x2 x3 x4 x5 x6 x7))
def f_X12_known_L33 (q0 : Int32 → Int32 → Int32 → Int32 → Int32 → Int32 → Option Int32) (s0 : SS) (y1 : Int32) : Nat → Int32 → Int32 → Int32 → Int32 → Int32 → Int32 → Int32 → Option Int32
  | 0, _, _, _, _, _, _, _ => none
  | n + 1, x2, x3, x4, x5, x6, x7, x8 => f_X12_known_L33_b q0 s0 y1 (f_X12_known_L33 q0 s0 y1 n) x2 x3 x4 x5 x6 x7 x8
set_option maxRecDepth 4000 in
theorem t_X12_known_L33 {r9 : Int32} {s0 : SS} {h0 : List aE} {q0 : Int32 → Int32 → Int32 → Int32 → Int32 → Int32 → Option Int32} {y1 : Int32} (H0 : HH s0 h0) (hq0 : ∀ (x2 : Int32) (x3 : Int32) (x4 : Int32) (x5 : Int32) (x6 : Int32) (x7 : Int32), q0 x2 x3 x4 x5 x6 x7 = some r9 → AW mX12_known (rmD (4) 0 0) (fin (PI fun r' h' => r9 = r' ∧ h0 = h') 0 0) 212 [none, some (.int y1), some (.int x2), some (.int x3), some (.int x4), some (.int x5), some (.int x6), some (.int x7), none] [] h0 0 0) : ∀ (n : Nat) (x2 : Int32) (x3 : Int32) (x4 : Int32) (x5 : Int32) (x6 : Int32) (x7 : Int32) (x8 : Int32), f_X12_known_L33 q0 s0 y1 n x2 x3 x4 x5 x6 x7 x8 = some r9 → AW mX12_known (rmD (4) 0 0) (fin (PI fun r' h' => r9 = r' ∧ h0 = h') 0 0) 33 [some (.ref 67), some (.int y1), some (.int x2), some (.int x3), some (.int x4), some (.int x5), some (.int x6), some (.int x7), some (.int x8)] [] h0 0 0 := by
  intro n
  induction n with
  | zero =>
    intro x2 x3 x4 x5 x6 x7 x8 hf
    cases hf
  | succ n ih =>
    intro x2 x3 x4 x5 x6 x7 x8 hf
    replace hf : f_X12_known_L33_b q0 s0 y1 (f_X12_known_L33 q0 s0 y1 n) x2 x3 x4 x5 x6 x7 x8 = some r9 := hf
    unfold f_X12_known_L33_b at hf
    refine aw_iload (pc' := 35) dX12_known_33 rfl rfl ?_
    refine aw_aload_n (pc' := 36) dX12_known_35 rfl rfl rfl ?_
    refine aw_gi (q := 59) (pc' := 39) H0 (H0.fo rfl rfl) (by decide) rfl dX12_known_36 rfl fl_RX12_301 ?_
    refine aw_cge (tgt := 212) (pc' := 42) dX12_known_39 (by decide) rfl (fun c3 => ?_) (fun c3 => ?_)
    · replace hf := ifn c3 hf
      refine AW.lv_le (lz_d (lz_k (lz_k (lz_k (lz_k (lz_k (lz_k (lz_k (lz_d lz_0))))))))) ?_
      exact hq0 _ _ _ _ _ _ hf
    · replace hf := ifp c3 hf
      refine aw_aload_n (pc' := 43) dX12_known_42 rfl rfl rfl ?_
      refine aw_iload (pc' := 45) dX12_known_43 rfl rfl ?_
      obtain ⟨r4, ec4, hf⟩ := b1_e hf
      refine aw_callVi (M' := mX12_wrongBy) (nc' := 0) (ns' := 0) (pc' := 48) dX12_known_45 rfl ml_RX12_313 kX12_wrongBy (t_X12_wrongBy H0 ec4) (H0.ob (H0.fo rfl rfl) (by decide)) rfl rfl rfl (Nat.le_of_ble_eq_true rfl) (rokD (by omega) (Nat.le_of_ble_eq_true rfl) (Nat.le_of_ble_eq_true rfl) (Nat.le_of_ble_eq_true rfl)) rfl rfl (fun _ h4 q4 => ?_)
      obtain ⟨rfl, rfl⟩ := q4
      refine aw_bipush (v := (-2)) (pc' := 50) dX12_known_48 rfl (by decide) ?_
      obtain ⟨k5, ek5, hf⟩ := jn_e hf
      have hk5 : ∀ (j5_2 : Int32) (j5_3 : Int32) (j5_4 : Int32) (j5_5 : Int32) (j5_6 : Int32) (j5_7 : Int32), k5 j5_2 j5_3 j5_4 j5_5 j5_6 j5_7 = some r9 → AW mX12_known (rmD (4) 0 0) (fin (PI fun r' h' => r9 = r' ∧ h0 = h') 0 0) 206 [some (.ref 67), some (.int y1), some (.int j5_2), some (.int j5_3), some (.int j5_4), some (.int j5_5), some (.int j5_6), some (.int j5_7), some (.int x8)] [] h0 0 0 := by
        intro j5_2 j5_3 j5_4 j5_5 j5_6 j5_7 hf
        subst ek5
        obtain ⟨v6, ev6, hf⟩ := vl_e hf
        refine aw_iincV (y := v6) (lv' := [_, _, _, _, _, _, _, _, _]) (pc' := 209) dX12_known_206 rfl rfl (Nat.le_of_ble_eq_true rfl) ev6 rfl ?_
        refine aw_goto (tgt := 33) dX12_known_209 (by decide) ?_
        exact ih _ _ _ _ _ _ _ hf
      clear ek5
      refine aw_icmp_eq (tgt := 56) (pc' := 53) dX12_known_50 (by decide) rfl (fun c7 => ?_) (fun c7 => ?_)
      · replace hf := ifp c7 hf
        refine aw_aload_n (pc' := 57) dX12_known_56 rfl rfl rfl ?_
        refine aw_gr (q := 59) (e := 45) (v := .ref 89) (pc' := 60) H0 (H0.fo rfl rfl) (by decide) rfl rfl dX12_known_57 rfl fl_RX12_81 ?_
        refine aw_iload (pc' := 62) dX12_known_60 rfl rfl ?_
        obtain ⟨g8, hf⟩ := gd_e hf
        refine aw_ia (q := 81) (pc' := 63) H0 (H0.fa rfl rfl rfl) g8 dX12_known_62 rfl ?_
        refine aw_iload_n (pc' := 64) dX12_known_63 rfl rfl ?_
        obtain ⟨k9, ek9, hf⟩ := jn_e hf
        have hk9 : ∀ (t9_0 : Int32), k9 t9_0 = some r9 → AW mX12_known (rmD (4) 0 0) (fin (PI fun r' h' => r9 = r' ∧ h0 = h') 0 0) 78 [some (.ref 67), some (.int y1), none, some (.int x3), some (.int x4), some (.int x5), some (.int x6), some (.int x7), some (.int x8)] [.int t9_0] h0 0 0 := by
          intro t9_0 hf
          subst ek9
          refine aw_istore_n (lv' := [_, _, _, _, _, _, _, _, _]) (pc' := 79) dX12_known_78 rfl (Nat.le_of_ble_eq_true rfl) rfl ?_
          refine aw_aload_n (pc' := 80) dX12_known_79 rfl rfl rfl ?_
          refine aw_gr (q := 59) (e := 45) (v := .ref 89) (pc' := 83) H0 (H0.fo rfl rfl) (by decide) rfl rfl dX12_known_80 rfl fl_RX12_81 ?_
          refine aw_iload (pc' := 85) dX12_known_83 rfl rfl ?_
          obtain ⟨g10, hf⟩ := gd_e hf
          refine aw_ia (q := 81) (pc' := 86) H0 (H0.fa rfl rfl rfl) g10 dX12_known_85 rfl ?_
          refine aw_iload_n (pc' := 87) dX12_known_86 rfl rfl ?_
          obtain ⟨k11, ek11, hf⟩ := jn_e hf
          have hk11 : ∀ (t11_0 : Int32), k11 t11_0 = some r9 → AW mX12_known (rmD (4) 0 0) (fin (PI fun r' h' => r9 = r' ∧ h0 = h') 0 0) 101 [some (.ref 67), some (.int y1), some (.int t9_0), none, some (.int x4), some (.int x5), some (.int x6), some (.int x7), some (.int x8)] [.int t11_0] h0 0 0 := by
            intro t11_0 hf
            subst ek11
            refine aw_istore_n (lv' := [_, _, _, _, _, _, _, _, _]) (pc' := 102) dX12_known_101 rfl (Nat.le_of_ble_eq_true rfl) rfl ?_
            refine aw_aload_n (pc' := 103) dX12_known_102 rfl rfl rfl ?_
            refine aw_gr (q := 59) (e := 47) (v := .ref 90) (pc' := 106) H0 (H0.fo rfl rfl) (by decide) rfl rfl dX12_known_103 rfl fl_RX12_84 ?_
            refine aw_iload (pc' := 108) dX12_known_106 rfl rfl ?_
            obtain ⟨g12, hf⟩ := gd_e hf
            refine aw_ia (q := 82) (pc' := 109) H0 (H0.fa rfl rfl rfl) g12 dX12_known_108 rfl ?_
            refine aw_iload (pc' := 111) dX12_known_109 rfl rfl ?_
            obtain ⟨k13, ek13, hf⟩ := jn_e hf
            have hk13 : ∀ (t13_0 : Int32), k13 t13_0 = some r9 → AW mX12_known (rmD (4) 0 0) (fin (PI fun r' h' => r9 = r' ∧ h0 = h') 0 0) 126 [some (.ref 67), some (.int y1), some (.int t9_0), some (.int t11_0), none, some (.int x5), some (.int x6), some (.int x7), some (.int x8)] [.int t13_0] h0 0 0 := by
              intro t13_0 hf
              subst ek13
              refine aw_istore (lv' := [_, _, _, _, _, _, _, _, _]) (pc' := 128) dX12_known_126 rfl (Nat.le_of_ble_eq_true rfl) rfl ?_
              refine aw_aload_n (pc' := 129) dX12_known_128 rfl rfl rfl ?_
              refine aw_gr (q := 59) (e := 47) (v := .ref 90) (pc' := 132) H0 (H0.fo rfl rfl) (by decide) rfl rfl dX12_known_129 rfl fl_RX12_84 ?_
              refine aw_iload (pc' := 134) dX12_known_132 rfl rfl ?_
              obtain ⟨g14, hf⟩ := gd_e hf
              refine aw_ia (q := 82) (pc' := 135) H0 (H0.fa rfl rfl rfl) g14 dX12_known_134 rfl ?_
              refine aw_iload (pc' := 137) dX12_known_135 rfl rfl ?_
              obtain ⟨k15, ek15, hf⟩ := jn_e hf
              have hk15 : ∀ (t15_0 : Int32), k15 t15_0 = some r9 → AW mX12_known (rmD (4) 0 0) (fin (PI fun r' h' => r9 = r' ∧ h0 = h') 0 0) 152 [some (.ref 67), some (.int y1), some (.int t9_0), some (.int t11_0), some (.int t13_0), none, some (.int x6), some (.int x7), some (.int x8)] [.int t15_0] h0 0 0 := by
                intro t15_0 hf
                subst ek15
                refine aw_istore (lv' := [_, _, _, _, _, _, _, _, _]) (pc' := 154) dX12_known_152 rfl (Nat.le_of_ble_eq_true rfl) rfl ?_
                refine aw_aload_n (pc' := 155) dX12_known_154 rfl rfl rfl ?_
                refine aw_gr (q := 59) (e := 49) (v := .ref 91) (pc' := 158) H0 (H0.fo rfl rfl) (by decide) rfl rfl dX12_known_155 rfl fl_RX12_87 ?_
                refine aw_iload (pc' := 160) dX12_known_158 rfl rfl ?_
                obtain ⟨g16, hf⟩ := gd_e hf
                refine aw_ia (q := 83) (pc' := 161) H0 (H0.fa rfl rfl rfl) g16 dX12_known_160 rfl ?_
                refine aw_iload (pc' := 163) dX12_known_161 rfl rfl ?_
                obtain ⟨k17, ek17, hf⟩ := jn_e hf
                have hk17 : ∀ (t17_0 : Int32), k17 t17_0 = some r9 → AW mX12_known (rmD (4) 0 0) (fin (PI fun r' h' => r9 = r' ∧ h0 = h') 0 0) 178 [some (.ref 67), some (.int y1), some (.int t9_0), some (.int t11_0), some (.int t13_0), some (.int t15_0), none, some (.int x7), some (.int x8)] [.int t17_0] h0 0 0 := by
                  intro t17_0 hf
                  subst ek17
                  refine aw_istore (lv' := [_, _, _, _, _, _, _, _, _]) (pc' := 180) dX12_known_178 rfl (Nat.le_of_ble_eq_true rfl) rfl ?_
                  refine aw_aload_n (pc' := 181) dX12_known_180 rfl rfl rfl ?_
                  refine aw_gr (q := 59) (e := 49) (v := .ref 91) (pc' := 184) H0 (H0.fo rfl rfl) (by decide) rfl rfl dX12_known_181 rfl fl_RX12_87 ?_
                  refine aw_iload (pc' := 186) dX12_known_184 rfl rfl ?_
                  obtain ⟨g18, hf⟩ := gd_e hf
                  refine aw_ia (q := 83) (pc' := 187) H0 (H0.fa rfl rfl rfl) g18 dX12_known_186 rfl ?_
                  refine aw_iload (pc' := 189) dX12_known_187 rfl rfl ?_
                  obtain ⟨k19, ek19, hf⟩ := jn_e hf
                  have hk19 : ∀ (t19_0 : Int32), k19 t19_0 = some r9 → AW mX12_known (rmD (4) 0 0) (fin (PI fun r' h' => r9 = r' ∧ h0 = h') 0 0) 204 [some (.ref 67), some (.int y1), some (.int t9_0), some (.int t11_0), some (.int t13_0), some (.int t15_0), some (.int t17_0), none, some (.int x8)] [.int t19_0] h0 0 0 := by
                    intro t19_0 hf
                    subst ek19
                    refine aw_istore (lv' := [_, _, _, _, _, _, _, _, _]) (pc' := 206) dX12_known_204 rfl (Nat.le_of_ble_eq_true rfl) rfl ?_
                    exact hk5 _ _ _ _ _ _ hf
                  clear ek19
                  refine aw_cle (tgt := 202) (pc' := 192) dX12_known_189 (by decide) rfl (fun c20 => ?_) (fun c20 => ?_)
                  · replace hf := ifn c20 hf
                    refine aw_iload (pc' := 204) dX12_known_202 rfl rfl ?_
                    refine AW.lv_le (lz_k (lz_k (lz_k (lz_k (lz_k (lz_k (lz_k (lz_d (lz_k lz_0))))))))) ?_
                    exact hk19 _ hf
                  · replace hf := ifp c20 hf
                    refine aw_aload_n (pc' := 193) dX12_known_192 rfl rfl rfl ?_
                    refine aw_gr (q := 59) (e := 49) (v := .ref 91) (pc' := 196) H0 (H0.fo rfl rfl) (by decide) rfl rfl dX12_known_193 rfl fl_RX12_87 ?_
                    refine aw_iload (pc' := 198) dX12_known_196 rfl rfl ?_
                    obtain ⟨g21, hf⟩ := gd_e hf
                    refine aw_ia (q := 83) (pc' := 199) H0 (H0.fa rfl rfl rfl) g21 dX12_known_198 rfl ?_
                    refine aw_goto (tgt := 204) dX12_known_199 (by decide) ?_
                    refine AW.lv_le (lz_k (lz_k (lz_k (lz_k (lz_k (lz_k (lz_k (lz_d (lz_k lz_0))))))))) ?_
                    exact hk19 _ hf
                clear ek17
                refine aw_cge (tgt := 176) (pc' := 166) dX12_known_163 (by decide) rfl (fun c22 => ?_) (fun c22 => ?_)
                · replace hf := ifn c22 hf
                  refine aw_iload (pc' := 178) dX12_known_176 rfl rfl ?_
                  refine AW.lv_le (lz_k (lz_k (lz_k (lz_k (lz_k (lz_k (lz_d (lz_k (lz_k lz_0))))))))) ?_
                  exact hk17 _ hf
                · replace hf := ifp c22 hf
                  refine aw_aload_n (pc' := 167) dX12_known_166 rfl rfl rfl ?_
                  refine aw_gr (q := 59) (e := 49) (v := .ref 91) (pc' := 170) H0 (H0.fo rfl rfl) (by decide) rfl rfl dX12_known_167 rfl fl_RX12_87 ?_
                  refine aw_iload (pc' := 172) dX12_known_170 rfl rfl ?_
                  obtain ⟨g23, hf⟩ := gd_e hf
                  refine aw_ia (q := 83) (pc' := 173) H0 (H0.fa rfl rfl rfl) g23 dX12_known_172 rfl ?_
                  refine aw_goto (tgt := 178) dX12_known_173 (by decide) ?_
                  refine AW.lv_le (lz_k (lz_k (lz_k (lz_k (lz_k (lz_k (lz_d (lz_k (lz_k lz_0))))))))) ?_
                  exact hk17 _ hf
              clear ek15
              refine aw_cle (tgt := 150) (pc' := 140) dX12_known_137 (by decide) rfl (fun c24 => ?_) (fun c24 => ?_)
              · replace hf := ifn c24 hf
                refine aw_iload (pc' := 152) dX12_known_150 rfl rfl ?_
                refine AW.lv_le (lz_k (lz_k (lz_k (lz_k (lz_k (lz_d (lz_k (lz_k (lz_k lz_0))))))))) ?_
                exact hk15 _ hf
              · replace hf := ifp c24 hf
                refine aw_aload_n (pc' := 141) dX12_known_140 rfl rfl rfl ?_
                refine aw_gr (q := 59) (e := 47) (v := .ref 90) (pc' := 144) H0 (H0.fo rfl rfl) (by decide) rfl rfl dX12_known_141 rfl fl_RX12_84 ?_
                refine aw_iload (pc' := 146) dX12_known_144 rfl rfl ?_
                obtain ⟨g25, hf⟩ := gd_e hf
                refine aw_ia (q := 82) (pc' := 147) H0 (H0.fa rfl rfl rfl) g25 dX12_known_146 rfl ?_
                refine aw_goto (tgt := 152) dX12_known_147 (by decide) ?_
                refine AW.lv_le (lz_k (lz_k (lz_k (lz_k (lz_k (lz_d (lz_k (lz_k (lz_k lz_0))))))))) ?_
                exact hk15 _ hf
            clear ek13
            refine aw_cge (tgt := 124) (pc' := 114) dX12_known_111 (by decide) rfl (fun c26 => ?_) (fun c26 => ?_)
            · replace hf := ifn c26 hf
              refine aw_iload (pc' := 126) dX12_known_124 rfl rfl ?_
              refine AW.lv_le (lz_k (lz_k (lz_k (lz_k (lz_d (lz_k (lz_k (lz_k (lz_k lz_0))))))))) ?_
              exact hk13 _ hf
            · replace hf := ifp c26 hf
              refine aw_aload_n (pc' := 115) dX12_known_114 rfl rfl rfl ?_
              refine aw_gr (q := 59) (e := 47) (v := .ref 90) (pc' := 118) H0 (H0.fo rfl rfl) (by decide) rfl rfl dX12_known_115 rfl fl_RX12_84 ?_
              refine aw_iload (pc' := 120) dX12_known_118 rfl rfl ?_
              obtain ⟨g27, hf⟩ := gd_e hf
              refine aw_ia (q := 82) (pc' := 121) H0 (H0.fa rfl rfl rfl) g27 dX12_known_120 rfl ?_
              refine aw_goto (tgt := 126) dX12_known_121 (by decide) ?_
              refine AW.lv_le (lz_k (lz_k (lz_k (lz_k (lz_d (lz_k (lz_k (lz_k (lz_k lz_0))))))))) ?_
              exact hk13 _ hf
          clear ek11
          refine aw_cle (tgt := 100) (pc' := 90) dX12_known_87 (by decide) rfl (fun c28 => ?_) (fun c28 => ?_)
          · replace hf := ifn c28 hf
            refine aw_iload_n (pc' := 101) dX12_known_100 rfl rfl ?_
            refine AW.lv_le (lz_k (lz_k (lz_k (lz_d (lz_k (lz_k (lz_k (lz_k (lz_k lz_0))))))))) ?_
            exact hk11 _ hf
          · replace hf := ifp c28 hf
            refine aw_aload_n (pc' := 91) dX12_known_90 rfl rfl rfl ?_
            refine aw_gr (q := 59) (e := 45) (v := .ref 89) (pc' := 94) H0 (H0.fo rfl rfl) (by decide) rfl rfl dX12_known_91 rfl fl_RX12_81 ?_
            refine aw_iload (pc' := 96) dX12_known_94 rfl rfl ?_
            obtain ⟨g29, hf⟩ := gd_e hf
            refine aw_ia (q := 81) (pc' := 97) H0 (H0.fa rfl rfl rfl) g29 dX12_known_96 rfl ?_
            refine aw_goto (tgt := 101) dX12_known_97 (by decide) ?_
            refine AW.lv_le (lz_k (lz_k (lz_k (lz_d (lz_k (lz_k (lz_k (lz_k (lz_k lz_0))))))))) ?_
            exact hk11 _ hf
        clear ek9
        refine aw_cge (tgt := 77) (pc' := 67) dX12_known_64 (by decide) rfl (fun c30 => ?_) (fun c30 => ?_)
        · replace hf := ifn c30 hf
          refine aw_iload_n (pc' := 78) dX12_known_77 rfl rfl ?_
          refine AW.lv_le (lz_k (lz_k (lz_d (lz_k (lz_k (lz_k (lz_k (lz_k (lz_k lz_0))))))))) ?_
          exact hk9 _ hf
        · replace hf := ifp c30 hf
          refine aw_aload_n (pc' := 68) dX12_known_67 rfl rfl rfl ?_
          refine aw_gr (q := 59) (e := 45) (v := .ref 89) (pc' := 71) H0 (H0.fo rfl rfl) (by decide) rfl rfl dX12_known_68 rfl fl_RX12_81 ?_
          refine aw_iload (pc' := 73) dX12_known_71 rfl rfl ?_
          obtain ⟨g31, hf⟩ := gd_e hf
          refine aw_ia (q := 81) (pc' := 74) H0 (H0.fa rfl rfl rfl) g31 dX12_known_73 rfl ?_
          refine aw_goto (tgt := 78) dX12_known_74 (by decide) ?_
          refine AW.lv_le (lz_k (lz_k (lz_d (lz_k (lz_k (lz_k (lz_k (lz_k (lz_k lz_0))))))))) ?_
          exact hk9 _ hf
      · replace hf := ifn c7 hf
        refine aw_goto (tgt := 206) dX12_known_53 (by decide) ?_
        exact hk5 _ _ _ _ _ _ hf
def f_X12_known (s0 : SS) (a0 : Int32) : Option Int32 := (b1 (f_X12_in a0 (0 : Int32) (5 : Int32)) fun r1 => (if r1 = (0 : Int32) then some (-1) else (f_X12_known_L33 (fun (x32_2 : Int32) (x32_3 : Int32) (x32_4 : Int32) (x32_5 : Int32) (x32_6 : Int32) (x32_7 : Int32) => (if x32_7 = (0 : Int32) then some (-2) else (if a0 = 0 then some x32_2 else (if a0 = 1 then some x32_5 else (if a0 = 2 then some x32_6 else (if a0 = 3 then some x32_7 else (if x32_6 = x32_7 then (if x32_4 < x32_3 then some (-2) else (if a0 = (4 : Int32) then some x32_3 else some x32_4)) else some (-2)))))))) s0 a0 4000 32 (-1) 32 (-1) 61 0 0)))
set_option maxRecDepth 4000 in
theorem t_X12_known {r9 : Int32} {s0 : SS} {h0 : List aE} {a0 : Int32} (H0 : HH s0 h0) (hf : f_X12_known s0 a0 = some r9) : AM mX12_known (4) [.ref 67, .int a0] h0 0 0 (PI fun r' h' => r9 = r' ∧ h0 = h') := by
  unfold f_X12_known at hf
  refine am_of (lv := [some (.ref 67), some (.int a0), none, none, none, none, none, none, none]) rfl (Nat.le_of_ble_eq_true rfl) rfl ?_
  refine aw_iload_n (pc' := 1) dX12_known_0 rfl rfl ?_
  refine aw_iconst (v := 0) (pc' := 2) dX12_known_1 rfl (by decide) ?_
  refine aw_iconst (v := 5) (pc' := 3) dX12_known_2 rfl (by decide) ?_
  obtain ⟨r1, ec1, hf⟩ := b1_e hf
  refine aw_callSi (M' := mX12_in) (nc' := 0) (ns' := 0) (pc' := 6) dX12_known_3 rfl ml_RX12_230 kX12_in (t_X12_in ec1) rfl rfl (Nat.le_of_ble_eq_true rfl) (rokD (by omega) (Nat.le_of_ble_eq_true rfl) (Nat.le_of_ble_eq_true rfl) (Nat.le_of_ble_eq_true rfl)) rfl rfl (fun _ h1 q1 => ?_)
  obtain ⟨rfl, rfl, zb1⟩ := q1
  refine aw_if_ne (tgt := 11) (pc' := 9) dX12_known_6 (by decide) rfl (fun c2 => ?_) (fun c2 => ?_)
  · replace hf := ifn c2 hf
    refine aw_bipush (v := 32) (pc' := 13) dX12_known_11 rfl (by decide) ?_
    refine aw_istore_n (lv' := [_, _, _, _, _, _, _, _, _]) (pc' := 14) dX12_known_13 rfl (Nat.le_of_ble_eq_true rfl) rfl ?_
    refine aw_iconst (v := (-1)) (pc' := 15) dX12_known_14 rfl (by decide) ?_
    refine aw_istore_n (lv' := [_, _, _, _, _, _, _, _, _]) (pc' := 16) dX12_known_15 rfl (Nat.le_of_ble_eq_true rfl) rfl ?_
    refine aw_bipush (v := 32) (pc' := 18) dX12_known_16 rfl (by decide) ?_
    refine aw_istore (lv' := [_, _, _, _, _, _, _, _, _]) (pc' := 20) dX12_known_18 rfl (Nat.le_of_ble_eq_true rfl) rfl ?_
    refine aw_iconst (v := (-1)) (pc' := 21) dX12_known_20 rfl (by decide) ?_
    refine aw_istore (lv' := [_, _, _, _, _, _, _, _, _]) (pc' := 23) dX12_known_21 rfl (Nat.le_of_ble_eq_true rfl) rfl ?_
    refine aw_bipush (v := 61) (pc' := 25) dX12_known_23 rfl (by decide) ?_
    refine aw_istore (lv' := [_, _, _, _, _, _, _, _, _]) (pc' := 27) dX12_known_25 rfl (Nat.le_of_ble_eq_true rfl) rfl ?_
    refine aw_iconst (v := 0) (pc' := 28) dX12_known_27 rfl (by decide) ?_
    refine aw_istore (lv' := [_, _, _, _, _, _, _, _, _]) (pc' := 30) dX12_known_28 rfl (Nat.le_of_ble_eq_true rfl) rfl ?_
    refine aw_iconst (v := 0) (pc' := 31) dX12_known_30 rfl (by decide) ?_
    refine aw_istore (lv' := [_, _, _, _, _, _, _, _, _]) (pc' := 33) dX12_known_31 rfl (Nat.le_of_ble_eq_true rfl) rfl ?_
    refine t_X12_known_L33 H0 (fun x32_2 x32_3 x32_4 x32_5 x32_6 x32_7 hf => ?_) 4000 _ _ _ _ _ _ _ hf
    refine aw_iload (pc' := 214) dX12_known_212 rfl rfl ?_
    refine aw_if_ne (tgt := 220) (pc' := 217) dX12_known_214 (by decide) rfl (fun c33 => ?_) (fun c33 => ?_)
    · replace hf := ifn c33 hf
      refine aw_iload_n (pc' := 221) dX12_known_220 rfl rfl ?_
      rcases Decidable.em (a0 = 0) with c34 | c34
      · replace hf := ifp c34 hf
        refine aw_tabIn (tgt := 252) (off := 31) dX12_known_221 (by rw [c34]; decide) (by rw [c34]; decide) (by rw [c34]; decide) (by decide) ?_
        refine aw_iload_n (pc' := 253) dX12_known_252 rfl rfl ?_
        obtain rfl := Option.some.inj hf
        exact aw_ri dX12_known_253 rfl rfl (Nat.le_of_ble_eq_true rfl) (Nat.le_of_ble_eq_true rfl) ⟨rfl, rfl⟩
      replace hf := ifn c34 hf
      rcases Decidable.em (a0 = 1) with c35 | c35
      · replace hf := ifp c35 hf
        refine aw_tabIn (tgt := 254) (off := 33) dX12_known_221 (by rw [c35]; decide) (by rw [c35]; decide) (by rw [c35]; decide) (by decide) ?_
        refine aw_iload (pc' := 256) dX12_known_254 rfl rfl ?_
        obtain rfl := Option.some.inj hf
        exact aw_ri dX12_known_256 rfl rfl (Nat.le_of_ble_eq_true rfl) (Nat.le_of_ble_eq_true rfl) ⟨rfl, rfl⟩
      replace hf := ifn c35 hf
      rcases Decidable.em (a0 = 2) with c36 | c36
      · replace hf := ifp c36 hf
        refine aw_tabIn (tgt := 257) (off := 36) dX12_known_221 (by rw [c36]; decide) (by rw [c36]; decide) (by rw [c36]; decide) (by decide) ?_
        refine aw_iload (pc' := 259) dX12_known_257 rfl rfl ?_
        obtain rfl := Option.some.inj hf
        exact aw_ri dX12_known_259 rfl rfl (Nat.le_of_ble_eq_true rfl) (Nat.le_of_ble_eq_true rfl) ⟨rfl, rfl⟩
      replace hf := ifn c36 hf
      rcases Decidable.em (a0 = 3) with c37 | c37
      · replace hf := ifp c37 hf
        refine aw_tabIn (tgt := 260) (off := 39) dX12_known_221 (by rw [c37]; decide) (by rw [c37]; decide) (by rw [c37]; decide) (by decide) ?_
        refine aw_iload (pc' := 262) dX12_known_260 rfl rfl ?_
        obtain rfl := Option.some.inj hf
        exact aw_ri dX12_known_262 rfl rfl (Nat.le_of_ble_eq_true rfl) (Nat.le_of_ble_eq_true rfl) ⟨rfl, rfl⟩
      replace hf := ifn c37 hf
      refine aw_tabOut (tgt := 263) dX12_known_221 (by have a0 := tneK (K := 0) (by decide) c34; have a1 := tneK (K := 1) (by decide) c35; have a2 := tneK (K := 2) (by decide) c36; have a3 := tneK (K := 3) (by decide) c37; omega) (by decide) ?_
      refine aw_iload (pc' := 265) dX12_known_263 rfl rfl ?_
      refine aw_iload (pc' := 267) dX12_known_265 rfl rfl ?_
      refine aw_icmp_ne (tgt := 276) (pc' := 270) dX12_known_267 (by decide) rfl (fun c38 => ?_) (fun c38 => ?_)
      · replace hf := ifn c38 hf
        refine aw_bipush (v := (-2)) (pc' := 278) dX12_known_276 rfl (by decide) ?_
        obtain rfl := Option.some.inj hf
        exact aw_ri dX12_known_278 rfl rfl (Nat.le_of_ble_eq_true rfl) (Nat.le_of_ble_eq_true rfl) ⟨rfl, rfl⟩
      · replace hf := ifp c38 hf
        refine aw_iload_n (pc' := 271) dX12_known_270 rfl rfl ?_
        refine aw_iload (pc' := 273) dX12_known_271 rfl rfl ?_
        refine aw_cle (tgt := 279) (pc' := 276) dX12_known_273 (by decide) rfl (fun c39 => ?_) (fun c39 => ?_)
        · replace hf := ifn c39 hf
          refine aw_iload_n (pc' := 280) dX12_known_279 rfl rfl ?_
          refine aw_iconst (v := 4) (pc' := 281) dX12_known_280 rfl (by decide) ?_
          refine aw_icmp_ne (tgt := 288) (pc' := 284) dX12_known_281 (by decide) rfl (fun c40 => ?_) (fun c40 => ?_)
          · replace hf := ifn c40 hf
            refine aw_iload (pc' := 290) dX12_known_288 rfl rfl ?_
            obtain rfl := Option.some.inj hf
            exact aw_ri dX12_known_290 rfl rfl (Nat.le_of_ble_eq_true rfl) (Nat.le_of_ble_eq_true rfl) ⟨rfl, rfl⟩
          · replace hf := ifp c40 hf
            refine aw_iload_n (pc' := 285) dX12_known_284 rfl rfl ?_
            refine aw_goto (tgt := 290) dX12_known_285 (by decide) ?_
            obtain rfl := Option.some.inj hf
            exact aw_ri dX12_known_290 rfl rfl (Nat.le_of_ble_eq_true rfl) (Nat.le_of_ble_eq_true rfl) ⟨rfl, rfl⟩
        · replace hf := ifp c39 hf
          refine aw_bipush (v := (-2)) (pc' := 278) dX12_known_276 rfl (by decide) ?_
          obtain rfl := Option.some.inj hf
          exact aw_ri dX12_known_278 rfl rfl (Nat.le_of_ble_eq_true rfl) (Nat.le_of_ble_eq_true rfl) ⟨rfl, rfl⟩
    · replace hf := ifp c33 hf
      refine aw_bipush (v := (-2)) (pc' := 219) dX12_known_217 rfl (by decide) ?_
      obtain rfl := Option.some.inj hf
      exact aw_ri dX12_known_219 rfl rfl (Nat.le_of_ble_eq_true rfl) (Nat.le_of_ble_eq_true rfl) ⟨rfl, rfl⟩
  · replace hf := ifp c2 hf
    refine aw_iconst (v := (-1)) (pc' := 10) dX12_known_9 rfl (by decide) ?_
    obtain rfl := Option.some.inj hf
    exact aw_ri dX12_known_10 rfl rfl (Nat.le_of_ble_eq_true rfl) (Nat.le_of_ble_eq_true rfl) ⟨rfl, rfl⟩
/-! ThirtyThreeBelowModel.feed -/
def f_X12_feed_L28_b (y1 : Int32) (y2 : Int32) (rc : SS → Int32 → Option (Int32 × SS)) (s : SS) (x3 : Int32) : Option (Int32 × SS) := (if x3 < y1 then (vl ((y2 >>> (((8 : Int32) * x3) &&& 31)).toInt8.toInt32) fun v5 => (vl ((zS s 59 37)) fun v6 => (gd (inB v6 160) (st (pI s 86 (v6.toInt.toNat) v5.toInt8.toInt32) fun s8 => (vl (((zS s8 59 37) + (1 : Int32))) fun v9 => (st (pS s8 59 37 v9) fun s10 => (vl (x3 + 1) fun v11 => (rc s10 v11)))))))) else some ((zS s 59 37), s))
def f_X12_feed_L28 (y1 : Int32) (y2 : Int32) : Nat → SS → Int32 → Option (Int32 × SS)
  | 0, _, _ => none
  | n + 1, s, x3 => f_X12_feed_L28_b y1 y2 (f_X12_feed_L28 y1 y2 n) s x3
set_option maxRecDepth 4000 in
theorem t_X12_feed_L28 {r9 : Int32} {s0 sb s9 : SS} {y1 : Int32} {y2 : Int32} (mb : Mo s0 sb)  : ∀ (n : Nat) (s : SS) (h : List aE) (x3 : Int32), HH s h → Mo sb s → f_X12_feed_L28 y1 y2 n s x3 = some (r9, s9) → AW mX12_feed (rmD (1) 0 0) (fin (PI fun r' h' => r9 = r' ∧ HH s9 h' ∧ Mo s0 s9) 0 0) 28 [some (.ref 67), some (.int y1), some (.int y2), some (.int x3)] [] h 0 0 := by
  intro n
  induction n with
  | zero =>
    intro s h x3 H ms hf
    cases hf
  | succ n ih =>
    intro s h x3 H ms hf
    replace hf : f_X12_feed_L28_b y1 y2 (f_X12_feed_L28 y1 y2 n) s x3 = some (r9, s9) := hf
    unfold f_X12_feed_L28_b at hf
    refine aw_iload_n (pc' := 29) dX12_feed_28 rfl rfl ?_
    refine aw_iload_n (pc' := 30) dX12_feed_29 rfl rfl ?_
    refine aw_cge (tgt := 65) (pc' := 33) dX12_feed_30 (by decide) rfl (fun c4 => ?_) (fun c4 => ?_)
    · replace hf := ifn c4 hf
      refine aw_aload_n (pc' := 66) dX12_feed_65 rfl rfl rfl ?_
      refine aw_gi (q := 59) (pc' := 69) H (H.fo rfl rfl) (by decide) rfl dX12_feed_66 rfl fl_RX12_316 ?_
      obtain ⟨rfl, rfl⟩ := so2 hf
      exact aw_ri dX12_feed_69 rfl rfl (Nat.le_of_ble_eq_true rfl) (Nat.le_of_ble_eq_true rfl) ⟨rfl, H, (mb.tr ms)⟩
    · replace hf := ifp c4 hf
      refine aw_aload_n (pc' := 34) dX12_feed_33 rfl rfl rfl ?_
      refine aw_gr (q := 59) (e := 55) (v := .ref 94) (pc' := 37) H (H.fo rfl rfl) (by decide) rfl rfl dX12_feed_34 rfl fl_RX12_96 ?_
      refine aw_aload_n (pc' := 38) dX12_feed_37 rfl rfl rfl ?_
      refine aw_gi (q := 59) (pc' := 41) H (H.fo rfl rfl) (by decide) rfl dX12_feed_38 rfl fl_RX12_316 ?_
      refine aw_iload_n (pc' := 42) dX12_feed_41 rfl rfl ?_
      refine aw_bipush (v := 8) (pc' := 44) dX12_feed_42 rfl (by decide) ?_
      refine aw_iload_n (pc' := 45) dX12_feed_44 rfl rfl ?_
      refine aw_imul (pc' := 46) dX12_feed_45 rfl ?_
      refine aw_ishr (pc' := 47) dX12_feed_46 rfl ?_
      refine aw_i2b (pc' := 48) dX12_feed_47 rfl ?_
      obtain ⟨v5, ev5, hf⟩ := vl_e hf
      refine aw_topi ev5 ?_
      obtain ⟨v6, ev6, hf⟩ := vl_e hf
      refine aw_sndi ev6 ?_
      obtain ⟨g7, hf⟩ := gd_e hf
      obtain ⟨s8, es8, hf⟩ := st_e hf
      refine aw_bs (q := 86) (pc' := 49) es8 H (H.fa rfl rfl rfl) g7 rfl dX12_feed_48 rfl (fun h8 H8 => ?_)
      have m8 := Mo.ofI es8
      refine aw_aload_n (pc' := 50) dX12_feed_49 rfl rfl rfl ?_
      refine aw_dup (pc' := 51) dX12_feed_50 rfl rfl ?_
      refine aw_gi (q := 59) (pc' := 54) H8 (H8.fo rfl rfl) (by decide) rfl dX12_feed_51 rfl fl_RX12_316 ?_
      refine aw_iconst (v := 1) (pc' := 55) dX12_feed_54 rfl (by decide) ?_
      refine aw_iadd (pc' := 56) dX12_feed_55 rfl ?_
      obtain ⟨v9, ev9, hf⟩ := vl_e hf
      refine aw_topi ev9 ?_
      obtain ⟨s10, es10, hf⟩ := st_e hf
      refine aw_pi (q := 59) (pc' := 59) es10 H8 (H8.fo rfl rfl) (by decide) rfl dX12_feed_56 rfl fl_RX12_316 rfl (fun h10 H10 => ?_)
      have m10 := Mo.ofS es10
      obtain ⟨v11, ev11, hf⟩ := vl_e hf
      refine aw_iincV (y := v11) (lv' := [_, _, _, _]) (pc' := 62) dX12_feed_59 rfl rfl (Nat.le_of_ble_eq_true rfl) ev11 rfl ?_
      refine aw_goto (tgt := 28) dX12_feed_62 (by decide) ?_
      exact ih _ _ _ H10 ((ms.tr m8).tr m10) hf
def f_X12_feed (s0 : SS) (a0 : Int32) (a1 : Int32) : Option (Int32 × SS) := (b1 (f_X12_in a0 (1 : Int32) (4 : Int32)) fun r1 => (if r1 = (0 : Int32) then some ((-1), s0) else (if (160 : Int32) < ((zS s0 59 37) + a0) then some ((-3), s0) else (f_X12_feed_L28 a0 a1 4000 s0 0))))
set_option maxRecDepth 4000 in
theorem t_X12_feed {r9 : Int32} {s0 s9 : SS} {h0 : List aE} {a0 : Int32} {a1 : Int32} (H0 : HH s0 h0) (hf : f_X12_feed s0 a0 a1 = some (r9, s9)) : AM mX12_feed (1) [.ref 67, .int a0, .int a1] h0 0 0 (PI fun r' h' => r9 = r' ∧ HH s9 h' ∧ Mo s0 s9) := by
  unfold f_X12_feed at hf
  refine am_of (lv := [some (.ref 67), some (.int a0), some (.int a1), none]) rfl (Nat.le_of_ble_eq_true rfl) rfl ?_
  refine aw_iload_n (pc' := 1) dX12_feed_0 rfl rfl ?_
  refine aw_iconst (v := 1) (pc' := 2) dX12_feed_1 rfl (by decide) ?_
  refine aw_iconst (v := 4) (pc' := 3) dX12_feed_2 rfl (by decide) ?_
  obtain ⟨r1, ec1, hf⟩ := b1_e hf
  refine aw_callSi (M' := mX12_in) (nc' := 0) (ns' := 0) (pc' := 6) dX12_feed_3 rfl ml_RX12_230 kX12_in (t_X12_in ec1) rfl rfl (Nat.le_of_ble_eq_true rfl) (rokD (by omega) (Nat.le_of_ble_eq_true rfl) (Nat.le_of_ble_eq_true rfl) (Nat.le_of_ble_eq_true rfl)) rfl rfl (fun _ h1 q1 => ?_)
  obtain ⟨rfl, rfl, zb1⟩ := q1
  refine aw_if_ne (tgt := 11) (pc' := 9) dX12_feed_6 (by decide) rfl (fun c2 => ?_) (fun c2 => ?_)
  · replace hf := ifn c2 hf
    refine aw_aload_n (pc' := 12) dX12_feed_11 rfl rfl rfl ?_
    refine aw_gi (q := 59) (pc' := 15) H0 (H0.fo rfl rfl) (by decide) rfl dX12_feed_12 rfl fl_RX12_316 ?_
    refine aw_iload_n (pc' := 16) dX12_feed_15 rfl rfl ?_
    refine aw_iadd (pc' := 17) dX12_feed_16 rfl ?_
    refine aw_sipush (v := 160) (pc' := 20) dX12_feed_17 rfl (by decide) ?_
    refine aw_cle (tgt := 26) (pc' := 23) dX12_feed_20 (by decide) rfl (fun c3 => ?_) (fun c3 => ?_)
    · replace hf := ifn c3 hf
      refine aw_iconst (v := 0) (pc' := 27) dX12_feed_26 rfl (by decide) ?_
      refine aw_istore_n (lv' := [_, _, _, _]) (pc' := 28) dX12_feed_27 rfl (Nat.le_of_ble_eq_true rfl) rfl ?_
      refine t_X12_feed_L28 (Mo.rf _)  4000 _ _ _ H0 (Mo.rf _) hf
    · replace hf := ifp c3 hf
      refine aw_bipush (v := (-3)) (pc' := 25) dX12_feed_23 rfl (by decide) ?_
      obtain ⟨rfl, rfl⟩ := so2 hf
      exact aw_ri dX12_feed_25 rfl rfl (Nat.le_of_ble_eq_true rfl) (Nat.le_of_ble_eq_true rfl) ⟨rfl, H0, (Mo.rf _)⟩
  · replace hf := ifp c2 hf
    refine aw_iconst (v := (-1)) (pc' := 10) dX12_feed_9 rfl (by decide) ?_
    obtain ⟨rfl, rfl⟩ := so2 hf
    exact aw_ri dX12_feed_10 rfl rfl (Nat.le_of_ble_eq_true rfl) (Nat.le_of_ble_eq_true rfl) ⟨rfl, H0, (Mo.rf _)⟩
/-! ThirtyThreeBelowModel.look -/
def f_X12_look (s0 : SS)  : Option Int32 := (if (zS s0 59 47) < (zS s0 59 37) then (vl ((zS s0 59 47)) fun v2 => (gd (inB v2 160) some (zI s0 86 (v2.toInt.toNat)))) else some (-1))
set_option maxRecDepth 4000 in
theorem t_X12_look {r9 : Int32} {s0 : SS} {h0 : List aE}  (H0 : HH s0 h0) (hf : f_X12_look s0 = some r9) : AM mX12_look (0) [.ref 67] h0 0 0 (PI fun r' h' => r9 = r' ∧ h0 = h') := by
  unfold f_X12_look at hf
  refine am_of (lv := [some (.ref 67)]) rfl (Nat.le_of_ble_eq_true rfl) rfl ?_
  refine aw_aload_n (pc' := 1) dX12_look_0 rfl rfl rfl ?_
  refine aw_gi (q := 59) (pc' := 4) H0 (H0.fo rfl rfl) (by decide) rfl dX12_look_1 rfl fl_RX12_319 ?_
  refine aw_aload_n (pc' := 5) dX12_look_4 rfl rfl rfl ?_
  refine aw_gi (q := 59) (pc' := 8) H0 (H0.fo rfl rfl) (by decide) rfl dX12_look_5 rfl fl_RX12_316 ?_
  refine aw_cge (tgt := 23) (pc' := 11) dX12_look_8 (by decide) rfl (fun c1 => ?_) (fun c1 => ?_)
  · replace hf := ifn c1 hf
    refine aw_iconst (v := (-1)) (pc' := 24) dX12_look_23 rfl (by decide) ?_
    obtain rfl := Option.some.inj hf
    exact aw_ri dX12_look_24 rfl rfl (Nat.le_of_ble_eq_true rfl) (Nat.le_of_ble_eq_true rfl) ⟨rfl, rfl⟩
  · replace hf := ifp c1 hf
    refine aw_aload_n (pc' := 12) dX12_look_11 rfl rfl rfl ?_
    refine aw_gr (q := 59) (e := 55) (v := .ref 94) (pc' := 15) H0 (H0.fo rfl rfl) (by decide) rfl rfl dX12_look_12 rfl fl_RX12_96 ?_
    refine aw_aload_n (pc' := 16) dX12_look_15 rfl rfl rfl ?_
    refine aw_gi (q := 59) (pc' := 19) H0 (H0.fo rfl rfl) (by decide) rfl dX12_look_16 rfl fl_RX12_319 ?_
    obtain ⟨v2, ev2, hf⟩ := vl_e hf
    refine aw_topi ev2 ?_
    obtain ⟨g3, hf⟩ := gd_e hf
    refine aw_ba (q := 86) (pc' := 20) H0 (H0.fa rfl rfl rfl) g3 dX12_look_19 rfl ?_
    refine aw_goto (tgt := 24) dX12_look_20 (by decide) ?_
    obtain rfl := Option.some.inj hf
    exact aw_ri dX12_look_24 rfl rfl (Nat.le_of_ble_eq_true rfl) (Nat.le_of_ble_eq_true rfl) ⟨rfl, rfl⟩
/-! ThirtyThreeBelowModel.faultHere -/
def f_X12_faultHere (s0 : SS)  : Option SS := (if (zS s0 59 48) < (0 : Int32) then (vl ((zS s0 59 47)) fun v2 => (st (pS s0 59 48 v2) fun s3 => some s3)) else some s0)
set_option maxRecDepth 4000 in
theorem t_X12_faultHere {s0 s9 : SS} {h0 : List aE}  (H0 : HH s0 h0) (hf : f_X12_faultHere s0 = some s9) : AM mX12_faultHere (0) [.ref 67] h0 0 0 (PV fun h' => HH s9 h' ∧ Mo s0 s9) := by
  unfold f_X12_faultHere at hf
  refine am_of (lv := [some (.ref 67)]) rfl (Nat.le_of_ble_eq_true rfl) rfl ?_
  refine aw_aload_n (pc' := 1) dX12_faultHere_0 rfl rfl rfl ?_
  refine aw_gi (q := 59) (pc' := 4) H0 (H0.fo rfl rfl) (by decide) rfl dX12_faultHere_1 rfl fl_RX12_322 ?_
  refine aw_zge (tgt := 15) (pc' := 7) dX12_faultHere_4 (by decide) rfl (fun c1 => ?_) (fun c1 => ?_)
  · replace hf := ifn c1 hf
    obtain rfl := Option.some.inj hf
    exact aw_rv dX12_faultHere_15 rfl (Nat.le_of_ble_eq_true rfl) (Nat.le_of_ble_eq_true rfl) ⟨H0, (Mo.rf _)⟩
  · replace hf := ifp c1 hf
    refine aw_aload_n (pc' := 8) dX12_faultHere_7 rfl rfl rfl ?_
    refine aw_aload_n (pc' := 9) dX12_faultHere_8 rfl rfl rfl ?_
    refine aw_gi (q := 59) (pc' := 12) H0 (H0.fo rfl rfl) (by decide) rfl dX12_faultHere_9 rfl fl_RX12_319 ?_
    obtain ⟨v2, ev2, hf⟩ := vl_e hf
    refine aw_topi ev2 ?_
    obtain ⟨s3, es3, hf⟩ := st_e hf
    refine aw_pi (q := 59) (pc' := 15) es3 H0 (H0.fo rfl rfl) (by decide) rfl dX12_faultHere_12 rfl fl_RX12_322 rfl (fun h3 H3 => ?_)
    have m3 := Mo.ofS es3
    obtain rfl := Option.some.inj hf
    exact aw_rv dX12_faultHere_15 rfl (Nat.le_of_ble_eq_true rfl) (Nat.le_of_ble_eq_true rfl) ⟨H3, m3⟩
/-! ThirtyThreeBelowModel.lay -/
def f_X12_lay (s0 : SS) (a0 : Int32) (a1 : Int32) : Option SS := (vl ((((170 : Int32) * (zS s0 59 50)) + (zS s0 59 51))) fun v1 => (gd (inB v1 2890) (st (pI s0 93 (v1.toInt.toNat) a0) fun s3 => (vl ((((170 : Int32) * (zS s3 59 50)) + (zS s3 59 51))) fun v4 => (gd (inB v4 2890) (st (pI s3 94 (v4.toInt.toNat) a1) fun s6 => (vl (((zS s6 59 51) + (1 : Int32))) fun v7 => (st (pS s6 59 51 v7) fun s8 => some s8))))))))
set_option maxRecDepth 4000 in
theorem t_X12_lay {s0 s9 : SS} {h0 : List aE} {a0 : Int32} {a1 : Int32} (H0 : HH s0 h0) (hf : f_X12_lay s0 a0 a1 = some s9) : AM mX12_lay (0) [.ref 67, .int a0, .int a1] h0 0 0 (PV fun h' => HH s9 h' ∧ Mo s0 s9) := by
  unfold f_X12_lay at hf
  refine am_of (lv := [some (.ref 67), some (.int a0), some (.int a1)]) rfl (Nat.le_of_ble_eq_true rfl) rfl ?_
  refine aw_aload_n (pc' := 1) dX12_lay_0 rfl rfl rfl ?_
  refine aw_gr (q := 59) (e := 69) (v := .ref 101) (pc' := 4) H0 (H0.fo rfl rfl) (by decide) rfl rfl dX12_lay_1 rfl fl_RX12_118 ?_
  refine aw_sipush (v := 170) (pc' := 7) dX12_lay_4 rfl (by decide) ?_
  refine aw_aload_n (pc' := 8) dX12_lay_7 rfl rfl rfl ?_
  refine aw_gi (q := 59) (pc' := 11) H0 (H0.fo rfl rfl) (by decide) rfl dX12_lay_8 rfl fl_RX12_325 ?_
  refine aw_imul (pc' := 12) dX12_lay_11 rfl ?_
  refine aw_aload_n (pc' := 13) dX12_lay_12 rfl rfl rfl ?_
  refine aw_gi (q := 59) (pc' := 16) H0 (H0.fo rfl rfl) (by decide) rfl dX12_lay_13 rfl fl_RX12_328 ?_
  refine aw_iadd (pc' := 17) dX12_lay_16 rfl ?_
  refine aw_iload_n (pc' := 18) dX12_lay_17 rfl rfl ?_
  obtain ⟨v1, ev1, hf⟩ := vl_e hf
  refine aw_sndi ev1 ?_
  obtain ⟨g2, hf⟩ := gd_e hf
  obtain ⟨s3, es3, hf⟩ := st_e hf
  refine aw_is (q := 93) (pc' := 19) es3 H0 (H0.fa rfl rfl rfl) g2 dX12_lay_18 rfl (fun h3 H3 => ?_)
  have m3 := Mo.ofI es3
  refine aw_aload_n (pc' := 20) dX12_lay_19 rfl rfl rfl ?_
  refine aw_gr (q := 59) (e := 71) (v := .ref 102) (pc' := 23) H3 (H3.fo rfl rfl) (by decide) rfl rfl dX12_lay_20 rfl fl_RX12_121 ?_
  refine aw_sipush (v := 170) (pc' := 26) dX12_lay_23 rfl (by decide) ?_
  refine aw_aload_n (pc' := 27) dX12_lay_26 rfl rfl rfl ?_
  refine aw_gi (q := 59) (pc' := 30) H3 (H3.fo rfl rfl) (by decide) rfl dX12_lay_27 rfl fl_RX12_325 ?_
  refine aw_imul (pc' := 31) dX12_lay_30 rfl ?_
  refine aw_aload_n (pc' := 32) dX12_lay_31 rfl rfl rfl ?_
  refine aw_gi (q := 59) (pc' := 35) H3 (H3.fo rfl rfl) (by decide) rfl dX12_lay_32 rfl fl_RX12_328 ?_
  refine aw_iadd (pc' := 36) dX12_lay_35 rfl ?_
  refine aw_iload_n (pc' := 37) dX12_lay_36 rfl rfl ?_
  obtain ⟨v4, ev4, hf⟩ := vl_e hf
  refine aw_sndi ev4 ?_
  obtain ⟨g5, hf⟩ := gd_e hf
  obtain ⟨s6, es6, hf⟩ := st_e hf
  refine aw_is (q := 94) (pc' := 38) es6 H3 (H3.fa rfl rfl rfl) g5 dX12_lay_37 rfl (fun h6 H6 => ?_)
  have m6 := Mo.ofI es6
  refine aw_aload_n (pc' := 39) dX12_lay_38 rfl rfl rfl ?_
  refine aw_dup (pc' := 40) dX12_lay_39 rfl rfl ?_
  refine aw_gi (q := 59) (pc' := 43) H6 (H6.fo rfl rfl) (by decide) rfl dX12_lay_40 rfl fl_RX12_328 ?_
  refine aw_iconst (v := 1) (pc' := 44) dX12_lay_43 rfl (by decide) ?_
  refine aw_iadd (pc' := 45) dX12_lay_44 rfl ?_
  obtain ⟨v7, ev7, hf⟩ := vl_e hf
  refine aw_topi ev7 ?_
  obtain ⟨s8, es8, hf⟩ := st_e hf
  refine aw_pi (q := 59) (pc' := 48) es8 H6 (H6.fo rfl rfl) (by decide) rfl dX12_lay_45 rfl fl_RX12_328 rfl (fun h8 H8 => ?_)
  have m8 := Mo.ofS es8
  obtain rfl := Option.some.inj hf
  exact aw_rv dX12_lay_48 rfl (Nat.le_of_ble_eq_true rfl) (Nat.le_of_ble_eq_true rfl) ⟨H8, ((m3.tr m6).tr m8)⟩
/-! ThirtyThreeBelowModel.opens -/
def f_X12_opens (s0 : SS)  : Option (Int32 × SS) := (if (zS s0 59 49) = (8 : Int32) then (b1 (f_X12_faultHere s0) fun s6 => some (0, s6)) else (vl (((zS s0 59 49) + (1 : Int32))) fun v2 => (st (pS s0 59 49 v2) fun s3 => (vl (((zS s3 59 47) + (1 : Int32))) fun v4 => (st (pS s3 59 47 v4) fun s5 => some (1, s5))))))
set_option maxRecDepth 4000 in
theorem t_X12_opens {r9 : Int32} {s0 s9 : SS} {h0 : List aE}  (H0 : HH s0 h0) (hf : f_X12_opens s0 = some (r9, s9)) : AM mX12_opens (1) [.ref 67] h0 0 0 (PI fun r' h' => r9 = r' ∧ HH s9 h' ∧ Mo s0 s9 ∧ (r9 = 0 ∨ r9 = 1)) := by
  unfold f_X12_opens at hf
  refine am_of (lv := [some (.ref 67)]) rfl (Nat.le_of_ble_eq_true rfl) rfl ?_
  refine aw_aload_n (pc' := 1) dX12_opens_0 rfl rfl rfl ?_
  refine aw_gi (q := 59) (pc' := 4) H0 (H0.fo rfl rfl) (by decide) rfl dX12_opens_1 rfl fl_RX12_331 ?_
  refine aw_bipush (v := 8) (pc' := 6) dX12_opens_4 rfl (by decide) ?_
  refine aw_icmp_ne (tgt := 15) (pc' := 9) dX12_opens_6 (by decide) rfl (fun c1 => ?_) (fun c1 => ?_)
  · replace hf := ifn c1 hf
    refine aw_aload_n (pc' := 16) dX12_opens_15 rfl rfl rfl ?_
    refine aw_dup (pc' := 17) dX12_opens_16 rfl rfl ?_
    refine aw_gi (q := 59) (pc' := 20) H0 (H0.fo rfl rfl) (by decide) rfl dX12_opens_17 rfl fl_RX12_331 ?_
    refine aw_iconst (v := 1) (pc' := 21) dX12_opens_20 rfl (by decide) ?_
    refine aw_iadd (pc' := 22) dX12_opens_21 rfl ?_
    obtain ⟨v2, ev2, hf⟩ := vl_e hf
    refine aw_topi ev2 ?_
    obtain ⟨s3, es3, hf⟩ := st_e hf
    refine aw_pi (q := 59) (pc' := 25) es3 H0 (H0.fo rfl rfl) (by decide) rfl dX12_opens_22 rfl fl_RX12_331 rfl (fun h3 H3 => ?_)
    have m3 := Mo.ofS es3
    refine aw_aload_n (pc' := 26) dX12_opens_25 rfl rfl rfl ?_
    refine aw_dup (pc' := 27) dX12_opens_26 rfl rfl ?_
    refine aw_gi (q := 59) (pc' := 30) H3 (H3.fo rfl rfl) (by decide) rfl dX12_opens_27 rfl fl_RX12_319 ?_
    refine aw_iconst (v := 1) (pc' := 31) dX12_opens_30 rfl (by decide) ?_
    refine aw_iadd (pc' := 32) dX12_opens_31 rfl ?_
    obtain ⟨v4, ev4, hf⟩ := vl_e hf
    refine aw_topi ev4 ?_
    obtain ⟨s5, es5, hf⟩ := st_e hf
    refine aw_pi (q := 59) (pc' := 35) es5 H3 (H3.fo rfl rfl) (by decide) rfl dX12_opens_32 rfl fl_RX12_319 rfl (fun h5 H5 => ?_)
    have m5 := Mo.ofS es5
    refine aw_iconst (v := 1) (pc' := 36) dX12_opens_35 rfl (by decide) ?_
    obtain ⟨rfl, rfl⟩ := so2 hf
    exact aw_ri dX12_opens_36 rfl (by decide) (Nat.le_of_ble_eq_true rfl) (Nat.le_of_ble_eq_true rfl) ⟨rfl, H5, (m3.tr m5), Or.inr rfl⟩
  · replace hf := ifp c1 hf
    refine aw_aload_n (pc' := 10) dX12_opens_9 rfl rfl rfl ?_
    obtain ⟨s6, ec6, hf⟩ := b1_e hf
    refine aw_callVv (M' := mX12_faultHere) (nc' := 0) (ns' := 0) (pc' := 13) dX12_opens_10 rfl ml_RX12_334 kX12_faultHere (t_X12_faultHere H0 ec6) (H0.ob (H0.fo rfl rfl) (by decide)) rfl rfl rfl (Nat.le_of_ble_eq_true rfl) (rokD (by omega) (Nat.le_of_ble_eq_true rfl) (Nat.le_of_ble_eq_true rfl) (Nat.le_of_ble_eq_true rfl)) rfl rfl (fun h6 q6 => ?_)
    obtain ⟨H6, m6⟩ := q6
    refine aw_iconst (v := 0) (pc' := 14) dX12_opens_13 rfl (by decide) ?_
    obtain ⟨rfl, rfl⟩ := so2 hf
    exact aw_ri dX12_opens_14 rfl (by decide) (Nat.le_of_ble_eq_true rfl) (Nat.le_of_ble_eq_true rfl) ⟨rfl, H6, m6, Or.inl rfl⟩
/-! ThirtyThreeBelowModel.nameOf -/
def f_X12_nameOf (a0 : Int32) : Option Int32 := (if a0 = 100 then some 1 else (if a0 = 101 then some (-1) else (if a0 = 102 then some 6 else (if a0 = 103 then some (-1) else (if a0 = 104 then some 0 else (if a0 = 105 then some 4 else (if a0 = 106 then some (-1) else (if a0 = 107 then some 3 else (if a0 = 108 then some (-1) else (if a0 = 109 then some (-1) else (if a0 = 110 then some 5 else (if a0 = 111 then some (-1) else (if a0 = 112 then some (-1) else (if a0 = 113 then some (-1) else (if a0 = 114 then some (-1) else (if a0 = 115 then some 2 else (if a0 = 116 then some 7 else some (-1))))))))))))))))))
set_option maxRecDepth 4000 in
theorem t_X12_nameOf {r9 : Int32} {h0 : List aE} {a0 : Int32}  (hf : f_X12_nameOf a0 = some r9) : AM mX12_nameOf (0) [.int a0] h0 0 0 (PI fun r' h' => r9 = r' ∧ h0 = h') := by
  unfold f_X12_nameOf at hf
  refine am_of (lv := [some (.int a0)]) rfl (Nat.le_of_ble_eq_true rfl) rfl ?_
  refine aw_iload_n (pc' := 1) dX12_nameOf_0 rfl rfl ?_
  rcases Decidable.em (a0 = 100) with c1 | c1
  · replace hf := ifp c1 hf
    refine aw_tabIn (tgt := 86) (off := 85) dX12_nameOf_1 (by rw [c1]; decide) (by rw [c1]; decide) (by rw [c1]; decide) (by decide) ?_
    refine aw_iconst (v := 1) (pc' := 87) dX12_nameOf_86 rfl (by decide) ?_
    obtain rfl := Option.some.inj hf
    exact aw_ri dX12_nameOf_87 rfl rfl (Nat.le_of_ble_eq_true rfl) (Nat.le_of_ble_eq_true rfl) ⟨rfl, rfl⟩
  replace hf := ifn c1 hf
  rcases Decidable.em (a0 = 101) with c2 | c2
  · replace hf := ifp c2 hf
    refine aw_tabIn (tgt := 102) (off := 101) dX12_nameOf_1 (by rw [c2]; decide) (by rw [c2]; decide) (by rw [c2]; decide) (by decide) ?_
    refine aw_iconst (v := (-1)) (pc' := 103) dX12_nameOf_102 rfl (by decide) ?_
    obtain rfl := Option.some.inj hf
    exact aw_ri dX12_nameOf_103 rfl rfl (Nat.le_of_ble_eq_true rfl) (Nat.le_of_ble_eq_true rfl) ⟨rfl, rfl⟩
  replace hf := ifn c2 hf
  rcases Decidable.em (a0 = 102) with c3 | c3
  · replace hf := ifp c3 hf
    refine aw_tabIn (tgt := 96) (off := 95) dX12_nameOf_1 (by rw [c3]; decide) (by rw [c3]; decide) (by rw [c3]; decide) (by decide) ?_
    refine aw_bipush (v := 6) (pc' := 98) dX12_nameOf_96 rfl (by decide) ?_
    obtain rfl := Option.some.inj hf
    exact aw_ri dX12_nameOf_98 rfl rfl (Nat.le_of_ble_eq_true rfl) (Nat.le_of_ble_eq_true rfl) ⟨rfl, rfl⟩
  replace hf := ifn c3 hf
  rcases Decidable.em (a0 = 103) with c4 | c4
  · replace hf := ifp c4 hf
    refine aw_tabIn (tgt := 102) (off := 101) dX12_nameOf_1 (by rw [c4]; decide) (by rw [c4]; decide) (by rw [c4]; decide) (by decide) ?_
    refine aw_iconst (v := (-1)) (pc' := 103) dX12_nameOf_102 rfl (by decide) ?_
    obtain rfl := Option.some.inj hf
    exact aw_ri dX12_nameOf_103 rfl rfl (Nat.le_of_ble_eq_true rfl) (Nat.le_of_ble_eq_true rfl) ⟨rfl, rfl⟩
  replace hf := ifn c4 hf
  rcases Decidable.em (a0 = 104) with c5 | c5
  · replace hf := ifp c5 hf
    refine aw_tabIn (tgt := 84) (off := 83) dX12_nameOf_1 (by rw [c5]; decide) (by rw [c5]; decide) (by rw [c5]; decide) (by decide) ?_
    refine aw_iconst (v := 0) (pc' := 85) dX12_nameOf_84 rfl (by decide) ?_
    obtain rfl := Option.some.inj hf
    exact aw_ri dX12_nameOf_85 rfl rfl (Nat.le_of_ble_eq_true rfl) (Nat.le_of_ble_eq_true rfl) ⟨rfl, rfl⟩
  replace hf := ifn c5 hf
  rcases Decidable.em (a0 = 105) with c6 | c6
  · replace hf := ifp c6 hf
    refine aw_tabIn (tgt := 92) (off := 91) dX12_nameOf_1 (by rw [c6]; decide) (by rw [c6]; decide) (by rw [c6]; decide) (by decide) ?_
    refine aw_iconst (v := 4) (pc' := 93) dX12_nameOf_92 rfl (by decide) ?_
    obtain rfl := Option.some.inj hf
    exact aw_ri dX12_nameOf_93 rfl rfl (Nat.le_of_ble_eq_true rfl) (Nat.le_of_ble_eq_true rfl) ⟨rfl, rfl⟩
  replace hf := ifn c6 hf
  rcases Decidable.em (a0 = 106) with c7 | c7
  · replace hf := ifp c7 hf
    refine aw_tabIn (tgt := 102) (off := 101) dX12_nameOf_1 (by rw [c7]; decide) (by rw [c7]; decide) (by rw [c7]; decide) (by decide) ?_
    refine aw_iconst (v := (-1)) (pc' := 103) dX12_nameOf_102 rfl (by decide) ?_
    obtain rfl := Option.some.inj hf
    exact aw_ri dX12_nameOf_103 rfl rfl (Nat.le_of_ble_eq_true rfl) (Nat.le_of_ble_eq_true rfl) ⟨rfl, rfl⟩
  replace hf := ifn c7 hf
  rcases Decidable.em (a0 = 107) with c8 | c8
  · replace hf := ifp c8 hf
    refine aw_tabIn (tgt := 90) (off := 89) dX12_nameOf_1 (by rw [c8]; decide) (by rw [c8]; decide) (by rw [c8]; decide) (by decide) ?_
    refine aw_iconst (v := 3) (pc' := 91) dX12_nameOf_90 rfl (by decide) ?_
    obtain rfl := Option.some.inj hf
    exact aw_ri dX12_nameOf_91 rfl rfl (Nat.le_of_ble_eq_true rfl) (Nat.le_of_ble_eq_true rfl) ⟨rfl, rfl⟩
  replace hf := ifn c8 hf
  rcases Decidable.em (a0 = 108) with c9 | c9
  · replace hf := ifp c9 hf
    refine aw_tabIn (tgt := 102) (off := 101) dX12_nameOf_1 (by rw [c9]; decide) (by rw [c9]; decide) (by rw [c9]; decide) (by decide) ?_
    refine aw_iconst (v := (-1)) (pc' := 103) dX12_nameOf_102 rfl (by decide) ?_
    obtain rfl := Option.some.inj hf
    exact aw_ri dX12_nameOf_103 rfl rfl (Nat.le_of_ble_eq_true rfl) (Nat.le_of_ble_eq_true rfl) ⟨rfl, rfl⟩
  replace hf := ifn c9 hf
  rcases Decidable.em (a0 = 109) with c10 | c10
  · replace hf := ifp c10 hf
    refine aw_tabIn (tgt := 102) (off := 101) dX12_nameOf_1 (by rw [c10]; decide) (by rw [c10]; decide) (by rw [c10]; decide) (by decide) ?_
    refine aw_iconst (v := (-1)) (pc' := 103) dX12_nameOf_102 rfl (by decide) ?_
    obtain rfl := Option.some.inj hf
    exact aw_ri dX12_nameOf_103 rfl rfl (Nat.le_of_ble_eq_true rfl) (Nat.le_of_ble_eq_true rfl) ⟨rfl, rfl⟩
  replace hf := ifn c10 hf
  rcases Decidable.em (a0 = 110) with c11 | c11
  · replace hf := ifp c11 hf
    refine aw_tabIn (tgt := 94) (off := 93) dX12_nameOf_1 (by rw [c11]; decide) (by rw [c11]; decide) (by rw [c11]; decide) (by decide) ?_
    refine aw_iconst (v := 5) (pc' := 95) dX12_nameOf_94 rfl (by decide) ?_
    obtain rfl := Option.some.inj hf
    exact aw_ri dX12_nameOf_95 rfl rfl (Nat.le_of_ble_eq_true rfl) (Nat.le_of_ble_eq_true rfl) ⟨rfl, rfl⟩
  replace hf := ifn c11 hf
  rcases Decidable.em (a0 = 111) with c12 | c12
  · replace hf := ifp c12 hf
    refine aw_tabIn (tgt := 102) (off := 101) dX12_nameOf_1 (by rw [c12]; decide) (by rw [c12]; decide) (by rw [c12]; decide) (by decide) ?_
    refine aw_iconst (v := (-1)) (pc' := 103) dX12_nameOf_102 rfl (by decide) ?_
    obtain rfl := Option.some.inj hf
    exact aw_ri dX12_nameOf_103 rfl rfl (Nat.le_of_ble_eq_true rfl) (Nat.le_of_ble_eq_true rfl) ⟨rfl, rfl⟩
  replace hf := ifn c12 hf
  rcases Decidable.em (a0 = 112) with c13 | c13
  · replace hf := ifp c13 hf
    refine aw_tabIn (tgt := 102) (off := 101) dX12_nameOf_1 (by rw [c13]; decide) (by rw [c13]; decide) (by rw [c13]; decide) (by decide) ?_
    refine aw_iconst (v := (-1)) (pc' := 103) dX12_nameOf_102 rfl (by decide) ?_
    obtain rfl := Option.some.inj hf
    exact aw_ri dX12_nameOf_103 rfl rfl (Nat.le_of_ble_eq_true rfl) (Nat.le_of_ble_eq_true rfl) ⟨rfl, rfl⟩
  replace hf := ifn c13 hf
  rcases Decidable.em (a0 = 113) with c14 | c14
  · replace hf := ifp c14 hf
    refine aw_tabIn (tgt := 102) (off := 101) dX12_nameOf_1 (by rw [c14]; decide) (by rw [c14]; decide) (by rw [c14]; decide) (by decide) ?_
    refine aw_iconst (v := (-1)) (pc' := 103) dX12_nameOf_102 rfl (by decide) ?_
    obtain rfl := Option.some.inj hf
    exact aw_ri dX12_nameOf_103 rfl rfl (Nat.le_of_ble_eq_true rfl) (Nat.le_of_ble_eq_true rfl) ⟨rfl, rfl⟩
  replace hf := ifn c14 hf
  rcases Decidable.em (a0 = 114) with c15 | c15
  · replace hf := ifp c15 hf
    refine aw_tabIn (tgt := 102) (off := 101) dX12_nameOf_1 (by rw [c15]; decide) (by rw [c15]; decide) (by rw [c15]; decide) (by decide) ?_
    refine aw_iconst (v := (-1)) (pc' := 103) dX12_nameOf_102 rfl (by decide) ?_
    obtain rfl := Option.some.inj hf
    exact aw_ri dX12_nameOf_103 rfl rfl (Nat.le_of_ble_eq_true rfl) (Nat.le_of_ble_eq_true rfl) ⟨rfl, rfl⟩
  replace hf := ifn c15 hf
  rcases Decidable.em (a0 = 115) with c16 | c16
  · replace hf := ifp c16 hf
    refine aw_tabIn (tgt := 88) (off := 87) dX12_nameOf_1 (by rw [c16]; decide) (by rw [c16]; decide) (by rw [c16]; decide) (by decide) ?_
    refine aw_iconst (v := 2) (pc' := 89) dX12_nameOf_88 rfl (by decide) ?_
    obtain rfl := Option.some.inj hf
    exact aw_ri dX12_nameOf_89 rfl rfl (Nat.le_of_ble_eq_true rfl) (Nat.le_of_ble_eq_true rfl) ⟨rfl, rfl⟩
  replace hf := ifn c16 hf
  rcases Decidable.em (a0 = 116) with c17 | c17
  · replace hf := ifp c17 hf
    refine aw_tabIn (tgt := 99) (off := 98) dX12_nameOf_1 (by rw [c17]; decide) (by rw [c17]; decide) (by rw [c17]; decide) (by decide) ?_
    refine aw_bipush (v := 7) (pc' := 101) dX12_nameOf_99 rfl (by decide) ?_
    obtain rfl := Option.some.inj hf
    exact aw_ri dX12_nameOf_101 rfl rfl (Nat.le_of_ble_eq_true rfl) (Nat.le_of_ble_eq_true rfl) ⟨rfl, rfl⟩
  replace hf := ifn c17 hf
  refine aw_tabOut (tgt := 102) dX12_nameOf_1 (by have a0 := tneK (K := 100) (by decide) c1; have a1 := tneK (K := 101) (by decide) c2; have a2 := tneK (K := 102) (by decide) c3; have a3 := tneK (K := 103) (by decide) c4; have a4 := tneK (K := 104) (by decide) c5; have a5 := tneK (K := 105) (by decide) c6; have a6 := tneK (K := 106) (by decide) c7; have a7 := tneK (K := 107) (by decide) c8; have a8 := tneK (K := 108) (by decide) c9; have a9 := tneK (K := 109) (by decide) c10; have a10 := tneK (K := 110) (by decide) c11; have a11 := tneK (K := 111) (by decide) c12; have a12 := tneK (K := 112) (by decide) c13; have a13 := tneK (K := 113) (by decide) c14; have a14 := tneK (K := 114) (by decide) c15; have a15 := tneK (K := 115) (by decide) c16; have a16 := tneK (K := 116) (by decide) c17; omega) (by decide) ?_
  refine aw_iconst (v := (-1)) (pc' := 103) dX12_nameOf_102 rfl (by decide) ?_
  obtain rfl := Option.some.inj hf
  exact aw_ri dX12_nameOf_103 rfl rfl (Nat.le_of_ble_eq_true rfl) (Nat.le_of_ble_eq_true rfl) ⟨rfl, rfl⟩
/-! ThirtyThreeBelowModel.product -/
def f_X12_product_L4_b (rec : SS → Option SS) (rc : SS → Option SS) (s : SS) : Option SS := (if (zS s 59 48) < (0 : Int32) then (b1 (f_X12_look s) fun r3 => (jn ((b1 (f_X12_look s) fun r5 => (vl (((zS s 59 47) + (1 : Int32))) fun v6 => (st (pS s 59 47 v6) fun s7 => (b1 (rec s7) fun s8 => (b1 (f_X12_lay s8 r5 0) fun s9 => (rc s9))))))) fun k4 => (if r3 = (42 : Int32) then k4 else (b1 (f_X12_look s) fun r11 => (if r11 = (47 : Int32) then k4 else (b1 (f_X12_look s) fun r13 => (if r13 = (37 : Int32) then k4 else some s))))))) else some s)
def f_X12_product_L4 (rec : SS → Option SS) : Nat → SS → Option SS
  | 0, _ => none
  | n + 1, s => f_X12_product_L4_b rec (f_X12_product_L4 rec n) s
set_option maxRecDepth 4000 in
theorem t_X12_product_L4 {Dr : Nat} {rec : SS → Option SS} (hrec : ∀ {s0 s9 : SS} {h0 : List aE}, HH s0 h0 → rec s0  = some s9 → AM mX12_operand Dr [.ref 67] h0 0 0 (PV fun h' => HH s9 h' ∧ Mo s0 s9)) {s0 sb s9 : SS} (mb : Mo s0 sb)  : ∀ (n : Nat) (s : SS) (h : List aE), HH s h → Mo sb s → f_X12_product_L4 rec n s = some s9 → AW mX12_product (rmD (Dr + 1) 0 0) (fin (PV fun h' => HH s9 h' ∧ Mo s0 s9) 0 0) 4 [some (.ref 67), none] [] h 0 0 := by
  intro n
  induction n with
  | zero =>
    intro s h H ms hf
    cases hf
  | succ n ih =>
    intro s h H ms hf
    replace hf : f_X12_product_L4_b rec (f_X12_product_L4 rec n) s = some s9 := hf
    unfold f_X12_product_L4_b at hf
    refine aw_aload_n (pc' := 5) dX12_product_4 rfl rfl rfl ?_
    refine aw_gi (q := 59) (pc' := 8) H (H.fo rfl rfl) (by decide) rfl dX12_product_5 rfl fl_RX12_322 ?_
    refine aw_zge (tgt := 66) (pc' := 11) dX12_product_8 (by decide) rfl (fun c2 => ?_) (fun c2 => ?_)
    · replace hf := ifn c2 hf
      obtain rfl := Option.some.inj hf
      exact aw_rv dX12_product_66 rfl (Nat.le_of_ble_eq_true rfl) (Nat.le_of_ble_eq_true rfl) ⟨H, (mb.tr ms)⟩
    · replace hf := ifp c2 hf
      refine aw_aload_n (pc' := 12) dX12_product_11 rfl rfl rfl ?_
      obtain ⟨r3, ec3, hf⟩ := b1_e hf
      refine aw_callVi (M' := mX12_look) (nc' := 0) (ns' := 0) (pc' := 15) dX12_product_12 rfl ml_RX12_337 kX12_look (t_X12_look H ec3) (H.ob (H.fo rfl rfl) (by decide)) rfl rfl rfl (Nat.le_of_ble_eq_true rfl) (rokD (by omega) (Nat.le_of_ble_eq_true rfl) (Nat.le_of_ble_eq_true rfl) (Nat.le_of_ble_eq_true rfl)) rfl rfl (fun _ h3 q3 => ?_)
      obtain ⟨rfl, rfl⟩ := q3
      refine aw_bipush (v := 42) (pc' := 17) dX12_product_15 rfl (by decide) ?_
      obtain ⟨k4, ek4, hf⟩ := jn_e hf
      have hk4 : k4 = some s9 → AW mX12_product (rmD (Dr + 1) 0 0) (fin (PV fun h' => HH s9 h' ∧ Mo s0 s9) 0 0) 38 [some (.ref 67), none] [] h 0 0 := by
        intro hf
        subst ek4
        refine aw_aload_n (pc' := 39) dX12_product_38 rfl rfl rfl ?_
        obtain ⟨r5, ec5, hf⟩ := b1_e hf
        refine aw_callVi (M' := mX12_look) (nc' := 0) (ns' := 0) (pc' := 42) dX12_product_39 rfl ml_RX12_337 kX12_look (t_X12_look H ec5) (H.ob (H.fo rfl rfl) (by decide)) rfl rfl rfl (Nat.le_of_ble_eq_true rfl) (rokD (by omega) (Nat.le_of_ble_eq_true rfl) (Nat.le_of_ble_eq_true rfl) (Nat.le_of_ble_eq_true rfl)) rfl rfl (fun _ h5 q5 => ?_)
        obtain ⟨rfl, rfl⟩ := q5
        refine aw_istore_n (lv' := [_, _]) (pc' := 43) dX12_product_42 rfl (Nat.le_of_ble_eq_true rfl) rfl ?_
        refine aw_aload_n (pc' := 44) dX12_product_43 rfl rfl rfl ?_
        refine aw_dup (pc' := 45) dX12_product_44 rfl rfl ?_
        refine aw_gi (q := 59) (pc' := 48) H (H.fo rfl rfl) (by decide) rfl dX12_product_45 rfl fl_RX12_319 ?_
        refine aw_iconst (v := 1) (pc' := 49) dX12_product_48 rfl (by decide) ?_
        refine aw_iadd (pc' := 50) dX12_product_49 rfl ?_
        obtain ⟨v6, ev6, hf⟩ := vl_e hf
        refine aw_topi ev6 ?_
        obtain ⟨s7, es7, hf⟩ := st_e hf
        refine aw_pi (q := 59) (pc' := 53) es7 H (H.fo rfl rfl) (by decide) rfl dX12_product_50 rfl fl_RX12_319 rfl (fun h7 H7 => ?_)
        have m7 := Mo.ofS es7
        refine aw_aload_n (pc' := 54) dX12_product_53 rfl rfl rfl ?_
        obtain ⟨s8, ec8, hf⟩ := b1_e hf
        refine aw_callVv (M' := mX12_operand) (nc' := 0) (ns' := 0) (pc' := 57) dX12_product_54 rfl ml_RX12_352 kX12_operand (hrec H7 ec8) (H7.ob (H7.fo rfl rfl) (by decide)) rfl rfl rfl (Nat.le_of_ble_eq_true rfl) (rokD (by omega) (Nat.le_of_ble_eq_true rfl) (Nat.le_of_ble_eq_true rfl) (Nat.le_of_ble_eq_true rfl)) rfl rfl (fun h8 q8 => ?_)
        obtain ⟨H8, m8⟩ := q8
        refine aw_aload_n (pc' := 58) dX12_product_57 rfl rfl rfl ?_
        refine aw_iload_n (pc' := 59) dX12_product_58 rfl rfl ?_
        refine aw_iconst (v := 0) (pc' := 60) dX12_product_59 rfl (by decide) ?_
        obtain ⟨s9, ec9, hf⟩ := b1_e hf
        refine aw_callVv (M' := mX12_lay) (nc' := 0) (ns' := 0) (pc' := 63) dX12_product_60 rfl ml_RX12_344 kX12_lay (t_X12_lay H8 ec9) (H8.ob (H8.fo rfl rfl) (by decide)) rfl rfl rfl (Nat.le_of_ble_eq_true rfl) (rokD (by omega) (Nat.le_of_ble_eq_true rfl) (Nat.le_of_ble_eq_true rfl) (Nat.le_of_ble_eq_true rfl)) rfl rfl (fun h9 q9 => ?_)
        obtain ⟨H9, m9⟩ := q9
        refine aw_goto (tgt := 4) dX12_product_63 (by decide) ?_
        refine AW.lv_le (lz_k (lz_d lz_0)) ?_
        exact ih _ _ H9 (((ms.tr m7).tr m8).tr m9) hf
      clear ek4
      refine aw_icmp_eq (tgt := 38) (pc' := 20) dX12_product_17 (by decide) rfl (fun c10 => ?_) (fun c10 => ?_)
      · replace hf := ifp c10 hf
        exact hk4  hf
      · replace hf := ifn c10 hf
        refine aw_aload_n (pc' := 21) dX12_product_20 rfl rfl rfl ?_
        obtain ⟨r11, ec11, hf⟩ := b1_e hf
        refine aw_callVi (M' := mX12_look) (nc' := 0) (ns' := 0) (pc' := 24) dX12_product_21 rfl ml_RX12_337 kX12_look (t_X12_look H ec11) (H.ob (H.fo rfl rfl) (by decide)) rfl rfl rfl (Nat.le_of_ble_eq_true rfl) (rokD (by omega) (Nat.le_of_ble_eq_true rfl) (Nat.le_of_ble_eq_true rfl) (Nat.le_of_ble_eq_true rfl)) rfl rfl (fun _ h11 q11 => ?_)
        obtain ⟨rfl, rfl⟩ := q11
        refine aw_bipush (v := 47) (pc' := 26) dX12_product_24 rfl (by decide) ?_
        refine aw_icmp_eq (tgt := 38) (pc' := 29) dX12_product_26 (by decide) rfl (fun c12 => ?_) (fun c12 => ?_)
        · replace hf := ifp c12 hf
          exact hk4  hf
        · replace hf := ifn c12 hf
          refine aw_aload_n (pc' := 30) dX12_product_29 rfl rfl rfl ?_
          obtain ⟨r13, ec13, hf⟩ := b1_e hf
          refine aw_callVi (M' := mX12_look) (nc' := 0) (ns' := 0) (pc' := 33) dX12_product_30 rfl ml_RX12_337 kX12_look (t_X12_look H ec13) (H.ob (H.fo rfl rfl) (by decide)) rfl rfl rfl (Nat.le_of_ble_eq_true rfl) (rokD (by omega) (Nat.le_of_ble_eq_true rfl) (Nat.le_of_ble_eq_true rfl) (Nat.le_of_ble_eq_true rfl)) rfl rfl (fun _ h13 q13 => ?_)
          obtain ⟨rfl, rfl⟩ := q13
          refine aw_bipush (v := 37) (pc' := 35) dX12_product_33 rfl (by decide) ?_
          refine aw_icmp_ne (tgt := 66) (pc' := 38) dX12_product_35 (by decide) rfl (fun c14 => ?_) (fun c14 => ?_)
          · replace hf := ifn c14 hf
            obtain rfl := Option.some.inj hf
            exact aw_rv dX12_product_66 rfl (Nat.le_of_ble_eq_true rfl) (Nat.le_of_ble_eq_true rfl) ⟨H, (mb.tr ms)⟩
          · replace hf := ifp c14 hf
            exact hk4  hf
def f_X12_product (rec : SS → Option SS) (s0 : SS)  : Option SS := (b1 (rec s0) fun s1 => (f_X12_product_L4 rec 4000 s1))
set_option maxRecDepth 4000 in
theorem t_X12_product {Dr : Nat} {rec : SS → Option SS} (hrec : ∀ {s0 s9 : SS} {h0 : List aE}, HH s0 h0 → rec s0  = some s9 → AM mX12_operand Dr [.ref 67] h0 0 0 (PV fun h' => HH s9 h' ∧ Mo s0 s9)) {s0 s9 : SS} {h0 : List aE}  (H0 : HH s0 h0) (hf : f_X12_product rec s0 = some s9) : AM mX12_product (Dr + 1) [.ref 67] h0 0 0 (PV fun h' => HH s9 h' ∧ Mo s0 s9) := by
  unfold f_X12_product at hf
  refine am_of (lv := [some (.ref 67), none]) rfl (Nat.le_of_ble_eq_true rfl) rfl ?_
  refine aw_aload_n (pc' := 1) dX12_product_0 rfl rfl rfl ?_
  obtain ⟨s1, ec1, hf⟩ := b1_e hf
  refine aw_callVv (M' := mX12_operand) (nc' := 0) (ns' := 0) (pc' := 4) dX12_product_1 rfl ml_RX12_352 kX12_operand (hrec H0 ec1) (H0.ob (H0.fo rfl rfl) (by decide)) rfl rfl rfl (Nat.le_of_ble_eq_true rfl) (rokD (by omega) (Nat.le_of_ble_eq_true rfl) (Nat.le_of_ble_eq_true rfl) (Nat.le_of_ble_eq_true rfl)) rfl rfl (fun h1 q1 => ?_)
  obtain ⟨H1, m1⟩ := q1
  refine t_X12_product_L4 hrec m1  4000 _ _ H1 (Mo.rf _) hf
/-! ThirtyThreeBelowModel.sum -/
def f_X12_sum_L4_b (rec : SS → Option SS) (rc : SS → Option SS) (s : SS) : Option SS := (if (zS s 59 48) < (0 : Int32) then (b1 (f_X12_look s) fun r3 => (jn ((b1 (f_X12_look s) fun r5 => (vl (((zS s 59 47) + (1 : Int32))) fun v6 => (st (pS s 59 47 v6) fun s7 => (b1 (f_X12_product rec s7) fun s8 => (b1 (f_X12_lay s8 r5 0) fun s9 => (rc s9))))))) fun k4 => (if r3 = (43 : Int32) then k4 else (b1 (f_X12_look s) fun r11 => (if r11 = (45 : Int32) then k4 else some s))))) else some s)
def f_X12_sum_L4 (rec : SS → Option SS) : Nat → SS → Option SS
  | 0, _ => none
  | n + 1, s => f_X12_sum_L4_b rec (f_X12_sum_L4 rec n) s
set_option maxRecDepth 4000 in
theorem t_X12_sum_L4 {Dr : Nat} {rec : SS → Option SS} (hrec : ∀ {s0 s9 : SS} {h0 : List aE}, HH s0 h0 → rec s0  = some s9 → AM mX12_operand Dr [.ref 67] h0 0 0 (PV fun h' => HH s9 h' ∧ Mo s0 s9)) {s0 sb s9 : SS} (mb : Mo s0 sb)  : ∀ (n : Nat) (s : SS) (h : List aE), HH s h → Mo sb s → f_X12_sum_L4 rec n s = some s9 → AW mX12_sum (rmD (Dr + 2) 0 0) (fin (PV fun h' => HH s9 h' ∧ Mo s0 s9) 0 0) 4 [some (.ref 67), none] [] h 0 0 := by
  intro n
  induction n with
  | zero =>
    intro s h H ms hf
    cases hf
  | succ n ih =>
    intro s h H ms hf
    replace hf : f_X12_sum_L4_b rec (f_X12_sum_L4 rec n) s = some s9 := hf
    unfold f_X12_sum_L4_b at hf
    refine aw_aload_n (pc' := 5) dX12_sum_4 rfl rfl rfl ?_
    refine aw_gi (q := 59) (pc' := 8) H (H.fo rfl rfl) (by decide) rfl dX12_sum_5 rfl fl_RX12_322 ?_
    refine aw_zge (tgt := 57) (pc' := 11) dX12_sum_8 (by decide) rfl (fun c2 => ?_) (fun c2 => ?_)
    · replace hf := ifn c2 hf
      obtain rfl := Option.some.inj hf
      exact aw_rv dX12_sum_57 rfl (Nat.le_of_ble_eq_true rfl) (Nat.le_of_ble_eq_true rfl) ⟨H, (mb.tr ms)⟩
    · replace hf := ifp c2 hf
      refine aw_aload_n (pc' := 12) dX12_sum_11 rfl rfl rfl ?_
      obtain ⟨r3, ec3, hf⟩ := b1_e hf
      refine aw_callVi (M' := mX12_look) (nc' := 0) (ns' := 0) (pc' := 15) dX12_sum_12 rfl ml_RX12_337 kX12_look (t_X12_look H ec3) (H.ob (H.fo rfl rfl) (by decide)) rfl rfl rfl (Nat.le_of_ble_eq_true rfl) (rokD (by omega) (Nat.le_of_ble_eq_true rfl) (Nat.le_of_ble_eq_true rfl) (Nat.le_of_ble_eq_true rfl)) rfl rfl (fun _ h3 q3 => ?_)
      obtain ⟨rfl, rfl⟩ := q3
      refine aw_bipush (v := 43) (pc' := 17) dX12_sum_15 rfl (by decide) ?_
      obtain ⟨k4, ek4, hf⟩ := jn_e hf
      have hk4 : k4 = some s9 → AW mX12_sum (rmD (Dr + 2) 0 0) (fin (PV fun h' => HH s9 h' ∧ Mo s0 s9) 0 0) 29 [some (.ref 67), none] [] h 0 0 := by
        intro hf
        subst ek4
        refine aw_aload_n (pc' := 30) dX12_sum_29 rfl rfl rfl ?_
        obtain ⟨r5, ec5, hf⟩ := b1_e hf
        refine aw_callVi (M' := mX12_look) (nc' := 0) (ns' := 0) (pc' := 33) dX12_sum_30 rfl ml_RX12_337 kX12_look (t_X12_look H ec5) (H.ob (H.fo rfl rfl) (by decide)) rfl rfl rfl (Nat.le_of_ble_eq_true rfl) (rokD (by omega) (Nat.le_of_ble_eq_true rfl) (Nat.le_of_ble_eq_true rfl) (Nat.le_of_ble_eq_true rfl)) rfl rfl (fun _ h5 q5 => ?_)
        obtain ⟨rfl, rfl⟩ := q5
        refine aw_istore_n (lv' := [_, _]) (pc' := 34) dX12_sum_33 rfl (Nat.le_of_ble_eq_true rfl) rfl ?_
        refine aw_aload_n (pc' := 35) dX12_sum_34 rfl rfl rfl ?_
        refine aw_dup (pc' := 36) dX12_sum_35 rfl rfl ?_
        refine aw_gi (q := 59) (pc' := 39) H (H.fo rfl rfl) (by decide) rfl dX12_sum_36 rfl fl_RX12_319 ?_
        refine aw_iconst (v := 1) (pc' := 40) dX12_sum_39 rfl (by decide) ?_
        refine aw_iadd (pc' := 41) dX12_sum_40 rfl ?_
        obtain ⟨v6, ev6, hf⟩ := vl_e hf
        refine aw_topi ev6 ?_
        obtain ⟨s7, es7, hf⟩ := st_e hf
        refine aw_pi (q := 59) (pc' := 44) es7 H (H.fo rfl rfl) (by decide) rfl dX12_sum_41 rfl fl_RX12_319 rfl (fun h7 H7 => ?_)
        have m7 := Mo.ofS es7
        refine aw_aload_n (pc' := 45) dX12_sum_44 rfl rfl rfl ?_
        obtain ⟨s8, ec8, hf⟩ := b1_e hf
        refine aw_callVv (M' := mX12_product) (nc' := 0) (ns' := 0) (pc' := 48) dX12_sum_45 rfl ml_RX12_358 kX12_product (t_X12_product hrec H7 ec8) (H7.ob (H7.fo rfl rfl) (by decide)) rfl rfl rfl (Nat.le_of_ble_eq_true rfl) (rokD (by omega) (Nat.le_of_ble_eq_true rfl) (Nat.le_of_ble_eq_true rfl) (Nat.le_of_ble_eq_true rfl)) rfl rfl (fun h8 q8 => ?_)
        obtain ⟨H8, m8⟩ := q8
        refine aw_aload_n (pc' := 49) dX12_sum_48 rfl rfl rfl ?_
        refine aw_iload_n (pc' := 50) dX12_sum_49 rfl rfl ?_
        refine aw_iconst (v := 0) (pc' := 51) dX12_sum_50 rfl (by decide) ?_
        obtain ⟨s9, ec9, hf⟩ := b1_e hf
        refine aw_callVv (M' := mX12_lay) (nc' := 0) (ns' := 0) (pc' := 54) dX12_sum_51 rfl ml_RX12_344 kX12_lay (t_X12_lay H8 ec9) (H8.ob (H8.fo rfl rfl) (by decide)) rfl rfl rfl (Nat.le_of_ble_eq_true rfl) (rokD (by omega) (Nat.le_of_ble_eq_true rfl) (Nat.le_of_ble_eq_true rfl) (Nat.le_of_ble_eq_true rfl)) rfl rfl (fun h9 q9 => ?_)
        obtain ⟨H9, m9⟩ := q9
        refine aw_goto (tgt := 4) dX12_sum_54 (by decide) ?_
        refine AW.lv_le (lz_k (lz_d lz_0)) ?_
        exact ih _ _ H9 (((ms.tr m7).tr m8).tr m9) hf
      clear ek4
      refine aw_icmp_eq (tgt := 29) (pc' := 20) dX12_sum_17 (by decide) rfl (fun c10 => ?_) (fun c10 => ?_)
      · replace hf := ifp c10 hf
        exact hk4  hf
      · replace hf := ifn c10 hf
        refine aw_aload_n (pc' := 21) dX12_sum_20 rfl rfl rfl ?_
        obtain ⟨r11, ec11, hf⟩ := b1_e hf
        refine aw_callVi (M' := mX12_look) (nc' := 0) (ns' := 0) (pc' := 24) dX12_sum_21 rfl ml_RX12_337 kX12_look (t_X12_look H ec11) (H.ob (H.fo rfl rfl) (by decide)) rfl rfl rfl (Nat.le_of_ble_eq_true rfl) (rokD (by omega) (Nat.le_of_ble_eq_true rfl) (Nat.le_of_ble_eq_true rfl) (Nat.le_of_ble_eq_true rfl)) rfl rfl (fun _ h11 q11 => ?_)
        obtain ⟨rfl, rfl⟩ := q11
        refine aw_bipush (v := 45) (pc' := 26) dX12_sum_24 rfl (by decide) ?_
        refine aw_icmp_ne (tgt := 57) (pc' := 29) dX12_sum_26 (by decide) rfl (fun c12 => ?_) (fun c12 => ?_)
        · replace hf := ifn c12 hf
          obtain rfl := Option.some.inj hf
          exact aw_rv dX12_sum_57 rfl (Nat.le_of_ble_eq_true rfl) (Nat.le_of_ble_eq_true rfl) ⟨H, (mb.tr ms)⟩
        · replace hf := ifp c12 hf
          exact hk4  hf
def f_X12_sum (rec : SS → Option SS) (s0 : SS)  : Option SS := (b1 (f_X12_product rec s0) fun s1 => (f_X12_sum_L4 rec 4000 s1))
set_option maxRecDepth 4000 in
theorem t_X12_sum {Dr : Nat} {rec : SS → Option SS} (hrec : ∀ {s0 s9 : SS} {h0 : List aE}, HH s0 h0 → rec s0  = some s9 → AM mX12_operand Dr [.ref 67] h0 0 0 (PV fun h' => HH s9 h' ∧ Mo s0 s9)) {s0 s9 : SS} {h0 : List aE}  (H0 : HH s0 h0) (hf : f_X12_sum rec s0 = some s9) : AM mX12_sum (Dr + 2) [.ref 67] h0 0 0 (PV fun h' => HH s9 h' ∧ Mo s0 s9) := by
  unfold f_X12_sum at hf
  refine am_of (lv := [some (.ref 67), none]) rfl (Nat.le_of_ble_eq_true rfl) rfl ?_
  refine aw_aload_n (pc' := 1) dX12_sum_0 rfl rfl rfl ?_
  obtain ⟨s1, ec1, hf⟩ := b1_e hf
  refine aw_callVv (M' := mX12_product) (nc' := 0) (ns' := 0) (pc' := 4) dX12_sum_1 rfl ml_RX12_358 kX12_product (t_X12_product hrec H0 ec1) (H0.ob (H0.fo rfl rfl) (by decide)) rfl rfl rfl (Nat.le_of_ble_eq_true rfl) (rokD (by omega) (Nat.le_of_ble_eq_true rfl) (Nat.le_of_ble_eq_true rfl) (Nat.le_of_ble_eq_true rfl)) rfl rfl (fun h1 q1 => ?_)
  obtain ⟨H1, m1⟩ := q1
  refine t_X12_sum_L4 hrec m1  4000 _ _ H1 (Mo.rf _) hf
/-! ThirtyThreeBelowModel.compared -/
def f_X12_compared (rec : SS → Option SS) (s0 : SS)  : Option SS := (b1 (f_X12_sum rec s0) fun s1 => (b1 (f_X12_look s1) fun r2 => (if (zS s1 59 48) < (0 : Int32) then (jn ((vl (((zS s1 59 47) + (1 : Int32))) fun v5 => (st (pS s1 59 47 v5) fun s6 => (b1 (f_X12_sum rec s6) fun s7 => (b1 (f_X12_lay s7 r2 0) fun s8 => some s8))))) fun k4 => (if r2 = (60 : Int32) then k4 else (if r2 = (61 : Int32) then k4 else (if r2 = (62 : Int32) then k4 else some s1)))) else some s1)))
set_option maxRecDepth 4000 in
theorem t_X12_compared {Dr : Nat} {rec : SS → Option SS} (hrec : ∀ {s0 s9 : SS} {h0 : List aE}, HH s0 h0 → rec s0  = some s9 → AM mX12_operand Dr [.ref 67] h0 0 0 (PV fun h' => HH s9 h' ∧ Mo s0 s9)) {s0 s9 : SS} {h0 : List aE}  (H0 : HH s0 h0) (hf : f_X12_compared rec s0 = some s9) : AM mX12_compared (Dr + 3) [.ref 67] h0 0 0 (PV fun h' => HH s9 h' ∧ Mo s0 s9) := by
  unfold f_X12_compared at hf
  refine am_of (lv := [some (.ref 67), none]) rfl (Nat.le_of_ble_eq_true rfl) rfl ?_
  refine aw_aload_n (pc' := 1) dX12_compared_0 rfl rfl rfl ?_
  obtain ⟨s1, ec1, hf⟩ := b1_e hf
  refine aw_callVv (M' := mX12_sum) (nc' := 0) (ns' := 0) (pc' := 4) dX12_compared_1 rfl ml_RX12_361 kX12_sum (t_X12_sum hrec H0 ec1) (H0.ob (H0.fo rfl rfl) (by decide)) rfl rfl rfl (Nat.le_of_ble_eq_true rfl) (rokD (by omega) (Nat.le_of_ble_eq_true rfl) (Nat.le_of_ble_eq_true rfl) (Nat.le_of_ble_eq_true rfl)) rfl rfl (fun h1 q1 => ?_)
  obtain ⟨H1, m1⟩ := q1
  refine aw_aload_n (pc' := 5) dX12_compared_4 rfl rfl rfl ?_
  obtain ⟨r2, ec2, hf⟩ := b1_e hf
  refine aw_callVi (M' := mX12_look) (nc' := 0) (ns' := 0) (pc' := 8) dX12_compared_5 rfl ml_RX12_337 kX12_look (t_X12_look H1 ec2) (H1.ob (H1.fo rfl rfl) (by decide)) rfl rfl rfl (Nat.le_of_ble_eq_true rfl) (rokD (by omega) (Nat.le_of_ble_eq_true rfl) (Nat.le_of_ble_eq_true rfl) (Nat.le_of_ble_eq_true rfl)) rfl rfl (fun _ h2 q2 => ?_)
  obtain ⟨rfl, rfl⟩ := q2
  refine aw_istore_n (lv' := [_, _]) (pc' := 9) dX12_compared_8 rfl (Nat.le_of_ble_eq_true rfl) rfl ?_
  refine aw_aload_n (pc' := 10) dX12_compared_9 rfl rfl rfl ?_
  refine aw_gi (q := 59) (pc' := 13) H1 (H1.fo rfl rfl) (by decide) rfl dX12_compared_10 rfl fl_RX12_322 ?_
  refine aw_zge (tgt := 34) (pc' := 16) dX12_compared_13 (by decide) rfl (fun c3 => ?_) (fun c3 => ?_)
  · replace hf := ifn c3 hf
    obtain rfl := Option.some.inj hf
    exact aw_rv dX12_compared_34 rfl (Nat.le_of_ble_eq_true rfl) (Nat.le_of_ble_eq_true rfl) ⟨H1, m1⟩
  · replace hf := ifp c3 hf
    refine aw_iload_n (pc' := 17) dX12_compared_16 rfl rfl ?_
    refine aw_bipush (v := 60) (pc' := 19) dX12_compared_17 rfl (by decide) ?_
    obtain ⟨k4, ek4, hf⟩ := jn_e hf
    have hk4 : k4 = some s9 → AW mX12_compared (rmD (Dr + 3) 0 0) (fin (PV fun h' => HH s9 h' ∧ Mo s0 s9) 0 0) 35 [some (.ref 67), some (.int r2)] [] h1 0 0 := by
      intro hf
      subst ek4
      refine aw_aload_n (pc' := 36) dX12_compared_35 rfl rfl rfl ?_
      refine aw_dup (pc' := 37) dX12_compared_36 rfl rfl ?_
      refine aw_gi (q := 59) (pc' := 40) H1 (H1.fo rfl rfl) (by decide) rfl dX12_compared_37 rfl fl_RX12_319 ?_
      refine aw_iconst (v := 1) (pc' := 41) dX12_compared_40 rfl (by decide) ?_
      refine aw_iadd (pc' := 42) dX12_compared_41 rfl ?_
      obtain ⟨v5, ev5, hf⟩ := vl_e hf
      refine aw_topi ev5 ?_
      obtain ⟨s6, es6, hf⟩ := st_e hf
      refine aw_pi (q := 59) (pc' := 45) es6 H1 (H1.fo rfl rfl) (by decide) rfl dX12_compared_42 rfl fl_RX12_319 rfl (fun h6 H6 => ?_)
      have m6 := Mo.ofS es6
      refine aw_aload_n (pc' := 46) dX12_compared_45 rfl rfl rfl ?_
      obtain ⟨s7, ec7, hf⟩ := b1_e hf
      refine aw_callVv (M' := mX12_sum) (nc' := 0) (ns' := 0) (pc' := 49) dX12_compared_46 rfl ml_RX12_361 kX12_sum (t_X12_sum hrec H6 ec7) (H6.ob (H6.fo rfl rfl) (by decide)) rfl rfl rfl (Nat.le_of_ble_eq_true rfl) (rokD (by omega) (Nat.le_of_ble_eq_true rfl) (Nat.le_of_ble_eq_true rfl) (Nat.le_of_ble_eq_true rfl)) rfl rfl (fun h7 q7 => ?_)
      obtain ⟨H7, m7⟩ := q7
      refine aw_aload_n (pc' := 50) dX12_compared_49 rfl rfl rfl ?_
      refine aw_iload_n (pc' := 51) dX12_compared_50 rfl rfl ?_
      refine aw_iconst (v := 0) (pc' := 52) dX12_compared_51 rfl (by decide) ?_
      obtain ⟨s8, ec8, hf⟩ := b1_e hf
      refine aw_callVv (M' := mX12_lay) (nc' := 0) (ns' := 0) (pc' := 55) dX12_compared_52 rfl ml_RX12_344 kX12_lay (t_X12_lay H7 ec8) (H7.ob (H7.fo rfl rfl) (by decide)) rfl rfl rfl (Nat.le_of_ble_eq_true rfl) (rokD (by omega) (Nat.le_of_ble_eq_true rfl) (Nat.le_of_ble_eq_true rfl) (Nat.le_of_ble_eq_true rfl)) rfl rfl (fun h8 q8 => ?_)
      obtain ⟨H8, m8⟩ := q8
      obtain rfl := Option.some.inj hf
      exact aw_rv dX12_compared_55 rfl (Nat.le_of_ble_eq_true rfl) (Nat.le_of_ble_eq_true rfl) ⟨H8, (((m1.tr m6).tr m7).tr m8)⟩
    clear ek4
    refine aw_icmp_eq (tgt := 35) (pc' := 22) dX12_compared_19 (by decide) rfl (fun c9 => ?_) (fun c9 => ?_)
    · replace hf := ifp c9 hf
      exact hk4  hf
    · replace hf := ifn c9 hf
      refine aw_iload_n (pc' := 23) dX12_compared_22 rfl rfl ?_
      refine aw_bipush (v := 61) (pc' := 25) dX12_compared_23 rfl (by decide) ?_
      refine aw_icmp_eq (tgt := 35) (pc' := 28) dX12_compared_25 (by decide) rfl (fun c10 => ?_) (fun c10 => ?_)
      · replace hf := ifp c10 hf
        exact hk4  hf
      · replace hf := ifn c10 hf
        refine aw_iload_n (pc' := 29) dX12_compared_28 rfl rfl ?_
        refine aw_bipush (v := 62) (pc' := 31) dX12_compared_29 rfl (by decide) ?_
        refine aw_icmp_eq (tgt := 35) (pc' := 34) dX12_compared_31 (by decide) rfl (fun c11 => ?_) (fun c11 => ?_)
        · replace hf := ifp c11 hf
          exact hk4  hf
        · replace hf := ifn c11 hf
          obtain rfl := Option.some.inj hf
          exact aw_rv dX12_compared_34 rfl (Nat.le_of_ble_eq_true rfl) (Nat.le_of_ble_eq_true rfl) ⟨H1, m1⟩
/-! ThirtyThreeBelowModel.all -/
def f_X12_all_L4_b (rec : SS → Option SS) (rc : SS → Option SS) (s : SS) : Option SS := (if (zS s 59 48) < (0 : Int32) then (b1 (f_X12_look s) fun r3 => (if r3 = (38 : Int32) then (vl (((zS s 59 47) + (1 : Int32))) fun v5 => (st (pS s 59 47 v5) fun s6 => (b1 (f_X12_compared rec s6) fun s7 => (b1 (f_X12_lay s7 38 0) fun s8 => (rc s8))))) else some s)) else some s)
def f_X12_all_L4 (rec : SS → Option SS) : Nat → SS → Option SS
  | 0, _ => none
  | n + 1, s => f_X12_all_L4_b rec (f_X12_all_L4 rec n) s
set_option maxRecDepth 4000 in
theorem t_X12_all_L4 {Dr : Nat} {rec : SS → Option SS} (hrec : ∀ {s0 s9 : SS} {h0 : List aE}, HH s0 h0 → rec s0  = some s9 → AM mX12_operand Dr [.ref 67] h0 0 0 (PV fun h' => HH s9 h' ∧ Mo s0 s9)) {s0 sb s9 : SS} (mb : Mo s0 sb)  : ∀ (n : Nat) (s : SS) (h : List aE), HH s h → Mo sb s → f_X12_all_L4 rec n s = some s9 → AW mX12_all (rmD (Dr + 4) 0 0) (fin (PV fun h' => HH s9 h' ∧ Mo s0 s9) 0 0) 4 [some (.ref 67)] [] h 0 0 := by
  intro n
  induction n with
  | zero =>
    intro s h H ms hf
    cases hf
  | succ n ih =>
    intro s h H ms hf
    replace hf : f_X12_all_L4_b rec (f_X12_all_L4 rec n) s = some s9 := hf
    unfold f_X12_all_L4_b at hf
    refine aw_aload_n (pc' := 5) dX12_all_4 rfl rfl rfl ?_
    refine aw_gi (q := 59) (pc' := 8) H (H.fo rfl rfl) (by decide) rfl dX12_all_5 rfl fl_RX12_322 ?_
    refine aw_zge (tgt := 44) (pc' := 11) dX12_all_8 (by decide) rfl (fun c2 => ?_) (fun c2 => ?_)
    · replace hf := ifn c2 hf
      obtain rfl := Option.some.inj hf
      exact aw_rv dX12_all_44 rfl (Nat.le_of_ble_eq_true rfl) (Nat.le_of_ble_eq_true rfl) ⟨H, (mb.tr ms)⟩
    · replace hf := ifp c2 hf
      refine aw_aload_n (pc' := 12) dX12_all_11 rfl rfl rfl ?_
      obtain ⟨r3, ec3, hf⟩ := b1_e hf
      refine aw_callVi (M' := mX12_look) (nc' := 0) (ns' := 0) (pc' := 15) dX12_all_12 rfl ml_RX12_337 kX12_look (t_X12_look H ec3) (H.ob (H.fo rfl rfl) (by decide)) rfl rfl rfl (Nat.le_of_ble_eq_true rfl) (rokD (by omega) (Nat.le_of_ble_eq_true rfl) (Nat.le_of_ble_eq_true rfl) (Nat.le_of_ble_eq_true rfl)) rfl rfl (fun _ h3 q3 => ?_)
      obtain ⟨rfl, rfl⟩ := q3
      refine aw_bipush (v := 38) (pc' := 17) dX12_all_15 rfl (by decide) ?_
      refine aw_icmp_ne (tgt := 44) (pc' := 20) dX12_all_17 (by decide) rfl (fun c4 => ?_) (fun c4 => ?_)
      · replace hf := ifn c4 hf
        obtain rfl := Option.some.inj hf
        exact aw_rv dX12_all_44 rfl (Nat.le_of_ble_eq_true rfl) (Nat.le_of_ble_eq_true rfl) ⟨H, (mb.tr ms)⟩
      · replace hf := ifp c4 hf
        refine aw_aload_n (pc' := 21) dX12_all_20 rfl rfl rfl ?_
        refine aw_dup (pc' := 22) dX12_all_21 rfl rfl ?_
        refine aw_gi (q := 59) (pc' := 25) H (H.fo rfl rfl) (by decide) rfl dX12_all_22 rfl fl_RX12_319 ?_
        refine aw_iconst (v := 1) (pc' := 26) dX12_all_25 rfl (by decide) ?_
        refine aw_iadd (pc' := 27) dX12_all_26 rfl ?_
        obtain ⟨v5, ev5, hf⟩ := vl_e hf
        refine aw_topi ev5 ?_
        obtain ⟨s6, es6, hf⟩ := st_e hf
        refine aw_pi (q := 59) (pc' := 30) es6 H (H.fo rfl rfl) (by decide) rfl dX12_all_27 rfl fl_RX12_319 rfl (fun h6 H6 => ?_)
        have m6 := Mo.ofS es6
        refine aw_aload_n (pc' := 31) dX12_all_30 rfl rfl rfl ?_
        obtain ⟨s7, ec7, hf⟩ := b1_e hf
        refine aw_callVv (M' := mX12_compared) (nc' := 0) (ns' := 0) (pc' := 34) dX12_all_31 rfl ml_RX12_364 kX12_compared (t_X12_compared hrec H6 ec7) (H6.ob (H6.fo rfl rfl) (by decide)) rfl rfl rfl (Nat.le_of_ble_eq_true rfl) (rokD (by omega) (Nat.le_of_ble_eq_true rfl) (Nat.le_of_ble_eq_true rfl) (Nat.le_of_ble_eq_true rfl)) rfl rfl (fun h7 q7 => ?_)
        obtain ⟨H7, m7⟩ := q7
        refine aw_aload_n (pc' := 35) dX12_all_34 rfl rfl rfl ?_
        refine aw_bipush (v := 38) (pc' := 37) dX12_all_35 rfl (by decide) ?_
        refine aw_iconst (v := 0) (pc' := 38) dX12_all_37 rfl (by decide) ?_
        obtain ⟨s8, ec8, hf⟩ := b1_e hf
        refine aw_callVv (M' := mX12_lay) (nc' := 0) (ns' := 0) (pc' := 41) dX12_all_38 rfl ml_RX12_344 kX12_lay (t_X12_lay H7 ec8) (H7.ob (H7.fo rfl rfl) (by decide)) rfl rfl rfl (Nat.le_of_ble_eq_true rfl) (rokD (by omega) (Nat.le_of_ble_eq_true rfl) (Nat.le_of_ble_eq_true rfl) (Nat.le_of_ble_eq_true rfl)) rfl rfl (fun h8 q8 => ?_)
        obtain ⟨H8, m8⟩ := q8
        refine aw_goto (tgt := 4) dX12_all_41 (by decide) ?_
        exact ih _ _ H8 (((ms.tr m6).tr m7).tr m8) hf
def f_X12_all (rec : SS → Option SS) (s0 : SS)  : Option SS := (b1 (f_X12_compared rec s0) fun s1 => (f_X12_all_L4 rec 4000 s1))
set_option maxRecDepth 4000 in
theorem t_X12_all {Dr : Nat} {rec : SS → Option SS} (hrec : ∀ {s0 s9 : SS} {h0 : List aE}, HH s0 h0 → rec s0  = some s9 → AM mX12_operand Dr [.ref 67] h0 0 0 (PV fun h' => HH s9 h' ∧ Mo s0 s9)) {s0 s9 : SS} {h0 : List aE}  (H0 : HH s0 h0) (hf : f_X12_all rec s0 = some s9) : AM mX12_all (Dr + 4) [.ref 67] h0 0 0 (PV fun h' => HH s9 h' ∧ Mo s0 s9) := by
  unfold f_X12_all at hf
  refine am_of (lv := [some (.ref 67)]) rfl (Nat.le_of_ble_eq_true rfl) rfl ?_
  refine aw_aload_n (pc' := 1) dX12_all_0 rfl rfl rfl ?_
  obtain ⟨s1, ec1, hf⟩ := b1_e hf
  refine aw_callVv (M' := mX12_compared) (nc' := 0) (ns' := 0) (pc' := 4) dX12_all_1 rfl ml_RX12_364 kX12_compared (t_X12_compared hrec H0 ec1) (H0.ob (H0.fo rfl rfl) (by decide)) rfl rfl rfl (Nat.le_of_ble_eq_true rfl) (rokD (by omega) (Nat.le_of_ble_eq_true rfl) (Nat.le_of_ble_eq_true rfl) (Nat.le_of_ble_eq_true rfl)) rfl rfl (fun h1 q1 => ?_)
  obtain ⟨H1, m1⟩ := q1
  refine t_X12_all_L4 hrec m1  4000 _ _ H1 (Mo.rf _) hf
/-! ThirtyThreeBelowModel.either -/
def f_X12_either_L4_b (rec : SS → Option SS) (rc : SS → Option SS) (s : SS) : Option SS := (if (zS s 59 48) < (0 : Int32) then (b1 (f_X12_look s) fun r3 => (if r3 = (124 : Int32) then (vl (((zS s 59 47) + (1 : Int32))) fun v5 => (st (pS s 59 47 v5) fun s6 => (b1 (f_X12_all rec s6) fun s7 => (b1 (f_X12_lay s7 124 0) fun s8 => (rc s8))))) else some s)) else some s)
def f_X12_either_L4 (rec : SS → Option SS) : Nat → SS → Option SS
  | 0, _ => none
  | n + 1, s => f_X12_either_L4_b rec (f_X12_either_L4 rec n) s
set_option maxRecDepth 4000 in
theorem t_X12_either_L4 {Dr : Nat} {rec : SS → Option SS} (hrec : ∀ {s0 s9 : SS} {h0 : List aE}, HH s0 h0 → rec s0  = some s9 → AM mX12_operand Dr [.ref 67] h0 0 0 (PV fun h' => HH s9 h' ∧ Mo s0 s9)) {s0 sb s9 : SS} (mb : Mo s0 sb)  : ∀ (n : Nat) (s : SS) (h : List aE), HH s h → Mo sb s → f_X12_either_L4 rec n s = some s9 → AW mX12_either (rmD (Dr + 5) 0 0) (fin (PV fun h' => HH s9 h' ∧ Mo s0 s9) 0 0) 4 [some (.ref 67)] [] h 0 0 := by
  intro n
  induction n with
  | zero =>
    intro s h H ms hf
    cases hf
  | succ n ih =>
    intro s h H ms hf
    replace hf : f_X12_either_L4_b rec (f_X12_either_L4 rec n) s = some s9 := hf
    unfold f_X12_either_L4_b at hf
    refine aw_aload_n (pc' := 5) dX12_either_4 rfl rfl rfl ?_
    refine aw_gi (q := 59) (pc' := 8) H (H.fo rfl rfl) (by decide) rfl dX12_either_5 rfl fl_RX12_322 ?_
    refine aw_zge (tgt := 44) (pc' := 11) dX12_either_8 (by decide) rfl (fun c2 => ?_) (fun c2 => ?_)
    · replace hf := ifn c2 hf
      obtain rfl := Option.some.inj hf
      exact aw_rv dX12_either_44 rfl (Nat.le_of_ble_eq_true rfl) (Nat.le_of_ble_eq_true rfl) ⟨H, (mb.tr ms)⟩
    · replace hf := ifp c2 hf
      refine aw_aload_n (pc' := 12) dX12_either_11 rfl rfl rfl ?_
      obtain ⟨r3, ec3, hf⟩ := b1_e hf
      refine aw_callVi (M' := mX12_look) (nc' := 0) (ns' := 0) (pc' := 15) dX12_either_12 rfl ml_RX12_337 kX12_look (t_X12_look H ec3) (H.ob (H.fo rfl rfl) (by decide)) rfl rfl rfl (Nat.le_of_ble_eq_true rfl) (rokD (by omega) (Nat.le_of_ble_eq_true rfl) (Nat.le_of_ble_eq_true rfl) (Nat.le_of_ble_eq_true rfl)) rfl rfl (fun _ h3 q3 => ?_)
      obtain ⟨rfl, rfl⟩ := q3
      refine aw_bipush (v := 124) (pc' := 17) dX12_either_15 rfl (by decide) ?_
      refine aw_icmp_ne (tgt := 44) (pc' := 20) dX12_either_17 (by decide) rfl (fun c4 => ?_) (fun c4 => ?_)
      · replace hf := ifn c4 hf
        obtain rfl := Option.some.inj hf
        exact aw_rv dX12_either_44 rfl (Nat.le_of_ble_eq_true rfl) (Nat.le_of_ble_eq_true rfl) ⟨H, (mb.tr ms)⟩
      · replace hf := ifp c4 hf
        refine aw_aload_n (pc' := 21) dX12_either_20 rfl rfl rfl ?_
        refine aw_dup (pc' := 22) dX12_either_21 rfl rfl ?_
        refine aw_gi (q := 59) (pc' := 25) H (H.fo rfl rfl) (by decide) rfl dX12_either_22 rfl fl_RX12_319 ?_
        refine aw_iconst (v := 1) (pc' := 26) dX12_either_25 rfl (by decide) ?_
        refine aw_iadd (pc' := 27) dX12_either_26 rfl ?_
        obtain ⟨v5, ev5, hf⟩ := vl_e hf
        refine aw_topi ev5 ?_
        obtain ⟨s6, es6, hf⟩ := st_e hf
        refine aw_pi (q := 59) (pc' := 30) es6 H (H.fo rfl rfl) (by decide) rfl dX12_either_27 rfl fl_RX12_319 rfl (fun h6 H6 => ?_)
        have m6 := Mo.ofS es6
        refine aw_aload_n (pc' := 31) dX12_either_30 rfl rfl rfl ?_
        obtain ⟨s7, ec7, hf⟩ := b1_e hf
        refine aw_callVv (M' := mX12_all) (nc' := 0) (ns' := 0) (pc' := 34) dX12_either_31 rfl ml_RX12_367 kX12_all (t_X12_all hrec H6 ec7) (H6.ob (H6.fo rfl rfl) (by decide)) rfl rfl rfl (Nat.le_of_ble_eq_true rfl) (rokD (by omega) (Nat.le_of_ble_eq_true rfl) (Nat.le_of_ble_eq_true rfl) (Nat.le_of_ble_eq_true rfl)) rfl rfl (fun h7 q7 => ?_)
        obtain ⟨H7, m7⟩ := q7
        refine aw_aload_n (pc' := 35) dX12_either_34 rfl rfl rfl ?_
        refine aw_bipush (v := 124) (pc' := 37) dX12_either_35 rfl (by decide) ?_
        refine aw_iconst (v := 0) (pc' := 38) dX12_either_37 rfl (by decide) ?_
        obtain ⟨s8, ec8, hf⟩ := b1_e hf
        refine aw_callVv (M' := mX12_lay) (nc' := 0) (ns' := 0) (pc' := 41) dX12_either_38 rfl ml_RX12_344 kX12_lay (t_X12_lay H7 ec8) (H7.ob (H7.fo rfl rfl) (by decide)) rfl rfl rfl (Nat.le_of_ble_eq_true rfl) (rokD (by omega) (Nat.le_of_ble_eq_true rfl) (Nat.le_of_ble_eq_true rfl) (Nat.le_of_ble_eq_true rfl)) rfl rfl (fun h8 q8 => ?_)
        obtain ⟨H8, m8⟩ := q8
        refine aw_goto (tgt := 4) dX12_either_41 (by decide) ?_
        exact ih _ _ H8 (((ms.tr m6).tr m7).tr m8) hf
def f_X12_either (rec : SS → Option SS) (s0 : SS)  : Option SS := (b1 (f_X12_all rec s0) fun s1 => (f_X12_either_L4 rec 4000 s1))
set_option maxRecDepth 4000 in
theorem t_X12_either {Dr : Nat} {rec : SS → Option SS} (hrec : ∀ {s0 s9 : SS} {h0 : List aE}, HH s0 h0 → rec s0  = some s9 → AM mX12_operand Dr [.ref 67] h0 0 0 (PV fun h' => HH s9 h' ∧ Mo s0 s9)) {s0 s9 : SS} {h0 : List aE}  (H0 : HH s0 h0) (hf : f_X12_either rec s0 = some s9) : AM mX12_either (Dr + 5) [.ref 67] h0 0 0 (PV fun h' => HH s9 h' ∧ Mo s0 s9) := by
  unfold f_X12_either at hf
  refine am_of (lv := [some (.ref 67)]) rfl (Nat.le_of_ble_eq_true rfl) rfl ?_
  refine aw_aload_n (pc' := 1) dX12_either_0 rfl rfl rfl ?_
  obtain ⟨s1, ec1, hf⟩ := b1_e hf
  refine aw_callVv (M' := mX12_all) (nc' := 0) (ns' := 0) (pc' := 4) dX12_either_1 rfl ml_RX12_367 kX12_all (t_X12_all hrec H0 ec1) (H0.ob (H0.fo rfl rfl) (by decide)) rfl rfl rfl (Nat.le_of_ble_eq_true rfl) (rokD (by omega) (Nat.le_of_ble_eq_true rfl) (Nat.le_of_ble_eq_true rfl) (Nat.le_of_ble_eq_true rfl)) rfl rfl (fun h1 q1 => ?_)
  obtain ⟨H1, m1⟩ := q1
  refine t_X12_either_L4 hrec m1  4000 _ _ H1 (Mo.rf _) hf
/-! ThirtyThreeBelowModel.operand -/
def f_X12_operand_L148_b (rec : SS → Option SS) (q0 : SS → Int32 → Int32 → Option SS) (rc : SS → Int32 → Int32 → Option SS) (s : SS) (x2 : Int32) (x3 : Int32) : Option SS := (if x2 < (5 : Int32) then (b1 (f_X12_look s) fun r17 => (b1 (f_X12_in r17 (48 : Int32) (57 : Int32)) fun r18 => (if r18 = (0 : Int32) then (q0 s x2 x3) else (b1 (f_X12_look s) fun r20 => (vl (((((10 : Int32) * x3) + r20) - (48 : Int32))) fun v21 => (vl (x2 + 1) fun v22 => (vl (((zS s 59 47) + (1 : Int32))) fun v23 => (st (pS s 59 47 v23) fun s24 => (rc s24 v22 v21))))))))) else (q0 s x2 x3))
def f_X12_operand_L148 (rec : SS → Option SS) (q0 : SS → Int32 → Int32 → Option SS) : Nat → SS → Int32 → Int32 → Option SS
  | 0, _, _, _ => none
  | n + 1, s, x2, x3 => f_X12_operand_L148_b rec q0 (f_X12_operand_L148 rec q0 n) s x2 x3
set_option maxRecDepth 4000 in
theorem t_X12_operand_L148 {Dr : Nat} {rec : SS → Option SS} (hrec : ∀ {s0 s9 : SS} {h0 : List aE}, HH s0 h0 → rec s0  = some s9 → AM mX12_operand Dr [.ref 67] h0 0 0 (PV fun h' => HH s9 h' ∧ Mo s0 s9)) {s0 sb s9 : SS} {q0 : SS → Int32 → Int32 → Option SS} (mb : Mo s0 sb) (hq0 : ∀ (s : SS) (h : List aE) (x2 : Int32) (x3 : Int32), HH s h → Mo sb s → q0 s x2 x3 = some s9 → AW mX12_operand (rmD (Dr + 6) 0 0) (fin (PV fun h' => HH s9 h' ∧ Mo s0 s9) 0 0) 196 [some (.ref 67), none, some (.int x2), some (.int x3)] [] h 0 0) : ∀ (n : Nat) (s : SS) (h : List aE) (x2 : Int32) (x3 : Int32), HH s h → Mo sb s → f_X12_operand_L148 rec q0 n s x2 x3 = some s9 → AW mX12_operand (rmD (Dr + 6) 0 0) (fin (PV fun h' => HH s9 h' ∧ Mo s0 s9) 0 0) 148 [some (.ref 67), none, some (.int x2), some (.int x3)] [] h 0 0 := by
  intro n
  induction n with
  | zero =>
    intro s h x2 x3 H ms hf
    cases hf
  | succ n ih =>
    intro s h x2 x3 H ms hf
    replace hf : f_X12_operand_L148_b rec q0 (f_X12_operand_L148 rec q0 n) s x2 x3 = some s9 := hf
    unfold f_X12_operand_L148_b at hf
    refine aw_iload_n (pc' := 149) dX12_operand_148 rfl rfl ?_
    refine aw_iconst (v := 5) (pc' := 150) dX12_operand_149 rfl (by decide) ?_
    refine aw_cge (tgt := 196) (pc' := 153) dX12_operand_150 (by decide) rfl (fun c16 => ?_) (fun c16 => ?_)
    · replace hf := ifn c16 hf
      exact hq0 _ _ _ _ H ms hf
    · replace hf := ifp c16 hf
      refine aw_aload_n (pc' := 154) dX12_operand_153 rfl rfl rfl ?_
      obtain ⟨r17, ec17, hf⟩ := b1_e hf
      refine aw_callVi (M' := mX12_look) (nc' := 0) (ns' := 0) (pc' := 157) dX12_operand_154 rfl ml_RX12_337 kX12_look (t_X12_look H ec17) (H.ob (H.fo rfl rfl) (by decide)) rfl rfl rfl (Nat.le_of_ble_eq_true rfl) (rokD (by omega) (Nat.le_of_ble_eq_true rfl) (Nat.le_of_ble_eq_true rfl) (Nat.le_of_ble_eq_true rfl)) rfl rfl (fun _ h17 q17 => ?_)
      obtain ⟨rfl, rfl⟩ := q17
      refine aw_bipush (v := 48) (pc' := 159) dX12_operand_157 rfl (by decide) ?_
      refine aw_bipush (v := 57) (pc' := 161) dX12_operand_159 rfl (by decide) ?_
      obtain ⟨r18, ec18, hf⟩ := b1_e hf
      refine aw_callSi (M' := mX12_in) (nc' := 0) (ns' := 0) (pc' := 164) dX12_operand_161 rfl ml_RX12_230 kX12_in (t_X12_in ec18) rfl rfl (Nat.le_of_ble_eq_true rfl) (rokD (by omega) (Nat.le_of_ble_eq_true rfl) (Nat.le_of_ble_eq_true rfl) (Nat.le_of_ble_eq_true rfl)) rfl rfl (fun _ h18 q18 => ?_)
      obtain ⟨rfl, rfl, zb18⟩ := q18
      refine aw_if_eq (tgt := 196) (pc' := 167) dX12_operand_164 (by decide) rfl (fun c19 => ?_) (fun c19 => ?_)
      · replace hf := ifp c19 hf
        exact hq0 _ _ _ _ H ms hf
      · replace hf := ifn c19 hf
        refine aw_bipush (v := 10) (pc' := 169) dX12_operand_167 rfl (by decide) ?_
        refine aw_iload_n (pc' := 170) dX12_operand_169 rfl rfl ?_
        refine aw_imul (pc' := 171) dX12_operand_170 rfl ?_
        refine aw_aload_n (pc' := 172) dX12_operand_171 rfl rfl rfl ?_
        obtain ⟨r20, ec20, hf⟩ := b1_e hf
        refine aw_callVi (M' := mX12_look) (nc' := 0) (ns' := 0) (pc' := 175) dX12_operand_172 rfl ml_RX12_337 kX12_look (t_X12_look H ec20) (H.ob (H.fo rfl rfl) (by decide)) rfl rfl rfl (Nat.le_of_ble_eq_true rfl) (rokD (by omega) (Nat.le_of_ble_eq_true rfl) (Nat.le_of_ble_eq_true rfl) (Nat.le_of_ble_eq_true rfl)) rfl rfl (fun _ h20 q20 => ?_)
        obtain ⟨rfl, rfl⟩ := q20
        refine aw_iadd (pc' := 176) dX12_operand_175 rfl ?_
        refine aw_bipush (v := 48) (pc' := 178) dX12_operand_176 rfl (by decide) ?_
        refine aw_isub (pc' := 179) dX12_operand_178 rfl ?_
        obtain ⟨v21, ev21, hf⟩ := vl_e hf
        refine aw_topi ev21 ?_
        refine aw_istore_n (lv' := [_, _, _, _]) (pc' := 180) dX12_operand_179 rfl (Nat.le_of_ble_eq_true rfl) rfl ?_
        obtain ⟨v22, ev22, hf⟩ := vl_e hf
        refine aw_iincV (y := v22) (lv' := [_, _, _, _]) (pc' := 183) dX12_operand_180 rfl rfl (Nat.le_of_ble_eq_true rfl) ev22 rfl ?_
        refine aw_aload_n (pc' := 184) dX12_operand_183 rfl rfl rfl ?_
        refine aw_dup (pc' := 185) dX12_operand_184 rfl rfl ?_
        refine aw_gi (q := 59) (pc' := 188) H (H.fo rfl rfl) (by decide) rfl dX12_operand_185 rfl fl_RX12_319 ?_
        refine aw_iconst (v := 1) (pc' := 189) dX12_operand_188 rfl (by decide) ?_
        refine aw_iadd (pc' := 190) dX12_operand_189 rfl ?_
        obtain ⟨v23, ev23, hf⟩ := vl_e hf
        refine aw_topi ev23 ?_
        obtain ⟨s24, es24, hf⟩ := st_e hf
        refine aw_pi (q := 59) (pc' := 193) es24 H (H.fo rfl rfl) (by decide) rfl dX12_operand_190 rfl fl_RX12_319 rfl (fun h24 H24 => ?_)
        have m24 := Mo.ofS es24
        refine aw_goto (tgt := 148) dX12_operand_193 (by decide) ?_
        exact ih _ _ _ _ H24 (ms.tr m24) hf
def f_X12_operand_r (rec : SS → Option SS) (s0 : SS)  : Option SS := (b1 (f_X12_look s0) fun r1 => (b1 (f_X12_nameOf r1) fun r2 => (if r2 < (0 : Int32) then (jn ((bd (f_X12_opens s0) fun r5 s5 => (if r5 = (0 : Int32) then some s5 else (b1 (rec s5) fun s7 => (vl (((zS s7 59 49) - (1 : Int32))) fun v8 => (st (pS s7 59 49 v8) fun s9 => (jn (fun (t10_0 : Int32) => (b1 (f_X12_lay s9 t10_0 0) fun s11 => some s11)) fun k10 => (if r1 = (33 : Int32) then (k10 3) else (k10 4))))))))) fun k4 => (if r1 = (33 : Int32) then k4 else (if r1 = (45 : Int32) then k4 else (if r1 = (40 : Int32) then (bd (f_X12_opens s0) fun r33 s33 => (if r33 = (0 : Int32) then some s33 else (b1 (f_X12_either rec s33) fun s35 => (if (zS s35 59 48) < (0 : Int32) then (b1 (f_X12_look s35) fun r37 => (if r37 = (41 : Int32) then (vl (((zS s35 59 49) - (1 : Int32))) fun v39 => (st (pS s35 59 49 v39) fun s40 => (vl (((zS s40 59 47) + (1 : Int32))) fun v41 => (st (pS s40 59 47 v41) fun s42 => some s42)))) else (b1 (f_X12_faultHere s35) fun s43 => some s43))) else some s35)))) else (f_X12_operand_L148 rec (fun (s25 : SS) (x25_2 : Int32) (x25_3 : Int32) => (jn ((b1 (f_X12_faultHere s25) fun s27 => some s27)) fun k26 => (if x25_2 = (0 : Int32) then k26 else (b1 (f_X12_look s25) fun r29 => (b1 (f_X12_in r29 (48 : Int32) (57 : Int32)) fun r30 => (if r30 = (0 : Int32) then (b1 (f_X12_lay s25 1 x25_3) fun s32 => some s32) else k26)))))) 4000 s0 0 0))))) else (b1 (f_X12_nameOf r1) fun r44 => (b1 (f_X12_lay s0 2 r44) fun s45 => (vl (((zS s45 59 47) + (1 : Int32))) fun v46 => (st (pS s45 59 47 v46) fun s47 => some s47)))))))
set_option maxRecDepth 4000 in
theorem t_X12_operand_r {Dr : Nat} {rec : SS → Option SS} (hrec : ∀ {s0 s9 : SS} {h0 : List aE}, HH s0 h0 → rec s0  = some s9 → AM mX12_operand Dr [.ref 67] h0 0 0 (PV fun h' => HH s9 h' ∧ Mo s0 s9)) {s0 s9 : SS} {h0 : List aE}  (H0 : HH s0 h0) (hf : f_X12_operand_r rec s0 = some s9) : AM mX12_operand (Dr + 6) [.ref 67] h0 0 0 (PV fun h' => HH s9 h' ∧ Mo s0 s9) := by
  unfold f_X12_operand_r at hf
  refine am_of (lv := [some (.ref 67), none, none, none]) rfl (Nat.le_of_ble_eq_true rfl) rfl ?_
  refine aw_aload_n (pc' := 1) dX12_operand_0 rfl rfl rfl ?_
  obtain ⟨r1, ec1, hf⟩ := b1_e hf
  refine aw_callVi (M' := mX12_look) (nc' := 0) (ns' := 0) (pc' := 4) dX12_operand_1 rfl ml_RX12_337 kX12_look (t_X12_look H0 ec1) (H0.ob (H0.fo rfl rfl) (by decide)) rfl rfl rfl (Nat.le_of_ble_eq_true rfl) (rokD (by omega) (Nat.le_of_ble_eq_true rfl) (Nat.le_of_ble_eq_true rfl) (Nat.le_of_ble_eq_true rfl)) rfl rfl (fun _ h1 q1 => ?_)
  obtain ⟨rfl, rfl⟩ := q1
  refine aw_istore_n (lv' := [_, _, _, _]) (pc' := 5) dX12_operand_4 rfl (Nat.le_of_ble_eq_true rfl) rfl ?_
  refine aw_iload_n (pc' := 6) dX12_operand_5 rfl rfl ?_
  obtain ⟨r2, ec2, hf⟩ := b1_e hf
  refine aw_callSi (M' := mX12_nameOf) (nc' := 0) (ns' := 0) (pc' := 9) dX12_operand_6 rfl ml_RX12_341 kX12_nameOf (t_X12_nameOf ec2) rfl rfl (Nat.le_of_ble_eq_true rfl) (rokD (by omega) (Nat.le_of_ble_eq_true rfl) (Nat.le_of_ble_eq_true rfl) (Nat.le_of_ble_eq_true rfl)) rfl rfl (fun _ h2 q2 => ?_)
  obtain ⟨rfl, rfl⟩ := q2
  refine aw_zlt (tgt := 32) (pc' := 12) dX12_operand_9 (by decide) rfl (fun c3 => ?_) (fun c3 => ?_)
  · replace hf := ifp c3 hf
    refine aw_iload_n (pc' := 33) dX12_operand_32 rfl rfl ?_
    refine aw_bipush (v := 33) (pc' := 35) dX12_operand_33 rfl (by decide) ?_
    obtain ⟨k4, ek4, hf⟩ := jn_e hf
    have hk4 : k4 = some s9 → AW mX12_operand (rmD (Dr + 6) 0 0) (fin (PV fun h' => HH s9 h' ∧ Mo s0 s9) 0 0) 44 [some (.ref 67), some (.int r1), none, none] [] h0 0 0 := by
      intro hf
      subst ek4
      refine aw_aload_n (pc' := 45) dX12_operand_44 rfl rfl rfl ?_
      obtain ⟨r5, s5, ec5, hf⟩ := bd_e hf
      refine aw_callVi (M' := mX12_opens) (nc' := 0) (ns' := 0) (pc' := 48) dX12_operand_45 rfl ml_RX12_348 kX12_opens (t_X12_opens H0 ec5) (H0.ob (H0.fo rfl rfl) (by decide)) rfl rfl rfl (Nat.le_of_ble_eq_true rfl) (rokD (by omega) (Nat.le_of_ble_eq_true rfl) (Nat.le_of_ble_eq_true rfl) (Nat.le_of_ble_eq_true rfl)) rfl rfl (fun _ h5 q5 => ?_)
      obtain ⟨rfl, H5, m5, zb5⟩ := q5
      refine aw_if_ne (tgt := 52) (pc' := 51) dX12_operand_48 (by decide) rfl (fun c6 => ?_) (fun c6 => ?_)
      · replace hf := ifn c6 hf
        refine aw_aload_n (pc' := 53) dX12_operand_52 rfl rfl rfl ?_
        obtain ⟨s7, ec7, hf⟩ := b1_e hf
        refine aw_callVv (M' := mX12_operand) (nc' := 0) (ns' := 0) (pc' := 56) dX12_operand_53 rfl ml_RX12_352 kX12_operand (hrec H5 ec7) (H5.ob (H5.fo rfl rfl) (by decide)) rfl rfl rfl (Nat.le_of_ble_eq_true rfl) (rokD (by omega) (Nat.le_of_ble_eq_true rfl) (Nat.le_of_ble_eq_true rfl) (Nat.le_of_ble_eq_true rfl)) rfl rfl (fun h7 q7 => ?_)
        obtain ⟨H7, m7⟩ := q7
        refine aw_aload_n (pc' := 57) dX12_operand_56 rfl rfl rfl ?_
        refine aw_dup (pc' := 58) dX12_operand_57 rfl rfl ?_
        refine aw_gi (q := 59) (pc' := 61) H7 (H7.fo rfl rfl) (by decide) rfl dX12_operand_58 rfl fl_RX12_331 ?_
        refine aw_iconst (v := 1) (pc' := 62) dX12_operand_61 rfl (by decide) ?_
        refine aw_isub (pc' := 63) dX12_operand_62 rfl ?_
        obtain ⟨v8, ev8, hf⟩ := vl_e hf
        refine aw_topi ev8 ?_
        obtain ⟨s9, es9, hf⟩ := st_e hf
        refine aw_pi (q := 59) (pc' := 66) es9 H7 (H7.fo rfl rfl) (by decide) rfl dX12_operand_63 rfl fl_RX12_331 rfl (fun h9 H9 => ?_)
        have m9 := Mo.ofS es9
        refine aw_aload_n (pc' := 67) dX12_operand_66 rfl rfl rfl ?_
        refine aw_iload_n (pc' := 68) dX12_operand_67 rfl rfl ?_
        refine aw_bipush (v := 33) (pc' := 70) dX12_operand_68 rfl (by decide) ?_
        obtain ⟨k10, ek10, hf⟩ := jn_e hf
        have hk10 : ∀ (t10_0 : Int32), k10 t10_0 = some s9 → AW mX12_operand (rmD (Dr + 6) 0 0) (fin (PV fun h' => HH s9 h' ∧ Mo s0 s9) 0 0) 78 [none, none, none, none] [.int t10_0, .ref 67] h9 0 0 := by
          intro t10_0 hf
          subst ek10
          refine aw_iconst (v := 0) (pc' := 79) dX12_operand_78 rfl (by decide) ?_
          obtain ⟨s11, ec11, hf⟩ := b1_e hf
          refine aw_callVv (M' := mX12_lay) (nc' := 0) (ns' := 0) (pc' := 82) dX12_operand_79 rfl ml_RX12_344 kX12_lay (t_X12_lay H9 ec11) (H9.ob (H9.fo rfl rfl) (by decide)) rfl rfl rfl (Nat.le_of_ble_eq_true rfl) (rokD (by omega) (Nat.le_of_ble_eq_true rfl) (Nat.le_of_ble_eq_true rfl) (Nat.le_of_ble_eq_true rfl)) rfl rfl (fun h11 q11 => ?_)
          obtain ⟨H11, m11⟩ := q11
          obtain rfl := Option.some.inj hf
          exact aw_rv dX12_operand_82 rfl (Nat.le_of_ble_eq_true rfl) (Nat.le_of_ble_eq_true rfl) ⟨H11, (((m5.tr m7).tr m9).tr m11)⟩
        clear ek10
        refine aw_icmp_ne (tgt := 77) (pc' := 73) dX12_operand_70 (by decide) rfl (fun c12 => ?_) (fun c12 => ?_)
        · replace hf := ifn c12 hf
          refine aw_iconst (v := 4) (pc' := 78) dX12_operand_77 rfl (by decide) ?_
          refine AW.lv_le (lz_d (lz_d (lz_d (lz_d lz_0)))) ?_
          exact hk10 _ hf
        · replace hf := ifp c12 hf
          refine aw_iconst (v := 3) (pc' := 74) dX12_operand_73 rfl (by decide) ?_
          refine aw_goto (tgt := 78) dX12_operand_74 (by decide) ?_
          refine AW.lv_le (lz_d (lz_d (lz_d (lz_d lz_0)))) ?_
          exact hk10 _ hf
      · replace hf := ifp c6 hf
        obtain rfl := Option.some.inj hf
        exact aw_rv dX12_operand_51 rfl (Nat.le_of_ble_eq_true rfl) (Nat.le_of_ble_eq_true rfl) ⟨H5, m5⟩
    clear ek4
    refine aw_icmp_eq (tgt := 44) (pc' := 38) dX12_operand_35 (by decide) rfl (fun c13 => ?_) (fun c13 => ?_)
    · replace hf := ifp c13 hf
      exact hk4  hf
    · replace hf := ifn c13 hf
      refine aw_iload_n (pc' := 39) dX12_operand_38 rfl rfl ?_
      refine aw_bipush (v := 45) (pc' := 41) dX12_operand_39 rfl (by decide) ?_
      refine aw_icmp_ne (tgt := 83) (pc' := 44) dX12_operand_41 (by decide) rfl (fun c14 => ?_) (fun c14 => ?_)
      · replace hf := ifn c14 hf
        refine aw_iload_n (pc' := 84) dX12_operand_83 rfl rfl ?_
        refine aw_bipush (v := 40) (pc' := 86) dX12_operand_84 rfl (by decide) ?_
        refine aw_icmp_ne (tgt := 144) (pc' := 89) dX12_operand_86 (by decide) rfl (fun c15 => ?_) (fun c15 => ?_)
        · replace hf := ifn c15 hf
          refine aw_iconst (v := 0) (pc' := 145) dX12_operand_144 rfl (by decide) ?_
          refine aw_istore_n (lv' := [_, _, _, _]) (pc' := 146) dX12_operand_145 rfl (Nat.le_of_ble_eq_true rfl) rfl ?_
          refine aw_iconst (v := 0) (pc' := 147) dX12_operand_146 rfl (by decide) ?_
          refine aw_istore_n (lv' := [_, _, _, _]) (pc' := 148) dX12_operand_147 rfl (Nat.le_of_ble_eq_true rfl) rfl ?_
          refine AW.lv_le (lz_k (lz_d (lz_k (lz_k lz_0)))) ?_
          refine t_X12_operand_L148 hrec (Mo.rf _) (fun s25 h25 x25_2 x25_3 H25 m25 hf => ?_) 4000 _ _ _ _ H0 (Mo.rf _) hf
          refine aw_iload_n (pc' := 197) dX12_operand_196 rfl rfl ?_
          obtain ⟨k26, ek26, hf⟩ := jn_e hf
          have hk26 : k26 = some s9 → AW mX12_operand (rmD (Dr + 6) 0 0) (fin (PV fun h' => HH s9 h' ∧ Mo s0 s9) 0 0) 214 [some (.ref 67), none, none, none] [] h25 0 0 := by
            intro hf
            subst ek26
            refine aw_aload_n (pc' := 215) dX12_operand_214 rfl rfl rfl ?_
            obtain ⟨s27, ec27, hf⟩ := b1_e hf
            refine aw_callVv (M' := mX12_faultHere) (nc' := 0) (ns' := 0) (pc' := 218) dX12_operand_215 rfl ml_RX12_334 kX12_faultHere (t_X12_faultHere H25 ec27) (H25.ob (H25.fo rfl rfl) (by decide)) rfl rfl rfl (Nat.le_of_ble_eq_true rfl) (rokD (by omega) (Nat.le_of_ble_eq_true rfl) (Nat.le_of_ble_eq_true rfl) (Nat.le_of_ble_eq_true rfl)) rfl rfl (fun h27 q27 => ?_)
            obtain ⟨H27, m27⟩ := q27
            refine aw_goto (tgt := 227) dX12_operand_218 (by decide) ?_
            obtain rfl := Option.some.inj hf
            exact aw_rv dX12_operand_227 rfl (Nat.le_of_ble_eq_true rfl) (Nat.le_of_ble_eq_true rfl) ⟨H27, (m25.tr m27)⟩
          clear ek26
          refine aw_if_eq (tgt := 214) (pc' := 200) dX12_operand_197 (by decide) rfl (fun c28 => ?_) (fun c28 => ?_)
          · replace hf := ifp c28 hf
            refine AW.lv_le (lz_k (lz_d (lz_d (lz_d lz_0)))) ?_
            exact hk26  hf
          · replace hf := ifn c28 hf
            refine aw_aload_n (pc' := 201) dX12_operand_200 rfl rfl rfl ?_
            obtain ⟨r29, ec29, hf⟩ := b1_e hf
            refine aw_callVi (M' := mX12_look) (nc' := 0) (ns' := 0) (pc' := 204) dX12_operand_201 rfl ml_RX12_337 kX12_look (t_X12_look H25 ec29) (H25.ob (H25.fo rfl rfl) (by decide)) rfl rfl rfl (Nat.le_of_ble_eq_true rfl) (rokD (by omega) (Nat.le_of_ble_eq_true rfl) (Nat.le_of_ble_eq_true rfl) (Nat.le_of_ble_eq_true rfl)) rfl rfl (fun _ h29 q29 => ?_)
            obtain ⟨rfl, rfl⟩ := q29
            refine aw_bipush (v := 48) (pc' := 206) dX12_operand_204 rfl (by decide) ?_
            refine aw_bipush (v := 57) (pc' := 208) dX12_operand_206 rfl (by decide) ?_
            obtain ⟨r30, ec30, hf⟩ := b1_e hf
            refine aw_callSi (M' := mX12_in) (nc' := 0) (ns' := 0) (pc' := 211) dX12_operand_208 rfl ml_RX12_230 kX12_in (t_X12_in ec30) rfl rfl (Nat.le_of_ble_eq_true rfl) (rokD (by omega) (Nat.le_of_ble_eq_true rfl) (Nat.le_of_ble_eq_true rfl) (Nat.le_of_ble_eq_true rfl)) rfl rfl (fun _ h30 q30 => ?_)
            obtain ⟨rfl, rfl, zb30⟩ := q30
            refine aw_if_eq (tgt := 221) (pc' := 214) dX12_operand_211 (by decide) rfl (fun c31 => ?_) (fun c31 => ?_)
            · replace hf := ifp c31 hf
              refine aw_aload_n (pc' := 222) dX12_operand_221 rfl rfl rfl ?_
              refine aw_iconst (v := 1) (pc' := 223) dX12_operand_222 rfl (by decide) ?_
              refine aw_iload_n (pc' := 224) dX12_operand_223 rfl rfl ?_
              obtain ⟨s32, ec32, hf⟩ := b1_e hf
              refine aw_callVv (M' := mX12_lay) (nc' := 0) (ns' := 0) (pc' := 227) dX12_operand_224 rfl ml_RX12_344 kX12_lay (t_X12_lay H25 ec32) (H25.ob (H25.fo rfl rfl) (by decide)) rfl rfl rfl (Nat.le_of_ble_eq_true rfl) (rokD (by omega) (Nat.le_of_ble_eq_true rfl) (Nat.le_of_ble_eq_true rfl) (Nat.le_of_ble_eq_true rfl)) rfl rfl (fun h32 q32 => ?_)
              obtain ⟨H32, m32⟩ := q32
              obtain rfl := Option.some.inj hf
              exact aw_rv dX12_operand_227 rfl (Nat.le_of_ble_eq_true rfl) (Nat.le_of_ble_eq_true rfl) ⟨H32, (m25.tr m32)⟩
            · replace hf := ifn c31 hf
              refine AW.lv_le (lz_k (lz_d (lz_d (lz_d lz_0)))) ?_
              exact hk26  hf
        · replace hf := ifp c15 hf
          refine aw_aload_n (pc' := 90) dX12_operand_89 rfl rfl rfl ?_
          obtain ⟨r33, s33, ec33, hf⟩ := bd_e hf
          refine aw_callVi (M' := mX12_opens) (nc' := 0) (ns' := 0) (pc' := 93) dX12_operand_90 rfl ml_RX12_348 kX12_opens (t_X12_opens H0 ec33) (H0.ob (H0.fo rfl rfl) (by decide)) rfl rfl rfl (Nat.le_of_ble_eq_true rfl) (rokD (by omega) (Nat.le_of_ble_eq_true rfl) (Nat.le_of_ble_eq_true rfl) (Nat.le_of_ble_eq_true rfl)) rfl rfl (fun _ h33 q33 => ?_)
          obtain ⟨rfl, H33, m33, zb33⟩ := q33
          refine aw_if_ne (tgt := 97) (pc' := 96) dX12_operand_93 (by decide) rfl (fun c34 => ?_) (fun c34 => ?_)
          · replace hf := ifn c34 hf
            refine aw_aload_n (pc' := 98) dX12_operand_97 rfl rfl rfl ?_
            obtain ⟨s35, ec35, hf⟩ := b1_e hf
            refine aw_callVv (M' := mX12_either) (nc' := 0) (ns' := 0) (pc' := 101) dX12_operand_98 rfl ml_RX12_355 kX12_either (t_X12_either hrec H33 ec35) (H33.ob (H33.fo rfl rfl) (by decide)) rfl rfl rfl (Nat.le_of_ble_eq_true rfl) (rokD (by omega) (Nat.le_of_ble_eq_true rfl) (Nat.le_of_ble_eq_true rfl) (Nat.le_of_ble_eq_true rfl)) rfl rfl (fun h35 q35 => ?_)
            obtain ⟨H35, m35⟩ := q35
            refine aw_aload_n (pc' := 102) dX12_operand_101 rfl rfl rfl ?_
            refine aw_gi (q := 59) (pc' := 105) H35 (H35.fo rfl rfl) (by decide) rfl dX12_operand_102 rfl fl_RX12_322 ?_
            refine aw_zlt (tgt := 109) (pc' := 108) dX12_operand_105 (by decide) rfl (fun c36 => ?_) (fun c36 => ?_)
            · replace hf := ifp c36 hf
              refine aw_aload_n (pc' := 110) dX12_operand_109 rfl rfl rfl ?_
              obtain ⟨r37, ec37, hf⟩ := b1_e hf
              refine aw_callVi (M' := mX12_look) (nc' := 0) (ns' := 0) (pc' := 113) dX12_operand_110 rfl ml_RX12_337 kX12_look (t_X12_look H35 ec37) (H35.ob (H35.fo rfl rfl) (by decide)) rfl rfl rfl (Nat.le_of_ble_eq_true rfl) (rokD (by omega) (Nat.le_of_ble_eq_true rfl) (Nat.le_of_ble_eq_true rfl) (Nat.le_of_ble_eq_true rfl)) rfl rfl (fun _ h37 q37 => ?_)
              obtain ⟨rfl, rfl⟩ := q37
              refine aw_bipush (v := 41) (pc' := 115) dX12_operand_113 rfl (by decide) ?_
              refine aw_icmp_eq (tgt := 123) (pc' := 118) dX12_operand_115 (by decide) rfl (fun c38 => ?_) (fun c38 => ?_)
              · replace hf := ifp c38 hf
                refine aw_aload_n (pc' := 124) dX12_operand_123 rfl rfl rfl ?_
                refine aw_dup (pc' := 125) dX12_operand_124 rfl rfl ?_
                refine aw_gi (q := 59) (pc' := 128) H35 (H35.fo rfl rfl) (by decide) rfl dX12_operand_125 rfl fl_RX12_331 ?_
                refine aw_iconst (v := 1) (pc' := 129) dX12_operand_128 rfl (by decide) ?_
                refine aw_isub (pc' := 130) dX12_operand_129 rfl ?_
                obtain ⟨v39, ev39, hf⟩ := vl_e hf
                refine aw_topi ev39 ?_
                obtain ⟨s40, es40, hf⟩ := st_e hf
                refine aw_pi (q := 59) (pc' := 133) es40 H35 (H35.fo rfl rfl) (by decide) rfl dX12_operand_130 rfl fl_RX12_331 rfl (fun h40 H40 => ?_)
                have m40 := Mo.ofS es40
                refine aw_aload_n (pc' := 134) dX12_operand_133 rfl rfl rfl ?_
                refine aw_dup (pc' := 135) dX12_operand_134 rfl rfl ?_
                refine aw_gi (q := 59) (pc' := 138) H40 (H40.fo rfl rfl) (by decide) rfl dX12_operand_135 rfl fl_RX12_319 ?_
                refine aw_iconst (v := 1) (pc' := 139) dX12_operand_138 rfl (by decide) ?_
                refine aw_iadd (pc' := 140) dX12_operand_139 rfl ?_
                obtain ⟨v41, ev41, hf⟩ := vl_e hf
                refine aw_topi ev41 ?_
                obtain ⟨s42, es42, hf⟩ := st_e hf
                refine aw_pi (q := 59) (pc' := 143) es42 H40 (H40.fo rfl rfl) (by decide) rfl dX12_operand_140 rfl fl_RX12_319 rfl (fun h42 H42 => ?_)
                have m42 := Mo.ofS es42
                obtain rfl := Option.some.inj hf
                exact aw_rv dX12_operand_143 rfl (Nat.le_of_ble_eq_true rfl) (Nat.le_of_ble_eq_true rfl) ⟨H42, (((m33.tr m35).tr m40).tr m42)⟩
              · replace hf := ifn c38 hf
                refine aw_aload_n (pc' := 119) dX12_operand_118 rfl rfl rfl ?_
                obtain ⟨s43, ec43, hf⟩ := b1_e hf
                refine aw_callVv (M' := mX12_faultHere) (nc' := 0) (ns' := 0) (pc' := 122) dX12_operand_119 rfl ml_RX12_334 kX12_faultHere (t_X12_faultHere H35 ec43) (H35.ob (H35.fo rfl rfl) (by decide)) rfl rfl rfl (Nat.le_of_ble_eq_true rfl) (rokD (by omega) (Nat.le_of_ble_eq_true rfl) (Nat.le_of_ble_eq_true rfl) (Nat.le_of_ble_eq_true rfl)) rfl rfl (fun h43 q43 => ?_)
                obtain ⟨H43, m43⟩ := q43
                obtain rfl := Option.some.inj hf
                exact aw_rv dX12_operand_122 rfl (Nat.le_of_ble_eq_true rfl) (Nat.le_of_ble_eq_true rfl) ⟨H43, ((m33.tr m35).tr m43)⟩
            · replace hf := ifn c36 hf
              obtain rfl := Option.some.inj hf
              exact aw_rv dX12_operand_108 rfl (Nat.le_of_ble_eq_true rfl) (Nat.le_of_ble_eq_true rfl) ⟨H35, (m33.tr m35)⟩
          · replace hf := ifp c34 hf
            obtain rfl := Option.some.inj hf
            exact aw_rv dX12_operand_96 rfl (Nat.le_of_ble_eq_true rfl) (Nat.le_of_ble_eq_true rfl) ⟨H33, m33⟩
      · replace hf := ifp c14 hf
        exact hk4  hf
  · replace hf := ifn c3 hf
    refine aw_aload_n (pc' := 13) dX12_operand_12 rfl rfl rfl ?_
    refine aw_iconst (v := 2) (pc' := 14) dX12_operand_13 rfl (by decide) ?_
    refine aw_iload_n (pc' := 15) dX12_operand_14 rfl rfl ?_
    obtain ⟨r44, ec44, hf⟩ := b1_e hf
    refine aw_callSi (M' := mX12_nameOf) (nc' := 0) (ns' := 0) (pc' := 18) dX12_operand_15 rfl ml_RX12_341 kX12_nameOf (t_X12_nameOf ec44) rfl rfl (Nat.le_of_ble_eq_true rfl) (rokD (by omega) (Nat.le_of_ble_eq_true rfl) (Nat.le_of_ble_eq_true rfl) (Nat.le_of_ble_eq_true rfl)) rfl rfl (fun _ h44 q44 => ?_)
    obtain ⟨rfl, rfl⟩ := q44
    obtain ⟨s45, ec45, hf⟩ := b1_e hf
    refine aw_callVv (M' := mX12_lay) (nc' := 0) (ns' := 0) (pc' := 21) dX12_operand_18 rfl ml_RX12_344 kX12_lay (t_X12_lay H0 ec45) (H0.ob (H0.fo rfl rfl) (by decide)) rfl rfl rfl (Nat.le_of_ble_eq_true rfl) (rokD (by omega) (Nat.le_of_ble_eq_true rfl) (Nat.le_of_ble_eq_true rfl) (Nat.le_of_ble_eq_true rfl)) rfl rfl (fun h45 q45 => ?_)
    obtain ⟨H45, m45⟩ := q45
    refine aw_aload_n (pc' := 22) dX12_operand_21 rfl rfl rfl ?_
    refine aw_dup (pc' := 23) dX12_operand_22 rfl rfl ?_
    refine aw_gi (q := 59) (pc' := 26) H45 (H45.fo rfl rfl) (by decide) rfl dX12_operand_23 rfl fl_RX12_319 ?_
    refine aw_iconst (v := 1) (pc' := 27) dX12_operand_26 rfl (by decide) ?_
    refine aw_iadd (pc' := 28) dX12_operand_27 rfl ?_
    obtain ⟨v46, ev46, hf⟩ := vl_e hf
    refine aw_topi ev46 ?_
    obtain ⟨s47, es47, hf⟩ := st_e hf
    refine aw_pi (q := 59) (pc' := 31) es47 H45 (H45.fo rfl rfl) (by decide) rfl dX12_operand_28 rfl fl_RX12_319 rfl (fun h47 H47 => ?_)
    have m47 := Mo.ofS es47
    obtain rfl := Option.some.inj hf
    exact aw_rv dX12_operand_31 rfl (Nat.le_of_ble_eq_true rfl) (Nat.le_of_ble_eq_true rfl) ⟨H47, (m45.tr m47)⟩
def f_X12_operand : Nat → SS → Option SS
  | 0, _ => none
  | n + 1, s0 => f_X12_operand_r (f_X12_operand n) s0 
set_option maxRecDepth 4000 in
theorem t_X12_operand : ∀ (n : Nat) {s0 s9 : SS} {h0 : List aE}, HH s0 h0 → f_X12_operand n s0  = some s9 → AM mX12_operand (6 * n) [.ref 67] h0 0 0 (PV fun h' => HH s9 h' ∧ Mo s0 s9) := by
  intro n
  induction n with
  | zero =>
    intro s0 s9 h0  H0 hf
    cases hf
  | succ n ih =>
    intro s0 s9 h0  H0 hf
    exact t_X12_operand_r (Dr := 6 * n) ih H0 hf
/-! ThirtyThreeBelowModel.readLine -/
def f_X12_readLine (s0 : SS)  : Option SS := (vl ((zS s0 59 50)) fun v1 => (gd (inB v1 17) (vl ((((90 : Int32) * (zS s0 59 50)) + (zI s0 90 (v1.toInt.toNat)))) fun v3 => (vl ((zS s0 59 51)) fun v4 => (b1 (f_X12_either (f_X12_operand 12) s0) fun s5 => (gd (inB v3 1530) (st (pI s5 91 (v3.toInt.toNat) v4) fun s7 => (jn (fun (s8 : SS)  => (vl ((zS s8 59 51)) fun v9 => (gd (inB v3 1530) (st (pI s8 92 (v3.toInt.toNat) v9) fun s11 => (vl ((zS s11 59 50)) fun v12 => (gd (inB v12 17) (vl (((zI s11 90 (v12.toInt.toNat)) + (1 : Int32))) fun v14 => (vl ((zS s11 59 50)) fun v15 => (gd (inB v15 17) (st (pI s11 90 (v15.toInt.toNat) v14) fun s17 => some s17)))))))))) fun k8 => (if (zS s7 59 48) < (0 : Int32) then (b1 (f_X12_look s7) fun r19 => (if r19 = (63 : Int32) then (vl (((zS s7 59 47) + (1 : Int32))) fun v21 => (st (pS s7 59 47 v21) fun s22 => (vl ((zS s22 59 51)) fun v23 => (gd (inB v3 1530) (st (pI s22 91 (v3.toInt.toNat) v23) fun s25 => (b1 (f_X12_either (f_X12_operand 12) s25) fun s26 => (k8 s26))))))) else (k8 s7))) else (k8 s7))))))))))
set_option maxRecDepth 4000 in
theorem t_X12_readLine {s0 s9 : SS} {h0 : List aE}  (H0 : HH s0 h0) (hf : f_X12_readLine s0 = some s9) : AM mX12_readLine (6) [.ref 67] h0 0 0 (PV fun h' => HH s9 h' ∧ Mo s0 s9) := by
  unfold f_X12_readLine at hf
  refine am_of (lv := [some (.ref 67), none, none]) rfl (Nat.le_of_ble_eq_true rfl) rfl ?_
  refine aw_bipush (v := 90) (pc' := 2) dX12_readLine_0 rfl (by decide) ?_
  refine aw_aload_n (pc' := 3) dX12_readLine_2 rfl rfl rfl ?_
  refine aw_gi (q := 59) (pc' := 6) H0 (H0.fo rfl rfl) (by decide) rfl dX12_readLine_3 rfl fl_RX12_325 ?_
  refine aw_imul (pc' := 7) dX12_readLine_6 rfl ?_
  refine aw_aload_n (pc' := 8) dX12_readLine_7 rfl rfl rfl ?_
  refine aw_gr (q := 59) (e := 63) (v := .ref 98) (pc' := 11) H0 (H0.fo rfl rfl) (by decide) rfl rfl dX12_readLine_8 rfl fl_RX12_109 ?_
  refine aw_aload_n (pc' := 12) dX12_readLine_11 rfl rfl rfl ?_
  refine aw_gi (q := 59) (pc' := 15) H0 (H0.fo rfl rfl) (by decide) rfl dX12_readLine_12 rfl fl_RX12_325 ?_
  obtain ⟨v1, ev1, hf⟩ := vl_e hf
  refine aw_topi ev1 ?_
  obtain ⟨g2, hf⟩ := gd_e hf
  refine aw_ia (q := 90) (pc' := 16) H0 (H0.fa rfl rfl rfl) g2 dX12_readLine_15 rfl ?_
  refine aw_iadd (pc' := 17) dX12_readLine_16 rfl ?_
  obtain ⟨v3, ev3, hf⟩ := vl_e hf
  refine aw_topi ev3 ?_
  refine aw_istore_n (lv' := [_, _, _]) (pc' := 18) dX12_readLine_17 rfl (Nat.le_of_ble_eq_true rfl) rfl ?_
  refine aw_aload_n (pc' := 19) dX12_readLine_18 rfl rfl rfl ?_
  refine aw_gi (q := 59) (pc' := 22) H0 (H0.fo rfl rfl) (by decide) rfl dX12_readLine_19 rfl fl_RX12_328 ?_
  obtain ⟨v4, ev4, hf⟩ := vl_e hf
  refine aw_topi ev4 ?_
  refine aw_istore_n (lv' := [_, _, _]) (pc' := 23) dX12_readLine_22 rfl (Nat.le_of_ble_eq_true rfl) rfl ?_
  refine aw_aload_n (pc' := 24) dX12_readLine_23 rfl rfl rfl ?_
  obtain ⟨s5, ec5, hf⟩ := b1_e hf
  refine aw_callVv (M' := mX12_either) (nc' := 0) (ns' := 0) (pc' := 27) dX12_readLine_24 rfl ml_RX12_355 kX12_either (t_X12_either (t_X12_operand 12) H0 ec5) (H0.ob (H0.fo rfl rfl) (by decide)) rfl rfl rfl (Nat.le_of_ble_eq_true rfl) (rokD (by omega) (Nat.le_of_ble_eq_true rfl) (Nat.le_of_ble_eq_true rfl) (Nat.le_of_ble_eq_true rfl)) rfl rfl (fun h5 q5 => ?_)
  obtain ⟨H5, m5⟩ := q5
  refine aw_aload_n (pc' := 28) dX12_readLine_27 rfl rfl rfl ?_
  refine aw_gr (q := 59) (e := 65) (v := .ref 99) (pc' := 31) H5 (H5.fo rfl rfl) (by decide) rfl rfl dX12_readLine_28 rfl fl_RX12_112 ?_
  refine aw_iload_n (pc' := 32) dX12_readLine_31 rfl rfl ?_
  refine aw_iload_n (pc' := 33) dX12_readLine_32 rfl rfl ?_
  obtain ⟨g6, hf⟩ := gd_e hf
  obtain ⟨s7, es7, hf⟩ := st_e hf
  refine aw_is (q := 91) (pc' := 34) es7 H5 (H5.fa rfl rfl rfl) g6 dX12_readLine_33 rfl (fun h7 H7 => ?_)
  have m7 := Mo.ofI es7
  refine aw_aload_n (pc' := 35) dX12_readLine_34 rfl rfl rfl ?_
  refine aw_gi (q := 59) (pc' := 38) H7 (H7.fo rfl rfl) (by decide) rfl dX12_readLine_35 rfl fl_RX12_322 ?_
  obtain ⟨k8, ek8, hf⟩ := jn_e hf
  have hk8 : ∀ (s8 : SS) (h8 : List aE), HH s8 h8 → Mo s7 s8 → k8 s8 = some s9 → AW mX12_readLine (rmD (6) 0 0) (fin (PV fun h' => HH s9 h' ∧ Mo s0 s9) 0 0) 74 [some (.ref 67), some (.int v3), none] [] h8 0 0 := by
    intro s8 h8 H8 m8 hf
    subst ek8
    refine aw_aload_n (pc' := 75) dX12_readLine_74 rfl rfl rfl ?_
    refine aw_gr (q := 59) (e := 67) (v := .ref 100) (pc' := 78) H8 (H8.fo rfl rfl) (by decide) rfl rfl dX12_readLine_75 rfl fl_RX12_115 ?_
    refine aw_iload_n (pc' := 79) dX12_readLine_78 rfl rfl ?_
    refine aw_aload_n (pc' := 80) dX12_readLine_79 rfl rfl rfl ?_
    refine aw_gi (q := 59) (pc' := 83) H8 (H8.fo rfl rfl) (by decide) rfl dX12_readLine_80 rfl fl_RX12_328 ?_
    obtain ⟨v9, ev9, hf⟩ := vl_e hf
    refine aw_topi ev9 ?_
    obtain ⟨g10, hf⟩ := gd_e hf
    obtain ⟨s11, es11, hf⟩ := st_e hf
    refine aw_is (q := 92) (pc' := 84) es11 H8 (H8.fa rfl rfl rfl) g10 dX12_readLine_83 rfl (fun h11 H11 => ?_)
    have m11 := Mo.ofI es11
    refine aw_aload_n (pc' := 85) dX12_readLine_84 rfl rfl rfl ?_
    refine aw_gr (q := 59) (e := 63) (v := .ref 98) (pc' := 88) H11 (H11.fo rfl rfl) (by decide) rfl rfl dX12_readLine_85 rfl fl_RX12_109 ?_
    refine aw_aload_n (pc' := 89) dX12_readLine_88 rfl rfl rfl ?_
    refine aw_gi (q := 59) (pc' := 92) H11 (H11.fo rfl rfl) (by decide) rfl dX12_readLine_89 rfl fl_RX12_325 ?_
    refine aw_dup2 (pc' := 93) dX12_readLine_92 rfl rfl rfl ?_
    obtain ⟨v12, ev12, hf⟩ := vl_e hf
    refine aw_topi ev12 ?_
    obtain ⟨g13, hf⟩ := gd_e hf
    refine aw_ia (q := 90) (pc' := 94) H11 (H11.fa rfl rfl rfl) g13 dX12_readLine_93 rfl ?_
    refine aw_iconst (v := 1) (pc' := 95) dX12_readLine_94 rfl (by decide) ?_
    refine aw_iadd (pc' := 96) dX12_readLine_95 rfl ?_
    obtain ⟨v14, ev14, hf⟩ := vl_e hf
    refine aw_topi ev14 ?_
    obtain ⟨v15, ev15, hf⟩ := vl_e hf
    refine aw_sndi ev15 ?_
    obtain ⟨g16, hf⟩ := gd_e hf
    obtain ⟨s17, es17, hf⟩ := st_e hf
    refine aw_is (q := 90) (pc' := 97) es17 H11 (H11.fa rfl rfl rfl) g16 dX12_readLine_96 rfl (fun h17 H17 => ?_)
    have m17 := Mo.ofI es17
    obtain rfl := Option.some.inj hf
    exact aw_rv dX12_readLine_97 rfl (Nat.le_of_ble_eq_true rfl) (Nat.le_of_ble_eq_true rfl) ⟨H17, ((((m5.tr m7).tr m8).tr m11).tr m17)⟩
  clear ek8
  refine aw_zge (tgt := 74) (pc' := 41) dX12_readLine_38 (by decide) rfl (fun c18 => ?_) (fun c18 => ?_)
  · replace hf := ifn c18 hf
    refine AW.lv_le (lz_k (lz_k (lz_d lz_0))) ?_
    exact hk8 _ _ H7 (Mo.rf _) hf
  · replace hf := ifp c18 hf
    refine aw_aload_n (pc' := 42) dX12_readLine_41 rfl rfl rfl ?_
    obtain ⟨r19, ec19, hf⟩ := b1_e hf
    refine aw_callVi (M' := mX12_look) (nc' := 0) (ns' := 0) (pc' := 45) dX12_readLine_42 rfl ml_RX12_337 kX12_look (t_X12_look H7 ec19) (H7.ob (H7.fo rfl rfl) (by decide)) rfl rfl rfl (Nat.le_of_ble_eq_true rfl) (rokD (by omega) (Nat.le_of_ble_eq_true rfl) (Nat.le_of_ble_eq_true rfl) (Nat.le_of_ble_eq_true rfl)) rfl rfl (fun _ h19 q19 => ?_)
    obtain ⟨rfl, rfl⟩ := q19
    refine aw_bipush (v := 63) (pc' := 47) dX12_readLine_45 rfl (by decide) ?_
    refine aw_icmp_ne (tgt := 74) (pc' := 50) dX12_readLine_47 (by decide) rfl (fun c20 => ?_) (fun c20 => ?_)
    · replace hf := ifn c20 hf
      refine AW.lv_le (lz_k (lz_k (lz_d lz_0))) ?_
      exact hk8 _ _ H7 (Mo.rf _) hf
    · replace hf := ifp c20 hf
      refine aw_aload_n (pc' := 51) dX12_readLine_50 rfl rfl rfl ?_
      refine aw_dup (pc' := 52) dX12_readLine_51 rfl rfl ?_
      refine aw_gi (q := 59) (pc' := 55) H7 (H7.fo rfl rfl) (by decide) rfl dX12_readLine_52 rfl fl_RX12_319 ?_
      refine aw_iconst (v := 1) (pc' := 56) dX12_readLine_55 rfl (by decide) ?_
      refine aw_iadd (pc' := 57) dX12_readLine_56 rfl ?_
      obtain ⟨v21, ev21, hf⟩ := vl_e hf
      refine aw_topi ev21 ?_
      obtain ⟨s22, es22, hf⟩ := st_e hf
      refine aw_pi (q := 59) (pc' := 60) es22 H7 (H7.fo rfl rfl) (by decide) rfl dX12_readLine_57 rfl fl_RX12_319 rfl (fun h22 H22 => ?_)
      have m22 := Mo.ofS es22
      refine aw_aload_n (pc' := 61) dX12_readLine_60 rfl rfl rfl ?_
      refine aw_gr (q := 59) (e := 65) (v := .ref 99) (pc' := 64) H22 (H22.fo rfl rfl) (by decide) rfl rfl dX12_readLine_61 rfl fl_RX12_112 ?_
      refine aw_iload_n (pc' := 65) dX12_readLine_64 rfl rfl ?_
      refine aw_aload_n (pc' := 66) dX12_readLine_65 rfl rfl rfl ?_
      refine aw_gi (q := 59) (pc' := 69) H22 (H22.fo rfl rfl) (by decide) rfl dX12_readLine_66 rfl fl_RX12_328 ?_
      obtain ⟨v23, ev23, hf⟩ := vl_e hf
      refine aw_topi ev23 ?_
      obtain ⟨g24, hf⟩ := gd_e hf
      obtain ⟨s25, es25, hf⟩ := st_e hf
      refine aw_is (q := 91) (pc' := 70) es25 H22 (H22.fa rfl rfl rfl) g24 dX12_readLine_69 rfl (fun h25 H25 => ?_)
      have m25 := Mo.ofI es25
      refine aw_aload_n (pc' := 71) dX12_readLine_70 rfl rfl rfl ?_
      obtain ⟨s26, ec26, hf⟩ := b1_e hf
      refine aw_callVv (M' := mX12_either) (nc' := 0) (ns' := 0) (pc' := 74) dX12_readLine_71 rfl ml_RX12_355 kX12_either (t_X12_either (t_X12_operand 12) H25 ec26) (H25.ob (H25.fo rfl rfl) (by decide)) rfl rfl rfl (Nat.le_of_ble_eq_true rfl) (rokD (by omega) (Nat.le_of_ble_eq_true rfl) (Nat.le_of_ble_eq_true rfl) (Nat.le_of_ble_eq_true rfl)) rfl rfl (fun h26 q26 => ?_)
      obtain ⟨H26, m26⟩ := q26
      refine AW.lv_le (lz_k (lz_k (lz_d lz_0))) ?_
      exact hk8 _ _ H26 ((m22.tr m25).tr m26) hf
/-! ThirtyThreeBelowModel.isWhat -/
def f_X12_isWhat (a0 : Int32) : Option Int32 := (b1 (f_X12_in a0 (0 : Int32) (12 : Int32)) fun r1 => (if r1 = (0 : Int32) then some 0 else (if (2 : Int32) < (a0 % (10 : Int32)) then some 0 else some 1)))
set_option maxRecDepth 4000 in
theorem t_X12_isWhat {r9 : Int32} {h0 : List aE} {a0 : Int32}  (hf : f_X12_isWhat a0 = some r9) : AM mX12_isWhat (1) [.int a0] h0 0 0 (PI fun r' h' => r9 = r' ∧ h0 = h' ∧ (r9 = 0 ∨ r9 = 1)) := by
  unfold f_X12_isWhat at hf
  refine am_of (lv := [some (.int a0)]) rfl (Nat.le_of_ble_eq_true rfl) rfl ?_
  refine aw_iload_n (pc' := 1) dX12_isWhat_0 rfl rfl ?_
  refine aw_iconst (v := 0) (pc' := 2) dX12_isWhat_1 rfl (by decide) ?_
  refine aw_bipush (v := 12) (pc' := 4) dX12_isWhat_2 rfl (by decide) ?_
  obtain ⟨r1, ec1, hf⟩ := b1_e hf
  refine aw_callSi (M' := mX12_in) (nc' := 0) (ns' := 0) (pc' := 7) dX12_isWhat_4 rfl ml_RX12_230 kX12_in (t_X12_in ec1) rfl rfl (Nat.le_of_ble_eq_true rfl) (rokD (by omega) (Nat.le_of_ble_eq_true rfl) (Nat.le_of_ble_eq_true rfl) (Nat.le_of_ble_eq_true rfl)) rfl rfl (fun _ h1 q1 => ?_)
  obtain ⟨rfl, rfl, zb1⟩ := q1
  refine aw_if_eq (tgt := 22) (pc' := 10) dX12_isWhat_7 (by decide) rfl (fun c2 => ?_) (fun c2 => ?_)
  · replace hf := ifp c2 hf
    refine aw_iconst (v := 0) (pc' := 23) dX12_isWhat_22 rfl (by decide) ?_
    obtain rfl := Option.some.inj hf
    exact aw_ri dX12_isWhat_23 rfl (by decide) (Nat.le_of_ble_eq_true rfl) (Nat.le_of_ble_eq_true rfl) ⟨rfl, rfl, Or.inl rfl⟩
  · replace hf := ifn c2 hf
    refine aw_iload_n (pc' := 11) dX12_isWhat_10 rfl rfl ?_
    refine aw_bipush (v := 10) (pc' := 13) dX12_isWhat_11 rfl (by decide) ?_
    refine aw_irem (pc' := 14) dX12_isWhat_13 rfl (by decide) ?_
    refine aw_iconst (v := 2) (pc' := 15) dX12_isWhat_14 rfl (by decide) ?_
    refine aw_cgt (tgt := 22) (pc' := 18) dX12_isWhat_15 (by decide) rfl (fun c3 => ?_) (fun c3 => ?_)
    · replace hf := ifp c3 hf
      refine aw_iconst (v := 0) (pc' := 23) dX12_isWhat_22 rfl (by decide) ?_
      obtain rfl := Option.some.inj hf
      exact aw_ri dX12_isWhat_23 rfl (by decide) (Nat.le_of_ble_eq_true rfl) (Nat.le_of_ble_eq_true rfl) ⟨rfl, rfl, Or.inl rfl⟩
    · replace hf := ifn c3 hf
      refine aw_iconst (v := 1) (pc' := 19) dX12_isWhat_18 rfl (by decide) ?_
      refine aw_goto (tgt := 23) dX12_isWhat_19 (by decide) ?_
      obtain rfl := Option.some.inj hf
      exact aw_ri dX12_isWhat_23 rfl (by decide) (Nat.le_of_ble_eq_true rfl) (Nat.le_of_ble_eq_true rfl) ⟨rfl, rfl, Or.inr rfl⟩
