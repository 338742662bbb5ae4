/-! ThirtyThreeBelowModel.canBeAt -/
noncomputable def f_X12_canBeAt_L13_b (q0 : Int32 → Option Int32) (s0 : SS) (y1 : Int32) (y2 : Int32) (y3 : Int32) (rc : Int32 → Int32 → Option Int32) (x4 : Int32) (x5 : Int32) : Option Int32 := (if y2 < x5 then (q0 x4) else (vl ((((61 : Int32) * y1) + x5)) fun v4 => (gd (inB v4 7320) (jn (fun (t6_0 : Int32) => (vl ((x4 + t6_0)) fun v7 => (vl (x5 + 1) fun v8 => (rc v7 v8)))) fun k6 => (if (zI s0 72 (v4.toInt.toNat)) = (0 : Int32) then (if y3 = (0 : Int32) then (k6 (-8)) else (k6 8)) else (gd (inB v4 7320) (jn (fun (t13_0 : Int32) => (k6 ((zI s0 73 (v4.toInt.toNat)) + t13_0))) fun k13 => (if y3 = (0 : Int32) then (k13 (-(zS s0 59 29))) else (k13 (zS s0 59 29))))))))))
noncomputable def f_X12_canBeAt_L13 (q0 : Int32 → Option Int32) (s0 : SS) (y1 : Int32) (y2 : Int32) (y3 : Int32) : Nat → Int32 → Int32 → Option Int32
  | 0, _, _ => none
  | n + 1, x4, x5 => f_X12_canBeAt_L13_b q0 s0 y1 y2 y3 (f_X12_canBeAt_L13 q0 s0 y1 y2 y3 n) x4 x5
set_option maxRecDepth 4000 in
theorem t_X12_canBeAt_L13 {r9 : Int32} {s0 : SS} {h0 : List aE} {q0 : Int32 → Option Int32} {y1 : Int32} {y2 : Int32} {y3 : Int32} (H0 : HH s0 h0) (hq0 : ∀ (x4 : Int32), q0 x4 = some r9 → AW mX12_canBeAt (rmD (1) 0 0) (fin (PI fun r' h' => r9 = r' ∧ h0 = h') 0 0) 87 [none, none, none, some (.int y3), some (.int x4), none, none] [] h0 0 0) : ∀ (n : Nat) (x4 : Int32) (x5 : Int32), f_X12_canBeAt_L13 q0 s0 y1 y2 y3 n x4 x5 = some r9 → AW mX12_canBeAt (rmD (1) 0 0) (fin (PI fun r' h' => r9 = r' ∧ h0 = h') 0 0) 13 [some (.ref 67), some (.int y1), some (.int y2), some (.int y3), some (.int x4), some (.int x5), none] [] h0 0 0 := by
  intro n
  induction n with
  | zero =>
    intro x4 x5 hf
    cases hf
  | succ n ih =>
    intro x4 x5 hf
    replace hf : f_X12_canBeAt_L13_b q0 s0 y1 y2 y3 (f_X12_canBeAt_L13 q0 s0 y1 y2 y3 n) x4 x5 = some r9 := hf
    unfold f_X12_canBeAt_L13_b at hf
    refine aw_iload (pc' := 15) dX12_canBeAt_13 rfl rfl ?_
    refine aw_iload_n (pc' := 16) dX12_canBeAt_15 rfl rfl ?_
    refine aw_cgt (tgt := 87) (pc' := 19) dX12_canBeAt_16 rfl rfl (fun c3 => ?_) (fun c3 => ?_)
    · replace hf := ifp c3 hf
      refine AW.lv_le (lz_d (lz_d (lz_d (lz_k (lz_k (lz_d (lz_d lz_0))))))) ?_
      exact hq0 _ hf
    · replace hf := ifn c3 hf
      refine aw_bipush (v := 61) (pc' := 21) dX12_canBeAt_19 rfl bp_61 ?_
      refine aw_iload_n (pc' := 22) dX12_canBeAt_21 rfl rfl ?_
      refine aw_imul (pc' := 23) dX12_canBeAt_22 rfl ?_
      refine aw_iload (pc' := 25) dX12_canBeAt_23 rfl rfl ?_
      refine aw_iadd (pc' := 26) dX12_canBeAt_25 rfl ?_
      obtain ⟨v4, ev4, hf⟩ := vl_e hf
      refine aw_topi ev4 ?_
      refine aw_istore (lv' := [_, _, _, _, _, _, _]) (pc' := 28) dX12_canBeAt_26 rfl (Nat.le_of_ble_eq_true rfl) rfl ?_
      refine aw_iload (pc' := 30) dX12_canBeAt_28 rfl rfl ?_
      refine aw_aload_n (pc' := 31) dX12_canBeAt_30 rfl rfl rfl ?_
      refine aw_gr (q := 59) (e := 27) (v := .ref 80) (pc' := 34) H0 (H0.fo rfl rfl) (l13 rfl) rfl rfl dX12_canBeAt_31 rfl fl_RX12_47 ?_
      refine aw_iload (pc' := 36) dX12_canBeAt_34 rfl rfl ?_
      obtain ⟨g5, hf⟩ := gd_e hf
      refine aw_za (q := 72) (pc' := 37) H0 (H0.fa rfl rfl rfl) g5 dX12_canBeAt_36 rfl ?_
      obtain ⟨k6, ek6, hf⟩ := jn_e hf
      have hk6 : ∀ (t6_0 : Int32), k6 t6_0 = some r9 → AW mX12_canBeAt (rmD (1) 0 0) (fin (PI fun r' h' => r9 = r' ∧ h0 = h') 0 0) 78 [some (.ref 67), some (.int y1), some (.int y2), some (.int y3), none, some (.int x5), none] [.int t6_0, .int x4] h0 0 0 := by
        intro t6_0 hf
        subst ek6
        refine aw_iadd (pc' := 79) dX12_canBeAt_78 rfl ?_
        obtain ⟨v7, ev7, hf⟩ := vl_e hf
        refine aw_topi ev7 ?_
        refine aw_istore (lv' := [_, _, _, _, _, _, _]) (pc' := 81) dX12_canBeAt_79 rfl (Nat.le_of_ble_eq_true rfl) rfl ?_
        obtain ⟨v8, ev8, hf⟩ := vl_e hf
        refine aw_iincV (y := v8) (lv' := [_, _, _, _, _, _, _]) (pc' := 84) dX12_canBeAt_81 rfl rfl (Nat.le_of_ble_eq_true rfl) ev8 rfl ?_
        refine aw_goto (tgt := 13) dX12_canBeAt_84 rfl ?_
        exact ih _ _ hf
      clear ek6
      refine aw_if_eq (tgt := 67) (pc' := 40) dX12_canBeAt_37 rfl rfl (fun c10 => ?_) (fun c10 => ?_)
      · replace hf := ifp c10 hf
        refine aw_iload_n (pc' := 68) dX12_canBeAt_67 rfl rfl ?_
        refine aw_if_eq (tgt := 76) (pc' := 71) dX12_canBeAt_68 rfl rfl (fun c11 => ?_) (fun c11 => ?_)
        · replace hf := ifp c11 hf
          refine aw_bipush (v := (-8)) (pc' := 78) dX12_canBeAt_76 rfl bp_m8 ?_
          refine AW.lv_le (lz_k (lz_k (lz_k (lz_k (lz_d (lz_k (lz_d lz_0))))))) ?_
          exact hk6 _ hf
        · replace hf := ifn c11 hf
          refine aw_bipush (v := 8) (pc' := 73) dX12_canBeAt_71 rfl bp_8 ?_
          refine aw_goto (tgt := 78) dX12_canBeAt_73 rfl ?_
          refine AW.lv_le (lz_k (lz_k (lz_k (lz_k (lz_d (lz_k (lz_d lz_0))))))) ?_
          exact hk6 _ hf
      · replace hf := ifn c10 hf
        refine aw_aload_n (pc' := 41) dX12_canBeAt_40 rfl rfl rfl ?_
        refine aw_gr (q := 59) (e := 29) (v := .ref 81) (pc' := 44) H0 (H0.fo rfl rfl) (l13 rfl) rfl rfl dX12_canBeAt_41 rfl fl_RX12_50 ?_
        refine aw_iload (pc' := 46) dX12_canBeAt_44 rfl rfl ?_
        obtain ⟨g12, hf⟩ := gd_e hf
        refine aw_ia (q := 73) (pc' := 47) H0 (H0.fa rfl rfl rfl) g12 dX12_canBeAt_46 rfl ?_
        refine aw_iload_n (pc' := 48) dX12_canBeAt_47 rfl rfl ?_
        obtain ⟨k13, ek13, hf⟩ := jn_e hf
        have hk13 : ∀ (t13_0 : Int32), k13 t13_0 = some r9 → AW mX12_canBeAt (rmD (1) 0 0) (fin (PI fun r' h' => r9 = r' ∧ h0 = h') 0 0) 63 [some (.ref 67), some (.int y1), some (.int y2), some (.int y3), none, some (.int x5), none] [.int t13_0, .int (zI s0 73 (v4.toInt.toNat)), .int x4] h0 0 0 := by
          intro t13_0 hf
          subst ek13
          refine aw_iadd (pc' := 64) dX12_canBeAt_63 rfl ?_
          refine aw_goto (tgt := 78) dX12_canBeAt_64 rfl ?_
          exact hk6 _ hf
        clear ek13
        refine aw_if_eq (tgt := 58) (pc' := 51) dX12_canBeAt_48 rfl rfl (fun c14 => ?_) (fun c14 => ?_)
        · replace hf := ifp c14 hf
          refine aw_aload_n (pc' := 59) dX12_canBeAt_58 rfl rfl rfl ?_
          refine aw_gi (q := 59) (pc' := 62) H0 (H0.fo rfl rfl) (l13 rfl) rfl dX12_canBeAt_59 rfl fl_RX12_78 ?_
          refine aw_ineg (pc' := 63) dX12_canBeAt_62 rfl ?_
          refine AW.lv_le (lz_k (lz_k (lz_k (lz_k (lz_d (lz_k (lz_d lz_0))))))) ?_
          exact hk13 _ hf
        · replace hf := ifn c14 hf
          refine aw_aload_n (pc' := 52) dX12_canBeAt_51 rfl rfl rfl ?_
          refine aw_gi (q := 59) (pc' := 55) H0 (H0.fo rfl rfl) (l13 rfl) rfl dX12_canBeAt_52 rfl fl_RX12_78 ?_
          refine aw_goto (tgt := 63) dX12_canBeAt_55 rfl ?_
          refine AW.lv_le (lz_k (lz_k (lz_k (lz_k (lz_d (lz_k (lz_d lz_0))))))) ?_
          exact hk13 _ hf
noncomputable def f_X12_canBeAt (s0 : SS) (a0 : Int32) (a1 : Int32) (a2 : Int32) : Option Int32 := (gd (inB a0 120) (vl (((4 : Int32) * (zI s0 63 (a0.toInt.toNat)))) fun v2 => (f_X12_canBeAt_L13 (fun (x15_4 : Int32) => (jn (fun (t16_0 : Int32) => (b1 (f_X12_held t16_0 (0 : Int32) (31 : Int32)) fun r17 => some r17)) fun k16 => (if a2 = (0 : Int32) then (b1 (f_X12_down4 x15_4) fun r19 => (k16 r19)) else (b1 (f_X12_down4 (-x15_4)) fun r20 => (k16 (-r20)))))) s0 a0 a1 a2 4000 v2 1)))
set_option maxRecDepth 4000 in
theorem t_X12_canBeAt {r9 : Int32} {s0 : SS} {h0 : List aE} {a0 : Int32} {a1 : Int32} {a2 : Int32} (H0 : HH s0 h0) (hf : f_X12_canBeAt s0 a0 a1 a2 = some r9) : AM mX12_canBeAt (1) [.ref 67, .int a0, .int a1, .int a2] h0 0 0 (PI fun r' h' => r9 = r' ∧ h0 = h') := by
  unfold f_X12_canBeAt at hf
  refine am_of (lv := [some (.ref 67), some (.int a0), some (.int a1), some (.int a2), none, none, none]) rfl (Nat.le_of_ble_eq_true rfl) rfl ?_
  refine aw_iconst (v := 4) (pc' := 1) dX12_canBeAt_0 rfl ic_4 ?_
  refine aw_aload_n (pc' := 2) dX12_canBeAt_1 rfl rfl rfl ?_
  refine aw_gr (q := 59) (e := 9) (v := .ref 71) (pc' := 5) H0 (H0.fo rfl rfl) (l13 rfl) rfl rfl dX12_canBeAt_2 rfl fl_RX12_20 ?_
  refine aw_iload_n (pc' := 6) dX12_canBeAt_5 rfl rfl ?_
  obtain ⟨g1, hf⟩ := gd_e hf
  refine aw_ia (q := 63) (pc' := 7) H0 (H0.fa rfl rfl rfl) g1 dX12_canBeAt_6 rfl ?_
  refine aw_imul (pc' := 8) dX12_canBeAt_7 rfl ?_
  obtain ⟨v2, ev2, hf⟩ := vl_e hf
  refine aw_topi ev2 ?_
  refine aw_istore (lv' := [_, _, _, _, _, _, _]) (pc' := 10) dX12_canBeAt_8 rfl (Nat.le_of_ble_eq_true rfl) rfl ?_
  refine aw_iconst (v := 1) (pc' := 11) dX12_canBeAt_10 rfl ic_1 ?_
  refine aw_istore (lv' := [_, _, _, _, _, _, _]) (pc' := 13) dX12_canBeAt_11 rfl (Nat.le_of_ble_eq_true rfl) rfl ?_
  refine t_X12_canBeAt_L13 H0 (fun x15_4 hf => ?_) 4000 _ _ hf
  refine aw_iload_n (pc' := 88) dX12_canBeAt_87 rfl rfl ?_
  obtain ⟨k16, ek16, hf⟩ := jn_e hf
  have hk16 : ∀ (t16_0 : Int32), k16 t16_0 = some r9 → AW mX12_canBeAt (rmD (1) 0 0) (fin (PI fun r' h' => r9 = r' ∧ h0 = h') 0 0) 106 [none, none, none, none, none, none, none] [.int t16_0] h0 0 0 := by
    intro t16_0 hf
    subst ek16
    refine aw_iconst (v := 0) (pc' := 107) dX12_canBeAt_106 rfl ic_0 ?_
    refine aw_bipush (v := 31) (pc' := 109) dX12_canBeAt_107 rfl bp_31 ?_
    obtain ⟨r17, ec17, hf⟩ := b1_e hf
    refine aw_callSi (M' := mX12_held) (nc' := 0) (ns' := 0) (pc' := 112) dX12_canBeAt_109 rfl ml_RX12_284 kX12_held (t_X12_held ec17) rfl rfl (Nat.le_of_ble_eq_true rfl) (rokD (by omega) (Nat.le_of_ble_eq_true rfl) (Nat.le_of_ble_eq_true rfl) (Nat.le_of_ble_eq_true rfl)) rfl rfl (fun _ h17 q17 => ?_)
    obtain ⟨rfl, rfl⟩ := q17
    obtain rfl := Option.some.inj hf
    exact aw_ri dX12_canBeAt_112 rfl rfl (Nat.le_of_ble_eq_true rfl) (Nat.le_of_ble_eq_true rfl) ⟨rfl, rfl⟩
  clear ek16
  refine aw_if_eq (tgt := 101) (pc' := 91) dX12_canBeAt_88 rfl rfl (fun c18 => ?_) (fun c18 => ?_)
  · replace hf := ifp c18 hf
    refine aw_iload (pc' := 103) dX12_canBeAt_101 rfl rfl ?_
    obtain ⟨r19, ec19, hf⟩ := b1_e hf
    refine aw_callSi (M' := mX12_down4) (nc' := 0) (ns' := 0) (pc' := 106) dX12_canBeAt_103 rfl ml_RX12_294 kX12_down4 (t_X12_down4 ec19) rfl rfl (Nat.le_of_ble_eq_true rfl) (rokD (by omega) (Nat.le_of_ble_eq_true rfl) (Nat.le_of_ble_eq_true rfl) (Nat.le_of_ble_eq_true rfl)) rfl rfl (fun _ h19 q19 => ?_)
    obtain ⟨rfl, rfl⟩ := q19
    refine AW.lv_le (lz_d (lz_d (lz_d (lz_d (lz_d (lz_d (lz_d lz_0))))))) ?_
    exact hk16 _ hf
  · replace hf := ifn c18 hf
    refine aw_iload (pc' := 93) dX12_canBeAt_91 rfl rfl ?_
    refine aw_ineg (pc' := 94) dX12_canBeAt_93 rfl ?_
    obtain ⟨r20, ec20, hf⟩ := b1_e hf
    refine aw_callSi (M' := mX12_down4) (nc' := 0) (ns' := 0) (pc' := 97) dX12_canBeAt_94 rfl ml_RX12_294 kX12_down4 (t_X12_down4 ec20) rfl rfl (Nat.le_of_ble_eq_true rfl) (rokD (by omega) (Nat.le_of_ble_eq_true rfl) (Nat.le_of_ble_eq_true rfl) (Nat.le_of_ble_eq_true rfl)) rfl rfl (fun _ h20 q20 => ?_)
    obtain ⟨rfl, rfl⟩ := q20
    refine aw_ineg (pc' := 98) dX12_canBeAt_97 rfl ?_
    refine aw_goto (tgt := 106) dX12_canBeAt_98 rfl ?_
    refine AW.lv_le (lz_d (lz_d (lz_d (lz_d (lz_d (lz_d (lz_d lz_0))))))) ?_
    exact hk16 _ hf
/-! ThirtyThreeBelowModel.canBe -/
noncomputable def f_X12_canBe (s0 : SS) (a0 : Int32) (a1 : Int32) (a2 : Int32) : Option Int32 := (b1 (f_X12_isHole s0 a0) fun r1 => (if r1 = (0 : Int32) then some (-1) else (gd (inB a0 120) (b1 (f_X12_in a1 (1 : Int32) (zI s0 67 (a0.toInt.toNat))) fun r4 => (if r4 = (0 : Int32) then some (-1) else (b1 (f_X12_in a2 (0 : Int32) (1 : Int32)) fun r6 => (if r6 = (0 : Int32) then some (-1) else (jn (fun (t8_0 : Int32) => (b1 (f_X12_canBeAt s0 a0 a1 t8_0) fun r10 => some r10)) fun k8 => (if a2 = (1 : Int32) then (k8 1) else (k8 0))))))))))
set_option maxRecDepth 4000 in
theorem t_X12_canBe {r9 : Int32} {s0 : SS} {h0 : List aE} {a0 : Int32} {a1 : Int32} {a2 : Int32} (H0 : HH s0 h0) (hf : f_X12_canBe s0 a0 a1 a2 = some r9) : AM mX12_canBe (3) [.ref 67, .int a0, .int a1, .int a2] h0 0 0 (PI fun r' h' => r9 = r' ∧ h0 = h') := by
  unfold f_X12_canBe at hf
  refine am_of (lv := [some (.ref 67), some (.int a0), some (.int a1), some (.int a2)]) rfl (Nat.le_of_ble_eq_true rfl) rfl ?_
  refine aw_aload_n (pc' := 1) dX12_canBe_0 rfl rfl rfl ?_
  refine aw_iload_n (pc' := 2) dX12_canBe_1 rfl rfl ?_
  obtain ⟨r1, ec1, hf⟩ := b1_e hf
  refine aw_callVi (M' := mX12_isHole) (nc' := 0) (ns' := 0) (pc' := 5) dX12_canBe_2 rfl ml_RX12_268 kX12_isHole (t_X12_isHole H0 ec1) (H0.ob (H0.fo rfl rfl) (by decide)) rfl rfl rfl (Nat.le_of_ble_eq_true rfl) (rokD (by omega) (Nat.le_of_ble_eq_true rfl) (Nat.le_of_ble_eq_true rfl) (Nat.le_of_ble_eq_true rfl)) rfl rfl (fun _ h1 q1 => ?_)
  obtain ⟨rfl, rfl, zb1⟩ := q1
  refine aw_if_eq (tgt := 50) (pc' := 8) dX12_canBe_5 rfl rfl (fun c2 => ?_) (fun c2 => ?_)
  · replace hf := ifp c2 hf
    refine aw_iconst (v := (-1)) (pc' := 51) dX12_canBe_50 rfl ic_m1 ?_
    obtain rfl := Option.some.inj hf
    exact aw_ri dX12_canBe_51 rfl rfl (Nat.le_of_ble_eq_true rfl) (Nat.le_of_ble_eq_true rfl) ⟨rfl, rfl⟩
  · replace hf := ifn c2 hf
    refine aw_iload_n (pc' := 9) dX12_canBe_8 rfl rfl ?_
    refine aw_iconst (v := 1) (pc' := 10) dX12_canBe_9 rfl ic_1 ?_
    refine aw_aload_n (pc' := 11) dX12_canBe_10 rfl rfl rfl ?_
    refine aw_gr (q := 59) (e := 17) (v := .ref 75) (pc' := 14) H0 (H0.fo rfl rfl) (l13 rfl) rfl rfl dX12_canBe_11 rfl fl_RX12_32 ?_
    refine aw_iload_n (pc' := 15) dX12_canBe_14 rfl rfl ?_
    obtain ⟨g3, hf⟩ := gd_e hf
    refine aw_ia (q := 67) (pc' := 16) H0 (H0.fa rfl rfl rfl) g3 dX12_canBe_15 rfl ?_
    obtain ⟨r4, ec4, hf⟩ := b1_e hf
    refine aw_callSi (M' := mX12_in) (nc' := 0) (ns' := 0) (pc' := 19) dX12_canBe_16 rfl ml_RX12_230 kX12_in (t_X12_in ec4) rfl rfl (Nat.le_of_ble_eq_true rfl) (rokD (by omega) (Nat.le_of_ble_eq_true rfl) (Nat.le_of_ble_eq_true rfl) (Nat.le_of_ble_eq_true rfl)) rfl rfl (fun _ h4 q4 => ?_)
    obtain ⟨rfl, rfl, zb4⟩ := q4
    refine aw_if_eq (tgt := 50) (pc' := 22) dX12_canBe_19 rfl rfl (fun c5 => ?_) (fun c5 => ?_)
    · replace hf := ifp c5 hf
      refine aw_iconst (v := (-1)) (pc' := 51) dX12_canBe_50 rfl ic_m1 ?_
      obtain rfl := Option.some.inj hf
      exact aw_ri dX12_canBe_51 rfl rfl (Nat.le_of_ble_eq_true rfl) (Nat.le_of_ble_eq_true rfl) ⟨rfl, rfl⟩
    · replace hf := ifn c5 hf
      refine aw_iload_n (pc' := 23) dX12_canBe_22 rfl rfl ?_
      refine aw_iconst (v := 0) (pc' := 24) dX12_canBe_23 rfl ic_0 ?_
      refine aw_iconst (v := 1) (pc' := 25) dX12_canBe_24 rfl ic_1 ?_
      obtain ⟨r6, ec6, hf⟩ := b1_e hf
      refine aw_callSi (M' := mX12_in) (nc' := 0) (ns' := 0) (pc' := 28) dX12_canBe_25 rfl ml_RX12_230 kX12_in (t_X12_in ec6) rfl rfl (Nat.le_of_ble_eq_true rfl) (rokD (by omega) (Nat.le_of_ble_eq_true rfl) (Nat.le_of_ble_eq_true rfl) (Nat.le_of_ble_eq_true rfl)) rfl rfl (fun _ h6 q6 => ?_)
      obtain ⟨rfl, rfl, zb6⟩ := q6
      refine aw_if_eq (tgt := 50) (pc' := 31) dX12_canBe_28 rfl rfl (fun c7 => ?_) (fun c7 => ?_)
      · replace hf := ifp c7 hf
        refine aw_iconst (v := (-1)) (pc' := 51) dX12_canBe_50 rfl ic_m1 ?_
        obtain rfl := Option.some.inj hf
        exact aw_ri dX12_canBe_51 rfl rfl (Nat.le_of_ble_eq_true rfl) (Nat.le_of_ble_eq_true rfl) ⟨rfl, rfl⟩
      · replace hf := ifn c7 hf
        refine aw_aload_n (pc' := 32) dX12_canBe_31 rfl rfl rfl ?_
        refine aw_iload_n (pc' := 33) dX12_canBe_32 rfl rfl ?_
        refine aw_iload_n (pc' := 34) dX12_canBe_33 rfl rfl ?_
        refine aw_iload_n (pc' := 35) dX12_canBe_34 rfl rfl ?_
        refine aw_iconst (v := 1) (pc' := 36) dX12_canBe_35 rfl ic_1 ?_
        obtain ⟨k8, ek8, hf⟩ := jn_e hf
        have hk8 : ∀ (t8_0 : Int32), k8 t8_0 = some r9 → AW mX12_canBe (rmD (3) 0 0) (fin (PI fun r' h' => r9 = r' ∧ h0 = h') 0 0) 44 [none, none, none, none] [.int t8_0, .int a1, .int a0, .ref 67] h0 0 0 := by
          intro t8_0 hf
          subst ek8
          obtain ⟨r10, ec10, hf⟩ := b1_e hf
          refine aw_callVi (M' := mX12_canBeAt) (nc' := 0) (ns' := 0) (pc' := 47) dX12_canBe_44 rfl ml_RX12_297 kX12_canBeAt (t_X12_canBeAt H0 ec10) (H0.ob (H0.fo rfl rfl) (by decide)) rfl rfl rfl (Nat.le_of_ble_eq_true rfl) (rokD (by omega) (Nat.le_of_ble_eq_true rfl) (Nat.le_of_ble_eq_true rfl) (Nat.le_of_ble_eq_true rfl)) rfl rfl (fun _ h10 q10 => ?_)
          obtain ⟨rfl, rfl⟩ := q10
          refine aw_goto (tgt := 51) dX12_canBe_47 rfl ?_
          obtain rfl := Option.some.inj hf
          exact aw_ri dX12_canBe_51 rfl rfl (Nat.le_of_ble_eq_true rfl) (Nat.le_of_ble_eq_true rfl) ⟨rfl, rfl⟩
        clear ek8
        refine aw_icmp_ne (tgt := 43) (pc' := 39) dX12_canBe_36 rfl rfl (fun c11 => ?_) (fun c11 => ?_)
        · replace hf := ifn c11 hf
          refine aw_iconst (v := 0) (pc' := 44) dX12_canBe_43 rfl ic_0 ?_
          refine AW.lv_le (lz_d (lz_d (lz_d (lz_d lz_0)))) ?_
          exact hk8 _ hf
        · replace hf := ifp c11 hf
          refine aw_iconst (v := 1) (pc' := 40) dX12_canBe_39 rfl ic_1 ?_
          refine aw_goto (tgt := 44) dX12_canBe_40 rfl ?_
          refine AW.lv_le (lz_d (lz_d (lz_d (lz_d lz_0)))) ?_
          exact hk8 _ hf
/-! ThirtyThreeBelowModel.map -/
noncomputable def f_X12_map (s0 : SS) (a0 : Int32) (a1 : Int32) : Option (Int32 × SS) := (b1 (f_X12_isSpan a0) fun r1 => (if r1 = (0 : Int32) then some ((-1), s0) else (b1 (f_X12_in a1 (1 : Int32) (60 : Int32)) fun r3 => (if r3 = (0 : Int32) then some ((-1), s0) else (if (zS s0 59 30) = (8 : Int32) then some ((-3), s0) else (vl ((a0 / (100 : Int32))) fun v6 => (vl ((zS s0 59 30)) fun v7 => (gd (inB v7 8) (st (pI s0 81 (v7.toInt.toNat) v6) fun s10 => (vl ((a0 % (100 : Int32))) fun v11 => (vl ((zS s10 59 30)) fun v12 => (gd (inB v12 8) (st (pI s10 82 (v12.toInt.toNat) v11) fun s14 => (vl ((zS s14 59 30)) fun v15 => (gd (inB v15 8) (st (pI s14 83 (v15.toInt.toNat) a1) fun s17 => (vl (((zS s17 59 30) + (1 : Int32))) fun v18 => (st (pS s17 59 30 v18) fun s19 => some (((zS s19 59 30) - (1 : Int32)), s19)))))))))))))))))))
set_option maxRecDepth 4000 in
theorem t_X12_map {r9 : Int32} {s0 s9 : SS} {h0 : List aE} {a0 : Int32} {a1 : Int32} (H0 : HH s0 h0) (hf : f_X12_map s0 a0 a1 = some (r9, s9)) : AM mX12_map (1) [.ref 67, .int a0, .int a1] h0 0 0 (PI fun r' h' => r9 = r' ∧ HH s9 h' ∧ Mo s0 s9) := by
  unfold f_X12_map at hf
  refine am_of (lv := [some (.ref 67), some (.int a0), some (.int a1)]) rfl (Nat.le_of_ble_eq_true rfl) rfl ?_
  refine aw_iload_n (pc' := 1) dX12_map_0 rfl rfl ?_
  obtain ⟨r1, ec1, hf⟩ := b1_e hf
  refine aw_callSi (M' := mX12_isSpan) (nc' := 0) (ns' := 0) (pc' := 4) dX12_map_1 rfl ml_RX12_255 kX12_isSpan (t_X12_isSpan ec1) rfl rfl (Nat.le_of_ble_eq_true rfl) (rokD (by omega) (Nat.le_of_ble_eq_true rfl) (Nat.le_of_ble_eq_true rfl) (Nat.le_of_ble_eq_true rfl)) rfl rfl (fun _ h1 q1 => ?_)
  obtain ⟨rfl, rfl, zb1⟩ := q1
  refine aw_if_eq (tgt := 17) (pc' := 7) dX12_map_4 rfl rfl (fun c2 => ?_) (fun c2 => ?_)
  · replace hf := ifp c2 hf
    refine aw_iconst (v := (-1)) (pc' := 18) dX12_map_17 rfl ic_m1 ?_
    obtain ⟨rfl, rfl⟩ := so2 hf
    exact aw_ri dX12_map_18 rfl rfl (Nat.le_of_ble_eq_true rfl) (Nat.le_of_ble_eq_true rfl) ⟨rfl, H0, (Mo.rf _)⟩
  · replace hf := ifn c2 hf
    refine aw_iload_n (pc' := 8) dX12_map_7 rfl rfl ?_
    refine aw_iconst (v := 1) (pc' := 9) dX12_map_8 rfl ic_1 ?_
    refine aw_bipush (v := 60) (pc' := 11) dX12_map_9 rfl bp_60 ?_
    obtain ⟨r3, ec3, hf⟩ := b1_e hf
    refine aw_callSi (M' := mX12_in) (nc' := 0) (ns' := 0) (pc' := 14) dX12_map_11 rfl ml_RX12_230 kX12_in (t_X12_in ec3) rfl rfl (Nat.le_of_ble_eq_true rfl) (rokD (by omega) (Nat.le_of_ble_eq_true rfl) (Nat.le_of_ble_eq_true rfl) (Nat.le_of_ble_eq_true rfl)) rfl rfl (fun _ h3 q3 => ?_)
    obtain ⟨rfl, rfl, zb3⟩ := q3
    refine aw_if_ne (tgt := 19) (pc' := 17) dX12_map_14 rfl rfl (fun c4 => ?_) (fun c4 => ?_)
    · replace hf := ifn c4 hf
      refine aw_aload_n (pc' := 20) dX12_map_19 rfl rfl rfl ?_
      refine aw_gi (q := 59) (pc' := 23) H0 (H0.fo rfl rfl) (l13 rfl) rfl dX12_map_20 rfl fl_RX12_301 ?_
      refine aw_bipush (v := 8) (pc' := 25) dX12_map_23 rfl bp_8 ?_
      refine aw_icmp_ne (tgt := 31) (pc' := 28) dX12_map_25 rfl rfl (fun c5 => ?_) (fun c5 => ?_)
      · replace hf := ifn c5 hf
        refine aw_aload_n (pc' := 32) dX12_map_31 rfl rfl rfl ?_
        refine aw_gr (q := 59) (e := 45) (v := .ref 89) (pc' := 35) H0 (H0.fo rfl rfl) (l13 rfl) rfl rfl dX12_map_32 rfl fl_RX12_81 ?_
        refine aw_aload_n (pc' := 36) dX12_map_35 rfl rfl rfl ?_
        refine aw_gi (q := 59) (pc' := 39) H0 (H0.fo rfl rfl) (l13 rfl) rfl dX12_map_36 rfl fl_RX12_301 ?_
        refine aw_iload_n (pc' := 40) dX12_map_39 rfl rfl ?_
        refine aw_bipush (v := 100) (pc' := 42) dX12_map_40 rfl bp_100 ?_
        refine aw_idiv (pc' := 43) dX12_map_42 rfl (by decide) ?_
        obtain ⟨v6, ev6, hf⟩ := vl_e hf
        refine aw_topi ev6 ?_
        obtain ⟨v7, ev7, hf⟩ := vl_e hf
        refine aw_sndi ev7 ?_
        obtain ⟨g8, hf⟩ := gd_e hf
        obtain ⟨s10, es10, hf⟩ := st_e hf
        refine aw_is (q := 81) (pc' := 44) es10 H0 (H0.fa rfl rfl rfl) g8 dX12_map_43 rfl (fun h10 H10 => ?_)
        have m10 := Mo.ofI es10
        refine aw_aload_n (pc' := 45) dX12_map_44 rfl rfl rfl ?_
        refine aw_gr (q := 59) (e := 47) (v := .ref 90) (pc' := 48) H10 (H10.fo rfl rfl) (l13 rfl) rfl rfl dX12_map_45 rfl fl_RX12_84 ?_
        refine aw_aload_n (pc' := 49) dX12_map_48 rfl rfl rfl ?_
        refine aw_gi (q := 59) (pc' := 52) H10 (H10.fo rfl rfl) (l13 rfl) rfl dX12_map_49 rfl fl_RX12_301 ?_
        refine aw_iload_n (pc' := 53) dX12_map_52 rfl rfl ?_
        refine aw_bipush (v := 100) (pc' := 55) dX12_map_53 rfl bp_100 ?_
        refine aw_irem (pc' := 56) dX12_map_55 rfl (by decide) ?_
        obtain ⟨v11, ev11, hf⟩ := vl_e hf
        refine aw_topi ev11 ?_
        obtain ⟨v12, ev12, hf⟩ := vl_e hf
        refine aw_sndi ev12 ?_
        obtain ⟨g13, hf⟩ := gd_e hf
        obtain ⟨s14, es14, hf⟩ := st_e hf
        refine aw_is (q := 82) (pc' := 57) es14 H10 (H10.fa rfl rfl rfl) g13 dX12_map_56 rfl (fun h14 H14 => ?_)
        have m14 := Mo.ofI es14
        refine aw_aload_n (pc' := 58) dX12_map_57 rfl rfl rfl ?_
        refine aw_gr (q := 59) (e := 49) (v := .ref 91) (pc' := 61) H14 (H14.fo rfl rfl) (l13 rfl) rfl rfl dX12_map_58 rfl fl_RX12_87 ?_
        refine aw_aload_n (pc' := 62) dX12_map_61 rfl rfl rfl ?_
        refine aw_gi (q := 59) (pc' := 65) H14 (H14.fo rfl rfl) (l13 rfl) rfl dX12_map_62 rfl fl_RX12_301 ?_
        refine aw_iload_n (pc' := 66) dX12_map_65 rfl rfl ?_
        obtain ⟨v15, ev15, hf⟩ := vl_e hf
        refine aw_sndi ev15 ?_
        obtain ⟨g16, hf⟩ := gd_e hf
        obtain ⟨s17, es17, hf⟩ := st_e hf
        refine aw_is (q := 83) (pc' := 67) es17 H14 (H14.fa rfl rfl rfl) g16 dX12_map_66 rfl (fun h17 H17 => ?_)
        have m17 := Mo.ofI es17
        refine aw_aload_n (pc' := 68) dX12_map_67 rfl rfl rfl ?_
        refine aw_dup (pc' := 69) dX12_map_68 rfl rfl ?_
        refine aw_gi (q := 59) (pc' := 72) H17 (H17.fo rfl rfl) (l13 rfl) rfl dX12_map_69 rfl fl_RX12_301 ?_
        refine aw_iconst (v := 1) (pc' := 73) dX12_map_72 rfl ic_1 ?_
        refine aw_iadd (pc' := 74) dX12_map_73 rfl ?_
        obtain ⟨v18, ev18, hf⟩ := vl_e hf
        refine aw_topi ev18 ?_
        obtain ⟨s19, es19, hf⟩ := st_e hf
        refine aw_pi (q := 59) (pc' := 77) es19 H17 (H17.fo rfl rfl) (by decide) rfl dX12_map_74 rfl fl_RX12_301 rfl (fun h19 H19 => ?_)
        have m19 := Mo.ofS es19
        refine aw_aload_n (pc' := 78) dX12_map_77 rfl rfl rfl ?_
        refine aw_gi (q := 59) (pc' := 81) H19 (H19.fo rfl rfl) (l13 rfl) rfl dX12_map_78 rfl fl_RX12_301 ?_
        refine aw_iconst (v := 1) (pc' := 82) dX12_map_81 rfl ic_1 ?_
        refine aw_isub (pc' := 83) dX12_map_82 rfl ?_
        obtain ⟨rfl, rfl⟩ := so2 hf
        exact aw_ri dX12_map_83 rfl rfl (Nat.le_of_ble_eq_true rfl) (Nat.le_of_ble_eq_true rfl) ⟨rfl, H19, (((m10.tr m14).tr m17).tr m19)⟩
      · replace hf := ifp c5 hf
        refine aw_bipush (v := (-3)) (pc' := 30) dX12_map_28 rfl bp_m3 ?_
        obtain ⟨rfl, rfl⟩ := so2 hf
        exact aw_ri dX12_map_30 rfl rfl (Nat.le_of_ble_eq_true rfl) (Nat.le_of_ble_eq_true rfl) ⟨rfl, H0, (Mo.rf _)⟩
    · replace hf := ifp c4 hf
      refine aw_iconst (v := (-1)) (pc' := 18) dX12_map_17 rfl ic_m1 ?_
      obtain ⟨rfl, rfl⟩ := so2 hf
      exact aw_ri dX12_map_18 rfl rfl (Nat.le_of_ble_eq_true rfl) (Nat.le_of_ble_eq_true rfl) ⟨rfl, H0, (Mo.rf _)⟩
/-! ThirtyThreeBelowModel.isOldBy -/
noncomputable def f_X12_isOldBy_L2_b (s0 : SS) (y1 : Int32) (y2 : Int32) (rc : Int32 → Option Int32) (x3 : Int32) : Option Int32 := (gd (inB y1 8) (if x3 < (zI s0 84 (y1.toInt.toNat)) then (vl ((((40 : Int32) * y1) + x3)) fun v3 => (gd (inB v3 320) (if (zI s0 85 (v3.toInt.toNat)) = y2 then some 1 else (vl (x3 + 1) fun v6 => (rc v6))))) else some 0))
noncomputable def f_X12_isOldBy_L2 (s0 : SS) (y1 : Int32) (y2 : Int32) : Nat → Int32 → Option Int32
  | 0, _ => none
  | n + 1, x3 => f_X12_isOldBy_L2_b s0 y1 y2 (f_X12_isOldBy_L2 s0 y1 y2 n) x3
set_option maxRecDepth 4000 in
theorem t_X12_isOldBy_L2 {r9 : Int32} {s0 : SS} {h0 : List aE} {y1 : Int32} {y2 : Int32} (H0 : HH s0 h0)  : ∀ (n : Nat) (x3 : Int32), f_X12_isOldBy_L2 s0 y1 y2 n x3 = some r9 → AW mX12_isOldBy (rmD (0) 0 0) (fin (PI fun r' h' => r9 = r' ∧ h0 = h' ∧ (r9 = 0 ∨ r9 = 1)) 0 0) 2 [some (.ref 67), some (.int y1), some (.int y2), some (.int x3)] [] h0 0 0 := by
  intro n
  induction n with
  | zero =>
    intro x3 hf
    cases hf
  | succ n ih =>
    intro x3 hf
    replace hf : f_X12_isOldBy_L2_b s0 y1 y2 (f_X12_isOldBy_L2 s0 y1 y2 n) x3 = some r9 := hf
    unfold f_X12_isOldBy_L2_b at hf
    refine aw_iload_n (pc' := 3) dX12_isOldBy_2 rfl rfl ?_
    refine aw_aload_n (pc' := 4) dX12_isOldBy_3 rfl rfl rfl ?_
    refine aw_gr (q := 59) (e := 51) (v := .ref 92) (pc' := 7) H0 (H0.fo rfl rfl) (l13 rfl) rfl rfl dX12_isOldBy_4 rfl fl_RX12_90 ?_
    refine aw_iload_n (pc' := 8) dX12_isOldBy_7 rfl rfl ?_
    obtain ⟨g1, hf⟩ := gd_e hf
    refine aw_ia (q := 84) (pc' := 9) H0 (H0.fa rfl rfl rfl) g1 dX12_isOldBy_8 rfl ?_
    refine aw_cge (tgt := 35) (pc' := 12) dX12_isOldBy_9 rfl rfl (fun c2 => ?_) (fun c2 => ?_)
    · replace hf := ifn c2 hf
      refine aw_iconst (v := 0) (pc' := 36) dX12_isOldBy_35 rfl ic_0 ?_
      obtain rfl := Option.some.inj hf
      exact aw_ri dX12_isOldBy_36 rfl (by decide) (Nat.le_of_ble_eq_true rfl) (Nat.le_of_ble_eq_true rfl) ⟨rfl, rfl, Or.inl rfl⟩
    · replace hf := ifp c2 hf
      refine aw_aload_n (pc' := 13) dX12_isOldBy_12 rfl rfl rfl ?_
      refine aw_gr (q := 59) (e := 53) (v := .ref 93) (pc' := 16) H0 (H0.fo rfl rfl) (l13 rfl) rfl rfl dX12_isOldBy_13 rfl fl_RX12_93 ?_
      refine aw_bipush (v := 40) (pc' := 18) dX12_isOldBy_16 rfl bp_40 ?_
      refine aw_iload_n (pc' := 19) dX12_isOldBy_18 rfl rfl ?_
      refine aw_imul (pc' := 20) dX12_isOldBy_19 rfl ?_
      refine aw_iload_n (pc' := 21) dX12_isOldBy_20 rfl rfl ?_
      refine aw_iadd (pc' := 22) dX12_isOldBy_21 rfl ?_
      obtain ⟨v3, ev3, hf⟩ := vl_e hf
      refine aw_topi ev3 ?_
      obtain ⟨g4, hf⟩ := gd_e hf
      refine aw_ia (q := 85) (pc' := 23) H0 (H0.fa rfl rfl rfl) g4 dX12_isOldBy_22 rfl ?_
      refine aw_iload_n (pc' := 24) dX12_isOldBy_23 rfl rfl ?_
      refine aw_icmp_ne (tgt := 29) (pc' := 27) dX12_isOldBy_24 rfl rfl (fun c5 => ?_) (fun c5 => ?_)
      · replace hf := ifn c5 hf
        obtain ⟨v6, ev6, hf⟩ := vl_e hf
        refine aw_iincV (y := v6) (lv' := [_, _, _, _]) (pc' := 32) dX12_isOldBy_29 rfl rfl (Nat.le_of_ble_eq_true rfl) ev6 rfl ?_
        refine aw_goto (tgt := 2) dX12_isOldBy_32 rfl ?_
        exact ih _ hf
      · replace hf := ifp c5 hf
        refine aw_iconst (v := 1) (pc' := 28) dX12_isOldBy_27 rfl ic_1 ?_
        obtain rfl := Option.some.inj hf
        exact aw_ri dX12_isOldBy_28 rfl (by decide) (Nat.le_of_ble_eq_true rfl) (Nat.le_of_ble_eq_true rfl) ⟨rfl, rfl, Or.inr rfl⟩
noncomputable def f_X12_isOldBy (s0 : SS) (a0 : Int32) (a1 : Int32) : Option Int32 := (f_X12_isOldBy_L2 s0 a0 a1 4000 0)
set_option maxRecDepth 4000 in
theorem t_X12_isOldBy {r9 : Int32} {s0 : SS} {h0 : List aE} {a0 : Int32} {a1 : Int32} (H0 : HH s0 h0) (hf : f_X12_isOldBy s0 a0 a1 = some r9) : AM mX12_isOldBy (0) [.ref 67, .int a0, .int a1] h0 0 0 (PI fun r' h' => r9 = r' ∧ h0 = h' ∧ (r9 = 0 ∨ r9 = 1)) := by
  unfold f_X12_isOldBy at hf
  refine am_of (lv := [some (.ref 67), some (.int a0), some (.int a1), none]) rfl (Nat.le_of_ble_eq_true rfl) rfl ?_
  refine aw_iconst (v := 0) (pc' := 1) dX12_isOldBy_0 rfl ic_0 ?_
  refine aw_istore_n (lv' := [_, _, _, _]) (pc' := 2) dX12_isOldBy_1 rfl (Nat.le_of_ble_eq_true rfl) rfl ?_
  refine t_X12_isOldBy_L2 H0  4000 _ hf
/-! ThirtyThreeBelowModel.old -/
noncomputable def f_X12_old (s0 : SS) (a0 : Int32) (a1 : Int32) : Option (Int32 × SS) := (b1 (f_X12_in a0 (0 : Int32) ((zS s0 59 30) - (1 : Int32))) fun r1 => (if r1 = (0 : Int32) then some ((-1), s0) else (b1 (f_X12_isCell a1) fun r3 => (if r3 = (0 : Int32) then some ((-1), s0) else (b1 (f_X12_isOldBy s0 a0 a1) fun r5 => (if r5 = (0 : Int32) then (gd (inB a0 8) (if (zI s0 84 (a0.toInt.toNat)) = (40 : Int32) then some ((-3), s0) else (gd (inB a0 8) (vl ((((40 : Int32) * a0) + (zI s0 84 (a0.toInt.toNat)))) fun v11 => (gd (inB v11 320) (st (pI s0 85 (v11.toInt.toNat) a1) fun s13 => (gd (inB a0 8) (vl (((zI s13 84 (a0.toInt.toNat)) + (1 : Int32))) fun v15 => (gd (inB a0 8) (st (pI s13 84 (a0.toInt.toNat) v15) fun s17 => (gd (inB a0 8) (some ((zI s17 84 (a0.toInt.toNat)), s17))))))))))))) else some ((-1), s0)))))))
set_option maxRecDepth 4000 in
theorem t_X12_old {r9 : Int32} {s0 s9 : SS} {h0 : List aE} {a0 : Int32} {a1 : Int32} (H0 : HH s0 h0) (hf : f_X12_old s0 a0 a1 = some (r9, s9)) : AM mX12_old (2) [.ref 67, .int a0, .int a1] h0 0 0 (PI fun r' h' => r9 = r' ∧ HH s9 h' ∧ Mo s0 s9) := by
  unfold f_X12_old at hf
  refine am_of (lv := [some (.ref 67), some (.int a0), some (.int a1)]) rfl (Nat.le_of_ble_eq_true rfl) rfl ?_
  refine aw_iload_n (pc' := 1) dX12_old_0 rfl rfl ?_
  refine aw_iconst (v := 0) (pc' := 2) dX12_old_1 rfl ic_0 ?_
  refine aw_aload_n (pc' := 3) dX12_old_2 rfl rfl rfl ?_
  refine aw_gi (q := 59) (pc' := 6) H0 (H0.fo rfl rfl) (l13 rfl) rfl dX12_old_3 rfl fl_RX12_301 ?_
  refine aw_iconst (v := 1) (pc' := 7) dX12_old_6 rfl ic_1 ?_
  refine aw_isub (pc' := 8) dX12_old_7 rfl ?_
  obtain ⟨r1, ec1, hf⟩ := b1_e hf
  refine aw_callSi (M' := mX12_in) (nc' := 0) (ns' := 0) (pc' := 11) dX12_old_8 rfl ml_RX12_230 kX12_in (t_X12_in ec1) rfl rfl (Nat.le_of_ble_eq_true rfl) (rokD (by omega) (Nat.le_of_ble_eq_true rfl) (Nat.le_of_ble_eq_true rfl) (Nat.le_of_ble_eq_true rfl)) rfl rfl (fun _ h1 q1 => ?_)
  obtain ⟨rfl, rfl, zb1⟩ := q1
  refine aw_if_eq (tgt := 30) (pc' := 14) dX12_old_11 rfl rfl (fun c2 => ?_) (fun c2 => ?_)
  · replace hf := ifp c2 hf
    refine aw_iconst (v := (-1)) (pc' := 31) dX12_old_30 rfl ic_m1 ?_
    obtain ⟨rfl, rfl⟩ := so2 hf
    exact aw_ri dX12_old_31 rfl rfl (Nat.le_of_ble_eq_true rfl) (Nat.le_of_ble_eq_true rfl) ⟨rfl, H0, (Mo.rf _)⟩
  · replace hf := ifn c2 hf
    refine aw_iload_n (pc' := 15) dX12_old_14 rfl rfl ?_
    obtain ⟨r3, ec3, hf⟩ := b1_e hf
    refine aw_callSi (M' := mX12_isCell) (nc' := 0) (ns' := 0) (pc' := 18) dX12_old_15 rfl ml_RX12_234 kX12_isCell (t_X12_isCell ec3) rfl rfl (Nat.le_of_ble_eq_true rfl) (rokD (by omega) (Nat.le_of_ble_eq_true rfl) (Nat.le_of_ble_eq_true rfl) (Nat.le_of_ble_eq_true rfl)) rfl rfl (fun _ h3 q3 => ?_)
    obtain ⟨rfl, rfl, zb3⟩ := q3
    refine aw_if_eq (tgt := 30) (pc' := 21) dX12_old_18 rfl rfl (fun c4 => ?_) (fun c4 => ?_)
    · replace hf := ifp c4 hf
      refine aw_iconst (v := (-1)) (pc' := 31) dX12_old_30 rfl ic_m1 ?_
      obtain ⟨rfl, rfl⟩ := so2 hf
      exact aw_ri dX12_old_31 rfl rfl (Nat.le_of_ble_eq_true rfl) (Nat.le_of_ble_eq_true rfl) ⟨rfl, H0, (Mo.rf _)⟩
    · replace hf := ifn c4 hf
      refine aw_aload_n (pc' := 22) dX12_old_21 rfl rfl rfl ?_
      refine aw_iload_n (pc' := 23) dX12_old_22 rfl rfl ?_
      refine aw_iload_n (pc' := 24) dX12_old_23 rfl rfl ?_
      obtain ⟨r5, ec5, hf⟩ := b1_e hf
      refine aw_callVi (M' := mX12_isOldBy) (nc' := 0) (ns' := 0) (pc' := 27) dX12_old_24 rfl ml_RX12_304 kX12_isOldBy (t_X12_isOldBy H0 ec5) (H0.ob (H0.fo rfl rfl) (by decide)) rfl rfl rfl (Nat.le_of_ble_eq_true rfl) (rokD (by omega) (Nat.le_of_ble_eq_true rfl) (Nat.le_of_ble_eq_true rfl) (Nat.le_of_ble_eq_true rfl)) rfl rfl (fun _ h5 q5 => ?_)
      obtain ⟨rfl, rfl, zb5⟩ := q5
      refine aw_if_eq (tgt := 32) (pc' := 30) dX12_old_27 rfl rfl (fun c6 => ?_) (fun c6 => ?_)
      · replace hf := ifp c6 hf
        refine aw_aload_n (pc' := 33) dX12_old_32 rfl rfl rfl ?_
        refine aw_gr (q := 59) (e := 51) (v := .ref 92) (pc' := 36) H0 (H0.fo rfl rfl) (l13 rfl) rfl rfl dX12_old_33 rfl fl_RX12_90 ?_
        refine aw_iload_n (pc' := 37) dX12_old_36 rfl rfl ?_
        obtain ⟨g7, hf⟩ := gd_e hf
        refine aw_ia (q := 84) (pc' := 38) H0 (H0.fa rfl rfl rfl) g7 dX12_old_37 rfl ?_
        refine aw_bipush (v := 40) (pc' := 40) dX12_old_38 rfl bp_40 ?_
        refine aw_icmp_ne (tgt := 46) (pc' := 43) dX12_old_40 rfl rfl (fun c8 => ?_) (fun c8 => ?_)
        · replace hf := ifn c8 hf
          refine aw_aload_n (pc' := 47) dX12_old_46 rfl rfl rfl ?_
          refine aw_gr (q := 59) (e := 53) (v := .ref 93) (pc' := 50) H0 (H0.fo rfl rfl) (l13 rfl) rfl rfl dX12_old_47 rfl fl_RX12_93 ?_
          refine aw_bipush (v := 40) (pc' := 52) dX12_old_50 rfl bp_40 ?_
          refine aw_iload_n (pc' := 53) dX12_old_52 rfl rfl ?_
          refine aw_imul (pc' := 54) dX12_old_53 rfl ?_
          refine aw_aload_n (pc' := 55) dX12_old_54 rfl rfl rfl ?_
          refine aw_gr (q := 59) (e := 51) (v := .ref 92) (pc' := 58) H0 (H0.fo rfl rfl) (l13 rfl) rfl rfl dX12_old_55 rfl fl_RX12_90 ?_
          refine aw_iload_n (pc' := 59) dX12_old_58 rfl rfl ?_
          obtain ⟨g10, hf⟩ := gd_e hf
          refine aw_ia (q := 84) (pc' := 60) H0 (H0.fa rfl rfl rfl) g10 dX12_old_59 rfl ?_
          refine aw_iadd (pc' := 61) dX12_old_60 rfl ?_
          refine aw_iload_n (pc' := 62) dX12_old_61 rfl rfl ?_
          obtain ⟨v11, ev11, hf⟩ := vl_e hf
          refine aw_sndi ev11 ?_
          obtain ⟨g12, hf⟩ := gd_e hf
          obtain ⟨s13, es13, hf⟩ := st_e hf
          refine aw_is (q := 85) (pc' := 63) es13 H0 (H0.fa rfl rfl rfl) g12 dX12_old_62 rfl (fun h13 H13 => ?_)
          have m13 := Mo.ofI es13
          refine aw_aload_n (pc' := 64) dX12_old_63 rfl rfl rfl ?_
          refine aw_gr (q := 59) (e := 51) (v := .ref 92) (pc' := 67) H13 (H13.fo rfl rfl) (l13 rfl) rfl rfl dX12_old_64 rfl fl_RX12_90 ?_
          refine aw_iload_n (pc' := 68) dX12_old_67 rfl rfl ?_
          refine aw_dup2 (pc' := 69) dX12_old_68 rfl rfl rfl ?_
          obtain ⟨g14, hf⟩ := gd_e hf
          refine aw_ia (q := 84) (pc' := 70) H13 (H13.fa rfl rfl rfl) g14 dX12_old_69 rfl ?_
          refine aw_iconst (v := 1) (pc' := 71) dX12_old_70 rfl ic_1 ?_
          refine aw_iadd (pc' := 72) dX12_old_71 rfl ?_
          obtain ⟨v15, ev15, hf⟩ := vl_e hf
          refine aw_topi ev15 ?_
          obtain ⟨g16, hf⟩ := gd_e hf
          obtain ⟨s17, es17, hf⟩ := st_e hf
          refine aw_is (q := 84) (pc' := 73) es17 H13 (H13.fa rfl rfl rfl) g16 dX12_old_72 rfl (fun h17 H17 => ?_)
          have m17 := Mo.ofI es17
          refine aw_aload_n (pc' := 74) dX12_old_73 rfl rfl rfl ?_
          refine aw_gr (q := 59) (e := 51) (v := .ref 92) (pc' := 77) H17 (H17.fo rfl rfl) (l13 rfl) rfl rfl dX12_old_74 rfl fl_RX12_90 ?_
          refine aw_iload_n (pc' := 78) dX12_old_77 rfl rfl ?_
          obtain ⟨g18, hf⟩ := gd_e hf
          refine aw_ia (q := 84) (pc' := 79) H17 (H17.fa rfl rfl rfl) g18 dX12_old_78 rfl ?_
          obtain ⟨rfl, rfl⟩ := so2 hf
          exact aw_ri dX12_old_79 rfl rfl (Nat.le_of_ble_eq_true rfl) (Nat.le_of_ble_eq_true rfl) ⟨rfl, H17, (m13.tr m17)⟩
        · replace hf := ifp c8 hf
          refine aw_bipush (v := (-3)) (pc' := 45) dX12_old_43 rfl bp_m3 ?_
          obtain ⟨rfl, rfl⟩ := so2 hf
          exact aw_ri dX12_old_45 rfl rfl (Nat.le_of_ble_eq_true rfl) (Nat.le_of_ble_eq_true rfl) ⟨rfl, H0, (Mo.rf _)⟩
      · replace hf := ifn c6 hf
        refine aw_iconst (v := (-1)) (pc' := 31) dX12_old_30 rfl ic_m1 ?_
        obtain ⟨rfl, rfl⟩ := so2 hf
        exact aw_ri dX12_old_31 rfl rfl (Nat.le_of_ble_eq_true rfl) (Nat.le_of_ble_eq_true rfl) ⟨rfl, H0, (Mo.rf _)⟩
/-! ThirtyThreeBelowModel.isShelterBy -/
noncomputable def f_X12_isShelterBy (s0 : SS) (a0 : Int32) (a1 : Int32) (a2 : Int32) : Option Int32 := (gd (inB a0 8) (if a2 = (zI s0 83 (a0.toInt.toNat)) then (gd (inB a0 8) (gd (inB a0 8) (b1 (f_X12_in a1 (zI s0 81 (a0.toInt.toNat)) (zI s0 82 (a0.toInt.toNat))) fun r5 => (if r5 = (0 : Int32) then some 0 else some 1)))) else some 0))
set_option maxRecDepth 4000 in
theorem t_X12_isShelterBy {r9 : Int32} {s0 : SS} {h0 : List aE} {a0 : Int32} {a1 : Int32} {a2 : Int32} (H0 : HH s0 h0) (hf : f_X12_isShelterBy s0 a0 a1 a2 = some r9) : AM mX12_isShelterBy (1) [.ref 67, .int a0, .int a1, .int a2] h0 0 0 (PI fun r' h' => r9 = r' ∧ h0 = h' ∧ (r9 = 0 ∨ r9 = 1)) := by
  unfold f_X12_isShelterBy at hf
  refine am_of (lv := [some (.ref 67), some (.int a0), some (.int a1), some (.int a2)]) rfl (Nat.le_of_ble_eq_true rfl) rfl ?_
  refine aw_iload_n (pc' := 1) dX12_isShelterBy_0 rfl rfl ?_
  refine aw_aload_n (pc' := 2) dX12_isShelterBy_1 rfl rfl rfl ?_
  refine aw_gr (q := 59) (e := 49) (v := .ref 91) (pc' := 5) H0 (H0.fo rfl rfl) (l13 rfl) rfl rfl dX12_isShelterBy_2 rfl fl_RX12_87 ?_
  refine aw_iload_n (pc' := 6) dX12_isShelterBy_5 rfl rfl ?_
  obtain ⟨g1, hf⟩ := gd_e hf
  refine aw_ia (q := 83) (pc' := 7) H0 (H0.fa rfl rfl rfl) g1 dX12_isShelterBy_6 rfl ?_
  refine aw_icmp_ne (tgt := 33) (pc' := 10) dX12_isShelterBy_7 rfl rfl (fun c2 => ?_) (fun c2 => ?_)
  · replace hf := ifn c2 hf
    refine aw_iconst (v := 0) (pc' := 34) dX12_isShelterBy_33 rfl ic_0 ?_
    obtain rfl := Option.some.inj hf
    exact aw_ri dX12_isShelterBy_34 rfl (by decide) (Nat.le_of_ble_eq_true rfl) (Nat.le_of_ble_eq_true rfl) ⟨rfl, rfl, Or.inl rfl⟩
  · replace hf := ifp c2 hf
    refine aw_iload_n (pc' := 11) dX12_isShelterBy_10 rfl rfl ?_
    refine aw_aload_n (pc' := 12) dX12_isShelterBy_11 rfl rfl rfl ?_
    refine aw_gr (q := 59) (e := 45) (v := .ref 89) (pc' := 15) H0 (H0.fo rfl rfl) (l13 rfl) rfl rfl dX12_isShelterBy_12 rfl fl_RX12_81 ?_
    refine aw_iload_n (pc' := 16) dX12_isShelterBy_15 rfl rfl ?_
    obtain ⟨g3, hf⟩ := gd_e hf
    refine aw_ia (q := 81) (pc' := 17) H0 (H0.fa rfl rfl rfl) g3 dX12_isShelterBy_16 rfl ?_
    refine aw_aload_n (pc' := 18) dX12_isShelterBy_17 rfl rfl rfl ?_
    refine aw_gr (q := 59) (e := 47) (v := .ref 90) (pc' := 21) H0 (H0.fo rfl rfl) (l13 rfl) rfl rfl dX12_isShelterBy_18 rfl fl_RX12_84 ?_
    refine aw_iload_n (pc' := 22) dX12_isShelterBy_21 rfl rfl ?_
    obtain ⟨g4, hf⟩ := gd_e hf
    refine aw_ia (q := 82) (pc' := 23) H0 (H0.fa rfl rfl rfl) g4 dX12_isShelterBy_22 rfl ?_
    obtain ⟨r5, ec5, hf⟩ := b1_e hf
    refine aw_callSi (M' := mX12_in) (nc' := 0) (ns' := 0) (pc' := 26) dX12_isShelterBy_23 rfl ml_RX12_230 kX12_in (t_X12_in ec5) rfl rfl (Nat.le_of_ble_eq_true rfl) (rokD (by omega) (Nat.le_of_ble_eq_true rfl) (Nat.le_of_ble_eq_true rfl) (Nat.le_of_ble_eq_true rfl)) rfl rfl (fun _ h5 q5 => ?_)
    obtain ⟨rfl, rfl, zb5⟩ := q5
    refine aw_if_eq (tgt := 33) (pc' := 29) dX12_isShelterBy_26 rfl rfl (fun c6 => ?_) (fun c6 => ?_)
    · replace hf := ifp c6 hf
      refine aw_iconst (v := 0) (pc' := 34) dX12_isShelterBy_33 rfl ic_0 ?_
      obtain rfl := Option.some.inj hf
      exact aw_ri dX12_isShelterBy_34 rfl (by decide) (Nat.le_of_ble_eq_true rfl) (Nat.le_of_ble_eq_true rfl) ⟨rfl, rfl, Or.inl rfl⟩
    · replace hf := ifn c6 hf
      refine aw_iconst (v := 1) (pc' := 30) dX12_isShelterBy_29 rfl ic_1 ?_
      refine aw_goto (tgt := 34) dX12_isShelterBy_30 rfl ?_
      obtain rfl := Option.some.inj hf
      exact aw_ri dX12_isShelterBy_34 rfl (by decide) (Nat.le_of_ble_eq_true rfl) (Nat.le_of_ble_eq_true rfl) ⟨rfl, rfl, Or.inr rfl⟩
/-! ThirtyThreeBelowModel.isUnlike -/
noncomputable def f_X12_isUnlike_L22_b (s0 : SS) (y1 : Int32) (y2 : Int32) (y3 : Int32) (y4 : Int32) (rc : Int32 → Option Int32) (x5 : Int32) : Option Int32 := (b1 (f_X12_canBeAt s0 y2 y3 1) fun r5 => (if r5 < x5 then some 1 else (b1 (f_X12_isOldBy s0 y1 (((100 : Int32) * x5) + y3)) fun r7 => (b1 (f_X12_isShelterBy s0 y1 x5 y3) fun r8 => (jn (fun (t10_0 : Int32) => (if t10_0 = (0 : Int32) then some 0 else (vl (x5 + 1) fun v12 => (rc v12)))) fun k10 => (if y4 = (0 : Int32) then (jn ((k10 1)) fun k17 => (if r7 = (0 : Int32) then (if r8 = (0 : Int32) then (k10 0) else k17) else k17)) else (if y4 = (1 : Int32) then (if r7 = (0 : Int32) then (k10 1) else (k10 0)) else (if r8 = (0 : Int32) then (k10 1) else (k10 0)))))))))
noncomputable def f_X12_isUnlike_L22 (s0 : SS) (y1 : Int32) (y2 : Int32) (y3 : Int32) (y4 : Int32) : Nat → Int32 → Option Int32
  | 0, _ => none
  | n + 1, x5 => f_X12_isUnlike_L22_b s0 y1 y2 y3 y4 (f_X12_isUnlike_L22 s0 y1 y2 y3 y4 n) x5
set_option maxRecDepth 4000 in
theorem t_X12_isUnlike_L22 {r9 : Int32} {s0 : SS} {h0 : List aE} {y1 : Int32} {y2 : Int32} {y3 : Int32} {y4 : Int32} (H0 : HH s0 h0)  : ∀ (n : Nat) (x5 : Int32), f_X12_isUnlike_L22 s0 y1 y2 y3 y4 n x5 = some r9 → AW mX12_isUnlike (rmD (2) 0 0) (fin (PI fun r' h' => r9 = r' ∧ h0 = h' ∧ (r9 = 0 ∨ r9 = 1)) 0 0) 22 [some (.ref 67), some (.int y1), some (.int y2), some (.int y3), some (.int y4), some (.int x5), none, none, none] [] h0 0 0 := by
  intro n
  induction n with
  | zero =>
    intro x5 hf
    cases hf
  | succ n ih =>
    intro x5 hf
    replace hf : f_X12_isUnlike_L22_b s0 y1 y2 y3 y4 (f_X12_isUnlike_L22 s0 y1 y2 y3 y4 n) x5 = some r9 := hf
    unfold f_X12_isUnlike_L22_b at hf
    refine aw_iload (pc' := 24) dX12_isUnlike_22 rfl rfl ?_
    refine aw_aload_n (pc' := 25) dX12_isUnlike_24 rfl rfl rfl ?_
    refine aw_iload_n (pc' := 26) dX12_isUnlike_25 rfl rfl ?_
    refine aw_iload_n (pc' := 27) dX12_isUnlike_26 rfl rfl ?_
    refine aw_iconst (v := 1) (pc' := 28) dX12_isUnlike_27 rfl ic_1 ?_
    obtain ⟨r5, ec5, hf⟩ := b1_e hf
    refine aw_callVi (M' := mX12_canBeAt) (nc' := 0) (ns' := 0) (pc' := 31) dX12_isUnlike_28 rfl ml_RX12_297 kX12_canBeAt (t_X12_canBeAt H0 ec5) (H0.ob (H0.fo rfl rfl) (by decide)) rfl rfl rfl (Nat.le_of_ble_eq_true rfl) (rokD (by omega) (Nat.le_of_ble_eq_true rfl) (Nat.le_of_ble_eq_true rfl) (Nat.le_of_ble_eq_true rfl)) rfl rfl (fun _ h5 q5 => ?_)
    obtain ⟨rfl, rfl⟩ := q5
    refine aw_cgt (tgt := 125) (pc' := 34) dX12_isUnlike_31 rfl rfl (fun c6 => ?_) (fun c6 => ?_)
    · replace hf := ifp c6 hf
      refine aw_iconst (v := 1) (pc' := 126) dX12_isUnlike_125 rfl ic_1 ?_
      obtain rfl := Option.some.inj hf
      exact aw_ri dX12_isUnlike_126 rfl (by decide) (Nat.le_of_ble_eq_true rfl) (Nat.le_of_ble_eq_true rfl) ⟨rfl, rfl, Or.inr rfl⟩
    · replace hf := ifn c6 hf
      refine aw_aload_n (pc' := 35) dX12_isUnlike_34 rfl rfl rfl ?_
      refine aw_iload_n (pc' := 36) dX12_isUnlike_35 rfl rfl ?_
      refine aw_bipush (v := 100) (pc' := 38) dX12_isUnlike_36 rfl bp_100 ?_
      refine aw_iload (pc' := 40) dX12_isUnlike_38 rfl rfl ?_
      refine aw_imul (pc' := 41) dX12_isUnlike_40 rfl ?_
      refine aw_iload_n (pc' := 42) dX12_isUnlike_41 rfl rfl ?_
      refine aw_iadd (pc' := 43) dX12_isUnlike_42 rfl ?_
      obtain ⟨r7, ec7, hf⟩ := b1_e hf
      refine aw_callVi (M' := mX12_isOldBy) (nc' := 0) (ns' := 0) (pc' := 46) dX12_isUnlike_43 rfl ml_RX12_304 kX12_isOldBy (t_X12_isOldBy H0 ec7) (H0.ob (H0.fo rfl rfl) (by decide)) rfl rfl rfl (Nat.le_of_ble_eq_true rfl) (rokD (by omega) (Nat.le_of_ble_eq_true rfl) (Nat.le_of_ble_eq_true rfl) (Nat.le_of_ble_eq_true rfl)) rfl rfl (fun _ h7 q7 => ?_)
      obtain ⟨rfl, rfl, zb7⟩ := q7
      refine aw_istore (lv' := [_, _, _, _, _, _, _, _, _]) (pc' := 48) dX12_isUnlike_46 rfl (Nat.le_of_ble_eq_true rfl) rfl ?_
      refine aw_aload_n (pc' := 49) dX12_isUnlike_48 rfl rfl rfl ?_
      refine aw_iload_n (pc' := 50) dX12_isUnlike_49 rfl rfl ?_
      refine aw_iload (pc' := 52) dX12_isUnlike_50 rfl rfl ?_
      refine aw_iload_n (pc' := 53) dX12_isUnlike_52 rfl rfl ?_
      obtain ⟨r8, ec8, hf⟩ := b1_e hf
      refine aw_callVi (M' := mX12_isShelterBy) (nc' := 0) (ns' := 0) (pc' := 56) dX12_isUnlike_53 rfl ml_RX12_307 kX12_isShelterBy (t_X12_isShelterBy H0 ec8) (H0.ob (H0.fo rfl rfl) (by decide)) rfl rfl rfl (Nat.le_of_ble_eq_true rfl) (rokD (by omega) (Nat.le_of_ble_eq_true rfl) (Nat.le_of_ble_eq_true rfl) (Nat.le_of_ble_eq_true rfl)) rfl rfl (fun _ h8 q8 => ?_)
      obtain ⟨rfl, rfl, zb8⟩ := q8
      refine aw_istore (lv' := [_, _, _, _, _, _, _, _, _]) (pc' := 58) dX12_isUnlike_56 rfl (Nat.le_of_ble_eq_true rfl) rfl ?_
      refine aw_iload (pc' := 60) dX12_isUnlike_58 rfl rfl ?_
      obtain ⟨k10, ek10, hf⟩ := jn_e hf
      have hk10 : ∀ (t10_0 : Int32), k10 t10_0 = some r9 → AW mX12_isUnlike (rmD (2) 0 0) (fin (PI fun r' h' => r9 = r' ∧ h0 = h' ∧ (r9 = 0 ∨ r9 = 1)) 0 0) 110 [some (.ref 67), some (.int y1), some (.int y2), some (.int y3), some (.int y4), some (.int x5), none, none, none] [.int t10_0] h0 0 0 := by
        intro t10_0 hf
        subst ek10
        refine aw_istore (lv' := [_, _, _, _, _, _, _, _, _]) (pc' := 112) dX12_isUnlike_110 rfl (Nat.le_of_ble_eq_true rfl) rfl ?_
        refine aw_iload (pc' := 114) dX12_isUnlike_112 rfl rfl ?_
        refine aw_if_ne (tgt := 119) (pc' := 117) dX12_isUnlike_114 rfl rfl (fun c11 => ?_) (fun c11 => ?_)
        · replace hf := ifn c11 hf
          obtain ⟨v12, ev12, hf⟩ := vl_e hf
          refine aw_iincV (y := v12) (lv' := [_, _, _, _, _, _, _, _, _]) (pc' := 122) dX12_isUnlike_119 rfl rfl (Nat.le_of_ble_eq_true rfl) ev12 rfl ?_
          refine aw_goto (tgt := 22) dX12_isUnlike_122 rfl ?_
          refine AW.lv_le (lz_k (lz_k (lz_k (lz_k (lz_k (lz_k (lz_d (lz_d (lz_d lz_0))))))))) ?_
          exact ih _ hf
        · replace hf := ifp c11 hf
          refine aw_iconst (v := 0) (pc' := 118) dX12_isUnlike_117 rfl ic_0 ?_
          obtain rfl := Option.some.inj hf
          exact aw_ri dX12_isUnlike_118 rfl (by decide) (Nat.le_of_ble_eq_true rfl) (Nat.le_of_ble_eq_true rfl) ⟨rfl, rfl, Or.inl rfl⟩
      clear ek10
      refine aw_if_ne (tgt := 81) (pc' := 63) dX12_isUnlike_60 rfl rfl (fun c13 => ?_) (fun c13 => ?_)
      · replace hf := ifn c13 hf
        refine aw_iload (pc' := 83) dX12_isUnlike_81 rfl rfl ?_
        refine aw_iconst (v := 1) (pc' := 84) dX12_isUnlike_83 rfl ic_1 ?_
        refine aw_icmp_ne (tgt := 100) (pc' := 87) dX12_isUnlike_84 rfl rfl (fun c14 => ?_) (fun c14 => ?_)
        · replace hf := ifn c14 hf
          refine aw_iload (pc' := 102) dX12_isUnlike_100 rfl rfl ?_
          refine aw_if_ne (tgt := 109) (pc' := 105) dX12_isUnlike_102 rfl rfl (fun c15 => ?_) (fun c15 => ?_)
          · replace hf := ifn c15 hf
            refine aw_iconst (v := 0) (pc' := 110) dX12_isUnlike_109 rfl ic_0 ?_
            refine AW.lv_le (lz_k (lz_k (lz_k (lz_k (lz_k (lz_k (lz_d (lz_d (lz_d lz_0))))))))) ?_
            exact hk10 _ hf
          · replace hf := ifp c15 hf
            refine aw_iconst (v := 1) (pc' := 106) dX12_isUnlike_105 rfl ic_1 ?_
            refine aw_goto (tgt := 110) dX12_isUnlike_106 rfl ?_
            refine AW.lv_le (lz_k (lz_k (lz_k (lz_k (lz_k (lz_k (lz_d (lz_d (lz_d lz_0))))))))) ?_
            exact hk10 _ hf
        · replace hf := ifp c14 hf
          refine aw_iload (pc' := 89) dX12_isUnlike_87 rfl rfl ?_
          refine aw_if_ne (tgt := 96) (pc' := 92) dX12_isUnlike_89 rfl rfl (fun c16 => ?_) (fun c16 => ?_)
          · replace hf := ifn c16 hf
            refine aw_iconst (v := 0) (pc' := 97) dX12_isUnlike_96 rfl ic_0 ?_
            refine aw_goto (tgt := 110) dX12_isUnlike_97 rfl ?_
            refine AW.lv_le (lz_k (lz_k (lz_k (lz_k (lz_k (lz_k (lz_d (lz_d (lz_d lz_0))))))))) ?_
            exact hk10 _ hf
          · replace hf := ifp c16 hf
            refine aw_iconst (v := 1) (pc' := 93) dX12_isUnlike_92 rfl ic_1 ?_
            refine aw_goto (tgt := 110) dX12_isUnlike_93 rfl ?_
            refine AW.lv_le (lz_k (lz_k (lz_k (lz_k (lz_k (lz_k (lz_d (lz_d (lz_d lz_0))))))))) ?_
            exact hk10 _ hf
      · replace hf := ifp c13 hf
        refine aw_iload (pc' := 65) dX12_isUnlike_63 rfl rfl ?_
        obtain ⟨k17, ek17, hf⟩ := jn_e hf
        have hk17 : k17 = some r9 → AW mX12_isUnlike (rmD (2) 0 0) (fin (PI fun r' h' => r9 = r' ∧ h0 = h' ∧ (r9 = 0 ∨ r9 = 1)) 0 0) 73 [some (.ref 67), some (.int y1), some (.int y2), some (.int y3), some (.int y4), some (.int x5), none, none, none] [] h0 0 0 := by
          intro hf
          subst ek17
          refine aw_iconst (v := 1) (pc' := 74) dX12_isUnlike_73 rfl ic_1 ?_
          refine aw_goto (tgt := 110) dX12_isUnlike_74 rfl ?_
          exact hk10 _ hf
        clear ek17
        refine aw_if_ne (tgt := 73) (pc' := 68) dX12_isUnlike_65 rfl rfl (fun c18 => ?_) (fun c18 => ?_)
        · replace hf := ifn c18 hf
          refine AW.lv_le (lz_k (lz_k (lz_k (lz_k (lz_k (lz_k (lz_d (lz_d (lz_d lz_0))))))))) ?_
          exact hk17  hf
        · replace hf := ifp c18 hf
          refine aw_iload (pc' := 70) dX12_isUnlike_68 rfl rfl ?_
          refine aw_if_eq (tgt := 77) (pc' := 73) dX12_isUnlike_70 rfl rfl (fun c19 => ?_) (fun c19 => ?_)
          · replace hf := ifp c19 hf
            refine aw_iconst (v := 0) (pc' := 78) dX12_isUnlike_77 rfl ic_0 ?_
            refine aw_goto (tgt := 110) dX12_isUnlike_78 rfl ?_
            refine AW.lv_le (lz_k (lz_k (lz_k (lz_k (lz_k (lz_k (lz_d (lz_d (lz_d lz_0))))))))) ?_
            exact hk10 _ hf
          · replace hf := ifn c19 hf
            refine AW.lv_le (lz_k (lz_k (lz_k (lz_k (lz_k (lz_k (lz_d (lz_d (lz_d lz_0))))))))) ?_
            exact hk17  hf
noncomputable def f_X12_isUnlike (s0 : SS) (a0 : Int32) (a1 : Int32) (a2 : Int32) : Option Int32 := (vl ((((61 : Int32) * a1) + a2)) fun v1 => (gd (inB v1 7320) (vl ((zI s0 71 (v1.toInt.toNat))) fun v3 => (b1 (f_X12_canBeAt s0 a1 a2 0) fun r4 => (f_X12_isUnlike_L22 s0 a0 a1 a2 v3 4000 r4)))))
set_option maxRecDepth 4000 in
theorem t_X12_isUnlike {r9 : Int32} {s0 : SS} {h0 : List aE} {a0 : Int32} {a1 : Int32} {a2 : Int32} (H0 : HH s0 h0) (hf : f_X12_isUnlike s0 a0 a1 a2 = some r9) : AM mX12_isUnlike (2) [.ref 67, .int a0, .int a1, .int a2] h0 0 0 (PI fun r' h' => r9 = r' ∧ h0 = h' ∧ (r9 = 0 ∨ r9 = 1)) := by
  unfold f_X12_isUnlike at hf
  refine am_of (lv := [some (.ref 67), some (.int a0), some (.int a1), some (.int a2), none, none, none, none, none]) rfl (Nat.le_of_ble_eq_true rfl) rfl ?_
  refine aw_aload_n (pc' := 1) dX12_isUnlike_0 rfl rfl rfl ?_
  refine aw_gr (q := 59) (e := 25) (v := .ref 79) (pc' := 4) H0 (H0.fo rfl rfl) (l13 rfl) rfl rfl dX12_isUnlike_1 rfl fl_RX12_44 ?_
  refine aw_bipush (v := 61) (pc' := 6) dX12_isUnlike_4 rfl bp_61 ?_
  refine aw_iload_n (pc' := 7) dX12_isUnlike_6 rfl rfl ?_
  refine aw_imul (pc' := 8) dX12_isUnlike_7 rfl ?_
  refine aw_iload_n (pc' := 9) dX12_isUnlike_8 rfl rfl ?_
  refine aw_iadd (pc' := 10) dX12_isUnlike_9 rfl ?_
  obtain ⟨v1, ev1, hf⟩ := vl_e hf
  refine aw_topi ev1 ?_
  obtain ⟨g2, hf⟩ := gd_e hf
  refine aw_ia (q := 71) (pc' := 11) H0 (H0.fa rfl rfl rfl) g2 dX12_isUnlike_10 rfl ?_
  obtain ⟨v3, ev3, hf⟩ := vl_e hf
  refine aw_topi ev3 ?_
  refine aw_istore (lv' := [_, _, _, _, _, _, _, _, _]) (pc' := 13) dX12_isUnlike_11 rfl (Nat.le_of_ble_eq_true rfl) rfl ?_
  refine aw_aload_n (pc' := 14) dX12_isUnlike_13 rfl rfl rfl ?_
  refine aw_iload_n (pc' := 15) dX12_isUnlike_14 rfl rfl ?_
  refine aw_iload_n (pc' := 16) dX12_isUnlike_15 rfl rfl ?_
  refine aw_iconst (v := 0) (pc' := 17) dX12_isUnlike_16 rfl ic_0 ?_
  obtain ⟨r4, ec4, hf⟩ := b1_e hf
  refine aw_callVi (M' := mX12_canBeAt) (nc' := 0) (ns' := 0) (pc' := 20) dX12_isUnlike_17 rfl ml_RX12_297 kX12_canBeAt (t_X12_canBeAt H0 ec4) (H0.ob (H0.fo rfl rfl) (by decide)) rfl rfl rfl (Nat.le_of_ble_eq_true rfl) (rokD (by omega) (Nat.le_of_ble_eq_true rfl) (Nat.le_of_ble_eq_true rfl) (Nat.le_of_ble_eq_true rfl)) rfl rfl (fun _ h4 q4 => ?_)
  obtain ⟨rfl, rfl⟩ := q4
  refine aw_istore (lv' := [_, _, _, _, _, _, _, _, _]) (pc' := 22) dX12_isUnlike_20 rfl (Nat.le_of_ble_eq_true rfl) rfl ?_
  refine t_X12_isUnlike_L22 H0  4000 _ hf
/-! ThirtyThreeBelowModel.wrongBy -/
noncomputable def f_X12_wrongBy_L23_b (q0 : Option Int32) (s0 : SS) (y1 : Int32) (y2 : Int32) (rc : Int32 → Option Int32) (x3 : Int32) : Option Int32 := (gd (inB y2 120) (if (zI s0 67 (y2.toInt.toNat)) < x3 then q0 else (b1 (f_X12_isUnlike s0 y1 y2 x3) fun r8 => (if r8 = (0 : Int32) then (vl (x3 + 1) fun v11 => (rc v11)) else some (((100 : Int32) * y2) + x3)))))
noncomputable def f_X12_wrongBy_L23 (q0 : Option Int32) (s0 : SS) (y1 : Int32) (y2 : Int32) : Nat → Int32 → Option Int32
  | 0, _ => none
  | n + 1, x3 => f_X12_wrongBy_L23_b q0 s0 y1 y2 (f_X12_wrongBy_L23 q0 s0 y1 y2 n) x3
set_option maxRecDepth 4000 in
theorem t_X12_wrongBy_L23 {r9 : Int32} {s0 : SS} {h0 : List aE} {q0 : Option Int32} {y1 : Int32} {y2 : Int32} (H0 : HH s0 h0) (hq0 : q0 = some r9 → AW mX12_wrongBy (rmD (3) 0 0) (fin (PI fun r' h' => r9 = r' ∧ h0 = h') 0 0) 56 [some (.ref 67), some (.int y1), some (.int y2), none] [] h0 0 0) : ∀ (n : Nat) (x3 : Int32), f_X12_wrongBy_L23 q0 s0 y1 y2 n x3 = some r9 → AW mX12_wrongBy (rmD (3) 0 0) (fin (PI fun r' h' => r9 = r' ∧ h0 = h') 0 0) 23 [some (.ref 67), some (.int y1), some (.int y2), some (.int x3)] [] h0 0 0 := by
  intro n
  induction n with
  | zero =>
    intro x3 hf
    cases hf
  | succ n ih =>
    intro x3 hf
    replace hf : f_X12_wrongBy_L23_b q0 s0 y1 y2 (f_X12_wrongBy_L23 q0 s0 y1 y2 n) x3 = some r9 := hf
    unfold f_X12_wrongBy_L23_b at hf
    refine aw_iload_n (pc' := 24) dX12_wrongBy_23 rfl rfl ?_
    refine aw_aload_n (pc' := 25) dX12_wrongBy_24 rfl rfl rfl ?_
    refine aw_gr (q := 59) (e := 17) (v := .ref 75) (pc' := 28) H0 (H0.fo rfl rfl) (l13 rfl) rfl rfl dX12_wrongBy_25 rfl fl_RX12_32 ?_
    refine aw_iload_n (pc' := 29) dX12_wrongBy_28 rfl rfl ?_
    obtain ⟨g6, hf⟩ := gd_e hf
    refine aw_ia (q := 67) (pc' := 30) H0 (H0.fa rfl rfl rfl) g6 dX12_wrongBy_29 rfl ?_
    refine aw_cgt (tgt := 56) (pc' := 33) dX12_wrongBy_30 rfl rfl (fun c7 => ?_) (fun c7 => ?_)
    · replace hf := ifp c7 hf
      refine AW.lv_le (lz_k (lz_k (lz_k (lz_d lz_0)))) ?_
      exact hq0  hf
    · replace hf := ifn c7 hf
      refine aw_aload_n (pc' := 34) dX12_wrongBy_33 rfl rfl rfl ?_
      refine aw_iload_n (pc' := 35) dX12_wrongBy_34 rfl rfl ?_
      refine aw_iload_n (pc' := 36) dX12_wrongBy_35 rfl rfl ?_
      refine aw_iload_n (pc' := 37) dX12_wrongBy_36 rfl rfl ?_
      obtain ⟨r8, ec8, hf⟩ := b1_e hf
      refine aw_callVi (M' := mX12_isUnlike) (nc' := 0) (ns' := 0) (pc' := 40) dX12_wrongBy_37 rfl ml_RX12_310 kX12_isUnlike (t_X12_isUnlike H0 ec8) (H0.ob (H0.fo rfl rfl) (by decide)) rfl rfl rfl (Nat.le_of_ble_eq_true rfl) (rokD (by omega) (Nat.le_of_ble_eq_true rfl) (Nat.le_of_ble_eq_true rfl) (Nat.le_of_ble_eq_true rfl)) rfl rfl (fun _ h8 q8 => ?_)
      obtain ⟨rfl, rfl, zb8⟩ := q8
      refine aw_if_eq (tgt := 50) (pc' := 43) dX12_wrongBy_40 rfl rfl (fun c10 => ?_) (fun c10 => ?_)
      · replace hf := ifp c10 hf
        obtain ⟨v11, ev11, hf⟩ := vl_e hf
        refine aw_iincV (y := v11) (lv' := [_, _, _, _]) (pc' := 53) dX12_wrongBy_50 rfl rfl (Nat.le_of_ble_eq_true rfl) ev11 rfl ?_
        refine aw_goto (tgt := 23) dX12_wrongBy_53 rfl ?_
        exact ih _ hf
      · replace hf := ifn c10 hf
        refine aw_bipush (v := 100) (pc' := 45) dX12_wrongBy_43 rfl bp_100 ?_
        refine aw_iload_n (pc' := 46) dX12_wrongBy_45 rfl rfl ?_
        refine aw_imul (pc' := 47) dX12_wrongBy_46 rfl ?_
        refine aw_iload_n (pc' := 48) dX12_wrongBy_47 rfl rfl ?_
        refine aw_iadd (pc' := 49) dX12_wrongBy_48 rfl ?_
        obtain rfl := Option.some.inj hf
        exact aw_ri dX12_wrongBy_49 rfl rfl (Nat.le_of_ble_eq_true rfl) (Nat.le_of_ble_eq_true rfl) ⟨rfl, rfl⟩
noncomputable def f_X12_wrongBy_L2_b (s0 : SS) (y1 : Int32) (rc : Int32 → Option Int32) (x2 : Int32) : Option Int32 := (if x2 < (zS s0 59 4) then (b1 (f_X12_isHole s0 x2) fun r2 => (jn ((vl (x2 + 1) fun v4 => (rc v4))) fun k3 => (if r2 = (0 : Int32) then k3 else (f_X12_wrongBy_L23 k3 s0 y1 x2 4000 1)))) else some (-2))
noncomputable def f_X12_wrongBy_L2 (s0 : SS) (y1 : Int32) : Nat → Int32 → Option Int32
  | 0, _ => none
  | n + 1, x2 => f_X12_wrongBy_L2_b s0 y1 (f_X12_wrongBy_L2 s0 y1 n) x2
set_option maxRecDepth 4000 in
theorem t_X12_wrongBy_L2 {r9 : Int32} {s0 : SS} {h0 : List aE} {y1 : Int32} (H0 : HH s0 h0)  : ∀ (n : Nat) (x2 : Int32), f_X12_wrongBy_L2 s0 y1 n x2 = some r9 → AW mX12_wrongBy (rmD (3) 0 0) (fin (PI fun r' h' => r9 = r' ∧ h0 = h') 0 0) 2 [some (.ref 67), some (.int y1), some (.int x2), none] [] h0 0 0 := by
  intro n
  induction n with
  | zero =>
    intro x2 hf
    cases hf
  | succ n ih =>
    intro x2 hf
    replace hf : f_X12_wrongBy_L2_b s0 y1 (f_X12_wrongBy_L2 s0 y1 n) x2 = some r9 := hf
    unfold f_X12_wrongBy_L2_b at hf
    refine aw_iload_n (pc' := 3) dX12_wrongBy_2 rfl rfl ?_
    refine aw_aload_n (pc' := 4) dX12_wrongBy_3 rfl rfl rfl ?_
    refine aw_gi (q := 59) (pc' := 7) H0 (H0.fo rfl rfl) (l13 rfl) rfl dX12_wrongBy_4 rfl fl_RX12_242 ?_
    refine aw_cge (tgt := 62) (pc' := 10) dX12_wrongBy_7 rfl rfl (fun c1 => ?_) (fun c1 => ?_)
    · replace hf := ifn c1 hf
      refine aw_bipush (v := (-2)) (pc' := 64) dX12_wrongBy_62 rfl bp_m2 ?_
      obtain rfl := Option.some.inj hf
      exact aw_ri dX12_wrongBy_64 rfl rfl (Nat.le_of_ble_eq_true rfl) (Nat.le_of_ble_eq_true rfl) ⟨rfl, rfl⟩
    · replace hf := ifp c1 hf
      refine aw_aload_n (pc' := 11) dX12_wrongBy_10 rfl rfl rfl ?_
      refine aw_iload_n (pc' := 12) dX12_wrongBy_11 rfl rfl ?_
      obtain ⟨r2, ec2, hf⟩ := b1_e hf
      refine aw_callVi (M' := mX12_isHole) (nc' := 0) (ns' := 0) (pc' := 15) dX12_wrongBy_12 rfl ml_RX12_268 kX12_isHole (t_X12_isHole H0 ec2) (H0.ob (H0.fo rfl rfl) (by decide)) rfl rfl rfl (Nat.le_of_ble_eq_true rfl) (rokD (by omega) (Nat.le_of_ble_eq_true rfl) (Nat.le_of_ble_eq_true rfl) (Nat.le_of_ble_eq_true rfl)) rfl rfl (fun _ h2 q2 => ?_)
      obtain ⟨rfl, rfl, zb2⟩ := q2
      obtain ⟨k3, ek3, hf⟩ := jn_e hf
      have hk3 : k3 = some r9 → AW mX12_wrongBy (rmD (3) 0 0) (fin (PI fun r' h' => r9 = r' ∧ h0 = h') 0 0) 56 [some (.ref 67), some (.int y1), some (.int x2), none] [] h0 0 0 := by
        intro hf
        subst ek3
        obtain ⟨v4, ev4, hf⟩ := vl_e hf
        refine aw_iincV (y := v4) (lv' := [_, _, _, _]) (pc' := 59) dX12_wrongBy_56 rfl rfl (Nat.le_of_ble_eq_true rfl) ev4 rfl ?_
        refine aw_goto (tgt := 2) dX12_wrongBy_59 rfl ?_
        exact ih _ hf
      clear ek3
      refine aw_if_ne (tgt := 21) (pc' := 18) dX12_wrongBy_15 rfl rfl (fun c5 => ?_) (fun c5 => ?_)
      · replace hf := ifn c5 hf
        refine aw_iconst (v := 1) (pc' := 22) dX12_wrongBy_21 rfl ic_1 ?_
        refine aw_istore_n (lv' := [_, _, _, _]) (pc' := 23) dX12_wrongBy_22 rfl (Nat.le_of_ble_eq_true rfl) rfl ?_
        refine t_X12_wrongBy_L23 H0 (fun hf => ?_) 4000 _ hf
        exact hk3  hf
      · replace hf := ifp c5 hf
        refine aw_goto (tgt := 56) dX12_wrongBy_18 rfl ?_
        exact hk3  hf
noncomputable def f_X12_wrongBy (s0 : SS) (a0 : Int32) : Option Int32 := (f_X12_wrongBy_L2 s0 a0 4000 0)
set_option maxRecDepth 4000 in
theorem t_X12_wrongBy {r9 : Int32} {s0 : SS} {h0 : List aE} {a0 : Int32} (H0 : HH s0 h0) (hf : f_X12_wrongBy s0 a0 = some r9) : AM mX12_wrongBy (3) [.ref 67, .int a0] h0 0 0 (PI fun r' h' => r9 = r' ∧ h0 = h') := by
  unfold f_X12_wrongBy at hf
  refine am_of (lv := [some (.ref 67), some (.int a0), none, none]) rfl (Nat.le_of_ble_eq_true rfl) rfl ?_
  refine aw_iconst (v := 0) (pc' := 1) dX12_wrongBy_0 rfl ic_0 ?_
  refine aw_istore_n (lv' := [_, _, _, _]) (pc' := 2) dX12_wrongBy_1 rfl (Nat.le_of_ble_eq_true rfl) rfl ?_
  refine t_X12_wrongBy_L2 H0  4000 _ hf
/-! ThirtyThreeBelowModel.wrong -/
noncomputable def f_X12_wrong (s0 : SS) (a0 : Int32) : Option Int32 := (b1 (f_X12_in a0 (0 : Int32) ((zS s0 59 30) - (1 : Int32))) fun r1 => (if r1 = (0 : Int32) then some (-1) else (b1 (f_X12_wrongBy s0 a0) fun r3 => some r3)))
set_option maxRecDepth 4000 in
theorem t_X12_wrong {r9 : Int32} {s0 : SS} {h0 : List aE} {a0 : Int32} (H0 : HH s0 h0) (hf : f_X12_wrong s0 a0 = some r9) : AM mX12_wrong (4) [.ref 67, .int a0] h0 0 0 (PI fun r' h' => r9 = r' ∧ h0 = h') := by
  unfold f_X12_wrong at hf
  refine am_of (lv := [some (.ref 67), some (.int a0)]) rfl (Nat.le_of_ble_eq_true rfl) rfl ?_
  refine aw_iload_n (pc' := 1) dX12_wrong_0 rfl rfl ?_
  refine aw_iconst (v := 0) (pc' := 2) dX12_wrong_1 rfl ic_0 ?_
  refine aw_aload_n (pc' := 3) dX12_wrong_2 rfl rfl rfl ?_
  refine aw_gi (q := 59) (pc' := 6) H0 (H0.fo rfl rfl) (l13 rfl) rfl dX12_wrong_3 rfl fl_RX12_301 ?_
  refine aw_iconst (v := 1) (pc' := 7) dX12_wrong_6 rfl ic_1 ?_
  refine aw_isub (pc' := 8) dX12_wrong_7 rfl ?_
  obtain ⟨r1, ec1, hf⟩ := b1_e hf
  refine aw_callSi (M' := mX12_in) (nc' := 0) (ns' := 0) (pc' := 11) dX12_wrong_8 rfl ml_RX12_230 kX12_in (t_X12_in ec1) rfl rfl (Nat.le_of_ble_eq_true rfl) (rokD (by omega) (Nat.le_of_ble_eq_true rfl) (Nat.le_of_ble_eq_true rfl) (Nat.le_of_ble_eq_true rfl)) rfl rfl (fun _ h1 q1 => ?_)
  obtain ⟨rfl, rfl, zb1⟩ := q1
  refine aw_if_eq (tgt := 22) (pc' := 14) dX12_wrong_11 rfl rfl (fun c2 => ?_) (fun c2 => ?_)
  · replace hf := ifp c2 hf
    refine aw_iconst (v := (-1)) (pc' := 23) dX12_wrong_22 rfl ic_m1 ?_
    obtain rfl := Option.some.inj hf
    exact aw_ri dX12_wrong_23 rfl rfl (Nat.le_of_ble_eq_true rfl) (Nat.le_of_ble_eq_true rfl) ⟨rfl, rfl⟩
  · replace hf := ifn c2 hf
    refine aw_aload_n (pc' := 15) dX12_wrong_14 rfl rfl rfl ?_
    refine aw_iload_n (pc' := 16) dX12_wrong_15 rfl rfl ?_
    obtain ⟨r3, ec3, hf⟩ := b1_e hf
    refine aw_callVi (M' := mX12_wrongBy) (nc' := 0) (ns' := 0) (pc' := 19) dX12_wrong_16 rfl ml_RX12_313 kX12_wrongBy (t_X12_wrongBy H0 ec3) (H0.ob (H0.fo rfl rfl) (by decide)) rfl rfl rfl (Nat.le_of_ble_eq_true rfl) (rokD (by omega) (Nat.le_of_ble_eq_true rfl) (Nat.le_of_ble_eq_true rfl) (Nat.le_of_ble_eq_true rfl)) rfl rfl (fun _ h3 q3 => ?_)
    obtain ⟨rfl, rfl⟩ := q3
    refine aw_goto (tgt := 23) dX12_wrong_19 rfl ?_
    obtain rfl := Option.some.inj hf
    exact aw_ri dX12_wrong_23 rfl rfl (Nat.le_of_ble_eq_true rfl) (Nat.le_of_ble_eq_true rfl) ⟨rfl, rfl⟩
/-! ThirtyThreeBelowModel.known -/
noncomputable def f_X12_known_L33_b (q0 : Int32 → Int32 → Int32 → Int32 → Int32 → Int32 → Option Int32) (s0 : SS) (y1 : Int32) (rc : Int32 → Int32 → Int32 → Int32 → Int32 → Int32 → Int32 → Option Int32) (x2 : Int32) (x3 : Int32) (x4 : Int32) (x5 : Int32) (x6 : Int32) (x7 : Int32) (x8 : Int32) : Option Int32 := (if x8 < (zS s0 59 30) then (b1 (f_X12_wrongBy s0 x8) fun r4 => (jn (fun (j5_2 : Int32) (j5_3 : Int32) (j5_4 : Int32) (j5_5 : Int32) (j5_6 : Int32) (j5_7 : Int32) => (vl (x8 + 1) fun v6 => (rc j5_2 j5_3 j5_4 j5_5 j5_6 j5_7 v6))) fun k5 => (if r4 = ((-2) : Int32) then (gd (inB x8 8) (jn (fun (t10_0 : Int32) => (gd (inB x8 8) (jn (fun (t12_0 : Int32) => (gd (inB x8 8) (jn (fun (t14_0 : Int32) => (gd (inB x8 8) (jn (fun (t16_0 : Int32) => (gd (inB x8 8) (jn (fun (t18_0 : Int32) => (gd (inB x8 8) (jn (fun (t20_0 : Int32) => (k5 t10_0 t12_0 t14_0 t16_0 t18_0 t20_0)) fun k20 => (if x7 < (zI s0 83 (x8.toInt.toNat)) then (gd (inB x8 8) (k20 (zI s0 83 (x8.toInt.toNat)))) else (k20 x7))))) fun k18 => (if (zI s0 83 (x8.toInt.toNat)) < x6 then (gd (inB x8 8) (k18 (zI s0 83 (x8.toInt.toNat)))) else (k18 x6))))) fun k16 => (if x5 < (zI s0 82 (x8.toInt.toNat)) then (gd (inB x8 8) (k16 (zI s0 82 (x8.toInt.toNat)))) else (k16 x5))))) fun k14 => (if (zI s0 82 (x8.toInt.toNat)) < x4 then (gd (inB x8 8) (k14 (zI s0 82 (x8.toInt.toNat)))) else (k14 x4))))) fun k12 => (if x3 < (zI s0 81 (x8.toInt.toNat)) then (gd (inB x8 8) (k12 (zI s0 81 (x8.toInt.toNat)))) else (k12 x3))))) fun k10 => (if (zI s0 81 (x8.toInt.toNat)) < x2 then (gd (inB x8 8) (k10 (zI s0 81 (x8.toInt.toNat)))) else (k10 x2)))) else (k5 x2 x3 x4 x5 x6 x7)))) else (q0 x2 x3 x4 x5 x6 x7))
noncomputable def f_X12_known_L33 (q0 : Int32 → Int32 → Int32 → Int32 → Int32 → Int32 → Option Int32) (s0 : SS) (y1 : Int32) : Nat → Int32 → Int32 → Int32 → Int32 → Int32 → Int32 → Int32 → Option Int32
  | 0, _, _, _, _, _, _, _ => none
  | n + 1, x2, x3, x4, x5, x6, x7, x8 => f_X12_known_L33_b q0 s0 y1 (f_X12_known_L33 q0 s0 y1 n) x2 x3 x4 x5 x6 x7 x8
set_option maxRecDepth 4000 in
theorem t_X12_known_L33 {r9 : Int32} {s0 : SS} {h0 : List aE} {q0 : Int32 → Int32 → Int32 → Int32 → Int32 → Int32 → Option Int32} {y1 : Int32} (H0 : HH s0 h0) (hq0 : ∀ (x2 : Int32) (x3 : Int32) (x4 : Int32) (x5 : Int32) (x6 : Int32) (x7 : Int32), q0 x2 x3 x4 x5 x6 x7 = some r9 → AW mX12_known (rmD (4) 0 0) (fin (PI fun r' h' => r9 = r' ∧ h0 = h') 0 0) 212 [none, some (.int y1), some (.int x2), some (.int x3), some (.int x4), some (.int x5), some (.int x6), some (.int x7), none] [] h0 0 0) : ∀ (n : Nat) (x2 : Int32) (x3 : Int32) (x4 : Int32) (x5 : Int32) (x6 : Int32) (x7 : Int32) (x8 : Int32), f_X12_known_L33 q0 s0 y1 n x2 x3 x4 x5 x6 x7 x8 = some r9 → AW mX12_known (rmD (4) 0 0) (fin (PI fun r' h' => r9 = r' ∧ h0 = h') 0 0) 33 [some (.ref 67), some (.int y1), some (.int x2), some (.int x3), some (.int x4), some (.int x5), some (.int x6), some (.int x7), some (.int x8)] [] h0 0 0 := by
  intro n
  induction n with
  | zero =>
    intro x2 x3 x4 x5 x6 x7 x8 hf
    cases hf
  | succ n ih =>
    intro x2 x3 x4 x5 x6 x7 x8 hf
    replace hf : f_X12_known_L33_b q0 s0 y1 (f_X12_known_L33 q0 s0 y1 n) x2 x3 x4 x5 x6 x7 x8 = some r9 := hf
    unfold f_X12_known_L33_b at hf
    refine aw_iload (pc' := 35) dX12_known_33 rfl rfl ?_
    refine aw_aload_n (pc' := 36) dX12_known_35 rfl rfl rfl ?_
    refine aw_gi (q := 59) (pc' := 39) H0 (H0.fo rfl rfl) (l13 rfl) rfl dX12_known_36 rfl fl_RX12_301 ?_
    refine aw_cge (tgt := 212) (pc' := 42) dX12_known_39 rfl rfl (fun c3 => ?_) (fun c3 => ?_)
    · replace hf := ifn c3 hf
      refine AW.lv_le (lz_d (lz_k (lz_k (lz_k (lz_k (lz_k (lz_k (lz_k (lz_d lz_0))))))))) ?_
      exact hq0 _ _ _ _ _ _ hf
    · replace hf := ifp c3 hf
      refine aw_aload_n (pc' := 43) dX12_known_42 rfl rfl rfl ?_
      refine aw_iload (pc' := 45) dX12_known_43 rfl rfl ?_
      obtain ⟨r4, ec4, hf⟩ := b1_e hf
      refine aw_callVi (M' := mX12_wrongBy) (nc' := 0) (ns' := 0) (pc' := 48) dX12_known_45 rfl ml_RX12_313 kX12_wrongBy (t_X12_wrongBy H0 ec4) (H0.ob (H0.fo rfl rfl) (by decide)) rfl rfl rfl (Nat.le_of_ble_eq_true rfl) (rokD (by omega) (Nat.le_of_ble_eq_true rfl) (Nat.le_of_ble_eq_true rfl) (Nat.le_of_ble_eq_true rfl)) rfl rfl (fun _ h4 q4 => ?_)
      obtain ⟨rfl, rfl⟩ := q4
      refine aw_bipush (v := (-2)) (pc' := 50) dX12_known_48 rfl bp_m2 ?_
      obtain ⟨k5, ek5, hf⟩ := jn_e hf
      have hk5 : ∀ (j5_2 : Int32) (j5_3 : Int32) (j5_4 : Int32) (j5_5 : Int32) (j5_6 : Int32) (j5_7 : Int32), k5 j5_2 j5_3 j5_4 j5_5 j5_6 j5_7 = some r9 → AW mX12_known (rmD (4) 0 0) (fin (PI fun r' h' => r9 = r' ∧ h0 = h') 0 0) 206 [some (.ref 67), some (.int y1), some (.int j5_2), some (.int j5_3), some (.int j5_4), some (.int j5_5), some (.int j5_6), some (.int j5_7), some (.int x8)] [] h0 0 0 := by
        intro j5_2 j5_3 j5_4 j5_5 j5_6 j5_7 hf
        subst ek5
        obtain ⟨v6, ev6, hf⟩ := vl_e hf
        refine aw_iincV (y := v6) (lv' := [_, _, _, _, _, _, _, _, _]) (pc' := 209) dX12_known_206 rfl rfl (Nat.le_of_ble_eq_true rfl) ev6 rfl ?_
        refine aw_goto (tgt := 33) dX12_known_209 rfl ?_
        exact ih _ _ _ _ _ _ _ hf
      clear ek5
      refine aw_icmp_eq (tgt := 56) (pc' := 53) dX12_known_50 rfl rfl (fun c7 => ?_) (fun c7 => ?_)
      · replace hf := ifp c7 hf
        refine aw_aload_n (pc' := 57) dX12_known_56 rfl rfl rfl ?_
        refine aw_gr (q := 59) (e := 45) (v := .ref 89) (pc' := 60) H0 (H0.fo rfl rfl) (l13 rfl) rfl rfl dX12_known_57 rfl fl_RX12_81 ?_
        refine aw_iload (pc' := 62) dX12_known_60 rfl rfl ?_
        obtain ⟨g8, hf⟩ := gd_e hf
        refine aw_ia (q := 81) (pc' := 63) H0 (H0.fa rfl rfl rfl) g8 dX12_known_62 rfl ?_
        refine aw_iload_n (pc' := 64) dX12_known_63 rfl rfl ?_
        obtain ⟨k10, ek10, hf⟩ := jn_e hf
        have hk10 : ∀ (t10_0 : Int32), k10 t10_0 = some r9 → AW mX12_known (rmD (4) 0 0) (fin (PI fun r' h' => r9 = r' ∧ h0 = h') 0 0) 78 [some (.ref 67), some (.int y1), none, some (.int x3), some (.int x4), some (.int x5), some (.int x6), some (.int x7), some (.int x8)] [.int t10_0] h0 0 0 := by
          intro t10_0 hf
          subst ek10
          refine aw_istore_n (lv' := [_, _, _, _, _, _, _, _, _]) (pc' := 79) dX12_known_78 rfl (Nat.le_of_ble_eq_true rfl) rfl ?_
          refine aw_aload_n (pc' := 80) dX12_known_79 rfl rfl rfl ?_
          refine aw_gr (q := 59) (e := 45) (v := .ref 89) (pc' := 83) H0 (H0.fo rfl rfl) (l13 rfl) rfl rfl dX12_known_80 rfl fl_RX12_81 ?_
          refine aw_iload (pc' := 85) dX12_known_83 rfl rfl ?_
          obtain ⟨g11, hf⟩ := gd_e hf
          refine aw_ia (q := 81) (pc' := 86) H0 (H0.fa rfl rfl rfl) g11 dX12_known_85 rfl ?_
          refine aw_iload_n (pc' := 87) dX12_known_86 rfl rfl ?_
          obtain ⟨k12, ek12, hf⟩ := jn_e hf
          have hk12 : ∀ (t12_0 : Int32), k12 t12_0 = some r9 → AW mX12_known (rmD (4) 0 0) (fin (PI fun r' h' => r9 = r' ∧ h0 = h') 0 0) 101 [some (.ref 67), some (.int y1), some (.int t10_0), none, some (.int x4), some (.int x5), some (.int x6), some (.int x7), some (.int x8)] [.int t12_0] h0 0 0 := by
            intro t12_0 hf
            subst ek12
            refine aw_istore_n (lv' := [_, _, _, _, _, _, _, _, _]) (pc' := 102) dX12_known_101 rfl (Nat.le_of_ble_eq_true rfl) rfl ?_
            refine aw_aload_n (pc' := 103) dX12_known_102 rfl rfl rfl ?_
            refine aw_gr (q := 59) (e := 47) (v := .ref 90) (pc' := 106) H0 (H0.fo rfl rfl) (l13 rfl) rfl rfl dX12_known_103 rfl fl_RX12_84 ?_
            refine aw_iload (pc' := 108) dX12_known_106 rfl rfl ?_
            obtain ⟨g13, hf⟩ := gd_e hf
            refine aw_ia (q := 82) (pc' := 109) H0 (H0.fa rfl rfl rfl) g13 dX12_known_108 rfl ?_
            refine aw_iload (pc' := 111) dX12_known_109 rfl rfl ?_
            obtain ⟨k14, ek14, hf⟩ := jn_e hf
            have hk14 : ∀ (t14_0 : Int32), k14 t14_0 = some r9 → AW mX12_known (rmD (4) 0 0) (fin (PI fun r' h' => r9 = r' ∧ h0 = h') 0 0) 126 [some (.ref 67), some (.int y1), some (.int t10_0), some (.int t12_0), none, some (.int x5), some (.int x6), some (.int x7), some (.int x8)] [.int t14_0] h0 0 0 := by
              intro t14_0 hf
              subst ek14
              refine aw_istore (lv' := [_, _, _, _, _, _, _, _, _]) (pc' := 128) dX12_known_126 rfl (Nat.le_of_ble_eq_true rfl) rfl ?_
              refine aw_aload_n (pc' := 129) dX12_known_128 rfl rfl rfl ?_
              refine aw_gr (q := 59) (e := 47) (v := .ref 90) (pc' := 132) H0 (H0.fo rfl rfl) (l13 rfl) rfl rfl dX12_known_129 rfl fl_RX12_84 ?_
              refine aw_iload (pc' := 134) dX12_known_132 rfl rfl ?_
              obtain ⟨g15, hf⟩ := gd_e hf
              refine aw_ia (q := 82) (pc' := 135) H0 (H0.fa rfl rfl rfl) g15 dX12_known_134 rfl ?_
              refine aw_iload (pc' := 137) dX12_known_135 rfl rfl ?_
              obtain ⟨k16, ek16, hf⟩ := jn_e hf
              have hk16 : ∀ (t16_0 : Int32), k16 t16_0 = some r9 → AW mX12_known (rmD (4) 0 0) (fin (PI fun r' h' => r9 = r' ∧ h0 = h') 0 0) 152 [some (.ref 67), some (.int y1), some (.int t10_0), some (.int t12_0), some (.int t14_0), none, some (.int x6), some (.int x7), some (.int x8)] [.int t16_0] h0 0 0 := by
                intro t16_0 hf
                subst ek16
                refine aw_istore (lv' := [_, _, _, _, _, _, _, _, _]) (pc' := 154) dX12_known_152 rfl (Nat.le_of_ble_eq_true rfl) rfl ?_
                refine aw_aload_n (pc' := 155) dX12_known_154 rfl rfl rfl ?_
                refine aw_gr (q := 59) (e := 49) (v := .ref 91) (pc' := 158) H0 (H0.fo rfl rfl) (l13 rfl) rfl rfl dX12_known_155 rfl fl_RX12_87 ?_
                refine aw_iload (pc' := 160) dX12_known_158 rfl rfl ?_
                obtain ⟨g17, hf⟩ := gd_e hf
                refine aw_ia (q := 83) (pc' := 161) H0 (H0.fa rfl rfl rfl) g17 dX12_known_160 rfl ?_
                refine aw_iload (pc' := 163) dX12_known_161 rfl rfl ?_
                obtain ⟨k18, ek18, hf⟩ := jn_e hf
                have hk18 : ∀ (t18_0 : Int32), k18 t18_0 = some r9 → AW mX12_known (rmD (4) 0 0) (fin (PI fun r' h' => r9 = r' ∧ h0 = h') 0 0) 178 [some (.ref 67), some (.int y1), some (.int t10_0), some (.int t12_0), some (.int t14_0), some (.int t16_0), none, some (.int x7), some (.int x8)] [.int t18_0] h0 0 0 := by
                  intro t18_0 hf
                  subst ek18
                  refine aw_istore (lv' := [_, _, _, _, _, _, _, _, _]) (pc' := 180) dX12_known_178 rfl (Nat.le_of_ble_eq_true rfl) rfl ?_
                  refine aw_aload_n (pc' := 181) dX12_known_180 rfl rfl rfl ?_
                  refine aw_gr (q := 59) (e := 49) (v := .ref 91) (pc' := 184) H0 (H0.fo rfl rfl) (l13 rfl) rfl rfl dX12_known_181 rfl fl_RX12_87 ?_
                  refine aw_iload (pc' := 186) dX12_known_184 rfl rfl ?_
                  obtain ⟨g19, hf⟩ := gd_e hf
                  refine aw_ia (q := 83) (pc' := 187) H0 (H0.fa rfl rfl rfl) g19 dX12_known_186 rfl ?_
                  refine aw_iload (pc' := 189) dX12_known_187 rfl rfl ?_
                  obtain ⟨k20, ek20, hf⟩ := jn_e hf
                  have hk20 : ∀ (t20_0 : Int32), k20 t20_0 = some r9 → AW mX12_known (rmD (4) 0 0) (fin (PI fun r' h' => r9 = r' ∧ h0 = h') 0 0) 204 [some (.ref 67), some (.int y1), some (.int t10_0), some (.int t12_0), some (.int t14_0), some (.int t16_0), some (.int t18_0), none, some (.int x8)] [.int t20_0] h0 0 0 := by
                    intro t20_0 hf
                    subst ek20
                    refine aw_istore (lv' := [_, _, _, _, _, _, _, _, _]) (pc' := 206) dX12_known_204 rfl (Nat.le_of_ble_eq_true rfl) rfl ?_
                    exact hk5 _ _ _ _ _ _ hf
                  clear ek20
                  refine aw_cle (tgt := 202) (pc' := 192) dX12_known_189 rfl rfl (fun c21 => ?_) (fun c21 => ?_)
                  · replace hf := ifn c21 hf
                    refine aw_iload (pc' := 204) dX12_known_202 rfl rfl ?_
                    refine AW.lv_le (lz_k (lz_k (lz_k (lz_k (lz_k (lz_k (lz_k (lz_d (lz_k lz_0))))))))) ?_
                    exact hk20 _ hf
                  · replace hf := ifp c21 hf
                    refine aw_aload_n (pc' := 193) dX12_known_192 rfl rfl rfl ?_
                    refine aw_gr (q := 59) (e := 49) (v := .ref 91) (pc' := 196) H0 (H0.fo rfl rfl) (l13 rfl) rfl rfl dX12_known_193 rfl fl_RX12_87 ?_
                    refine aw_iload (pc' := 198) dX12_known_196 rfl rfl ?_
                    obtain ⟨g22, hf⟩ := gd_e hf
                    refine aw_ia (q := 83) (pc' := 199) H0 (H0.fa rfl rfl rfl) g22 dX12_known_198 rfl ?_
                    refine aw_goto (tgt := 204) dX12_known_199 rfl ?_
                    refine AW.lv_le (lz_k (lz_k (lz_k (lz_k (lz_k (lz_k (lz_k (lz_d (lz_k lz_0))))))))) ?_
                    exact hk20 _ hf
                clear ek18
                refine aw_cge (tgt := 176) (pc' := 166) dX12_known_163 rfl rfl (fun c23 => ?_) (fun c23 => ?_)
                · replace hf := ifn c23 hf
                  refine aw_iload (pc' := 178) dX12_known_176 rfl rfl ?_
                  refine AW.lv_le (lz_k (lz_k (lz_k (lz_k (lz_k (lz_k (lz_d (lz_k (lz_k lz_0))))))))) ?_
                  exact hk18 _ hf
                · replace hf := ifp c23 hf
                  refine aw_aload_n (pc' := 167) dX12_known_166 rfl rfl rfl ?_
                  refine aw_gr (q := 59) (e := 49) (v := .ref 91) (pc' := 170) H0 (H0.fo rfl rfl) (l13 rfl) rfl rfl dX12_known_167 rfl fl_RX12_87 ?_
                  refine aw_iload (pc' := 172) dX12_known_170 rfl rfl ?_
                  obtain ⟨g24, hf⟩ := gd_e hf
                  refine aw_ia (q := 83) (pc' := 173) H0 (H0.fa rfl rfl rfl) g24 dX12_known_172 rfl ?_
                  refine aw_goto (tgt := 178) dX12_known_173 rfl ?_
                  refine AW.lv_le (lz_k (lz_k (lz_k (lz_k (lz_k (lz_k (lz_d (lz_k (lz_k lz_0))))))))) ?_
                  exact hk18 _ hf
              clear ek16
              refine aw_cle (tgt := 150) (pc' := 140) dX12_known_137 rfl rfl (fun c25 => ?_) (fun c25 => ?_)
              · replace hf := ifn c25 hf
                refine aw_iload (pc' := 152) dX12_known_150 rfl rfl ?_
                refine AW.lv_le (lz_k (lz_k (lz_k (lz_k (lz_k (lz_d (lz_k (lz_k (lz_k lz_0))))))))) ?_
                exact hk16 _ hf
              · replace hf := ifp c25 hf
                refine aw_aload_n (pc' := 141) dX12_known_140 rfl rfl rfl ?_
                refine aw_gr (q := 59) (e := 47) (v := .ref 90) (pc' := 144) H0 (H0.fo rfl rfl) (l13 rfl) rfl rfl dX12_known_141 rfl fl_RX12_84 ?_
                refine aw_iload (pc' := 146) dX12_known_144 rfl rfl ?_
                obtain ⟨g26, hf⟩ := gd_e hf
                refine aw_ia (q := 82) (pc' := 147) H0 (H0.fa rfl rfl rfl) g26 dX12_known_146 rfl ?_
                refine aw_goto (tgt := 152) dX12_known_147 rfl ?_
                refine AW.lv_le (lz_k (lz_k (lz_k (lz_k (lz_k (lz_d (lz_k (lz_k (lz_k lz_0))))))))) ?_
                exact hk16 _ hf
            clear ek14
            refine aw_cge (tgt := 124) (pc' := 114) dX12_known_111 rfl rfl (fun c27 => ?_) (fun c27 => ?_)
            · replace hf := ifn c27 hf
              refine aw_iload (pc' := 126) dX12_known_124 rfl rfl ?_
              refine AW.lv_le (lz_k (lz_k (lz_k (lz_k (lz_d (lz_k (lz_k (lz_k (lz_k lz_0))))))))) ?_
              exact hk14 _ hf
            · replace hf := ifp c27 hf
              refine aw_aload_n (pc' := 115) dX12_known_114 rfl rfl rfl ?_
              refine aw_gr (q := 59) (e := 47) (v := .ref 90) (pc' := 118) H0 (H0.fo rfl rfl) (l13 rfl) rfl rfl dX12_known_115 rfl fl_RX12_84 ?_
              refine aw_iload (pc' := 120) dX12_known_118 rfl rfl ?_
              obtain ⟨g28, hf⟩ := gd_e hf
              refine aw_ia (q := 82) (pc' := 121) H0 (H0.fa rfl rfl rfl) g28 dX12_known_120 rfl ?_
              refine aw_goto (tgt := 126) dX12_known_121 rfl ?_
              refine AW.lv_le (lz_k (lz_k (lz_k (lz_k (lz_d (lz_k (lz_k (lz_k (lz_k lz_0))))))))) ?_
              exact hk14 _ hf
          clear ek12
          refine aw_cle (tgt := 100) (pc' := 90) dX12_known_87 rfl rfl (fun c29 => ?_) (fun c29 => ?_)
          · replace hf := ifn c29 hf
            refine aw_iload_n (pc' := 101) dX12_known_100 rfl rfl ?_
            refine AW.lv_le (lz_k (lz_k (lz_k (lz_d (lz_k (lz_k (lz_k (lz_k (lz_k lz_0))))))))) ?_
            exact hk12 _ hf
          · replace hf := ifp c29 hf
            refine aw_aload_n (pc' := 91) dX12_known_90 rfl rfl rfl ?_
            refine aw_gr (q := 59) (e := 45) (v := .ref 89) (pc' := 94) H0 (H0.fo rfl rfl) (l13 rfl) rfl rfl dX12_known_91 rfl fl_RX12_81 ?_
            refine aw_iload (pc' := 96) dX12_known_94 rfl rfl ?_
            obtain ⟨g30, hf⟩ := gd_e hf
            refine aw_ia (q := 81) (pc' := 97) H0 (H0.fa rfl rfl rfl) g30 dX12_known_96 rfl ?_
            refine aw_goto (tgt := 101) dX12_known_97 rfl ?_
            refine AW.lv_le (lz_k (lz_k (lz_k (lz_d (lz_k (lz_k (lz_k (lz_k (lz_k lz_0))))))))) ?_
            exact hk12 _ hf
        clear ek10
        refine aw_cge (tgt := 77) (pc' := 67) dX12_known_64 rfl rfl (fun c31 => ?_) (fun c31 => ?_)
        · replace hf := ifn c31 hf
          refine aw_iload_n (pc' := 78) dX12_known_77 rfl rfl ?_
          refine AW.lv_le (lz_k (lz_k (lz_d (lz_k (lz_k (lz_k (lz_k (lz_k (lz_k lz_0))))))))) ?_
          exact hk10 _ hf
        · replace hf := ifp c31 hf
          refine aw_aload_n (pc' := 68) dX12_known_67 rfl rfl rfl ?_
          refine aw_gr (q := 59) (e := 45) (v := .ref 89) (pc' := 71) H0 (H0.fo rfl rfl) (l13 rfl) rfl rfl dX12_known_68 rfl fl_RX12_81 ?_
          refine aw_iload (pc' := 73) dX12_known_71 rfl rfl ?_
          obtain ⟨g32, hf⟩ := gd_e hf
          refine aw_ia (q := 81) (pc' := 74) H0 (H0.fa rfl rfl rfl) g32 dX12_known_73 rfl ?_
          refine aw_goto (tgt := 78) dX12_known_74 rfl ?_
          refine AW.lv_le (lz_k (lz_k (lz_d (lz_k (lz_k (lz_k (lz_k (lz_k (lz_k lz_0))))))))) ?_
          exact hk10 _ hf
      · replace hf := ifn c7 hf
        refine aw_goto (tgt := 206) dX12_known_53 rfl ?_
        exact hk5 _ _ _ _ _ _ hf
noncomputable def f_X12_known (s0 : SS) (a0 : Int32) : Option Int32 := (b1 (f_X12_in a0 (0 : Int32) (5 : Int32)) fun r1 => (if r1 = (0 : Int32) then some (-1) else (f_X12_known_L33 (fun (x33_2 : Int32) (x33_3 : Int32) (x33_4 : Int32) (x33_5 : Int32) (x33_6 : Int32) (x33_7 : Int32) => (if x33_7 = (0 : Int32) then some (-2) else (if a0 = 0 then some x33_2 else (if a0 = 1 then some x33_5 else (if a0 = 2 then some x33_6 else (if a0 = 3 then some x33_7 else (if x33_6 = x33_7 then (if x33_4 < x33_3 then some (-2) else (if a0 = (4 : Int32) then some x33_3 else some x33_4)) else some (-2)))))))) s0 a0 4000 32 (-1) 32 (-1) 61 0 0)))
set_option maxRecDepth 4000 in
theorem t_X12_known {r9 : Int32} {s0 : SS} {h0 : List aE} {a0 : Int32} (H0 : HH s0 h0) (hf : f_X12_known s0 a0 = some r9) : AM mX12_known (4) [.ref 67, .int a0] h0 0 0 (PI fun r' h' => r9 = r' ∧ h0 = h') := by
  unfold f_X12_known at hf
  refine am_of (lv := [some (.ref 67), some (.int a0), none, none, none, none, none, none, none]) rfl (Nat.le_of_ble_eq_true rfl) rfl ?_
  refine aw_iload_n (pc' := 1) dX12_known_0 rfl rfl ?_
  refine aw_iconst (v := 0) (pc' := 2) dX12_known_1 rfl ic_0 ?_
  refine aw_iconst (v := 5) (pc' := 3) dX12_known_2 rfl ic_5 ?_
  obtain ⟨r1, ec1, hf⟩ := b1_e hf
  refine aw_callSi (M' := mX12_in) (nc' := 0) (ns' := 0) (pc' := 6) dX12_known_3 rfl ml_RX12_230 kX12_in (t_X12_in ec1) rfl rfl (Nat.le_of_ble_eq_true rfl) (rokD (by omega) (Nat.le_of_ble_eq_true rfl) (Nat.le_of_ble_eq_true rfl) (Nat.le_of_ble_eq_true rfl)) rfl rfl (fun _ h1 q1 => ?_)
  obtain ⟨rfl, rfl, zb1⟩ := q1
  refine aw_if_ne (tgt := 11) (pc' := 9) dX12_known_6 rfl rfl (fun c2 => ?_) (fun c2 => ?_)
  · replace hf := ifn c2 hf
    refine aw_bipush (v := 32) (pc' := 13) dX12_known_11 rfl bp_32 ?_
    refine aw_istore_n (lv' := [_, _, _, _, _, _, _, _, _]) (pc' := 14) dX12_known_13 rfl (Nat.le_of_ble_eq_true rfl) rfl ?_
    refine aw_iconst (v := (-1)) (pc' := 15) dX12_known_14 rfl ic_m1 ?_
    refine aw_istore_n (lv' := [_, _, _, _, _, _, _, _, _]) (pc' := 16) dX12_known_15 rfl (Nat.le_of_ble_eq_true rfl) rfl ?_
    refine aw_bipush (v := 32) (pc' := 18) dX12_known_16 rfl bp_32 ?_
    refine aw_istore (lv' := [_, _, _, _, _, _, _, _, _]) (pc' := 20) dX12_known_18 rfl (Nat.le_of_ble_eq_true rfl) rfl ?_
    refine aw_iconst (v := (-1)) (pc' := 21) dX12_known_20 rfl ic_m1 ?_
    refine aw_istore (lv' := [_, _, _, _, _, _, _, _, _]) (pc' := 23) dX12_known_21 rfl (Nat.le_of_ble_eq_true rfl) rfl ?_
    refine aw_bipush (v := 61) (pc' := 25) dX12_known_23 rfl bp_61 ?_
    refine aw_istore (lv' := [_, _, _, _, _, _, _, _, _]) (pc' := 27) dX12_known_25 rfl (Nat.le_of_ble_eq_true rfl) rfl ?_
    refine aw_iconst (v := 0) (pc' := 28) dX12_known_27 rfl ic_0 ?_
    refine aw_istore (lv' := [_, _, _, _, _, _, _, _, _]) (pc' := 30) dX12_known_28 rfl (Nat.le_of_ble_eq_true rfl) rfl ?_
    refine aw_iconst (v := 0) (pc' := 31) dX12_known_30 rfl ic_0 ?_
    refine aw_istore (lv' := [_, _, _, _, _, _, _, _, _]) (pc' := 33) dX12_known_31 rfl (Nat.le_of_ble_eq_true rfl) rfl ?_
    refine t_X12_known_L33 H0 (fun x33_2 x33_3 x33_4 x33_5 x33_6 x33_7 hf => ?_) 4000 _ _ _ _ _ _ _ hf
    refine aw_iload (pc' := 214) dX12_known_212 rfl rfl ?_
    refine aw_if_ne (tgt := 220) (pc' := 217) dX12_known_214 rfl rfl (fun c34 => ?_) (fun c34 => ?_)
    · replace hf := ifn c34 hf
      refine aw_iload_n (pc' := 221) dX12_known_220 rfl rfl ?_
      rcases Decidable.em (a0 = 0) with c35 | c35
      · replace hf := ifp c35 hf
        refine aw_tabIn (tgt := 252) (off := 31) dX12_known_221 (by rw [c35]; decide) (by rw [c35]; decide) (by rw [c35]; decide) (by decide) ?_
        refine aw_iload_n (pc' := 253) dX12_known_252 rfl rfl ?_
        obtain rfl := Option.some.inj hf
        exact aw_ri dX12_known_253 rfl rfl (Nat.le_of_ble_eq_true rfl) (Nat.le_of_ble_eq_true rfl) ⟨rfl, rfl⟩
      replace hf := ifn c35 hf
      rcases Decidable.em (a0 = 1) with c36 | c36
      · replace hf := ifp c36 hf
        refine aw_tabIn (tgt := 254) (off := 33) dX12_known_221 (by rw [c36]; decide) (by rw [c36]; decide) (by rw [c36]; decide) (by decide) ?_
        refine aw_iload (pc' := 256) dX12_known_254 rfl rfl ?_
        obtain rfl := Option.some.inj hf
        exact aw_ri dX12_known_256 rfl rfl (Nat.le_of_ble_eq_true rfl) (Nat.le_of_ble_eq_true rfl) ⟨rfl, rfl⟩
      replace hf := ifn c36 hf
      rcases Decidable.em (a0 = 2) with c37 | c37
      · replace hf := ifp c37 hf
        refine aw_tabIn (tgt := 257) (off := 36) dX12_known_221 (by rw [c37]; decide) (by rw [c37]; decide) (by rw [c37]; decide) (by decide) ?_
        refine aw_iload (pc' := 259) dX12_known_257 rfl rfl ?_
        obtain rfl := Option.some.inj hf
        exact aw_ri dX12_known_259 rfl rfl (Nat.le_of_ble_eq_true rfl) (Nat.le_of_ble_eq_true rfl) ⟨rfl, rfl⟩
      replace hf := ifn c37 hf
      rcases Decidable.em (a0 = 3) with c38 | c38
      · replace hf := ifp c38 hf
        refine aw_tabIn (tgt := 260) (off := 39) dX12_known_221 (by rw [c38]; decide) (by rw [c38]; decide) (by rw [c38]; decide) (by decide) ?_
        refine aw_iload (pc' := 262) dX12_known_260 rfl rfl ?_
        obtain rfl := Option.some.inj hf
        exact aw_ri dX12_known_262 rfl rfl (Nat.le_of_ble_eq_true rfl) (Nat.le_of_ble_eq_true rfl) ⟨rfl, rfl⟩
      replace hf := ifn c38 hf
      refine aw_tabOut (tgt := 263) dX12_known_221 (by have a0 := tneK (K := 0) (by decide) c35; have a1 := tneK (K := 1) (by decide) c36; have a2 := tneK (K := 2) (by decide) c37; have a3 := tneK (K := 3) (by decide) c38; omega) (by decide) ?_
      refine aw_iload (pc' := 265) dX12_known_263 rfl rfl ?_
      refine aw_iload (pc' := 267) dX12_known_265 rfl rfl ?_
      refine aw_icmp_ne (tgt := 276) (pc' := 270) dX12_known_267 rfl rfl (fun c39 => ?_) (fun c39 => ?_)
      · replace hf := ifn c39 hf
        refine aw_bipush (v := (-2)) (pc' := 278) dX12_known_276 rfl bp_m2 ?_
        obtain rfl := Option.some.inj hf
        exact aw_ri dX12_known_278 rfl rfl (Nat.le_of_ble_eq_true rfl) (Nat.le_of_ble_eq_true rfl) ⟨rfl, rfl⟩
      · replace hf := ifp c39 hf
        refine aw_iload_n (pc' := 271) dX12_known_270 rfl rfl ?_
        refine aw_iload (pc' := 273) dX12_known_271 rfl rfl ?_
        refine aw_cle (tgt := 279) (pc' := 276) dX12_known_273 rfl rfl (fun c40 => ?_) (fun c40 => ?_)
        · replace hf := ifn c40 hf
          refine aw_iload_n (pc' := 280) dX12_known_279 rfl rfl ?_
          refine aw_iconst (v := 4) (pc' := 281) dX12_known_280 rfl ic_4 ?_
          refine aw_icmp_ne (tgt := 288) (pc' := 284) dX12_known_281 rfl rfl (fun c41 => ?_) (fun c41 => ?_)
          · replace hf := ifn c41 hf
            refine aw_iload (pc' := 290) dX12_known_288 rfl rfl ?_
            obtain rfl := Option.some.inj hf
            exact aw_ri dX12_known_290 rfl rfl (Nat.le_of_ble_eq_true rfl) (Nat.le_of_ble_eq_true rfl) ⟨rfl, rfl⟩
          · replace hf := ifp c41 hf
            refine aw_iload_n (pc' := 285) dX12_known_284 rfl rfl ?_
            refine aw_goto (tgt := 290) dX12_known_285 rfl ?_
            obtain rfl := Option.some.inj hf
            exact aw_ri dX12_known_290 rfl rfl (Nat.le_of_ble_eq_true rfl) (Nat.le_of_ble_eq_true rfl) ⟨rfl, rfl⟩
        · replace hf := ifp c40 hf
          refine aw_bipush (v := (-2)) (pc' := 278) dX12_known_276 rfl bp_m2 ?_
          obtain rfl := Option.some.inj hf
          exact aw_ri dX12_known_278 rfl rfl (Nat.le_of_ble_eq_true rfl) (Nat.le_of_ble_eq_true rfl) ⟨rfl, rfl⟩
    · replace hf := ifp c34 hf
      refine aw_bipush (v := (-2)) (pc' := 219) dX12_known_217 rfl bp_m2 ?_
      obtain rfl := Option.some.inj hf
      exact aw_ri dX12_known_219 rfl rfl (Nat.le_of_ble_eq_true rfl) (Nat.le_of_ble_eq_true rfl) ⟨rfl, rfl⟩
  · replace hf := ifp c2 hf
    refine aw_iconst (v := (-1)) (pc' := 10) dX12_known_9 rfl ic_m1 ?_
    obtain rfl := Option.some.inj hf
    exact aw_ri dX12_known_10 rfl rfl (Nat.le_of_ble_eq_true rfl) (Nat.le_of_ble_eq_true rfl) ⟨rfl, rfl⟩
/-! ThirtyThreeBelowModel.feed -/
noncomputable def f_X12_feed_L28_b (y1 : Int32) (y2 : Int32) (rc : SS → Int32 → Option (Int32 × SS)) (s : SS) (x3 : Int32) : Option (Int32 × SS) := (if x3 < y1 then (vl ((y2 >>> (((8 : Int32) * x3) &&& 31)).toInt8.toInt32) fun v5 => (vl ((zS s 59 37)) fun v6 => (gd (inB v6 160) (st (pI s 86 (v6.toInt.toNat) v5.toInt8.toInt32) fun s8 => (vl (((zS s8 59 37) + (1 : Int32))) fun v10 => (st (pS s8 59 37 v10) fun s11 => (vl (x3 + 1) fun v12 => (rc s11 v12)))))))) else some ((zS s 59 37), s))
noncomputable def f_X12_feed_L28 (y1 : Int32) (y2 : Int32) : Nat → SS → Int32 → Option (Int32 × SS)
  | 0, _, _ => none
  | n + 1, s, x3 => f_X12_feed_L28_b y1 y2 (f_X12_feed_L28 y1 y2 n) s x3
set_option maxRecDepth 4000 in
theorem t_X12_feed_L28 {r9 : Int32} {s0 sb s9 : SS} {y1 : Int32} {y2 : Int32} (mb : Mo s0 sb)  : ∀ (n : Nat) (s : SS) (h : List aE) (x3 : Int32), HH s h → Mo sb s → f_X12_feed_L28 y1 y2 n s x3 = some (r9, s9) → AW mX12_feed (rmD (1) 0 0) (fin (PI fun r' h' => r9 = r' ∧ HH s9 h' ∧ Mo s0 s9) 0 0) 28 [some (.ref 67), some (.int y1), some (.int y2), some (.int x3)] [] h 0 0 := by
  intro n
  induction n with
  | zero =>
    intro s h x3 H ms hf
    cases hf
  | succ n ih =>
    intro s h x3 H ms hf
    replace hf : f_X12_feed_L28_b y1 y2 (f_X12_feed_L28 y1 y2 n) s x3 = some (r9, s9) := hf
    unfold f_X12_feed_L28_b at hf
    refine aw_iload_n (pc' := 29) dX12_feed_28 rfl rfl ?_
    refine aw_iload_n (pc' := 30) dX12_feed_29 rfl rfl ?_
    refine aw_cge (tgt := 65) (pc' := 33) dX12_feed_30 rfl rfl (fun c4 => ?_) (fun c4 => ?_)
    · replace hf := ifn c4 hf
      refine aw_aload_n (pc' := 66) dX12_feed_65 rfl rfl rfl ?_
      refine aw_gi (q := 59) (pc' := 69) H (H.fo rfl rfl) (by decide) rfl dX12_feed_66 rfl fl_RX12_316 ?_
      obtain ⟨rfl, rfl⟩ := so2 hf
      exact aw_ri dX12_feed_69 rfl rfl (Nat.le_of_ble_eq_true rfl) (Nat.le_of_ble_eq_true rfl) ⟨rfl, H, (mb.tr ms)⟩
    · replace hf := ifp c4 hf
      refine aw_aload_n (pc' := 34) dX12_feed_33 rfl rfl rfl ?_
      refine aw_gr (q := 59) (e := 55) (v := .ref 94) (pc' := 37) H (H.fo rfl rfl) (by decide) rfl rfl dX12_feed_34 rfl fl_RX12_96 ?_
      refine aw_aload_n (pc' := 38) dX12_feed_37 rfl rfl rfl ?_
      refine aw_gi (q := 59) (pc' := 41) H (H.fo rfl rfl) (by decide) rfl dX12_feed_38 rfl fl_RX12_316 ?_
      refine aw_iload_n (pc' := 42) dX12_feed_41 rfl rfl ?_
      refine aw_bipush (v := 8) (pc' := 44) dX12_feed_42 rfl bp_8 ?_
      refine aw_iload_n (pc' := 45) dX12_feed_44 rfl rfl ?_
      refine aw_imul (pc' := 46) dX12_feed_45 rfl ?_
      refine aw_ishr (pc' := 47) dX12_feed_46 rfl ?_
      refine aw_i2b (pc' := 48) dX12_feed_47 rfl ?_
      obtain ⟨v5, ev5, hf⟩ := vl_e hf
      refine aw_topi ev5 ?_
      obtain ⟨v6, ev6, hf⟩ := vl_e hf
      refine aw_sndi ev6 ?_
      obtain ⟨g7, hf⟩ := gd_e hf
      obtain ⟨s8, es8, hf⟩ := st_e hf
      refine aw_bs (q := 86) (pc' := 49) es8 H (H.fa rfl rfl rfl) g7 rfl dX12_feed_48 rfl (fun h8 H8 => ?_)
      have m8 := Mo.ofI es8
      refine aw_aload_n (pc' := 50) dX12_feed_49 rfl rfl rfl ?_
      refine aw_dup (pc' := 51) dX12_feed_50 rfl rfl ?_
      refine aw_gi (q := 59) (pc' := 54) H8 (H8.fo rfl rfl) (l13 rfl) rfl dX12_feed_51 rfl fl_RX12_316 ?_
      refine aw_iconst (v := 1) (pc' := 55) dX12_feed_54 rfl ic_1 ?_
      refine aw_iadd (pc' := 56) dX12_feed_55 rfl ?_
      obtain ⟨v10, ev10, hf⟩ := vl_e hf
      refine aw_topi ev10 ?_
      obtain ⟨s11, es11, hf⟩ := st_e hf
      refine aw_pi (q := 59) (pc' := 59) es11 H8 (H8.fo rfl rfl) (by decide) rfl dX12_feed_56 rfl fl_RX12_316 rfl (fun h11 H11 => ?_)
      have m11 := Mo.ofS es11
      obtain ⟨v12, ev12, hf⟩ := vl_e hf
      refine aw_iincV (y := v12) (lv' := [_, _, _, _]) (pc' := 62) dX12_feed_59 rfl rfl (Nat.le_of_ble_eq_true rfl) ev12 rfl ?_
      refine aw_goto (tgt := 28) dX12_feed_62 rfl ?_
      exact ih _ _ _ H11 ((ms.tr m8).tr m11) hf
noncomputable def f_X12_feed (s0 : SS) (a0 : Int32) (a1 : Int32) : Option (Int32 × SS) := (b1 (f_X12_in a0 (1 : Int32) (4 : Int32)) fun r1 => (if r1 = (0 : Int32) then some ((-1), s0) else (if (160 : Int32) < ((zS s0 59 37) + a0) then some ((-3), s0) else (f_X12_feed_L28 a0 a1 4000 s0 0))))
set_option maxRecDepth 4000 in
theorem t_X12_feed {r9 : Int32} {s0 s9 : SS} {h0 : List aE} {a0 : Int32} {a1 : Int32} (H0 : HH s0 h0) (hf : f_X12_feed s0 a0 a1 = some (r9, s9)) : AM mX12_feed (1) [.ref 67, .int a0, .int a1] h0 0 0 (PI fun r' h' => r9 = r' ∧ HH s9 h' ∧ Mo s0 s9) := by
  unfold f_X12_feed at hf
  refine am_of (lv := [some (.ref 67), some (.int a0), some (.int a1), none]) rfl (Nat.le_of_ble_eq_true rfl) rfl ?_
  refine aw_iload_n (pc' := 1) dX12_feed_0 rfl rfl ?_
  refine aw_iconst (v := 1) (pc' := 2) dX12_feed_1 rfl ic_1 ?_
  refine aw_iconst (v := 4) (pc' := 3) dX12_feed_2 rfl ic_4 ?_
  obtain ⟨r1, ec1, hf⟩ := b1_e hf
  refine aw_callSi (M' := mX12_in) (nc' := 0) (ns' := 0) (pc' := 6) dX12_feed_3 rfl ml_RX12_230 kX12_in (t_X12_in ec1) rfl rfl (Nat.le_of_ble_eq_true rfl) (rokD (by omega) (Nat.le_of_ble_eq_true rfl) (Nat.le_of_ble_eq_true rfl) (Nat.le_of_ble_eq_true rfl)) rfl rfl (fun _ h1 q1 => ?_)
  obtain ⟨rfl, rfl, zb1⟩ := q1
  refine aw_if_ne (tgt := 11) (pc' := 9) dX12_feed_6 rfl rfl (fun c2 => ?_) (fun c2 => ?_)
  · replace hf := ifn c2 hf
    refine aw_aload_n (pc' := 12) dX12_feed_11 rfl rfl rfl ?_
    refine aw_gi (q := 59) (pc' := 15) H0 (H0.fo rfl rfl) (l13 rfl) rfl dX12_feed_12 rfl fl_RX12_316 ?_
    refine aw_iload_n (pc' := 16) dX12_feed_15 rfl rfl ?_
    refine aw_iadd (pc' := 17) dX12_feed_16 rfl ?_
    refine aw_sipush (v := 160) (pc' := 20) dX12_feed_17 rfl sp_160 ?_
    refine aw_cle (tgt := 26) (pc' := 23) dX12_feed_20 rfl rfl (fun c3 => ?_) (fun c3 => ?_)
    · replace hf := ifn c3 hf
      refine aw_iconst (v := 0) (pc' := 27) dX12_feed_26 rfl ic_0 ?_
      refine aw_istore_n (lv' := [_, _, _, _]) (pc' := 28) dX12_feed_27 rfl (Nat.le_of_ble_eq_true rfl) rfl ?_
      refine t_X12_feed_L28 (Mo.rf _)  4000 _ _ _ H0 (Mo.rf _) hf
    · replace hf := ifp c3 hf
      refine aw_bipush (v := (-3)) (pc' := 25) dX12_feed_23 rfl bp_m3 ?_
      obtain ⟨rfl, rfl⟩ := so2 hf
      exact aw_ri dX12_feed_25 rfl rfl (Nat.le_of_ble_eq_true rfl) (Nat.le_of_ble_eq_true rfl) ⟨rfl, H0, (Mo.rf _)⟩
  · replace hf := ifp c2 hf
    refine aw_iconst (v := (-1)) (pc' := 10) dX12_feed_9 rfl ic_m1 ?_
    obtain ⟨rfl, rfl⟩ := so2 hf
    exact aw_ri dX12_feed_10 rfl rfl (Nat.le_of_ble_eq_true rfl) (Nat.le_of_ble_eq_true rfl) ⟨rfl, H0, (Mo.rf _)⟩
/-! ThirtyThreeBelowModel.look -/
noncomputable def f_X12_look (s0 : SS)  : Option Int32 := (if (zS s0 59 47) < (zS s0 59 37) then (vl ((zS s0 59 47)) fun v2 => (gd (inB v2 160) (some (zI s0 86 (v2.toInt.toNat))))) else some (-1))
set_option maxRecDepth 4000 in
theorem t_X12_look {r9 : Int32} {s0 : SS} {h0 : List aE}  (H0 : HH s0 h0) (hf : f_X12_look s0 = some r9) : AM mX12_look (0) [.ref 67] h0 0 0 (PI fun r' h' => r9 = r' ∧ h0 = h') := by
  unfold f_X12_look at hf
  refine am_of (lv := [some (.ref 67)]) rfl (Nat.le_of_ble_eq_true rfl) rfl ?_
  refine aw_aload_n (pc' := 1) dX12_look_0 rfl rfl rfl ?_
  refine aw_gi (q := 59) (pc' := 4) H0 (H0.fo rfl rfl) (l13 rfl) rfl dX12_look_1 rfl fl_RX12_319 ?_
  refine aw_aload_n (pc' := 5) dX12_look_4 rfl rfl rfl ?_
  refine aw_gi (q := 59) (pc' := 8) H0 (H0.fo rfl rfl) (l13 rfl) rfl dX12_look_5 rfl fl_RX12_316 ?_
  refine aw_cge (tgt := 23) (pc' := 11) dX12_look_8 rfl rfl (fun c1 => ?_) (fun c1 => ?_)
  · replace hf := ifn c1 hf
    refine aw_iconst (v := (-1)) (pc' := 24) dX12_look_23 rfl ic_m1 ?_
    obtain rfl := Option.some.inj hf
    exact aw_ri dX12_look_24 rfl rfl (Nat.le_of_ble_eq_true rfl) (Nat.le_of_ble_eq_true rfl) ⟨rfl, rfl⟩
  · replace hf := ifp c1 hf
    refine aw_aload_n (pc' := 12) dX12_look_11 rfl rfl rfl ?_
    refine aw_gr (q := 59) (e := 55) (v := .ref 94) (pc' := 15) H0 (H0.fo rfl rfl) (l13 rfl) rfl rfl dX12_look_12 rfl fl_RX12_96 ?_
    refine aw_aload_n (pc' := 16) dX12_look_15 rfl rfl rfl ?_
    refine aw_gi (q := 59) (pc' := 19) H0 (H0.fo rfl rfl) (l13 rfl) rfl dX12_look_16 rfl fl_RX12_319 ?_
    obtain ⟨v2, ev2, hf⟩ := vl_e hf
    refine aw_topi ev2 ?_
    obtain ⟨g3, hf⟩ := gd_e hf
    refine aw_ba (q := 86) (pc' := 20) H0 (H0.fa rfl rfl rfl) g3 dX12_look_19 rfl ?_
    refine aw_goto (tgt := 24) dX12_look_20 rfl ?_
    obtain rfl := Option.some.inj hf
    exact aw_ri dX12_look_24 rfl rfl (Nat.le_of_ble_eq_true rfl) (Nat.le_of_ble_eq_true rfl) ⟨rfl, rfl⟩
/-! ThirtyThreeBelowModel.faultHere -/
noncomputable def f_X12_faultHere (s0 : SS)  : Option SS := (if (zS s0 59 48) < (0 : Int32) then (vl ((zS s0 59 47)) fun v2 => (st (pS s0 59 48 v2) fun s3 => some s3)) else some s0)
set_option maxRecDepth 4000 in
theorem t_X12_faultHere {s0 s9 : SS} {h0 : List aE}  (H0 : HH s0 h0) (hf : f_X12_faultHere s0 = some s9) : AM mX12_faultHere (0) [.ref 67] h0 0 0 (PV fun h' => HH s9 h' ∧ Mo s0 s9) := by
  unfold f_X12_faultHere at hf
  refine am_of (lv := [some (.ref 67)]) rfl (Nat.le_of_ble_eq_true rfl) rfl ?_
  refine aw_aload_n (pc' := 1) dX12_faultHere_0 rfl rfl rfl ?_
  refine aw_gi (q := 59) (pc' := 4) H0 (H0.fo rfl rfl) (l13 rfl) rfl dX12_faultHere_1 rfl fl_RX12_322 ?_
  refine aw_zge (tgt := 15) (pc' := 7) dX12_faultHere_4 rfl rfl (fun c1 => ?_) (fun c1 => ?_)
  · replace hf := ifn c1 hf
    obtain rfl := Option.some.inj hf
    exact aw_rv dX12_faultHere_15 rfl (Nat.le_of_ble_eq_true rfl) (Nat.le_of_ble_eq_true rfl) ⟨H0, (Mo.rf _)⟩
  · replace hf := ifp c1 hf
    refine aw_aload_n (pc' := 8) dX12_faultHere_7 rfl rfl rfl ?_
    refine aw_aload_n (pc' := 9) dX12_faultHere_8 rfl rfl rfl ?_
    refine aw_gi (q := 59) (pc' := 12) H0 (H0.fo rfl rfl) (l13 rfl) rfl dX12_faultHere_9 rfl fl_RX12_319 ?_
    obtain ⟨v2, ev2, hf⟩ := vl_e hf
    refine aw_topi ev2 ?_
    obtain ⟨s3, es3, hf⟩ := st_e hf
    refine aw_pi (q := 59) (pc' := 15) es3 H0 (H0.fo rfl rfl) (by decide) rfl dX12_faultHere_12 rfl fl_RX12_322 rfl (fun h3 H3 => ?_)
    have m3 := Mo.ofS es3
    obtain rfl := Option.some.inj hf
    exact aw_rv dX12_faultHere_15 rfl (Nat.le_of_ble_eq_true rfl) (Nat.le_of_ble_eq_true rfl) ⟨H3, m3⟩
/-! ThirtyThreeBelowModel.lay -/
noncomputable def f_X12_lay (s0 : SS) (a0 : Int32) (a1 : Int32) : Option SS := (vl ((((170 : Int32) * (zS s0 59 50)) + (zS s0 59 51))) fun v1 => (gd (inB v1 2890) (st (pI s0 93 (v1.toInt.toNat) a0) fun s3 => (vl ((((170 : Int32) * (zS s3 59 50)) + (zS s3 59 51))) fun v4 => (gd (inB v4 2890) (st (pI s3 94 (v4.toInt.toNat) a1) fun s6 => (vl (((zS s6 59 51) + (1 : Int32))) fun v7 => (st (pS s6 59 51 v7) fun s8 => some s8))))))))
set_option maxRecDepth 4000 in
theorem t_X12_lay {s0 s9 : SS} {h0 : List aE} {a0 : Int32} {a1 : Int32} (H0 : HH s0 h0) (hf : f_X12_lay s0 a0 a1 = some s9) : AM mX12_lay (0) [.ref 67, .int a0, .int a1] h0 0 0 (PV fun h' => HH s9 h' ∧ Mo s0 s9) := by
  unfold f_X12_lay at hf
  refine am_of (lv := [some (.ref 67), some (.int a0), some (.int a1)]) rfl (Nat.le_of_ble_eq_true rfl) rfl ?_
  refine aw_aload_n (pc' := 1) dX12_lay_0 rfl rfl rfl ?_
  refine aw_gr (q := 59) (e := 69) (v := .ref 101) (pc' := 4) H0 (H0.fo rfl rfl) (l13 rfl) rfl rfl dX12_lay_1 rfl fl_RX12_118 ?_
  refine aw_sipush (v := 170) (pc' := 7) dX12_lay_4 rfl sp_170 ?_
  refine aw_aload_n (pc' := 8) dX12_lay_7 rfl rfl rfl ?_
  refine aw_gi (q := 59) (pc' := 11) H0 (H0.fo rfl rfl) (l13 rfl) rfl dX12_lay_8 rfl fl_RX12_325 ?_
  refine aw_imul (pc' := 12) dX12_lay_11 rfl ?_
  refine aw_aload_n (pc' := 13) dX12_lay_12 rfl rfl rfl ?_
  refine aw_gi (q := 59) (pc' := 16) H0 (H0.fo rfl rfl) (l13 rfl) rfl dX12_lay_13 rfl fl_RX12_328 ?_
  refine aw_iadd (pc' := 17) dX12_lay_16 rfl ?_
  refine aw_iload_n (pc' := 18) dX12_lay_17 rfl rfl ?_
  obtain ⟨v1, ev1, hf⟩ := vl_e hf
  refine aw_sndi ev1 ?_
  obtain ⟨g2, hf⟩ := gd_e hf
  obtain ⟨s3, es3, hf⟩ := st_e hf
  refine aw_is (q := 93) (pc' := 19) es3 H0 (H0.fa rfl rfl rfl) g2 dX12_lay_18 rfl (fun h3 H3 => ?_)
  have m3 := Mo.ofI es3
  refine aw_aload_n (pc' := 20) dX12_lay_19 rfl rfl rfl ?_
  refine aw_gr (q := 59) (e := 71) (v := .ref 102) (pc' := 23) H3 (H3.fo rfl rfl) (l13 rfl) rfl rfl dX12_lay_20 rfl fl_RX12_121 ?_
  refine aw_sipush (v := 170) (pc' := 26) dX12_lay_23 rfl sp_170 ?_
  refine aw_aload_n (pc' := 27) dX12_lay_26 rfl rfl rfl ?_
  refine aw_gi (q := 59) (pc' := 30) H3 (H3.fo rfl rfl) (l13 rfl) rfl dX12_lay_27 rfl fl_RX12_325 ?_
  refine aw_imul (pc' := 31) dX12_lay_30 rfl ?_
  refine aw_aload_n (pc' := 32) dX12_lay_31 rfl rfl rfl ?_
  refine aw_gi (q := 59) (pc' := 35) H3 (H3.fo rfl rfl) (l13 rfl) rfl dX12_lay_32 rfl fl_RX12_328 ?_
  refine aw_iadd (pc' := 36) dX12_lay_35 rfl ?_
  refine aw_iload_n (pc' := 37) dX12_lay_36 rfl rfl ?_
  obtain ⟨v4, ev4, hf⟩ := vl_e hf
  refine aw_sndi ev4 ?_
  obtain ⟨g5, hf⟩ := gd_e hf
  obtain ⟨s6, es6, hf⟩ := st_e hf
  refine aw_is (q := 94) (pc' := 38) es6 H3 (H3.fa rfl rfl rfl) g5 dX12_lay_37 rfl (fun h6 H6 => ?_)
  have m6 := Mo.ofI es6
  refine aw_aload_n (pc' := 39) dX12_lay_38 rfl rfl rfl ?_
  refine aw_dup (pc' := 40) dX12_lay_39 rfl rfl ?_
  refine aw_gi (q := 59) (pc' := 43) H6 (H6.fo rfl rfl) (l13 rfl) rfl dX12_lay_40 rfl fl_RX12_328 ?_
  refine aw_iconst (v := 1) (pc' := 44) dX12_lay_43 rfl ic_1 ?_
  refine aw_iadd (pc' := 45) dX12_lay_44 rfl ?_
  obtain ⟨v7, ev7, hf⟩ := vl_e hf
  refine aw_topi ev7 ?_
  obtain ⟨s8, es8, hf⟩ := st_e hf
  refine aw_pi (q := 59) (pc' := 48) es8 H6 (H6.fo rfl rfl) (by decide) rfl dX12_lay_45 rfl fl_RX12_328 rfl (fun h8 H8 => ?_)
  have m8 := Mo.ofS es8
  obtain rfl := Option.some.inj hf
  exact aw_rv dX12_lay_48 rfl (Nat.le_of_ble_eq_true rfl) (Nat.le_of_ble_eq_true rfl) ⟨H8, ((m3.tr m6).tr m8)⟩
/-! ThirtyThreeBelowModel.opens -/
noncomputable def f_X12_opens (s0 : SS)  : Option (Int32 × SS) := (if (zS s0 59 49) = (8 : Int32) then (b1 (f_X12_faultHere s0) fun s6 => some (0, s6)) else (vl (((zS s0 59 49) + (1 : Int32))) fun v2 => (st (pS s0 59 49 v2) fun s3 => (vl (((zS s3 59 47) + (1 : Int32))) fun v4 => (st (pS s3 59 47 v4) fun s5 => some (1, s5))))))
set_option maxRecDepth 4000 in
theorem t_X12_opens {r9 : Int32} {s0 s9 : SS} {h0 : List aE}  (H0 : HH s0 h0) (hf : f_X12_opens s0 = some (r9, s9)) : AM mX12_opens (1) [.ref 67] h0 0 0 (PI fun r' h' => r9 = r' ∧ HH s9 h' ∧ Mo s0 s9 ∧ (r9 = 0 ∨ r9 = 1)) := by
  unfold f_X12_opens at hf
  refine am_of (lv := [some (.ref 67)]) rfl (Nat.le_of_ble_eq_true rfl) rfl ?_
  refine aw_aload_n (pc' := 1) dX12_opens_0 rfl rfl rfl ?_
  refine aw_gi (q := 59) (pc' := 4) H0 (H0.fo rfl rfl) (l13 rfl) rfl dX12_opens_1 rfl fl_RX12_331 ?_
  refine aw_bipush (v := 8) (pc' := 6) dX12_opens_4 rfl bp_8 ?_
  refine aw_icmp_ne (tgt := 15) (pc' := 9) dX12_opens_6 rfl rfl (fun c1 => ?_) (fun c1 => ?_)
  · replace hf := ifn c1 hf
    refine aw_aload_n (pc' := 16) dX12_opens_15 rfl rfl rfl ?_
    refine aw_dup (pc' := 17) dX12_opens_16 rfl rfl ?_
    refine aw_gi (q := 59) (pc' := 20) H0 (H0.fo rfl rfl) (l13 rfl) rfl dX12_opens_17 rfl fl_RX12_331 ?_
    refine aw_iconst (v := 1) (pc' := 21) dX12_opens_20 rfl ic_1 ?_
    refine aw_iadd (pc' := 22) dX12_opens_21 rfl ?_
    obtain ⟨v2, ev2, hf⟩ := vl_e hf
    refine aw_topi ev2 ?_
    obtain ⟨s3, es3, hf⟩ := st_e hf
    refine aw_pi (q := 59) (pc' := 25) es3 H0 (H0.fo rfl rfl) (by decide) rfl dX12_opens_22 rfl fl_RX12_331 rfl (fun h3 H3 => ?_)
    have m3 := Mo.ofS es3
    refine aw_aload_n (pc' := 26) dX12_opens_25 rfl rfl rfl ?_
    refine aw_dup (pc' := 27) dX12_opens_26 rfl rfl ?_
    refine aw_gi (q := 59) (pc' := 30) H3 (H3.fo rfl rfl) (l13 rfl) rfl dX12_opens_27 rfl fl_RX12_319 ?_
    refine aw_iconst (v := 1) (pc' := 31) dX12_opens_30 rfl ic_1 ?_
    refine aw_iadd (pc' := 32) dX12_opens_31 rfl ?_
    obtain ⟨v4, ev4, hf⟩ := vl_e hf
    refine aw_topi ev4 ?_
    obtain ⟨s5, es5, hf⟩ := st_e hf
    refine aw_pi (q := 59) (pc' := 35) es5 H3 (H3.fo rfl rfl) (by decide) rfl dX12_opens_32 rfl fl_RX12_319 rfl (fun h5 H5 => ?_)
    have m5 := Mo.ofS es5
    refine aw_iconst (v := 1) (pc' := 36) dX12_opens_35 rfl ic_1 ?_
    obtain ⟨rfl, rfl⟩ := so2 hf
    exact aw_ri dX12_opens_36 rfl (by decide) (Nat.le_of_ble_eq_true rfl) (Nat.le_of_ble_eq_true rfl) ⟨rfl, H5, (m3.tr m5), Or.inr rfl⟩
  · replace hf := ifp c1 hf
    refine aw_aload_n (pc' := 10) dX12_opens_9 rfl rfl rfl ?_
    obtain ⟨s6, ec6, hf⟩ := b1_e hf
    refine aw_callVv (M' := mX12_faultHere) (nc' := 0) (ns' := 0) (pc' := 13) dX12_opens_10 rfl ml_RX12_334 kX12_faultHere (t_X12_faultHere H0 ec6) (H0.ob (H0.fo rfl rfl) (by decide)) rfl rfl rfl (Nat.le_of_ble_eq_true rfl) (rokD (by omega) (Nat.le_of_ble_eq_true rfl) (Nat.le_of_ble_eq_true rfl) (Nat.le_of_ble_eq_true rfl)) rfl rfl (fun h6 q6 => ?_)
    obtain ⟨H6, m6⟩ := q6
    refine aw_iconst (v := 0) (pc' := 14) dX12_opens_13 rfl ic_0 ?_
    obtain ⟨rfl, rfl⟩ := so2 hf
    exact aw_ri dX12_opens_14 rfl (by decide) (Nat.le_of_ble_eq_true rfl) (Nat.le_of_ble_eq_true rfl) ⟨rfl, H6, m6, Or.inl rfl⟩
/-! ThirtyThreeBelowModel.nameOf -/
noncomputable def f_X12_nameOf (a0 : Int32) : Option Int32 := (if a0 = 100 then some 1 else (if a0 = 101 then some (-1) else (if a0 = 102 then some 6 else (if a0 = 103 then some (-1) else (if a0 = 104 then some 0 else (if a0 = 105 then some 4 else (if a0 = 106 then some (-1) else (if a0 = 107 then some 3 else (if a0 = 108 then some (-1) else (if a0 = 109 then some (-1) else (if a0 = 110 then some 5 else (if a0 = 111 then some (-1) else (if a0 = 112 then some (-1) else (if a0 = 113 then some (-1) else (if a0 = 114 then some (-1) else (if a0 = 115 then some 2 else (if a0 = 116 then some 7 else some (-1))))))))))))))))))
set_option maxRecDepth 4000 in
theorem t_X12_nameOf {r9 : Int32} {h0 : List aE} {a0 : Int32}  (hf : f_X12_nameOf a0 = some r9) : AM mX12_nameOf (0) [.int a0] h0 0 0 (PI fun r' h' => r9 = r' ∧ h0 = h') := by
  unfold f_X12_nameOf at hf
  refine am_of (lv := [some (.int a0)]) rfl (Nat.le_of_ble_eq_true rfl) rfl ?_
  refine aw_iload_n (pc' := 1) dX12_nameOf_0 rfl rfl ?_
  rcases Decidable.em (a0 = 100) with c1 | c1
  · replace hf := ifp c1 hf
    refine aw_tabIn (tgt := 86) (off := 85) dX12_nameOf_1 (by rw [c1]; decide) (by rw [c1]; decide) (by rw [c1]; decide) (by decide) ?_
    refine aw_iconst (v := 1) (pc' := 87) dX12_nameOf_86 rfl ic_1 ?_
    obtain rfl := Option.some.inj hf
    exact aw_ri dX12_nameOf_87 rfl rfl (Nat.le_of_ble_eq_true rfl) (Nat.le_of_ble_eq_true rfl) ⟨rfl, rfl⟩
  replace hf := ifn c1 hf
  rcases Decidable.em (a0 = 101) with c2 | c2
  · replace hf := ifp c2 hf
    refine aw_tabIn (tgt := 102) (off := 101) dX12_nameOf_1 (by rw [c2]; decide) (by rw [c2]; decide) (by rw [c2]; decide) (by decide) ?_
    refine aw_iconst (v := (-1)) (pc' := 103) dX12_nameOf_102 rfl ic_m1 ?_
    obtain rfl := Option.some.inj hf
    exact aw_ri dX12_nameOf_103 rfl rfl (Nat.le_of_ble_eq_true rfl) (Nat.le_of_ble_eq_true rfl) ⟨rfl, rfl⟩
  replace hf := ifn c2 hf
  rcases Decidable.em (a0 = 102) with c3 | c3
  · replace hf := ifp c3 hf
    refine aw_tabIn (tgt := 96) (off := 95) dX12_nameOf_1 (by rw [c3]; decide) (by rw [c3]; decide) (by rw [c3]; decide) (by decide) ?_
    refine aw_bipush (v := 6) (pc' := 98) dX12_nameOf_96 rfl bp_6 ?_
    obtain rfl := Option.some.inj hf
    exact aw_ri dX12_nameOf_98 rfl rfl (Nat.le_of_ble_eq_true rfl) (Nat.le_of_ble_eq_true rfl) ⟨rfl, rfl⟩
  replace hf := ifn c3 hf
  rcases Decidable.em (a0 = 103) with c4 | c4
  · replace hf := ifp c4 hf
    refine aw_tabIn (tgt := 102) (off := 101) dX12_nameOf_1 (by rw [c4]; decide) (by rw [c4]; decide) (by rw [c4]; decide) (by decide) ?_
    refine aw_iconst (v := (-1)) (pc' := 103) dX12_nameOf_102 rfl ic_m1 ?_
    obtain rfl := Option.some.inj hf
    exact aw_ri dX12_nameOf_103 rfl rfl (Nat.le_of_ble_eq_true rfl) (Nat.le_of_ble_eq_true rfl) ⟨rfl, rfl⟩
  replace hf := ifn c4 hf
  rcases Decidable.em (a0 = 104) with c5 | c5
  · replace hf := ifp c5 hf
    refine aw_tabIn (tgt := 84) (off := 83) dX12_nameOf_1 (by rw [c5]; decide) (by rw [c5]; decide) (by rw [c5]; decide) (by decide) ?_
    refine aw_iconst (v := 0) (pc' := 85) dX12_nameOf_84 rfl ic_0 ?_
    obtain rfl := Option.some.inj hf
    exact aw_ri dX12_nameOf_85 rfl rfl (Nat.le_of_ble_eq_true rfl) (Nat.le_of_ble_eq_true rfl) ⟨rfl, rfl⟩
  replace hf := ifn c5 hf
  rcases Decidable.em (a0 = 105) with c6 | c6
  · replace hf := ifp c6 hf
    refine aw_tabIn (tgt := 92) (off := 91) dX12_nameOf_1 (by rw [c6]; decide) (by rw [c6]; decide) (by rw [c6]; decide) (by decide) ?_
    refine aw_iconst (v := 4) (pc' := 93) dX12_nameOf_92 rfl ic_4 ?_
    obtain rfl := Option.some.inj hf
    exact aw_ri dX12_nameOf_93 rfl rfl (Nat.le_of_ble_eq_true rfl) (Nat.le_of_ble_eq_true rfl) ⟨rfl, rfl⟩
  replace hf := ifn c6 hf
  rcases Decidable.em (a0 = 106) with c7 | c7
  · replace hf := ifp c7 hf
    refine aw_tabIn (tgt := 102) (off := 101) dX12_nameOf_1 (by rw [c7]; decide) (by rw [c7]; decide) (by rw [c7]; decide) (by decide) ?_
    refine aw_iconst (v := (-1)) (pc' := 103) dX12_nameOf_102 rfl ic_m1 ?_
    obtain rfl := Option.some.inj hf
    exact aw_ri dX12_nameOf_103 rfl rfl (Nat.le_of_ble_eq_true rfl) (Nat.le_of_ble_eq_true rfl) ⟨rfl, rfl⟩
  replace hf := ifn c7 hf
  rcases Decidable.em (a0 = 107) with c8 | c8
  · replace hf := ifp c8 hf
    refine aw_tabIn (tgt := 90) (off := 89) dX12_nameOf_1 (by rw [c8]; decide) (by rw [c8]; decide) (by rw [c8]; decide) (by decide) ?_
    refine aw_iconst (v := 3) (pc' := 91) dX12_nameOf_90 rfl ic_3 ?_
    obtain rfl := Option.some.inj hf
    exact aw_ri dX12_nameOf_91 rfl rfl (Nat.le_of_ble_eq_true rfl) (Nat.le_of_ble_eq_true rfl) ⟨rfl, rfl⟩
  replace hf := ifn c8 hf
  rcases Decidable.em (a0 = 108) with c10 | c10
  · replace hf := ifp c10 hf
    refine aw_tabIn (tgt := 102) (off := 101) dX12_nameOf_1 (by rw [c10]; decide) (by rw [c10]; decide) (by rw [c10]; decide) (by decide) ?_
    refine aw_iconst (v := (-1)) (pc' := 103) dX12_nameOf_102 rfl ic_m1 ?_
    obtain rfl := Option.some.inj hf
    exact aw_ri dX12_nameOf_103 rfl rfl (Nat.le_of_ble_eq_true rfl) (Nat.le_of_ble_eq_true rfl) ⟨rfl, rfl⟩
  replace hf := ifn c10 hf
  rcases Decidable.em (a0 = 109) with c11 | c11
  · replace hf := ifp c11 hf
    refine aw_tabIn (tgt := 102) (off := 101) dX12_nameOf_1 (by rw [c11]; decide) (by rw [c11]; decide) (by rw [c11]; decide) (by decide) ?_
    refine aw_iconst (v := (-1)) (pc' := 103) dX12_nameOf_102 rfl ic_m1 ?_
    obtain rfl := Option.some.inj hf
    exact aw_ri dX12_nameOf_103 rfl rfl (Nat.le_of_ble_eq_true rfl) (Nat.le_of_ble_eq_true rfl) ⟨rfl, rfl⟩
  replace hf := ifn c11 hf
  rcases Decidable.em (a0 = 110) with c12 | c12
  · replace hf := ifp c12 hf
    refine aw_tabIn (tgt := 94) (off := 93) dX12_nameOf_1 (by rw [c12]; decide) (by rw [c12]; decide) (by rw [c12]; decide) (by decide) ?_
    refine aw_iconst (v := 5) (pc' := 95) dX12_nameOf_94 rfl ic_5 ?_
    obtain rfl := Option.some.inj hf
    exact aw_ri dX12_nameOf_95 rfl rfl (Nat.le_of_ble_eq_true rfl) (Nat.le_of_ble_eq_true rfl) ⟨rfl, rfl⟩
  replace hf := ifn c12 hf
  rcases Decidable.em (a0 = 111) with c13 | c13
  · replace hf := ifp c13 hf
    refine aw_tabIn (tgt := 102) (off := 101) dX12_nameOf_1 (by rw [c13]; decide) (by rw [c13]; decide) (by rw [c13]; decide) (by decide) ?_
    refine aw_iconst (v := (-1)) (pc' := 103) dX12_nameOf_102 rfl ic_m1 ?_
    obtain rfl := Option.some.inj hf
    exact aw_ri dX12_nameOf_103 rfl rfl (Nat.le_of_ble_eq_true rfl) (Nat.le_of_ble_eq_true rfl) ⟨rfl, rfl⟩
  replace hf := ifn c13 hf
  rcases Decidable.em (a0 = 112) with c14 | c14
  · replace hf := ifp c14 hf
    refine aw_tabIn (tgt := 102) (off := 101) dX12_nameOf_1 (by rw [c14]; decide) (by rw [c14]; decide) (by rw [c14]; decide) (by decide) ?_
    refine aw_iconst (v := (-1)) (pc' := 103) dX12_nameOf_102 rfl ic_m1 ?_
    obtain rfl := Option.some.inj hf
    exact aw_ri dX12_nameOf_103 rfl rfl (Nat.le_of_ble_eq_true rfl) (Nat.le_of_ble_eq_true rfl) ⟨rfl, rfl⟩
  replace hf := ifn c14 hf
  rcases Decidable.em (a0 = 113) with c15 | c15
  · replace hf := ifp c15 hf
    refine aw_tabIn (tgt := 102) (off := 101) dX12_nameOf_1 (by rw [c15]; decide) (by rw [c15]; decide) (by rw [c15]; decide) (by decide) ?_
    refine aw_iconst (v := (-1)) (pc' := 103) dX12_nameOf_102 rfl ic_m1 ?_
    obtain rfl := Option.some.inj hf
    exact aw_ri dX12_nameOf_103 rfl rfl (Nat.le_of_ble_eq_true rfl) (Nat.le_of_ble_eq_true rfl) ⟨rfl, rfl⟩
  replace hf := ifn c15 hf
  rcases Decidable.em (a0 = 114) with c16 | c16
  · replace hf := ifp c16 hf
    refine aw_tabIn (tgt := 102) (off := 101) dX12_nameOf_1 (by rw [c16]; decide) (by rw [c16]; decide) (by rw [c16]; decide) (by decide) ?_
    refine aw_iconst (v := (-1)) (pc' := 103) dX12_nameOf_102 rfl ic_m1 ?_
    obtain rfl := Option.some.inj hf
    exact aw_ri dX12_nameOf_103 rfl rfl (Nat.le_of_ble_eq_true rfl) (Nat.le_of_ble_eq_true rfl) ⟨rfl, rfl⟩
  replace hf := ifn c16 hf
  rcases Decidable.em (a0 = 115) with c17 | c17
  · replace hf := ifp c17 hf
    refine aw_tabIn (tgt := 88) (off := 87) dX12_nameOf_1 (by rw [c17]; decide) (by rw [c17]; decide) (by rw [c17]; decide) (by decide) ?_
    refine aw_iconst (v := 2) (pc' := 89) dX12_nameOf_88 rfl ic_2 ?_
    obtain rfl := Option.some.inj hf
    exact aw_ri dX12_nameOf_89 rfl rfl (Nat.le_of_ble_eq_true rfl) (Nat.le_of_ble_eq_true rfl) ⟨rfl, rfl⟩
  replace hf := ifn c17 hf
  rcases Decidable.em (a0 = 116) with c18 | c18
  · replace hf := ifp c18 hf
    refine aw_tabIn (tgt := 99) (off := 98) dX12_nameOf_1 (by rw [c18]; decide) (by rw [c18]; decide) (by rw [c18]; decide) (by decide) ?_
    refine aw_bipush (v := 7) (pc' := 101) dX12_nameOf_99 rfl bp_7 ?_
    obtain rfl := Option.some.inj hf
    exact aw_ri dX12_nameOf_101 rfl rfl (Nat.le_of_ble_eq_true rfl) (Nat.le_of_ble_eq_true rfl) ⟨rfl, rfl⟩
  replace hf := ifn c18 hf
  refine aw_tabOut (tgt := 102) dX12_nameOf_1 (by have a0 := tneK (K := 100) (by decide) c1; have a1 := tneK (K := 101) (by decide) c2; have a2 := tneK (K := 102) (by decide) c3; have a3 := tneK (K := 103) (by decide) c4; have a4 := tneK (K := 104) (by decide) c5; have a5 := tneK (K := 105) (by decide) c6; have a6 := tneK (K := 106) (by decide) c7; have a7 := tneK (K := 107) (by decide) c8; have a8 := tneK (K := 108) (by decide) c10; have a9 := tneK (K := 109) (by decide) c11; have a10 := tneK (K := 110) (by decide) c12; have a11 := tneK (K := 111) (by decide) c13; have a12 := tneK (K := 112) (by decide) c14; have a13 := tneK (K := 113) (by decide) c15; have a14 := tneK (K := 114) (by decide) c16; have a15 := tneK (K := 115) (by decide) c17; have a16 := tneK (K := 116) (by decide) c18; omega) (by decide) ?_
  refine aw_iconst (v := (-1)) (pc' := 103) dX12_nameOf_102 rfl ic_m1 ?_
  obtain rfl := Option.some.inj hf
  exact aw_ri dX12_nameOf_103 rfl rfl (Nat.le_of_ble_eq_true rfl) (Nat.le_of_ble_eq_true rfl) ⟨rfl, rfl⟩
/-! ThirtyThreeBelowModel.product -/
noncomputable def f_X12_product_L4_b (rec : SS → Option SS) (rc : SS → Option SS) (s : SS) : Option SS := (if (zS s 59 48) < (0 : Int32) then (b1 (f_X12_look s) fun r3 => (jn ((b1 (f_X12_look s) fun r5 => (vl (((zS s 59 47) + (1 : Int32))) fun v6 => (st (pS s 59 47 v6) fun s7 => (b1 (rec s7) fun s8 => (b1 (f_X12_lay s8 r5 0) fun s10 => (rc s10))))))) fun k4 => (if r3 = (42 : Int32) then k4 else (b1 (f_X12_look s) fun r12 => (if r12 = (47 : Int32) then k4 else (b1 (f_X12_look s) fun r14 => (if r14 = (37 : Int32) then k4 else some s))))))) else some s)
noncomputable def f_X12_product_L4 (rec : SS → Option SS) : Nat → SS → Option SS
  | 0, _ => none
  | n + 1, s => f_X12_product_L4_b rec (f_X12_product_L4 rec n) s
set_option maxRecDepth 4000 in
theorem t_X12_product_L4 {Dr : Nat} {rec : SS → Option SS} (hrec : ∀ {s0 s9 : SS} {h0 : List aE}, HH s0 h0 → rec s0  = some s9 → AM mX12_operand Dr [.ref 67] h0 0 0 (PV fun h' => HH s9 h' ∧ Mo s0 s9)) {s0 sb s9 : SS} (mb : Mo s0 sb)  : ∀ (n : Nat) (s : SS) (h : List aE), HH s h → Mo sb s → f_X12_product_L4 rec n s = some s9 → AW mX12_product (rmD (Dr + 1) 0 0) (fin (PV fun h' => HH s9 h' ∧ Mo s0 s9) 0 0) 4 [some (.ref 67), none] [] h 0 0 := by
  intro n
  induction n with
  | zero =>
    intro s h H ms hf
    cases hf
  | succ n ih =>
    intro s h H ms hf
    replace hf : f_X12_product_L4_b rec (f_X12_product_L4 rec n) s = some s9 := hf
    unfold f_X12_product_L4_b at hf
    refine aw_aload_n (pc' := 5) dX12_product_4 rfl rfl rfl ?_
    refine aw_gi (q := 59) (pc' := 8) H (H.fo rfl rfl) (by decide) rfl dX12_product_5 rfl fl_RX12_322 ?_
    refine aw_zge (tgt := 66) (pc' := 11) dX12_product_8 rfl rfl (fun c2 => ?_) (fun c2 => ?_)
    · replace hf := ifn c2 hf
      obtain rfl := Option.some.inj hf
      exact aw_rv dX12_product_66 rfl (Nat.le_of_ble_eq_true rfl) (Nat.le_of_ble_eq_true rfl) ⟨H, (mb.tr ms)⟩
    · replace hf := ifp c2 hf
      refine aw_aload_n (pc' := 12) dX12_product_11 rfl rfl rfl ?_
      obtain ⟨r3, ec3, hf⟩ := b1_e hf
      refine aw_callVi (M' := mX12_look) (nc' := 0) (ns' := 0) (pc' := 15) dX12_product_12 rfl ml_RX12_337 kX12_look (t_X12_look H ec3) (H.ob (H.fo rfl rfl) (by decide)) rfl rfl rfl (Nat.le_of_ble_eq_true rfl) (rokD (by omega) (Nat.le_of_ble_eq_true rfl) (Nat.le_of_ble_eq_true rfl) (Nat.le_of_ble_eq_true rfl)) rfl rfl (fun _ h3 q3 => ?_)
      obtain ⟨rfl, rfl⟩ := q3
      refine aw_bipush (v := 42) (pc' := 17) dX12_product_15 rfl bp_42 ?_
      obtain ⟨k4, ek4, hf⟩ := jn_e hf
      have hk4 : k4 = some s9 → AW mX12_product (rmD (Dr + 1) 0 0) (fin (PV fun h' => HH s9 h' ∧ Mo s0 s9) 0 0) 38 [some (.ref 67), none] [] h 0 0 := by
        intro hf
        subst ek4
        refine aw_aload_n (pc' := 39) dX12_product_38 rfl rfl rfl ?_
        obtain ⟨r5, ec5, hf⟩ := b1_e hf
        refine aw_callVi (M' := mX12_look) (nc' := 0) (ns' := 0) (pc' := 42) dX12_product_39 rfl ml_RX12_337 kX12_look (t_X12_look H ec5) (H.ob (H.fo rfl rfl) (by decide)) rfl rfl rfl (Nat.le_of_ble_eq_true rfl) (rokD (by omega) (Nat.le_of_ble_eq_true rfl) (Nat.le_of_ble_eq_true rfl) (Nat.le_of_ble_eq_true rfl)) rfl rfl (fun _ h5 q5 => ?_)
        obtain ⟨rfl, rfl⟩ := q5
        refine aw_istore_n (lv' := [_, _]) (pc' := 43) dX12_product_42 rfl (Nat.le_of_ble_eq_true rfl) rfl ?_
        refine aw_aload_n (pc' := 44) dX12_product_43 rfl rfl rfl ?_
        refine aw_dup (pc' := 45) dX12_product_44 rfl rfl ?_
        refine aw_gi (q := 59) (pc' := 48) H (H.fo rfl rfl) (by decide) rfl dX12_product_45 rfl fl_RX12_319 ?_
        refine aw_iconst (v := 1) (pc' := 49) dX12_product_48 rfl ic_1 ?_
        refine aw_iadd (pc' := 50) dX12_product_49 rfl ?_
        obtain ⟨v6, ev6, hf⟩ := vl_e hf
        refine aw_topi ev6 ?_
        obtain ⟨s7, es7, hf⟩ := st_e hf
        refine aw_pi (q := 59) (pc' := 53) es7 H (H.fo rfl rfl) (by decide) rfl dX12_product_50 rfl fl_RX12_319 rfl (fun h7 H7 => ?_)
        have m7 := Mo.ofS es7
        refine aw_aload_n (pc' := 54) dX12_product_53 rfl rfl rfl ?_
        obtain ⟨s8, ec8, hf⟩ := b1_e hf
        refine aw_callVv (M' := mX12_operand) (nc' := 0) (ns' := 0) (pc' := 57) dX12_product_54 rfl ml_RX12_352 kX12_operand (hrec H7 ec8) (H7.ob (H7.fo rfl rfl) (by decide)) rfl rfl rfl (Nat.le_of_ble_eq_true rfl) (rokD (by omega) (Nat.le_of_ble_eq_true rfl) (Nat.le_of_ble_eq_true rfl) (Nat.le_of_ble_eq_true rfl)) rfl rfl (fun h8 q8 => ?_)
        obtain ⟨H8, m8⟩ := q8
        refine aw_aload_n (pc' := 58) dX12_product_57 rfl rfl rfl ?_
        refine aw_iload_n (pc' := 59) dX12_product_58 rfl rfl ?_
        refine aw_iconst (v := 0) (pc' := 60) dX12_product_59 rfl ic_0 ?_
        obtain ⟨s10, ec10, hf⟩ := b1_e hf
        refine aw_callVv (M' := mX12_lay) (nc' := 0) (ns' := 0) (pc' := 63) dX12_product_60 rfl ml_RX12_344 kX12_lay (t_X12_lay H8 ec10) (H8.ob (H8.fo rfl rfl) (by decide)) rfl rfl rfl (Nat.le_of_ble_eq_true rfl) (rokD (by omega) (Nat.le_of_ble_eq_true rfl) (Nat.le_of_ble_eq_true rfl) (Nat.le_of_ble_eq_true rfl)) rfl rfl (fun h10 q10 => ?_)
        obtain ⟨H10, m10⟩ := q10
        refine aw_goto (tgt := 4) dX12_product_63 rfl ?_
        refine AW.lv_le (lz_k (lz_d lz_0)) ?_
        exact ih _ _ H10 (((ms.tr m7).tr m8).tr m10) hf
      clear ek4
      refine aw_icmp_eq (tgt := 38) (pc' := 20) dX12_product_17 rfl rfl (fun c11 => ?_) (fun c11 => ?_)
      · replace hf := ifp c11 hf
        exact hk4  hf
      · replace hf := ifn c11 hf
        refine aw_aload_n (pc' := 21) dX12_product_20 rfl rfl rfl ?_
        obtain ⟨r12, ec12, hf⟩ := b1_e hf
        refine aw_callVi (M' := mX12_look) (nc' := 0) (ns' := 0) (pc' := 24) dX12_product_21 rfl ml_RX12_337 kX12_look (t_X12_look H ec12) (H.ob (H.fo rfl rfl) (by decide)) rfl rfl rfl (Nat.le_of_ble_eq_true rfl) (rokD (by omega) (Nat.le_of_ble_eq_true rfl) (Nat.le_of_ble_eq_true rfl) (Nat.le_of_ble_eq_true rfl)) rfl rfl (fun _ h12 q12 => ?_)
        obtain ⟨rfl, rfl⟩ := q12
        refine aw_bipush (v := 47) (pc' := 26) dX12_product_24 rfl bp_47 ?_
        refine aw_icmp_eq (tgt := 38) (pc' := 29) dX12_product_26 rfl rfl (fun c13 => ?_) (fun c13 => ?_)
        · replace hf := ifp c13 hf
          exact hk4  hf
        · replace hf := ifn c13 hf
          refine aw_aload_n (pc' := 30) dX12_product_29 rfl rfl rfl ?_
          obtain ⟨r14, ec14, hf⟩ := b1_e hf
          refine aw_callVi (M' := mX12_look) (nc' := 0) (ns' := 0) (pc' := 33) dX12_product_30 rfl ml_RX12_337 kX12_look (t_X12_look H ec14) (H.ob (H.fo rfl rfl) (by decide)) rfl rfl rfl (Nat.le_of_ble_eq_true rfl) (rokD (by omega) (Nat.le_of_ble_eq_true rfl) (Nat.le_of_ble_eq_true rfl) (Nat.le_of_ble_eq_true rfl)) rfl rfl (fun _ h14 q14 => ?_)
          obtain ⟨rfl, rfl⟩ := q14
          refine aw_bipush (v := 37) (pc' := 35) dX12_product_33 rfl bp_37 ?_
          refine aw_icmp_ne (tgt := 66) (pc' := 38) dX12_product_35 rfl rfl (fun c15 => ?_) (fun c15 => ?_)
          · replace hf := ifn c15 hf
            obtain rfl := Option.some.inj hf
            exact aw_rv dX12_product_66 rfl (Nat.le_of_ble_eq_true rfl) (Nat.le_of_ble_eq_true rfl) ⟨H, (mb.tr ms)⟩
          · replace hf := ifp c15 hf
            exact hk4  hf
noncomputable def f_X12_product (rec : SS → Option SS) (s0 : SS)  : Option SS := (b1 (rec s0) fun s1 => (f_X12_product_L4 rec 4000 s1))
set_option maxRecDepth 4000 in
theorem t_X12_product {Dr : Nat} {rec : SS → Option SS} (hrec : ∀ {s0 s9 : SS} {h0 : List aE}, HH s0 h0 → rec s0  = some s9 → AM mX12_operand Dr [.ref 67] h0 0 0 (PV fun h' => HH s9 h' ∧ Mo s0 s9)) {s0 s9 : SS} {h0 : List aE}  (H0 : HH s0 h0) (hf : f_X12_product rec s0 = some s9) : AM mX12_product (Dr + 1) [.ref 67] h0 0 0 (PV fun h' => HH s9 h' ∧ Mo s0 s9) := by
  unfold f_X12_product at hf
  refine am_of (lv := [some (.ref 67), none]) rfl (Nat.le_of_ble_eq_true rfl) rfl ?_
  refine aw_aload_n (pc' := 1) dX12_product_0 rfl rfl rfl ?_
  obtain ⟨s1, ec1, hf⟩ := b1_e hf
  refine aw_callVv (M' := mX12_operand) (nc' := 0) (ns' := 0) (pc' := 4) dX12_product_1 rfl ml_RX12_352 kX12_operand (hrec H0 ec1) (H0.ob (H0.fo rfl rfl) (by decide)) rfl rfl rfl (Nat.le_of_ble_eq_true rfl) (rokD (by omega) (Nat.le_of_ble_eq_true rfl) (Nat.le_of_ble_eq_true rfl) (Nat.le_of_ble_eq_true rfl)) rfl rfl (fun h1 q1 => ?_)
  obtain ⟨H1, m1⟩ := q1
  refine t_X12_product_L4 hrec m1  4000 _ _ H1 (Mo.rf _) hf
